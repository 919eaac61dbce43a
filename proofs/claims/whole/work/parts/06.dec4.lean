set_option maxRecDepth 20000 in
theorem ggX4_init_X4_clean : GoodIn wsX4_init wsX4_clean := goodIn_r _ [16, 17, 18, 15, 19] (by decide +kernel) (by decide +kernel)
set_option maxRecDepth 20000 in
theorem gX4_init_X4_clean : GoodIn wsX4_init (va_wsS RX4 32 yX4_clean wsX4_clean) := goodIn_app (goodIn_of _ (by decide +kernel)) ggX4_init_X4_clean
theorem dX4_init_0 : decode cX4_init 0 = .ok (.aload_n 0, 1) := by decide +kernel
theorem dX4_init_1 : decode cX4_init 1 = .ok (.invokespecial 1, 3) := by decide +kernel
theorem dX4_init_4 : decode cX4_init 4 = .ok (.aload_n 0, 1) := by decide +kernel
theorem dX4_init_5 : decode cX4_init 5 = .ok (.bipush 120, 2) := by decide +kernel
theorem dX4_init_7 : decode cX4_init 7 = .ok (.newarray .int, 2) := by decide +kernel
theorem dX4_init_9 : decode cX4_init 9 = .ok (.putfield 7, 3) := by decide +kernel
theorem dX4_init_12 : decode cX4_init 12 = .ok (.aload_n 0, 1) := by decide +kernel
theorem dX4_init_13 : decode cX4_init 13 = .ok (.sipush 233, 3) := by decide +kernel
theorem dX4_init_16 : decode cX4_init 16 = .ok (.newarray .int, 2) := by decide +kernel
theorem dX4_init_18 : decode cX4_init 18 = .ok (.putfield 13, 3) := by decide +kernel
theorem dX4_init_21 : decode cX4_init 21 = .ok (.aload_n 0, 1) := by decide +kernel
theorem dX4_init_22 : decode cX4_init 22 = .ok (.sipush 233, 3) := by decide +kernel
theorem dX4_init_25 : decode cX4_init 25 = .ok (.newarray .int, 2) := by decide +kernel
theorem dX4_init_27 : decode cX4_init 27 = .ok (.putfield 16, 3) := by decide +kernel
theorem dX4_init_30 : decode cX4_init 30 = .ok (.aload_n 0, 1) := by decide +kernel
theorem dX4_init_31 : decode cX4_init 31 = .ok (.sipush 233, 3) := by decide +kernel
theorem dX4_init_34 : decode cX4_init 34 = .ok (.newarray .int, 2) := by decide +kernel
theorem dX4_init_36 : decode cX4_init 36 = .ok (.putfield 19, 3) := by decide +kernel
theorem dX4_init_39 : decode cX4_init 39 = .ok (.aload_n 0, 1) := by decide +kernel
theorem dX4_init_40 : decode cX4_init 40 = .ok (.sipush 3262, 3) := by decide +kernel
theorem dX4_init_43 : decode cX4_init 43 = .ok (.newarray .int, 2) := by decide +kernel
theorem dX4_init_45 : decode cX4_init 45 = .ok (.putfield 22, 3) := by decide +kernel
theorem dX4_init_48 : decode cX4_init 48 = .ok (.aload_n 0, 1) := by decide +kernel
theorem dX4_init_49 : decode cX4_init 49 = .ok (.sipush 466, 3) := by decide +kernel
theorem dX4_init_52 : decode cX4_init 52 = .ok (.newarray .int, 2) := by decide +kernel
theorem dX4_init_54 : decode cX4_init 54 = .ok (.putfield 25, 3) := by decide +kernel
theorem dX4_init_57 : decode cX4_init 57 = .ok (.aload_n 0, 1) := by decide +kernel
theorem dX4_init_58 : decode cX4_init 58 = .ok (.iconst 2, 1) := by decide +kernel
theorem dX4_init_59 : decode cX4_init 59 = .ok (.newarray .boolean, 2) := by decide +kernel
theorem dX4_init_61 : decode cX4_init 61 = .ok (.putfield 28, 3) := by decide +kernel
theorem dX4_init_64 : decode cX4_init 64 = .ok (.aload_n 0, 1) := by decide +kernel
theorem dX4_init_65 : decode cX4_init 65 = .ok (.getfield 16, 3) := by decide +kernel
theorem dX4_init_68 : decode cX4_init 68 = .ok (.invokestatic 32, 3) := by decide +kernel
theorem dX4_init_71 : decode cX4_init 71 = .ok (.return_, 1) := by decide +kernel
theorem dX4_thrown_0 : decode cX4_thrown 0 = .ok (.aload_n 0, 1) := by decide +kernel
theorem dX4_thrown_1 : decode cX4_thrown 1 = .ok (.getfield 36, 3) := by decide +kernel
theorem dX4_thrown_4 : decode cX4_thrown 4 = .ok (.ireturn, 1) := by decide +kernel
theorem dX4_refused_0 : decode cX4_refused 0 = .ok (.aload_n 0, 1) := by decide +kernel
theorem dX4_refused_1 : decode cX4_refused 1 = .ok (.iload_n 1, 1) := by decide +kernel
theorem dX4_refused_2 : decode cX4_refused 2 = .ok (.putfield 36, 3) := by decide +kernel
theorem dX4_refused_5 : decode cX4_refused 5 = .ok (.iload_n 1, 1) := by decide +kernel
theorem dX4_refused_6 : decode cX4_refused 6 = .ok (.ifCond .le 7, 3) := by decide +kernel
theorem dX4_refused_9 : decode cX4_refused 9 = .ok (.iconst 1, 1) := by decide +kernel
theorem dX4_refused_10 : decode cX4_refused 10 = .ok (.goto 4, 3) := by decide +kernel
theorem dX4_refused_13 : decode cX4_refused 13 = .ok (.iconst 0, 1) := by decide +kernel
theorem dX4_refused_14 : decode cX4_refused 14 = .ok (.ireturn, 1) := by decide +kernel
theorem dX4_in_0 : decode cX4_in 0 = .ok (.lload_n 0, 1) := by decide +kernel
theorem dX4_in_1 : decode cX4_in 1 = .ok (.lload_n 2, 1) := by decide +kernel
theorem dX4_in_2 : decode cX4_in 2 = .ok (.lcmp, 1) := by decide +kernel
theorem dX4_in_3 : decode cX4_in 3 = .ok (.ifCond .lt 14, 3) := by decide +kernel
theorem dX4_in_6 : decode cX4_in 6 = .ok (.lload_n 0, 1) := by decide +kernel
theorem dX4_in_7 : decode cX4_in 7 = .ok (.lload 4, 2) := by decide +kernel
theorem dX4_in_9 : decode cX4_in 9 = .ok (.lcmp, 1) := by decide +kernel
theorem dX4_in_10 : decode cX4_in 10 = .ok (.ifCond .gt 7, 3) := by decide +kernel
theorem dX4_in_13 : decode cX4_in 13 = .ok (.iconst 1, 1) := by decide +kernel
theorem dX4_in_14 : decode cX4_in 14 = .ok (.goto 4, 3) := by decide +kernel
theorem dX4_in_17 : decode cX4_in 17 = .ok (.iconst 0, 1) := by decide +kernel
theorem dX4_in_18 : decode cX4_in 18 = .ok (.ireturn, 1) := by decide +kernel
theorem dX4_copy_0 : decode cX4_copy 0 = .ok (.iconst 0, 1) := by decide +kernel
theorem dX4_copy_1 : decode cX4_copy 1 = .ok (.istore 5, 2) := by decide +kernel
theorem dX4_copy_3 : decode cX4_copy 3 = .ok (.iload 5, 2) := by decide +kernel
theorem dX4_copy_5 : decode cX4_copy 5 = .ok (.iload 4, 2) := by decide +kernel
theorem dX4_copy_7 : decode cX4_copy 7 = .ok (.if_icmp .ge 21, 3) := by decide +kernel
theorem dX4_copy_10 : decode cX4_copy 10 = .ok (.aload_n 2, 1) := by decide +kernel
theorem dX4_copy_11 : decode cX4_copy 11 = .ok (.iload_n 3, 1) := by decide +kernel
theorem dX4_copy_12 : decode cX4_copy 12 = .ok (.iload 5, 2) := by decide +kernel
theorem dX4_copy_14 : decode cX4_copy 14 = .ok (.iadd, 1) := by decide +kernel
theorem dX4_copy_15 : decode cX4_copy 15 = .ok (.aload_n 0, 1) := by decide +kernel
theorem dX4_copy_16 : decode cX4_copy 16 = .ok (.iload_n 1, 1) := by decide +kernel
theorem dX4_copy_17 : decode cX4_copy 17 = .ok (.iload 5, 2) := by decide +kernel
theorem dX4_copy_19 : decode cX4_copy 19 = .ok (.iadd, 1) := by decide +kernel
theorem dX4_copy_20 : decode cX4_copy 20 = .ok (.iaload, 1) := by decide +kernel
theorem dX4_copy_21 : decode cX4_copy 21 = .ok (.iastore, 1) := by decide +kernel
theorem dX4_copy_22 : decode cX4_copy 22 = .ok (.iinc 5 1, 3) := by decide +kernel
theorem dX4_copy_25 : decode cX4_copy 25 = .ok (.goto (-22), 3) := by decide +kernel
theorem dX4_copy_28 : decode cX4_copy 28 = .ok (.return_, 1) := by decide +kernel
theorem dX4_tenTo_0 : decode cX4_tenTo 0 = .ok (.lconst 1, 1) := by decide +kernel
theorem dX4_tenTo_1 : decode cX4_tenTo 1 = .ok (.lstore_n 1, 1) := by decide +kernel
theorem dX4_tenTo_2 : decode cX4_tenTo 2 = .ok (.iconst 0, 1) := by decide +kernel
theorem dX4_tenTo_3 : decode cX4_tenTo 3 = .ok (.istore_n 3, 1) := by decide +kernel
theorem dX4_tenTo_4 : decode cX4_tenTo 4 = .ok (.iload_n 3, 1) := by decide +kernel
theorem dX4_tenTo_5 : decode cX4_tenTo 5 = .ok (.iload_n 0, 1) := by decide +kernel
theorem dX4_tenTo_6 : decode cX4_tenTo 6 = .ok (.if_icmp .ge 15, 3) := by decide +kernel
theorem dX4_tenTo_9 : decode cX4_tenTo 9 = .ok (.lload_n 1, 1) := by decide +kernel
theorem dX4_tenTo_10 : decode cX4_tenTo 10 = .ok (.ldc2_w 40, 3) := by decide +kernel
theorem dX4_tenTo_13 : decode cX4_tenTo 13 = .ok (.lmul, 1) := by decide +kernel
theorem dX4_tenTo_14 : decode cX4_tenTo 14 = .ok (.lstore_n 1, 1) := by decide +kernel
theorem dX4_tenTo_15 : decode cX4_tenTo 15 = .ok (.iinc 3 1, 3) := by decide +kernel
theorem dX4_tenTo_18 : decode cX4_tenTo 18 = .ok (.goto (-14), 3) := by decide +kernel
theorem dX4_tenTo_21 : decode cX4_tenTo 21 = .ok (.lload_n 1, 1) := by decide +kernel
theorem dX4_tenTo_22 : decode cX4_tenTo 22 = .ok (.lreturn, 1) := by decide +kernel
set_option maxRecDepth 20000 in
theorem ggX4_clean_X4_gateAt : GoodIn wsX4_clean wsX4_gateAt := goodIn_r _ [4] (by decide +kernel) (by decide +kernel)
set_option maxRecDepth 20000 in
theorem gX4_clean_X4_gateAt : GoodIn wsX4_clean (va_wsS RX4 42 yX4_gateAt wsX4_gateAt) := goodIn_app (goodIn_of _ (by decide +kernel)) ggX4_clean_X4_gateAt
theorem dX4_clean_0 : decode cX4_clean 0 = .ok (.iconst 0, 1) := by decide +kernel
theorem dX4_clean_1 : decode cX4_clean 1 = .ok (.istore_n 1, 1) := by decide +kernel
theorem dX4_clean_2 : decode cX4_clean 2 = .ok (.iload_n 1, 1) := by decide +kernel
theorem dX4_clean_3 : decode cX4_clean 3 = .ok (.sipush 233, 3) := by decide +kernel
theorem dX4_clean_6 : decode cX4_clean 6 = .ok (.if_icmp .ge 13, 3) := by decide +kernel
theorem dX4_clean_9 : decode cX4_clean 9 = .ok (.aload_n 0, 1) := by decide +kernel
theorem dX4_clean_10 : decode cX4_clean 10 = .ok (.iload_n 1, 1) := by decide +kernel
theorem dX4_clean_11 : decode cX4_clean 11 = .ok (.iconst 0, 1) := by decide +kernel
theorem dX4_clean_12 : decode cX4_clean 12 = .ok (.iastore, 1) := by decide +kernel
theorem dX4_clean_13 : decode cX4_clean 13 = .ok (.iinc 1 1, 3) := by decide +kernel
theorem dX4_clean_16 : decode cX4_clean 16 = .ok (.goto (-14), 3) := by decide +kernel
theorem dX4_clean_19 : decode cX4_clean 19 = .ok (.iconst 0, 1) := by decide +kernel
theorem dX4_clean_20 : decode cX4_clean 20 = .ok (.istore_n 1, 1) := by decide +kernel
theorem dX4_clean_21 : decode cX4_clean 21 = .ok (.iload_n 1, 1) := by decide +kernel
theorem dX4_clean_22 : decode cX4_clean 22 = .ok (.iconst 3, 1) := by decide +kernel
theorem dX4_clean_23 : decode cX4_clean 23 = .ok (.if_icmp .ge 18, 3) := by decide +kernel
theorem dX4_clean_26 : decode cX4_clean 26 = .ok (.aload_n 0, 1) := by decide +kernel
theorem dX4_clean_27 : decode cX4_clean 27 = .ok (.iload_n 1, 1) := by decide +kernel
theorem dX4_clean_28 : decode cX4_clean 28 = .ok (.iconst 0, 1) := by decide +kernel
theorem dX4_clean_29 : decode cX4_clean 29 = .ok (.invokestatic 42, 3) := by decide +kernel
theorem dX4_clean_32 : decode cX4_clean 32 = .ok (.bipush 7, 2) := by decide +kernel
theorem dX4_clean_34 : decode cX4_clean 34 = .ok (.iastore, 1) := by decide +kernel
theorem dX4_clean_35 : decode cX4_clean 35 = .ok (.iinc 1 1, 3) := by decide +kernel
theorem dX4_clean_38 : decode cX4_clean 38 = .ok (.goto (-17), 3) := by decide +kernel
theorem dX4_clean_41 : decode cX4_clean 41 = .ok (.aload_n 0, 1) := by decide +kernel
theorem dX4_clean_42 : decode cX4_clean 42 = .ok (.sipush 196, 3) := by decide +kernel
theorem dX4_clean_45 : decode cX4_clean 45 = .ok (.iconst 2, 1) := by decide +kernel
theorem dX4_clean_46 : decode cX4_clean 46 = .ok (.iastore, 1) := by decide +kernel
theorem dX4_clean_47 : decode cX4_clean 47 = .ok (.aload_n 0, 1) := by decide +kernel
theorem dX4_clean_48 : decode cX4_clean 48 = .ok (.sipush 197, 3) := by decide +kernel
theorem dX4_clean_51 : decode cX4_clean 51 = .ok (.iconst 1, 1) := by decide +kernel
theorem dX4_clean_52 : decode cX4_clean 52 = .ok (.iastore, 1) := by decide +kernel
theorem dX4_clean_53 : decode cX4_clean 53 = .ok (.return_, 1) := by decide +kernel
set_option maxRecDepth 20000 in
theorem ggX4_remember_X4_copy : GoodIn wsX4_remember wsX4_copy := goodIn_r _ [7] (by decide +kernel) (by decide +kernel)
set_option maxRecDepth 20000 in
theorem gX4_remember_X4_copy : GoodIn wsX4_remember (va_wsS RX4 49 yX4_copy wsX4_copy) := goodIn_app (goodIn_of _ (by decide +kernel)) ggX4_remember_X4_copy
theorem dX4_remember_0 : decode cX4_remember 0 = .ok (.aload_n 0, 1) := by decide +kernel
theorem dX4_remember_1 : decode cX4_remember 1 = .ok (.getfield 46, 3) := by decide +kernel
theorem dX4_remember_4 : decode cX4_remember 4 = .ok (.bipush 14, 2) := by decide +kernel
theorem dX4_remember_6 : decode cX4_remember 6 = .ok (.if_icmp .ne 31, 3) := by decide +kernel
theorem dX4_remember_9 : decode cX4_remember 9 = .ok (.aload_n 0, 1) := by decide +kernel
theorem dX4_remember_10 : decode cX4_remember 10 = .ok (.getfield 22, 3) := by decide +kernel
theorem dX4_remember_13 : decode cX4_remember 13 = .ok (.sipush 233, 3) := by decide +kernel
theorem dX4_remember_16 : decode cX4_remember 16 = .ok (.aload_n 0, 1) := by decide +kernel
theorem dX4_remember_17 : decode cX4_remember 17 = .ok (.getfield 22, 3) := by decide +kernel
theorem dX4_remember_20 : decode cX4_remember 20 = .ok (.iconst 0, 1) := by decide +kernel
theorem dX4_remember_21 : decode cX4_remember 21 = .ok (.sipush 3029, 3) := by decide +kernel
theorem dX4_remember_24 : decode cX4_remember 24 = .ok (.invokestatic 49, 3) := by decide +kernel
theorem dX4_remember_27 : decode cX4_remember 27 = .ok (.aload_n 0, 1) := by decide +kernel
theorem dX4_remember_28 : decode cX4_remember 28 = .ok (.dup, 1) := by decide +kernel
theorem dX4_remember_29 : decode cX4_remember 29 = .ok (.getfield 46, 3) := by decide +kernel
theorem dX4_remember_32 : decode cX4_remember 32 = .ok (.iconst 1, 1) := by decide +kernel
theorem dX4_remember_33 : decode cX4_remember 33 = .ok (.isub, 1) := by decide +kernel
theorem dX4_remember_34 : decode cX4_remember 34 = .ok (.putfield 46, 3) := by decide +kernel
theorem dX4_remember_37 : decode cX4_remember 37 = .ok (.aload_n 0, 1) := by decide +kernel
theorem dX4_remember_38 : decode cX4_remember 38 = .ok (.getfield 16, 3) := by decide +kernel
theorem dX4_remember_41 : decode cX4_remember 41 = .ok (.iconst 0, 1) := by decide +kernel
theorem dX4_remember_42 : decode cX4_remember 42 = .ok (.aload_n 0, 1) := by decide +kernel
theorem dX4_remember_43 : decode cX4_remember 43 = .ok (.getfield 22, 3) := by decide +kernel
theorem dX4_remember_46 : decode cX4_remember 46 = .ok (.sipush 233, 3) := by decide +kernel
theorem dX4_remember_49 : decode cX4_remember 49 = .ok (.aload_n 0, 1) := by decide +kernel
theorem dX4_remember_50 : decode cX4_remember 50 = .ok (.getfield 46, 3) := by decide +kernel
theorem dX4_remember_53 : decode cX4_remember 53 = .ok (.imul, 1) := by decide +kernel
theorem dX4_remember_54 : decode cX4_remember 54 = .ok (.sipush 233, 3) := by decide +kernel
theorem dX4_remember_57 : decode cX4_remember 57 = .ok (.invokestatic 49, 3) := by decide +kernel
theorem dX4_remember_60 : decode cX4_remember 60 = .ok (.aload_n 0, 1) := by decide +kernel
theorem dX4_remember_61 : decode cX4_remember 61 = .ok (.dup, 1) := by decide +kernel
theorem dX4_remember_62 : decode cX4_remember 62 = .ok (.getfield 46, 3) := by decide +kernel
theorem dX4_remember_65 : decode cX4_remember 65 = .ok (.iconst 1, 1) := by decide +kernel
theorem dX4_remember_66 : decode cX4_remember 66 = .ok (.iadd, 1) := by decide +kernel
theorem dX4_remember_67 : decode cX4_remember 67 = .ok (.putfield 46, 3) := by decide +kernel
theorem dX4_remember_70 : decode cX4_remember 70 = .ok (.return_, 1) := by decide +kernel
set_option maxRecDepth 20000 in
theorem ggX4_tryIt_X4_copy : GoodIn wsX4_tryIt wsX4_copy := goodIn_r _ [6] (by decide +kernel) (by decide +kernel)
set_option maxRecDepth 20000 in
theorem gX4_tryIt_X4_copy : GoodIn wsX4_tryIt (va_wsS RX4 49 yX4_copy wsX4_copy) := goodIn_app (goodIn_of _ (by decide +kernel)) ggX4_tryIt_X4_copy
theorem dX4_tryIt_0 : decode cX4_tryIt 0 = .ok (.aload_n 0, 1) := by decide +kernel
theorem dX4_tryIt_1 : decode cX4_tryIt 1 = .ok (.getfield 16, 3) := by decide +kernel
theorem dX4_tryIt_4 : decode cX4_tryIt 4 = .ok (.iconst 0, 1) := by decide +kernel
theorem dX4_tryIt_5 : decode cX4_tryIt 5 = .ok (.aload_n 0, 1) := by decide +kernel
theorem dX4_tryIt_6 : decode cX4_tryIt 6 = .ok (.getfield 19, 3) := by decide +kernel
theorem dX4_tryIt_9 : decode cX4_tryIt 9 = .ok (.iconst 0, 1) := by decide +kernel
theorem dX4_tryIt_10 : decode cX4_tryIt 10 = .ok (.sipush 233, 3) := by decide +kernel
theorem dX4_tryIt_13 : decode cX4_tryIt 13 = .ok (.invokestatic 49, 3) := by decide +kernel
theorem dX4_tryIt_16 : decode cX4_tryIt 16 = .ok (.return_, 1) := by decide +kernel
theorem dX4_bookAt_0 : decode cX4_bookAt 0 = .ok (.iconst 5, 1) := by decide +kernel
theorem dX4_bookAt_1 : decode cX4_bookAt 1 = .ok (.iload_n 0, 1) := by decide +kernel
theorem dX4_bookAt_2 : decode cX4_bookAt 2 = .ok (.imul, 1) := by decide +kernel
theorem dX4_bookAt_3 : decode cX4_bookAt 3 = .ok (.iload_n 1, 1) := by decide +kernel
theorem dX4_bookAt_4 : decode cX4_bookAt 4 = .ok (.iadd, 1) := by decide +kernel
theorem dX4_bookAt_5 : decode cX4_bookAt 5 = .ok (.ireturn, 1) := by decide +kernel
theorem dX4_visitorAt_0 : decode cX4_visitorAt 0 = .ok (.bipush 100, 2) := by decide +kernel
theorem dX4_visitorAt_2 : decode cX4_visitorAt 2 = .ok (.iconst 4, 1) := by decide +kernel
theorem dX4_visitorAt_3 : decode cX4_visitorAt 3 = .ok (.iload_n 0, 1) := by decide +kernel
theorem dX4_visitorAt_4 : decode cX4_visitorAt 4 = .ok (.imul, 1) := by decide +kernel
theorem dX4_visitorAt_5 : decode cX4_visitorAt 5 = .ok (.iadd, 1) := by decide +kernel
theorem dX4_visitorAt_6 : decode cX4_visitorAt 6 = .ok (.iload_n 1, 1) := by decide +kernel
theorem dX4_visitorAt_7 : decode cX4_visitorAt 7 = .ok (.iadd, 1) := by decide +kernel
theorem dX4_visitorAt_8 : decode cX4_visitorAt 8 = .ok (.ireturn, 1) := by decide +kernel
theorem dX4_gateAt_0 : decode cX4_gateAt 0 = .ok (.bipush 124, 2) := by decide +kernel
theorem dX4_gateAt_2 : decode cX4_gateAt 2 = .ok (.iconst 4, 1) := by decide +kernel
theorem dX4_gateAt_3 : decode cX4_gateAt 3 = .ok (.iload_n 0, 1) := by decide +kernel
theorem dX4_gateAt_4 : decode cX4_gateAt 4 = .ok (.imul, 1) := by decide +kernel
theorem dX4_gateAt_5 : decode cX4_gateAt 5 = .ok (.iadd, 1) := by decide +kernel
theorem dX4_gateAt_6 : decode cX4_gateAt 6 = .ok (.iload_n 1, 1) := by decide +kernel
theorem dX4_gateAt_7 : decode cX4_gateAt 7 = .ok (.iadd, 1) := by decide +kernel
theorem dX4_gateAt_8 : decode cX4_gateAt 8 = .ok (.ireturn, 1) := by decide +kernel
set_option maxRecDepth 20000 in
theorem ggX4_bag_X4_bookAt : GoodIn wsX4_bag wsX4_bookAt := goodIn_r _ [4] (by decide +kernel) (by decide +kernel)
set_option maxRecDepth 20000 in
theorem gX4_bag_X4_bookAt : GoodIn wsX4_bag (va_wsS RX4 53 yX4_bookAt wsX4_bookAt) := goodIn_app (goodIn_of _ (by decide +kernel)) ggX4_bag_X4_bookAt
theorem dX4_bag_0 : decode cX4_bag 0 = .ok (.iconst 0, 1) := by decide +kernel
theorem dX4_bag_1 : decode cX4_bag 1 = .ok (.istore_n 2, 1) := by decide +kernel
theorem dX4_bag_2 : decode cX4_bag 2 = .ok (.iconst 0, 1) := by decide +kernel
theorem dX4_bag_3 : decode cX4_bag 3 = .ok (.istore_n 3, 1) := by decide +kernel
theorem dX4_bag_4 : decode cX4_bag 4 = .ok (.iload_n 3, 1) := by decide +kernel
theorem dX4_bag_5 : decode cX4_bag 5 = .ok (.bipush 20, 2) := by decide +kernel
theorem dX4_bag_7 : decode cX4_bag 7 = .ok (.if_icmp .ge 30, 3) := by decide +kernel
theorem dX4_bag_10 : decode cX4_bag 10 = .ok (.iload_n 2, 1) := by decide +kernel
theorem dX4_bag_11 : decode cX4_bag 11 = .ok (.aload_n 0, 1) := by decide +kernel
theorem dX4_bag_12 : decode cX4_bag 12 = .ok (.iload_n 3, 1) := by decide +kernel
theorem dX4_bag_13 : decode cX4_bag 13 = .ok (.iconst 0, 1) := by decide +kernel
theorem dX4_bag_14 : decode cX4_bag 14 = .ok (.invokestatic 53, 3) := by decide +kernel
theorem dX4_bag_17 : decode cX4_bag 17 = .ok (.iaload, 1) := by decide +kernel
theorem dX4_bag_18 : decode cX4_bag 18 = .ok (.iload_n 1, 1) := by decide +kernel
theorem dX4_bag_19 : decode cX4_bag 19 = .ok (.iconst 1, 1) := by decide +kernel
theorem dX4_bag_20 : decode cX4_bag 20 = .ok (.iadd, 1) := by decide +kernel
theorem dX4_bag_21 : decode cX4_bag 21 = .ok (.if_icmp .ne 7, 3) := by decide +kernel
theorem dX4_bag_24 : decode cX4_bag 24 = .ok (.iconst 1, 1) := by decide +kernel
theorem dX4_bag_25 : decode cX4_bag 25 = .ok (.goto 4, 3) := by decide +kernel
theorem dX4_bag_28 : decode cX4_bag 28 = .ok (.iconst 0, 1) := by decide +kernel
theorem dX4_bag_29 : decode cX4_bag 29 = .ok (.iadd, 1) := by decide +kernel
theorem dX4_bag_30 : decode cX4_bag 30 = .ok (.istore_n 2, 1) := by decide +kernel
theorem dX4_bag_31 : decode cX4_bag 31 = .ok (.iinc 3 1, 3) := by decide +kernel
theorem dX4_bag_34 : decode cX4_bag 34 = .ok (.goto (-30), 3) := by decide +kernel
theorem dX4_bag_37 : decode cX4_bag 37 = .ok (.iload_n 2, 1) := by decide +kernel
theorem dX4_bag_38 : decode cX4_bag 38 = .ok (.ireturn, 1) := by decide +kernel
set_option maxRecDepth 20000 in
theorem ggX4_isInside_X4_visitorAt : GoodIn wsX4_isInside wsX4_visitorAt := goodIn_r _ [4] (by decide +kernel) (by decide +kernel)
set_option maxRecDepth 20000 in
theorem gX4_isInside_X4_visitorAt : GoodIn wsX4_isInside (va_wsS RX4 56 yX4_visitorAt wsX4_visitorAt) := goodIn_app (goodIn_of _ (by decide +kernel)) ggX4_isInside_X4_visitorAt
theorem dX4_isInside_0 : decode cX4_isInside 0 = .ok (.aload_n 0, 1) := by decide +kernel
theorem dX4_isInside_1 : decode cX4_isInside 1 = .ok (.iload_n 1, 1) := by decide +kernel
theorem dX4_isInside_2 : decode cX4_isInside 2 = .ok (.iconst 0, 1) := by decide +kernel
theorem dX4_isInside_3 : decode cX4_isInside 3 = .ok (.invokestatic 56, 3) := by decide +kernel
theorem dX4_isInside_6 : decode cX4_isInside 6 = .ok (.iaload, 1) := by decide +kernel
theorem dX4_isInside_7 : decode cX4_isInside 7 = .ok (.ifCond .ne 7, 3) := by decide +kernel
theorem dX4_isInside_10 : decode cX4_isInside 10 = .ok (.iconst 1, 1) := by decide +kernel
theorem dX4_isInside_11 : decode cX4_isInside 11 = .ok (.goto 4, 3) := by decide +kernel
theorem dX4_isInside_14 : decode cX4_isInside 14 = .ok (.iconst 0, 1) := by decide +kernel
theorem dX4_isInside_15 : decode cX4_isInside 15 = .ok (.ireturn, 1) := by decide +kernel
set_option maxRecDepth 20000 in
theorem ggX4_isBookInside_X4_bookAt : GoodIn wsX4_isBookInside wsX4_bookAt := goodIn_r _ [4] (by decide +kernel) (by decide +kernel)
set_option maxRecDepth 20000 in
theorem gX4_isBookInside_X4_bookAt : GoodIn wsX4_isBookInside (va_wsS RX4 53 yX4_bookAt wsX4_bookAt) := goodIn_app (goodIn_of _ (by decide +kernel)) ggX4_isBookInside_X4_bookAt
set_option maxRecDepth 20000 in
theorem ggX4_isBookInside_X4_isInside : GoodIn wsX4_isBookInside wsX4_isInside := goodIn_r _ [7, 8, 9, 3, 10] (by decide +kernel) (by decide +kernel)
set_option maxRecDepth 20000 in
theorem gX4_isBookInside_X4_isInside : GoodIn wsX4_isBookInside (va_wsS RX4 59 yX4_isInside wsX4_isInside) := goodIn_app (goodIn_of _ (by decide +kernel)) ggX4_isBookInside_X4_isInside
theorem dX4_isBookInside_0 : decode cX4_isBookInside 0 = .ok (.aload_n 0, 1) := by decide +kernel
theorem dX4_isBookInside_1 : decode cX4_isBookInside 1 = .ok (.iload_n 1, 1) := by decide +kernel
theorem dX4_isBookInside_2 : decode cX4_isBookInside 2 = .ok (.iconst 0, 1) := by decide +kernel
theorem dX4_isBookInside_3 : decode cX4_isBookInside 3 = .ok (.invokestatic 53, 3) := by decide +kernel
theorem dX4_isBookInside_6 : decode cX4_isBookInside 6 = .ok (.iaload, 1) := by decide +kernel
theorem dX4_isBookInside_7 : decode cX4_isBookInside 7 = .ok (.iconst 1, 1) := by decide +kernel
theorem dX4_isBookInside_8 : decode cX4_isBookInside 8 = .ok (.isub, 1) := by decide +kernel
theorem dX4_isBookInside_9 : decode cX4_isBookInside 9 = .ok (.istore_n 2, 1) := by decide +kernel
theorem dX4_isBookInside_10 : decode cX4_isBookInside 10 = .ok (.iload_n 2, 1) := by decide +kernel
theorem dX4_isBookInside_11 : decode cX4_isBookInside 11 = .ok (.ifCond .lt 11, 3) := by decide +kernel
theorem dX4_isBookInside_14 : decode cX4_isBookInside 14 = .ok (.aload_n 0, 1) := by decide +kernel
theorem dX4_isBookInside_15 : decode cX4_isBookInside 15 = .ok (.iload_n 2, 1) := by decide +kernel
theorem dX4_isBookInside_16 : decode cX4_isBookInside 16 = .ok (.invokestatic 59, 3) := by decide +kernel
theorem dX4_isBookInside_19 : decode cX4_isBookInside 19 = .ok (.ifCond .eq 7, 3) := by decide +kernel
theorem dX4_isBookInside_22 : decode cX4_isBookInside 22 = .ok (.iconst 1, 1) := by decide +kernel
theorem dX4_isBookInside_23 : decode cX4_isBookInside 23 = .ok (.goto 4, 3) := by decide +kernel
theorem dX4_isBookInside_26 : decode cX4_isBookInside 26 = .ok (.iconst 0, 1) := by decide +kernel
theorem dX4_isBookInside_27 : decode cX4_isBookInside 27 = .ok (.ireturn, 1) := by decide +kernel
set_option maxRecDepth 20000 in
theorem ggX4_reads_X4_visitorAt : GoodIn wsX4_reads wsX4_visitorAt := goodIn_r _ [5] (by decide +kernel) (by decide +kernel)
set_option maxRecDepth 20000 in
theorem gX4_reads_X4_visitorAt : GoodIn wsX4_reads (va_wsS RX4 56 yX4_visitorAt wsX4_visitorAt) := goodIn_app (goodIn_of _ (by decide +kernel)) ggX4_reads_X4_visitorAt
set_option maxRecDepth 20000 in
theorem ggX4_reads_X4_bag : GoodIn wsX4_reads wsX4_bag := goodIn_r _ [8, 9, 10, 4, 11] (by decide +kernel) (by decide +kernel)
set_option maxRecDepth 20000 in
theorem gX4_reads_X4_bag : GoodIn wsX4_reads (va_wsS RX4 63 yX4_bag wsX4_bag) := goodIn_app (goodIn_of _ (by decide +kernel)) ggX4_reads_X4_bag
set_option maxRecDepth 20000 in
theorem ggX4_reads_X4_gateAt : GoodIn wsX4_reads wsX4_gateAt := goodIn_r _ [14] (by decide +kernel) (by decide +kernel)
set_option maxRecDepth 20000 in
theorem gX4_reads_X4_gateAt : GoodIn wsX4_reads (va_wsS RX4 42 yX4_gateAt wsX4_gateAt) := goodIn_app (goodIn_of _ (by decide +kernel)) ggX4_reads_X4_gateAt
set_option maxRecDepth 20000 in
theorem ggX4_reads_X4_in : GoodIn wsX4_reads wsX4_in := goodIn_r _ [17] (by decide +kernel) (by decide +kernel)
set_option maxRecDepth 20000 in
theorem gX4_reads_X4_in : GoodIn wsX4_reads (va_wsS RX4 69 yX4_in wsX4_in) := goodIn_app (goodIn_of _ (by decide +kernel)) ggX4_reads_X4_in
theorem dX4_reads_0 : decode cX4_reads 0 = .ok (.aload_n 0, 1) := by decide +kernel
theorem dX4_reads_1 : decode cX4_reads 1 = .ok (.iload_n 2, 1) := by decide +kernel
theorem dX4_reads_2 : decode cX4_reads 2 = .ok (.iconst 1, 1) := by decide +kernel
theorem dX4_reads_3 : decode cX4_reads 3 = .ok (.invokestatic 56, 3) := by decide +kernel
theorem dX4_reads_6 : decode cX4_reads 6 = .ok (.iaload, 1) := by decide +kernel
theorem dX4_reads_7 : decode cX4_reads 7 = .ok (.iload_n 1, 1) := by decide +kernel
theorem dX4_reads_8 : decode cX4_reads 8 = .ok (.isub, 1) := by decide +kernel
theorem dX4_reads_9 : decode cX4_reads 9 = .ok (.istore_n 3, 1) := by decide +kernel
theorem dX4_reads_10 : decode cX4_reads 10 = .ok (.aload_n 0, 1) := by decide +kernel
theorem dX4_reads_11 : decode cX4_reads 11 = .ok (.iload_n 2, 1) := by decide +kernel
theorem dX4_reads_12 : decode cX4_reads 12 = .ok (.iconst 2, 1) := by decide +kernel
theorem dX4_reads_13 : decode cX4_reads 13 = .ok (.invokestatic 56, 3) := by decide +kernel
theorem dX4_reads_16 : decode cX4_reads 16 = .ok (.iaload, 1) := by decide +kernel
theorem dX4_reads_17 : decode cX4_reads 17 = .ok (.istore 4, 2) := by decide +kernel
theorem dX4_reads_19 : decode cX4_reads 19 = .ok (.iconst 2, 1) := by decide +kernel
theorem dX4_reads_20 : decode cX4_reads 20 = .ok (.iload 4, 2) := by decide +kernel
theorem dX4_reads_22 : decode cX4_reads 22 = .ok (.ifCond .ge 9, 3) := by decide +kernel
theorem dX4_reads_25 : decode cX4_reads 25 = .ok (.iload 4, 2) := by decide +kernel
theorem dX4_reads_27 : decode cX4_reads 27 = .ok (.ineg, 1) := by decide +kernel
theorem dX4_reads_28 : decode cX4_reads 28 = .ok (.goto 5, 3) := by decide +kernel
theorem dX4_reads_31 : decode cX4_reads 31 = .ok (.iload 4, 2) := by decide +kernel
theorem dX4_reads_33 : decode cX4_reads 33 = .ok (.imul, 1) := by decide +kernel
theorem dX4_reads_34 : decode cX4_reads 34 = .ok (.aload_n 0, 1) := by decide +kernel
theorem dX4_reads_35 : decode cX4_reads 35 = .ok (.iload_n 2, 1) := by decide +kernel
theorem dX4_reads_36 : decode cX4_reads 36 = .ok (.invokestatic 63, 3) := by decide +kernel
theorem dX4_reads_39 : decode cX4_reads 39 = .ok (.iadd, 1) := by decide +kernel
theorem dX4_reads_40 : decode cX4_reads 40 = .ok (.istore 5, 2) := by decide +kernel
theorem dX4_reads_42 : decode cX4_reads 42 = .ok (.aload_n 0, 1) := by decide +kernel
theorem dX4_reads_43 : decode cX4_reads 43 = .ok (.iload_n 1, 1) := by decide +kernel
theorem dX4_reads_44 : decode cX4_reads 44 = .ok (.iconst 0, 1) := by decide +kernel
theorem dX4_reads_45 : decode cX4_reads 45 = .ok (.invokestatic 42, 3) := by decide +kernel
theorem dX4_reads_48 : decode cX4_reads 48 = .ok (.iaload, 1) := by decide +kernel
theorem dX4_reads_49 : decode cX4_reads 49 = .ok (.istore 6, 2) := by decide +kernel
theorem dX4_reads_51 : decode cX4_reads 51 = .ok (.aload_n 0, 1) := by decide +kernel
theorem dX4_reads_52 : decode cX4_reads 52 = .ok (.iload_n 2, 1) := by decide +kernel
theorem dX4_reads_53 : decode cX4_reads 53 = .ok (.iconst 0, 1) := by decide +kernel
theorem dX4_reads_54 : decode cX4_reads 54 = .ok (.invokestatic 56, 3) := by decide +kernel
theorem dX4_reads_57 : decode cX4_reads 57 = .ok (.iaload, 1) := by decide +kernel
theorem dX4_reads_58 : decode cX4_reads 58 = .ok (.iconst 1, 1) := by decide +kernel
theorem dX4_reads_59 : decode cX4_reads 59 = .ok (.if_icmp .ne 37, 3) := by decide +kernel
theorem dX4_reads_62 : decode cX4_reads 62 = .ok (.iload_n 3, 1) := by decide +kernel
theorem dX4_reads_63 : decode cX4_reads 63 = .ok (.i2l, 1) := by decide +kernel
theorem dX4_reads_64 : decode cX4_reads 64 = .ok (.ldc2_w 67, 3) := by decide +kernel
theorem dX4_reads_67 : decode cX4_reads 67 = .ok (.lconst 1, 1) := by decide +kernel
theorem dX4_reads_68 : decode cX4_reads 68 = .ok (.invokestatic 69, 3) := by decide +kernel
theorem dX4_reads_71 : decode cX4_reads 71 = .ok (.ifCond .eq 25, 3) := by decide +kernel
theorem dX4_reads_74 : decode cX4_reads 74 = .ok (.iload_n 3, 1) := by decide +kernel
theorem dX4_reads_75 : decode cX4_reads 75 = .ok (.ifCond .ne 8, 3) := by decide +kernel
theorem dX4_reads_78 : decode cX4_reads 78 = .ok (.iload 6, 2) := by decide +kernel
theorem dX4_reads_80 : decode cX4_reads 80 = .ok (.goto 7, 3) := by decide +kernel
theorem dX4_reads_83 : decode cX4_reads 83 = .ok (.iload 6, 2) := by decide +kernel
theorem dX4_reads_85 : decode cX4_reads 85 = .ok (.iconst 2, 1) := by decide +kernel
theorem dX4_reads_86 : decode cX4_reads 86 = .ok (.idiv, 1) := by decide +kernel
theorem dX4_reads_87 : decode cX4_reads 87 = .ok (.iload 5, 2) := by decide +kernel
theorem dX4_reads_89 : decode cX4_reads 89 = .ok (.if_icmp .lt 7, 3) := by decide +kernel
theorem dX4_reads_92 : decode cX4_reads 92 = .ok (.iconst 1, 1) := by decide +kernel
theorem dX4_reads_93 : decode cX4_reads 93 = .ok (.goto 4, 3) := by decide +kernel
theorem dX4_reads_96 : decode cX4_reads 96 = .ok (.iconst 0, 1) := by decide +kernel
theorem dX4_reads_97 : decode cX4_reads 97 = .ok (.ireturn, 1) := by decide +kernel
set_option maxRecDepth 20000 in
theorem ggX4_readsBook_X4_bookAt : GoodIn wsX4_readsBook wsX4_bookAt := goodIn_r _ [4] (by decide +kernel) (by decide +kernel)
set_option maxRecDepth 20000 in
theorem gX4_readsBook_X4_bookAt : GoodIn wsX4_readsBook (va_wsS RX4 53 yX4_bookAt wsX4_bookAt) := goodIn_app (goodIn_of _ (by decide +kernel)) ggX4_readsBook_X4_bookAt
set_option maxRecDepth 20000 in
theorem ggX4_readsBook_X4_reads : GoodIn wsX4_readsBook wsX4_reads := goodIn_r _ [7, 8, 9, 10, 3, 11, 12, 13, 14, 1, 2, 4, 15, 16, 17, 18, 19, 20] (by decide +kernel) (by decide +kernel)
set_option maxRecDepth 20000 in
theorem gX4_readsBook_X4_reads : GoodIn wsX4_readsBook (va_wsS RX4 73 yX4_reads wsX4_reads) := goodIn_app (goodIn_of _ (by decide +kernel)) ggX4_readsBook_X4_reads
theorem dX4_readsBook_0 : decode cX4_readsBook 0 = .ok (.aload_n 0, 1) := by decide +kernel
theorem dX4_readsBook_1 : decode cX4_readsBook 1 = .ok (.iload_n 2, 1) := by decide +kernel
theorem dX4_readsBook_2 : decode cX4_readsBook 2 = .ok (.iconst 0, 1) := by decide +kernel
theorem dX4_readsBook_3 : decode cX4_readsBook 3 = .ok (.invokestatic 53, 3) := by decide +kernel
theorem dX4_readsBook_6 : decode cX4_readsBook 6 = .ok (.iaload, 1) := by decide +kernel
theorem dX4_readsBook_7 : decode cX4_readsBook 7 = .ok (.iconst 1, 1) := by decide +kernel
theorem dX4_readsBook_8 : decode cX4_readsBook 8 = .ok (.isub, 1) := by decide +kernel
theorem dX4_readsBook_9 : decode cX4_readsBook 9 = .ok (.istore_n 3, 1) := by decide +kernel
theorem dX4_readsBook_10 : decode cX4_readsBook 10 = .ok (.iload_n 3, 1) := by decide +kernel
theorem dX4_readsBook_11 : decode cX4_readsBook 11 = .ok (.ifCond .lt 16, 3) := by decide +kernel
theorem dX4_readsBook_14 : decode cX4_readsBook 14 = .ok (.aload_n 0, 1) := by decide +kernel
theorem dX4_readsBook_15 : decode cX4_readsBook 15 = .ok (.iload_n 1, 1) := by decide +kernel
theorem dX4_readsBook_16 : decode cX4_readsBook 16 = .ok (.iload_n 3, 1) := by decide +kernel
theorem dX4_readsBook_17 : decode cX4_readsBook 17 = .ok (.invokestatic 73, 3) := by decide +kernel
theorem dX4_readsBook_20 : decode cX4_readsBook 20 = .ok (.ifCond .eq 7, 3) := by decide +kernel
theorem dX4_readsBook_23 : decode cX4_readsBook 23 = .ok (.iconst 1, 1) := by decide +kernel
theorem dX4_readsBook_24 : decode cX4_readsBook 24 = .ok (.goto 4, 3) := by decide +kernel
theorem dX4_readsBook_27 : decode cX4_readsBook 27 = .ok (.iconst 0, 1) := by decide +kernel
theorem dX4_readsBook_28 : decode cX4_readsBook 28 = .ok (.ireturn, 1) := by decide +kernel
set_option maxRecDepth 20000 in
theorem ggX4_forget_X4_bookAt : GoodIn wsX4_forget wsX4_bookAt := goodIn_r _ [4] (by decide +kernel) (by decide +kernel)
set_option maxRecDepth 20000 in
theorem gX4_forget_X4_bookAt : GoodIn wsX4_forget (va_wsS RX4 53 yX4_bookAt wsX4_bookAt) := goodIn_app (goodIn_of _ (by decide +kernel)) ggX4_forget_X4_bookAt
set_option maxRecDepth 20000 in
theorem ggX4_forget_X4_gateAt : GoodIn wsX4_forget wsX4_gateAt := goodIn_r _ [7] (by decide +kernel) (by decide +kernel)
set_option maxRecDepth 20000 in
theorem gX4_forget_X4_gateAt : GoodIn wsX4_forget (va_wsS RX4 42 yX4_gateAt wsX4_gateAt) := goodIn_app (goodIn_of _ (by decide +kernel)) ggX4_forget_X4_gateAt
theorem dX4_forget_0 : decode cX4_forget 0 = .ok (.aload_n 0, 1) := by decide +kernel
theorem dX4_forget_1 : decode cX4_forget 1 = .ok (.iload_n 1, 1) := by decide +kernel
theorem dX4_forget_2 : decode cX4_forget 2 = .ok (.iconst 2, 1) := by decide +kernel
theorem dX4_forget_3 : decode cX4_forget 3 = .ok (.invokestatic 53, 3) := by decide +kernel
theorem dX4_forget_6 : decode cX4_forget 6 = .ok (.iconst 0, 1) := by decide +kernel
theorem dX4_forget_7 : decode cX4_forget 7 = .ok (.iastore, 1) := by decide +kernel
theorem dX4_forget_8 : decode cX4_forget 8 = .ok (.aload_n 0, 1) := by decide +kernel
theorem dX4_forget_9 : decode cX4_forget 9 = .ok (.iload_n 1, 1) := by decide +kernel
theorem dX4_forget_10 : decode cX4_forget 10 = .ok (.iconst 3, 1) := by decide +kernel
theorem dX4_forget_11 : decode cX4_forget 11 = .ok (.invokestatic 53, 3) := by decide +kernel
theorem dX4_forget_14 : decode cX4_forget 14 = .ok (.iconst 0, 1) := by decide +kernel
theorem dX4_forget_15 : decode cX4_forget 15 = .ok (.iastore, 1) := by decide +kernel
theorem dX4_forget_16 : decode cX4_forget 16 = .ok (.iconst 0, 1) := by decide +kernel
theorem dX4_forget_17 : decode cX4_forget 17 = .ok (.istore_n 2, 1) := by decide +kernel
theorem dX4_forget_18 : decode cX4_forget 18 = .ok (.iload_n 2, 1) := by decide +kernel
theorem dX4_forget_19 : decode cX4_forget 19 = .ok (.iconst 3, 1) := by decide +kernel
theorem dX4_forget_20 : decode cX4_forget 20 = .ok (.if_icmp .ge 83, 3) := by decide +kernel
theorem dX4_forget_23 : decode cX4_forget 23 = .ok (.iconst 0, 1) := by decide +kernel
theorem dX4_forget_24 : decode cX4_forget 24 = .ok (.istore_n 3, 1) := by decide +kernel
theorem dX4_forget_25 : decode cX4_forget 25 = .ok (.iconst 0, 1) := by decide +kernel
theorem dX4_forget_26 : decode cX4_forget 26 = .ok (.istore 4, 2) := by decide +kernel
theorem dX4_forget_28 : decode cX4_forget 28 = .ok (.iload 4, 2) := by decide +kernel
theorem dX4_forget_30 : decode cX4_forget 30 = .ok (.aload_n 0, 1) := by decide +kernel
theorem dX4_forget_31 : decode cX4_forget 31 = .ok (.iload_n 2, 1) := by decide +kernel
theorem dX4_forget_32 : decode cX4_forget 32 = .ok (.iconst 2, 1) := by decide +kernel
theorem dX4_forget_33 : decode cX4_forget 33 = .ok (.invokestatic 42, 3) := by decide +kernel
theorem dX4_forget_36 : decode cX4_forget 36 = .ok (.iaload, 1) := by decide +kernel
theorem dX4_forget_37 : decode cX4_forget 37 = .ok (.if_icmp .ge 52, 3) := by decide +kernel
theorem dX4_forget_40 : decode cX4_forget 40 = .ok (.aload_n 0, 1) := by decide +kernel
theorem dX4_forget_41 : decode cX4_forget 41 = .ok (.sipush 136, 3) := by decide +kernel
theorem dX4_forget_44 : decode cX4_forget 44 = .ok (.bipush 20, 2) := by decide +kernel
theorem dX4_forget_46 : decode cX4_forget 46 = .ok (.iload_n 2, 1) := by decide +kernel
theorem dX4_forget_47 : decode cX4_forget 47 = .ok (.imul, 1) := by decide +kernel
theorem dX4_forget_48 : decode cX4_forget 48 = .ok (.iadd, 1) := by decide +kernel
theorem dX4_forget_49 : decode cX4_forget 49 = .ok (.iload 4, 2) := by decide +kernel
theorem dX4_forget_51 : decode cX4_forget 51 = .ok (.iadd, 1) := by decide +kernel
theorem dX4_forget_52 : decode cX4_forget 52 = .ok (.iaload, 1) := by decide +kernel
theorem dX4_forget_53 : decode cX4_forget 53 = .ok (.istore 5, 2) := by decide +kernel
theorem dX4_forget_55 : decode cX4_forget 55 = .ok (.aload_n 0, 1) := by decide +kernel
theorem dX4_forget_56 : decode cX4_forget 56 = .ok (.sipush 136, 3) := by decide +kernel
theorem dX4_forget_59 : decode cX4_forget 59 = .ok (.bipush 20, 2) := by decide +kernel
theorem dX4_forget_61 : decode cX4_forget 61 = .ok (.iload_n 2, 1) := by decide +kernel
theorem dX4_forget_62 : decode cX4_forget 62 = .ok (.imul, 1) := by decide +kernel
theorem dX4_forget_63 : decode cX4_forget 63 = .ok (.iadd, 1) := by decide +kernel
theorem dX4_forget_64 : decode cX4_forget 64 = .ok (.iload_n 3, 1) := by decide +kernel
theorem dX4_forget_65 : decode cX4_forget 65 = .ok (.iadd, 1) := by decide +kernel
theorem dX4_forget_66 : decode cX4_forget 66 = .ok (.iload 5, 2) := by decide +kernel
theorem dX4_forget_68 : decode cX4_forget 68 = .ok (.iastore, 1) := by decide +kernel
theorem dX4_forget_69 : decode cX4_forget 69 = .ok (.iload_n 3, 1) := by decide +kernel
theorem dX4_forget_70 : decode cX4_forget 70 = .ok (.iload 5, 2) := by decide +kernel
theorem dX4_forget_72 : decode cX4_forget 72 = .ok (.iload_n 1, 1) := by decide +kernel
theorem dX4_forget_73 : decode cX4_forget 73 = .ok (.if_icmp .ne 7, 3) := by decide +kernel
theorem dX4_forget_76 : decode cX4_forget 76 = .ok (.iconst 0, 1) := by decide +kernel
theorem dX4_forget_77 : decode cX4_forget 77 = .ok (.goto 4, 3) := by decide +kernel
theorem dX4_forget_80 : decode cX4_forget 80 = .ok (.iconst 1, 1) := by decide +kernel
theorem dX4_forget_81 : decode cX4_forget 81 = .ok (.iadd, 1) := by decide +kernel
theorem dX4_forget_82 : decode cX4_forget 82 = .ok (.istore_n 3, 1) := by decide +kernel
theorem dX4_forget_83 : decode cX4_forget 83 = .ok (.iinc 4 1, 3) := by decide +kernel
theorem dX4_forget_86 : decode cX4_forget 86 = .ok (.goto (-58), 3) := by decide +kernel
theorem dX4_forget_89 : decode cX4_forget 89 = .ok (.aload_n 0, 1) := by decide +kernel
theorem dX4_forget_90 : decode cX4_forget 90 = .ok (.iload_n 2, 1) := by decide +kernel
theorem dX4_forget_91 : decode cX4_forget 91 = .ok (.iconst 2, 1) := by decide +kernel
theorem dX4_forget_92 : decode cX4_forget 92 = .ok (.invokestatic 42, 3) := by decide +kernel
theorem dX4_forget_95 : decode cX4_forget 95 = .ok (.iload_n 3, 1) := by decide +kernel
theorem dX4_forget_96 : decode cX4_forget 96 = .ok (.iastore, 1) := by decide +kernel
theorem dX4_forget_97 : decode cX4_forget 97 = .ok (.iinc 2 1, 3) := by decide +kernel
theorem dX4_forget_100 : decode cX4_forget 100 = .ok (.goto (-82), 3) := by decide +kernel
theorem dX4_forget_103 : decode cX4_forget 103 = .ok (.return_, 1) := by decide +kernel
set_option maxRecDepth 20000 in
theorem ggX4_arrive_X4_visitorAt : GoodIn wsX4_arrive wsX4_visitorAt := goodIn_r _ [4] (by decide +kernel) (by decide +kernel)
set_option maxRecDepth 20000 in
theorem gX4_arrive_X4_visitorAt : GoodIn wsX4_arrive (va_wsS RX4 56 yX4_visitorAt wsX4_visitorAt) := goodIn_app (goodIn_of _ (by decide +kernel)) ggX4_arrive_X4_visitorAt
set_option maxRecDepth 20000 in
theorem ggX4_arrive_X4_bookAt : GoodIn wsX4_arrive wsX4_bookAt := goodIn_r _ [7] (by decide +kernel) (by decide +kernel)
set_option maxRecDepth 20000 in
theorem gX4_arrive_X4_bookAt : GoodIn wsX4_arrive (va_wsS RX4 53 yX4_bookAt wsX4_bookAt) := goodIn_app (goodIn_of _ (by decide +kernel)) ggX4_arrive_X4_bookAt
set_option maxRecDepth 20000 in
theorem ggX4_arrive_X4_forget : GoodIn wsX4_arrive wsX4_forget := goodIn_r _ [10, 5, 6, 3, 7, 11, 12, 13] (by decide +kernel) (by decide +kernel)
set_option maxRecDepth 20000 in
theorem gX4_arrive_X4_forget : GoodIn wsX4_arrive (va_wsS RX4 77 yX4_forget wsX4_forget) := goodIn_app (goodIn_of _ (by decide +kernel)) ggX4_arrive_X4_forget
theorem dX4_arrive_0 : decode cX4_arrive 0 = .ok (.aload_n 0, 1) := by decide +kernel
theorem dX4_arrive_1 : decode cX4_arrive 1 = .ok (.iload_n 1, 1) := by decide +kernel
theorem dX4_arrive_2 : decode cX4_arrive 2 = .ok (.iconst 0, 1) := by decide +kernel
theorem dX4_arrive_3 : decode cX4_arrive 3 = .ok (.invokestatic 56, 3) := by decide +kernel
theorem dX4_arrive_6 : decode cX4_arrive 6 = .ok (.iload_n 2, 1) := by decide +kernel
theorem dX4_arrive_7 : decode cX4_arrive 7 = .ok (.ifCond .eq 7, 3) := by decide +kernel
theorem dX4_arrive_10 : decode cX4_arrive 10 = .ok (.iconst 2, 1) := by decide +kernel
theorem dX4_arrive_11 : decode cX4_arrive 11 = .ok (.goto 4, 3) := by decide +kernel
theorem dX4_arrive_14 : decode cX4_arrive 14 = .ok (.iconst 0, 1) := by decide +kernel
theorem dX4_arrive_15 : decode cX4_arrive 15 = .ok (.iastore, 1) := by decide +kernel
theorem dX4_arrive_16 : decode cX4_arrive 16 = .ok (.iconst 0, 1) := by decide +kernel
theorem dX4_arrive_17 : decode cX4_arrive 17 = .ok (.istore_n 3, 1) := by decide +kernel
theorem dX4_arrive_18 : decode cX4_arrive 18 = .ok (.iload_n 3, 1) := by decide +kernel
theorem dX4_arrive_19 : decode cX4_arrive 19 = .ok (.bipush 20, 2) := by decide +kernel
theorem dX4_arrive_21 : decode cX4_arrive 21 = .ok (.if_icmp .ge 70, 3) := by decide +kernel
theorem dX4_arrive_24 : decode cX4_arrive 24 = .ok (.aload_n 0, 1) := by decide +kernel
theorem dX4_arrive_25 : decode cX4_arrive 25 = .ok (.iload_n 3, 1) := by decide +kernel
theorem dX4_arrive_26 : decode cX4_arrive 26 = .ok (.iconst 0, 1) := by decide +kernel
theorem dX4_arrive_27 : decode cX4_arrive 27 = .ok (.invokestatic 53, 3) := by decide +kernel
theorem dX4_arrive_30 : decode cX4_arrive 30 = .ok (.iaload, 1) := by decide +kernel
theorem dX4_arrive_31 : decode cX4_arrive 31 = .ok (.iload_n 1, 1) := by decide +kernel
theorem dX4_arrive_32 : decode cX4_arrive 32 = .ok (.iconst 1, 1) := by decide +kernel
theorem dX4_arrive_33 : decode cX4_arrive 33 = .ok (.iadd, 1) := by decide +kernel
theorem dX4_arrive_34 : decode cX4_arrive 34 = .ok (.if_icmp .ne 51, 3) := by decide +kernel
theorem dX4_arrive_37 : decode cX4_arrive 37 = .ok (.iload_n 2, 1) := by decide +kernel
theorem dX4_arrive_38 : decode cX4_arrive 38 = .ok (.ifCond .ne 11, 3) := by decide +kernel
theorem dX4_arrive_41 : decode cX4_arrive 41 = .ok (.aload_n 0, 1) := by decide +kernel
theorem dX4_arrive_42 : decode cX4_arrive 42 = .ok (.iload_n 3, 1) := by decide +kernel
theorem dX4_arrive_43 : decode cX4_arrive 43 = .ok (.invokestatic 77, 3) := by decide +kernel
theorem dX4_arrive_46 : decode cX4_arrive 46 = .ok (.goto 39, 3) := by decide +kernel
theorem dX4_arrive_49 : decode cX4_arrive 49 = .ok (.aload_n 0, 1) := by decide +kernel
theorem dX4_arrive_50 : decode cX4_arrive 50 = .ok (.iload_n 3, 1) := by decide +kernel
theorem dX4_arrive_51 : decode cX4_arrive 51 = .ok (.iconst 1, 1) := by decide +kernel
theorem dX4_arrive_52 : decode cX4_arrive 52 = .ok (.invokestatic 53, 3) := by decide +kernel
theorem dX4_arrive_55 : decode cX4_arrive 55 = .ok (.iaload, 1) := by decide +kernel
theorem dX4_arrive_56 : decode cX4_arrive 56 = .ok (.ifCond .ne 29, 3) := by decide +kernel
theorem dX4_arrive_59 : decode cX4_arrive 59 = .ok (.aload_n 0, 1) := by decide +kernel
theorem dX4_arrive_60 : decode cX4_arrive 60 = .ok (.aload_n 0, 1) := by decide +kernel
theorem dX4_arrive_61 : decode cX4_arrive 61 = .ok (.iload_n 3, 1) := by decide +kernel
theorem dX4_arrive_62 : decode cX4_arrive 62 = .ok (.iconst 3, 1) := by decide +kernel
theorem dX4_arrive_63 : decode cX4_arrive 63 = .ok (.invokestatic 53, 3) := by decide +kernel
theorem dX4_arrive_66 : decode cX4_arrive 66 = .ok (.iaload, 1) := by decide +kernel
theorem dX4_arrive_67 : decode cX4_arrive 67 = .ok (.iconst 1, 1) := by decide +kernel
theorem dX4_arrive_68 : decode cX4_arrive 68 = .ok (.if_icmp .ne 9, 3) := by decide +kernel
theorem dX4_arrive_71 : decode cX4_arrive 71 = .ok (.sipush 200, 3) := by decide +kernel
theorem dX4_arrive_74 : decode cX4_arrive 74 = .ok (.goto 6, 3) := by decide +kernel
theorem dX4_arrive_77 : decode cX4_arrive 77 = .ok (.sipush 201, 3) := by decide +kernel
theorem dX4_arrive_80 : decode cX4_arrive 80 = .ok (.dup2, 1) := by decide +kernel
theorem dX4_arrive_81 : decode cX4_arrive 81 = .ok (.iaload, 1) := by decide +kernel
theorem dX4_arrive_82 : decode cX4_arrive 82 = .ok (.iconst 1, 1) := by decide +kernel
theorem dX4_arrive_83 : decode cX4_arrive 83 = .ok (.iadd, 1) := by decide +kernel
theorem dX4_arrive_84 : decode cX4_arrive 84 = .ok (.iastore, 1) := by decide +kernel
theorem dX4_arrive_85 : decode cX4_arrive 85 = .ok (.iinc 3 1, 3) := by decide +kernel
theorem dX4_arrive_88 : decode cX4_arrive 88 = .ok (.goto (-70), 3) := by decide +kernel
theorem dX4_arrive_91 : decode cX4_arrive 91 = .ok (.return_, 1) := by decide +kernel
set_option maxRecDepth 20000 in
theorem ggX4_goOn_X4_visitorAt : GoodIn wsX4_goOn wsX4_visitorAt := goodIn_r _ [6] (by decide +kernel) (by decide +kernel)
set_option maxRecDepth 20000 in
theorem gX4_goOn_X4_visitorAt : GoodIn wsX4_goOn (va_wsS RX4 56 yX4_visitorAt wsX4_visitorAt) := goodIn_app (goodIn_of _ (by decide +kernel)) ggX4_goOn_X4_visitorAt
set_option maxRecDepth 20000 in
theorem ggX4_goOn_X4_in : GoodIn wsX4_goOn wsX4_in := goodIn_r _ [9] (by decide +kernel) (by decide +kernel)
set_option maxRecDepth 20000 in
theorem gX4_goOn_X4_in : GoodIn wsX4_goOn (va_wsS RX4 69 yX4_in wsX4_in) := goodIn_app (goodIn_of _ (by decide +kernel)) ggX4_goOn_X4_in
set_option maxRecDepth 20000 in
theorem ggX4_goOn_X4_arrive : GoodIn wsX4_goOn wsX4_arrive := goodIn_r _ [12, 3, 4, 5, 6, 13, 14, 15, 16, 17, 18, 19, 20, 21] (by decide +kernel) (by decide +kernel)
set_option maxRecDepth 20000 in
theorem gX4_goOn_X4_arrive : GoodIn wsX4_goOn (va_wsS RX4 85 yX4_arrive wsX4_arrive) := goodIn_app (goodIn_of _ (by decide +kernel)) ggX4_goOn_X4_arrive
theorem dX4_goOn_0 : decode cX4_goOn 0 = .ok (.aload_n 0, 1) := by decide +kernel
theorem dX4_goOn_1 : decode cX4_goOn 1 = .ok (.iload_n 1, 1) := by decide +kernel
theorem dX4_goOn_2 : decode cX4_goOn 2 = .ok (.iconst 2, 1) := by decide +kernel
theorem dX4_goOn_3 : decode cX4_goOn 3 = .ok (.invokestatic 56, 3) := by decide +kernel
theorem dX4_goOn_6 : decode cX4_goOn 6 = .ok (.dup2, 1) := by decide +kernel
theorem dX4_goOn_7 : decode cX4_goOn 7 = .ok (.iaload, 1) := by decide +kernel
theorem dX4_goOn_8 : decode cX4_goOn 8 = .ok (.aload_n 0, 1) := by decide +kernel
theorem dX4_goOn_9 : decode cX4_goOn 9 = .ok (.iload_n 1, 1) := by decide +kernel
theorem dX4_goOn_10 : decode cX4_goOn 10 = .ok (.iconst 3, 1) := by decide +kernel
theorem dX4_goOn_11 : decode cX4_goOn 11 = .ok (.invokestatic 56, 3) := by decide +kernel
theorem dX4_goOn_14 : decode cX4_goOn 14 = .ok (.iaload, 1) := by decide +kernel
theorem dX4_goOn_15 : decode cX4_goOn 15 = .ok (.iconst 1, 1) := by decide +kernel
theorem dX4_goOn_16 : decode cX4_goOn 16 = .ok (.if_icmp .ne 7, 3) := by decide +kernel
theorem dX4_goOn_19 : decode cX4_goOn 19 = .ok (.iconst 1, 1) := by decide +kernel
theorem dX4_goOn_20 : decode cX4_goOn 20 = .ok (.goto 4, 3) := by decide +kernel
theorem dX4_goOn_23 : decode cX4_goOn 23 = .ok (.iconst (-1), 1) := by decide +kernel
theorem dX4_goOn_24 : decode cX4_goOn 24 = .ok (.iadd, 1) := by decide +kernel
theorem dX4_goOn_25 : decode cX4_goOn 25 = .ok (.iastore, 1) := by decide +kernel
theorem dX4_goOn_26 : decode cX4_goOn 26 = .ok (.aload_n 0, 1) := by decide +kernel
theorem dX4_goOn_27 : decode cX4_goOn 27 = .ok (.iload_n 1, 1) := by decide +kernel
theorem dX4_goOn_28 : decode cX4_goOn 28 = .ok (.iconst 2, 1) := by decide +kernel
theorem dX4_goOn_29 : decode cX4_goOn 29 = .ok (.invokestatic 56, 3) := by decide +kernel
theorem dX4_goOn_32 : decode cX4_goOn 32 = .ok (.iaload, 1) := by decide +kernel
theorem dX4_goOn_33 : decode cX4_goOn 33 = .ok (.i2l, 1) := by decide +kernel
theorem dX4_goOn_34 : decode cX4_goOn 34 = .ok (.ldc2_w 81, 3) := by decide +kernel
theorem dX4_goOn_37 : decode cX4_goOn 37 = .ok (.ldc2_w 83, 3) := by decide +kernel
theorem dX4_goOn_40 : decode cX4_goOn 40 = .ok (.invokestatic 69, 3) := by decide +kernel
theorem dX4_goOn_43 : decode cX4_goOn 43 = .ok (.ifCond .ne 24, 3) := by decide +kernel
theorem dX4_goOn_46 : decode cX4_goOn 46 = .ok (.aload_n 0, 1) := by decide +kernel
theorem dX4_goOn_47 : decode cX4_goOn 47 = .ok (.iload_n 1, 1) := by decide +kernel
theorem dX4_goOn_48 : decode cX4_goOn 48 = .ok (.aload_n 0, 1) := by decide +kernel
theorem dX4_goOn_49 : decode cX4_goOn 49 = .ok (.iload_n 1, 1) := by decide +kernel
theorem dX4_goOn_50 : decode cX4_goOn 50 = .ok (.iconst 3, 1) := by decide +kernel
theorem dX4_goOn_51 : decode cX4_goOn 51 = .ok (.invokestatic 56, 3) := by decide +kernel
theorem dX4_goOn_54 : decode cX4_goOn 54 = .ok (.iaload, 1) := by decide +kernel
theorem dX4_goOn_55 : decode cX4_goOn 55 = .ok (.iconst 1, 1) := by decide +kernel
theorem dX4_goOn_56 : decode cX4_goOn 56 = .ok (.if_icmp .ne 7, 3) := by decide +kernel
theorem dX4_goOn_59 : decode cX4_goOn 59 = .ok (.iconst 1, 1) := by decide +kernel
theorem dX4_goOn_60 : decode cX4_goOn 60 = .ok (.goto 4, 3) := by decide +kernel
theorem dX4_goOn_63 : decode cX4_goOn 63 = .ok (.iconst 0, 1) := by decide +kernel
theorem dX4_goOn_64 : decode cX4_goOn 64 = .ok (.invokestatic 85, 3) := by decide +kernel
theorem dX4_goOn_67 : decode cX4_goOn 67 = .ok (.return_, 1) := by decide +kernel
set_option maxRecDepth 20000 in
theorem ggX4_readAt_X4_bookAt : GoodIn wsX4_readAt wsX4_bookAt := goodIn_r _ [4] (by decide +kernel) (by decide +kernel)
set_option maxRecDepth 20000 in
theorem gX4_readAt_X4_bookAt : GoodIn wsX4_readAt (va_wsS RX4 53 yX4_bookAt wsX4_bookAt) := goodIn_app (goodIn_of _ (by decide +kernel)) ggX4_readAt_X4_bookAt
set_option maxRecDepth 20000 in
theorem ggX4_readAt_X4_visitorAt : GoodIn wsX4_readAt wsX4_visitorAt := goodIn_r _ [7] (by decide +kernel) (by decide +kernel)
set_option maxRecDepth 20000 in
theorem gX4_readAt_X4_visitorAt : GoodIn wsX4_readAt (va_wsS RX4 56 yX4_visitorAt wsX4_visitorAt) := goodIn_app (goodIn_of _ (by decide +kernel)) ggX4_readAt_X4_visitorAt
set_option maxRecDepth 20000 in
theorem ggX4_readAt_X4_gateAt : GoodIn wsX4_readAt wsX4_gateAt := goodIn_r _ [10] (by decide +kernel) (by decide +kernel)
set_option maxRecDepth 20000 in
theorem gX4_readAt_X4_gateAt : GoodIn wsX4_readAt (va_wsS RX4 42 yX4_gateAt wsX4_gateAt) := goodIn_app (goodIn_of _ (by decide +kernel)) ggX4_readAt_X4_gateAt
theorem dX4_readAt_0 : decode cX4_readAt 0 = .ok (.aload_n 0, 1) := by decide +kernel
theorem dX4_readAt_1 : decode cX4_readAt 1 = .ok (.iload_n 2, 1) := by decide +kernel
theorem dX4_readAt_2 : decode cX4_readAt 2 = .ok (.iconst 0, 1) := by decide +kernel
theorem dX4_readAt_3 : decode cX4_readAt 3 = .ok (.invokestatic 53, 3) := by decide +kernel
theorem dX4_readAt_6 : decode cX4_readAt 6 = .ok (.iaload, 1) := by decide +kernel
theorem dX4_readAt_7 : decode cX4_readAt 7 = .ok (.iconst 1, 1) := by decide +kernel
theorem dX4_readAt_8 : decode cX4_readAt 8 = .ok (.isub, 1) := by decide +kernel
theorem dX4_readAt_9 : decode cX4_readAt 9 = .ok (.istore_n 3, 1) := by decide +kernel
theorem dX4_readAt_10 : decode cX4_readAt 10 = .ok (.aload_n 0, 1) := by decide +kernel
theorem dX4_readAt_11 : decode cX4_readAt 11 = .ok (.iload_n 2, 1) := by decide +kernel
theorem dX4_readAt_12 : decode cX4_readAt 12 = .ok (.iconst 1, 1) := by decide +kernel
theorem dX4_readAt_13 : decode cX4_readAt 13 = .ok (.invokestatic 53, 3) := by decide +kernel
theorem dX4_readAt_16 : decode cX4_readAt 16 = .ok (.iaload, 1) := by decide +kernel
theorem dX4_readAt_17 : decode cX4_readAt 17 = .ok (.ifCond .ne 28, 3) := by decide +kernel
theorem dX4_readAt_20 : decode cX4_readAt 20 = .ok (.aload_n 0, 1) := by decide +kernel
theorem dX4_readAt_21 : decode cX4_readAt 21 = .ok (.iload_n 2, 1) := by decide +kernel
theorem dX4_readAt_22 : decode cX4_readAt 22 = .ok (.iconst 3, 1) := by decide +kernel
theorem dX4_readAt_23 : decode cX4_readAt 23 = .ok (.invokestatic 53, 3) := by decide +kernel
theorem dX4_readAt_26 : decode cX4_readAt 26 = .ok (.iaload, 1) := by decide +kernel
theorem dX4_readAt_27 : decode cX4_readAt 27 = .ok (.ifCond .ne 18, 3) := by decide +kernel
theorem dX4_readAt_30 : decode cX4_readAt 30 = .ok (.aload_n 0, 1) := by decide +kernel
theorem dX4_readAt_31 : decode cX4_readAt 31 = .ok (.iload_n 3, 1) := by decide +kernel
theorem dX4_readAt_32 : decode cX4_readAt 32 = .ok (.iconst 3, 1) := by decide +kernel
theorem dX4_readAt_33 : decode cX4_readAt 33 = .ok (.invokestatic 56, 3) := by decide +kernel
theorem dX4_readAt_36 : decode cX4_readAt 36 = .ok (.iaload, 1) := by decide +kernel
theorem dX4_readAt_37 : decode cX4_readAt 37 = .ok (.iconst 1, 1) := by decide +kernel
theorem dX4_readAt_38 : decode cX4_readAt 38 = .ok (.if_icmp .ne 7, 3) := by decide +kernel
theorem dX4_readAt_41 : decode cX4_readAt 41 = .ok (.iconst 1, 1) := by decide +kernel
theorem dX4_readAt_42 : decode cX4_readAt 42 = .ok (.goto 4, 3) := by decide +kernel
theorem dX4_readAt_45 : decode cX4_readAt 45 = .ok (.iconst 0, 1) := by decide +kernel
theorem dX4_readAt_46 : decode cX4_readAt 46 = .ok (.istore 4, 2) := by decide +kernel
theorem dX4_readAt_48 : decode cX4_readAt 48 = .ok (.aload_n 0, 1) := by decide +kernel
theorem dX4_readAt_49 : decode cX4_readAt 49 = .ok (.iload_n 2, 1) := by decide +kernel
theorem dX4_readAt_50 : decode cX4_readAt 50 = .ok (.iconst 2, 1) := by decide +kernel
theorem dX4_readAt_51 : decode cX4_readAt 51 = .ok (.invokestatic 53, 3) := by decide +kernel
theorem dX4_readAt_54 : decode cX4_readAt 54 = .ok (.dup2, 1) := by decide +kernel
theorem dX4_readAt_55 : decode cX4_readAt 55 = .ok (.iaload, 1) := by decide +kernel
theorem dX4_readAt_56 : decode cX4_readAt 56 = .ok (.iload 4, 2) := by decide +kernel
theorem dX4_readAt_58 : decode cX4_readAt 58 = .ok (.ifCond .eq 7, 3) := by decide +kernel
theorem dX4_readAt_61 : decode cX4_readAt 61 = .ok (.iconst 1, 1) := by decide +kernel
theorem dX4_readAt_62 : decode cX4_readAt 62 = .ok (.goto 4, 3) := by decide +kernel
theorem dX4_readAt_65 : decode cX4_readAt 65 = .ok (.iconst 0, 1) := by decide +kernel
theorem dX4_readAt_66 : decode cX4_readAt 66 = .ok (.iadd, 1) := by decide +kernel
theorem dX4_readAt_67 : decode cX4_readAt 67 = .ok (.iastore, 1) := by decide +kernel
theorem dX4_readAt_68 : decode cX4_readAt 68 = .ok (.iload 4, 2) := by decide +kernel
theorem dX4_readAt_70 : decode cX4_readAt 70 = .ok (.ifCond .eq 56, 3) := by decide +kernel
theorem dX4_readAt_73 : decode cX4_readAt 73 = .ok (.aload_n 0, 1) := by decide +kernel
theorem dX4_readAt_74 : decode cX4_readAt 74 = .ok (.iload_n 2, 1) := by decide +kernel
theorem dX4_readAt_75 : decode cX4_readAt 75 = .ok (.iconst 2, 1) := by decide +kernel
theorem dX4_readAt_76 : decode cX4_readAt 76 = .ok (.invokestatic 53, 3) := by decide +kernel
theorem dX4_readAt_79 : decode cX4_readAt 79 = .ok (.iaload, 1) := by decide +kernel
theorem dX4_readAt_80 : decode cX4_readAt 80 = .ok (.aload_n 0, 1) := by decide +kernel
theorem dX4_readAt_81 : decode cX4_readAt 81 = .ok (.sipush 196, 3) := by decide +kernel
theorem dX4_readAt_84 : decode cX4_readAt 84 = .ok (.iaload, 1) := by decide +kernel
theorem dX4_readAt_85 : decode cX4_readAt 85 = .ok (.if_icmp .lt 41, 3) := by decide +kernel
theorem dX4_readAt_88 : decode cX4_readAt 88 = .ok (.aload_n 0, 1) := by decide +kernel
theorem dX4_readAt_89 : decode cX4_readAt 89 = .ok (.iload_n 2, 1) := by decide +kernel
theorem dX4_readAt_90 : decode cX4_readAt 90 = .ok (.iconst 3, 1) := by decide +kernel
theorem dX4_readAt_91 : decode cX4_readAt 91 = .ok (.invokestatic 53, 3) := by decide +kernel
theorem dX4_readAt_94 : decode cX4_readAt 94 = .ok (.iconst 1, 1) := by decide +kernel
theorem dX4_readAt_95 : decode cX4_readAt 95 = .ok (.iastore, 1) := by decide +kernel
theorem dX4_readAt_96 : decode cX4_readAt 96 = .ok (.aload_n 0, 1) := by decide +kernel
theorem dX4_readAt_97 : decode cX4_readAt 97 = .ok (.sipush 136, 3) := by decide +kernel
theorem dX4_readAt_100 : decode cX4_readAt 100 = .ok (.bipush 20, 2) := by decide +kernel
theorem dX4_readAt_102 : decode cX4_readAt 102 = .ok (.iload_n 1, 1) := by decide +kernel
theorem dX4_readAt_103 : decode cX4_readAt 103 = .ok (.imul, 1) := by decide +kernel
theorem dX4_readAt_104 : decode cX4_readAt 104 = .ok (.iadd, 1) := by decide +kernel
theorem dX4_readAt_105 : decode cX4_readAt 105 = .ok (.aload_n 0, 1) := by decide +kernel
theorem dX4_readAt_106 : decode cX4_readAt 106 = .ok (.iload_n 1, 1) := by decide +kernel
theorem dX4_readAt_107 : decode cX4_readAt 107 = .ok (.iconst 2, 1) := by decide +kernel
theorem dX4_readAt_108 : decode cX4_readAt 108 = .ok (.invokestatic 42, 3) := by decide +kernel
theorem dX4_readAt_111 : decode cX4_readAt 111 = .ok (.iaload, 1) := by decide +kernel
theorem dX4_readAt_112 : decode cX4_readAt 112 = .ok (.iadd, 1) := by decide +kernel
theorem dX4_readAt_113 : decode cX4_readAt 113 = .ok (.iload_n 2, 1) := by decide +kernel
theorem dX4_readAt_114 : decode cX4_readAt 114 = .ok (.iastore, 1) := by decide +kernel
theorem dX4_readAt_115 : decode cX4_readAt 115 = .ok (.aload_n 0, 1) := by decide +kernel
theorem dX4_readAt_116 : decode cX4_readAt 116 = .ok (.iload_n 1, 1) := by decide +kernel
theorem dX4_readAt_117 : decode cX4_readAt 117 = .ok (.iconst 2, 1) := by decide +kernel
theorem dX4_readAt_118 : decode cX4_readAt 118 = .ok (.invokestatic 42, 3) := by decide +kernel
theorem dX4_readAt_121 : decode cX4_readAt 121 = .ok (.dup2, 1) := by decide +kernel
theorem dX4_readAt_122 : decode cX4_readAt 122 = .ok (.iaload, 1) := by decide +kernel
theorem dX4_readAt_123 : decode cX4_readAt 123 = .ok (.iconst 1, 1) := by decide +kernel
theorem dX4_readAt_124 : decode cX4_readAt 124 = .ok (.iadd, 1) := by decide +kernel
theorem dX4_readAt_125 : decode cX4_readAt 125 = .ok (.iastore, 1) := by decide +kernel
theorem dX4_readAt_126 : decode cX4_readAt 126 = .ok (.return_, 1) := by decide +kernel
set_option maxRecDepth 20000 in
theorem ggX4_cry_X4_gateAt : GoodIn wsX4_cry wsX4_gateAt := goodIn_r _ [4] (by decide +kernel) (by decide +kernel)
set_option maxRecDepth 20000 in
theorem gX4_cry_X4_gateAt : GoodIn wsX4_cry (va_wsS RX4 42 yX4_gateAt wsX4_gateAt) := goodIn_app (goodIn_of _ (by decide +kernel)) ggX4_cry_X4_gateAt
set_option maxRecDepth 20000 in
theorem ggX4_cry_X4_copy : GoodIn wsX4_cry wsX4_copy := goodIn_r _ [7] (by decide +kernel) (by decide +kernel)
set_option maxRecDepth 20000 in
theorem gX4_cry_X4_copy : GoodIn wsX4_cry (va_wsS RX4 49 yX4_copy wsX4_copy) := goodIn_app (goodIn_of _ (by decide +kernel)) ggX4_cry_X4_copy
set_option maxRecDepth 20000 in
theorem ggX4_cry_X4_bookAt : GoodIn wsX4_cry wsX4_bookAt := goodIn_r _ [10] (by decide +kernel) (by decide +kernel)
set_option maxRecDepth 20000 in
theorem gX4_cry_X4_bookAt : GoodIn wsX4_cry (va_wsS RX4 53 yX4_bookAt wsX4_bookAt) := goodIn_app (goodIn_of _ (by decide +kernel)) ggX4_cry_X4_bookAt
theorem dX4_cry_0 : decode cX4_cry 0 = .ok (.aload_n 0, 1) := by decide +kernel
theorem dX4_cry_1 : decode cX4_cry 1 = .ok (.sipush 136, 3) := by decide +kernel
theorem dX4_cry_4 : decode cX4_cry 4 = .ok (.bipush 20, 2) := by decide +kernel
theorem dX4_cry_6 : decode cX4_cry 6 = .ok (.iload_n 1, 1) := by decide +kernel
theorem dX4_cry_7 : decode cX4_cry 7 = .ok (.imul, 1) := by decide +kernel
theorem dX4_cry_8 : decode cX4_cry 8 = .ok (.iadd, 1) := by decide +kernel
theorem dX4_cry_9 : decode cX4_cry 9 = .ok (.iaload, 1) := by decide +kernel
theorem dX4_cry_10 : decode cX4_cry 10 = .ok (.istore_n 2, 1) := by decide +kernel
theorem dX4_cry_11 : decode cX4_cry 11 = .ok (.aload_n 0, 1) := by decide +kernel
theorem dX4_cry_12 : decode cX4_cry 12 = .ok (.iload_n 1, 1) := by decide +kernel
theorem dX4_cry_13 : decode cX4_cry 13 = .ok (.iconst 2, 1) := by decide +kernel
theorem dX4_cry_14 : decode cX4_cry 14 = .ok (.invokestatic 42, 3) := by decide +kernel
theorem dX4_cry_17 : decode cX4_cry 17 = .ok (.dup2, 1) := by decide +kernel
theorem dX4_cry_18 : decode cX4_cry 18 = .ok (.iaload, 1) := by decide +kernel
theorem dX4_cry_19 : decode cX4_cry 19 = .ok (.iconst 1, 1) := by decide +kernel
theorem dX4_cry_20 : decode cX4_cry 20 = .ok (.isub, 1) := by decide +kernel
theorem dX4_cry_21 : decode cX4_cry 21 = .ok (.iastore, 1) := by decide +kernel
theorem dX4_cry_22 : decode cX4_cry 22 = .ok (.aload_n 0, 1) := by decide +kernel
theorem dX4_cry_23 : decode cX4_cry 23 = .ok (.sipush 136, 3) := by decide +kernel
theorem dX4_cry_26 : decode cX4_cry 26 = .ok (.bipush 20, 2) := by decide +kernel
theorem dX4_cry_28 : decode cX4_cry 28 = .ok (.iload_n 1, 1) := by decide +kernel
theorem dX4_cry_29 : decode cX4_cry 29 = .ok (.imul, 1) := by decide +kernel
theorem dX4_cry_30 : decode cX4_cry 30 = .ok (.iadd, 1) := by decide +kernel
theorem dX4_cry_31 : decode cX4_cry 31 = .ok (.iconst 1, 1) := by decide +kernel
theorem dX4_cry_32 : decode cX4_cry 32 = .ok (.iadd, 1) := by decide +kernel
theorem dX4_cry_33 : decode cX4_cry 33 = .ok (.aload_n 0, 1) := by decide +kernel
theorem dX4_cry_34 : decode cX4_cry 34 = .ok (.sipush 136, 3) := by decide +kernel
theorem dX4_cry_37 : decode cX4_cry 37 = .ok (.bipush 20, 2) := by decide +kernel
theorem dX4_cry_39 : decode cX4_cry 39 = .ok (.iload_n 1, 1) := by decide +kernel
theorem dX4_cry_40 : decode cX4_cry 40 = .ok (.imul, 1) := by decide +kernel
theorem dX4_cry_41 : decode cX4_cry 41 = .ok (.iadd, 1) := by decide +kernel
theorem dX4_cry_42 : decode cX4_cry 42 = .ok (.aload_n 0, 1) := by decide +kernel
theorem dX4_cry_43 : decode cX4_cry 43 = .ok (.iload_n 1, 1) := by decide +kernel
theorem dX4_cry_44 : decode cX4_cry 44 = .ok (.iconst 2, 1) := by decide +kernel
theorem dX4_cry_45 : decode cX4_cry 45 = .ok (.invokestatic 42, 3) := by decide +kernel
theorem dX4_cry_48 : decode cX4_cry 48 = .ok (.iaload, 1) := by decide +kernel
theorem dX4_cry_49 : decode cX4_cry 49 = .ok (.invokestatic 49, 3) := by decide +kernel
theorem dX4_cry_52 : decode cX4_cry 52 = .ok (.aload_n 0, 1) := by decide +kernel
theorem dX4_cry_53 : decode cX4_cry 53 = .ok (.iload_n 1, 1) := by decide +kernel
theorem dX4_cry_54 : decode cX4_cry 54 = .ok (.iconst 3, 1) := by decide +kernel
theorem dX4_cry_55 : decode cX4_cry 55 = .ok (.invokestatic 42, 3) := by decide +kernel
theorem dX4_cry_58 : decode cX4_cry 58 = .ok (.dup2, 1) := by decide +kernel
theorem dX4_cry_59 : decode cX4_cry 59 = .ok (.iaload, 1) := by decide +kernel
theorem dX4_cry_60 : decode cX4_cry 60 = .ok (.iconst 1, 1) := by decide +kernel
theorem dX4_cry_61 : decode cX4_cry 61 = .ok (.iadd, 1) := by decide +kernel
theorem dX4_cry_62 : decode cX4_cry 62 = .ok (.iastore, 1) := by decide +kernel
theorem dX4_cry_63 : decode cX4_cry 63 = .ok (.aload_n 0, 1) := by decide +kernel
theorem dX4_cry_64 : decode cX4_cry 64 = .ok (.iload_n 2, 1) := by decide +kernel
theorem dX4_cry_65 : decode cX4_cry 65 = .ok (.iconst 4, 1) := by decide +kernel
theorem dX4_cry_66 : decode cX4_cry 66 = .ok (.invokestatic 53, 3) := by decide +kernel
theorem dX4_cry_69 : decode cX4_cry 69 = .ok (.dup2, 1) := by decide +kernel
theorem dX4_cry_70 : decode cX4_cry 70 = .ok (.iaload, 1) := by decide +kernel
theorem dX4_cry_71 : decode cX4_cry 71 = .ok (.iconst 1, 1) := by decide +kernel
theorem dX4_cry_72 : decode cX4_cry 72 = .ok (.iadd, 1) := by decide +kernel
theorem dX4_cry_73 : decode cX4_cry 73 = .ok (.iastore, 1) := by decide +kernel
theorem dX4_cry_74 : decode cX4_cry 74 = .ok (.aload_n 0, 1) := by decide +kernel
theorem dX4_cry_75 : decode cX4_cry 75 = .ok (.sipush 199, 3) := by decide +kernel
theorem dX4_cry_78 : decode cX4_cry 78 = .ok (.dup2, 1) := by decide +kernel
theorem dX4_cry_79 : decode cX4_cry 79 = .ok (.iaload, 1) := by decide +kernel
theorem dX4_cry_80 : decode cX4_cry 80 = .ok (.iconst 1, 1) := by decide +kernel
theorem dX4_cry_81 : decode cX4_cry 81 = .ok (.iadd, 1) := by decide +kernel
theorem dX4_cry_82 : decode cX4_cry 82 = .ok (.iastore, 1) := by decide +kernel
theorem dX4_cry_83 : decode cX4_cry 83 = .ok (.aload_n 0, 1) := by decide +kernel
theorem dX4_cry_84 : decode cX4_cry 84 = .ok (.iload_n 1, 1) := by decide +kernel
theorem dX4_cry_85 : decode cX4_cry 85 = .ok (.iconst 1, 1) := by decide +kernel
theorem dX4_cry_86 : decode cX4_cry 86 = .ok (.invokestatic 42, 3) := by decide +kernel
theorem dX4_cry_89 : decode cX4_cry 89 = .ok (.aload_n 0, 1) := by decide +kernel
theorem dX4_cry_90 : decode cX4_cry 90 = .ok (.sipush 197, 3) := by decide +kernel
theorem dX4_cry_93 : decode cX4_cry 93 = .ok (.iaload, 1) := by decide +kernel
theorem dX4_cry_94 : decode cX4_cry 94 = .ok (.iastore, 1) := by decide +kernel
theorem dX4_cry_95 : decode cX4_cry 95 = .ok (.bipush 29, 2) := by decide +kernel
theorem dX4_cry_97 : decode cX4_cry 97 = .ok (.istore_n 3, 1) := by decide +kernel
theorem dX4_cry_98 : decode cX4_cry 98 = .ok (.iload_n 3, 1) := by decide +kernel
theorem dX4_cry_99 : decode cX4_cry 99 = .ok (.iconst 2, 1) := by decide +kernel
theorem dX4_cry_100 : decode cX4_cry 100 = .ok (.if_icmp .le 25, 3) := by decide +kernel
theorem dX4_cry_103 : decode cX4_cry 103 = .ok (.aload_n 0, 1) := by decide +kernel
theorem dX4_cry_104 : decode cX4_cry 104 = .ok (.sipush 203, 3) := by decide +kernel
theorem dX4_cry_107 : decode cX4_cry 107 = .ok (.iload_n 3, 1) := by decide +kernel
theorem dX4_cry_108 : decode cX4_cry 108 = .ok (.iadd, 1) := by decide +kernel
theorem dX4_cry_109 : decode cX4_cry 109 = .ok (.aload_n 0, 1) := by decide +kernel
theorem dX4_cry_110 : decode cX4_cry 110 = .ok (.sipush 203, 3) := by decide +kernel
theorem dX4_cry_113 : decode cX4_cry 113 = .ok (.iload_n 3, 1) := by decide +kernel
theorem dX4_cry_114 : decode cX4_cry 114 = .ok (.iadd, 1) := by decide +kernel
theorem dX4_cry_115 : decode cX4_cry 115 = .ok (.iconst 3, 1) := by decide +kernel
theorem dX4_cry_116 : decode cX4_cry 116 = .ok (.isub, 1) := by decide +kernel
theorem dX4_cry_117 : decode cX4_cry 117 = .ok (.iaload, 1) := by decide +kernel
theorem dX4_cry_118 : decode cX4_cry 118 = .ok (.iastore, 1) := by decide +kernel
theorem dX4_cry_119 : decode cX4_cry 119 = .ok (.iinc 3 (-1), 3) := by decide +kernel
theorem dX4_cry_122 : decode cX4_cry 122 = .ok (.goto (-24), 3) := by decide +kernel
theorem dX4_cry_125 : decode cX4_cry 125 = .ok (.aload_n 0, 1) := by decide +kernel
theorem dX4_cry_126 : decode cX4_cry 126 = .ok (.sipush 203, 3) := by decide +kernel
theorem dX4_cry_129 : decode cX4_cry 129 = .ok (.iload_n 1, 1) := by decide +kernel
theorem dX4_cry_130 : decode cX4_cry 130 = .ok (.iastore, 1) := by decide +kernel
theorem dX4_cry_131 : decode cX4_cry 131 = .ok (.aload_n 0, 1) := by decide +kernel
theorem dX4_cry_132 : decode cX4_cry 132 = .ok (.sipush 204, 3) := by decide +kernel
theorem dX4_cry_135 : decode cX4_cry 135 = .ok (.iload_n 2, 1) := by decide +kernel
theorem dX4_cry_136 : decode cX4_cry 136 = .ok (.iastore, 1) := by decide +kernel
theorem dX4_cry_137 : decode cX4_cry 137 = .ok (.aload_n 0, 1) := by decide +kernel
theorem dX4_cry_138 : decode cX4_cry 138 = .ok (.sipush 205, 3) := by decide +kernel
theorem dX4_cry_141 : decode cX4_cry 141 = .ok (.aload_n 0, 1) := by decide +kernel
theorem dX4_cry_142 : decode cX4_cry 142 = .ok (.sipush 198, 3) := by decide +kernel
theorem dX4_cry_145 : decode cX4_cry 145 = .ok (.iaload, 1) := by decide +kernel
theorem dX4_cry_146 : decode cX4_cry 146 = .ok (.iastore, 1) := by decide +kernel
theorem dX4_cry_147 : decode cX4_cry 147 = .ok (.aload_n 0, 1) := by decide +kernel
theorem dX4_cry_148 : decode cX4_cry 148 = .ok (.sipush 202, 3) := by decide +kernel
theorem dX4_cry_151 : decode cX4_cry 151 = .ok (.dup2, 1) := by decide +kernel
theorem dX4_cry_152 : decode cX4_cry 152 = .ok (.iaload, 1) := by decide +kernel
theorem dX4_cry_153 : decode cX4_cry 153 = .ok (.aload_n 0, 1) := by decide +kernel
theorem dX4_cry_154 : decode cX4_cry 154 = .ok (.sipush 202, 3) := by decide +kernel
theorem dX4_cry_157 : decode cX4_cry 157 = .ok (.iaload, 1) := by decide +kernel
theorem dX4_cry_158 : decode cX4_cry 158 = .ok (.bipush 10, 2) := by decide +kernel
theorem dX4_cry_160 : decode cX4_cry 160 = .ok (.if_icmp .ge 7, 3) := by decide +kernel
theorem dX4_cry_163 : decode cX4_cry 163 = .ok (.iconst 1, 1) := by decide +kernel
theorem dX4_cry_164 : decode cX4_cry 164 = .ok (.goto 4, 3) := by decide +kernel
theorem dX4_cry_167 : decode cX4_cry 167 = .ok (.iconst 0, 1) := by decide +kernel
theorem dX4_cry_168 : decode cX4_cry 168 = .ok (.iadd, 1) := by decide +kernel
theorem dX4_cry_169 : decode cX4_cry 169 = .ok (.iastore, 1) := by decide +kernel
theorem dX4_cry_170 : decode cX4_cry 170 = .ok (.return_, 1) := by decide +kernel
set_option maxRecDepth 20000 in
theorem ggX4_tick_X4_visitorAt : GoodIn wsX4_tick wsX4_visitorAt := goodIn_r _ [4] (by decide +kernel) (by decide +kernel)
set_option maxRecDepth 20000 in
theorem gX4_tick_X4_visitorAt : GoodIn wsX4_tick (va_wsS RX4 56 yX4_visitorAt wsX4_visitorAt) := goodIn_app (goodIn_of _ (by decide +kernel)) ggX4_tick_X4_visitorAt
set_option maxRecDepth 20000 in
theorem ggX4_tick_X4_goOn : GoodIn wsX4_tick wsX4_goOn := goodIn_r _ [7, 8, 9, 1, 2, 3, 4, 10, 11, 12, 13, 14, 15, 16, 17, 18, 19, 20, 21, 22, 23, 24] (by decide +kernel) (by decide +kernel)
set_option maxRecDepth 20000 in
theorem gX4_tick_X4_goOn : GoodIn wsX4_tick (va_wsS RX4 89 yX4_goOn wsX4_goOn) := goodIn_app (goodIn_of _ (by decide +kernel)) ggX4_tick_X4_goOn
set_option maxRecDepth 20000 in
theorem ggX4_tick_X4_readsBook : GoodIn wsX4_tick wsX4_readsBook := goodIn_r _ [27, 16, 17, 3, 18, 28, 29, 30, 31, 1, 2, 4, 32, 33, 34, 22, 23, 24, 10, 11, 12] (by decide +kernel) (by decide +kernel)
set_option maxRecDepth 20000 in
theorem gX4_tick_X4_readsBook : GoodIn wsX4_tick (va_wsS RX4 92 yX4_readsBook wsX4_readsBook) := goodIn_app (goodIn_of _ (by decide +kernel)) ggX4_tick_X4_readsBook
set_option maxRecDepth 20000 in
theorem ggX4_tick_X4_readAt : GoodIn wsX4_tick wsX4_readAt := goodIn_r _ [37, 16, 17, 3, 18, 1, 2, 4, 22, 23, 24] (by decide +kernel) (by decide +kernel)
set_option maxRecDepth 20000 in
theorem gX4_tick_X4_readAt : GoodIn wsX4_tick (va_wsS RX4 95 yX4_readAt wsX4_readAt) := goodIn_app (goodIn_of _ (by decide +kernel)) ggX4_tick_X4_readAt
set_option maxRecDepth 20000 in
theorem ggX4_tick_X4_gateAt : GoodIn wsX4_tick wsX4_gateAt := goodIn_r _ [24] (by decide +kernel) (by decide +kernel)
set_option maxRecDepth 20000 in
theorem gX4_tick_X4_gateAt : GoodIn wsX4_tick (va_wsS RX4 42 yX4_gateAt wsX4_gateAt) := goodIn_app (goodIn_of _ (by decide +kernel)) ggX4_tick_X4_gateAt
set_option maxRecDepth 20000 in
theorem ggX4_tick_X4_cry : GoodIn wsX4_tick wsX4_cry := goodIn_r _ [40, 22, 23, 3, 24, 41, 42, 43, 16, 17, 18] (by decide +kernel) (by decide +kernel)
set_option maxRecDepth 20000 in
theorem gX4_tick_X4_cry : GoodIn wsX4_tick (va_wsS RX4 99 yX4_cry wsX4_cry) := goodIn_app (goodIn_of _ (by decide +kernel)) ggX4_tick_X4_cry
theorem dX4_tick_0 : decode cX4_tick 0 = .ok (.aload_n 0, 1) := by decide +kernel
theorem dX4_tick_1 : decode cX4_tick 1 = .ok (.sipush 198, 3) := by decide +kernel
theorem dX4_tick_4 : decode cX4_tick 4 = .ok (.dup2, 1) := by decide +kernel
theorem dX4_tick_5 : decode cX4_tick 5 = .ok (.iaload, 1) := by decide +kernel
theorem dX4_tick_6 : decode cX4_tick 6 = .ok (.iconst 1, 1) := by decide +kernel
theorem dX4_tick_7 : decode cX4_tick 7 = .ok (.iadd, 1) := by decide +kernel
theorem dX4_tick_8 : decode cX4_tick 8 = .ok (.iastore, 1) := by decide +kernel
theorem dX4_tick_9 : decode cX4_tick 9 = .ok (.iconst 0, 1) := by decide +kernel
theorem dX4_tick_10 : decode cX4_tick 10 = .ok (.istore_n 1, 1) := by decide +kernel
theorem dX4_tick_11 : decode cX4_tick 11 = .ok (.iload_n 1, 1) := by decide +kernel
theorem dX4_tick_12 : decode cX4_tick 12 = .ok (.bipush 6, 2) := by decide +kernel
theorem dX4_tick_14 : decode cX4_tick 14 = .ok (.if_icmp .ge 25, 3) := by decide +kernel
theorem dX4_tick_17 : decode cX4_tick 17 = .ok (.aload_n 0, 1) := by decide +kernel
theorem dX4_tick_18 : decode cX4_tick 18 = .ok (.iload_n 1, 1) := by decide +kernel
theorem dX4_tick_19 : decode cX4_tick 19 = .ok (.iconst 0, 1) := by decide +kernel
theorem dX4_tick_20 : decode cX4_tick 20 = .ok (.invokestatic 56, 3) := by decide +kernel
theorem dX4_tick_23 : decode cX4_tick 23 = .ok (.iaload, 1) := by decide +kernel
theorem dX4_tick_24 : decode cX4_tick 24 = .ok (.iconst 1, 1) := by decide +kernel
theorem dX4_tick_25 : decode cX4_tick 25 = .ok (.if_icmp .ne 8, 3) := by decide +kernel
theorem dX4_tick_28 : decode cX4_tick 28 = .ok (.aload_n 0, 1) := by decide +kernel
theorem dX4_tick_29 : decode cX4_tick 29 = .ok (.iload_n 1, 1) := by decide +kernel
theorem dX4_tick_30 : decode cX4_tick 30 = .ok (.invokestatic 89, 3) := by decide +kernel
theorem dX4_tick_33 : decode cX4_tick 33 = .ok (.iinc 1 1, 3) := by decide +kernel
theorem dX4_tick_36 : decode cX4_tick 36 = .ok (.goto (-25), 3) := by decide +kernel
theorem dX4_tick_39 : decode cX4_tick 39 = .ok (.iconst 0, 1) := by decide +kernel
theorem dX4_tick_40 : decode cX4_tick 40 = .ok (.istore_n 1, 1) := by decide +kernel
theorem dX4_tick_41 : decode cX4_tick 41 = .ok (.iload_n 1, 1) := by decide +kernel
theorem dX4_tick_42 : decode cX4_tick 42 = .ok (.iconst 3, 1) := by decide +kernel
theorem dX4_tick_43 : decode cX4_tick 43 = .ok (.if_icmp .ge 38, 3) := by decide +kernel
theorem dX4_tick_46 : decode cX4_tick 46 = .ok (.iconst 0, 1) := by decide +kernel
theorem dX4_tick_47 : decode cX4_tick 47 = .ok (.istore_n 2, 1) := by decide +kernel
theorem dX4_tick_48 : decode cX4_tick 48 = .ok (.iload_n 2, 1) := by decide +kernel
theorem dX4_tick_49 : decode cX4_tick 49 = .ok (.bipush 20, 2) := by decide +kernel
theorem dX4_tick_51 : decode cX4_tick 51 = .ok (.if_icmp .ge 24, 3) := by decide +kernel
theorem dX4_tick_54 : decode cX4_tick 54 = .ok (.aload_n 0, 1) := by decide +kernel
theorem dX4_tick_55 : decode cX4_tick 55 = .ok (.iload_n 1, 1) := by decide +kernel
theorem dX4_tick_56 : decode cX4_tick 56 = .ok (.iload_n 2, 1) := by decide +kernel
theorem dX4_tick_57 : decode cX4_tick 57 = .ok (.invokestatic 92, 3) := by decide +kernel
theorem dX4_tick_60 : decode cX4_tick 60 = .ok (.ifCond .eq 9, 3) := by decide +kernel
theorem dX4_tick_63 : decode cX4_tick 63 = .ok (.aload_n 0, 1) := by decide +kernel
theorem dX4_tick_64 : decode cX4_tick 64 = .ok (.iload_n 1, 1) := by decide +kernel
theorem dX4_tick_65 : decode cX4_tick 65 = .ok (.iload_n 2, 1) := by decide +kernel
theorem dX4_tick_66 : decode cX4_tick 66 = .ok (.invokestatic 95, 3) := by decide +kernel
theorem dX4_tick_69 : decode cX4_tick 69 = .ok (.iinc 2 1, 3) := by decide +kernel
theorem dX4_tick_72 : decode cX4_tick 72 = .ok (.goto (-24), 3) := by decide +kernel
theorem dX4_tick_75 : decode cX4_tick 75 = .ok (.iinc 1 1, 3) := by decide +kernel
theorem dX4_tick_78 : decode cX4_tick 78 = .ok (.goto (-37), 3) := by decide +kernel
theorem dX4_tick_81 : decode cX4_tick 81 = .ok (.iconst 0, 1) := by decide +kernel
theorem dX4_tick_82 : decode cX4_tick 82 = .ok (.istore_n 1, 1) := by decide +kernel
theorem dX4_tick_83 : decode cX4_tick 83 = .ok (.iload_n 1, 1) := by decide +kernel
theorem dX4_tick_84 : decode cX4_tick 84 = .ok (.iconst 3, 1) := by decide +kernel
theorem dX4_tick_85 : decode cX4_tick 85 = .ok (.if_icmp .ge 48, 3) := by decide +kernel
theorem dX4_tick_88 : decode cX4_tick 88 = .ok (.aload_n 0, 1) := by decide +kernel
theorem dX4_tick_89 : decode cX4_tick 89 = .ok (.iload_n 1, 1) := by decide +kernel
theorem dX4_tick_90 : decode cX4_tick 90 = .ok (.iconst 1, 1) := by decide +kernel
theorem dX4_tick_91 : decode cX4_tick 91 = .ok (.invokestatic 42, 3) := by decide +kernel
theorem dX4_tick_94 : decode cX4_tick 94 = .ok (.iaload, 1) := by decide +kernel
theorem dX4_tick_95 : decode cX4_tick 95 = .ok (.ifCond .le 17, 3) := by decide +kernel
theorem dX4_tick_98 : decode cX4_tick 98 = .ok (.aload_n 0, 1) := by decide +kernel
theorem dX4_tick_99 : decode cX4_tick 99 = .ok (.iload_n 1, 1) := by decide +kernel
theorem dX4_tick_100 : decode cX4_tick 100 = .ok (.iconst 1, 1) := by decide +kernel
theorem dX4_tick_101 : decode cX4_tick 101 = .ok (.invokestatic 42, 3) := by decide +kernel
theorem dX4_tick_104 : decode cX4_tick 104 = .ok (.dup2, 1) := by decide +kernel
theorem dX4_tick_105 : decode cX4_tick 105 = .ok (.iaload, 1) := by decide +kernel
theorem dX4_tick_106 : decode cX4_tick 106 = .ok (.iconst 1, 1) := by decide +kernel
theorem dX4_tick_107 : decode cX4_tick 107 = .ok (.isub, 1) := by decide +kernel
theorem dX4_tick_108 : decode cX4_tick 108 = .ok (.iastore, 1) := by decide +kernel
theorem dX4_tick_109 : decode cX4_tick 109 = .ok (.goto 18, 3) := by decide +kernel
theorem dX4_tick_112 : decode cX4_tick 112 = .ok (.aload_n 0, 1) := by decide +kernel
theorem dX4_tick_113 : decode cX4_tick 113 = .ok (.iload_n 1, 1) := by decide +kernel
theorem dX4_tick_114 : decode cX4_tick 114 = .ok (.iconst 2, 1) := by decide +kernel
theorem dX4_tick_115 : decode cX4_tick 115 = .ok (.invokestatic 42, 3) := by decide +kernel
theorem dX4_tick_118 : decode cX4_tick 118 = .ok (.iaload, 1) := by decide +kernel
theorem dX4_tick_119 : decode cX4_tick 119 = .ok (.ifCond .le 8, 3) := by decide +kernel
theorem dX4_tick_122 : decode cX4_tick 122 = .ok (.aload_n 0, 1) := by decide +kernel
theorem dX4_tick_123 : decode cX4_tick 123 = .ok (.iload_n 1, 1) := by decide +kernel
theorem dX4_tick_124 : decode cX4_tick 124 = .ok (.invokestatic 99, 3) := by decide +kernel
theorem dX4_tick_127 : decode cX4_tick 127 = .ok (.iinc 1 1, 3) := by decide +kernel
theorem dX4_tick_130 : decode cX4_tick 130 = .ok (.goto (-47), 3) := by decide +kernel
theorem dX4_tick_133 : decode cX4_tick 133 = .ok (.return_, 1) := by decide +kernel
set_option maxRecDepth 20000 in
theorem ggX4_ticksIn_X4_tick : GoodIn wsX4_ticksIn wsX4_tick := goodIn_r _ [4, 5, 6, 3, 7, 8, 9, 10, 11, 12, 13, 14, 15, 16, 17, 18, 19, 20, 21, 22, 23, 24, 25, 26, 27, 28, 29, 30, 31, 32, 33, 34, 35, 36, 37, 38, 39, 40, 41, 42, 43, 44, 45, 46] (by decide +kernel) (by decide +kernel)
set_option maxRecDepth 20000 in
theorem gX4_ticksIn_X4_tick : GoodIn wsX4_ticksIn (va_wsS RX4 102 yX4_tick wsX4_tick) := goodIn_app (goodIn_of _ (by decide +kernel)) ggX4_ticksIn_X4_tick
theorem dX4_ticksIn_0 : decode cX4_ticksIn 0 = .ok (.aload_n 0, 1) := by decide +kernel
theorem dX4_ticksIn_1 : decode cX4_ticksIn 1 = .ok (.sipush 199, 3) := by decide +kernel
theorem dX4_ticksIn_4 : decode cX4_ticksIn 4 = .ok (.iaload, 1) := by decide +kernel
theorem dX4_ticksIn_5 : decode cX4_ticksIn 5 = .ok (.istore_n 2, 1) := by decide +kernel
theorem dX4_ticksIn_6 : decode cX4_ticksIn 6 = .ok (.iconst 0, 1) := by decide +kernel
theorem dX4_ticksIn_7 : decode cX4_ticksIn 7 = .ok (.istore_n 3, 1) := by decide +kernel
theorem dX4_ticksIn_8 : decode cX4_ticksIn 8 = .ok (.iload_n 3, 1) := by decide +kernel
theorem dX4_ticksIn_9 : decode cX4_ticksIn 9 = .ok (.iload_n 1, 1) := by decide +kernel
theorem dX4_ticksIn_10 : decode cX4_ticksIn 10 = .ok (.if_icmp .ge 13, 3) := by decide +kernel
theorem dX4_ticksIn_13 : decode cX4_ticksIn 13 = .ok (.aload_n 0, 1) := by decide +kernel
theorem dX4_ticksIn_14 : decode cX4_ticksIn 14 = .ok (.invokestatic 102, 3) := by decide +kernel
theorem dX4_ticksIn_17 : decode cX4_ticksIn 17 = .ok (.iinc 3 1, 3) := by decide +kernel
theorem dX4_ticksIn_20 : decode cX4_ticksIn 20 = .ok (.goto (-12), 3) := by decide +kernel
theorem dX4_ticksIn_23 : decode cX4_ticksIn 23 = .ok (.aload_n 0, 1) := by decide +kernel
theorem dX4_ticksIn_24 : decode cX4_ticksIn 24 = .ok (.sipush 199, 3) := by decide +kernel
theorem dX4_ticksIn_27 : decode cX4_ticksIn 27 = .ok (.iaload, 1) := by decide +kernel
theorem dX4_ticksIn_28 : decode cX4_ticksIn 28 = .ok (.iload_n 2, 1) := by decide +kernel
theorem dX4_ticksIn_29 : decode cX4_ticksIn 29 = .ok (.isub, 1) := by decide +kernel
theorem dX4_ticksIn_30 : decode cX4_ticksIn 30 = .ok (.ireturn, 1) := by decide +kernel
set_option maxRecDepth 20000 in
theorem ggX4_canTake_X4_bookAt : GoodIn wsX4_canTake wsX4_bookAt := goodIn_r _ [4] (by decide +kernel) (by decide +kernel)
set_option maxRecDepth 20000 in
theorem gX4_canTake_X4_bookAt : GoodIn wsX4_canTake (va_wsS RX4 53 yX4_bookAt wsX4_bookAt) := goodIn_app (goodIn_of _ (by decide +kernel)) ggX4_canTake_X4_bookAt
set_option maxRecDepth 20000 in
theorem ggX4_canTake_X4_isInside : GoodIn wsX4_canTake wsX4_isInside := goodIn_r _ [7, 8, 9, 3, 10] (by decide +kernel) (by decide +kernel)
set_option maxRecDepth 20000 in
theorem gX4_canTake_X4_isInside : GoodIn wsX4_canTake (va_wsS RX4 59 yX4_isInside wsX4_isInside) := goodIn_app (goodIn_of _ (by decide +kernel)) ggX4_canTake_X4_isInside
set_option maxRecDepth 20000 in
theorem ggX4_canTake_X4_bag : GoodIn wsX4_canTake wsX4_bag := goodIn_r _ [13, 1, 2, 3, 4] (by decide +kernel) (by decide +kernel)
set_option maxRecDepth 20000 in
theorem gX4_canTake_X4_bag : GoodIn wsX4_canTake (va_wsS RX4 63 yX4_bag wsX4_bag) := goodIn_app (goodIn_of _ (by decide +kernel)) ggX4_canTake_X4_bag
theorem dX4_canTake_0 : decode cX4_canTake 0 = .ok (.aload_n 0, 1) := by decide +kernel
theorem dX4_canTake_1 : decode cX4_canTake 1 = .ok (.iload_n 2, 1) := by decide +kernel
theorem dX4_canTake_2 : decode cX4_canTake 2 = .ok (.iconst 0, 1) := by decide +kernel
theorem dX4_canTake_3 : decode cX4_canTake 3 = .ok (.invokestatic 53, 3) := by decide +kernel
theorem dX4_canTake_6 : decode cX4_canTake 6 = .ok (.iaload, 1) := by decide +kernel
theorem dX4_canTake_7 : decode cX4_canTake 7 = .ok (.ifCond .ne 25, 3) := by decide +kernel
theorem dX4_canTake_10 : decode cX4_canTake 10 = .ok (.aload_n 0, 1) := by decide +kernel
theorem dX4_canTake_11 : decode cX4_canTake 11 = .ok (.iload_n 1, 1) := by decide +kernel
theorem dX4_canTake_12 : decode cX4_canTake 12 = .ok (.invokestatic 59, 3) := by decide +kernel
theorem dX4_canTake_15 : decode cX4_canTake 15 = .ok (.ifCond .eq 17, 3) := by decide +kernel
theorem dX4_canTake_18 : decode cX4_canTake 18 = .ok (.aload_n 0, 1) := by decide +kernel
theorem dX4_canTake_19 : decode cX4_canTake 19 = .ok (.iload_n 1, 1) := by decide +kernel
theorem dX4_canTake_20 : decode cX4_canTake 20 = .ok (.invokestatic 63, 3) := by decide +kernel
theorem dX4_canTake_23 : decode cX4_canTake 23 = .ok (.bipush 6, 2) := by decide +kernel
theorem dX4_canTake_25 : decode cX4_canTake 25 = .ok (.if_icmp .ge 7, 3) := by decide +kernel
theorem dX4_canTake_28 : decode cX4_canTake 28 = .ok (.iconst 1, 1) := by decide +kernel
theorem dX4_canTake_29 : decode cX4_canTake 29 = .ok (.goto 4, 3) := by decide +kernel
theorem dX4_canTake_32 : decode cX4_canTake 32 = .ok (.iconst 0, 1) := by decide +kernel
theorem dX4_canTake_33 : decode cX4_canTake 33 = .ok (.ireturn, 1) := by decide +kernel
set_option maxRecDepth 20000 in
theorem ggX4_canPutBack_X4_bookAt : GoodIn wsX4_canPutBack wsX4_bookAt := goodIn_r _ [4] (by decide +kernel) (by decide +kernel)
set_option maxRecDepth 20000 in
theorem gX4_canPutBack_X4_bookAt : GoodIn wsX4_canPutBack (va_wsS RX4 53 yX4_bookAt wsX4_bookAt) := goodIn_app (goodIn_of _ (by decide +kernel)) ggX4_canPutBack_X4_bookAt
set_option maxRecDepth 20000 in
theorem ggX4_canPutBack_X4_isBookInside : GoodIn wsX4_canPutBack wsX4_isBookInside := goodIn_r _ [7, 1, 2, 3, 4, 8, 9, 10, 11, 12, 13] (by decide +kernel) (by decide +kernel)
set_option maxRecDepth 20000 in
theorem gX4_canPutBack_X4_isBookInside : GoodIn wsX4_canPutBack (va_wsS RX4 105 yX4_isBookInside wsX4_isBookInside) := goodIn_app (goodIn_of _ (by decide +kernel)) ggX4_canPutBack_X4_isBookInside
theorem dX4_canPutBack_0 : decode cX4_canPutBack 0 = .ok (.aload_n 0, 1) := by decide +kernel
theorem dX4_canPutBack_1 : decode cX4_canPutBack 1 = .ok (.iload_n 1, 1) := by decide +kernel
theorem dX4_canPutBack_2 : decode cX4_canPutBack 2 = .ok (.iconst 0, 1) := by decide +kernel
theorem dX4_canPutBack_3 : decode cX4_canPutBack 3 = .ok (.invokestatic 53, 3) := by decide +kernel
theorem dX4_canPutBack_6 : decode cX4_canPutBack 6 = .ok (.iaload, 1) := by decide +kernel
theorem dX4_canPutBack_7 : decode cX4_canPutBack 7 = .ok (.ifCond .le 15, 3) := by decide +kernel
theorem dX4_canPutBack_10 : decode cX4_canPutBack 10 = .ok (.aload_n 0, 1) := by decide +kernel
theorem dX4_canPutBack_11 : decode cX4_canPutBack 11 = .ok (.iload_n 1, 1) := by decide +kernel
theorem dX4_canPutBack_12 : decode cX4_canPutBack 12 = .ok (.invokestatic 105, 3) := by decide +kernel
theorem dX4_canPutBack_15 : decode cX4_canPutBack 15 = .ok (.ifCond .eq 7, 3) := by decide +kernel
theorem dX4_canPutBack_18 : decode cX4_canPutBack 18 = .ok (.iconst 1, 1) := by decide +kernel
theorem dX4_canPutBack_19 : decode cX4_canPutBack 19 = .ok (.goto 4, 3) := by decide +kernel
theorem dX4_canPutBack_22 : decode cX4_canPutBack 22 = .ok (.iconst 0, 1) := by decide +kernel
theorem dX4_canPutBack_23 : decode cX4_canPutBack 23 = .ok (.ireturn, 1) := by decide +kernel
set_option maxRecDepth 20000 in
theorem ggX4_canBorrow_X4_bookAt : GoodIn wsX4_canBorrow wsX4_bookAt := goodIn_r _ [4] (by decide +kernel) (by decide +kernel)
set_option maxRecDepth 20000 in
theorem gX4_canBorrow_X4_bookAt : GoodIn wsX4_canBorrow (va_wsS RX4 53 yX4_bookAt wsX4_bookAt) := goodIn_app (goodIn_of _ (by decide +kernel)) ggX4_canBorrow_X4_bookAt
set_option maxRecDepth 20000 in
theorem ggX4_canBorrow_X4_isBookInside : GoodIn wsX4_canBorrow wsX4_isBookInside := goodIn_r _ [7, 1, 2, 3, 4, 8, 9, 10, 11, 12, 13] (by decide +kernel) (by decide +kernel)
set_option maxRecDepth 20000 in
theorem gX4_canBorrow_X4_isBookInside : GoodIn wsX4_canBorrow (va_wsS RX4 105 yX4_isBookInside wsX4_isBookInside) := goodIn_app (goodIn_of _ (by decide +kernel)) ggX4_canBorrow_X4_isBookInside
theorem dX4_canBorrow_0 : decode cX4_canBorrow 0 = .ok (.aload_n 0, 1) := by decide +kernel
theorem dX4_canBorrow_1 : decode cX4_canBorrow 1 = .ok (.iload_n 1, 1) := by decide +kernel
theorem dX4_canBorrow_2 : decode cX4_canBorrow 2 = .ok (.iconst 1, 1) := by decide +kernel
theorem dX4_canBorrow_3 : decode cX4_canBorrow 3 = .ok (.invokestatic 53, 3) := by decide +kernel
theorem dX4_canBorrow_6 : decode cX4_canBorrow 6 = .ok (.iaload, 1) := by decide +kernel
theorem dX4_canBorrow_7 : decode cX4_canBorrow 7 = .ok (.iload_n 2, 1) := by decide +kernel
theorem dX4_canBorrow_8 : decode cX4_canBorrow 8 = .ok (.if_icmp .eq 15, 3) := by decide +kernel
theorem dX4_canBorrow_11 : decode cX4_canBorrow 11 = .ok (.aload_n 0, 1) := by decide +kernel
theorem dX4_canBorrow_12 : decode cX4_canBorrow 12 = .ok (.iload_n 1, 1) := by decide +kernel
theorem dX4_canBorrow_13 : decode cX4_canBorrow 13 = .ok (.invokestatic 105, 3) := by decide +kernel
theorem dX4_canBorrow_16 : decode cX4_canBorrow 16 = .ok (.ifCond .eq 7, 3) := by decide +kernel
theorem dX4_canBorrow_19 : decode cX4_canBorrow 19 = .ok (.iconst 1, 1) := by decide +kernel
theorem dX4_canBorrow_20 : decode cX4_canBorrow 20 = .ok (.goto 4, 3) := by decide +kernel
theorem dX4_canBorrow_23 : decode cX4_canBorrow 23 = .ok (.iconst 0, 1) := by decide +kernel
theorem dX4_canBorrow_24 : decode cX4_canBorrow 24 = .ok (.ireturn, 1) := by decide +kernel
set_option maxRecDepth 20000 in
theorem ggX4_borrowed_X4_bookAt : GoodIn wsX4_borrowed wsX4_bookAt := goodIn_r _ [4] (by decide +kernel) (by decide +kernel)
set_option maxRecDepth 20000 in
theorem gX4_borrowed_X4_bookAt : GoodIn wsX4_borrowed (va_wsS RX4 53 yX4_bookAt wsX4_bookAt) := goodIn_app (goodIn_of _ (by decide +kernel)) ggX4_borrowed_X4_bookAt
theorem dX4_borrowed_0 : decode cX4_borrowed 0 = .ok (.iconst 0, 1) := by decide +kernel
theorem dX4_borrowed_1 : decode cX4_borrowed 1 = .ok (.istore_n 1, 1) := by decide +kernel
theorem dX4_borrowed_2 : decode cX4_borrowed 2 = .ok (.iconst 0, 1) := by decide +kernel
theorem dX4_borrowed_3 : decode cX4_borrowed 3 = .ok (.istore_n 2, 1) := by decide +kernel
theorem dX4_borrowed_4 : decode cX4_borrowed 4 = .ok (.iload_n 2, 1) := by decide +kernel
theorem dX4_borrowed_5 : decode cX4_borrowed 5 = .ok (.bipush 20, 2) := by decide +kernel
theorem dX4_borrowed_7 : decode cX4_borrowed 7 = .ok (.if_icmp .ge 19, 3) := by decide +kernel
theorem dX4_borrowed_10 : decode cX4_borrowed 10 = .ok (.iload_n 1, 1) := by decide +kernel
theorem dX4_borrowed_11 : decode cX4_borrowed 11 = .ok (.aload_n 0, 1) := by decide +kernel
theorem dX4_borrowed_12 : decode cX4_borrowed 12 = .ok (.iload_n 2, 1) := by decide +kernel
theorem dX4_borrowed_13 : decode cX4_borrowed 13 = .ok (.iconst 1, 1) := by decide +kernel
theorem dX4_borrowed_14 : decode cX4_borrowed 14 = .ok (.invokestatic 53, 3) := by decide +kernel
theorem dX4_borrowed_17 : decode cX4_borrowed 17 = .ok (.iaload, 1) := by decide +kernel
theorem dX4_borrowed_18 : decode cX4_borrowed 18 = .ok (.iadd, 1) := by decide +kernel
theorem dX4_borrowed_19 : decode cX4_borrowed 19 = .ok (.istore_n 1, 1) := by decide +kernel
theorem dX4_borrowed_20 : decode cX4_borrowed 20 = .ok (.iinc 2 1, 3) := by decide +kernel
theorem dX4_borrowed_23 : decode cX4_borrowed 23 = .ok (.goto (-19), 3) := by decide +kernel
theorem dX4_borrowed_26 : decode cX4_borrowed 26 = .ok (.iload_n 1, 1) := by decide +kernel
theorem dX4_borrowed_27 : decode cX4_borrowed 27 = .ok (.ireturn, 1) := by decide +kernel
set_option maxRecDepth 20000 in
theorem ggX4_canWalk_X4_visitorAt : GoodIn wsX4_canWalk wsX4_visitorAt := goodIn_r _ [4] (by decide +kernel) (by decide +kernel)
set_option maxRecDepth 20000 in
theorem gX4_canWalk_X4_visitorAt : GoodIn wsX4_canWalk (va_wsS RX4 56 yX4_visitorAt wsX4_visitorAt) := goodIn_app (goodIn_of _ (by decide +kernel)) ggX4_canWalk_X4_visitorAt
theorem dX4_canWalk_0 : decode cX4_canWalk 0 = .ok (.aload_n 0, 1) := by decide +kernel
theorem dX4_canWalk_1 : decode cX4_canWalk 1 = .ok (.iload_n 1, 1) := by decide +kernel
theorem dX4_canWalk_2 : decode cX4_canWalk 2 = .ok (.iconst 0, 1) := by decide +kernel
theorem dX4_canWalk_3 : decode cX4_canWalk 3 = .ok (.invokestatic 56, 3) := by decide +kernel
theorem dX4_canWalk_6 : decode cX4_canWalk 6 = .ok (.iaload, 1) := by decide +kernel
theorem dX4_canWalk_7 : decode cX4_canWalk 7 = .ok (.iload_n 2, 1) := by decide +kernel
theorem dX4_canWalk_8 : decode cX4_canWalk 8 = .ok (.ifCond .eq 7, 3) := by decide +kernel
theorem dX4_canWalk_11 : decode cX4_canWalk 11 = .ok (.iconst 0, 1) := by decide +kernel
theorem dX4_canWalk_12 : decode cX4_canWalk 12 = .ok (.goto 4, 3) := by decide +kernel
theorem dX4_canWalk_15 : decode cX4_canWalk 15 = .ok (.iconst 2, 1) := by decide +kernel
theorem dX4_canWalk_16 : decode cX4_canWalk 16 = .ok (.if_icmp .ne 7, 3) := by decide +kernel
theorem dX4_canWalk_19 : decode cX4_canWalk 19 = .ok (.iconst 1, 1) := by decide +kernel
theorem dX4_canWalk_20 : decode cX4_canWalk 20 = .ok (.goto 4, 3) := by decide +kernel
theorem dX4_canWalk_23 : decode cX4_canWalk 23 = .ok (.iconst 0, 1) := by decide +kernel
theorem dX4_canWalk_24 : decode cX4_canWalk 24 = .ok (.ireturn, 1) := by decide +kernel
set_option maxRecDepth 20000 in
theorem ggX4_walkIn_X4_visitorAt : GoodIn wsX4_walkIn wsX4_visitorAt := goodIn_r _ [4] (by decide +kernel) (by decide +kernel)
set_option maxRecDepth 20000 in
theorem gX4_walkIn_X4_visitorAt : GoodIn wsX4_walkIn (va_wsS RX4 56 yX4_visitorAt wsX4_visitorAt) := goodIn_app (goodIn_of _ (by decide +kernel)) ggX4_walkIn_X4_visitorAt
theorem dX4_walkIn_0 : decode cX4_walkIn 0 = .ok (.aload_n 0, 1) := by decide +kernel
theorem dX4_walkIn_1 : decode cX4_walkIn 1 = .ok (.iload_n 1, 1) := by decide +kernel
theorem dX4_walkIn_2 : decode cX4_walkIn 2 = .ok (.iconst 0, 1) := by decide +kernel
theorem dX4_walkIn_3 : decode cX4_walkIn 3 = .ok (.invokestatic 56, 3) := by decide +kernel
theorem dX4_walkIn_6 : decode cX4_walkIn 6 = .ok (.iconst 1, 1) := by decide +kernel
theorem dX4_walkIn_7 : decode cX4_walkIn 7 = .ok (.iastore, 1) := by decide +kernel
theorem dX4_walkIn_8 : decode cX4_walkIn 8 = .ok (.aload_n 0, 1) := by decide +kernel
theorem dX4_walkIn_9 : decode cX4_walkIn 9 = .ok (.iload_n 1, 1) := by decide +kernel
theorem dX4_walkIn_10 : decode cX4_walkIn 10 = .ok (.iconst 1, 1) := by decide +kernel
theorem dX4_walkIn_11 : decode cX4_walkIn 11 = .ok (.invokestatic 56, 3) := by decide +kernel
theorem dX4_walkIn_14 : decode cX4_walkIn 14 = .ok (.iload_n 2, 1) := by decide +kernel
theorem dX4_walkIn_15 : decode cX4_walkIn 15 = .ok (.iastore, 1) := by decide +kernel
theorem dX4_walkIn_16 : decode cX4_walkIn 16 = .ok (.aload_n 0, 1) := by decide +kernel
theorem dX4_walkIn_17 : decode cX4_walkIn 17 = .ok (.iload_n 1, 1) := by decide +kernel
theorem dX4_walkIn_18 : decode cX4_walkIn 18 = .ok (.iconst 2, 1) := by decide +kernel
theorem dX4_walkIn_19 : decode cX4_walkIn 19 = .ok (.invokestatic 56, 3) := by decide +kernel
theorem dX4_walkIn_22 : decode cX4_walkIn 22 = .ok (.iload_n 3, 1) := by decide +kernel
theorem dX4_walkIn_23 : decode cX4_walkIn 23 = .ok (.ifCond .eq 8, 3) := by decide +kernel
theorem dX4_walkIn_26 : decode cX4_walkIn 26 = .ok (.bipush (-3), 2) := by decide +kernel
theorem dX4_walkIn_28 : decode cX4_walkIn 28 = .ok (.goto 4, 3) := by decide +kernel
theorem dX4_walkIn_31 : decode cX4_walkIn 31 = .ok (.iconst 3, 1) := by decide +kernel
theorem dX4_walkIn_32 : decode cX4_walkIn 32 = .ok (.iastore, 1) := by decide +kernel
theorem dX4_walkIn_33 : decode cX4_walkIn 33 = .ok (.aload_n 0, 1) := by decide +kernel
theorem dX4_walkIn_34 : decode cX4_walkIn 34 = .ok (.iload_n 1, 1) := by decide +kernel
theorem dX4_walkIn_35 : decode cX4_walkIn 35 = .ok (.iconst 3, 1) := by decide +kernel
theorem dX4_walkIn_36 : decode cX4_walkIn 36 = .ok (.invokestatic 56, 3) := by decide +kernel
theorem dX4_walkIn_39 : decode cX4_walkIn 39 = .ok (.iload_n 3, 1) := by decide +kernel
theorem dX4_walkIn_40 : decode cX4_walkIn 40 = .ok (.ifCond .eq 7, 3) := by decide +kernel
theorem dX4_walkIn_43 : decode cX4_walkIn 43 = .ok (.iconst 1, 1) := by decide +kernel
theorem dX4_walkIn_44 : decode cX4_walkIn 44 = .ok (.goto 4, 3) := by decide +kernel
theorem dX4_walkIn_47 : decode cX4_walkIn 47 = .ok (.iconst 0, 1) := by decide +kernel
theorem dX4_walkIn_48 : decode cX4_walkIn 48 = .ok (.iastore, 1) := by decide +kernel
theorem dX4_walkIn_49 : decode cX4_walkIn 49 = .ok (.iconst 0, 1) := by decide +kernel
theorem dX4_walkIn_50 : decode cX4_walkIn 50 = .ok (.istore 4, 2) := by decide +kernel
theorem dX4_walkIn_52 : decode cX4_walkIn 52 = .ok (.iconst 0, 1) := by decide +kernel
theorem dX4_walkIn_53 : decode cX4_walkIn 53 = .ok (.istore 5, 2) := by decide +kernel
theorem dX4_walkIn_55 : decode cX4_walkIn 55 = .ok (.iload 5, 2) := by decide +kernel
theorem dX4_walkIn_57 : decode cX4_walkIn 57 = .ok (.bipush 6, 2) := by decide +kernel
theorem dX4_walkIn_59 : decode cX4_walkIn 59 = .ok (.if_icmp .ge 43, 3) := by decide +kernel
theorem dX4_walkIn_62 : decode cX4_walkIn 62 = .ok (.iload 4, 2) := by decide +kernel
theorem dX4_walkIn_64 : decode cX4_walkIn 64 = .ok (.aload_n 0, 1) := by decide +kernel
theorem dX4_walkIn_65 : decode cX4_walkIn 65 = .ok (.iload 5, 2) := by decide +kernel
theorem dX4_walkIn_67 : decode cX4_walkIn 67 = .ok (.iconst 0, 1) := by decide +kernel
theorem dX4_walkIn_68 : decode cX4_walkIn 68 = .ok (.invokestatic 56, 3) := by decide +kernel
theorem dX4_walkIn_71 : decode cX4_walkIn 71 = .ok (.iaload, 1) := by decide +kernel
theorem dX4_walkIn_72 : decode cX4_walkIn 72 = .ok (.iconst 1, 1) := by decide +kernel
theorem dX4_walkIn_73 : decode cX4_walkIn 73 = .ok (.if_icmp .ne 19, 3) := by decide +kernel
theorem dX4_walkIn_76 : decode cX4_walkIn 76 = .ok (.aload_n 0, 1) := by decide +kernel
theorem dX4_walkIn_77 : decode cX4_walkIn 77 = .ok (.iload 5, 2) := by decide +kernel
theorem dX4_walkIn_79 : decode cX4_walkIn 79 = .ok (.iconst 1, 1) := by decide +kernel
theorem dX4_walkIn_80 : decode cX4_walkIn 80 = .ok (.invokestatic 56, 3) := by decide +kernel
theorem dX4_walkIn_83 : decode cX4_walkIn 83 = .ok (.iaload, 1) := by decide +kernel
theorem dX4_walkIn_84 : decode cX4_walkIn 84 = .ok (.iload_n 2, 1) := by decide +kernel
theorem dX4_walkIn_85 : decode cX4_walkIn 85 = .ok (.if_icmp .ne 7, 3) := by decide +kernel
theorem dX4_walkIn_88 : decode cX4_walkIn 88 = .ok (.iconst 1, 1) := by decide +kernel
theorem dX4_walkIn_89 : decode cX4_walkIn 89 = .ok (.goto 4, 3) := by decide +kernel
theorem dX4_walkIn_92 : decode cX4_walkIn 92 = .ok (.iconst 0, 1) := by decide +kernel
theorem dX4_walkIn_93 : decode cX4_walkIn 93 = .ok (.iadd, 1) := by decide +kernel
theorem dX4_walkIn_94 : decode cX4_walkIn 94 = .ok (.istore 4, 2) := by decide +kernel
theorem dX4_walkIn_96 : decode cX4_walkIn 96 = .ok (.iinc 5 1, 3) := by decide +kernel
theorem dX4_walkIn_99 : decode cX4_walkIn 99 = .ok (.goto (-44), 3) := by decide +kernel
theorem dX4_walkIn_102 : decode cX4_walkIn 102 = .ok (.iload 4, 2) := by decide +kernel
theorem dX4_walkIn_104 : decode cX4_walkIn 104 = .ok (.ireturn, 1) := by decide +kernel
set_option maxRecDepth 20000 in
theorem ggX4_isAtGate_X4_visitorAt : GoodIn wsX4_isAtGate wsX4_visitorAt := goodIn_r _ [4] (by decide +kernel) (by decide +kernel)
set_option maxRecDepth 20000 in
theorem gX4_isAtGate_X4_visitorAt : GoodIn wsX4_isAtGate (va_wsS RX4 56 yX4_visitorAt wsX4_visitorAt) := goodIn_app (goodIn_of _ (by decide +kernel)) ggX4_isAtGate_X4_visitorAt
theorem dX4_isAtGate_0 : decode cX4_isAtGate 0 = .ok (.aload_n 0, 1) := by decide +kernel
theorem dX4_isAtGate_1 : decode cX4_isAtGate 1 = .ok (.iload_n 1, 1) := by decide +kernel
theorem dX4_isAtGate_2 : decode cX4_isAtGate 2 = .ok (.iconst 0, 1) := by decide +kernel
theorem dX4_isAtGate_3 : decode cX4_isAtGate 3 = .ok (.invokestatic 56, 3) := by decide +kernel
theorem dX4_isAtGate_6 : decode cX4_isAtGate 6 = .ok (.iaload, 1) := by decide +kernel
theorem dX4_isAtGate_7 : decode cX4_isAtGate 7 = .ok (.iconst 1, 1) := by decide +kernel
theorem dX4_isAtGate_8 : decode cX4_isAtGate 8 = .ok (.if_icmp .ne 7, 3) := by decide +kernel
theorem dX4_isAtGate_11 : decode cX4_isAtGate 11 = .ok (.iconst 1, 1) := by decide +kernel
theorem dX4_isAtGate_12 : decode cX4_isAtGate 12 = .ok (.goto 4, 3) := by decide +kernel
theorem dX4_isAtGate_15 : decode cX4_isAtGate 15 = .ok (.iconst 0, 1) := by decide +kernel
theorem dX4_isAtGate_16 : decode cX4_isAtGate 16 = .ok (.ireturn, 1) := by decide +kernel
set_option maxRecDepth 20000 in
theorem ggX4_turnIn_X4_visitorAt : GoodIn wsX4_turnIn wsX4_visitorAt := goodIn_r _ [4] (by decide +kernel) (by decide +kernel)
set_option maxRecDepth 20000 in
theorem gX4_turnIn_X4_visitorAt : GoodIn wsX4_turnIn (va_wsS RX4 56 yX4_visitorAt wsX4_visitorAt) := goodIn_app (goodIn_of _ (by decide +kernel)) ggX4_turnIn_X4_visitorAt
theorem dX4_turnIn_0 : decode cX4_turnIn 0 = .ok (.aload_n 0, 1) := by decide +kernel
theorem dX4_turnIn_1 : decode cX4_turnIn 1 = .ok (.iload_n 1, 1) := by decide +kernel
theorem dX4_turnIn_2 : decode cX4_turnIn 2 = .ok (.iconst 3, 1) := by decide +kernel
theorem dX4_turnIn_3 : decode cX4_turnIn 3 = .ok (.invokestatic 56, 3) := by decide +kernel
theorem dX4_turnIn_6 : decode cX4_turnIn 6 = .ok (.iconst 1, 1) := by decide +kernel
theorem dX4_turnIn_7 : decode cX4_turnIn 7 = .ok (.aload_n 0, 1) := by decide +kernel
theorem dX4_turnIn_8 : decode cX4_turnIn 8 = .ok (.iload_n 1, 1) := by decide +kernel
theorem dX4_turnIn_9 : decode cX4_turnIn 9 = .ok (.iconst 3, 1) := by decide +kernel
theorem dX4_turnIn_10 : decode cX4_turnIn 10 = .ok (.invokestatic 56, 3) := by decide +kernel
theorem dX4_turnIn_13 : decode cX4_turnIn 13 = .ok (.iaload, 1) := by decide +kernel
theorem dX4_turnIn_14 : decode cX4_turnIn 14 = .ok (.isub, 1) := by decide +kernel
theorem dX4_turnIn_15 : decode cX4_turnIn 15 = .ok (.iastore, 1) := by decide +kernel
theorem dX4_turnIn_16 : decode cX4_turnIn 16 = .ok (.aload_n 0, 1) := by decide +kernel
theorem dX4_turnIn_17 : decode cX4_turnIn 17 = .ok (.iload_n 1, 1) := by decide +kernel
theorem dX4_turnIn_18 : decode cX4_turnIn 18 = .ok (.iconst 3, 1) := by decide +kernel
theorem dX4_turnIn_19 : decode cX4_turnIn 19 = .ok (.invokestatic 56, 3) := by decide +kernel
theorem dX4_turnIn_22 : decode cX4_turnIn 22 = .ok (.iaload, 1) := by decide +kernel
theorem dX4_turnIn_23 : decode cX4_turnIn 23 = .ok (.ireturn, 1) := by decide +kernel
set_option maxRecDepth 20000 in
theorem ggX4_append_X4_in : GoodIn wsX4_append wsX4_in := goodIn_r _ [7] (by decide +kernel) (by decide +kernel)
set_option maxRecDepth 20000 in
theorem gX4_append_X4_in : GoodIn wsX4_append (va_wsS RX4 69 yX4_in wsX4_in) := goodIn_app (goodIn_of _ (by decide +kernel)) ggX4_append_X4_in
set_option maxRecDepth 20000 in
theorem ggX4_append_X4_refused : GoodIn wsX4_append wsX4_refused := goodIn_r _ [11, 12, 13, 14, 15, 16, 17, 18, 19, 20, 21, 22, 23, 24, 25] (by decide +kernel) (by decide +kernel)
set_option maxRecDepth 20000 in
theorem gX4_append_X4_refused : GoodIn wsX4_append (wsV RX4 113 RX4 yX4_refused wsX4_refused) := goodIn_app (goodIn_of _ (by decide +kernel)) ggX4_append_X4_refused
theorem dX4_append_0 : decode cX4_append 0 = .ok (.aload_n 0, 1) := by decide +kernel
theorem dX4_append_1 : decode cX4_append 1 = .ok (.iload_n 1, 1) := by decide +kernel
theorem dX4_append_2 : decode cX4_append 2 = .ok (.i2l, 1) := by decide +kernel
theorem dX4_append_3 : decode cX4_append 3 = .ok (.lconst 0, 1) := by decide +kernel
theorem dX4_append_4 : decode cX4_append 4 = .ok (.ldc2_w 108, 3) := by decide +kernel
theorem dX4_append_7 : decode cX4_append 7 = .ok (.invokestatic 69, 3) := by decide +kernel
theorem dX4_append_10 : decode cX4_append 10 = .ok (.ifCond .ne 7, 3) := by decide +kernel
theorem dX4_append_13 : decode cX4_append 13 = .ok (.iconst 1, 1) := by decide +kernel
theorem dX4_append_14 : decode cX4_append 14 = .ok (.goto 17, 3) := by decide +kernel
theorem dX4_append_17 : decode cX4_append 17 = .ok (.aload_n 0, 1) := by decide +kernel
theorem dX4_append_18 : decode cX4_append 18 = .ok (.getfield 110, 3) := by decide +kernel
theorem dX4_append_21 : decode cX4_append 21 = .ok (.bipush 120, 2) := by decide +kernel
theorem dX4_append_23 : decode cX4_append 23 = .ok (.if_icmp .ne 7, 3) := by decide +kernel
theorem dX4_append_26 : decode cX4_append 26 = .ok (.iconst 2, 1) := by decide +kernel
theorem dX4_append_27 : decode cX4_append 27 = .ok (.goto 4, 3) := by decide +kernel
theorem dX4_append_30 : decode cX4_append 30 = .ok (.iconst 0, 1) := by decide +kernel
theorem dX4_append_31 : decode cX4_append 31 = .ok (.invokevirtual 113, 3) := by decide +kernel
theorem dX4_append_34 : decode cX4_append 34 = .ok (.ifCond .eq 5, 3) := by decide +kernel
theorem dX4_append_37 : decode cX4_append 37 = .ok (.iconst 0, 1) := by decide +kernel
theorem dX4_append_38 : decode cX4_append 38 = .ok (.ireturn, 1) := by decide +kernel
theorem dX4_append_39 : decode cX4_append 39 = .ok (.aload_n 0, 1) := by decide +kernel
theorem dX4_append_40 : decode cX4_append 40 = .ok (.getfield 7, 3) := by decide +kernel
theorem dX4_append_43 : decode cX4_append 43 = .ok (.aload_n 0, 1) := by decide +kernel
theorem dX4_append_44 : decode cX4_append 44 = .ok (.getfield 110, 3) := by decide +kernel
theorem dX4_append_47 : decode cX4_append 47 = .ok (.iload_n 1, 1) := by decide +kernel
theorem dX4_append_48 : decode cX4_append 48 = .ok (.iastore, 1) := by decide +kernel
theorem dX4_append_49 : decode cX4_append 49 = .ok (.aload_n 0, 1) := by decide +kernel
theorem dX4_append_50 : decode cX4_append 50 = .ok (.dup, 1) := by decide +kernel
theorem dX4_append_51 : decode cX4_append 51 = .ok (.getfield 110, 3) := by decide +kernel
theorem dX4_append_54 : decode cX4_append 54 = .ok (.iconst 1, 1) := by decide +kernel
theorem dX4_append_55 : decode cX4_append 55 = .ok (.iadd, 1) := by decide +kernel
theorem dX4_append_56 : decode cX4_append 56 = .ok (.putfield 110, 3) := by decide +kernel
theorem dX4_append_59 : decode cX4_append 59 = .ok (.aload_n 0, 1) := by decide +kernel
theorem dX4_append_60 : decode cX4_append 60 = .ok (.getfield 110, 3) := by decide +kernel
theorem dX4_append_63 : decode cX4_append 63 = .ok (.ireturn, 1) := by decide +kernel
theorem dX4_clearText_0 : decode cX4_clearText 0 = .ok (.aload_n 0, 1) := by decide +kernel
theorem dX4_clearText_1 : decode cX4_clearText 1 = .ok (.iconst 0, 1) := by decide +kernel
theorem dX4_clearText_2 : decode cX4_clearText 2 = .ok (.putfield 36, 3) := by decide +kernel
theorem dX4_clearText_5 : decode cX4_clearText 5 = .ok (.aload_n 0, 1) := by decide +kernel
theorem dX4_clearText_6 : decode cX4_clearText 6 = .ok (.getfield 110, 3) := by decide +kernel
theorem dX4_clearText_9 : decode cX4_clearText 9 = .ok (.istore_n 1, 1) := by decide +kernel
theorem dX4_clearText_10 : decode cX4_clearText 10 = .ok (.aload_n 0, 1) := by decide +kernel
theorem dX4_clearText_11 : decode cX4_clearText 11 = .ok (.iconst 0, 1) := by decide +kernel
theorem dX4_clearText_12 : decode cX4_clearText 12 = .ok (.putfield 110, 3) := by decide +kernel
theorem dX4_clearText_15 : decode cX4_clearText 15 = .ok (.iload_n 1, 1) := by decide +kernel
theorem dX4_clearText_16 : decode cX4_clearText 16 = .ok (.ireturn, 1) := by decide +kernel
theorem dX4_accept_0 : decode cX4_accept 0 = .ok (.aload_n 0, 1) := by decide +kernel
theorem dX4_accept_1 : decode cX4_accept 1 = .ok (.aload_n 0, 1) := by decide +kernel
theorem dX4_accept_2 : decode cX4_accept 2 = .ok (.getfield 117, 3) := by decide +kernel
theorem dX4_accept_5 : decode cX4_accept 5 = .ok (.ifCond .eq 11, 3) := by decide +kernel
theorem dX4_accept_8 : decode cX4_accept 8 = .ok (.iload_n 1, 1) := by decide +kernel
theorem dX4_accept_9 : decode cX4_accept 9 = .ok (.ifCond .eq 7, 3) := by decide +kernel
theorem dX4_accept_12 : decode cX4_accept 12 = .ok (.iconst 1, 1) := by decide +kernel
theorem dX4_accept_13 : decode cX4_accept 13 = .ok (.goto 4, 3) := by decide +kernel
theorem dX4_accept_16 : decode cX4_accept 16 = .ok (.iconst 0, 1) := by decide +kernel
theorem dX4_accept_17 : decode cX4_accept 17 = .ok (.putfield 117, 3) := by decide +kernel
theorem dX4_accept_20 : decode cX4_accept 20 = .ok (.aload_n 0, 1) := by decide +kernel
theorem dX4_accept_21 : decode cX4_accept 21 = .ok (.dup, 1) := by decide +kernel
theorem dX4_accept_22 : decode cX4_accept 22 = .ok (.getfield 121, 3) := by decide +kernel
theorem dX4_accept_25 : decode cX4_accept 25 = .ok (.aload_n 0, 1) := by decide +kernel
theorem dX4_accept_26 : decode cX4_accept 26 = .ok (.getfield 117, 3) := by decide +kernel
theorem dX4_accept_29 : decode cX4_accept 29 = .ok (.ifCond .eq 7, 3) := by decide +kernel
theorem dX4_accept_32 : decode cX4_accept 32 = .ok (.iconst 1, 1) := by decide +kernel
theorem dX4_accept_33 : decode cX4_accept 33 = .ok (.goto 4, 3) := by decide +kernel
theorem dX4_accept_36 : decode cX4_accept 36 = .ok (.iconst 0, 1) := by decide +kernel
theorem dX4_accept_37 : decode cX4_accept 37 = .ok (.iadd, 1) := by decide +kernel
theorem dX4_accept_38 : decode cX4_accept 38 = .ok (.putfield 121, 3) := by decide +kernel
theorem dX4_accept_41 : decode cX4_accept 41 = .ok (.return_, 1) := by decide +kernel
set_option maxRecDepth 20000 in
theorem ggX4_digit_X4_in : GoodIn wsX4_digit wsX4_in := goodIn_r _ [9] (by decide +kernel) (by decide +kernel)
set_option maxRecDepth 20000 in
theorem gX4_digit_X4_in : GoodIn wsX4_digit (va_wsS RX4 69 yX4_in wsX4_in) := goodIn_app (goodIn_of _ (by decide +kernel)) ggX4_digit_X4_in
set_option maxRecDepth 20000 in
theorem ggX4_digit_X4_accept : GoodIn wsX4_digit wsX4_accept := goodIn_r _ [13, 5, 1, 14, 15, 16, 17, 18, 19, 20, 21, 22, 23, 24, 25, 26] (by decide +kernel) (by decide +kernel)
set_option maxRecDepth 20000 in
theorem gX4_digit_X4_accept : GoodIn wsX4_digit (wsV RX4 126 RX4 yX4_accept wsX4_accept) := goodIn_app (goodIn_of _ (by decide +kernel)) ggX4_digit_X4_accept
theorem dX4_digit_0 : decode cX4_digit 0 = .ok (.aload_n 0, 1) := by decide +kernel
theorem dX4_digit_1 : decode cX4_digit 1 = .ok (.getfield 121, 3) := by decide +kernel
theorem dX4_digit_4 : decode cX4_digit 4 = .ok (.aload_n 0, 1) := by decide +kernel
theorem dX4_digit_5 : decode cX4_digit 5 = .ok (.getfield 110, 3) := by decide +kernel
theorem dX4_digit_8 : decode cX4_digit 8 = .ok (.if_icmp .ge 18, 3) := by decide +kernel
theorem dX4_digit_11 : decode cX4_digit 11 = .ok (.aload_n 0, 1) := by decide +kernel
theorem dX4_digit_12 : decode cX4_digit 12 = .ok (.getfield 7, 3) := by decide +kernel
theorem dX4_digit_15 : decode cX4_digit 15 = .ok (.aload_n 0, 1) := by decide +kernel
theorem dX4_digit_16 : decode cX4_digit 16 = .ok (.getfield 121, 3) := by decide +kernel
theorem dX4_digit_19 : decode cX4_digit 19 = .ok (.iaload, 1) := by decide +kernel
theorem dX4_digit_20 : decode cX4_digit 20 = .ok (.bipush 48, 2) := by decide +kernel
theorem dX4_digit_22 : decode cX4_digit 22 = .ok (.isub, 1) := by decide +kernel
theorem dX4_digit_23 : decode cX4_digit 23 = .ok (.goto 5, 3) := by decide +kernel
theorem dX4_digit_26 : decode cX4_digit 26 = .ok (.bipush (-9), 2) := by decide +kernel
theorem dX4_digit_28 : decode cX4_digit 28 = .ok (.istore_n 3, 1) := by decide +kernel
theorem dX4_digit_29 : decode cX4_digit 29 = .ok (.aload_n 0, 1) := by decide +kernel
theorem dX4_digit_30 : decode cX4_digit 30 = .ok (.iload_n 3, 1) := by decide +kernel
theorem dX4_digit_31 : decode cX4_digit 31 = .ok (.i2l, 1) := by decide +kernel
theorem dX4_digit_32 : decode cX4_digit 32 = .ok (.lconst 0, 1) := by decide +kernel
theorem dX4_digit_33 : decode cX4_digit 33 = .ok (.ldc2_w 124, 3) := by decide +kernel
theorem dX4_digit_36 : decode cX4_digit 36 = .ok (.invokestatic 69, 3) := by decide +kernel
theorem dX4_digit_39 : decode cX4_digit 39 = .ok (.ifCond .eq 19, 3) := by decide +kernel
theorem dX4_digit_42 : decode cX4_digit 42 = .ok (.iload_n 3, 1) := by decide +kernel
theorem dX4_digit_43 : decode cX4_digit 43 = .ok (.i2l, 1) := by decide +kernel
theorem dX4_digit_44 : decode cX4_digit 44 = .ok (.iload_n 1, 1) := by decide +kernel
theorem dX4_digit_45 : decode cX4_digit 45 = .ok (.i2l, 1) := by decide +kernel
theorem dX4_digit_46 : decode cX4_digit 46 = .ok (.iload_n 2, 1) := by decide +kernel
theorem dX4_digit_47 : decode cX4_digit 47 = .ok (.i2l, 1) := by decide +kernel
theorem dX4_digit_48 : decode cX4_digit 48 = .ok (.invokestatic 69, 3) := by decide +kernel
theorem dX4_digit_51 : decode cX4_digit 51 = .ok (.ifCond .eq 7, 3) := by decide +kernel
theorem dX4_digit_54 : decode cX4_digit 54 = .ok (.iconst 1, 1) := by decide +kernel
theorem dX4_digit_55 : decode cX4_digit 55 = .ok (.goto 4, 3) := by decide +kernel
theorem dX4_digit_58 : decode cX4_digit 58 = .ok (.iconst 0, 1) := by decide +kernel
theorem dX4_digit_59 : decode cX4_digit 59 = .ok (.invokevirtual 126, 3) := by decide +kernel
theorem dX4_digit_62 : decode cX4_digit 62 = .ok (.aload_n 0, 1) := by decide +kernel
theorem dX4_digit_63 : decode cX4_digit 63 = .ok (.getfield 117, 3) := by decide +kernel
theorem dX4_digit_66 : decode cX4_digit 66 = .ok (.ifCond .eq 7, 3) := by decide +kernel
theorem dX4_digit_69 : decode cX4_digit 69 = .ok (.iload_n 3, 1) := by decide +kernel
theorem dX4_digit_70 : decode cX4_digit 70 = .ok (.goto 4, 3) := by decide +kernel
theorem dX4_digit_73 : decode cX4_digit 73 = .ok (.iload_n 1, 1) := by decide +kernel
theorem dX4_digit_74 : decode cX4_digit 74 = .ok (.ireturn, 1) := by decide +kernel
set_option maxRecDepth 20000 in
theorem ggX4_two_X4_digit : GoodIn wsX4_two wsX4_digit := goodIn_r _ [5, 6, 7, 8, 9, 10, 11, 12, 4, 13, 14, 15, 16, 17, 18, 19, 20, 21, 22, 23, 24, 25, 26, 27, 28, 29, 30] (by decide +kernel) (by decide +kernel)
set_option maxRecDepth 20000 in
theorem gX4_two_X4_digit : GoodIn wsX4_two (wsV RX4 130 RX4 yX4_digit wsX4_digit) := goodIn_app (goodIn_of _ (by decide +kernel)) ggX4_two_X4_digit
theorem dX4_two_0 : decode cX4_two 0 = .ok (.aload_n 0, 1) := by decide +kernel
theorem dX4_two_1 : decode cX4_two 1 = .ok (.iconst 0, 1) := by decide +kernel
theorem dX4_two_2 : decode cX4_two 2 = .ok (.iload_n 1, 1) := by decide +kernel
theorem dX4_two_3 : decode cX4_two 3 = .ok (.bipush 10, 2) := by decide +kernel
theorem dX4_two_5 : decode cX4_two 5 = .ok (.idiv, 1) := by decide +kernel
theorem dX4_two_6 : decode cX4_two 6 = .ok (.invokevirtual 130, 3) := by decide +kernel
theorem dX4_two_9 : decode cX4_two 9 = .ok (.istore_n 2, 1) := by decide +kernel
theorem dX4_two_10 : decode cX4_two 10 = .ok (.iload_n 1, 1) := by decide +kernel
theorem dX4_two_11 : decode cX4_two 11 = .ok (.bipush 10, 2) := by decide +kernel
theorem dX4_two_13 : decode cX4_two 13 = .ok (.iload_n 2, 1) := by decide +kernel
theorem dX4_two_14 : decode cX4_two 14 = .ok (.imul, 1) := by decide +kernel
theorem dX4_two_15 : decode cX4_two 15 = .ok (.isub, 1) := by decide +kernel
theorem dX4_two_16 : decode cX4_two 16 = .ok (.istore_n 3, 1) := by decide +kernel
theorem dX4_two_17 : decode cX4_two 17 = .ok (.bipush 10, 2) := by decide +kernel
theorem dX4_two_19 : decode cX4_two 19 = .ok (.iload_n 2, 1) := by decide +kernel
theorem dX4_two_20 : decode cX4_two 20 = .ok (.imul, 1) := by decide +kernel
theorem dX4_two_21 : decode cX4_two 21 = .ok (.aload_n 0, 1) := by decide +kernel
theorem dX4_two_22 : decode cX4_two 22 = .ok (.iconst 0, 1) := by decide +kernel
theorem dX4_two_23 : decode cX4_two 23 = .ok (.iload_n 3, 1) := by decide +kernel
theorem dX4_two_24 : decode cX4_two 24 = .ok (.bipush 9, 2) := by decide +kernel
theorem dX4_two_26 : decode cX4_two 26 = .ok (.if_icmp .le 8, 3) := by decide +kernel
theorem dX4_two_29 : decode cX4_two 29 = .ok (.bipush 9, 2) := by decide +kernel
theorem dX4_two_31 : decode cX4_two 31 = .ok (.goto 4, 3) := by decide +kernel
theorem dX4_two_34 : decode cX4_two 34 = .ok (.iload_n 3, 1) := by decide +kernel
theorem dX4_two_35 : decode cX4_two 35 = .ok (.invokevirtual 130, 3) := by decide +kernel
theorem dX4_two_38 : decode cX4_two 38 = .ok (.iadd, 1) := by decide +kernel
theorem dX4_two_39 : decode cX4_two 39 = .ok (.ireturn, 1) := by decide +kernel
theorem dX4_goes_0 : decode cX4_goes 0 = .ok (.aload_n 0, 1) := by decide +kernel
theorem dX4_goes_1 : decode cX4_goes 1 = .ok (.dup, 1) := by decide +kernel
theorem dX4_goes_2 : decode cX4_goes 2 = .ok (.getfield 133, 3) := by decide +kernel
theorem dX4_goes_5 : decode cX4_goes 5 = .ok (.aload_n 0, 1) := by decide +kernel
theorem dX4_goes_6 : decode cX4_goes 6 = .ok (.getfield 117, 3) := by decide +kernel
theorem dX4_goes_9 : decode cX4_goes 9 = .ok (.ifCond .eq 11, 3) := by decide +kernel
theorem dX4_goes_12 : decode cX4_goes 12 = .ok (.iload_n 1, 1) := by decide +kernel
theorem dX4_goes_13 : decode cX4_goes 13 = .ok (.ifCond .ne 7, 3) := by decide +kernel
theorem dX4_goes_16 : decode cX4_goes 16 = .ok (.iconst 1, 1) := by decide +kernel
theorem dX4_goes_17 : decode cX4_goes 17 = .ok (.goto 4, 3) := by decide +kernel
theorem dX4_goes_20 : decode cX4_goes 20 = .ok (.iconst 0, 1) := by decide +kernel
theorem dX4_goes_21 : decode cX4_goes 21 = .ok (.iadd, 1) := by decide +kernel
theorem dX4_goes_22 : decode cX4_goes 22 = .ok (.putfield 133, 3) := by decide +kernel
theorem dX4_goes_25 : decode cX4_goes 25 = .ok (.aload_n 0, 1) := by decide +kernel
theorem dX4_goes_26 : decode cX4_goes 26 = .ok (.getfield 117, 3) := by decide +kernel
theorem dX4_goes_29 : decode cX4_goes 29 = .ok (.ifCond .eq 11, 3) := by decide +kernel
theorem dX4_goes_32 : decode cX4_goes 32 = .ok (.iload_n 1, 1) := by decide +kernel
theorem dX4_goes_33 : decode cX4_goes 33 = .ok (.ifCond .eq 7, 3) := by decide +kernel
theorem dX4_goes_36 : decode cX4_goes 36 = .ok (.iconst 1, 1) := by decide +kernel
theorem dX4_goes_37 : decode cX4_goes 37 = .ok (.goto 4, 3) := by decide +kernel
theorem dX4_goes_40 : decode cX4_goes 40 = .ok (.iconst 0, 1) := by decide +kernel
theorem dX4_goes_41 : decode cX4_goes 41 = .ok (.ireturn, 1) := by decide +kernel
set_option maxRecDepth 20000 in
theorem ggX4_readBooks_X4_digit : GoodIn wsX4_readBooks wsX4_digit := goodIn_r _ [6, 7, 8, 9, 10, 11, 12, 13, 5, 14, 15, 16, 17, 18, 49, 50, 51, 52, 53, 54, 55, 56, 57, 58, 59, 60, 61] (by decide +kernel) (by decide +kernel)
set_option maxRecDepth 20000 in
theorem gX4_readBooks_X4_digit : GoodIn wsX4_readBooks (wsV RX4 130 RX4 yX4_digit wsX4_digit) := goodIn_app (goodIn_of _ (by decide +kernel)) ggX4_readBooks_X4_digit
set_option maxRecDepth 20000 in
theorem ggX4_readBooks_X4_two : GoodIn wsX4_readBooks wsX4_two := goodIn_r _ [22, 2, 3, 4, 5, 6, 7, 8, 9, 10, 11, 12, 13, 14, 15, 16, 17, 18, 49, 50, 51, 52, 53, 54, 55, 56, 57, 58, 59, 60, 61] (by decide +kernel) (by decide +kernel)
set_option maxRecDepth 20000 in
theorem gX4_readBooks_X4_two : GoodIn wsX4_readBooks (wsV RX4 136 RX4 yX4_two wsX4_two) := goodIn_app (goodIn_of _ (by decide +kernel)) ggX4_readBooks_X4_two
set_option maxRecDepth 20000 in
theorem ggX4_readBooks_X4_canTake : GoodIn wsX4_readBooks wsX4_canTake := goodIn_r _ [25, 26, 27, 5, 28, 29, 30, 31, 32, 33, 34, 35, 36, 37] (by decide +kernel) (by decide +kernel)
set_option maxRecDepth 20000 in
theorem gX4_readBooks_X4_canTake : GoodIn wsX4_readBooks (va_wsS RX4 140 yX4_canTake wsX4_canTake) := goodIn_app (goodIn_of _ (by decide +kernel)) ggX4_readBooks_X4_canTake
set_option maxRecDepth 20000 in
theorem ggX4_readBooks_X4_goes : GoodIn wsX4_readBooks wsX4_goes := goodIn_r _ [41, 42, 11, 49, 50, 51, 52, 53, 54, 55, 56, 57, 58, 59, 60, 61] (by decide +kernel) (by decide +kernel)
set_option maxRecDepth 20000 in
theorem gX4_readBooks_X4_goes : GoodIn wsX4_readBooks (wsV RX4 143 RX4 yX4_goes wsX4_goes) := goodIn_app (goodIn_of _ (by decide +kernel)) ggX4_readBooks_X4_goes
set_option maxRecDepth 20000 in
theorem ggX4_readBooks_X4_bookAt : GoodIn wsX4_readBooks wsX4_bookAt := goodIn_r _ [28] (by decide +kernel) (by decide +kernel)
set_option maxRecDepth 20000 in
theorem gX4_readBooks_X4_bookAt : GoodIn wsX4_readBooks (va_wsS RX4 53 yX4_bookAt wsX4_bookAt) := goodIn_app (goodIn_of _ (by decide +kernel)) ggX4_readBooks_X4_bookAt
set_option maxRecDepth 20000 in
theorem ggX4_readBooks_X4_canPutBack : GoodIn wsX4_readBooks wsX4_canPutBack := goodIn_r _ [45, 26, 27, 5, 28, 46, 47, 48, 29, 30, 31, 32, 33, 34] (by decide +kernel) (by decide +kernel)
set_option maxRecDepth 20000 in
theorem gX4_readBooks_X4_canPutBack : GoodIn wsX4_readBooks (va_wsS RX4 147 yX4_canPutBack wsX4_canPutBack) := goodIn_app (goodIn_of _ (by decide +kernel)) ggX4_readBooks_X4_canPutBack
set_option maxRecDepth 20000 in
theorem ggX4_readBooks_X4_isBookInside : GoodIn wsX4_readBooks wsX4_isBookInside := goodIn_r _ [48, 26, 27, 5, 28, 29, 30, 31, 32, 33, 34] (by decide +kernel) (by decide +kernel)
set_option maxRecDepth 20000 in
theorem gX4_readBooks_X4_isBookInside : GoodIn wsX4_readBooks (va_wsS RX4 105 yX4_isBookInside wsX4_isBookInside) := goodIn_app (goodIn_of _ (by decide +kernel)) ggX4_readBooks_X4_isBookInside
theorem dX4_readBooks_0 : decode cX4_readBooks 0 = .ok (.iload_n 1, 1) := by decide +kernel
theorem dX4_readBooks_1 : decode cX4_readBooks 1 = .ok (.bipush 116, 2) := by decide +kernel
theorem dX4_readBooks_3 : decode cX4_readBooks 3 = .ok (.if_icmp .ne 12, 3) := by decide +kernel
theorem dX4_readBooks_6 : decode cX4_readBooks 6 = .ok (.aload_n 0, 1) := by decide +kernel
theorem dX4_readBooks_7 : decode cX4_readBooks 7 = .ok (.iconst 0, 1) := by decide +kernel
theorem dX4_readBooks_8 : decode cX4_readBooks 8 = .ok (.iconst 5, 1) := by decide +kernel
theorem dX4_readBooks_9 : decode cX4_readBooks 9 = .ok (.invokevirtual 130, 3) := by decide +kernel
theorem dX4_readBooks_12 : decode cX4_readBooks 12 = .ok (.goto 4, 3) := by decide +kernel
theorem dX4_readBooks_15 : decode cX4_readBooks 15 = .ok (.iconst 0, 1) := by decide +kernel
theorem dX4_readBooks_16 : decode cX4_readBooks 16 = .ok (.istore_n 2, 1) := by decide +kernel
theorem dX4_readBooks_17 : decode cX4_readBooks 17 = .ok (.aload_n 0, 1) := by decide +kernel
theorem dX4_readBooks_18 : decode cX4_readBooks 18 = .ok (.bipush 19, 2) := by decide +kernel
theorem dX4_readBooks_20 : decode cX4_readBooks 20 = .ok (.invokevirtual 136, 3) := by decide +kernel
theorem dX4_readBooks_23 : decode cX4_readBooks 23 = .ok (.istore_n 3, 1) := by decide +kernel
theorem dX4_readBooks_24 : decode cX4_readBooks 24 = .ok (.iload_n 1, 1) := by decide +kernel
theorem dX4_readBooks_25 : decode cX4_readBooks 25 = .ok (.bipush 116, 2) := by decide +kernel
theorem dX4_readBooks_27 : decode cX4_readBooks 27 = .ok (.if_icmp .ne 35, 3) := by decide +kernel
theorem dX4_readBooks_30 : decode cX4_readBooks 30 = .ok (.aload_n 0, 1) := by decide +kernel
theorem dX4_readBooks_31 : decode cX4_readBooks 31 = .ok (.aload_n 0, 1) := by decide +kernel
theorem dX4_readBooks_32 : decode cX4_readBooks 32 = .ok (.getfield 13, 3) := by decide +kernel
theorem dX4_readBooks_35 : decode cX4_readBooks 35 = .ok (.iload_n 2, 1) := by decide +kernel
theorem dX4_readBooks_36 : decode cX4_readBooks 36 = .ok (.iload_n 3, 1) := by decide +kernel
theorem dX4_readBooks_37 : decode cX4_readBooks 37 = .ok (.invokestatic 140, 3) := by decide +kernel
theorem dX4_readBooks_40 : decode cX4_readBooks 40 = .ok (.invokevirtual 143, 3) := by decide +kernel
theorem dX4_readBooks_43 : decode cX4_readBooks 43 = .ok (.ifCond .eq 91, 3) := by decide +kernel
theorem dX4_readBooks_46 : decode cX4_readBooks 46 = .ok (.aload_n 0, 1) := by decide +kernel
theorem dX4_readBooks_47 : decode cX4_readBooks 47 = .ok (.getfield 13, 3) := by decide +kernel
theorem dX4_readBooks_50 : decode cX4_readBooks 50 = .ok (.iload_n 3, 1) := by decide +kernel
theorem dX4_readBooks_51 : decode cX4_readBooks 51 = .ok (.iconst 0, 1) := by decide +kernel
theorem dX4_readBooks_52 : decode cX4_readBooks 52 = .ok (.invokestatic 53, 3) := by decide +kernel
theorem dX4_readBooks_55 : decode cX4_readBooks 55 = .ok (.iload_n 2, 1) := by decide +kernel
theorem dX4_readBooks_56 : decode cX4_readBooks 56 = .ok (.iconst 1, 1) := by decide +kernel
theorem dX4_readBooks_57 : decode cX4_readBooks 57 = .ok (.iadd, 1) := by decide +kernel
theorem dX4_readBooks_58 : decode cX4_readBooks 58 = .ok (.iastore, 1) := by decide +kernel
theorem dX4_readBooks_59 : decode cX4_readBooks 59 = .ok (.goto 75, 3) := by decide +kernel
theorem dX4_readBooks_62 : decode cX4_readBooks 62 = .ok (.iload_n 1, 1) := by decide +kernel
theorem dX4_readBooks_63 : decode cX4_readBooks 63 = .ok (.bipush 112, 2) := by decide +kernel
theorem dX4_readBooks_65 : decode cX4_readBooks 65 = .ok (.if_icmp .ne 32, 3) := by decide +kernel
theorem dX4_readBooks_68 : decode cX4_readBooks 68 = .ok (.aload_n 0, 1) := by decide +kernel
theorem dX4_readBooks_69 : decode cX4_readBooks 69 = .ok (.aload_n 0, 1) := by decide +kernel
theorem dX4_readBooks_70 : decode cX4_readBooks 70 = .ok (.getfield 13, 3) := by decide +kernel
theorem dX4_readBooks_73 : decode cX4_readBooks 73 = .ok (.iload_n 3, 1) := by decide +kernel
theorem dX4_readBooks_74 : decode cX4_readBooks 74 = .ok (.invokestatic 147, 3) := by decide +kernel
theorem dX4_readBooks_77 : decode cX4_readBooks 77 = .ok (.invokevirtual 143, 3) := by decide +kernel
theorem dX4_readBooks_80 : decode cX4_readBooks 80 = .ok (.ifCond .eq 54, 3) := by decide +kernel
theorem dX4_readBooks_83 : decode cX4_readBooks 83 = .ok (.aload_n 0, 1) := by decide +kernel
theorem dX4_readBooks_84 : decode cX4_readBooks 84 = .ok (.getfield 13, 3) := by decide +kernel
theorem dX4_readBooks_87 : decode cX4_readBooks 87 = .ok (.iload_n 3, 1) := by decide +kernel
theorem dX4_readBooks_88 : decode cX4_readBooks 88 = .ok (.iconst 0, 1) := by decide +kernel
theorem dX4_readBooks_89 : decode cX4_readBooks 89 = .ok (.invokestatic 53, 3) := by decide +kernel
theorem dX4_readBooks_92 : decode cX4_readBooks 92 = .ok (.iconst 0, 1) := by decide +kernel
theorem dX4_readBooks_93 : decode cX4_readBooks 93 = .ok (.iastore, 1) := by decide +kernel
theorem dX4_readBooks_94 : decode cX4_readBooks 94 = .ok (.goto 40, 3) := by decide +kernel
theorem dX4_readBooks_97 : decode cX4_readBooks 97 = .ok (.aload_n 0, 1) := by decide +kernel
theorem dX4_readBooks_98 : decode cX4_readBooks 98 = .ok (.aload_n 0, 1) := by decide +kernel
theorem dX4_readBooks_99 : decode cX4_readBooks 99 = .ok (.getfield 13, 3) := by decide +kernel
theorem dX4_readBooks_102 : decode cX4_readBooks 102 = .ok (.iload_n 3, 1) := by decide +kernel
theorem dX4_readBooks_103 : decode cX4_readBooks 103 = .ok (.invokestatic 105, 3) := by decide +kernel
theorem dX4_readBooks_106 : decode cX4_readBooks 106 = .ok (.invokevirtual 143, 3) := by decide +kernel
theorem dX4_readBooks_109 : decode cX4_readBooks 109 = .ok (.ifCond .eq 25, 3) := by decide +kernel
theorem dX4_readBooks_112 : decode cX4_readBooks 112 = .ok (.aload_n 0, 1) := by decide +kernel
theorem dX4_readBooks_113 : decode cX4_readBooks 113 = .ok (.getfield 13, 3) := by decide +kernel
theorem dX4_readBooks_116 : decode cX4_readBooks 116 = .ok (.iload_n 3, 1) := by decide +kernel
theorem dX4_readBooks_117 : decode cX4_readBooks 117 = .ok (.iconst 1, 1) := by decide +kernel
theorem dX4_readBooks_118 : decode cX4_readBooks 118 = .ok (.invokestatic 53, 3) := by decide +kernel
theorem dX4_readBooks_121 : decode cX4_readBooks 121 = .ok (.iconst 1, 1) := by decide +kernel
theorem dX4_readBooks_122 : decode cX4_readBooks 122 = .ok (.aload_n 0, 1) := by decide +kernel
theorem dX4_readBooks_123 : decode cX4_readBooks 123 = .ok (.getfield 13, 3) := by decide +kernel
theorem dX4_readBooks_126 : decode cX4_readBooks 126 = .ok (.iload_n 3, 1) := by decide +kernel
theorem dX4_readBooks_127 : decode cX4_readBooks 127 = .ok (.iconst 1, 1) := by decide +kernel
theorem dX4_readBooks_128 : decode cX4_readBooks 128 = .ok (.invokestatic 53, 3) := by decide +kernel
theorem dX4_readBooks_131 : decode cX4_readBooks 131 = .ok (.iaload, 1) := by decide +kernel
theorem dX4_readBooks_132 : decode cX4_readBooks 132 = .ok (.isub, 1) := by decide +kernel
theorem dX4_readBooks_133 : decode cX4_readBooks 133 = .ok (.iastore, 1) := by decide +kernel
theorem dX4_readBooks_134 : decode cX4_readBooks 134 = .ok (.return_, 1) := by decide +kernel
set_option maxRecDepth 20000 in
theorem ggX4_readWays_X4_digit : GoodIn wsX4_readWays wsX4_digit := goodIn_r _ [6, 7, 8, 9, 10, 11, 12, 13, 5, 14, 15, 16, 17, 18, 39, 40, 41, 42, 43, 44, 45, 46, 47, 48, 49, 50, 51] (by decide +kernel) (by decide +kernel)
set_option maxRecDepth 20000 in
theorem gX4_readWays_X4_digit : GoodIn wsX4_readWays (wsV RX4 130 RX4 yX4_digit wsX4_digit) := goodIn_app (goodIn_of _ (by decide +kernel)) ggX4_readWays_X4_digit
set_option maxRecDepth 20000 in
theorem ggX4_readWays_X4_isAtGate : GoodIn wsX4_readWays wsX4_isAtGate := goodIn_r _ [21, 22, 23, 5, 24] (by decide +kernel) (by decide +kernel)
set_option maxRecDepth 20000 in
theorem gX4_readWays_X4_isAtGate : GoodIn wsX4_readWays (va_wsS RX4 150 yX4_isAtGate wsX4_isAtGate) := goodIn_app (goodIn_of _ (by decide +kernel)) ggX4_readWays_X4_isAtGate
set_option maxRecDepth 20000 in
theorem ggX4_readWays_X4_goes : GoodIn wsX4_readWays wsX4_goes := goodIn_r _ [28, 29, 11, 39, 40, 41, 42, 43, 44, 45, 46, 47, 48, 49, 50, 51] (by decide +kernel) (by decide +kernel)
set_option maxRecDepth 20000 in
theorem gX4_readWays_X4_goes : GoodIn wsX4_readWays (wsV RX4 143 RX4 yX4_goes wsX4_goes) := goodIn_app (goodIn_of _ (by decide +kernel)) ggX4_readWays_X4_goes
set_option maxRecDepth 20000 in
theorem ggX4_readWays_X4_turnIn : GoodIn wsX4_readWays wsX4_turnIn := goodIn_r _ [32, 22, 23, 5, 24] (by decide +kernel) (by decide +kernel)
set_option maxRecDepth 20000 in
theorem gX4_readWays_X4_turnIn : GoodIn wsX4_readWays (va_wsS RX4 153 yX4_turnIn wsX4_turnIn) := goodIn_app (goodIn_of _ (by decide +kernel)) ggX4_readWays_X4_turnIn
set_option maxRecDepth 20000 in
theorem ggX4_readWays_X4_canWalk : GoodIn wsX4_readWays wsX4_canWalk := goodIn_r _ [35, 22, 23, 5, 24] (by decide +kernel) (by decide +kernel)
set_option maxRecDepth 20000 in
theorem gX4_readWays_X4_canWalk : GoodIn wsX4_readWays (va_wsS RX4 156 yX4_canWalk wsX4_canWalk) := goodIn_app (goodIn_of _ (by decide +kernel)) ggX4_readWays_X4_canWalk
set_option maxRecDepth 20000 in
theorem ggX4_readWays_X4_walkIn : GoodIn wsX4_readWays wsX4_walkIn := goodIn_r _ [38, 22, 23, 5, 24] (by decide +kernel) (by decide +kernel)
set_option maxRecDepth 20000 in
theorem gX4_readWays_X4_walkIn : GoodIn wsX4_readWays (va_wsS RX4 160 yX4_walkIn wsX4_walkIn) := goodIn_app (goodIn_of _ (by decide +kernel)) ggX4_readWays_X4_walkIn
theorem dX4_readWays_0 : decode cX4_readWays 0 = .ok (.aload_n 0, 1) := by decide +kernel
theorem dX4_readWays_1 : decode cX4_readWays 1 = .ok (.iconst 0, 1) := by decide +kernel
theorem dX4_readWays_2 : decode cX4_readWays 2 = .ok (.iconst 5, 1) := by decide +kernel
theorem dX4_readWays_3 : decode cX4_readWays 3 = .ok (.invokevirtual 130, 3) := by decide +kernel
theorem dX4_readWays_6 : decode cX4_readWays 6 = .ok (.istore_n 2, 1) := by decide +kernel
theorem dX4_readWays_7 : decode cX4_readWays 7 = .ok (.iload_n 1, 1) := by decide +kernel
theorem dX4_readWays_8 : decode cX4_readWays 8 = .ok (.bipush 114, 2) := by decide +kernel
theorem dX4_readWays_10 : decode cX4_readWays 10 = .ok (.if_icmp .ne 28, 3) := by decide +kernel
theorem dX4_readWays_13 : decode cX4_readWays 13 = .ok (.aload_n 0, 1) := by decide +kernel
theorem dX4_readWays_14 : decode cX4_readWays 14 = .ok (.aload_n 0, 1) := by decide +kernel
theorem dX4_readWays_15 : decode cX4_readWays 15 = .ok (.getfield 13, 3) := by decide +kernel
theorem dX4_readWays_18 : decode cX4_readWays 18 = .ok (.iload_n 2, 1) := by decide +kernel
theorem dX4_readWays_19 : decode cX4_readWays 19 = .ok (.invokestatic 150, 3) := by decide +kernel
theorem dX4_readWays_22 : decode cX4_readWays 22 = .ok (.invokevirtual 143, 3) := by decide +kernel
theorem dX4_readWays_25 : decode cX4_readWays 25 = .ok (.ifCond .eq 12, 3) := by decide +kernel
theorem dX4_readWays_28 : decode cX4_readWays 28 = .ok (.aload_n 0, 1) := by decide +kernel
theorem dX4_readWays_29 : decode cX4_readWays 29 = .ok (.getfield 13, 3) := by decide +kernel
theorem dX4_readWays_32 : decode cX4_readWays 32 = .ok (.iload_n 2, 1) := by decide +kernel
theorem dX4_readWays_33 : decode cX4_readWays 33 = .ok (.invokestatic 153, 3) := by decide +kernel
theorem dX4_readWays_36 : decode cX4_readWays 36 = .ok (.pop, 1) := by decide +kernel
theorem dX4_readWays_37 : decode cX4_readWays 37 = .ok (.return_, 1) := by decide +kernel
theorem dX4_readWays_38 : decode cX4_readWays 38 = .ok (.aload_n 0, 1) := by decide +kernel
theorem dX4_readWays_39 : decode cX4_readWays 39 = .ok (.iconst 0, 1) := by decide +kernel
theorem dX4_readWays_40 : decode cX4_readWays 40 = .ok (.iconst 2, 1) := by decide +kernel
theorem dX4_readWays_41 : decode cX4_readWays 41 = .ok (.invokevirtual 130, 3) := by decide +kernel
theorem dX4_readWays_44 : decode cX4_readWays 44 = .ok (.istore_n 3, 1) := by decide +kernel
theorem dX4_readWays_45 : decode cX4_readWays 45 = .ok (.aload_n 0, 1) := by decide +kernel
theorem dX4_readWays_46 : decode cX4_readWays 46 = .ok (.aload_n 0, 1) := by decide +kernel
theorem dX4_readWays_47 : decode cX4_readWays 47 = .ok (.getfield 13, 3) := by decide +kernel
theorem dX4_readWays_50 : decode cX4_readWays 50 = .ok (.iload_n 2, 1) := by decide +kernel
theorem dX4_readWays_51 : decode cX4_readWays 51 = .ok (.iload_n 1, 1) := by decide +kernel
theorem dX4_readWays_52 : decode cX4_readWays 52 = .ok (.bipush 111, 2) := by decide +kernel
theorem dX4_readWays_54 : decode cX4_readWays 54 = .ok (.if_icmp .ne 7, 3) := by decide +kernel
theorem dX4_readWays_57 : decode cX4_readWays 57 = .ok (.iconst 1, 1) := by decide +kernel
theorem dX4_readWays_58 : decode cX4_readWays 58 = .ok (.goto 4, 3) := by decide +kernel
theorem dX4_readWays_61 : decode cX4_readWays 61 = .ok (.iconst 0, 1) := by decide +kernel
theorem dX4_readWays_62 : decode cX4_readWays 62 = .ok (.invokestatic 156, 3) := by decide +kernel
theorem dX4_readWays_65 : decode cX4_readWays 65 = .ok (.invokevirtual 143, 3) := by decide +kernel
theorem dX4_readWays_68 : decode cX4_readWays 68 = .ok (.ifCond .eq 24, 3) := by decide +kernel
theorem dX4_readWays_71 : decode cX4_readWays 71 = .ok (.aload_n 0, 1) := by decide +kernel
theorem dX4_readWays_72 : decode cX4_readWays 72 = .ok (.getfield 13, 3) := by decide +kernel
theorem dX4_readWays_75 : decode cX4_readWays 75 = .ok (.iload_n 2, 1) := by decide +kernel
theorem dX4_readWays_76 : decode cX4_readWays 76 = .ok (.iload_n 3, 1) := by decide +kernel
theorem dX4_readWays_77 : decode cX4_readWays 77 = .ok (.iload_n 1, 1) := by decide +kernel
theorem dX4_readWays_78 : decode cX4_readWays 78 = .ok (.bipush 111, 2) := by decide +kernel
theorem dX4_readWays_80 : decode cX4_readWays 80 = .ok (.if_icmp .ne 7, 3) := by decide +kernel
theorem dX4_readWays_83 : decode cX4_readWays 83 = .ok (.iconst 1, 1) := by decide +kernel
theorem dX4_readWays_84 : decode cX4_readWays 84 = .ok (.goto 4, 3) := by decide +kernel
theorem dX4_readWays_87 : decode cX4_readWays 87 = .ok (.iconst 0, 1) := by decide +kernel
theorem dX4_readWays_88 : decode cX4_readWays 88 = .ok (.invokestatic 160, 3) := by decide +kernel
theorem dX4_readWays_91 : decode cX4_readWays 91 = .ok (.pop, 1) := by decide +kernel
theorem dX4_readWays_92 : decode cX4_readWays 92 = .ok (.return_, 1) := by decide +kernel
set_option maxRecDepth 20000 in
theorem ggX4_readCommand_X4_accept : GoodIn wsX4_readCommand wsX4_accept := goodIn_r _ [9, 3, 2, 105, 106, 107, 108, 109, 110, 111, 112, 113, 114, 115, 116, 117] (by decide +kernel) (by decide +kernel)
set_option maxRecDepth 20000 in
theorem gX4_readCommand_X4_accept : GoodIn wsX4_readCommand (wsV RX4 126 RX4 yX4_accept wsX4_accept) := goodIn_app (goodIn_of _ (by decide +kernel)) ggX4_readCommand_X4_accept
set_option maxRecDepth 20000 in
theorem ggX4_readCommand_X4_digit : GoodIn wsX4_readCommand wsX4_digit := goodIn_r _ [13, 2, 14, 1, 15, 3, 16, 17, 8, 18, 5, 6, 7, 9, 105, 106, 107, 108, 109, 110, 111, 112, 113, 114, 115, 116, 117] (by decide +kernel) (by decide +kernel)
set_option maxRecDepth 20000 in
theorem gX4_readCommand_X4_digit : GoodIn wsX4_readCommand (wsV RX4 130 RX4 yX4_digit wsX4_digit) := goodIn_app (goodIn_of _ (by decide +kernel)) ggX4_readCommand_X4_digit
set_option maxRecDepth 20000 in
theorem ggX4_readCommand_X4_ticksIn : GoodIn wsX4_readCommand wsX4_ticksIn := goodIn_r _ [21, 22, 23, 8, 24, 25, 26, 27, 28, 29, 30, 31, 32, 16, 17, 18, 33, 34, 35, 36, 37, 38, 39, 40, 41, 42, 43, 44, 45, 46, 47, 48, 49, 50, 51, 52, 53, 54, 55, 56, 57, 58, 59, 60, 61, 62, 63] (by decide +kernel) (by decide +kernel)
set_option maxRecDepth 20000 in
theorem gX4_readCommand_X4_ticksIn : GoodIn wsX4_readCommand (va_wsS RX4 164 yX4_ticksIn wsX4_ticksIn) := goodIn_app (goodIn_of _ (by decide +kernel)) ggX4_readCommand_X4_ticksIn
set_option maxRecDepth 20000 in
theorem ggX4_readCommand_X4_readBooks : GoodIn wsX4_readCommand wsX4_readBooks := goodIn_r _ [67, 4, 10, 11, 12, 8, 13, 2, 14, 1, 15, 3, 16, 17, 18, 5, 6, 7, 9, 68, 69, 70, 71, 72, 73, 74, 36, 37, 38, 75, 76, 77, 25, 26, 27, 52, 53, 54, 78, 79, 80, 81, 82, 83, 84, 85, 86, 87, 88, 105, 106, 107, 108, 109, 110, 111, 112, 113, 114, 115, 116, 117] (by decide +kernel) (by decide +kernel)
set_option maxRecDepth 20000 in
theorem gX4_readCommand_X4_readBooks : GoodIn wsX4_readCommand (wsV RX4 167 RX4 yX4_readBooks wsX4_readBooks) := goodIn_app (goodIn_of _ (by decide +kernel)) ggX4_readCommand_X4_readBooks
set_option maxRecDepth 20000 in
theorem ggX4_readCommand_X4_readWays : GoodIn wsX4_readCommand wsX4_readWays := goodIn_r _ [92, 4, 10, 11, 12, 8, 13, 2, 14, 1, 15, 3, 16, 17, 18, 5, 6, 7, 9, 93, 94, 95, 25, 26, 27, 78, 79, 80, 81, 82, 96, 97, 98, 99, 100, 101, 102, 103, 104, 105, 106, 107, 108, 109, 110, 111, 112, 113, 114, 115, 116, 117] (by decide +kernel) (by decide +kernel)
set_option maxRecDepth 20000 in
theorem gX4_readCommand_X4_readWays : GoodIn wsX4_readCommand (wsV RX4 171 RX4 yX4_readWays wsX4_readWays) := goodIn_app (goodIn_of _ (by decide +kernel)) ggX4_readCommand_X4_readWays
theorem dX4_readCommand_0 : decode cX4_readCommand 0 = .ok (.aload_n 0, 1) := by decide +kernel
theorem dX4_readCommand_1 : decode cX4_readCommand 1 = .ok (.getfield 7, 3) := by decide +kernel
theorem dX4_readCommand_4 : decode cX4_readCommand 4 = .ok (.aload_n 0, 1) := by decide +kernel
theorem dX4_readCommand_5 : decode cX4_readCommand 5 = .ok (.getfield 121, 3) := by decide +kernel
theorem dX4_readCommand_8 : decode cX4_readCommand 8 = .ok (.iaload, 1) := by decide +kernel
theorem dX4_readCommand_9 : decode cX4_readCommand 9 = .ok (.istore_n 1, 1) := by decide +kernel
theorem dX4_readCommand_10 : decode cX4_readCommand 10 = .ok (.aload_n 0, 1) := by decide +kernel
theorem dX4_readCommand_11 : decode cX4_readCommand 11 = .ok (.iload_n 1, 1) := by decide +kernel
theorem dX4_readCommand_12 : decode cX4_readCommand 12 = .ok (.bipush 116, 2) := by decide +kernel
theorem dX4_readCommand_14 : decode cX4_readCommand 14 = .ok (.if_icmp .eq 39, 3) := by decide +kernel
theorem dX4_readCommand_17 : decode cX4_readCommand 17 = .ok (.iload_n 1, 1) := by decide +kernel
theorem dX4_readCommand_18 : decode cX4_readCommand 18 = .ok (.bipush 112, 2) := by decide +kernel
theorem dX4_readCommand_20 : decode cX4_readCommand 20 = .ok (.if_icmp .eq 33, 3) := by decide +kernel
theorem dX4_readCommand_23 : decode cX4_readCommand 23 = .ok (.iload_n 1, 1) := by decide +kernel
theorem dX4_readCommand_24 : decode cX4_readCommand 24 = .ok (.bipush 98, 2) := by decide +kernel
theorem dX4_readCommand_26 : decode cX4_readCommand 26 = .ok (.if_icmp .eq 27, 3) := by decide +kernel
theorem dX4_readCommand_29 : decode cX4_readCommand 29 = .ok (.iload_n 1, 1) := by decide +kernel
theorem dX4_readCommand_30 : decode cX4_readCommand 30 = .ok (.bipush 111, 2) := by decide +kernel
theorem dX4_readCommand_32 : decode cX4_readCommand 32 = .ok (.if_icmp .eq 21, 3) := by decide +kernel
theorem dX4_readCommand_35 : decode cX4_readCommand 35 = .ok (.iload_n 1, 1) := by decide +kernel
theorem dX4_readCommand_36 : decode cX4_readCommand 36 = .ok (.bipush 105, 2) := by decide +kernel
theorem dX4_readCommand_38 : decode cX4_readCommand 38 = .ok (.if_icmp .eq 15, 3) := by decide +kernel
theorem dX4_readCommand_41 : decode cX4_readCommand 41 = .ok (.iload_n 1, 1) := by decide +kernel
theorem dX4_readCommand_42 : decode cX4_readCommand 42 = .ok (.bipush 114, 2) := by decide +kernel
theorem dX4_readCommand_44 : decode cX4_readCommand 44 = .ok (.if_icmp .eq 9, 3) := by decide +kernel
theorem dX4_readCommand_47 : decode cX4_readCommand 47 = .ok (.iload_n 1, 1) := by decide +kernel
theorem dX4_readCommand_48 : decode cX4_readCommand 48 = .ok (.bipush 110, 2) := by decide +kernel
theorem dX4_readCommand_50 : decode cX4_readCommand 50 = .ok (.if_icmp .ne 7, 3) := by decide +kernel
theorem dX4_readCommand_53 : decode cX4_readCommand 53 = .ok (.iconst 1, 1) := by decide +kernel
theorem dX4_readCommand_54 : decode cX4_readCommand 54 = .ok (.goto 4, 3) := by decide +kernel
theorem dX4_readCommand_57 : decode cX4_readCommand 57 = .ok (.iconst 0, 1) := by decide +kernel
theorem dX4_readCommand_58 : decode cX4_readCommand 58 = .ok (.invokevirtual 126, 3) := by decide +kernel
theorem dX4_readCommand_61 : decode cX4_readCommand 61 = .ok (.aload_n 0, 1) := by decide +kernel
theorem dX4_readCommand_62 : decode cX4_readCommand 62 = .ok (.getfield 117, 3) := by decide +kernel
theorem dX4_readCommand_65 : decode cX4_readCommand 65 = .ok (.ifCond .ne 4, 3) := by decide +kernel
theorem dX4_readCommand_68 : decode cX4_readCommand 68 = .ok (.return_, 1) := by decide +kernel
theorem dX4_readCommand_69 : decode cX4_readCommand 69 = .ok (.iload_n 1, 1) := by decide +kernel
theorem dX4_readCommand_70 : decode cX4_readCommand 70 = .ok (.bipush 110, 2) := by decide +kernel
theorem dX4_readCommand_72 : decode cX4_readCommand 72 = .ok (.if_icmp .ne 34, 3) := by decide +kernel
theorem dX4_readCommand_75 : decode cX4_readCommand 75 = .ok (.aload_n 0, 1) := by decide +kernel
theorem dX4_readCommand_76 : decode cX4_readCommand 76 = .ok (.iconst 1, 1) := by decide +kernel
theorem dX4_readCommand_77 : decode cX4_readCommand 77 = .ok (.bipush 9, 2) := by decide +kernel
theorem dX4_readCommand_79 : decode cX4_readCommand 79 = .ok (.invokevirtual 130, 3) := by decide +kernel
theorem dX4_readCommand_82 : decode cX4_readCommand 82 = .ok (.istore_n 2, 1) := by decide +kernel
theorem dX4_readCommand_83 : decode cX4_readCommand 83 = .ok (.aload_n 0, 1) := by decide +kernel
theorem dX4_readCommand_84 : decode cX4_readCommand 84 = .ok (.getfield 13, 3) := by decide +kernel
theorem dX4_readCommand_87 : decode cX4_readCommand 87 = .ok (.aload_n 0, 1) := by decide +kernel
theorem dX4_readCommand_88 : decode cX4_readCommand 88 = .ok (.getfield 117, 3) := by decide +kernel
theorem dX4_readCommand_91 : decode cX4_readCommand 91 = .ok (.ifCond .eq 7, 3) := by decide +kernel
theorem dX4_readCommand_94 : decode cX4_readCommand 94 = .ok (.iload_n 2, 1) := by decide +kernel
theorem dX4_readCommand_95 : decode cX4_readCommand 95 = .ok (.goto 4, 3) := by decide +kernel
theorem dX4_readCommand_98 : decode cX4_readCommand 98 = .ok (.iconst 0, 1) := by decide +kernel
theorem dX4_readCommand_99 : decode cX4_readCommand 99 = .ok (.invokestatic 164, 3) := by decide +kernel
theorem dX4_readCommand_102 : decode cX4_readCommand 102 = .ok (.pop, 1) := by decide +kernel
theorem dX4_readCommand_103 : decode cX4_readCommand 103 = .ok (.goto 34, 3) := by decide +kernel
theorem dX4_readCommand_106 : decode cX4_readCommand 106 = .ok (.iload_n 1, 1) := by decide +kernel
theorem dX4_readCommand_107 : decode cX4_readCommand 107 = .ok (.bipush 116, 2) := by decide +kernel
theorem dX4_readCommand_109 : decode cX4_readCommand 109 = .ok (.if_icmp .eq 15, 3) := by decide +kernel
theorem dX4_readCommand_112 : decode cX4_readCommand 112 = .ok (.iload_n 1, 1) := by decide +kernel
theorem dX4_readCommand_113 : decode cX4_readCommand 113 = .ok (.bipush 112, 2) := by decide +kernel
theorem dX4_readCommand_115 : decode cX4_readCommand 115 = .ok (.if_icmp .eq 9, 3) := by decide +kernel
theorem dX4_readCommand_118 : decode cX4_readCommand 118 = .ok (.iload_n 1, 1) := by decide +kernel
theorem dX4_readCommand_119 : decode cX4_readCommand 119 = .ok (.bipush 98, 2) := by decide +kernel
theorem dX4_readCommand_121 : decode cX4_readCommand 121 = .ok (.if_icmp .ne 11, 3) := by decide +kernel
theorem dX4_readCommand_124 : decode cX4_readCommand 124 = .ok (.aload_n 0, 1) := by decide +kernel
theorem dX4_readCommand_125 : decode cX4_readCommand 125 = .ok (.iload_n 1, 1) := by decide +kernel
theorem dX4_readCommand_126 : decode cX4_readCommand 126 = .ok (.invokevirtual 167, 3) := by decide +kernel
theorem dX4_readCommand_129 : decode cX4_readCommand 129 = .ok (.goto 8, 3) := by decide +kernel
theorem dX4_readCommand_132 : decode cX4_readCommand 132 = .ok (.aload_n 0, 1) := by decide +kernel
theorem dX4_readCommand_133 : decode cX4_readCommand 133 = .ok (.iload_n 1, 1) := by decide +kernel
theorem dX4_readCommand_134 : decode cX4_readCommand 134 = .ok (.invokevirtual 171, 3) := by decide +kernel
theorem dX4_readCommand_137 : decode cX4_readCommand 137 = .ok (.return_, 1) := by decide +kernel
set_option maxRecDepth 20000 in
theorem ggX4_readText_X4_clean : GoodIn wsX4_readText wsX4_clean := goodIn_r _ [10, 11, 12, 9, 13] (by decide +kernel) (by decide +kernel)
set_option maxRecDepth 20000 in
theorem gX4_readText_X4_clean : GoodIn wsX4_readText (va_wsS RX4 32 yX4_clean wsX4_clean) := goodIn_app (goodIn_of _ (by decide +kernel)) ggX4_readText_X4_clean
set_option maxRecDepth 20000 in
theorem ggX4_readText_X4_accept : GoodIn wsX4_readText wsX4_accept := goodIn_r _ [17, 2, 1, 112, 113, 114, 115, 116, 117, 118, 119, 120, 121, 122, 123, 124] (by decide +kernel) (by decide +kernel)
set_option maxRecDepth 20000 in
theorem gX4_readText_X4_accept : GoodIn wsX4_readText (wsV RX4 126 RX4 yX4_accept wsX4_accept) := goodIn_app (goodIn_of _ (by decide +kernel)) ggX4_readText_X4_accept
set_option maxRecDepth 20000 in
theorem ggX4_readText_X4_gateAt : GoodIn wsX4_readText wsX4_gateAt := goodIn_r _ [13] (by decide +kernel) (by decide +kernel)
set_option maxRecDepth 20000 in
theorem gX4_readText_X4_gateAt : GoodIn wsX4_readText (va_wsS RX4 42 yX4_gateAt wsX4_gateAt) := goodIn_app (goodIn_of _ (by decide +kernel)) ggX4_readText_X4_gateAt
set_option maxRecDepth 20000 in
theorem ggX4_readText_X4_two : GoodIn wsX4_readText wsX4_two := goodIn_r _ [21, 22, 23, 24, 9, 25, 1, 5, 6, 26, 2, 27, 28, 29, 14, 15, 16, 17, 112, 113, 114, 115, 116, 117, 118, 119, 120, 121, 122, 123, 124] (by decide +kernel) (by decide +kernel)
set_option maxRecDepth 20000 in
theorem gX4_readText_X4_two : GoodIn wsX4_readText (wsV RX4 136 RX4 yX4_two wsX4_two) := goodIn_app (goodIn_of _ (by decide +kernel)) ggX4_readText_X4_two
set_option maxRecDepth 20000 in
theorem ggX4_readText_X4_digit : GoodIn wsX4_readText wsX4_digit := goodIn_r _ [25, 1, 5, 6, 26, 2, 27, 28, 9, 29, 14, 15, 16, 17, 112, 113, 114, 115, 116, 117, 118, 119, 120, 121, 122, 123, 124] (by decide +kernel) (by decide +kernel)
set_option maxRecDepth 20000 in
theorem gX4_readText_X4_digit : GoodIn wsX4_readText (wsV RX4 130 RX4 yX4_digit wsX4_digit) := goodIn_app (goodIn_of _ (by decide +kernel)) ggX4_readText_X4_digit
set_option maxRecDepth 20000 in
theorem ggX4_readText_X4_readCommand : GoodIn wsX4_readText wsX4_readCommand := goodIn_r _ [33, 6, 1, 2, 4, 14, 15, 16, 9, 17, 22, 23, 24, 25, 5, 26, 27, 28, 29, 34, 35, 36, 37, 38, 39, 40, 41, 42, 43, 44, 45, 46, 47, 48, 49, 50, 51, 52, 53, 54, 55, 56, 11, 12, 13, 57, 58, 59, 60, 61, 62, 63, 64, 65, 66, 67, 68, 69, 70, 71, 72, 73, 74, 75, 76, 77, 78, 79, 18, 19, 20, 21, 80, 81, 82, 83, 84, 85, 86, 87, 88, 89, 3, 90, 91, 92, 93, 94, 95, 96, 97, 98, 99, 100, 101, 102, 103, 104, 105, 106, 107, 108, 109, 110, 111, 112, 113, 114, 115, 116, 117, 118, 119, 120, 121, 122, 123, 124] (by decide +kernel) (by decide +kernel)
set_option maxRecDepth 20000 in
theorem gX4_readText_X4_readCommand : GoodIn wsX4_readText (wsV RX4 174 RX4 yX4_readCommand wsX4_readCommand) := goodIn_app (goodIn_of _ (by decide +kernel)) ggX4_readText_X4_readCommand
theorem dX4_readText_0 : decode cX4_readText 0 = .ok (.aload_n 0, 1) := by decide +kernel
theorem dX4_readText_1 : decode cX4_readText 1 = .ok (.iconst 0, 1) := by decide +kernel
theorem dX4_readText_2 : decode cX4_readText 2 = .ok (.putfield 121, 3) := by decide +kernel
theorem dX4_readText_5 : decode cX4_readText 5 = .ok (.aload_n 0, 1) := by decide +kernel
theorem dX4_readText_6 : decode cX4_readText 6 = .ok (.iconst 1, 1) := by decide +kernel
theorem dX4_readText_7 : decode cX4_readText 7 = .ok (.putfield 117, 3) := by decide +kernel
theorem dX4_readText_10 : decode cX4_readText 10 = .ok (.aload_n 0, 1) := by decide +kernel
theorem dX4_readText_11 : decode cX4_readText 11 = .ok (.iconst 0, 1) := by decide +kernel
theorem dX4_readText_12 : decode cX4_readText 12 = .ok (.putfield 133, 3) := by decide +kernel
theorem dX4_readText_15 : decode cX4_readText 15 = .ok (.aload_n 0, 1) := by decide +kernel
theorem dX4_readText_16 : decode cX4_readText 16 = .ok (.getfield 13, 3) := by decide +kernel
theorem dX4_readText_19 : decode cX4_readText 19 = .ok (.invokestatic 32, 3) := by decide +kernel
theorem dX4_readText_22 : decode cX4_readText 22 = .ok (.aload_n 0, 1) := by decide +kernel
theorem dX4_readText_23 : decode cX4_readText 23 = .ok (.aload_n 0, 1) := by decide +kernel
theorem dX4_readText_24 : decode cX4_readText 24 = .ok (.getfield 121, 3) := by decide +kernel
theorem dX4_readText_27 : decode cX4_readText 27 = .ok (.aload_n 0, 1) := by decide +kernel
theorem dX4_readText_28 : decode cX4_readText 28 = .ok (.getfield 110, 3) := by decide +kernel
theorem dX4_readText_31 : decode cX4_readText 31 = .ok (.if_icmp .ge 21, 3) := by decide +kernel
theorem dX4_readText_34 : decode cX4_readText 34 = .ok (.aload_n 0, 1) := by decide +kernel
theorem dX4_readText_35 : decode cX4_readText 35 = .ok (.getfield 7, 3) := by decide +kernel
theorem dX4_readText_38 : decode cX4_readText 38 = .ok (.aload_n 0, 1) := by decide +kernel
theorem dX4_readText_39 : decode cX4_readText 39 = .ok (.getfield 121, 3) := by decide +kernel
theorem dX4_readText_42 : decode cX4_readText 42 = .ok (.iaload, 1) := by decide +kernel
theorem dX4_readText_43 : decode cX4_readText 43 = .ok (.bipush 76, 2) := by decide +kernel
theorem dX4_readText_45 : decode cX4_readText 45 = .ok (.if_icmp .ne 7, 3) := by decide +kernel
theorem dX4_readText_48 : decode cX4_readText 48 = .ok (.iconst 1, 1) := by decide +kernel
theorem dX4_readText_49 : decode cX4_readText 49 = .ok (.goto 4, 3) := by decide +kernel
theorem dX4_readText_52 : decode cX4_readText 52 = .ok (.iconst 0, 1) := by decide +kernel
theorem dX4_readText_53 : decode cX4_readText 53 = .ok (.invokevirtual 126, 3) := by decide +kernel
theorem dX4_readText_56 : decode cX4_readText 56 = .ok (.iconst 0, 1) := by decide +kernel
theorem dX4_readText_57 : decode cX4_readText 57 = .ok (.istore_n 1, 1) := by decide +kernel
theorem dX4_readText_58 : decode cX4_readText 58 = .ok (.iload_n 1, 1) := by decide +kernel
theorem dX4_readText_59 : decode cX4_readText 59 = .ok (.iconst 3, 1) := by decide +kernel
theorem dX4_readText_60 : decode cX4_readText 60 = .ok (.if_icmp .ge 25, 3) := by decide +kernel
theorem dX4_readText_63 : decode cX4_readText 63 = .ok (.aload_n 0, 1) := by decide +kernel
theorem dX4_readText_64 : decode cX4_readText 64 = .ok (.getfield 13, 3) := by decide +kernel
theorem dX4_readText_67 : decode cX4_readText 67 = .ok (.iload_n 1, 1) := by decide +kernel
theorem dX4_readText_68 : decode cX4_readText 68 = .ok (.iconst 0, 1) := by decide +kernel
theorem dX4_readText_69 : decode cX4_readText 69 = .ok (.invokestatic 42, 3) := by decide +kernel
theorem dX4_readText_72 : decode cX4_readText 72 = .ok (.aload_n 0, 1) := by decide +kernel
theorem dX4_readText_73 : decode cX4_readText 73 = .ok (.bipush 15, 2) := by decide +kernel
theorem dX4_readText_75 : decode cX4_readText 75 = .ok (.invokevirtual 136, 3) := by decide +kernel
theorem dX4_readText_78 : decode cX4_readText 78 = .ok (.iastore, 1) := by decide +kernel
theorem dX4_readText_79 : decode cX4_readText 79 = .ok (.iinc 1 1, 3) := by decide +kernel
theorem dX4_readText_82 : decode cX4_readText 82 = .ok (.goto (-24), 3) := by decide +kernel
theorem dX4_readText_85 : decode cX4_readText 85 = .ok (.aload_n 0, 1) := by decide +kernel
theorem dX4_readText_86 : decode cX4_readText 86 = .ok (.getfield 13, 3) := by decide +kernel
theorem dX4_readText_89 : decode cX4_readText 89 = .ok (.sipush 196, 3) := by decide +kernel
theorem dX4_readText_92 : decode cX4_readText 92 = .ok (.aload_n 0, 1) := by decide +kernel
theorem dX4_readText_93 : decode cX4_readText 93 = .ok (.iconst 1, 1) := by decide +kernel
theorem dX4_readText_94 : decode cX4_readText 94 = .ok (.iconst 3, 1) := by decide +kernel
theorem dX4_readText_95 : decode cX4_readText 95 = .ok (.invokevirtual 130, 3) := by decide +kernel
theorem dX4_readText_98 : decode cX4_readText 98 = .ok (.iastore, 1) := by decide +kernel
theorem dX4_readText_99 : decode cX4_readText 99 = .ok (.aload_n 0, 1) := by decide +kernel
theorem dX4_readText_100 : decode cX4_readText 100 = .ok (.getfield 13, 3) := by decide +kernel
theorem dX4_readText_103 : decode cX4_readText 103 = .ok (.sipush 197, 3) := by decide +kernel
theorem dX4_readText_106 : decode cX4_readText 106 = .ok (.aload_n 0, 1) := by decide +kernel
theorem dX4_readText_107 : decode cX4_readText 107 = .ok (.iconst 0, 1) := by decide +kernel
theorem dX4_readText_108 : decode cX4_readText 108 = .ok (.bipush 9, 2) := by decide +kernel
theorem dX4_readText_110 : decode cX4_readText 110 = .ok (.invokevirtual 130, 3) := by decide +kernel
theorem dX4_readText_113 : decode cX4_readText 113 = .ok (.iastore, 1) := by decide +kernel
theorem dX4_readText_114 : decode cX4_readText 114 = .ok (.aload_n 0, 1) := by decide +kernel
theorem dX4_readText_115 : decode cX4_readText 115 = .ok (.getfield 117, 3) := by decide +kernel
theorem dX4_readText_118 : decode cX4_readText 118 = .ok (.ifCond .eq 21, 3) := by decide +kernel
theorem dX4_readText_121 : decode cX4_readText 121 = .ok (.aload_n 0, 1) := by decide +kernel
theorem dX4_readText_122 : decode cX4_readText 122 = .ok (.getfield 121, 3) := by decide +kernel
theorem dX4_readText_125 : decode cX4_readText 125 = .ok (.aload_n 0, 1) := by decide +kernel
theorem dX4_readText_126 : decode cX4_readText 126 = .ok (.getfield 110, 3) := by decide +kernel
theorem dX4_readText_129 : decode cX4_readText 129 = .ok (.if_icmp .ge 10, 3) := by decide +kernel
theorem dX4_readText_132 : decode cX4_readText 132 = .ok (.aload_n 0, 1) := by decide +kernel
theorem dX4_readText_133 : decode cX4_readText 133 = .ok (.invokevirtual 174, 3) := by decide +kernel
theorem dX4_readText_136 : decode cX4_readText 136 = .ok (.goto (-22), 3) := by decide +kernel
theorem dX4_readText_139 : decode cX4_readText 139 = .ok (.aload_n 0, 1) := by decide +kernel
theorem dX4_readText_140 : decode cX4_readText 140 = .ok (.getfield 117, 3) := by decide +kernel
theorem dX4_readText_143 : decode cX4_readText 143 = .ok (.ifCond .eq 8, 3) := by decide +kernel
theorem dX4_readText_146 : decode cX4_readText 146 = .ok (.bipush (-9), 2) := by decide +kernel
theorem dX4_readText_148 : decode cX4_readText 148 = .ok (.goto 7, 3) := by decide +kernel
theorem dX4_readText_151 : decode cX4_readText 151 = .ok (.aload_n 0, 1) := by decide +kernel
theorem dX4_readText_152 : decode cX4_readText 152 = .ok (.getfield 121, 3) := by decide +kernel
theorem dX4_readText_155 : decode cX4_readText 155 = .ok (.ireturn, 1) := by decide +kernel
set_option maxRecDepth 20000 in
theorem ggX4_errorPosition_X4_readText : GoodIn wsX4_errorPosition wsX4_readText := goodIn_r _ [6, 7, 8, 9, 10, 11, 12, 13, 14, 5, 15, 16, 17, 18, 19, 20, 21, 22, 23, 24, 25, 26, 27, 28, 29, 30, 31, 32, 33, 34, 35, 36, 37, 38, 39, 40, 41, 42, 43, 44, 45, 46, 47, 48, 49, 50, 51, 52, 53, 54, 55, 56, 57, 58, 59, 60, 61, 62, 63, 64, 65, 66, 67, 68, 69, 70, 71, 72, 73, 74, 75, 76, 77, 78, 79, 80, 81, 82, 83, 84, 85, 86, 87, 88, 89, 90, 91, 92, 93, 94, 95, 96, 97, 98, 99, 100, 101, 102, 103, 104, 105, 106, 107, 108, 109, 110, 111, 112, 113, 114, 115, 116, 117, 118, 119, 120, 121, 122, 123, 124, 125, 126, 127, 128, 129] (by decide +kernel) (by decide +kernel)
set_option maxRecDepth 20000 in
theorem gX4_errorPosition_X4_readText : GoodIn wsX4_errorPosition (wsV RX4 177 RX4 yX4_readText wsX4_readText) := goodIn_app (goodIn_of _ (by decide +kernel)) ggX4_errorPosition_X4_readText
theorem dX4_errorPosition_0 : decode cX4_errorPosition 0 = .ok (.aload_n 0, 1) := by decide +kernel
theorem dX4_errorPosition_1 : decode cX4_errorPosition 1 = .ok (.iconst 0, 1) := by decide +kernel
theorem dX4_errorPosition_2 : decode cX4_errorPosition 2 = .ok (.putfield 36, 3) := by decide +kernel
theorem dX4_errorPosition_5 : decode cX4_errorPosition 5 = .ok (.aload_n 0, 1) := by decide +kernel
theorem dX4_errorPosition_6 : decode cX4_errorPosition 6 = .ok (.invokevirtual 177, 3) := by decide +kernel
theorem dX4_errorPosition_9 : decode cX4_errorPosition 9 = .ok (.ireturn, 1) := by decide +kernel
set_option maxRecDepth 20000 in
theorem ggX4_load_X4_readText : GoodIn wsX4_load wsX4_readText := goodIn_r _ [10, 11, 12, 5, 1, 13, 14, 15, 16, 9, 17, 18, 19, 20, 21, 22, 23, 24, 25, 26, 27, 28, 29, 30, 31, 32, 33, 34, 35, 36, 37, 38, 39, 40, 41, 42, 43, 44, 45, 46, 47, 48, 49, 50, 51, 52, 53, 54, 55, 56, 57, 58, 59, 60, 61, 62, 63, 64, 65, 66, 67, 68, 69, 70, 71, 72, 73, 74, 75, 76, 77, 78, 79, 80, 81, 82, 83, 84, 85, 86, 87, 88, 89, 90, 91, 92, 93, 94, 95, 96, 97, 98, 99, 100, 101, 102, 103, 104, 105, 106, 107, 108, 109, 110, 111, 112, 113, 114, 115, 116, 117, 118, 124, 125, 126, 127, 128, 129, 130, 131, 132, 133, 134, 135, 136] (by decide +kernel) (by decide +kernel)
set_option maxRecDepth 20000 in
theorem gX4_load_X4_readText : GoodIn wsX4_load (wsV RX4 177 RX4 yX4_readText wsX4_readText) := goodIn_app (goodIn_of _ (by decide +kernel)) ggX4_load_X4_readText
set_option maxRecDepth 20000 in
theorem ggX4_load_X4_refused : GoodIn wsX4_load wsX4_refused := goodIn_r _ [122, 123, 124, 125, 126, 127, 128, 129, 130, 131, 132, 133, 134, 135, 136] (by decide +kernel) (by decide +kernel)
set_option maxRecDepth 20000 in
theorem gX4_load_X4_refused : GoodIn wsX4_load (wsV RX4 113 RX4 yX4_refused wsX4_refused) := goodIn_app (goodIn_of _ (by decide +kernel)) ggX4_load_X4_refused
set_option maxRecDepth 20000 in
theorem ggX4_load_X4_copy : GoodIn wsX4_load wsX4_copy := goodIn_r _ [82] (by decide +kernel) (by decide +kernel)
set_option maxRecDepth 20000 in
theorem gX4_load_X4_copy : GoodIn wsX4_load (va_wsS RX4 49 yX4_copy wsX4_copy) := goodIn_app (goodIn_of _ (by decide +kernel)) ggX4_load_X4_copy
theorem dX4_load_0 : decode cX4_load 0 = .ok (.aload_n 0, 1) := by decide +kernel
theorem dX4_load_1 : decode cX4_load 1 = .ok (.aload_n 0, 1) := by decide +kernel
theorem dX4_load_2 : decode cX4_load 2 = .ok (.invokevirtual 177, 3) := by decide +kernel
theorem dX4_load_5 : decode cX4_load 5 = .ok (.bipush (-9), 2) := by decide +kernel
theorem dX4_load_7 : decode cX4_load 7 = .ok (.if_icmp .ne 7, 3) := by decide +kernel
theorem dX4_load_10 : decode cX4_load 10 = .ok (.iconst 0, 1) := by decide +kernel
theorem dX4_load_11 : decode cX4_load 11 = .ok (.goto 4, 3) := by decide +kernel
theorem dX4_load_14 : decode cX4_load 14 = .ok (.iconst 1, 1) := by decide +kernel
theorem dX4_load_15 : decode cX4_load 15 = .ok (.invokevirtual 113, 3) := by decide +kernel
theorem dX4_load_18 : decode cX4_load 18 = .ok (.ifCond .eq 5, 3) := by decide +kernel
theorem dX4_load_21 : decode cX4_load 21 = .ok (.iconst 0, 1) := by decide +kernel
theorem dX4_load_22 : decode cX4_load 22 = .ok (.ireturn, 1) := by decide +kernel
theorem dX4_load_23 : decode cX4_load 23 = .ok (.aload_n 0, 1) := by decide +kernel
theorem dX4_load_24 : decode cX4_load 24 = .ok (.getfield 13, 3) := by decide +kernel
theorem dX4_load_27 : decode cX4_load 27 = .ok (.iconst 0, 1) := by decide +kernel
theorem dX4_load_28 : decode cX4_load 28 = .ok (.aload_n 0, 1) := by decide +kernel
theorem dX4_load_29 : decode cX4_load 29 = .ok (.getfield 16, 3) := by decide +kernel
theorem dX4_load_32 : decode cX4_load 32 = .ok (.iconst 0, 1) := by decide +kernel
theorem dX4_load_33 : decode cX4_load 33 = .ok (.sipush 233, 3) := by decide +kernel
theorem dX4_load_36 : decode cX4_load 36 = .ok (.invokestatic 49, 3) := by decide +kernel
theorem dX4_load_39 : decode cX4_load 39 = .ok (.aload_n 0, 1) := by decide +kernel
theorem dX4_load_40 : decode cX4_load 40 = .ok (.iconst 0, 1) := by decide +kernel
theorem dX4_load_41 : decode cX4_load 41 = .ok (.putfield 46, 3) := by decide +kernel
theorem dX4_load_44 : decode cX4_load 44 = .ok (.aload_n 0, 1) := by decide +kernel
theorem dX4_load_45 : decode cX4_load 45 = .ok (.getfield 28, 3) := by decide +kernel
theorem dX4_load_48 : decode cX4_load 48 = .ok (.iconst 0, 1) := by decide +kernel
theorem dX4_load_49 : decode cX4_load 49 = .ok (.iconst 0, 1) := by decide +kernel
theorem dX4_load_50 : decode cX4_load 50 = .ok (.bastore, 1) := by decide +kernel
theorem dX4_load_51 : decode cX4_load 51 = .ok (.aload_n 0, 1) := by decide +kernel
theorem dX4_load_52 : decode cX4_load 52 = .ok (.getfield 28, 3) := by decide +kernel
theorem dX4_load_55 : decode cX4_load 55 = .ok (.iconst 1, 1) := by decide +kernel
theorem dX4_load_56 : decode cX4_load 56 = .ok (.iconst 0, 1) := by decide +kernel
theorem dX4_load_57 : decode cX4_load 57 = .ok (.bastore, 1) := by decide +kernel
theorem dX4_load_58 : decode cX4_load 58 = .ok (.aload_n 0, 1) := by decide +kernel
theorem dX4_load_59 : decode cX4_load 59 = .ok (.getfield 133, 3) := by decide +kernel
theorem dX4_load_62 : decode cX4_load 62 = .ok (.ireturn, 1) := by decide +kernel
set_option maxRecDepth 20000 in
theorem ggX4_visitorsAt_X4_visitorAt : GoodIn wsX4_visitorsAt wsX4_visitorAt := goodIn_r _ [5] (by decide +kernel) (by decide +kernel)
set_option maxRecDepth 20000 in
theorem gX4_visitorsAt_X4_visitorAt : GoodIn wsX4_visitorsAt (va_wsS RX4 56 yX4_visitorAt wsX4_visitorAt) := goodIn_app (goodIn_of _ (by decide +kernel)) ggX4_visitorsAt_X4_visitorAt
theorem dX4_visitorsAt_0 : decode cX4_visitorsAt 0 = .ok (.iconst 0, 1) := by decide +kernel
theorem dX4_visitorsAt_1 : decode cX4_visitorsAt 1 = .ok (.istore_n 2, 1) := by decide +kernel
theorem dX4_visitorsAt_2 : decode cX4_visitorsAt 2 = .ok (.iconst 0, 1) := by decide +kernel
theorem dX4_visitorsAt_3 : decode cX4_visitorsAt 3 = .ok (.istore_n 3, 1) := by decide +kernel
theorem dX4_visitorsAt_4 : decode cX4_visitorsAt 4 = .ok (.iload_n 3, 1) := by decide +kernel
theorem dX4_visitorsAt_5 : decode cX4_visitorsAt 5 = .ok (.bipush 6, 2) := by decide +kernel
theorem dX4_visitorsAt_7 : decode cX4_visitorsAt 7 = .ok (.if_icmp .ge 31, 3) := by decide +kernel
theorem dX4_visitorsAt_10 : decode cX4_visitorsAt 10 = .ok (.iload_n 2, 1) := by decide +kernel
theorem dX4_visitorsAt_11 : decode cX4_visitorsAt 11 = .ok (.aload_n 0, 1) := by decide +kernel
theorem dX4_visitorsAt_12 : decode cX4_visitorsAt 12 = .ok (.getfield 16, 3) := by decide +kernel
theorem dX4_visitorsAt_15 : decode cX4_visitorsAt 15 = .ok (.iload_n 3, 1) := by decide +kernel
theorem dX4_visitorsAt_16 : decode cX4_visitorsAt 16 = .ok (.iconst 0, 1) := by decide +kernel
theorem dX4_visitorsAt_17 : decode cX4_visitorsAt 17 = .ok (.invokestatic 56, 3) := by decide +kernel
theorem dX4_visitorsAt_20 : decode cX4_visitorsAt 20 = .ok (.iaload, 1) := by decide +kernel
theorem dX4_visitorsAt_21 : decode cX4_visitorsAt 21 = .ok (.iload_n 1, 1) := by decide +kernel
theorem dX4_visitorsAt_22 : decode cX4_visitorsAt 22 = .ok (.if_icmp .ne 7, 3) := by decide +kernel
theorem dX4_visitorsAt_25 : decode cX4_visitorsAt 25 = .ok (.iconst 1, 1) := by decide +kernel
theorem dX4_visitorsAt_26 : decode cX4_visitorsAt 26 = .ok (.goto 4, 3) := by decide +kernel
theorem dX4_visitorsAt_29 : decode cX4_visitorsAt 29 = .ok (.iconst 0, 1) := by decide +kernel
theorem dX4_visitorsAt_30 : decode cX4_visitorsAt 30 = .ok (.iadd, 1) := by decide +kernel
theorem dX4_visitorsAt_31 : decode cX4_visitorsAt 31 = .ok (.istore_n 2, 1) := by decide +kernel
theorem dX4_visitorsAt_32 : decode cX4_visitorsAt 32 = .ok (.iinc 3 1, 3) := by decide +kernel
theorem dX4_visitorsAt_35 : decode cX4_visitorsAt 35 = .ok (.goto (-31), 3) := by decide +kernel
theorem dX4_visitorsAt_38 : decode cX4_visitorsAt 38 = .ok (.iload_n 2, 1) := by decide +kernel
theorem dX4_visitorsAt_39 : decode cX4_visitorsAt 39 = .ok (.ireturn, 1) := by decide +kernel
set_option maxRecDepth 20000 in
theorem ggX4_waiting_X4_gateAt : GoodIn wsX4_waiting wsX4_gateAt := goodIn_r _ [5] (by decide +kernel) (by decide +kernel)
set_option maxRecDepth 20000 in
theorem gX4_waiting_X4_gateAt : GoodIn wsX4_waiting (va_wsS RX4 42 yX4_gateAt wsX4_gateAt) := goodIn_app (goodIn_of _ (by decide +kernel)) ggX4_waiting_X4_gateAt
theorem dX4_waiting_0 : decode cX4_waiting 0 = .ok (.iconst 0, 1) := by decide +kernel
theorem dX4_waiting_1 : decode cX4_waiting 1 = .ok (.istore_n 1, 1) := by decide +kernel
theorem dX4_waiting_2 : decode cX4_waiting 2 = .ok (.iconst 0, 1) := by decide +kernel
theorem dX4_waiting_3 : decode cX4_waiting 3 = .ok (.istore_n 2, 1) := by decide +kernel
theorem dX4_waiting_4 : decode cX4_waiting 4 = .ok (.iload_n 2, 1) := by decide +kernel
theorem dX4_waiting_5 : decode cX4_waiting 5 = .ok (.iconst 3, 1) := by decide +kernel
theorem dX4_waiting_6 : decode cX4_waiting 6 = .ok (.if_icmp .ge 22, 3) := by decide +kernel
theorem dX4_waiting_9 : decode cX4_waiting 9 = .ok (.iload_n 1, 1) := by decide +kernel
theorem dX4_waiting_10 : decode cX4_waiting 10 = .ok (.aload_n 0, 1) := by decide +kernel
theorem dX4_waiting_11 : decode cX4_waiting 11 = .ok (.getfield 16, 3) := by decide +kernel
theorem dX4_waiting_14 : decode cX4_waiting 14 = .ok (.iload_n 2, 1) := by decide +kernel
theorem dX4_waiting_15 : decode cX4_waiting 15 = .ok (.iconst 2, 1) := by decide +kernel
theorem dX4_waiting_16 : decode cX4_waiting 16 = .ok (.invokestatic 42, 3) := by decide +kernel
theorem dX4_waiting_19 : decode cX4_waiting 19 = .ok (.iaload, 1) := by decide +kernel
theorem dX4_waiting_20 : decode cX4_waiting 20 = .ok (.iadd, 1) := by decide +kernel
theorem dX4_waiting_21 : decode cX4_waiting 21 = .ok (.istore_n 1, 1) := by decide +kernel
theorem dX4_waiting_22 : decode cX4_waiting 22 = .ok (.iinc 2 1, 3) := by decide +kernel
theorem dX4_waiting_25 : decode cX4_waiting 25 = .ok (.goto (-21), 3) := by decide +kernel
theorem dX4_waiting_28 : decode cX4_waiting 28 = .ok (.iload_n 1, 1) := by decide +kernel
theorem dX4_waiting_29 : decode cX4_waiting 29 = .ok (.ireturn, 1) := by decide +kernel
set_option maxRecDepth 20000 in
theorem ggX4_inBags_X4_bag : GoodIn wsX4_inBags wsX4_bag := goodIn_r _ [5, 6, 7, 4, 8] (by decide +kernel) (by decide +kernel)
set_option maxRecDepth 20000 in
theorem gX4_inBags_X4_bag : GoodIn wsX4_inBags (va_wsS RX4 63 yX4_bag wsX4_bag) := goodIn_app (goodIn_of _ (by decide +kernel)) ggX4_inBags_X4_bag
theorem dX4_inBags_0 : decode cX4_inBags 0 = .ok (.iconst 0, 1) := by decide +kernel
theorem dX4_inBags_1 : decode cX4_inBags 1 = .ok (.istore_n 1, 1) := by decide +kernel
theorem dX4_inBags_2 : decode cX4_inBags 2 = .ok (.iconst 0, 1) := by decide +kernel
theorem dX4_inBags_3 : decode cX4_inBags 3 = .ok (.istore_n 2, 1) := by decide +kernel
theorem dX4_inBags_4 : decode cX4_inBags 4 = .ok (.iload_n 2, 1) := by decide +kernel
theorem dX4_inBags_5 : decode cX4_inBags 5 = .ok (.bipush 6, 2) := by decide +kernel
theorem dX4_inBags_7 : decode cX4_inBags 7 = .ok (.if_icmp .ge 20, 3) := by decide +kernel
theorem dX4_inBags_10 : decode cX4_inBags 10 = .ok (.iload_n 1, 1) := by decide +kernel
theorem dX4_inBags_11 : decode cX4_inBags 11 = .ok (.aload_n 0, 1) := by decide +kernel
theorem dX4_inBags_12 : decode cX4_inBags 12 = .ok (.getfield 16, 3) := by decide +kernel
theorem dX4_inBags_15 : decode cX4_inBags 15 = .ok (.iload_n 2, 1) := by decide +kernel
theorem dX4_inBags_16 : decode cX4_inBags 16 = .ok (.invokestatic 63, 3) := by decide +kernel
theorem dX4_inBags_19 : decode cX4_inBags 19 = .ok (.iadd, 1) := by decide +kernel
theorem dX4_inBags_20 : decode cX4_inBags 20 = .ok (.istore_n 1, 1) := by decide +kernel
theorem dX4_inBags_21 : decode cX4_inBags 21 = .ok (.iinc 2 1, 3) := by decide +kernel
theorem dX4_inBags_24 : decode cX4_inBags 24 = .ok (.goto (-20), 3) := by decide +kernel
theorem dX4_inBags_27 : decode cX4_inBags 27 = .ok (.iload_n 1, 1) := by decide +kernel
theorem dX4_inBags_28 : decode cX4_inBags 28 = .ok (.ireturn, 1) := by decide +kernel
set_option maxRecDepth 20000 in
theorem ggX4_about_X4_in : GoodIn wsX4_about wsX4_in := goodIn_r _ [6] (by decide +kernel) (by decide +kernel)
set_option maxRecDepth 20000 in
theorem gX4_about_X4_in : GoodIn wsX4_about (va_wsS RX4 69 yX4_in wsX4_in) := goodIn_app (goodIn_of _ (by decide +kernel)) ggX4_about_X4_in
set_option maxRecDepth 20000 in
theorem ggX4_about_X4_refused : GoodIn wsX4_about wsX4_refused := goodIn_r _ [10, 11, 39, 40, 41, 42, 43, 44, 45, 46, 47, 48, 49, 50, 51] (by decide +kernel) (by decide +kernel)
set_option maxRecDepth 20000 in
theorem gX4_about_X4_refused : GoodIn wsX4_about (wsV RX4 113 RX4 yX4_refused wsX4_refused) := goodIn_app (goodIn_of _ (by decide +kernel)) ggX4_about_X4_refused
set_option maxRecDepth 20000 in
theorem ggX4_about_X4_waiting : GoodIn wsX4_about wsX4_waiting := goodIn_r _ [15, 2, 16, 17, 5, 18, 39, 40, 41, 42, 43, 44, 45, 46, 47, 48, 49, 50, 51] (by decide +kernel) (by decide +kernel)
set_option maxRecDepth 20000 in
theorem gX4_about_X4_waiting : GoodIn wsX4_about (wsV RX4 181 RX4 yX4_waiting wsX4_waiting) := goodIn_app (goodIn_of _ (by decide +kernel)) ggX4_about_X4_waiting
set_option maxRecDepth 20000 in
theorem ggX4_about_X4_borrowed : GoodIn wsX4_about wsX4_borrowed := goodIn_r _ [21, 22, 23, 5, 24] (by decide +kernel) (by decide +kernel)
set_option maxRecDepth 20000 in
theorem gX4_about_X4_borrowed : GoodIn wsX4_about (va_wsS RX4 184 yX4_borrowed wsX4_borrowed) := goodIn_app (goodIn_of _ (by decide +kernel)) ggX4_about_X4_borrowed
set_option maxRecDepth 20000 in
theorem ggX4_about_X4_inBags : GoodIn wsX4_about wsX4_inBags := goodIn_r _ [28, 2, 29, 30, 5, 31, 22, 23, 24, 39, 40, 41, 42, 43, 44, 45, 46, 47, 48, 49, 50, 51] (by decide +kernel) (by decide +kernel)
set_option maxRecDepth 20000 in
theorem gX4_about_X4_inBags : GoodIn wsX4_about (wsV RX4 188 RX4 yX4_inBags wsX4_inBags) := goodIn_app (goodIn_of _ (by decide +kernel)) ggX4_about_X4_inBags
set_option maxRecDepth 20000 in
theorem ggX4_about_X4_visitorsAt : GoodIn wsX4_about wsX4_visitorsAt := goodIn_r _ [35, 2, 36, 37, 5, 38, 39, 40, 41, 42, 43, 44, 45, 46, 47, 48, 49, 50, 51] (by decide +kernel) (by decide +kernel)
set_option maxRecDepth 20000 in
theorem gX4_about_X4_visitorsAt : GoodIn wsX4_about (wsV RX4 191 RX4 yX4_visitorsAt wsX4_visitorsAt) := goodIn_app (goodIn_of _ (by decide +kernel)) ggX4_about_X4_visitorsAt
theorem dX4_about_0 : decode cX4_about 0 = .ok (.aload_n 0, 1) := by decide +kernel
theorem dX4_about_1 : decode cX4_about 1 = .ok (.iload_n 1, 1) := by decide +kernel
theorem dX4_about_2 : decode cX4_about 2 = .ok (.i2l, 1) := by decide +kernel
theorem dX4_about_3 : decode cX4_about 3 = .ok (.lconst 0, 1) := by decide +kernel
theorem dX4_about_4 : decode cX4_about 4 = .ok (.ldc2_w 40, 3) := by decide +kernel
theorem dX4_about_7 : decode cX4_about 7 = .ok (.invokestatic 69, 3) := by decide +kernel
theorem dX4_about_10 : decode cX4_about 10 = .ok (.ifCond .eq 7, 3) := by decide +kernel
theorem dX4_about_13 : decode cX4_about 13 = .ok (.iconst 0, 1) := by decide +kernel
theorem dX4_about_14 : decode cX4_about 14 = .ok (.goto 4, 3) := by decide +kernel
theorem dX4_about_17 : decode cX4_about 17 = .ok (.iconst 1, 1) := by decide +kernel
theorem dX4_about_18 : decode cX4_about 18 = .ok (.invokevirtual 113, 3) := by decide +kernel
theorem dX4_about_21 : decode cX4_about 21 = .ok (.ifCond .eq 5, 3) := by decide +kernel
theorem dX4_about_24 : decode cX4_about 24 = .ok (.iconst 0, 1) := by decide +kernel
theorem dX4_about_25 : decode cX4_about 25 = .ok (.ireturn, 1) := by decide +kernel
theorem dX4_about_26 : decode cX4_about 26 = .ok (.iload_n 1, 1) := by decide +kernel
theorem dX4_about_27 : decode cX4_about 27 = .ok (.tableswitch 128 0 9 #[53, 62, 71, 76, 85, 94, 102, 107, 113, 119], 53) := by decide +kernel
theorem dX4_about_80 : decode cX4_about 80 = .ok (.aload_n 0, 1) := by decide +kernel
theorem dX4_about_81 : decode cX4_about 81 = .ok (.getfield 16, 3) := by decide +kernel
theorem dX4_about_84 : decode cX4_about 84 = .ok (.sipush 198, 3) := by decide +kernel
theorem dX4_about_87 : decode cX4_about 87 = .ok (.iaload, 1) := by decide +kernel
theorem dX4_about_88 : decode cX4_about 88 = .ok (.ireturn, 1) := by decide +kernel
theorem dX4_about_89 : decode cX4_about 89 = .ok (.aload_n 0, 1) := by decide +kernel
theorem dX4_about_90 : decode cX4_about 90 = .ok (.getfield 16, 3) := by decide +kernel
theorem dX4_about_93 : decode cX4_about 93 = .ok (.sipush 199, 3) := by decide +kernel
theorem dX4_about_96 : decode cX4_about 96 = .ok (.iaload, 1) := by decide +kernel
theorem dX4_about_97 : decode cX4_about 97 = .ok (.ireturn, 1) := by decide +kernel
theorem dX4_about_98 : decode cX4_about 98 = .ok (.aload_n 0, 1) := by decide +kernel
theorem dX4_about_99 : decode cX4_about 99 = .ok (.invokevirtual 181, 3) := by decide +kernel
theorem dX4_about_102 : decode cX4_about 102 = .ok (.ireturn, 1) := by decide +kernel
theorem dX4_about_103 : decode cX4_about 103 = .ok (.aload_n 0, 1) := by decide +kernel
theorem dX4_about_104 : decode cX4_about 104 = .ok (.getfield 16, 3) := by decide +kernel
theorem dX4_about_107 : decode cX4_about 107 = .ok (.sipush 200, 3) := by decide +kernel
theorem dX4_about_110 : decode cX4_about 110 = .ok (.iaload, 1) := by decide +kernel
theorem dX4_about_111 : decode cX4_about 111 = .ok (.ireturn, 1) := by decide +kernel
theorem dX4_about_112 : decode cX4_about 112 = .ok (.aload_n 0, 1) := by decide +kernel
theorem dX4_about_113 : decode cX4_about 113 = .ok (.getfield 16, 3) := by decide +kernel
theorem dX4_about_116 : decode cX4_about 116 = .ok (.sipush 201, 3) := by decide +kernel
theorem dX4_about_119 : decode cX4_about 119 = .ok (.iaload, 1) := by decide +kernel
theorem dX4_about_120 : decode cX4_about 120 = .ok (.ireturn, 1) := by decide +kernel
theorem dX4_about_121 : decode cX4_about 121 = .ok (.aload_n 0, 1) := by decide +kernel
theorem dX4_about_122 : decode cX4_about 122 = .ok (.getfield 16, 3) := by decide +kernel
theorem dX4_about_125 : decode cX4_about 125 = .ok (.invokestatic 184, 3) := by decide +kernel
theorem dX4_about_128 : decode cX4_about 128 = .ok (.ireturn, 1) := by decide +kernel
theorem dX4_about_129 : decode cX4_about 129 = .ok (.aload_n 0, 1) := by decide +kernel
theorem dX4_about_130 : decode cX4_about 130 = .ok (.invokevirtual 188, 3) := by decide +kernel
theorem dX4_about_133 : decode cX4_about 133 = .ok (.ireturn, 1) := by decide +kernel
theorem dX4_about_134 : decode cX4_about 134 = .ok (.aload_n 0, 1) := by decide +kernel
theorem dX4_about_135 : decode cX4_about 135 = .ok (.iconst 1, 1) := by decide +kernel
theorem dX4_about_136 : decode cX4_about 136 = .ok (.invokevirtual 191, 3) := by decide +kernel
theorem dX4_about_139 : decode cX4_about 139 = .ok (.ireturn, 1) := by decide +kernel
theorem dX4_about_140 : decode cX4_about 140 = .ok (.aload_n 0, 1) := by decide +kernel
theorem dX4_about_141 : decode cX4_about 141 = .ok (.iconst 2, 1) := by decide +kernel
theorem dX4_about_142 : decode cX4_about 142 = .ok (.invokevirtual 191, 3) := by decide +kernel
theorem dX4_about_145 : decode cX4_about 145 = .ok (.ireturn, 1) := by decide +kernel
theorem dX4_about_146 : decode cX4_about 146 = .ok (.aload_n 0, 1) := by decide +kernel
theorem dX4_about_147 : decode cX4_about 147 = .ok (.getfield 16, 3) := by decide +kernel
theorem dX4_about_150 : decode cX4_about 150 = .ok (.sipush 196, 3) := by decide +kernel
theorem dX4_about_153 : decode cX4_about 153 = .ok (.iaload, 1) := by decide +kernel
theorem dX4_about_154 : decode cX4_about 154 = .ok (.ireturn, 1) := by decide +kernel
theorem dX4_about_155 : decode cX4_about 155 = .ok (.aload_n 0, 1) := by decide +kernel
theorem dX4_about_156 : decode cX4_about 156 = .ok (.getfield 16, 3) := by decide +kernel
theorem dX4_about_159 : decode cX4_about 159 = .ok (.sipush 197, 3) := by decide +kernel
theorem dX4_about_162 : decode cX4_about 162 = .ok (.iaload, 1) := by decide +kernel
theorem dX4_about_163 : decode cX4_about 163 = .ok (.ireturn, 1) := by decide +kernel
set_option maxRecDepth 20000 in
theorem ggX4_isBook_X4_in : GoodIn wsX4_isBook wsX4_in := goodIn_r _ [5] (by decide +kernel) (by decide +kernel)
set_option maxRecDepth 20000 in
theorem gX4_isBook_X4_in : GoodIn wsX4_isBook (va_wsS RX4 69 yX4_in wsX4_in) := goodIn_app (goodIn_of _ (by decide +kernel)) ggX4_isBook_X4_in
theorem dX4_isBook_0 : decode cX4_isBook 0 = .ok (.iload_n 0, 1) := by decide +kernel
theorem dX4_isBook_1 : decode cX4_isBook 1 = .ok (.i2l, 1) := by decide +kernel
theorem dX4_isBook_2 : decode cX4_isBook 2 = .ok (.lconst 0, 1) := by decide +kernel
theorem dX4_isBook_3 : decode cX4_isBook 3 = .ok (.ldc2_w 194, 3) := by decide +kernel
theorem dX4_isBook_6 : decode cX4_isBook 6 = .ok (.invokestatic 69, 3) := by decide +kernel
theorem dX4_isBook_9 : decode cX4_isBook 9 = .ok (.ireturn, 1) := by decide +kernel
set_option maxRecDepth 20000 in
theorem ggX4_isVisitor_X4_in : GoodIn wsX4_isVisitor wsX4_in := goodIn_r _ [5] (by decide +kernel) (by decide +kernel)
set_option maxRecDepth 20000 in
theorem gX4_isVisitor_X4_in : GoodIn wsX4_isVisitor (va_wsS RX4 69 yX4_in wsX4_in) := goodIn_app (goodIn_of _ (by decide +kernel)) ggX4_isVisitor_X4_in
theorem dX4_isVisitor_0 : decode cX4_isVisitor 0 = .ok (.iload_n 0, 1) := by decide +kernel
theorem dX4_isVisitor_1 : decode cX4_isVisitor 1 = .ok (.i2l, 1) := by decide +kernel
theorem dX4_isVisitor_2 : decode cX4_isVisitor 2 = .ok (.lconst 0, 1) := by decide +kernel
theorem dX4_isVisitor_3 : decode cX4_isVisitor 3 = .ok (.ldc2_w 196, 3) := by decide +kernel
theorem dX4_isVisitor_6 : decode cX4_isVisitor 6 = .ok (.invokestatic 69, 3) := by decide +kernel
theorem dX4_isVisitor_9 : decode cX4_isVisitor 9 = .ok (.ireturn, 1) := by decide +kernel
set_option maxRecDepth 20000 in
theorem ggX4_isGate_X4_in : GoodIn wsX4_isGate wsX4_in := goodIn_r _ [5] (by decide +kernel) (by decide +kernel)
set_option maxRecDepth 20000 in
theorem gX4_isGate_X4_in : GoodIn wsX4_isGate (va_wsS RX4 69 yX4_in wsX4_in) := goodIn_app (goodIn_of _ (by decide +kernel)) ggX4_isGate_X4_in
theorem dX4_isGate_0 : decode cX4_isGate 0 = .ok (.iload_n 0, 1) := by decide +kernel
theorem dX4_isGate_1 : decode cX4_isGate 1 = .ok (.i2l, 1) := by decide +kernel
theorem dX4_isGate_2 : decode cX4_isGate 2 = .ok (.lconst 0, 1) := by decide +kernel
theorem dX4_isGate_3 : decode cX4_isGate 3 = .ok (.ldc2_w 198, 3) := by decide +kernel
theorem dX4_isGate_6 : decode cX4_isGate 6 = .ok (.invokestatic 69, 3) := by decide +kernel
theorem dX4_isGate_9 : decode cX4_isGate 9 = .ok (.ireturn, 1) := by decide +kernel
set_option maxRecDepth 20000 in
theorem ggX4_book_X4_isBook : GoodIn wsX4_book wsX4_isBook := goodIn_r _ [6, 7, 8, 9, 5, 10] (by decide +kernel) (by decide +kernel)
set_option maxRecDepth 20000 in
theorem gX4_book_X4_isBook : GoodIn wsX4_book (va_wsS RX4 200 yX4_isBook wsX4_isBook) := goodIn_app (goodIn_of _ (by decide +kernel)) ggX4_book_X4_isBook
set_option maxRecDepth 20000 in
theorem ggX4_book_X4_in : GoodIn wsX4_book wsX4_in := goodIn_r _ [10] (by decide +kernel) (by decide +kernel)
set_option maxRecDepth 20000 in
theorem gX4_book_X4_in : GoodIn wsX4_book (va_wsS RX4 69 yX4_in wsX4_in) := goodIn_app (goodIn_of _ (by decide +kernel)) ggX4_book_X4_in
set_option maxRecDepth 20000 in
theorem ggX4_book_X4_refused : GoodIn wsX4_book wsX4_refused := goodIn_r _ [14, 15, 19, 20, 21, 22, 23, 24, 25, 26, 27, 28, 29, 30, 31] (by decide +kernel) (by decide +kernel)
set_option maxRecDepth 20000 in
theorem gX4_book_X4_refused : GoodIn wsX4_book (wsV RX4 113 RX4 yX4_refused wsX4_refused) := goodIn_app (goodIn_of _ (by decide +kernel)) ggX4_book_X4_refused
set_option maxRecDepth 20000 in
theorem ggX4_book_X4_bookAt : GoodIn wsX4_book wsX4_bookAt := goodIn_r _ [18] (by decide +kernel) (by decide +kernel)
set_option maxRecDepth 20000 in
theorem gX4_book_X4_bookAt : GoodIn wsX4_book (va_wsS RX4 53 yX4_bookAt wsX4_bookAt) := goodIn_app (goodIn_of _ (by decide +kernel)) ggX4_book_X4_bookAt
theorem dX4_book_0 : decode cX4_book 0 = .ok (.aload_n 0, 1) := by decide +kernel
theorem dX4_book_1 : decode cX4_book 1 = .ok (.iload_n 1, 1) := by decide +kernel
theorem dX4_book_2 : decode cX4_book 2 = .ok (.invokestatic 200, 3) := by decide +kernel
theorem dX4_book_5 : decode cX4_book 5 = .ok (.ifCond .ne 7, 3) := by decide +kernel
theorem dX4_book_8 : decode cX4_book 8 = .ok (.iconst 1, 1) := by decide +kernel
theorem dX4_book_9 : decode cX4_book 9 = .ok (.goto 20, 3) := by decide +kernel
theorem dX4_book_12 : decode cX4_book 12 = .ok (.iload_n 2, 1) := by decide +kernel
theorem dX4_book_13 : decode cX4_book 13 = .ok (.i2l, 1) := by decide +kernel
theorem dX4_book_14 : decode cX4_book 14 = .ok (.lconst 0, 1) := by decide +kernel
theorem dX4_book_15 : decode cX4_book 15 = .ok (.ldc2_w 203, 3) := by decide +kernel
theorem dX4_book_18 : decode cX4_book 18 = .ok (.invokestatic 69, 3) := by decide +kernel
theorem dX4_book_21 : decode cX4_book 21 = .ok (.ifCond .eq 7, 3) := by decide +kernel
theorem dX4_book_24 : decode cX4_book 24 = .ok (.iconst 0, 1) := by decide +kernel
theorem dX4_book_25 : decode cX4_book 25 = .ok (.goto 4, 3) := by decide +kernel
theorem dX4_book_28 : decode cX4_book 28 = .ok (.iconst 2, 1) := by decide +kernel
theorem dX4_book_29 : decode cX4_book 29 = .ok (.invokevirtual 113, 3) := by decide +kernel
theorem dX4_book_32 : decode cX4_book 32 = .ok (.ifCond .eq 5, 3) := by decide +kernel
theorem dX4_book_35 : decode cX4_book 35 = .ok (.iconst 0, 1) := by decide +kernel
theorem dX4_book_36 : decode cX4_book 36 = .ok (.ireturn, 1) := by decide +kernel
theorem dX4_book_37 : decode cX4_book 37 = .ok (.iload_n 2, 1) := by decide +kernel
theorem dX4_book_38 : decode cX4_book 38 = .ok (.ifCond .le 16, 3) := by decide +kernel
theorem dX4_book_41 : decode cX4_book 41 = .ok (.aload_n 0, 1) := by decide +kernel
theorem dX4_book_42 : decode cX4_book 42 = .ok (.getfield 16, 3) := by decide +kernel
theorem dX4_book_45 : decode cX4_book 45 = .ok (.iload_n 1, 1) := by decide +kernel
theorem dX4_book_46 : decode cX4_book 46 = .ok (.iload_n 2, 1) := by decide +kernel
theorem dX4_book_47 : decode cX4_book 47 = .ok (.invokestatic 53, 3) := by decide +kernel
theorem dX4_book_50 : decode cX4_book 50 = .ok (.iaload, 1) := by decide +kernel
theorem dX4_book_51 : decode cX4_book 51 = .ok (.goto 33, 3) := by decide +kernel
theorem dX4_book_54 : decode cX4_book 54 = .ok (.aload_n 0, 1) := by decide +kernel
theorem dX4_book_55 : decode cX4_book 55 = .ok (.getfield 16, 3) := by decide +kernel
theorem dX4_book_58 : decode cX4_book 58 = .ok (.iload_n 1, 1) := by decide +kernel
theorem dX4_book_59 : decode cX4_book 59 = .ok (.iconst 0, 1) := by decide +kernel
theorem dX4_book_60 : decode cX4_book 60 = .ok (.invokestatic 53, 3) := by decide +kernel
theorem dX4_book_63 : decode cX4_book 63 = .ok (.iaload, 1) := by decide +kernel
theorem dX4_book_64 : decode cX4_book 64 = .ok (.ifCond .ne 8, 3) := by decide +kernel
theorem dX4_book_67 : decode cX4_book 67 = .ok (.bipush (-9), 2) := by decide +kernel
theorem dX4_book_69 : decode cX4_book 69 = .ok (.goto 15, 3) := by decide +kernel
theorem dX4_book_72 : decode cX4_book 72 = .ok (.aload_n 0, 1) := by decide +kernel
theorem dX4_book_73 : decode cX4_book 73 = .ok (.getfield 16, 3) := by decide +kernel
theorem dX4_book_76 : decode cX4_book 76 = .ok (.iload_n 1, 1) := by decide +kernel
theorem dX4_book_77 : decode cX4_book 77 = .ok (.iconst 0, 1) := by decide +kernel
theorem dX4_book_78 : decode cX4_book 78 = .ok (.invokestatic 53, 3) := by decide +kernel
theorem dX4_book_81 : decode cX4_book 81 = .ok (.iaload, 1) := by decide +kernel
theorem dX4_book_82 : decode cX4_book 82 = .ok (.iconst 1, 1) := by decide +kernel
theorem dX4_book_83 : decode cX4_book 83 = .ok (.isub, 1) := by decide +kernel
theorem dX4_book_84 : decode cX4_book 84 = .ok (.ireturn, 1) := by decide +kernel
set_option maxRecDepth 20000 in
theorem ggX4_bagSet_X4_bookAt : GoodIn wsX4_bagSet wsX4_bookAt := goodIn_r _ [5] (by decide +kernel) (by decide +kernel)
set_option maxRecDepth 20000 in
theorem gX4_bagSet_X4_bookAt : GoodIn wsX4_bagSet (va_wsS RX4 53 yX4_bookAt wsX4_bookAt) := goodIn_app (goodIn_of _ (by decide +kernel)) ggX4_bagSet_X4_bookAt
theorem dX4_bagSet_0 : decode cX4_bagSet 0 = .ok (.iconst 0, 1) := by decide +kernel
theorem dX4_bagSet_1 : decode cX4_bagSet 1 = .ok (.istore_n 2, 1) := by decide +kernel
theorem dX4_bagSet_2 : decode cX4_bagSet 2 = .ok (.iconst 0, 1) := by decide +kernel
theorem dX4_bagSet_3 : decode cX4_bagSet 3 = .ok (.istore_n 3, 1) := by decide +kernel
theorem dX4_bagSet_4 : decode cX4_bagSet 4 = .ok (.iload_n 3, 1) := by decide +kernel
theorem dX4_bagSet_5 : decode cX4_bagSet 5 = .ok (.bipush 20, 2) := by decide +kernel
theorem dX4_bagSet_7 : decode cX4_bagSet 7 = .ok (.if_icmp .ge 35, 3) := by decide +kernel
theorem dX4_bagSet_10 : decode cX4_bagSet 10 = .ok (.iload_n 2, 1) := by decide +kernel
theorem dX4_bagSet_11 : decode cX4_bagSet 11 = .ok (.aload_n 0, 1) := by decide +kernel
theorem dX4_bagSet_12 : decode cX4_bagSet 12 = .ok (.getfield 16, 3) := by decide +kernel
theorem dX4_bagSet_15 : decode cX4_bagSet 15 = .ok (.iload_n 3, 1) := by decide +kernel
theorem dX4_bagSet_16 : decode cX4_bagSet 16 = .ok (.iconst 0, 1) := by decide +kernel
theorem dX4_bagSet_17 : decode cX4_bagSet 17 = .ok (.invokestatic 53, 3) := by decide +kernel
theorem dX4_bagSet_20 : decode cX4_bagSet 20 = .ok (.iaload, 1) := by decide +kernel
theorem dX4_bagSet_21 : decode cX4_bagSet 21 = .ok (.iload_n 1, 1) := by decide +kernel
theorem dX4_bagSet_22 : decode cX4_bagSet 22 = .ok (.iconst 1, 1) := by decide +kernel
theorem dX4_bagSet_23 : decode cX4_bagSet 23 = .ok (.iadd, 1) := by decide +kernel
theorem dX4_bagSet_24 : decode cX4_bagSet 24 = .ok (.if_icmp .ne 9, 3) := by decide +kernel
theorem dX4_bagSet_27 : decode cX4_bagSet 27 = .ok (.iconst 1, 1) := by decide +kernel
theorem dX4_bagSet_28 : decode cX4_bagSet 28 = .ok (.iload_n 3, 1) := by decide +kernel
theorem dX4_bagSet_29 : decode cX4_bagSet 29 = .ok (.ishl, 1) := by decide +kernel
theorem dX4_bagSet_30 : decode cX4_bagSet 30 = .ok (.goto 4, 3) := by decide +kernel
theorem dX4_bagSet_33 : decode cX4_bagSet 33 = .ok (.iconst 0, 1) := by decide +kernel
theorem dX4_bagSet_34 : decode cX4_bagSet 34 = .ok (.ior, 1) := by decide +kernel
theorem dX4_bagSet_35 : decode cX4_bagSet 35 = .ok (.istore_n 2, 1) := by decide +kernel
theorem dX4_bagSet_36 : decode cX4_bagSet 36 = .ok (.iinc 3 1, 3) := by decide +kernel
theorem dX4_bagSet_39 : decode cX4_bagSet 39 = .ok (.goto (-35), 3) := by decide +kernel
theorem dX4_bagSet_42 : decode cX4_bagSet 42 = .ok (.iload_n 2, 1) := by decide +kernel
theorem dX4_bagSet_43 : decode cX4_bagSet 43 = .ok (.ireturn, 1) := by decide +kernel
set_option maxRecDepth 20000 in
theorem ggX4_visitor_X4_isVisitor : GoodIn wsX4_visitor wsX4_isVisitor := goodIn_r _ [6, 7, 8, 9, 5, 10] (by decide +kernel) (by decide +kernel)
set_option maxRecDepth 20000 in
theorem gX4_visitor_X4_isVisitor : GoodIn wsX4_visitor (va_wsS RX4 205 yX4_isVisitor wsX4_isVisitor) := goodIn_app (goodIn_of _ (by decide +kernel)) ggX4_visitor_X4_isVisitor
set_option maxRecDepth 20000 in
theorem ggX4_visitor_X4_in : GoodIn wsX4_visitor wsX4_in := goodIn_r _ [10] (by decide +kernel) (by decide +kernel)
set_option maxRecDepth 20000 in
theorem gX4_visitor_X4_in : GoodIn wsX4_visitor (va_wsS RX4 69 yX4_in wsX4_in) := goodIn_app (goodIn_of _ (by decide +kernel)) ggX4_visitor_X4_in
set_option maxRecDepth 20000 in
theorem ggX4_visitor_X4_refused : GoodIn wsX4_visitor wsX4_refused := goodIn_r _ [14, 15, 29, 30, 31, 32, 33, 34, 35, 36, 37, 38, 39, 40, 41] (by decide +kernel) (by decide +kernel)
set_option maxRecDepth 20000 in
theorem gX4_visitor_X4_refused : GoodIn wsX4_visitor (wsV RX4 113 RX4 yX4_refused wsX4_refused) := goodIn_app (goodIn_of _ (by decide +kernel)) ggX4_visitor_X4_refused
set_option maxRecDepth 20000 in
theorem ggX4_visitor_X4_bagSet : GoodIn wsX4_visitor wsX4_bagSet := goodIn_r _ [19, 2, 20, 21, 5, 22, 29, 30, 31, 32, 33, 34, 35, 36, 37, 38, 39, 40, 41] (by decide +kernel) (by decide +kernel)
set_option maxRecDepth 20000 in
theorem gX4_visitor_X4_bagSet : GoodIn wsX4_visitor (wsV RX4 208 RX4 yX4_bagSet wsX4_bagSet) := goodIn_app (goodIn_of _ (by decide +kernel)) ggX4_visitor_X4_bagSet
set_option maxRecDepth 20000 in
theorem ggX4_visitor_X4_isAtGate : GoodIn wsX4_visitor wsX4_isAtGate := goodIn_r _ [25, 26, 27, 5, 28] (by decide +kernel) (by decide +kernel)
set_option maxRecDepth 20000 in
theorem gX4_visitor_X4_isAtGate : GoodIn wsX4_visitor (va_wsS RX4 150 yX4_isAtGate wsX4_isAtGate) := goodIn_app (goodIn_of _ (by decide +kernel)) ggX4_visitor_X4_isAtGate
set_option maxRecDepth 20000 in
theorem ggX4_visitor_X4_visitorAt : GoodIn wsX4_visitor wsX4_visitorAt := goodIn_r _ [28] (by decide +kernel) (by decide +kernel)
set_option maxRecDepth 20000 in
theorem gX4_visitor_X4_visitorAt : GoodIn wsX4_visitor (va_wsS RX4 56 yX4_visitorAt wsX4_visitorAt) := goodIn_app (goodIn_of _ (by decide +kernel)) ggX4_visitor_X4_visitorAt
theorem dX4_visitor_0 : decode cX4_visitor 0 = .ok (.aload_n 0, 1) := by decide +kernel
theorem dX4_visitor_1 : decode cX4_visitor 1 = .ok (.iload_n 1, 1) := by decide +kernel
theorem dX4_visitor_2 : decode cX4_visitor 2 = .ok (.invokestatic 205, 3) := by decide +kernel
theorem dX4_visitor_5 : decode cX4_visitor 5 = .ok (.ifCond .ne 7, 3) := by decide +kernel
theorem dX4_visitor_8 : decode cX4_visitor 8 = .ok (.iconst 1, 1) := by decide +kernel
theorem dX4_visitor_9 : decode cX4_visitor 9 = .ok (.goto 20, 3) := by decide +kernel
theorem dX4_visitor_12 : decode cX4_visitor 12 = .ok (.iload_n 2, 1) := by decide +kernel
theorem dX4_visitor_13 : decode cX4_visitor 13 = .ok (.i2l, 1) := by decide +kernel
theorem dX4_visitor_14 : decode cX4_visitor 14 = .ok (.lconst 0, 1) := by decide +kernel
theorem dX4_visitor_15 : decode cX4_visitor 15 = .ok (.ldc2_w 203, 3) := by decide +kernel
theorem dX4_visitor_18 : decode cX4_visitor 18 = .ok (.invokestatic 69, 3) := by decide +kernel
theorem dX4_visitor_21 : decode cX4_visitor 21 = .ok (.ifCond .eq 7, 3) := by decide +kernel
theorem dX4_visitor_24 : decode cX4_visitor 24 = .ok (.iconst 0, 1) := by decide +kernel
theorem dX4_visitor_25 : decode cX4_visitor 25 = .ok (.goto 4, 3) := by decide +kernel
theorem dX4_visitor_28 : decode cX4_visitor 28 = .ok (.iconst 2, 1) := by decide +kernel
theorem dX4_visitor_29 : decode cX4_visitor 29 = .ok (.invokevirtual 113, 3) := by decide +kernel
theorem dX4_visitor_32 : decode cX4_visitor 32 = .ok (.ifCond .eq 5, 3) := by decide +kernel
theorem dX4_visitor_35 : decode cX4_visitor 35 = .ok (.iconst 0, 1) := by decide +kernel
theorem dX4_visitor_36 : decode cX4_visitor 36 = .ok (.ireturn, 1) := by decide +kernel
theorem dX4_visitor_37 : decode cX4_visitor 37 = .ok (.iload_n 2, 1) := by decide +kernel
theorem dX4_visitor_38 : decode cX4_visitor 38 = .ok (.iconst 4, 1) := by decide +kernel
theorem dX4_visitor_39 : decode cX4_visitor 39 = .ok (.if_icmp .ne 9, 3) := by decide +kernel
theorem dX4_visitor_42 : decode cX4_visitor 42 = .ok (.aload_n 0, 1) := by decide +kernel
theorem dX4_visitor_43 : decode cX4_visitor 43 = .ok (.iload_n 1, 1) := by decide +kernel
theorem dX4_visitor_44 : decode cX4_visitor 44 = .ok (.invokevirtual 208, 3) := by decide +kernel
theorem dX4_visitor_47 : decode cX4_visitor 47 = .ok (.ireturn, 1) := by decide +kernel
theorem dX4_visitor_48 : decode cX4_visitor 48 = .ok (.iload_n 2, 1) := by decide +kernel
theorem dX4_visitor_49 : decode cX4_visitor 49 = .ok (.ifCond .eq 14, 3) := by decide +kernel
theorem dX4_visitor_52 : decode cX4_visitor 52 = .ok (.aload_n 0, 1) := by decide +kernel
theorem dX4_visitor_53 : decode cX4_visitor 53 = .ok (.getfield 16, 3) := by decide +kernel
theorem dX4_visitor_56 : decode cX4_visitor 56 = .ok (.iload_n 1, 1) := by decide +kernel
theorem dX4_visitor_57 : decode cX4_visitor 57 = .ok (.invokestatic 150, 3) := by decide +kernel
theorem dX4_visitor_60 : decode cX4_visitor 60 = .ok (.ifCond .eq 16, 3) := by decide +kernel
theorem dX4_visitor_63 : decode cX4_visitor 63 = .ok (.aload_n 0, 1) := by decide +kernel
theorem dX4_visitor_64 : decode cX4_visitor 64 = .ok (.getfield 16, 3) := by decide +kernel
theorem dX4_visitor_67 : decode cX4_visitor 67 = .ok (.iload_n 1, 1) := by decide +kernel
theorem dX4_visitor_68 : decode cX4_visitor 68 = .ok (.iload_n 2, 1) := by decide +kernel
theorem dX4_visitor_69 : decode cX4_visitor 69 = .ok (.invokestatic 56, 3) := by decide +kernel
theorem dX4_visitor_72 : decode cX4_visitor 72 = .ok (.iaload, 1) := by decide +kernel
theorem dX4_visitor_73 : decode cX4_visitor 73 = .ok (.goto 5, 3) := by decide +kernel
theorem dX4_visitor_76 : decode cX4_visitor 76 = .ok (.bipush (-9), 2) := by decide +kernel
theorem dX4_visitor_78 : decode cX4_visitor 78 = .ok (.ireturn, 1) := by decide +kernel
set_option maxRecDepth 20000 in
theorem ggX4_readSet_X4_readsBook : GoodIn wsX4_readSet wsX4_readsBook := goodIn_r _ [5, 6, 7, 4, 8, 9, 10, 11, 12, 13, 14, 15, 16, 17, 18, 19, 20, 21, 22, 23, 24] (by decide +kernel) (by decide +kernel)
set_option maxRecDepth 20000 in
theorem gX4_readSet_X4_readsBook : GoodIn wsX4_readSet (va_wsS RX4 92 yX4_readsBook wsX4_readsBook) := goodIn_app (goodIn_of _ (by decide +kernel)) ggX4_readSet_X4_readsBook
theorem dX4_readSet_0 : decode cX4_readSet 0 = .ok (.iconst 0, 1) := by decide +kernel
theorem dX4_readSet_1 : decode cX4_readSet 1 = .ok (.istore_n 2, 1) := by decide +kernel
theorem dX4_readSet_2 : decode cX4_readSet 2 = .ok (.iconst 0, 1) := by decide +kernel
theorem dX4_readSet_3 : decode cX4_readSet 3 = .ok (.istore_n 3, 1) := by decide +kernel
theorem dX4_readSet_4 : decode cX4_readSet 4 = .ok (.iload_n 3, 1) := by decide +kernel
theorem dX4_readSet_5 : decode cX4_readSet 5 = .ok (.bipush 20, 2) := by decide +kernel
theorem dX4_readSet_7 : decode cX4_readSet 7 = .ok (.if_icmp .ge 31, 3) := by decide +kernel
theorem dX4_readSet_10 : decode cX4_readSet 10 = .ok (.iload_n 2, 1) := by decide +kernel
theorem dX4_readSet_11 : decode cX4_readSet 11 = .ok (.aload_n 0, 1) := by decide +kernel
theorem dX4_readSet_12 : decode cX4_readSet 12 = .ok (.getfield 16, 3) := by decide +kernel
theorem dX4_readSet_15 : decode cX4_readSet 15 = .ok (.iload_n 1, 1) := by decide +kernel
theorem dX4_readSet_16 : decode cX4_readSet 16 = .ok (.iload_n 3, 1) := by decide +kernel
theorem dX4_readSet_17 : decode cX4_readSet 17 = .ok (.invokestatic 92, 3) := by decide +kernel
theorem dX4_readSet_20 : decode cX4_readSet 20 = .ok (.ifCond .eq 9, 3) := by decide +kernel
theorem dX4_readSet_23 : decode cX4_readSet 23 = .ok (.iconst 1, 1) := by decide +kernel
theorem dX4_readSet_24 : decode cX4_readSet 24 = .ok (.iload_n 3, 1) := by decide +kernel
theorem dX4_readSet_25 : decode cX4_readSet 25 = .ok (.ishl, 1) := by decide +kernel
theorem dX4_readSet_26 : decode cX4_readSet 26 = .ok (.goto 4, 3) := by decide +kernel
theorem dX4_readSet_29 : decode cX4_readSet 29 = .ok (.iconst 0, 1) := by decide +kernel
theorem dX4_readSet_30 : decode cX4_readSet 30 = .ok (.ior, 1) := by decide +kernel
theorem dX4_readSet_31 : decode cX4_readSet 31 = .ok (.istore_n 2, 1) := by decide +kernel
theorem dX4_readSet_32 : decode cX4_readSet 32 = .ok (.iinc 3 1, 3) := by decide +kernel
theorem dX4_readSet_35 : decode cX4_readSet 35 = .ok (.goto (-31), 3) := by decide +kernel
theorem dX4_readSet_38 : decode cX4_readSet 38 = .ok (.iload_n 2, 1) := by decide +kernel
theorem dX4_readSet_39 : decode cX4_readSet 39 = .ok (.ireturn, 1) := by decide +kernel
set_option maxRecDepth 20000 in
theorem ggX4_gate_X4_isGate : GoodIn wsX4_gate wsX4_isGate := goodIn_r _ [6, 7, 8, 9, 5, 10] (by decide +kernel) (by decide +kernel)
set_option maxRecDepth 20000 in
theorem gX4_gate_X4_isGate : GoodIn wsX4_gate (va_wsS RX4 211 yX4_isGate wsX4_isGate) := goodIn_app (goodIn_of _ (by decide +kernel)) ggX4_gate_X4_isGate
set_option maxRecDepth 20000 in
theorem ggX4_gate_X4_in : GoodIn wsX4_gate wsX4_in := goodIn_r _ [10] (by decide +kernel) (by decide +kernel)
set_option maxRecDepth 20000 in
theorem gX4_gate_X4_in : GoodIn wsX4_gate (va_wsS RX4 69 yX4_in wsX4_in) := goodIn_app (goodIn_of _ (by decide +kernel)) ggX4_gate_X4_in
set_option maxRecDepth 20000 in
theorem ggX4_gate_X4_refused : GoodIn wsX4_gate wsX4_refused := goodIn_r _ [14, 15, 39, 40, 41, 42, 43, 44, 45, 46, 47, 48, 49, 50, 51] (by decide +kernel) (by decide +kernel)
set_option maxRecDepth 20000 in
theorem gX4_gate_X4_refused : GoodIn wsX4_gate (wsV RX4 113 RX4 yX4_refused wsX4_refused) := goodIn_app (goodIn_of _ (by decide +kernel)) ggX4_gate_X4_refused
set_option maxRecDepth 20000 in
theorem ggX4_gate_X4_gateAt : GoodIn wsX4_gate wsX4_gateAt := goodIn_r _ [18] (by decide +kernel) (by decide +kernel)
set_option maxRecDepth 20000 in
theorem gX4_gate_X4_gateAt : GoodIn wsX4_gate (va_wsS RX4 42 yX4_gateAt wsX4_gateAt) := goodIn_app (goodIn_of _ (by decide +kernel)) ggX4_gate_X4_gateAt
set_option maxRecDepth 20000 in
theorem ggX4_gate_X4_readSet : GoodIn wsX4_gate wsX4_readSet := goodIn_r _ [22, 2, 23, 24, 5, 25, 26, 27, 28, 29, 30, 31, 32, 33, 34, 35, 36, 37, 38, 16, 17, 18, 8, 9, 10, 39, 40, 41, 42, 43, 44, 45, 46, 47, 48, 49, 50, 51] (by decide +kernel) (by decide +kernel)
set_option maxRecDepth 20000 in
theorem gX4_gate_X4_readSet : GoodIn wsX4_gate (wsV RX4 214 RX4 yX4_readSet wsX4_readSet) := goodIn_app (goodIn_of _ (by decide +kernel)) ggX4_gate_X4_readSet
theorem dX4_gate_0 : decode cX4_gate 0 = .ok (.aload_n 0, 1) := by decide +kernel
theorem dX4_gate_1 : decode cX4_gate 1 = .ok (.iload_n 1, 1) := by decide +kernel
theorem dX4_gate_2 : decode cX4_gate 2 = .ok (.invokestatic 211, 3) := by decide +kernel
theorem dX4_gate_5 : decode cX4_gate 5 = .ok (.ifCond .ne 7, 3) := by decide +kernel
theorem dX4_gate_8 : decode cX4_gate 8 = .ok (.iconst 1, 1) := by decide +kernel
theorem dX4_gate_9 : decode cX4_gate 9 = .ok (.goto 20, 3) := by decide +kernel
theorem dX4_gate_12 : decode cX4_gate 12 = .ok (.iload_n 2, 1) := by decide +kernel
theorem dX4_gate_13 : decode cX4_gate 13 = .ok (.i2l, 1) := by decide +kernel
theorem dX4_gate_14 : decode cX4_gate 14 = .ok (.lconst 0, 1) := by decide +kernel
theorem dX4_gate_15 : decode cX4_gate 15 = .ok (.ldc2_w 196, 3) := by decide +kernel
theorem dX4_gate_18 : decode cX4_gate 18 = .ok (.invokestatic 69, 3) := by decide +kernel
theorem dX4_gate_21 : decode cX4_gate 21 = .ok (.ifCond .eq 7, 3) := by decide +kernel
theorem dX4_gate_24 : decode cX4_gate 24 = .ok (.iconst 0, 1) := by decide +kernel
theorem dX4_gate_25 : decode cX4_gate 25 = .ok (.goto 4, 3) := by decide +kernel
theorem dX4_gate_28 : decode cX4_gate 28 = .ok (.iconst 2, 1) := by decide +kernel
theorem dX4_gate_29 : decode cX4_gate 29 = .ok (.invokevirtual 113, 3) := by decide +kernel
theorem dX4_gate_32 : decode cX4_gate 32 = .ok (.ifCond .eq 5, 3) := by decide +kernel
theorem dX4_gate_35 : decode cX4_gate 35 = .ok (.iconst 0, 1) := by decide +kernel
theorem dX4_gate_36 : decode cX4_gate 36 = .ok (.ireturn, 1) := by decide +kernel
theorem dX4_gate_37 : decode cX4_gate 37 = .ok (.iload_n 2, 1) := by decide +kernel
theorem dX4_gate_38 : decode cX4_gate 38 = .ok (.tableswitch 75 3 5 #[26, 58, 69], 26) := by decide +kernel
theorem dX4_gate_64 : decode cX4_gate 64 = .ok (.aload_n 0, 1) := by decide +kernel
theorem dX4_gate_65 : decode cX4_gate 65 = .ok (.getfield 16, 3) := by decide +kernel
theorem dX4_gate_68 : decode cX4_gate 68 = .ok (.iload_n 1, 1) := by decide +kernel
theorem dX4_gate_69 : decode cX4_gate 69 = .ok (.iconst 2, 1) := by decide +kernel
theorem dX4_gate_70 : decode cX4_gate 70 = .ok (.invokestatic 42, 3) := by decide +kernel
theorem dX4_gate_73 : decode cX4_gate 73 = .ok (.iaload, 1) := by decide +kernel
theorem dX4_gate_74 : decode cX4_gate 74 = .ok (.ifCond .le 19, 3) := by decide +kernel
theorem dX4_gate_77 : decode cX4_gate 77 = .ok (.aload_n 0, 1) := by decide +kernel
theorem dX4_gate_78 : decode cX4_gate 78 = .ok (.getfield 16, 3) := by decide +kernel
theorem dX4_gate_81 : decode cX4_gate 81 = .ok (.sipush 136, 3) := by decide +kernel
theorem dX4_gate_84 : decode cX4_gate 84 = .ok (.bipush 20, 2) := by decide +kernel
theorem dX4_gate_86 : decode cX4_gate 86 = .ok (.iload_n 1, 1) := by decide +kernel
theorem dX4_gate_87 : decode cX4_gate 87 = .ok (.imul, 1) := by decide +kernel
theorem dX4_gate_88 : decode cX4_gate 88 = .ok (.iadd, 1) := by decide +kernel
theorem dX4_gate_89 : decode cX4_gate 89 = .ok (.iaload, 1) := by decide +kernel
theorem dX4_gate_90 : decode cX4_gate 90 = .ok (.goto 5, 3) := by decide +kernel
theorem dX4_gate_93 : decode cX4_gate 93 = .ok (.bipush (-9), 2) := by decide +kernel
theorem dX4_gate_95 : decode cX4_gate 95 = .ok (.ireturn, 1) := by decide +kernel
theorem dX4_gate_96 : decode cX4_gate 96 = .ok (.aload_n 0, 1) := by decide +kernel
theorem dX4_gate_97 : decode cX4_gate 97 = .ok (.getfield 16, 3) := by decide +kernel
theorem dX4_gate_100 : decode cX4_gate 100 = .ok (.iload_n 1, 1) := by decide +kernel
theorem dX4_gate_101 : decode cX4_gate 101 = .ok (.iconst 3, 1) := by decide +kernel
theorem dX4_gate_102 : decode cX4_gate 102 = .ok (.invokestatic 42, 3) := by decide +kernel
theorem dX4_gate_105 : decode cX4_gate 105 = .ok (.iaload, 1) := by decide +kernel
theorem dX4_gate_106 : decode cX4_gate 106 = .ok (.ireturn, 1) := by decide +kernel
theorem dX4_gate_107 : decode cX4_gate 107 = .ok (.aload_n 0, 1) := by decide +kernel
theorem dX4_gate_108 : decode cX4_gate 108 = .ok (.iload_n 1, 1) := by decide +kernel
theorem dX4_gate_109 : decode cX4_gate 109 = .ok (.invokevirtual 214, 3) := by decide +kernel
theorem dX4_gate_112 : decode cX4_gate 112 = .ok (.ireturn, 1) := by decide +kernel
theorem dX4_gate_113 : decode cX4_gate 113 = .ok (.aload_n 0, 1) := by decide +kernel
theorem dX4_gate_114 : decode cX4_gate 114 = .ok (.getfield 16, 3) := by decide +kernel
theorem dX4_gate_117 : decode cX4_gate 117 = .ok (.iload_n 1, 1) := by decide +kernel
theorem dX4_gate_118 : decode cX4_gate 118 = .ok (.iload_n 2, 1) := by decide +kernel
theorem dX4_gate_119 : decode cX4_gate 119 = .ok (.invokestatic 42, 3) := by decide +kernel
theorem dX4_gate_122 : decode cX4_gate 122 = .ok (.iaload, 1) := by decide +kernel
theorem dX4_gate_123 : decode cX4_gate 123 = .ok (.ireturn, 1) := by decide +kernel
set_option maxRecDepth 20000 in
theorem ggX4_shout_X4_in : GoodIn wsX4_shout wsX4_in := goodIn_r _ [7] (by decide +kernel) (by decide +kernel)
set_option maxRecDepth 20000 in
theorem gX4_shout_X4_in : GoodIn wsX4_shout (va_wsS RX4 69 yX4_in wsX4_in) := goodIn_app (goodIn_of _ (by decide +kernel)) ggX4_shout_X4_in
set_option maxRecDepth 20000 in
theorem ggX4_shout_X4_refused : GoodIn wsX4_shout wsX4_refused := goodIn_r _ [11, 12, 13, 14, 15, 16, 17, 18, 19, 20, 21, 22, 23, 24, 25] (by decide +kernel) (by decide +kernel)
set_option maxRecDepth 20000 in
theorem gX4_shout_X4_refused : GoodIn wsX4_shout (wsV RX4 113 RX4 yX4_refused wsX4_refused) := goodIn_app (goodIn_of _ (by decide +kernel)) ggX4_shout_X4_refused
theorem dX4_shout_0 : decode cX4_shout 0 = .ok (.aload_n 0, 1) := by decide +kernel
theorem dX4_shout_1 : decode cX4_shout 1 = .ok (.iload_n 1, 1) := by decide +kernel
theorem dX4_shout_2 : decode cX4_shout 2 = .ok (.i2l, 1) := by decide +kernel
theorem dX4_shout_3 : decode cX4_shout 3 = .ok (.lconst 0, 1) := by decide +kernel
theorem dX4_shout_4 : decode cX4_shout 4 = .ok (.ldc2_w 124, 3) := by decide +kernel
theorem dX4_shout_7 : decode cX4_shout 7 = .ok (.invokestatic 69, 3) := by decide +kernel
theorem dX4_shout_10 : decode cX4_shout 10 = .ok (.ifCond .eq 19, 3) := by decide +kernel
theorem dX4_shout_13 : decode cX4_shout 13 = .ok (.iload_n 2, 1) := by decide +kernel
theorem dX4_shout_14 : decode cX4_shout 14 = .ok (.i2l, 1) := by decide +kernel
theorem dX4_shout_15 : decode cX4_shout 15 = .ok (.lconst 0, 1) := by decide +kernel
theorem dX4_shout_16 : decode cX4_shout 16 = .ok (.ldc2_w 198, 3) := by decide +kernel
theorem dX4_shout_19 : decode cX4_shout 19 = .ok (.invokestatic 69, 3) := by decide +kernel
theorem dX4_shout_22 : decode cX4_shout 22 = .ok (.ifCond .eq 7, 3) := by decide +kernel
theorem dX4_shout_25 : decode cX4_shout 25 = .ok (.iconst 0, 1) := by decide +kernel
theorem dX4_shout_26 : decode cX4_shout 26 = .ok (.goto 4, 3) := by decide +kernel
theorem dX4_shout_29 : decode cX4_shout 29 = .ok (.iconst 1, 1) := by decide +kernel
theorem dX4_shout_30 : decode cX4_shout 30 = .ok (.invokevirtual 113, 3) := by decide +kernel
theorem dX4_shout_33 : decode cX4_shout 33 = .ok (.ifCond .eq 5, 3) := by decide +kernel
theorem dX4_shout_36 : decode cX4_shout 36 = .ok (.iconst 0, 1) := by decide +kernel
theorem dX4_shout_37 : decode cX4_shout 37 = .ok (.ireturn, 1) := by decide +kernel
theorem dX4_shout_38 : decode cX4_shout 38 = .ok (.iload_n 1, 1) := by decide +kernel
theorem dX4_shout_39 : decode cX4_shout 39 = .ok (.aload_n 0, 1) := by decide +kernel
theorem dX4_shout_40 : decode cX4_shout 40 = .ok (.getfield 16, 3) := by decide +kernel
theorem dX4_shout_43 : decode cX4_shout 43 = .ok (.sipush 202, 3) := by decide +kernel
theorem dX4_shout_46 : decode cX4_shout 46 = .ok (.iaload, 1) := by decide +kernel
theorem dX4_shout_47 : decode cX4_shout 47 = .ok (.if_icmp .ge 20, 3) := by decide +kernel
theorem dX4_shout_50 : decode cX4_shout 50 = .ok (.aload_n 0, 1) := by decide +kernel
theorem dX4_shout_51 : decode cX4_shout 51 = .ok (.getfield 16, 3) := by decide +kernel
theorem dX4_shout_54 : decode cX4_shout 54 = .ok (.sipush 203, 3) := by decide +kernel
theorem dX4_shout_57 : decode cX4_shout 57 = .ok (.iconst 3, 1) := by decide +kernel
theorem dX4_shout_58 : decode cX4_shout 58 = .ok (.iload_n 1, 1) := by decide +kernel
theorem dX4_shout_59 : decode cX4_shout 59 = .ok (.imul, 1) := by decide +kernel
theorem dX4_shout_60 : decode cX4_shout 60 = .ok (.iadd, 1) := by decide +kernel
theorem dX4_shout_61 : decode cX4_shout 61 = .ok (.iload_n 2, 1) := by decide +kernel
theorem dX4_shout_62 : decode cX4_shout 62 = .ok (.iadd, 1) := by decide +kernel
theorem dX4_shout_63 : decode cX4_shout 63 = .ok (.iaload, 1) := by decide +kernel
theorem dX4_shout_64 : decode cX4_shout 64 = .ok (.goto 5, 3) := by decide +kernel
theorem dX4_shout_67 : decode cX4_shout 67 = .ok (.bipush (-9), 2) := by decide +kernel
theorem dX4_shout_69 : decode cX4_shout 69 = .ok (.ireturn, 1) := by decide +kernel
set_option maxRecDepth 20000 in
theorem ggX4_take_X4_isVisitor : GoodIn wsX4_take wsX4_isVisitor := goodIn_r _ [5, 6, 7, 8, 4, 9] (by decide +kernel) (by decide +kernel)
set_option maxRecDepth 20000 in
theorem gX4_take_X4_isVisitor : GoodIn wsX4_take (va_wsS RX4 205 yX4_isVisitor wsX4_isVisitor) := goodIn_app (goodIn_of _ (by decide +kernel)) ggX4_take_X4_isVisitor
set_option maxRecDepth 20000 in
theorem ggX4_take_X4_isBook : GoodIn wsX4_take wsX4_isBook := goodIn_r _ [12, 13, 7, 8, 4, 9] (by decide +kernel) (by decide +kernel)
set_option maxRecDepth 20000 in
theorem gX4_take_X4_isBook : GoodIn wsX4_take (va_wsS RX4 200 yX4_isBook wsX4_isBook) := goodIn_app (goodIn_of _ (by decide +kernel)) ggX4_take_X4_isBook
set_option maxRecDepth 20000 in
theorem ggX4_take_X4_canTake : GoodIn wsX4_take wsX4_canTake := goodIn_r _ [16, 17, 18, 4, 19, 20, 21, 22, 23, 24, 25, 26, 27, 28] (by decide +kernel) (by decide +kernel)
set_option maxRecDepth 20000 in
theorem gX4_take_X4_canTake : GoodIn wsX4_take (va_wsS RX4 140 yX4_canTake wsX4_canTake) := goodIn_app (goodIn_of _ (by decide +kernel)) ggX4_take_X4_canTake
set_option maxRecDepth 20000 in
theorem ggX4_take_X4_refused : GoodIn wsX4_take wsX4_refused := goodIn_r _ [32, 33, 43, 44, 45, 46, 47, 48, 49, 50, 51, 52, 53, 54, 55] (by decide +kernel) (by decide +kernel)
set_option maxRecDepth 20000 in
theorem gX4_take_X4_refused : GoodIn wsX4_take (wsV RX4 113 RX4 yX4_refused wsX4_refused) := goodIn_app (goodIn_of _ (by decide +kernel)) ggX4_take_X4_refused
set_option maxRecDepth 20000 in
theorem ggX4_take_X4_remember : GoodIn wsX4_take wsX4_remember := goodIn_r _ [37, 38, 39, 1, 40, 41, 4, 42, 43, 44, 45, 46, 47, 48, 49, 50, 51, 52, 53, 54, 55] (by decide +kernel) (by decide +kernel)
set_option maxRecDepth 20000 in
theorem gX4_take_X4_remember : GoodIn wsX4_take (wsV RX4 217 RX4 yX4_remember wsX4_remember) := goodIn_app (goodIn_of _ (by decide +kernel)) ggX4_take_X4_remember
set_option maxRecDepth 20000 in
theorem ggX4_take_X4_bookAt : GoodIn wsX4_take wsX4_bookAt := goodIn_r _ [19] (by decide +kernel) (by decide +kernel)
set_option maxRecDepth 20000 in
theorem gX4_take_X4_bookAt : GoodIn wsX4_take (va_wsS RX4 53 yX4_bookAt wsX4_bookAt) := goodIn_app (goodIn_of _ (by decide +kernel)) ggX4_take_X4_bookAt
set_option maxRecDepth 20000 in
theorem ggX4_take_X4_bag : GoodIn wsX4_take wsX4_bag := goodIn_r _ [28, 17, 18, 4, 19] (by decide +kernel) (by decide +kernel)
set_option maxRecDepth 20000 in
theorem gX4_take_X4_bag : GoodIn wsX4_take (va_wsS RX4 63 yX4_bag wsX4_bag) := goodIn_app (goodIn_of _ (by decide +kernel)) ggX4_take_X4_bag
theorem dX4_take_0 : decode cX4_take 0 = .ok (.iload_n 1, 1) := by decide +kernel
theorem dX4_take_1 : decode cX4_take 1 = .ok (.invokestatic 205, 3) := by decide +kernel
theorem dX4_take_4 : decode cX4_take 4 = .ok (.ifCond .eq 14, 3) := by decide +kernel
theorem dX4_take_7 : decode cX4_take 7 = .ok (.iload_n 2, 1) := by decide +kernel
theorem dX4_take_8 : decode cX4_take 8 = .ok (.invokestatic 200, 3) := by decide +kernel
theorem dX4_take_11 : decode cX4_take 11 = .ok (.ifCond .eq 7, 3) := by decide +kernel
theorem dX4_take_14 : decode cX4_take 14 = .ok (.iconst 1, 1) := by decide +kernel
theorem dX4_take_15 : decode cX4_take 15 = .ok (.goto 4, 3) := by decide +kernel
theorem dX4_take_18 : decode cX4_take 18 = .ok (.iconst 0, 1) := by decide +kernel
theorem dX4_take_19 : decode cX4_take 19 = .ok (.istore_n 3, 1) := by decide +kernel
theorem dX4_take_20 : decode cX4_take 20 = .ok (.aload_n 0, 1) := by decide +kernel
theorem dX4_take_21 : decode cX4_take 21 = .ok (.iload_n 3, 1) := by decide +kernel
theorem dX4_take_22 : decode cX4_take 22 = .ok (.ifCond .ne 7, 3) := by decide +kernel
theorem dX4_take_25 : decode cX4_take 25 = .ok (.iconst 1, 1) := by decide +kernel
theorem dX4_take_26 : decode cX4_take 26 = .ok (.goto 20, 3) := by decide +kernel
theorem dX4_take_29 : decode cX4_take 29 = .ok (.aload_n 0, 1) := by decide +kernel
theorem dX4_take_30 : decode cX4_take 30 = .ok (.getfield 16, 3) := by decide +kernel
theorem dX4_take_33 : decode cX4_take 33 = .ok (.iload_n 1, 1) := by decide +kernel
theorem dX4_take_34 : decode cX4_take 34 = .ok (.iload_n 2, 1) := by decide +kernel
theorem dX4_take_35 : decode cX4_take 35 = .ok (.invokestatic 140, 3) := by decide +kernel
theorem dX4_take_38 : decode cX4_take 38 = .ok (.ifCond .eq 7, 3) := by decide +kernel
theorem dX4_take_41 : decode cX4_take 41 = .ok (.iconst 0, 1) := by decide +kernel
theorem dX4_take_42 : decode cX4_take 42 = .ok (.goto 4, 3) := by decide +kernel
theorem dX4_take_45 : decode cX4_take 45 = .ok (.iconst 2, 1) := by decide +kernel
theorem dX4_take_46 : decode cX4_take 46 = .ok (.invokevirtual 113, 3) := by decide +kernel
theorem dX4_take_49 : decode cX4_take 49 = .ok (.ifCond .eq 5, 3) := by decide +kernel
theorem dX4_take_52 : decode cX4_take 52 = .ok (.iconst 0, 1) := by decide +kernel
theorem dX4_take_53 : decode cX4_take 53 = .ok (.ireturn, 1) := by decide +kernel
theorem dX4_take_54 : decode cX4_take 54 = .ok (.aload_n 0, 1) := by decide +kernel
theorem dX4_take_55 : decode cX4_take 55 = .ok (.invokevirtual 217, 3) := by decide +kernel
theorem dX4_take_58 : decode cX4_take 58 = .ok (.aload_n 0, 1) := by decide +kernel
theorem dX4_take_59 : decode cX4_take 59 = .ok (.getfield 16, 3) := by decide +kernel
theorem dX4_take_62 : decode cX4_take 62 = .ok (.iload_n 2, 1) := by decide +kernel
theorem dX4_take_63 : decode cX4_take 63 = .ok (.iconst 0, 1) := by decide +kernel
theorem dX4_take_64 : decode cX4_take 64 = .ok (.invokestatic 53, 3) := by decide +kernel
theorem dX4_take_67 : decode cX4_take 67 = .ok (.iload_n 1, 1) := by decide +kernel
theorem dX4_take_68 : decode cX4_take 68 = .ok (.iconst 1, 1) := by decide +kernel
theorem dX4_take_69 : decode cX4_take 69 = .ok (.iadd, 1) := by decide +kernel
theorem dX4_take_70 : decode cX4_take 70 = .ok (.iastore, 1) := by decide +kernel
theorem dX4_take_71 : decode cX4_take 71 = .ok (.aload_n 0, 1) := by decide +kernel
theorem dX4_take_72 : decode cX4_take 72 = .ok (.getfield 16, 3) := by decide +kernel
theorem dX4_take_75 : decode cX4_take 75 = .ok (.iload_n 1, 1) := by decide +kernel
theorem dX4_take_76 : decode cX4_take 76 = .ok (.invokestatic 63, 3) := by decide +kernel
theorem dX4_take_79 : decode cX4_take 79 = .ok (.ireturn, 1) := by decide +kernel
set_option maxRecDepth 20000 in
theorem ggX4_putBack_X4_isBook : GoodIn wsX4_putBack wsX4_isBook := goodIn_r _ [5, 6, 7, 8, 4, 9] (by decide +kernel) (by decide +kernel)
set_option maxRecDepth 20000 in
theorem gX4_putBack_X4_isBook : GoodIn wsX4_putBack (va_wsS RX4 200 yX4_isBook wsX4_isBook) := goodIn_app (goodIn_of _ (by decide +kernel)) ggX4_putBack_X4_isBook
set_option maxRecDepth 20000 in
theorem ggX4_putBack_X4_canPutBack : GoodIn wsX4_putBack wsX4_canPutBack := goodIn_r _ [12, 13, 14, 4, 15, 16, 17, 18, 19, 20, 21, 22, 23, 24] (by decide +kernel) (by decide +kernel)
set_option maxRecDepth 20000 in
theorem gX4_putBack_X4_canPutBack : GoodIn wsX4_putBack (va_wsS RX4 147 yX4_canPutBack wsX4_canPutBack) := goodIn_app (goodIn_of _ (by decide +kernel)) ggX4_putBack_X4_canPutBack
set_option maxRecDepth 20000 in
theorem ggX4_putBack_X4_refused : GoodIn wsX4_putBack wsX4_refused := goodIn_r _ [28, 29, 39, 40, 41, 42, 43, 44, 45, 46, 47, 48, 49, 50, 51] (by decide +kernel) (by decide +kernel)
set_option maxRecDepth 20000 in
theorem gX4_putBack_X4_refused : GoodIn wsX4_putBack (wsV RX4 113 RX4 yX4_refused wsX4_refused) := goodIn_app (goodIn_of _ (by decide +kernel)) ggX4_putBack_X4_refused
set_option maxRecDepth 20000 in
theorem ggX4_putBack_X4_remember : GoodIn wsX4_putBack wsX4_remember := goodIn_r _ [33, 34, 35, 1, 36, 37, 4, 38, 39, 40, 41, 42, 43, 44, 45, 46, 47, 48, 49, 50, 51] (by decide +kernel) (by decide +kernel)
set_option maxRecDepth 20000 in
theorem gX4_putBack_X4_remember : GoodIn wsX4_putBack (wsV RX4 217 RX4 yX4_remember wsX4_remember) := goodIn_app (goodIn_of _ (by decide +kernel)) ggX4_putBack_X4_remember
set_option maxRecDepth 20000 in
theorem ggX4_putBack_X4_bookAt : GoodIn wsX4_putBack wsX4_bookAt := goodIn_r _ [15] (by decide +kernel) (by decide +kernel)
set_option maxRecDepth 20000 in
theorem gX4_putBack_X4_bookAt : GoodIn wsX4_putBack (va_wsS RX4 53 yX4_bookAt wsX4_bookAt) := goodIn_app (goodIn_of _ (by decide +kernel)) ggX4_putBack_X4_bookAt
theorem dX4_putBack_0 : decode cX4_putBack 0 = .ok (.aload_n 0, 1) := by decide +kernel
theorem dX4_putBack_1 : decode cX4_putBack 1 = .ok (.iload_n 1, 1) := by decide +kernel
theorem dX4_putBack_2 : decode cX4_putBack 2 = .ok (.invokestatic 200, 3) := by decide +kernel
theorem dX4_putBack_5 : decode cX4_putBack 5 = .ok (.ifCond .ne 7, 3) := by decide +kernel
theorem dX4_putBack_8 : decode cX4_putBack 8 = .ok (.iconst 1, 1) := by decide +kernel
theorem dX4_putBack_9 : decode cX4_putBack 9 = .ok (.goto 19, 3) := by decide +kernel
theorem dX4_putBack_12 : decode cX4_putBack 12 = .ok (.aload_n 0, 1) := by decide +kernel
theorem dX4_putBack_13 : decode cX4_putBack 13 = .ok (.getfield 16, 3) := by decide +kernel
theorem dX4_putBack_16 : decode cX4_putBack 16 = .ok (.iload_n 1, 1) := by decide +kernel
theorem dX4_putBack_17 : decode cX4_putBack 17 = .ok (.invokestatic 147, 3) := by decide +kernel
theorem dX4_putBack_20 : decode cX4_putBack 20 = .ok (.ifCond .eq 7, 3) := by decide +kernel
theorem dX4_putBack_23 : decode cX4_putBack 23 = .ok (.iconst 0, 1) := by decide +kernel
theorem dX4_putBack_24 : decode cX4_putBack 24 = .ok (.goto 4, 3) := by decide +kernel
theorem dX4_putBack_27 : decode cX4_putBack 27 = .ok (.iconst 2, 1) := by decide +kernel
theorem dX4_putBack_28 : decode cX4_putBack 28 = .ok (.invokevirtual 113, 3) := by decide +kernel
theorem dX4_putBack_31 : decode cX4_putBack 31 = .ok (.ifCond .eq 5, 3) := by decide +kernel
theorem dX4_putBack_34 : decode cX4_putBack 34 = .ok (.iconst 0, 1) := by decide +kernel
theorem dX4_putBack_35 : decode cX4_putBack 35 = .ok (.ireturn, 1) := by decide +kernel
theorem dX4_putBack_36 : decode cX4_putBack 36 = .ok (.aload_n 0, 1) := by decide +kernel
theorem dX4_putBack_37 : decode cX4_putBack 37 = .ok (.invokevirtual 217, 3) := by decide +kernel
theorem dX4_putBack_40 : decode cX4_putBack 40 = .ok (.aload_n 0, 1) := by decide +kernel
theorem dX4_putBack_41 : decode cX4_putBack 41 = .ok (.getfield 16, 3) := by decide +kernel
theorem dX4_putBack_44 : decode cX4_putBack 44 = .ok (.iload_n 1, 1) := by decide +kernel
theorem dX4_putBack_45 : decode cX4_putBack 45 = .ok (.iconst 0, 1) := by decide +kernel
theorem dX4_putBack_46 : decode cX4_putBack 46 = .ok (.invokestatic 53, 3) := by decide +kernel
theorem dX4_putBack_49 : decode cX4_putBack 49 = .ok (.iaload, 1) := by decide +kernel
theorem dX4_putBack_50 : decode cX4_putBack 50 = .ok (.iconst 1, 1) := by decide +kernel
theorem dX4_putBack_51 : decode cX4_putBack 51 = .ok (.isub, 1) := by decide +kernel
theorem dX4_putBack_52 : decode cX4_putBack 52 = .ok (.istore_n 2, 1) := by decide +kernel
theorem dX4_putBack_53 : decode cX4_putBack 53 = .ok (.aload_n 0, 1) := by decide +kernel
theorem dX4_putBack_54 : decode cX4_putBack 54 = .ok (.getfield 16, 3) := by decide +kernel
theorem dX4_putBack_57 : decode cX4_putBack 57 = .ok (.iload_n 1, 1) := by decide +kernel
theorem dX4_putBack_58 : decode cX4_putBack 58 = .ok (.iconst 0, 1) := by decide +kernel
theorem dX4_putBack_59 : decode cX4_putBack 59 = .ok (.invokestatic 53, 3) := by decide +kernel
theorem dX4_putBack_62 : decode cX4_putBack 62 = .ok (.iconst 0, 1) := by decide +kernel
theorem dX4_putBack_63 : decode cX4_putBack 63 = .ok (.iastore, 1) := by decide +kernel
theorem dX4_putBack_64 : decode cX4_putBack 64 = .ok (.iload_n 2, 1) := by decide +kernel
theorem dX4_putBack_65 : decode cX4_putBack 65 = .ok (.ireturn, 1) := by decide +kernel
set_option maxRecDepth 20000 in
theorem ggX4_mark_X4_isBook : GoodIn wsX4_mark wsX4_isBook := goodIn_r _ [5, 6, 7, 8, 4, 9] (by decide +kernel) (by decide +kernel)
set_option maxRecDepth 20000 in
theorem gX4_mark_X4_isBook : GoodIn wsX4_mark (va_wsS RX4 200 yX4_isBook wsX4_isBook) := goodIn_app (goodIn_of _ (by decide +kernel)) ggX4_mark_X4_isBook
set_option maxRecDepth 20000 in
theorem ggX4_mark_X4_canBorrow : GoodIn wsX4_mark wsX4_canBorrow := goodIn_r _ [12, 13, 14, 4, 15, 16, 17, 18, 19, 20, 21, 22, 23, 24] (by decide +kernel) (by decide +kernel)
set_option maxRecDepth 20000 in
theorem gX4_mark_X4_canBorrow : GoodIn wsX4_mark (va_wsS RX4 220 yX4_canBorrow wsX4_canBorrow) := goodIn_app (goodIn_of _ (by decide +kernel)) ggX4_mark_X4_canBorrow
set_option maxRecDepth 20000 in
theorem ggX4_mark_X4_refused : GoodIn wsX4_mark wsX4_refused := goodIn_r _ [28, 29, 42, 43, 44, 45, 46, 47, 48, 49, 50, 51, 52, 53, 54] (by decide +kernel) (by decide +kernel)
set_option maxRecDepth 20000 in
theorem gX4_mark_X4_refused : GoodIn wsX4_mark (wsV RX4 113 RX4 yX4_refused wsX4_refused) := goodIn_app (goodIn_of _ (by decide +kernel)) ggX4_mark_X4_refused
set_option maxRecDepth 20000 in
theorem ggX4_mark_X4_remember : GoodIn wsX4_mark wsX4_remember := goodIn_r _ [33, 34, 35, 1, 36, 37, 4, 38, 42, 43, 44, 45, 46, 47, 48, 49, 50, 51, 52, 53, 54] (by decide +kernel) (by decide +kernel)
set_option maxRecDepth 20000 in
theorem gX4_mark_X4_remember : GoodIn wsX4_mark (wsV RX4 217 RX4 yX4_remember wsX4_remember) := goodIn_app (goodIn_of _ (by decide +kernel)) ggX4_mark_X4_remember
set_option maxRecDepth 20000 in
theorem ggX4_mark_X4_bookAt : GoodIn wsX4_mark wsX4_bookAt := goodIn_r _ [15] (by decide +kernel) (by decide +kernel)
set_option maxRecDepth 20000 in
theorem gX4_mark_X4_bookAt : GoodIn wsX4_mark (va_wsS RX4 53 yX4_bookAt wsX4_bookAt) := goodIn_app (goodIn_of _ (by decide +kernel)) ggX4_mark_X4_bookAt
set_option maxRecDepth 20000 in
theorem ggX4_mark_X4_borrowed : GoodIn wsX4_mark wsX4_borrowed := goodIn_r _ [41, 13, 14, 4, 15] (by decide +kernel) (by decide +kernel)
set_option maxRecDepth 20000 in
theorem gX4_mark_X4_borrowed : GoodIn wsX4_mark (va_wsS RX4 184 yX4_borrowed wsX4_borrowed) := goodIn_app (goodIn_of _ (by decide +kernel)) ggX4_mark_X4_borrowed
theorem dX4_mark_0 : decode cX4_mark 0 = .ok (.aload_n 0, 1) := by decide +kernel
theorem dX4_mark_1 : decode cX4_mark 1 = .ok (.iload_n 1, 1) := by decide +kernel
theorem dX4_mark_2 : decode cX4_mark 2 = .ok (.invokestatic 200, 3) := by decide +kernel
theorem dX4_mark_5 : decode cX4_mark 5 = .ok (.ifCond .ne 7, 3) := by decide +kernel
theorem dX4_mark_8 : decode cX4_mark 8 = .ok (.iconst 1, 1) := by decide +kernel
theorem dX4_mark_9 : decode cX4_mark 9 = .ok (.goto 20, 3) := by decide +kernel
theorem dX4_mark_12 : decode cX4_mark 12 = .ok (.aload_n 0, 1) := by decide +kernel
theorem dX4_mark_13 : decode cX4_mark 13 = .ok (.getfield 16, 3) := by decide +kernel
theorem dX4_mark_16 : decode cX4_mark 16 = .ok (.iload_n 1, 1) := by decide +kernel
theorem dX4_mark_17 : decode cX4_mark 17 = .ok (.iload_n 2, 1) := by decide +kernel
theorem dX4_mark_18 : decode cX4_mark 18 = .ok (.invokestatic 220, 3) := by decide +kernel
theorem dX4_mark_21 : decode cX4_mark 21 = .ok (.ifCond .eq 7, 3) := by decide +kernel
theorem dX4_mark_24 : decode cX4_mark 24 = .ok (.iconst 0, 1) := by decide +kernel
theorem dX4_mark_25 : decode cX4_mark 25 = .ok (.goto 4, 3) := by decide +kernel
theorem dX4_mark_28 : decode cX4_mark 28 = .ok (.iconst 2, 1) := by decide +kernel
theorem dX4_mark_29 : decode cX4_mark 29 = .ok (.invokevirtual 113, 3) := by decide +kernel
theorem dX4_mark_32 : decode cX4_mark 32 = .ok (.ifCond .eq 5, 3) := by decide +kernel
theorem dX4_mark_35 : decode cX4_mark 35 = .ok (.iconst 0, 1) := by decide +kernel
theorem dX4_mark_36 : decode cX4_mark 36 = .ok (.ireturn, 1) := by decide +kernel
theorem dX4_mark_37 : decode cX4_mark 37 = .ok (.aload_n 0, 1) := by decide +kernel
theorem dX4_mark_38 : decode cX4_mark 38 = .ok (.invokevirtual 217, 3) := by decide +kernel
theorem dX4_mark_41 : decode cX4_mark 41 = .ok (.aload_n 0, 1) := by decide +kernel
theorem dX4_mark_42 : decode cX4_mark 42 = .ok (.getfield 16, 3) := by decide +kernel
theorem dX4_mark_45 : decode cX4_mark 45 = .ok (.iload_n 1, 1) := by decide +kernel
theorem dX4_mark_46 : decode cX4_mark 46 = .ok (.iconst 1, 1) := by decide +kernel
theorem dX4_mark_47 : decode cX4_mark 47 = .ok (.invokestatic 53, 3) := by decide +kernel
theorem dX4_mark_50 : decode cX4_mark 50 = .ok (.iload_n 2, 1) := by decide +kernel
theorem dX4_mark_51 : decode cX4_mark 51 = .ok (.iastore, 1) := by decide +kernel
theorem dX4_mark_52 : decode cX4_mark 52 = .ok (.aload_n 0, 1) := by decide +kernel
theorem dX4_mark_53 : decode cX4_mark 53 = .ok (.getfield 16, 3) := by decide +kernel
theorem dX4_mark_56 : decode cX4_mark 56 = .ok (.invokestatic 184, 3) := by decide +kernel
theorem dX4_mark_59 : decode cX4_mark 59 = .ok (.ireturn, 1) := by decide +kernel
set_option maxRecDepth 20000 in
theorem ggX4_borrow_X4_mark : GoodIn wsX4_borrow wsX4_mark := goodIn_r _ [5, 6, 7, 8, 4, 9, 10, 11, 12, 13, 14, 15, 16, 17, 18, 19, 20, 21, 22, 23, 24, 25, 26, 27, 28, 29, 30, 31, 32, 33, 34, 35, 36, 37, 38, 39, 40, 41, 42, 43, 44, 45, 46, 47, 48, 49, 50, 51, 52, 53, 54, 55, 56, 57, 58] (by decide +kernel) (by decide +kernel)
set_option maxRecDepth 20000 in
theorem gX4_borrow_X4_mark : GoodIn wsX4_borrow (wsV RX4 223 RX4 yX4_mark wsX4_mark) := goodIn_app (goodIn_of _ (by decide +kernel)) ggX4_borrow_X4_mark
theorem dX4_borrow_0 : decode cX4_borrow 0 = .ok (.aload_n 0, 1) := by decide +kernel
theorem dX4_borrow_1 : decode cX4_borrow 1 = .ok (.iload_n 1, 1) := by decide +kernel
theorem dX4_borrow_2 : decode cX4_borrow 2 = .ok (.iconst 1, 1) := by decide +kernel
theorem dX4_borrow_3 : decode cX4_borrow 3 = .ok (.invokevirtual 223, 3) := by decide +kernel
theorem dX4_borrow_6 : decode cX4_borrow 6 = .ok (.ireturn, 1) := by decide +kernel
set_option maxRecDepth 20000 in
theorem ggX4_bringBack_X4_mark : GoodIn wsX4_bringBack wsX4_mark := goodIn_r _ [5, 6, 7, 8, 4, 9, 10, 11, 12, 13, 14, 15, 16, 17, 18, 19, 20, 21, 22, 23, 24, 25, 26, 27, 28, 29, 30, 31, 32, 33, 34, 35, 36, 37, 38, 39, 40, 41, 42, 43, 44, 45, 46, 47, 48, 49, 50, 51, 52, 53, 54, 55, 56, 57, 58] (by decide +kernel) (by decide +kernel)
set_option maxRecDepth 20000 in
theorem gX4_bringBack_X4_mark : GoodIn wsX4_bringBack (wsV RX4 223 RX4 yX4_mark wsX4_mark) := goodIn_app (goodIn_of _ (by decide +kernel)) ggX4_bringBack_X4_mark
theorem dX4_bringBack_0 : decode cX4_bringBack 0 = .ok (.aload_n 0, 1) := by decide +kernel
theorem dX4_bringBack_1 : decode cX4_bringBack 1 = .ok (.iload_n 1, 1) := by decide +kernel
theorem dX4_bringBack_2 : decode cX4_bringBack 2 = .ok (.iconst 0, 1) := by decide +kernel
theorem dX4_bringBack_3 : decode cX4_bringBack 3 = .ok (.invokevirtual 223, 3) := by decide +kernel
theorem dX4_bringBack_6 : decode cX4_bringBack 6 = .ok (.ireturn, 1) := by decide +kernel
set_option maxRecDepth 20000 in
theorem ggX4_walk_X4_isVisitor : GoodIn wsX4_walk wsX4_isVisitor := goodIn_r _ [5, 6, 7, 8, 4, 9] (by decide +kernel) (by decide +kernel)
set_option maxRecDepth 20000 in
theorem gX4_walk_X4_isVisitor : GoodIn wsX4_walk (va_wsS RX4 205 yX4_isVisitor wsX4_isVisitor) := goodIn_app (goodIn_of _ (by decide +kernel)) ggX4_walk_X4_isVisitor
set_option maxRecDepth 20000 in
theorem ggX4_walk_X4_isGate : GoodIn wsX4_walk wsX4_isGate := goodIn_r _ [12, 13, 7, 8, 4, 9] (by decide +kernel) (by decide +kernel)
set_option maxRecDepth 20000 in
theorem gX4_walk_X4_isGate : GoodIn wsX4_walk (va_wsS RX4 211 yX4_isGate wsX4_isGate) := goodIn_app (goodIn_of _ (by decide +kernel)) ggX4_walk_X4_isGate
set_option maxRecDepth 20000 in
theorem ggX4_walk_X4_canWalk : GoodIn wsX4_walk wsX4_canWalk := goodIn_r _ [16, 17, 18, 4, 19] (by decide +kernel) (by decide +kernel)
set_option maxRecDepth 20000 in
theorem gX4_walk_X4_canWalk : GoodIn wsX4_walk (va_wsS RX4 156 yX4_canWalk wsX4_canWalk) := goodIn_app (goodIn_of _ (by decide +kernel)) ggX4_walk_X4_canWalk
set_option maxRecDepth 20000 in
theorem ggX4_walk_X4_refused : GoodIn wsX4_walk wsX4_refused := goodIn_r _ [23, 24, 37, 38, 39, 40, 41, 42, 43, 44, 45, 46, 47, 48, 49] (by decide +kernel) (by decide +kernel)
set_option maxRecDepth 20000 in
theorem gX4_walk_X4_refused : GoodIn wsX4_walk (wsV RX4 113 RX4 yX4_refused wsX4_refused) := goodIn_app (goodIn_of _ (by decide +kernel)) ggX4_walk_X4_refused
set_option maxRecDepth 20000 in
theorem ggX4_walk_X4_remember : GoodIn wsX4_walk wsX4_remember := goodIn_r _ [28, 29, 30, 1, 31, 32, 4, 33, 37, 38, 39, 40, 41, 42, 43, 44, 45, 46, 47, 48, 49] (by decide +kernel) (by decide +kernel)
set_option maxRecDepth 20000 in
theorem gX4_walk_X4_remember : GoodIn wsX4_walk (wsV RX4 217 RX4 yX4_remember wsX4_remember) := goodIn_app (goodIn_of _ (by decide +kernel)) ggX4_walk_X4_remember
set_option maxRecDepth 20000 in
theorem ggX4_walk_X4_walkIn : GoodIn wsX4_walk wsX4_walkIn := goodIn_r _ [36, 17, 18, 4, 19] (by decide +kernel) (by decide +kernel)
set_option maxRecDepth 20000 in
theorem gX4_walk_X4_walkIn : GoodIn wsX4_walk (va_wsS RX4 160 yX4_walkIn wsX4_walkIn) := goodIn_app (goodIn_of _ (by decide +kernel)) ggX4_walk_X4_walkIn
theorem dX4_walk_0 : decode cX4_walk 0 = .ok (.iload_n 1, 1) := by decide +kernel
theorem dX4_walk_1 : decode cX4_walk 1 = .ok (.invokestatic 205, 3) := by decide +kernel
theorem dX4_walk_4 : decode cX4_walk 4 = .ok (.ifCond .eq 14, 3) := by decide +kernel
theorem dX4_walk_7 : decode cX4_walk 7 = .ok (.iload_n 2, 1) := by decide +kernel
theorem dX4_walk_8 : decode cX4_walk 8 = .ok (.invokestatic 211, 3) := by decide +kernel
theorem dX4_walk_11 : decode cX4_walk 11 = .ok (.ifCond .eq 7, 3) := by decide +kernel
theorem dX4_walk_14 : decode cX4_walk 14 = .ok (.iconst 1, 1) := by decide +kernel
theorem dX4_walk_15 : decode cX4_walk 15 = .ok (.goto 4, 3) := by decide +kernel
theorem dX4_walk_18 : decode cX4_walk 18 = .ok (.iconst 0, 1) := by decide +kernel
theorem dX4_walk_19 : decode cX4_walk 19 = .ok (.istore 4, 2) := by decide +kernel
theorem dX4_walk_21 : decode cX4_walk 21 = .ok (.aload_n 0, 1) := by decide +kernel
theorem dX4_walk_22 : decode cX4_walk 22 = .ok (.iload 4, 2) := by decide +kernel
theorem dX4_walk_24 : decode cX4_walk 24 = .ok (.ifCond .ne 7, 3) := by decide +kernel
theorem dX4_walk_27 : decode cX4_walk 27 = .ok (.iconst 1, 1) := by decide +kernel
theorem dX4_walk_28 : decode cX4_walk 28 = .ok (.goto 20, 3) := by decide +kernel
theorem dX4_walk_31 : decode cX4_walk 31 = .ok (.aload_n 0, 1) := by decide +kernel
theorem dX4_walk_32 : decode cX4_walk 32 = .ok (.getfield 16, 3) := by decide +kernel
theorem dX4_walk_35 : decode cX4_walk 35 = .ok (.iload_n 1, 1) := by decide +kernel
theorem dX4_walk_36 : decode cX4_walk 36 = .ok (.iload_n 3, 1) := by decide +kernel
theorem dX4_walk_37 : decode cX4_walk 37 = .ok (.invokestatic 156, 3) := by decide +kernel
theorem dX4_walk_40 : decode cX4_walk 40 = .ok (.ifCond .eq 7, 3) := by decide +kernel
theorem dX4_walk_43 : decode cX4_walk 43 = .ok (.iconst 0, 1) := by decide +kernel
theorem dX4_walk_44 : decode cX4_walk 44 = .ok (.goto 4, 3) := by decide +kernel
theorem dX4_walk_47 : decode cX4_walk 47 = .ok (.iconst 2, 1) := by decide +kernel
theorem dX4_walk_48 : decode cX4_walk 48 = .ok (.invokevirtual 113, 3) := by decide +kernel
theorem dX4_walk_51 : decode cX4_walk 51 = .ok (.ifCond .eq 5, 3) := by decide +kernel
theorem dX4_walk_54 : decode cX4_walk 54 = .ok (.iconst 0, 1) := by decide +kernel
theorem dX4_walk_55 : decode cX4_walk 55 = .ok (.ireturn, 1) := by decide +kernel
theorem dX4_walk_56 : decode cX4_walk 56 = .ok (.aload_n 0, 1) := by decide +kernel
theorem dX4_walk_57 : decode cX4_walk 57 = .ok (.invokevirtual 217, 3) := by decide +kernel
theorem dX4_walk_60 : decode cX4_walk 60 = .ok (.aload_n 0, 1) := by decide +kernel
theorem dX4_walk_61 : decode cX4_walk 61 = .ok (.getfield 16, 3) := by decide +kernel
theorem dX4_walk_64 : decode cX4_walk 64 = .ok (.iload_n 1, 1) := by decide +kernel
theorem dX4_walk_65 : decode cX4_walk 65 = .ok (.iload_n 2, 1) := by decide +kernel
theorem dX4_walk_66 : decode cX4_walk 66 = .ok (.iload_n 3, 1) := by decide +kernel
theorem dX4_walk_67 : decode cX4_walk 67 = .ok (.invokestatic 160, 3) := by decide +kernel
theorem dX4_walk_70 : decode cX4_walk 70 = .ok (.ireturn, 1) := by decide +kernel
set_option maxRecDepth 20000 in
theorem ggX4_turn_X4_isVisitor : GoodIn wsX4_turn wsX4_isVisitor := goodIn_r _ [5, 6, 7, 8, 4, 9] (by decide +kernel) (by decide +kernel)
set_option maxRecDepth 20000 in
theorem gX4_turn_X4_isVisitor : GoodIn wsX4_turn (va_wsS RX4 205 yX4_isVisitor wsX4_isVisitor) := goodIn_app (goodIn_of _ (by decide +kernel)) ggX4_turn_X4_isVisitor
set_option maxRecDepth 20000 in
theorem ggX4_turn_X4_isAtGate : GoodIn wsX4_turn wsX4_isAtGate := goodIn_r _ [12, 13, 14, 4, 15] (by decide +kernel) (by decide +kernel)
set_option maxRecDepth 20000 in
theorem gX4_turn_X4_isAtGate : GoodIn wsX4_turn (va_wsS RX4 150 yX4_isAtGate wsX4_isAtGate) := goodIn_app (goodIn_of _ (by decide +kernel)) ggX4_turn_X4_isAtGate
set_option maxRecDepth 20000 in
theorem ggX4_turn_X4_refused : GoodIn wsX4_turn wsX4_refused := goodIn_r _ [19, 20, 33, 34, 35, 36, 37, 38, 39, 40, 41, 42, 43, 44, 45] (by decide +kernel) (by decide +kernel)
set_option maxRecDepth 20000 in
theorem gX4_turn_X4_refused : GoodIn wsX4_turn (wsV RX4 113 RX4 yX4_refused wsX4_refused) := goodIn_app (goodIn_of _ (by decide +kernel)) ggX4_turn_X4_refused
set_option maxRecDepth 20000 in
theorem ggX4_turn_X4_remember : GoodIn wsX4_turn wsX4_remember := goodIn_r _ [24, 25, 26, 1, 27, 28, 4, 29, 33, 34, 35, 36, 37, 38, 39, 40, 41, 42, 43, 44, 45] (by decide +kernel) (by decide +kernel)
set_option maxRecDepth 20000 in
theorem gX4_turn_X4_remember : GoodIn wsX4_turn (wsV RX4 217 RX4 yX4_remember wsX4_remember) := goodIn_app (goodIn_of _ (by decide +kernel)) ggX4_turn_X4_remember
set_option maxRecDepth 20000 in
theorem ggX4_turn_X4_turnIn : GoodIn wsX4_turn wsX4_turnIn := goodIn_r _ [32, 13, 14, 4, 15] (by decide +kernel) (by decide +kernel)
set_option maxRecDepth 20000 in
theorem gX4_turn_X4_turnIn : GoodIn wsX4_turn (va_wsS RX4 153 yX4_turnIn wsX4_turnIn) := goodIn_app (goodIn_of _ (by decide +kernel)) ggX4_turn_X4_turnIn
theorem dX4_turn_0 : decode cX4_turn 0 = .ok (.aload_n 0, 1) := by decide +kernel
theorem dX4_turn_1 : decode cX4_turn 1 = .ok (.iload_n 1, 1) := by decide +kernel
theorem dX4_turn_2 : decode cX4_turn 2 = .ok (.invokestatic 205, 3) := by decide +kernel
theorem dX4_turn_5 : decode cX4_turn 5 = .ok (.ifCond .ne 7, 3) := by decide +kernel
theorem dX4_turn_8 : decode cX4_turn 8 = .ok (.iconst 1, 1) := by decide +kernel
theorem dX4_turn_9 : decode cX4_turn 9 = .ok (.goto 19, 3) := by decide +kernel
theorem dX4_turn_12 : decode cX4_turn 12 = .ok (.aload_n 0, 1) := by decide +kernel
theorem dX4_turn_13 : decode cX4_turn 13 = .ok (.getfield 16, 3) := by decide +kernel
theorem dX4_turn_16 : decode cX4_turn 16 = .ok (.iload_n 1, 1) := by decide +kernel
theorem dX4_turn_17 : decode cX4_turn 17 = .ok (.invokestatic 150, 3) := by decide +kernel
theorem dX4_turn_20 : decode cX4_turn 20 = .ok (.ifCond .eq 7, 3) := by decide +kernel
theorem dX4_turn_23 : decode cX4_turn 23 = .ok (.iconst 0, 1) := by decide +kernel
theorem dX4_turn_24 : decode cX4_turn 24 = .ok (.goto 4, 3) := by decide +kernel
theorem dX4_turn_27 : decode cX4_turn 27 = .ok (.iconst 2, 1) := by decide +kernel
theorem dX4_turn_28 : decode cX4_turn 28 = .ok (.invokevirtual 113, 3) := by decide +kernel
theorem dX4_turn_31 : decode cX4_turn 31 = .ok (.ifCond .eq 5, 3) := by decide +kernel
theorem dX4_turn_34 : decode cX4_turn 34 = .ok (.iconst 0, 1) := by decide +kernel
theorem dX4_turn_35 : decode cX4_turn 35 = .ok (.ireturn, 1) := by decide +kernel
theorem dX4_turn_36 : decode cX4_turn 36 = .ok (.aload_n 0, 1) := by decide +kernel
theorem dX4_turn_37 : decode cX4_turn 37 = .ok (.invokevirtual 217, 3) := by decide +kernel
theorem dX4_turn_40 : decode cX4_turn 40 = .ok (.aload_n 0, 1) := by decide +kernel
theorem dX4_turn_41 : decode cX4_turn 41 = .ok (.getfield 16, 3) := by decide +kernel
theorem dX4_turn_44 : decode cX4_turn 44 = .ok (.iload_n 1, 1) := by decide +kernel
theorem dX4_turn_45 : decode cX4_turn 45 = .ok (.invokestatic 153, 3) := by decide +kernel
theorem dX4_turn_48 : decode cX4_turn 48 = .ok (.ireturn, 1) := by decide +kernel
set_option maxRecDepth 20000 in
theorem ggX4_ticks_X4_in : GoodIn wsX4_ticks wsX4_in := goodIn_r _ [6] (by decide +kernel) (by decide +kernel)
set_option maxRecDepth 20000 in
theorem gX4_ticks_X4_in : GoodIn wsX4_ticks (va_wsS RX4 69 yX4_in wsX4_in) := goodIn_app (goodIn_of _ (by decide +kernel)) ggX4_ticks_X4_in
set_option maxRecDepth 20000 in
theorem ggX4_ticks_X4_refused : GoodIn wsX4_ticks wsX4_refused := goodIn_r _ [10, 11, 63, 64, 65, 66, 67, 68, 69, 70, 71, 72, 73, 74, 75] (by decide +kernel) (by decide +kernel)
set_option maxRecDepth 20000 in
theorem gX4_ticks_X4_refused : GoodIn wsX4_ticks (wsV RX4 113 RX4 yX4_refused wsX4_refused) := goodIn_app (goodIn_of _ (by decide +kernel)) ggX4_ticks_X4_refused
set_option maxRecDepth 20000 in
theorem ggX4_ticks_X4_remember : GoodIn wsX4_ticks wsX4_remember := goodIn_r _ [15, 16, 17, 2, 18, 19, 5, 20, 63, 64, 65, 66, 67, 68, 69, 70, 71, 72, 73, 74, 75] (by decide +kernel) (by decide +kernel)
set_option maxRecDepth 20000 in
theorem gX4_ticks_X4_remember : GoodIn wsX4_ticks (wsV RX4 217 RX4 yX4_remember wsX4_remember) := goodIn_app (goodIn_of _ (by decide +kernel)) ggX4_ticks_X4_remember
set_option maxRecDepth 20000 in
theorem ggX4_ticks_X4_ticksIn : GoodIn wsX4_ticks wsX4_ticksIn := goodIn_r _ [23, 24, 25, 5, 26, 27, 28, 29, 30, 31, 32, 33, 34, 3, 4, 6, 35, 36, 37, 38, 39, 40, 41, 42, 43, 44, 45, 46, 47, 48, 49, 50, 51, 52, 53, 54, 55, 56, 57, 58, 59, 60, 61, 62, 18, 19, 20] (by decide +kernel) (by decide +kernel)
set_option maxRecDepth 20000 in
theorem gX4_ticks_X4_ticksIn : GoodIn wsX4_ticks (va_wsS RX4 164 yX4_ticksIn wsX4_ticksIn) := goodIn_app (goodIn_of _ (by decide +kernel)) ggX4_ticks_X4_ticksIn
theorem dX4_ticks_0 : decode cX4_ticks 0 = .ok (.aload_n 0, 1) := by decide +kernel
theorem dX4_ticks_1 : decode cX4_ticks 1 = .ok (.iload_n 1, 1) := by decide +kernel
theorem dX4_ticks_2 : decode cX4_ticks 2 = .ok (.i2l, 1) := by decide +kernel
theorem dX4_ticks_3 : decode cX4_ticks 3 = .ok (.lconst 1, 1) := by decide +kernel
theorem dX4_ticks_4 : decode cX4_ticks 4 = .ok (.ldc2_w 226, 3) := by decide +kernel
theorem dX4_ticks_7 : decode cX4_ticks 7 = .ok (.invokestatic 69, 3) := by decide +kernel
theorem dX4_ticks_10 : decode cX4_ticks 10 = .ok (.ifCond .eq 7, 3) := by decide +kernel
theorem dX4_ticks_13 : decode cX4_ticks 13 = .ok (.iconst 0, 1) := by decide +kernel
theorem dX4_ticks_14 : decode cX4_ticks 14 = .ok (.goto 4, 3) := by decide +kernel
theorem dX4_ticks_17 : decode cX4_ticks 17 = .ok (.iconst 1, 1) := by decide +kernel
theorem dX4_ticks_18 : decode cX4_ticks 18 = .ok (.invokevirtual 113, 3) := by decide +kernel
theorem dX4_ticks_21 : decode cX4_ticks 21 = .ok (.ifCond .eq 5, 3) := by decide +kernel
theorem dX4_ticks_24 : decode cX4_ticks 24 = .ok (.iconst 0, 1) := by decide +kernel
theorem dX4_ticks_25 : decode cX4_ticks 25 = .ok (.ireturn, 1) := by decide +kernel
theorem dX4_ticks_26 : decode cX4_ticks 26 = .ok (.aload_n 0, 1) := by decide +kernel
theorem dX4_ticks_27 : decode cX4_ticks 27 = .ok (.invokevirtual 217, 3) := by decide +kernel
theorem dX4_ticks_30 : decode cX4_ticks 30 = .ok (.aload_n 0, 1) := by decide +kernel
theorem dX4_ticks_31 : decode cX4_ticks 31 = .ok (.getfield 16, 3) := by decide +kernel
theorem dX4_ticks_34 : decode cX4_ticks 34 = .ok (.iload_n 1, 1) := by decide +kernel
theorem dX4_ticks_35 : decode cX4_ticks 35 = .ok (.invokestatic 164, 3) := by decide +kernel
theorem dX4_ticks_38 : decode cX4_ticks 38 = .ok (.ireturn, 1) := by decide +kernel
set_option maxRecDepth 20000 in
theorem ggX4_set_X4_in : GoodIn wsX4_set wsX4_in := goodIn_r _ [9] (by decide +kernel) (by decide +kernel)
set_option maxRecDepth 20000 in
theorem gX4_set_X4_in : GoodIn wsX4_set (va_wsS RX4 69 yX4_in wsX4_in) := goodIn_app (goodIn_of _ (by decide +kernel)) ggX4_set_X4_in
set_option maxRecDepth 20000 in
theorem ggX4_set_X4_refused : GoodIn wsX4_set wsX4_refused := goodIn_r _ [13, 14, 27, 28, 29, 30, 31, 32, 33, 34, 35, 36, 37, 38, 39] (by decide +kernel) (by decide +kernel)
set_option maxRecDepth 20000 in
theorem gX4_set_X4_refused : GoodIn wsX4_set (wsV RX4 113 RX4 yX4_refused wsX4_refused) := goodIn_app (goodIn_of _ (by decide +kernel)) ggX4_set_X4_refused
set_option maxRecDepth 20000 in
theorem ggX4_set_X4_remember : GoodIn wsX4_set wsX4_remember := goodIn_r _ [18, 19, 20, 5, 21, 22, 8, 23, 27, 28, 29, 30, 31, 32, 33, 34, 35, 36, 37, 38, 39] (by decide +kernel) (by decide +kernel)
set_option maxRecDepth 20000 in
theorem gX4_set_X4_remember : GoodIn wsX4_set (wsV RX4 217 RX4 yX4_remember wsX4_remember) := goodIn_app (goodIn_of _ (by decide +kernel)) ggX4_set_X4_remember
set_option maxRecDepth 20000 in
theorem ggX4_set_X4_gateAt : GoodIn wsX4_set wsX4_gateAt := goodIn_r _ [26] (by decide +kernel) (by decide +kernel)
set_option maxRecDepth 20000 in
theorem gX4_set_X4_gateAt : GoodIn wsX4_set (va_wsS RX4 42 yX4_gateAt wsX4_gateAt) := goodIn_app (goodIn_of _ (by decide +kernel)) ggX4_set_X4_gateAt
theorem dX4_set_0 : decode cX4_set 0 = .ok (.iload_n 1, 1) := by decide +kernel
theorem dX4_set_1 : decode cX4_set 1 = .ok (.i2l, 1) := by decide +kernel
theorem dX4_set_2 : decode cX4_set 2 = .ok (.lconst 0, 1) := by decide +kernel
theorem dX4_set_3 : decode cX4_set 3 = .ok (.ldc2_w 198, 3) := by decide +kernel
theorem dX4_set_6 : decode cX4_set 6 = .ok (.invokestatic 69, 3) := by decide +kernel
theorem dX4_set_9 : decode cX4_set 9 = .ok (.ifCond .eq 15, 3) := by decide +kernel
theorem dX4_set_12 : decode cX4_set 12 = .ok (.iload_n 2, 1) := by decide +kernel
theorem dX4_set_13 : decode cX4_set 13 = .ok (.i2l, 1) := by decide +kernel
theorem dX4_set_14 : decode cX4_set 14 = .ok (.lconst 0, 1) := by decide +kernel
theorem dX4_set_15 : decode cX4_set 15 = .ok (.ldc2_w 228, 3) := by decide +kernel
theorem dX4_set_18 : decode cX4_set 18 = .ok (.invokestatic 69, 3) := by decide +kernel
theorem dX4_set_21 : decode cX4_set 21 = .ok (.ifCond .ne 37, 3) := by decide +kernel
theorem dX4_set_24 : decode cX4_set 24 = .ok (.iload_n 1, 1) := by decide +kernel
theorem dX4_set_25 : decode cX4_set 25 = .ok (.iconst 3, 1) := by decide +kernel
theorem dX4_set_26 : decode cX4_set 26 = .ok (.if_icmp .ne 15, 3) := by decide +kernel
theorem dX4_set_29 : decode cX4_set 29 = .ok (.iload_n 2, 1) := by decide +kernel
theorem dX4_set_30 : decode cX4_set 30 = .ok (.i2l, 1) := by decide +kernel
theorem dX4_set_31 : decode cX4_set 31 = .ok (.lconst 1, 1) := by decide +kernel
theorem dX4_set_32 : decode cX4_set 32 = .ok (.ldc2_w 83, 3) := by decide +kernel
theorem dX4_set_35 : decode cX4_set 35 = .ok (.invokestatic 69, 3) := by decide +kernel
theorem dX4_set_38 : decode cX4_set 38 = .ok (.ifCond .ne 20, 3) := by decide +kernel
theorem dX4_set_41 : decode cX4_set 41 = .ok (.iload_n 1, 1) := by decide +kernel
theorem dX4_set_42 : decode cX4_set 42 = .ok (.iconst 4, 1) := by decide +kernel
theorem dX4_set_43 : decode cX4_set 43 = .ok (.if_icmp .ne 19, 3) := by decide +kernel
theorem dX4_set_46 : decode cX4_set 46 = .ok (.iload_n 2, 1) := by decide +kernel
theorem dX4_set_47 : decode cX4_set 47 = .ok (.i2l, 1) := by decide +kernel
theorem dX4_set_48 : decode cX4_set 48 = .ok (.lconst 0, 1) := by decide +kernel
theorem dX4_set_49 : decode cX4_set 49 = .ok (.ldc2_w 124, 3) := by decide +kernel
theorem dX4_set_52 : decode cX4_set 52 = .ok (.invokestatic 69, 3) := by decide +kernel
theorem dX4_set_55 : decode cX4_set 55 = .ok (.ifCond .eq 7, 3) := by decide +kernel
theorem dX4_set_58 : decode cX4_set 58 = .ok (.iconst 1, 1) := by decide +kernel
theorem dX4_set_59 : decode cX4_set 59 = .ok (.goto 4, 3) := by decide +kernel
theorem dX4_set_62 : decode cX4_set 62 = .ok (.iconst 0, 1) := by decide +kernel
theorem dX4_set_63 : decode cX4_set 63 = .ok (.istore_n 3, 1) := by decide +kernel
theorem dX4_set_64 : decode cX4_set 64 = .ok (.aload_n 0, 1) := by decide +kernel
theorem dX4_set_65 : decode cX4_set 65 = .ok (.iload_n 3, 1) := by decide +kernel
theorem dX4_set_66 : decode cX4_set 66 = .ok (.ifCond .eq 7, 3) := by decide +kernel
theorem dX4_set_69 : decode cX4_set 69 = .ok (.iconst 0, 1) := by decide +kernel
theorem dX4_set_70 : decode cX4_set 70 = .ok (.goto 4, 3) := by decide +kernel
theorem dX4_set_73 : decode cX4_set 73 = .ok (.iconst 1, 1) := by decide +kernel
theorem dX4_set_74 : decode cX4_set 74 = .ok (.invokevirtual 113, 3) := by decide +kernel
theorem dX4_set_77 : decode cX4_set 77 = .ok (.ifCond .eq 5, 3) := by decide +kernel
theorem dX4_set_80 : decode cX4_set 80 = .ok (.iconst 0, 1) := by decide +kernel
theorem dX4_set_81 : decode cX4_set 81 = .ok (.ireturn, 1) := by decide +kernel
theorem dX4_set_82 : decode cX4_set 82 = .ok (.aload_n 0, 1) := by decide +kernel
theorem dX4_set_83 : decode cX4_set 83 = .ok (.invokevirtual 217, 3) := by decide +kernel
theorem dX4_set_86 : decode cX4_set 86 = .ok (.iload_n 1, 1) := by decide +kernel
theorem dX4_set_87 : decode cX4_set 87 = .ok (.iconst 3, 1) := by decide +kernel
theorem dX4_set_88 : decode cX4_set 88 = .ok (.if_icmp .ge 11, 3) := by decide +kernel
theorem dX4_set_91 : decode cX4_set 91 = .ok (.iload_n 1, 1) := by decide +kernel
theorem dX4_set_92 : decode cX4_set 92 = .ok (.iconst 0, 1) := by decide +kernel
theorem dX4_set_93 : decode cX4_set 93 = .ok (.invokestatic 42, 3) := by decide +kernel
theorem dX4_set_96 : decode cX4_set 96 = .ok (.goto 10, 3) := by decide +kernel
theorem dX4_set_99 : decode cX4_set 99 = .ok (.sipush 196, 3) := by decide +kernel
theorem dX4_set_102 : decode cX4_set 102 = .ok (.iload_n 1, 1) := by decide +kernel
theorem dX4_set_103 : decode cX4_set 103 = .ok (.iadd, 1) := by decide +kernel
theorem dX4_set_104 : decode cX4_set 104 = .ok (.iconst 3, 1) := by decide +kernel
theorem dX4_set_105 : decode cX4_set 105 = .ok (.isub, 1) := by decide +kernel
theorem dX4_set_106 : decode cX4_set 106 = .ok (.istore 4, 2) := by decide +kernel
theorem dX4_set_108 : decode cX4_set 108 = .ok (.aload_n 0, 1) := by decide +kernel
theorem dX4_set_109 : decode cX4_set 109 = .ok (.getfield 16, 3) := by decide +kernel
theorem dX4_set_112 : decode cX4_set 112 = .ok (.iload 4, 2) := by decide +kernel
theorem dX4_set_114 : decode cX4_set 114 = .ok (.iaload, 1) := by decide +kernel
theorem dX4_set_115 : decode cX4_set 115 = .ok (.istore 5, 2) := by decide +kernel
theorem dX4_set_117 : decode cX4_set 117 = .ok (.aload_n 0, 1) := by decide +kernel
theorem dX4_set_118 : decode cX4_set 118 = .ok (.getfield 16, 3) := by decide +kernel
theorem dX4_set_121 : decode cX4_set 121 = .ok (.iload 4, 2) := by decide +kernel
theorem dX4_set_123 : decode cX4_set 123 = .ok (.iload_n 2, 1) := by decide +kernel
theorem dX4_set_124 : decode cX4_set 124 = .ok (.iastore, 1) := by decide +kernel
theorem dX4_set_125 : decode cX4_set 125 = .ok (.iload 5, 2) := by decide +kernel
theorem dX4_set_127 : decode cX4_set 127 = .ok (.ireturn, 1) := by decide +kernel
set_option maxRecDepth 20000 in
theorem ggX4_undo_X4_refused : GoodIn wsX4_undo wsX4_refused := goodIn_r _ [8, 9, 13, 14, 15, 16, 17, 18, 19, 20, 21, 22, 23, 24, 25] (by decide +kernel) (by decide +kernel)
set_option maxRecDepth 20000 in
theorem gX4_undo_X4_refused : GoodIn wsX4_undo (wsV RX4 113 RX4 yX4_refused wsX4_refused) := goodIn_app (goodIn_of _ (by decide +kernel)) ggX4_undo_X4_refused
set_option maxRecDepth 20000 in
theorem ggX4_undo_X4_copy : GoodIn wsX4_undo wsX4_copy := goodIn_r _ [12] (by decide +kernel) (by decide +kernel)
set_option maxRecDepth 20000 in
theorem gX4_undo_X4_copy : GoodIn wsX4_undo (va_wsS RX4 49 yX4_copy wsX4_copy) := goodIn_app (goodIn_of _ (by decide +kernel)) ggX4_undo_X4_copy
theorem dX4_undo_0 : decode cX4_undo 0 = .ok (.aload_n 0, 1) := by decide +kernel
theorem dX4_undo_1 : decode cX4_undo 1 = .ok (.aload_n 0, 1) := by decide +kernel
theorem dX4_undo_2 : decode cX4_undo 2 = .ok (.getfield 46, 3) := by decide +kernel
theorem dX4_undo_5 : decode cX4_undo 5 = .ok (.ifCond .ne 7, 3) := by decide +kernel
theorem dX4_undo_8 : decode cX4_undo 8 = .ok (.iconst 1, 1) := by decide +kernel
theorem dX4_undo_9 : decode cX4_undo 9 = .ok (.goto 4, 3) := by decide +kernel
theorem dX4_undo_12 : decode cX4_undo 12 = .ok (.iconst 0, 1) := by decide +kernel
theorem dX4_undo_13 : decode cX4_undo 13 = .ok (.invokevirtual 113, 3) := by decide +kernel
theorem dX4_undo_16 : decode cX4_undo 16 = .ok (.ifCond .eq 5, 3) := by decide +kernel
theorem dX4_undo_19 : decode cX4_undo 19 = .ok (.iconst 0, 1) := by decide +kernel
theorem dX4_undo_20 : decode cX4_undo 20 = .ok (.ireturn, 1) := by decide +kernel
theorem dX4_undo_21 : decode cX4_undo 21 = .ok (.aload_n 0, 1) := by decide +kernel
theorem dX4_undo_22 : decode cX4_undo 22 = .ok (.dup, 1) := by decide +kernel
theorem dX4_undo_23 : decode cX4_undo 23 = .ok (.getfield 46, 3) := by decide +kernel
theorem dX4_undo_26 : decode cX4_undo 26 = .ok (.iconst 1, 1) := by decide +kernel
theorem dX4_undo_27 : decode cX4_undo 27 = .ok (.isub, 1) := by decide +kernel
theorem dX4_undo_28 : decode cX4_undo 28 = .ok (.putfield 46, 3) := by decide +kernel
theorem dX4_undo_31 : decode cX4_undo 31 = .ok (.aload_n 0, 1) := by decide +kernel
theorem dX4_undo_32 : decode cX4_undo 32 = .ok (.getfield 22, 3) := by decide +kernel
theorem dX4_undo_35 : decode cX4_undo 35 = .ok (.sipush 233, 3) := by decide +kernel
theorem dX4_undo_38 : decode cX4_undo 38 = .ok (.aload_n 0, 1) := by decide +kernel
theorem dX4_undo_39 : decode cX4_undo 39 = .ok (.getfield 46, 3) := by decide +kernel
theorem dX4_undo_42 : decode cX4_undo 42 = .ok (.imul, 1) := by decide +kernel
theorem dX4_undo_43 : decode cX4_undo 43 = .ok (.aload_n 0, 1) := by decide +kernel
theorem dX4_undo_44 : decode cX4_undo 44 = .ok (.getfield 16, 3) := by decide +kernel
theorem dX4_undo_47 : decode cX4_undo 47 = .ok (.iconst 0, 1) := by decide +kernel
theorem dX4_undo_48 : decode cX4_undo 48 = .ok (.sipush 233, 3) := by decide +kernel
theorem dX4_undo_51 : decode cX4_undo 51 = .ok (.invokestatic 49, 3) := by decide +kernel
theorem dX4_undo_54 : decode cX4_undo 54 = .ok (.aload_n 0, 1) := by decide +kernel
theorem dX4_undo_55 : decode cX4_undo 55 = .ok (.getfield 46, 3) := by decide +kernel
theorem dX4_undo_58 : decode cX4_undo 58 = .ok (.ireturn, 1) := by decide +kernel
set_option maxRecDepth 20000 in
theorem ggX4_shouted_X4_isBook : GoodIn wsX4_shouted wsX4_isBook := goodIn_r _ [6, 7, 8, 9, 5, 10] (by decide +kernel) (by decide +kernel)
set_option maxRecDepth 20000 in
theorem gX4_shouted_X4_isBook : GoodIn wsX4_shouted (va_wsS RX4 200 yX4_isBook wsX4_isBook) := goodIn_app (goodIn_of _ (by decide +kernel)) ggX4_shouted_X4_isBook
set_option maxRecDepth 20000 in
theorem ggX4_shouted_X4_refused : GoodIn wsX4_shouted wsX4_refused := goodIn_r _ [14, 15, 62, 63, 64, 65, 66, 67, 68, 69, 70, 71, 72, 73, 74] (by decide +kernel) (by decide +kernel)
set_option maxRecDepth 20000 in
theorem gX4_shouted_X4_refused : GoodIn wsX4_shouted (wsV RX4 113 RX4 yX4_refused wsX4_refused) := goodIn_app (goodIn_of _ (by decide +kernel)) ggX4_shouted_X4_refused
set_option maxRecDepth 20000 in
theorem ggX4_shouted_X4_tryIt : GoodIn wsX4_shouted wsX4_tryIt := goodIn_r _ [19, 2, 1, 20, 21, 5, 22, 62, 63, 64, 65, 66, 67, 68, 69, 70, 71, 72, 73, 74] (by decide +kernel) (by decide +kernel)
set_option maxRecDepth 20000 in
theorem gX4_shouted_X4_tryIt : GoodIn wsX4_shouted (wsV RX4 230 RX4 yX4_tryIt wsX4_tryIt) := goodIn_app (goodIn_of _ (by decide +kernel)) ggX4_shouted_X4_tryIt
set_option maxRecDepth 20000 in
theorem ggX4_shouted_X4_tick : GoodIn wsX4_shouted wsX4_tick := goodIn_r _ [25, 26, 27, 5, 28, 29, 30, 31, 32, 33, 8, 9, 10, 34, 35, 36, 37, 38, 39, 40, 41, 42, 43, 44, 45, 46, 47, 48, 49, 50, 51, 52, 53, 54, 55, 56, 57, 58, 59, 60, 61, 20, 21, 22] (by decide +kernel) (by decide +kernel)
set_option maxRecDepth 20000 in
theorem gX4_shouted_X4_tick : GoodIn wsX4_shouted (va_wsS RX4 102 yX4_tick wsX4_tick) := goodIn_app (goodIn_of _ (by decide +kernel)) ggX4_shouted_X4_tick
set_option maxRecDepth 20000 in
theorem ggX4_shouted_X4_bookAt : GoodIn wsX4_shouted wsX4_bookAt := goodIn_r _ [39] (by decide +kernel) (by decide +kernel)
set_option maxRecDepth 20000 in
theorem gX4_shouted_X4_bookAt : GoodIn wsX4_shouted (va_wsS RX4 53 yX4_bookAt wsX4_bookAt) := goodIn_app (goodIn_of _ (by decide +kernel)) ggX4_shouted_X4_bookAt
theorem dX4_shouted_0 : decode cX4_shouted 0 = .ok (.aload_n 0, 1) := by decide +kernel
theorem dX4_shouted_1 : decode cX4_shouted 1 = .ok (.iload_n 1, 1) := by decide +kernel
theorem dX4_shouted_2 : decode cX4_shouted 2 = .ok (.invokestatic 200, 3) := by decide +kernel
theorem dX4_shouted_5 : decode cX4_shouted 5 = .ok (.ifCond .eq 7, 3) := by decide +kernel
theorem dX4_shouted_8 : decode cX4_shouted 8 = .ok (.iconst 0, 1) := by decide +kernel
theorem dX4_shouted_9 : decode cX4_shouted 9 = .ok (.goto 4, 3) := by decide +kernel
theorem dX4_shouted_12 : decode cX4_shouted 12 = .ok (.iconst 1, 1) := by decide +kernel
theorem dX4_shouted_13 : decode cX4_shouted 13 = .ok (.invokevirtual 113, 3) := by decide +kernel
theorem dX4_shouted_16 : decode cX4_shouted 16 = .ok (.ifCond .eq 5, 3) := by decide +kernel
theorem dX4_shouted_19 : decode cX4_shouted 19 = .ok (.iconst 0, 1) := by decide +kernel
theorem dX4_shouted_20 : decode cX4_shouted 20 = .ok (.ireturn, 1) := by decide +kernel
theorem dX4_shouted_21 : decode cX4_shouted 21 = .ok (.aload_n 0, 1) := by decide +kernel
theorem dX4_shouted_22 : decode cX4_shouted 22 = .ok (.invokevirtual 230, 3) := by decide +kernel
theorem dX4_shouted_25 : decode cX4_shouted 25 = .ok (.iconst 1, 1) := by decide +kernel
theorem dX4_shouted_26 : decode cX4_shouted 26 = .ok (.istore_n 2, 1) := by decide +kernel
theorem dX4_shouted_27 : decode cX4_shouted 27 = .ok (.iload_n 2, 1) := by decide +kernel
theorem dX4_shouted_28 : decode cX4_shouted 28 = .ok (.bipush 100, 2) := by decide +kernel
theorem dX4_shouted_30 : decode cX4_shouted 30 = .ok (.if_icmp .ge 41, 3) := by decide +kernel
theorem dX4_shouted_33 : decode cX4_shouted 33 = .ok (.aload_n 0, 1) := by decide +kernel
theorem dX4_shouted_34 : decode cX4_shouted 34 = .ok (.getfield 19, 3) := by decide +kernel
theorem dX4_shouted_37 : decode cX4_shouted 37 = .ok (.invokestatic 102, 3) := by decide +kernel
theorem dX4_shouted_40 : decode cX4_shouted 40 = .ok (.aload_n 0, 1) := by decide +kernel
theorem dX4_shouted_41 : decode cX4_shouted 41 = .ok (.getfield 19, 3) := by decide +kernel
theorem dX4_shouted_44 : decode cX4_shouted 44 = .ok (.iload_n 1, 1) := by decide +kernel
theorem dX4_shouted_45 : decode cX4_shouted 45 = .ok (.iconst 4, 1) := by decide +kernel
theorem dX4_shouted_46 : decode cX4_shouted 46 = .ok (.invokestatic 53, 3) := by decide +kernel
theorem dX4_shouted_49 : decode cX4_shouted 49 = .ok (.iaload, 1) := by decide +kernel
theorem dX4_shouted_50 : decode cX4_shouted 50 = .ok (.aload_n 0, 1) := by decide +kernel
theorem dX4_shouted_51 : decode cX4_shouted 51 = .ok (.getfield 16, 3) := by decide +kernel
theorem dX4_shouted_54 : decode cX4_shouted 54 = .ok (.iload_n 1, 1) := by decide +kernel
theorem dX4_shouted_55 : decode cX4_shouted 55 = .ok (.iconst 4, 1) := by decide +kernel
theorem dX4_shouted_56 : decode cX4_shouted 56 = .ok (.invokestatic 53, 3) := by decide +kernel
theorem dX4_shouted_59 : decode cX4_shouted 59 = .ok (.iaload, 1) := by decide +kernel
theorem dX4_shouted_60 : decode cX4_shouted 60 = .ok (.if_icmp .le 5, 3) := by decide +kernel
theorem dX4_shouted_63 : decode cX4_shouted 63 = .ok (.iload_n 2, 1) := by decide +kernel
theorem dX4_shouted_64 : decode cX4_shouted 64 = .ok (.ireturn, 1) := by decide +kernel
theorem dX4_shouted_65 : decode cX4_shouted 65 = .ok (.iinc 2 1, 3) := by decide +kernel
theorem dX4_shouted_68 : decode cX4_shouted 68 = .ok (.goto (-41), 3) := by decide +kernel
theorem dX4_shouted_71 : decode cX4_shouted 71 = .ok (.bipush (-9), 2) := by decide +kernel
theorem dX4_shouted_73 : decode cX4_shouted 73 = .ok (.ireturn, 1) := by decide +kernel
set_option maxRecDepth 20000 in
theorem ggX4_slipSet_X4_tick : GoodIn wsX4_slipSet wsX4_tick := goodIn_r _ [6, 7, 8, 5, 9, 10, 11, 12, 13, 14, 15, 16, 17, 18, 19, 20, 21, 22, 23, 24, 25, 26, 27, 28, 29, 30, 31, 32, 33, 34, 35, 36, 37, 38, 39, 40, 41, 42, 43, 44, 45, 46, 47, 48] (by decide +kernel) (by decide +kernel)
set_option maxRecDepth 20000 in
theorem gX4_slipSet_X4_tick : GoodIn wsX4_slipSet (va_wsS RX4 102 yX4_tick wsX4_tick) := goodIn_app (goodIn_of _ (by decide +kernel)) ggX4_slipSet_X4_tick
set_option maxRecDepth 20000 in
theorem ggX4_slipSet_X4_bookAt : GoodIn wsX4_slipSet wsX4_bookAt := goodIn_r _ [23] (by decide +kernel) (by decide +kernel)
set_option maxRecDepth 20000 in
theorem gX4_slipSet_X4_bookAt : GoodIn wsX4_slipSet (va_wsS RX4 53 yX4_bookAt wsX4_bookAt) := goodIn_app (goodIn_of _ (by decide +kernel)) ggX4_slipSet_X4_bookAt
set_option maxRecDepth 20000 in
theorem ggX4_slipSet_X4_isAtGate : GoodIn wsX4_slipSet wsX4_isAtGate := goodIn_r _ [51, 7, 8, 5, 9] (by decide +kernel) (by decide +kernel)
set_option maxRecDepth 20000 in
theorem gX4_slipSet_X4_isAtGate : GoodIn wsX4_slipSet (va_wsS RX4 150 yX4_isAtGate wsX4_isAtGate) := goodIn_app (goodIn_of _ (by decide +kernel)) ggX4_slipSet_X4_isAtGate
set_option maxRecDepth 20000 in
theorem ggX4_slipSet_X4_visitorAt : GoodIn wsX4_slipSet wsX4_visitorAt := goodIn_r _ [9] (by decide +kernel) (by decide +kernel)
set_option maxRecDepth 20000 in
theorem gX4_slipSet_X4_visitorAt : GoodIn wsX4_slipSet (va_wsS RX4 56 yX4_visitorAt wsX4_visitorAt) := goodIn_app (goodIn_of _ (by decide +kernel)) ggX4_slipSet_X4_visitorAt
set_option maxRecDepth 20000 in
theorem ggX4_slipSet_X4_toldWhenOut : GoodIn wsX4_slipSet wsX4_toldWhenOut := goodIn_r _ [55, 1, 21, 22, 5, 23, 56, 57, 58, 59, 60, 61, 62, 63, 64, 65, 66, 67, 68] (by decide +kernel) (by decide +kernel)
set_option maxRecDepth 20000 in
theorem gX4_slipSet_X4_toldWhenOut : GoodIn wsX4_slipSet (wsV RX4 233 RX4 yX4_toldWhenOut wsX4_toldWhenOut) := goodIn_app (goodIn_of _ (by decide +kernel)) ggX4_slipSet_X4_toldWhenOut
theorem dX4_slipSet_0 : decode cX4_slipSet 0 = .ok (.iconst 0, 1) := by decide +kernel
theorem dX4_slipSet_1 : decode cX4_slipSet 1 = .ok (.istore_n 1, 1) := by decide +kernel
theorem dX4_slipSet_2 : decode cX4_slipSet 2 = .ok (.iconst 0, 1) := by decide +kernel
theorem dX4_slipSet_3 : decode cX4_slipSet 3 = .ok (.istore_n 2, 1) := by decide +kernel
theorem dX4_slipSet_4 : decode cX4_slipSet 4 = .ok (.iload_n 2, 1) := by decide +kernel
theorem dX4_slipSet_5 : decode cX4_slipSet 5 = .ok (.bipush 7, 2) := by decide +kernel
theorem dX4_slipSet_7 : decode cX4_slipSet 7 = .ok (.if_icmp .gt 16, 3) := by decide +kernel
theorem dX4_slipSet_10 : decode cX4_slipSet 10 = .ok (.aload_n 0, 1) := by decide +kernel
theorem dX4_slipSet_11 : decode cX4_slipSet 11 = .ok (.getfield 19, 3) := by decide +kernel
theorem dX4_slipSet_14 : decode cX4_slipSet 14 = .ok (.invokestatic 102, 3) := by decide +kernel
theorem dX4_slipSet_17 : decode cX4_slipSet 17 = .ok (.iinc 2 1, 3) := by decide +kernel
theorem dX4_slipSet_20 : decode cX4_slipSet 20 = .ok (.goto (-16), 3) := by decide +kernel
theorem dX4_slipSet_23 : decode cX4_slipSet 23 = .ok (.iconst 0, 1) := by decide +kernel
theorem dX4_slipSet_24 : decode cX4_slipSet 24 = .ok (.istore_n 2, 1) := by decide +kernel
theorem dX4_slipSet_25 : decode cX4_slipSet 25 = .ok (.iload_n 2, 1) := by decide +kernel
theorem dX4_slipSet_26 : decode cX4_slipSet 26 = .ok (.bipush 20, 2) := by decide +kernel
theorem dX4_slipSet_28 : decode cX4_slipSet 28 = .ok (.if_icmp .ge 94, 3) := by decide +kernel
theorem dX4_slipSet_31 : decode cX4_slipSet 31 = .ok (.aload_n 0, 1) := by decide +kernel
theorem dX4_slipSet_32 : decode cX4_slipSet 32 = .ok (.getfield 16, 3) := by decide +kernel
theorem dX4_slipSet_35 : decode cX4_slipSet 35 = .ok (.iload_n 2, 1) := by decide +kernel
theorem dX4_slipSet_36 : decode cX4_slipSet 36 = .ok (.iconst 0, 1) := by decide +kernel
theorem dX4_slipSet_37 : decode cX4_slipSet 37 = .ok (.invokestatic 53, 3) := by decide +kernel
theorem dX4_slipSet_40 : decode cX4_slipSet 40 = .ok (.iaload, 1) := by decide +kernel
theorem dX4_slipSet_41 : decode cX4_slipSet 41 = .ok (.iconst 1, 1) := by decide +kernel
theorem dX4_slipSet_42 : decode cX4_slipSet 42 = .ok (.isub, 1) := by decide +kernel
theorem dX4_slipSet_43 : decode cX4_slipSet 43 = .ok (.istore_n 3, 1) := by decide +kernel
theorem dX4_slipSet_44 : decode cX4_slipSet 44 = .ok (.iload_n 3, 1) := by decide +kernel
theorem dX4_slipSet_45 : decode cX4_slipSet 45 = .ok (.ifCond .lt 32, 3) := by decide +kernel
theorem dX4_slipSet_48 : decode cX4_slipSet 48 = .ok (.aload_n 0, 1) := by decide +kernel
theorem dX4_slipSet_49 : decode cX4_slipSet 49 = .ok (.getfield 16, 3) := by decide +kernel
theorem dX4_slipSet_52 : decode cX4_slipSet 52 = .ok (.iload_n 3, 1) := by decide +kernel
theorem dX4_slipSet_53 : decode cX4_slipSet 53 = .ok (.invokestatic 150, 3) := by decide +kernel
theorem dX4_slipSet_56 : decode cX4_slipSet 56 = .ok (.ifCond .eq 21, 3) := by decide +kernel
theorem dX4_slipSet_59 : decode cX4_slipSet 59 = .ok (.aload_n 0, 1) := by decide +kernel
theorem dX4_slipSet_60 : decode cX4_slipSet 60 = .ok (.getfield 19, 3) := by decide +kernel
theorem dX4_slipSet_63 : decode cX4_slipSet 63 = .ok (.iload_n 3, 1) := by decide +kernel
theorem dX4_slipSet_64 : decode cX4_slipSet 64 = .ok (.iconst 0, 1) := by decide +kernel
theorem dX4_slipSet_65 : decode cX4_slipSet 65 = .ok (.invokestatic 56, 3) := by decide +kernel
theorem dX4_slipSet_68 : decode cX4_slipSet 68 = .ok (.iaload, 1) := by decide +kernel
theorem dX4_slipSet_69 : decode cX4_slipSet 69 = .ok (.iconst 2, 1) := by decide +kernel
theorem dX4_slipSet_70 : decode cX4_slipSet 70 = .ok (.if_icmp .ne 7, 3) := by decide +kernel
theorem dX4_slipSet_73 : decode cX4_slipSet 73 = .ok (.iconst 1, 1) := by decide +kernel
theorem dX4_slipSet_74 : decode cX4_slipSet 74 = .ok (.goto 4, 3) := by decide +kernel
theorem dX4_slipSet_77 : decode cX4_slipSet 77 = .ok (.iconst 0, 1) := by decide +kernel
theorem dX4_slipSet_78 : decode cX4_slipSet 78 = .ok (.istore 4, 2) := by decide +kernel
theorem dX4_slipSet_80 : decode cX4_slipSet 80 = .ok (.iload_n 1, 1) := by decide +kernel
theorem dX4_slipSet_81 : decode cX4_slipSet 81 = .ok (.iload 4, 2) := by decide +kernel
theorem dX4_slipSet_83 : decode cX4_slipSet 83 = .ok (.ifCond .eq 30, 3) := by decide +kernel
theorem dX4_slipSet_86 : decode cX4_slipSet 86 = .ok (.aload_n 0, 1) := by decide +kernel
theorem dX4_slipSet_87 : decode cX4_slipSet 87 = .ok (.getfield 16, 3) := by decide +kernel
theorem dX4_slipSet_90 : decode cX4_slipSet 90 = .ok (.iload_n 2, 1) := by decide +kernel
theorem dX4_slipSet_91 : decode cX4_slipSet 91 = .ok (.iconst 1, 1) := by decide +kernel
theorem dX4_slipSet_92 : decode cX4_slipSet 92 = .ok (.invokestatic 53, 3) := by decide +kernel
theorem dX4_slipSet_95 : decode cX4_slipSet 95 = .ok (.iaload, 1) := by decide +kernel
theorem dX4_slipSet_96 : decode cX4_slipSet 96 = .ok (.ifCond .ne 17, 3) := by decide +kernel
theorem dX4_slipSet_99 : decode cX4_slipSet 99 = .ok (.aload_n 0, 1) := by decide +kernel
theorem dX4_slipSet_100 : decode cX4_slipSet 100 = .ok (.iload_n 2, 1) := by decide +kernel
theorem dX4_slipSet_101 : decode cX4_slipSet 101 = .ok (.invokevirtual 233, 3) := by decide +kernel
theorem dX4_slipSet_104 : decode cX4_slipSet 104 = .ok (.ifCond .ne 9, 3) := by decide +kernel
theorem dX4_slipSet_107 : decode cX4_slipSet 107 = .ok (.iconst 1, 1) := by decide +kernel
theorem dX4_slipSet_108 : decode cX4_slipSet 108 = .ok (.iload_n 2, 1) := by decide +kernel
theorem dX4_slipSet_109 : decode cX4_slipSet 109 = .ok (.ishl, 1) := by decide +kernel
theorem dX4_slipSet_110 : decode cX4_slipSet 110 = .ok (.goto 4, 3) := by decide +kernel
theorem dX4_slipSet_113 : decode cX4_slipSet 113 = .ok (.iconst 0, 1) := by decide +kernel
theorem dX4_slipSet_114 : decode cX4_slipSet 114 = .ok (.ior, 1) := by decide +kernel
theorem dX4_slipSet_115 : decode cX4_slipSet 115 = .ok (.istore_n 1, 1) := by decide +kernel
theorem dX4_slipSet_116 : decode cX4_slipSet 116 = .ok (.iinc 2 1, 3) := by decide +kernel
theorem dX4_slipSet_119 : decode cX4_slipSet 119 = .ok (.goto (-94), 3) := by decide +kernel
theorem dX4_slipSet_122 : decode cX4_slipSet 122 = .ok (.iload_n 1, 1) := by decide +kernel
theorem dX4_slipSet_123 : decode cX4_slipSet 123 = .ok (.ireturn, 1) := by decide +kernel
set_option maxRecDepth 20000 in
theorem ggX4_toldWhenOut_X4_bookAt : GoodIn wsX4_toldWhenOut wsX4_bookAt := goodIn_r _ [5] (by decide +kernel) (by decide +kernel)
set_option maxRecDepth 20000 in
theorem gX4_toldWhenOut_X4_bookAt : GoodIn wsX4_toldWhenOut (va_wsS RX4 53 yX4_bookAt wsX4_bookAt) := goodIn_app (goodIn_of _ (by decide +kernel)) ggX4_toldWhenOut_X4_bookAt
theorem dX4_toldWhenOut_0 : decode cX4_toldWhenOut 0 = .ok (.aload_n 0, 1) := by decide +kernel
theorem dX4_toldWhenOut_1 : decode cX4_toldWhenOut 1 = .ok (.getfield 19, 3) := by decide +kernel
theorem dX4_toldWhenOut_4 : decode cX4_toldWhenOut 4 = .ok (.iload_n 1, 1) := by decide +kernel
theorem dX4_toldWhenOut_5 : decode cX4_toldWhenOut 5 = .ok (.iconst 3, 1) := by decide +kernel
theorem dX4_toldWhenOut_6 : decode cX4_toldWhenOut 6 = .ok (.invokestatic 53, 3) := by decide +kernel
theorem dX4_toldWhenOut_9 : decode cX4_toldWhenOut 9 = .ok (.iaload, 1) := by decide +kernel
theorem dX4_toldWhenOut_10 : decode cX4_toldWhenOut 10 = .ok (.ireturn, 1) := by decide +kernel
set_option maxRecDepth 20000 in
theorem ggX4_slips_X4_tryIt : GoodIn wsX4_slips wsX4_tryIt := goodIn_r _ [6, 7, 8, 9, 10, 5, 11, 65, 66, 67, 68, 69, 70, 71, 72, 73, 74, 75, 76, 77] (by decide +kernel) (by decide +kernel)
set_option maxRecDepth 20000 in
theorem gX4_slips_X4_tryIt : GoodIn wsX4_slips (wsV RX4 230 RX4 yX4_tryIt wsX4_tryIt) := goodIn_app (goodIn_of _ (by decide +kernel)) ggX4_slips_X4_tryIt
set_option maxRecDepth 20000 in
theorem ggX4_slips_X4_slipSet : GoodIn wsX4_slips wsX4_slipSet := goodIn_r _ [15, 8, 7, 16, 17, 5, 18, 19, 20, 21, 22, 23, 24, 25, 26, 27, 28, 29, 30, 31, 32, 33, 34, 35, 36, 37, 38, 39, 40, 41, 42, 43, 44, 45, 46, 47, 48, 49, 50, 51, 52, 53, 54, 55, 56, 57, 9, 10, 11, 58, 59, 60, 61, 62, 63, 64, 65, 66, 67, 68, 69, 70, 71, 72, 73, 74, 75, 76, 77] (by decide +kernel) (by decide +kernel)
set_option maxRecDepth 20000 in
theorem gX4_slips_X4_slipSet : GoodIn wsX4_slips (wsV RX4 236 RX4 yX4_slipSet wsX4_slipSet) := goodIn_app (goodIn_of _ (by decide +kernel)) ggX4_slips_X4_slipSet
theorem dX4_slips_0 : decode cX4_slips 0 = .ok (.aload_n 0, 1) := by decide +kernel
theorem dX4_slips_1 : decode cX4_slips 1 = .ok (.iconst 0, 1) := by decide +kernel
theorem dX4_slips_2 : decode cX4_slips 2 = .ok (.putfield 36, 3) := by decide +kernel
theorem dX4_slips_5 : decode cX4_slips 5 = .ok (.aload_n 0, 1) := by decide +kernel
theorem dX4_slips_6 : decode cX4_slips 6 = .ok (.invokevirtual 230, 3) := by decide +kernel
theorem dX4_slips_9 : decode cX4_slips 9 = .ok (.aload_n 0, 1) := by decide +kernel
theorem dX4_slips_10 : decode cX4_slips 10 = .ok (.invokevirtual 236, 3) := by decide +kernel
theorem dX4_slips_13 : decode cX4_slips 13 = .ok (.ireturn, 1) := by decide +kernel
set_option maxRecDepth 20000 in
theorem ggX4_leastStrength_X4_isGate : GoodIn wsX4_leastStrength wsX4_isGate := goodIn_r _ [5, 6, 7, 8, 4, 9] (by decide +kernel) (by decide +kernel)
set_option maxRecDepth 20000 in
theorem gX4_leastStrength_X4_isGate : GoodIn wsX4_leastStrength (va_wsS RX4 211 yX4_isGate wsX4_isGate) := goodIn_app (goodIn_of _ (by decide +kernel)) ggX4_leastStrength_X4_isGate
set_option maxRecDepth 20000 in
theorem ggX4_leastStrength_X4_refused : GoodIn wsX4_leastStrength wsX4_refused := goodIn_r _ [13, 14, 73, 74, 75, 76, 77, 78, 79, 80, 81, 82, 83, 84, 85] (by decide +kernel) (by decide +kernel)
set_option maxRecDepth 20000 in
theorem gX4_leastStrength_X4_refused : GoodIn wsX4_leastStrength (wsV RX4 113 RX4 yX4_refused wsX4_refused) := goodIn_app (goodIn_of _ (by decide +kernel)) ggX4_leastStrength_X4_refused
set_option maxRecDepth 20000 in
theorem ggX4_leastStrength_X4_tryIt : GoodIn wsX4_leastStrength wsX4_tryIt := goodIn_r _ [18, 19, 1, 20, 21, 4, 22, 73, 74, 75, 76, 77, 78, 79, 80, 81, 82, 83, 84, 85] (by decide +kernel) (by decide +kernel)
set_option maxRecDepth 20000 in
theorem gX4_leastStrength_X4_tryIt : GoodIn wsX4_leastStrength (wsV RX4 230 RX4 yX4_tryIt wsX4_tryIt) := goodIn_app (goodIn_of _ (by decide +kernel)) ggX4_leastStrength_X4_tryIt
set_option maxRecDepth 20000 in
theorem ggX4_leastStrength_X4_gateAt : GoodIn wsX4_leastStrength wsX4_gateAt := goodIn_r _ [25] (by decide +kernel) (by decide +kernel)
set_option maxRecDepth 20000 in
theorem gX4_leastStrength_X4_gateAt : GoodIn wsX4_leastStrength (va_wsS RX4 42 yX4_gateAt wsX4_gateAt) := goodIn_app (goodIn_of _ (by decide +kernel)) ggX4_leastStrength_X4_gateAt
set_option maxRecDepth 20000 in
theorem ggX4_leastStrength_X4_slipSet : GoodIn wsX4_leastStrength wsX4_slipSet := goodIn_r _ [29, 1, 19, 30, 31, 4, 32, 33, 34, 35, 36, 37, 38, 39, 40, 7, 8, 9, 41, 42, 43, 44, 45, 46, 47, 48, 49, 23, 24, 25, 50, 51, 52, 53, 54, 55, 56, 57, 58, 59, 60, 61, 62, 63, 64, 65, 20, 21, 22, 66, 67, 68, 69, 70, 71, 72, 73, 74, 75, 76, 77, 78, 79, 80, 81, 82, 83, 84, 85] (by decide +kernel) (by decide +kernel)
set_option maxRecDepth 20000 in
theorem gX4_leastStrength_X4_slipSet : GoodIn wsX4_leastStrength (wsV RX4 236 RX4 yX4_slipSet wsX4_slipSet) := goodIn_app (goodIn_of _ (by decide +kernel)) ggX4_leastStrength_X4_slipSet
theorem dX4_leastStrength_0 : decode cX4_leastStrength 0 = .ok (.aload_n 0, 1) := by decide +kernel
theorem dX4_leastStrength_1 : decode cX4_leastStrength 1 = .ok (.iload_n 1, 1) := by decide +kernel
theorem dX4_leastStrength_2 : decode cX4_leastStrength 2 = .ok (.invokestatic 211, 3) := by decide +kernel
theorem dX4_leastStrength_5 : decode cX4_leastStrength 5 = .ok (.ifCond .eq 7, 3) := by decide +kernel
theorem dX4_leastStrength_8 : decode cX4_leastStrength 8 = .ok (.iconst 0, 1) := by decide +kernel
theorem dX4_leastStrength_9 : decode cX4_leastStrength 9 = .ok (.goto 4, 3) := by decide +kernel
theorem dX4_leastStrength_12 : decode cX4_leastStrength 12 = .ok (.iconst 1, 1) := by decide +kernel
theorem dX4_leastStrength_13 : decode cX4_leastStrength 13 = .ok (.invokevirtual 113, 3) := by decide +kernel
theorem dX4_leastStrength_16 : decode cX4_leastStrength 16 = .ok (.ifCond .eq 5, 3) := by decide +kernel
theorem dX4_leastStrength_19 : decode cX4_leastStrength 19 = .ok (.iconst 0, 1) := by decide +kernel
theorem dX4_leastStrength_20 : decode cX4_leastStrength 20 = .ok (.ireturn, 1) := by decide +kernel
theorem dX4_leastStrength_21 : decode cX4_leastStrength 21 = .ok (.iconst 0, 1) := by decide +kernel
theorem dX4_leastStrength_22 : decode cX4_leastStrength 22 = .ok (.istore_n 2, 1) := by decide +kernel
theorem dX4_leastStrength_23 : decode cX4_leastStrength 23 = .ok (.iload_n 2, 1) := by decide +kernel
theorem dX4_leastStrength_24 : decode cX4_leastStrength 24 = .ok (.bipush 16, 2) := by decide +kernel
theorem dX4_leastStrength_26 : decode cX4_leastStrength 26 = .ok (.if_icmp .ge 33, 3) := by decide +kernel
theorem dX4_leastStrength_29 : decode cX4_leastStrength 29 = .ok (.aload_n 0, 1) := by decide +kernel
theorem dX4_leastStrength_30 : decode cX4_leastStrength 30 = .ok (.invokevirtual 230, 3) := by decide +kernel
theorem dX4_leastStrength_33 : decode cX4_leastStrength 33 = .ok (.aload_n 0, 1) := by decide +kernel
theorem dX4_leastStrength_34 : decode cX4_leastStrength 34 = .ok (.getfield 19, 3) := by decide +kernel
theorem dX4_leastStrength_37 : decode cX4_leastStrength 37 = .ok (.iload_n 1, 1) := by decide +kernel
theorem dX4_leastStrength_38 : decode cX4_leastStrength 38 = .ok (.iconst 0, 1) := by decide +kernel
theorem dX4_leastStrength_39 : decode cX4_leastStrength 39 = .ok (.invokestatic 42, 3) := by decide +kernel
theorem dX4_leastStrength_42 : decode cX4_leastStrength 42 = .ok (.iload_n 2, 1) := by decide +kernel
theorem dX4_leastStrength_43 : decode cX4_leastStrength 43 = .ok (.iastore, 1) := by decide +kernel
theorem dX4_leastStrength_44 : decode cX4_leastStrength 44 = .ok (.aload_n 0, 1) := by decide +kernel
theorem dX4_leastStrength_45 : decode cX4_leastStrength 45 = .ok (.invokevirtual 236, 3) := by decide +kernel
theorem dX4_leastStrength_48 : decode cX4_leastStrength 48 = .ok (.ifCond .ne 5, 3) := by decide +kernel
theorem dX4_leastStrength_51 : decode cX4_leastStrength 51 = .ok (.iload_n 2, 1) := by decide +kernel
theorem dX4_leastStrength_52 : decode cX4_leastStrength 52 = .ok (.ireturn, 1) := by decide +kernel
theorem dX4_leastStrength_53 : decode cX4_leastStrength 53 = .ok (.iinc 2 1, 3) := by decide +kernel
theorem dX4_leastStrength_56 : decode cX4_leastStrength 56 = .ok (.goto (-33), 3) := by decide +kernel
theorem dX4_leastStrength_59 : decode cX4_leastStrength 59 = .ok (.bipush (-9), 2) := by decide +kernel
theorem dX4_leastStrength_61 : decode cX4_leastStrength 61 = .ok (.ireturn, 1) := by decide +kernel
set_option maxRecDepth 20000 in
theorem ggX4_bestGate_X4_isVisitor : GoodIn wsX4_bestGate wsX4_isVisitor := goodIn_r _ [6, 7, 8, 9, 5, 10] (by decide +kernel) (by decide +kernel)
set_option maxRecDepth 20000 in
theorem gX4_bestGate_X4_isVisitor : GoodIn wsX4_bestGate (va_wsS RX4 205 yX4_isVisitor wsX4_isVisitor) := goodIn_app (goodIn_of _ (by decide +kernel)) ggX4_bestGate_X4_isVisitor
set_option maxRecDepth 20000 in
theorem ggX4_bestGate_X4_isInside : GoodIn wsX4_bestGate wsX4_isInside := goodIn_r _ [13, 14, 15, 5, 16] (by decide +kernel) (by decide +kernel)
set_option maxRecDepth 20000 in
theorem gX4_bestGate_X4_isInside : GoodIn wsX4_bestGate (va_wsS RX4 59 yX4_isInside wsX4_isInside) := goodIn_app (goodIn_of _ (by decide +kernel)) ggX4_bestGate_X4_isInside
set_option maxRecDepth 20000 in
theorem ggX4_bestGate_X4_refused : GoodIn wsX4_bestGate wsX4_refused := goodIn_r _ [20, 21, 71, 72, 73, 74, 75, 76, 77, 78, 79, 80, 81, 82, 83] (by decide +kernel) (by decide +kernel)
set_option maxRecDepth 20000 in
theorem gX4_bestGate_X4_refused : GoodIn wsX4_bestGate (wsV RX4 113 RX4 yX4_refused wsX4_refused) := goodIn_app (goodIn_of _ (by decide +kernel)) ggX4_bestGate_X4_refused
set_option maxRecDepth 20000 in
theorem ggX4_bestGate_X4_tryIt : GoodIn wsX4_bestGate wsX4_tryIt := goodIn_r _ [25, 1, 2, 26, 27, 5, 28, 71, 72, 73, 74, 75, 76, 77, 78, 79, 80, 81, 82, 83] (by decide +kernel) (by decide +kernel)
set_option maxRecDepth 20000 in
theorem gX4_bestGate_X4_tryIt : GoodIn wsX4_bestGate (wsV RX4 230 RX4 yX4_tryIt wsX4_tryIt) := goodIn_app (goodIn_of _ (by decide +kernel)) ggX4_bestGate_X4_tryIt
set_option maxRecDepth 20000 in
theorem ggX4_bestGate_X4_walkIn : GoodIn wsX4_bestGate wsX4_walkIn := goodIn_r _ [31, 14, 15, 5, 16] (by decide +kernel) (by decide +kernel)
set_option maxRecDepth 20000 in
theorem gX4_bestGate_X4_walkIn : GoodIn wsX4_bestGate (va_wsS RX4 160 yX4_walkIn wsX4_walkIn) := goodIn_app (goodIn_of _ (by decide +kernel)) ggX4_bestGate_X4_walkIn
set_option maxRecDepth 20000 in
theorem ggX4_bestGate_X4_ticksIn : GoodIn wsX4_bestGate wsX4_ticksIn := goodIn_r _ [34, 35, 36, 5, 37, 14, 15, 16, 38, 39, 40, 41, 42, 8, 9, 10, 43, 44, 45, 46, 47, 48, 49, 50, 51, 52, 53, 54, 55, 56, 57, 58, 59, 60, 61, 62, 63, 64, 65, 66, 67, 68, 69, 70, 26, 27, 28] (by decide +kernel) (by decide +kernel)
set_option maxRecDepth 20000 in
theorem gX4_bestGate_X4_ticksIn : GoodIn wsX4_bestGate (va_wsS RX4 164 yX4_ticksIn wsX4_ticksIn) := goodIn_app (goodIn_of _ (by decide +kernel)) ggX4_bestGate_X4_ticksIn
theorem dX4_bestGate_0 : decode cX4_bestGate 0 = .ok (.aload_n 0, 1) := by decide +kernel
theorem dX4_bestGate_1 : decode cX4_bestGate 1 = .ok (.iload_n 1, 1) := by decide +kernel
theorem dX4_bestGate_2 : decode cX4_bestGate 2 = .ok (.invokestatic 205, 3) := by decide +kernel
theorem dX4_bestGate_5 : decode cX4_bestGate 5 = .ok (.ifCond .ne 7, 3) := by decide +kernel
theorem dX4_bestGate_8 : decode cX4_bestGate 8 = .ok (.iconst 1, 1) := by decide +kernel
theorem dX4_bestGate_9 : decode cX4_bestGate 9 = .ok (.goto 19, 3) := by decide +kernel
theorem dX4_bestGate_12 : decode cX4_bestGate 12 = .ok (.aload_n 0, 1) := by decide +kernel
theorem dX4_bestGate_13 : decode cX4_bestGate 13 = .ok (.getfield 16, 3) := by decide +kernel
theorem dX4_bestGate_16 : decode cX4_bestGate 16 = .ok (.iload_n 1, 1) := by decide +kernel
theorem dX4_bestGate_17 : decode cX4_bestGate 17 = .ok (.invokestatic 59, 3) := by decide +kernel
theorem dX4_bestGate_20 : decode cX4_bestGate 20 = .ok (.ifCond .eq 7, 3) := by decide +kernel
theorem dX4_bestGate_23 : decode cX4_bestGate 23 = .ok (.iconst 0, 1) := by decide +kernel
theorem dX4_bestGate_24 : decode cX4_bestGate 24 = .ok (.goto 4, 3) := by decide +kernel
theorem dX4_bestGate_27 : decode cX4_bestGate 27 = .ok (.iconst 2, 1) := by decide +kernel
theorem dX4_bestGate_28 : decode cX4_bestGate 28 = .ok (.invokevirtual 113, 3) := by decide +kernel
theorem dX4_bestGate_31 : decode cX4_bestGate 31 = .ok (.ifCond .eq 5, 3) := by decide +kernel
theorem dX4_bestGate_34 : decode cX4_bestGate 34 = .ok (.iconst 0, 1) := by decide +kernel
theorem dX4_bestGate_35 : decode cX4_bestGate 35 = .ok (.ireturn, 1) := by decide +kernel
theorem dX4_bestGate_36 : decode cX4_bestGate 36 = .ok (.bipush (-9), 2) := by decide +kernel
theorem dX4_bestGate_38 : decode cX4_bestGate 38 = .ok (.istore_n 2, 1) := by decide +kernel
theorem dX4_bestGate_39 : decode cX4_bestGate 39 = .ok (.iconst 0, 1) := by decide +kernel
theorem dX4_bestGate_40 : decode cX4_bestGate 40 = .ok (.istore_n 3, 1) := by decide +kernel
theorem dX4_bestGate_41 : decode cX4_bestGate 41 = .ok (.iconst 0, 1) := by decide +kernel
theorem dX4_bestGate_42 : decode cX4_bestGate 42 = .ok (.istore 4, 2) := by decide +kernel
theorem dX4_bestGate_44 : decode cX4_bestGate 44 = .ok (.iload 4, 2) := by decide +kernel
theorem dX4_bestGate_46 : decode cX4_bestGate 46 = .ok (.iconst 3, 1) := by decide +kernel
theorem dX4_bestGate_47 : decode cX4_bestGate 47 = .ok (.if_icmp .ge 54, 3) := by decide +kernel
theorem dX4_bestGate_50 : decode cX4_bestGate 50 = .ok (.aload_n 0, 1) := by decide +kernel
theorem dX4_bestGate_51 : decode cX4_bestGate 51 = .ok (.invokevirtual 230, 3) := by decide +kernel
theorem dX4_bestGate_54 : decode cX4_bestGate 54 = .ok (.aload_n 0, 1) := by decide +kernel
theorem dX4_bestGate_55 : decode cX4_bestGate 55 = .ok (.getfield 19, 3) := by decide +kernel
theorem dX4_bestGate_58 : decode cX4_bestGate 58 = .ok (.iload_n 1, 1) := by decide +kernel
theorem dX4_bestGate_59 : decode cX4_bestGate 59 = .ok (.iload 4, 2) := by decide +kernel
theorem dX4_bestGate_61 : decode cX4_bestGate 61 = .ok (.iconst 1, 1) := by decide +kernel
theorem dX4_bestGate_62 : decode cX4_bestGate 62 = .ok (.invokestatic 160, 3) := by decide +kernel
theorem dX4_bestGate_65 : decode cX4_bestGate 65 = .ok (.pop, 1) := by decide +kernel
theorem dX4_bestGate_66 : decode cX4_bestGate 66 = .ok (.aload_n 0, 1) := by decide +kernel
theorem dX4_bestGate_67 : decode cX4_bestGate 67 = .ok (.getfield 19, 3) := by decide +kernel
theorem dX4_bestGate_70 : decode cX4_bestGate 70 = .ok (.bipush 99, 2) := by decide +kernel
theorem dX4_bestGate_72 : decode cX4_bestGate 72 = .ok (.invokestatic 164, 3) := by decide +kernel
theorem dX4_bestGate_75 : decode cX4_bestGate 75 = .ok (.istore 5, 2) := by decide +kernel
theorem dX4_bestGate_77 : decode cX4_bestGate 77 = .ok (.iload_n 2, 1) := by decide +kernel
theorem dX4_bestGate_78 : decode cX4_bestGate 78 = .ok (.bipush (-9), 2) := by decide +kernel
theorem dX4_bestGate_80 : decode cX4_bestGate 80 = .ok (.if_icmp .eq 9, 3) := by decide +kernel
theorem dX4_bestGate_83 : decode cX4_bestGate 83 = .ok (.iload 5, 2) := by decide +kernel
theorem dX4_bestGate_85 : decode cX4_bestGate 85 = .ok (.iload_n 3, 1) := by decide +kernel
theorem dX4_bestGate_86 : decode cX4_bestGate 86 = .ok (.if_icmp .ge 9, 3) := by decide +kernel
theorem dX4_bestGate_89 : decode cX4_bestGate 89 = .ok (.iload 4, 2) := by decide +kernel
theorem dX4_bestGate_91 : decode cX4_bestGate 91 = .ok (.istore_n 2, 1) := by decide +kernel
theorem dX4_bestGate_92 : decode cX4_bestGate 92 = .ok (.iload 5, 2) := by decide +kernel
theorem dX4_bestGate_94 : decode cX4_bestGate 94 = .ok (.istore_n 3, 1) := by decide +kernel
theorem dX4_bestGate_95 : decode cX4_bestGate 95 = .ok (.iinc 4 1, 3) := by decide +kernel
theorem dX4_bestGate_98 : decode cX4_bestGate 98 = .ok (.goto (-54), 3) := by decide +kernel
theorem dX4_bestGate_101 : decode cX4_bestGate 101 = .ok (.iload_n 2, 1) := by decide +kernel
theorem dX4_bestGate_102 : decode cX4_bestGate 102 = .ok (.ireturn, 1) := by decide +kernel
set_option maxRecDepth 20000 in
theorem ggX4_takes_X4_isVisitor : GoodIn wsX4_takes wsX4_isVisitor := goodIn_r _ [5, 6, 7, 8, 4, 9] (by decide +kernel) (by decide +kernel)
set_option maxRecDepth 20000 in
theorem gX4_takes_X4_isVisitor : GoodIn wsX4_takes (va_wsS RX4 205 yX4_isVisitor wsX4_isVisitor) := goodIn_app (goodIn_of _ (by decide +kernel)) ggX4_takes_X4_isVisitor
set_option maxRecDepth 20000 in
theorem ggX4_takes_X4_isBook : GoodIn wsX4_takes wsX4_isBook := goodIn_r _ [12, 13, 7, 8, 4, 9] (by decide +kernel) (by decide +kernel)
set_option maxRecDepth 20000 in
theorem gX4_takes_X4_isBook : GoodIn wsX4_takes (va_wsS RX4 200 yX4_isBook wsX4_isBook) := goodIn_app (goodIn_of _ (by decide +kernel)) ggX4_takes_X4_isBook
set_option maxRecDepth 20000 in
theorem ggX4_takes_X4_canTake : GoodIn wsX4_takes wsX4_canTake := goodIn_r _ [16, 17, 18, 4, 19, 20, 21, 22, 23, 24, 25, 26, 27, 28] (by decide +kernel) (by decide +kernel)
set_option maxRecDepth 20000 in
theorem gX4_takes_X4_canTake : GoodIn wsX4_takes (va_wsS RX4 140 yX4_canTake wsX4_canTake) := goodIn_app (goodIn_of _ (by decide +kernel)) ggX4_takes_X4_canTake
set_option maxRecDepth 20000 in
theorem ggX4_takes_X4_bookAt : GoodIn wsX4_takes wsX4_bookAt := goodIn_r _ [19] (by decide +kernel) (by decide +kernel)
set_option maxRecDepth 20000 in
theorem gX4_takes_X4_bookAt : GoodIn wsX4_takes (va_wsS RX4 53 yX4_bookAt wsX4_bookAt) := goodIn_app (goodIn_of _ (by decide +kernel)) ggX4_takes_X4_bookAt
theorem dX4_takes_0 : decode cX4_takes 0 = .ok (.iload_n 1, 1) := by decide +kernel
theorem dX4_takes_1 : decode cX4_takes 1 = .ok (.invokestatic 205, 3) := by decide +kernel
theorem dX4_takes_4 : decode cX4_takes 4 = .ok (.ifCond .eq 22, 3) := by decide +kernel
theorem dX4_takes_7 : decode cX4_takes 7 = .ok (.iload_n 2, 1) := by decide +kernel
theorem dX4_takes_8 : decode cX4_takes 8 = .ok (.invokestatic 200, 3) := by decide +kernel
theorem dX4_takes_11 : decode cX4_takes 11 = .ok (.ifCond .eq 15, 3) := by decide +kernel
theorem dX4_takes_14 : decode cX4_takes 14 = .ok (.aload_n 0, 1) := by decide +kernel
theorem dX4_takes_15 : decode cX4_takes 15 = .ok (.getfield 19, 3) := by decide +kernel
theorem dX4_takes_18 : decode cX4_takes 18 = .ok (.iload_n 1, 1) := by decide +kernel
theorem dX4_takes_19 : decode cX4_takes 19 = .ok (.iload_n 2, 1) := by decide +kernel
theorem dX4_takes_20 : decode cX4_takes 20 = .ok (.invokestatic 140, 3) := by decide +kernel
theorem dX4_takes_23 : decode cX4_takes 23 = .ok (.ifCond .ne 5, 3) := by decide +kernel
theorem dX4_takes_26 : decode cX4_takes 26 = .ok (.iconst 0, 1) := by decide +kernel
theorem dX4_takes_27 : decode cX4_takes 27 = .ok (.ireturn, 1) := by decide +kernel
theorem dX4_takes_28 : decode cX4_takes 28 = .ok (.aload_n 0, 1) := by decide +kernel
theorem dX4_takes_29 : decode cX4_takes 29 = .ok (.getfield 19, 3) := by decide +kernel
theorem dX4_takes_32 : decode cX4_takes 32 = .ok (.iload_n 2, 1) := by decide +kernel
theorem dX4_takes_33 : decode cX4_takes 33 = .ok (.iconst 0, 1) := by decide +kernel
theorem dX4_takes_34 : decode cX4_takes 34 = .ok (.invokestatic 53, 3) := by decide +kernel
theorem dX4_takes_37 : decode cX4_takes 37 = .ok (.iload_n 1, 1) := by decide +kernel
theorem dX4_takes_38 : decode cX4_takes 38 = .ok (.iconst 1, 1) := by decide +kernel
theorem dX4_takes_39 : decode cX4_takes 39 = .ok (.iadd, 1) := by decide +kernel
theorem dX4_takes_40 : decode cX4_takes 40 = .ok (.iastore, 1) := by decide +kernel
theorem dX4_takes_41 : decode cX4_takes 41 = .ok (.iconst 1, 1) := by decide +kernel
theorem dX4_takes_42 : decode cX4_takes 42 = .ok (.ireturn, 1) := by decide +kernel
set_option maxRecDepth 20000 in
theorem ggX4_marks_X4_isBook : GoodIn wsX4_marks wsX4_isBook := goodIn_r _ [5, 6, 7, 8, 4, 9] (by decide +kernel) (by decide +kernel)
set_option maxRecDepth 20000 in
theorem gX4_marks_X4_isBook : GoodIn wsX4_marks (va_wsS RX4 200 yX4_isBook wsX4_isBook) := goodIn_app (goodIn_of _ (by decide +kernel)) ggX4_marks_X4_isBook
set_option maxRecDepth 20000 in
theorem ggX4_marks_X4_canPutBack : GoodIn wsX4_marks wsX4_canPutBack := goodIn_r _ [12, 13, 14, 4, 15, 16, 17, 18, 19, 20, 21, 22, 23, 24] (by decide +kernel) (by decide +kernel)
set_option maxRecDepth 20000 in
theorem gX4_marks_X4_canPutBack : GoodIn wsX4_marks (va_wsS RX4 147 yX4_canPutBack wsX4_canPutBack) := goodIn_app (goodIn_of _ (by decide +kernel)) ggX4_marks_X4_canPutBack
set_option maxRecDepth 20000 in
theorem ggX4_marks_X4_canBorrow : GoodIn wsX4_marks wsX4_canBorrow := goodIn_r _ [27, 13, 14, 4, 15, 16, 17, 18, 19, 20, 21, 22, 23, 24] (by decide +kernel) (by decide +kernel)
set_option maxRecDepth 20000 in
theorem gX4_marks_X4_canBorrow : GoodIn wsX4_marks (va_wsS RX4 220 yX4_canBorrow wsX4_canBorrow) := goodIn_app (goodIn_of _ (by decide +kernel)) ggX4_marks_X4_canBorrow
set_option maxRecDepth 20000 in
theorem ggX4_marks_X4_bookAt : GoodIn wsX4_marks wsX4_bookAt := goodIn_r _ [15] (by decide +kernel) (by decide +kernel)
set_option maxRecDepth 20000 in
theorem gX4_marks_X4_bookAt : GoodIn wsX4_marks (va_wsS RX4 53 yX4_bookAt wsX4_bookAt) := goodIn_app (goodIn_of _ (by decide +kernel)) ggX4_marks_X4_bookAt
theorem dX4_marks_0 : decode cX4_marks 0 = .ok (.iload_n 1, 1) := by decide +kernel
theorem dX4_marks_1 : decode cX4_marks 1 = .ok (.invokestatic 200, 3) := by decide +kernel
theorem dX4_marks_4 : decode cX4_marks 4 = .ok (.ifCond .eq 40, 3) := by decide +kernel
theorem dX4_marks_7 : decode cX4_marks 7 = .ok (.iload_n 2, 1) := by decide +kernel
theorem dX4_marks_8 : decode cX4_marks 8 = .ok (.iconst 2, 1) := by decide +kernel
theorem dX4_marks_9 : decode cX4_marks 9 = .ok (.if_icmp .gt 35, 3) := by decide +kernel
theorem dX4_marks_12 : decode cX4_marks 12 = .ok (.iload_n 2, 1) := by decide +kernel
theorem dX4_marks_13 : decode cX4_marks 13 = .ok (.ifCond .ne 17, 3) := by decide +kernel
theorem dX4_marks_16 : decode cX4_marks 16 = .ok (.aload_n 0, 1) := by decide +kernel
theorem dX4_marks_17 : decode cX4_marks 17 = .ok (.getfield 19, 3) := by decide +kernel
theorem dX4_marks_20 : decode cX4_marks 20 = .ok (.iload_n 1, 1) := by decide +kernel
theorem dX4_marks_21 : decode cX4_marks 21 = .ok (.invokestatic 147, 3) := by decide +kernel
theorem dX4_marks_24 : decode cX4_marks 24 = .ok (.ifCond .eq 20, 3) := by decide +kernel
theorem dX4_marks_27 : decode cX4_marks 27 = .ok (.goto 19, 3) := by decide +kernel
theorem dX4_marks_30 : decode cX4_marks 30 = .ok (.aload_n 0, 1) := by decide +kernel
theorem dX4_marks_31 : decode cX4_marks 31 = .ok (.getfield 19, 3) := by decide +kernel
theorem dX4_marks_34 : decode cX4_marks 34 = .ok (.iload_n 1, 1) := by decide +kernel
theorem dX4_marks_35 : decode cX4_marks 35 = .ok (.iconst 2, 1) := by decide +kernel
theorem dX4_marks_36 : decode cX4_marks 36 = .ok (.iload_n 2, 1) := by decide +kernel
theorem dX4_marks_37 : decode cX4_marks 37 = .ok (.isub, 1) := by decide +kernel
theorem dX4_marks_38 : decode cX4_marks 38 = .ok (.invokestatic 220, 3) := by decide +kernel
theorem dX4_marks_41 : decode cX4_marks 41 = .ok (.ifCond .ne 5, 3) := by decide +kernel
theorem dX4_marks_44 : decode cX4_marks 44 = .ok (.iconst 0, 1) := by decide +kernel
theorem dX4_marks_45 : decode cX4_marks 45 = .ok (.ireturn, 1) := by decide +kernel
theorem dX4_marks_46 : decode cX4_marks 46 = .ok (.aload_n 0, 1) := by decide +kernel
theorem dX4_marks_47 : decode cX4_marks 47 = .ok (.getfield 19, 3) := by decide +kernel
theorem dX4_marks_50 : decode cX4_marks 50 = .ok (.iload_n 1, 1) := by decide +kernel
theorem dX4_marks_51 : decode cX4_marks 51 = .ok (.iload_n 2, 1) := by decide +kernel
theorem dX4_marks_52 : decode cX4_marks 52 = .ok (.ifCond .ne 7, 3) := by decide +kernel
theorem dX4_marks_55 : decode cX4_marks 55 = .ok (.iconst 0, 1) := by decide +kernel
theorem dX4_marks_56 : decode cX4_marks 56 = .ok (.goto 4, 3) := by decide +kernel
theorem dX4_marks_59 : decode cX4_marks 59 = .ok (.iconst 1, 1) := by decide +kernel
theorem dX4_marks_60 : decode cX4_marks 60 = .ok (.invokestatic 53, 3) := by decide +kernel
theorem dX4_marks_63 : decode cX4_marks 63 = .ok (.iload_n 2, 1) := by decide +kernel
theorem dX4_marks_64 : decode cX4_marks 64 = .ok (.iconst 1, 1) := by decide +kernel
theorem dX4_marks_65 : decode cX4_marks 65 = .ok (.if_icmp .ne 7, 3) := by decide +kernel
theorem dX4_marks_68 : decode cX4_marks 68 = .ok (.iconst 1, 1) := by decide +kernel
theorem dX4_marks_69 : decode cX4_marks 69 = .ok (.goto 4, 3) := by decide +kernel
theorem dX4_marks_72 : decode cX4_marks 72 = .ok (.iconst 0, 1) := by decide +kernel
theorem dX4_marks_73 : decode cX4_marks 73 = .ok (.iastore, 1) := by decide +kernel
theorem dX4_marks_74 : decode cX4_marks 74 = .ok (.iconst 1, 1) := by decide +kernel
theorem dX4_marks_75 : decode cX4_marks 75 = .ok (.ireturn, 1) := by decide +kernel
set_option maxRecDepth 20000 in
theorem ggX4_walks_X4_isVisitor : GoodIn wsX4_walks wsX4_isVisitor := goodIn_r _ [5, 6, 7, 8, 4, 9] (by decide +kernel) (by decide +kernel)
set_option maxRecDepth 20000 in
theorem gX4_walks_X4_isVisitor : GoodIn wsX4_walks (va_wsS RX4 205 yX4_isVisitor wsX4_isVisitor) := goodIn_app (goodIn_of _ (by decide +kernel)) ggX4_walks_X4_isVisitor
set_option maxRecDepth 20000 in
theorem ggX4_walks_X4_isGate : GoodIn wsX4_walks wsX4_isGate := goodIn_r _ [12, 13, 7, 8, 4, 9] (by decide +kernel) (by decide +kernel)
set_option maxRecDepth 20000 in
theorem gX4_walks_X4_isGate : GoodIn wsX4_walks (va_wsS RX4 211 yX4_isGate wsX4_isGate) := goodIn_app (goodIn_of _ (by decide +kernel)) ggX4_walks_X4_isGate
set_option maxRecDepth 20000 in
theorem ggX4_walks_X4_canWalk : GoodIn wsX4_walks wsX4_canWalk := goodIn_r _ [16, 17, 18, 4, 19] (by decide +kernel) (by decide +kernel)
set_option maxRecDepth 20000 in
theorem gX4_walks_X4_canWalk : GoodIn wsX4_walks (va_wsS RX4 156 yX4_canWalk wsX4_canWalk) := goodIn_app (goodIn_of _ (by decide +kernel)) ggX4_walks_X4_canWalk
set_option maxRecDepth 20000 in
theorem ggX4_walks_X4_walkIn : GoodIn wsX4_walks wsX4_walkIn := goodIn_r _ [22, 17, 18, 4, 19] (by decide +kernel) (by decide +kernel)
set_option maxRecDepth 20000 in
theorem gX4_walks_X4_walkIn : GoodIn wsX4_walks (va_wsS RX4 160 yX4_walkIn wsX4_walkIn) := goodIn_app (goodIn_of _ (by decide +kernel)) ggX4_walks_X4_walkIn
theorem dX4_walks_0 : decode cX4_walks 0 = .ok (.iload_n 1, 1) := by decide +kernel
theorem dX4_walks_1 : decode cX4_walks 1 = .ok (.invokestatic 205, 3) := by decide +kernel
theorem dX4_walks_4 : decode cX4_walks 4 = .ok (.ifCond .eq 22, 3) := by decide +kernel
theorem dX4_walks_7 : decode cX4_walks 7 = .ok (.iload_n 2, 1) := by decide +kernel
theorem dX4_walks_8 : decode cX4_walks 8 = .ok (.invokestatic 211, 3) := by decide +kernel
theorem dX4_walks_11 : decode cX4_walks 11 = .ok (.ifCond .eq 15, 3) := by decide +kernel
theorem dX4_walks_14 : decode cX4_walks 14 = .ok (.aload_n 0, 1) := by decide +kernel
theorem dX4_walks_15 : decode cX4_walks 15 = .ok (.getfield 19, 3) := by decide +kernel
theorem dX4_walks_18 : decode cX4_walks 18 = .ok (.iload_n 1, 1) := by decide +kernel
theorem dX4_walks_19 : decode cX4_walks 19 = .ok (.iload_n 3, 1) := by decide +kernel
theorem dX4_walks_20 : decode cX4_walks 20 = .ok (.invokestatic 156, 3) := by decide +kernel
theorem dX4_walks_23 : decode cX4_walks 23 = .ok (.ifCond .ne 5, 3) := by decide +kernel
theorem dX4_walks_26 : decode cX4_walks 26 = .ok (.iconst 0, 1) := by decide +kernel
theorem dX4_walks_27 : decode cX4_walks 27 = .ok (.ireturn, 1) := by decide +kernel
theorem dX4_walks_28 : decode cX4_walks 28 = .ok (.aload_n 0, 1) := by decide +kernel
theorem dX4_walks_29 : decode cX4_walks 29 = .ok (.getfield 19, 3) := by decide +kernel
theorem dX4_walks_32 : decode cX4_walks 32 = .ok (.iload_n 1, 1) := by decide +kernel
theorem dX4_walks_33 : decode cX4_walks 33 = .ok (.iload_n 2, 1) := by decide +kernel
theorem dX4_walks_34 : decode cX4_walks 34 = .ok (.iload_n 3, 1) := by decide +kernel
theorem dX4_walks_35 : decode cX4_walks 35 = .ok (.invokestatic 160, 3) := by decide +kernel
theorem dX4_walks_38 : decode cX4_walks 38 = .ok (.pop, 1) := by decide +kernel
theorem dX4_walks_39 : decode cX4_walks 39 = .ok (.iconst 1, 1) := by decide +kernel
theorem dX4_walks_40 : decode cX4_walks 40 = .ok (.ireturn, 1) := by decide +kernel
set_option maxRecDepth 20000 in
theorem ggX4_turns_X4_isVisitor : GoodIn wsX4_turns wsX4_isVisitor := goodIn_r _ [5, 6, 7, 8, 4, 9] (by decide +kernel) (by decide +kernel)
set_option maxRecDepth 20000 in
theorem gX4_turns_X4_isVisitor : GoodIn wsX4_turns (va_wsS RX4 205 yX4_isVisitor wsX4_isVisitor) := goodIn_app (goodIn_of _ (by decide +kernel)) ggX4_turns_X4_isVisitor
set_option maxRecDepth 20000 in
theorem ggX4_turns_X4_isAtGate : GoodIn wsX4_turns wsX4_isAtGate := goodIn_r _ [12, 13, 14, 4, 15] (by decide +kernel) (by decide +kernel)
set_option maxRecDepth 20000 in
theorem gX4_turns_X4_isAtGate : GoodIn wsX4_turns (va_wsS RX4 150 yX4_isAtGate wsX4_isAtGate) := goodIn_app (goodIn_of _ (by decide +kernel)) ggX4_turns_X4_isAtGate
set_option maxRecDepth 20000 in
theorem ggX4_turns_X4_turnIn : GoodIn wsX4_turns wsX4_turnIn := goodIn_r _ [18, 13, 14, 4, 15] (by decide +kernel) (by decide +kernel)
set_option maxRecDepth 20000 in
theorem gX4_turns_X4_turnIn : GoodIn wsX4_turns (va_wsS RX4 153 yX4_turnIn wsX4_turnIn) := goodIn_app (goodIn_of _ (by decide +kernel)) ggX4_turns_X4_turnIn
theorem dX4_turns_0 : decode cX4_turns 0 = .ok (.iload_n 1, 1) := by decide +kernel
theorem dX4_turns_1 : decode cX4_turns 1 = .ok (.invokestatic 205, 3) := by decide +kernel
theorem dX4_turns_4 : decode cX4_turns 4 = .ok (.ifCond .eq 14, 3) := by decide +kernel
theorem dX4_turns_7 : decode cX4_turns 7 = .ok (.aload_n 0, 1) := by decide +kernel
theorem dX4_turns_8 : decode cX4_turns 8 = .ok (.getfield 19, 3) := by decide +kernel
theorem dX4_turns_11 : decode cX4_turns 11 = .ok (.iload_n 1, 1) := by decide +kernel
theorem dX4_turns_12 : decode cX4_turns 12 = .ok (.invokestatic 150, 3) := by decide +kernel
theorem dX4_turns_15 : decode cX4_turns 15 = .ok (.ifCond .ne 5, 3) := by decide +kernel
theorem dX4_turns_18 : decode cX4_turns 18 = .ok (.iconst 0, 1) := by decide +kernel
theorem dX4_turns_19 : decode cX4_turns 19 = .ok (.ireturn, 1) := by decide +kernel
theorem dX4_turns_20 : decode cX4_turns 20 = .ok (.aload_n 0, 1) := by decide +kernel
theorem dX4_turns_21 : decode cX4_turns 21 = .ok (.getfield 19, 3) := by decide +kernel
theorem dX4_turns_24 : decode cX4_turns 24 = .ok (.iload_n 1, 1) := by decide +kernel
theorem dX4_turns_25 : decode cX4_turns 25 = .ok (.invokestatic 153, 3) := by decide +kernel
theorem dX4_turns_28 : decode cX4_turns 28 = .ok (.pop, 1) := by decide +kernel
theorem dX4_turns_29 : decode cX4_turns 29 = .ok (.iconst 1, 1) := by decide +kernel
theorem dX4_turns_30 : decode cX4_turns 30 = .ok (.ireturn, 1) := by decide +kernel
set_option maxRecDepth 20000 in
theorem ggX4_passes_X4_in : GoodIn wsX4_passes wsX4_in := goodIn_r _ [6] (by decide +kernel) (by decide +kernel)
set_option maxRecDepth 20000 in
theorem gX4_passes_X4_in : GoodIn wsX4_passes (va_wsS RX4 69 yX4_in wsX4_in) := goodIn_app (goodIn_of _ (by decide +kernel)) ggX4_passes_X4_in
set_option maxRecDepth 20000 in
theorem ggX4_passes_X4_ticksIn : GoodIn wsX4_passes wsX4_ticksIn := goodIn_r _ [9, 10, 11, 5, 12, 13, 14, 15, 16, 17, 18, 19, 20, 3, 4, 6, 21, 22, 23, 24, 25, 26, 27, 28, 29, 30, 31, 32, 33, 34, 35, 36, 37, 38, 39, 40, 41, 42, 43, 44, 45, 46, 47, 48, 49, 50, 51] (by decide +kernel) (by decide +kernel)
set_option maxRecDepth 20000 in
theorem gX4_passes_X4_ticksIn : GoodIn wsX4_passes (va_wsS RX4 164 yX4_ticksIn wsX4_ticksIn) := goodIn_app (goodIn_of _ (by decide +kernel)) ggX4_passes_X4_ticksIn
theorem dX4_passes_0 : decode cX4_passes 0 = .ok (.iload_n 1, 1) := by decide +kernel
theorem dX4_passes_1 : decode cX4_passes 1 = .ok (.i2l, 1) := by decide +kernel
theorem dX4_passes_2 : decode cX4_passes 2 = .ok (.lconst 1, 1) := by decide +kernel
theorem dX4_passes_3 : decode cX4_passes 3 = .ok (.ldc2_w 226, 3) := by decide +kernel
theorem dX4_passes_6 : decode cX4_passes 6 = .ok (.invokestatic 69, 3) := by decide +kernel
theorem dX4_passes_9 : decode cX4_passes 9 = .ok (.ifCond .ne 5, 3) := by decide +kernel
theorem dX4_passes_12 : decode cX4_passes 12 = .ok (.iconst 0, 1) := by decide +kernel
theorem dX4_passes_13 : decode cX4_passes 13 = .ok (.ireturn, 1) := by decide +kernel
theorem dX4_passes_14 : decode cX4_passes 14 = .ok (.aload_n 0, 1) := by decide +kernel
theorem dX4_passes_15 : decode cX4_passes 15 = .ok (.getfield 19, 3) := by decide +kernel
theorem dX4_passes_18 : decode cX4_passes 18 = .ok (.iload_n 1, 1) := by decide +kernel
theorem dX4_passes_19 : decode cX4_passes 19 = .ok (.invokestatic 164, 3) := by decide +kernel
theorem dX4_passes_22 : decode cX4_passes 22 = .ok (.pop, 1) := by decide +kernel
theorem dX4_passes_23 : decode cX4_passes 23 = .ok (.iconst 1, 1) := by decide +kernel
theorem dX4_passes_24 : decode cX4_passes 24 = .ok (.ireturn, 1) := by decide +kernel
set_option maxRecDepth 20000 in
theorem ggX4_does_X4_takes : GoodIn wsX4_does wsX4_takes := goodIn_r _ [6, 1, 7, 8, 5, 9, 10, 11, 12, 13, 14, 15, 16, 17, 18, 19, 20, 21, 22, 23, 24, 25, 26, 27, 28, 29, 30, 31, 32, 111, 112, 113, 114, 115, 116, 117, 118, 119, 120, 121, 122, 123] (by decide +kernel) (by decide +kernel)
set_option maxRecDepth 20000 in
theorem gX4_does_X4_takes : GoodIn wsX4_does (wsV RX4 239 RX4 yX4_takes wsX4_takes) := goodIn_app (goodIn_of _ (by decide +kernel)) ggX4_does_X4_takes
set_option maxRecDepth 20000 in
theorem ggX4_does_X4_marks : GoodIn wsX4_does wsX4_marks := goodIn_r _ [36, 1, 14, 15, 5, 16, 17, 11, 12, 13, 37, 38, 39, 21, 22, 23, 40, 41, 42, 24, 25, 26, 27, 28, 29, 43, 44, 45, 111, 112, 113, 114, 115, 116, 117, 118, 119, 120, 121, 122, 123] (by decide +kernel) (by decide +kernel)
set_option maxRecDepth 20000 in
theorem gX4_does_X4_marks : GoodIn wsX4_does (wsV RX4 243 RX4 yX4_marks wsX4_marks) := goodIn_app (goodIn_of _ (by decide +kernel)) ggX4_does_X4_marks
set_option maxRecDepth 20000 in
theorem ggX4_does_X4_walks : GoodIn wsX4_does wsX4_walks := goodIn_r _ [49, 1, 7, 8, 5, 9, 10, 11, 12, 13, 50, 51, 52, 53, 54, 55, 56, 27, 28, 29, 57, 58, 59, 111, 112, 113, 114, 115, 116, 117, 118, 119, 120, 121, 122, 123] (by decide +kernel) (by decide +kernel)
set_option maxRecDepth 20000 in
theorem gX4_does_X4_walks : GoodIn wsX4_does (wsV RX4 246 RX4 yX4_walks wsX4_walks) := goodIn_app (goodIn_of _ (by decide +kernel)) ggX4_does_X4_walks
set_option maxRecDepth 20000 in
theorem ggX4_does_X4_turns : GoodIn wsX4_does wsX4_turns := goodIn_r _ [63, 1, 7, 8, 5, 9, 10, 11, 12, 13, 64, 65, 66, 27, 28, 29, 67, 68, 69, 111, 112, 113, 114, 115, 116, 117, 118, 119, 120, 121, 122, 123] (by decide +kernel) (by decide +kernel)
set_option maxRecDepth 20000 in
theorem gX4_does_X4_turns : GoodIn wsX4_does (wsV RX4 250 RX4 yX4_turns wsX4_turns) := goodIn_app (goodIn_of _ (by decide +kernel)) ggX4_does_X4_turns
set_option maxRecDepth 20000 in
theorem ggX4_does_X4_passes : GoodIn wsX4_does wsX4_passes := goodIn_r _ [73, 74, 1, 11, 12, 5, 13, 75, 76, 77, 78, 79, 80, 27, 28, 29, 81, 82, 83, 84, 85, 86, 87, 88, 21, 22, 23, 89, 90, 91, 92, 93, 94, 95, 96, 97, 98, 99, 100, 101, 30, 31, 32, 102, 103, 104, 105, 106, 107, 108, 109, 110, 111, 112, 113, 114, 115, 116, 117, 118, 119, 120, 121, 122, 123] (by decide +kernel) (by decide +kernel)
set_option maxRecDepth 20000 in
theorem gX4_does_X4_passes : GoodIn wsX4_does (wsV RX4 253 RX4 yX4_passes wsX4_passes) := goodIn_app (goodIn_of _ (by decide +kernel)) ggX4_does_X4_passes
set_option maxRecDepth 20000 in
theorem ggX4_does_X4_isBook : GoodIn wsX4_does wsX4_isBook := goodIn_r _ [16, 17, 11, 12, 5, 13] (by decide +kernel) (by decide +kernel)
set_option maxRecDepth 20000 in
theorem gX4_does_X4_isBook : GoodIn wsX4_does (va_wsS RX4 200 yX4_isBook wsX4_isBook) := goodIn_app (goodIn_of _ (by decide +kernel)) ggX4_does_X4_isBook
set_option maxRecDepth 20000 in
theorem ggX4_does_X4_bookAt : GoodIn wsX4_does wsX4_bookAt := goodIn_r _ [23] (by decide +kernel) (by decide +kernel)
set_option maxRecDepth 20000 in
theorem gX4_does_X4_bookAt : GoodIn wsX4_does (va_wsS RX4 53 yX4_bookAt wsX4_bookAt) := goodIn_app (goodIn_of _ (by decide +kernel)) ggX4_does_X4_bookAt
set_option maxRecDepth 20000 in
theorem ggX4_does_X4_isVisitor : GoodIn wsX4_does wsX4_isVisitor := goodIn_r _ [9, 10, 11, 12, 5, 13] (by decide +kernel) (by decide +kernel)
set_option maxRecDepth 20000 in
theorem gX4_does_X4_isVisitor : GoodIn wsX4_does (va_wsS RX4 205 yX4_isVisitor wsX4_isVisitor) := goodIn_app (goodIn_of _ (by decide +kernel)) ggX4_does_X4_isVisitor
set_option maxRecDepth 20000 in
theorem ggX4_does_X4_visitorAt : GoodIn wsX4_does wsX4_visitorAt := goodIn_r _ [29] (by decide +kernel) (by decide +kernel)
set_option maxRecDepth 20000 in
theorem gX4_does_X4_visitorAt : GoodIn wsX4_does (va_wsS RX4 56 yX4_visitorAt wsX4_visitorAt) := goodIn_app (goodIn_of _ (by decide +kernel)) ggX4_does_X4_visitorAt
theorem dX4_does_0 : decode cX4_does 0 = .ok (.iload_n 1, 1) := by decide +kernel
theorem dX4_does_1 : decode cX4_does 1 = .ok (.sipush 10000, 3) := by decide +kernel
theorem dX4_does_4 : decode cX4_does 4 = .ok (.idiv, 1) := by decide +kernel
theorem dX4_does_5 : decode cX4_does 5 = .ok (.istore_n 2, 1) := by decide +kernel
theorem dX4_does_6 : decode cX4_does 6 = .ok (.iload_n 1, 1) := by decide +kernel
theorem dX4_does_7 : decode cX4_does 7 = .ok (.sipush 1000, 3) := by decide +kernel
theorem dX4_does_10 : decode cX4_does 10 = .ok (.idiv, 1) := by decide +kernel
theorem dX4_does_11 : decode cX4_does 11 = .ok (.bipush 10, 2) := by decide +kernel
theorem dX4_does_13 : decode cX4_does 13 = .ok (.irem, 1) := by decide +kernel
theorem dX4_does_14 : decode cX4_does 14 = .ok (.istore_n 3, 1) := by decide +kernel
theorem dX4_does_15 : decode cX4_does 15 = .ok (.iload_n 1, 1) := by decide +kernel
theorem dX4_does_16 : decode cX4_does 16 = .ok (.bipush 10, 2) := by decide +kernel
theorem dX4_does_18 : decode cX4_does 18 = .ok (.idiv, 1) := by decide +kernel
theorem dX4_does_19 : decode cX4_does 19 = .ok (.bipush 100, 2) := by decide +kernel
theorem dX4_does_21 : decode cX4_does 21 = .ok (.irem, 1) := by decide +kernel
theorem dX4_does_22 : decode cX4_does 22 = .ok (.istore 4, 2) := by decide +kernel
theorem dX4_does_24 : decode cX4_does 24 = .ok (.iload_n 1, 1) := by decide +kernel
theorem dX4_does_25 : decode cX4_does 25 = .ok (.bipush 10, 2) := by decide +kernel
theorem dX4_does_27 : decode cX4_does 27 = .ok (.irem, 1) := by decide +kernel
theorem dX4_does_28 : decode cX4_does 28 = .ok (.istore 5, 2) := by decide +kernel
theorem dX4_does_30 : decode cX4_does 30 = .ok (.iload_n 1, 1) := by decide +kernel
theorem dX4_does_31 : decode cX4_does 31 = .ok (.bipush 100, 2) := by decide +kernel
theorem dX4_does_33 : decode cX4_does 33 = .ok (.idiv, 1) := by decide +kernel
theorem dX4_does_34 : decode cX4_does 34 = .ok (.bipush 100, 2) := by decide +kernel
theorem dX4_does_36 : decode cX4_does 36 = .ok (.irem, 1) := by decide +kernel
theorem dX4_does_37 : decode cX4_does 37 = .ok (.istore 6, 2) := by decide +kernel
theorem dX4_does_39 : decode cX4_does 39 = .ok (.iload_n 2, 1) := by decide +kernel
theorem dX4_does_40 : decode cX4_does 40 = .ok (.tableswitch 310 1 9 #[52, 73, 94, 141, 163, 185, 225, 258, 284], 52) := by decide +kernel
theorem dX4_does_92 : decode cX4_does 92 = .ok (.iload 5, 2) := by decide +kernel
theorem dX4_does_94 : decode cX4_does 94 = .ok (.ifCond .ne 17, 3) := by decide +kernel
theorem dX4_does_97 : decode cX4_does 97 = .ok (.aload_n 0, 1) := by decide +kernel
theorem dX4_does_98 : decode cX4_does 98 = .ok (.iload_n 3, 1) := by decide +kernel
theorem dX4_does_99 : decode cX4_does 99 = .ok (.iload 4, 2) := by decide +kernel
theorem dX4_does_101 : decode cX4_does 101 = .ok (.invokevirtual 239, 3) := by decide +kernel
theorem dX4_does_104 : decode cX4_does 104 = .ok (.ifCond .eq 7, 3) := by decide +kernel
theorem dX4_does_107 : decode cX4_does 107 = .ok (.iconst 1, 1) := by decide +kernel
theorem dX4_does_108 : decode cX4_does 108 = .ok (.goto 4, 3) := by decide +kernel
theorem dX4_does_111 : decode cX4_does 111 = .ok (.iconst 0, 1) := by decide +kernel
theorem dX4_does_112 : decode cX4_does 112 = .ok (.ireturn, 1) := by decide +kernel
theorem dX4_does_113 : decode cX4_does 113 = .ok (.iload_n 3, 1) := by decide +kernel
theorem dX4_does_114 : decode cX4_does 114 = .ok (.ifCond .ne 18, 3) := by decide +kernel
theorem dX4_does_117 : decode cX4_does 117 = .ok (.aload_n 0, 1) := by decide +kernel
theorem dX4_does_118 : decode cX4_does 118 = .ok (.iload 4, 2) := by decide +kernel
theorem dX4_does_120 : decode cX4_does 120 = .ok (.iload 5, 2) := by decide +kernel
theorem dX4_does_122 : decode cX4_does 122 = .ok (.invokevirtual 243, 3) := by decide +kernel
theorem dX4_does_125 : decode cX4_does 125 = .ok (.ifCond .eq 7, 3) := by decide +kernel
theorem dX4_does_128 : decode cX4_does 128 = .ok (.iconst 1, 1) := by decide +kernel
theorem dX4_does_129 : decode cX4_does 129 = .ok (.goto 4, 3) := by decide +kernel
theorem dX4_does_132 : decode cX4_does 132 = .ok (.iconst 0, 1) := by decide +kernel
theorem dX4_does_133 : decode cX4_does 133 = .ok (.ireturn, 1) := by decide +kernel
theorem dX4_does_134 : decode cX4_does 134 = .ok (.iload 5, 2) := by decide +kernel
theorem dX4_does_136 : decode cX4_does 136 = .ok (.ifCond .ne 43, 3) := by decide +kernel
theorem dX4_does_139 : decode cX4_does 139 = .ok (.iload 4, 2) := by decide +kernel
theorem dX4_does_141 : decode cX4_does 141 = .ok (.bipush 10, 2) := by decide +kernel
theorem dX4_does_143 : decode cX4_does 143 = .ok (.irem, 1) := by decide +kernel
theorem dX4_does_144 : decode cX4_does 144 = .ok (.iconst 2, 1) := by decide +kernel
theorem dX4_does_145 : decode cX4_does 145 = .ok (.if_icmp .ge 34, 3) := by decide +kernel
theorem dX4_does_148 : decode cX4_does 148 = .ok (.aload_n 0, 1) := by decide +kernel
theorem dX4_does_149 : decode cX4_does 149 = .ok (.iload_n 3, 1) := by decide +kernel
theorem dX4_does_150 : decode cX4_does 150 = .ok (.iload 4, 2) := by decide +kernel
theorem dX4_does_152 : decode cX4_does 152 = .ok (.bipush 10, 2) := by decide +kernel
theorem dX4_does_154 : decode cX4_does 154 = .ok (.idiv, 1) := by decide +kernel
theorem dX4_does_155 : decode cX4_does 155 = .ok (.iload 4, 2) := by decide +kernel
theorem dX4_does_157 : decode cX4_does 157 = .ok (.bipush 10, 2) := by decide +kernel
theorem dX4_does_159 : decode cX4_does 159 = .ok (.irem, 1) := by decide +kernel
theorem dX4_does_160 : decode cX4_does 160 = .ok (.iconst 1, 1) := by decide +kernel
theorem dX4_does_161 : decode cX4_does 161 = .ok (.if_icmp .ne 7, 3) := by decide +kernel
theorem dX4_does_164 : decode cX4_does 164 = .ok (.iconst 1, 1) := by decide +kernel
theorem dX4_does_165 : decode cX4_does 165 = .ok (.goto 4, 3) := by decide +kernel
theorem dX4_does_168 : decode cX4_does 168 = .ok (.iconst 0, 1) := by decide +kernel
theorem dX4_does_169 : decode cX4_does 169 = .ok (.invokevirtual 246, 3) := by decide +kernel
theorem dX4_does_172 : decode cX4_does 172 = .ok (.ifCond .eq 7, 3) := by decide +kernel
theorem dX4_does_175 : decode cX4_does 175 = .ok (.iconst 1, 1) := by decide +kernel
theorem dX4_does_176 : decode cX4_does 176 = .ok (.goto 4, 3) := by decide +kernel
theorem dX4_does_179 : decode cX4_does 179 = .ok (.iconst 0, 1) := by decide +kernel
theorem dX4_does_180 : decode cX4_does 180 = .ok (.ireturn, 1) := by decide +kernel
theorem dX4_does_181 : decode cX4_does 181 = .ok (.iload_n 1, 1) := by decide +kernel
theorem dX4_does_182 : decode cX4_does 182 = .ok (.sipush 1000, 3) := by decide +kernel
theorem dX4_does_185 : decode cX4_does 185 = .ok (.irem, 1) := by decide +kernel
theorem dX4_does_186 : decode cX4_does 186 = .ok (.ifCond .ne 15, 3) := by decide +kernel
theorem dX4_does_189 : decode cX4_does 189 = .ok (.aload_n 0, 1) := by decide +kernel
theorem dX4_does_190 : decode cX4_does 190 = .ok (.iload_n 3, 1) := by decide +kernel
theorem dX4_does_191 : decode cX4_does 191 = .ok (.invokevirtual 250, 3) := by decide +kernel
theorem dX4_does_194 : decode cX4_does 194 = .ok (.ifCond .eq 7, 3) := by decide +kernel
theorem dX4_does_197 : decode cX4_does 197 = .ok (.iconst 1, 1) := by decide +kernel
theorem dX4_does_198 : decode cX4_does 198 = .ok (.goto 4, 3) := by decide +kernel
theorem dX4_does_201 : decode cX4_does 201 = .ok (.iconst 0, 1) := by decide +kernel
theorem dX4_does_202 : decode cX4_does 202 = .ok (.ireturn, 1) := by decide +kernel
theorem dX4_does_203 : decode cX4_does 203 = .ok (.iload 6, 2) := by decide +kernel
theorem dX4_does_205 : decode cX4_does 205 = .ok (.ifCond .ne 18, 3) := by decide +kernel
theorem dX4_does_208 : decode cX4_does 208 = .ok (.aload_n 0, 1) := by decide +kernel
theorem dX4_does_209 : decode cX4_does 209 = .ok (.iload_n 1, 1) := by decide +kernel
theorem dX4_does_210 : decode cX4_does 210 = .ok (.bipush 100, 2) := by decide +kernel
theorem dX4_does_212 : decode cX4_does 212 = .ok (.irem, 1) := by decide +kernel
theorem dX4_does_213 : decode cX4_does 213 = .ok (.invokevirtual 253, 3) := by decide +kernel
theorem dX4_does_216 : decode cX4_does 216 = .ok (.ifCond .eq 7, 3) := by decide +kernel
theorem dX4_does_219 : decode cX4_does 219 = .ok (.iconst 1, 1) := by decide +kernel
theorem dX4_does_220 : decode cX4_does 220 = .ok (.goto 4, 3) := by decide +kernel
theorem dX4_does_223 : decode cX4_does 223 = .ok (.iconst 0, 1) := by decide +kernel
theorem dX4_does_224 : decode cX4_does 224 = .ok (.ireturn, 1) := by decide +kernel
theorem dX4_does_225 : decode cX4_does 225 = .ok (.iload_n 3, 1) := by decide +kernel
theorem dX4_does_226 : decode cX4_does 226 = .ok (.ifCond .ne 37, 3) := by decide +kernel
theorem dX4_does_229 : decode cX4_does 229 = .ok (.iload 4, 2) := by decide +kernel
theorem dX4_does_231 : decode cX4_does 231 = .ok (.invokestatic 200, 3) := by decide +kernel
theorem dX4_does_234 : decode cX4_does 234 = .ok (.ifCond .eq 29, 3) := by decide +kernel
theorem dX4_does_237 : decode cX4_does 237 = .ok (.iload 5, 2) := by decide +kernel
theorem dX4_does_239 : decode cX4_does 239 = .ok (.iconst 2, 1) := by decide +kernel
theorem dX4_does_240 : decode cX4_does 240 = .ok (.if_icmp .ge 23, 3) := by decide +kernel
theorem dX4_does_243 : decode cX4_does 243 = .ok (.aload_n 0, 1) := by decide +kernel
theorem dX4_does_244 : decode cX4_does 244 = .ok (.getfield 19, 3) := by decide +kernel
theorem dX4_does_247 : decode cX4_does 247 = .ok (.iload 4, 2) := by decide +kernel
theorem dX4_does_249 : decode cX4_does 249 = .ok (.iconst 3, 1) := by decide +kernel
theorem dX4_does_250 : decode cX4_does 250 = .ok (.invokestatic 53, 3) := by decide +kernel
theorem dX4_does_253 : decode cX4_does 253 = .ok (.iaload, 1) := by decide +kernel
theorem dX4_does_254 : decode cX4_does 254 = .ok (.iload 5, 2) := by decide +kernel
theorem dX4_does_256 : decode cX4_does 256 = .ok (.if_icmp .ne 7, 3) := by decide +kernel
theorem dX4_does_259 : decode cX4_does 259 = .ok (.iconst 1, 1) := by decide +kernel
theorem dX4_does_260 : decode cX4_does 260 = .ok (.goto 4, 3) := by decide +kernel
theorem dX4_does_263 : decode cX4_does 263 = .ok (.iconst 0, 1) := by decide +kernel
theorem dX4_does_264 : decode cX4_does 264 = .ok (.ireturn, 1) := by decide +kernel
theorem dX4_does_265 : decode cX4_does 265 = .ok (.iload_n 3, 1) := by decide +kernel
theorem dX4_does_266 : decode cX4_does 266 = .ok (.invokestatic 205, 3) := by decide +kernel
theorem dX4_does_269 : decode cX4_does 269 = .ok (.ifCond .eq 27, 3) := by decide +kernel
theorem dX4_does_272 : decode cX4_does 272 = .ok (.iload 4, 2) := by decide +kernel
theorem dX4_does_274 : decode cX4_does 274 = .ok (.ifCond .ne 22, 3) := by decide +kernel
theorem dX4_does_277 : decode cX4_does 277 = .ok (.aload_n 0, 1) := by decide +kernel
theorem dX4_does_278 : decode cX4_does 278 = .ok (.getfield 19, 3) := by decide +kernel
theorem dX4_does_281 : decode cX4_does 281 = .ok (.iload_n 3, 1) := by decide +kernel
theorem dX4_does_282 : decode cX4_does 282 = .ok (.iconst 0, 1) := by decide +kernel
theorem dX4_does_283 : decode cX4_does 283 = .ok (.invokestatic 56, 3) := by decide +kernel
theorem dX4_does_286 : decode cX4_does 286 = .ok (.iaload, 1) := by decide +kernel
theorem dX4_does_287 : decode cX4_does 287 = .ok (.iload 5, 2) := by decide +kernel
theorem dX4_does_289 : decode cX4_does 289 = .ok (.if_icmp .ne 7, 3) := by decide +kernel
theorem dX4_does_292 : decode cX4_does 292 = .ok (.iconst 1, 1) := by decide +kernel
theorem dX4_does_293 : decode cX4_does 293 = .ok (.goto 4, 3) := by decide +kernel
theorem dX4_does_296 : decode cX4_does 296 = .ok (.iconst 0, 1) := by decide +kernel
theorem dX4_does_297 : decode cX4_does 297 = .ok (.ireturn, 1) := by decide +kernel
theorem dX4_does_298 : decode cX4_does 298 = .ok (.iload 6, 2) := by decide +kernel
theorem dX4_does_300 : decode cX4_does 300 = .ok (.ifCond .ne 22, 3) := by decide +kernel
theorem dX4_does_303 : decode cX4_does 303 = .ok (.aload_n 0, 1) := by decide +kernel
theorem dX4_does_304 : decode cX4_does 304 = .ok (.getfield 19, 3) := by decide +kernel
theorem dX4_does_307 : decode cX4_does 307 = .ok (.sipush 201, 3) := by decide +kernel
theorem dX4_does_310 : decode cX4_does 310 = .ok (.iaload, 1) := by decide +kernel
theorem dX4_does_311 : decode cX4_does 311 = .ok (.iload_n 1, 1) := by decide +kernel
theorem dX4_does_312 : decode cX4_does 312 = .ok (.bipush 100, 2) := by decide +kernel
theorem dX4_does_314 : decode cX4_does 314 = .ok (.irem, 1) := by decide +kernel
theorem dX4_does_315 : decode cX4_does 315 = .ok (.if_icmp .gt 7, 3) := by decide +kernel
theorem dX4_does_318 : decode cX4_does 318 = .ok (.iconst 1, 1) := by decide +kernel
theorem dX4_does_319 : decode cX4_does 319 = .ok (.goto 4, 3) := by decide +kernel
theorem dX4_does_322 : decode cX4_does 322 = .ok (.iconst 0, 1) := by decide +kernel
theorem dX4_does_323 : decode cX4_does 323 = .ok (.ireturn, 1) := by decide +kernel
theorem dX4_does_324 : decode cX4_does 324 = .ok (.iload 6, 2) := by decide +kernel
theorem dX4_does_326 : decode cX4_does 326 = .ok (.ifCond .ne 22, 3) := by decide +kernel
theorem dX4_does_329 : decode cX4_does 329 = .ok (.aload_n 0, 1) := by decide +kernel
theorem dX4_does_330 : decode cX4_does 330 = .ok (.getfield 19, 3) := by decide +kernel
theorem dX4_does_333 : decode cX4_does 333 = .ok (.sipush 199, 3) := by decide +kernel
theorem dX4_does_336 : decode cX4_does 336 = .ok (.iaload, 1) := by decide +kernel
theorem dX4_does_337 : decode cX4_does 337 = .ok (.iload_n 1, 1) := by decide +kernel
theorem dX4_does_338 : decode cX4_does 338 = .ok (.bipush 100, 2) := by decide +kernel
theorem dX4_does_340 : decode cX4_does 340 = .ok (.irem, 1) := by decide +kernel
theorem dX4_does_341 : decode cX4_does 341 = .ok (.if_icmp .lt 7, 3) := by decide +kernel
theorem dX4_does_344 : decode cX4_does 344 = .ok (.iconst 1, 1) := by decide +kernel
theorem dX4_does_345 : decode cX4_does 345 = .ok (.goto 4, 3) := by decide +kernel
theorem dX4_does_348 : decode cX4_does 348 = .ok (.iconst 0, 1) := by decide +kernel
theorem dX4_does_349 : decode cX4_does 349 = .ok (.ireturn, 1) := by decide +kernel
theorem dX4_does_350 : decode cX4_does 350 = .ok (.iconst 0, 1) := by decide +kernel
theorem dX4_does_351 : decode cX4_does 351 = .ok (.ireturn, 1) := by decide +kernel
set_option maxRecDepth 20000 in
theorem ggX4_runScript_X4_in : GoodIn wsX4_runScript wsX4_in := goodIn_r _ [6] (by decide +kernel) (by decide +kernel)
set_option maxRecDepth 20000 in
theorem gX4_runScript_X4_in : GoodIn wsX4_runScript (va_wsS RX4 69 yX4_in wsX4_in) := goodIn_app (goodIn_of _ (by decide +kernel)) ggX4_runScript_X4_in
set_option maxRecDepth 20000 in
theorem ggX4_runScript_X4_tenTo : GoodIn wsX4_runScript wsX4_tenTo := goodIn_r _ [9, 10] (by decide +kernel) (by decide +kernel)
set_option maxRecDepth 20000 in
theorem gX4_runScript_X4_tenTo : GoodIn wsX4_runScript (va_wsS RX4 256 yX4_tenTo wsX4_tenTo) := goodIn_app (goodIn_of _ (by decide +kernel)) ggX4_runScript_X4_tenTo
set_option maxRecDepth 20000 in
theorem ggX4_runScript_X4_refused : GoodIn wsX4_runScript wsX4_refused := goodIn_r _ [14, 15, 130, 131, 132, 133, 134, 135, 136, 137, 138, 139, 140, 141, 142] (by decide +kernel) (by decide +kernel)
set_option maxRecDepth 20000 in
theorem gX4_runScript_X4_refused : GoodIn wsX4_runScript (wsV RX4 113 RX4 yX4_refused wsX4_refused) := goodIn_app (goodIn_of _ (by decide +kernel)) ggX4_runScript_X4_refused
set_option maxRecDepth 20000 in
theorem ggX4_runScript_X4_tryIt : GoodIn wsX4_runScript wsX4_tryIt := goodIn_r _ [19, 20, 21, 22, 23, 5, 24, 130, 131, 132, 133, 134, 135, 136, 137, 138, 139, 140, 141, 142] (by decide +kernel) (by decide +kernel)
set_option maxRecDepth 20000 in
theorem gX4_runScript_X4_tryIt : GoodIn wsX4_runScript (wsV RX4 230 RX4 yX4_tryIt wsX4_tryIt) := goodIn_app (goodIn_of _ (by decide +kernel)) ggX4_runScript_X4_tryIt
set_option maxRecDepth 20000 in
theorem ggX4_runScript_X4_does : GoodIn wsX4_runScript wsX4_does := goodIn_r _ [28, 21, 29, 30, 31, 5, 32, 33, 34, 35, 36, 3, 4, 6, 37, 38, 39, 40, 41, 42, 43, 44, 45, 46, 47, 48, 49, 50, 51, 52, 53, 54, 55, 56, 57, 58, 59, 60, 61, 62, 63, 64, 65, 66, 67, 68, 69, 70, 71, 72, 73, 74, 75, 76, 77, 78, 79, 80, 81, 82, 83, 84, 85, 86, 87, 88, 89, 90, 91, 92, 93, 94, 95, 96, 97, 98, 99, 100, 101, 102, 103, 104, 105, 106, 107, 1, 108, 109, 110, 111, 112, 113, 114, 115, 116, 117, 118, 119, 120, 121, 122, 123, 124, 125, 126, 127, 128, 129, 22, 23, 24, 130, 131, 132, 133, 134, 135, 136, 137, 138, 139, 140, 141, 142] (by decide +kernel) (by decide +kernel)
set_option maxRecDepth 20000 in
theorem gX4_runScript_X4_does : GoodIn wsX4_runScript (wsV RX4 262 RX4 yX4_does wsX4_does) := goodIn_app (goodIn_of _ (by decide +kernel)) ggX4_runScript_X4_does
theorem dX4_runScript_0 : decode cX4_runScript 0 = .ok (.iload_n 1, 1) := by decide +kernel
theorem dX4_runScript_1 : decode cX4_runScript 1 = .ok (.i2l, 1) := by decide +kernel
theorem dX4_runScript_2 : decode cX4_runScript 2 = .ok (.lconst 1, 1) := by decide +kernel
theorem dX4_runScript_3 : decode cX4_runScript 3 = .ok (.ldc2_w 83, 3) := by decide +kernel
theorem dX4_runScript_6 : decode cX4_runScript 6 = .ok (.invokestatic 69, 3) := by decide +kernel
theorem dX4_runScript_9 : decode cX4_runScript 9 = .ok (.istore 4, 2) := by decide +kernel
theorem dX4_runScript_11 : decode cX4_runScript 11 = .ok (.aload_n 0, 1) := by decide +kernel
theorem dX4_runScript_12 : decode cX4_runScript 12 = .ok (.iload 4, 2) := by decide +kernel
theorem dX4_runScript_14 : decode cX4_runScript 14 = .ok (.ifCond .eq 32, 3) := by decide +kernel
theorem dX4_runScript_17 : decode cX4_runScript 17 = .ok (.lload_n 2, 1) := by decide +kernel
theorem dX4_runScript_18 : decode cX4_runScript 18 = .ok (.lconst 0, 1) := by decide +kernel
theorem dX4_runScript_19 : decode cX4_runScript 19 = .ok (.iload 4, 2) := by decide +kernel
theorem dX4_runScript_21 : decode cX4_runScript 21 = .ok (.ifCond .eq 9, 3) := by decide +kernel
theorem dX4_runScript_24 : decode cX4_runScript 24 = .ok (.iconst 5, 1) := by decide +kernel
theorem dX4_runScript_25 : decode cX4_runScript 25 = .ok (.iload_n 1, 1) := by decide +kernel
theorem dX4_runScript_26 : decode cX4_runScript 26 = .ok (.imul, 1) := by decide +kernel
theorem dX4_runScript_27 : decode cX4_runScript 27 = .ok (.goto 4, 3) := by decide +kernel
theorem dX4_runScript_30 : decode cX4_runScript 30 = .ok (.iconst 0, 1) := by decide +kernel
theorem dX4_runScript_31 : decode cX4_runScript 31 = .ok (.invokestatic 256, 3) := by decide +kernel
theorem dX4_runScript_34 : decode cX4_runScript 34 = .ok (.lconst 1, 1) := by decide +kernel
theorem dX4_runScript_35 : decode cX4_runScript 35 = .ok (.lsub, 1) := by decide +kernel
theorem dX4_runScript_36 : decode cX4_runScript 36 = .ok (.invokestatic 69, 3) := by decide +kernel
theorem dX4_runScript_39 : decode cX4_runScript 39 = .ok (.ifCond .eq 7, 3) := by decide +kernel
theorem dX4_runScript_42 : decode cX4_runScript 42 = .ok (.iconst 0, 1) := by decide +kernel
theorem dX4_runScript_43 : decode cX4_runScript 43 = .ok (.goto 4, 3) := by decide +kernel
theorem dX4_runScript_46 : decode cX4_runScript 46 = .ok (.iconst 1, 1) := by decide +kernel
theorem dX4_runScript_47 : decode cX4_runScript 47 = .ok (.invokevirtual 113, 3) := by decide +kernel
theorem dX4_runScript_50 : decode cX4_runScript 50 = .ok (.ifCond .eq 5, 3) := by decide +kernel
theorem dX4_runScript_53 : decode cX4_runScript 53 = .ok (.iconst 0, 1) := by decide +kernel
theorem dX4_runScript_54 : decode cX4_runScript 54 = .ok (.ireturn, 1) := by decide +kernel
theorem dX4_runScript_55 : decode cX4_runScript 55 = .ok (.aload_n 0, 1) := by decide +kernel
theorem dX4_runScript_56 : decode cX4_runScript 56 = .ok (.invokevirtual 230, 3) := by decide +kernel
theorem dX4_runScript_59 : decode cX4_runScript 59 = .ok (.iconst 0, 1) := by decide +kernel
theorem dX4_runScript_60 : decode cX4_runScript 60 = .ok (.istore 5, 2) := by decide +kernel
theorem dX4_runScript_62 : decode cX4_runScript 62 = .ok (.iload 5, 2) := by decide +kernel
theorem dX4_runScript_64 : decode cX4_runScript 64 = .ok (.iload_n 1, 1) := by decide +kernel
theorem dX4_runScript_65 : decode cX4_runScript 65 = .ok (.if_icmp .ge 37, 3) := by decide +kernel
theorem dX4_runScript_68 : decode cX4_runScript 68 = .ok (.aload_n 0, 1) := by decide +kernel
theorem dX4_runScript_69 : decode cX4_runScript 69 = .ok (.lload_n 2, 1) := by decide +kernel
theorem dX4_runScript_70 : decode cX4_runScript 70 = .ok (.iconst 5, 1) := by decide +kernel
theorem dX4_runScript_71 : decode cX4_runScript 71 = .ok (.iload_n 1, 1) := by decide +kernel
theorem dX4_runScript_72 : decode cX4_runScript 72 = .ok (.iconst 1, 1) := by decide +kernel
theorem dX4_runScript_73 : decode cX4_runScript 73 = .ok (.isub, 1) := by decide +kernel
theorem dX4_runScript_74 : decode cX4_runScript 74 = .ok (.iload 5, 2) := by decide +kernel
theorem dX4_runScript_76 : decode cX4_runScript 76 = .ok (.isub, 1) := by decide +kernel
theorem dX4_runScript_77 : decode cX4_runScript 77 = .ok (.imul, 1) := by decide +kernel
theorem dX4_runScript_78 : decode cX4_runScript 78 = .ok (.invokestatic 256, 3) := by decide +kernel
theorem dX4_runScript_81 : decode cX4_runScript 81 = .ok (.ldiv, 1) := by decide +kernel
theorem dX4_runScript_82 : decode cX4_runScript 82 = .ok (.ldc2_w 260, 3) := by decide +kernel
theorem dX4_runScript_85 : decode cX4_runScript 85 = .ok (.lrem, 1) := by decide +kernel
theorem dX4_runScript_86 : decode cX4_runScript 86 = .ok (.l2i, 1) := by decide +kernel
theorem dX4_runScript_87 : decode cX4_runScript 87 = .ok (.invokevirtual 262, 3) := by decide +kernel
theorem dX4_runScript_90 : decode cX4_runScript 90 = .ok (.ifCond .ne 6, 3) := by decide +kernel
theorem dX4_runScript_93 : decode cX4_runScript 93 = .ok (.iload 5, 2) := by decide +kernel
theorem dX4_runScript_95 : decode cX4_runScript 95 = .ok (.ireturn, 1) := by decide +kernel
theorem dX4_runScript_96 : decode cX4_runScript 96 = .ok (.iinc 5 1, 3) := by decide +kernel
theorem dX4_runScript_99 : decode cX4_runScript 99 = .ok (.goto (-37), 3) := by decide +kernel
theorem dX4_runScript_102 : decode cX4_runScript 102 = .ok (.bipush (-9), 2) := by decide +kernel
theorem dX4_runScript_104 : decode cX4_runScript 104 = .ok (.ireturn, 1) := by decide +kernel
set_option maxRecDepth 20000 in
theorem ggX4_stir_X4_takes : GoodIn wsX4_stir wsX4_takes := goodIn_r _ [6, 1, 7, 8, 5, 9, 10, 11, 12, 13, 14, 15, 16, 17, 18, 19, 20, 21, 22, 23, 24, 25, 26, 27, 28, 29, 30, 31, 32, 70, 71, 72, 73, 74, 75, 76, 77, 78, 79, 80, 81, 82] (by decide +kernel) (by decide +kernel)
set_option maxRecDepth 20000 in
theorem gX4_stir_X4_takes : GoodIn wsX4_stir (wsV RX4 239 RX4 yX4_takes wsX4_takes) := goodIn_app (goodIn_of _ (by decide +kernel)) ggX4_stir_X4_takes
set_option maxRecDepth 20000 in
theorem ggX4_stir_X4_bookAt : GoodIn wsX4_stir wsX4_bookAt := goodIn_r _ [23] (by decide +kernel) (by decide +kernel)
set_option maxRecDepth 20000 in
theorem gX4_stir_X4_bookAt : GoodIn wsX4_stir (va_wsS RX4 53 yX4_bookAt wsX4_bookAt) := goodIn_app (goodIn_of _ (by decide +kernel)) ggX4_stir_X4_bookAt
set_option maxRecDepth 20000 in
theorem ggX4_stir_X4_marks : GoodIn wsX4_stir wsX4_marks := goodIn_r _ [36, 1, 14, 15, 5, 16, 17, 11, 12, 13, 37, 38, 39, 21, 22, 23, 40, 41, 42, 24, 25, 26, 27, 28, 29, 43, 44, 45, 70, 71, 72, 73, 74, 75, 76, 77, 78, 79, 80, 81, 82] (by decide +kernel) (by decide +kernel)
set_option maxRecDepth 20000 in
theorem gX4_stir_X4_marks : GoodIn wsX4_stir (wsV RX4 243 RX4 yX4_marks wsX4_marks) := goodIn_app (goodIn_of _ (by decide +kernel)) ggX4_stir_X4_marks
set_option maxRecDepth 20000 in
theorem ggX4_stir_X4_isInside : GoodIn wsX4_stir wsX4_isInside := goodIn_r _ [26, 27, 28, 5, 29] (by decide +kernel) (by decide +kernel)
set_option maxRecDepth 20000 in
theorem gX4_stir_X4_isInside : GoodIn wsX4_stir (va_wsS RX4 59 yX4_isInside wsX4_isInside) := goodIn_app (goodIn_of _ (by decide +kernel)) ggX4_stir_X4_isInside
set_option maxRecDepth 20000 in
theorem ggX4_stir_X4_walks : GoodIn wsX4_stir wsX4_walks := goodIn_r _ [49, 1, 7, 8, 5, 9, 10, 11, 12, 13, 50, 51, 52, 53, 54, 55, 56, 27, 28, 29, 57, 58, 59, 70, 71, 72, 73, 74, 75, 76, 77, 78, 79, 80, 81, 82] (by decide +kernel) (by decide +kernel)
set_option maxRecDepth 20000 in
theorem gX4_stir_X4_walks : GoodIn wsX4_stir (wsV RX4 246 RX4 yX4_walks wsX4_walks) := goodIn_app (goodIn_of _ (by decide +kernel)) ggX4_stir_X4_walks
set_option maxRecDepth 20000 in
theorem ggX4_stir_X4_turns : GoodIn wsX4_stir wsX4_turns := goodIn_r _ [63, 1, 7, 8, 5, 9, 10, 11, 12, 13, 64, 65, 66, 27, 28, 29, 67, 68, 69, 70, 71, 72, 73, 74, 75, 76, 77, 78, 79, 80, 81, 82] (by decide +kernel) (by decide +kernel)
set_option maxRecDepth 20000 in
theorem gX4_stir_X4_turns : GoodIn wsX4_stir (wsV RX4 250 RX4 yX4_turns wsX4_turns) := goodIn_app (goodIn_of _ (by decide +kernel)) ggX4_stir_X4_turns
theorem dX4_stir_0 : decode cX4_stir 0 = .ok (.iload_n 1, 1) := by decide +kernel
theorem dX4_stir_1 : decode cX4_stir 1 = .ok (.bipush 8, 2) := by decide +kernel
theorem dX4_stir_3 : decode cX4_stir 3 = .ok (.idiv, 1) := by decide +kernel
theorem dX4_stir_4 : decode cX4_stir 4 = .ok (.bipush 6, 2) := by decide +kernel
theorem dX4_stir_6 : decode cX4_stir 6 = .ok (.irem, 1) := by decide +kernel
theorem dX4_stir_7 : decode cX4_stir 7 = .ok (.istore_n 2, 1) := by decide +kernel
theorem dX4_stir_8 : decode cX4_stir 8 = .ok (.iload_n 1, 1) := by decide +kernel
theorem dX4_stir_9 : decode cX4_stir 9 = .ok (.bipush 64, 2) := by decide +kernel
theorem dX4_stir_11 : decode cX4_stir 11 = .ok (.idiv, 1) := by decide +kernel
theorem dX4_stir_12 : decode cX4_stir 12 = .ok (.bipush 20, 2) := by decide +kernel
theorem dX4_stir_14 : decode cX4_stir 14 = .ok (.irem, 1) := by decide +kernel
theorem dX4_stir_15 : decode cX4_stir 15 = .ok (.istore_n 3, 1) := by decide +kernel
theorem dX4_stir_16 : decode cX4_stir 16 = .ok (.iload_n 1, 1) := by decide +kernel
theorem dX4_stir_17 : decode cX4_stir 17 = .ok (.sipush 2048, 3) := by decide +kernel
theorem dX4_stir_20 : decode cX4_stir 20 = .ok (.idiv, 1) := by decide +kernel
theorem dX4_stir_21 : decode cX4_stir 21 = .ok (.iconst 3, 1) := by decide +kernel
theorem dX4_stir_22 : decode cX4_stir 22 = .ok (.irem, 1) := by decide +kernel
theorem dX4_stir_23 : decode cX4_stir 23 = .ok (.istore 4, 2) := by decide +kernel
theorem dX4_stir_25 : decode cX4_stir 25 = .ok (.iload_n 1, 1) := by decide +kernel
theorem dX4_stir_26 : decode cX4_stir 26 = .ok (.bipush 8, 2) := by decide +kernel
theorem dX4_stir_28 : decode cX4_stir 28 = .ok (.irem, 1) := by decide +kernel
theorem dX4_stir_29 : decode cX4_stir 29 = .ok (.tableswitch 104 0 5 #[39, 39, 49, 76, 76, 95], 39) := by decide +kernel
theorem dX4_stir_68 : decode cX4_stir 68 = .ok (.aload_n 0, 1) := by decide +kernel
theorem dX4_stir_69 : decode cX4_stir 69 = .ok (.iload_n 2, 1) := by decide +kernel
theorem dX4_stir_70 : decode cX4_stir 70 = .ok (.iload_n 3, 1) := by decide +kernel
theorem dX4_stir_71 : decode cX4_stir 71 = .ok (.invokevirtual 239, 3) := by decide +kernel
theorem dX4_stir_74 : decode cX4_stir 74 = .ok (.pop, 1) := by decide +kernel
theorem dX4_stir_75 : decode cX4_stir 75 = .ok (.goto 58, 3) := by decide +kernel
theorem dX4_stir_78 : decode cX4_stir 78 = .ok (.aload_n 0, 1) := by decide +kernel
theorem dX4_stir_79 : decode cX4_stir 79 = .ok (.iload_n 3, 1) := by decide +kernel
theorem dX4_stir_80 : decode cX4_stir 80 = .ok (.aload_n 0, 1) := by decide +kernel
theorem dX4_stir_81 : decode cX4_stir 81 = .ok (.getfield 19, 3) := by decide +kernel
theorem dX4_stir_84 : decode cX4_stir 84 = .ok (.iload_n 3, 1) := by decide +kernel
theorem dX4_stir_85 : decode cX4_stir 85 = .ok (.iconst 1, 1) := by decide +kernel
theorem dX4_stir_86 : decode cX4_stir 86 = .ok (.invokestatic 53, 3) := by decide +kernel
theorem dX4_stir_89 : decode cX4_stir 89 = .ok (.iaload, 1) := by decide +kernel
theorem dX4_stir_90 : decode cX4_stir 90 = .ok (.ifCond .ne 7, 3) := by decide +kernel
theorem dX4_stir_93 : decode cX4_stir 93 = .ok (.iconst 1, 1) := by decide +kernel
theorem dX4_stir_94 : decode cX4_stir 94 = .ok (.goto 4, 3) := by decide +kernel
theorem dX4_stir_97 : decode cX4_stir 97 = .ok (.iconst 2, 1) := by decide +kernel
theorem dX4_stir_98 : decode cX4_stir 98 = .ok (.invokevirtual 243, 3) := by decide +kernel
theorem dX4_stir_101 : decode cX4_stir 101 = .ok (.pop, 1) := by decide +kernel
theorem dX4_stir_102 : decode cX4_stir 102 = .ok (.goto 31, 3) := by decide +kernel
theorem dX4_stir_105 : decode cX4_stir 105 = .ok (.aload_n 0, 1) := by decide +kernel
theorem dX4_stir_106 : decode cX4_stir 106 = .ok (.iload_n 2, 1) := by decide +kernel
theorem dX4_stir_107 : decode cX4_stir 107 = .ok (.iload 4, 2) := by decide +kernel
theorem dX4_stir_109 : decode cX4_stir 109 = .ok (.aload_n 0, 1) := by decide +kernel
theorem dX4_stir_110 : decode cX4_stir 110 = .ok (.getfield 19, 3) := by decide +kernel
theorem dX4_stir_113 : decode cX4_stir 113 = .ok (.iload_n 2, 1) := by decide +kernel
theorem dX4_stir_114 : decode cX4_stir 114 = .ok (.invokestatic 59, 3) := by decide +kernel
theorem dX4_stir_117 : decode cX4_stir 117 = .ok (.invokevirtual 246, 3) := by decide +kernel
theorem dX4_stir_120 : decode cX4_stir 120 = .ok (.pop, 1) := by decide +kernel
theorem dX4_stir_121 : decode cX4_stir 121 = .ok (.goto 12, 3) := by decide +kernel
theorem dX4_stir_124 : decode cX4_stir 124 = .ok (.aload_n 0, 1) := by decide +kernel
theorem dX4_stir_125 : decode cX4_stir 125 = .ok (.iload_n 2, 1) := by decide +kernel
theorem dX4_stir_126 : decode cX4_stir 126 = .ok (.invokevirtual 250, 3) := by decide +kernel
theorem dX4_stir_129 : decode cX4_stir 129 = .ok (.pop, 1) := by decide +kernel
theorem dX4_stir_130 : decode cX4_stir 130 = .ok (.goto 3, 3) := by decide +kernel
theorem dX4_stir_133 : decode cX4_stir 133 = .ok (.return_, 1) := by decide +kernel
set_option maxRecDepth 20000 in
theorem ggX4_simulate_X4_in : GoodIn wsX4_simulate wsX4_in := goodIn_r _ [9] (by decide +kernel) (by decide +kernel)
set_option maxRecDepth 20000 in
theorem gX4_simulate_X4_in : GoodIn wsX4_simulate (va_wsS RX4 69 yX4_in wsX4_in) := goodIn_app (goodIn_of _ (by decide +kernel)) ggX4_simulate_X4_in
set_option maxRecDepth 20000 in
theorem ggX4_simulate_X4_refused : GoodIn wsX4_simulate wsX4_refused := goodIn_r _ [13, 14, 120, 121, 122, 123, 124, 125, 126, 127, 128, 129, 130, 131, 132] (by decide +kernel) (by decide +kernel)
set_option maxRecDepth 20000 in
theorem gX4_simulate_X4_refused : GoodIn wsX4_simulate (wsV RX4 113 RX4 yX4_refused wsX4_refused) := goodIn_app (goodIn_of _ (by decide +kernel)) ggX4_simulate_X4_refused
set_option maxRecDepth 20000 in
theorem ggX4_simulate_X4_tryIt : GoodIn wsX4_simulate wsX4_tryIt := goodIn_r _ [18, 5, 4, 19, 20, 8, 21, 120, 121, 122, 123, 124, 125, 126, 127, 128, 129, 130, 131, 132] (by decide +kernel) (by decide +kernel)
set_option maxRecDepth 20000 in
theorem gX4_simulate_X4_tryIt : GoodIn wsX4_simulate (wsV RX4 230 RX4 yX4_tryIt wsX4_tryIt) := goodIn_app (goodIn_of _ (by decide +kernel)) ggX4_simulate_X4_tryIt
set_option maxRecDepth 20000 in
theorem ggX4_simulate_X4_stir : GoodIn wsX4_simulate wsX4_stir := goodIn_r _ [25, 4, 26, 27, 28, 8, 29, 30, 31, 32, 33, 6, 7, 9, 34, 35, 36, 37, 38, 39, 40, 41, 42, 43, 44, 45, 46, 47, 48, 49, 50, 51, 52, 53, 54, 55, 56, 57, 58, 59, 60, 61, 62, 63, 64, 65, 66, 67, 68, 69, 70, 71, 72, 73, 74, 75, 76, 77, 78, 79, 80, 81, 82, 83, 84, 85, 86, 87, 88, 89, 120, 121, 122, 123, 124, 125, 126, 127, 128, 129, 130, 131, 132] (by decide +kernel) (by decide +kernel)
set_option maxRecDepth 20000 in
theorem gX4_simulate_X4_stir : GoodIn wsX4_simulate (wsV RX4 271 RX4 yX4_stir wsX4_stir) := goodIn_app (goodIn_of _ (by decide +kernel)) ggX4_simulate_X4_stir
set_option maxRecDepth 20000 in
theorem ggX4_simulate_X4_tick : GoodIn wsX4_simulate wsX4_tick := goodIn_r _ [92, 47, 48, 8, 49, 93, 94, 95, 96, 97, 6, 7, 9, 98, 99, 100, 41, 42, 43, 101, 102, 103, 104, 105, 106, 107, 108, 109, 110, 111, 112, 113, 50, 51, 52, 114, 115, 116, 117, 118, 119, 19, 20, 21] (by decide +kernel) (by decide +kernel)
set_option maxRecDepth 20000 in
theorem gX4_simulate_X4_tick : GoodIn wsX4_simulate (va_wsS RX4 102 yX4_tick wsX4_tick) := goodIn_app (goodIn_of _ (by decide +kernel)) ggX4_simulate_X4_tick
theorem dX4_simulate_0 : decode cX4_simulate 0 = .ok (.aload_n 0, 1) := by decide +kernel
theorem dX4_simulate_1 : decode cX4_simulate 1 = .ok (.iload_n 3, 1) := by decide +kernel
theorem dX4_simulate_2 : decode cX4_simulate 2 = .ok (.i2l, 1) := by decide +kernel
theorem dX4_simulate_3 : decode cX4_simulate 3 = .ok (.lconst 1, 1) := by decide +kernel
theorem dX4_simulate_4 : decode cX4_simulate 4 = .ok (.ldc2_w 265, 3) := by decide +kernel
theorem dX4_simulate_7 : decode cX4_simulate 7 = .ok (.invokestatic 69, 3) := by decide +kernel
theorem dX4_simulate_10 : decode cX4_simulate 10 = .ok (.ifCond .eq 7, 3) := by decide +kernel
theorem dX4_simulate_13 : decode cX4_simulate 13 = .ok (.iconst 0, 1) := by decide +kernel
theorem dX4_simulate_14 : decode cX4_simulate 14 = .ok (.goto 4, 3) := by decide +kernel
theorem dX4_simulate_17 : decode cX4_simulate 17 = .ok (.iconst 1, 1) := by decide +kernel
theorem dX4_simulate_18 : decode cX4_simulate 18 = .ok (.invokevirtual 113, 3) := by decide +kernel
theorem dX4_simulate_21 : decode cX4_simulate 21 = .ok (.ifCond .eq 5, 3) := by decide +kernel
theorem dX4_simulate_24 : decode cX4_simulate 24 = .ok (.iconst 0, 1) := by decide +kernel
theorem dX4_simulate_25 : decode cX4_simulate 25 = .ok (.ireturn, 1) := by decide +kernel
theorem dX4_simulate_26 : decode cX4_simulate 26 = .ok (.aload_n 0, 1) := by decide +kernel
theorem dX4_simulate_27 : decode cX4_simulate 27 = .ok (.invokevirtual 230, 3) := by decide +kernel
theorem dX4_simulate_30 : decode cX4_simulate 30 = .ok (.lload_n 1, 1) := by decide +kernel
theorem dX4_simulate_31 : decode cX4_simulate 31 = .ok (.lstore 4, 2) := by decide +kernel
theorem dX4_simulate_33 : decode cX4_simulate 33 = .ok (.iconst 0, 1) := by decide +kernel
theorem dX4_simulate_34 : decode cX4_simulate 34 = .ok (.istore 6, 2) := by decide +kernel
theorem dX4_simulate_36 : decode cX4_simulate 36 = .ok (.iload 6, 2) := by decide +kernel
theorem dX4_simulate_38 : decode cX4_simulate 38 = .ok (.iload_n 3, 1) := by decide +kernel
theorem dX4_simulate_39 : decode cX4_simulate 39 = .ok (.if_icmp .ge 38, 3) := by decide +kernel
theorem dX4_simulate_42 : decode cX4_simulate 42 = .ok (.lload 4, 2) := by decide +kernel
theorem dX4_simulate_44 : decode cX4_simulate 44 = .ok (.ldc2_w 267, 3) := by decide +kernel
theorem dX4_simulate_47 : decode cX4_simulate 47 = .ok (.lmul, 1) := by decide +kernel
theorem dX4_simulate_48 : decode cX4_simulate 48 = .ok (.ldc2_w 269, 3) := by decide +kernel
theorem dX4_simulate_51 : decode cX4_simulate 51 = .ok (.ladd, 1) := by decide +kernel
theorem dX4_simulate_52 : decode cX4_simulate 52 = .ok (.lstore 4, 2) := by decide +kernel
theorem dX4_simulate_54 : decode cX4_simulate 54 = .ok (.aload_n 0, 1) := by decide +kernel
theorem dX4_simulate_55 : decode cX4_simulate 55 = .ok (.lload 4, 2) := by decide +kernel
theorem dX4_simulate_57 : decode cX4_simulate 57 = .ok (.bipush 33, 2) := by decide +kernel
theorem dX4_simulate_59 : decode cX4_simulate 59 = .ok (.lushr, 1) := by decide +kernel
theorem dX4_simulate_60 : decode cX4_simulate 60 = .ok (.l2i, 1) := by decide +kernel
theorem dX4_simulate_61 : decode cX4_simulate 61 = .ok (.invokevirtual 271, 3) := by decide +kernel
theorem dX4_simulate_64 : decode cX4_simulate 64 = .ok (.aload_n 0, 1) := by decide +kernel
theorem dX4_simulate_65 : decode cX4_simulate 65 = .ok (.getfield 19, 3) := by decide +kernel
theorem dX4_simulate_68 : decode cX4_simulate 68 = .ok (.invokestatic 102, 3) := by decide +kernel
theorem dX4_simulate_71 : decode cX4_simulate 71 = .ok (.iinc 6 1, 3) := by decide +kernel
theorem dX4_simulate_74 : decode cX4_simulate 74 = .ok (.goto (-38), 3) := by decide +kernel
theorem dX4_simulate_77 : decode cX4_simulate 77 = .ok (.sipush 10000, 3) := by decide +kernel
theorem dX4_simulate_80 : decode cX4_simulate 80 = .ok (.aload_n 0, 1) := by decide +kernel
theorem dX4_simulate_81 : decode cX4_simulate 81 = .ok (.getfield 19, 3) := by decide +kernel
theorem dX4_simulate_84 : decode cX4_simulate 84 = .ok (.sipush 199, 3) := by decide +kernel
theorem dX4_simulate_87 : decode cX4_simulate 87 = .ok (.iaload, 1) := by decide +kernel
theorem dX4_simulate_88 : decode cX4_simulate 88 = .ok (.aload_n 0, 1) := by decide +kernel
theorem dX4_simulate_89 : decode cX4_simulate 89 = .ok (.getfield 16, 3) := by decide +kernel
theorem dX4_simulate_92 : decode cX4_simulate 92 = .ok (.sipush 199, 3) := by decide +kernel
theorem dX4_simulate_95 : decode cX4_simulate 95 = .ok (.iaload, 1) := by decide +kernel
theorem dX4_simulate_96 : decode cX4_simulate 96 = .ok (.isub, 1) := by decide +kernel
theorem dX4_simulate_97 : decode cX4_simulate 97 = .ok (.imul, 1) := by decide +kernel
theorem dX4_simulate_98 : decode cX4_simulate 98 = .ok (.bipush 100, 2) := by decide +kernel
theorem dX4_simulate_100 : decode cX4_simulate 100 = .ok (.aload_n 0, 1) := by decide +kernel
theorem dX4_simulate_101 : decode cX4_simulate 101 = .ok (.getfield 19, 3) := by decide +kernel
theorem dX4_simulate_104 : decode cX4_simulate 104 = .ok (.sipush 200, 3) := by decide +kernel
theorem dX4_simulate_107 : decode cX4_simulate 107 = .ok (.iaload, 1) := by decide +kernel
theorem dX4_simulate_108 : decode cX4_simulate 108 = .ok (.aload_n 0, 1) := by decide +kernel
theorem dX4_simulate_109 : decode cX4_simulate 109 = .ok (.getfield 16, 3) := by decide +kernel
theorem dX4_simulate_112 : decode cX4_simulate 112 = .ok (.sipush 200, 3) := by decide +kernel
theorem dX4_simulate_115 : decode cX4_simulate 115 = .ok (.iaload, 1) := by decide +kernel
theorem dX4_simulate_116 : decode cX4_simulate 116 = .ok (.isub, 1) := by decide +kernel
theorem dX4_simulate_117 : decode cX4_simulate 117 = .ok (.imul, 1) := by decide +kernel
theorem dX4_simulate_118 : decode cX4_simulate 118 = .ok (.iadd, 1) := by decide +kernel
theorem dX4_simulate_119 : decode cX4_simulate 119 = .ok (.aload_n 0, 1) := by decide +kernel
theorem dX4_simulate_120 : decode cX4_simulate 120 = .ok (.getfield 19, 3) := by decide +kernel
theorem dX4_simulate_123 : decode cX4_simulate 123 = .ok (.sipush 201, 3) := by decide +kernel
theorem dX4_simulate_126 : decode cX4_simulate 126 = .ok (.iaload, 1) := by decide +kernel
theorem dX4_simulate_127 : decode cX4_simulate 127 = .ok (.iadd, 1) := by decide +kernel
theorem dX4_simulate_128 : decode cX4_simulate 128 = .ok (.aload_n 0, 1) := by decide +kernel
theorem dX4_simulate_129 : decode cX4_simulate 129 = .ok (.getfield 16, 3) := by decide +kernel
theorem dX4_simulate_132 : decode cX4_simulate 132 = .ok (.sipush 201, 3) := by decide +kernel
theorem dX4_simulate_135 : decode cX4_simulate 135 = .ok (.iaload, 1) := by decide +kernel
theorem dX4_simulate_136 : decode cX4_simulate 136 = .ok (.isub, 1) := by decide +kernel
theorem dX4_simulate_137 : decode cX4_simulate 137 = .ok (.ireturn, 1) := by decide +kernel
set_option maxRecDepth 20000 in
theorem ggX4_save_X4_in : GoodIn wsX4_save wsX4_in := goodIn_r _ [7] (by decide +kernel) (by decide +kernel)
set_option maxRecDepth 20000 in
theorem gX4_save_X4_in : GoodIn wsX4_save (va_wsS RX4 69 yX4_in wsX4_in) := goodIn_app (goodIn_of _ (by decide +kernel)) ggX4_save_X4_in
set_option maxRecDepth 20000 in
theorem ggX4_save_X4_refused : GoodIn wsX4_save wsX4_refused := goodIn_r _ [11, 12, 16, 17, 18, 19, 20, 21, 22, 23, 24, 25, 26, 27, 28] (by decide +kernel) (by decide +kernel)
set_option maxRecDepth 20000 in
theorem gX4_save_X4_refused : GoodIn wsX4_save (wsV RX4 113 RX4 yX4_refused wsX4_refused) := goodIn_app (goodIn_of _ (by decide +kernel)) ggX4_save_X4_refused
set_option maxRecDepth 20000 in
theorem ggX4_save_X4_copy : GoodIn wsX4_save wsX4_copy := goodIn_r _ [15] (by decide +kernel) (by decide +kernel)
set_option maxRecDepth 20000 in
theorem gX4_save_X4_copy : GoodIn wsX4_save (va_wsS RX4 49 yX4_copy wsX4_copy) := goodIn_app (goodIn_of _ (by decide +kernel)) ggX4_save_X4_copy
theorem dX4_save_0 : decode cX4_save 0 = .ok (.aload_n 0, 1) := by decide +kernel
theorem dX4_save_1 : decode cX4_save 1 = .ok (.iload_n 1, 1) := by decide +kernel
theorem dX4_save_2 : decode cX4_save 2 = .ok (.i2l, 1) := by decide +kernel
theorem dX4_save_3 : decode cX4_save 3 = .ok (.lconst 0, 1) := by decide +kernel
theorem dX4_save_4 : decode cX4_save 4 = .ok (.lconst 1, 1) := by decide +kernel
theorem dX4_save_5 : decode cX4_save 5 = .ok (.invokestatic 69, 3) := by decide +kernel
theorem dX4_save_8 : decode cX4_save 8 = .ok (.ifCond .eq 7, 3) := by decide +kernel
theorem dX4_save_11 : decode cX4_save 11 = .ok (.iconst 0, 1) := by decide +kernel
theorem dX4_save_12 : decode cX4_save 12 = .ok (.goto 4, 3) := by decide +kernel
theorem dX4_save_15 : decode cX4_save 15 = .ok (.iconst 1, 1) := by decide +kernel
theorem dX4_save_16 : decode cX4_save 16 = .ok (.invokevirtual 113, 3) := by decide +kernel
theorem dX4_save_19 : decode cX4_save 19 = .ok (.ifCond .eq 5, 3) := by decide +kernel
theorem dX4_save_22 : decode cX4_save 22 = .ok (.iconst 0, 1) := by decide +kernel
theorem dX4_save_23 : decode cX4_save 23 = .ok (.ireturn, 1) := by decide +kernel
theorem dX4_save_24 : decode cX4_save 24 = .ok (.aload_n 0, 1) := by decide +kernel
theorem dX4_save_25 : decode cX4_save 25 = .ok (.getfield 16, 3) := by decide +kernel
theorem dX4_save_28 : decode cX4_save 28 = .ok (.iconst 0, 1) := by decide +kernel
theorem dX4_save_29 : decode cX4_save 29 = .ok (.aload_n 0, 1) := by decide +kernel
theorem dX4_save_30 : decode cX4_save 30 = .ok (.getfield 25, 3) := by decide +kernel
theorem dX4_save_33 : decode cX4_save 33 = .ok (.sipush 233, 3) := by decide +kernel
theorem dX4_save_36 : decode cX4_save 36 = .ok (.iload_n 1, 1) := by decide +kernel
theorem dX4_save_37 : decode cX4_save 37 = .ok (.imul, 1) := by decide +kernel
theorem dX4_save_38 : decode cX4_save 38 = .ok (.sipush 233, 3) := by decide +kernel
theorem dX4_save_41 : decode cX4_save 41 = .ok (.invokestatic 49, 3) := by decide +kernel
theorem dX4_save_44 : decode cX4_save 44 = .ok (.aload_n 0, 1) := by decide +kernel
theorem dX4_save_45 : decode cX4_save 45 = .ok (.getfield 28, 3) := by decide +kernel
theorem dX4_save_48 : decode cX4_save 48 = .ok (.iload_n 1, 1) := by decide +kernel
theorem dX4_save_49 : decode cX4_save 49 = .ok (.iconst 1, 1) := by decide +kernel
theorem dX4_save_50 : decode cX4_save 50 = .ok (.bastore, 1) := by decide +kernel
theorem dX4_save_51 : decode cX4_save 51 = .ok (.aload_n 0, 1) := by decide +kernel
theorem dX4_save_52 : decode cX4_save 52 = .ok (.getfield 16, 3) := by decide +kernel
theorem dX4_save_55 : decode cX4_save 55 = .ok (.sipush 198, 3) := by decide +kernel
theorem dX4_save_58 : decode cX4_save 58 = .ok (.iaload, 1) := by decide +kernel
theorem dX4_save_59 : decode cX4_save 59 = .ok (.ireturn, 1) := by decide +kernel
set_option maxRecDepth 20000 in
theorem ggX4_restore_X4_in : GoodIn wsX4_restore wsX4_in := goodIn_r _ [8] (by decide +kernel) (by decide +kernel)
set_option maxRecDepth 20000 in
theorem gX4_restore_X4_in : GoodIn wsX4_restore (va_wsS RX4 69 yX4_in wsX4_in) := goodIn_app (goodIn_of _ (by decide +kernel)) ggX4_restore_X4_in
set_option maxRecDepth 20000 in
theorem ggX4_restore_X4_refused : GoodIn wsX4_restore wsX4_refused := goodIn_r _ [12, 13, 17, 18, 19, 20, 21, 22, 23, 24, 25, 26, 27, 28, 29] (by decide +kernel) (by decide +kernel)
set_option maxRecDepth 20000 in
theorem gX4_restore_X4_refused : GoodIn wsX4_restore (wsV RX4 113 RX4 yX4_refused wsX4_refused) := goodIn_app (goodIn_of _ (by decide +kernel)) ggX4_restore_X4_refused
set_option maxRecDepth 20000 in
theorem ggX4_restore_X4_copy : GoodIn wsX4_restore wsX4_copy := goodIn_r _ [16] (by decide +kernel) (by decide +kernel)
set_option maxRecDepth 20000 in
theorem gX4_restore_X4_copy : GoodIn wsX4_restore (va_wsS RX4 49 yX4_copy wsX4_copy) := goodIn_app (goodIn_of _ (by decide +kernel)) ggX4_restore_X4_copy
theorem dX4_restore_0 : decode cX4_restore 0 = .ok (.aload_n 0, 1) := by decide +kernel
theorem dX4_restore_1 : decode cX4_restore 1 = .ok (.iload_n 1, 1) := by decide +kernel
theorem dX4_restore_2 : decode cX4_restore 2 = .ok (.i2l, 1) := by decide +kernel
theorem dX4_restore_3 : decode cX4_restore 3 = .ok (.lconst 0, 1) := by decide +kernel
theorem dX4_restore_4 : decode cX4_restore 4 = .ok (.lconst 1, 1) := by decide +kernel
theorem dX4_restore_5 : decode cX4_restore 5 = .ok (.invokestatic 69, 3) := by decide +kernel
theorem dX4_restore_8 : decode cX4_restore 8 = .ok (.ifCond .ne 7, 3) := by decide +kernel
theorem dX4_restore_11 : decode cX4_restore 11 = .ok (.iconst 1, 1) := by decide +kernel
theorem dX4_restore_12 : decode cX4_restore 12 = .ok (.goto 17, 3) := by decide +kernel
theorem dX4_restore_15 : decode cX4_restore 15 = .ok (.aload_n 0, 1) := by decide +kernel
theorem dX4_restore_16 : decode cX4_restore 16 = .ok (.getfield 28, 3) := by decide +kernel
theorem dX4_restore_19 : decode cX4_restore 19 = .ok (.iload_n 1, 1) := by decide +kernel
theorem dX4_restore_20 : decode cX4_restore 20 = .ok (.baload, 1) := by decide +kernel
theorem dX4_restore_21 : decode cX4_restore 21 = .ok (.ifCond .eq 7, 3) := by decide +kernel
theorem dX4_restore_24 : decode cX4_restore 24 = .ok (.iconst 0, 1) := by decide +kernel
theorem dX4_restore_25 : decode cX4_restore 25 = .ok (.goto 4, 3) := by decide +kernel
theorem dX4_restore_28 : decode cX4_restore 28 = .ok (.iconst 2, 1) := by decide +kernel
theorem dX4_restore_29 : decode cX4_restore 29 = .ok (.invokevirtual 113, 3) := by decide +kernel
theorem dX4_restore_32 : decode cX4_restore 32 = .ok (.ifCond .eq 5, 3) := by decide +kernel
theorem dX4_restore_35 : decode cX4_restore 35 = .ok (.iconst 0, 1) := by decide +kernel
theorem dX4_restore_36 : decode cX4_restore 36 = .ok (.ireturn, 1) := by decide +kernel
theorem dX4_restore_37 : decode cX4_restore 37 = .ok (.aload_n 0, 1) := by decide +kernel
theorem dX4_restore_38 : decode cX4_restore 38 = .ok (.getfield 25, 3) := by decide +kernel
theorem dX4_restore_41 : decode cX4_restore 41 = .ok (.sipush 233, 3) := by decide +kernel
theorem dX4_restore_44 : decode cX4_restore 44 = .ok (.iload_n 1, 1) := by decide +kernel
theorem dX4_restore_45 : decode cX4_restore 45 = .ok (.imul, 1) := by decide +kernel
theorem dX4_restore_46 : decode cX4_restore 46 = .ok (.aload_n 0, 1) := by decide +kernel
theorem dX4_restore_47 : decode cX4_restore 47 = .ok (.getfield 16, 3) := by decide +kernel
theorem dX4_restore_50 : decode cX4_restore 50 = .ok (.iconst 0, 1) := by decide +kernel
theorem dX4_restore_51 : decode cX4_restore 51 = .ok (.sipush 233, 3) := by decide +kernel
theorem dX4_restore_54 : decode cX4_restore 54 = .ok (.invokestatic 49, 3) := by decide +kernel
theorem dX4_restore_57 : decode cX4_restore 57 = .ok (.aload_n 0, 1) := by decide +kernel
theorem dX4_restore_58 : decode cX4_restore 58 = .ok (.iconst 0, 1) := by decide +kernel
theorem dX4_restore_59 : decode cX4_restore 59 = .ok (.putfield 46, 3) := by decide +kernel
theorem dX4_restore_62 : decode cX4_restore 62 = .ok (.aload_n 0, 1) := by decide +kernel
theorem dX4_restore_63 : decode cX4_restore 63 = .ok (.getfield 16, 3) := by decide +kernel
theorem dX4_restore_66 : decode cX4_restore 66 = .ok (.sipush 198, 3) := by decide +kernel
theorem dX4_restore_69 : decode cX4_restore 69 = .ok (.iaload, 1) := by decide +kernel
theorem dX4_restore_70 : decode cX4_restore 70 = .ok (.ireturn, 1) := by decide +kernel
