set_option maxRecDepth 20000 in
theorem ggX4_init_X4_clean : GoodIn wsX4_init wsX4_clean := goodIn_r _ [16, 17, 18, 15, 19] rfl rfl
set_option maxRecDepth 20000 in
theorem gX4_init_X4_clean : GoodIn wsX4_init (va_wsS RX4 32 yX4_clean wsX4_clean) := goodIn_app (goodIn_of _ (by decide +kernel)) ggX4_init_X4_clean
theorem dX4_init_0 : decode cX4_init 0 = .ok (.aload_n 0, 1) := by decide +kernel
theorem dX4_init_1 : decode cX4_init 1 = .ok (.invokespecial 1, 3) := by decide +kernel
theorem dX4_init_4 : decode cX4_init 4 = .ok (.aload_n 0, 1) := by decide +kernel
theorem dX4_init_5 : decode cX4_init 5 = .ok (.bipush 120, 2) := by decide +kernel
theorem dX4_init_7 : decode cX4_init 7 = .ok (.newarray .int, 2) := by decide +kernel
theorem dX4_init_9 : decode cX4_init 9 = .ok (.putfield 7, 3) := by decide +kernel
theorem dX4_init_12 : decode cX4_init 12 = .ok (.aload_n 0, 1) := by decide +kernel
theorem dX4_init_13 : decode cX4_init 13 = .ok (.sipush 233, 3) := by decide +kernel
theorem dX4_init_16 : decode cX4_init 16 = .ok (.newarray .int, 2) := by decide +kernel
theorem dX4_init_18 : decode cX4_init 18 = .ok (.putfield 13, 3) := by decide +kernel
theorem dX4_init_21 : decode cX4_init 21 = .ok (.aload_n 0, 1) := by decide +kernel
theorem dX4_init_22 : decode cX4_init 22 = .ok (.sipush 233, 3) := by decide +kernel
theorem dX4_init_25 : decode cX4_init 25 = .ok (.newarray .int, 2) := by decide +kernel
theorem dX4_init_27 : decode cX4_init 27 = .ok (.putfield 16, 3) := by decide +kernel
theorem dX4_init_30 : decode cX4_init 30 = .ok (.aload_n 0, 1) := by decide +kernel
theorem dX4_init_31 : decode cX4_init 31 = .ok (.sipush 233, 3) := by decide +kernel
theorem dX4_init_34 : decode cX4_init 34 = .ok (.newarray .int, 2) := by decide +kernel
theorem dX4_init_36 : decode cX4_init 36 = .ok (.putfield 19, 3) := by decide +kernel
theorem dX4_init_39 : decode cX4_init 39 = .ok (.aload_n 0, 1) := by decide +kernel
theorem dX4_init_40 : decode cX4_init 40 = .ok (.sipush 3262, 3) := by decide +kernel
theorem dX4_init_43 : decode cX4_init 43 = .ok (.newarray .int, 2) := by decide +kernel
theorem dX4_init_45 : decode cX4_init 45 = .ok (.putfield 22, 3) := by decide +kernel
theorem dX4_init_48 : decode cX4_init 48 = .ok (.aload_n 0, 1) := by decide +kernel
theorem dX4_init_49 : decode cX4_init 49 = .ok (.sipush 466, 3) := by decide +kernel
theorem dX4_init_52 : decode cX4_init 52 = .ok (.newarray .int, 2) := by decide +kernel
theorem dX4_init_54 : decode cX4_init 54 = .ok (.putfield 25, 3) := by decide +kernel
theorem dX4_init_57 : decode cX4_init 57 = .ok (.aload_n 0, 1) := by decide +kernel
theorem dX4_init_58 : decode cX4_init 58 = .ok (.iconst 2, 1) := by decide +kernel
theorem dX4_init_59 : decode cX4_init 59 = .ok (.newarray .boolean, 2) := by decide +kernel
theorem dX4_init_61 : decode cX4_init 61 = .ok (.putfield 28, 3) := by decide +kernel
theorem dX4_init_64 : decode cX4_init 64 = .ok (.aload_n 0, 1) := by decide +kernel
theorem dX4_init_65 : decode cX4_init 65 = .ok (.getfield 16, 3) := by decide +kernel
theorem dX4_init_68 : decode cX4_init 68 = .ok (.invokestatic 32, 3) := by decide +kernel
theorem dX4_init_71 : decode cX4_init 71 = .ok (.return_, 1) := by decide +kernel
theorem dX4_thrown_0 : decode cX4_thrown 0 = .ok (.aload_n 0, 1) := by decide +kernel
theorem dX4_thrown_1 : decode cX4_thrown 1 = .ok (.getfield 36, 3) := by decide +kernel
theorem dX4_thrown_4 : decode cX4_thrown 4 = .ok (.ireturn, 1) := by decide +kernel
theorem dX4_refused_0 : decode cX4_refused 0 = .ok (.aload_n 0, 1) := by decide +kernel
theorem dX4_refused_1 : decode cX4_refused 1 = .ok (.iload_n 1, 1) := by decide +kernel
theorem dX4_refused_2 : decode cX4_refused 2 = .ok (.putfield 36, 3) := by decide +kernel
theorem dX4_refused_5 : decode cX4_refused 5 = .ok (.iload_n 1, 1) := by decide +kernel
theorem dX4_refused_6 : decode cX4_refused 6 = .ok (.ifCond .le 7, 3) := by decide +kernel
theorem dX4_refused_9 : decode cX4_refused 9 = .ok (.iconst 1, 1) := by decide +kernel
theorem dX4_refused_10 : decode cX4_refused 10 = .ok (.goto 4, 3) := by decide +kernel
theorem dX4_refused_13 : decode cX4_refused 13 = .ok (.iconst 0, 1) := by decide +kernel
theorem dX4_refused_14 : decode cX4_refused 14 = .ok (.ireturn, 1) := by decide +kernel
theorem dX4_in_0 : decode cX4_in 0 = .ok (.lload_n 0, 1) := by decide +kernel
theorem dX4_in_1 : decode cX4_in 1 = .ok (.lload_n 2, 1) := by decide +kernel
theorem dX4_in_2 : decode cX4_in 2 = .ok (.lcmp, 1) := by decide +kernel
theorem dX4_in_3 : decode cX4_in 3 = .ok (.ifCond .lt 14, 3) := by decide +kernel
theorem dX4_in_6 : decode cX4_in 6 = .ok (.lload_n 0, 1) := by decide +kernel
theorem dX4_in_7 : decode cX4_in 7 = .ok (.lload 4, 2) := by decide +kernel
theorem dX4_in_9 : decode cX4_in 9 = .ok (.lcmp, 1) := by decide +kernel
theorem dX4_in_10 : decode cX4_in 10 = .ok (.ifCond .gt 7, 3) := by decide +kernel
theorem dX4_in_13 : decode cX4_in 13 = .ok (.iconst 1, 1) := by decide +kernel
theorem dX4_in_14 : decode cX4_in 14 = .ok (.goto 4, 3) := by decide +kernel
theorem dX4_in_17 : decode cX4_in 17 = .ok (.iconst 0, 1) := by decide +kernel
theorem dX4_in_18 : decode cX4_in 18 = .ok (.ireturn, 1) := by decide +kernel
theorem dX4_copy_0 : decode cX4_copy 0 = .ok (.iconst 0, 1) := by decide +kernel
theorem dX4_copy_1 : decode cX4_copy 1 = .ok (.istore 5, 2) := by decide +kernel
theorem dX4_copy_3 : decode cX4_copy 3 = .ok (.iload 5, 2) := by decide +kernel
theorem dX4_copy_5 : decode cX4_copy 5 = .ok (.iload 4, 2) := by decide +kernel
theorem dX4_copy_7 : decode cX4_copy 7 = .ok (.if_icmp .ge 21, 3) := by decide +kernel
theorem dX4_copy_10 : decode cX4_copy 10 = .ok (.aload_n 2, 1) := by decide +kernel
theorem dX4_copy_11 : decode cX4_copy 11 = .ok (.iload_n 3, 1) := by decide +kernel
theorem dX4_copy_12 : decode cX4_copy 12 = .ok (.iload 5, 2) := by decide +kernel
theorem dX4_copy_14 : decode cX4_copy 14 = .ok (.iadd, 1) := by decide +kernel
theorem dX4_copy_15 : decode cX4_copy 15 = .ok (.aload_n 0, 1) := by decide +kernel
theorem dX4_copy_16 : decode cX4_copy 16 = .ok (.iload_n 1, 1) := by decide +kernel
theorem dX4_copy_17 : decode cX4_copy 17 = .ok (.iload 5, 2) := by decide +kernel
theorem dX4_copy_19 : decode cX4_copy 19 = .ok (.iadd, 1) := by decide +kernel
theorem dX4_copy_20 : decode cX4_copy 20 = .ok (.iaload, 1) := by decide +kernel
theorem dX4_copy_21 : decode cX4_copy 21 = .ok (.iastore, 1) := by decide +kernel
theorem dX4_copy_22 : decode cX4_copy 22 = .ok (.iinc 5 1, 3) := by decide +kernel
theorem dX4_copy_25 : decode cX4_copy 25 = .ok (.goto (-22), 3) := by decide +kernel
theorem dX4_copy_28 : decode cX4_copy 28 = .ok (.return_, 1) := by decide +kernel
theorem dX4_tenTo_0 : decode cX4_tenTo 0 = .ok (.lconst 1, 1) := by decide +kernel
theorem dX4_tenTo_1 : decode cX4_tenTo 1 = .ok (.lstore_n 1, 1) := by decide +kernel
theorem dX4_tenTo_2 : decode cX4_tenTo 2 = .ok (.iconst 0, 1) := by decide +kernel
theorem dX4_tenTo_3 : decode cX4_tenTo 3 = .ok (.istore_n 3, 1) := by decide +kernel
theorem dX4_tenTo_4 : decode cX4_tenTo 4 = .ok (.iload_n 3, 1) := by decide +kernel
theorem dX4_tenTo_5 : decode cX4_tenTo 5 = .ok (.iload_n 0, 1) := by decide +kernel
theorem dX4_tenTo_6 : decode cX4_tenTo 6 = .ok (.if_icmp .ge 15, 3) := by decide +kernel
theorem dX4_tenTo_9 : decode cX4_tenTo 9 = .ok (.lload_n 1, 1) := by decide +kernel
theorem dX4_tenTo_10 : decode cX4_tenTo 10 = .ok (.ldc2_w 40, 3) := by decide +kernel
theorem dX4_tenTo_13 : decode cX4_tenTo 13 = .ok (.lmul, 1) := by decide +kernel
theorem dX4_tenTo_14 : decode cX4_tenTo 14 = .ok (.lstore_n 1, 1) := by decide +kernel
theorem dX4_tenTo_15 : decode cX4_tenTo 15 = .ok (.iinc 3 1, 3) := by decide +kernel
theorem dX4_tenTo_18 : decode cX4_tenTo 18 = .ok (.goto (-14), 3) := by decide +kernel
theorem dX4_tenTo_21 : decode cX4_tenTo 21 = .ok (.lload_n 1, 1) := by decide +kernel
theorem dX4_tenTo_22 : decode cX4_tenTo 22 = .ok (.lreturn, 1) := by decide +kernel
set_option maxRecDepth 20000 in
theorem ggX4_clean_X4_gateAt : GoodIn wsX4_clean wsX4_gateAt := goodIn_r _ [4] rfl rfl
set_option maxRecDepth 20000 in
theorem gX4_clean_X4_gateAt : GoodIn wsX4_clean (va_wsS RX4 42 yX4_gateAt wsX4_gateAt) := goodIn_app (goodIn_of _ (by decide +kernel)) ggX4_clean_X4_gateAt
theorem dX4_clean_0 : decode cX4_clean 0 = .ok (.iconst 0, 1) := by decide +kernel
theorem dX4_clean_1 : decode cX4_clean 1 = .ok (.istore_n 1, 1) := by decide +kernel
theorem dX4_clean_2 : decode cX4_clean 2 = .ok (.iload_n 1, 1) := by decide +kernel
theorem dX4_clean_3 : decode cX4_clean 3 = .ok (.sipush 233, 3) := by decide +kernel
theorem dX4_clean_6 : decode cX4_clean 6 = .ok (.if_icmp .ge 13, 3) := by decide +kernel
theorem dX4_clean_9 : decode cX4_clean 9 = .ok (.aload_n 0, 1) := by decide +kernel
theorem dX4_clean_10 : decode cX4_clean 10 = .ok (.iload_n 1, 1) := by decide +kernel
theorem dX4_clean_11 : decode cX4_clean 11 = .ok (.iconst 0, 1) := by decide +kernel
theorem dX4_clean_12 : decode cX4_clean 12 = .ok (.iastore, 1) := by decide +kernel
theorem dX4_clean_13 : decode cX4_clean 13 = .ok (.iinc 1 1, 3) := by decide +kernel
theorem dX4_clean_16 : decode cX4_clean 16 = .ok (.goto (-14), 3) := by decide +kernel
theorem dX4_clean_19 : decode cX4_clean 19 = .ok (.iconst 0, 1) := by decide +kernel
theorem dX4_clean_20 : decode cX4_clean 20 = .ok (.istore_n 1, 1) := by decide +kernel
theorem dX4_clean_21 : decode cX4_clean 21 = .ok (.iload_n 1, 1) := by decide +kernel
theorem dX4_clean_22 : decode cX4_clean 22 = .ok (.iconst 3, 1) := by decide +kernel
theorem dX4_clean_23 : decode cX4_clean 23 = .ok (.if_icmp .ge 18, 3) := by decide +kernel
theorem dX4_clean_26 : decode cX4_clean 26 = .ok (.aload_n 0, 1) := by decide +kernel
theorem dX4_clean_27 : decode cX4_clean 27 = .ok (.iload_n 1, 1) := by decide +kernel
theorem dX4_clean_28 : decode cX4_clean 28 = .ok (.iconst 0, 1) := by decide +kernel
theorem dX4_clean_29 : decode cX4_clean 29 = .ok (.invokestatic 42, 3) := by decide +kernel
theorem dX4_clean_32 : decode cX4_clean 32 = .ok (.bipush 7, 2) := by decide +kernel
theorem dX4_clean_34 : decode cX4_clean 34 = .ok (.iastore, 1) := by decide +kernel
theorem dX4_clean_35 : decode cX4_clean 35 = .ok (.iinc 1 1, 3) := by decide +kernel
theorem dX4_clean_38 : decode cX4_clean 38 = .ok (.goto (-17), 3) := by decide +kernel
theorem dX4_clean_41 : decode cX4_clean 41 = .ok (.aload_n 0, 1) := by decide +kernel
theorem dX4_clean_42 : decode cX4_clean 42 = .ok (.sipush 196, 3) := by decide +kernel
theorem dX4_clean_45 : decode cX4_clean 45 = .ok (.iconst 2, 1) := by decide +kernel
theorem dX4_clean_46 : decode cX4_clean 46 = .ok (.iastore, 1) := by decide +kernel
theorem dX4_clean_47 : decode cX4_clean 47 = .ok (.aload_n 0, 1) := by decide +kernel
theorem dX4_clean_48 : decode cX4_clean 48 = .ok (.sipush 197, 3) := by decide +kernel
theorem dX4_clean_51 : decode cX4_clean 51 = .ok (.iconst 1, 1) := by decide +kernel
theorem dX4_clean_52 : decode cX4_clean 52 = .ok (.iastore, 1) := by decide +kernel
theorem dX4_clean_53 : decode cX4_clean 53 = .ok (.return_, 1) := by decide +kernel
set_option maxRecDepth 20000 in
theorem ggX4_remember_X4_copy : GoodIn wsX4_remember wsX4_copy := goodIn_r _ [7] rfl rfl
set_option maxRecDepth 20000 in
theorem gX4_remember_X4_copy : GoodIn wsX4_remember (va_wsS RX4 49 yX4_copy wsX4_copy) := goodIn_app (goodIn_of _ (by decide +kernel)) ggX4_remember_X4_copy
theorem dX4_remember_0 : decode cX4_remember 0 = .ok (.aload_n 0, 1) := by decide +kernel
theorem dX4_remember_1 : decode cX4_remember 1 = .ok (.getfield 46, 3) := by decide +kernel
theorem dX4_remember_4 : decode cX4_remember 4 = .ok (.bipush 14, 2) := by decide +kernel
theorem dX4_remember_6 : decode cX4_remember 6 = .ok (.if_icmp .ne 31, 3) := by decide +kernel
theorem dX4_remember_9 : decode cX4_remember 9 = .ok (.aload_n 0, 1) := by decide +kernel
theorem dX4_remember_10 : decode cX4_remember 10 = .ok (.getfield 22, 3) := by decide +kernel
theorem dX4_remember_13 : decode cX4_remember 13 = .ok (.sipush 233, 3) := by decide +kernel
theorem dX4_remember_16 : decode cX4_remember 16 = .ok (.aload_n 0, 1) := by decide +kernel
theorem dX4_remember_17 : decode cX4_remember 17 = .ok (.getfield 22, 3) := by decide +kernel
theorem dX4_remember_20 : decode cX4_remember 20 = .ok (.iconst 0, 1) := by decide +kernel
theorem dX4_remember_21 : decode cX4_remember 21 = .ok (.sipush 3029, 3) := by decide +kernel
theorem dX4_remember_24 : decode cX4_remember 24 = .ok (.invokestatic 49, 3) := by decide +kernel
theorem dX4_remember_27 : decode cX4_remember 27 = .ok (.aload_n 0, 1) := by decide +kernel
theorem dX4_remember_28 : decode cX4_remember 28 = .ok (.dup, 1) := by decide +kernel
theorem dX4_remember_29 : decode cX4_remember 29 = .ok (.getfield 46, 3) := by decide +kernel
theorem dX4_remember_32 : decode cX4_remember 32 = .ok (.iconst 1, 1) := by decide +kernel
theorem dX4_remember_33 : decode cX4_remember 33 = .ok (.isub, 1) := by decide +kernel
theorem dX4_remember_34 : decode cX4_remember 34 = .ok (.putfield 46, 3) := by decide +kernel
theorem dX4_remember_37 : decode cX4_remember 37 = .ok (.aload_n 0, 1) := by decide +kernel
theorem dX4_remember_38 : decode cX4_remember 38 = .ok (.getfield 16, 3) := by decide +kernel
theorem dX4_remember_41 : decode cX4_remember 41 = .ok (.iconst 0, 1) := by decide +kernel
theorem dX4_remember_42 : decode cX4_remember 42 = .ok (.aload_n 0, 1) := by decide +kernel
theorem dX4_remember_43 : decode cX4_remember 43 = .ok (.getfield 22, 3) := by decide +kernel
theorem dX4_remember_46 : decode cX4_remember 46 = .ok (.sipush 233, 3) := by decide +kernel
theorem dX4_remember_49 : decode cX4_remember 49 = .ok (.aload_n 0, 1) := by decide +kernel
theorem dX4_remember_50 : decode cX4_remember 50 = .ok (.getfield 46, 3) := by decide +kernel
theorem dX4_remember_53 : decode cX4_remember 53 = .ok (.imul, 1) := by decide +kernel
theorem dX4_remember_54 : decode cX4_remember 54 = .ok (.sipush 233, 3) := by decide +kernel
theorem dX4_remember_57 : decode cX4_remember 57 = .ok (.invokestatic 49, 3) := by decide +kernel
theorem dX4_remember_60 : decode cX4_remember 60 = .ok (.aload_n 0, 1) := by decide +kernel
theorem dX4_remember_61 : decode cX4_remember 61 = .ok (.dup, 1) := by decide +kernel
theorem dX4_remember_62 : decode cX4_remember 62 = .ok (.getfield 46, 3) := by decide +kernel
theorem dX4_remember_65 : decode cX4_remember 65 = .ok (.iconst 1, 1) := by decide +kernel
theorem dX4_remember_66 : decode cX4_remember 66 = .ok (.iadd, 1) := by decide +kernel
theorem dX4_remember_67 : decode cX4_remember 67 = .ok (.putfield 46, 3) := by decide +kernel
theorem dX4_remember_70 : decode cX4_remember 70 = .ok (.return_, 1) := by decide +kernel
set_option maxRecDepth 20000 in
theorem ggX4_tryIt_X4_copy : GoodIn wsX4_tryIt wsX4_copy := goodIn_r _ [6] rfl rfl
set_option maxRecDepth 20000 in
theorem gX4_tryIt_X4_copy : GoodIn wsX4_tryIt (va_wsS RX4 49 yX4_copy wsX4_copy) := goodIn_app (goodIn_of _ (by decide +kernel)) ggX4_tryIt_X4_copy
theorem dX4_tryIt_0 : decode cX4_tryIt 0 = .ok (.aload_n 0, 1) := by decide +kernel
theorem dX4_tryIt_1 : decode cX4_tryIt 1 = .ok (.getfield 16, 3) := by decide +kernel
theorem dX4_tryIt_4 : decode cX4_tryIt 4 = .ok (.iconst 0, 1) := by decide +kernel
theorem dX4_tryIt_5 : decode cX4_tryIt 5 = .ok (.aload_n 0, 1) := by decide +kernel
theorem dX4_tryIt_6 : decode cX4_tryIt 6 = .ok (.getfield 19, 3) := by decide +kernel
theorem dX4_tryIt_9 : decode cX4_tryIt 9 = .ok (.iconst 0, 1) := by decide +kernel
theorem dX4_tryIt_10 : decode cX4_tryIt 10 = .ok (.sipush 233, 3) := by decide +kernel
theorem dX4_tryIt_13 : decode cX4_tryIt 13 = .ok (.invokestatic 49, 3) := by decide +kernel
theorem dX4_tryIt_16 : decode cX4_tryIt 16 = .ok (.return_, 1) := by decide +kernel
theorem dX4_bookAt_0 : decode cX4_bookAt 0 = .ok (.iconst 5, 1) := by decide +kernel
theorem dX4_bookAt_1 : decode cX4_bookAt 1 = .ok (.iload_n 0, 1) := by decide +kernel
theorem dX4_bookAt_2 : decode cX4_bookAt 2 = .ok (.imul, 1) := by decide +kernel
theorem dX4_bookAt_3 : decode cX4_bookAt 3 = .ok (.iload_n 1, 1) := by decide +kernel
theorem dX4_bookAt_4 : decode cX4_bookAt 4 = .ok (.iadd, 1) := by decide +kernel
theorem dX4_bookAt_5 : decode cX4_bookAt 5 = .ok (.ireturn, 1) := by decide +kernel
theorem dX4_visitorAt_0 : decode cX4_visitorAt 0 = .ok (.bipush 100, 2) := by decide +kernel
theorem dX4_visitorAt_2 : decode cX4_visitorAt 2 = .ok (.iconst 4, 1) := by decide +kernel
theorem dX4_visitorAt_3 : decode cX4_visitorAt 3 = .ok (.iload_n 0, 1) := by decide +kernel
theorem dX4_visitorAt_4 : decode cX4_visitorAt 4 = .ok (.imul, 1) := by decide +kernel
theorem dX4_visitorAt_5 : decode cX4_visitorAt 5 = .ok (.iadd, 1) := by decide +kernel
theorem dX4_visitorAt_6 : decode cX4_visitorAt 6 = .ok (.iload_n 1, 1) := by decide +kernel
theorem dX4_visitorAt_7 : decode cX4_visitorAt 7 = .ok (.iadd, 1) := by decide +kernel
theorem dX4_visitorAt_8 : decode cX4_visitorAt 8 = .ok (.ireturn, 1) := by decide +kernel
theorem dX4_gateAt_0 : decode cX4_gateAt 0 = .ok (.bipush 124, 2) := by decide +kernel
theorem dX4_gateAt_2 : decode cX4_gateAt 2 = .ok (.iconst 4, 1) := by decide +kernel
theorem dX4_gateAt_3 : decode cX4_gateAt 3 = .ok (.iload_n 0, 1) := by decide +kernel
theorem dX4_gateAt_4 : decode cX4_gateAt 4 = .ok (.imul, 1) := by decide +kernel
theorem dX4_gateAt_5 : decode cX4_gateAt 5 = .ok (.iadd, 1) := by decide +kernel
theorem dX4_gateAt_6 : decode cX4_gateAt 6 = .ok (.iload_n 1, 1) := by decide +kernel
theorem dX4_gateAt_7 : decode cX4_gateAt 7 = .ok (.iadd, 1) := by decide +kernel
theorem dX4_gateAt_8 : decode cX4_gateAt 8 = .ok (.ireturn, 1) := by decide +kernel
set_option maxRecDepth 20000 in
theorem ggX4_bag_X4_bookAt : GoodIn wsX4_bag wsX4_bookAt := goodIn_r _ [4] rfl rfl
set_option maxRecDepth 20000 in
theorem gX4_bag_X4_bookAt : GoodIn wsX4_bag (va_wsS RX4 53 yX4_bookAt wsX4_bookAt) := goodIn_app (goodIn_of _ (by decide +kernel)) ggX4_bag_X4_bookAt
theorem dX4_bag_0 : decode cX4_bag 0 = .ok (.iconst 0, 1) := by decide +kernel
theorem dX4_bag_1 : decode cX4_bag 1 = .ok (.istore_n 2, 1) := by decide +kernel
theorem dX4_bag_2 : decode cX4_bag 2 = .ok (.iconst 0, 1) := by decide +kernel
theorem dX4_bag_3 : decode cX4_bag 3 = .ok (.istore_n 3, 1) := by decide +kernel
theorem dX4_bag_4 : decode cX4_bag 4 = .ok (.iload_n 3, 1) := by decide +kernel
theorem dX4_bag_5 : decode cX4_bag 5 = .ok (.bipush 20, 2) := by decide +kernel
theorem dX4_bag_7 : decode cX4_bag 7 = .ok (.if_icmp .ge 30, 3) := by decide +kernel
theorem dX4_bag_10 : decode cX4_bag 10 = .ok (.iload_n 2, 1) := by decide +kernel
theorem dX4_bag_11 : decode cX4_bag 11 = .ok (.aload_n 0, 1) := by decide +kernel
theorem dX4_bag_12 : decode cX4_bag 12 = .ok (.iload_n 3, 1) := by decide +kernel
theorem dX4_bag_13 : decode cX4_bag 13 = .ok (.iconst 0, 1) := by decide +kernel
theorem dX4_bag_14 : decode cX4_bag 14 = .ok (.invokestatic 53, 3) := by decide +kernel
theorem dX4_bag_17 : decode cX4_bag 17 = .ok (.iaload, 1) := by decide +kernel
theorem dX4_bag_18 : decode cX4_bag 18 = .ok (.iload_n 1, 1) := by decide +kernel
theorem dX4_bag_19 : decode cX4_bag 19 = .ok (.iconst 1, 1) := by decide +kernel
theorem dX4_bag_20 : decode cX4_bag 20 = .ok (.iadd, 1) := by decide +kernel
theorem dX4_bag_21 : decode cX4_bag 21 = .ok (.if_icmp .ne 7, 3) := by decide +kernel
theorem dX4_bag_24 : decode cX4_bag 24 = .ok (.iconst 1, 1) := by decide +kernel
theorem dX4_bag_25 : decode cX4_bag 25 = .ok (.goto 4, 3) := by decide +kernel
theorem dX4_bag_28 : decode cX4_bag 28 = .ok (.iconst 0, 1) := by decide +kernel
theorem dX4_bag_29 : decode cX4_bag 29 = .ok (.iadd, 1) := by decide +kernel
theorem dX4_bag_30 : decode cX4_bag 30 = .ok (.istore_n 2, 1) := by decide +kernel
theorem dX4_bag_31 : decode cX4_bag 31 = .ok (.iinc 3 1, 3) := by decide +kernel
theorem dX4_bag_34 : decode cX4_bag 34 = .ok (.goto (-30), 3) := by decide +kernel
theorem dX4_bag_37 : decode cX4_bag 37 = .ok (.iload_n 2, 1) := by decide +kernel
theorem dX4_bag_38 : decode cX4_bag 38 = .ok (.ireturn, 1) := by decide +kernel
set_option maxRecDepth 20000 in
theorem ggX4_isInside_X4_visitorAt : GoodIn wsX4_isInside wsX4_visitorAt := goodIn_r _ [4] rfl rfl
set_option maxRecDepth 20000 in
theorem gX4_isInside_X4_visitorAt : GoodIn wsX4_isInside (va_wsS RX4 56 yX4_visitorAt wsX4_visitorAt) := goodIn_app (goodIn_of _ (by decide +kernel)) ggX4_isInside_X4_visitorAt
theorem dX4_isInside_0 : decode cX4_isInside 0 = .ok (.aload_n 0, 1) := by decide +kernel
theorem dX4_isInside_1 : decode cX4_isInside 1 = .ok (.iload_n 1, 1) := by decide +kernel
theorem dX4_isInside_2 : decode cX4_isInside 2 = .ok (.iconst 0, 1) := by decide +kernel
theorem dX4_isInside_3 : decode cX4_isInside 3 = .ok (.invokestatic 56, 3) := by decide +kernel
theorem dX4_isInside_6 : decode cX4_isInside 6 = .ok (.iaload, 1) := by decide +kernel
theorem dX4_isInside_7 : decode cX4_isInside 7 = .ok (.ifCond .ne 7, 3) := by decide +kernel
theorem dX4_isInside_10 : decode cX4_isInside 10 = .ok (.iconst 1, 1) := by decide +kernel
theorem dX4_isInside_11 : decode cX4_isInside 11 = .ok (.goto 4, 3) := by decide +kernel
theorem dX4_isInside_14 : decode cX4_isInside 14 = .ok (.iconst 0, 1) := by decide +kernel
theorem dX4_isInside_15 : decode cX4_isInside 15 = .ok (.ireturn, 1) := by decide +kernel
set_option maxRecDepth 20000 in
theorem ggX4_isBookInside_X4_bookAt : GoodIn wsX4_isBookInside wsX4_bookAt := goodIn_r _ [4] rfl rfl
set_option maxRecDepth 20000 in
theorem gX4_isBookInside_X4_bookAt : GoodIn wsX4_isBookInside (va_wsS RX4 53 yX4_bookAt wsX4_bookAt) := goodIn_app (goodIn_of _ (by decide +kernel)) ggX4_isBookInside_X4_bookAt
set_option maxRecDepth 20000 in
theorem ggX4_isBookInside_X4_isInside : GoodIn wsX4_isBookInside wsX4_isInside := goodIn_r _ [7, 8, 9, 3, 10] rfl rfl
set_option maxRecDepth 20000 in
theorem gX4_isBookInside_X4_isInside : GoodIn wsX4_isBookInside (va_wsS RX4 59 yX4_isInside wsX4_isInside) := goodIn_app (goodIn_of _ (by decide +kernel)) ggX4_isBookInside_X4_isInside
theorem dX4_isBookInside_0 : decode cX4_isBookInside 0 = .ok (.aload_n 0, 1) := by decide +kernel
theorem dX4_isBookInside_1 : decode cX4_isBookInside 1 = .ok (.iload_n 1, 1) := by decide +kernel
theorem dX4_isBookInside_2 : decode cX4_isBookInside 2 = .ok (.iconst 0, 1) := by decide +kernel
theorem dX4_isBookInside_3 : decode cX4_isBookInside 3 = .ok (.invokestatic 53, 3) := by decide +kernel
theorem dX4_isBookInside_6 : decode cX4_isBookInside 6 = .ok (.iaload, 1) := by decide +kernel
theorem dX4_isBookInside_7 : decode cX4_isBookInside 7 = .ok (.iconst 1, 1) := by decide +kernel
theorem dX4_isBookInside_8 : decode cX4_isBookInside 8 = .ok (.isub, 1) := by decide +kernel
theorem dX4_isBookInside_9 : decode cX4_isBookInside 9 = .ok (.istore_n 2, 1) := by decide +kernel
theorem dX4_isBookInside_10 : decode cX4_isBookInside 10 = .ok (.iload_n 2, 1) := by decide +kernel
theorem dX4_isBookInside_11 : decode cX4_isBookInside 11 = .ok (.ifCond .lt 11, 3) := by decide +kernel
theorem dX4_isBookInside_14 : decode cX4_isBookInside 14 = .ok (.aload_n 0, 1) := by decide +kernel
theorem dX4_isBookInside_15 : decode cX4_isBookInside 15 = .ok (.iload_n 2, 1) := by decide +kernel
theorem dX4_isBookInside_16 : decode cX4_isBookInside 16 = .ok (.invokestatic 59, 3) := by decide +kernel
theorem dX4_isBookInside_19 : decode cX4_isBookInside 19 = .ok (.ifCond .eq 7, 3) := by decide +kernel
theorem dX4_isBookInside_22 : decode cX4_isBookInside 22 = .ok (.iconst 1, 1) := by decide +kernel
theorem dX4_isBookInside_23 : decode cX4_isBookInside 23 = .ok (.goto 4, 3) := by decide +kernel
theorem dX4_isBookInside_26 : decode cX4_isBookInside 26 = .ok (.iconst 0, 1) := by decide +kernel
theorem dX4_isBookInside_27 : decode cX4_isBookInside 27 = .ok (.ireturn, 1) := by decide +kernel
set_option maxRecDepth 20000 in
theorem ggX4_reads_X4_visitorAt : GoodIn wsX4_reads wsX4_visitorAt := goodIn_r _ [5] rfl rfl
set_option maxRecDepth 20000 in
theorem gX4_reads_X4_visitorAt : GoodIn wsX4_reads (va_wsS RX4 56 yX4_visitorAt wsX4_visitorAt) := goodIn_app (goodIn_of _ (by decide +kernel)) ggX4_reads_X4_visitorAt
set_option maxRecDepth 20000 in
theorem ggX4_reads_X4_bag : GoodIn wsX4_reads wsX4_bag := goodIn_r _ [8, 9, 10, 4, 11] rfl rfl
set_option maxRecDepth 20000 in
theorem gX4_reads_X4_bag : GoodIn wsX4_reads (va_wsS RX4 63 yX4_bag wsX4_bag) := goodIn_app (goodIn_of _ (by decide +kernel)) ggX4_reads_X4_bag
set_option maxRecDepth 20000 in
theorem ggX4_reads_X4_gateAt : GoodIn wsX4_reads wsX4_gateAt := goodIn_r _ [14] rfl rfl
set_option maxRecDepth 20000 in
theorem gX4_reads_X4_gateAt : GoodIn wsX4_reads (va_wsS RX4 42 yX4_gateAt wsX4_gateAt) := goodIn_app (goodIn_of _ (by decide +kernel)) ggX4_reads_X4_gateAt
set_option maxRecDepth 20000 in
theorem ggX4_reads_X4_in : GoodIn wsX4_reads wsX4_in := goodIn_r _ [17] rfl rfl
set_option maxRecDepth 20000 in
theorem gX4_reads_X4_in : GoodIn wsX4_reads (va_wsS RX4 69 yX4_in wsX4_in) := goodIn_app (goodIn_of _ (by decide +kernel)) ggX4_reads_X4_in
theorem dX4_reads_0 : decode cX4_reads 0 = .ok (.aload_n 0, 1) := by decide +kernel
theorem dX4_reads_1 : decode cX4_reads 1 = .ok (.iload_n 2, 1) := by decide +kernel
theorem dX4_reads_2 : decode cX4_reads 2 = .ok (.iconst 1, 1) := by decide +kernel
theorem dX4_reads_3 : decode cX4_reads 3 = .ok (.invokestatic 56, 3) := by decide +kernel
theorem dX4_reads_6 : decode cX4_reads 6 = .ok (.iaload, 1) := by decide +kernel
theorem dX4_reads_7 : decode cX4_reads 7 = .ok (.iload_n 1, 1) := by decide +kernel
theorem dX4_reads_8 : decode cX4_reads 8 = .ok (.isub, 1) := by decide +kernel
theorem dX4_reads_9 : decode cX4_reads 9 = .ok (.istore_n 3, 1) := by decide +kernel
theorem dX4_reads_10 : decode cX4_reads 10 = .ok (.aload_n 0, 1) := by decide +kernel
theorem dX4_reads_11 : decode cX4_reads 11 = .ok (.iload_n 2, 1) := by decide +kernel
theorem dX4_reads_12 : decode cX4_reads 12 = .ok (.iconst 2, 1) := by decide +kernel
theorem dX4_reads_13 : decode cX4_reads 13 = .ok (.invokestatic 56, 3) := by decide +kernel
theorem dX4_reads_16 : decode cX4_reads 16 = .ok (.iaload, 1) := by decide +kernel
theorem dX4_reads_17 : decode cX4_reads 17 = .ok (.istore 4, 2) := by decide +kernel
theorem dX4_reads_19 : decode cX4_reads 19 = .ok (.iconst 2, 1) := by decide +kernel
theorem dX4_reads_20 : decode cX4_reads 20 = .ok (.iload 4, 2) := by decide +kernel
theorem dX4_reads_22 : decode cX4_reads 22 = .ok (.ifCond .ge 9, 3) := by decide +kernel
theorem dX4_reads_25 : decode cX4_reads 25 = .ok (.iload 4, 2) := by decide +kernel
theorem dX4_reads_27 : decode cX4_reads 27 = .ok (.ineg, 1) := by decide +kernel
theorem dX4_reads_28 : decode cX4_reads 28 = .ok (.goto 5, 3) := by decide +kernel
theorem dX4_reads_31 : decode cX4_reads 31 = .ok (.iload 4, 2) := by decide +kernel
theorem dX4_reads_33 : decode cX4_reads 33 = .ok (.imul, 1) := by decide +kernel
theorem dX4_reads_34 : decode cX4_reads 34 = .ok (.aload_n 0, 1) := by decide +kernel
theorem dX4_reads_35 : decode cX4_reads 35 = .ok (.iload_n 2, 1) := by decide +kernel
theorem dX4_reads_36 : decode cX4_reads 36 = .ok (.invokestatic 63, 3) := by decide +kernel
theorem dX4_reads_39 : decode cX4_reads 39 = .ok (.iadd, 1) := by decide +kernel
theorem dX4_reads_40 : decode cX4_reads 40 = .ok (.istore 5, 2) := by decide +kernel
theorem dX4_reads_42 : decode cX4_reads 42 = .ok (.aload_n 0, 1) := by decide +kernel
theorem dX4_reads_43 : decode cX4_reads 43 = .ok (.iload_n 1, 1) := by decide +kernel
theorem dX4_reads_44 : decode cX4_reads 44 = .ok (.iconst 0, 1) := by decide +kernel
theorem dX4_reads_45 : decode cX4_reads 45 = .ok (.invokestatic 42, 3) := by decide +kernel
theorem dX4_reads_48 : decode cX4_reads 48 = .ok (.iaload, 1) := by decide +kernel
theorem dX4_reads_49 : decode cX4_reads 49 = .ok (.istore 6, 2) := by decide +kernel
theorem dX4_reads_51 : decode cX4_reads 51 = .ok (.aload_n 0, 1) := by decide +kernel
theorem dX4_reads_52 : decode cX4_reads 52 = .ok (.iload_n 2, 1) := by decide +kernel
theorem dX4_reads_53 : decode cX4_reads 53 = .ok (.iconst 0, 1) := by decide +kernel
theorem dX4_reads_54 : decode cX4_reads 54 = .ok (.invokestatic 56, 3) := by decide +kernel
theorem dX4_reads_57 : decode cX4_reads 57 = .ok (.iaload, 1) := by decide +kernel
theorem dX4_reads_58 : decode cX4_reads 58 = .ok (.iconst 1, 1) := by decide +kernel
theorem dX4_reads_59 : decode cX4_reads 59 = .ok (.if_icmp .ne 37, 3) := by decide +kernel
theorem dX4_reads_62 : decode cX4_reads 62 = .ok (.iload_n 3, 1) := by decide +kernel
theorem dX4_reads_63 : decode cX4_reads 63 = .ok (.i2l, 1) := by decide +kernel
theorem dX4_reads_64 : decode cX4_reads 64 = .ok (.ldc2_w 67, 3) := by decide +kernel
theorem dX4_reads_67 : decode cX4_reads 67 = .ok (.lconst 1, 1) := by decide +kernel
theorem dX4_reads_68 : decode cX4_reads 68 = .ok (.invokestatic 69, 3) := by decide +kernel
theorem dX4_reads_71 : decode cX4_reads 71 = .ok (.ifCond .eq 25, 3) := by decide +kernel
theorem dX4_reads_74 : decode cX4_reads 74 = .ok (.iload_n 3, 1) := by decide +kernel
theorem dX4_reads_75 : decode cX4_reads 75 = .ok (.ifCond .ne 8, 3) := by decide +kernel
theorem dX4_reads_78 : decode cX4_reads 78 = .ok (.iload 6, 2) := by decide +kernel
theorem dX4_reads_80 : decode cX4_reads 80 = .ok (.goto 7, 3) := by decide +kernel
theorem dX4_reads_83 : decode cX4_reads 83 = .ok (.iload 6, 2) := by decide +kernel
theorem dX4_reads_85 : decode cX4_reads 85 = .ok (.iconst 2, 1) := by decide +kernel
theorem dX4_reads_86 : decode cX4_reads 86 = .ok (.idiv, 1) := by decide +kernel
theorem dX4_reads_87 : decode cX4_reads 87 = .ok (.iload 5, 2) := by decide +kernel
theorem dX4_reads_89 : decode cX4_reads 89 = .ok (.if_icmp .lt 7, 3) := by decide +kernel
theorem dX4_reads_92 : decode cX4_reads 92 = .ok (.iconst 1, 1) := by decide +kernel
theorem dX4_reads_93 : decode cX4_reads 93 = .ok (.goto 4, 3) := by decide +kernel
theorem dX4_reads_96 : decode cX4_reads 96 = .ok (.iconst 0, 1) := by decide +kernel
theorem dX4_reads_97 : decode cX4_reads 97 = .ok (.ireturn, 1) := by decide +kernel
set_option maxRecDepth 20000 in
theorem ggX4_readsBook_X4_bookAt : GoodIn wsX4_readsBook wsX4_bookAt := goodIn_r _ [4] rfl rfl
set_option maxRecDepth 20000 in
theorem gX4_readsBook_X4_bookAt : GoodIn wsX4_readsBook (va_wsS RX4 53 yX4_bookAt wsX4_bookAt) := goodIn_app (goodIn_of _ (by decide +kernel)) ggX4_readsBook_X4_bookAt
set_option maxRecDepth 20000 in
theorem ggX4_readsBook_X4_reads : GoodIn wsX4_readsBook wsX4_reads := goodIn_r _ [7, 8, 9, 10, 3, 11, 12, 13, 14, 1, 2, 4, 15, 16, 17, 18, 19, 20] rfl rfl
set_option maxRecDepth 20000 in
theorem gX4_readsBook_X4_reads : GoodIn wsX4_readsBook (va_wsS RX4 73 yX4_reads wsX4_reads) := goodIn_app (goodIn_of _ (by decide +kernel)) ggX4_readsBook_X4_reads
theorem dX4_readsBook_0 : decode cX4_readsBook 0 = .ok (.aload_n 0, 1) := by decide +kernel
theorem dX4_readsBook_1 : decode cX4_readsBook 1 = .ok (.iload_n 2, 1) := by decide +kernel
theorem dX4_readsBook_2 : decode cX4_readsBook 2 = .ok (.iconst 0, 1) := by decide +kernel
theorem dX4_readsBook_3 : decode cX4_readsBook 3 = .ok (.invokestatic 53, 3) := by decide +kernel
theorem dX4_readsBook_6 : decode cX4_readsBook 6 = .ok (.iaload, 1) := by decide +kernel
theorem dX4_readsBook_7 : decode cX4_readsBook 7 = .ok (.iconst 1, 1) := by decide +kernel
theorem dX4_readsBook_8 : decode cX4_readsBook 8 = .ok (.isub, 1) := by decide +kernel
theorem dX4_readsBook_9 : decode cX4_readsBook 9 = .ok (.istore_n 3, 1) := by decide +kernel
theorem dX4_readsBook_10 : decode cX4_readsBook 10 = .ok (.iload_n 3, 1) := by decide +kernel
theorem dX4_readsBook_11 : decode cX4_readsBook 11 = .ok (.ifCond .lt 16, 3) := by decide +kernel
theorem dX4_readsBook_14 : decode cX4_readsBook 14 = .ok (.aload_n 0, 1) := by decide +kernel
theorem dX4_readsBook_15 : decode cX4_readsBook 15 = .ok (.iload_n 1, 1) := by decide +kernel
theorem dX4_readsBook_16 : decode cX4_readsBook 16 = .ok (.iload_n 3, 1) := by decide +kernel
theorem dX4_readsBook_17 : decode cX4_readsBook 17 = .ok (.invokestatic 73, 3) := by decide +kernel
theorem dX4_readsBook_20 : decode cX4_readsBook 20 = .ok (.ifCond .eq 7, 3) := by decide +kernel
theorem dX4_readsBook_23 : decode cX4_readsBook 23 = .ok (.iconst 1, 1) := by decide +kernel
theorem dX4_readsBook_24 : decode cX4_readsBook 24 = .ok (.goto 4, 3) := by decide +kernel
theorem dX4_readsBook_27 : decode cX4_readsBook 27 = .ok (.iconst 0, 1) := by decide +kernel
theorem dX4_readsBook_28 : decode cX4_readsBook 28 = .ok (.ireturn, 1) := by decide +kernel
set_option maxRecDepth 20000 in
theorem ggX4_forget_X4_bookAt : GoodIn wsX4_forget wsX4_bookAt := goodIn_r _ [4] rfl rfl
set_option maxRecDepth 20000 in
theorem gX4_forget_X4_bookAt : GoodIn wsX4_forget (va_wsS RX4 53 yX4_bookAt wsX4_bookAt) := goodIn_app (goodIn_of _ (by decide +kernel)) ggX4_forget_X4_bookAt
set_option maxRecDepth 20000 in
theorem ggX4_forget_X4_gateAt : GoodIn wsX4_forget wsX4_gateAt := goodIn_r _ [7] rfl rfl
set_option maxRecDepth 20000 in
theorem gX4_forget_X4_gateAt : GoodIn wsX4_forget (va_wsS RX4 42 yX4_gateAt wsX4_gateAt) := goodIn_app (goodIn_of _ (by decide +kernel)) ggX4_forget_X4_gateAt
theorem dX4_forget_0 : decode cX4_forget 0 = .ok (.aload_n 0, 1) := by decide +kernel
theorem dX4_forget_1 : decode cX4_forget 1 = .ok (.iload_n 1, 1) := by decide +kernel
theorem dX4_forget_2 : decode cX4_forget 2 = .ok (.iconst 2, 1) := by decide +kernel
theorem dX4_forget_3 : decode cX4_forget 3 = .ok (.invokestatic 53, 3) := by decide +kernel
theorem dX4_forget_6 : decode cX4_forget 6 = .ok (.iconst 0, 1) := by decide +kernel
theorem dX4_forget_7 : decode cX4_forget 7 = .ok (.iastore, 1) := by decide +kernel
theorem dX4_forget_8 : decode cX4_forget 8 = .ok (.aload_n 0, 1) := by decide +kernel
theorem dX4_forget_9 : decode cX4_forget 9 = .ok (.iload_n 1, 1) := by decide +kernel
theorem dX4_forget_10 : decode cX4_forget 10 = .ok (.iconst 3, 1) := by decide +kernel
theorem dX4_forget_11 : decode cX4_forget 11 = .ok (.invokestatic 53, 3) := by decide +kernel
theorem dX4_forget_14 : decode cX4_forget 14 = .ok (.iconst 0, 1) := by decide +kernel
theorem dX4_forget_15 : decode cX4_forget 15 = .ok (.iastore, 1) := by decide +kernel
theorem dX4_forget_16 : decode cX4_forget 16 = .ok (.iconst 0, 1) := by decide +kernel
theorem dX4_forget_17 : decode cX4_forget 17 = .ok (.istore_n 2, 1) := by decide +kernel
theorem dX4_forget_18 : decode cX4_forget 18 = .ok (.iload_n 2, 1) := by decide +kernel
theorem dX4_forget_19 : decode cX4_forget 19 = .ok (.iconst 3, 1) := by decide +kernel
theorem dX4_forget_20 : decode cX4_forget 20 = .ok (.if_icmp .ge 83, 3) := by decide +kernel
theorem dX4_forget_23 : decode cX4_forget 23 = .ok (.iconst 0, 1) := by decide +kernel
theorem dX4_forget_24 : decode cX4_forget 24 = .ok (.istore_n 3, 1) := by decide +kernel
theorem dX4_forget_25 : decode cX4_forget 25 = .ok (.iconst 0, 1) := by decide +kernel
theorem dX4_forget_26 : decode cX4_forget 26 = .ok (.istore 4, 2) := by decide +kernel
theorem dX4_forget_28 : decode cX4_forget 28 = .ok (.iload 4, 2) := by decide +kernel
theorem dX4_forget_30 : decode cX4_forget 30 = .ok (.aload_n 0, 1) := by decide +kernel
theorem dX4_forget_31 : decode cX4_forget 31 = .ok (.iload_n 2, 1) := by decide +kernel
theorem dX4_forget_32 : decode cX4_forget 32 = .ok (.iconst 2, 1) := by decide +kernel
theorem dX4_forget_33 : decode cX4_forget 33 = .ok (.invokestatic 42, 3) := by decide +kernel
theorem dX4_forget_36 : decode cX4_forget 36 = .ok (.iaload, 1) := by decide +kernel
theorem dX4_forget_37 : decode cX4_forget 37 = .ok (.if_icmp .ge 52, 3) := by decide +kernel
theorem dX4_forget_40 : decode cX4_forget 40 = .ok (.aload_n 0, 1) := by decide +kernel
theorem dX4_forget_41 : decode cX4_forget 41 = .ok (.sipush 136, 3) := by decide +kernel
theorem dX4_forget_44 : decode cX4_forget 44 = .ok (.bipush 20, 2) := by decide +kernel
theorem dX4_forget_46 : decode cX4_forget 46 = .ok (.iload_n 2, 1) := by decide +kernel
theorem dX4_forget_47 : decode cX4_forget 47 = .ok (.imul, 1) := by decide +kernel
theorem dX4_forget_48 : decode cX4_forget 48 = .ok (.iadd, 1) := by decide +kernel
theorem dX4_forget_49 : decode cX4_forget 49 = .ok (.iload 4, 2) := by decide +kernel
theorem dX4_forget_51 : decode cX4_forget 51 = .ok (.iadd, 1) := by decide +kernel
theorem dX4_forget_52 : decode cX4_forget 52 = .ok (.iaload, 1) := by decide +kernel
theorem dX4_forget_53 : decode cX4_forget 53 = .ok (.istore 5, 2) := by decide +kernel
theorem dX4_forget_55 : decode cX4_forget 55 = .ok (.aload_n 0, 1) := by decide +kernel
theorem dX4_forget_56 : decode cX4_forget 56 = .ok (.sipush 136, 3) := by decide +kernel
theorem dX4_forget_59 : decode cX4_forget 59 = .ok (.bipush 20, 2) := by decide +kernel
theorem dX4_forget_61 : decode cX4_forget 61 = .ok (.iload_n 2, 1) := by decide +kernel
theorem dX4_forget_62 : decode cX4_forget 62 = .ok (.imul, 1) := by decide +kernel
theorem dX4_forget_63 : decode cX4_forget 63 = .ok (.iadd, 1) := by decide +kernel
theorem dX4_forget_64 : decode cX4_forget 64 = .ok (.iload_n 3, 1) := by decide +kernel
theorem dX4_forget_65 : decode cX4_forget 65 = .ok (.iadd, 1) := by decide +kernel
theorem dX4_forget_66 : decode cX4_forget 66 = .ok (.iload 5, 2) := by decide +kernel
theorem dX4_forget_68 : decode cX4_forget 68 = .ok (.iastore, 1) := by decide +kernel
theorem dX4_forget_69 : decode cX4_forget 69 = .ok (.iload_n 3, 1) := by decide +kernel
theorem dX4_forget_70 : decode cX4_forget 70 = .ok (.iload 5, 2) := by decide +kernel
theorem dX4_forget_72 : decode cX4_forget 72 = .ok (.iload_n 1, 1) := by decide +kernel
theorem dX4_forget_73 : decode cX4_forget 73 = .ok (.if_icmp .ne 7, 3) := by decide +kernel
theorem dX4_forget_76 : decode cX4_forget 76 = .ok (.iconst 0, 1) := by decide +kernel
theorem dX4_forget_77 : decode cX4_forget 77 = .ok (.goto 4, 3) := by decide +kernel
theorem dX4_forget_80 : decode cX4_forget 80 = .ok (.iconst 1, 1) := by decide +kernel
theorem dX4_forget_81 : decode cX4_forget 81 = .ok (.iadd, 1) := by decide +kernel
theorem dX4_forget_82 : decode cX4_forget 82 = .ok (.istore_n 3, 1) := by decide +kernel
theorem dX4_forget_83 : decode cX4_forget 83 = .ok (.iinc 4 1, 3) := by decide +kernel
theorem dX4_forget_86 : decode cX4_forget 86 = .ok (.goto (-58), 3) := by decide +kernel
theorem dX4_forget_89 : decode cX4_forget 89 = .ok (.aload_n 0, 1) := by decide +kernel
theorem dX4_forget_90 : decode cX4_forget 90 = .ok (.iload_n 2, 1) := by decide +kernel
theorem dX4_forget_91 : decode cX4_forget 91 = .ok (.iconst 2, 1) := by decide +kernel
theorem dX4_forget_92 : decode cX4_forget 92 = .ok (.invokestatic 42, 3) := by decide +kernel
theorem dX4_forget_95 : decode cX4_forget 95 = .ok (.iload_n 3, 1) := by decide +kernel
theorem dX4_forget_96 : decode cX4_forget 96 = .ok (.iastore, 1) := by decide +kernel
theorem dX4_forget_97 : decode cX4_forget 97 = .ok (.iinc 2 1, 3) := by decide +kernel
theorem dX4_forget_100 : decode cX4_forget 100 = .ok (.goto (-82), 3) := by decide +kernel
theorem dX4_forget_103 : decode cX4_forget 103 = .ok (.return_, 1) := by decide +kernel
set_option maxRecDepth 20000 in
theorem ggX4_arrive_X4_visitorAt : GoodIn wsX4_arrive wsX4_visitorAt := goodIn_r _ [4] rfl rfl
set_option maxRecDepth 20000 in
theorem gX4_arrive_X4_visitorAt : GoodIn wsX4_arrive (va_wsS RX4 56 yX4_visitorAt wsX4_visitorAt) := goodIn_app (goodIn_of _ (by decide +kernel)) ggX4_arrive_X4_visitorAt
set_option maxRecDepth 20000 in
theorem ggX4_arrive_X4_bookAt : GoodIn wsX4_arrive wsX4_bookAt := goodIn_r _ [7] rfl rfl
set_option maxRecDepth 20000 in
theorem gX4_arrive_X4_bookAt : GoodIn wsX4_arrive (va_wsS RX4 53 yX4_bookAt wsX4_bookAt) := goodIn_app (goodIn_of _ (by decide +kernel)) ggX4_arrive_X4_bookAt
set_option maxRecDepth 20000 in
theorem ggX4_arrive_X4_forget : GoodIn wsX4_arrive wsX4_forget := goodIn_r _ [10, 5, 6, 3, 7, 11, 12, 13] rfl rfl
set_option maxRecDepth 20000 in
theorem gX4_arrive_X4_forget : GoodIn wsX4_arrive (va_wsS RX4 77 yX4_forget wsX4_forget) := goodIn_app (goodIn_of _ (by decide +kernel)) ggX4_arrive_X4_forget
theorem dX4_arrive_0 : decode cX4_arrive 0 = .ok (.aload_n 0, 1) := by decide +kernel
theorem dX4_arrive_1 : decode cX4_arrive 1 = .ok (.iload_n 1, 1) := by decide +kernel
theorem dX4_arrive_2 : decode cX4_arrive 2 = .ok (.iconst 0, 1) := by decide +kernel
theorem dX4_arrive_3 : decode cX4_arrive 3 = .ok (.invokestatic 56, 3) := by decide +kernel
theorem dX4_arrive_6 : decode cX4_arrive 6 = .ok (.iload_n 2, 1) := by decide +kernel
theorem dX4_arrive_7 : decode cX4_arrive 7 = .ok (.ifCond .eq 7, 3) := by decide +kernel
theorem dX4_arrive_10 : decode cX4_arrive 10 = .ok (.iconst 2, 1) := by decide +kernel
theorem dX4_arrive_11 : decode cX4_arrive 11 = .ok (.goto 4, 3) := by decide +kernel
theorem dX4_arrive_14 : decode cX4_arrive 14 = .ok (.iconst 0, 1) := by decide +kernel
theorem dX4_arrive_15 : decode cX4_arrive 15 = .ok (.iastore, 1) := by decide +kernel
theorem dX4_arrive_16 : decode cX4_arrive 16 = .ok (.iconst 0, 1) := by decide +kernel
theorem dX4_arrive_17 : decode cX4_arrive 17 = .ok (.istore_n 3, 1) := by decide +kernel
theorem dX4_arrive_18 : decode cX4_arrive 18 = .ok (.iload_n 3, 1) := by decide +kernel
theorem dX4_arrive_19 : decode cX4_arrive 19 = .ok (.bipush 20, 2) := by decide +kernel
theorem dX4_arrive_21 : decode cX4_arrive 21 = .ok (.if_icmp .ge 70, 3) := by decide +kernel
theorem dX4_arrive_24 : decode cX4_arrive 24 = .ok (.aload_n 0, 1) := by decide +kernel
theorem dX4_arrive_25 : decode cX4_arrive 25 = .ok (.iload_n 3, 1) := by decide +kernel
theorem dX4_arrive_26 : decode cX4_arrive 26 = .ok (.iconst 0, 1) := by decide +kernel
theorem dX4_arrive_27 : decode cX4_arrive 27 = .ok (.invokestatic 53, 3) := by decide +kernel
theorem dX4_arrive_30 : decode cX4_arrive 30 = .ok (.iaload, 1) := by decide +kernel
theorem dX4_arrive_31 : decode cX4_arrive 31 = .ok (.iload_n 1, 1) := by decide +kernel
theorem dX4_arrive_32 : decode cX4_arrive 32 = .ok (.iconst 1, 1) := by decide +kernel
theorem dX4_arrive_33 : decode cX4_arrive 33 = .ok (.iadd, 1) := by decide +kernel
theorem dX4_arrive_34 : decode cX4_arrive 34 = .ok (.if_icmp .ne 51, 3) := by decide +kernel
theorem dX4_arrive_37 : decode cX4_arrive 37 = .ok (.iload_n 2, 1) := by decide +kernel
theorem dX4_arrive_38 : decode cX4_arrive 38 = .ok (.ifCond .ne 11, 3) := by decide +kernel
theorem dX4_arrive_41 : decode cX4_arrive 41 = .ok (.aload_n 0, 1) := by decide +kernel
theorem dX4_arrive_42 : decode cX4_arrive 42 = .ok (.iload_n 3, 1) := by decide +kernel
theorem dX4_arrive_43 : decode cX4_arrive 43 = .ok (.invokestatic 77, 3) := by decide +kernel
theorem dX4_arrive_46 : decode cX4_arrive 46 = .ok (.goto 39, 3) := by decide +kernel
theorem dX4_arrive_49 : decode cX4_arrive 49 = .ok (.aload_n 0, 1) := by decide +kernel
theorem dX4_arrive_50 : decode cX4_arrive 50 = .ok (.iload_n 3, 1) := by decide +kernel
theorem dX4_arrive_51 : decode cX4_arrive 51 = .ok (.iconst 1, 1) := by decide +kernel
theorem dX4_arrive_52 : decode cX4_arrive 52 = .ok (.invokestatic 53, 3) := by decide +kernel
theorem dX4_arrive_55 : decode cX4_arrive 55 = .ok (.iaload, 1) := by decide +kernel
theorem dX4_arrive_56 : decode cX4_arrive 56 = .ok (.ifCond .ne 29, 3) := by decide +kernel
theorem dX4_arrive_59 : decode cX4_arrive 59 = .ok (.aload_n 0, 1) := by decide +kernel
theorem dX4_arrive_60 : decode cX4_arrive 60 = .ok (.aload_n 0, 1) := by decide +kernel
theorem dX4_arrive_61 : decode cX4_arrive 61 = .ok (.iload_n 3, 1) := by decide +kernel
theorem dX4_arrive_62 : decode cX4_arrive 62 = .ok (.iconst 3, 1) := by decide +kernel
theorem dX4_arrive_63 : decode cX4_arrive 63 = .ok (.invokestatic 53, 3) := by decide +kernel
theorem dX4_arrive_66 : decode cX4_arrive 66 = .ok (.iaload, 1) := by decide +kernel
theorem dX4_arrive_67 : decode cX4_arrive 67 = .ok (.iconst 1, 1) := by decide +kernel
theorem dX4_arrive_68 : decode cX4_arrive 68 = .ok (.if_icmp .ne 9, 3) := by decide +kernel
theorem dX4_arrive_71 : decode cX4_arrive 71 = .ok (.sipush 200, 3) := by decide +kernel
theorem dX4_arrive_74 : decode cX4_arrive 74 = .ok (.goto 6, 3) := by decide +kernel
theorem dX4_arrive_77 : decode cX4_arrive 77 = .ok (.sipush 201, 3) := by decide +kernel
theorem dX4_arrive_80 : decode cX4_arrive 80 = .ok (.dup2, 1) := by decide +kernel
theorem dX4_arrive_81 : decode cX4_arrive 81 = .ok (.iaload, 1) := by decide +kernel
theorem dX4_arrive_82 : decode cX4_arrive 82 = .ok (.iconst 1, 1) := by decide +kernel
theorem dX4_arrive_83 : decode cX4_arrive 83 = .ok (.iadd, 1) := by decide +kernel
theorem dX4_arrive_84 : decode cX4_arrive 84 = .ok (.iastore, 1) := by decide +kernel
theorem dX4_arrive_85 : decode cX4_arrive 85 = .ok (.iinc 3 1, 3) := by decide +kernel
theorem dX4_arrive_88 : decode cX4_arrive 88 = .ok (.goto (-70), 3) := by decide +kernel
theorem dX4_arrive_91 : decode cX4_arrive 91 = .ok (.return_, 1) := by decide +kernel
set_option maxRecDepth 20000 in
theorem ggX4_goOn_X4_visitorAt : GoodIn wsX4_goOn wsX4_visitorAt := goodIn_r _ [6] rfl rfl
set_option maxRecDepth 20000 in
theorem gX4_goOn_X4_visitorAt : GoodIn wsX4_goOn (va_wsS RX4 56 yX4_visitorAt wsX4_visitorAt) := goodIn_app (goodIn_of _ (by decide +kernel)) ggX4_goOn_X4_visitorAt
set_option maxRecDepth 20000 in
theorem ggX4_goOn_X4_in : GoodIn wsX4_goOn wsX4_in := goodIn_r _ [9] rfl rfl
set_option maxRecDepth 20000 in
theorem gX4_goOn_X4_in : GoodIn wsX4_goOn (va_wsS RX4 69 yX4_in wsX4_in) := goodIn_app (goodIn_of _ (by decide +kernel)) ggX4_goOn_X4_in
set_option maxRecDepth 20000 in
theorem ggX4_goOn_X4_arrive : GoodIn wsX4_goOn wsX4_arrive := goodIn_r _ [12, 3, 4, 5, 6, 13, 14, 15, 16, 17, 18, 19, 20, 21] rfl rfl
set_option maxRecDepth 20000 in
theorem gX4_goOn_X4_arrive : GoodIn wsX4_goOn (va_wsS RX4 85 yX4_arrive wsX4_arrive) := goodIn_app (goodIn_of _ (by decide +kernel)) ggX4_goOn_X4_arrive
theorem dX4_goOn_0 : decode cX4_goOn 0 = .ok (.aload_n 0, 1) := by decide +kernel
theorem dX4_goOn_1 : decode cX4_goOn 1 = .ok (.iload_n 1, 1) := by decide +kernel
theorem dX4_goOn_2 : decode cX4_goOn 2 = .ok (.iconst 2, 1) := by decide +kernel
theorem dX4_goOn_3 : decode cX4_goOn 3 = .ok (.invokestatic 56, 3) := by decide +kernel
theorem dX4_goOn_6 : decode cX4_goOn 6 = .ok (.dup2, 1) := by decide +kernel
theorem dX4_goOn_7 : decode cX4_goOn 7 = .ok (.iaload, 1) := by decide +kernel
theorem dX4_goOn_8 : decode cX4_goOn 8 = .ok (.aload_n 0, 1) := by decide +kernel
theorem dX4_goOn_9 : decode cX4_goOn 9 = .ok (.iload_n 1, 1) := by decide +kernel
theorem dX4_goOn_10 : decode cX4_goOn 10 = .ok (.iconst 3, 1) := by decide +kernel
theorem dX4_goOn_11 : decode cX4_goOn 11 = .ok (.invokestatic 56, 3) := by decide +kernel
theorem dX4_goOn_14 : decode cX4_goOn 14 = .ok (.iaload, 1) := by decide +kernel
theorem dX4_goOn_15 : decode cX4_goOn 15 = .ok (.iconst 1, 1) := by decide +kernel
theorem dX4_goOn_16 : decode cX4_goOn 16 = .ok (.if_icmp .ne 7, 3) := by decide +kernel
theorem dX4_goOn_19 : decode cX4_goOn 19 = .ok (.iconst 1, 1) := by decide +kernel
theorem dX4_goOn_20 : decode cX4_goOn 20 = .ok (.goto 4, 3) := by decide +kernel
theorem dX4_goOn_23 : decode cX4_goOn 23 = .ok (.iconst (-1), 1) := by decide +kernel
theorem dX4_goOn_24 : decode cX4_goOn 24 = .ok (.iadd, 1) := by decide +kernel
theorem dX4_goOn_25 : decode cX4_goOn 25 = .ok (.iastore, 1) := by decide +kernel
theorem dX4_goOn_26 : decode cX4_goOn 26 = .ok (.aload_n 0, 1) := by decide +kernel
theorem dX4_goOn_27 : decode cX4_goOn 27 = .ok (.iload_n 1, 1) := by decide +kernel
theorem dX4_goOn_28 : decode cX4_goOn 28 = .ok (.iconst 2, 1) := by decide +kernel
theorem dX4_goOn_29 : decode cX4_goOn 29 = .ok (.invokestatic 56, 3) := by decide +kernel
theorem dX4_goOn_32 : decode cX4_goOn 32 = .ok (.iaload, 1) := by decide +kernel
theorem dX4_goOn_33 : decode cX4_goOn 33 = .ok (.i2l, 1) := by decide +kernel
theorem dX4_goOn_34 : decode cX4_goOn 34 = .ok (.ldc2_w 81, 3) := by decide +kernel
theorem dX4_goOn_37 : decode cX4_goOn 37 = .ok (.ldc2_w 83, 3) := by decide +kernel
theorem dX4_goOn_40 : decode cX4_goOn 40 = .ok (.invokestatic 69, 3) := by decide +kernel
theorem dX4_goOn_43 : decode cX4_goOn 43 = .ok (.ifCond .ne 24, 3) := by decide +kernel
theorem dX4_goOn_46 : decode cX4_goOn 46 = .ok (.aload_n 0, 1) := by decide +kernel
theorem dX4_goOn_47 : decode cX4_goOn 47 = .ok (.iload_n 1, 1) := by decide +kernel
theorem dX4_goOn_48 : decode cX4_goOn 48 = .ok (.aload_n 0, 1) := by decide +kernel
theorem dX4_goOn_49 : decode cX4_goOn 49 = .ok (.iload_n 1, 1) := by decide +kernel
theorem dX4_goOn_50 : decode cX4_goOn 50 = .ok (.iconst 3, 1) := by decide +kernel
theorem dX4_goOn_51 : decode cX4_goOn 51 = .ok (.invokestatic 56, 3) := by decide +kernel
theorem dX4_goOn_54 : decode cX4_goOn 54 = .ok (.iaload, 1) := by decide +kernel
theorem dX4_goOn_55 : decode cX4_goOn 55 = .ok (.iconst 1, 1) := by decide +kernel
theorem dX4_goOn_56 : decode cX4_goOn 56 = .ok (.if_icmp .ne 7, 3) := by decide +kernel
theorem dX4_goOn_59 : decode cX4_goOn 59 = .ok (.iconst 1, 1) := by decide +kernel
theorem dX4_goOn_60 : decode cX4_goOn 60 = .ok (.goto 4, 3) := by decide +kernel
theorem dX4_goOn_63 : decode cX4_goOn 63 = .ok (.iconst 0, 1) := by decide +kernel
theorem dX4_goOn_64 : decode cX4_goOn 64 = .ok (.invokestatic 85, 3) := by decide +kernel
theorem dX4_goOn_67 : decode cX4_goOn 67 = .ok (.return_, 1) := by decide +kernel
set_option maxRecDepth 20000 in
theorem ggX4_readAt_X4_bookAt : GoodIn wsX4_readAt wsX4_bookAt := goodIn_r _ [4] rfl rfl
set_option maxRecDepth 20000 in
theorem gX4_readAt_X4_bookAt : GoodIn wsX4_readAt (va_wsS RX4 53 yX4_bookAt wsX4_bookAt) := goodIn_app (goodIn_of _ (by decide +kernel)) ggX4_readAt_X4_bookAt
set_option maxRecDepth 20000 in
theorem ggX4_readAt_X4_visitorAt : GoodIn wsX4_readAt wsX4_visitorAt := goodIn_r _ [7] rfl rfl
set_option maxRecDepth 20000 in
theorem gX4_readAt_X4_visitorAt : GoodIn wsX4_readAt (va_wsS RX4 56 yX4_visitorAt wsX4_visitorAt) := goodIn_app (goodIn_of _ (by decide +kernel)) ggX4_readAt_X4_visitorAt
set_option maxRecDepth 20000 in
theorem ggX4_readAt_X4_gateAt : GoodIn wsX4_readAt wsX4_gateAt := goodIn_r _ [10] rfl rfl
set_option maxRecDepth 20000 in
theorem gX4_readAt_X4_gateAt : GoodIn wsX4_readAt (va_wsS RX4 42 yX4_gateAt wsX4_gateAt) := goodIn_app (goodIn_of _ (by decide +kernel)) ggX4_readAt_X4_gateAt
theorem dX4_readAt_0 : decode cX4_readAt 0 = .ok (.aload_n 0, 1) := by decide +kernel
theorem dX4_readAt_1 : decode cX4_readAt 1 = .ok (.iload_n 2, 1) := by decide +kernel
theorem dX4_readAt_2 : decode cX4_readAt 2 = .ok (.iconst 0, 1) := by decide +kernel
theorem dX4_readAt_3 : decode cX4_readAt 3 = .ok (.invokestatic 53, 3) := by decide +kernel
theorem dX4_readAt_6 : decode cX4_readAt 6 = .ok (.iaload, 1) := by decide +kernel
theorem dX4_readAt_7 : decode cX4_readAt 7 = .ok (.iconst 1, 1) := by decide +kernel
theorem dX4_readAt_8 : decode cX4_readAt 8 = .ok (.isub, 1) := by decide +kernel
theorem dX4_readAt_9 : decode cX4_readAt 9 = .ok (.istore_n 3, 1) := by decide +kernel
theorem dX4_readAt_10 : decode cX4_readAt 10 = .ok (.aload_n 0, 1) := by decide +kernel
theorem dX4_readAt_11 : decode cX4_readAt 11 = .ok (.iload_n 2, 1) := by decide +kernel
theorem dX4_readAt_12 : decode cX4_readAt 12 = .ok (.iconst 1, 1) := by decide +kernel
theorem dX4_readAt_13 : decode cX4_readAt 13 = .ok (.invokestatic 53, 3) := by decide +kernel
theorem dX4_readAt_16 : decode cX4_readAt 16 = .ok (.iaload, 1) := by decide +kernel
theorem dX4_readAt_17 : decode cX4_readAt 17 = .ok (.ifCond .ne 28, 3) := by decide +kernel
theorem dX4_readAt_20 : decode cX4_readAt 20 = .ok (.aload_n 0, 1) := by decide +kernel
theorem dX4_readAt_21 : decode cX4_readAt 21 = .ok (.iload_n 2, 1) := by decide +kernel
theorem dX4_readAt_22 : decode cX4_readAt 22 = .ok (.iconst 3, 1) := by decide +kernel
theorem dX4_readAt_23 : decode cX4_readAt 23 = .ok (.invokestatic 53, 3) := by decide +kernel
theorem dX4_readAt_26 : decode cX4_readAt 26 = .ok (.iaload, 1) := by decide +kernel
theorem dX4_readAt_27 : decode cX4_readAt 27 = .ok (.ifCond .ne 18, 3) := by decide +kernel
theorem dX4_readAt_30 : decode cX4_readAt 30 = .ok (.aload_n 0, 1) := by decide +kernel
theorem dX4_readAt_31 : decode cX4_readAt 31 = .ok (.iload_n 3, 1) := by decide +kernel
theorem dX4_readAt_32 : decode cX4_readAt 32 = .ok (.iconst 3, 1) := by decide +kernel
theorem dX4_readAt_33 : decode cX4_readAt 33 = .ok (.invokestatic 56, 3) := by decide +kernel
theorem dX4_readAt_36 : decode cX4_readAt 36 = .ok (.iaload, 1) := by decide +kernel
theorem dX4_readAt_37 : decode cX4_readAt 37 = .ok (.iconst 1, 1) := by decide +kernel
theorem dX4_readAt_38 : decode cX4_readAt 38 = .ok (.if_icmp .ne 7, 3) := by decide +kernel
theorem dX4_readAt_41 : decode cX4_readAt 41 = .ok (.iconst 1, 1) := by decide +kernel
theorem dX4_readAt_42 : decode cX4_readAt 42 = .ok (.goto 4, 3) := by decide +kernel
theorem dX4_readAt_45 : decode cX4_readAt 45 = .ok (.iconst 0, 1) := by decide +kernel
theorem dX4_readAt_46 : decode cX4_readAt 46 = .ok (.istore 4, 2) := by decide +kernel
theorem dX4_readAt_48 : decode cX4_readAt 48 = .ok (.aload_n 0, 1) := by decide +kernel
theorem dX4_readAt_49 : decode cX4_readAt 49 = .ok (.iload_n 2, 1) := by decide +kernel
theorem dX4_readAt_50 : decode cX4_readAt 50 = .ok (.iconst 2, 1) := by decide +kernel
theorem dX4_readAt_51 : decode cX4_readAt 51 = .ok (.invokestatic 53, 3) := by decide +kernel
theorem dX4_readAt_54 : decode cX4_readAt 54 = .ok (.dup2, 1) := by decide +kernel
theorem dX4_readAt_55 : decode cX4_readAt 55 = .ok (.iaload, 1) := by decide +kernel
theorem dX4_readAt_56 : decode cX4_readAt 56 = .ok (.iload 4, 2) := by decide +kernel
theorem dX4_readAt_58 : decode cX4_readAt 58 = .ok (.ifCond .eq 7, 3) := by decide +kernel
theorem dX4_readAt_61 : decode cX4_readAt 61 = .ok (.iconst 1, 1) := by decide +kernel
theorem dX4_readAt_62 : decode cX4_readAt 62 = .ok (.goto 4, 3) := by decide +kernel
theorem dX4_readAt_65 : decode cX4_readAt 65 = .ok (.iconst 0, 1) := by decide +kernel
theorem dX4_readAt_66 : decode cX4_readAt 66 = .ok (.iadd, 1) := by decide +kernel
theorem dX4_readAt_67 : decode cX4_readAt 67 = .ok (.iastore, 1) := by decide +kernel
theorem dX4_readAt_68 : decode cX4_readAt 68 = .ok (.iload 4, 2) := by decide +kernel
theorem dX4_readAt_70 : decode cX4_readAt 70 = .ok (.ifCond .eq 56, 3) := by decide +kernel
theorem dX4_readAt_73 : decode cX4_readAt 73 = .ok (.aload_n 0, 1) := by decide +kernel
theorem dX4_readAt_74 : decode cX4_readAt 74 = .ok (.iload_n 2, 1) := by decide +kernel
theorem dX4_readAt_75 : decode cX4_readAt 75 = .ok (.iconst 2, 1) := by decide +kernel
theorem dX4_readAt_76 : decode cX4_readAt 76 = .ok (.invokestatic 53, 3) := by decide +kernel
theorem dX4_readAt_79 : decode cX4_readAt 79 = .ok (.iaload, 1) := by decide +kernel
theorem dX4_readAt_80 : decode cX4_readAt 80 = .ok (.aload_n 0, 1) := by decide +kernel
theorem dX4_readAt_81 : decode cX4_readAt 81 = .ok (.sipush 196, 3) := by decide +kernel
theorem dX4_readAt_84 : decode cX4_readAt 84 = .ok (.iaload, 1) := by decide +kernel
theorem dX4_readAt_85 : decode cX4_readAt 85 = .ok (.if_icmp .lt 41, 3) := by decide +kernel
theorem dX4_readAt_88 : decode cX4_readAt 88 = .ok (.aload_n 0, 1) := by decide +kernel
theorem dX4_readAt_89 : decode cX4_readAt 89 = .ok (.iload_n 2, 1) := by decide +kernel
theorem dX4_readAt_90 : decode cX4_readAt 90 = .ok (.iconst 3, 1) := by decide +kernel
theorem dX4_readAt_91 : decode cX4_readAt 91 = .ok (.invokestatic 53, 3) := by decide +kernel
theorem dX4_readAt_94 : decode cX4_readAt 94 = .ok (.iconst 1, 1) := by decide +kernel
theorem dX4_readAt_95 : decode cX4_readAt 95 = .ok (.iastore, 1) := by decide +kernel
theorem dX4_readAt_96 : decode cX4_readAt 96 = .ok (.aload_n 0, 1) := by decide +kernel
theorem dX4_readAt_97 : decode cX4_readAt 97 = .ok (.sipush 136, 3) := by decide +kernel
theorem dX4_readAt_100 : decode cX4_readAt 100 = .ok (.bipush 20, 2) := by decide +kernel
theorem dX4_readAt_102 : decode cX4_readAt 102 = .ok (.iload_n 1, 1) := by decide +kernel
theorem dX4_readAt_103 : decode cX4_readAt 103 = .ok (.imul, 1) := by decide +kernel
theorem dX4_readAt_104 : decode cX4_readAt 104 = .ok (.iadd, 1) := by decide +kernel
theorem dX4_readAt_105 : decode cX4_readAt 105 = .ok (.aload_n 0, 1) := by decide +kernel
theorem dX4_readAt_106 : decode cX4_readAt 106 = .ok (.iload_n 1, 1) := by decide +kernel
theorem dX4_readAt_107 : decode cX4_readAt 107 = .ok (.iconst 2, 1) := by decide +kernel
theorem dX4_readAt_108 : decode cX4_readAt 108 = .ok (.invokestatic 42, 3) := by decide +kernel
theorem dX4_readAt_111 : decode cX4_readAt 111 = .ok (.iaload, 1) := by decide +kernel
theorem dX4_readAt_112 : decode cX4_readAt 112 = .ok (.iadd, 1) := by decide +kernel
theorem dX4_readAt_113 : decode cX4_readAt 113 = .ok (.iload_n 2, 1) := by decide +kernel
theorem dX4_readAt_114 : decode cX4_readAt 114 = .ok (.iastore, 1) := by decide +kernel
theorem dX4_readAt_115 : decode cX4_readAt 115 = .ok (.aload_n 0, 1) := by decide +kernel
theorem dX4_readAt_116 : decode cX4_readAt 116 = .ok (.iload_n 1, 1) := by decide +kernel
theorem dX4_readAt_117 : decode cX4_readAt 117 = .ok (.iconst 2, 1) := by decide +kernel
theorem dX4_readAt_118 : decode cX4_readAt 118 = .ok (.invokestatic 42, 3) := by decide +kernel
theorem dX4_readAt_121 : decode cX4_readAt 121 = .ok (.dup2, 1) := by decide +kernel
theorem dX4_readAt_122 : decode cX4_readAt 122 = .ok (.iaload, 1) := by decide +kernel
theorem dX4_readAt_123 : decode cX4_readAt 123 = .ok (.iconst 1, 1) := by decide +kernel
theorem dX4_readAt_124 : decode cX4_readAt 124 = .ok (.iadd, 1) := by decide +kernel
theorem dX4_readAt_125 : decode cX4_readAt 125 = .ok (.iastore, 1) := by decide +kernel
theorem dX4_readAt_126 : decode cX4_readAt 126 = .ok (.return_, 1) := by decide +kernel
set_option maxRecDepth 20000 in
theorem ggX4_cry_X4_gateAt : GoodIn wsX4_cry wsX4_gateAt := goodIn_r _ [4] rfl rfl
set_option maxRecDepth 20000 in
theorem gX4_cry_X4_gateAt : GoodIn wsX4_cry (va_wsS RX4 42 yX4_gateAt wsX4_gateAt) := goodIn_app (goodIn_of _ (by decide +kernel)) ggX4_cry_X4_gateAt
set_option maxRecDepth 20000 in
theorem ggX4_cry_X4_copy : GoodIn wsX4_cry wsX4_copy := goodIn_r _ [7] rfl rfl
set_option maxRecDepth 20000 in
theorem gX4_cry_X4_copy : GoodIn wsX4_cry (va_wsS RX4 49 yX4_copy wsX4_copy) := goodIn_app (goodIn_of _ (by decide +kernel)) ggX4_cry_X4_copy
set_option maxRecDepth 20000 in
theorem ggX4_cry_X4_bookAt : GoodIn wsX4_cry wsX4_bookAt := goodIn_r _ [10] rfl rfl
set_option maxRecDepth 20000 in
theorem gX4_cry_X4_bookAt : GoodIn wsX4_cry (va_wsS RX4 53 yX4_bookAt wsX4_bookAt) := goodIn_app (goodIn_of _ (by decide +kernel)) ggX4_cry_X4_bookAt
theorem dX4_cry_0 : decode cX4_cry 0 = .ok (.aload_n 0, 1) := by decide +kernel
theorem dX4_cry_1 : decode cX4_cry 1 = .ok (.sipush 136, 3) := by decide +kernel
theorem dX4_cry_4 : decode cX4_cry 4 = .ok (.bipush 20, 2) := by decide +kernel
theorem dX4_cry_6 : decode cX4_cry 6 = .ok (.iload_n 1, 1) := by decide +kernel
theorem dX4_cry_7 : decode cX4_cry 7 = .ok (.imul, 1) := by decide +kernel
theorem dX4_cry_8 : decode cX4_cry 8 = .ok (.iadd, 1) := by decide +kernel
theorem dX4_cry_9 : decode cX4_cry 9 = .ok (.iaload, 1) := by decide +kernel
theorem dX4_cry_10 : decode cX4_cry 10 = .ok (.istore_n 2, 1) := by decide +kernel
theorem dX4_cry_11 : decode cX4_cry 11 = .ok (.aload_n 0, 1) := by decide +kernel
theorem dX4_cry_12 : decode cX4_cry 12 = .ok (.iload_n 1, 1) := by decide +kernel
theorem dX4_cry_13 : decode cX4_cry 13 = .ok (.iconst 2, 1) := by decide +kernel
theorem dX4_cry_14 : decode cX4_cry 14 = .ok (.invokestatic 42, 3) := by decide +kernel
theorem dX4_cry_17 : decode cX4_cry 17 = .ok (.dup2, 1) := by decide +kernel
theorem dX4_cry_18 : decode cX4_cry 18 = .ok (.iaload, 1) := by decide +kernel
theorem dX4_cry_19 : decode cX4_cry 19 = .ok (.iconst 1, 1) := by decide +kernel
theorem dX4_cry_20 : decode cX4_cry 20 = .ok (.isub, 1) := by decide +kernel
theorem dX4_cry_21 : decode cX4_cry 21 = .ok (.iastore, 1) := by decide +kernel
theorem dX4_cry_22 : decode cX4_cry 22 = .ok (.aload_n 0, 1) := by decide +kernel
theorem dX4_cry_23 : decode cX4_cry 23 = .ok (.sipush 136, 3) := by decide +kernel
theorem dX4_cry_26 : decode cX4_cry 26 = .ok (.bipush 20, 2) := by decide +kernel
theorem dX4_cry_28 : decode cX4_cry 28 = .ok (.iload_n 1, 1) := by decide +kernel
theorem dX4_cry_29 : decode cX4_cry 29 = .ok (.imul, 1) := by decide +kernel
theorem dX4_cry_30 : decode cX4_cry 30 = .ok (.iadd, 1) := by decide +kernel
theorem dX4_cry_31 : decode cX4_cry 31 = .ok (.iconst 1, 1) := by decide +kernel
theorem dX4_cry_32 : decode cX4_cry 32 = .ok (.iadd, 1) := by decide +kernel
theorem dX4_cry_33 : decode cX4_cry 33 = .ok (.aload_n 0, 1) := by decide +kernel
theorem dX4_cry_34 : decode cX4_cry 34 = .ok (.sipush 136, 3) := by decide +kernel
theorem dX4_cry_37 : decode cX4_cry 37 = .ok (.bipush 20, 2) := by decide +kernel
theorem dX4_cry_39 : decode cX4_cry 39 = .ok (.iload_n 1, 1) := by decide +kernel
theorem dX4_cry_40 : decode cX4_cry 40 = .ok (.imul, 1) := by decide +kernel
theorem dX4_cry_41 : decode cX4_cry 41 = .ok (.iadd, 1) := by decide +kernel
theorem dX4_cry_42 : decode cX4_cry 42 = .ok (.aload_n 0, 1) := by decide +kernel
theorem dX4_cry_43 : decode cX4_cry 43 = .ok (.iload_n 1, 1) := by decide +kernel
theorem dX4_cry_44 : decode cX4_cry 44 = .ok (.iconst 2, 1) := by decide +kernel
theorem dX4_cry_45 : decode cX4_cry 45 = .ok (.invokestatic 42, 3) := by decide +kernel
theorem dX4_cry_48 : decode cX4_cry 48 = .ok (.iaload, 1) := by decide +kernel
theorem dX4_cry_49 : decode cX4_cry 49 = .ok (.invokestatic 49, 3) := by decide +kernel
theorem dX4_cry_52 : decode cX4_cry 52 = .ok (.aload_n 0, 1) := by decide +kernel
theorem dX4_cry_53 : decode cX4_cry 53 = .ok (.iload_n 1, 1) := by decide +kernel
theorem dX4_cry_54 : decode cX4_cry 54 = .ok (.iconst 3, 1) := by decide +kernel
theorem dX4_cry_55 : decode cX4_cry 55 = .ok (.invokestatic 42, 3) := by decide +kernel
theorem dX4_cry_58 : decode cX4_cry 58 = .ok (.dup2, 1) := by decide +kernel
theorem dX4_cry_59 : decode cX4_cry 59 = .ok (.iaload, 1) := by decide +kernel
theorem dX4_cry_60 : decode cX4_cry 60 = .ok (.iconst 1, 1) := by decide +kernel
theorem dX4_cry_61 : decode cX4_cry 61 = .ok (.iadd, 1) := by decide +kernel
theorem dX4_cry_62 : decode cX4_cry 62 = .ok (.iastore, 1) := by decide +kernel
theorem dX4_cry_63 : decode cX4_cry 63 = .ok (.aload_n 0, 1) := by decide +kernel
theorem dX4_cry_64 : decode cX4_cry 64 = .ok (.iload_n 2, 1) := by decide +kernel
theorem dX4_cry_65 : decode cX4_cry 65 = .ok (.iconst 4, 1) := by decide +kernel
theorem dX4_cry_66 : decode cX4_cry 66 = .ok (.invokestatic 53, 3) := by decide +kernel
theorem dX4_cry_69 : decode cX4_cry 69 = .ok (.dup2, 1) := by decide +kernel
theorem dX4_cry_70 : decode cX4_cry 70 = .ok (.iaload, 1) := by decide +kernel
theorem dX4_cry_71 : decode cX4_cry 71 = .ok (.iconst 1, 1) := by decide +kernel
theorem dX4_cry_72 : decode cX4_cry 72 = .ok (.iadd, 1) := by decide +kernel
theorem dX4_cry_73 : decode cX4_cry 73 = .ok (.iastore, 1) := by decide +kernel
theorem dX4_cry_74 : decode cX4_cry 74 = .ok (.aload_n 0, 1) := by decide +kernel
theorem dX4_cry_75 : decode cX4_cry 75 = .ok (.sipush 199, 3) := by decide +kernel
theorem dX4_cry_78 : decode cX4_cry 78 = .ok (.dup2, 1) := by decide +kernel
theorem dX4_cry_79 : decode cX4_cry 79 = .ok (.iaload, 1) := by decide +kernel
theorem dX4_cry_80 : decode cX4_cry 80 = .ok (.iconst 1, 1) := by decide +kernel
theorem dX4_cry_81 : decode cX4_cry 81 = .ok (.iadd, 1) := by decide +kernel
theorem dX4_cry_82 : decode cX4_cry 82 = .ok (.iastore, 1) := by decide +kernel
theorem dX4_cry_83 : decode cX4_cry 83 = .ok (.aload_n 0, 1) := by decide +kernel
theorem dX4_cry_84 : decode cX4_cry 84 = .ok (.iload_n 1, 1) := by decide +kernel
theorem dX4_cry_85 : decode cX4_cry 85 = .ok (.iconst 1, 1) := by decide +kernel
theorem dX4_cry_86 : decode cX4_cry 86 = .ok (.invokestatic 42, 3) := by decide +kernel
theorem dX4_cry_89 : decode cX4_cry 89 = .ok (.aload_n 0, 1) := by decide +kernel
theorem dX4_cry_90 : decode cX4_cry 90 = .ok (.sipush 197, 3) := by decide +kernel
theorem dX4_cry_93 : decode cX4_cry 93 = .ok (.iaload, 1) := by decide +kernel
theorem dX4_cry_94 : decode cX4_cry 94 = .ok (.iastore, 1) := by decide +kernel
theorem dX4_cry_95 : decode cX4_cry 95 = .ok (.bipush 29, 2) := by decide +kernel
theorem dX4_cry_97 : decode cX4_cry 97 = .ok (.istore_n 3, 1) := by decide +kernel
theorem dX4_cry_98 : decode cX4_cry 98 = .ok (.iload_n 3, 1) := by decide +kernel
theorem dX4_cry_99 : decode cX4_cry 99 = .ok (.iconst 2, 1) := by decide +kernel
theorem dX4_cry_100 : decode cX4_cry 100 = .ok (.if_icmp .le 25, 3) := by decide +kernel
theorem dX4_cry_103 : decode cX4_cry 103 = .ok (.aload_n 0, 1) := by decide +kernel
theorem dX4_cry_104 : decode cX4_cry 104 = .ok (.sipush 203, 3) := by decide +kernel
theorem dX4_cry_107 : decode cX4_cry 107 = .ok (.iload_n 3, 1) := by decide +kernel
theorem dX4_cry_108 : decode cX4_cry 108 = .ok (.iadd, 1) := by decide +kernel
theorem dX4_cry_109 : decode cX4_cry 109 = .ok (.aload_n 0, 1) := by decide +kernel
theorem dX4_cry_110 : decode cX4_cry 110 = .ok (.sipush 203, 3) := by decide +kernel
theorem dX4_cry_113 : decode cX4_cry 113 = .ok (.iload_n 3, 1) := by decide +kernel
theorem dX4_cry_114 : decode cX4_cry 114 = .ok (.iadd, 1) := by decide +kernel
theorem dX4_cry_115 : decode cX4_cry 115 = .ok (.iconst 3, 1) := by decide +kernel
theorem dX4_cry_116 : decode cX4_cry 116 = .ok (.isub, 1) := by decide +kernel
theorem dX4_cry_117 : decode cX4_cry 117 = .ok (.iaload, 1) := by decide +kernel
theorem dX4_cry_118 : decode cX4_cry 118 = .ok (.iastore, 1) := by decide +kernel
theorem dX4_cry_119 : decode cX4_cry 119 = .ok (.iinc 3 (-1), 3) := by decide +kernel
theorem dX4_cry_122 : decode cX4_cry 122 = .ok (.goto (-24), 3) := by decide +kernel
theorem dX4_cry_125 : decode cX4_cry 125 = .ok (.aload_n 0, 1) := by decide +kernel
theorem dX4_cry_126 : decode cX4_cry 126 = .ok (.sipush 203, 3) := by decide +kernel
theorem dX4_cry_129 : decode cX4_cry 129 = .ok (.iload_n 1, 1) := by decide +kernel
theorem dX4_cry_130 : decode cX4_cry 130 = .ok (.iastore, 1) := by decide +kernel
theorem dX4_cry_131 : decode cX4_cry 131 = .ok (.aload_n 0, 1) := by decide +kernel
theorem dX4_cry_132 : decode cX4_cry 132 = .ok (.sipush 204, 3) := by decide +kernel
theorem dX4_cry_135 : decode cX4_cry 135 = .ok (.iload_n 2, 1) := by decide +kernel
theorem dX4_cry_136 : decode cX4_cry 136 = .ok (.iastore, 1) := by decide +kernel
theorem dX4_cry_137 : decode cX4_cry 137 = .ok (.aload_n 0, 1) := by decide +kernel
theorem dX4_cry_138 : decode cX4_cry 138 = .ok (.sipush 205, 3) := by decide +kernel
theorem dX4_cry_141 : decode cX4_cry 141 = .ok (.aload_n 0, 1) := by decide +kernel
theorem dX4_cry_142 : decode cX4_cry 142 = .ok (.sipush 198, 3) := by decide +kernel
theorem dX4_cry_145 : decode cX4_cry 145 = .ok (.iaload, 1) := by decide +kernel
theorem dX4_cry_146 : decode cX4_cry 146 = .ok (.iastore, 1) := by decide +kernel
theorem dX4_cry_147 : decode cX4_cry 147 = .ok (.aload_n 0, 1) := by decide +kernel
theorem dX4_cry_148 : decode cX4_cry 148 = .ok (.sipush 202, 3) := by decide +kernel
theorem dX4_cry_151 : decode cX4_cry 151 = .ok (.dup2, 1) := by decide +kernel
theorem dX4_cry_152 : decode cX4_cry 152 = .ok (.iaload, 1) := by decide +kernel
theorem dX4_cry_153 : decode cX4_cry 153 = .ok (.aload_n 0, 1) := by decide +kernel
theorem dX4_cry_154 : decode cX4_cry 154 = .ok (.sipush 202, 3) := by decide +kernel
theorem dX4_cry_157 : decode cX4_cry 157 = .ok (.iaload, 1) := by decide +kernel
theorem dX4_cry_158 : decode cX4_cry 158 = .ok (.bipush 10, 2) := by decide +kernel
theorem dX4_cry_160 : decode cX4_cry 160 = .ok (.if_icmp .ge 7, 3) := by decide +kernel
theorem dX4_cry_163 : decode cX4_cry 163 = .ok (.iconst 1, 1) := by decide +kernel
theorem dX4_cry_164 : decode cX4_cry 164 = .ok (.goto 4, 3) := by decide +kernel
theorem dX4_cry_167 : decode cX4_cry 167 = .ok (.iconst 0, 1) := by decide +kernel
theorem dX4_cry_168 : decode cX4_cry 168 = .ok (.iadd, 1) := by decide +kernel
theorem dX4_cry_169 : decode cX4_cry 169 = .ok (.iastore, 1) := by decide +kernel
theorem dX4_cry_170 : decode cX4_cry 170 = .ok (.return_, 1) := by decide +kernel
set_option maxRecDepth 20000 in
theorem ggX4_tick_X4_visitorAt : GoodIn wsX4_tick wsX4_visitorAt := goodIn_r _ [4] rfl rfl
set_option maxRecDepth 20000 in
theorem gX4_tick_X4_visitorAt : GoodIn wsX4_tick (va_wsS RX4 56 yX4_visitorAt wsX4_visitorAt) := goodIn_app (goodIn_of _ (by decide +kernel)) ggX4_tick_X4_visitorAt
set_option maxRecDepth 20000 in
theorem ggX4_tick_X4_goOn : GoodIn wsX4_tick wsX4_goOn := goodIn_r _ [7, 8, 9, 1, 2, 3, 4, 10, 11, 12, 13, 14, 15, 16, 17, 18, 19, 20, 21, 22, 23, 24] rfl rfl
set_option maxRecDepth 20000 in
theorem gX4_tick_X4_goOn : GoodIn wsX4_tick (va_wsS RX4 89 yX4_goOn wsX4_goOn) := goodIn_app (goodIn_of _ (by decide +kernel)) ggX4_tick_X4_goOn
set_option maxRecDepth 20000 in
theorem ggX4_tick_X4_readsBook : GoodIn wsX4_tick wsX4_readsBook := goodIn_r _ [27, 16, 17, 3, 18, 28, 29, 30, 31, 1, 2, 4, 32, 33, 34, 22, 23, 24, 10, 11, 12] rfl rfl
set_option maxRecDepth 20000 in
theorem gX4_tick_X4_readsBook : GoodIn wsX4_tick (va_wsS RX4 92 yX4_readsBook wsX4_readsBook) := goodIn_app (goodIn_of _ (by decide +kernel)) ggX4_tick_X4_readsBook
set_option maxRecDepth 20000 in
theorem ggX4_tick_X4_readAt : GoodIn wsX4_tick wsX4_readAt := goodIn_r _ [37, 16, 17, 3, 18, 1, 2, 4, 22, 23, 24] rfl rfl
set_option maxRecDepth 20000 in
theorem gX4_tick_X4_readAt : GoodIn wsX4_tick (va_wsS RX4 95 yX4_readAt wsX4_readAt) := goodIn_app (goodIn_of _ (by decide +kernel)) ggX4_tick_X4_readAt
set_option maxRecDepth 20000 in
theorem ggX4_tick_X4_gateAt : GoodIn wsX4_tick wsX4_gateAt := goodIn_r _ [24] rfl rfl
set_option maxRecDepth 20000 in
theorem gX4_tick_X4_gateAt : GoodIn wsX4_tick (va_wsS RX4 42 yX4_gateAt wsX4_gateAt) := goodIn_app (goodIn_of _ (by decide +kernel)) ggX4_tick_X4_gateAt
set_option maxRecDepth 20000 in
theorem ggX4_tick_X4_cry : GoodIn wsX4_tick wsX4_cry := goodIn_r _ [40, 22, 23, 3, 24, 41, 42, 43, 16, 17, 18] rfl rfl
set_option maxRecDepth 20000 in
theorem gX4_tick_X4_cry : GoodIn wsX4_tick (va_wsS RX4 99 yX4_cry wsX4_cry) := goodIn_app (goodIn_of _ (by decide +kernel)) ggX4_tick_X4_cry
theorem dX4_tick_0 : decode cX4_tick 0 = .ok (.aload_n 0, 1) := by decide +kernel
theorem dX4_tick_1 : decode cX4_tick 1 = .ok (.sipush 198, 3) := by decide +kernel
theorem dX4_tick_4 : decode cX4_tick 4 = .ok (.dup2, 1) := by decide +kernel
theorem dX4_tick_5 : decode cX4_tick 5 = .ok (.iaload, 1) := by decide +kernel
theorem dX4_tick_6 : decode cX4_tick 6 = .ok (.iconst 1, 1) := by decide +kernel
theorem dX4_tick_7 : decode cX4_tick 7 = .ok (.iadd, 1) := by decide +kernel
theorem dX4_tick_8 : decode cX4_tick 8 = .ok (.iastore, 1) := by decide +kernel
theorem dX4_tick_9 : decode cX4_tick 9 = .ok (.iconst 0, 1) := by decide +kernel
theorem dX4_tick_10 : decode cX4_tick 10 = .ok (.istore_n 1, 1) := by decide +kernel
theorem dX4_tick_11 : decode cX4_tick 11 = .ok (.iload_n 1, 1) := by decide +kernel
theorem dX4_tick_12 : decode cX4_tick 12 = .ok (.bipush 6, 2) := by decide +kernel
theorem dX4_tick_14 : decode cX4_tick 14 = .ok (.if_icmp .ge 25, 3) := by decide +kernel
theorem dX4_tick_17 : decode cX4_tick 17 = .ok (.aload_n 0, 1) := by decide +kernel
theorem dX4_tick_18 : decode cX4_tick 18 = .ok (.iload_n 1, 1) := by decide +kernel
theorem dX4_tick_19 : decode cX4_tick 19 = .ok (.iconst 0, 1) := by decide +kernel
theorem dX4_tick_20 : decode cX4_tick 20 = .ok (.invokestatic 56, 3) := by decide +kernel
theorem dX4_tick_23 : decode cX4_tick 23 = .ok (.iaload, 1) := by decide +kernel
theorem dX4_tick_24 : decode cX4_tick 24 = .ok (.iconst 1, 1) := by decide +kernel
theorem dX4_tick_25 : decode cX4_tick 25 = .ok (.if_icmp .ne 8, 3) := by decide +kernel
theorem dX4_tick_28 : decode cX4_tick 28 = .ok (.aload_n 0, 1) := by decide +kernel
theorem dX4_tick_29 : decode cX4_tick 29 = .ok (.iload_n 1, 1) := by decide +kernel
theorem dX4_tick_30 : decode cX4_tick 30 = .ok (.invokestatic 89, 3) := by decide +kernel
theorem dX4_tick_33 : decode cX4_tick 33 = .ok (.iinc 1 1, 3) := by decide +kernel
theorem dX4_tick_36 : decode cX4_tick 36 = .ok (.goto (-25), 3) := by decide +kernel
theorem dX4_tick_39 : decode cX4_tick 39 = .ok (.iconst 0, 1) := by decide +kernel
theorem dX4_tick_40 : decode cX4_tick 40 = .ok (.istore_n 1, 1) := by decide +kernel
theorem dX4_tick_41 : decode cX4_tick 41 = .ok (.iload_n 1, 1) := by decide +kernel
theorem dX4_tick_42 : decode cX4_tick 42 = .ok (.iconst 3, 1) := by decide +kernel
theorem dX4_tick_43 : decode cX4_tick 43 = .ok (.if_icmp .ge 38, 3) := by decide +kernel
theorem dX4_tick_46 : decode cX4_tick 46 = .ok (.iconst 0, 1) := by decide +kernel
theorem dX4_tick_47 : decode cX4_tick 47 = .ok (.istore_n 2, 1) := by decide +kernel
theorem dX4_tick_48 : decode cX4_tick 48 = .ok (.iload_n 2, 1) := by decide +kernel
theorem dX4_tick_49 : decode cX4_tick 49 = .ok (.bipush 20, 2) := by decide +kernel
theorem dX4_tick_51 : decode cX4_tick 51 = .ok (.if_icmp .ge 24, 3) := by decide +kernel
theorem dX4_tick_54 : decode cX4_tick 54 = .ok (.aload_n 0, 1) := by decide +kernel
theorem dX4_tick_55 : decode cX4_tick 55 = .ok (.iload_n 1, 1) := by decide +kernel
theorem dX4_tick_56 : decode cX4_tick 56 = .ok (.iload_n 2, 1) := by decide +kernel
theorem dX4_tick_57 : decode cX4_tick 57 = .ok (.invokestatic 92, 3) := by decide +kernel
theorem dX4_tick_60 : decode cX4_tick 60 = .ok (.ifCond .eq 9, 3) := by decide +kernel
theorem dX4_tick_63 : decode cX4_tick 63 = .ok (.aload_n 0, 1) := by decide +kernel
theorem dX4_tick_64 : decode cX4_tick 64 = .ok (.iload_n 1, 1) := by decide +kernel
theorem dX4_tick_65 : decode cX4_tick 65 = .ok (.iload_n 2, 1) := by decide +kernel
theorem dX4_tick_66 : decode cX4_tick 66 = .ok (.invokestatic 95, 3) := by decide +kernel
theorem dX4_tick_69 : decode cX4_tick 69 = .ok (.iinc 2 1, 3) := by decide +kernel
theorem dX4_tick_72 : decode cX4_tick 72 = .ok (.goto (-24), 3) := by decide +kernel
theorem dX4_tick_75 : decode cX4_tick 75 = .ok (.iinc 1 1, 3) := by decide +kernel
theorem dX4_tick_78 : decode cX4_tick 78 = .ok (.goto (-37), 3) := by decide +kernel
theorem dX4_tick_81 : decode cX4_tick 81 = .ok (.iconst 0, 1) := by decide +kernel
theorem dX4_tick_82 : decode cX4_tick 82 = .ok (.istore_n 1, 1) := by decide +kernel
theorem dX4_tick_83 : decode cX4_tick 83 = .ok (.iload_n 1, 1) := by decide +kernel
theorem dX4_tick_84 : decode cX4_tick 84 = .ok (.iconst 3, 1) := by decide +kernel
theorem dX4_tick_85 : decode cX4_tick 85 = .ok (.if_icmp .ge 48, 3) := by decide +kernel
theorem dX4_tick_88 : decode cX4_tick 88 = .ok (.aload_n 0, 1) := by decide +kernel
theorem dX4_tick_89 : decode cX4_tick 89 = .ok (.iload_n 1, 1) := by decide +kernel
theorem dX4_tick_90 : decode cX4_tick 90 = .ok (.iconst 1, 1) := by decide +kernel
theorem dX4_tick_91 : decode cX4_tick 91 = .ok (.invokestatic 42, 3) := by decide +kernel
theorem dX4_tick_94 : decode cX4_tick 94 = .ok (.iaload, 1) := by decide +kernel
theorem dX4_tick_95 : decode cX4_tick 95 = .ok (.ifCond .le 17, 3) := by decide +kernel
theorem dX4_tick_98 : decode cX4_tick 98 = .ok (.aload_n 0, 1) := by decide +kernel
theorem dX4_tick_99 : decode cX4_tick 99 = .ok (.iload_n 1, 1) := by decide +kernel
theorem dX4_tick_100 : decode cX4_tick 100 = .ok (.iconst 1, 1) := by decide +kernel
theorem dX4_tick_101 : decode cX4_tick 101 = .ok (.invokestatic 42, 3) := by decide +kernel
theorem dX4_tick_104 : decode cX4_tick 104 = .ok (.dup2, 1) := by decide +kernel
theorem dX4_tick_105 : decode cX4_tick 105 = .ok (.iaload, 1) := by decide +kernel
theorem dX4_tick_106 : decode cX4_tick 106 = .ok (.iconst 1, 1) := by decide +kernel
theorem dX4_tick_107 : decode cX4_tick 107 = .ok (.isub, 1) := by decide +kernel
theorem dX4_tick_108 : decode cX4_tick 108 = .ok (.iastore, 1) := by decide +kernel
theorem dX4_tick_109 : decode cX4_tick 109 = .ok (.goto 18, 3) := by decide +kernel
theorem dX4_tick_112 : decode cX4_tick 112 = .ok (.aload_n 0, 1) := by decide +kernel
theorem dX4_tick_113 : decode cX4_tick 113 = .ok (.iload_n 1, 1) := by decide +kernel
theorem dX4_tick_114 : decode cX4_tick 114 = .ok (.iconst 2, 1) := by decide +kernel
theorem dX4_tick_115 : decode cX4_tick 115 = .ok (.invokestatic 42, 3) := by decide +kernel
theorem dX4_tick_118 : decode cX4_tick 118 = .ok (.iaload, 1) := by decide +kernel
theorem dX4_tick_119 : decode cX4_tick 119 = .ok (.ifCond .le 8, 3) := by decide +kernel
theorem dX4_tick_122 : decode cX4_tick 122 = .ok (.aload_n 0, 1) := by decide +kernel
theorem dX4_tick_123 : decode cX4_tick 123 = .ok (.iload_n 1, 1) := by decide +kernel
theorem dX4_tick_124 : decode cX4_tick 124 = .ok (.invokestatic 99, 3) := by decide +kernel
theorem dX4_tick_127 : decode cX4_tick 127 = .ok (.iinc 1 1, 3) := by decide +kernel
theorem dX4_tick_130 : decode cX4_tick 130 = .ok (.goto (-47), 3) := by decide +kernel
theorem dX4_tick_133 : decode cX4_tick 133 = .ok (.return_, 1) := by decide +kernel
set_option maxRecDepth 20000 in
theorem ggX4_ticksIn_X4_tick : GoodIn wsX4_ticksIn wsX4_tick := goodIn_r _ [4, 5, 6, 3, 7, 8, 9, 10, 11, 12, 13, 14, 15, 16, 17, 18, 19, 20, 21, 22, 23, 24, 25, 26, 27, 28, 29, 30, 31, 32, 33, 34, 35, 36, 37, 38, 39, 40, 41, 42, 43, 44, 45, 46] rfl rfl
set_option maxRecDepth 20000 in
theorem gX4_ticksIn_X4_tick : GoodIn wsX4_ticksIn (va_wsS RX4 102 yX4_tick wsX4_tick) := goodIn_app (goodIn_of _ (by decide +kernel)) ggX4_ticksIn_X4_tick
theorem dX4_ticksIn_0 : decode cX4_ticksIn 0 = .ok (.aload_n 0, 1) := by decide +kernel
theorem dX4_ticksIn_1 : decode cX4_ticksIn 1 = .ok (.sipush 199, 3) := by decide +kernel
theorem dX4_ticksIn_4 : decode cX4_ticksIn 4 = .ok (.iaload, 1) := by decide +kernel
theorem dX4_ticksIn_5 : decode cX4_ticksIn 5 = .ok (.istore_n 2, 1) := by decide +kernel
theorem dX4_ticksIn_6 : decode cX4_ticksIn 6 = .ok (.iconst 0, 1) := by decide +kernel
theorem dX4_ticksIn_7 : decode cX4_ticksIn 7 = .ok (.istore_n 3, 1) := by decide +kernel
theorem dX4_ticksIn_8 : decode cX4_ticksIn 8 = .ok (.iload_n 3, 1) := by decide +kernel
theorem dX4_ticksIn_9 : decode cX4_ticksIn 9 = .ok (.iload_n 1, 1) := by decide +kernel
theorem dX4_ticksIn_10 : decode cX4_ticksIn 10 = .ok (.if_icmp .ge 13, 3) := by decide +kernel
theorem dX4_ticksIn_13 : decode cX4_ticksIn 13 = .ok (.aload_n 0, 1) := by decide +kernel
theorem dX4_ticksIn_14 : decode cX4_ticksIn 14 = .ok (.invokestatic 102, 3) := by decide +kernel
theorem dX4_ticksIn_17 : decode cX4_ticksIn 17 = .ok (.iinc 3 1, 3) := by decide +kernel
theorem dX4_ticksIn_20 : decode cX4_ticksIn 20 = .ok (.goto (-12), 3) := by decide +kernel
theorem dX4_ticksIn_23 : decode cX4_ticksIn 23 = .ok (.aload_n 0, 1) := by decide +kernel
theorem dX4_ticksIn_24 : decode cX4_ticksIn 24 = .ok (.sipush 199, 3) := by decide +kernel
theorem dX4_ticksIn_27 : decode cX4_ticksIn 27 = .ok (.iaload, 1) := by decide +kernel
theorem dX4_ticksIn_28 : decode cX4_ticksIn 28 = .ok (.iload_n 2, 1) := by decide +kernel
theorem dX4_ticksIn_29 : decode cX4_ticksIn 29 = .ok (.isub, 1) := by decide +kernel
theorem dX4_ticksIn_30 : decode cX4_ticksIn 30 = .ok (.ireturn, 1) := by decide +kernel
set_option maxRecDepth 20000 in
theorem ggX4_canTake_X4_bookAt : GoodIn wsX4_canTake wsX4_bookAt := goodIn_r _ [4] rfl rfl
set_option maxRecDepth 20000 in
theorem gX4_canTake_X4_bookAt : GoodIn wsX4_canTake (va_wsS RX4 53 yX4_bookAt wsX4_bookAt) := goodIn_app (goodIn_of _ (by decide +kernel)) ggX4_canTake_X4_bookAt
set_option maxRecDepth 20000 in
theorem ggX4_canTake_X4_isInside : GoodIn wsX4_canTake wsX4_isInside := goodIn_r _ [7, 8, 9, 3, 10] rfl rfl
set_option maxRecDepth 20000 in
theorem gX4_canTake_X4_isInside : GoodIn wsX4_canTake (va_wsS RX4 59 yX4_isInside wsX4_isInside) := goodIn_app (goodIn_of _ (by decide +kernel)) ggX4_canTake_X4_isInside
set_option maxRecDepth 20000 in
theorem ggX4_canTake_X4_bag : GoodIn wsX4_canTake wsX4_bag := goodIn_r _ [13, 1, 2, 3, 4] rfl rfl
set_option maxRecDepth 20000 in
theorem gX4_canTake_X4_bag : GoodIn wsX4_canTake (va_wsS RX4 63 yX4_bag wsX4_bag) := goodIn_app (goodIn_of _ (by decide +kernel)) ggX4_canTake_X4_bag
theorem dX4_canTake_0 : decode cX4_canTake 0 = .ok (.aload_n 0, 1) := by decide +kernel
theorem dX4_canTake_1 : decode cX4_canTake 1 = .ok (.iload_n 2, 1) := by decide +kernel
theorem dX4_canTake_2 : decode cX4_canTake 2 = .ok (.iconst 0, 1) := by decide +kernel
theorem dX4_canTake_3 : decode cX4_canTake 3 = .ok (.invokestatic 53, 3) := by decide +kernel
theorem dX4_canTake_6 : decode cX4_canTake 6 = .ok (.iaload, 1) := by decide +kernel
theorem dX4_canTake_7 : decode cX4_canTake 7 = .ok (.ifCond .ne 25, 3) := by decide +kernel
theorem dX4_canTake_10 : decode cX4_canTake 10 = .ok (.aload_n 0, 1) := by decide +kernel
theorem dX4_canTake_11 : decode cX4_canTake 11 = .ok (.iload_n 1, 1) := by decide +kernel
theorem dX4_canTake_12 : decode cX4_canTake 12 = .ok (.invokestatic 59, 3) := by decide +kernel
theorem dX4_canTake_15 : decode cX4_canTake 15 = .ok (.ifCond .eq 17, 3) := by decide +kernel
theorem dX4_canTake_18 : decode cX4_canTake 18 = .ok (.aload_n 0, 1) := by decide +kernel
theorem dX4_canTake_19 : decode cX4_canTake 19 = .ok (.iload_n 1, 1) := by decide +kernel
theorem dX4_canTake_20 : decode cX4_canTake 20 = .ok (.invokestatic 63, 3) := by decide +kernel
theorem dX4_canTake_23 : decode cX4_canTake 23 = .ok (.bipush 6, 2) := by decide +kernel
theorem dX4_canTake_25 : decode cX4_canTake 25 = .ok (.if_icmp .ge 7, 3) := by decide +kernel
theorem dX4_canTake_28 : decode cX4_canTake 28 = .ok (.iconst 1, 1) := by decide +kernel
theorem dX4_canTake_29 : decode cX4_canTake 29 = .ok (.goto 4, 3) := by decide +kernel
theorem dX4_canTake_32 : decode cX4_canTake 32 = .ok (.iconst 0, 1) := by decide +kernel
theorem dX4_canTake_33 : decode cX4_canTake 33 = .ok (.ireturn, 1) := by decide +kernel
set_option maxRecDepth 20000 in
theorem ggX4_canPutBack_X4_bookAt : GoodIn wsX4_canPutBack wsX4_bookAt := goodIn_r _ [4] rfl rfl
set_option maxRecDepth 20000 in
theorem gX4_canPutBack_X4_bookAt : GoodIn wsX4_canPutBack (va_wsS RX4 53 yX4_bookAt wsX4_bookAt) := goodIn_app (goodIn_of _ (by decide +kernel)) ggX4_canPutBack_X4_bookAt
set_option maxRecDepth 20000 in
theorem ggX4_canPutBack_X4_isBookInside : GoodIn wsX4_canPutBack wsX4_isBookInside := goodIn_r _ [7, 1, 2, 3, 4, 8, 9, 10, 11, 12, 13] rfl rfl
set_option maxRecDepth 20000 in
theorem gX4_canPutBack_X4_isBookInside : GoodIn wsX4_canPutBack (va_wsS RX4 105 yX4_isBookInside wsX4_isBookInside) := goodIn_app (goodIn_of _ (by decide +kernel)) ggX4_canPutBack_X4_isBookInside
theorem dX4_canPutBack_0 : decode cX4_canPutBack 0 = .ok (.aload_n 0, 1) := by decide +kernel
theorem dX4_canPutBack_1 : decode cX4_canPutBack 1 = .ok (.iload_n 1, 1) := by decide +kernel
theorem dX4_canPutBack_2 : decode cX4_canPutBack 2 = .ok (.iconst 0, 1) := by decide +kernel
theorem dX4_canPutBack_3 : decode cX4_canPutBack 3 = .ok (.invokestatic 53, 3) := by decide +kernel
theorem dX4_canPutBack_6 : decode cX4_canPutBack 6 = .ok (.iaload, 1) := by decide +kernel
theorem dX4_canPutBack_7 : decode cX4_canPutBack 7 = .ok (.ifCond .le 15, 3) := by decide +kernel
theorem dX4_canPutBack_10 : decode cX4_canPutBack 10 = .ok (.aload_n 0, 1) := by decide +kernel
theorem dX4_canPutBack_11 : decode cX4_canPutBack 11 = .ok (.iload_n 1, 1) := by decide +kernel
theorem dX4_canPutBack_12 : decode cX4_canPutBack 12 = .ok (.invokestatic 105, 3) := by decide +kernel
theorem dX4_canPutBack_15 : decode cX4_canPutBack 15 = .ok (.ifCond .eq 7, 3) := by decide +kernel
theorem dX4_canPutBack_18 : decode cX4_canPutBack 18 = .ok (.iconst 1, 1) := by decide +kernel
theorem dX4_canPutBack_19 : decode cX4_canPutBack 19 = .ok (.goto 4, 3) := by decide +kernel
theorem dX4_canPutBack_22 : decode cX4_canPutBack 22 = .ok (.iconst 0, 1) := by decide +kernel
theorem dX4_canPutBack_23 : decode cX4_canPutBack 23 = .ok (.ireturn, 1) := by decide +kernel
set_option maxRecDepth 20000 in
theorem ggX4_canBorrow_X4_bookAt : GoodIn wsX4_canBorrow wsX4_bookAt := goodIn_r _ [4] rfl rfl
set_option maxRecDepth 20000 in
theorem gX4_canBorrow_X4_bookAt : GoodIn wsX4_canBorrow (va_wsS RX4 53 yX4_bookAt wsX4_bookAt) := goodIn_app (goodIn_of _ (by decide +kernel)) ggX4_canBorrow_X4_bookAt
set_option maxRecDepth 20000 in
theorem ggX4_canBorrow_X4_isBookInside : GoodIn wsX4_canBorrow wsX4_isBookInside := goodIn_r _ [7, 1, 2, 3, 4, 8, 9, 10, 11, 12, 13] rfl rfl
set_option maxRecDepth 20000 in
theorem gX4_canBorrow_X4_isBookInside : GoodIn wsX4_canBorrow (va_wsS RX4 105 yX4_isBookInside wsX4_isBookInside) := goodIn_app (goodIn_of _ (by decide +kernel)) ggX4_canBorrow_X4_isBookInside
theorem dX4_canBorrow_0 : decode cX4_canBorrow 0 = .ok (.aload_n 0, 1) := by decide +kernel
theorem dX4_canBorrow_1 : decode cX4_canBorrow 1 = .ok (.iload_n 1, 1) := by decide +kernel
theorem dX4_canBorrow_2 : decode cX4_canBorrow 2 = .ok (.iconst 1, 1) := by decide +kernel
theorem dX4_canBorrow_3 : decode cX4_canBorrow 3 = .ok (.invokestatic 53, 3) := by decide +kernel
theorem dX4_canBorrow_6 : decode cX4_canBorrow 6 = .ok (.iaload, 1) := by decide +kernel
theorem dX4_canBorrow_7 : decode cX4_canBorrow 7 = .ok (.iload_n 2, 1) := by decide +kernel
theorem dX4_canBorrow_8 : decode cX4_canBorrow 8 = .ok (.if_icmp .eq 15, 3) := by decide +kernel
theorem dX4_canBorrow_11 : decode cX4_canBorrow 11 = .ok (.aload_n 0, 1) := by decide +kernel
theorem dX4_canBorrow_12 : decode cX4_canBorrow 12 = .ok (.iload_n 1, 1) := by decide +kernel
theorem dX4_canBorrow_13 : decode cX4_canBorrow 13 = .ok (.invokestatic 105, 3) := by decide +kernel
theorem dX4_canBorrow_16 : decode cX4_canBorrow 16 = .ok (.ifCond .eq 7, 3) := by decide +kernel
theorem dX4_canBorrow_19 : decode cX4_canBorrow 19 = .ok (.iconst 1, 1) := by decide +kernel
theorem dX4_canBorrow_20 : decode cX4_canBorrow 20 = .ok (.goto 4, 3) := by decide +kernel
theorem dX4_canBorrow_23 : decode cX4_canBorrow 23 = .ok (.iconst 0, 1) := by decide +kernel
theorem dX4_canBorrow_24 : decode cX4_canBorrow 24 = .ok (.ireturn, 1) := by decide +kernel
set_option maxRecDepth 20000 in
theorem ggX4_borrowed_X4_bookAt : GoodIn wsX4_borrowed wsX4_bookAt := goodIn_r _ [4] rfl rfl
set_option maxRecDepth 20000 in
theorem gX4_borrowed_X4_bookAt : GoodIn wsX4_borrowed (va_wsS RX4 53 yX4_bookAt wsX4_bookAt) := goodIn_app (goodIn_of _ (by decide +kernel)) ggX4_borrowed_X4_bookAt
theorem dX4_borrowed_0 : decode cX4_borrowed 0 = .ok (.iconst 0, 1) := by decide +kernel
theorem dX4_borrowed_1 : decode cX4_borrowed 1 = .ok (.istore_n 1, 1) := by decide +kernel
theorem dX4_borrowed_2 : decode cX4_borrowed 2 = .ok (.iconst 0, 1) := by decide +kernel
theorem dX4_borrowed_3 : decode cX4_borrowed 3 = .ok (.istore_n 2, 1) := by decide +kernel
theorem dX4_borrowed_4 : decode cX4_borrowed 4 = .ok (.iload_n 2, 1) := by decide +kernel
theorem dX4_borrowed_5 : decode cX4_borrowed 5 = .ok (.bipush 20, 2) := by decide +kernel
theorem dX4_borrowed_7 : decode cX4_borrowed 7 = .ok (.if_icmp .ge 19, 3) := by decide +kernel
theorem dX4_borrowed_10 : decode cX4_borrowed 10 = .ok (.iload_n 1, 1) := by decide +kernel
theorem dX4_borrowed_11 : decode cX4_borrowed 11 = .ok (.aload_n 0, 1) := by decide +kernel
theorem dX4_borrowed_12 : decode cX4_borrowed 12 = .ok (.iload_n 2, 1) := by decide +kernel
theorem dX4_borrowed_13 : decode cX4_borrowed 13 = .ok (.iconst 1, 1) := by decide +kernel
theorem dX4_borrowed_14 : decode cX4_borrowed 14 = .ok (.invokestatic 53, 3) := by decide +kernel
theorem dX4_borrowed_17 : decode cX4_borrowed 17 = .ok (.iaload, 1) := by decide +kernel
theorem dX4_borrowed_18 : decode cX4_borrowed 18 = .ok (.iadd, 1) := by decide +kernel
theorem dX4_borrowed_19 : decode cX4_borrowed 19 = .ok (.istore_n 1, 1) := by decide +kernel
theorem dX4_borrowed_20 : decode cX4_borrowed 20 = .ok (.iinc 2 1, 3) := by decide +kernel
theorem dX4_borrowed_23 : decode cX4_borrowed 23 = .ok (.goto (-19), 3) := by decide +kernel
theorem dX4_borrowed_26 : decode cX4_borrowed 26 = .ok (.iload_n 1, 1) := by decide +kernel
theorem dX4_borrowed_27 : decode cX4_borrowed 27 = .ok (.ireturn, 1) := by decide +kernel
set_option maxRecDepth 20000 in
theorem ggX4_canWalk_X4_visitorAt : GoodIn wsX4_canWalk wsX4_visitorAt := goodIn_r _ [4] rfl rfl
set_option maxRecDepth 20000 in
theorem gX4_canWalk_X4_visitorAt : GoodIn wsX4_canWalk (va_wsS RX4 56 yX4_visitorAt wsX4_visitorAt) := goodIn_app (goodIn_of _ (by decide +kernel)) ggX4_canWalk_X4_visitorAt
theorem dX4_canWalk_0 : decode cX4_canWalk 0 = .ok (.aload_n 0, 1) := by decide +kernel
theorem dX4_canWalk_1 : decode cX4_canWalk 1 = .ok (.iload_n 1, 1) := by decide +kernel
theorem dX4_canWalk_2 : decode cX4_canWalk 2 = .ok (.iconst 0, 1) := by decide +kernel
theorem dX4_canWalk_3 : decode cX4_canWalk 3 = .ok (.invokestatic 56, 3) := by decide +kernel
theorem dX4_canWalk_6 : decode cX4_canWalk 6 = .ok (.iaload, 1) := by decide +kernel
theorem dX4_canWalk_7 : decode cX4_canWalk 7 = .ok (.iload_n 2, 1) := by decide +kernel
theorem dX4_canWalk_8 : decode cX4_canWalk 8 = .ok (.ifCond .eq 7, 3) := by decide +kernel
theorem dX4_canWalk_11 : decode cX4_canWalk 11 = .ok (.iconst 0, 1) := by decide +kernel
theorem dX4_canWalk_12 : decode cX4_canWalk 12 = .ok (.goto 4, 3) := by decide +kernel
theorem dX4_canWalk_15 : decode cX4_canWalk 15 = .ok (.iconst 2, 1) := by decide +kernel
theorem dX4_canWalk_16 : decode cX4_canWalk 16 = .ok (.if_icmp .ne 7, 3) := by decide +kernel
theorem dX4_canWalk_19 : decode cX4_canWalk 19 = .ok (.iconst 1, 1) := by decide +kernel
theorem dX4_canWalk_20 : decode cX4_canWalk 20 = .ok (.goto 4, 3) := by decide +kernel
theorem dX4_canWalk_23 : decode cX4_canWalk 23 = .ok (.iconst 0, 1) := by decide +kernel
theorem dX4_canWalk_24 : decode cX4_canWalk 24 = .ok (.ireturn, 1) := by decide +kernel
set_option maxRecDepth 20000 in
theorem ggX4_walkIn_X4_visitorAt : GoodIn wsX4_walkIn wsX4_visitorAt := goodIn_r _ [4] rfl rfl
set_option maxRecDepth 20000 in
theorem gX4_walkIn_X4_visitorAt : GoodIn wsX4_walkIn (va_wsS RX4 56 yX4_visitorAt wsX4_visitorAt) := goodIn_app (goodIn_of _ (by decide +kernel)) ggX4_walkIn_X4_visitorAt
theorem dX4_walkIn_0 : decode cX4_walkIn 0 = .ok (.aload_n 0, 1) := by decide +kernel
theorem dX4_walkIn_1 : decode cX4_walkIn 1 = .ok (.iload_n 1, 1) := by decide +kernel
theorem dX4_walkIn_2 : decode cX4_walkIn 2 = .ok (.iconst 0, 1) := by decide +kernel
theorem dX4_walkIn_3 : decode cX4_walkIn 3 = .ok (.invokestatic 56, 3) := by decide +kernel
theorem dX4_walkIn_6 : decode cX4_walkIn 6 = .ok (.iconst 1, 1) := by decide +kernel
theorem dX4_walkIn_7 : decode cX4_walkIn 7 = .ok (.iastore, 1) := by decide +kernel
theorem dX4_walkIn_8 : decode cX4_walkIn 8 = .ok (.aload_n 0, 1) := by decide +kernel
theorem dX4_walkIn_9 : decode cX4_walkIn 9 = .ok (.iload_n 1, 1) := by decide +kernel
theorem dX4_walkIn_10 : decode cX4_walkIn 10 = .ok (.iconst 1, 1) := by decide +kernel
theorem dX4_walkIn_11 : decode cX4_walkIn 11 = .ok (.invokestatic 56, 3) := by decide +kernel
theorem dX4_walkIn_14 : decode cX4_walkIn 14 = .ok (.iload_n 2, 1) := by decide +kernel
theorem dX4_walkIn_15 : decode cX4_walkIn 15 = .ok (.iastore, 1) := by decide +kernel
theorem dX4_walkIn_16 : decode cX4_walkIn 16 = .ok (.aload_n 0, 1) := by decide +kernel
theorem dX4_walkIn_17 : decode cX4_walkIn 17 = .ok (.iload_n 1, 1) := by decide +kernel
theorem dX4_walkIn_18 : decode cX4_walkIn 18 = .ok (.iconst 2, 1) := by decide +kernel
theorem dX4_walkIn_19 : decode cX4_walkIn 19 = .ok (.invokestatic 56, 3) := by decide +kernel
theorem dX4_walkIn_22 : decode cX4_walkIn 22 = .ok (.iload_n 3, 1) := by decide +kernel
theorem dX4_walkIn_23 : decode cX4_walkIn 23 = .ok (.ifCond .eq 8, 3) := by decide +kernel
theorem dX4_walkIn_26 : decode cX4_walkIn 26 = .ok (.bipush (-3), 2) := by decide +kernel
theorem dX4_walkIn_28 : decode cX4_walkIn 28 = .ok (.goto 4, 3) := by decide +kernel
theorem dX4_walkIn_31 : decode cX4_walkIn 31 = .ok (.iconst 3, 1) := by decide +kernel
theorem dX4_walkIn_32 : decode cX4_walkIn 32 = .ok (.iastore, 1) := by decide +kernel
theorem dX4_walkIn_33 : decode cX4_walkIn 33 = .ok (.aload_n 0, 1) := by decide +kernel
theorem dX4_walkIn_34 : decode cX4_walkIn 34 = .ok (.iload_n 1, 1) := by decide +kernel
theorem dX4_walkIn_35 : decode cX4_walkIn 35 = .ok (.iconst 3, 1) := by decide +kernel
theorem dX4_walkIn_36 : decode cX4_walkIn 36 = .ok (.invokestatic 56, 3) := by decide +kernel
theorem dX4_walkIn_39 : decode cX4_walkIn 39 = .ok (.iload_n 3, 1) := by decide +kernel
theorem dX4_walkIn_40 : decode cX4_walkIn 40 = .ok (.ifCond .eq 7, 3) := by decide +kernel
theorem dX4_walkIn_43 : decode cX4_walkIn 43 = .ok (.iconst 1, 1) := by decide +kernel
theorem dX4_walkIn_44 : decode cX4_walkIn 44 = .ok (.goto 4, 3) := by decide +kernel
theorem dX4_walkIn_47 : decode cX4_walkIn 47 = .ok (.iconst 0, 1) := by decide +kernel
theorem dX4_walkIn_48 : decode cX4_walkIn 48 = .ok (.iastore, 1) := by decide +kernel
theorem dX4_walkIn_49 : decode cX4_walkIn 49 = .ok (.iconst 0, 1) := by decide +kernel
theorem dX4_walkIn_50 : decode cX4_walkIn 50 = .ok (.istore 4, 2) := by decide +kernel
theorem dX4_walkIn_52 : decode cX4_walkIn 52 = .ok (.iconst 0, 1) := by decide +kernel
theorem dX4_walkIn_53 : decode cX4_walkIn 53 = .ok (.istore 5, 2) := by decide +kernel
theorem dX4_walkIn_55 : decode cX4_walkIn 55 = .ok (.iload 5, 2) := by decide +kernel
theorem dX4_walkIn_57 : decode cX4_walkIn 57 = .ok (.bipush 6, 2) := by decide +kernel
theorem dX4_walkIn_59 : decode cX4_walkIn 59 = .ok (.if_icmp .ge 43, 3) := by decide +kernel
theorem dX4_walkIn_62 : decode cX4_walkIn 62 = .ok (.iload 4, 2) := by decide +kernel
theorem dX4_walkIn_64 : decode cX4_walkIn 64 = .ok (.aload_n 0, 1) := by decide +kernel
theorem dX4_walkIn_65 : decode cX4_walkIn 65 = .ok (.iload 5, 2) := by decide +kernel
theorem dX4_walkIn_67 : decode cX4_walkIn 67 = .ok (.iconst 0, 1) := by decide +kernel
theorem dX4_walkIn_68 : decode cX4_walkIn 68 = .ok (.invokestatic 56, 3) := by decide +kernel
theorem dX4_walkIn_71 : decode cX4_walkIn 71 = .ok (.iaload, 1) := by decide +kernel
theorem dX4_walkIn_72 : decode cX4_walkIn 72 = .ok (.iconst 1, 1) := by decide +kernel
theorem dX4_walkIn_73 : decode cX4_walkIn 73 = .ok (.if_icmp .ne 19, 3) := by decide +kernel
theorem dX4_walkIn_76 : decode cX4_walkIn 76 = .ok (.aload_n 0, 1) := by decide +kernel
theorem dX4_walkIn_77 : decode cX4_walkIn 77 = .ok (.iload 5, 2) := by decide +kernel
theorem dX4_walkIn_79 : decode cX4_walkIn 79 = .ok (.iconst 1, 1) := by decide +kernel
theorem dX4_walkIn_80 : decode cX4_walkIn 80 = .ok (.invokestatic 56, 3) := by decide +kernel
theorem dX4_walkIn_83 : decode cX4_walkIn 83 = .ok (.iaload, 1) := by decide +kernel
theorem dX4_walkIn_84 : decode cX4_walkIn 84 = .ok (.iload_n 2, 1) := by decide +kernel
theorem dX4_walkIn_85 : decode cX4_walkIn 85 = .ok (.if_icmp .ne 7, 3) := by decide +kernel
theorem dX4_walkIn_88 : decode cX4_walkIn 88 = .ok (.iconst 1, 1) := by decide +kernel
theorem dX4_walkIn_89 : decode cX4_walkIn 89 = .ok (.goto 4, 3) := by decide +kernel
theorem dX4_walkIn_92 : decode cX4_walkIn 92 = .ok (.iconst 0, 1) := by decide +kernel
theorem dX4_walkIn_93 : decode cX4_walkIn 93 = .ok (.iadd, 1) := by decide +kernel
theorem dX4_walkIn_94 : decode cX4_walkIn 94 = .ok (.istore 4, 2) := by decide +kernel
theorem dX4_walkIn_96 : decode cX4_walkIn 96 = .ok (.iinc 5 1, 3) := by decide +kernel
theorem dX4_walkIn_99 : decode cX4_walkIn 99 = .ok (.goto (-44), 3) := by decide +kernel
theorem dX4_walkIn_102 : decode cX4_walkIn 102 = .ok (.iload 4, 2) := by decide +kernel
theorem dX4_walkIn_104 : decode cX4_walkIn 104 = .ok (.ireturn, 1) := by decide +kernel
set_option maxRecDepth 20000 in
theorem ggX4_isAtGate_X4_visitorAt : GoodIn wsX4_isAtGate wsX4_visitorAt := goodIn_r _ [4] rfl rfl
set_option maxRecDepth 20000 in
theorem gX4_isAtGate_X4_visitorAt : GoodIn wsX4_isAtGate (va_wsS RX4 56 yX4_visitorAt wsX4_visitorAt) := goodIn_app (goodIn_of _ (by decide +kernel)) ggX4_isAtGate_X4_visitorAt
theorem dX4_isAtGate_0 : decode cX4_isAtGate 0 = .ok (.aload_n 0, 1) := by decide +kernel
theorem dX4_isAtGate_1 : decode cX4_isAtGate 1 = .ok (.iload_n 1, 1) := by decide +kernel
theorem dX4_isAtGate_2 : decode cX4_isAtGate 2 = .ok (.iconst 0, 1) := by decide +kernel
theorem dX4_isAtGate_3 : decode cX4_isAtGate 3 = .ok (.invokestatic 56, 3) := by decide +kernel
theorem dX4_isAtGate_6 : decode cX4_isAtGate 6 = .ok (.iaload, 1) := by decide +kernel
theorem dX4_isAtGate_7 : decode cX4_isAtGate 7 = .ok (.iconst 1, 1) := by decide +kernel
theorem dX4_isAtGate_8 : decode cX4_isAtGate 8 = .ok (.if_icmp .ne 7, 3) := by decide +kernel
theorem dX4_isAtGate_11 : decode cX4_isAtGate 11 = .ok (.iconst 1, 1) := by decide +kernel
theorem dX4_isAtGate_12 : decode cX4_isAtGate 12 = .ok (.goto 4, 3) := by decide +kernel
theorem dX4_isAtGate_15 : decode cX4_isAtGate 15 = .ok (.iconst 0, 1) := by decide +kernel
theorem dX4_isAtGate_16 : decode cX4_isAtGate 16 = .ok (.ireturn, 1) := by decide +kernel
set_option maxRecDepth 20000 in
theorem ggX4_turnIn_X4_visitorAt : GoodIn wsX4_turnIn wsX4_visitorAt := goodIn_r _ [4] rfl rfl
set_option maxRecDepth 20000 in
theorem gX4_turnIn_X4_visitorAt : GoodIn wsX4_turnIn (va_wsS RX4 56 yX4_visitorAt wsX4_visitorAt) := goodIn_app (goodIn_of _ (by decide +kernel)) ggX4_turnIn_X4_visitorAt
theorem dX4_turnIn_0 : decode cX4_turnIn 0 = .ok (.aload_n 0, 1) := by decide +kernel
theorem dX4_turnIn_1 : decode cX4_turnIn 1 = .ok (.iload_n 1, 1) := by decide +kernel
theorem dX4_turnIn_2 : decode cX4_turnIn 2 = .ok (.iconst 3, 1) := by decide +kernel
theorem dX4_turnIn_3 : decode cX4_turnIn 3 = .ok (.invokestatic 56, 3) := by decide +kernel
theorem dX4_turnIn_6 : decode cX4_turnIn 6 = .ok (.iconst 1, 1) := by decide +kernel
theorem dX4_turnIn_7 : decode cX4_turnIn 7 = .ok (.aload_n 0, 1) := by decide +kernel
theorem dX4_turnIn_8 : decode cX4_turnIn 8 = .ok (.iload_n 1, 1) := by decide +kernel
theorem dX4_turnIn_9 : decode cX4_turnIn 9 = .ok (.iconst 3, 1) := by decide +kernel
theorem dX4_turnIn_10 : decode cX4_turnIn 10 = .ok (.invokestatic 56, 3) := by decide +kernel
theorem dX4_turnIn_13 : decode cX4_turnIn 13 = .ok (.iaload, 1) := by decide +kernel
theorem dX4_turnIn_14 : decode cX4_turnIn 14 = .ok (.isub, 1) := by decide +kernel
theorem dX4_turnIn_15 : decode cX4_turnIn 15 = .ok (.iastore, 1) := by decide +kernel
theorem dX4_turnIn_16 : decode cX4_turnIn 16 = .ok (.aload_n 0, 1) := by decide +kernel
theorem dX4_turnIn_17 : decode cX4_turnIn 17 = .ok (.iload_n 1, 1) := by decide +kernel
theorem dX4_turnIn_18 : decode cX4_turnIn 18 = .ok (.iconst 3, 1) := by decide +kernel
theorem dX4_turnIn_19 : decode cX4_turnIn 19 = .ok (.invokestatic 56, 3) := by decide +kernel
theorem dX4_turnIn_22 : decode cX4_turnIn 22 = .ok (.iaload, 1) := by decide +kernel
theorem dX4_turnIn_23 : decode cX4_turnIn 23 = .ok (.ireturn, 1) := by decide +kernel
set_option maxRecDepth 20000 in
theorem ggX4_append_X4_in : GoodIn wsX4_append wsX4_in := goodIn_r _ [7] rfl rfl
set_option maxRecDepth 20000 in
theorem gX4_append_X4_in : GoodIn wsX4_append (va_wsS RX4 69 yX4_in wsX4_in) := goodIn_app (goodIn_of _ (by decide +kernel)) ggX4_append_X4_in
set_option maxRecDepth 20000 in
theorem ggX4_append_X4_refused : GoodIn wsX4_append wsX4_refused := goodIn_r _ [11, 12, 13, 14, 15, 16, 17, 18, 19, 20, 21, 22, 23, 24, 25] rfl rfl
set_option maxRecDepth 20000 in
theorem gX4_append_X4_refused : GoodIn wsX4_append (wsV RX4 113 RX4 yX4_refused wsX4_refused) := goodIn_app (goodIn_of _ (by decide +kernel)) ggX4_append_X4_refused
theorem dX4_append_0 : decode cX4_append 0 = .ok (.aload_n 0, 1) := by decide +kernel
theorem dX4_append_1 : decode cX4_append 1 = .ok (.iload_n 1, 1) := by decide +kernel
theorem dX4_append_2 : decode cX4_append 2 = .ok (.i2l, 1) := by decide +kernel
theorem dX4_append_3 : decode cX4_append 3 = .ok (.lconst 0, 1) := by decide +kernel
theorem dX4_append_4 : decode cX4_append 4 = .ok (.ldc2_w 108, 3) := by decide +kernel
theorem dX4_append_7 : decode cX4_append 7 = .ok (.invokestatic 69, 3) := by decide +kernel
theorem dX4_append_10 : decode cX4_append 10 = .ok (.ifCond .ne 7, 3) := by decide +kernel
theorem dX4_append_13 : decode cX4_append 13 = .ok (.iconst 1, 1) := by decide +kernel
theorem dX4_append_14 : decode cX4_append 14 = .ok (.goto 17, 3) := by decide +kernel
theorem dX4_append_17 : decode cX4_append 17 = .ok (.aload_n 0, 1) := by decide +kernel
theorem dX4_append_18 : decode cX4_append 18 = .ok (.getfield 110, 3) := by decide +kernel
theorem dX4_append_21 : decode cX4_append 21 = .ok (.bipush 120, 2) := by decide +kernel
theorem dX4_append_23 : decode cX4_append 23 = .ok (.if_icmp .ne 7, 3) := by decide +kernel
theorem dX4_append_26 : decode cX4_append 26 = .ok (.iconst 2, 1) := by decide +kernel
theorem dX4_append_27 : decode cX4_append 27 = .ok (.goto 4, 3) := by decide +kernel
theorem dX4_append_30 : decode cX4_append 30 = .ok (.iconst 0, 1) := by decide +kernel
theorem dX4_append_31 : decode cX4_append 31 = .ok (.invokevirtual 113, 3) := by decide +kernel
theorem dX4_append_34 : decode cX4_append 34 = .ok (.ifCond .eq 5, 3) := by decide +kernel
theorem dX4_append_37 : decode cX4_append 37 = .ok (.iconst 0, 1) := by decide +kernel
theorem dX4_append_38 : decode cX4_append 38 = .ok (.ireturn, 1) := by decide +kernel
theorem dX4_append_39 : decode cX4_append 39 = .ok (.aload_n 0, 1) := by decide +kernel
theorem dX4_append_40 : decode cX4_append 40 = .ok (.getfield 7, 3) := by decide +kernel
theorem dX4_append_43 : decode cX4_append 43 = .ok (.aload_n 0, 1) := by decide +kernel
theorem dX4_append_44 : decode cX4_append 44 = .ok (.getfield 110, 3) := by decide +kernel
theorem dX4_append_47 : decode cX4_append 47 = .ok (.iload_n 1, 1) := by decide +kernel
theorem dX4_append_48 : decode cX4_append 48 = .ok (.iastore, 1) := by decide +kernel
theorem dX4_append_49 : decode cX4_append 49 = .ok (.aload_n 0, 1) := by decide +kernel
theorem dX4_append_50 : decode cX4_append 50 = .ok (.dup, 1) := by decide +kernel
theorem dX4_append_51 : decode cX4_append 51 = .ok (.getfield 110, 3) := by decide +kernel
theorem dX4_append_54 : decode cX4_append 54 = .ok (.iconst 1, 1) := by decide +kernel
theorem dX4_append_55 : decode cX4_append 55 = .ok (.iadd, 1) := by decide +kernel
theorem dX4_append_56 : decode cX4_append 56 = .ok (.putfield 110, 3) := by decide +kernel
theorem dX4_append_59 : decode cX4_append 59 = .ok (.aload_n 0, 1) := by decide +kernel
theorem dX4_append_60 : decode cX4_append 60 = .ok (.getfield 110, 3) := by decide +kernel
theorem dX4_append_63 : decode cX4_append 63 = .ok (.ireturn, 1) := by decide +kernel
theorem dX4_clearText_0 : decode cX4_clearText 0 = .ok (.aload_n 0, 1) := by decide +kernel
theorem dX4_clearText_1 : decode cX4_clearText 1 = .ok (.iconst 0, 1) := by decide +kernel
theorem dX4_clearText_2 : decode cX4_clearText 2 = .ok (.putfield 36, 3) := by decide +kernel
theorem dX4_clearText_5 : decode cX4_clearText 5 = .ok (.aload_n 0, 1) := by decide +kernel
theorem dX4_clearText_6 : decode cX4_clearText 6 = .ok (.getfield 110, 3) := by decide +kernel
theorem dX4_clearText_9 : decode cX4_clearText 9 = .ok (.istore_n 1, 1) := by decide +kernel
theorem dX4_clearText_10 : decode cX4_clearText 10 = .ok (.aload_n 0, 1) := by decide +kernel
theorem dX4_clearText_11 : decode cX4_clearText 11 = .ok (.iconst 0, 1) := by decide +kernel
theorem dX4_clearText_12 : decode cX4_clearText 12 = .ok (.putfield 110, 3) := by decide +kernel
theorem dX4_clearText_15 : decode cX4_clearText 15 = .ok (.iload_n 1, 1) := by decide +kernel
theorem dX4_clearText_16 : decode cX4_clearText 16 = .ok (.ireturn, 1) := by decide +kernel
theorem dX4_accept_0 : decode cX4_accept 0 = .ok (.aload_n 0, 1) := by decide +kernel
theorem dX4_accept_1 : decode cX4_accept 1 = .ok (.aload_n 0, 1) := by decide +kernel
theorem dX4_accept_2 : decode cX4_accept 2 = .ok (.getfield 117, 3) := by decide +kernel
theorem dX4_accept_5 : decode cX4_accept 5 = .ok (.ifCond .eq 11, 3) := by decide +kernel
theorem dX4_accept_8 : decode cX4_accept 8 = .ok (.iload_n 1, 1) := by decide +kernel
theorem dX4_accept_9 : decode cX4_accept 9 = .ok (.ifCond .eq 7, 3) := by decide +kernel
theorem dX4_accept_12 : decode cX4_accept 12 = .ok (.iconst 1, 1) := by decide +kernel
theorem dX4_accept_13 : decode cX4_accept 13 = .ok (.goto 4, 3) := by decide +kernel
theorem dX4_accept_16 : decode cX4_accept 16 = .ok (.iconst 0, 1) := by decide +kernel
theorem dX4_accept_17 : decode cX4_accept 17 = .ok (.putfield 117, 3) := by decide +kernel
theorem dX4_accept_20 : decode cX4_accept 20 = .ok (.aload_n 0, 1) := by decide +kernel
theorem dX4_accept_21 : decode cX4_accept 21 = .ok (.dup, 1) := by decide +kernel
theorem dX4_accept_22 : decode cX4_accept 22 = .ok (.getfield 121, 3) := by decide +kernel
theorem dX4_accept_25 : decode cX4_accept 25 = .ok (.aload_n 0, 1) := by decide +kernel
theorem dX4_accept_26 : decode cX4_accept 26 = .ok (.getfield 117, 3) := by decide +kernel
theorem dX4_accept_29 : decode cX4_accept 29 = .ok (.ifCond .eq 7, 3) := by decide +kernel
theorem dX4_accept_32 : decode cX4_accept 32 = .ok (.iconst 1, 1) := by decide +kernel
theorem dX4_accept_33 : decode cX4_accept 33 = .ok (.goto 4, 3) := by decide +kernel
theorem dX4_accept_36 : decode cX4_accept 36 = .ok (.iconst 0, 1) := by decide +kernel
theorem dX4_accept_37 : decode cX4_accept 37 = .ok (.iadd, 1) := by decide +kernel
theorem dX4_accept_38 : decode cX4_accept 38 = .ok (.putfield 121, 3) := by decide +kernel
theorem dX4_accept_41 : decode cX4_accept 41 = .ok (.return_, 1) := by decide +kernel
set_option maxRecDepth 20000 in
theorem ggX4_digit_X4_in : GoodIn wsX4_digit wsX4_in := goodIn_r _ [9] rfl rfl
set_option maxRecDepth 20000 in
theorem gX4_digit_X4_in : GoodIn wsX4_digit (va_wsS RX4 69 yX4_in wsX4_in) := goodIn_app (goodIn_of _ (by decide +kernel)) ggX4_digit_X4_in
set_option maxRecDepth 20000 in
theorem ggX4_digit_X4_accept : GoodIn wsX4_digit wsX4_accept := goodIn_r _ [13, 5, 1, 14, 15, 16, 17, 18, 19, 20, 21, 22, 23, 24, 25, 26] rfl rfl
set_option maxRecDepth 20000 in
theorem gX4_digit_X4_accept : GoodIn wsX4_digit (wsV RX4 126 RX4 yX4_accept wsX4_accept) := goodIn_app (goodIn_of _ (by decide +kernel)) ggX4_digit_X4_accept
theorem dX4_digit_0 : decode cX4_digit 0 = .ok (.aload_n 0, 1) := by decide +kernel
theorem dX4_digit_1 : decode cX4_digit 1 = .ok (.getfield 121, 3) := by decide +kernel
theorem dX4_digit_4 : decode cX4_digit 4 = .ok (.aload_n 0, 1) := by decide +kernel
theorem dX4_digit_5 : decode cX4_digit 5 = .ok (.getfield 110, 3) := by decide +kernel
theorem dX4_digit_8 : decode cX4_digit 8 = .ok (.if_icmp .ge 18, 3) := by decide +kernel
theorem dX4_digit_11 : decode cX4_digit 11 = .ok (.aload_n 0, 1) := by decide +kernel
theorem dX4_digit_12 : decode cX4_digit 12 = .ok (.getfield 7, 3) := by decide +kernel
theorem dX4_digit_15 : decode cX4_digit 15 = .ok (.aload_n 0, 1) := by decide +kernel
theorem dX4_digit_16 : decode cX4_digit 16 = .ok (.getfield 121, 3) := by decide +kernel
theorem dX4_digit_19 : decode cX4_digit 19 = .ok (.iaload, 1) := by decide +kernel
theorem dX4_digit_20 : decode cX4_digit 20 = .ok (.bipush 48, 2) := by decide +kernel
theorem dX4_digit_22 : decode cX4_digit 22 = .ok (.isub, 1) := by decide +kernel
theorem dX4_digit_23 : decode cX4_digit 23 = .ok (.goto 5, 3) := by decide +kernel
theorem dX4_digit_26 : decode cX4_digit 26 = .ok (.bipush (-9), 2) := by decide +kernel
theorem dX4_digit_28 : decode cX4_digit 28 = .ok (.istore_n 3, 1) := by decide +kernel
theorem dX4_digit_29 : decode cX4_digit 29 = .ok (.aload_n 0, 1) := by decide +kernel
theorem dX4_digit_30 : decode cX4_digit 30 = .ok (.iload_n 3, 1) := by decide +kernel
theorem dX4_digit_31 : decode cX4_digit 31 = .ok (.i2l, 1) := by decide +kernel
theorem dX4_digit_32 : decode cX4_digit 32 = .ok (.lconst 0, 1) := by decide +kernel
theorem dX4_digit_33 : decode cX4_digit 33 = .ok (.ldc2_w 124, 3) := by decide +kernel
theorem dX4_digit_36 : decode cX4_digit 36 = .ok (.invokestatic 69, 3) := by decide +kernel
theorem dX4_digit_39 : decode cX4_digit 39 = .ok (.ifCond .eq 19, 3) := by decide +kernel
theorem dX4_digit_42 : decode cX4_digit 42 = .ok (.iload_n 3, 1) := by decide +kernel
theorem dX4_digit_43 : decode cX4_digit 43 = .ok (.i2l, 1) := by decide +kernel
theorem dX4_digit_44 : decode cX4_digit 44 = .ok (.iload_n 1, 1) := by decide +kernel
theorem dX4_digit_45 : decode cX4_digit 45 = .ok (.i2l, 1) := by decide +kernel
theorem dX4_digit_46 : decode cX4_digit 46 = .ok (.iload_n 2, 1) := by decide +kernel
theorem dX4_digit_47 : decode cX4_digit 47 = .ok (.i2l, 1) := by decide +kernel
theorem dX4_digit_48 : decode cX4_digit 48 = .ok (.invokestatic 69, 3) := by decide +kernel
theorem dX4_digit_51 : decode cX4_digit 51 = .ok (.ifCond .eq 7, 3) := by decide +kernel
theorem dX4_digit_54 : decode cX4_digit 54 = .ok (.iconst 1, 1) := by decide +kernel
theorem dX4_digit_55 : decode cX4_digit 55 = .ok (.goto 4, 3) := by decide +kernel
theorem dX4_digit_58 : decode cX4_digit 58 = .ok (.iconst 0, 1) := by decide +kernel
theorem dX4_digit_59 : decode cX4_digit 59 = .ok (.invokevirtual 126, 3) := by decide +kernel
theorem dX4_digit_62 : decode cX4_digit 62 = .ok (.aload_n 0, 1) := by decide +kernel
theorem dX4_digit_63 : decode cX4_digit 63 = .ok (.getfield 117, 3) := by decide +kernel
theorem dX4_digit_66 : decode cX4_digit 66 = .ok (.ifCond .eq 7, 3) := by decide +kernel
theorem dX4_digit_69 : decode cX4_digit 69 = .ok (.iload_n 3, 1) := by decide +kernel
theorem dX4_digit_70 : decode cX4_digit 70 = .ok (.goto 4, 3) := by decide +kernel
theorem dX4_digit_73 : decode cX4_digit 73 = .ok (.iload_n 1, 1) := by decide +kernel
theorem dX4_digit_74 : decode cX4_digit 74 = .ok (.ireturn, 1) := by decide +kernel
set_option maxRecDepth 20000 in
theorem ggX4_two_X4_digit : GoodIn wsX4_two wsX4_digit := goodIn_r _ [5, 6, 7, 8, 9, 10, 11, 12, 4, 13, 14, 15, 16, 17, 18, 19, 20, 21, 22, 23, 24, 25, 26, 27, 28, 29, 30] rfl rfl
set_option maxRecDepth 20000 in
theorem gX4_two_X4_digit : GoodIn wsX4_two (wsV RX4 130 RX4 yX4_digit wsX4_digit) := goodIn_app (goodIn_of _ (by decide +kernel)) ggX4_two_X4_digit
theorem dX4_two_0 : decode cX4_two 0 = .ok (.aload_n 0, 1) := by decide +kernel
theorem dX4_two_1 : decode cX4_two 1 = .ok (.iconst 0, 1) := by decide +kernel
theorem dX4_two_2 : decode cX4_two 2 = .ok (.iload_n 1, 1) := by decide +kernel
theorem dX4_two_3 : decode cX4_two 3 = .ok (.bipush 10, 2) := by decide +kernel
theorem dX4_two_5 : decode cX4_two 5 = .ok (.idiv, 1) := by decide +kernel
theorem dX4_two_6 : decode cX4_two 6 = .ok (.invokevirtual 130, 3) := by decide +kernel
theorem dX4_two_9 : decode cX4_two 9 = .ok (.istore_n 2, 1) := by decide +kernel
theorem dX4_two_10 : decode cX4_two 10 = .ok (.iload_n 1, 1) := by decide +kernel
theorem dX4_two_11 : decode cX4_two 11 = .ok (.bipush 10, 2) := by decide +kernel
theorem dX4_two_13 : decode cX4_two 13 = .ok (.iload_n 2, 1) := by decide +kernel
theorem dX4_two_14 : decode cX4_two 14 = .ok (.imul, 1) := by decide +kernel
theorem dX4_two_15 : decode cX4_two 15 = .ok (.isub, 1) := by decide +kernel
theorem dX4_two_16 : decode cX4_two 16 = .ok (.istore_n 3, 1) := by decide +kernel
theorem dX4_two_17 : decode cX4_two 17 = .ok (.bipush 10, 2) := by decide +kernel
theorem dX4_two_19 : decode cX4_two 19 = .ok (.iload_n 2, 1) := by decide +kernel
theorem dX4_two_20 : decode cX4_two 20 = .ok (.imul, 1) := by decide +kernel
theorem dX4_two_21 : decode cX4_two 21 = .ok (.aload_n 0, 1) := by decide +kernel
theorem dX4_two_22 : decode cX4_two 22 = .ok (.iconst 0, 1) := by decide +kernel
theorem dX4_two_23 : decode cX4_two 23 = .ok (.iload_n 3, 1) := by decide +kernel
theorem dX4_two_24 : decode cX4_two 24 = .ok (.bipush 9, 2) := by decide +kernel
theorem dX4_two_26 : decode cX4_two 26 = .ok (.if_icmp .le 8, 3) := by decide +kernel
theorem dX4_two_29 : decode cX4_two 29 = .ok (.bipush 9, 2) := by decide +kernel
theorem dX4_two_31 : decode cX4_two 31 = .ok (.goto 4, 3) := by decide +kernel
theorem dX4_two_34 : decode cX4_two 34 = .ok (.iload_n 3, 1) := by decide +kernel
theorem dX4_two_35 : decode cX4_two 35 = .ok (.invokevirtual 130, 3) := by decide +kernel
theorem dX4_two_38 : decode cX4_two 38 = .ok (.iadd, 1) := by decide +kernel
theorem dX4_two_39 : decode cX4_two 39 = .ok (.ireturn, 1) := by decide +kernel
theorem dX4_goes_0 : decode cX4_goes 0 = .ok (.aload_n 0, 1) := by decide +kernel
theorem dX4_goes_1 : decode cX4_goes 1 = .ok (.dup, 1) := by decide +kernel
theorem dX4_goes_2 : decode cX4_goes 2 = .ok (.getfield 133, 3) := by decide +kernel
theorem dX4_goes_5 : decode cX4_goes 5 = .ok (.aload_n 0, 1) := by decide +kernel
theorem dX4_goes_6 : decode cX4_goes 6 = .ok (.getfield 117, 3) := by decide +kernel
theorem dX4_goes_9 : decode cX4_goes 9 = .ok (.ifCond .eq 11, 3) := by decide +kernel
theorem dX4_goes_12 : decode cX4_goes 12 = .ok (.iload_n 1, 1) := by decide +kernel
theorem dX4_goes_13 : decode cX4_goes 13 = .ok (.ifCond .ne 7, 3) := by decide +kernel
theorem dX4_goes_16 : decode cX4_goes 16 = .ok (.iconst 1, 1) := by decide +kernel
theorem dX4_goes_17 : decode cX4_goes 17 = .ok (.goto 4, 3) := by decide +kernel
theorem dX4_goes_20 : decode cX4_goes 20 = .ok (.iconst 0, 1) := by decide +kernel
theorem dX4_goes_21 : decode cX4_goes 21 = .ok (.iadd, 1) := by decide +kernel
theorem dX4_goes_22 : decode cX4_goes 22 = .ok (.putfield 133, 3) := by decide +kernel
theorem dX4_goes_25 : decode cX4_goes 25 = .ok (.aload_n 0, 1) := by decide +kernel
theorem dX4_goes_26 : decode cX4_goes 26 = .ok (.getfield 117, 3) := by decide +kernel
theorem dX4_goes_29 : decode cX4_goes 29 = .ok (.ifCond .eq 11, 3) := by decide +kernel
theorem dX4_goes_32 : decode cX4_goes 32 = .ok (.iload_n 1, 1) := by decide +kernel
theorem dX4_goes_33 : decode cX4_goes 33 = .ok (.ifCond .eq 7, 3) := by decide +kernel
theorem dX4_goes_36 : decode cX4_goes 36 = .ok (.iconst 1, 1) := by decide +kernel
theorem dX4_goes_37 : decode cX4_goes 37 = .ok (.goto 4, 3) := by decide +kernel
theorem dX4_goes_40 : decode cX4_goes 40 = .ok (.iconst 0, 1) := by decide +kernel
theorem dX4_goes_41 : decode cX4_goes 41 = .ok (.ireturn, 1) := by decide +kernel
set_option maxRecDepth 20000 in
theorem ggX4_readBooks_X4_digit : GoodIn wsX4_readBooks wsX4_digit := goodIn_r _ [6, 7, 8, 9, 10, 11, 12, 13, 5, 14, 15, 16, 17, 18, 49, 50, 51, 52, 53, 54, 55, 56, 57, 58, 59, 60, 61] rfl rfl
set_option maxRecDepth 20000 in
theorem gX4_readBooks_X4_digit : GoodIn wsX4_readBooks (wsV RX4 130 RX4 yX4_digit wsX4_digit) := goodIn_app (goodIn_of _ (by decide +kernel)) ggX4_readBooks_X4_digit
set_option maxRecDepth 20000 in
theorem ggX4_readBooks_X4_two : GoodIn wsX4_readBooks wsX4_two := goodIn_r _ [22, 2, 3, 4, 5, 6, 7, 8, 9, 10, 11, 12, 13, 14, 15, 16, 17, 18, 49, 50, 51, 52, 53, 54, 55, 56, 57, 58, 59, 60, 61] rfl rfl
set_option maxRecDepth 20000 in
theorem gX4_readBooks_X4_two : GoodIn wsX4_readBooks (wsV RX4 136 RX4 yX4_two wsX4_two) := goodIn_app (goodIn_of _ (by decide +kernel)) ggX4_readBooks_X4_two
set_option maxRecDepth 20000 in
theorem ggX4_readBooks_X4_canTake : GoodIn wsX4_readBooks wsX4_canTake := goodIn_r _ [25, 26, 27, 5, 28, 29, 30, 31, 32, 33, 34, 35, 36, 37] rfl rfl
set_option maxRecDepth 20000 in
theorem gX4_readBooks_X4_canTake : GoodIn wsX4_readBooks (va_wsS RX4 140 yX4_canTake wsX4_canTake) := goodIn_app (goodIn_of _ (by decide +kernel)) ggX4_readBooks_X4_canTake
set_option maxRecDepth 20000 in
theorem ggX4_readBooks_X4_goes : GoodIn wsX4_readBooks wsX4_goes := goodIn_r _ [41, 42, 11, 49, 50, 51, 52, 53, 54, 55, 56, 57, 58, 59, 60, 61] rfl rfl
set_option maxRecDepth 20000 in
theorem gX4_readBooks_X4_goes : GoodIn wsX4_readBooks (wsV RX4 143 RX4 yX4_goes wsX4_goes) := goodIn_app (goodIn_of _ (by decide +kernel)) ggX4_readBooks_X4_goes
set_option maxRecDepth 20000 in
theorem ggX4_readBooks_X4_bookAt : GoodIn wsX4_readBooks wsX4_bookAt := goodIn_r _ [28] rfl rfl
set_option maxRecDepth 20000 in
theorem gX4_readBooks_X4_bookAt : GoodIn wsX4_readBooks (va_wsS RX4 53 yX4_bookAt wsX4_bookAt) := goodIn_app (goodIn_of _ (by decide +kernel)) ggX4_readBooks_X4_bookAt
set_option maxRecDepth 20000 in
theorem ggX4_readBooks_X4_canPutBack : GoodIn wsX4_readBooks wsX4_canPutBack := goodIn_r _ [45, 26, 27, 5, 28, 46, 47, 48, 29, 30, 31, 32, 33, 34] rfl rfl
set_option maxRecDepth 20000 in
theorem gX4_readBooks_X4_canPutBack : GoodIn wsX4_readBooks (va_wsS RX4 147 yX4_canPutBack wsX4_canPutBack) := goodIn_app (goodIn_of _ (by decide +kernel)) ggX4_readBooks_X4_canPutBack
set_option maxRecDepth 20000 in
theorem ggX4_readBooks_X4_isBookInside : GoodIn wsX4_readBooks wsX4_isBookInside := goodIn_r _ [48, 26, 27, 5, 28, 29, 30, 31, 32, 33, 34] rfl rfl
set_option maxRecDepth 20000 in
theorem gX4_readBooks_X4_isBookInside : GoodIn wsX4_readBooks (va_wsS RX4 105 yX4_isBookInside wsX4_isBookInside) := goodIn_app (goodIn_of _ (by decide +kernel)) ggX4_readBooks_X4_isBookInside
theorem dX4_readBooks_0 : decode cX4_readBooks 0 = .ok (.iload_n 1, 1) := by decide +kernel
theorem dX4_readBooks_1 : decode cX4_readBooks 1 = .ok (.bipush 116, 2) := by decide +kernel
theorem dX4_readBooks_3 : decode cX4_readBooks 3 = .ok (.if_icmp .ne 12, 3) := by decide +kernel
theorem dX4_readBooks_6 : decode cX4_readBooks 6 = .ok (.aload_n 0, 1) := by decide +kernel
theorem dX4_readBooks_7 : decode cX4_readBooks 7 = .ok (.iconst 0, 1) := by decide +kernel
theorem dX4_readBooks_8 : decode cX4_readBooks 8 = .ok (.iconst 5, 1) := by decide +kernel
theorem dX4_readBooks_9 : decode cX4_readBooks 9 = .ok (.invokevirtual 130, 3) := by decide +kernel
theorem dX4_readBooks_12 : decode cX4_readBooks 12 = .ok (.goto 4, 3) := by decide +kernel
theorem dX4_readBooks_15 : decode cX4_readBooks 15 = .ok (.iconst 0, 1) := by decide +kernel
theorem dX4_readBooks_16 : decode cX4_readBooks 16 = .ok (.istore_n 2, 1) := by decide +kernel
theorem dX4_readBooks_17 : decode cX4_readBooks 17 = .ok (.aload_n 0, 1) := by decide +kernel
theorem dX4_readBooks_18 : decode cX4_readBooks 18 = .ok (.bipush 19, 2) := by decide +kernel
theorem dX4_readBooks_20 : decode cX4_readBooks 20 = .ok (.invokevirtual 136, 3) := by decide +kernel
theorem dX4_readBooks_23 : decode cX4_readBooks 23 = .ok (.istore_n 3, 1) := by decide +kernel
theorem dX4_readBooks_24 : decode cX4_readBooks 24 = .ok (.iload_n 1, 1) := by decide +kernel
theorem dX4_readBooks_25 : decode cX4_readBooks 25 = .ok (.bipush 116, 2) := by decide +kernel
theorem dX4_readBooks_27 : decode cX4_readBooks 27 = .ok (.if_icmp .ne 35, 3) := by decide +kernel
theorem dX4_readBooks_30 : decode cX4_readBooks 30 = .ok (.aload_n 0, 1) := by decide +kernel
theorem dX4_readBooks_31 : decode cX4_readBooks 31 = .ok (.aload_n 0, 1) := by decide +kernel
theorem dX4_readBooks_32 : decode cX4_readBooks 32 = .ok (.getfield 13, 3) := by decide +kernel
theorem dX4_readBooks_35 : decode cX4_readBooks 35 = .ok (.iload_n 2, 1) := by decide +kernel
theorem dX4_readBooks_36 : decode cX4_readBooks 36 = .ok (.iload_n 3, 1) := by decide +kernel
theorem dX4_readBooks_37 : decode cX4_readBooks 37 = .ok (.invokestatic 140, 3) := by decide +kernel
theorem dX4_readBooks_40 : decode cX4_readBooks 40 = .ok (.invokevirtual 143, 3) := by decide +kernel
theorem dX4_readBooks_43 : decode cX4_readBooks 43 = .ok (.ifCond .eq 91, 3) := by decide +kernel
theorem dX4_readBooks_46 : decode cX4_readBooks 46 = .ok (.aload_n 0, 1) := by decide +kernel
theorem dX4_readBooks_47 : decode cX4_readBooks 47 = .ok (.getfield 13, 3) := by decide +kernel
theorem dX4_readBooks_50 : decode cX4_readBooks 50 = .ok (.iload_n 3, 1) := by decide +kernel
theorem dX4_readBooks_51 : decode cX4_readBooks 51 = .ok (.iconst 0, 1) := by decide +kernel
theorem dX4_readBooks_52 : decode cX4_readBooks 52 = .ok (.invokestatic 53, 3) := by decide +kernel
theorem dX4_readBooks_55 : decode cX4_readBooks 55 = .ok (.iload_n 2, 1) := by decide +kernel
theorem dX4_readBooks_56 : decode cX4_readBooks 56 = .ok (.iconst 1, 1) := by decide +kernel
theorem dX4_readBooks_57 : decode cX4_readBooks 57 = .ok (.iadd, 1) := by decide +kernel
theorem dX4_readBooks_58 : decode cX4_readBooks 58 = .ok (.iastore, 1) := by decide +kernel
theorem dX4_readBooks_59 : decode cX4_readBooks 59 = .ok (.goto 75, 3) := by decide +kernel
theorem dX4_readBooks_62 : decode cX4_readBooks 62 = .ok (.iload_n 1, 1) := by decide +kernel
theorem dX4_readBooks_63 : decode cX4_readBooks 63 = .ok (.bipush 112, 2) := by decide +kernel
theorem dX4_readBooks_65 : decode cX4_readBooks 65 = .ok (.if_icmp .ne 32, 3) := by decide +kernel
theorem dX4_readBooks_68 : decode cX4_readBooks 68 = .ok (.aload_n 0, 1) := by decide +kernel
theorem dX4_readBooks_69 : decode cX4_readBooks 69 = .ok (.aload_n 0, 1) := by decide +kernel
theorem dX4_readBooks_70 : decode cX4_readBooks 70 = .ok (.getfield 13, 3) := by decide +kernel
theorem dX4_readBooks_73 : decode cX4_readBooks 73 = .ok (.iload_n 3, 1) := by decide +kernel
theorem dX4_readBooks_74 : decode cX4_readBooks 74 = .ok (.invokestatic 147, 3) := by decide +kernel
theorem dX4_readBooks_77 : decode cX4_readBooks 77 = .ok (.invokevirtual 143, 3) := by decide +kernel
theorem dX4_readBooks_80 : decode cX4_readBooks 80 = .ok (.ifCond .eq 54, 3) := by decide +kernel
theorem dX4_readBooks_83 : decode cX4_readBooks 83 = .ok (.aload_n 0, 1) := by decide +kernel
theorem dX4_readBooks_84 : decode cX4_readBooks 84 = .ok (.getfield 13, 3) := by decide +kernel
theorem dX4_readBooks_87 : decode cX4_readBooks 87 = .ok (.iload_n 3, 1) := by decide +kernel
theorem dX4_readBooks_88 : decode cX4_readBooks 88 = .ok (.iconst 0, 1) := by decide +kernel
theorem dX4_readBooks_89 : decode cX4_readBooks 89 = .ok (.invokestatic 53, 3) := by decide +kernel
theorem dX4_readBooks_92 : decode cX4_readBooks 92 = .ok (.iconst 0, 1) := by decide +kernel
theorem dX4_readBooks_93 : decode cX4_readBooks 93 = .ok (.iastore, 1) := by decide +kernel
theorem dX4_readBooks_94 : decode cX4_readBooks 94 = .ok (.goto 40, 3) := by decide +kernel
theorem dX4_readBooks_97 : decode cX4_readBooks 97 = .ok (.aload_n 0, 1) := by decide +kernel
theorem dX4_readBooks_98 : decode cX4_readBooks 98 = .ok (.aload_n 0, 1) := by decide +kernel
theorem dX4_readBooks_99 : decode cX4_readBooks 99 = .ok (.getfield 13, 3) := by decide +kernel
theorem dX4_readBooks_102 : decode cX4_readBooks 102 = .ok (.iload_n 3, 1) := by decide +kernel
theorem dX4_readBooks_103 : decode cX4_readBooks 103 = .ok (.invokestatic 105, 3) := by decide +kernel
theorem dX4_readBooks_106 : decode cX4_readBooks 106 = .ok (.invokevirtual 143, 3) := by decide +kernel
theorem dX4_readBooks_109 : decode cX4_readBooks 109 = .ok (.ifCond .eq 25, 3) := by decide +kernel
theorem dX4_readBooks_112 : decode cX4_readBooks 112 = .ok (.aload_n 0, 1) := by decide +kernel
theorem dX4_readBooks_113 : decode cX4_readBooks 113 = .ok (.getfield 13, 3) := by decide +kernel
theorem dX4_readBooks_116 : decode cX4_readBooks 116 = .ok (.iload_n 3, 1) := by decide +kernel
theorem dX4_readBooks_117 : decode cX4_readBooks 117 = .ok (.iconst 1, 1) := by decide +kernel
theorem dX4_readBooks_118 : decode cX4_readBooks 118 = .ok (.invokestatic 53, 3) := by decide +kernel
theorem dX4_readBooks_121 : decode cX4_readBooks 121 = .ok (.iconst 1, 1) := by decide +kernel
theorem dX4_readBooks_122 : decode cX4_readBooks 122 = .ok (.aload_n 0, 1) := by decide +kernel
theorem dX4_readBooks_123 : decode cX4_readBooks 123 = .ok (.getfield 13, 3) := by decide +kernel
theorem dX4_readBooks_126 : decode cX4_readBooks 126 = .ok (.iload_n 3, 1) := by decide +kernel
theorem dX4_readBooks_127 : decode cX4_readBooks 127 = .ok (.iconst 1, 1) := by decide +kernel
theorem dX4_readBooks_128 : decode cX4_readBooks 128 = .ok (.invokestatic 53, 3) := by decide +kernel
theorem dX4_readBooks_131 : decode cX4_readBooks 131 = .ok (.iaload, 1) := by decide +kernel
theorem dX4_readBooks_132 : decode cX4_readBooks 132 = .ok (.isub, 1) := by decide +kernel
theorem dX4_readBooks_133 : decode cX4_readBooks 133 = .ok (.iastore, 1) := by decide +kernel
theorem dX4_readBooks_134 : decode cX4_readBooks 134 = .ok (.return_, 1) := by decide +kernel
set_option maxRecDepth 20000 in
theorem ggX4_readWays_X4_digit : GoodIn wsX4_readWays wsX4_digit := goodIn_r _ [6, 7, 8, 9, 10, 11, 12, 13, 5, 14, 15, 16, 17, 18, 39, 40, 41, 42, 43, 44, 45, 46, 47, 48, 49, 50, 51] rfl rfl
set_option maxRecDepth 20000 in
theorem gX4_readWays_X4_digit : GoodIn wsX4_readWays (wsV RX4 130 RX4 yX4_digit wsX4_digit) := goodIn_app (goodIn_of _ (by decide +kernel)) ggX4_readWays_X4_digit
set_option maxRecDepth 20000 in
theorem ggX4_readWays_X4_isAtGate : GoodIn wsX4_readWays wsX4_isAtGate := goodIn_r _ [21, 22, 23, 5, 24] rfl rfl
set_option maxRecDepth 20000 in
theorem gX4_readWays_X4_isAtGate : GoodIn wsX4_readWays (va_wsS RX4 150 yX4_isAtGate wsX4_isAtGate) := goodIn_app (goodIn_of _ (by decide +kernel)) ggX4_readWays_X4_isAtGate
set_option maxRecDepth 20000 in
theorem ggX4_readWays_X4_goes : GoodIn wsX4_readWays wsX4_goes := goodIn_r _ [28, 29, 11, 39, 40, 41, 42, 43, 44, 45, 46, 47, 48, 49, 50, 51] rfl rfl
set_option maxRecDepth 20000 in
theorem gX4_readWays_X4_goes : GoodIn wsX4_readWays (wsV RX4 143 RX4 yX4_goes wsX4_goes) := goodIn_app (goodIn_of _ (by decide +kernel)) ggX4_readWays_X4_goes
set_option maxRecDepth 20000 in
theorem ggX4_readWays_X4_turnIn : GoodIn wsX4_readWays wsX4_turnIn := goodIn_r _ [32, 22, 23, 5, 24] rfl rfl
set_option maxRecDepth 20000 in
theorem gX4_readWays_X4_turnIn : GoodIn wsX4_readWays (va_wsS RX4 153 yX4_turnIn wsX4_turnIn) := goodIn_app (goodIn_of _ (by decide +kernel)) ggX4_readWays_X4_turnIn
set_option maxRecDepth 20000 in
theorem ggX4_readWays_X4_canWalk : GoodIn wsX4_readWays wsX4_canWalk := goodIn_r _ [35, 22, 23, 5, 24] rfl rfl
set_option maxRecDepth 20000 in
theorem gX4_readWays_X4_canWalk : GoodIn wsX4_readWays (va_wsS RX4 156 yX4_canWalk wsX4_canWalk) := goodIn_app (goodIn_of _ (by decide +kernel)) ggX4_readWays_X4_canWalk
set_option maxRecDepth 20000 in
theorem ggX4_readWays_X4_walkIn : GoodIn wsX4_readWays wsX4_walkIn := goodIn_r _ [38, 22, 23, 5, 24] rfl rfl
set_option maxRecDepth 20000 in
theorem gX4_readWays_X4_walkIn : GoodIn wsX4_readWays (va_wsS RX4 160 yX4_walkIn wsX4_walkIn) := goodIn_app (goodIn_of _ (by decide +kernel)) ggX4_readWays_X4_walkIn
theorem dX4_readWays_0 : decode cX4_readWays 0 = .ok (.aload_n 0, 1) := by decide +kernel
theorem dX4_readWays_1 : decode cX4_readWays 1 = .ok (.iconst 0, 1) := by decide +kernel
theorem dX4_readWays_2 : decode cX4_readWays 2 = .ok (.iconst 5, 1) := by decide +kernel
theorem dX4_readWays_3 : decode cX4_readWays 3 = .ok (.invokevirtual 130, 3) := by decide +kernel
theorem dX4_readWays_6 : decode cX4_readWays 6 = .ok (.istore_n 2, 1) := by decide +kernel
theorem dX4_readWays_7 : decode cX4_readWays 7 = .ok (.iload_n 1, 1) := by decide +kernel
theorem dX4_readWays_8 : decode cX4_readWays 8 = .ok (.bipush 114, 2) := by decide +kernel
theorem dX4_readWays_10 : decode cX4_readWays 10 = .ok (.if_icmp .ne 28, 3) := by decide +kernel
theorem dX4_readWays_13 : decode cX4_readWays 13 = .ok (.aload_n 0, 1) := by decide +kernel
theorem dX4_readWays_14 : decode cX4_readWays 14 = .ok (.aload_n 0, 1) := by decide +kernel
theorem dX4_readWays_15 : decode cX4_readWays 15 = .ok (.getfield 13, 3) := by decide +kernel
theorem dX4_readWays_18 : decode cX4_readWays 18 = .ok (.iload_n 2, 1) := by decide +kernel
theorem dX4_readWays_19 : decode cX4_readWays 19 = .ok (.invokestatic 150, 3) := by decide +kernel
theorem dX4_readWays_22 : decode cX4_readWays 22 = .ok (.invokevirtual 143, 3) := by decide +kernel
theorem dX4_readWays_25 : decode cX4_readWays 25 = .ok (.ifCond .eq 12, 3) := by decide +kernel
theorem dX4_readWays_28 : decode cX4_readWays 28 = .ok (.aload_n 0, 1) := by decide +kernel
theorem dX4_readWays_29 : decode cX4_readWays 29 = .ok (.getfield 13, 3) := by decide +kernel
theorem dX4_readWays_32 : decode cX4_readWays 32 = .ok (.iload_n 2, 1) := by decide +kernel
theorem dX4_readWays_33 : decode cX4_readWays 33 = .ok (.invokestatic 153, 3) := by decide +kernel
theorem dX4_readWays_36 : decode cX4_readWays 36 = .ok (.pop, 1) := by decide +kernel
theorem dX4_readWays_37 : decode cX4_readWays 37 = .ok (.return_, 1) := by decide +kernel
theorem dX4_readWays_38 : decode cX4_readWays 38 = .ok (.aload_n 0, 1) := by decide +kernel
theorem dX4_readWays_39 : decode cX4_readWays 39 = .ok (.iconst 0, 1) := by decide +kernel
theorem dX4_readWays_40 : decode cX4_readWays 40 = .ok (.iconst 2, 1) := by decide +kernel
theorem dX4_readWays_41 : decode cX4_readWays 41 = .ok (.invokevirtual 130, 3) := by decide +kernel
theorem dX4_readWays_44 : decode cX4_readWays 44 = .ok (.istore_n 3, 1) := by decide +kernel
theorem dX4_readWays_45 : decode cX4_readWays 45 = .ok (.aload_n 0, 1) := by decide +kernel
theorem dX4_readWays_46 : decode cX4_readWays 46 = .ok (.aload_n 0, 1) := by decide +kernel
theorem dX4_readWays_47 : decode cX4_readWays 47 = .ok (.getfield 13, 3) := by decide +kernel
theorem dX4_readWays_50 : decode cX4_readWays 50 = .ok (.iload_n 2, 1) := by decide +kernel
theorem dX4_readWays_51 : decode cX4_readWays 51 = .ok (.iload_n 1, 1) := by decide +kernel
theorem dX4_readWays_52 : decode cX4_readWays 52 = .ok (.bipush 111, 2) := by decide +kernel
theorem dX4_readWays_54 : decode cX4_readWays 54 = .ok (.if_icmp .ne 7, 3) := by decide +kernel
theorem dX4_readWays_57 : decode cX4_readWays 57 = .ok (.iconst 1, 1) := by decide +kernel
theorem dX4_readWays_58 : decode cX4_readWays 58 = .ok (.goto 4, 3) := by decide +kernel
theorem dX4_readWays_61 : decode cX4_readWays 61 = .ok (.iconst 0, 1) := by decide +kernel
theorem dX4_readWays_62 : decode cX4_readWays 62 = .ok (.invokestatic 156, 3) := by decide +kernel
theorem dX4_readWays_65 : decode cX4_readWays 65 = .ok (.invokevirtual 143, 3) := by decide +kernel
theorem dX4_readWays_68 : decode cX4_readWays 68 = .ok (.ifCond .eq 24, 3) := by decide +kernel
theorem dX4_readWays_71 : decode cX4_readWays 71 = .ok (.aload_n 0, 1) := by decide +kernel
theorem dX4_readWays_72 : decode cX4_readWays 72 = .ok (.getfield 13, 3) := by decide +kernel
theorem dX4_readWays_75 : decode cX4_readWays 75 = .ok (.iload_n 2, 1) := by decide +kernel
theorem dX4_readWays_76 : decode cX4_readWays 76 = .ok (.iload_n 3, 1) := by decide +kernel
theorem dX4_readWays_77 : decode cX4_readWays 77 = .ok (.iload_n 1, 1) := by decide +kernel
theorem dX4_readWays_78 : decode cX4_readWays 78 = .ok (.bipush 111, 2) := by decide +kernel
theorem dX4_readWays_80 : decode cX4_readWays 80 = .ok (.if_icmp .ne 7, 3) := by decide +kernel
theorem dX4_readWays_83 : decode cX4_readWays 83 = .ok (.iconst 1, 1) := by decide +kernel
theorem dX4_readWays_84 : decode cX4_readWays 84 = .ok (.goto 4, 3) := by decide +kernel
theorem dX4_readWays_87 : decode cX4_readWays 87 = .ok (.iconst 0, 1) := by decide +kernel
theorem dX4_readWays_88 : decode cX4_readWays 88 = .ok (.invokestatic 160, 3) := by decide +kernel
theorem dX4_readWays_91 : decode cX4_readWays 91 = .ok (.pop, 1) := by decide +kernel
theorem dX4_readWays_92 : decode cX4_readWays 92 = .ok (.return_, 1) := by decide +kernel
set_option maxRecDepth 20000 in
theorem ggX4_readCommand_X4_accept : GoodIn wsX4_readCommand wsX4_accept := goodIn_r _ [9, 3, 2, 105, 106, 107, 108, 109, 110, 111, 112, 113, 114, 115, 116, 117] rfl rfl
set_option maxRecDepth 20000 in
theorem gX4_readCommand_X4_accept : GoodIn wsX4_readCommand (wsV RX4 126 RX4 yX4_accept wsX4_accept) := goodIn_app (goodIn_of _ (by decide +kernel)) ggX4_readCommand_X4_accept
set_option maxRecDepth 20000 in
theorem ggX4_readCommand_X4_digit : GoodIn wsX4_readCommand wsX4_digit := goodIn_r _ [13, 2, 14, 1, 15, 3, 16, 17, 8, 18, 5, 6, 7, 9, 105, 106, 107, 108, 109, 110, 111, 112, 113, 114, 115, 116, 117] rfl rfl
set_option maxRecDepth 20000 in
theorem gX4_readCommand_X4_digit : GoodIn wsX4_readCommand (wsV RX4 130 RX4 yX4_digit wsX4_digit) := goodIn_app (goodIn_of _ (by decide +kernel)) ggX4_readCommand_X4_digit
set_option maxRecDepth 20000 in
theorem ggX4_readCommand_X4_ticksIn : GoodIn wsX4_readCommand wsX4_ticksIn := goodIn_r _ [21, 22, 23, 8, 24, 25, 26, 27, 28, 29, 30, 31, 32, 16, 17, 18, 33, 34, 35, 36, 37, 38, 39, 40, 41, 42, 43, 44, 45, 46, 47, 48, 49, 50, 51, 52, 53, 54, 55, 56, 57, 58, 59, 60, 61, 62, 63] rfl rfl
set_option maxRecDepth 20000 in
theorem gX4_readCommand_X4_ticksIn : GoodIn wsX4_readCommand (va_wsS RX4 164 yX4_ticksIn wsX4_ticksIn) := goodIn_app (goodIn_of _ (by decide +kernel)) ggX4_readCommand_X4_ticksIn
set_option maxRecDepth 20000 in
theorem ggX4_readCommand_X4_readBooks : GoodIn wsX4_readCommand wsX4_readBooks := goodIn_r _ [67, 4, 10, 11, 12, 8, 13, 2, 14, 1, 15, 3, 16, 17, 18, 5, 6, 7, 9, 68, 69, 70, 71, 72, 73, 74, 36, 37, 38, 75, 76, 77, 25, 26, 27, 52, 53, 54, 78, 79, 80, 81, 82, 83, 84, 85, 86, 87, 88, 105, 106, 107, 108, 109, 110, 111, 112, 113, 114, 115, 116, 117] rfl rfl
set_option maxRecDepth 20000 in
theorem gX4_readCommand_X4_readBooks : GoodIn wsX4_readCommand (wsV RX4 167 RX4 yX4_readBooks wsX4_readBooks) := goodIn_app (goodIn_of _ (by decide +kernel)) ggX4_readCommand_X4_readBooks
set_option maxRecDepth 20000 in
theorem ggX4_readCommand_X4_readWays : GoodIn wsX4_readCommand wsX4_readWays := goodIn_r _ [92, 4, 10, 11, 12, 8, 13, 2, 14, 1, 15, 3, 16, 17, 18, 5, 6, 7, 9, 93, 94, 95, 25, 26, 27, 78, 79, 80, 81, 82, 96, 97, 98, 99, 100, 101, 102, 103, 104, 105, 106, 107, 108, 109, 110, 111, 112, 113, 114, 115, 116, 117] rfl rfl
set_option maxRecDepth 20000 in
theorem gX4_readCommand_X4_readWays : GoodIn wsX4_readCommand (wsV RX4 171 RX4 yX4_readWays wsX4_readWays) := goodIn_app (goodIn_of _ (by decide +kernel)) ggX4_readCommand_X4_readWays
theorem dX4_readCommand_0 : decode cX4_readCommand 0 = .ok (.aload_n 0, 1) := by decide +kernel
theorem dX4_readCommand_1 : decode cX4_readCommand 1 = .ok (.getfield 7, 3) := by decide +kernel
theorem dX4_readCommand_4 : decode cX4_readCommand 4 = .ok (.aload_n 0, 1) := by decide +kernel
theorem dX4_readCommand_5 : decode cX4_readCommand 5 = .ok (.getfield 121, 3) := by decide +kernel
theorem dX4_readCommand_8 : decode cX4_readCommand 8 = .ok (.iaload, 1) := by decide +kernel
theorem dX4_readCommand_9 : decode cX4_readCommand 9 = .ok (.istore_n 1, 1) := by decide +kernel
theorem dX4_readCommand_10 : decode cX4_readCommand 10 = .ok (.aload_n 0, 1) := by decide +kernel
theorem dX4_readCommand_11 : decode cX4_readCommand 11 = .ok (.iload_n 1, 1) := by decide +kernel
theorem dX4_readCommand_12 : decode cX4_readCommand 12 = .ok (.bipush 116, 2) := by decide +kernel
theorem dX4_readCommand_14 : decode cX4_readCommand 14 = .ok (.if_icmp .eq 39, 3) := by decide +kernel
theorem dX4_readCommand_17 : decode cX4_readCommand 17 = .ok (.iload_n 1, 1) := by decide +kernel
theorem dX4_readCommand_18 : decode cX4_readCommand 18 = .ok (.bipush 112, 2) := by decide +kernel
theorem dX4_readCommand_20 : decode cX4_readCommand 20 = .ok (.if_icmp .eq 33, 3) := by decide +kernel
theorem dX4_readCommand_23 : decode cX4_readCommand 23 = .ok (.iload_n 1, 1) := by decide +kernel
theorem dX4_readCommand_24 : decode cX4_readCommand 24 = .ok (.bipush 98, 2) := by decide +kernel
theorem dX4_readCommand_26 : decode cX4_readCommand 26 = .ok (.if_icmp .eq 27, 3) := by decide +kernel
theorem dX4_readCommand_29 : decode cX4_readCommand 29 = .ok (.iload_n 1, 1) := by decide +kernel
theorem dX4_readCommand_30 : decode cX4_readCommand 30 = .ok (.bipush 111, 2) := by decide +kernel
theorem dX4_readCommand_32 : decode cX4_readCommand 32 = .ok (.if_icmp .eq 21, 3) := by decide +kernel
theorem dX4_readCommand_35 : decode cX4_readCommand 35 = .ok (.iload_n 1, 1) := by decide +kernel
theorem dX4_readCommand_36 : decode cX4_readCommand 36 = .ok (.bipush 105, 2) := by decide +kernel
theorem dX4_readCommand_38 : decode cX4_readCommand 38 = .ok (.if_icmp .eq 15, 3) := by decide +kernel
theorem dX4_readCommand_41 : decode cX4_readCommand 41 = .ok (.iload_n 1, 1) := by decide +kernel
theorem dX4_readCommand_42 : decode cX4_readCommand 42 = .ok (.bipush 114, 2) := by decide +kernel
theorem dX4_readCommand_44 : decode cX4_readCommand 44 = .ok (.if_icmp .eq 9, 3) := by decide +kernel
theorem dX4_readCommand_47 : decode cX4_readCommand 47 = .ok (.iload_n 1, 1) := by decide +kernel
theorem dX4_readCommand_48 : decode cX4_readCommand 48 = .ok (.bipush 110, 2) := by decide +kernel
theorem dX4_readCommand_50 : decode cX4_readCommand 50 = .ok (.if_icmp .ne 7, 3) := by decide +kernel
theorem dX4_readCommand_53 : decode cX4_readCommand 53 = .ok (.iconst 1, 1) := by decide +kernel
theorem dX4_readCommand_54 : decode cX4_readCommand 54 = .ok (.goto 4, 3) := by decide +kernel
theorem dX4_readCommand_57 : decode cX4_readCommand 57 = .ok (.iconst 0, 1) := by decide +kernel
theorem dX4_readCommand_58 : decode cX4_readCommand 58 = .ok (.invokevirtual 126, 3) := by decide +kernel
theorem dX4_readCommand_61 : decode cX4_readCommand 61 = .ok (.aload_n 0, 1) := by decide +kernel
theorem dX4_readCommand_62 : decode cX4_readCommand 62 = .ok (.getfield 117, 3) := by decide +kernel
theorem dX4_readCommand_65 : decode cX4_readCommand 65 = .ok (.ifCond .ne 4, 3) := by decide +kernel
theorem dX4_readCommand_68 : decode cX4_readCommand 68 = .ok (.return_, 1) := by decide +kernel
theorem dX4_readCommand_69 : decode cX4_readCommand 69 = .ok (.iload_n 1, 1) := by decide +kernel
theorem dX4_readCommand_70 : decode cX4_readCommand 70 = .ok (.bipush 110, 2) := by decide +kernel
theorem dX4_readCommand_72 : decode cX4_readCommand 72 = .ok (.if_icmp .ne 34, 3) := by decide +kernel
theorem dX4_readCommand_75 : decode cX4_readCommand 75 = .ok (.aload_n 0, 1) := by decide +kernel
theorem dX4_readCommand_76 : decode cX4_readCommand 76 = .ok (.iconst 1, 1) := by decide +kernel
theorem dX4_readCommand_77 : decode cX4_readCommand 77 = .ok (.bipush 9, 2) := by decide +kernel
theorem dX4_readCommand_79 : decode cX4_readCommand 79 = .ok (.invokevirtual 130, 3) := by decide +kernel
theorem dX4_readCommand_82 : decode cX4_readCommand 82 = .ok (.istore_n 2, 1) := by decide +kernel
theorem dX4_readCommand_83 : decode cX4_readCommand 83 = .ok (.aload_n 0, 1) := by decide +kernel
theorem dX4_readCommand_84 : decode cX4_readCommand 84 = .ok (.getfield 13, 3) := by decide +kernel
theorem dX4_readCommand_87 : decode cX4_readCommand 87 = .ok (.aload_n 0, 1) := by decide +kernel
theorem dX4_readCommand_88 : decode cX4_readCommand 88 = .ok (.getfield 117, 3) := by decide +kernel
theorem dX4_readCommand_91 : decode cX4_readCommand 91 = .ok (.ifCond .eq 7, 3) := by decide +kernel
theorem dX4_readCommand_94 : decode cX4_readCommand 94 = .ok (.iload_n 2, 1) := by decide +kernel
theorem dX4_readCommand_95 : decode cX4_readCommand 95 = .ok (.goto 4, 3) := by decide +kernel
theorem dX4_readCommand_98 : decode cX4_readCommand 98 = .ok (.iconst 0, 1) := by decide +kernel
theorem dX4_readCommand_99 : decode cX4_readCommand 99 = .ok (.invokestatic 164, 3) := by decide +kernel
theorem dX4_readCommand_102 : decode cX4_readCommand 102 = .ok (.pop, 1) := by decide +kernel
theorem dX4_readCommand_103 : decode cX4_readCommand 103 = .ok (.goto 34, 3) := by decide +kernel
theorem dX4_readCommand_106 : decode cX4_readCommand 106 = .ok (.iload_n 1, 1) := by decide +kernel
theorem dX4_readCommand_107 : decode cX4_readCommand 107 = .ok (.bipush 116, 2) := by decide +kernel
theorem dX4_readCommand_109 : decode cX4_readCommand 109 = .ok (.if_icmp .eq 15, 3) := by decide +kernel
theorem dX4_readCommand_112 : decode cX4_readCommand 112 = .ok (.iload_n 1, 1) := by decide +kernel
theorem dX4_readCommand_113 : decode cX4_readCommand 113 = .ok (.bipush 112, 2) := by decide +kernel
theorem dX4_readCommand_115 : decode cX4_readCommand 115 = .ok (.if_icmp .eq 9, 3) := by decide +kernel
theorem dX4_readCommand_118 : decode cX4_readCommand 118 = .ok (.iload_n 1, 1) := by decide +kernel
theorem dX4_readCommand_119 : decode cX4_readCommand 119 = .ok (.bipush 98, 2) := by decide +kernel
theorem dX4_readCommand_121 : decode cX4_readCommand 121 = .ok (.if_icmp .ne 11, 3) := by decide +kernel
theorem dX4_readCommand_124 : decode cX4_readCommand 124 = .ok (.aload_n 0, 1) := by decide +kernel
theorem dX4_readCommand_125 : decode cX4_readCommand 125 = .ok (.iload_n 1, 1) := by decide +kernel
theorem dX4_readCommand_126 : decode cX4_readCommand 126 = .ok (.invokevirtual 167, 3) := by decide +kernel
theorem dX4_readCommand_129 : decode cX4_readCommand 129 = .ok (.goto 8, 3) := by decide +kernel
theorem dX4_readCommand_132 : decode cX4_readCommand 132 = .ok (.aload_n 0, 1) := by decide +kernel
theorem dX4_readCommand_133 : decode cX4_readCommand 133 = .ok (.iload_n 1, 1) := by decide +kernel
theorem dX4_readCommand_134 : decode cX4_readCommand 134 = .ok (.invokevirtual 171, 3) := by decide +kernel
theorem dX4_readCommand_137 : decode cX4_readCommand 137 = .ok (.return_, 1) := by decide +kernel
set_option maxRecDepth 20000 in
theorem ggX4_readText_X4_clean : GoodIn wsX4_readText wsX4_clean := goodIn_r _ [10, 11, 12, 9, 13] rfl rfl
set_option maxRecDepth 20000 in
theorem gX4_readText_X4_clean : GoodIn wsX4_readText (va_wsS RX4 32 yX4_clean wsX4_clean) := goodIn_app (goodIn_of _ (by decide +kernel)) ggX4_readText_X4_clean
set_option maxRecDepth 20000 in
theorem ggX4_readText_X4_accept : GoodIn wsX4_readText wsX4_accept := goodIn_r _ [17, 2, 1, 112, 113, 114, 115, 116, 117, 118, 119, 120, 121, 122, 123, 124] rfl rfl
set_option maxRecDepth 20000 in
theorem gX4_readText_X4_accept : GoodIn wsX4_readText (wsV RX4 126 RX4 yX4_accept wsX4_accept) := goodIn_app (goodIn_of _ (by decide +kernel)) ggX4_readText_X4_accept
set_option maxRecDepth 20000 in
theorem ggX4_readText_X4_gateAt : GoodIn wsX4_readText wsX4_gateAt := goodIn_r _ [13] rfl rfl
set_option maxRecDepth 20000 in
theorem gX4_readText_X4_gateAt : GoodIn wsX4_readText (va_wsS RX4 42 yX4_gateAt wsX4_gateAt) := goodIn_app (goodIn_of _ (by decide +kernel)) ggX4_readText_X4_gateAt
set_option maxRecDepth 20000 in
theorem ggX4_readText_X4_two : GoodIn wsX4_readText wsX4_two := goodIn_r _ [21, 22, 23, 24, 9, 25, 1, 5, 6, 26, 2, 27, 28, 29, 14, 15, 16, 17, 112, 113, 114, 115, 116, 117, 118, 119, 120, 121, 122, 123, 124] rfl rfl
set_option maxRecDepth 20000 in
theorem gX4_readText_X4_two : GoodIn wsX4_readText (wsV RX4 136 RX4 yX4_two wsX4_two) := goodIn_app (goodIn_of _ (by decide +kernel)) ggX4_readText_X4_two
set_option maxRecDepth 20000 in
theorem ggX4_readText_X4_digit : GoodIn wsX4_readText wsX4_digit := goodIn_r _ [25, 1, 5, 6, 26, 2, 27, 28, 9, 29, 14, 15, 16, 17, 112, 113, 114, 115, 116, 117, 118, 119, 120, 121, 122, 123, 124] rfl rfl
set_option maxRecDepth 20000 in
theorem gX4_readText_X4_digit : GoodIn wsX4_readText (wsV RX4 130 RX4 yX4_digit wsX4_digit) := goodIn_app (goodIn_of _ (by decide +kernel)) ggX4_readText_X4_digit
set_option maxRecDepth 20000 in
theorem ggX4_readText_X4_readCommand : GoodIn wsX4_readText wsX4_readCommand := goodIn_r _ [33, 6, 1, 2, 4, 14, 15, 16, 9, 17, 22, 23, 24, 25, 5, 26, 27, 28, 29, 34, 35, 36, 37, 38, 39, 40, 41, 42, 43, 44, 45, 46, 47, 48, 49, 50, 51, 52, 53, 54, 55, 56, 11, 12, 13, 57, 58, 59, 60, 61, 62, 63, 64, 65, 66, 67, 68, 69, 70, 71, 72, 73, 74, 75, 76, 77, 78, 79, 18, 19, 20, 21, 80, 81, 82, 83, 84, 85, 86, 87, 88, 89, 3, 90, 91, 92, 93, 94, 95, 96, 97, 98, 99, 100, 101, 102, 103, 104, 105, 106, 107, 108, 109, 110, 111, 112, 113, 114, 115, 116, 117, 118, 119, 120, 121, 122, 123, 124] rfl rfl
set_option maxRecDepth 20000 in
theorem gX4_readText_X4_readCommand : GoodIn wsX4_readText (wsV RX4 174 RX4 yX4_readCommand wsX4_readCommand) := goodIn_app (goodIn_of _ (by decide +kernel)) ggX4_readText_X4_readCommand
theorem dX4_readText_0 : decode cX4_readText 0 = .ok (.aload_n 0, 1) := by decide +kernel
theorem dX4_readText_1 : decode cX4_readText 1 = .ok (.iconst 0, 1) := by decide +kernel
theorem dX4_readText_2 : decode cX4_readText 2 = .ok (.putfield 121, 3) := by decide +kernel
theorem dX4_readText_5 : decode cX4_readText 5 = .ok (.aload_n 0, 1) := by decide +kernel
theorem dX4_readText_6 : decode cX4_readText 6 = .ok (.iconst 1, 1) := by decide +kernel
theorem dX4_readText_7 : decode cX4_readText 7 = .ok (.putfield 117, 3) := by decide +kernel
theorem dX4_readText_10 : decode cX4_readText 10 = .ok (.aload_n 0, 1) := by decide +kernel
theorem dX4_readText_11 : decode cX4_readText 11 = .ok (.iconst 0, 1) := by decide +kernel
theorem dX4_readText_12 : decode cX4_readText 12 = .ok (.putfield 133, 3) := by decide +kernel
theorem dX4_readText_15 : decode cX4_readText 15 = .ok (.aload_n 0, 1) := by decide +kernel
theorem dX4_readText_16 : decode cX4_readText 16 = .ok (.getfield 13, 3) := by decide +kernel
theorem dX4_readText_19 : decode cX4_readText 19 = .ok (.invokestatic 32, 3) := by decide +kernel
theorem dX4_readText_22 : decode cX4_readText 22 = .ok (.aload_n 0, 1) := by decide +kernel
theorem dX4_readText_23 : decode cX4_readText 23 = .ok (.aload_n 0, 1) := by decide +kernel
theorem dX4_readText_24 : decode cX4_readText 24 = .ok (.getfield 121, 3) := by decide +kernel
theorem dX4_readText_27 : decode cX4_readText 27 = .ok (.aload_n 0, 1) := by decide +kernel
theorem dX4_readText_28 : decode cX4_readText 28 = .ok (.getfield 110, 3) := by decide +kernel
theorem dX4_readText_31 : decode cX4_readText 31 = .ok (.if_icmp .ge 21, 3) := by decide +kernel
theorem dX4_readText_34 : decode cX4_readText 34 = .ok (.aload_n 0, 1) := by decide +kernel
theorem dX4_readText_35 : decode cX4_readText 35 = .ok (.getfield 7, 3) := by decide +kernel
theorem dX4_readText_38 : decode cX4_readText 38 = .ok (.aload_n 0, 1) := by decide +kernel
theorem dX4_readText_39 : decode cX4_readText 39 = .ok (.getfield 121, 3) := by decide +kernel
theorem dX4_readText_42 : decode cX4_readText 42 = .ok (.iaload, 1) := by decide +kernel
theorem dX4_readText_43 : decode cX4_readText 43 = .ok (.bipush 76, 2) := by decide +kernel
theorem dX4_readText_45 : decode cX4_readText 45 = .ok (.if_icmp .ne 7, 3) := by decide +kernel
theorem dX4_readText_48 : decode cX4_readText 48 = .ok (.iconst 1, 1) := by decide +kernel
theorem dX4_readText_49 : decode cX4_readText 49 = .ok (.goto 4, 3) := by decide +kernel
theorem dX4_readText_52 : decode cX4_readText 52 = .ok (.iconst 0, 1) := by decide +kernel
theorem dX4_readText_53 : decode cX4_readText 53 = .ok (.invokevirtual 126, 3) := by decide +kernel
theorem dX4_readText_56 : decode cX4_readText 56 = .ok (.iconst 0, 1) := by decide +kernel
theorem dX4_readText_57 : decode cX4_readText 57 = .ok (.istore_n 1, 1) := by decide +kernel
theorem dX4_readText_58 : decode cX4_readText 58 = .ok (.iload_n 1, 1) := by decide +kernel
theorem dX4_readText_59 : decode cX4_readText 59 = .ok (.iconst 3, 1) := by decide +kernel
theorem dX4_readText_60 : decode cX4_readText 60 = .ok (.if_icmp .ge 25, 3) := by decide +kernel
theorem dX4_readText_63 : decode cX4_readText 63 = .ok (.aload_n 0, 1) := by decide +kernel
theorem dX4_readText_64 : decode cX4_readText 64 = .ok (.getfield 13, 3) := by decide +kernel
theorem dX4_readText_67 : decode cX4_readText 67 = .ok (.iload_n 1, 1) := by decide +kernel
theorem dX4_readText_68 : decode cX4_readText 68 = .ok (.iconst 0, 1) := by decide +kernel
theorem dX4_readText_69 : decode cX4_readText 69 = .ok (.invokestatic 42, 3) := by decide +kernel
theorem dX4_readText_72 : decode cX4_readText 72 = .ok (.aload_n 0, 1) := by decide +kernel
theorem dX4_readText_73 : decode cX4_readText 73 = .ok (.bipush 15, 2) := by decide +kernel
theorem dX4_readText_75 : decode cX4_readText 75 = .ok (.invokevirtual 136, 3) := by decide +kernel
theorem dX4_readText_78 : decode cX4_readText 78 = .ok (.iastore, 1) := by decide +kernel
theorem dX4_readText_79 : decode cX4_readText 79 = .ok (.iinc 1 1, 3) := by decide +kernel
theorem dX4_readText_82 : decode cX4_readText 82 = .ok (.goto (-24), 3) := by decide +kernel
theorem dX4_readText_85 : decode cX4_readText 85 = .ok (.aload_n 0, 1) := by decide +kernel
theorem dX4_readText_86 : decode cX4_readText 86 = .ok (.getfield 13, 3) := by decide +kernel
theorem dX4_readText_89 : decode cX4_readText 89 = .ok (.sipush 196, 3) := by decide +kernel
theorem dX4_readText_92 : decode cX4_readText 92 = .ok (.aload_n 0, 1) := by decide +kernel
theorem dX4_readText_93 : decode cX4_readText 93 = .ok (.iconst 1, 1) := by decide +kernel
theorem dX4_readText_94 : decode cX4_readText 94 = .ok (.iconst 3, 1) := by decide +kernel
theorem dX4_readText_95 : decode cX4_readText 95 = .ok (.invokevirtual 130, 3) := by decide +kernel
theorem dX4_readText_98 : decode cX4_readText 98 = .ok (.iastore, 1) := by decide +kernel
theorem dX4_readText_99 : decode cX4_readText 99 = .ok (.aload_n 0, 1) := by decide +kernel
theorem dX4_readText_100 : decode cX4_readText 100 = .ok (.getfield 13, 3) := by decide +kernel
theorem dX4_readText_103 : decode cX4_readText 103 = .ok (.sipush 197, 3) := by decide +kernel
theorem dX4_readText_106 : decode cX4_readText 106 = .ok (.aload_n 0, 1) := by decide +kernel
theorem dX4_readText_107 : decode cX4_readText 107 = .ok (.iconst 0, 1) := by decide +kernel
theorem dX4_readText_108 : decode cX4_readText 108 = .ok (.bipush 9, 2) := by decide +kernel
theorem dX4_readText_110 : decode cX4_readText 110 = .ok (.invokevirtual 130, 3) := by decide +kernel
theorem dX4_readText_113 : decode cX4_readText 113 = .ok (.iastore, 1) := by decide +kernel
theorem dX4_readText_114 : decode cX4_readText 114 = .ok (.aload_n 0, 1) := by decide +kernel
theorem dX4_readText_115 : decode cX4_readText 115 = .ok (.getfield 117, 3) := by decide +kernel
theorem dX4_readText_118 : decode cX4_readText 118 = .ok (.ifCond .eq 21, 3) := by decide +kernel
theorem dX4_readText_121 : decode cX4_readText 121 = .ok (.aload_n 0, 1) := by decide +kernel
theorem dX4_readText_122 : decode cX4_readText 122 = .ok (.getfield 121, 3) := by decide +kernel
theorem dX4_readText_125 : decode cX4_readText 125 = .ok (.aload_n 0, 1) := by decide +kernel
theorem dX4_readText_126 : decode cX4_readText 126 = .ok (.getfield 110, 3) := by decide +kernel
theorem dX4_readText_129 : decode cX4_readText 129 = .ok (.if_icmp .ge 10, 3) := by decide +kernel
theorem dX4_readText_132 : decode cX4_readText 132 = .ok (.aload_n 0, 1) := by decide +kernel
theorem dX4_readText_133 : decode cX4_readText 133 = .ok (.invokevirtual 174, 3) := by decide +kernel
theorem dX4_readText_136 : decode cX4_readText 136 = .ok (.goto (-22), 3) := by decide +kernel
theorem dX4_readText_139 : decode cX4_readText 139 = .ok (.aload_n 0, 1) := by decide +kernel
theorem dX4_readText_140 : decode cX4_readText 140 = .ok (.getfield 117, 3) := by decide +kernel
theorem dX4_readText_143 : decode cX4_readText 143 = .ok (.ifCond .eq 8, 3) := by decide +kernel
theorem dX4_readText_146 : decode cX4_readText 146 = .ok (.bipush (-9), 2) := by decide +kernel
theorem dX4_readText_148 : decode cX4_readText 148 = .ok (.goto 7, 3) := by decide +kernel
theorem dX4_readText_151 : decode cX4_readText 151 = .ok (.aload_n 0, 1) := by decide +kernel
theorem dX4_readText_152 : decode cX4_readText 152 = .ok (.getfield 121, 3) := by decide +kernel
theorem dX4_readText_155 : decode cX4_readText 155 = .ok (.ireturn, 1) := by decide +kernel
set_option maxRecDepth 20000 in
theorem ggX4_errorPosition_X4_readText : GoodIn wsX4_errorPosition wsX4_readText := goodIn_r _ [6, 7, 8, 9, 10, 11, 12, 13, 14, 5, 15, 16, 17, 18, 19, 20, 21, 22, 23, 24, 25, 26, 27, 28, 29, 30, 31, 32, 33, 34, 35, 36, 37, 38, 39, 40, 41, 42, 43, 44, 45, 46, 47, 48, 49, 50, 51, 52, 53, 54, 55, 56, 57, 58, 59, 60, 61, 62, 63, 64, 65, 66, 67, 68, 69, 70, 71, 72, 73, 74, 75, 76, 77, 78, 79, 80, 81, 82, 83, 84, 85, 86, 87, 88, 89, 90, 91, 92, 93, 94, 95, 96, 97, 98, 99, 100, 101, 102, 103, 104, 105, 106, 107, 108, 109, 110, 111, 112, 113, 114, 115, 116, 117, 118, 119, 120, 121, 122, 123, 124, 125, 126, 127, 128, 129] rfl rfl
set_option maxRecDepth 20000 in
theorem gX4_errorPosition_X4_readText : GoodIn wsX4_errorPosition (wsV RX4 177 RX4 yX4_readText wsX4_readText) := goodIn_app (goodIn_of _ (by decide +kernel)) ggX4_errorPosition_X4_readText
theorem dX4_errorPosition_0 : decode cX4_errorPosition 0 = .ok (.aload_n 0, 1) := by decide +kernel
theorem dX4_errorPosition_1 : decode cX4_errorPosition 1 = .ok (.iconst 0, 1) := by decide +kernel
theorem dX4_errorPosition_2 : decode cX4_errorPosition 2 = .ok (.putfield 36, 3) := by decide +kernel
theorem dX4_errorPosition_5 : decode cX4_errorPosition 5 = .ok (.aload_n 0, 1) := by decide +kernel
theorem dX4_errorPosition_6 : decode cX4_errorPosition 6 = .ok (.invokevirtual 177, 3) := by decide +kernel
theorem dX4_errorPosition_9 : decode cX4_errorPosition 9 = .ok (.ireturn, 1) := by decide +kernel
set_option maxRecDepth 20000 in
theorem ggX4_load_X4_readText : GoodIn wsX4_load wsX4_readText := goodIn_r _ [10, 11, 12, 5, 1, 13, 14, 15, 16, 9, 17, 18, 19, 20, 21, 22, 23, 24, 25, 26, 27, 28, 29, 30, 31, 32, 33, 34, 35, 36, 37, 38, 39, 40, 41, 42, 43, 44, 45, 46, 47, 48, 49, 50, 51, 52, 53, 54, 55, 56, 57, 58, 59, 60, 61, 62, 63, 64, 65, 66, 67, 68, 69, 70, 71, 72, 73, 74, 75, 76, 77, 78, 79, 80, 81, 82, 83, 84, 85, 86, 87, 88, 89, 90, 91, 92, 93, 94, 95, 96, 97, 98, 99, 100, 101, 102, 103, 104, 105, 106, 107, 108, 109, 110, 111, 112, 113, 114, 115, 116, 117, 118, 124, 125, 126, 127, 128, 129, 130, 131, 132, 133, 134, 135, 136] rfl rfl
set_option maxRecDepth 20000 in
theorem gX4_load_X4_readText : GoodIn wsX4_load (wsV RX4 177 RX4 yX4_readText wsX4_readText) := goodIn_app (goodIn_of _ (by decide +kernel)) ggX4_load_X4_readText
set_option maxRecDepth 20000 in
theorem ggX4_load_X4_refused : GoodIn wsX4_load wsX4_refused := goodIn_r _ [122, 123, 124, 125, 126, 127, 128, 129, 130, 131, 132, 133, 134, 135, 136] rfl rfl
set_option maxRecDepth 20000 in
theorem gX4_load_X4_refused : GoodIn wsX4_load (wsV RX4 113 RX4 yX4_refused wsX4_refused) := goodIn_app (goodIn_of _ (by decide +kernel)) ggX4_load_X4_refused
set_option maxRecDepth 20000 in
theorem ggX4_load_X4_copy : GoodIn wsX4_load wsX4_copy := goodIn_r _ [82] rfl rfl
set_option maxRecDepth 20000 in
theorem gX4_load_X4_copy : GoodIn wsX4_load (va_wsS RX4 49 yX4_copy wsX4_copy) := goodIn_app (goodIn_of _ (by decide +kernel)) ggX4_load_X4_copy
theorem dX4_load_0 : decode cX4_load 0 = .ok (.aload_n 0, 1) := by decide +kernel
theorem dX4_load_1 : decode cX4_load 1 = .ok (.aload_n 0, 1) := by decide +kernel
theorem dX4_load_2 : decode cX4_load 2 = .ok (.invokevirtual 177, 3) := by decide +kernel
theorem dX4_load_5 : decode cX4_load 5 = .ok (.bipush (-9), 2) := by decide +kernel
theorem dX4_load_7 : decode cX4_load 7 = .ok (.if_icmp .ne 7, 3) := by decide +kernel
theorem dX4_load_10 : decode cX4_load 10 = .ok (.iconst 0, 1) := by decide +kernel
theorem dX4_load_11 : decode cX4_load 11 = .ok (.goto 4, 3) := by decide +kernel
theorem dX4_load_14 : decode cX4_load 14 = .ok (.iconst 1, 1) := by decide +kernel
theorem dX4_load_15 : decode cX4_load 15 = .ok (.invokevirtual 113, 3) := by decide +kernel
theorem dX4_load_18 : decode cX4_load 18 = .ok (.ifCond .eq 5, 3) := by decide +kernel
theorem dX4_load_21 : decode cX4_load 21 = .ok (.iconst 0, 1) := by decide +kernel
theorem dX4_load_22 : decode cX4_load 22 = .ok (.ireturn, 1) := by decide +kernel
theorem dX4_load_23 : decode cX4_load 23 = .ok (.aload_n 0, 1) := by decide +kernel
theorem dX4_load_24 : decode cX4_load 24 = .ok (.getfield 13, 3) := by decide +kernel
theorem dX4_load_27 : decode cX4_load 27 = .ok (.iconst 0, 1) := by decide +kernel
theorem dX4_load_28 : decode cX4_load 28 = .ok (.aload_n 0, 1) := by decide +kernel
theorem dX4_load_29 : decode cX4_load 29 = .ok (.getfield 16, 3) := by decide +kernel
theorem dX4_load_32 : decode cX4_load 32 = .ok (.iconst 0, 1) := by decide +kernel
theorem dX4_load_33 : decode cX4_load 33 = .ok (.sipush 233, 3) := by decide +kernel
theorem dX4_load_36 : decode cX4_load 36 = .ok (.invokestatic 49, 3) := by decide +kernel
theorem dX4_load_39 : decode cX4_load 39 = .ok (.aload_n 0, 1) := by decide +kernel
theorem dX4_load_40 : decode cX4_load 40 = .ok (.iconst 0, 1) := by decide +kernel
theorem dX4_load_41 : decode cX4_load 41 = .ok (.putfield 46, 3) := by decide +kernel
theorem dX4_load_44 : decode cX4_load 44 = .ok (.aload_n 0, 1) := by decide +kernel
theorem dX4_load_45 : decode cX4_load 45 = .ok (.getfield 28, 3) := by decide +kernel
theorem dX4_load_48 : decode cX4_load 48 = .ok (.iconst 0, 1) := by decide +kernel
theorem dX4_load_49 : decode cX4_load 49 = .ok (.iconst 0, 1) := by decide +kernel
theorem dX4_load_50 : decode cX4_load 50 = .ok (.bastore, 1) := by decide +kernel
theorem dX4_load_51 : decode cX4_load 51 = .ok (.aload_n 0, 1) := by decide +kernel
theorem dX4_load_52 : decode cX4_load 52 = .ok (.getfield 28, 3) := by decide +kernel
theorem dX4_load_55 : decode cX4_load 55 = .ok (.iconst 1, 1) := by decide +kernel
theorem dX4_load_56 : decode cX4_load 56 = .ok (.iconst 0, 1) := by decide +kernel
theorem dX4_load_57 : decode cX4_load 57 = .ok (.bastore, 1) := by decide +kernel
theorem dX4_load_58 : decode cX4_load 58 = .ok (.aload_n 0, 1) := by decide +kernel
theorem dX4_load_59 : decode cX4_load 59 = .ok (.getfield 133, 3) := by decide +kernel
theorem dX4_load_62 : decode cX4_load 62 = .ok (.ireturn, 1) := by decide +kernel
set_option maxRecDepth 20000 in
theorem ggX4_visitorsAt_X4_visitorAt : GoodIn wsX4_visitorsAt wsX4_visitorAt := goodIn_r _ [5] rfl rfl
set_option maxRecDepth 20000 in
theorem gX4_visitorsAt_X4_visitorAt : GoodIn wsX4_visitorsAt (va_wsS RX4 56 yX4_visitorAt wsX4_visitorAt) := goodIn_app (goodIn_of _ (by decide +kernel)) ggX4_visitorsAt_X4_visitorAt
theorem dX4_visitorsAt_0 : decode cX4_visitorsAt 0 = .ok (.iconst 0, 1) := by decide +kernel
theorem dX4_visitorsAt_1 : decode cX4_visitorsAt 1 = .ok (.istore_n 2, 1) := by decide +kernel
theorem dX4_visitorsAt_2 : decode cX4_visitorsAt 2 = .ok (.iconst 0, 1) := by decide +kernel
theorem dX4_visitorsAt_3 : decode cX4_visitorsAt 3 = .ok (.istore_n 3, 1) := by decide +kernel
theorem dX4_visitorsAt_4 : decode cX4_visitorsAt 4 = .ok (.iload_n 3, 1) := by decide +kernel
theorem dX4_visitorsAt_5 : decode cX4_visitorsAt 5 = .ok (.bipush 6, 2) := by decide +kernel
theorem dX4_visitorsAt_7 : decode cX4_visitorsAt 7 = .ok (.if_icmp .ge 31, 3) := by decide +kernel
theorem dX4_visitorsAt_10 : decode cX4_visitorsAt 10 = .ok (.iload_n 2, 1) := by decide +kernel
theorem dX4_visitorsAt_11 : decode cX4_visitorsAt 11 = .ok (.aload_n 0, 1) := by decide +kernel
theorem dX4_visitorsAt_12 : decode cX4_visitorsAt 12 = .ok (.getfield 16, 3) := by decide +kernel
theorem dX4_visitorsAt_15 : decode cX4_visitorsAt 15 = .ok (.iload_n 3, 1) := by decide +kernel
theorem dX4_visitorsAt_16 : decode cX4_visitorsAt 16 = .ok (.iconst 0, 1) := by decide +kernel
theorem dX4_visitorsAt_17 : decode cX4_visitorsAt 17 = .ok (.invokestatic 56, 3) := by decide +kernel
theorem dX4_visitorsAt_20 : decode cX4_visitorsAt 20 = .ok (.iaload, 1) := by decide +kernel
theorem dX4_visitorsAt_21 : decode cX4_visitorsAt 21 = .ok (.iload_n 1, 1) := by decide +kernel
theorem dX4_visitorsAt_22 : decode cX4_visitorsAt 22 = .ok (.if_icmp .ne 7, 3) := by decide +kernel
theorem dX4_visitorsAt_25 : decode cX4_visitorsAt 25 = .ok (.iconst 1, 1) := by decide +kernel
theorem dX4_visitorsAt_26 : decode cX4_visitorsAt 26 = .ok (.goto 4, 3) := by decide +kernel
theorem dX4_visitorsAt_29 : decode cX4_visitorsAt 29 = .ok (.iconst 0, 1) := by decide +kernel
theorem dX4_visitorsAt_30 : decode cX4_visitorsAt 30 = .ok (.iadd, 1) := by decide +kernel
theorem dX4_visitorsAt_31 : decode cX4_visitorsAt 31 = .ok (.istore_n 2, 1) := by decide +kernel
theorem dX4_visitorsAt_32 : decode cX4_visitorsAt 32 = .ok (.iinc 3 1, 3) := by decide +kernel
theorem dX4_visitorsAt_35 : decode cX4_visitorsAt 35 = .ok (.goto (-31), 3) := by decide +kernel
theorem dX4_visitorsAt_38 : decode cX4_visitorsAt 38 = .ok (.iload_n 2, 1) := by decide +kernel
theorem dX4_visitorsAt_39 : decode cX4_visitorsAt 39 = .ok (.ireturn, 1) := by decide +kernel
set_option maxRecDepth 20000 in
theorem ggX4_waiting_X4_gateAt : GoodIn wsX4_waiting wsX4_gateAt := goodIn_r _ [5] rfl rfl
set_option maxRecDepth 20000 in
theorem gX4_waiting_X4_gateAt : GoodIn wsX4_waiting (va_wsS RX4 42 yX4_gateAt wsX4_gateAt) := goodIn_app (goodIn_of _ (by decide +kernel)) ggX4_waiting_X4_gateAt
theorem dX4_waiting_0 : decode cX4_waiting 0 = .ok (.iconst 0, 1) := by decide +kernel
theorem dX4_waiting_1 : decode cX4_waiting 1 = .ok (.istore_n 1, 1) := by decide +kernel
theorem dX4_waiting_2 : decode cX4_waiting 2 = .ok (.iconst 0, 1) := by decide +kernel
theorem dX4_waiting_3 : decode cX4_waiting 3 = .ok (.istore_n 2, 1) := by decide +kernel
theorem dX4_waiting_4 : decode cX4_waiting 4 = .ok (.iload_n 2, 1) := by decide +kernel
theorem dX4_waiting_5 : decode cX4_waiting 5 = .ok (.iconst 3, 1) := by decide +kernel
theorem dX4_waiting_6 : decode cX4_waiting 6 = .ok (.if_icmp .ge 22, 3) := by decide +kernel
theorem dX4_waiting_9 : decode cX4_waiting 9 = .ok (.iload_n 1, 1) := by decide +kernel
theorem dX4_waiting_10 : decode cX4_waiting 10 = .ok (.aload_n 0, 1) := by decide +kernel
theorem dX4_waiting_11 : decode cX4_waiting 11 = .ok (.getfield 16, 3) := by decide +kernel
theorem dX4_waiting_14 : decode cX4_waiting 14 = .ok (.iload_n 2, 1) := by decide +kernel
theorem dX4_waiting_15 : decode cX4_waiting 15 = .ok (.iconst 2, 1) := by decide +kernel
theorem dX4_waiting_16 : decode cX4_waiting 16 = .ok (.invokestatic 42, 3) := by decide +kernel
theorem dX4_waiting_19 : decode cX4_waiting 19 = .ok (.iaload, 1) := by decide +kernel
theorem dX4_waiting_20 : decode cX4_waiting 20 = .ok (.iadd, 1) := by decide +kernel
theorem dX4_waiting_21 : decode cX4_waiting 21 = .ok (.istore_n 1, 1) := by decide +kernel
theorem dX4_waiting_22 : decode cX4_waiting 22 = .ok (.iinc 2 1, 3) := by decide +kernel
theorem dX4_waiting_25 : decode cX4_waiting 25 = .ok (.goto (-21), 3) := by decide +kernel
theorem dX4_waiting_28 : decode cX4_waiting 28 = .ok (.iload_n 1, 1) := by decide +kernel
theorem dX4_waiting_29 : decode cX4_waiting 29 = .ok (.ireturn, 1) := by decide +kernel
set_option maxRecDepth 20000 in
theorem ggX4_inBags_X4_bag : GoodIn wsX4_inBags wsX4_bag := goodIn_r _ [5, 6, 7, 4, 8] rfl rfl
set_option maxRecDepth 20000 in
theorem gX4_inBags_X4_bag : GoodIn wsX4_inBags (va_wsS RX4 63 yX4_bag wsX4_bag) := goodIn_app (goodIn_of _ (by decide +kernel)) ggX4_inBags_X4_bag
theorem dX4_inBags_0 : decode cX4_inBags 0 = .ok (.iconst 0, 1) := by decide +kernel
theorem dX4_inBags_1 : decode cX4_inBags 1 = .ok (.istore_n 1, 1) := by decide +kernel
theorem dX4_inBags_2 : decode cX4_inBags 2 = .ok (.iconst 0, 1) := by decide +kernel
theorem dX4_inBags_3 : decode cX4_inBags 3 = .ok (.istore_n 2, 1) := by decide +kernel
theorem dX4_inBags_4 : decode cX4_inBags 4 = .ok (.iload_n 2, 1) := by decide +kernel
theorem dX4_inBags_5 : decode cX4_inBags 5 = .ok (.bipush 6, 2) := by decide +kernel
theorem dX4_inBags_7 : decode cX4_inBags 7 = .ok (.if_icmp .ge 20, 3) := by decide +kernel
theorem dX4_inBags_10 : decode cX4_inBags 10 = .ok (.iload_n 1, 1) := by decide +kernel
theorem dX4_inBags_11 : decode cX4_inBags 11 = .ok (.aload_n 0, 1) := by decide +kernel
theorem dX4_inBags_12 : decode cX4_inBags 12 = .ok (.getfield 16, 3) := by decide +kernel
theorem dX4_inBags_15 : decode cX4_inBags 15 = .ok (.iload_n 2, 1) := by decide +kernel
theorem dX4_inBags_16 : decode cX4_inBags 16 = .ok (.invokestatic 63, 3) := by decide +kernel
theorem dX4_inBags_19 : decode cX4_inBags 19 = .ok (.iadd, 1) := by decide +kernel
theorem dX4_inBags_20 : decode cX4_inBags 20 = .ok (.istore_n 1, 1) := by decide +kernel
theorem dX4_inBags_21 : decode cX4_inBags 21 = .ok (.iinc 2 1, 3) := by decide +kernel
theorem dX4_inBags_24 : decode cX4_inBags 24 = .ok (.goto (-20), 3) := by decide +kernel
theorem dX4_inBags_27 : decode cX4_inBags 27 = .ok (.iload_n 1, 1) := by decide +kernel
theorem dX4_inBags_28 : decode cX4_inBags 28 = .ok (.ireturn, 1) := by decide +kernel
set_option maxRecDepth 20000 in
theorem ggX4_about_X4_in : GoodIn wsX4_about wsX4_in := goodIn_r _ [6] rfl rfl
set_option maxRecDepth 20000 in
theorem gX4_about_X4_in : GoodIn wsX4_about (va_wsS RX4 69 yX4_in wsX4_in) := goodIn_app (goodIn_of _ (by decide +kernel)) ggX4_about_X4_in
set_option maxRecDepth 20000 in
theorem ggX4_about_X4_refused : GoodIn wsX4_about wsX4_refused := goodIn_r _ [10, 11, 39, 40, 41, 42, 43, 44, 45, 46, 47, 48, 49, 50, 51] rfl rfl
set_option maxRecDepth 20000 in
theorem gX4_about_X4_refused : GoodIn wsX4_about (wsV RX4 113 RX4 yX4_refused wsX4_refused) := goodIn_app (goodIn_of _ (by decide +kernel)) ggX4_about_X4_refused
set_option maxRecDepth 20000 in
theorem ggX4_about_X4_waiting : GoodIn wsX4_about wsX4_waiting := goodIn_r _ [15, 2, 16, 17, 5, 18, 39, 40, 41, 42, 43, 44, 45, 46, 47, 48, 49, 50, 51] rfl rfl
set_option maxRecDepth 20000 in
theorem gX4_about_X4_waiting : GoodIn wsX4_about (wsV RX4 181 RX4 yX4_waiting wsX4_waiting) := goodIn_app (goodIn_of _ (by decide +kernel)) ggX4_about_X4_waiting
set_option maxRecDepth 20000 in
theorem ggX4_about_X4_borrowed : GoodIn wsX4_about wsX4_borrowed := goodIn_r _ [21, 22, 23, 5, 24] rfl rfl
set_option maxRecDepth 20000 in
theorem gX4_about_X4_borrowed : GoodIn wsX4_about (va_wsS RX4 184 yX4_borrowed wsX4_borrowed) := goodIn_app (goodIn_of _ (by decide +kernel)) ggX4_about_X4_borrowed
set_option maxRecDepth 20000 in
theorem ggX4_about_X4_inBags : GoodIn wsX4_about wsX4_inBags := goodIn_r _ [28, 2, 29, 30, 5, 31, 22, 23, 24, 39, 40, 41, 42, 43, 44, 45, 46, 47, 48, 49, 50, 51] rfl rfl
set_option maxRecDepth 20000 in
theorem gX4_about_X4_inBags : GoodIn wsX4_about (wsV RX4 188 RX4 yX4_inBags wsX4_inBags) := goodIn_app (goodIn_of _ (by decide +kernel)) ggX4_about_X4_inBags
set_option maxRecDepth 20000 in
theorem ggX4_about_X4_visitorsAt : GoodIn wsX4_about wsX4_visitorsAt := goodIn_r _ [35, 2, 36, 37, 5, 38, 39, 40, 41, 42, 43, 44, 45, 46, 47, 48, 49, 50, 51] rfl rfl
set_option maxRecDepth 20000 in
theorem gX4_about_X4_visitorsAt : GoodIn wsX4_about (wsV RX4 191 RX4 yX4_visitorsAt wsX4_visitorsAt) := goodIn_app (goodIn_of _ (by decide +kernel)) ggX4_about_X4_visitorsAt
theorem dX4_about_0 : decode cX4_about 0 = .ok (.aload_n 0, 1) := by decide +kernel
theorem dX4_about_1 : decode cX4_about 1 = .ok (.iload_n 1, 1) := by decide +kernel
theorem dX4_about_2 : decode cX4_about 2 = .ok (.i2l, 1) := by decide +kernel
theorem dX4_about_3 : decode cX4_about 3 = .ok (.lconst 0, 1) := by decide +kernel
theorem dX4_about_4 : decode cX4_about 4 = .ok (.ldc2_w 40, 3) := by decide +kernel
theorem dX4_about_7 : decode cX4_about 7 = .ok (.invokestatic 69, 3) := by decide +kernel
theorem dX4_about_10 : decode cX4_about 10 = .ok (.ifCond .eq 7, 3) := by decide +kernel
theorem dX4_about_13 : decode cX4_about 13 = .ok (.iconst 0, 1) := by decide +kernel
theorem dX4_about_14 : decode cX4_about 14 = .ok (.goto 4, 3) := by decide +kernel
theorem dX4_about_17 : decode cX4_about 17 = .ok (.iconst 1, 1) := by decide +kernel
theorem dX4_about_18 : decode cX4_about 18 = .ok (.invokevirtual 113, 3) := by decide +kernel
theorem dX4_about_21 : decode cX4_about 21 = .ok (.ifCond .eq 5, 3) := by decide +kernel
theorem dX4_about_24 : decode cX4_about 24 = .ok (.iconst 0, 1) := by decide +kernel
theorem dX4_about_25 : decode cX4_about 25 = .ok (.ireturn, 1) := by decide +kernel
theorem dX4_about_26 : decode cX4_about 26 = .ok (.iload_n 1, 1) := by decide +kernel
theorem dX4_about_27 : decode cX4_about 27 = .ok (.tableswitch 128 0 9 #[53, 62, 71, 76, 85, 94, 102, 107, 113, 119], 53) := by decide +kernel
theorem dX4_about_80 : decode cX4_about 80 = .ok (.aload_n 0, 1) := by decide +kernel
theorem dX4_about_81 : decode cX4_about 81 = .ok (.getfield 16, 3) := by decide +kernel
theorem dX4_about_84 : decode cX4_about 84 = .ok (.sipush 198, 3) := by decide +kernel
theorem dX4_about_87 : decode cX4_about 87 = .ok (.iaload, 1) := by decide +kernel
theorem dX4_about_88 : decode cX4_about 88 = .ok (.ireturn, 1) := by decide +kernel
theorem dX4_about_89 : decode cX4_about 89 = .ok (.aload_n 0, 1) := by decide +kernel
theorem dX4_about_90 : decode cX4_about 90 = .ok (.getfield 16, 3) := by decide +kernel
theorem dX4_about_93 : decode cX4_about 93 = .ok (.sipush 199, 3) := by decide +kernel
theorem dX4_about_96 : decode cX4_about 96 = .ok (.iaload, 1) := by decide +kernel
theorem dX4_about_97 : decode cX4_about 97 = .ok (.ireturn, 1) := by decide +kernel
theorem dX4_about_98 : decode cX4_about 98 = .ok (.aload_n 0, 1) := by decide +kernel
theorem dX4_about_99 : decode cX4_about 99 = .ok (.invokevirtual 181, 3) := by decide +kernel
theorem dX4_about_102 : decode cX4_about 102 = .ok (.ireturn, 1) := by decide +kernel
theorem dX4_about_103 : decode cX4_about 103 = .ok (.aload_n 0, 1) := by decide +kernel
theorem dX4_about_104 : decode cX4_about 104 = .ok (.getfield 16, 3) := by decide +kernel
theorem dX4_about_107 : decode cX4_about 107 = .ok (.sipush 200, 3) := by decide +kernel
theorem dX4_about_110 : decode cX4_about 110 = .ok (.iaload, 1) := by decide +kernel
theorem dX4_about_111 : decode cX4_about 111 = .ok (.ireturn, 1) := by decide +kernel
theorem dX4_about_112 : decode cX4_about 112 = .ok (.aload_n 0, 1) := by decide +kernel
theorem dX4_about_113 : decode cX4_about 113 = .ok (.getfield 16, 3) := by decide +kernel
theorem dX4_about_116 : decode cX4_about 116 = .ok (.sipush 201, 3) := by decide +kernel
theorem dX4_about_119 : decode cX4_about 119 = .ok (.iaload, 1) := by decide +kernel
theorem dX4_about_120 : decode cX4_about 120 = .ok (.ireturn, 1) := by decide +kernel
theorem dX4_about_121 : decode cX4_about 121 = .ok (.aload_n 0, 1) := by decide +kernel
theorem dX4_about_122 : decode cX4_about 122 = .ok (.getfield 16, 3) := by decide +kernel
theorem dX4_about_125 : decode cX4_about 125 = .ok (.invokestatic 184, 3) := by decide +kernel
theorem dX4_about_128 : decode cX4_about 128 = .ok (.ireturn, 1) := by decide +kernel
theorem dX4_about_129 : decode cX4_about 129 = .ok (.aload_n 0, 1) := by decide +kernel
theorem dX4_about_130 : decode cX4_about 130 = .ok (.invokevirtual 188, 3) := by decide +kernel
theorem dX4_about_133 : decode cX4_about 133 = .ok (.ireturn, 1) := by decide +kernel
theorem dX4_about_134 : decode cX4_about 134 = .ok (.aload_n 0, 1) := by decide +kernel
theorem dX4_about_135 : decode cX4_about 135 = .ok (.iconst 1, 1) := by decide +kernel
theorem dX4_about_136 : decode cX4_about 136 = .ok (.invokevirtual 191, 3) := by decide +kernel
theorem dX4_about_139 : decode cX4_about 139 = .ok (.ireturn, 1) := by decide +kernel
theorem dX4_about_140 : decode cX4_about 140 = .ok (.aload_n 0, 1) := by decide +kernel
theorem dX4_about_141 : decode cX4_about 141 = .ok (.iconst 2, 1) := by decide +kernel
theorem dX4_about_142 : decode cX4_about 142 = .ok (.invokevirtual 191, 3) := by decide +kernel
theorem dX4_about_145 : decode cX4_about 145 = .ok (.ireturn, 1) := by decide +kernel
theorem dX4_about_146 : decode cX4_about 146 = .ok (.aload_n 0, 1) := by decide +kernel
theorem dX4_about_147 : decode cX4_about 147 = .ok (.getfield 16, 3) := by decide +kernel
theorem dX4_about_150 : decode cX4_about 150 = .ok (.sipush 196, 3) := by decide +kernel
theorem dX4_about_153 : decode cX4_about 153 = .ok (.iaload, 1) := by decide +kernel
theorem dX4_about_154 : decode cX4_about 154 = .ok (.ireturn, 1) := by decide +kernel
theorem dX4_about_155 : decode cX4_about 155 = .ok (.aload_n 0, 1) := by decide +kernel
theorem dX4_about_156 : decode cX4_about 156 = .ok (.getfield 16, 3) := by decide +kernel
theorem dX4_about_159 : decode cX4_about 159 = .ok (.sipush 197, 3) := by decide +kernel
theorem dX4_about_162 : decode cX4_about 162 = .ok (.iaload, 1) := by decide +kernel
theorem dX4_about_163 : decode cX4_about 163 = .ok (.ireturn, 1) := by decide +kernel
