theorem dX0_init_0 : decode cX0_init 0 = .ok (.aload_n 0, 1) := by decide +kernel
theorem dX0_init_1 : decode cX0_init 1 = .ok (.invokespecial 3, 3) := by decide +kernel
theorem dX0_init_4 : decode cX0_init 4 = .ok (.aload_n 0, 1) := by decide +kernel
theorem dX0_init_5 : decode cX0_init 5 = .ok (.iconst 3, 1) := by decide +kernel
theorem dX0_init_6 : decode cX0_init 6 = .ok (.newarray .int, 2) := by decide +kernel
theorem dX0_init_8 : decode cX0_init 8 = .ok (.putfield 9, 3) := by decide +kernel
theorem dX0_init_11 : decode cX0_init 11 = .ok (.aload_n 0, 1) := by decide +kernel
theorem dX0_init_12 : decode cX0_init 12 = .ok (.iconst 3, 1) := by decide +kernel
theorem dX0_init_13 : decode cX0_init 13 = .ok (.newarray .int, 2) := by decide +kernel
theorem dX0_init_15 : decode cX0_init 15 = .ok (.putfield 15, 3) := by decide +kernel
theorem dX0_init_18 : decode cX0_init 18 = .ok (.aload_n 0, 1) := by decide +kernel
theorem dX0_init_19 : decode cX0_init 19 = .ok (.iconst 3, 1) := by decide +kernel
theorem dX0_init_20 : decode cX0_init 20 = .ok (.newarray .int, 2) := by decide +kernel
theorem dX0_init_22 : decode cX0_init 22 = .ok (.putfield 18, 3) := by decide +kernel
theorem dX0_init_25 : decode cX0_init 25 = .ok (.aload_n 0, 1) := by decide +kernel
theorem dX0_init_26 : decode cX0_init 26 = .ok (.iconst 3, 1) := by decide +kernel
theorem dX0_init_27 : decode cX0_init 27 = .ok (.newarray .int, 2) := by decide +kernel
theorem dX0_init_29 : decode cX0_init 29 = .ok (.putfield 21, 3) := by decide +kernel
theorem dX0_init_32 : decode cX0_init 32 = .ok (.aload_n 0, 1) := by decide +kernel
theorem dX0_init_33 : decode cX0_init 33 = .ok (.bipush 60, 2) := by decide +kernel
theorem dX0_init_35 : decode cX0_init 35 = .ok (.newarray .int, 2) := by decide +kernel
theorem dX0_init_37 : decode cX0_init 37 = .ok (.putfield 24, 3) := by decide +kernel
theorem dX0_init_40 : decode cX0_init 40 = .ok (.aload_n 0, 1) := by decide +kernel
theorem dX0_init_41 : decode cX0_init 41 = .ok (.bipush 10, 2) := by decide +kernel
theorem dX0_init_43 : decode cX0_init 43 = .ok (.newarray .int, 2) := by decide +kernel
theorem dX0_init_45 : decode cX0_init 45 = .ok (.putfield 27, 3) := by decide +kernel
theorem dX0_init_48 : decode cX0_init 48 = .ok (.aload_n 0, 1) := by decide +kernel
theorem dX0_init_49 : decode cX0_init 49 = .ok (.bipush 10, 2) := by decide +kernel
theorem dX0_init_51 : decode cX0_init 51 = .ok (.newarray .int, 2) := by decide +kernel
theorem dX0_init_53 : decode cX0_init 53 = .ok (.putfield 30, 3) := by decide +kernel
theorem dX0_init_56 : decode cX0_init 56 = .ok (.aload_n 0, 1) := by decide +kernel
theorem dX0_init_57 : decode cX0_init 57 = .ok (.bipush 10, 2) := by decide +kernel
theorem dX0_init_59 : decode cX0_init 59 = .ok (.newarray .int, 2) := by decide +kernel
theorem dX0_init_61 : decode cX0_init 61 = .ok (.putfield 33, 3) := by decide +kernel
theorem dX0_init_64 : decode cX0_init 64 = .ok (.return_, 1) := by decide +kernel
theorem dX0_clear_0 : decode cX0_clear 0 = .ok (.iconst 0, 1) := by decide +kernel
theorem dX0_clear_1 : decode cX0_clear 1 = .ok (.istore_n 1, 1) := by decide +kernel
theorem dX0_clear_2 : decode cX0_clear 2 = .ok (.iload_n 1, 1) := by decide +kernel
theorem dX0_clear_3 : decode cX0_clear 3 = .ok (.iconst 3, 1) := by decide +kernel
theorem dX0_clear_4 : decode cX0_clear 4 = .ok (.if_icmp .ge 38, 3) := by decide +kernel
theorem dX0_clear_7 : decode cX0_clear 7 = .ok (.aload_n 0, 1) := by decide +kernel
theorem dX0_clear_8 : decode cX0_clear 8 = .ok (.getfield 9, 3) := by decide +kernel
theorem dX0_clear_11 : decode cX0_clear 11 = .ok (.iload_n 1, 1) := by decide +kernel
theorem dX0_clear_12 : decode cX0_clear 12 = .ok (.bipush 7, 2) := by decide +kernel
theorem dX0_clear_14 : decode cX0_clear 14 = .ok (.iastore, 1) := by decide +kernel
theorem dX0_clear_15 : decode cX0_clear 15 = .ok (.aload_n 0, 1) := by decide +kernel
theorem dX0_clear_16 : decode cX0_clear 16 = .ok (.getfield 15, 3) := by decide +kernel
theorem dX0_clear_19 : decode cX0_clear 19 = .ok (.iload_n 1, 1) := by decide +kernel
theorem dX0_clear_20 : decode cX0_clear 20 = .ok (.iconst 0, 1) := by decide +kernel
theorem dX0_clear_21 : decode cX0_clear 21 = .ok (.iastore, 1) := by decide +kernel
theorem dX0_clear_22 : decode cX0_clear 22 = .ok (.aload_n 0, 1) := by decide +kernel
theorem dX0_clear_23 : decode cX0_clear 23 = .ok (.getfield 18, 3) := by decide +kernel
theorem dX0_clear_26 : decode cX0_clear 26 = .ok (.iload_n 1, 1) := by decide +kernel
theorem dX0_clear_27 : decode cX0_clear 27 = .ok (.iconst 0, 1) := by decide +kernel
theorem dX0_clear_28 : decode cX0_clear 28 = .ok (.iastore, 1) := by decide +kernel
theorem dX0_clear_29 : decode cX0_clear 29 = .ok (.aload_n 0, 1) := by decide +kernel
theorem dX0_clear_30 : decode cX0_clear 30 = .ok (.getfield 21, 3) := by decide +kernel
theorem dX0_clear_33 : decode cX0_clear 33 = .ok (.iload_n 1, 1) := by decide +kernel
theorem dX0_clear_34 : decode cX0_clear 34 = .ok (.iconst 0, 1) := by decide +kernel
theorem dX0_clear_35 : decode cX0_clear 35 = .ok (.iastore, 1) := by decide +kernel
theorem dX0_clear_36 : decode cX0_clear 36 = .ok (.iinc 1 1, 3) := by decide +kernel
theorem dX0_clear_39 : decode cX0_clear 39 = .ok (.goto (-37), 3) := by decide +kernel
theorem dX0_clear_42 : decode cX0_clear 42 = .ok (.iconst 0, 1) := by decide +kernel
theorem dX0_clear_43 : decode cX0_clear 43 = .ok (.istore_n 1, 1) := by decide +kernel
theorem dX0_clear_44 : decode cX0_clear 44 = .ok (.iload_n 1, 1) := by decide +kernel
theorem dX0_clear_45 : decode cX0_clear 45 = .ok (.bipush 10, 2) := by decide +kernel
theorem dX0_clear_47 : decode cX0_clear 47 = .ok (.if_icmp .ge 33, 3) := by decide +kernel
theorem dX0_clear_50 : decode cX0_clear 50 = .ok (.aload_n 0, 1) := by decide +kernel
theorem dX0_clear_51 : decode cX0_clear 51 = .ok (.getfield 27, 3) := by decide +kernel
theorem dX0_clear_54 : decode cX0_clear 54 = .ok (.iload_n 1, 1) := by decide +kernel
theorem dX0_clear_55 : decode cX0_clear 55 = .ok (.bipush (-9), 2) := by decide +kernel
theorem dX0_clear_57 : decode cX0_clear 57 = .ok (.iastore, 1) := by decide +kernel
theorem dX0_clear_58 : decode cX0_clear 58 = .ok (.aload_n 0, 1) := by decide +kernel
theorem dX0_clear_59 : decode cX0_clear 59 = .ok (.getfield 30, 3) := by decide +kernel
theorem dX0_clear_62 : decode cX0_clear 62 = .ok (.iload_n 1, 1) := by decide +kernel
theorem dX0_clear_63 : decode cX0_clear 63 = .ok (.bipush (-9), 2) := by decide +kernel
theorem dX0_clear_65 : decode cX0_clear 65 = .ok (.iastore, 1) := by decide +kernel
theorem dX0_clear_66 : decode cX0_clear 66 = .ok (.aload_n 0, 1) := by decide +kernel
theorem dX0_clear_67 : decode cX0_clear 67 = .ok (.getfield 33, 3) := by decide +kernel
theorem dX0_clear_70 : decode cX0_clear 70 = .ok (.iload_n 1, 1) := by decide +kernel
theorem dX0_clear_71 : decode cX0_clear 71 = .ok (.bipush (-9), 2) := by decide +kernel
theorem dX0_clear_73 : decode cX0_clear 73 = .ok (.iastore, 1) := by decide +kernel
theorem dX0_clear_74 : decode cX0_clear 74 = .ok (.iinc 1 1, 3) := by decide +kernel
theorem dX0_clear_77 : decode cX0_clear 77 = .ok (.goto (-33), 3) := by decide +kernel
theorem dX0_clear_80 : decode cX0_clear 80 = .ok (.aload_n 0, 1) := by decide +kernel
theorem dX0_clear_81 : decode cX0_clear 81 = .ok (.iconst 1, 1) := by decide +kernel
theorem dX0_clear_82 : decode cX0_clear 82 = .ok (.putfield 36, 3) := by decide +kernel
theorem dX0_clear_85 : decode cX0_clear 85 = .ok (.return_, 1) := by decide +kernel
set_option maxRecDepth 20000 in
theorem ggX0_copyFrom_X3_copyInts : GoodIn wsX0_copyFrom wsX3_copyInts := goodIn_r _ [12, 13, 14, 15, 16, 17, 18, 19, 20] rfl rfl
set_option maxRecDepth 20000 in
theorem gX0_copyFrom_X3_copyInts_n40 : GoodIn wsX0_copyFrom (wsX3_copyInts) := ggX0_copyFrom_X3_copyInts
theorem dX0_copyFrom_0 : decode cX0_copyFrom 0 = .ok (.aload_n 1, 1) := by decide +kernel
theorem dX0_copyFrom_1 : decode cX0_copyFrom 1 = .ok (.getfield 9, 3) := by decide +kernel
theorem dX0_copyFrom_4 : decode cX0_copyFrom 4 = .ok (.aload_n 0, 1) := by decide +kernel
theorem dX0_copyFrom_5 : decode cX0_copyFrom 5 = .ok (.getfield 9, 3) := by decide +kernel
theorem dX0_copyFrom_8 : decode cX0_copyFrom 8 = .ok (.invokestatic 40, 3) := by decide +kernel
theorem dX0_copyFrom_11 : decode cX0_copyFrom 11 = .ok (.aload_n 1, 1) := by decide +kernel
theorem dX0_copyFrom_12 : decode cX0_copyFrom 12 = .ok (.getfield 15, 3) := by decide +kernel
theorem dX0_copyFrom_15 : decode cX0_copyFrom 15 = .ok (.aload_n 0, 1) := by decide +kernel
theorem dX0_copyFrom_16 : decode cX0_copyFrom 16 = .ok (.getfield 15, 3) := by decide +kernel
theorem dX0_copyFrom_19 : decode cX0_copyFrom 19 = .ok (.invokestatic 40, 3) := by decide +kernel
theorem dX0_copyFrom_22 : decode cX0_copyFrom 22 = .ok (.aload_n 1, 1) := by decide +kernel
theorem dX0_copyFrom_23 : decode cX0_copyFrom 23 = .ok (.getfield 18, 3) := by decide +kernel
theorem dX0_copyFrom_26 : decode cX0_copyFrom 26 = .ok (.aload_n 0, 1) := by decide +kernel
theorem dX0_copyFrom_27 : decode cX0_copyFrom 27 = .ok (.getfield 18, 3) := by decide +kernel
theorem dX0_copyFrom_30 : decode cX0_copyFrom 30 = .ok (.invokestatic 40, 3) := by decide +kernel
theorem dX0_copyFrom_33 : decode cX0_copyFrom 33 = .ok (.aload_n 1, 1) := by decide +kernel
theorem dX0_copyFrom_34 : decode cX0_copyFrom 34 = .ok (.getfield 21, 3) := by decide +kernel
theorem dX0_copyFrom_37 : decode cX0_copyFrom 37 = .ok (.aload_n 0, 1) := by decide +kernel
theorem dX0_copyFrom_38 : decode cX0_copyFrom 38 = .ok (.getfield 21, 3) := by decide +kernel
theorem dX0_copyFrom_41 : decode cX0_copyFrom 41 = .ok (.invokestatic 40, 3) := by decide +kernel
theorem dX0_copyFrom_44 : decode cX0_copyFrom 44 = .ok (.aload_n 1, 1) := by decide +kernel
theorem dX0_copyFrom_45 : decode cX0_copyFrom 45 = .ok (.getfield 24, 3) := by decide +kernel
theorem dX0_copyFrom_48 : decode cX0_copyFrom 48 = .ok (.aload_n 0, 1) := by decide +kernel
theorem dX0_copyFrom_49 : decode cX0_copyFrom 49 = .ok (.getfield 24, 3) := by decide +kernel
theorem dX0_copyFrom_52 : decode cX0_copyFrom 52 = .ok (.invokestatic 40, 3) := by decide +kernel
theorem dX0_copyFrom_55 : decode cX0_copyFrom 55 = .ok (.aload_n 1, 1) := by decide +kernel
theorem dX0_copyFrom_56 : decode cX0_copyFrom 56 = .ok (.getfield 27, 3) := by decide +kernel
theorem dX0_copyFrom_59 : decode cX0_copyFrom 59 = .ok (.aload_n 0, 1) := by decide +kernel
theorem dX0_copyFrom_60 : decode cX0_copyFrom 60 = .ok (.getfield 27, 3) := by decide +kernel
theorem dX0_copyFrom_63 : decode cX0_copyFrom 63 = .ok (.invokestatic 40, 3) := by decide +kernel
theorem dX0_copyFrom_66 : decode cX0_copyFrom 66 = .ok (.aload_n 1, 1) := by decide +kernel
theorem dX0_copyFrom_67 : decode cX0_copyFrom 67 = .ok (.getfield 30, 3) := by decide +kernel
theorem dX0_copyFrom_70 : decode cX0_copyFrom 70 = .ok (.aload_n 0, 1) := by decide +kernel
theorem dX0_copyFrom_71 : decode cX0_copyFrom 71 = .ok (.getfield 30, 3) := by decide +kernel
theorem dX0_copyFrom_74 : decode cX0_copyFrom 74 = .ok (.invokestatic 40, 3) := by decide +kernel
theorem dX0_copyFrom_77 : decode cX0_copyFrom 77 = .ok (.aload_n 1, 1) := by decide +kernel
theorem dX0_copyFrom_78 : decode cX0_copyFrom 78 = .ok (.getfield 33, 3) := by decide +kernel
theorem dX0_copyFrom_81 : decode cX0_copyFrom 81 = .ok (.aload_n 0, 1) := by decide +kernel
theorem dX0_copyFrom_82 : decode cX0_copyFrom 82 = .ok (.getfield 33, 3) := by decide +kernel
theorem dX0_copyFrom_85 : decode cX0_copyFrom 85 = .ok (.invokestatic 40, 3) := by decide +kernel
theorem dX0_copyFrom_88 : decode cX0_copyFrom 88 = .ok (.aload_n 0, 1) := by decide +kernel
theorem dX0_copyFrom_89 : decode cX0_copyFrom 89 = .ok (.aload_n 1, 1) := by decide +kernel
theorem dX0_copyFrom_90 : decode cX0_copyFrom 90 = .ok (.getfield 36, 3) := by decide +kernel
theorem dX0_copyFrom_93 : decode cX0_copyFrom 93 = .ok (.putfield 36, 3) := by decide +kernel
theorem dX0_copyFrom_96 : decode cX0_copyFrom 96 = .ok (.return_, 1) := by decide +kernel
theorem dX0_shoutCount_0 : decode cX0_shoutCount 0 = .ok (.aload_n 0, 1) := by decide +kernel
theorem dX0_shoutCount_1 : decode cX0_shoutCount 1 = .ok (.getfield 18, 3) := by decide +kernel
theorem dX0_shoutCount_4 : decode cX0_shoutCount 4 = .ok (.iconst 0, 1) := by decide +kernel
theorem dX0_shoutCount_5 : decode cX0_shoutCount 5 = .ok (.iaload, 1) := by decide +kernel
theorem dX0_shoutCount_6 : decode cX0_shoutCount 6 = .ok (.aload_n 0, 1) := by decide +kernel
theorem dX0_shoutCount_7 : decode cX0_shoutCount 7 = .ok (.getfield 18, 3) := by decide +kernel
theorem dX0_shoutCount_10 : decode cX0_shoutCount 10 = .ok (.iconst 1, 1) := by decide +kernel
theorem dX0_shoutCount_11 : decode cX0_shoutCount 11 = .ok (.iaload, 1) := by decide +kernel
theorem dX0_shoutCount_12 : decode cX0_shoutCount 12 = .ok (.iadd, 1) := by decide +kernel
theorem dX0_shoutCount_13 : decode cX0_shoutCount 13 = .ok (.aload_n 0, 1) := by decide +kernel
theorem dX0_shoutCount_14 : decode cX0_shoutCount 14 = .ok (.getfield 18, 3) := by decide +kernel
theorem dX0_shoutCount_17 : decode cX0_shoutCount 17 = .ok (.iconst 2, 1) := by decide +kernel
theorem dX0_shoutCount_18 : decode cX0_shoutCount 18 = .ok (.iaload, 1) := by decide +kernel
theorem dX0_shoutCount_19 : decode cX0_shoutCount 19 = .ok (.iadd, 1) := by decide +kernel
theorem dX0_shoutCount_20 : decode cX0_shoutCount 20 = .ok (.ireturn, 1) := by decide +kernel
theorem dX0_waitingCount_0 : decode cX0_waitingCount 0 = .ok (.aload_n 0, 1) := by decide +kernel
theorem dX0_waitingCount_1 : decode cX0_waitingCount 1 = .ok (.getfield 21, 3) := by decide +kernel
theorem dX0_waitingCount_4 : decode cX0_waitingCount 4 = .ok (.iconst 0, 1) := by decide +kernel
theorem dX0_waitingCount_5 : decode cX0_waitingCount 5 = .ok (.iaload, 1) := by decide +kernel
theorem dX0_waitingCount_6 : decode cX0_waitingCount 6 = .ok (.aload_n 0, 1) := by decide +kernel
theorem dX0_waitingCount_7 : decode cX0_waitingCount 7 = .ok (.getfield 21, 3) := by decide +kernel
theorem dX0_waitingCount_10 : decode cX0_waitingCount 10 = .ok (.iconst 1, 1) := by decide +kernel
theorem dX0_waitingCount_11 : decode cX0_waitingCount 11 = .ok (.iaload, 1) := by decide +kernel
theorem dX0_waitingCount_12 : decode cX0_waitingCount 12 = .ok (.iadd, 1) := by decide +kernel
theorem dX0_waitingCount_13 : decode cX0_waitingCount 13 = .ok (.aload_n 0, 1) := by decide +kernel
theorem dX0_waitingCount_14 : decode cX0_waitingCount 14 = .ok (.getfield 21, 3) := by decide +kernel
theorem dX0_waitingCount_17 : decode cX0_waitingCount 17 = .ok (.iconst 2, 1) := by decide +kernel
theorem dX0_waitingCount_18 : decode cX0_waitingCount 18 = .ok (.iaload, 1) := by decide +kernel
theorem dX0_waitingCount_19 : decode cX0_waitingCount 19 = .ok (.iadd, 1) := by decide +kernel
theorem dX0_waitingCount_20 : decode cX0_waitingCount 20 = .ok (.ireturn, 1) := by decide +kernel
theorem dX0_firstWaiting_0 : decode cX0_firstWaiting 0 = .ok (.aload_n 0, 1) := by decide +kernel
theorem dX0_firstWaiting_1 : decode cX0_firstWaiting 1 = .ok (.getfield 21, 3) := by decide +kernel
theorem dX0_firstWaiting_4 : decode cX0_firstWaiting 4 = .ok (.iload_n 1, 1) := by decide +kernel
theorem dX0_firstWaiting_5 : decode cX0_firstWaiting 5 = .ok (.iaload, 1) := by decide +kernel
theorem dX0_firstWaiting_6 : decode cX0_firstWaiting 6 = .ok (.ifCond .le 15, 3) := by decide +kernel
theorem dX0_firstWaiting_9 : decode cX0_firstWaiting 9 = .ok (.aload_n 0, 1) := by decide +kernel
theorem dX0_firstWaiting_10 : decode cX0_firstWaiting 10 = .ok (.getfield 24, 3) := by decide +kernel
theorem dX0_firstWaiting_13 : decode cX0_firstWaiting 13 = .ok (.bipush 20, 2) := by decide +kernel
theorem dX0_firstWaiting_15 : decode cX0_firstWaiting 15 = .ok (.iload_n 1, 1) := by decide +kernel
theorem dX0_firstWaiting_16 : decode cX0_firstWaiting 16 = .ok (.imul, 1) := by decide +kernel
theorem dX0_firstWaiting_17 : decode cX0_firstWaiting 17 = .ok (.iaload, 1) := by decide +kernel
theorem dX0_firstWaiting_18 : decode cX0_firstWaiting 18 = .ok (.goto 5, 3) := by decide +kernel
theorem dX0_firstWaiting_21 : decode cX0_firstWaiting 21 = .ok (.bipush (-9), 2) := by decide +kernel
theorem dX0_firstWaiting_23 : decode cX0_firstWaiting 23 = .ok (.ireturn, 1) := by decide +kernel
theorem dX0_putAtEnd_0 : decode cX0_putAtEnd 0 = .ok (.aload_n 0, 1) := by decide +kernel
theorem dX0_putAtEnd_1 : decode cX0_putAtEnd 1 = .ok (.getfield 21, 3) := by decide +kernel
theorem dX0_putAtEnd_4 : decode cX0_putAtEnd 4 = .ok (.iload_n 1, 1) := by decide +kernel
theorem dX0_putAtEnd_5 : decode cX0_putAtEnd 5 = .ok (.iaload, 1) := by decide +kernel
theorem dX0_putAtEnd_6 : decode cX0_putAtEnd 6 = .ok (.bipush 20, 2) := by decide +kernel
theorem dX0_putAtEnd_8 : decode cX0_putAtEnd 8 = .ok (.if_icmp .ge 30, 3) := by decide +kernel
theorem dX0_putAtEnd_11 : decode cX0_putAtEnd 11 = .ok (.aload_n 0, 1) := by decide +kernel
theorem dX0_putAtEnd_12 : decode cX0_putAtEnd 12 = .ok (.getfield 24, 3) := by decide +kernel
theorem dX0_putAtEnd_15 : decode cX0_putAtEnd 15 = .ok (.bipush 20, 2) := by decide +kernel
theorem dX0_putAtEnd_17 : decode cX0_putAtEnd 17 = .ok (.iload_n 1, 1) := by decide +kernel
theorem dX0_putAtEnd_18 : decode cX0_putAtEnd 18 = .ok (.imul, 1) := by decide +kernel
theorem dX0_putAtEnd_19 : decode cX0_putAtEnd 19 = .ok (.aload_n 0, 1) := by decide +kernel
theorem dX0_putAtEnd_20 : decode cX0_putAtEnd 20 = .ok (.getfield 21, 3) := by decide +kernel
theorem dX0_putAtEnd_23 : decode cX0_putAtEnd 23 = .ok (.iload_n 1, 1) := by decide +kernel
theorem dX0_putAtEnd_24 : decode cX0_putAtEnd 24 = .ok (.iaload, 1) := by decide +kernel
theorem dX0_putAtEnd_25 : decode cX0_putAtEnd 25 = .ok (.iadd, 1) := by decide +kernel
theorem dX0_putAtEnd_26 : decode cX0_putAtEnd 26 = .ok (.iload_n 2, 1) := by decide +kernel
theorem dX0_putAtEnd_27 : decode cX0_putAtEnd 27 = .ok (.iastore, 1) := by decide +kernel
theorem dX0_putAtEnd_28 : decode cX0_putAtEnd 28 = .ok (.aload_n 0, 1) := by decide +kernel
theorem dX0_putAtEnd_29 : decode cX0_putAtEnd 29 = .ok (.getfield 21, 3) := by decide +kernel
theorem dX0_putAtEnd_32 : decode cX0_putAtEnd 32 = .ok (.iload_n 1, 1) := by decide +kernel
theorem dX0_putAtEnd_33 : decode cX0_putAtEnd 33 = .ok (.dup2, 1) := by decide +kernel
theorem dX0_putAtEnd_34 : decode cX0_putAtEnd 34 = .ok (.iaload, 1) := by decide +kernel
theorem dX0_putAtEnd_35 : decode cX0_putAtEnd 35 = .ok (.iconst 1, 1) := by decide +kernel
theorem dX0_putAtEnd_36 : decode cX0_putAtEnd 36 = .ok (.iadd, 1) := by decide +kernel
theorem dX0_putAtEnd_37 : decode cX0_putAtEnd 37 = .ok (.iastore, 1) := by decide +kernel
theorem dX0_putAtEnd_38 : decode cX0_putAtEnd 38 = .ok (.return_, 1) := by decide +kernel
set_option maxRecDepth 20000 in
theorem ggX0_forget_X3_has : GoodIn wsX0_forget wsX3_has := goodIn_r _ [5] rfl rfl
set_option maxRecDepth 20000 in
theorem gX0_forget_X3_has_n44 : GoodIn wsX0_forget (wsX3_has) := ggX0_forget_X3_has
theorem dX0_forget_0 : decode cX0_forget 0 = .ok (.iconst 0, 1) := by decide +kernel
theorem dX0_forget_1 : decode cX0_forget 1 = .ok (.istore_n 2, 1) := by decide +kernel
theorem dX0_forget_2 : decode cX0_forget 2 = .ok (.iload_n 2, 1) := by decide +kernel
theorem dX0_forget_3 : decode cX0_forget 3 = .ok (.iconst 3, 1) := by decide +kernel
theorem dX0_forget_4 : decode cX0_forget 4 = .ok (.if_icmp .ge 84, 3) := by decide +kernel
theorem dX0_forget_7 : decode cX0_forget 7 = .ok (.iconst 0, 1) := by decide +kernel
theorem dX0_forget_8 : decode cX0_forget 8 = .ok (.istore_n 3, 1) := by decide +kernel
theorem dX0_forget_9 : decode cX0_forget 9 = .ok (.iconst 0, 1) := by decide +kernel
theorem dX0_forget_10 : decode cX0_forget 10 = .ok (.istore 4, 2) := by decide +kernel
theorem dX0_forget_12 : decode cX0_forget 12 = .ok (.iload 4, 2) := by decide +kernel
theorem dX0_forget_14 : decode cX0_forget 14 = .ok (.bipush 20, 2) := by decide +kernel
theorem dX0_forget_16 : decode cX0_forget 16 = .ok (.if_icmp .ge 59, 3) := by decide +kernel
theorem dX0_forget_19 : decode cX0_forget 19 = .ok (.iload 4, 2) := by decide +kernel
theorem dX0_forget_21 : decode cX0_forget 21 = .ok (.aload_n 0, 1) := by decide +kernel
theorem dX0_forget_22 : decode cX0_forget 22 = .ok (.getfield 21, 3) := by decide +kernel
theorem dX0_forget_25 : decode cX0_forget 25 = .ok (.iload_n 2, 1) := by decide +kernel
theorem dX0_forget_26 : decode cX0_forget 26 = .ok (.iaload, 1) := by decide +kernel
theorem dX0_forget_27 : decode cX0_forget 27 = .ok (.if_icmp .ge 48, 3) := by decide +kernel
theorem dX0_forget_30 : decode cX0_forget 30 = .ok (.aload_n 0, 1) := by decide +kernel
theorem dX0_forget_31 : decode cX0_forget 31 = .ok (.getfield 24, 3) := by decide +kernel
theorem dX0_forget_34 : decode cX0_forget 34 = .ok (.bipush 20, 2) := by decide +kernel
theorem dX0_forget_36 : decode cX0_forget 36 = .ok (.iload_n 2, 1) := by decide +kernel
theorem dX0_forget_37 : decode cX0_forget 37 = .ok (.imul, 1) := by decide +kernel
theorem dX0_forget_38 : decode cX0_forget 38 = .ok (.iload 4, 2) := by decide +kernel
theorem dX0_forget_40 : decode cX0_forget 40 = .ok (.iadd, 1) := by decide +kernel
theorem dX0_forget_41 : decode cX0_forget 41 = .ok (.iaload, 1) := by decide +kernel
theorem dX0_forget_42 : decode cX0_forget 42 = .ok (.istore 5, 2) := by decide +kernel
theorem dX0_forget_44 : decode cX0_forget 44 = .ok (.iload_n 1, 1) := by decide +kernel
theorem dX0_forget_45 : decode cX0_forget 45 = .ok (.iload 5, 2) := by decide +kernel
theorem dX0_forget_47 : decode cX0_forget 47 = .ok (.invokestatic 44, 3) := by decide +kernel
theorem dX0_forget_50 : decode cX0_forget 50 = .ok (.ifCond .ne 19, 3) := by decide +kernel
theorem dX0_forget_53 : decode cX0_forget 53 = .ok (.aload_n 0, 1) := by decide +kernel
theorem dX0_forget_54 : decode cX0_forget 54 = .ok (.getfield 24, 3) := by decide +kernel
theorem dX0_forget_57 : decode cX0_forget 57 = .ok (.bipush 20, 2) := by decide +kernel
theorem dX0_forget_59 : decode cX0_forget 59 = .ok (.iload_n 2, 1) := by decide +kernel
theorem dX0_forget_60 : decode cX0_forget 60 = .ok (.imul, 1) := by decide +kernel
theorem dX0_forget_61 : decode cX0_forget 61 = .ok (.iload_n 3, 1) := by decide +kernel
theorem dX0_forget_62 : decode cX0_forget 62 = .ok (.iadd, 1) := by decide +kernel
theorem dX0_forget_63 : decode cX0_forget 63 = .ok (.iload 5, 2) := by decide +kernel
theorem dX0_forget_65 : decode cX0_forget 65 = .ok (.iastore, 1) := by decide +kernel
theorem dX0_forget_66 : decode cX0_forget 66 = .ok (.iinc 3 1, 3) := by decide +kernel
theorem dX0_forget_69 : decode cX0_forget 69 = .ok (.iinc 4 1, 3) := by decide +kernel
theorem dX0_forget_72 : decode cX0_forget 72 = .ok (.goto (-60), 3) := by decide +kernel
theorem dX0_forget_75 : decode cX0_forget 75 = .ok (.aload_n 0, 1) := by decide +kernel
theorem dX0_forget_76 : decode cX0_forget 76 = .ok (.getfield 21, 3) := by decide +kernel
theorem dX0_forget_79 : decode cX0_forget 79 = .ok (.iload_n 2, 1) := by decide +kernel
theorem dX0_forget_80 : decode cX0_forget 80 = .ok (.iload_n 3, 1) := by decide +kernel
theorem dX0_forget_81 : decode cX0_forget 81 = .ok (.iastore, 1) := by decide +kernel
theorem dX0_forget_82 : decode cX0_forget 82 = .ok (.iinc 2 1, 3) := by decide +kernel
theorem dX0_forget_85 : decode cX0_forget 85 = .ok (.goto (-83), 3) := by decide +kernel
theorem dX0_forget_88 : decode cX0_forget 88 = .ok (.return_, 1) := by decide +kernel
set_option maxRecDepth 20000 in
theorem ggX0_passTick_X0_firstWaiting : GoodIn wsX0_passTick wsX0_firstWaiting := goodIn_r _ [8, 9, 10, 27, 28, 29, 30, 31, 32, 33, 34, 35] rfl rfl
set_option maxRecDepth 20000 in
theorem gX0_passTick_X0_firstWaiting : GoodIn wsX0_passTick (wsV RX0 48 RX0 yX0_firstWaiting wsX0_firstWaiting) := goodIn_app (goodIn_of _ (by decide +kernel)) ggX0_passTick_X0_firstWaiting
set_option maxRecDepth 20000 in
theorem ggX0_passTick_X3_bit : GoodIn wsX0_passTick wsX3_bit := goodIn_r _ [13] rfl rfl
set_option maxRecDepth 20000 in
theorem gX0_passTick_X3_bit_n52 : GoodIn wsX0_passTick (wsX3_bit) := ggX0_passTick_X3_bit
set_option maxRecDepth 20000 in
theorem ggX0_passTick_X0_forget : GoodIn wsX0_passTick wsX0_forget := goodIn_r _ [17, 9, 10, 18, 12, 19, 27, 28, 29, 30, 31, 32, 33, 34, 35] rfl rfl
set_option maxRecDepth 20000 in
theorem gX0_passTick_X0_forget : GoodIn wsX0_passTick (wsV RX0 55 RX0 yX0_forget wsX0_forget) := goodIn_app (goodIn_of _ (by decide +kernel)) ggX0_passTick_X0_forget
set_option maxRecDepth 20000 in
theorem ggX0_passTick_X0_keepShout : GoodIn wsX0_passTick wsX0_keepShout := goodIn_r _ [23, 24, 25, 26, 27, 28, 29, 30, 31, 32, 33, 34, 35] rfl rfl
set_option maxRecDepth 20000 in
theorem gX0_passTick_X0_keepShout : GoodIn wsX0_passTick (wsV RX0 59 RX0 yX0_keepShout wsX0_keepShout) := goodIn_app (goodIn_of _ (by decide +kernel)) ggX0_passTick_X0_keepShout
theorem dX0_passTick_0 : decode cX0_passTick 0 = .ok (.aload_n 0, 1) := by decide +kernel
theorem dX0_passTick_1 : decode cX0_passTick 1 = .ok (.getfield 15, 3) := by decide +kernel
theorem dX0_passTick_4 : decode cX0_passTick 4 = .ok (.iload_n 1, 1) := by decide +kernel
theorem dX0_passTick_5 : decode cX0_passTick 5 = .ok (.iaload, 1) := by decide +kernel
theorem dX0_passTick_6 : decode cX0_passTick 6 = .ok (.ifCond .le 16, 3) := by decide +kernel
theorem dX0_passTick_9 : decode cX0_passTick 9 = .ok (.aload_n 0, 1) := by decide +kernel
theorem dX0_passTick_10 : decode cX0_passTick 10 = .ok (.getfield 15, 3) := by decide +kernel
theorem dX0_passTick_13 : decode cX0_passTick 13 = .ok (.iload_n 1, 1) := by decide +kernel
theorem dX0_passTick_14 : decode cX0_passTick 14 = .ok (.dup2, 1) := by decide +kernel
theorem dX0_passTick_15 : decode cX0_passTick 15 = .ok (.iaload, 1) := by decide +kernel
theorem dX0_passTick_16 : decode cX0_passTick 16 = .ok (.iconst 1, 1) := by decide +kernel
theorem dX0_passTick_17 : decode cX0_passTick 17 = .ok (.isub, 1) := by decide +kernel
theorem dX0_passTick_18 : decode cX0_passTick 18 = .ok (.iastore, 1) := by decide +kernel
theorem dX0_passTick_19 : decode cX0_passTick 19 = .ok (.bipush (-9), 2) := by decide +kernel
theorem dX0_passTick_21 : decode cX0_passTick 21 = .ok (.ireturn, 1) := by decide +kernel
theorem dX0_passTick_22 : decode cX0_passTick 22 = .ok (.aload_n 0, 1) := by decide +kernel
theorem dX0_passTick_23 : decode cX0_passTick 23 = .ok (.iload_n 1, 1) := by decide +kernel
theorem dX0_passTick_24 : decode cX0_passTick 24 = .ok (.invokevirtual 48, 3) := by decide +kernel
theorem dX0_passTick_27 : decode cX0_passTick 27 = .ok (.istore_n 3, 1) := by decide +kernel
theorem dX0_passTick_28 : decode cX0_passTick 28 = .ok (.iload_n 3, 1) := by decide +kernel
theorem dX0_passTick_29 : decode cX0_passTick 29 = .ok (.bipush (-9), 2) := by decide +kernel
theorem dX0_passTick_31 : decode cX0_passTick 31 = .ok (.if_icmp .ne 6, 3) := by decide +kernel
theorem dX0_passTick_34 : decode cX0_passTick 34 = .ok (.bipush (-9), 2) := by decide +kernel
theorem dX0_passTick_36 : decode cX0_passTick 36 = .ok (.ireturn, 1) := by decide +kernel
theorem dX0_passTick_37 : decode cX0_passTick 37 = .ok (.aload_n 0, 1) := by decide +kernel
theorem dX0_passTick_38 : decode cX0_passTick 38 = .ok (.iload_n 3, 1) := by decide +kernel
theorem dX0_passTick_39 : decode cX0_passTick 39 = .ok (.invokestatic 52, 3) := by decide +kernel
theorem dX0_passTick_42 : decode cX0_passTick 42 = .ok (.invokevirtual 55, 3) := by decide +kernel
theorem dX0_passTick_45 : decode cX0_passTick 45 = .ok (.aload_n 0, 1) := by decide +kernel
theorem dX0_passTick_46 : decode cX0_passTick 46 = .ok (.getfield 15, 3) := by decide +kernel
theorem dX0_passTick_49 : decode cX0_passTick 49 = .ok (.iload_n 1, 1) := by decide +kernel
theorem dX0_passTick_50 : decode cX0_passTick 50 = .ok (.aload_n 0, 1) := by decide +kernel
theorem dX0_passTick_51 : decode cX0_passTick 51 = .ok (.getfield 36, 3) := by decide +kernel
theorem dX0_passTick_54 : decode cX0_passTick 54 = .ok (.iastore, 1) := by decide +kernel
theorem dX0_passTick_55 : decode cX0_passTick 55 = .ok (.aload_n 0, 1) := by decide +kernel
theorem dX0_passTick_56 : decode cX0_passTick 56 = .ok (.getfield 18, 3) := by decide +kernel
theorem dX0_passTick_59 : decode cX0_passTick 59 = .ok (.iload_n 1, 1) := by decide +kernel
theorem dX0_passTick_60 : decode cX0_passTick 60 = .ok (.dup2, 1) := by decide +kernel
theorem dX0_passTick_61 : decode cX0_passTick 61 = .ok (.iaload, 1) := by decide +kernel
theorem dX0_passTick_62 : decode cX0_passTick 62 = .ok (.iconst 1, 1) := by decide +kernel
theorem dX0_passTick_63 : decode cX0_passTick 63 = .ok (.iadd, 1) := by decide +kernel
theorem dX0_passTick_64 : decode cX0_passTick 64 = .ok (.iastore, 1) := by decide +kernel
theorem dX0_passTick_65 : decode cX0_passTick 65 = .ok (.aload_n 0, 1) := by decide +kernel
theorem dX0_passTick_66 : decode cX0_passTick 66 = .ok (.iload_n 1, 1) := by decide +kernel
theorem dX0_passTick_67 : decode cX0_passTick 67 = .ok (.iload_n 3, 1) := by decide +kernel
theorem dX0_passTick_68 : decode cX0_passTick 68 = .ok (.iload_n 2, 1) := by decide +kernel
theorem dX0_passTick_69 : decode cX0_passTick 69 = .ok (.invokevirtual 59, 3) := by decide +kernel
theorem dX0_passTick_72 : decode cX0_passTick 72 = .ok (.iload_n 3, 1) := by decide +kernel
theorem dX0_passTick_73 : decode cX0_passTick 73 = .ok (.ireturn, 1) := by decide +kernel
theorem dX0_keepShout_0 : decode cX0_keepShout 0 = .ok (.bipush 9, 2) := by decide +kernel
theorem dX0_keepShout_2 : decode cX0_keepShout 2 = .ok (.istore 4, 2) := by decide +kernel
theorem dX0_keepShout_4 : decode cX0_keepShout 4 = .ok (.iload 4, 2) := by decide +kernel
theorem dX0_keepShout_6 : decode cX0_keepShout 6 = .ok (.ifCond .le 57, 3) := by decide +kernel
theorem dX0_keepShout_9 : decode cX0_keepShout 9 = .ok (.aload_n 0, 1) := by decide +kernel
theorem dX0_keepShout_10 : decode cX0_keepShout 10 = .ok (.getfield 27, 3) := by decide +kernel
theorem dX0_keepShout_13 : decode cX0_keepShout 13 = .ok (.iload 4, 2) := by decide +kernel
theorem dX0_keepShout_15 : decode cX0_keepShout 15 = .ok (.aload_n 0, 1) := by decide +kernel
theorem dX0_keepShout_16 : decode cX0_keepShout 16 = .ok (.getfield 27, 3) := by decide +kernel
theorem dX0_keepShout_19 : decode cX0_keepShout 19 = .ok (.iload 4, 2) := by decide +kernel
theorem dX0_keepShout_21 : decode cX0_keepShout 21 = .ok (.iconst 1, 1) := by decide +kernel
theorem dX0_keepShout_22 : decode cX0_keepShout 22 = .ok (.isub, 1) := by decide +kernel
theorem dX0_keepShout_23 : decode cX0_keepShout 23 = .ok (.iaload, 1) := by decide +kernel
theorem dX0_keepShout_24 : decode cX0_keepShout 24 = .ok (.iastore, 1) := by decide +kernel
theorem dX0_keepShout_25 : decode cX0_keepShout 25 = .ok (.aload_n 0, 1) := by decide +kernel
theorem dX0_keepShout_26 : decode cX0_keepShout 26 = .ok (.getfield 30, 3) := by decide +kernel
theorem dX0_keepShout_29 : decode cX0_keepShout 29 = .ok (.iload 4, 2) := by decide +kernel
theorem dX0_keepShout_31 : decode cX0_keepShout 31 = .ok (.aload_n 0, 1) := by decide +kernel
theorem dX0_keepShout_32 : decode cX0_keepShout 32 = .ok (.getfield 30, 3) := by decide +kernel
theorem dX0_keepShout_35 : decode cX0_keepShout 35 = .ok (.iload 4, 2) := by decide +kernel
theorem dX0_keepShout_37 : decode cX0_keepShout 37 = .ok (.iconst 1, 1) := by decide +kernel
theorem dX0_keepShout_38 : decode cX0_keepShout 38 = .ok (.isub, 1) := by decide +kernel
theorem dX0_keepShout_39 : decode cX0_keepShout 39 = .ok (.iaload, 1) := by decide +kernel
theorem dX0_keepShout_40 : decode cX0_keepShout 40 = .ok (.iastore, 1) := by decide +kernel
theorem dX0_keepShout_41 : decode cX0_keepShout 41 = .ok (.aload_n 0, 1) := by decide +kernel
theorem dX0_keepShout_42 : decode cX0_keepShout 42 = .ok (.getfield 33, 3) := by decide +kernel
theorem dX0_keepShout_45 : decode cX0_keepShout 45 = .ok (.iload 4, 2) := by decide +kernel
theorem dX0_keepShout_47 : decode cX0_keepShout 47 = .ok (.aload_n 0, 1) := by decide +kernel
theorem dX0_keepShout_48 : decode cX0_keepShout 48 = .ok (.getfield 33, 3) := by decide +kernel
theorem dX0_keepShout_51 : decode cX0_keepShout 51 = .ok (.iload 4, 2) := by decide +kernel
theorem dX0_keepShout_53 : decode cX0_keepShout 53 = .ok (.iconst 1, 1) := by decide +kernel
theorem dX0_keepShout_54 : decode cX0_keepShout 54 = .ok (.isub, 1) := by decide +kernel
theorem dX0_keepShout_55 : decode cX0_keepShout 55 = .ok (.iaload, 1) := by decide +kernel
theorem dX0_keepShout_56 : decode cX0_keepShout 56 = .ok (.iastore, 1) := by decide +kernel
theorem dX0_keepShout_57 : decode cX0_keepShout 57 = .ok (.iinc 4 (-1), 3) := by decide +kernel
theorem dX0_keepShout_60 : decode cX0_keepShout 60 = .ok (.goto (-56), 3) := by decide +kernel
theorem dX0_keepShout_63 : decode cX0_keepShout 63 = .ok (.aload_n 0, 1) := by decide +kernel
theorem dX0_keepShout_64 : decode cX0_keepShout 64 = .ok (.getfield 27, 3) := by decide +kernel
theorem dX0_keepShout_67 : decode cX0_keepShout 67 = .ok (.iconst 0, 1) := by decide +kernel
theorem dX0_keepShout_68 : decode cX0_keepShout 68 = .ok (.iload_n 1, 1) := by decide +kernel
theorem dX0_keepShout_69 : decode cX0_keepShout 69 = .ok (.iastore, 1) := by decide +kernel
theorem dX0_keepShout_70 : decode cX0_keepShout 70 = .ok (.aload_n 0, 1) := by decide +kernel
theorem dX0_keepShout_71 : decode cX0_keepShout 71 = .ok (.getfield 30, 3) := by decide +kernel
theorem dX0_keepShout_74 : decode cX0_keepShout 74 = .ok (.iconst 0, 1) := by decide +kernel
theorem dX0_keepShout_75 : decode cX0_keepShout 75 = .ok (.iload_n 2, 1) := by decide +kernel
theorem dX0_keepShout_76 : decode cX0_keepShout 76 = .ok (.iastore, 1) := by decide +kernel
theorem dX0_keepShout_77 : decode cX0_keepShout 77 = .ok (.aload_n 0, 1) := by decide +kernel
theorem dX0_keepShout_78 : decode cX0_keepShout 78 = .ok (.getfield 33, 3) := by decide +kernel
theorem dX0_keepShout_81 : decode cX0_keepShout 81 = .ok (.iconst 0, 1) := by decide +kernel
theorem dX0_keepShout_82 : decode cX0_keepShout 82 = .ok (.iload_n 3, 1) := by decide +kernel
theorem dX0_keepShout_83 : decode cX0_keepShout 83 = .ok (.iastore, 1) := by decide +kernel
theorem dX0_keepShout_84 : decode cX0_keepShout 84 = .ok (.return_, 1) := by decide +kernel
set_option maxRecDepth 20000 in
theorem ggX1_init_X0_init : GoodIn wsX1_init wsX0_init := goodIn_r _ [18, 19, 2, 3, 8, 20, 21, 22, 23, 24, 25, 26, 27, 45, 46, 47, 48, 49, 50, 51, 52, 53] rfl rfl
set_option maxRecDepth 20000 in
theorem gX1_init_X0_init_n11 : GoodIn wsX1_init (wsX0_init) := ggX1_init_X0_init
set_option maxRecDepth 20000 in
theorem ggX1_init_X1_clear : GoodIn wsX1_init wsX1_clear := goodIn_r _ [32, 7, 9, 10, 11, 12, 14, 15, 16, 33, 34, 35, 36, 37, 38, 39, 40, 41, 42, 6, 43, 20, 21, 22, 23, 25, 26, 27, 44, 54, 55, 56, 57, 58, 59, 60, 61, 62, 63, 64, 65, 66, 67, 68, 45, 46, 47, 48, 49, 50, 51, 52, 53] rfl rfl
set_option maxRecDepth 20000 in
theorem gX1_init_X1_clear : GoodIn wsX1_init (wsV RX1 41 RX1 yX1_clear wsX1_clear) := goodIn_app (goodIn_of _ (by decide +kernel)) ggX1_init_X1_clear
theorem dX1_init_0 : decode cX1_init 0 = .ok (.aload_n 0, 1) := by decide +kernel
theorem dX1_init_1 : decode cX1_init 1 = .ok (.invokespecial 3, 3) := by decide +kernel
theorem dX1_init_4 : decode cX1_init 4 = .ok (.aload_n 0, 1) := by decide +kernel
theorem dX1_init_5 : decode cX1_init 5 = .ok (.new 9, 3) := by decide +kernel
theorem dX1_init_8 : decode cX1_init 8 = .ok (.dup, 1) := by decide +kernel
theorem dX1_init_9 : decode cX1_init 9 = .ok (.invokespecial 11, 3) := by decide +kernel
theorem dX1_init_12 : decode cX1_init 12 = .ok (.putfield 12, 3) := by decide +kernel
theorem dX1_init_15 : decode cX1_init 15 = .ok (.aload_n 0, 1) := by decide +kernel
theorem dX1_init_16 : decode cX1_init 16 = .ok (.bipush 6, 2) := by decide +kernel
theorem dX1_init_18 : decode cX1_init 18 = .ok (.newarray .int, 2) := by decide +kernel
theorem dX1_init_20 : decode cX1_init 20 = .ok (.putfield 18, 3) := by decide +kernel
theorem dX1_init_23 : decode cX1_init 23 = .ok (.aload_n 0, 1) := by decide +kernel
theorem dX1_init_24 : decode cX1_init 24 = .ok (.bipush 6, 2) := by decide +kernel
theorem dX1_init_26 : decode cX1_init 26 = .ok (.newarray .int, 2) := by decide +kernel
theorem dX1_init_28 : decode cX1_init 28 = .ok (.putfield 22, 3) := by decide +kernel
theorem dX1_init_31 : decode cX1_init 31 = .ok (.aload_n 0, 1) := by decide +kernel
theorem dX1_init_32 : decode cX1_init 32 = .ok (.bipush 6, 2) := by decide +kernel
theorem dX1_init_34 : decode cX1_init 34 = .ok (.newarray .int, 2) := by decide +kernel
theorem dX1_init_36 : decode cX1_init 36 = .ok (.putfield 25, 3) := by decide +kernel
theorem dX1_init_39 : decode cX1_init 39 = .ok (.aload_n 0, 1) := by decide +kernel
theorem dX1_init_40 : decode cX1_init 40 = .ok (.bipush 6, 2) := by decide +kernel
theorem dX1_init_42 : decode cX1_init 42 = .ok (.newarray .int, 2) := by decide +kernel
theorem dX1_init_44 : decode cX1_init 44 = .ok (.putfield 28, 3) := by decide +kernel
theorem dX1_init_47 : decode cX1_init 47 = .ok (.aload_n 0, 1) := by decide +kernel
theorem dX1_init_48 : decode cX1_init 48 = .ok (.bipush 6, 2) := by decide +kernel
theorem dX1_init_50 : decode cX1_init 50 = .ok (.newarray .boolean, 2) := by decide +kernel
theorem dX1_init_52 : decode cX1_init 52 = .ok (.putfield 31, 3) := by decide +kernel
theorem dX1_init_55 : decode cX1_init 55 = .ok (.aload_n 0, 1) := by decide +kernel
theorem dX1_init_56 : decode cX1_init 56 = .ok (.bipush 20, 2) := by decide +kernel
theorem dX1_init_58 : decode cX1_init 58 = .ok (.newarray .int, 2) := by decide +kernel
theorem dX1_init_60 : decode cX1_init 60 = .ok (.putfield 35, 3) := by decide +kernel
theorem dX1_init_63 : decode cX1_init 63 = .ok (.aload_n 0, 1) := by decide +kernel
theorem dX1_init_64 : decode cX1_init 64 = .ok (.bipush 20, 2) := by decide +kernel
theorem dX1_init_66 : decode cX1_init 66 = .ok (.newarray .int, 2) := by decide +kernel
theorem dX1_init_68 : decode cX1_init 68 = .ok (.putfield 38, 3) := by decide +kernel
theorem dX1_init_71 : decode cX1_init 71 = .ok (.aload_n 0, 1) := by decide +kernel
theorem dX1_init_72 : decode cX1_init 72 = .ok (.invokevirtual 41, 3) := by decide +kernel
theorem dX1_init_75 : decode cX1_init 75 = .ok (.return_, 1) := by decide +kernel
set_option maxRecDepth 20000 in
theorem ggX1_clear_X0_clear : GoodIn wsX1_clear wsX0_clear := goodIn_r _ [20, 21, 22, 23, 24, 25, 26, 27, 28, 44, 45, 46, 47, 48, 49, 50, 51, 52] rfl rfl
set_option maxRecDepth 20000 in
theorem gX1_clear_X0_clear : GoodIn wsX1_clear (wsV RX1 44 RX0 yX0_clear wsX0_clear) := goodIn_app (goodIn_of _ (by decide +kernel)) ggX1_clear_X0_clear
theorem dX1_clear_0 : decode cX1_clear 0 = .ok (.aload_n 0, 1) := by decide +kernel
theorem dX1_clear_1 : decode cX1_clear 1 = .ok (.getfield 12, 3) := by decide +kernel
theorem dX1_clear_4 : decode cX1_clear 4 = .ok (.invokevirtual 44, 3) := by decide +kernel
theorem dX1_clear_7 : decode cX1_clear 7 = .ok (.iconst 0, 1) := by decide +kernel
theorem dX1_clear_8 : decode cX1_clear 8 = .ok (.istore_n 1, 1) := by decide +kernel
theorem dX1_clear_9 : decode cX1_clear 9 = .ok (.iload_n 1, 1) := by decide +kernel
theorem dX1_clear_10 : decode cX1_clear 10 = .ok (.bipush 6, 2) := by decide +kernel
theorem dX1_clear_12 : decode cX1_clear 12 = .ok (.if_icmp .ge 46, 3) := by decide +kernel
theorem dX1_clear_15 : decode cX1_clear 15 = .ok (.aload_n 0, 1) := by decide +kernel
theorem dX1_clear_16 : decode cX1_clear 16 = .ok (.getfield 18, 3) := by decide +kernel
theorem dX1_clear_19 : decode cX1_clear 19 = .ok (.iload_n 1, 1) := by decide +kernel
theorem dX1_clear_20 : decode cX1_clear 20 = .ok (.iconst 0, 1) := by decide +kernel
theorem dX1_clear_21 : decode cX1_clear 21 = .ok (.iastore, 1) := by decide +kernel
theorem dX1_clear_22 : decode cX1_clear 22 = .ok (.aload_n 0, 1) := by decide +kernel
theorem dX1_clear_23 : decode cX1_clear 23 = .ok (.getfield 22, 3) := by decide +kernel
theorem dX1_clear_26 : decode cX1_clear 26 = .ok (.iload_n 1, 1) := by decide +kernel
theorem dX1_clear_27 : decode cX1_clear 27 = .ok (.iconst 0, 1) := by decide +kernel
theorem dX1_clear_28 : decode cX1_clear 28 = .ok (.iastore, 1) := by decide +kernel
theorem dX1_clear_29 : decode cX1_clear 29 = .ok (.aload_n 0, 1) := by decide +kernel
theorem dX1_clear_30 : decode cX1_clear 30 = .ok (.getfield 25, 3) := by decide +kernel
theorem dX1_clear_33 : decode cX1_clear 33 = .ok (.iload_n 1, 1) := by decide +kernel
theorem dX1_clear_34 : decode cX1_clear 34 = .ok (.bipush (-9), 2) := by decide +kernel
theorem dX1_clear_36 : decode cX1_clear 36 = .ok (.iastore, 1) := by decide +kernel
theorem dX1_clear_37 : decode cX1_clear 37 = .ok (.aload_n 0, 1) := by decide +kernel
theorem dX1_clear_38 : decode cX1_clear 38 = .ok (.getfield 28, 3) := by decide +kernel
theorem dX1_clear_41 : decode cX1_clear 41 = .ok (.iload_n 1, 1) := by decide +kernel
theorem dX1_clear_42 : decode cX1_clear 42 = .ok (.bipush (-9), 2) := by decide +kernel
theorem dX1_clear_44 : decode cX1_clear 44 = .ok (.iastore, 1) := by decide +kernel
theorem dX1_clear_45 : decode cX1_clear 45 = .ok (.aload_n 0, 1) := by decide +kernel
theorem dX1_clear_46 : decode cX1_clear 46 = .ok (.getfield 31, 3) := by decide +kernel
theorem dX1_clear_49 : decode cX1_clear 49 = .ok (.iload_n 1, 1) := by decide +kernel
theorem dX1_clear_50 : decode cX1_clear 50 = .ok (.iconst 0, 1) := by decide +kernel
theorem dX1_clear_51 : decode cX1_clear 51 = .ok (.bastore, 1) := by decide +kernel
theorem dX1_clear_52 : decode cX1_clear 52 = .ok (.iinc 1 1, 3) := by decide +kernel
theorem dX1_clear_55 : decode cX1_clear 55 = .ok (.goto (-46), 3) := by decide +kernel
theorem dX1_clear_58 : decode cX1_clear 58 = .ok (.iconst 0, 1) := by decide +kernel
theorem dX1_clear_59 : decode cX1_clear 59 = .ok (.istore_n 1, 1) := by decide +kernel
theorem dX1_clear_60 : decode cX1_clear 60 = .ok (.iload_n 1, 1) := by decide +kernel
theorem dX1_clear_61 : decode cX1_clear 61 = .ok (.bipush 20, 2) := by decide +kernel
theorem dX1_clear_63 : decode cX1_clear 63 = .ok (.if_icmp .ge 23, 3) := by decide +kernel
theorem dX1_clear_66 : decode cX1_clear 66 = .ok (.aload_n 0, 1) := by decide +kernel
theorem dX1_clear_67 : decode cX1_clear 67 = .ok (.getfield 35, 3) := by decide +kernel
theorem dX1_clear_70 : decode cX1_clear 70 = .ok (.iload_n 1, 1) := by decide +kernel
theorem dX1_clear_71 : decode cX1_clear 71 = .ok (.iconst 0, 1) := by decide +kernel
theorem dX1_clear_72 : decode cX1_clear 72 = .ok (.iastore, 1) := by decide +kernel
theorem dX1_clear_73 : decode cX1_clear 73 = .ok (.aload_n 0, 1) := by decide +kernel
theorem dX1_clear_74 : decode cX1_clear 74 = .ok (.getfield 38, 3) := by decide +kernel
theorem dX1_clear_77 : decode cX1_clear 77 = .ok (.iload_n 1, 1) := by decide +kernel
theorem dX1_clear_78 : decode cX1_clear 78 = .ok (.iconst 0, 1) := by decide +kernel
theorem dX1_clear_79 : decode cX1_clear 79 = .ok (.iastore, 1) := by decide +kernel
theorem dX1_clear_80 : decode cX1_clear 80 = .ok (.iinc 1 1, 3) := by decide +kernel
theorem dX1_clear_83 : decode cX1_clear 83 = .ok (.goto (-23), 3) := by decide +kernel
theorem dX1_clear_86 : decode cX1_clear 86 = .ok (.aload_n 0, 1) := by decide +kernel
theorem dX1_clear_87 : decode cX1_clear 87 = .ok (.iconst 0, 1) := by decide +kernel
theorem dX1_clear_88 : decode cX1_clear 88 = .ok (.putfield 45, 3) := by decide +kernel
theorem dX1_clear_91 : decode cX1_clear 91 = .ok (.aload_n 0, 1) := by decide +kernel
theorem dX1_clear_92 : decode cX1_clear 92 = .ok (.iconst 0, 1) := by decide +kernel
theorem dX1_clear_93 : decode cX1_clear 93 = .ok (.putfield 49, 3) := by decide +kernel
theorem dX1_clear_96 : decode cX1_clear 96 = .ok (.aload_n 0, 1) := by decide +kernel
theorem dX1_clear_97 : decode cX1_clear 97 = .ok (.iconst 2, 1) := by decide +kernel
theorem dX1_clear_98 : decode cX1_clear 98 = .ok (.putfield 52, 3) := by decide +kernel
theorem dX1_clear_101 : decode cX1_clear 101 = .ok (.aload_n 0, 1) := by decide +kernel
theorem dX1_clear_102 : decode cX1_clear 102 = .ok (.iconst 0, 1) := by decide +kernel
theorem dX1_clear_103 : decode cX1_clear 103 = .ok (.putfield 55, 3) := by decide +kernel
theorem dX1_clear_106 : decode cX1_clear 106 = .ok (.aload_n 0, 1) := by decide +kernel
theorem dX1_clear_107 : decode cX1_clear 107 = .ok (.iconst 0, 1) := by decide +kernel
theorem dX1_clear_108 : decode cX1_clear 108 = .ok (.putfield 58, 3) := by decide +kernel
theorem dX1_clear_111 : decode cX1_clear 111 = .ok (.aload_n 0, 1) := by decide +kernel
theorem dX1_clear_112 : decode cX1_clear 112 = .ok (.iconst 0, 1) := by decide +kernel
theorem dX1_clear_113 : decode cX1_clear 113 = .ok (.putfield 61, 3) := by decide +kernel
theorem dX1_clear_116 : decode cX1_clear 116 = .ok (.aload_n 0, 1) := by decide +kernel
theorem dX1_clear_117 : decode cX1_clear 117 = .ok (.iconst 0, 1) := by decide +kernel
theorem dX1_clear_118 : decode cX1_clear 118 = .ok (.putfield 64, 3) := by decide +kernel
theorem dX1_clear_121 : decode cX1_clear 121 = .ok (.return_, 1) := by decide +kernel
set_option maxRecDepth 20000 in
theorem ggX1_copyFrom_X0_copyFrom : GoodIn wsX1_copyFrom wsX0_copyFrom := goodIn_r _ [20, 21, 22, 23, 24, 25, 26, 27, 28, 29, 30, 31, 32, 33, 34, 35, 36, 37, 38, 39, 40, 56, 57, 58, 59, 60, 61, 62, 63, 64] rfl rfl
set_option maxRecDepth 20000 in
theorem gX1_copyFrom_X0_copyFrom : GoodIn wsX1_copyFrom (wsV RX1 67 RX0 yX0_copyFrom wsX0_copyFrom) := goodIn_app (goodIn_of _ (by decide +kernel)) ggX1_copyFrom_X0_copyFrom
set_option maxRecDepth 20000 in
theorem ggX1_copyFrom_X3_copyInts : GoodIn wsX1_copyFrom wsX3_copyInts := goodIn_r _ [32, 33, 34, 35, 36, 37, 38, 39, 40] rfl rfl
set_option maxRecDepth 20000 in
theorem gX1_copyFrom_X3_copyInts_n71 : GoodIn wsX1_copyFrom (wsX3_copyInts) := ggX1_copyFrom_X3_copyInts
theorem dX1_copyFrom_0 : decode cX1_copyFrom 0 = .ok (.aload_n 0, 1) := by decide +kernel
theorem dX1_copyFrom_1 : decode cX1_copyFrom 1 = .ok (.getfield 12, 3) := by decide +kernel
theorem dX1_copyFrom_4 : decode cX1_copyFrom 4 = .ok (.aload_n 1, 1) := by decide +kernel
theorem dX1_copyFrom_5 : decode cX1_copyFrom 5 = .ok (.getfield 12, 3) := by decide +kernel
theorem dX1_copyFrom_8 : decode cX1_copyFrom 8 = .ok (.invokevirtual 67, 3) := by decide +kernel
theorem dX1_copyFrom_11 : decode cX1_copyFrom 11 = .ok (.aload_n 1, 1) := by decide +kernel
theorem dX1_copyFrom_12 : decode cX1_copyFrom 12 = .ok (.getfield 18, 3) := by decide +kernel
theorem dX1_copyFrom_15 : decode cX1_copyFrom 15 = .ok (.aload_n 0, 1) := by decide +kernel
theorem dX1_copyFrom_16 : decode cX1_copyFrom 16 = .ok (.getfield 18, 3) := by decide +kernel
theorem dX1_copyFrom_19 : decode cX1_copyFrom 19 = .ok (.invokestatic 71, 3) := by decide +kernel
theorem dX1_copyFrom_22 : decode cX1_copyFrom 22 = .ok (.aload_n 1, 1) := by decide +kernel
theorem dX1_copyFrom_23 : decode cX1_copyFrom 23 = .ok (.getfield 22, 3) := by decide +kernel
theorem dX1_copyFrom_26 : decode cX1_copyFrom 26 = .ok (.aload_n 0, 1) := by decide +kernel
theorem dX1_copyFrom_27 : decode cX1_copyFrom 27 = .ok (.getfield 22, 3) := by decide +kernel
theorem dX1_copyFrom_30 : decode cX1_copyFrom 30 = .ok (.invokestatic 71, 3) := by decide +kernel
theorem dX1_copyFrom_33 : decode cX1_copyFrom 33 = .ok (.aload_n 1, 1) := by decide +kernel
theorem dX1_copyFrom_34 : decode cX1_copyFrom 34 = .ok (.getfield 25, 3) := by decide +kernel
theorem dX1_copyFrom_37 : decode cX1_copyFrom 37 = .ok (.aload_n 0, 1) := by decide +kernel
theorem dX1_copyFrom_38 : decode cX1_copyFrom 38 = .ok (.getfield 25, 3) := by decide +kernel
theorem dX1_copyFrom_41 : decode cX1_copyFrom 41 = .ok (.invokestatic 71, 3) := by decide +kernel
theorem dX1_copyFrom_44 : decode cX1_copyFrom 44 = .ok (.aload_n 1, 1) := by decide +kernel
theorem dX1_copyFrom_45 : decode cX1_copyFrom 45 = .ok (.getfield 28, 3) := by decide +kernel
theorem dX1_copyFrom_48 : decode cX1_copyFrom 48 = .ok (.aload_n 0, 1) := by decide +kernel
theorem dX1_copyFrom_49 : decode cX1_copyFrom 49 = .ok (.getfield 28, 3) := by decide +kernel
theorem dX1_copyFrom_52 : decode cX1_copyFrom 52 = .ok (.invokestatic 71, 3) := by decide +kernel
theorem dX1_copyFrom_55 : decode cX1_copyFrom 55 = .ok (.iconst 0, 1) := by decide +kernel
theorem dX1_copyFrom_56 : decode cX1_copyFrom 56 = .ok (.istore_n 2, 1) := by decide +kernel
theorem dX1_copyFrom_57 : decode cX1_copyFrom 57 = .ok (.iload_n 2, 1) := by decide +kernel
theorem dX1_copyFrom_58 : decode cX1_copyFrom 58 = .ok (.bipush 6, 2) := by decide +kernel
theorem dX1_copyFrom_60 : decode cX1_copyFrom 60 = .ok (.if_icmp .ge 21, 3) := by decide +kernel
theorem dX1_copyFrom_63 : decode cX1_copyFrom 63 = .ok (.aload_n 0, 1) := by decide +kernel
theorem dX1_copyFrom_64 : decode cX1_copyFrom 64 = .ok (.getfield 31, 3) := by decide +kernel
theorem dX1_copyFrom_67 : decode cX1_copyFrom 67 = .ok (.iload_n 2, 1) := by decide +kernel
theorem dX1_copyFrom_68 : decode cX1_copyFrom 68 = .ok (.aload_n 1, 1) := by decide +kernel
theorem dX1_copyFrom_69 : decode cX1_copyFrom 69 = .ok (.getfield 31, 3) := by decide +kernel
theorem dX1_copyFrom_72 : decode cX1_copyFrom 72 = .ok (.iload_n 2, 1) := by decide +kernel
theorem dX1_copyFrom_73 : decode cX1_copyFrom 73 = .ok (.baload, 1) := by decide +kernel
theorem dX1_copyFrom_74 : decode cX1_copyFrom 74 = .ok (.bastore, 1) := by decide +kernel
theorem dX1_copyFrom_75 : decode cX1_copyFrom 75 = .ok (.iinc 2 1, 3) := by decide +kernel
theorem dX1_copyFrom_78 : decode cX1_copyFrom 78 = .ok (.goto (-21), 3) := by decide +kernel
theorem dX1_copyFrom_81 : decode cX1_copyFrom 81 = .ok (.aload_n 1, 1) := by decide +kernel
theorem dX1_copyFrom_82 : decode cX1_copyFrom 82 = .ok (.getfield 35, 3) := by decide +kernel
theorem dX1_copyFrom_85 : decode cX1_copyFrom 85 = .ok (.aload_n 0, 1) := by decide +kernel
theorem dX1_copyFrom_86 : decode cX1_copyFrom 86 = .ok (.getfield 35, 3) := by decide +kernel
theorem dX1_copyFrom_89 : decode cX1_copyFrom 89 = .ok (.invokestatic 71, 3) := by decide +kernel
theorem dX1_copyFrom_92 : decode cX1_copyFrom 92 = .ok (.aload_n 1, 1) := by decide +kernel
theorem dX1_copyFrom_93 : decode cX1_copyFrom 93 = .ok (.getfield 38, 3) := by decide +kernel
theorem dX1_copyFrom_96 : decode cX1_copyFrom 96 = .ok (.aload_n 0, 1) := by decide +kernel
theorem dX1_copyFrom_97 : decode cX1_copyFrom 97 = .ok (.getfield 38, 3) := by decide +kernel
theorem dX1_copyFrom_100 : decode cX1_copyFrom 100 = .ok (.invokestatic 71, 3) := by decide +kernel
theorem dX1_copyFrom_103 : decode cX1_copyFrom 103 = .ok (.aload_n 0, 1) := by decide +kernel
theorem dX1_copyFrom_104 : decode cX1_copyFrom 104 = .ok (.aload_n 1, 1) := by decide +kernel
theorem dX1_copyFrom_105 : decode cX1_copyFrom 105 = .ok (.getfield 45, 3) := by decide +kernel
theorem dX1_copyFrom_108 : decode cX1_copyFrom 108 = .ok (.putfield 45, 3) := by decide +kernel
theorem dX1_copyFrom_111 : decode cX1_copyFrom 111 = .ok (.aload_n 0, 1) := by decide +kernel
theorem dX1_copyFrom_112 : decode cX1_copyFrom 112 = .ok (.aload_n 1, 1) := by decide +kernel
theorem dX1_copyFrom_113 : decode cX1_copyFrom 113 = .ok (.getfield 49, 3) := by decide +kernel
theorem dX1_copyFrom_116 : decode cX1_copyFrom 116 = .ok (.putfield 49, 3) := by decide +kernel
theorem dX1_copyFrom_119 : decode cX1_copyFrom 119 = .ok (.aload_n 0, 1) := by decide +kernel
theorem dX1_copyFrom_120 : decode cX1_copyFrom 120 = .ok (.aload_n 1, 1) := by decide +kernel
theorem dX1_copyFrom_121 : decode cX1_copyFrom 121 = .ok (.getfield 52, 3) := by decide +kernel
theorem dX1_copyFrom_124 : decode cX1_copyFrom 124 = .ok (.putfield 52, 3) := by decide +kernel
theorem dX1_copyFrom_127 : decode cX1_copyFrom 127 = .ok (.aload_n 0, 1) := by decide +kernel
theorem dX1_copyFrom_128 : decode cX1_copyFrom 128 = .ok (.aload_n 1, 1) := by decide +kernel
theorem dX1_copyFrom_129 : decode cX1_copyFrom 129 = .ok (.getfield 55, 3) := by decide +kernel
theorem dX1_copyFrom_132 : decode cX1_copyFrom 132 = .ok (.putfield 55, 3) := by decide +kernel
theorem dX1_copyFrom_135 : decode cX1_copyFrom 135 = .ok (.aload_n 0, 1) := by decide +kernel
theorem dX1_copyFrom_136 : decode cX1_copyFrom 136 = .ok (.aload_n 1, 1) := by decide +kernel
theorem dX1_copyFrom_137 : decode cX1_copyFrom 137 = .ok (.getfield 58, 3) := by decide +kernel
theorem dX1_copyFrom_140 : decode cX1_copyFrom 140 = .ok (.putfield 58, 3) := by decide +kernel
theorem dX1_copyFrom_143 : decode cX1_copyFrom 143 = .ok (.aload_n 0, 1) := by decide +kernel
theorem dX1_copyFrom_144 : decode cX1_copyFrom 144 = .ok (.aload_n 1, 1) := by decide +kernel
theorem dX1_copyFrom_145 : decode cX1_copyFrom 145 = .ok (.getfield 61, 3) := by decide +kernel
theorem dX1_copyFrom_148 : decode cX1_copyFrom 148 = .ok (.putfield 61, 3) := by decide +kernel
theorem dX1_copyFrom_151 : decode cX1_copyFrom 151 = .ok (.aload_n 0, 1) := by decide +kernel
theorem dX1_copyFrom_152 : decode cX1_copyFrom 152 = .ok (.aload_n 1, 1) := by decide +kernel
theorem dX1_copyFrom_153 : decode cX1_copyFrom 153 = .ok (.getfield 64, 3) := by decide +kernel
theorem dX1_copyFrom_156 : decode cX1_copyFrom 156 = .ok (.putfield 64, 3) := by decide +kernel
theorem dX1_copyFrom_159 : decode cX1_copyFrom 159 = .ok (.return_, 1) := by decide +kernel
set_option maxRecDepth 20000 in
theorem ggX1_holderOf_X3_has : GoodIn wsX1_holderOf wsX3_has := goodIn_r _ [4] rfl rfl
set_option maxRecDepth 20000 in
theorem gX1_holderOf_X3_has_n75 : GoodIn wsX1_holderOf (wsX3_has) := ggX1_holderOf_X3_has
theorem dX1_holderOf_0 : decode cX1_holderOf 0 = .ok (.iconst 0, 1) := by decide +kernel
theorem dX1_holderOf_1 : decode cX1_holderOf 1 = .ok (.istore_n 2, 1) := by decide +kernel
theorem dX1_holderOf_2 : decode cX1_holderOf 2 = .ok (.iload_n 2, 1) := by decide +kernel
theorem dX1_holderOf_3 : decode cX1_holderOf 3 = .ok (.bipush 6, 2) := by decide +kernel
theorem dX1_holderOf_5 : decode cX1_holderOf 5 = .ok (.if_icmp .ge 24, 3) := by decide +kernel
theorem dX1_holderOf_8 : decode cX1_holderOf 8 = .ok (.aload_n 0, 1) := by decide +kernel
theorem dX1_holderOf_9 : decode cX1_holderOf 9 = .ok (.getfield 18, 3) := by decide +kernel
theorem dX1_holderOf_12 : decode cX1_holderOf 12 = .ok (.iload_n 2, 1) := by decide +kernel
theorem dX1_holderOf_13 : decode cX1_holderOf 13 = .ok (.iaload, 1) := by decide +kernel
theorem dX1_holderOf_14 : decode cX1_holderOf 14 = .ok (.iload_n 1, 1) := by decide +kernel
theorem dX1_holderOf_15 : decode cX1_holderOf 15 = .ok (.invokestatic 75, 3) := by decide +kernel
theorem dX1_holderOf_18 : decode cX1_holderOf 18 = .ok (.ifCond .eq 5, 3) := by decide +kernel
theorem dX1_holderOf_21 : decode cX1_holderOf 21 = .ok (.iload_n 2, 1) := by decide +kernel
theorem dX1_holderOf_22 : decode cX1_holderOf 22 = .ok (.ireturn, 1) := by decide +kernel
theorem dX1_holderOf_23 : decode cX1_holderOf 23 = .ok (.iinc 2 1, 3) := by decide +kernel
theorem dX1_holderOf_26 : decode cX1_holderOf 26 = .ok (.goto (-24), 3) := by decide +kernel
theorem dX1_holderOf_29 : decode cX1_holderOf 29 = .ok (.bipush (-9), 2) := by decide +kernel
theorem dX1_holderOf_31 : decode cX1_holderOf 31 = .ok (.ireturn, 1) := by decide +kernel
theorem dX1_booksInBags_0 : decode cX1_booksInBags 0 = .ok (.iconst 0, 1) := by decide +kernel
theorem dX1_booksInBags_1 : decode cX1_booksInBags 1 = .ok (.istore_n 1, 1) := by decide +kernel
theorem dX1_booksInBags_2 : decode cX1_booksInBags 2 = .ok (.iconst 0, 1) := by decide +kernel
theorem dX1_booksInBags_3 : decode cX1_booksInBags 3 = .ok (.istore_n 2, 1) := by decide +kernel
theorem dX1_booksInBags_4 : decode cX1_booksInBags 4 = .ok (.iload_n 2, 1) := by decide +kernel
theorem dX1_booksInBags_5 : decode cX1_booksInBags 5 = .ok (.bipush 6, 2) := by decide +kernel
theorem dX1_booksInBags_7 : decode cX1_booksInBags 7 = .ok (.if_icmp .ge 18, 3) := by decide +kernel
theorem dX1_booksInBags_10 : decode cX1_booksInBags 10 = .ok (.iload_n 1, 1) := by decide +kernel
theorem dX1_booksInBags_11 : decode cX1_booksInBags 11 = .ok (.aload_n 0, 1) := by decide +kernel
theorem dX1_booksInBags_12 : decode cX1_booksInBags 12 = .ok (.getfield 18, 3) := by decide +kernel
theorem dX1_booksInBags_15 : decode cX1_booksInBags 15 = .ok (.iload_n 2, 1) := by decide +kernel
theorem dX1_booksInBags_16 : decode cX1_booksInBags 16 = .ok (.iaload, 1) := by decide +kernel
theorem dX1_booksInBags_17 : decode cX1_booksInBags 17 = .ok (.ior, 1) := by decide +kernel
theorem dX1_booksInBags_18 : decode cX1_booksInBags 18 = .ok (.istore_n 1, 1) := by decide +kernel
theorem dX1_booksInBags_19 : decode cX1_booksInBags 19 = .ok (.iinc 2 1, 3) := by decide +kernel
theorem dX1_booksInBags_22 : decode cX1_booksInBags 22 = .ok (.goto (-18), 3) := by decide +kernel
theorem dX1_booksInBags_25 : decode cX1_booksInBags 25 = .ok (.iload_n 1, 1) := by decide +kernel
theorem dX1_booksInBags_26 : decode cX1_booksInBags 26 = .ok (.ireturn, 1) := by decide +kernel
set_option maxRecDepth 20000 in
theorem ggX1_visitorsWho_X3_oneIf : GoodIn wsX1_visitorsWho wsX3_oneIf := goodIn_r _ [4] rfl rfl
set_option maxRecDepth 20000 in
theorem gX1_visitorsWho_X3_oneIf_n79 : GoodIn wsX1_visitorsWho (wsX3_oneIf) := ggX1_visitorsWho_X3_oneIf
theorem dX1_visitorsWho_0 : decode cX1_visitorsWho 0 = .ok (.iconst 0, 1) := by decide +kernel
theorem dX1_visitorsWho_1 : decode cX1_visitorsWho 1 = .ok (.istore_n 2, 1) := by decide +kernel
theorem dX1_visitorsWho_2 : decode cX1_visitorsWho 2 = .ok (.iconst 0, 1) := by decide +kernel
theorem dX1_visitorsWho_3 : decode cX1_visitorsWho 3 = .ok (.istore_n 3, 1) := by decide +kernel
theorem dX1_visitorsWho_4 : decode cX1_visitorsWho 4 = .ok (.iload_n 3, 1) := by decide +kernel
theorem dX1_visitorsWho_5 : decode cX1_visitorsWho 5 = .ok (.bipush 6, 2) := by decide +kernel
theorem dX1_visitorsWho_7 : decode cX1_visitorsWho 7 = .ok (.if_icmp .ge 30, 3) := by decide +kernel
theorem dX1_visitorsWho_10 : decode cX1_visitorsWho 10 = .ok (.iload_n 2, 1) := by decide +kernel
theorem dX1_visitorsWho_11 : decode cX1_visitorsWho 11 = .ok (.aload_n 0, 1) := by decide +kernel
theorem dX1_visitorsWho_12 : decode cX1_visitorsWho 12 = .ok (.getfield 22, 3) := by decide +kernel
theorem dX1_visitorsWho_15 : decode cX1_visitorsWho 15 = .ok (.iload_n 3, 1) := by decide +kernel
theorem dX1_visitorsWho_16 : decode cX1_visitorsWho 16 = .ok (.iaload, 1) := by decide +kernel
theorem dX1_visitorsWho_17 : decode cX1_visitorsWho 17 = .ok (.iload_n 1, 1) := by decide +kernel
theorem dX1_visitorsWho_18 : decode cX1_visitorsWho 18 = .ok (.if_icmp .ne 7, 3) := by decide +kernel
theorem dX1_visitorsWho_21 : decode cX1_visitorsWho 21 = .ok (.iconst 1, 1) := by decide +kernel
theorem dX1_visitorsWho_22 : decode cX1_visitorsWho 22 = .ok (.goto 4, 3) := by decide +kernel
theorem dX1_visitorsWho_25 : decode cX1_visitorsWho 25 = .ok (.iconst 0, 1) := by decide +kernel
theorem dX1_visitorsWho_26 : decode cX1_visitorsWho 26 = .ok (.invokestatic 79, 3) := by decide +kernel
theorem dX1_visitorsWho_29 : decode cX1_visitorsWho 29 = .ok (.iadd, 1) := by decide +kernel
theorem dX1_visitorsWho_30 : decode cX1_visitorsWho 30 = .ok (.istore_n 2, 1) := by decide +kernel
theorem dX1_visitorsWho_31 : decode cX1_visitorsWho 31 = .ok (.iinc 3 1, 3) := by decide +kernel
theorem dX1_visitorsWho_34 : decode cX1_visitorsWho 34 = .ok (.goto (-30), 3) := by decide +kernel
theorem dX1_visitorsWho_37 : decode cX1_visitorsWho 37 = .ok (.iload_n 2, 1) := by decide +kernel
theorem dX1_visitorsWho_38 : decode cX1_visitorsWho 38 = .ok (.ireturn, 1) := by decide +kernel
set_option maxRecDepth 20000 in
theorem ggX1_visitorsAt_X3_oneIf : GoodIn wsX1_visitorsAt wsX3_oneIf := goodIn_r _ [5] rfl rfl
set_option maxRecDepth 20000 in
theorem gX1_visitorsAt_X3_oneIf_n79 : GoodIn wsX1_visitorsAt (wsX3_oneIf) := ggX1_visitorsAt_X3_oneIf
theorem dX1_visitorsAt_0 : decode cX1_visitorsAt 0 = .ok (.iconst 0, 1) := by decide +kernel
theorem dX1_visitorsAt_1 : decode cX1_visitorsAt 1 = .ok (.istore_n 2, 1) := by decide +kernel
theorem dX1_visitorsAt_2 : decode cX1_visitorsAt 2 = .ok (.iconst 0, 1) := by decide +kernel
theorem dX1_visitorsAt_3 : decode cX1_visitorsAt 3 = .ok (.istore_n 3, 1) := by decide +kernel
theorem dX1_visitorsAt_4 : decode cX1_visitorsAt 4 = .ok (.iload_n 3, 1) := by decide +kernel
theorem dX1_visitorsAt_5 : decode cX1_visitorsAt 5 = .ok (.bipush 6, 2) := by decide +kernel
theorem dX1_visitorsAt_7 : decode cX1_visitorsAt 7 = .ok (.if_icmp .ge 40, 3) := by decide +kernel
theorem dX1_visitorsAt_10 : decode cX1_visitorsAt 10 = .ok (.iload_n 2, 1) := by decide +kernel
theorem dX1_visitorsAt_11 : decode cX1_visitorsAt 11 = .ok (.aload_n 0, 1) := by decide +kernel
theorem dX1_visitorsAt_12 : decode cX1_visitorsAt 12 = .ok (.getfield 22, 3) := by decide +kernel
theorem dX1_visitorsAt_15 : decode cX1_visitorsAt 15 = .ok (.iload_n 3, 1) := by decide +kernel
theorem dX1_visitorsAt_16 : decode cX1_visitorsAt 16 = .ok (.iaload, 1) := by decide +kernel
theorem dX1_visitorsAt_17 : decode cX1_visitorsAt 17 = .ok (.iconst 1, 1) := by decide +kernel
theorem dX1_visitorsAt_18 : decode cX1_visitorsAt 18 = .ok (.if_icmp .ne 17, 3) := by decide +kernel
theorem dX1_visitorsAt_21 : decode cX1_visitorsAt 21 = .ok (.aload_n 0, 1) := by decide +kernel
theorem dX1_visitorsAt_22 : decode cX1_visitorsAt 22 = .ok (.getfield 25, 3) := by decide +kernel
theorem dX1_visitorsAt_25 : decode cX1_visitorsAt 25 = .ok (.iload_n 3, 1) := by decide +kernel
theorem dX1_visitorsAt_26 : decode cX1_visitorsAt 26 = .ok (.iaload, 1) := by decide +kernel
theorem dX1_visitorsAt_27 : decode cX1_visitorsAt 27 = .ok (.iload_n 1, 1) := by decide +kernel
theorem dX1_visitorsAt_28 : decode cX1_visitorsAt 28 = .ok (.if_icmp .ne 7, 3) := by decide +kernel
theorem dX1_visitorsAt_31 : decode cX1_visitorsAt 31 = .ok (.iconst 1, 1) := by decide +kernel
theorem dX1_visitorsAt_32 : decode cX1_visitorsAt 32 = .ok (.goto 4, 3) := by decide +kernel
theorem dX1_visitorsAt_35 : decode cX1_visitorsAt 35 = .ok (.iconst 0, 1) := by decide +kernel
theorem dX1_visitorsAt_36 : decode cX1_visitorsAt 36 = .ok (.invokestatic 79, 3) := by decide +kernel
theorem dX1_visitorsAt_39 : decode cX1_visitorsAt 39 = .ok (.iadd, 1) := by decide +kernel
theorem dX1_visitorsAt_40 : decode cX1_visitorsAt 40 = .ok (.istore_n 2, 1) := by decide +kernel
theorem dX1_visitorsAt_41 : decode cX1_visitorsAt 41 = .ok (.iinc 3 1, 3) := by decide +kernel
theorem dX1_visitorsAt_44 : decode cX1_visitorsAt 44 = .ok (.goto (-40), 3) := by decide +kernel
theorem dX1_visitorsAt_47 : decode cX1_visitorsAt 47 = .ok (.iload_n 2, 1) := by decide +kernel
theorem dX1_visitorsAt_48 : decode cX1_visitorsAt 48 = .ok (.ireturn, 1) := by decide +kernel
set_option maxRecDepth 20000 in
theorem ggX1_isBookInside_X3_has : GoodIn wsX1_isBookInside wsX3_has := goodIn_r _ [5] rfl rfl
set_option maxRecDepth 20000 in
theorem gX1_isBookInside_X3_has_n75 : GoodIn wsX1_isBookInside (wsX3_has) := ggX1_isBookInside_X3_has
theorem dX1_isBookInside_0 : decode cX1_isBookInside 0 = .ok (.iconst 0, 1) := by decide +kernel
theorem dX1_isBookInside_1 : decode cX1_isBookInside 1 = .ok (.istore_n 2, 1) := by decide +kernel
theorem dX1_isBookInside_2 : decode cX1_isBookInside 2 = .ok (.iload_n 2, 1) := by decide +kernel
theorem dX1_isBookInside_3 : decode cX1_isBookInside 3 = .ok (.bipush 6, 2) := by decide +kernel
theorem dX1_isBookInside_5 : decode cX1_isBookInside 5 = .ok (.if_icmp .ge 37, 3) := by decide +kernel
theorem dX1_isBookInside_8 : decode cX1_isBookInside 8 = .ok (.aload_n 0, 1) := by decide +kernel
theorem dX1_isBookInside_9 : decode cX1_isBookInside 9 = .ok (.getfield 18, 3) := by decide +kernel
theorem dX1_isBookInside_12 : decode cX1_isBookInside 12 = .ok (.iload_n 2, 1) := by decide +kernel
theorem dX1_isBookInside_13 : decode cX1_isBookInside 13 = .ok (.iaload, 1) := by decide +kernel
theorem dX1_isBookInside_14 : decode cX1_isBookInside 14 = .ok (.iload_n 1, 1) := by decide +kernel
theorem dX1_isBookInside_15 : decode cX1_isBookInside 15 = .ok (.invokestatic 75, 3) := by decide +kernel
theorem dX1_isBookInside_18 : decode cX1_isBookInside 18 = .ok (.ifCond .eq 18, 3) := by decide +kernel
theorem dX1_isBookInside_21 : decode cX1_isBookInside 21 = .ok (.aload_n 0, 1) := by decide +kernel
theorem dX1_isBookInside_22 : decode cX1_isBookInside 22 = .ok (.getfield 22, 3) := by decide +kernel
theorem dX1_isBookInside_25 : decode cX1_isBookInside 25 = .ok (.iload_n 2, 1) := by decide +kernel
theorem dX1_isBookInside_26 : decode cX1_isBookInside 26 = .ok (.iaload, 1) := by decide +kernel
theorem dX1_isBookInside_27 : decode cX1_isBookInside 27 = .ok (.ifCond .ne 7, 3) := by decide +kernel
theorem dX1_isBookInside_30 : decode cX1_isBookInside 30 = .ok (.iconst 1, 1) := by decide +kernel
theorem dX1_isBookInside_31 : decode cX1_isBookInside 31 = .ok (.goto 4, 3) := by decide +kernel
theorem dX1_isBookInside_34 : decode cX1_isBookInside 34 = .ok (.iconst 0, 1) := by decide +kernel
theorem dX1_isBookInside_35 : decode cX1_isBookInside 35 = .ok (.ireturn, 1) := by decide +kernel
theorem dX1_isBookInside_36 : decode cX1_isBookInside 36 = .ok (.iinc 2 1, 3) := by decide +kernel
theorem dX1_isBookInside_39 : decode cX1_isBookInside 39 = .ok (.goto (-37), 3) := by decide +kernel
theorem dX1_isBookInside_42 : decode cX1_isBookInside 42 = .ok (.iconst 1, 1) := by decide +kernel
theorem dX1_isBookInside_43 : decode cX1_isBookInside 43 = .ok (.ireturn, 1) := by decide +kernel
set_option maxRecDepth 20000 in
theorem ggX1_canTake_X3_isVisitor : GoodIn wsX1_canTake wsX3_isVisitor := goodIn_r _ [5] rfl rfl
set_option maxRecDepth 20000 in
theorem gX1_canTake_X3_isVisitor_n83 : GoodIn wsX1_canTake (wsX3_isVisitor) := ggX1_canTake_X3_isVisitor
set_option maxRecDepth 20000 in
theorem ggX1_canTake_X3_isBook : GoodIn wsX1_canTake wsX3_isBook := goodIn_r _ [7] rfl rfl
set_option maxRecDepth 20000 in
theorem gX1_canTake_X3_isBook_n87 : GoodIn wsX1_canTake (wsX3_isBook) := ggX1_canTake_X3_isBook
set_option maxRecDepth 20000 in
theorem ggX1_canTake_X1_holderOf : GoodIn wsX1_canTake wsX1_holderOf := goodIn_r _ [12, 2, 13, 4, 14, 22, 23, 24, 25, 26, 27, 28, 29, 30, 31, 32, 33, 34, 35, 36] rfl rfl
set_option maxRecDepth 20000 in
theorem gX1_canTake_X1_holderOf : GoodIn wsX1_canTake (wsV RX1 90 RX1 yX1_holderOf wsX1_holderOf) := goodIn_app (goodIn_of _ (by decide +kernel)) ggX1_canTake_X1_holderOf
set_option maxRecDepth 20000 in
theorem ggX1_canTake_J6_bitCount_0f7a4 : GoodIn wsX1_canTake wsJ6_bitCount_0f7a4 := goodIn_r _ [18, 19, 20, 21] rfl rfl
set_option maxRecDepth 20000 in
theorem gX1_canTake_J6_bitCount_0f7a4 : GoodIn wsX1_canTake (va_wsS RX1 94 yJ6_bitCount_0f7a4 wsJ6_bitCount_0f7a4) := goodIn_app (goodIn_of _ (by decide +kernel)) ggX1_canTake_J6_bitCount_0f7a4
theorem dX1_canTake_0 : decode cX1_canTake 0 = .ok (.iload_n 1, 1) := by decide +kernel
theorem dX1_canTake_1 : decode cX1_canTake 1 = .ok (.invokestatic 83, 3) := by decide +kernel
theorem dX1_canTake_4 : decode cX1_canTake 4 = .ok (.ifCond .eq 47, 3) := by decide +kernel
theorem dX1_canTake_7 : decode cX1_canTake 7 = .ok (.iload_n 2, 1) := by decide +kernel
theorem dX1_canTake_8 : decode cX1_canTake 8 = .ok (.invokestatic 87, 3) := by decide +kernel
theorem dX1_canTake_11 : decode cX1_canTake 11 = .ok (.ifCond .eq 40, 3) := by decide +kernel
theorem dX1_canTake_14 : decode cX1_canTake 14 = .ok (.aload_n 0, 1) := by decide +kernel
theorem dX1_canTake_15 : decode cX1_canTake 15 = .ok (.iload_n 2, 1) := by decide +kernel
theorem dX1_canTake_16 : decode cX1_canTake 16 = .ok (.invokevirtual 90, 3) := by decide +kernel
theorem dX1_canTake_19 : decode cX1_canTake 19 = .ok (.bipush (-9), 2) := by decide +kernel
theorem dX1_canTake_21 : decode cX1_canTake 21 = .ok (.if_icmp .ne 30, 3) := by decide +kernel
theorem dX1_canTake_24 : decode cX1_canTake 24 = .ok (.aload_n 0, 1) := by decide +kernel
theorem dX1_canTake_25 : decode cX1_canTake 25 = .ok (.getfield 22, 3) := by decide +kernel
theorem dX1_canTake_28 : decode cX1_canTake 28 = .ok (.iload_n 1, 1) := by decide +kernel
theorem dX1_canTake_29 : decode cX1_canTake 29 = .ok (.iaload, 1) := by decide +kernel
theorem dX1_canTake_30 : decode cX1_canTake 30 = .ok (.ifCond .ne 21, 3) := by decide +kernel
theorem dX1_canTake_33 : decode cX1_canTake 33 = .ok (.aload_n 0, 1) := by decide +kernel
theorem dX1_canTake_34 : decode cX1_canTake 34 = .ok (.getfield 18, 3) := by decide +kernel
theorem dX1_canTake_37 : decode cX1_canTake 37 = .ok (.iload_n 1, 1) := by decide +kernel
theorem dX1_canTake_38 : decode cX1_canTake 38 = .ok (.iaload, 1) := by decide +kernel
theorem dX1_canTake_39 : decode cX1_canTake 39 = .ok (.invokestatic 94, 3) := by decide +kernel
theorem dX1_canTake_42 : decode cX1_canTake 42 = .ok (.bipush 6, 2) := by decide +kernel
theorem dX1_canTake_44 : decode cX1_canTake 44 = .ok (.if_icmp .ge 7, 3) := by decide +kernel
theorem dX1_canTake_47 : decode cX1_canTake 47 = .ok (.iconst 1, 1) := by decide +kernel
theorem dX1_canTake_48 : decode cX1_canTake 48 = .ok (.goto 4, 3) := by decide +kernel
theorem dX1_canTake_51 : decode cX1_canTake 51 = .ok (.iconst 0, 1) := by decide +kernel
theorem dX1_canTake_52 : decode cX1_canTake 52 = .ok (.ireturn, 1) := by decide +kernel
set_option maxRecDepth 20000 in
theorem ggX1_canPutBack_X3_isBook : GoodIn wsX1_canPutBack wsX3_isBook := goodIn_r _ [3] rfl rfl
set_option maxRecDepth 20000 in
theorem gX1_canPutBack_X3_isBook_n87 : GoodIn wsX1_canPutBack (wsX3_isBook) := ggX1_canPutBack_X3_isBook
set_option maxRecDepth 20000 in
theorem ggX1_canPutBack_X1_holderOf : GoodIn wsX1_canPutBack wsX1_holderOf := goodIn_r _ [8, 9, 10, 2, 11, 17, 18, 19, 20, 21, 22, 23, 24, 25, 26, 27, 28, 29, 30, 31] rfl rfl
set_option maxRecDepth 20000 in
theorem gX1_canPutBack_X1_holderOf : GoodIn wsX1_canPutBack (wsV RX1 90 RX1 yX1_holderOf wsX1_holderOf) := goodIn_app (goodIn_of _ (by decide +kernel)) ggX1_canPutBack_X1_holderOf
set_option maxRecDepth 20000 in
theorem ggX1_canPutBack_X1_isBookInside : GoodIn wsX1_canPutBack wsX1_isBookInside := goodIn_r _ [15, 9, 16, 10, 2, 11, 17, 18, 19, 20, 21, 22, 23, 24, 25, 26, 27, 28, 29, 30, 31] rfl rfl
set_option maxRecDepth 20000 in
theorem gX1_canPutBack_X1_isBookInside : GoodIn wsX1_canPutBack (wsV RX1 99 RX1 yX1_isBookInside wsX1_isBookInside) := goodIn_app (goodIn_of _ (by decide +kernel)) ggX1_canPutBack_X1_isBookInside
theorem dX1_canPutBack_0 : decode cX1_canPutBack 0 = .ok (.iload_n 1, 1) := by decide +kernel
theorem dX1_canPutBack_1 : decode cX1_canPutBack 1 = .ok (.invokestatic 87, 3) := by decide +kernel
theorem dX1_canPutBack_4 : decode cX1_canPutBack 4 = .ok (.ifCond .eq 25, 3) := by decide +kernel
theorem dX1_canPutBack_7 : decode cX1_canPutBack 7 = .ok (.aload_n 0, 1) := by decide +kernel
theorem dX1_canPutBack_8 : decode cX1_canPutBack 8 = .ok (.iload_n 1, 1) := by decide +kernel
theorem dX1_canPutBack_9 : decode cX1_canPutBack 9 = .ok (.invokevirtual 90, 3) := by decide +kernel
theorem dX1_canPutBack_12 : decode cX1_canPutBack 12 = .ok (.bipush (-9), 2) := by decide +kernel
theorem dX1_canPutBack_14 : decode cX1_canPutBack 14 = .ok (.if_icmp .eq 15, 3) := by decide +kernel
theorem dX1_canPutBack_17 : decode cX1_canPutBack 17 = .ok (.aload_n 0, 1) := by decide +kernel
theorem dX1_canPutBack_18 : decode cX1_canPutBack 18 = .ok (.iload_n 1, 1) := by decide +kernel
theorem dX1_canPutBack_19 : decode cX1_canPutBack 19 = .ok (.invokevirtual 99, 3) := by decide +kernel
theorem dX1_canPutBack_22 : decode cX1_canPutBack 22 = .ok (.ifCond .eq 7, 3) := by decide +kernel
theorem dX1_canPutBack_25 : decode cX1_canPutBack 25 = .ok (.iconst 1, 1) := by decide +kernel
theorem dX1_canPutBack_26 : decode cX1_canPutBack 26 = .ok (.goto 4, 3) := by decide +kernel
theorem dX1_canPutBack_29 : decode cX1_canPutBack 29 = .ok (.iconst 0, 1) := by decide +kernel
theorem dX1_canPutBack_30 : decode cX1_canPutBack 30 = .ok (.ireturn, 1) := by decide +kernel
set_option maxRecDepth 20000 in
theorem ggX1_canBorrow_X3_isBook : GoodIn wsX1_canBorrow wsX3_isBook := goodIn_r _ [4] rfl rfl
set_option maxRecDepth 20000 in
theorem gX1_canBorrow_X3_isBook_n87 : GoodIn wsX1_canBorrow (wsX3_isBook) := ggX1_canBorrow_X3_isBook
set_option maxRecDepth 20000 in
theorem ggX1_canBorrow_X3_has : GoodIn wsX1_canBorrow wsX3_has := goodIn_r _ [6] rfl rfl
set_option maxRecDepth 20000 in
theorem gX1_canBorrow_X3_has_n75 : GoodIn wsX1_canBorrow (wsX3_has) := ggX1_canBorrow_X3_has
set_option maxRecDepth 20000 in
theorem ggX1_canBorrow_X1_isBookInside : GoodIn wsX1_canBorrow wsX1_isBookInside := goodIn_r _ [11, 12, 13, 5, 3, 6, 14, 15, 16, 17, 18, 19, 20, 21, 22, 23, 24, 25, 26, 27, 28] rfl rfl
set_option maxRecDepth 20000 in
theorem gX1_canBorrow_X1_isBookInside : GoodIn wsX1_canBorrow (wsV RX1 99 RX1 yX1_isBookInside wsX1_isBookInside) := goodIn_app (goodIn_of _ (by decide +kernel)) ggX1_canBorrow_X1_isBookInside
theorem dX1_canBorrow_0 : decode cX1_canBorrow 0 = .ok (.iload_n 1, 1) := by decide +kernel
theorem dX1_canBorrow_1 : decode cX1_canBorrow 1 = .ok (.invokestatic 87, 3) := by decide +kernel
theorem dX1_canBorrow_4 : decode cX1_canBorrow 4 = .ok (.ifCond .eq 26, 3) := by decide +kernel
theorem dX1_canBorrow_7 : decode cX1_canBorrow 7 = .ok (.aload_n 0, 1) := by decide +kernel
theorem dX1_canBorrow_8 : decode cX1_canBorrow 8 = .ok (.getfield 45, 3) := by decide +kernel
theorem dX1_canBorrow_11 : decode cX1_canBorrow 11 = .ok (.iload_n 1, 1) := by decide +kernel
theorem dX1_canBorrow_12 : decode cX1_canBorrow 12 = .ok (.invokestatic 75, 3) := by decide +kernel
theorem dX1_canBorrow_15 : decode cX1_canBorrow 15 = .ok (.ifCond .ne 15, 3) := by decide +kernel
theorem dX1_canBorrow_18 : decode cX1_canBorrow 18 = .ok (.aload_n 0, 1) := by decide +kernel
theorem dX1_canBorrow_19 : decode cX1_canBorrow 19 = .ok (.iload_n 1, 1) := by decide +kernel
theorem dX1_canBorrow_20 : decode cX1_canBorrow 20 = .ok (.invokevirtual 99, 3) := by decide +kernel
theorem dX1_canBorrow_23 : decode cX1_canBorrow 23 = .ok (.ifCond .eq 7, 3) := by decide +kernel
theorem dX1_canBorrow_26 : decode cX1_canBorrow 26 = .ok (.iconst 1, 1) := by decide +kernel
theorem dX1_canBorrow_27 : decode cX1_canBorrow 27 = .ok (.goto 4, 3) := by decide +kernel
theorem dX1_canBorrow_30 : decode cX1_canBorrow 30 = .ok (.iconst 0, 1) := by decide +kernel
theorem dX1_canBorrow_31 : decode cX1_canBorrow 31 = .ok (.ireturn, 1) := by decide +kernel
set_option maxRecDepth 20000 in
theorem ggX1_canBringBack_X3_isBook : GoodIn wsX1_canBringBack wsX3_isBook := goodIn_r _ [4] rfl rfl
set_option maxRecDepth 20000 in
theorem gX1_canBringBack_X3_isBook_n87 : GoodIn wsX1_canBringBack (wsX3_isBook) := ggX1_canBringBack_X3_isBook
set_option maxRecDepth 20000 in
theorem ggX1_canBringBack_X3_has : GoodIn wsX1_canBringBack wsX3_has := goodIn_r _ [6] rfl rfl
set_option maxRecDepth 20000 in
theorem gX1_canBringBack_X3_has_n75 : GoodIn wsX1_canBringBack (wsX3_has) := ggX1_canBringBack_X3_has
set_option maxRecDepth 20000 in
theorem ggX1_canBringBack_X1_isBookInside : GoodIn wsX1_canBringBack wsX1_isBookInside := goodIn_r _ [11, 12, 13, 5, 3, 6, 14, 15, 16, 17, 18, 19, 20, 21, 22, 23, 24, 25, 26, 27, 28] rfl rfl
set_option maxRecDepth 20000 in
theorem gX1_canBringBack_X1_isBookInside : GoodIn wsX1_canBringBack (wsV RX1 99 RX1 yX1_isBookInside wsX1_isBookInside) := goodIn_app (goodIn_of _ (by decide +kernel)) ggX1_canBringBack_X1_isBookInside
theorem dX1_canBringBack_0 : decode cX1_canBringBack 0 = .ok (.iload_n 1, 1) := by decide +kernel
theorem dX1_canBringBack_1 : decode cX1_canBringBack 1 = .ok (.invokestatic 87, 3) := by decide +kernel
theorem dX1_canBringBack_4 : decode cX1_canBringBack 4 = .ok (.ifCond .eq 26, 3) := by decide +kernel
theorem dX1_canBringBack_7 : decode cX1_canBringBack 7 = .ok (.aload_n 0, 1) := by decide +kernel
theorem dX1_canBringBack_8 : decode cX1_canBringBack 8 = .ok (.getfield 45, 3) := by decide +kernel
theorem dX1_canBringBack_11 : decode cX1_canBringBack 11 = .ok (.iload_n 1, 1) := by decide +kernel
theorem dX1_canBringBack_12 : decode cX1_canBringBack 12 = .ok (.invokestatic 75, 3) := by decide +kernel
theorem dX1_canBringBack_15 : decode cX1_canBringBack 15 = .ok (.ifCond .eq 15, 3) := by decide +kernel
theorem dX1_canBringBack_18 : decode cX1_canBringBack 18 = .ok (.aload_n 0, 1) := by decide +kernel
theorem dX1_canBringBack_19 : decode cX1_canBringBack 19 = .ok (.iload_n 1, 1) := by decide +kernel
theorem dX1_canBringBack_20 : decode cX1_canBringBack 20 = .ok (.invokevirtual 99, 3) := by decide +kernel
theorem dX1_canBringBack_23 : decode cX1_canBringBack 23 = .ok (.ifCond .eq 7, 3) := by decide +kernel
theorem dX1_canBringBack_26 : decode cX1_canBringBack 26 = .ok (.iconst 1, 1) := by decide +kernel
theorem dX1_canBringBack_27 : decode cX1_canBringBack 27 = .ok (.goto 4, 3) := by decide +kernel
theorem dX1_canBringBack_30 : decode cX1_canBringBack 30 = .ok (.iconst 0, 1) := by decide +kernel
theorem dX1_canBringBack_31 : decode cX1_canBringBack 31 = .ok (.ireturn, 1) := by decide +kernel
set_option maxRecDepth 20000 in
theorem ggX1_canWalk_X3_isVisitor : GoodIn wsX1_canWalk wsX3_isVisitor := goodIn_r _ [4] rfl rfl
set_option maxRecDepth 20000 in
theorem gX1_canWalk_X3_isVisitor_n83 : GoodIn wsX1_canWalk (wsX3_isVisitor) := ggX1_canWalk_X3_isVisitor
set_option maxRecDepth 20000 in
theorem ggX1_canWalk_X3_isGate : GoodIn wsX1_canWalk wsX3_isGate := goodIn_r _ [6] rfl rfl
set_option maxRecDepth 20000 in
theorem gX1_canWalk_X3_isGate_n102 : GoodIn wsX1_canWalk (wsX3_isGate) := ggX1_canWalk_X3_isGate
theorem dX1_canWalk_0 : decode cX1_canWalk 0 = .ok (.iload_n 1, 1) := by decide +kernel
theorem dX1_canWalk_1 : decode cX1_canWalk 1 = .ok (.invokestatic 83, 3) := by decide +kernel
theorem dX1_canWalk_4 : decode cX1_canWalk 4 = .ok (.ifCond .eq 32, 3) := by decide +kernel
theorem dX1_canWalk_7 : decode cX1_canWalk 7 = .ok (.iload_n 2, 1) := by decide +kernel
theorem dX1_canWalk_8 : decode cX1_canWalk 8 = .ok (.invokestatic 102, 3) := by decide +kernel
theorem dX1_canWalk_11 : decode cX1_canWalk 11 = .ok (.ifCond .eq 25, 3) := by decide +kernel
theorem dX1_canWalk_14 : decode cX1_canWalk 14 = .ok (.aload_n 0, 1) := by decide +kernel
theorem dX1_canWalk_15 : decode cX1_canWalk 15 = .ok (.getfield 22, 3) := by decide +kernel
theorem dX1_canWalk_18 : decode cX1_canWalk 18 = .ok (.iload_n 1, 1) := by decide +kernel
theorem dX1_canWalk_19 : decode cX1_canWalk 19 = .ok (.iaload, 1) := by decide +kernel
theorem dX1_canWalk_20 : decode cX1_canWalk 20 = .ok (.iload_n 3, 1) := by decide +kernel
theorem dX1_canWalk_21 : decode cX1_canWalk 21 = .ok (.ifCond .eq 7, 3) := by decide +kernel
theorem dX1_canWalk_24 : decode cX1_canWalk 24 = .ok (.iconst 0, 1) := by decide +kernel
theorem dX1_canWalk_25 : decode cX1_canWalk 25 = .ok (.goto 4, 3) := by decide +kernel
theorem dX1_canWalk_28 : decode cX1_canWalk 28 = .ok (.iconst 2, 1) := by decide +kernel
theorem dX1_canWalk_29 : decode cX1_canWalk 29 = .ok (.if_icmp .ne 7, 3) := by decide +kernel
theorem dX1_canWalk_32 : decode cX1_canWalk 32 = .ok (.iconst 1, 1) := by decide +kernel
theorem dX1_canWalk_33 : decode cX1_canWalk 33 = .ok (.goto 4, 3) := by decide +kernel
theorem dX1_canWalk_36 : decode cX1_canWalk 36 = .ok (.iconst 0, 1) := by decide +kernel
theorem dX1_canWalk_37 : decode cX1_canWalk 37 = .ok (.ireturn, 1) := by decide +kernel
set_option maxRecDepth 20000 in
theorem ggX1_canTurn_X3_isVisitor : GoodIn wsX1_canTurn wsX3_isVisitor := goodIn_r _ [4] rfl rfl
set_option maxRecDepth 20000 in
theorem gX1_canTurn_X3_isVisitor_n83 : GoodIn wsX1_canTurn (wsX3_isVisitor) := ggX1_canTurn_X3_isVisitor
theorem dX1_canTurn_0 : decode cX1_canTurn 0 = .ok (.iload_n 1, 1) := by decide +kernel
theorem dX1_canTurn_1 : decode cX1_canTurn 1 = .ok (.invokestatic 83, 3) := by decide +kernel
theorem dX1_canTurn_4 : decode cX1_canTurn 4 = .ok (.ifCond .eq 17, 3) := by decide +kernel
theorem dX1_canTurn_7 : decode cX1_canTurn 7 = .ok (.aload_n 0, 1) := by decide +kernel
theorem dX1_canTurn_8 : decode cX1_canTurn 8 = .ok (.getfield 22, 3) := by decide +kernel
theorem dX1_canTurn_11 : decode cX1_canTurn 11 = .ok (.iload_n 1, 1) := by decide +kernel
theorem dX1_canTurn_12 : decode cX1_canTurn 12 = .ok (.iaload, 1) := by decide +kernel
theorem dX1_canTurn_13 : decode cX1_canTurn 13 = .ok (.iconst 1, 1) := by decide +kernel
theorem dX1_canTurn_14 : decode cX1_canTurn 14 = .ok (.if_icmp .ne 7, 3) := by decide +kernel
theorem dX1_canTurn_17 : decode cX1_canTurn 17 = .ok (.iconst 1, 1) := by decide +kernel
theorem dX1_canTurn_18 : decode cX1_canTurn 18 = .ok (.goto 4, 3) := by decide +kernel
theorem dX1_canTurn_21 : decode cX1_canTurn 21 = .ok (.iconst 0, 1) := by decide +kernel
theorem dX1_canTurn_22 : decode cX1_canTurn 22 = .ok (.ireturn, 1) := by decide +kernel
set_option maxRecDepth 20000 in
theorem ggX1_tryTake_X1_canTake : GoodIn wsX1_tryTake wsX1_canTake := goodIn_r _ [6, 7, 1, 8, 9, 10, 11, 12, 13, 14, 15, 5, 16, 17, 18, 19, 20, 21, 22, 23, 24, 25, 28, 29, 30, 31, 32, 33, 34, 35, 36, 37, 38, 39, 40, 41, 42] rfl rfl
set_option maxRecDepth 20000 in
theorem gX1_tryTake_X1_canTake : GoodIn wsX1_tryTake (wsV RX1 105 RX1 yX1_canTake wsX1_canTake) := goodIn_app (goodIn_of _ (by decide +kernel)) ggX1_tryTake_X1_canTake
set_option maxRecDepth 20000 in
theorem ggX1_tryTake_X3_bit : GoodIn wsX1_tryTake wsX3_bit := goodIn_r _ [27] rfl rfl
set_option maxRecDepth 20000 in
theorem gX1_tryTake_X3_bit_n108 : GoodIn wsX1_tryTake (wsX3_bit) := ggX1_tryTake_X3_bit
theorem dX1_tryTake_0 : decode cX1_tryTake 0 = .ok (.aload_n 0, 1) := by decide +kernel
theorem dX1_tryTake_1 : decode cX1_tryTake 1 = .ok (.iload_n 1, 1) := by decide +kernel
theorem dX1_tryTake_2 : decode cX1_tryTake 2 = .ok (.iload_n 2, 1) := by decide +kernel
theorem dX1_tryTake_3 : decode cX1_tryTake 3 = .ok (.invokevirtual 105, 3) := by decide +kernel
theorem dX1_tryTake_6 : decode cX1_tryTake 6 = .ok (.ifCond .ne 5, 3) := by decide +kernel
theorem dX1_tryTake_9 : decode cX1_tryTake 9 = .ok (.iconst 0, 1) := by decide +kernel
theorem dX1_tryTake_10 : decode cX1_tryTake 10 = .ok (.ireturn, 1) := by decide +kernel
theorem dX1_tryTake_11 : decode cX1_tryTake 11 = .ok (.aload_n 0, 1) := by decide +kernel
theorem dX1_tryTake_12 : decode cX1_tryTake 12 = .ok (.getfield 18, 3) := by decide +kernel
theorem dX1_tryTake_15 : decode cX1_tryTake 15 = .ok (.iload_n 1, 1) := by decide +kernel
theorem dX1_tryTake_16 : decode cX1_tryTake 16 = .ok (.dup2, 1) := by decide +kernel
theorem dX1_tryTake_17 : decode cX1_tryTake 17 = .ok (.iaload, 1) := by decide +kernel
theorem dX1_tryTake_18 : decode cX1_tryTake 18 = .ok (.iload_n 2, 1) := by decide +kernel
theorem dX1_tryTake_19 : decode cX1_tryTake 19 = .ok (.invokestatic 108, 3) := by decide +kernel
theorem dX1_tryTake_22 : decode cX1_tryTake 22 = .ok (.ior, 1) := by decide +kernel
theorem dX1_tryTake_23 : decode cX1_tryTake 23 = .ok (.iastore, 1) := by decide +kernel
theorem dX1_tryTake_24 : decode cX1_tryTake 24 = .ok (.iconst 1, 1) := by decide +kernel
theorem dX1_tryTake_25 : decode cX1_tryTake 25 = .ok (.ireturn, 1) := by decide +kernel
set_option maxRecDepth 20000 in
theorem ggX1_tryPutBack_X1_canPutBack : GoodIn wsX1_tryPutBack wsX1_canPutBack := goodIn_r _ [6, 7, 8, 9, 10, 11, 12, 5, 13, 1, 14, 15, 16, 17, 18, 19, 20, 23, 24, 25, 26, 27, 28, 29, 30, 31, 32, 33, 34, 35, 36, 37] rfl rfl
set_option maxRecDepth 20000 in
theorem gX1_tryPutBack_X1_canPutBack : GoodIn wsX1_tryPutBack (wsV RX1 111 RX1 yX1_canPutBack wsX1_canPutBack) := goodIn_app (goodIn_of _ (by decide +kernel)) ggX1_tryPutBack_X1_canPutBack
set_option maxRecDepth 20000 in
theorem ggX1_tryPutBack_X3_bit : GoodIn wsX1_tryPutBack wsX3_bit := goodIn_r _ [22] rfl rfl
set_option maxRecDepth 20000 in
theorem gX1_tryPutBack_X3_bit_n108 : GoodIn wsX1_tryPutBack (wsX3_bit) := ggX1_tryPutBack_X3_bit
theorem dX1_tryPutBack_0 : decode cX1_tryPutBack 0 = .ok (.aload_n 0, 1) := by decide +kernel
theorem dX1_tryPutBack_1 : decode cX1_tryPutBack 1 = .ok (.iload_n 1, 1) := by decide +kernel
theorem dX1_tryPutBack_2 : decode cX1_tryPutBack 2 = .ok (.invokevirtual 111, 3) := by decide +kernel
theorem dX1_tryPutBack_5 : decode cX1_tryPutBack 5 = .ok (.ifCond .ne 5, 3) := by decide +kernel
theorem dX1_tryPutBack_8 : decode cX1_tryPutBack 8 = .ok (.iconst 0, 1) := by decide +kernel
theorem dX1_tryPutBack_9 : decode cX1_tryPutBack 9 = .ok (.ireturn, 1) := by decide +kernel
theorem dX1_tryPutBack_10 : decode cX1_tryPutBack 10 = .ok (.iconst 0, 1) := by decide +kernel
theorem dX1_tryPutBack_11 : decode cX1_tryPutBack 11 = .ok (.istore_n 2, 1) := by decide +kernel
theorem dX1_tryPutBack_12 : decode cX1_tryPutBack 12 = .ok (.iload_n 2, 1) := by decide +kernel
theorem dX1_tryPutBack_13 : decode cX1_tryPutBack 13 = .ok (.bipush 6, 2) := by decide +kernel
theorem dX1_tryPutBack_15 : decode cX1_tryPutBack 15 = .ok (.if_icmp .ge 24, 3) := by decide +kernel
theorem dX1_tryPutBack_18 : decode cX1_tryPutBack 18 = .ok (.aload_n 0, 1) := by decide +kernel
theorem dX1_tryPutBack_19 : decode cX1_tryPutBack 19 = .ok (.getfield 18, 3) := by decide +kernel
theorem dX1_tryPutBack_22 : decode cX1_tryPutBack 22 = .ok (.iload_n 2, 1) := by decide +kernel
theorem dX1_tryPutBack_23 : decode cX1_tryPutBack 23 = .ok (.dup2, 1) := by decide +kernel
theorem dX1_tryPutBack_24 : decode cX1_tryPutBack 24 = .ok (.iaload, 1) := by decide +kernel
theorem dX1_tryPutBack_25 : decode cX1_tryPutBack 25 = .ok (.iload_n 1, 1) := by decide +kernel
theorem dX1_tryPutBack_26 : decode cX1_tryPutBack 26 = .ok (.invokestatic 108, 3) := by decide +kernel
theorem dX1_tryPutBack_29 : decode cX1_tryPutBack 29 = .ok (.iconst (-1), 1) := by decide +kernel
theorem dX1_tryPutBack_30 : decode cX1_tryPutBack 30 = .ok (.ixor, 1) := by decide +kernel
theorem dX1_tryPutBack_31 : decode cX1_tryPutBack 31 = .ok (.iand, 1) := by decide +kernel
theorem dX1_tryPutBack_32 : decode cX1_tryPutBack 32 = .ok (.iastore, 1) := by decide +kernel
theorem dX1_tryPutBack_33 : decode cX1_tryPutBack 33 = .ok (.iinc 2 1, 3) := by decide +kernel
theorem dX1_tryPutBack_36 : decode cX1_tryPutBack 36 = .ok (.goto (-24), 3) := by decide +kernel
theorem dX1_tryPutBack_39 : decode cX1_tryPutBack 39 = .ok (.iconst 1, 1) := by decide +kernel
theorem dX1_tryPutBack_40 : decode cX1_tryPutBack 40 = .ok (.ireturn, 1) := by decide +kernel
set_option maxRecDepth 20000 in
theorem ggX1_tryBorrow_X1_canBorrow : GoodIn wsX1_tryBorrow wsX1_canBorrow := goodIn_r _ [6, 1, 7, 8, 9, 10, 11, 12, 13, 14, 5, 15, 16, 17, 20, 21, 22, 23, 24, 25, 26, 27, 28, 29, 30, 31, 32, 33, 34] rfl rfl
set_option maxRecDepth 20000 in
theorem gX1_tryBorrow_X1_canBorrow : GoodIn wsX1_tryBorrow (wsV RX1 114 RX1 yX1_canBorrow wsX1_canBorrow) := goodIn_app (goodIn_of _ (by decide +kernel)) ggX1_tryBorrow_X1_canBorrow
set_option maxRecDepth 20000 in
theorem ggX1_tryBorrow_X3_bit : GoodIn wsX1_tryBorrow wsX3_bit := goodIn_r _ [19] rfl rfl
set_option maxRecDepth 20000 in
theorem gX1_tryBorrow_X3_bit_n108 : GoodIn wsX1_tryBorrow (wsX3_bit) := ggX1_tryBorrow_X3_bit
theorem dX1_tryBorrow_0 : decode cX1_tryBorrow 0 = .ok (.aload_n 0, 1) := by decide +kernel
theorem dX1_tryBorrow_1 : decode cX1_tryBorrow 1 = .ok (.iload_n 1, 1) := by decide +kernel
theorem dX1_tryBorrow_2 : decode cX1_tryBorrow 2 = .ok (.invokevirtual 114, 3) := by decide +kernel
theorem dX1_tryBorrow_5 : decode cX1_tryBorrow 5 = .ok (.ifCond .ne 5, 3) := by decide +kernel
theorem dX1_tryBorrow_8 : decode cX1_tryBorrow 8 = .ok (.iconst 0, 1) := by decide +kernel
theorem dX1_tryBorrow_9 : decode cX1_tryBorrow 9 = .ok (.ireturn, 1) := by decide +kernel
theorem dX1_tryBorrow_10 : decode cX1_tryBorrow 10 = .ok (.aload_n 0, 1) := by decide +kernel
theorem dX1_tryBorrow_11 : decode cX1_tryBorrow 11 = .ok (.dup, 1) := by decide +kernel
theorem dX1_tryBorrow_12 : decode cX1_tryBorrow 12 = .ok (.getfield 45, 3) := by decide +kernel
theorem dX1_tryBorrow_15 : decode cX1_tryBorrow 15 = .ok (.iload_n 1, 1) := by decide +kernel
theorem dX1_tryBorrow_16 : decode cX1_tryBorrow 16 = .ok (.invokestatic 108, 3) := by decide +kernel
theorem dX1_tryBorrow_19 : decode cX1_tryBorrow 19 = .ok (.ior, 1) := by decide +kernel
theorem dX1_tryBorrow_20 : decode cX1_tryBorrow 20 = .ok (.putfield 45, 3) := by decide +kernel
theorem dX1_tryBorrow_23 : decode cX1_tryBorrow 23 = .ok (.iconst 1, 1) := by decide +kernel
theorem dX1_tryBorrow_24 : decode cX1_tryBorrow 24 = .ok (.ireturn, 1) := by decide +kernel
set_option maxRecDepth 20000 in
theorem ggX1_tryBringBack_X1_canBringBack : GoodIn wsX1_tryBringBack wsX1_canBringBack := goodIn_r _ [6, 1, 7, 8, 9, 10, 11, 12, 13, 14, 5, 15, 16, 17, 20, 21, 22, 23, 24, 25, 26, 27, 28, 29, 30, 31, 32, 33, 34] rfl rfl
set_option maxRecDepth 20000 in
theorem gX1_tryBringBack_X1_canBringBack : GoodIn wsX1_tryBringBack (wsV RX1 117 RX1 yX1_canBringBack wsX1_canBringBack) := goodIn_app (goodIn_of _ (by decide +kernel)) ggX1_tryBringBack_X1_canBringBack
set_option maxRecDepth 20000 in
theorem ggX1_tryBringBack_X3_bit : GoodIn wsX1_tryBringBack wsX3_bit := goodIn_r _ [19] rfl rfl
set_option maxRecDepth 20000 in
theorem gX1_tryBringBack_X3_bit_n108 : GoodIn wsX1_tryBringBack (wsX3_bit) := ggX1_tryBringBack_X3_bit
theorem dX1_tryBringBack_0 : decode cX1_tryBringBack 0 = .ok (.aload_n 0, 1) := by decide +kernel
theorem dX1_tryBringBack_1 : decode cX1_tryBringBack 1 = .ok (.iload_n 1, 1) := by decide +kernel
theorem dX1_tryBringBack_2 : decode cX1_tryBringBack 2 = .ok (.invokevirtual 117, 3) := by decide +kernel
theorem dX1_tryBringBack_5 : decode cX1_tryBringBack 5 = .ok (.ifCond .ne 5, 3) := by decide +kernel
theorem dX1_tryBringBack_8 : decode cX1_tryBringBack 8 = .ok (.iconst 0, 1) := by decide +kernel
theorem dX1_tryBringBack_9 : decode cX1_tryBringBack 9 = .ok (.ireturn, 1) := by decide +kernel
theorem dX1_tryBringBack_10 : decode cX1_tryBringBack 10 = .ok (.aload_n 0, 1) := by decide +kernel
theorem dX1_tryBringBack_11 : decode cX1_tryBringBack 11 = .ok (.dup, 1) := by decide +kernel
theorem dX1_tryBringBack_12 : decode cX1_tryBringBack 12 = .ok (.getfield 45, 3) := by decide +kernel
theorem dX1_tryBringBack_15 : decode cX1_tryBringBack 15 = .ok (.iload_n 1, 1) := by decide +kernel
theorem dX1_tryBringBack_16 : decode cX1_tryBringBack 16 = .ok (.invokestatic 108, 3) := by decide +kernel
theorem dX1_tryBringBack_19 : decode cX1_tryBringBack 19 = .ok (.iconst (-1), 1) := by decide +kernel
theorem dX1_tryBringBack_20 : decode cX1_tryBringBack 20 = .ok (.ixor, 1) := by decide +kernel
theorem dX1_tryBringBack_21 : decode cX1_tryBringBack 21 = .ok (.iand, 1) := by decide +kernel
theorem dX1_tryBringBack_22 : decode cX1_tryBringBack 22 = .ok (.putfield 45, 3) := by decide +kernel
theorem dX1_tryBringBack_25 : decode cX1_tryBringBack 25 = .ok (.iconst 1, 1) := by decide +kernel
theorem dX1_tryBringBack_26 : decode cX1_tryBringBack 26 = .ok (.ireturn, 1) := by decide +kernel
set_option maxRecDepth 20000 in
theorem ggX1_tryBorrowOrBringBack_X3_has : GoodIn wsX1_tryBorrowOrBringBack wsX3_has := goodIn_r _ [4] rfl rfl
set_option maxRecDepth 20000 in
theorem gX1_tryBorrowOrBringBack_X3_has_n75 : GoodIn wsX1_tryBorrowOrBringBack (wsX3_has) := ggX1_tryBorrowOrBringBack_X3_has
set_option maxRecDepth 20000 in
theorem ggX1_tryBorrowOrBringBack_X1_tryBringBack : GoodIn wsX1_tryBorrowOrBringBack wsX1_tryBringBack := goodIn_r _ [9, 1, 10, 11, 12, 8, 13, 14, 3, 15, 2, 4, 16, 17, 18, 19, 20, 21, 22, 23, 32, 33, 34, 35, 36, 37, 38, 39, 40, 41, 42, 43, 44, 45, 46] rfl rfl
set_option maxRecDepth 20000 in
theorem gX1_tryBorrowOrBringBack_X1_tryBringBack : GoodIn wsX1_tryBorrowOrBringBack (wsV RX1 120 RX1 yX1_tryBringBack wsX1_tryBringBack) := goodIn_app (goodIn_of _ (by decide +kernel)) ggX1_tryBorrowOrBringBack_X1_tryBringBack
set_option maxRecDepth 20000 in
theorem ggX1_tryBorrowOrBringBack_X1_tryBorrow : GoodIn wsX1_tryBorrowOrBringBack wsX1_tryBorrow := goodIn_r _ [27, 1, 28, 29, 30, 8, 31, 14, 3, 15, 2, 4, 16, 17, 18, 19, 20, 21, 22, 23, 32, 33, 34, 35, 36, 37, 38, 39, 40, 41, 42, 43, 44, 45, 46] rfl rfl
set_option maxRecDepth 20000 in
theorem gX1_tryBorrowOrBringBack_X1_tryBorrow : GoodIn wsX1_tryBorrowOrBringBack (wsV RX1 123 RX1 yX1_tryBorrow wsX1_tryBorrow) := goodIn_app (goodIn_of _ (by decide +kernel)) ggX1_tryBorrowOrBringBack_X1_tryBorrow
theorem dX1_tryBorrowOrBringBack_0 : decode cX1_tryBorrowOrBringBack 0 = .ok (.aload_n 0, 1) := by decide +kernel
theorem dX1_tryBorrowOrBringBack_1 : decode cX1_tryBorrowOrBringBack 1 = .ok (.getfield 45, 3) := by decide +kernel
theorem dX1_tryBorrowOrBringBack_4 : decode cX1_tryBorrowOrBringBack 4 = .ok (.iload_n 1, 1) := by decide +kernel
theorem dX1_tryBorrowOrBringBack_5 : decode cX1_tryBorrowOrBringBack 5 = .ok (.invokestatic 75, 3) := by decide +kernel
theorem dX1_tryBorrowOrBringBack_8 : decode cX1_tryBorrowOrBringBack 8 = .ok (.ifCond .eq 11, 3) := by decide +kernel
theorem dX1_tryBorrowOrBringBack_11 : decode cX1_tryBorrowOrBringBack 11 = .ok (.aload_n 0, 1) := by decide +kernel
theorem dX1_tryBorrowOrBringBack_12 : decode cX1_tryBorrowOrBringBack 12 = .ok (.iload_n 1, 1) := by decide +kernel
theorem dX1_tryBorrowOrBringBack_13 : decode cX1_tryBorrowOrBringBack 13 = .ok (.invokevirtual 120, 3) := by decide +kernel
theorem dX1_tryBorrowOrBringBack_16 : decode cX1_tryBorrowOrBringBack 16 = .ok (.goto 8, 3) := by decide +kernel
theorem dX1_tryBorrowOrBringBack_19 : decode cX1_tryBorrowOrBringBack 19 = .ok (.aload_n 0, 1) := by decide +kernel
theorem dX1_tryBorrowOrBringBack_20 : decode cX1_tryBorrowOrBringBack 20 = .ok (.iload_n 1, 1) := by decide +kernel
theorem dX1_tryBorrowOrBringBack_21 : decode cX1_tryBorrowOrBringBack 21 = .ok (.invokevirtual 123, 3) := by decide +kernel
theorem dX1_tryBorrowOrBringBack_24 : decode cX1_tryBorrowOrBringBack 24 = .ok (.ireturn, 1) := by decide +kernel
set_option maxRecDepth 20000 in
theorem ggX1_tryWalk_X1_canWalk : GoodIn wsX1_tryWalk wsX1_canWalk := goodIn_r _ [9, 1, 10, 11, 12, 13, 14, 15, 16, 17, 18, 19, 20, 21, 22, 23, 24, 25, 26, 27, 28, 29] rfl rfl
set_option maxRecDepth 20000 in
theorem gX1_tryWalk_X1_canWalk : GoodIn wsX1_tryWalk (wsV RX1 126 RX1 yX1_canWalk wsX1_canWalk) := goodIn_app (goodIn_of _ (by decide +kernel)) ggX1_tryWalk_X1_canWalk
theorem dX1_tryWalk_0 : decode cX1_tryWalk 0 = .ok (.aload_n 0, 1) := by decide +kernel
theorem dX1_tryWalk_1 : decode cX1_tryWalk 1 = .ok (.iload_n 1, 1) := by decide +kernel
theorem dX1_tryWalk_2 : decode cX1_tryWalk 2 = .ok (.iload_n 2, 1) := by decide +kernel
theorem dX1_tryWalk_3 : decode cX1_tryWalk 3 = .ok (.iload_n 3, 1) := by decide +kernel
theorem dX1_tryWalk_4 : decode cX1_tryWalk 4 = .ok (.invokevirtual 126, 3) := by decide +kernel
theorem dX1_tryWalk_7 : decode cX1_tryWalk 7 = .ok (.ifCond .ne 5, 3) := by decide +kernel
theorem dX1_tryWalk_10 : decode cX1_tryWalk 10 = .ok (.iconst 0, 1) := by decide +kernel
theorem dX1_tryWalk_11 : decode cX1_tryWalk 11 = .ok (.ireturn, 1) := by decide +kernel
theorem dX1_tryWalk_12 : decode cX1_tryWalk 12 = .ok (.aload_n 0, 1) := by decide +kernel
theorem dX1_tryWalk_13 : decode cX1_tryWalk 13 = .ok (.getfield 22, 3) := by decide +kernel
theorem dX1_tryWalk_16 : decode cX1_tryWalk 16 = .ok (.iload_n 1, 1) := by decide +kernel
theorem dX1_tryWalk_17 : decode cX1_tryWalk 17 = .ok (.iconst 1, 1) := by decide +kernel
theorem dX1_tryWalk_18 : decode cX1_tryWalk 18 = .ok (.iastore, 1) := by decide +kernel
theorem dX1_tryWalk_19 : decode cX1_tryWalk 19 = .ok (.aload_n 0, 1) := by decide +kernel
theorem dX1_tryWalk_20 : decode cX1_tryWalk 20 = .ok (.getfield 25, 3) := by decide +kernel
theorem dX1_tryWalk_23 : decode cX1_tryWalk 23 = .ok (.iload_n 1, 1) := by decide +kernel
theorem dX1_tryWalk_24 : decode cX1_tryWalk 24 = .ok (.iload_n 2, 1) := by decide +kernel
theorem dX1_tryWalk_25 : decode cX1_tryWalk 25 = .ok (.iastore, 1) := by decide +kernel
theorem dX1_tryWalk_26 : decode cX1_tryWalk 26 = .ok (.aload_n 0, 1) := by decide +kernel
theorem dX1_tryWalk_27 : decode cX1_tryWalk 27 = .ok (.getfield 28, 3) := by decide +kernel
theorem dX1_tryWalk_30 : decode cX1_tryWalk 30 = .ok (.iload_n 1, 1) := by decide +kernel
theorem dX1_tryWalk_31 : decode cX1_tryWalk 31 = .ok (.iload_n 3, 1) := by decide +kernel
theorem dX1_tryWalk_32 : decode cX1_tryWalk 32 = .ok (.ifCond .eq 8, 3) := by decide +kernel
theorem dX1_tryWalk_35 : decode cX1_tryWalk 35 = .ok (.bipush (-3), 2) := by decide +kernel
theorem dX1_tryWalk_37 : decode cX1_tryWalk 37 = .ok (.goto 4, 3) := by decide +kernel
theorem dX1_tryWalk_40 : decode cX1_tryWalk 40 = .ok (.iconst 3, 1) := by decide +kernel
theorem dX1_tryWalk_41 : decode cX1_tryWalk 41 = .ok (.iastore, 1) := by decide +kernel
theorem dX1_tryWalk_42 : decode cX1_tryWalk 42 = .ok (.aload_n 0, 1) := by decide +kernel
theorem dX1_tryWalk_43 : decode cX1_tryWalk 43 = .ok (.getfield 31, 3) := by decide +kernel
theorem dX1_tryWalk_46 : decode cX1_tryWalk 46 = .ok (.iload_n 1, 1) := by decide +kernel
theorem dX1_tryWalk_47 : decode cX1_tryWalk 47 = .ok (.iload_n 3, 1) := by decide +kernel
theorem dX1_tryWalk_48 : decode cX1_tryWalk 48 = .ok (.bastore, 1) := by decide +kernel
theorem dX1_tryWalk_49 : decode cX1_tryWalk 49 = .ok (.iconst 1, 1) := by decide +kernel
theorem dX1_tryWalk_50 : decode cX1_tryWalk 50 = .ok (.ireturn, 1) := by decide +kernel
set_option maxRecDepth 20000 in
theorem ggX1_tryWalkEitherWay_X3_isVisitor : GoodIn wsX1_tryWalkEitherWay wsX3_isVisitor := goodIn_r _ [4] rfl rfl
set_option maxRecDepth 20000 in
theorem gX1_tryWalkEitherWay_X3_isVisitor_n83 : GoodIn wsX1_tryWalkEitherWay (wsX3_isVisitor) := ggX1_tryWalkEitherWay_X3_isVisitor
set_option maxRecDepth 20000 in
theorem ggX1_tryWalkEitherWay_X1_tryWalk : GoodIn wsX1_tryWalkEitherWay wsX1_tryWalk := goodIn_r _ [9, 1, 10, 11, 12, 13, 14, 15, 8, 16, 2, 3, 4, 17, 18, 19, 20, 21, 22, 23, 24, 25, 26, 27, 28, 29, 30, 31, 32, 33] rfl rfl
set_option maxRecDepth 20000 in
theorem gX1_tryWalkEitherWay_X1_tryWalk : GoodIn wsX1_tryWalkEitherWay (wsV RX1 130 RX1 yX1_tryWalk wsX1_tryWalk) := goodIn_app (goodIn_of _ (by decide +kernel)) ggX1_tryWalkEitherWay_X1_tryWalk
theorem dX1_tryWalkEitherWay_0 : decode cX1_tryWalkEitherWay 0 = .ok (.iload_n 1, 1) := by decide +kernel
theorem dX1_tryWalkEitherWay_1 : decode cX1_tryWalkEitherWay 1 = .ok (.invokestatic 83, 3) := by decide +kernel
theorem dX1_tryWalkEitherWay_4 : decode cX1_tryWalkEitherWay 4 = .ok (.ifCond .eq 30, 3) := by decide +kernel
theorem dX1_tryWalkEitherWay_7 : decode cX1_tryWalkEitherWay 7 = .ok (.aload_n 0, 1) := by decide +kernel
theorem dX1_tryWalkEitherWay_8 : decode cX1_tryWalkEitherWay 8 = .ok (.iload_n 1, 1) := by decide +kernel
theorem dX1_tryWalkEitherWay_9 : decode cX1_tryWalkEitherWay 9 = .ok (.iload_n 2, 1) := by decide +kernel
theorem dX1_tryWalkEitherWay_10 : decode cX1_tryWalkEitherWay 10 = .ok (.aload_n 0, 1) := by decide +kernel
theorem dX1_tryWalkEitherWay_11 : decode cX1_tryWalkEitherWay 11 = .ok (.getfield 22, 3) := by decide +kernel
theorem dX1_tryWalkEitherWay_14 : decode cX1_tryWalkEitherWay 14 = .ok (.iload_n 1, 1) := by decide +kernel
theorem dX1_tryWalkEitherWay_15 : decode cX1_tryWalkEitherWay 15 = .ok (.iaload, 1) := by decide +kernel
theorem dX1_tryWalkEitherWay_16 : decode cX1_tryWalkEitherWay 16 = .ok (.ifCond .ne 7, 3) := by decide +kernel
theorem dX1_tryWalkEitherWay_19 : decode cX1_tryWalkEitherWay 19 = .ok (.iconst 1, 1) := by decide +kernel
theorem dX1_tryWalkEitherWay_20 : decode cX1_tryWalkEitherWay 20 = .ok (.goto 4, 3) := by decide +kernel
theorem dX1_tryWalkEitherWay_23 : decode cX1_tryWalkEitherWay 23 = .ok (.iconst 0, 1) := by decide +kernel
theorem dX1_tryWalkEitherWay_24 : decode cX1_tryWalkEitherWay 24 = .ok (.invokevirtual 130, 3) := by decide +kernel
theorem dX1_tryWalkEitherWay_27 : decode cX1_tryWalkEitherWay 27 = .ok (.ifCond .eq 7, 3) := by decide +kernel
theorem dX1_tryWalkEitherWay_30 : decode cX1_tryWalkEitherWay 30 = .ok (.iconst 1, 1) := by decide +kernel
theorem dX1_tryWalkEitherWay_31 : decode cX1_tryWalkEitherWay 31 = .ok (.goto 4, 3) := by decide +kernel
theorem dX1_tryWalkEitherWay_34 : decode cX1_tryWalkEitherWay 34 = .ok (.iconst 0, 1) := by decide +kernel
theorem dX1_tryWalkEitherWay_35 : decode cX1_tryWalkEitherWay 35 = .ok (.ireturn, 1) := by decide +kernel
set_option maxRecDepth 20000 in
theorem ggX1_tryTurn_X1_canTurn : GoodIn wsX1_tryTurn wsX1_canTurn := goodIn_r _ [6, 7, 8, 9, 10, 11, 12, 13, 14, 15, 16, 17, 18, 19, 20, 21, 22, 23, 24, 25] rfl rfl
set_option maxRecDepth 20000 in
theorem gX1_tryTurn_X1_canTurn : GoodIn wsX1_tryTurn (wsV RX1 133 RX1 yX1_canTurn wsX1_canTurn) := goodIn_app (goodIn_of _ (by decide +kernel)) ggX1_tryTurn_X1_canTurn
theorem dX1_tryTurn_0 : decode cX1_tryTurn 0 = .ok (.aload_n 0, 1) := by decide +kernel
theorem dX1_tryTurn_1 : decode cX1_tryTurn 1 = .ok (.iload_n 1, 1) := by decide +kernel
theorem dX1_tryTurn_2 : decode cX1_tryTurn 2 = .ok (.invokevirtual 133, 3) := by decide +kernel
theorem dX1_tryTurn_5 : decode cX1_tryTurn 5 = .ok (.ifCond .ne 5, 3) := by decide +kernel
theorem dX1_tryTurn_8 : decode cX1_tryTurn 8 = .ok (.iconst 0, 1) := by decide +kernel
theorem dX1_tryTurn_9 : decode cX1_tryTurn 9 = .ok (.ireturn, 1) := by decide +kernel
theorem dX1_tryTurn_10 : decode cX1_tryTurn 10 = .ok (.aload_n 0, 1) := by decide +kernel
theorem dX1_tryTurn_11 : decode cX1_tryTurn 11 = .ok (.getfield 31, 3) := by decide +kernel
theorem dX1_tryTurn_14 : decode cX1_tryTurn 14 = .ok (.iload_n 1, 1) := by decide +kernel
theorem dX1_tryTurn_15 : decode cX1_tryTurn 15 = .ok (.aload_n 0, 1) := by decide +kernel
theorem dX1_tryTurn_16 : decode cX1_tryTurn 16 = .ok (.getfield 31, 3) := by decide +kernel
theorem dX1_tryTurn_19 : decode cX1_tryTurn 19 = .ok (.iload_n 1, 1) := by decide +kernel
theorem dX1_tryTurn_20 : decode cX1_tryTurn 20 = .ok (.baload, 1) := by decide +kernel
theorem dX1_tryTurn_21 : decode cX1_tryTurn 21 = .ok (.ifCond .ne 7, 3) := by decide +kernel
theorem dX1_tryTurn_24 : decode cX1_tryTurn 24 = .ok (.iconst 1, 1) := by decide +kernel
theorem dX1_tryTurn_25 : decode cX1_tryTurn 25 = .ok (.goto 4, 3) := by decide +kernel
theorem dX1_tryTurn_28 : decode cX1_tryTurn 28 = .ok (.iconst 0, 1) := by decide +kernel
theorem dX1_tryTurn_29 : decode cX1_tryTurn 29 = .ok (.bastore, 1) := by decide +kernel
theorem dX1_tryTurn_30 : decode cX1_tryTurn 30 = .ok (.iconst 1, 1) := by decide +kernel
theorem dX1_tryTurn_31 : decode cX1_tryTurn 31 = .ok (.ireturn, 1) := by decide +kernel
set_option maxRecDepth 20000 in
theorem ggX1_change_X3_isGate : GoodIn wsX1_change wsX3_isGate := goodIn_r _ [7] rfl rfl
set_option maxRecDepth 20000 in
theorem gX1_change_X3_isGate_n102 : GoodIn wsX1_change (wsX3_isGate) := ggX1_change_X3_isGate
theorem dX1_change_0 : decode cX1_change 0 = .ok (.iload_n 1, 1) := by decide +kernel
theorem dX1_change_1 : decode cX1_change 1 = .ok (.invokestatic 102, 3) := by decide +kernel
theorem dX1_change_4 : decode cX1_change 4 = .ok (.ifCond .eq 26, 3) := by decide +kernel
theorem dX1_change_7 : decode cX1_change 7 = .ok (.aload_n 0, 1) := by decide +kernel
theorem dX1_change_8 : decode cX1_change 8 = .ok (.getfield 12, 3) := by decide +kernel
theorem dX1_change_11 : decode cX1_change 11 = .ok (.getfield 136, 3) := by decide +kernel
theorem dX1_change_14 : decode cX1_change 14 = .ok (.iload_n 1, 1) := by decide +kernel
theorem dX1_change_15 : decode cX1_change 15 = .ok (.iaload, 1) := by decide +kernel
theorem dX1_change_16 : decode cX1_change 16 = .ok (.istore_n 3, 1) := by decide +kernel
theorem dX1_change_17 : decode cX1_change 17 = .ok (.aload_n 0, 1) := by decide +kernel
theorem dX1_change_18 : decode cX1_change 18 = .ok (.getfield 12, 3) := by decide +kernel
theorem dX1_change_21 : decode cX1_change 21 = .ok (.getfield 136, 3) := by decide +kernel
theorem dX1_change_24 : decode cX1_change 24 = .ok (.iload_n 1, 1) := by decide +kernel
theorem dX1_change_25 : decode cX1_change 25 = .ok (.iload_n 2, 1) := by decide +kernel
theorem dX1_change_26 : decode cX1_change 26 = .ok (.iastore, 1) := by decide +kernel
theorem dX1_change_27 : decode cX1_change 27 = .ok (.goto 37, 3) := by decide +kernel
theorem dX1_change_30 : decode cX1_change 30 = .ok (.iload_n 1, 1) := by decide +kernel
theorem dX1_change_31 : decode cX1_change 31 = .ok (.iconst 3, 1) := by decide +kernel
theorem dX1_change_32 : decode cX1_change 32 = .ok (.if_icmp .ne 16, 3) := by decide +kernel
theorem dX1_change_35 : decode cX1_change 35 = .ok (.aload_n 0, 1) := by decide +kernel
theorem dX1_change_36 : decode cX1_change 36 = .ok (.getfield 52, 3) := by decide +kernel
theorem dX1_change_39 : decode cX1_change 39 = .ok (.istore_n 3, 1) := by decide +kernel
theorem dX1_change_40 : decode cX1_change 40 = .ok (.aload_n 0, 1) := by decide +kernel
theorem dX1_change_41 : decode cX1_change 41 = .ok (.iload_n 2, 1) := by decide +kernel
theorem dX1_change_42 : decode cX1_change 42 = .ok (.putfield 52, 3) := by decide +kernel
theorem dX1_change_45 : decode cX1_change 45 = .ok (.goto 19, 3) := by decide +kernel
theorem dX1_change_48 : decode cX1_change 48 = .ok (.aload_n 0, 1) := by decide +kernel
theorem dX1_change_49 : decode cX1_change 49 = .ok (.getfield 12, 3) := by decide +kernel
theorem dX1_change_52 : decode cX1_change 52 = .ok (.getfield 139, 3) := by decide +kernel
theorem dX1_change_55 : decode cX1_change 55 = .ok (.istore_n 3, 1) := by decide +kernel
theorem dX1_change_56 : decode cX1_change 56 = .ok (.aload_n 0, 1) := by decide +kernel
theorem dX1_change_57 : decode cX1_change 57 = .ok (.getfield 12, 3) := by decide +kernel
theorem dX1_change_60 : decode cX1_change 60 = .ok (.iload_n 2, 1) := by decide +kernel
theorem dX1_change_61 : decode cX1_change 61 = .ok (.putfield 139, 3) := by decide +kernel
theorem dX1_change_64 : decode cX1_change 64 = .ok (.iload_n 3, 1) := by decide +kernel
theorem dX1_change_65 : decode cX1_change 65 = .ok (.ireturn, 1) := by decide +kernel
set_option maxRecDepth 20000 in
theorem ggX1_booksRead_X1_reaches : GoodIn wsX1_booksRead wsX1_reaches := goodIn_r _ [8, 9, 10, 11, 12, 13, 3, 14, 15, 16, 17, 18, 19, 20, 21, 22, 23, 24, 25, 26, 27, 28, 29, 30, 31, 32, 33, 34, 35, 36, 37, 38, 39, 40, 41, 42, 43, 44, 45, 46, 47] rfl rfl
set_option maxRecDepth 20000 in
theorem gX1_booksRead_X1_reaches : GoodIn wsX1_booksRead (wsV RX1 142 RX1 yX1_reaches wsX1_reaches) := goodIn_app (goodIn_of _ (by decide +kernel)) ggX1_booksRead_X1_reaches
theorem dX1_booksRead_0 : decode cX1_booksRead 0 = .ok (.iconst 0, 1) := by decide +kernel
theorem dX1_booksRead_1 : decode cX1_booksRead 1 = .ok (.istore_n 3, 1) := by decide +kernel
theorem dX1_booksRead_2 : decode cX1_booksRead 2 = .ok (.iconst 0, 1) := by decide +kernel
theorem dX1_booksRead_3 : decode cX1_booksRead 3 = .ok (.istore 4, 2) := by decide +kernel
theorem dX1_booksRead_5 : decode cX1_booksRead 5 = .ok (.iload 4, 2) := by decide +kernel
theorem dX1_booksRead_7 : decode cX1_booksRead 7 = .ok (.bipush 6, 2) := by decide +kernel
theorem dX1_booksRead_9 : decode cX1_booksRead 9 = .ok (.if_icmp .ge 54, 3) := by decide +kernel
theorem dX1_booksRead_12 : decode cX1_booksRead 12 = .ok (.aload_n 0, 1) := by decide +kernel
theorem dX1_booksRead_13 : decode cX1_booksRead 13 = .ok (.getfield 22, 3) := by decide +kernel
theorem dX1_booksRead_16 : decode cX1_booksRead 16 = .ok (.iload 4, 2) := by decide +kernel
theorem dX1_booksRead_18 : decode cX1_booksRead 18 = .ok (.iaload, 1) := by decide +kernel
theorem dX1_booksRead_19 : decode cX1_booksRead 19 = .ok (.iconst 1, 1) := by decide +kernel
theorem dX1_booksRead_20 : decode cX1_booksRead 20 = .ok (.if_icmp .ne 37, 3) := by decide +kernel
theorem dX1_booksRead_23 : decode cX1_booksRead 23 = .ok (.aload_n 0, 1) := by decide +kernel
theorem dX1_booksRead_24 : decode cX1_booksRead 24 = .ok (.getfield 31, 3) := by decide +kernel
theorem dX1_booksRead_27 : decode cX1_booksRead 27 = .ok (.iload 4, 2) := by decide +kernel
theorem dX1_booksRead_29 : decode cX1_booksRead 29 = .ok (.baload, 1) := by decide +kernel
theorem dX1_booksRead_30 : decode cX1_booksRead 30 = .ok (.ifCond .ne 7, 3) := by decide +kernel
theorem dX1_booksRead_33 : decode cX1_booksRead 33 = .ok (.iload_n 2, 1) := by decide +kernel
theorem dX1_booksRead_34 : decode cX1_booksRead 34 = .ok (.ifCond .ne 23, 3) := by decide +kernel
theorem dX1_booksRead_37 : decode cX1_booksRead 37 = .ok (.aload_n 0, 1) := by decide +kernel
theorem dX1_booksRead_38 : decode cX1_booksRead 38 = .ok (.iload_n 1, 1) := by decide +kernel
theorem dX1_booksRead_39 : decode cX1_booksRead 39 = .ok (.iload 4, 2) := by decide +kernel
theorem dX1_booksRead_41 : decode cX1_booksRead 41 = .ok (.invokevirtual 142, 3) := by decide +kernel
theorem dX1_booksRead_44 : decode cX1_booksRead 44 = .ok (.ifCond .eq 13, 3) := by decide +kernel
theorem dX1_booksRead_47 : decode cX1_booksRead 47 = .ok (.iload_n 3, 1) := by decide +kernel
theorem dX1_booksRead_48 : decode cX1_booksRead 48 = .ok (.aload_n 0, 1) := by decide +kernel
theorem dX1_booksRead_49 : decode cX1_booksRead 49 = .ok (.getfield 18, 3) := by decide +kernel
theorem dX1_booksRead_52 : decode cX1_booksRead 52 = .ok (.iload 4, 2) := by decide +kernel
theorem dX1_booksRead_54 : decode cX1_booksRead 54 = .ok (.iaload, 1) := by decide +kernel
theorem dX1_booksRead_55 : decode cX1_booksRead 55 = .ok (.ior, 1) := by decide +kernel
theorem dX1_booksRead_56 : decode cX1_booksRead 56 = .ok (.istore_n 3, 1) := by decide +kernel
theorem dX1_booksRead_57 : decode cX1_booksRead 57 = .ok (.iinc 4 1, 3) := by decide +kernel
theorem dX1_booksRead_60 : decode cX1_booksRead 60 = .ok (.goto (-55), 3) := by decide +kernel
theorem dX1_booksRead_63 : decode cX1_booksRead 63 = .ok (.iload_n 3, 1) := by decide +kernel
theorem dX1_booksRead_64 : decode cX1_booksRead 64 = .ok (.ireturn, 1) := by decide +kernel
set_option maxRecDepth 20000 in
theorem ggX1_reaches_J6_bitCount_0f7a4 : GoodIn wsX1_reaches wsJ6_bitCount_0f7a4 := goodIn_r _ [13, 14, 15, 16] rfl rfl
set_option maxRecDepth 20000 in
theorem gX1_reaches_J6_bitCount_0f7a4 : GoodIn wsX1_reaches (va_wsS RX1 94 yJ6_bitCount_0f7a4 wsJ6_bitCount_0f7a4) := goodIn_app (goodIn_of _ (by decide +kernel)) ggX1_reaches_J6_bitCount_0f7a4
theorem dX1_reaches_0 : decode cX1_reaches 0 = .ok (.iconst 2, 1) := by decide +kernel
theorem dX1_reaches_1 : decode cX1_reaches 1 = .ok (.aload_n 0, 1) := by decide +kernel
theorem dX1_reaches_2 : decode cX1_reaches 2 = .ok (.getfield 28, 3) := by decide +kernel
theorem dX1_reaches_5 : decode cX1_reaches 5 = .ok (.iload_n 2, 1) := by decide +kernel
theorem dX1_reaches_6 : decode cX1_reaches 6 = .ok (.iaload, 1) := by decide +kernel
theorem dX1_reaches_7 : decode cX1_reaches 7 = .ok (.invokestatic 145, 3) := by decide +kernel
theorem dX1_reaches_10 : decode cX1_reaches 10 = .ok (.imul, 1) := by decide +kernel
theorem dX1_reaches_11 : decode cX1_reaches 11 = .ok (.aload_n 0, 1) := by decide +kernel
theorem dX1_reaches_12 : decode cX1_reaches 12 = .ok (.getfield 18, 3) := by decide +kernel
theorem dX1_reaches_15 : decode cX1_reaches 15 = .ok (.iload_n 2, 1) := by decide +kernel
theorem dX1_reaches_16 : decode cX1_reaches 16 = .ok (.iaload, 1) := by decide +kernel
theorem dX1_reaches_17 : decode cX1_reaches 17 = .ok (.invokestatic 94, 3) := by decide +kernel
theorem dX1_reaches_20 : decode cX1_reaches 20 = .ok (.iadd, 1) := by decide +kernel
theorem dX1_reaches_21 : decode cX1_reaches 21 = .ok (.istore_n 3, 1) := by decide +kernel
theorem dX1_reaches_22 : decode cX1_reaches 22 = .ok (.aload_n 0, 1) := by decide +kernel
theorem dX1_reaches_23 : decode cX1_reaches 23 = .ok (.getfield 25, 3) := by decide +kernel
theorem dX1_reaches_26 : decode cX1_reaches 26 = .ok (.iload_n 2, 1) := by decide +kernel
theorem dX1_reaches_27 : decode cX1_reaches 27 = .ok (.iaload, 1) := by decide +kernel
theorem dX1_reaches_28 : decode cX1_reaches 28 = .ok (.iload_n 1, 1) := by decide +kernel
theorem dX1_reaches_29 : decode cX1_reaches 29 = .ok (.isub, 1) := by decide +kernel
theorem dX1_reaches_30 : decode cX1_reaches 30 = .ok (.invokestatic 145, 3) := by decide +kernel
theorem dX1_reaches_33 : decode cX1_reaches 33 = .ok (.lookupswitch 67 #[(0, 27), (1, 46)], 27) := by decide +kernel
theorem dX1_reaches_60 : decode cX1_reaches 60 = .ok (.aload_n 0, 1) := by decide +kernel
theorem dX1_reaches_61 : decode cX1_reaches 61 = .ok (.getfield 12, 3) := by decide +kernel
theorem dX1_reaches_64 : decode cX1_reaches 64 = .ok (.getfield 136, 3) := by decide +kernel
theorem dX1_reaches_67 : decode cX1_reaches 67 = .ok (.iload_n 1, 1) := by decide +kernel
theorem dX1_reaches_68 : decode cX1_reaches 68 = .ok (.iaload, 1) := by decide +kernel
theorem dX1_reaches_69 : decode cX1_reaches 69 = .ok (.iload_n 3, 1) := by decide +kernel
theorem dX1_reaches_70 : decode cX1_reaches 70 = .ok (.if_icmp .lt 7, 3) := by decide +kernel
theorem dX1_reaches_73 : decode cX1_reaches 73 = .ok (.iconst 1, 1) := by decide +kernel
theorem dX1_reaches_74 : decode cX1_reaches 74 = .ok (.goto 4, 3) := by decide +kernel
theorem dX1_reaches_77 : decode cX1_reaches 77 = .ok (.iconst 0, 1) := by decide +kernel
theorem dX1_reaches_78 : decode cX1_reaches 78 = .ok (.ireturn, 1) := by decide +kernel
theorem dX1_reaches_79 : decode cX1_reaches 79 = .ok (.aload_n 0, 1) := by decide +kernel
theorem dX1_reaches_80 : decode cX1_reaches 80 = .ok (.getfield 12, 3) := by decide +kernel
theorem dX1_reaches_83 : decode cX1_reaches 83 = .ok (.getfield 136, 3) := by decide +kernel
theorem dX1_reaches_86 : decode cX1_reaches 86 = .ok (.iload_n 1, 1) := by decide +kernel
theorem dX1_reaches_87 : decode cX1_reaches 87 = .ok (.iaload, 1) := by decide +kernel
theorem dX1_reaches_88 : decode cX1_reaches 88 = .ok (.iconst 2, 1) := by decide +kernel
theorem dX1_reaches_89 : decode cX1_reaches 89 = .ok (.idiv, 1) := by decide +kernel
theorem dX1_reaches_90 : decode cX1_reaches 90 = .ok (.iload_n 3, 1) := by decide +kernel
theorem dX1_reaches_91 : decode cX1_reaches 91 = .ok (.if_icmp .lt 7, 3) := by decide +kernel
theorem dX1_reaches_94 : decode cX1_reaches 94 = .ok (.iconst 1, 1) := by decide +kernel
theorem dX1_reaches_95 : decode cX1_reaches 95 = .ok (.goto 4, 3) := by decide +kernel
theorem dX1_reaches_98 : decode cX1_reaches 98 = .ok (.iconst 0, 1) := by decide +kernel
theorem dX1_reaches_99 : decode cX1_reaches 99 = .ok (.ireturn, 1) := by decide +kernel
theorem dX1_reaches_100 : decode cX1_reaches 100 = .ok (.iconst 0, 1) := by decide +kernel
theorem dX1_reaches_101 : decode cX1_reaches 101 = .ok (.ireturn, 1) := by decide +kernel
set_option maxRecDepth 20000 in
theorem ggX1_passTicks_X0_shoutCount : GoodIn wsX1_passTicks wsX0_shoutCount := goodIn_r _ [6, 7, 113, 114, 115, 116, 117, 118, 119, 120, 121] rfl rfl
set_option maxRecDepth 20000 in
theorem gX1_passTicks_X0_shoutCount : GoodIn wsX1_passTicks (wsV RX1 150 RX0 yX0_shoutCount wsX0_shoutCount) := goodIn_app (goodIn_of _ (by decide +kernel)) ggX1_passTicks_X0_shoutCount
set_option maxRecDepth 20000 in
theorem ggX1_passTicks_X1_passTick : GoodIn wsX1_passTicks wsX1_passTick := goodIn_r _ [12, 13, 14, 1, 15, 16, 17, 18, 11, 19, 20, 21, 22, 23, 24, 25, 26, 27, 28, 29, 30, 31, 32, 33, 34, 35, 36, 37, 38, 39, 40, 41, 42, 43, 44, 45, 46, 47, 48, 49, 5, 50, 51, 52, 53, 54, 55, 56, 57, 58, 59, 60, 61, 62, 63, 64, 65, 66, 67, 68, 69, 70, 71, 72, 73, 74, 75, 76, 77, 78, 79, 80, 81, 82, 83, 7, 84, 85, 86, 87, 88, 89, 90, 91, 92, 93, 94, 95, 96, 97, 98, 99, 100, 101, 102, 103, 104, 105, 106, 107, 108, 109, 110, 111, 112, 113, 114, 115, 116, 117, 118, 119, 120, 121] rfl rfl
set_option maxRecDepth 20000 in
theorem gX1_passTicks_X1_passTick : GoodIn wsX1_passTicks (wsV RX1 154 RX1 yX1_passTick wsX1_passTick) := goodIn_app (goodIn_of _ (by decide +kernel)) ggX1_passTicks_X1_passTick
theorem dX1_passTicks_0 : decode cX1_passTicks 0 = .ok (.aload_n 0, 1) := by decide +kernel
theorem dX1_passTicks_1 : decode cX1_passTicks 1 = .ok (.getfield 12, 3) := by decide +kernel
theorem dX1_passTicks_4 : decode cX1_passTicks 4 = .ok (.invokevirtual 150, 3) := by decide +kernel
theorem dX1_passTicks_7 : decode cX1_passTicks 7 = .ok (.istore_n 2, 1) := by decide +kernel
theorem dX1_passTicks_8 : decode cX1_passTicks 8 = .ok (.iconst 0, 1) := by decide +kernel
theorem dX1_passTicks_9 : decode cX1_passTicks 9 = .ok (.istore_n 3, 1) := by decide +kernel
theorem dX1_passTicks_10 : decode cX1_passTicks 10 = .ok (.iload_n 3, 1) := by decide +kernel
theorem dX1_passTicks_11 : decode cX1_passTicks 11 = .ok (.iload_n 1, 1) := by decide +kernel
theorem dX1_passTicks_12 : decode cX1_passTicks 12 = .ok (.if_icmp .ge 13, 3) := by decide +kernel
theorem dX1_passTicks_15 : decode cX1_passTicks 15 = .ok (.aload_n 0, 1) := by decide +kernel
theorem dX1_passTicks_16 : decode cX1_passTicks 16 = .ok (.invokevirtual 154, 3) := by decide +kernel
theorem dX1_passTicks_19 : decode cX1_passTicks 19 = .ok (.iinc 3 1, 3) := by decide +kernel
theorem dX1_passTicks_22 : decode cX1_passTicks 22 = .ok (.goto (-12), 3) := by decide +kernel
theorem dX1_passTicks_25 : decode cX1_passTicks 25 = .ok (.aload_n 0, 1) := by decide +kernel
theorem dX1_passTicks_26 : decode cX1_passTicks 26 = .ok (.getfield 12, 3) := by decide +kernel
theorem dX1_passTicks_29 : decode cX1_passTicks 29 = .ok (.invokevirtual 150, 3) := by decide +kernel
theorem dX1_passTicks_32 : decode cX1_passTicks 32 = .ok (.iload_n 2, 1) := by decide +kernel
theorem dX1_passTicks_33 : decode cX1_passTicks 33 = .ok (.isub, 1) := by decide +kernel
theorem dX1_passTicks_34 : decode cX1_passTicks 34 = .ok (.ireturn, 1) := by decide +kernel
set_option maxRecDepth 20000 in
theorem ggX1_passTick_X1_goOn : GoodIn wsX1_passTick wsX1_goOn := goodIn_r _ [9, 10, 11, 2, 12, 13, 14, 15, 16, 8, 17, 18, 19, 20, 21, 22, 23, 24, 25, 26, 27, 28, 90, 91, 92, 93, 94, 95, 96, 97, 98, 99, 100, 101, 102, 103, 104] rfl rfl
set_option maxRecDepth 20000 in
theorem gX1_passTick_X1_goOn : GoodIn wsX1_passTick (wsV RX1 157 RX1 yX1_goOn wsX1_goOn) := goodIn_app (goodIn_of _ (by decide +kernel)) ggX1_passTick_X1_goOn
set_option maxRecDepth 20000 in
theorem ggX1_passTick_X1_forgetReading : GoodIn wsX1_passTick wsX1_forgetReading := goodIn_r _ [32, 33, 19, 3, 34, 35, 36, 37, 38, 39, 40, 41, 42, 43, 90, 91, 92, 93, 94, 95, 96, 97, 98, 99, 100, 101, 102, 103, 104, 105, 106, 107, 108, 109, 110, 111, 112, 113] rfl rfl
set_option maxRecDepth 20000 in
theorem gX1_passTick_X1_forgetReading : GoodIn wsX1_passTick (wsV RX1 160 RX1 yX1_forgetReading wsX1_forgetReading) := goodIn_app (goodIn_of _ (by decide +kernel)) ggX1_passTick_X1_forgetReading
set_option maxRecDepth 20000 in
theorem ggX1_passTick_X1_readBooks : GoodIn wsX1_passTick wsX1_readBooks := goodIn_r _ [47, 13, 19, 33, 48, 3, 49, 50, 51, 8, 52, 2, 11, 12, 53, 54, 55, 56, 10, 57, 58, 59, 60, 61, 62, 22, 23, 24, 25, 26, 27, 28, 34, 35, 36, 63, 64, 65, 66, 67, 40, 68, 42, 43, 90, 91, 92, 93, 94, 95, 96, 97, 98, 99, 100, 101, 102, 103, 104, 105, 106, 107, 108, 109, 110, 111, 112, 113] rfl rfl
set_option maxRecDepth 20000 in
theorem gX1_passTick_X1_readBooks : GoodIn wsX1_passTick (wsV RX1 164 RX1 yX1_readBooks wsX1_readBooks) := goodIn_app (goodIn_of _ (by decide +kernel)) ggX1_passTick_X1_readBooks
set_option maxRecDepth 20000 in
theorem ggX1_passTick_X0_passTick : GoodIn wsX1_passTick wsX0_passTick := goodIn_r _ [72, 73, 74, 75, 76, 77, 78, 40, 79, 42, 43, 63, 35, 64, 80, 38, 39, 41, 34, 36, 81, 82, 83, 84, 85, 86, 87, 105, 106, 107, 108, 109, 110, 111, 112, 113] rfl rfl
set_option maxRecDepth 20000 in
theorem gX1_passTick_X0_passTick : GoodIn wsX1_passTick (wsV RX1 167 RX0 yX0_passTick wsX0_passTick) := goodIn_app (goodIn_of _ (by decide +kernel)) ggX1_passTick_X0_passTick
set_option maxRecDepth 20000 in
theorem ggX1_passTick_X3_isBook : GoodIn wsX1_passTick wsX3_isBook := goodIn_r _ [89] rfl rfl
set_option maxRecDepth 20000 in
theorem gX1_passTick_X3_isBook_n87 : GoodIn wsX1_passTick (wsX3_isBook) := ggX1_passTick_X3_isBook
theorem dX1_passTick_0 : decode cX1_passTick 0 = .ok (.aload_n 0, 1) := by decide +kernel
theorem dX1_passTick_1 : decode cX1_passTick 1 = .ok (.dup, 1) := by decide +kernel
theorem dX1_passTick_2 : decode cX1_passTick 2 = .ok (.getfield 55, 3) := by decide +kernel
theorem dX1_passTick_5 : decode cX1_passTick 5 = .ok (.iconst 1, 1) := by decide +kernel
theorem dX1_passTick_6 : decode cX1_passTick 6 = .ok (.iadd, 1) := by decide +kernel
theorem dX1_passTick_7 : decode cX1_passTick 7 = .ok (.putfield 55, 3) := by decide +kernel
theorem dX1_passTick_10 : decode cX1_passTick 10 = .ok (.iconst 0, 1) := by decide +kernel
theorem dX1_passTick_11 : decode cX1_passTick 11 = .ok (.istore_n 1, 1) := by decide +kernel
theorem dX1_passTick_12 : decode cX1_passTick 12 = .ok (.iload_n 1, 1) := by decide +kernel
theorem dX1_passTick_13 : decode cX1_passTick 13 = .ok (.bipush 6, 2) := by decide +kernel
theorem dX1_passTick_15 : decode cX1_passTick 15 = .ok (.if_icmp .ge 28, 3) := by decide +kernel
theorem dX1_passTick_18 : decode cX1_passTick 18 = .ok (.aload_n 0, 1) := by decide +kernel
theorem dX1_passTick_19 : decode cX1_passTick 19 = .ok (.getfield 22, 3) := by decide +kernel
theorem dX1_passTick_22 : decode cX1_passTick 22 = .ok (.iload_n 1, 1) := by decide +kernel
theorem dX1_passTick_23 : decode cX1_passTick 23 = .ok (.iaload, 1) := by decide +kernel
theorem dX1_passTick_24 : decode cX1_passTick 24 = .ok (.iconst 1, 1) := by decide +kernel
theorem dX1_passTick_25 : decode cX1_passTick 25 = .ok (.if_icmp .ne 12, 3) := by decide +kernel
theorem dX1_passTick_28 : decode cX1_passTick 28 = .ok (.aload_n 0, 1) := by decide +kernel
theorem dX1_passTick_29 : decode cX1_passTick 29 = .ok (.aload_n 0, 1) := by decide +kernel
theorem dX1_passTick_30 : decode cX1_passTick 30 = .ok (.iload_n 1, 1) := by decide +kernel
theorem dX1_passTick_31 : decode cX1_passTick 31 = .ok (.invokevirtual 157, 3) := by decide +kernel
theorem dX1_passTick_34 : decode cX1_passTick 34 = .ok (.invokevirtual 160, 3) := by decide +kernel
theorem dX1_passTick_37 : decode cX1_passTick 37 = .ok (.iinc 1 1, 3) := by decide +kernel
theorem dX1_passTick_40 : decode cX1_passTick 40 = .ok (.goto (-28), 3) := by decide +kernel
theorem dX1_passTick_43 : decode cX1_passTick 43 = .ok (.iconst 0, 1) := by decide +kernel
theorem dX1_passTick_44 : decode cX1_passTick 44 = .ok (.istore_n 1, 1) := by decide +kernel
theorem dX1_passTick_45 : decode cX1_passTick 45 = .ok (.iload_n 1, 1) := by decide +kernel
theorem dX1_passTick_46 : decode cX1_passTick 46 = .ok (.iconst 3, 1) := by decide +kernel
theorem dX1_passTick_47 : decode cX1_passTick 47 = .ok (.if_icmp .ge 14, 3) := by decide +kernel
theorem dX1_passTick_50 : decode cX1_passTick 50 = .ok (.aload_n 0, 1) := by decide +kernel
theorem dX1_passTick_51 : decode cX1_passTick 51 = .ok (.iload_n 1, 1) := by decide +kernel
theorem dX1_passTick_52 : decode cX1_passTick 52 = .ok (.invokevirtual 164, 3) := by decide +kernel
theorem dX1_passTick_55 : decode cX1_passTick 55 = .ok (.iinc 1 1, 3) := by decide +kernel
theorem dX1_passTick_58 : decode cX1_passTick 58 = .ok (.goto (-13), 3) := by decide +kernel
theorem dX1_passTick_61 : decode cX1_passTick 61 = .ok (.iconst 0, 1) := by decide +kernel
theorem dX1_passTick_62 : decode cX1_passTick 62 = .ok (.istore_n 1, 1) := by decide +kernel
theorem dX1_passTick_63 : decode cX1_passTick 63 = .ok (.iload_n 1, 1) := by decide +kernel
theorem dX1_passTick_64 : decode cX1_passTick 64 = .ok (.iconst 3, 1) := by decide +kernel
theorem dX1_passTick_65 : decode cX1_passTick 65 = .ok (.if_icmp .ge 39, 3) := by decide +kernel
theorem dX1_passTick_68 : decode cX1_passTick 68 = .ok (.aload_n 0, 1) := by decide +kernel
theorem dX1_passTick_69 : decode cX1_passTick 69 = .ok (.getfield 12, 3) := by decide +kernel
theorem dX1_passTick_72 : decode cX1_passTick 72 = .ok (.iload_n 1, 1) := by decide +kernel
theorem dX1_passTick_73 : decode cX1_passTick 73 = .ok (.aload_n 0, 1) := by decide +kernel
theorem dX1_passTick_74 : decode cX1_passTick 74 = .ok (.getfield 55, 3) := by decide +kernel
theorem dX1_passTick_77 : decode cX1_passTick 77 = .ok (.invokevirtual 167, 3) := by decide +kernel
theorem dX1_passTick_80 : decode cX1_passTick 80 = .ok (.istore_n 2, 1) := by decide +kernel
theorem dX1_passTick_81 : decode cX1_passTick 81 = .ok (.iload_n 2, 1) := by decide +kernel
theorem dX1_passTick_82 : decode cX1_passTick 82 = .ok (.invokestatic 87, 3) := by decide +kernel
theorem dX1_passTick_85 : decode cX1_passTick 85 = .ok (.ifCond .eq 13, 3) := by decide +kernel
theorem dX1_passTick_88 : decode cX1_passTick 88 = .ok (.aload_n 0, 1) := by decide +kernel
theorem dX1_passTick_89 : decode cX1_passTick 89 = .ok (.getfield 38, 3) := by decide +kernel
theorem dX1_passTick_92 : decode cX1_passTick 92 = .ok (.iload_n 2, 1) := by decide +kernel
theorem dX1_passTick_93 : decode cX1_passTick 93 = .ok (.dup2, 1) := by decide +kernel
theorem dX1_passTick_94 : decode cX1_passTick 94 = .ok (.iaload, 1) := by decide +kernel
theorem dX1_passTick_95 : decode cX1_passTick 95 = .ok (.iconst 1, 1) := by decide +kernel
theorem dX1_passTick_96 : decode cX1_passTick 96 = .ok (.iadd, 1) := by decide +kernel
theorem dX1_passTick_97 : decode cX1_passTick 97 = .ok (.iastore, 1) := by decide +kernel
theorem dX1_passTick_98 : decode cX1_passTick 98 = .ok (.iinc 1 1, 3) := by decide +kernel
theorem dX1_passTick_101 : decode cX1_passTick 101 = .ok (.goto (-38), 3) := by decide +kernel
theorem dX1_passTick_104 : decode cX1_passTick 104 = .ok (.return_, 1) := by decide +kernel
set_option maxRecDepth 20000 in
theorem ggX1_goOn_X1_countOutside : GoodIn wsX1_goOn wsX1_countOutside := goodIn_r _ [10, 11, 12, 13, 14, 15, 16, 17, 18, 19, 20, 21, 22, 23, 24, 25, 26, 27, 28, 29, 30, 31, 32, 33, 34, 35, 36] rfl rfl
set_option maxRecDepth 20000 in
theorem gX1_goOn_X1_countOutside : GoodIn wsX1_goOn (wsV RX1 170 RX1 yX1_countOutside wsX1_countOutside) := goodIn_app (goodIn_of _ (by decide +kernel)) ggX1_goOn_X1_countOutside
theorem dX1_goOn_0 : decode cX1_goOn 0 = .ok (.aload_n 0, 1) := by decide +kernel
theorem dX1_goOn_1 : decode cX1_goOn 1 = .ok (.getfield 28, 3) := by decide +kernel
theorem dX1_goOn_4 : decode cX1_goOn 4 = .ok (.iload_n 1, 1) := by decide +kernel
theorem dX1_goOn_5 : decode cX1_goOn 5 = .ok (.dup2, 1) := by decide +kernel
theorem dX1_goOn_6 : decode cX1_goOn 6 = .ok (.iaload, 1) := by decide +kernel
theorem dX1_goOn_7 : decode cX1_goOn 7 = .ok (.aload_n 0, 1) := by decide +kernel
theorem dX1_goOn_8 : decode cX1_goOn 8 = .ok (.getfield 31, 3) := by decide +kernel
theorem dX1_goOn_11 : decode cX1_goOn 11 = .ok (.iload_n 1, 1) := by decide +kernel
theorem dX1_goOn_12 : decode cX1_goOn 12 = .ok (.baload, 1) := by decide +kernel
theorem dX1_goOn_13 : decode cX1_goOn 13 = .ok (.ifCond .eq 7, 3) := by decide +kernel
theorem dX1_goOn_16 : decode cX1_goOn 16 = .ok (.iconst 1, 1) := by decide +kernel
theorem dX1_goOn_17 : decode cX1_goOn 17 = .ok (.goto 4, 3) := by decide +kernel
theorem dX1_goOn_20 : decode cX1_goOn 20 = .ok (.iconst (-1), 1) := by decide +kernel
theorem dX1_goOn_21 : decode cX1_goOn 21 = .ok (.iadd, 1) := by decide +kernel
theorem dX1_goOn_22 : decode cX1_goOn 22 = .ok (.iastore, 1) := by decide +kernel
theorem dX1_goOn_23 : decode cX1_goOn 23 = .ok (.aload_n 0, 1) := by decide +kernel
theorem dX1_goOn_24 : decode cX1_goOn 24 = .ok (.getfield 28, 3) := by decide +kernel
theorem dX1_goOn_27 : decode cX1_goOn 27 = .ok (.iload_n 1, 1) := by decide +kernel
theorem dX1_goOn_28 : decode cX1_goOn 28 = .ok (.iaload, 1) := by decide +kernel
theorem dX1_goOn_29 : decode cX1_goOn 29 = .ok (.iconst 3, 1) := by decide +kernel
theorem dX1_goOn_30 : decode cX1_goOn 30 = .ok (.if_icmp .le 29, 3) := by decide +kernel
theorem dX1_goOn_33 : decode cX1_goOn 33 = .ok (.aload_n 0, 1) := by decide +kernel
theorem dX1_goOn_34 : decode cX1_goOn 34 = .ok (.getfield 22, 3) := by decide +kernel
theorem dX1_goOn_37 : decode cX1_goOn 37 = .ok (.iload_n 1, 1) := by decide +kernel
theorem dX1_goOn_38 : decode cX1_goOn 38 = .ok (.iconst 2, 1) := by decide +kernel
theorem dX1_goOn_39 : decode cX1_goOn 39 = .ok (.iastore, 1) := by decide +kernel
theorem dX1_goOn_40 : decode cX1_goOn 40 = .ok (.aload_n 0, 1) := by decide +kernel
theorem dX1_goOn_41 : decode cX1_goOn 41 = .ok (.aload_n 0, 1) := by decide +kernel
theorem dX1_goOn_42 : decode cX1_goOn 42 = .ok (.getfield 18, 3) := by decide +kernel
theorem dX1_goOn_45 : decode cX1_goOn 45 = .ok (.iload_n 1, 1) := by decide +kernel
theorem dX1_goOn_46 : decode cX1_goOn 46 = .ok (.iaload, 1) := by decide +kernel
theorem dX1_goOn_47 : decode cX1_goOn 47 = .ok (.aload_n 0, 1) := by decide +kernel
theorem dX1_goOn_48 : decode cX1_goOn 48 = .ok (.getfield 45, 3) := by decide +kernel
theorem dX1_goOn_51 : decode cX1_goOn 51 = .ok (.iconst (-1), 1) := by decide +kernel
theorem dX1_goOn_52 : decode cX1_goOn 52 = .ok (.ixor, 1) := by decide +kernel
theorem dX1_goOn_53 : decode cX1_goOn 53 = .ok (.iand, 1) := by decide +kernel
theorem dX1_goOn_54 : decode cX1_goOn 54 = .ok (.invokevirtual 170, 3) := by decide +kernel
theorem dX1_goOn_57 : decode cX1_goOn 57 = .ok (.iconst 0, 1) := by decide +kernel
theorem dX1_goOn_58 : decode cX1_goOn 58 = .ok (.ireturn, 1) := by decide +kernel
theorem dX1_goOn_59 : decode cX1_goOn 59 = .ok (.aload_n 0, 1) := by decide +kernel
theorem dX1_goOn_60 : decode cX1_goOn 60 = .ok (.getfield 28, 3) := by decide +kernel
theorem dX1_goOn_63 : decode cX1_goOn 63 = .ok (.iload_n 1, 1) := by decide +kernel
theorem dX1_goOn_64 : decode cX1_goOn 64 = .ok (.iaload, 1) := by decide +kernel
theorem dX1_goOn_65 : decode cX1_goOn 65 = .ok (.bipush (-3), 2) := by decide +kernel
theorem dX1_goOn_67 : decode cX1_goOn 67 = .ok (.if_icmp .ge 17, 3) := by decide +kernel
theorem dX1_goOn_70 : decode cX1_goOn 70 = .ok (.aload_n 0, 1) := by decide +kernel
theorem dX1_goOn_71 : decode cX1_goOn 71 = .ok (.getfield 22, 3) := by decide +kernel
theorem dX1_goOn_74 : decode cX1_goOn 74 = .ok (.iload_n 1, 1) := by decide +kernel
theorem dX1_goOn_75 : decode cX1_goOn 75 = .ok (.iconst 0, 1) := by decide +kernel
theorem dX1_goOn_76 : decode cX1_goOn 76 = .ok (.iastore, 1) := by decide +kernel
theorem dX1_goOn_77 : decode cX1_goOn 77 = .ok (.aload_n 0, 1) := by decide +kernel
theorem dX1_goOn_78 : decode cX1_goOn 78 = .ok (.getfield 18, 3) := by decide +kernel
theorem dX1_goOn_81 : decode cX1_goOn 81 = .ok (.iload_n 1, 1) := by decide +kernel
theorem dX1_goOn_82 : decode cX1_goOn 82 = .ok (.iaload, 1) := by decide +kernel
theorem dX1_goOn_83 : decode cX1_goOn 83 = .ok (.ireturn, 1) := by decide +kernel
theorem dX1_goOn_84 : decode cX1_goOn 84 = .ok (.iconst 0, 1) := by decide +kernel
theorem dX1_goOn_85 : decode cX1_goOn 85 = .ok (.ireturn, 1) := by decide +kernel
set_option maxRecDepth 20000 in
theorem ggX1_countOutside_J6_bitCount_0f7a4 : GoodIn wsX1_countOutside wsJ6_bitCount_0f7a4 := goodIn_r _ [8, 9, 10, 11] rfl rfl
set_option maxRecDepth 20000 in
theorem gX1_countOutside_J6_bitCount_0f7a4 : GoodIn wsX1_countOutside (va_wsS RX1 94 yJ6_bitCount_0f7a4 wsJ6_bitCount_0f7a4) := goodIn_app (goodIn_of _ (by decide +kernel)) ggX1_countOutside_J6_bitCount_0f7a4
theorem dX1_countOutside_0 : decode cX1_countOutside 0 = .ok (.aload_n 0, 1) := by decide +kernel
theorem dX1_countOutside_1 : decode cX1_countOutside 1 = .ok (.dup, 1) := by decide +kernel
theorem dX1_countOutside_2 : decode cX1_countOutside 2 = .ok (.getfield 58, 3) := by decide +kernel
theorem dX1_countOutside_5 : decode cX1_countOutside 5 = .ok (.iload_n 1, 1) := by decide +kernel
theorem dX1_countOutside_6 : decode cX1_countOutside 6 = .ok (.aload_n 0, 1) := by decide +kernel
theorem dX1_countOutside_7 : decode cX1_countOutside 7 = .ok (.getfield 49, 3) := by decide +kernel
theorem dX1_countOutside_10 : decode cX1_countOutside 10 = .ok (.iand, 1) := by decide +kernel
theorem dX1_countOutside_11 : decode cX1_countOutside 11 = .ok (.invokestatic 94, 3) := by decide +kernel
theorem dX1_countOutside_14 : decode cX1_countOutside 14 = .ok (.iadd, 1) := by decide +kernel
theorem dX1_countOutside_15 : decode cX1_countOutside 15 = .ok (.putfield 58, 3) := by decide +kernel
theorem dX1_countOutside_18 : decode cX1_countOutside 18 = .ok (.aload_n 0, 1) := by decide +kernel
theorem dX1_countOutside_19 : decode cX1_countOutside 19 = .ok (.dup, 1) := by decide +kernel
theorem dX1_countOutside_20 : decode cX1_countOutside 20 = .ok (.getfield 61, 3) := by decide +kernel
theorem dX1_countOutside_23 : decode cX1_countOutside 23 = .ok (.iload_n 1, 1) := by decide +kernel
theorem dX1_countOutside_24 : decode cX1_countOutside 24 = .ok (.aload_n 0, 1) := by decide +kernel
theorem dX1_countOutside_25 : decode cX1_countOutside 25 = .ok (.getfield 49, 3) := by decide +kernel
theorem dX1_countOutside_28 : decode cX1_countOutside 28 = .ok (.iconst (-1), 1) := by decide +kernel
theorem dX1_countOutside_29 : decode cX1_countOutside 29 = .ok (.ixor, 1) := by decide +kernel
theorem dX1_countOutside_30 : decode cX1_countOutside 30 = .ok (.iand, 1) := by decide +kernel
theorem dX1_countOutside_31 : decode cX1_countOutside 31 = .ok (.invokestatic 94, 3) := by decide +kernel
theorem dX1_countOutside_34 : decode cX1_countOutside 34 = .ok (.iadd, 1) := by decide +kernel
theorem dX1_countOutside_35 : decode cX1_countOutside 35 = .ok (.putfield 61, 3) := by decide +kernel
theorem dX1_countOutside_38 : decode cX1_countOutside 38 = .ok (.aload_n 0, 1) := by decide +kernel
theorem dX1_countOutside_39 : decode cX1_countOutside 39 = .ok (.dup, 1) := by decide +kernel
theorem dX1_countOutside_40 : decode cX1_countOutside 40 = .ok (.getfield 64, 3) := by decide +kernel
theorem dX1_countOutside_43 : decode cX1_countOutside 43 = .ok (.iload_n 1, 1) := by decide +kernel
theorem dX1_countOutside_44 : decode cX1_countOutside 44 = .ok (.aload_n 0, 1) := by decide +kernel
theorem dX1_countOutside_45 : decode cX1_countOutside 45 = .ok (.getfield 49, 3) := by decide +kernel
theorem dX1_countOutside_48 : decode cX1_countOutside 48 = .ok (.iconst (-1), 1) := by decide +kernel
theorem dX1_countOutside_49 : decode cX1_countOutside 49 = .ok (.ixor, 1) := by decide +kernel
theorem dX1_countOutside_50 : decode cX1_countOutside 50 = .ok (.iand, 1) := by decide +kernel
theorem dX1_countOutside_51 : decode cX1_countOutside 51 = .ok (.ior, 1) := by decide +kernel
theorem dX1_countOutside_52 : decode cX1_countOutside 52 = .ok (.putfield 64, 3) := by decide +kernel
theorem dX1_countOutside_55 : decode cX1_countOutside 55 = .ok (.return_, 1) := by decide +kernel
set_option maxRecDepth 20000 in
theorem ggX1_forgetReading_X3_has : GoodIn wsX1_forgetReading wsX3_has := goodIn_r _ [6] rfl rfl
set_option maxRecDepth 20000 in
theorem gX1_forgetReading_X3_has_n75 : GoodIn wsX1_forgetReading (wsX3_has) := ggX1_forgetReading_X3_has
set_option maxRecDepth 20000 in
theorem ggX1_forgetReading_X0_forget : GoodIn wsX1_forgetReading wsX0_forget := goodIn_r _ [11, 12, 13, 4, 5, 6, 29, 30, 31, 32, 33, 34, 35, 36, 37] rfl rfl
set_option maxRecDepth 20000 in
theorem gX1_forgetReading_X0_forget : GoodIn wsX1_forgetReading (wsV RX1 173 RX0 yX0_forget wsX0_forget) := goodIn_app (goodIn_of _ (by decide +kernel)) ggX1_forgetReading_X0_forget
theorem dX1_forgetReading_0 : decode cX1_forgetReading 0 = .ok (.iload_n 1, 1) := by decide +kernel
theorem dX1_forgetReading_1 : decode cX1_forgetReading 1 = .ok (.ifCond .ne 4, 3) := by decide +kernel
theorem dX1_forgetReading_4 : decode cX1_forgetReading 4 = .ok (.return_, 1) := by decide +kernel
theorem dX1_forgetReading_5 : decode cX1_forgetReading 5 = .ok (.iconst 0, 1) := by decide +kernel
theorem dX1_forgetReading_6 : decode cX1_forgetReading 6 = .ok (.istore_n 2, 1) := by decide +kernel
theorem dX1_forgetReading_7 : decode cX1_forgetReading 7 = .ok (.iload_n 2, 1) := by decide +kernel
theorem dX1_forgetReading_8 : decode cX1_forgetReading 8 = .ok (.bipush 20, 2) := by decide +kernel
theorem dX1_forgetReading_10 : decode cX1_forgetReading 10 = .ok (.if_icmp .ge 24, 3) := by decide +kernel
theorem dX1_forgetReading_13 : decode cX1_forgetReading 13 = .ok (.iload_n 1, 1) := by decide +kernel
theorem dX1_forgetReading_14 : decode cX1_forgetReading 14 = .ok (.iload_n 2, 1) := by decide +kernel
theorem dX1_forgetReading_15 : decode cX1_forgetReading 15 = .ok (.invokestatic 75, 3) := by decide +kernel
theorem dX1_forgetReading_18 : decode cX1_forgetReading 18 = .ok (.ifCond .eq 10, 3) := by decide +kernel
theorem dX1_forgetReading_21 : decode cX1_forgetReading 21 = .ok (.aload_n 0, 1) := by decide +kernel
theorem dX1_forgetReading_22 : decode cX1_forgetReading 22 = .ok (.getfield 35, 3) := by decide +kernel
theorem dX1_forgetReading_25 : decode cX1_forgetReading 25 = .ok (.iload_n 2, 1) := by decide +kernel
theorem dX1_forgetReading_26 : decode cX1_forgetReading 26 = .ok (.iconst 0, 1) := by decide +kernel
theorem dX1_forgetReading_27 : decode cX1_forgetReading 27 = .ok (.iastore, 1) := by decide +kernel
theorem dX1_forgetReading_28 : decode cX1_forgetReading 28 = .ok (.iinc 2 1, 3) := by decide +kernel
theorem dX1_forgetReading_31 : decode cX1_forgetReading 31 = .ok (.goto (-24), 3) := by decide +kernel
theorem dX1_forgetReading_34 : decode cX1_forgetReading 34 = .ok (.aload_n 0, 1) := by decide +kernel
theorem dX1_forgetReading_35 : decode cX1_forgetReading 35 = .ok (.dup, 1) := by decide +kernel
theorem dX1_forgetReading_36 : decode cX1_forgetReading 36 = .ok (.getfield 49, 3) := by decide +kernel
theorem dX1_forgetReading_39 : decode cX1_forgetReading 39 = .ok (.iload_n 1, 1) := by decide +kernel
theorem dX1_forgetReading_40 : decode cX1_forgetReading 40 = .ok (.iconst (-1), 1) := by decide +kernel
theorem dX1_forgetReading_41 : decode cX1_forgetReading 41 = .ok (.ixor, 1) := by decide +kernel
theorem dX1_forgetReading_42 : decode cX1_forgetReading 42 = .ok (.iand, 1) := by decide +kernel
theorem dX1_forgetReading_43 : decode cX1_forgetReading 43 = .ok (.putfield 49, 3) := by decide +kernel
theorem dX1_forgetReading_46 : decode cX1_forgetReading 46 = .ok (.aload_n 0, 1) := by decide +kernel
theorem dX1_forgetReading_47 : decode cX1_forgetReading 47 = .ok (.getfield 12, 3) := by decide +kernel
theorem dX1_forgetReading_50 : decode cX1_forgetReading 50 = .ok (.iload_n 1, 1) := by decide +kernel
theorem dX1_forgetReading_51 : decode cX1_forgetReading 51 = .ok (.invokevirtual 173, 3) := by decide +kernel
theorem dX1_forgetReading_54 : decode cX1_forgetReading 54 = .ok (.return_, 1) := by decide +kernel
set_option maxRecDepth 20000 in
theorem ggX1_readBooks_X1_booksRead : GoodIn wsX1_readBooks wsX1_booksRead := goodIn_r _ [10, 11, 12, 13, 14, 15, 16, 9, 17, 18, 19, 20, 21, 22, 23, 5, 24, 25, 26, 27, 28, 29, 30, 31, 44, 45, 46, 47, 48, 49, 50, 51, 52, 53, 54, 55, 56, 57, 58, 59, 60, 61, 62, 63, 64, 65, 66, 67] rfl rfl
set_option maxRecDepth 20000 in
theorem gX1_readBooks_X1_booksRead : GoodIn wsX1_readBooks (wsV RX1 176 RX1 yX1_booksRead wsX1_booksRead) := goodIn_app (goodIn_of _ (by decide +kernel)) ggX1_readBooks_X1_booksRead
set_option maxRecDepth 20000 in
theorem ggX1_readBooks_X3_has : GoodIn wsX1_readBooks wsX3_has := goodIn_r _ [34] rfl rfl
set_option maxRecDepth 20000 in
theorem gX1_readBooks_X3_has_n75 : GoodIn wsX1_readBooks (wsX3_has) := ggX1_readBooks_X3_has
set_option maxRecDepth 20000 in
theorem ggX1_readBooks_X3_bit : GoodIn wsX1_readBooks wsX3_bit := goodIn_r _ [36] rfl rfl
set_option maxRecDepth 20000 in
theorem gX1_readBooks_X3_bit_n108 : GoodIn wsX1_readBooks (wsX3_bit) := ggX1_readBooks_X3_bit
set_option maxRecDepth 20000 in
theorem ggX1_readBooks_X0_putAtEnd : GoodIn wsX1_readBooks wsX0_putAtEnd := goodIn_r _ [41, 42, 43, 59, 60, 61, 62, 63, 64, 65, 66, 67] rfl rfl
set_option maxRecDepth 20000 in
theorem gX1_readBooks_X0_putAtEnd : GoodIn wsX1_readBooks (wsV RX1 180 RX0 yX0_putAtEnd wsX0_putAtEnd) := goodIn_app (goodIn_of _ (by decide +kernel)) ggX1_readBooks_X0_putAtEnd
theorem dX1_readBooks_0 : decode cX1_readBooks 0 = .ok (.aload_n 0, 1) := by decide +kernel
theorem dX1_readBooks_1 : decode cX1_readBooks 1 = .ok (.iload_n 1, 1) := by decide +kernel
theorem dX1_readBooks_2 : decode cX1_readBooks 2 = .ok (.iconst 1, 1) := by decide +kernel
theorem dX1_readBooks_3 : decode cX1_readBooks 3 = .ok (.invokevirtual 176, 3) := by decide +kernel
theorem dX1_readBooks_6 : decode cX1_readBooks 6 = .ok (.aload_n 0, 1) := by decide +kernel
theorem dX1_readBooks_7 : decode cX1_readBooks 7 = .ok (.getfield 45, 3) := by decide +kernel
theorem dX1_readBooks_10 : decode cX1_readBooks 10 = .ok (.iconst (-1), 1) := by decide +kernel
theorem dX1_readBooks_11 : decode cX1_readBooks 11 = .ok (.ixor, 1) := by decide +kernel
theorem dX1_readBooks_12 : decode cX1_readBooks 12 = .ok (.iand, 1) := by decide +kernel
theorem dX1_readBooks_13 : decode cX1_readBooks 13 = .ok (.aload_n 0, 1) := by decide +kernel
theorem dX1_readBooks_14 : decode cX1_readBooks 14 = .ok (.getfield 49, 3) := by decide +kernel
theorem dX1_readBooks_17 : decode cX1_readBooks 17 = .ok (.iconst (-1), 1) := by decide +kernel
theorem dX1_readBooks_18 : decode cX1_readBooks 18 = .ok (.ixor, 1) := by decide +kernel
theorem dX1_readBooks_19 : decode cX1_readBooks 19 = .ok (.iand, 1) := by decide +kernel
theorem dX1_readBooks_20 : decode cX1_readBooks 20 = .ok (.istore_n 2, 1) := by decide +kernel
theorem dX1_readBooks_21 : decode cX1_readBooks 21 = .ok (.iconst 0, 1) := by decide +kernel
theorem dX1_readBooks_22 : decode cX1_readBooks 22 = .ok (.istore_n 3, 1) := by decide +kernel
theorem dX1_readBooks_23 : decode cX1_readBooks 23 = .ok (.iload_n 3, 1) := by decide +kernel
theorem dX1_readBooks_24 : decode cX1_readBooks 24 = .ok (.bipush 20, 2) := by decide +kernel
theorem dX1_readBooks_26 : decode cX1_readBooks 26 = .ok (.if_icmp .ge 66, 3) := by decide +kernel
theorem dX1_readBooks_29 : decode cX1_readBooks 29 = .ok (.iload_n 2, 1) := by decide +kernel
theorem dX1_readBooks_30 : decode cX1_readBooks 30 = .ok (.ifCond .eq 62, 3) := by decide +kernel
theorem dX1_readBooks_33 : decode cX1_readBooks 33 = .ok (.iload_n 2, 1) := by decide +kernel
theorem dX1_readBooks_34 : decode cX1_readBooks 34 = .ok (.iload_n 3, 1) := by decide +kernel
theorem dX1_readBooks_35 : decode cX1_readBooks 35 = .ok (.invokestatic 75, 3) := by decide +kernel
theorem dX1_readBooks_38 : decode cX1_readBooks 38 = .ok (.ifCond .eq 48, 3) := by decide +kernel
theorem dX1_readBooks_41 : decode cX1_readBooks 41 = .ok (.aload_n 0, 1) := by decide +kernel
theorem dX1_readBooks_42 : decode cX1_readBooks 42 = .ok (.getfield 35, 3) := by decide +kernel
theorem dX1_readBooks_45 : decode cX1_readBooks 45 = .ok (.iload_n 3, 1) := by decide +kernel
theorem dX1_readBooks_46 : decode cX1_readBooks 46 = .ok (.dup2, 1) := by decide +kernel
theorem dX1_readBooks_47 : decode cX1_readBooks 47 = .ok (.iaload, 1) := by decide +kernel
theorem dX1_readBooks_48 : decode cX1_readBooks 48 = .ok (.iconst 1, 1) := by decide +kernel
theorem dX1_readBooks_49 : decode cX1_readBooks 49 = .ok (.iadd, 1) := by decide +kernel
theorem dX1_readBooks_50 : decode cX1_readBooks 50 = .ok (.iastore, 1) := by decide +kernel
theorem dX1_readBooks_51 : decode cX1_readBooks 51 = .ok (.aload_n 0, 1) := by decide +kernel
theorem dX1_readBooks_52 : decode cX1_readBooks 52 = .ok (.getfield 35, 3) := by decide +kernel
theorem dX1_readBooks_55 : decode cX1_readBooks 55 = .ok (.iload_n 3, 1) := by decide +kernel
theorem dX1_readBooks_56 : decode cX1_readBooks 56 = .ok (.iaload, 1) := by decide +kernel
theorem dX1_readBooks_57 : decode cX1_readBooks 57 = .ok (.aload_n 0, 1) := by decide +kernel
theorem dX1_readBooks_58 : decode cX1_readBooks 58 = .ok (.getfield 52, 3) := by decide +kernel
theorem dX1_readBooks_61 : decode cX1_readBooks 61 = .ok (.if_icmp .lt 25, 3) := by decide +kernel
theorem dX1_readBooks_64 : decode cX1_readBooks 64 = .ok (.aload_n 0, 1) := by decide +kernel
theorem dX1_readBooks_65 : decode cX1_readBooks 65 = .ok (.dup, 1) := by decide +kernel
theorem dX1_readBooks_66 : decode cX1_readBooks 66 = .ok (.getfield 49, 3) := by decide +kernel
theorem dX1_readBooks_69 : decode cX1_readBooks 69 = .ok (.iload_n 3, 1) := by decide +kernel
theorem dX1_readBooks_70 : decode cX1_readBooks 70 = .ok (.invokestatic 108, 3) := by decide +kernel
theorem dX1_readBooks_73 : decode cX1_readBooks 73 = .ok (.ior, 1) := by decide +kernel
theorem dX1_readBooks_74 : decode cX1_readBooks 74 = .ok (.putfield 49, 3) := by decide +kernel
theorem dX1_readBooks_77 : decode cX1_readBooks 77 = .ok (.aload_n 0, 1) := by decide +kernel
theorem dX1_readBooks_78 : decode cX1_readBooks 78 = .ok (.getfield 12, 3) := by decide +kernel
theorem dX1_readBooks_81 : decode cX1_readBooks 81 = .ok (.iload_n 1, 1) := by decide +kernel
theorem dX1_readBooks_82 : decode cX1_readBooks 82 = .ok (.iload_n 3, 1) := by decide +kernel
theorem dX1_readBooks_83 : decode cX1_readBooks 83 = .ok (.invokevirtual 180, 3) := by decide +kernel
theorem dX1_readBooks_86 : decode cX1_readBooks 86 = .ok (.iinc 3 1, 3) := by decide +kernel
theorem dX1_readBooks_89 : decode cX1_readBooks 89 = .ok (.goto (-66), 3) := by decide +kernel
theorem dX1_readBooks_92 : decode cX1_readBooks 92 = .ok (.return_, 1) := by decide +kernel
set_option maxRecDepth 20000 in
theorem ggX1_slipsOfCrossings_X1_passTicks : GoodIn wsX1_slipsOfCrossings wsX1_passTicks := goodIn_r _ [6, 7, 8, 9, 10, 11, 12, 13, 14, 15, 16, 5, 17, 18, 19, 20, 21, 22, 23, 24, 25, 26, 27, 28, 29, 30, 31, 32, 33, 34, 35, 1, 36, 37, 38, 39, 40, 41, 42, 43, 44, 45, 46, 47, 48, 49, 50, 51, 52, 53, 54, 55, 56, 57, 58, 59, 60, 61, 62, 63, 64, 65, 66, 67, 68, 69, 70, 71, 72, 73, 74, 75, 76, 77, 78, 79, 80, 81, 82, 83, 84, 85, 86, 87, 88, 89, 90, 91, 92, 93, 94, 95, 96, 97, 98, 99, 100, 101, 102, 103, 104, 105, 106, 107, 108, 109, 110, 111, 112, 113, 114, 115, 116, 117, 118, 119, 120, 121, 122, 123, 124, 125] rfl rfl
set_option maxRecDepth 20000 in
theorem gX1_slipsOfCrossings_X1_passTicks : GoodIn wsX1_slipsOfCrossings (wsV RX1 184 RX1 yX1_passTicks wsX1_passTicks) := goodIn_app (goodIn_of _ (by decide +kernel)) ggX1_slipsOfCrossings_X1_passTicks
theorem dX1_slipsOfCrossings_0 : decode cX1_slipsOfCrossings 0 = .ok (.aload_n 0, 1) := by decide +kernel
theorem dX1_slipsOfCrossings_1 : decode cX1_slipsOfCrossings 1 = .ok (.iconst 0, 1) := by decide +kernel
theorem dX1_slipsOfCrossings_2 : decode cX1_slipsOfCrossings 2 = .ok (.putfield 64, 3) := by decide +kernel
theorem dX1_slipsOfCrossings_5 : decode cX1_slipsOfCrossings 5 = .ok (.aload_n 0, 1) := by decide +kernel
theorem dX1_slipsOfCrossings_6 : decode cX1_slipsOfCrossings 6 = .ok (.bipush 7, 2) := by decide +kernel
theorem dX1_slipsOfCrossings_8 : decode cX1_slipsOfCrossings 8 = .ok (.invokevirtual 184, 3) := by decide +kernel
theorem dX1_slipsOfCrossings_11 : decode cX1_slipsOfCrossings 11 = .ok (.pop, 1) := by decide +kernel
theorem dX1_slipsOfCrossings_12 : decode cX1_slipsOfCrossings 12 = .ok (.aload_n 0, 1) := by decide +kernel
theorem dX1_slipsOfCrossings_13 : decode cX1_slipsOfCrossings 13 = .ok (.getfield 64, 3) := by decide +kernel
theorem dX1_slipsOfCrossings_16 : decode cX1_slipsOfCrossings 16 = .ok (.ireturn, 1) := by decide +kernel
theorem dX2_init_0 : decode cX2_init 0 = .ok (.aload_n 0, 1) := by decide +kernel
theorem dX2_init_1 : decode cX2_init 1 = .ok (.invokespecial 3, 3) := by decide +kernel
theorem dX2_init_4 : decode cX2_init 4 = .ok (.aload_n 0, 1) := by decide +kernel
theorem dX2_init_5 : decode cX2_init 5 = .ok (.bipush 120, 2) := by decide +kernel
theorem dX2_init_7 : decode cX2_init 7 = .ok (.newarray .char, 2) := by decide +kernel
theorem dX2_init_9 : decode cX2_init 9 = .ok (.putfield 9, 3) := by decide +kernel
theorem dX2_init_12 : decode cX2_init 12 = .ok (.aload_n 0, 1) := by decide +kernel
theorem dX2_init_13 : decode cX2_init 13 = .ok (.iconst 0, 1) := by decide +kernel
theorem dX2_init_14 : decode cX2_init 14 = .ok (.putfield 15, 3) := by decide +kernel
theorem dX2_init_17 : decode cX2_init 17 = .ok (.aload_n 0, 1) := by decide +kernel
theorem dX2_init_18 : decode cX2_init 18 = .ok (.iconst 0, 1) := by decide +kernel
theorem dX2_init_19 : decode cX2_init 19 = .ok (.putfield 19, 3) := by decide +kernel
theorem dX2_init_22 : decode cX2_init 22 = .ok (.aload_n 0, 1) := by decide +kernel
theorem dX2_init_23 : decode cX2_init 23 = .ok (.iconst 0, 1) := by decide +kernel
theorem dX2_init_24 : decode cX2_init 24 = .ok (.putfield 22, 3) := by decide +kernel
theorem dX2_init_27 : decode cX2_init 27 = .ok (.aload_n 0, 1) := by decide +kernel
theorem dX2_init_28 : decode cX2_init 28 = .ok (.iconst 3, 1) := by decide +kernel
theorem dX2_init_29 : decode cX2_init 29 = .ok (.newarray .int, 2) := by decide +kernel
theorem dX2_init_31 : decode cX2_init 31 = .ok (.putfield 25, 3) := by decide +kernel
theorem dX2_init_34 : decode cX2_init 34 = .ok (.aload_n 0, 1) := by decide +kernel
theorem dX2_init_35 : decode cX2_init 35 = .ok (.iconst 0, 1) := by decide +kernel
theorem dX2_init_36 : decode cX2_init 36 = .ok (.putfield 29, 3) := by decide +kernel
theorem dX2_init_39 : decode cX2_init 39 = .ok (.aload_n 0, 1) := by decide +kernel
theorem dX2_init_40 : decode cX2_init 40 = .ok (.iconst 0, 1) := by decide +kernel
theorem dX2_init_41 : decode cX2_init 41 = .ok (.putfield 32, 3) := by decide +kernel
theorem dX2_init_44 : decode cX2_init 44 = .ok (.aload_n 0, 1) := by decide +kernel
theorem dX2_init_45 : decode cX2_init 45 = .ok (.iconst 0, 1) := by decide +kernel
theorem dX2_init_46 : decode cX2_init 46 = .ok (.putfield 35, 3) := by decide +kernel
theorem dX2_init_49 : decode cX2_init 49 = .ok (.aload_n 0, 1) := by decide +kernel
theorem dX2_init_50 : decode cX2_init 50 = .ok (.iconst 0, 1) := by decide +kernel
theorem dX2_init_51 : decode cX2_init 51 = .ok (.putfield 38, 3) := by decide +kernel
theorem dX2_init_54 : decode cX2_init 54 = .ok (.aload_n 0, 1) := by decide +kernel
theorem dX2_init_55 : decode cX2_init 55 = .ok (.iconst 0, 1) := by decide +kernel
theorem dX2_init_56 : decode cX2_init 56 = .ok (.putfield 41, 3) := by decide +kernel
theorem dX2_init_59 : decode cX2_init 59 = .ok (.aload_n 0, 1) := by decide +kernel
theorem dX2_init_60 : decode cX2_init 60 = .ok (.iconst 0, 1) := by decide +kernel
theorem dX2_init_61 : decode cX2_init 61 = .ok (.putfield 44, 3) := by decide +kernel
theorem dX2_init_64 : decode cX2_init 64 = .ok (.aload_n 0, 1) := by decide +kernel
theorem dX2_init_65 : decode cX2_init 65 = .ok (.iconst 0, 1) := by decide +kernel
theorem dX2_init_66 : decode cX2_init 66 = .ok (.putfield 47, 3) := by decide +kernel
theorem dX2_init_69 : decode cX2_init 69 = .ok (.return_, 1) := by decide +kernel
theorem dX2_isFull_0 : decode cX2_isFull 0 = .ok (.aload_n 0, 1) := by decide +kernel
theorem dX2_isFull_1 : decode cX2_isFull 1 = .ok (.getfield 15, 3) := by decide +kernel
theorem dX2_isFull_4 : decode cX2_isFull 4 = .ok (.bipush 120, 2) := by decide +kernel
theorem dX2_isFull_6 : decode cX2_isFull 6 = .ok (.if_icmp .lt 7, 3) := by decide +kernel
theorem dX2_isFull_9 : decode cX2_isFull 9 = .ok (.iconst 1, 1) := by decide +kernel
theorem dX2_isFull_10 : decode cX2_isFull 10 = .ok (.goto 4, 3) := by decide +kernel
theorem dX2_isFull_13 : decode cX2_isFull 13 = .ok (.iconst 0, 1) := by decide +kernel
theorem dX2_isFull_14 : decode cX2_isFull 14 = .ok (.ireturn, 1) := by decide +kernel
theorem dX2_add_0 : decode cX2_add 0 = .ok (.aload_n 0, 1) := by decide +kernel
theorem dX2_add_1 : decode cX2_add 1 = .ok (.getfield 15, 3) := by decide +kernel
theorem dX2_add_4 : decode cX2_add 4 = .ok (.ifCond .lt 32, 3) := by decide +kernel
theorem dX2_add_7 : decode cX2_add 7 = .ok (.aload_n 0, 1) := by decide +kernel
theorem dX2_add_8 : decode cX2_add 8 = .ok (.getfield 15, 3) := by decide +kernel
theorem dX2_add_11 : decode cX2_add 11 = .ok (.bipush 120, 2) := by decide +kernel
theorem dX2_add_13 : decode cX2_add 13 = .ok (.if_icmp .ge 23, 3) := by decide +kernel
theorem dX2_add_16 : decode cX2_add 16 = .ok (.aload_n 0, 1) := by decide +kernel
theorem dX2_add_17 : decode cX2_add 17 = .ok (.getfield 9, 3) := by decide +kernel
theorem dX2_add_20 : decode cX2_add 20 = .ok (.aload_n 0, 1) := by decide +kernel
theorem dX2_add_21 : decode cX2_add 21 = .ok (.getfield 15, 3) := by decide +kernel
theorem dX2_add_24 : decode cX2_add 24 = .ok (.iload_n 1, 1) := by decide +kernel
theorem dX2_add_25 : decode cX2_add 25 = .ok (.castore, 1) := by decide +kernel
theorem dX2_add_26 : decode cX2_add 26 = .ok (.aload_n 0, 1) := by decide +kernel
theorem dX2_add_27 : decode cX2_add 27 = .ok (.dup, 1) := by decide +kernel
theorem dX2_add_28 : decode cX2_add 28 = .ok (.getfield 15, 3) := by decide +kernel
theorem dX2_add_31 : decode cX2_add 31 = .ok (.iconst 1, 1) := by decide +kernel
theorem dX2_add_32 : decode cX2_add 32 = .ok (.iadd, 1) := by decide +kernel
theorem dX2_add_33 : decode cX2_add 33 = .ok (.putfield 15, 3) := by decide +kernel
theorem dX2_add_36 : decode cX2_add 36 = .ok (.aload_n 0, 1) := by decide +kernel
theorem dX2_add_37 : decode cX2_add 37 = .ok (.getfield 15, 3) := by decide +kernel
theorem dX2_add_40 : decode cX2_add 40 = .ok (.ireturn, 1) := by decide +kernel
theorem dX2_empty_0 : decode cX2_empty 0 = .ok (.aload_n 0, 1) := by decide +kernel
theorem dX2_empty_1 : decode cX2_empty 1 = .ok (.getfield 15, 3) := by decide +kernel
theorem dX2_empty_4 : decode cX2_empty 4 = .ok (.istore_n 1, 1) := by decide +kernel
theorem dX2_empty_5 : decode cX2_empty 5 = .ok (.aload_n 0, 1) := by decide +kernel
theorem dX2_empty_6 : decode cX2_empty 6 = .ok (.iconst 0, 1) := by decide +kernel
theorem dX2_empty_7 : decode cX2_empty 7 = .ok (.putfield 15, 3) := by decide +kernel
theorem dX2_empty_10 : decode cX2_empty 10 = .ok (.iload_n 1, 1) := by decide +kernel
theorem dX2_empty_11 : decode cX2_empty 11 = .ok (.ireturn, 1) := by decide +kernel
set_option maxRecDepth 20000 in
theorem ggX2_firstError_X2_startReading : GoodIn wsX2_firstError wsX2_startReading := goodIn_r _ [7, 1, 54, 55, 56, 57, 58, 59, 60, 61, 62, 63, 64, 65] rfl rfl
set_option maxRecDepth 20000 in
theorem gX2_firstError_X2_startReading : GoodIn wsX2_firstError (wsV RX2 50 RX2 yX2_startReading wsX2_startReading) := goodIn_app (goodIn_of _ (by decide +kernel)) ggX2_firstError_X2_startReading
set_option maxRecDepth 20000 in
theorem ggX2_firstError_X2_readHeader : GoodIn wsX2_firstError wsX2_readHeader := goodIn_r _ [11, 12, 13, 14, 15, 16, 17, 18, 6, 19, 1, 2, 20, 21, 22, 23, 24, 25, 26, 27, 28, 29, 54, 55, 56, 57, 58, 59, 60, 61, 62, 63, 64, 65] rfl rfl
set_option maxRecDepth 20000 in
theorem gX2_firstError_X2_readHeader : GoodIn wsX2_firstError (wsV RX2 53 RX2 yX2_readHeader wsX2_readHeader) := goodIn_app (goodIn_of _ (by decide +kernel)) ggX2_firstError_X2_readHeader
set_option maxRecDepth 20000 in
theorem ggX2_firstError_X2_readCommand : GoodIn wsX2_firstError wsX2_readCommand := goodIn_r _ [33, 21, 1, 16, 17, 18, 6, 19, 2, 20, 34, 35, 36, 37, 13, 38, 26, 27, 28, 29, 39, 40, 41, 42, 43, 22, 23, 24, 25, 44, 45, 46, 47, 48, 49, 50, 51, 52, 53, 54, 55, 56, 57, 58, 59, 60, 61, 62, 63, 64, 65] rfl rfl
set_option maxRecDepth 20000 in
theorem gX2_firstError_X2_readCommand : GoodIn wsX2_firstError (wsV RX2 57 RX2 yX2_readCommand wsX2_readCommand) := goodIn_app (goodIn_of _ (by decide +kernel)) ggX2_firstError_X2_readCommand
theorem dX2_firstError_0 : decode cX2_firstError 0 = .ok (.aload_n 0, 1) := by decide +kernel
theorem dX2_firstError_1 : decode cX2_firstError 1 = .ok (.invokevirtual 50, 3) := by decide +kernel
theorem dX2_firstError_4 : decode cX2_firstError 4 = .ok (.aload_n 0, 1) := by decide +kernel
theorem dX2_firstError_5 : decode cX2_firstError 5 = .ok (.invokevirtual 53, 3) := by decide +kernel
theorem dX2_firstError_8 : decode cX2_firstError 8 = .ok (.ifCond .ne 8, 3) := by decide +kernel
theorem dX2_firstError_11 : decode cX2_firstError 11 = .ok (.aload_n 0, 1) := by decide +kernel
theorem dX2_firstError_12 : decode cX2_firstError 12 = .ok (.getfield 19, 3) := by decide +kernel
theorem dX2_firstError_15 : decode cX2_firstError 15 = .ok (.ireturn, 1) := by decide +kernel
theorem dX2_firstError_16 : decode cX2_firstError 16 = .ok (.iconst 0, 1) := by decide +kernel
theorem dX2_firstError_17 : decode cX2_firstError 17 = .ok (.istore_n 1, 1) := by decide +kernel
theorem dX2_firstError_18 : decode cX2_firstError 18 = .ok (.iload_n 1, 1) := by decide +kernel
theorem dX2_firstError_19 : decode cX2_firstError 19 = .ok (.bipush 120, 2) := by decide +kernel
theorem dX2_firstError_21 : decode cX2_firstError 21 = .ok (.if_icmp .ge 32, 3) := by decide +kernel
theorem dX2_firstError_24 : decode cX2_firstError 24 = .ok (.aload_n 0, 1) := by decide +kernel
theorem dX2_firstError_25 : decode cX2_firstError 25 = .ok (.getfield 19, 3) := by decide +kernel
theorem dX2_firstError_28 : decode cX2_firstError 28 = .ok (.aload_n 0, 1) := by decide +kernel
theorem dX2_firstError_29 : decode cX2_firstError 29 = .ok (.getfield 15, 3) := by decide +kernel
theorem dX2_firstError_32 : decode cX2_firstError 32 = .ok (.if_icmp .ge 21, 3) := by decide +kernel
theorem dX2_firstError_35 : decode cX2_firstError 35 = .ok (.aload_n 0, 1) := by decide +kernel
theorem dX2_firstError_36 : decode cX2_firstError 36 = .ok (.invokevirtual 57, 3) := by decide +kernel
theorem dX2_firstError_39 : decode cX2_firstError 39 = .ok (.ifCond .ne 8, 3) := by decide +kernel
theorem dX2_firstError_42 : decode cX2_firstError 42 = .ok (.aload_n 0, 1) := by decide +kernel
theorem dX2_firstError_43 : decode cX2_firstError 43 = .ok (.getfield 19, 3) := by decide +kernel
theorem dX2_firstError_46 : decode cX2_firstError 46 = .ok (.ireturn, 1) := by decide +kernel
theorem dX2_firstError_47 : decode cX2_firstError 47 = .ok (.iinc 1 1, 3) := by decide +kernel
theorem dX2_firstError_50 : decode cX2_firstError 50 = .ok (.goto (-32), 3) := by decide +kernel
theorem dX2_firstError_53 : decode cX2_firstError 53 = .ok (.bipush (-9), 2) := by decide +kernel
theorem dX2_firstError_55 : decode cX2_firstError 55 = .ok (.ireturn, 1) := by decide +kernel
theorem dX2_startReading_0 : decode cX2_startReading 0 = .ok (.aload_n 0, 1) := by decide +kernel
theorem dX2_startReading_1 : decode cX2_startReading 1 = .ok (.iconst 0, 1) := by decide +kernel
theorem dX2_startReading_2 : decode cX2_startReading 2 = .ok (.putfield 19, 3) := by decide +kernel
theorem dX2_startReading_5 : decode cX2_startReading 5 = .ok (.return_, 1) := by decide +kernel
set_option maxRecDepth 20000 in
theorem ggX2_readHeader_X2_readSign : GoodIn wsX2_readHeader wsX2_readSign := goodIn_r _ [9, 10, 11, 12, 13, 22, 23, 24, 25, 26, 27, 28, 29, 30, 31, 32, 33] rfl rfl
set_option maxRecDepth 20000 in
theorem gX2_readHeader_X2_readSign : GoodIn wsX2_readHeader (wsV RX2 60 RX2 yX2_readSign wsX2_readSign) := goodIn_app (goodIn_of _ (by decide +kernel)) ggX2_readHeader_X2_readSign
set_option maxRecDepth 20000 in
theorem ggX2_readHeader_X2_readTwoDigits : GoodIn wsX2_readHeader wsX2_readTwoDigits := goodIn_r _ [17, 2, 18, 19, 20, 8, 21, 10, 11, 12, 22, 23, 24, 25, 26, 27, 28, 29, 30, 31, 32, 33] rfl rfl
set_option maxRecDepth 20000 in
theorem gX2_readHeader_X2_readTwoDigits : GoodIn wsX2_readHeader (wsV RX2 64 RX2 yX2_readTwoDigits wsX2_readTwoDigits) := goodIn_app (goodIn_of _ (by decide +kernel)) ggX2_readHeader_X2_readTwoDigits
set_option maxRecDepth 20000 in
theorem ggX2_readHeader_X2_readDigit : GoodIn wsX2_readHeader wsX2_readDigit := goodIn_r _ [21, 10, 11, 12, 2, 22, 23, 24, 25, 26, 27, 28, 29, 30, 31, 32, 33] rfl rfl
set_option maxRecDepth 20000 in
theorem gX2_readHeader_X2_readDigit : GoodIn wsX2_readHeader (wsV RX2 68 RX2 yX2_readDigit wsX2_readDigit) := goodIn_app (goodIn_of _ (by decide +kernel)) ggX2_readHeader_X2_readDigit
theorem dX2_readHeader_0 : decode cX2_readHeader 0 = .ok (.aload_n 0, 1) := by decide +kernel
theorem dX2_readHeader_1 : decode cX2_readHeader 1 = .ok (.bipush 76, 2) := by decide +kernel
theorem dX2_readHeader_3 : decode cX2_readHeader 3 = .ok (.bipush 76, 2) := by decide +kernel
theorem dX2_readHeader_5 : decode cX2_readHeader 5 = .ok (.invokevirtual 60, 3) := by decide +kernel
theorem dX2_readHeader_8 : decode cX2_readHeader 8 = .ok (.ifCond .ne 5, 3) := by decide +kernel
theorem dX2_readHeader_11 : decode cX2_readHeader 11 = .ok (.iconst 0, 1) := by decide +kernel
theorem dX2_readHeader_12 : decode cX2_readHeader 12 = .ok (.ireturn, 1) := by decide +kernel
theorem dX2_readHeader_13 : decode cX2_readHeader 13 = .ok (.iconst 0, 1) := by decide +kernel
theorem dX2_readHeader_14 : decode cX2_readHeader 14 = .ok (.istore_n 1, 1) := by decide +kernel
theorem dX2_readHeader_15 : decode cX2_readHeader 15 = .ok (.iload_n 1, 1) := by decide +kernel
theorem dX2_readHeader_16 : decode cX2_readHeader 16 = .ok (.iconst 3, 1) := by decide +kernel
theorem dX2_readHeader_17 : decode cX2_readHeader 17 = .ok (.if_icmp .ge 30, 3) := by decide +kernel
theorem dX2_readHeader_20 : decode cX2_readHeader 20 = .ok (.aload_n 0, 1) := by decide +kernel
theorem dX2_readHeader_21 : decode cX2_readHeader 21 = .ok (.bipush 15, 2) := by decide +kernel
theorem dX2_readHeader_23 : decode cX2_readHeader 23 = .ok (.invokevirtual 64, 3) := by decide +kernel
theorem dX2_readHeader_26 : decode cX2_readHeader 26 = .ok (.ifCond .ne 5, 3) := by decide +kernel
theorem dX2_readHeader_29 : decode cX2_readHeader 29 = .ok (.iconst 0, 1) := by decide +kernel
theorem dX2_readHeader_30 : decode cX2_readHeader 30 = .ok (.ireturn, 1) := by decide +kernel
theorem dX2_readHeader_31 : decode cX2_readHeader 31 = .ok (.aload_n 0, 1) := by decide +kernel
theorem dX2_readHeader_32 : decode cX2_readHeader 32 = .ok (.getfield 25, 3) := by decide +kernel
theorem dX2_readHeader_35 : decode cX2_readHeader 35 = .ok (.iload_n 1, 1) := by decide +kernel
theorem dX2_readHeader_36 : decode cX2_readHeader 36 = .ok (.aload_n 0, 1) := by decide +kernel
theorem dX2_readHeader_37 : decode cX2_readHeader 37 = .ok (.getfield 22, 3) := by decide +kernel
theorem dX2_readHeader_40 : decode cX2_readHeader 40 = .ok (.iastore, 1) := by decide +kernel
theorem dX2_readHeader_41 : decode cX2_readHeader 41 = .ok (.iinc 1 1, 3) := by decide +kernel
theorem dX2_readHeader_44 : decode cX2_readHeader 44 = .ok (.goto (-29), 3) := by decide +kernel
theorem dX2_readHeader_47 : decode cX2_readHeader 47 = .ok (.aload_n 0, 1) := by decide +kernel
theorem dX2_readHeader_48 : decode cX2_readHeader 48 = .ok (.iconst 1, 1) := by decide +kernel
theorem dX2_readHeader_49 : decode cX2_readHeader 49 = .ok (.iconst 3, 1) := by decide +kernel
theorem dX2_readHeader_50 : decode cX2_readHeader 50 = .ok (.invokevirtual 68, 3) := by decide +kernel
theorem dX2_readHeader_53 : decode cX2_readHeader 53 = .ok (.ifCond .ne 5, 3) := by decide +kernel
theorem dX2_readHeader_56 : decode cX2_readHeader 56 = .ok (.iconst 0, 1) := by decide +kernel
theorem dX2_readHeader_57 : decode cX2_readHeader 57 = .ok (.ireturn, 1) := by decide +kernel
theorem dX2_readHeader_58 : decode cX2_readHeader 58 = .ok (.aload_n 0, 1) := by decide +kernel
theorem dX2_readHeader_59 : decode cX2_readHeader 59 = .ok (.aload_n 0, 1) := by decide +kernel
theorem dX2_readHeader_60 : decode cX2_readHeader 60 = .ok (.getfield 22, 3) := by decide +kernel
theorem dX2_readHeader_63 : decode cX2_readHeader 63 = .ok (.putfield 29, 3) := by decide +kernel
theorem dX2_readHeader_66 : decode cX2_readHeader 66 = .ok (.aload_n 0, 1) := by decide +kernel
theorem dX2_readHeader_67 : decode cX2_readHeader 67 = .ok (.iconst 0, 1) := by decide +kernel
theorem dX2_readHeader_68 : decode cX2_readHeader 68 = .ok (.bipush 9, 2) := by decide +kernel
theorem dX2_readHeader_70 : decode cX2_readHeader 70 = .ok (.invokevirtual 68, 3) := by decide +kernel
theorem dX2_readHeader_73 : decode cX2_readHeader 73 = .ok (.ifCond .ne 5, 3) := by decide +kernel
theorem dX2_readHeader_76 : decode cX2_readHeader 76 = .ok (.iconst 0, 1) := by decide +kernel
theorem dX2_readHeader_77 : decode cX2_readHeader 77 = .ok (.ireturn, 1) := by decide +kernel
theorem dX2_readHeader_78 : decode cX2_readHeader 78 = .ok (.aload_n 0, 1) := by decide +kernel
theorem dX2_readHeader_79 : decode cX2_readHeader 79 = .ok (.aload_n 0, 1) := by decide +kernel
theorem dX2_readHeader_80 : decode cX2_readHeader 80 = .ok (.getfield 22, 3) := by decide +kernel
theorem dX2_readHeader_83 : decode cX2_readHeader 83 = .ok (.putfield 32, 3) := by decide +kernel
theorem dX2_readHeader_86 : decode cX2_readHeader 86 = .ok (.iconst 1, 1) := by decide +kernel
theorem dX2_readHeader_87 : decode cX2_readHeader 87 = .ok (.ireturn, 1) := by decide +kernel
set_option maxRecDepth 20000 in
theorem ggX2_readCommand_X2_readSign : GoodIn wsX2_readCommand wsX2_readSign := goodIn_r _ [7, 2, 8, 9, 1, 39, 40, 41, 42, 43, 44, 45, 46, 47, 48, 49, 50] rfl rfl
set_option maxRecDepth 20000 in
theorem gX2_readCommand_X2_readSign : GoodIn wsX2_readCommand (wsV RX2 60 RX2 yX2_readSign wsX2_readSign) := goodIn_app (goodIn_of _ (by decide +kernel)) ggX2_readCommand_X2_readSign
set_option maxRecDepth 20000 in
theorem ggX2_readCommand_X2_readVisitor : GoodIn wsX2_readCommand wsX2_readVisitor := goodIn_r _ [13, 14, 15, 16, 17, 18, 6, 19, 2, 8, 9, 39, 40, 41, 42, 43, 44, 45, 46, 47, 48, 49, 50] rfl rfl
set_option maxRecDepth 20000 in
theorem gX2_readCommand_X2_readVisitor : GoodIn wsX2_readCommand (wsV RX2 72 RX2 yX2_readVisitor wsX2_readVisitor) := goodIn_app (goodIn_of _ (by decide +kernel)) ggX2_readCommand_X2_readVisitor
set_option maxRecDepth 20000 in
theorem ggX2_readCommand_X2_readBook : GoodIn wsX2_readCommand wsX2_readBook := goodIn_r _ [23, 14, 24, 25, 26, 27, 6, 28, 16, 17, 18, 19, 2, 8, 9, 39, 40, 41, 42, 43, 44, 45, 46, 47, 48, 49, 50] rfl rfl
set_option maxRecDepth 20000 in
theorem gX2_readCommand_X2_readBook : GoodIn wsX2_readCommand (wsV RX2 75 RX2 yX2_readBook wsX2_readBook) := goodIn_app (goodIn_of _ (by decide +kernel)) ggX2_readCommand_X2_readBook
set_option maxRecDepth 20000 in
theorem ggX2_readCommand_X2_readGate : GoodIn wsX2_readCommand wsX2_readGate := goodIn_r _ [32, 14, 33, 16, 17, 18, 6, 19, 2, 8, 9, 39, 40, 41, 42, 43, 44, 45, 46, 47, 48, 49, 50] rfl rfl
set_option maxRecDepth 20000 in
theorem gX2_readCommand_X2_readGate : GoodIn wsX2_readCommand (wsV RX2 78 RX2 yX2_readGate wsX2_readGate) := goodIn_app (goodIn_of _ (by decide +kernel)) ggX2_readCommand_X2_readGate
set_option maxRecDepth 20000 in
theorem ggX2_readCommand_X2_readTickCount : GoodIn wsX2_readCommand wsX2_readTickCount := goodIn_r _ [37, 14, 38, 16, 17, 18, 6, 19, 2, 8, 9, 39, 40, 41, 42, 43, 44, 45, 46, 47, 48, 49, 50] rfl rfl
set_option maxRecDepth 20000 in
theorem gX2_readCommand_X2_readTickCount : GoodIn wsX2_readCommand (wsV RX2 81 RX2 yX2_readTickCount wsX2_readTickCount) := goodIn_app (goodIn_of _ (by decide +kernel)) ggX2_readCommand_X2_readTickCount
theorem dX2_readCommand_0 : decode cX2_readCommand 0 = .ok (.aload_n 0, 1) := by decide +kernel
theorem dX2_readCommand_1 : decode cX2_readCommand 1 = .ok (.bipush 97, 2) := by decide +kernel
theorem dX2_readCommand_3 : decode cX2_readCommand 3 = .ok (.bipush 122, 2) := by decide +kernel
theorem dX2_readCommand_5 : decode cX2_readCommand 5 = .ok (.invokevirtual 60, 3) := by decide +kernel
theorem dX2_readCommand_8 : decode cX2_readCommand 8 = .ok (.ifCond .ne 5, 3) := by decide +kernel
theorem dX2_readCommand_11 : decode cX2_readCommand 11 = .ok (.iconst 0, 1) := by decide +kernel
theorem dX2_readCommand_12 : decode cX2_readCommand 12 = .ok (.ireturn, 1) := by decide +kernel
theorem dX2_readCommand_13 : decode cX2_readCommand 13 = .ok (.aload_n 0, 1) := by decide +kernel
theorem dX2_readCommand_14 : decode cX2_readCommand 14 = .ok (.getfield 35, 3) := by decide +kernel
theorem dX2_readCommand_17 : decode cX2_readCommand 17 = .ok (.tableswitch 146 98 116 #[111, 146, 146, 146, 146, 146, 146, 116, 146, 146, 146, 146, 141, 116, 111, 146, 136, 146, 91], 91) := by decide +kernel
theorem dX2_readCommand_108 : decode cX2_readCommand 108 = .ok (.aload_n 0, 1) := by decide +kernel
theorem dX2_readCommand_109 : decode cX2_readCommand 109 = .ok (.invokevirtual 72, 3) := by decide +kernel
theorem dX2_readCommand_112 : decode cX2_readCommand 112 = .ok (.ifCond .eq 14, 3) := by decide +kernel
theorem dX2_readCommand_115 : decode cX2_readCommand 115 = .ok (.aload_n 0, 1) := by decide +kernel
theorem dX2_readCommand_116 : decode cX2_readCommand 116 = .ok (.invokevirtual 75, 3) := by decide +kernel
theorem dX2_readCommand_119 : decode cX2_readCommand 119 = .ok (.ifCond .eq 7, 3) := by decide +kernel
theorem dX2_readCommand_122 : decode cX2_readCommand 122 = .ok (.iconst 1, 1) := by decide +kernel
theorem dX2_readCommand_123 : decode cX2_readCommand 123 = .ok (.goto 4, 3) := by decide +kernel
theorem dX2_readCommand_126 : decode cX2_readCommand 126 = .ok (.iconst 0, 1) := by decide +kernel
theorem dX2_readCommand_127 : decode cX2_readCommand 127 = .ok (.ireturn, 1) := by decide +kernel
theorem dX2_readCommand_128 : decode cX2_readCommand 128 = .ok (.aload_n 0, 1) := by decide +kernel
theorem dX2_readCommand_129 : decode cX2_readCommand 129 = .ok (.invokevirtual 75, 3) := by decide +kernel
theorem dX2_readCommand_132 : decode cX2_readCommand 132 = .ok (.ireturn, 1) := by decide +kernel
theorem dX2_readCommand_133 : decode cX2_readCommand 133 = .ok (.aload_n 0, 1) := by decide +kernel
theorem dX2_readCommand_134 : decode cX2_readCommand 134 = .ok (.invokevirtual 72, 3) := by decide +kernel
theorem dX2_readCommand_137 : decode cX2_readCommand 137 = .ok (.ifCond .eq 14, 3) := by decide +kernel
theorem dX2_readCommand_140 : decode cX2_readCommand 140 = .ok (.aload_n 0, 1) := by decide +kernel
theorem dX2_readCommand_141 : decode cX2_readCommand 141 = .ok (.invokevirtual 78, 3) := by decide +kernel
theorem dX2_readCommand_144 : decode cX2_readCommand 144 = .ok (.ifCond .eq 7, 3) := by decide +kernel
theorem dX2_readCommand_147 : decode cX2_readCommand 147 = .ok (.iconst 1, 1) := by decide +kernel
theorem dX2_readCommand_148 : decode cX2_readCommand 148 = .ok (.goto 4, 3) := by decide +kernel
theorem dX2_readCommand_151 : decode cX2_readCommand 151 = .ok (.iconst 0, 1) := by decide +kernel
theorem dX2_readCommand_152 : decode cX2_readCommand 152 = .ok (.ireturn, 1) := by decide +kernel
theorem dX2_readCommand_153 : decode cX2_readCommand 153 = .ok (.aload_n 0, 1) := by decide +kernel
theorem dX2_readCommand_154 : decode cX2_readCommand 154 = .ok (.invokevirtual 72, 3) := by decide +kernel
theorem dX2_readCommand_157 : decode cX2_readCommand 157 = .ok (.ireturn, 1) := by decide +kernel
theorem dX2_readCommand_158 : decode cX2_readCommand 158 = .ok (.aload_n 0, 1) := by decide +kernel
theorem dX2_readCommand_159 : decode cX2_readCommand 159 = .ok (.invokevirtual 81, 3) := by decide +kernel
theorem dX2_readCommand_162 : decode cX2_readCommand 162 = .ok (.ireturn, 1) := by decide +kernel
theorem dX2_readCommand_163 : decode cX2_readCommand 163 = .ok (.aload_n 0, 1) := by decide +kernel
theorem dX2_readCommand_164 : decode cX2_readCommand 164 = .ok (.dup, 1) := by decide +kernel
theorem dX2_readCommand_165 : decode cX2_readCommand 165 = .ok (.getfield 19, 3) := by decide +kernel
theorem dX2_readCommand_168 : decode cX2_readCommand 168 = .ok (.iconst 1, 1) := by decide +kernel
theorem dX2_readCommand_169 : decode cX2_readCommand 169 = .ok (.isub, 1) := by decide +kernel
theorem dX2_readCommand_170 : decode cX2_readCommand 170 = .ok (.putfield 19, 3) := by decide +kernel
theorem dX2_readCommand_173 : decode cX2_readCommand 173 = .ok (.iconst 0, 1) := by decide +kernel
theorem dX2_readCommand_174 : decode cX2_readCommand 174 = .ok (.ireturn, 1) := by decide +kernel
set_option maxRecDepth 20000 in
theorem ggX2_readVisitor_X2_readDigit : GoodIn wsX2_readVisitor wsX2_readDigit := goodIn_r _ [7, 8, 9, 10, 1, 11, 12, 13, 14, 15, 16, 17, 18, 19, 20, 21, 22] rfl rfl
set_option maxRecDepth 20000 in
theorem gX2_readVisitor_X2_readDigit : GoodIn wsX2_readVisitor (wsV RX2 68 RX2 yX2_readDigit wsX2_readDigit) := goodIn_app (goodIn_of _ (by decide +kernel)) ggX2_readVisitor_X2_readDigit
theorem dX2_readVisitor_0 : decode cX2_readVisitor 0 = .ok (.aload_n 0, 1) := by decide +kernel
theorem dX2_readVisitor_1 : decode cX2_readVisitor 1 = .ok (.iconst 0, 1) := by decide +kernel
theorem dX2_readVisitor_2 : decode cX2_readVisitor 2 = .ok (.iconst 5, 1) := by decide +kernel
theorem dX2_readVisitor_3 : decode cX2_readVisitor 3 = .ok (.invokevirtual 68, 3) := by decide +kernel
theorem dX2_readVisitor_6 : decode cX2_readVisitor 6 = .ok (.istore_n 1, 1) := by decide +kernel
theorem dX2_readVisitor_7 : decode cX2_readVisitor 7 = .ok (.aload_n 0, 1) := by decide +kernel
theorem dX2_readVisitor_8 : decode cX2_readVisitor 8 = .ok (.aload_n 0, 1) := by decide +kernel
theorem dX2_readVisitor_9 : decode cX2_readVisitor 9 = .ok (.getfield 22, 3) := by decide +kernel
theorem dX2_readVisitor_12 : decode cX2_readVisitor 12 = .ok (.putfield 38, 3) := by decide +kernel
theorem dX2_readVisitor_15 : decode cX2_readVisitor 15 = .ok (.iload_n 1, 1) := by decide +kernel
theorem dX2_readVisitor_16 : decode cX2_readVisitor 16 = .ok (.ireturn, 1) := by decide +kernel
set_option maxRecDepth 20000 in
theorem ggX2_readBook_X2_readTwoDigits : GoodIn wsX2_readBook wsX2_readTwoDigits := goodIn_r _ [7, 1, 8, 9, 10, 6, 11, 12, 13, 14, 15, 16, 17, 18, 19, 20, 21, 22, 23, 24, 25, 26] rfl rfl
set_option maxRecDepth 20000 in
theorem gX2_readBook_X2_readTwoDigits : GoodIn wsX2_readBook (wsV RX2 64 RX2 yX2_readTwoDigits wsX2_readTwoDigits) := goodIn_app (goodIn_of _ (by decide +kernel)) ggX2_readBook_X2_readTwoDigits
theorem dX2_readBook_0 : decode cX2_readBook 0 = .ok (.aload_n 0, 1) := by decide +kernel
theorem dX2_readBook_1 : decode cX2_readBook 1 = .ok (.bipush 19, 2) := by decide +kernel
theorem dX2_readBook_3 : decode cX2_readBook 3 = .ok (.invokevirtual 64, 3) := by decide +kernel
theorem dX2_readBook_6 : decode cX2_readBook 6 = .ok (.istore_n 1, 1) := by decide +kernel
theorem dX2_readBook_7 : decode cX2_readBook 7 = .ok (.aload_n 0, 1) := by decide +kernel
theorem dX2_readBook_8 : decode cX2_readBook 8 = .ok (.aload_n 0, 1) := by decide +kernel
theorem dX2_readBook_9 : decode cX2_readBook 9 = .ok (.getfield 22, 3) := by decide +kernel
theorem dX2_readBook_12 : decode cX2_readBook 12 = .ok (.putfield 41, 3) := by decide +kernel
theorem dX2_readBook_15 : decode cX2_readBook 15 = .ok (.iload_n 1, 1) := by decide +kernel
theorem dX2_readBook_16 : decode cX2_readBook 16 = .ok (.ireturn, 1) := by decide +kernel
set_option maxRecDepth 20000 in
theorem ggX2_readGate_X2_readDigit : GoodIn wsX2_readGate wsX2_readDigit := goodIn_r _ [7, 8, 9, 10, 1, 11, 12, 13, 14, 15, 16, 17, 18, 19, 20, 21, 22] rfl rfl
set_option maxRecDepth 20000 in
theorem gX2_readGate_X2_readDigit : GoodIn wsX2_readGate (wsV RX2 68 RX2 yX2_readDigit wsX2_readDigit) := goodIn_app (goodIn_of _ (by decide +kernel)) ggX2_readGate_X2_readDigit
theorem dX2_readGate_0 : decode cX2_readGate 0 = .ok (.aload_n 0, 1) := by decide +kernel
theorem dX2_readGate_1 : decode cX2_readGate 1 = .ok (.iconst 0, 1) := by decide +kernel
theorem dX2_readGate_2 : decode cX2_readGate 2 = .ok (.iconst 2, 1) := by decide +kernel
theorem dX2_readGate_3 : decode cX2_readGate 3 = .ok (.invokevirtual 68, 3) := by decide +kernel
theorem dX2_readGate_6 : decode cX2_readGate 6 = .ok (.istore_n 1, 1) := by decide +kernel
theorem dX2_readGate_7 : decode cX2_readGate 7 = .ok (.aload_n 0, 1) := by decide +kernel
theorem dX2_readGate_8 : decode cX2_readGate 8 = .ok (.aload_n 0, 1) := by decide +kernel
theorem dX2_readGate_9 : decode cX2_readGate 9 = .ok (.getfield 22, 3) := by decide +kernel
theorem dX2_readGate_12 : decode cX2_readGate 12 = .ok (.putfield 44, 3) := by decide +kernel
theorem dX2_readGate_15 : decode cX2_readGate 15 = .ok (.iload_n 1, 1) := by decide +kernel
theorem dX2_readGate_16 : decode cX2_readGate 16 = .ok (.ireturn, 1) := by decide +kernel
set_option maxRecDepth 20000 in
theorem ggX2_readTickCount_X2_readDigit : GoodIn wsX2_readTickCount wsX2_readDigit := goodIn_r _ [7, 8, 9, 10, 1, 11, 12, 13, 14, 15, 16, 17, 18, 19, 20, 21, 22] rfl rfl
set_option maxRecDepth 20000 in
theorem gX2_readTickCount_X2_readDigit : GoodIn wsX2_readTickCount (wsV RX2 68 RX2 yX2_readDigit wsX2_readDigit) := goodIn_app (goodIn_of _ (by decide +kernel)) ggX2_readTickCount_X2_readDigit
theorem dX2_readTickCount_0 : decode cX2_readTickCount 0 = .ok (.aload_n 0, 1) := by decide +kernel
theorem dX2_readTickCount_1 : decode cX2_readTickCount 1 = .ok (.iconst 1, 1) := by decide +kernel
theorem dX2_readTickCount_2 : decode cX2_readTickCount 2 = .ok (.bipush 9, 2) := by decide +kernel
theorem dX2_readTickCount_4 : decode cX2_readTickCount 4 = .ok (.invokevirtual 68, 3) := by decide +kernel
theorem dX2_readTickCount_7 : decode cX2_readTickCount 7 = .ok (.istore_n 1, 1) := by decide +kernel
theorem dX2_readTickCount_8 : decode cX2_readTickCount 8 = .ok (.aload_n 0, 1) := by decide +kernel
theorem dX2_readTickCount_9 : decode cX2_readTickCount 9 = .ok (.aload_n 0, 1) := by decide +kernel
theorem dX2_readTickCount_10 : decode cX2_readTickCount 10 = .ok (.getfield 22, 3) := by decide +kernel
theorem dX2_readTickCount_13 : decode cX2_readTickCount 13 = .ok (.putfield 47, 3) := by decide +kernel
theorem dX2_readTickCount_16 : decode cX2_readTickCount 16 = .ok (.iload_n 1, 1) := by decide +kernel
theorem dX2_readTickCount_17 : decode cX2_readTickCount 17 = .ok (.ireturn, 1) := by decide +kernel
set_option maxRecDepth 20000 in
theorem ggX2_readTwoDigits_X2_readDigit : GoodIn wsX2_readTwoDigits wsX2_readDigit := goodIn_r _ [6, 7, 8, 9, 1, 10, 11, 12, 13, 14, 15, 16, 17, 18, 19, 20, 21] rfl rfl
set_option maxRecDepth 20000 in
theorem gX2_readTwoDigits_X2_readDigit : GoodIn wsX2_readTwoDigits (wsV RX2 68 RX2 yX2_readDigit wsX2_readDigit) := goodIn_app (goodIn_of _ (by decide +kernel)) ggX2_readTwoDigits_X2_readDigit
theorem dX2_readTwoDigits_0 : decode cX2_readTwoDigits 0 = .ok (.aload_n 0, 1) := by decide +kernel
theorem dX2_readTwoDigits_1 : decode cX2_readTwoDigits 1 = .ok (.iconst 0, 1) := by decide +kernel
theorem dX2_readTwoDigits_2 : decode cX2_readTwoDigits 2 = .ok (.iload_n 1, 1) := by decide +kernel
theorem dX2_readTwoDigits_3 : decode cX2_readTwoDigits 3 = .ok (.bipush 10, 2) := by decide +kernel
theorem dX2_readTwoDigits_5 : decode cX2_readTwoDigits 5 = .ok (.idiv, 1) := by decide +kernel
theorem dX2_readTwoDigits_6 : decode cX2_readTwoDigits 6 = .ok (.invokevirtual 68, 3) := by decide +kernel
theorem dX2_readTwoDigits_9 : decode cX2_readTwoDigits 9 = .ok (.ifCond .ne 5, 3) := by decide +kernel
theorem dX2_readTwoDigits_12 : decode cX2_readTwoDigits 12 = .ok (.iconst 0, 1) := by decide +kernel
theorem dX2_readTwoDigits_13 : decode cX2_readTwoDigits 13 = .ok (.ireturn, 1) := by decide +kernel
theorem dX2_readTwoDigits_14 : decode cX2_readTwoDigits 14 = .ok (.aload_n 0, 1) := by decide +kernel
theorem dX2_readTwoDigits_15 : decode cX2_readTwoDigits 15 = .ok (.getfield 22, 3) := by decide +kernel
theorem dX2_readTwoDigits_18 : decode cX2_readTwoDigits 18 = .ok (.istore_n 2, 1) := by decide +kernel
theorem dX2_readTwoDigits_19 : decode cX2_readTwoDigits 19 = .ok (.aload_n 0, 1) := by decide +kernel
theorem dX2_readTwoDigits_20 : decode cX2_readTwoDigits 20 = .ok (.iconst 0, 1) := by decide +kernel
theorem dX2_readTwoDigits_21 : decode cX2_readTwoDigits 21 = .ok (.iload_n 2, 1) := by decide +kernel
theorem dX2_readTwoDigits_22 : decode cX2_readTwoDigits 22 = .ok (.iload_n 1, 1) := by decide +kernel
theorem dX2_readTwoDigits_23 : decode cX2_readTwoDigits 23 = .ok (.bipush 10, 2) := by decide +kernel
theorem dX2_readTwoDigits_25 : decode cX2_readTwoDigits 25 = .ok (.idiv, 1) := by decide +kernel
theorem dX2_readTwoDigits_26 : decode cX2_readTwoDigits 26 = .ok (.if_icmp .ge 8, 3) := by decide +kernel
theorem dX2_readTwoDigits_29 : decode cX2_readTwoDigits 29 = .ok (.bipush 9, 2) := by decide +kernel
theorem dX2_readTwoDigits_31 : decode cX2_readTwoDigits 31 = .ok (.goto 7, 3) := by decide +kernel
theorem dX2_readTwoDigits_34 : decode cX2_readTwoDigits 34 = .ok (.iload_n 1, 1) := by decide +kernel
theorem dX2_readTwoDigits_35 : decode cX2_readTwoDigits 35 = .ok (.bipush 10, 2) := by decide +kernel
theorem dX2_readTwoDigits_37 : decode cX2_readTwoDigits 37 = .ok (.irem, 1) := by decide +kernel
theorem dX2_readTwoDigits_38 : decode cX2_readTwoDigits 38 = .ok (.invokevirtual 68, 3) := by decide +kernel
theorem dX2_readTwoDigits_41 : decode cX2_readTwoDigits 41 = .ok (.ifCond .ne 5, 3) := by decide +kernel
theorem dX2_readTwoDigits_44 : decode cX2_readTwoDigits 44 = .ok (.iconst 0, 1) := by decide +kernel
theorem dX2_readTwoDigits_45 : decode cX2_readTwoDigits 45 = .ok (.ireturn, 1) := by decide +kernel
theorem dX2_readTwoDigits_46 : decode cX2_readTwoDigits 46 = .ok (.aload_n 0, 1) := by decide +kernel
theorem dX2_readTwoDigits_47 : decode cX2_readTwoDigits 47 = .ok (.bipush 10, 2) := by decide +kernel
theorem dX2_readTwoDigits_49 : decode cX2_readTwoDigits 49 = .ok (.iload_n 2, 1) := by decide +kernel
theorem dX2_readTwoDigits_50 : decode cX2_readTwoDigits 50 = .ok (.imul, 1) := by decide +kernel
theorem dX2_readTwoDigits_51 : decode cX2_readTwoDigits 51 = .ok (.aload_n 0, 1) := by decide +kernel
theorem dX2_readTwoDigits_52 : decode cX2_readTwoDigits 52 = .ok (.getfield 22, 3) := by decide +kernel
theorem dX2_readTwoDigits_55 : decode cX2_readTwoDigits 55 = .ok (.iadd, 1) := by decide +kernel
theorem dX2_readTwoDigits_56 : decode cX2_readTwoDigits 56 = .ok (.putfield 22, 3) := by decide +kernel
theorem dX2_readTwoDigits_59 : decode cX2_readTwoDigits 59 = .ok (.iconst 1, 1) := by decide +kernel
theorem dX2_readTwoDigits_60 : decode cX2_readTwoDigits 60 = .ok (.ireturn, 1) := by decide +kernel
theorem dX2_readDigit_0 : decode cX2_readDigit 0 = .ok (.aload_n 0, 1) := by decide +kernel
theorem dX2_readDigit_1 : decode cX2_readDigit 1 = .ok (.getfield 19, 3) := by decide +kernel
theorem dX2_readDigit_4 : decode cX2_readDigit 4 = .ok (.ifCond .lt 14, 3) := by decide +kernel
theorem dX2_readDigit_7 : decode cX2_readDigit 7 = .ok (.aload_n 0, 1) := by decide +kernel
theorem dX2_readDigit_8 : decode cX2_readDigit 8 = .ok (.getfield 19, 3) := by decide +kernel
theorem dX2_readDigit_11 : decode cX2_readDigit 11 = .ok (.aload_n 0, 1) := by decide +kernel
theorem dX2_readDigit_12 : decode cX2_readDigit 12 = .ok (.getfield 15, 3) := by decide +kernel
theorem dX2_readDigit_15 : decode cX2_readDigit 15 = .ok (.if_icmp .lt 5, 3) := by decide +kernel
theorem dX2_readDigit_18 : decode cX2_readDigit 18 = .ok (.iconst 0, 1) := by decide +kernel
theorem dX2_readDigit_19 : decode cX2_readDigit 19 = .ok (.ireturn, 1) := by decide +kernel
theorem dX2_readDigit_20 : decode cX2_readDigit 20 = .ok (.aload_n 0, 1) := by decide +kernel
theorem dX2_readDigit_21 : decode cX2_readDigit 21 = .ok (.getfield 9, 3) := by decide +kernel
theorem dX2_readDigit_24 : decode cX2_readDigit 24 = .ok (.aload_n 0, 1) := by decide +kernel
theorem dX2_readDigit_25 : decode cX2_readDigit 25 = .ok (.getfield 19, 3) := by decide +kernel
theorem dX2_readDigit_28 : decode cX2_readDigit 28 = .ok (.caload, 1) := by decide +kernel
theorem dX2_readDigit_29 : decode cX2_readDigit 29 = .ok (.bipush 48, 2) := by decide +kernel
theorem dX2_readDigit_31 : decode cX2_readDigit 31 = .ok (.isub, 1) := by decide +kernel
theorem dX2_readDigit_32 : decode cX2_readDigit 32 = .ok (.istore_n 3, 1) := by decide +kernel
theorem dX2_readDigit_33 : decode cX2_readDigit 33 = .ok (.iload_n 3, 1) := by decide +kernel
theorem dX2_readDigit_34 : decode cX2_readDigit 34 = .ok (.iload_n 1, 1) := by decide +kernel
theorem dX2_readDigit_35 : decode cX2_readDigit 35 = .ok (.if_icmp .lt 8, 3) := by decide +kernel
theorem dX2_readDigit_38 : decode cX2_readDigit 38 = .ok (.iload_n 3, 1) := by decide +kernel
theorem dX2_readDigit_39 : decode cX2_readDigit 39 = .ok (.iload_n 2, 1) := by decide +kernel
theorem dX2_readDigit_40 : decode cX2_readDigit 40 = .ok (.if_icmp .le 5, 3) := by decide +kernel
theorem dX2_readDigit_43 : decode cX2_readDigit 43 = .ok (.iconst 0, 1) := by decide +kernel
theorem dX2_readDigit_44 : decode cX2_readDigit 44 = .ok (.ireturn, 1) := by decide +kernel
theorem dX2_readDigit_45 : decode cX2_readDigit 45 = .ok (.aload_n 0, 1) := by decide +kernel
theorem dX2_readDigit_46 : decode cX2_readDigit 46 = .ok (.iload_n 3, 1) := by decide +kernel
theorem dX2_readDigit_47 : decode cX2_readDigit 47 = .ok (.putfield 22, 3) := by decide +kernel
theorem dX2_readDigit_50 : decode cX2_readDigit 50 = .ok (.aload_n 0, 1) := by decide +kernel
theorem dX2_readDigit_51 : decode cX2_readDigit 51 = .ok (.dup, 1) := by decide +kernel
theorem dX2_readDigit_52 : decode cX2_readDigit 52 = .ok (.getfield 19, 3) := by decide +kernel
theorem dX2_readDigit_55 : decode cX2_readDigit 55 = .ok (.iconst 1, 1) := by decide +kernel
theorem dX2_readDigit_56 : decode cX2_readDigit 56 = .ok (.iadd, 1) := by decide +kernel
theorem dX2_readDigit_57 : decode cX2_readDigit 57 = .ok (.putfield 19, 3) := by decide +kernel
theorem dX2_readDigit_60 : decode cX2_readDigit 60 = .ok (.iconst 1, 1) := by decide +kernel
theorem dX2_readDigit_61 : decode cX2_readDigit 61 = .ok (.ireturn, 1) := by decide +kernel
theorem dX2_readSign_0 : decode cX2_readSign 0 = .ok (.aload_n 0, 1) := by decide +kernel
theorem dX2_readSign_1 : decode cX2_readSign 1 = .ok (.getfield 19, 3) := by decide +kernel
theorem dX2_readSign_4 : decode cX2_readSign 4 = .ok (.ifCond .lt 14, 3) := by decide +kernel
theorem dX2_readSign_7 : decode cX2_readSign 7 = .ok (.aload_n 0, 1) := by decide +kernel
theorem dX2_readSign_8 : decode cX2_readSign 8 = .ok (.getfield 19, 3) := by decide +kernel
theorem dX2_readSign_11 : decode cX2_readSign 11 = .ok (.aload_n 0, 1) := by decide +kernel
theorem dX2_readSign_12 : decode cX2_readSign 12 = .ok (.getfield 15, 3) := by decide +kernel
theorem dX2_readSign_15 : decode cX2_readSign 15 = .ok (.if_icmp .lt 5, 3) := by decide +kernel
theorem dX2_readSign_18 : decode cX2_readSign 18 = .ok (.iconst 0, 1) := by decide +kernel
theorem dX2_readSign_19 : decode cX2_readSign 19 = .ok (.ireturn, 1) := by decide +kernel
theorem dX2_readSign_20 : decode cX2_readSign 20 = .ok (.aload_n 0, 1) := by decide +kernel
theorem dX2_readSign_21 : decode cX2_readSign 21 = .ok (.getfield 9, 3) := by decide +kernel
theorem dX2_readSign_24 : decode cX2_readSign 24 = .ok (.aload_n 0, 1) := by decide +kernel
theorem dX2_readSign_25 : decode cX2_readSign 25 = .ok (.getfield 19, 3) := by decide +kernel
theorem dX2_readSign_28 : decode cX2_readSign 28 = .ok (.caload, 1) := by decide +kernel
theorem dX2_readSign_29 : decode cX2_readSign 29 = .ok (.istore_n 3, 1) := by decide +kernel
theorem dX2_readSign_30 : decode cX2_readSign 30 = .ok (.iload_n 3, 1) := by decide +kernel
theorem dX2_readSign_31 : decode cX2_readSign 31 = .ok (.iload_n 1, 1) := by decide +kernel
theorem dX2_readSign_32 : decode cX2_readSign 32 = .ok (.if_icmp .lt 8, 3) := by decide +kernel
theorem dX2_readSign_35 : decode cX2_readSign 35 = .ok (.iload_n 3, 1) := by decide +kernel
theorem dX2_readSign_36 : decode cX2_readSign 36 = .ok (.iload_n 2, 1) := by decide +kernel
theorem dX2_readSign_37 : decode cX2_readSign 37 = .ok (.if_icmp .le 5, 3) := by decide +kernel
theorem dX2_readSign_40 : decode cX2_readSign 40 = .ok (.iconst 0, 1) := by decide +kernel
theorem dX2_readSign_41 : decode cX2_readSign 41 = .ok (.ireturn, 1) := by decide +kernel
theorem dX2_readSign_42 : decode cX2_readSign 42 = .ok (.aload_n 0, 1) := by decide +kernel
theorem dX2_readSign_43 : decode cX2_readSign 43 = .ok (.iload_n 3, 1) := by decide +kernel
theorem dX2_readSign_44 : decode cX2_readSign 44 = .ok (.putfield 35, 3) := by decide +kernel
theorem dX2_readSign_47 : decode cX2_readSign 47 = .ok (.aload_n 0, 1) := by decide +kernel
theorem dX2_readSign_48 : decode cX2_readSign 48 = .ok (.dup, 1) := by decide +kernel
theorem dX2_readSign_49 : decode cX2_readSign 49 = .ok (.getfield 19, 3) := by decide +kernel
theorem dX2_readSign_52 : decode cX2_readSign 52 = .ok (.iconst 1, 1) := by decide +kernel
theorem dX2_readSign_53 : decode cX2_readSign 53 = .ok (.iadd, 1) := by decide +kernel
theorem dX2_readSign_54 : decode cX2_readSign 54 = .ok (.putfield 19, 3) := by decide +kernel
theorem dX2_readSign_57 : decode cX2_readSign 57 = .ok (.iconst 1, 1) := by decide +kernel
theorem dX2_readSign_58 : decode cX2_readSign 58 = .ok (.ireturn, 1) := by decide +kernel
