set_option maxRecDepth 20000 in
theorem ggX4_isBook_X4_in : GoodIn wsX4_isBook wsX4_in := goodIn_r _ [5] rfl rfl
set_option maxRecDepth 20000 in
theorem gX4_isBook_X4_in : GoodIn wsX4_isBook (va_wsS RX4 69 yX4_in wsX4_in) := goodIn_app (goodIn_of _ (by decide +kernel)) ggX4_isBook_X4_in
theorem dX4_isBook_0 : decode cX4_isBook 0 = .ok (.iload_n 0, 1) := by decide +kernel
theorem dX4_isBook_1 : decode cX4_isBook 1 = .ok (.i2l, 1) := by decide +kernel
theorem dX4_isBook_2 : decode cX4_isBook 2 = .ok (.lconst 0, 1) := by decide +kernel
theorem dX4_isBook_3 : decode cX4_isBook 3 = .ok (.ldc2_w 194, 3) := by decide +kernel
theorem dX4_isBook_6 : decode cX4_isBook 6 = .ok (.invokestatic 69, 3) := by decide +kernel
theorem dX4_isBook_9 : decode cX4_isBook 9 = .ok (.ireturn, 1) := by decide +kernel
set_option maxRecDepth 20000 in
theorem ggX4_isVisitor_X4_in : GoodIn wsX4_isVisitor wsX4_in := goodIn_r _ [5] rfl rfl
set_option maxRecDepth 20000 in
theorem gX4_isVisitor_X4_in : GoodIn wsX4_isVisitor (va_wsS RX4 69 yX4_in wsX4_in) := goodIn_app (goodIn_of _ (by decide +kernel)) ggX4_isVisitor_X4_in
theorem dX4_isVisitor_0 : decode cX4_isVisitor 0 = .ok (.iload_n 0, 1) := by decide +kernel
theorem dX4_isVisitor_1 : decode cX4_isVisitor 1 = .ok (.i2l, 1) := by decide +kernel
theorem dX4_isVisitor_2 : decode cX4_isVisitor 2 = .ok (.lconst 0, 1) := by decide +kernel
theorem dX4_isVisitor_3 : decode cX4_isVisitor 3 = .ok (.ldc2_w 196, 3) := by decide +kernel
theorem dX4_isVisitor_6 : decode cX4_isVisitor 6 = .ok (.invokestatic 69, 3) := by decide +kernel
theorem dX4_isVisitor_9 : decode cX4_isVisitor 9 = .ok (.ireturn, 1) := by decide +kernel
set_option maxRecDepth 20000 in
theorem ggX4_isGate_X4_in : GoodIn wsX4_isGate wsX4_in := goodIn_r _ [5] rfl rfl
set_option maxRecDepth 20000 in
theorem gX4_isGate_X4_in : GoodIn wsX4_isGate (va_wsS RX4 69 yX4_in wsX4_in) := goodIn_app (goodIn_of _ (by decide +kernel)) ggX4_isGate_X4_in
theorem dX4_isGate_0 : decode cX4_isGate 0 = .ok (.iload_n 0, 1) := by decide +kernel
theorem dX4_isGate_1 : decode cX4_isGate 1 = .ok (.i2l, 1) := by decide +kernel
theorem dX4_isGate_2 : decode cX4_isGate 2 = .ok (.lconst 0, 1) := by decide +kernel
theorem dX4_isGate_3 : decode cX4_isGate 3 = .ok (.ldc2_w 198, 3) := by decide +kernel
theorem dX4_isGate_6 : decode cX4_isGate 6 = .ok (.invokestatic 69, 3) := by decide +kernel
theorem dX4_isGate_9 : decode cX4_isGate 9 = .ok (.ireturn, 1) := by decide +kernel
set_option maxRecDepth 20000 in
theorem ggX4_book_X4_isBook : GoodIn wsX4_book wsX4_isBook := goodIn_r _ [6, 7, 8, 9, 5, 10] rfl rfl
set_option maxRecDepth 20000 in
theorem gX4_book_X4_isBook : GoodIn wsX4_book (va_wsS RX4 200 yX4_isBook wsX4_isBook) := goodIn_app (goodIn_of _ (by decide +kernel)) ggX4_book_X4_isBook
set_option maxRecDepth 20000 in
theorem ggX4_book_X4_in : GoodIn wsX4_book wsX4_in := goodIn_r _ [10] rfl rfl
set_option maxRecDepth 20000 in
theorem gX4_book_X4_in : GoodIn wsX4_book (va_wsS RX4 69 yX4_in wsX4_in) := goodIn_app (goodIn_of _ (by decide +kernel)) ggX4_book_X4_in
set_option maxRecDepth 20000 in
theorem ggX4_book_X4_refused : GoodIn wsX4_book wsX4_refused := goodIn_r _ [14, 15, 19, 20, 21, 22, 23, 24, 25, 26, 27, 28, 29, 30, 31] rfl rfl
set_option maxRecDepth 20000 in
theorem gX4_book_X4_refused : GoodIn wsX4_book (wsV RX4 113 RX4 yX4_refused wsX4_refused) := goodIn_app (goodIn_of _ (by decide +kernel)) ggX4_book_X4_refused
set_option maxRecDepth 20000 in
theorem ggX4_book_X4_bookAt : GoodIn wsX4_book wsX4_bookAt := goodIn_r _ [18] rfl rfl
set_option maxRecDepth 20000 in
theorem gX4_book_X4_bookAt : GoodIn wsX4_book (va_wsS RX4 53 yX4_bookAt wsX4_bookAt) := goodIn_app (goodIn_of _ (by decide +kernel)) ggX4_book_X4_bookAt
theorem dX4_book_0 : decode cX4_book 0 = .ok (.aload_n 0, 1) := by decide +kernel
theorem dX4_book_1 : decode cX4_book 1 = .ok (.iload_n 1, 1) := by decide +kernel
theorem dX4_book_2 : decode cX4_book 2 = .ok (.invokestatic 200, 3) := by decide +kernel
theorem dX4_book_5 : decode cX4_book 5 = .ok (.ifCond .ne 7, 3) := by decide +kernel
theorem dX4_book_8 : decode cX4_book 8 = .ok (.iconst 1, 1) := by decide +kernel
theorem dX4_book_9 : decode cX4_book 9 = .ok (.goto 20, 3) := by decide +kernel
theorem dX4_book_12 : decode cX4_book 12 = .ok (.iload_n 2, 1) := by decide +kernel
theorem dX4_book_13 : decode cX4_book 13 = .ok (.i2l, 1) := by decide +kernel
theorem dX4_book_14 : decode cX4_book 14 = .ok (.lconst 0, 1) := by decide +kernel
theorem dX4_book_15 : decode cX4_book 15 = .ok (.ldc2_w 203, 3) := by decide +kernel
theorem dX4_book_18 : decode cX4_book 18 = .ok (.invokestatic 69, 3) := by decide +kernel
theorem dX4_book_21 : decode cX4_book 21 = .ok (.ifCond .eq 7, 3) := by decide +kernel
theorem dX4_book_24 : decode cX4_book 24 = .ok (.iconst 0, 1) := by decide +kernel
theorem dX4_book_25 : decode cX4_book 25 = .ok (.goto 4, 3) := by decide +kernel
theorem dX4_book_28 : decode cX4_book 28 = .ok (.iconst 2, 1) := by decide +kernel
theorem dX4_book_29 : decode cX4_book 29 = .ok (.invokevirtual 113, 3) := by decide +kernel
theorem dX4_book_32 : decode cX4_book 32 = .ok (.ifCond .eq 5, 3) := by decide +kernel
theorem dX4_book_35 : decode cX4_book 35 = .ok (.iconst 0, 1) := by decide +kernel
theorem dX4_book_36 : decode cX4_book 36 = .ok (.ireturn, 1) := by decide +kernel
theorem dX4_book_37 : decode cX4_book 37 = .ok (.iload_n 2, 1) := by decide +kernel
theorem dX4_book_38 : decode cX4_book 38 = .ok (.ifCond .le 16, 3) := by decide +kernel
theorem dX4_book_41 : decode cX4_book 41 = .ok (.aload_n 0, 1) := by decide +kernel
theorem dX4_book_42 : decode cX4_book 42 = .ok (.getfield 16, 3) := by decide +kernel
theorem dX4_book_45 : decode cX4_book 45 = .ok (.iload_n 1, 1) := by decide +kernel
theorem dX4_book_46 : decode cX4_book 46 = .ok (.iload_n 2, 1) := by decide +kernel
theorem dX4_book_47 : decode cX4_book 47 = .ok (.invokestatic 53, 3) := by decide +kernel
theorem dX4_book_50 : decode cX4_book 50 = .ok (.iaload, 1) := by decide +kernel
theorem dX4_book_51 : decode cX4_book 51 = .ok (.goto 33, 3) := by decide +kernel
theorem dX4_book_54 : decode cX4_book 54 = .ok (.aload_n 0, 1) := by decide +kernel
theorem dX4_book_55 : decode cX4_book 55 = .ok (.getfield 16, 3) := by decide +kernel
theorem dX4_book_58 : decode cX4_book 58 = .ok (.iload_n 1, 1) := by decide +kernel
theorem dX4_book_59 : decode cX4_book 59 = .ok (.iconst 0, 1) := by decide +kernel
theorem dX4_book_60 : decode cX4_book 60 = .ok (.invokestatic 53, 3) := by decide +kernel
theorem dX4_book_63 : decode cX4_book 63 = .ok (.iaload, 1) := by decide +kernel
theorem dX4_book_64 : decode cX4_book 64 = .ok (.ifCond .ne 8, 3) := by decide +kernel
theorem dX4_book_67 : decode cX4_book 67 = .ok (.bipush (-9), 2) := by decide +kernel
theorem dX4_book_69 : decode cX4_book 69 = .ok (.goto 15, 3) := by decide +kernel
theorem dX4_book_72 : decode cX4_book 72 = .ok (.aload_n 0, 1) := by decide +kernel
theorem dX4_book_73 : decode cX4_book 73 = .ok (.getfield 16, 3) := by decide +kernel
theorem dX4_book_76 : decode cX4_book 76 = .ok (.iload_n 1, 1) := by decide +kernel
theorem dX4_book_77 : decode cX4_book 77 = .ok (.iconst 0, 1) := by decide +kernel
theorem dX4_book_78 : decode cX4_book 78 = .ok (.invokestatic 53, 3) := by decide +kernel
theorem dX4_book_81 : decode cX4_book 81 = .ok (.iaload, 1) := by decide +kernel
theorem dX4_book_82 : decode cX4_book 82 = .ok (.iconst 1, 1) := by decide +kernel
theorem dX4_book_83 : decode cX4_book 83 = .ok (.isub, 1) := by decide +kernel
theorem dX4_book_84 : decode cX4_book 84 = .ok (.ireturn, 1) := by decide +kernel
set_option maxRecDepth 20000 in
theorem ggX4_bagSet_X4_bookAt : GoodIn wsX4_bagSet wsX4_bookAt := goodIn_r _ [5] rfl rfl
set_option maxRecDepth 20000 in
theorem gX4_bagSet_X4_bookAt : GoodIn wsX4_bagSet (va_wsS RX4 53 yX4_bookAt wsX4_bookAt) := goodIn_app (goodIn_of _ (by decide +kernel)) ggX4_bagSet_X4_bookAt
theorem dX4_bagSet_0 : decode cX4_bagSet 0 = .ok (.iconst 0, 1) := by decide +kernel
theorem dX4_bagSet_1 : decode cX4_bagSet 1 = .ok (.istore_n 2, 1) := by decide +kernel
theorem dX4_bagSet_2 : decode cX4_bagSet 2 = .ok (.iconst 0, 1) := by decide +kernel
theorem dX4_bagSet_3 : decode cX4_bagSet 3 = .ok (.istore_n 3, 1) := by decide +kernel
theorem dX4_bagSet_4 : decode cX4_bagSet 4 = .ok (.iload_n 3, 1) := by decide +kernel
theorem dX4_bagSet_5 : decode cX4_bagSet 5 = .ok (.bipush 20, 2) := by decide +kernel
theorem dX4_bagSet_7 : decode cX4_bagSet 7 = .ok (.if_icmp .ge 35, 3) := by decide +kernel
theorem dX4_bagSet_10 : decode cX4_bagSet 10 = .ok (.iload_n 2, 1) := by decide +kernel
theorem dX4_bagSet_11 : decode cX4_bagSet 11 = .ok (.aload_n 0, 1) := by decide +kernel
theorem dX4_bagSet_12 : decode cX4_bagSet 12 = .ok (.getfield 16, 3) := by decide +kernel
theorem dX4_bagSet_15 : decode cX4_bagSet 15 = .ok (.iload_n 3, 1) := by decide +kernel
theorem dX4_bagSet_16 : decode cX4_bagSet 16 = .ok (.iconst 0, 1) := by decide +kernel
theorem dX4_bagSet_17 : decode cX4_bagSet 17 = .ok (.invokestatic 53, 3) := by decide +kernel
theorem dX4_bagSet_20 : decode cX4_bagSet 20 = .ok (.iaload, 1) := by decide +kernel
theorem dX4_bagSet_21 : decode cX4_bagSet 21 = .ok (.iload_n 1, 1) := by decide +kernel
theorem dX4_bagSet_22 : decode cX4_bagSet 22 = .ok (.iconst 1, 1) := by decide +kernel
theorem dX4_bagSet_23 : decode cX4_bagSet 23 = .ok (.iadd, 1) := by decide +kernel
theorem dX4_bagSet_24 : decode cX4_bagSet 24 = .ok (.if_icmp .ne 9, 3) := by decide +kernel
theorem dX4_bagSet_27 : decode cX4_bagSet 27 = .ok (.iconst 1, 1) := by decide +kernel
theorem dX4_bagSet_28 : decode cX4_bagSet 28 = .ok (.iload_n 3, 1) := by decide +kernel
theorem dX4_bagSet_29 : decode cX4_bagSet 29 = .ok (.ishl, 1) := by decide +kernel
theorem dX4_bagSet_30 : decode cX4_bagSet 30 = .ok (.goto 4, 3) := by decide +kernel
theorem dX4_bagSet_33 : decode cX4_bagSet 33 = .ok (.iconst 0, 1) := by decide +kernel
theorem dX4_bagSet_34 : decode cX4_bagSet 34 = .ok (.ior, 1) := by decide +kernel
theorem dX4_bagSet_35 : decode cX4_bagSet 35 = .ok (.istore_n 2, 1) := by decide +kernel
theorem dX4_bagSet_36 : decode cX4_bagSet 36 = .ok (.iinc 3 1, 3) := by decide +kernel
theorem dX4_bagSet_39 : decode cX4_bagSet 39 = .ok (.goto (-35), 3) := by decide +kernel
theorem dX4_bagSet_42 : decode cX4_bagSet 42 = .ok (.iload_n 2, 1) := by decide +kernel
theorem dX4_bagSet_43 : decode cX4_bagSet 43 = .ok (.ireturn, 1) := by decide +kernel
set_option maxRecDepth 20000 in
theorem ggX4_visitor_X4_isVisitor : GoodIn wsX4_visitor wsX4_isVisitor := goodIn_r _ [6, 7, 8, 9, 5, 10] rfl rfl
set_option maxRecDepth 20000 in
theorem gX4_visitor_X4_isVisitor : GoodIn wsX4_visitor (va_wsS RX4 205 yX4_isVisitor wsX4_isVisitor) := goodIn_app (goodIn_of _ (by decide +kernel)) ggX4_visitor_X4_isVisitor
set_option maxRecDepth 20000 in
theorem ggX4_visitor_X4_in : GoodIn wsX4_visitor wsX4_in := goodIn_r _ [10] rfl rfl
set_option maxRecDepth 20000 in
theorem gX4_visitor_X4_in : GoodIn wsX4_visitor (va_wsS RX4 69 yX4_in wsX4_in) := goodIn_app (goodIn_of _ (by decide +kernel)) ggX4_visitor_X4_in
set_option maxRecDepth 20000 in
theorem ggX4_visitor_X4_refused : GoodIn wsX4_visitor wsX4_refused := goodIn_r _ [14, 15, 29, 30, 31, 32, 33, 34, 35, 36, 37, 38, 39, 40, 41] rfl rfl
set_option maxRecDepth 20000 in
theorem gX4_visitor_X4_refused : GoodIn wsX4_visitor (wsV RX4 113 RX4 yX4_refused wsX4_refused) := goodIn_app (goodIn_of _ (by decide +kernel)) ggX4_visitor_X4_refused
set_option maxRecDepth 20000 in
theorem ggX4_visitor_X4_bagSet : GoodIn wsX4_visitor wsX4_bagSet := goodIn_r _ [19, 2, 20, 21, 5, 22, 29, 30, 31, 32, 33, 34, 35, 36, 37, 38, 39, 40, 41] rfl rfl
set_option maxRecDepth 20000 in
theorem gX4_visitor_X4_bagSet : GoodIn wsX4_visitor (wsV RX4 208 RX4 yX4_bagSet wsX4_bagSet) := goodIn_app (goodIn_of _ (by decide +kernel)) ggX4_visitor_X4_bagSet
set_option maxRecDepth 20000 in
theorem ggX4_visitor_X4_isAtGate : GoodIn wsX4_visitor wsX4_isAtGate := goodIn_r _ [25, 26, 27, 5, 28] rfl rfl
set_option maxRecDepth 20000 in
theorem gX4_visitor_X4_isAtGate : GoodIn wsX4_visitor (va_wsS RX4 150 yX4_isAtGate wsX4_isAtGate) := goodIn_app (goodIn_of _ (by decide +kernel)) ggX4_visitor_X4_isAtGate
set_option maxRecDepth 20000 in
theorem ggX4_visitor_X4_visitorAt : GoodIn wsX4_visitor wsX4_visitorAt := goodIn_r _ [28] rfl rfl
set_option maxRecDepth 20000 in
theorem gX4_visitor_X4_visitorAt : GoodIn wsX4_visitor (va_wsS RX4 56 yX4_visitorAt wsX4_visitorAt) := goodIn_app (goodIn_of _ (by decide +kernel)) ggX4_visitor_X4_visitorAt
theorem dX4_visitor_0 : decode cX4_visitor 0 = .ok (.aload_n 0, 1) := by decide +kernel
theorem dX4_visitor_1 : decode cX4_visitor 1 = .ok (.iload_n 1, 1) := by decide +kernel
theorem dX4_visitor_2 : decode cX4_visitor 2 = .ok (.invokestatic 205, 3) := by decide +kernel
theorem dX4_visitor_5 : decode cX4_visitor 5 = .ok (.ifCond .ne 7, 3) := by decide +kernel
theorem dX4_visitor_8 : decode cX4_visitor 8 = .ok (.iconst 1, 1) := by decide +kernel
theorem dX4_visitor_9 : decode cX4_visitor 9 = .ok (.goto 20, 3) := by decide +kernel
theorem dX4_visitor_12 : decode cX4_visitor 12 = .ok (.iload_n 2, 1) := by decide +kernel
theorem dX4_visitor_13 : decode cX4_visitor 13 = .ok (.i2l, 1) := by decide +kernel
theorem dX4_visitor_14 : decode cX4_visitor 14 = .ok (.lconst 0, 1) := by decide +kernel
theorem dX4_visitor_15 : decode cX4_visitor 15 = .ok (.ldc2_w 203, 3) := by decide +kernel
theorem dX4_visitor_18 : decode cX4_visitor 18 = .ok (.invokestatic 69, 3) := by decide +kernel
theorem dX4_visitor_21 : decode cX4_visitor 21 = .ok (.ifCond .eq 7, 3) := by decide +kernel
theorem dX4_visitor_24 : decode cX4_visitor 24 = .ok (.iconst 0, 1) := by decide +kernel
theorem dX4_visitor_25 : decode cX4_visitor 25 = .ok (.goto 4, 3) := by decide +kernel
theorem dX4_visitor_28 : decode cX4_visitor 28 = .ok (.iconst 2, 1) := by decide +kernel
theorem dX4_visitor_29 : decode cX4_visitor 29 = .ok (.invokevirtual 113, 3) := by decide +kernel
theorem dX4_visitor_32 : decode cX4_visitor 32 = .ok (.ifCond .eq 5, 3) := by decide +kernel
theorem dX4_visitor_35 : decode cX4_visitor 35 = .ok (.iconst 0, 1) := by decide +kernel
theorem dX4_visitor_36 : decode cX4_visitor 36 = .ok (.ireturn, 1) := by decide +kernel
theorem dX4_visitor_37 : decode cX4_visitor 37 = .ok (.iload_n 2, 1) := by decide +kernel
theorem dX4_visitor_38 : decode cX4_visitor 38 = .ok (.iconst 4, 1) := by decide +kernel
theorem dX4_visitor_39 : decode cX4_visitor 39 = .ok (.if_icmp .ne 9, 3) := by decide +kernel
theorem dX4_visitor_42 : decode cX4_visitor 42 = .ok (.aload_n 0, 1) := by decide +kernel
theorem dX4_visitor_43 : decode cX4_visitor 43 = .ok (.iload_n 1, 1) := by decide +kernel
theorem dX4_visitor_44 : decode cX4_visitor 44 = .ok (.invokevirtual 208, 3) := by decide +kernel
theorem dX4_visitor_47 : decode cX4_visitor 47 = .ok (.ireturn, 1) := by decide +kernel
theorem dX4_visitor_48 : decode cX4_visitor 48 = .ok (.iload_n 2, 1) := by decide +kernel
theorem dX4_visitor_49 : decode cX4_visitor 49 = .ok (.ifCond .eq 14, 3) := by decide +kernel
theorem dX4_visitor_52 : decode cX4_visitor 52 = .ok (.aload_n 0, 1) := by decide +kernel
theorem dX4_visitor_53 : decode cX4_visitor 53 = .ok (.getfield 16, 3) := by decide +kernel
theorem dX4_visitor_56 : decode cX4_visitor 56 = .ok (.iload_n 1, 1) := by decide +kernel
theorem dX4_visitor_57 : decode cX4_visitor 57 = .ok (.invokestatic 150, 3) := by decide +kernel
theorem dX4_visitor_60 : decode cX4_visitor 60 = .ok (.ifCond .eq 16, 3) := by decide +kernel
theorem dX4_visitor_63 : decode cX4_visitor 63 = .ok (.aload_n 0, 1) := by decide +kernel
theorem dX4_visitor_64 : decode cX4_visitor 64 = .ok (.getfield 16, 3) := by decide +kernel
theorem dX4_visitor_67 : decode cX4_visitor 67 = .ok (.iload_n 1, 1) := by decide +kernel
theorem dX4_visitor_68 : decode cX4_visitor 68 = .ok (.iload_n 2, 1) := by decide +kernel
theorem dX4_visitor_69 : decode cX4_visitor 69 = .ok (.invokestatic 56, 3) := by decide +kernel
theorem dX4_visitor_72 : decode cX4_visitor 72 = .ok (.iaload, 1) := by decide +kernel
theorem dX4_visitor_73 : decode cX4_visitor 73 = .ok (.goto 5, 3) := by decide +kernel
theorem dX4_visitor_76 : decode cX4_visitor 76 = .ok (.bipush (-9), 2) := by decide +kernel
theorem dX4_visitor_78 : decode cX4_visitor 78 = .ok (.ireturn, 1) := by decide +kernel
set_option maxRecDepth 20000 in
theorem ggX4_readSet_X4_readsBook : GoodIn wsX4_readSet wsX4_readsBook := goodIn_r _ [5, 6, 7, 4, 8, 9, 10, 11, 12, 13, 14, 15, 16, 17, 18, 19, 20, 21, 22, 23, 24] rfl rfl
set_option maxRecDepth 20000 in
theorem gX4_readSet_X4_readsBook : GoodIn wsX4_readSet (va_wsS RX4 92 yX4_readsBook wsX4_readsBook) := goodIn_app (goodIn_of _ (by decide +kernel)) ggX4_readSet_X4_readsBook
theorem dX4_readSet_0 : decode cX4_readSet 0 = .ok (.iconst 0, 1) := by decide +kernel
theorem dX4_readSet_1 : decode cX4_readSet 1 = .ok (.istore_n 2, 1) := by decide +kernel
theorem dX4_readSet_2 : decode cX4_readSet 2 = .ok (.iconst 0, 1) := by decide +kernel
theorem dX4_readSet_3 : decode cX4_readSet 3 = .ok (.istore_n 3, 1) := by decide +kernel
theorem dX4_readSet_4 : decode cX4_readSet 4 = .ok (.iload_n 3, 1) := by decide +kernel
theorem dX4_readSet_5 : decode cX4_readSet 5 = .ok (.bipush 20, 2) := by decide +kernel
theorem dX4_readSet_7 : decode cX4_readSet 7 = .ok (.if_icmp .ge 31, 3) := by decide +kernel
theorem dX4_readSet_10 : decode cX4_readSet 10 = .ok (.iload_n 2, 1) := by decide +kernel
theorem dX4_readSet_11 : decode cX4_readSet 11 = .ok (.aload_n 0, 1) := by decide +kernel
theorem dX4_readSet_12 : decode cX4_readSet 12 = .ok (.getfield 16, 3) := by decide +kernel
theorem dX4_readSet_15 : decode cX4_readSet 15 = .ok (.iload_n 1, 1) := by decide +kernel
theorem dX4_readSet_16 : decode cX4_readSet 16 = .ok (.iload_n 3, 1) := by decide +kernel
theorem dX4_readSet_17 : decode cX4_readSet 17 = .ok (.invokestatic 92, 3) := by decide +kernel
theorem dX4_readSet_20 : decode cX4_readSet 20 = .ok (.ifCond .eq 9, 3) := by decide +kernel
theorem dX4_readSet_23 : decode cX4_readSet 23 = .ok (.iconst 1, 1) := by decide +kernel
theorem dX4_readSet_24 : decode cX4_readSet 24 = .ok (.iload_n 3, 1) := by decide +kernel
theorem dX4_readSet_25 : decode cX4_readSet 25 = .ok (.ishl, 1) := by decide +kernel
theorem dX4_readSet_26 : decode cX4_readSet 26 = .ok (.goto 4, 3) := by decide +kernel
theorem dX4_readSet_29 : decode cX4_readSet 29 = .ok (.iconst 0, 1) := by decide +kernel
theorem dX4_readSet_30 : decode cX4_readSet 30 = .ok (.ior, 1) := by decide +kernel
theorem dX4_readSet_31 : decode cX4_readSet 31 = .ok (.istore_n 2, 1) := by decide +kernel
theorem dX4_readSet_32 : decode cX4_readSet 32 = .ok (.iinc 3 1, 3) := by decide +kernel
theorem dX4_readSet_35 : decode cX4_readSet 35 = .ok (.goto (-31), 3) := by decide +kernel
theorem dX4_readSet_38 : decode cX4_readSet 38 = .ok (.iload_n 2, 1) := by decide +kernel
theorem dX4_readSet_39 : decode cX4_readSet 39 = .ok (.ireturn, 1) := by decide +kernel
set_option maxRecDepth 20000 in
theorem ggX4_gate_X4_isGate : GoodIn wsX4_gate wsX4_isGate := goodIn_r _ [6, 7, 8, 9, 5, 10] rfl rfl
set_option maxRecDepth 20000 in
theorem gX4_gate_X4_isGate : GoodIn wsX4_gate (va_wsS RX4 211 yX4_isGate wsX4_isGate) := goodIn_app (goodIn_of _ (by decide +kernel)) ggX4_gate_X4_isGate
set_option maxRecDepth 20000 in
theorem ggX4_gate_X4_in : GoodIn wsX4_gate wsX4_in := goodIn_r _ [10] rfl rfl
set_option maxRecDepth 20000 in
theorem gX4_gate_X4_in : GoodIn wsX4_gate (va_wsS RX4 69 yX4_in wsX4_in) := goodIn_app (goodIn_of _ (by decide +kernel)) ggX4_gate_X4_in
set_option maxRecDepth 20000 in
theorem ggX4_gate_X4_refused : GoodIn wsX4_gate wsX4_refused := goodIn_r _ [14, 15, 39, 40, 41, 42, 43, 44, 45, 46, 47, 48, 49, 50, 51] rfl rfl
set_option maxRecDepth 20000 in
theorem gX4_gate_X4_refused : GoodIn wsX4_gate (wsV RX4 113 RX4 yX4_refused wsX4_refused) := goodIn_app (goodIn_of _ (by decide +kernel)) ggX4_gate_X4_refused
set_option maxRecDepth 20000 in
theorem ggX4_gate_X4_gateAt : GoodIn wsX4_gate wsX4_gateAt := goodIn_r _ [18] rfl rfl
set_option maxRecDepth 20000 in
theorem gX4_gate_X4_gateAt : GoodIn wsX4_gate (va_wsS RX4 42 yX4_gateAt wsX4_gateAt) := goodIn_app (goodIn_of _ (by decide +kernel)) ggX4_gate_X4_gateAt
set_option maxRecDepth 20000 in
theorem ggX4_gate_X4_readSet : GoodIn wsX4_gate wsX4_readSet := goodIn_r _ [22, 2, 23, 24, 5, 25, 26, 27, 28, 29, 30, 31, 32, 33, 34, 35, 36, 37, 38, 16, 17, 18, 8, 9, 10, 39, 40, 41, 42, 43, 44, 45, 46, 47, 48, 49, 50, 51] rfl rfl
set_option maxRecDepth 20000 in
theorem gX4_gate_X4_readSet : GoodIn wsX4_gate (wsV RX4 214 RX4 yX4_readSet wsX4_readSet) := goodIn_app (goodIn_of _ (by decide +kernel)) ggX4_gate_X4_readSet
theorem dX4_gate_0 : decode cX4_gate 0 = .ok (.aload_n 0, 1) := by decide +kernel
theorem dX4_gate_1 : decode cX4_gate 1 = .ok (.iload_n 1, 1) := by decide +kernel
theorem dX4_gate_2 : decode cX4_gate 2 = .ok (.invokestatic 211, 3) := by decide +kernel
theorem dX4_gate_5 : decode cX4_gate 5 = .ok (.ifCond .ne 7, 3) := by decide +kernel
theorem dX4_gate_8 : decode cX4_gate 8 = .ok (.iconst 1, 1) := by decide +kernel
theorem dX4_gate_9 : decode cX4_gate 9 = .ok (.goto 20, 3) := by decide +kernel
theorem dX4_gate_12 : decode cX4_gate 12 = .ok (.iload_n 2, 1) := by decide +kernel
theorem dX4_gate_13 : decode cX4_gate 13 = .ok (.i2l, 1) := by decide +kernel
theorem dX4_gate_14 : decode cX4_gate 14 = .ok (.lconst 0, 1) := by decide +kernel
theorem dX4_gate_15 : decode cX4_gate 15 = .ok (.ldc2_w 196, 3) := by decide +kernel
theorem dX4_gate_18 : decode cX4_gate 18 = .ok (.invokestatic 69, 3) := by decide +kernel
theorem dX4_gate_21 : decode cX4_gate 21 = .ok (.ifCond .eq 7, 3) := by decide +kernel
theorem dX4_gate_24 : decode cX4_gate 24 = .ok (.iconst 0, 1) := by decide +kernel
theorem dX4_gate_25 : decode cX4_gate 25 = .ok (.goto 4, 3) := by decide +kernel
theorem dX4_gate_28 : decode cX4_gate 28 = .ok (.iconst 2, 1) := by decide +kernel
theorem dX4_gate_29 : decode cX4_gate 29 = .ok (.invokevirtual 113, 3) := by decide +kernel
theorem dX4_gate_32 : decode cX4_gate 32 = .ok (.ifCond .eq 5, 3) := by decide +kernel
theorem dX4_gate_35 : decode cX4_gate 35 = .ok (.iconst 0, 1) := by decide +kernel
theorem dX4_gate_36 : decode cX4_gate 36 = .ok (.ireturn, 1) := by decide +kernel
theorem dX4_gate_37 : decode cX4_gate 37 = .ok (.iload_n 2, 1) := by decide +kernel
theorem dX4_gate_38 : decode cX4_gate 38 = .ok (.tableswitch 75 3 5 #[26, 58, 69], 26) := by decide +kernel
theorem dX4_gate_64 : decode cX4_gate 64 = .ok (.aload_n 0, 1) := by decide +kernel
theorem dX4_gate_65 : decode cX4_gate 65 = .ok (.getfield 16, 3) := by decide +kernel
theorem dX4_gate_68 : decode cX4_gate 68 = .ok (.iload_n 1, 1) := by decide +kernel
theorem dX4_gate_69 : decode cX4_gate 69 = .ok (.iconst 2, 1) := by decide +kernel
theorem dX4_gate_70 : decode cX4_gate 70 = .ok (.invokestatic 42, 3) := by decide +kernel
theorem dX4_gate_73 : decode cX4_gate 73 = .ok (.iaload, 1) := by decide +kernel
theorem dX4_gate_74 : decode cX4_gate 74 = .ok (.ifCond .le 19, 3) := by decide +kernel
theorem dX4_gate_77 : decode cX4_gate 77 = .ok (.aload_n 0, 1) := by decide +kernel
theorem dX4_gate_78 : decode cX4_gate 78 = .ok (.getfield 16, 3) := by decide +kernel
theorem dX4_gate_81 : decode cX4_gate 81 = .ok (.sipush 136, 3) := by decide +kernel
theorem dX4_gate_84 : decode cX4_gate 84 = .ok (.bipush 20, 2) := by decide +kernel
theorem dX4_gate_86 : decode cX4_gate 86 = .ok (.iload_n 1, 1) := by decide +kernel
theorem dX4_gate_87 : decode cX4_gate 87 = .ok (.imul, 1) := by decide +kernel
theorem dX4_gate_88 : decode cX4_gate 88 = .ok (.iadd, 1) := by decide +kernel
theorem dX4_gate_89 : decode cX4_gate 89 = .ok (.iaload, 1) := by decide +kernel
theorem dX4_gate_90 : decode cX4_gate 90 = .ok (.goto 5, 3) := by decide +kernel
theorem dX4_gate_93 : decode cX4_gate 93 = .ok (.bipush (-9), 2) := by decide +kernel
theorem dX4_gate_95 : decode cX4_gate 95 = .ok (.ireturn, 1) := by decide +kernel
theorem dX4_gate_96 : decode cX4_gate 96 = .ok (.aload_n 0, 1) := by decide +kernel
theorem dX4_gate_97 : decode cX4_gate 97 = .ok (.getfield 16, 3) := by decide +kernel
theorem dX4_gate_100 : decode cX4_gate 100 = .ok (.iload_n 1, 1) := by decide +kernel
theorem dX4_gate_101 : decode cX4_gate 101 = .ok (.iconst 3, 1) := by decide +kernel
theorem dX4_gate_102 : decode cX4_gate 102 = .ok (.invokestatic 42, 3) := by decide +kernel
theorem dX4_gate_105 : decode cX4_gate 105 = .ok (.iaload, 1) := by decide +kernel
theorem dX4_gate_106 : decode cX4_gate 106 = .ok (.ireturn, 1) := by decide +kernel
theorem dX4_gate_107 : decode cX4_gate 107 = .ok (.aload_n 0, 1) := by decide +kernel
theorem dX4_gate_108 : decode cX4_gate 108 = .ok (.iload_n 1, 1) := by decide +kernel
theorem dX4_gate_109 : decode cX4_gate 109 = .ok (.invokevirtual 214, 3) := by decide +kernel
theorem dX4_gate_112 : decode cX4_gate 112 = .ok (.ireturn, 1) := by decide +kernel
theorem dX4_gate_113 : decode cX4_gate 113 = .ok (.aload_n 0, 1) := by decide +kernel
theorem dX4_gate_114 : decode cX4_gate 114 = .ok (.getfield 16, 3) := by decide +kernel
theorem dX4_gate_117 : decode cX4_gate 117 = .ok (.iload_n 1, 1) := by decide +kernel
theorem dX4_gate_118 : decode cX4_gate 118 = .ok (.iload_n 2, 1) := by decide +kernel
theorem dX4_gate_119 : decode cX4_gate 119 = .ok (.invokestatic 42, 3) := by decide +kernel
theorem dX4_gate_122 : decode cX4_gate 122 = .ok (.iaload, 1) := by decide +kernel
theorem dX4_gate_123 : decode cX4_gate 123 = .ok (.ireturn, 1) := by decide +kernel
set_option maxRecDepth 20000 in
theorem ggX4_shout_X4_in : GoodIn wsX4_shout wsX4_in := goodIn_r _ [7] rfl rfl
set_option maxRecDepth 20000 in
theorem gX4_shout_X4_in : GoodIn wsX4_shout (va_wsS RX4 69 yX4_in wsX4_in) := goodIn_app (goodIn_of _ (by decide +kernel)) ggX4_shout_X4_in
set_option maxRecDepth 20000 in
theorem ggX4_shout_X4_refused : GoodIn wsX4_shout wsX4_refused := goodIn_r _ [11, 12, 13, 14, 15, 16, 17, 18, 19, 20, 21, 22, 23, 24, 25] rfl rfl
set_option maxRecDepth 20000 in
theorem gX4_shout_X4_refused : GoodIn wsX4_shout (wsV RX4 113 RX4 yX4_refused wsX4_refused) := goodIn_app (goodIn_of _ (by decide +kernel)) ggX4_shout_X4_refused
theorem dX4_shout_0 : decode cX4_shout 0 = .ok (.aload_n 0, 1) := by decide +kernel
theorem dX4_shout_1 : decode cX4_shout 1 = .ok (.iload_n 1, 1) := by decide +kernel
theorem dX4_shout_2 : decode cX4_shout 2 = .ok (.i2l, 1) := by decide +kernel
theorem dX4_shout_3 : decode cX4_shout 3 = .ok (.lconst 0, 1) := by decide +kernel
theorem dX4_shout_4 : decode cX4_shout 4 = .ok (.ldc2_w 124, 3) := by decide +kernel
theorem dX4_shout_7 : decode cX4_shout 7 = .ok (.invokestatic 69, 3) := by decide +kernel
theorem dX4_shout_10 : decode cX4_shout 10 = .ok (.ifCond .eq 19, 3) := by decide +kernel
theorem dX4_shout_13 : decode cX4_shout 13 = .ok (.iload_n 2, 1) := by decide +kernel
theorem dX4_shout_14 : decode cX4_shout 14 = .ok (.i2l, 1) := by decide +kernel
theorem dX4_shout_15 : decode cX4_shout 15 = .ok (.lconst 0, 1) := by decide +kernel
theorem dX4_shout_16 : decode cX4_shout 16 = .ok (.ldc2_w 198, 3) := by decide +kernel
theorem dX4_shout_19 : decode cX4_shout 19 = .ok (.invokestatic 69, 3) := by decide +kernel
theorem dX4_shout_22 : decode cX4_shout 22 = .ok (.ifCond .eq 7, 3) := by decide +kernel
theorem dX4_shout_25 : decode cX4_shout 25 = .ok (.iconst 0, 1) := by decide +kernel
theorem dX4_shout_26 : decode cX4_shout 26 = .ok (.goto 4, 3) := by decide +kernel
theorem dX4_shout_29 : decode cX4_shout 29 = .ok (.iconst 1, 1) := by decide +kernel
theorem dX4_shout_30 : decode cX4_shout 30 = .ok (.invokevirtual 113, 3) := by decide +kernel
theorem dX4_shout_33 : decode cX4_shout 33 = .ok (.ifCond .eq 5, 3) := by decide +kernel
theorem dX4_shout_36 : decode cX4_shout 36 = .ok (.iconst 0, 1) := by decide +kernel
theorem dX4_shout_37 : decode cX4_shout 37 = .ok (.ireturn, 1) := by decide +kernel
theorem dX4_shout_38 : decode cX4_shout 38 = .ok (.iload_n 1, 1) := by decide +kernel
theorem dX4_shout_39 : decode cX4_shout 39 = .ok (.aload_n 0, 1) := by decide +kernel
theorem dX4_shout_40 : decode cX4_shout 40 = .ok (.getfield 16, 3) := by decide +kernel
theorem dX4_shout_43 : decode cX4_shout 43 = .ok (.sipush 202, 3) := by decide +kernel
theorem dX4_shout_46 : decode cX4_shout 46 = .ok (.iaload, 1) := by decide +kernel
theorem dX4_shout_47 : decode cX4_shout 47 = .ok (.if_icmp .ge 20, 3) := by decide +kernel
theorem dX4_shout_50 : decode cX4_shout 50 = .ok (.aload_n 0, 1) := by decide +kernel
theorem dX4_shout_51 : decode cX4_shout 51 = .ok (.getfield 16, 3) := by decide +kernel
theorem dX4_shout_54 : decode cX4_shout 54 = .ok (.sipush 203, 3) := by decide +kernel
theorem dX4_shout_57 : decode cX4_shout 57 = .ok (.iconst 3, 1) := by decide +kernel
theorem dX4_shout_58 : decode cX4_shout 58 = .ok (.iload_n 1, 1) := by decide +kernel
theorem dX4_shout_59 : decode cX4_shout 59 = .ok (.imul, 1) := by decide +kernel
theorem dX4_shout_60 : decode cX4_shout 60 = .ok (.iadd, 1) := by decide +kernel
theorem dX4_shout_61 : decode cX4_shout 61 = .ok (.iload_n 2, 1) := by decide +kernel
theorem dX4_shout_62 : decode cX4_shout 62 = .ok (.iadd, 1) := by decide +kernel
theorem dX4_shout_63 : decode cX4_shout 63 = .ok (.iaload, 1) := by decide +kernel
theorem dX4_shout_64 : decode cX4_shout 64 = .ok (.goto 5, 3) := by decide +kernel
theorem dX4_shout_67 : decode cX4_shout 67 = .ok (.bipush (-9), 2) := by decide +kernel
theorem dX4_shout_69 : decode cX4_shout 69 = .ok (.ireturn, 1) := by decide +kernel
set_option maxRecDepth 20000 in
theorem ggX4_take_X4_isVisitor : GoodIn wsX4_take wsX4_isVisitor := goodIn_r _ [5, 6, 7, 8, 4, 9] rfl rfl
set_option maxRecDepth 20000 in
theorem gX4_take_X4_isVisitor : GoodIn wsX4_take (va_wsS RX4 205 yX4_isVisitor wsX4_isVisitor) := goodIn_app (goodIn_of _ (by decide +kernel)) ggX4_take_X4_isVisitor
set_option maxRecDepth 20000 in
theorem ggX4_take_X4_isBook : GoodIn wsX4_take wsX4_isBook := goodIn_r _ [12, 13, 7, 8, 4, 9] rfl rfl
set_option maxRecDepth 20000 in
theorem gX4_take_X4_isBook : GoodIn wsX4_take (va_wsS RX4 200 yX4_isBook wsX4_isBook) := goodIn_app (goodIn_of _ (by decide +kernel)) ggX4_take_X4_isBook
set_option maxRecDepth 20000 in
theorem ggX4_take_X4_canTake : GoodIn wsX4_take wsX4_canTake := goodIn_r _ [16, 17, 18, 4, 19, 20, 21, 22, 23, 24, 25, 26, 27, 28] rfl rfl
set_option maxRecDepth 20000 in
theorem gX4_take_X4_canTake : GoodIn wsX4_take (va_wsS RX4 140 yX4_canTake wsX4_canTake) := goodIn_app (goodIn_of _ (by decide +kernel)) ggX4_take_X4_canTake
set_option maxRecDepth 20000 in
theorem ggX4_take_X4_refused : GoodIn wsX4_take wsX4_refused := goodIn_r _ [32, 33, 43, 44, 45, 46, 47, 48, 49, 50, 51, 52, 53, 54, 55] rfl rfl
set_option maxRecDepth 20000 in
theorem gX4_take_X4_refused : GoodIn wsX4_take (wsV RX4 113 RX4 yX4_refused wsX4_refused) := goodIn_app (goodIn_of _ (by decide +kernel)) ggX4_take_X4_refused
set_option maxRecDepth 20000 in
theorem ggX4_take_X4_remember : GoodIn wsX4_take wsX4_remember := goodIn_r _ [37, 38, 39, 1, 40, 41, 4, 42, 43, 44, 45, 46, 47, 48, 49, 50, 51, 52, 53, 54, 55] rfl rfl
set_option maxRecDepth 20000 in
theorem gX4_take_X4_remember : GoodIn wsX4_take (wsV RX4 217 RX4 yX4_remember wsX4_remember) := goodIn_app (goodIn_of _ (by decide +kernel)) ggX4_take_X4_remember
set_option maxRecDepth 20000 in
theorem ggX4_take_X4_bookAt : GoodIn wsX4_take wsX4_bookAt := goodIn_r _ [19] rfl rfl
set_option maxRecDepth 20000 in
theorem gX4_take_X4_bookAt : GoodIn wsX4_take (va_wsS RX4 53 yX4_bookAt wsX4_bookAt) := goodIn_app (goodIn_of _ (by decide +kernel)) ggX4_take_X4_bookAt
set_option maxRecDepth 20000 in
theorem ggX4_take_X4_bag : GoodIn wsX4_take wsX4_bag := goodIn_r _ [28, 17, 18, 4, 19] rfl rfl
set_option maxRecDepth 20000 in
theorem gX4_take_X4_bag : GoodIn wsX4_take (va_wsS RX4 63 yX4_bag wsX4_bag) := goodIn_app (goodIn_of _ (by decide +kernel)) ggX4_take_X4_bag
theorem dX4_take_0 : decode cX4_take 0 = .ok (.iload_n 1, 1) := by decide +kernel
theorem dX4_take_1 : decode cX4_take 1 = .ok (.invokestatic 205, 3) := by decide +kernel
theorem dX4_take_4 : decode cX4_take 4 = .ok (.ifCond .eq 14, 3) := by decide +kernel
theorem dX4_take_7 : decode cX4_take 7 = .ok (.iload_n 2, 1) := by decide +kernel
theorem dX4_take_8 : decode cX4_take 8 = .ok (.invokestatic 200, 3) := by decide +kernel
theorem dX4_take_11 : decode cX4_take 11 = .ok (.ifCond .eq 7, 3) := by decide +kernel
theorem dX4_take_14 : decode cX4_take 14 = .ok (.iconst 1, 1) := by decide +kernel
theorem dX4_take_15 : decode cX4_take 15 = .ok (.goto 4, 3) := by decide +kernel
theorem dX4_take_18 : decode cX4_take 18 = .ok (.iconst 0, 1) := by decide +kernel
theorem dX4_take_19 : decode cX4_take 19 = .ok (.istore_n 3, 1) := by decide +kernel
theorem dX4_take_20 : decode cX4_take 20 = .ok (.aload_n 0, 1) := by decide +kernel
theorem dX4_take_21 : decode cX4_take 21 = .ok (.iload_n 3, 1) := by decide +kernel
theorem dX4_take_22 : decode cX4_take 22 = .ok (.ifCond .ne 7, 3) := by decide +kernel
theorem dX4_take_25 : decode cX4_take 25 = .ok (.iconst 1, 1) := by decide +kernel
theorem dX4_take_26 : decode cX4_take 26 = .ok (.goto 20, 3) := by decide +kernel
theorem dX4_take_29 : decode cX4_take 29 = .ok (.aload_n 0, 1) := by decide +kernel
theorem dX4_take_30 : decode cX4_take 30 = .ok (.getfield 16, 3) := by decide +kernel
theorem dX4_take_33 : decode cX4_take 33 = .ok (.iload_n 1, 1) := by decide +kernel
theorem dX4_take_34 : decode cX4_take 34 = .ok (.iload_n 2, 1) := by decide +kernel
theorem dX4_take_35 : decode cX4_take 35 = .ok (.invokestatic 140, 3) := by decide +kernel
theorem dX4_take_38 : decode cX4_take 38 = .ok (.ifCond .eq 7, 3) := by decide +kernel
theorem dX4_take_41 : decode cX4_take 41 = .ok (.iconst 0, 1) := by decide +kernel
theorem dX4_take_42 : decode cX4_take 42 = .ok (.goto 4, 3) := by decide +kernel
theorem dX4_take_45 : decode cX4_take 45 = .ok (.iconst 2, 1) := by decide +kernel
theorem dX4_take_46 : decode cX4_take 46 = .ok (.invokevirtual 113, 3) := by decide +kernel
theorem dX4_take_49 : decode cX4_take 49 = .ok (.ifCond .eq 5, 3) := by decide +kernel
theorem dX4_take_52 : decode cX4_take 52 = .ok (.iconst 0, 1) := by decide +kernel
theorem dX4_take_53 : decode cX4_take 53 = .ok (.ireturn, 1) := by decide +kernel
theorem dX4_take_54 : decode cX4_take 54 = .ok (.aload_n 0, 1) := by decide +kernel
theorem dX4_take_55 : decode cX4_take 55 = .ok (.invokevirtual 217, 3) := by decide +kernel
theorem dX4_take_58 : decode cX4_take 58 = .ok (.aload_n 0, 1) := by decide +kernel
theorem dX4_take_59 : decode cX4_take 59 = .ok (.getfield 16, 3) := by decide +kernel
theorem dX4_take_62 : decode cX4_take 62 = .ok (.iload_n 2, 1) := by decide +kernel
theorem dX4_take_63 : decode cX4_take 63 = .ok (.iconst 0, 1) := by decide +kernel
theorem dX4_take_64 : decode cX4_take 64 = .ok (.invokestatic 53, 3) := by decide +kernel
theorem dX4_take_67 : decode cX4_take 67 = .ok (.iload_n 1, 1) := by decide +kernel
theorem dX4_take_68 : decode cX4_take 68 = .ok (.iconst 1, 1) := by decide +kernel
theorem dX4_take_69 : decode cX4_take 69 = .ok (.iadd, 1) := by decide +kernel
theorem dX4_take_70 : decode cX4_take 70 = .ok (.iastore, 1) := by decide +kernel
theorem dX4_take_71 : decode cX4_take 71 = .ok (.aload_n 0, 1) := by decide +kernel
theorem dX4_take_72 : decode cX4_take 72 = .ok (.getfield 16, 3) := by decide +kernel
theorem dX4_take_75 : decode cX4_take 75 = .ok (.iload_n 1, 1) := by decide +kernel
theorem dX4_take_76 : decode cX4_take 76 = .ok (.invokestatic 63, 3) := by decide +kernel
theorem dX4_take_79 : decode cX4_take 79 = .ok (.ireturn, 1) := by decide +kernel
set_option maxRecDepth 20000 in
theorem ggX4_putBack_X4_isBook : GoodIn wsX4_putBack wsX4_isBook := goodIn_r _ [5, 6, 7, 8, 4, 9] rfl rfl
set_option maxRecDepth 20000 in
theorem gX4_putBack_X4_isBook : GoodIn wsX4_putBack (va_wsS RX4 200 yX4_isBook wsX4_isBook) := goodIn_app (goodIn_of _ (by decide +kernel)) ggX4_putBack_X4_isBook
set_option maxRecDepth 20000 in
theorem ggX4_putBack_X4_canPutBack : GoodIn wsX4_putBack wsX4_canPutBack := goodIn_r _ [12, 13, 14, 4, 15, 16, 17, 18, 19, 20, 21, 22, 23, 24] rfl rfl
set_option maxRecDepth 20000 in
theorem gX4_putBack_X4_canPutBack : GoodIn wsX4_putBack (va_wsS RX4 147 yX4_canPutBack wsX4_canPutBack) := goodIn_app (goodIn_of _ (by decide +kernel)) ggX4_putBack_X4_canPutBack
set_option maxRecDepth 20000 in
theorem ggX4_putBack_X4_refused : GoodIn wsX4_putBack wsX4_refused := goodIn_r _ [28, 29, 39, 40, 41, 42, 43, 44, 45, 46, 47, 48, 49, 50, 51] rfl rfl
set_option maxRecDepth 20000 in
theorem gX4_putBack_X4_refused : GoodIn wsX4_putBack (wsV RX4 113 RX4 yX4_refused wsX4_refused) := goodIn_app (goodIn_of _ (by decide +kernel)) ggX4_putBack_X4_refused
set_option maxRecDepth 20000 in
theorem ggX4_putBack_X4_remember : GoodIn wsX4_putBack wsX4_remember := goodIn_r _ [33, 34, 35, 1, 36, 37, 4, 38, 39, 40, 41, 42, 43, 44, 45, 46, 47, 48, 49, 50, 51] rfl rfl
set_option maxRecDepth 20000 in
theorem gX4_putBack_X4_remember : GoodIn wsX4_putBack (wsV RX4 217 RX4 yX4_remember wsX4_remember) := goodIn_app (goodIn_of _ (by decide +kernel)) ggX4_putBack_X4_remember
set_option maxRecDepth 20000 in
theorem ggX4_putBack_X4_bookAt : GoodIn wsX4_putBack wsX4_bookAt := goodIn_r _ [15] rfl rfl
set_option maxRecDepth 20000 in
theorem gX4_putBack_X4_bookAt : GoodIn wsX4_putBack (va_wsS RX4 53 yX4_bookAt wsX4_bookAt) := goodIn_app (goodIn_of _ (by decide +kernel)) ggX4_putBack_X4_bookAt
theorem dX4_putBack_0 : decode cX4_putBack 0 = .ok (.aload_n 0, 1) := by decide +kernel
theorem dX4_putBack_1 : decode cX4_putBack 1 = .ok (.iload_n 1, 1) := by decide +kernel
theorem dX4_putBack_2 : decode cX4_putBack 2 = .ok (.invokestatic 200, 3) := by decide +kernel
theorem dX4_putBack_5 : decode cX4_putBack 5 = .ok (.ifCond .ne 7, 3) := by decide +kernel
theorem dX4_putBack_8 : decode cX4_putBack 8 = .ok (.iconst 1, 1) := by decide +kernel
theorem dX4_putBack_9 : decode cX4_putBack 9 = .ok (.goto 19, 3) := by decide +kernel
theorem dX4_putBack_12 : decode cX4_putBack 12 = .ok (.aload_n 0, 1) := by decide +kernel
theorem dX4_putBack_13 : decode cX4_putBack 13 = .ok (.getfield 16, 3) := by decide +kernel
theorem dX4_putBack_16 : decode cX4_putBack 16 = .ok (.iload_n 1, 1) := by decide +kernel
theorem dX4_putBack_17 : decode cX4_putBack 17 = .ok (.invokestatic 147, 3) := by decide +kernel
theorem dX4_putBack_20 : decode cX4_putBack 20 = .ok (.ifCond .eq 7, 3) := by decide +kernel
theorem dX4_putBack_23 : decode cX4_putBack 23 = .ok (.iconst 0, 1) := by decide +kernel
theorem dX4_putBack_24 : decode cX4_putBack 24 = .ok (.goto 4, 3) := by decide +kernel
theorem dX4_putBack_27 : decode cX4_putBack 27 = .ok (.iconst 2, 1) := by decide +kernel
theorem dX4_putBack_28 : decode cX4_putBack 28 = .ok (.invokevirtual 113, 3) := by decide +kernel
theorem dX4_putBack_31 : decode cX4_putBack 31 = .ok (.ifCond .eq 5, 3) := by decide +kernel
theorem dX4_putBack_34 : decode cX4_putBack 34 = .ok (.iconst 0, 1) := by decide +kernel
theorem dX4_putBack_35 : decode cX4_putBack 35 = .ok (.ireturn, 1) := by decide +kernel
theorem dX4_putBack_36 : decode cX4_putBack 36 = .ok (.aload_n 0, 1) := by decide +kernel
theorem dX4_putBack_37 : decode cX4_putBack 37 = .ok (.invokevirtual 217, 3) := by decide +kernel
theorem dX4_putBack_40 : decode cX4_putBack 40 = .ok (.aload_n 0, 1) := by decide +kernel
theorem dX4_putBack_41 : decode cX4_putBack 41 = .ok (.getfield 16, 3) := by decide +kernel
theorem dX4_putBack_44 : decode cX4_putBack 44 = .ok (.iload_n 1, 1) := by decide +kernel
theorem dX4_putBack_45 : decode cX4_putBack 45 = .ok (.iconst 0, 1) := by decide +kernel
theorem dX4_putBack_46 : decode cX4_putBack 46 = .ok (.invokestatic 53, 3) := by decide +kernel
theorem dX4_putBack_49 : decode cX4_putBack 49 = .ok (.iaload, 1) := by decide +kernel
theorem dX4_putBack_50 : decode cX4_putBack 50 = .ok (.iconst 1, 1) := by decide +kernel
theorem dX4_putBack_51 : decode cX4_putBack 51 = .ok (.isub, 1) := by decide +kernel
theorem dX4_putBack_52 : decode cX4_putBack 52 = .ok (.istore_n 2, 1) := by decide +kernel
theorem dX4_putBack_53 : decode cX4_putBack 53 = .ok (.aload_n 0, 1) := by decide +kernel
theorem dX4_putBack_54 : decode cX4_putBack 54 = .ok (.getfield 16, 3) := by decide +kernel
theorem dX4_putBack_57 : decode cX4_putBack 57 = .ok (.iload_n 1, 1) := by decide +kernel
theorem dX4_putBack_58 : decode cX4_putBack 58 = .ok (.iconst 0, 1) := by decide +kernel
theorem dX4_putBack_59 : decode cX4_putBack 59 = .ok (.invokestatic 53, 3) := by decide +kernel
theorem dX4_putBack_62 : decode cX4_putBack 62 = .ok (.iconst 0, 1) := by decide +kernel
theorem dX4_putBack_63 : decode cX4_putBack 63 = .ok (.iastore, 1) := by decide +kernel
theorem dX4_putBack_64 : decode cX4_putBack 64 = .ok (.iload_n 2, 1) := by decide +kernel
theorem dX4_putBack_65 : decode cX4_putBack 65 = .ok (.ireturn, 1) := by decide +kernel
set_option maxRecDepth 20000 in
theorem ggX4_mark_X4_isBook : GoodIn wsX4_mark wsX4_isBook := goodIn_r _ [5, 6, 7, 8, 4, 9] rfl rfl
set_option maxRecDepth 20000 in
theorem gX4_mark_X4_isBook : GoodIn wsX4_mark (va_wsS RX4 200 yX4_isBook wsX4_isBook) := goodIn_app (goodIn_of _ (by decide +kernel)) ggX4_mark_X4_isBook
set_option maxRecDepth 20000 in
theorem ggX4_mark_X4_canBorrow : GoodIn wsX4_mark wsX4_canBorrow := goodIn_r _ [12, 13, 14, 4, 15, 16, 17, 18, 19, 20, 21, 22, 23, 24] rfl rfl
set_option maxRecDepth 20000 in
theorem gX4_mark_X4_canBorrow : GoodIn wsX4_mark (va_wsS RX4 220 yX4_canBorrow wsX4_canBorrow) := goodIn_app (goodIn_of _ (by decide +kernel)) ggX4_mark_X4_canBorrow
set_option maxRecDepth 20000 in
theorem ggX4_mark_X4_refused : GoodIn wsX4_mark wsX4_refused := goodIn_r _ [28, 29, 42, 43, 44, 45, 46, 47, 48, 49, 50, 51, 52, 53, 54] rfl rfl
set_option maxRecDepth 20000 in
theorem gX4_mark_X4_refused : GoodIn wsX4_mark (wsV RX4 113 RX4 yX4_refused wsX4_refused) := goodIn_app (goodIn_of _ (by decide +kernel)) ggX4_mark_X4_refused
set_option maxRecDepth 20000 in
theorem ggX4_mark_X4_remember : GoodIn wsX4_mark wsX4_remember := goodIn_r _ [33, 34, 35, 1, 36, 37, 4, 38, 42, 43, 44, 45, 46, 47, 48, 49, 50, 51, 52, 53, 54] rfl rfl
set_option maxRecDepth 20000 in
theorem gX4_mark_X4_remember : GoodIn wsX4_mark (wsV RX4 217 RX4 yX4_remember wsX4_remember) := goodIn_app (goodIn_of _ (by decide +kernel)) ggX4_mark_X4_remember
set_option maxRecDepth 20000 in
theorem ggX4_mark_X4_bookAt : GoodIn wsX4_mark wsX4_bookAt := goodIn_r _ [15] rfl rfl
set_option maxRecDepth 20000 in
theorem gX4_mark_X4_bookAt : GoodIn wsX4_mark (va_wsS RX4 53 yX4_bookAt wsX4_bookAt) := goodIn_app (goodIn_of _ (by decide +kernel)) ggX4_mark_X4_bookAt
set_option maxRecDepth 20000 in
theorem ggX4_mark_X4_borrowed : GoodIn wsX4_mark wsX4_borrowed := goodIn_r _ [41, 13, 14, 4, 15] rfl rfl
set_option maxRecDepth 20000 in
theorem gX4_mark_X4_borrowed : GoodIn wsX4_mark (va_wsS RX4 184 yX4_borrowed wsX4_borrowed) := goodIn_app (goodIn_of _ (by decide +kernel)) ggX4_mark_X4_borrowed
theorem dX4_mark_0 : decode cX4_mark 0 = .ok (.aload_n 0, 1) := by decide +kernel
theorem dX4_mark_1 : decode cX4_mark 1 = .ok (.iload_n 1, 1) := by decide +kernel
theorem dX4_mark_2 : decode cX4_mark 2 = .ok (.invokestatic 200, 3) := by decide +kernel
theorem dX4_mark_5 : decode cX4_mark 5 = .ok (.ifCond .ne 7, 3) := by decide +kernel
theorem dX4_mark_8 : decode cX4_mark 8 = .ok (.iconst 1, 1) := by decide +kernel
theorem dX4_mark_9 : decode cX4_mark 9 = .ok (.goto 20, 3) := by decide +kernel
theorem dX4_mark_12 : decode cX4_mark 12 = .ok (.aload_n 0, 1) := by decide +kernel
theorem dX4_mark_13 : decode cX4_mark 13 = .ok (.getfield 16, 3) := by decide +kernel
theorem dX4_mark_16 : decode cX4_mark 16 = .ok (.iload_n 1, 1) := by decide +kernel
theorem dX4_mark_17 : decode cX4_mark 17 = .ok (.iload_n 2, 1) := by decide +kernel
theorem dX4_mark_18 : decode cX4_mark 18 = .ok (.invokestatic 220, 3) := by decide +kernel
theorem dX4_mark_21 : decode cX4_mark 21 = .ok (.ifCond .eq 7, 3) := by decide +kernel
theorem dX4_mark_24 : decode cX4_mark 24 = .ok (.iconst 0, 1) := by decide +kernel
theorem dX4_mark_25 : decode cX4_mark 25 = .ok (.goto 4, 3) := by decide +kernel
theorem dX4_mark_28 : decode cX4_mark 28 = .ok (.iconst 2, 1) := by decide +kernel
theorem dX4_mark_29 : decode cX4_mark 29 = .ok (.invokevirtual 113, 3) := by decide +kernel
theorem dX4_mark_32 : decode cX4_mark 32 = .ok (.ifCond .eq 5, 3) := by decide +kernel
theorem dX4_mark_35 : decode cX4_mark 35 = .ok (.iconst 0, 1) := by decide +kernel
theorem dX4_mark_36 : decode cX4_mark 36 = .ok (.ireturn, 1) := by decide +kernel
theorem dX4_mark_37 : decode cX4_mark 37 = .ok (.aload_n 0, 1) := by decide +kernel
theorem dX4_mark_38 : decode cX4_mark 38 = .ok (.invokevirtual 217, 3) := by decide +kernel
theorem dX4_mark_41 : decode cX4_mark 41 = .ok (.aload_n 0, 1) := by decide +kernel
theorem dX4_mark_42 : decode cX4_mark 42 = .ok (.getfield 16, 3) := by decide +kernel
theorem dX4_mark_45 : decode cX4_mark 45 = .ok (.iload_n 1, 1) := by decide +kernel
theorem dX4_mark_46 : decode cX4_mark 46 = .ok (.iconst 1, 1) := by decide +kernel
theorem dX4_mark_47 : decode cX4_mark 47 = .ok (.invokestatic 53, 3) := by decide +kernel
theorem dX4_mark_50 : decode cX4_mark 50 = .ok (.iload_n 2, 1) := by decide +kernel
theorem dX4_mark_51 : decode cX4_mark 51 = .ok (.iastore, 1) := by decide +kernel
theorem dX4_mark_52 : decode cX4_mark 52 = .ok (.aload_n 0, 1) := by decide +kernel
theorem dX4_mark_53 : decode cX4_mark 53 = .ok (.getfield 16, 3) := by decide +kernel
theorem dX4_mark_56 : decode cX4_mark 56 = .ok (.invokestatic 184, 3) := by decide +kernel
theorem dX4_mark_59 : decode cX4_mark 59 = .ok (.ireturn, 1) := by decide +kernel
set_option maxRecDepth 20000 in
theorem ggX4_borrow_X4_mark : GoodIn wsX4_borrow wsX4_mark := goodIn_r _ [5, 6, 7, 8, 4, 9, 10, 11, 12, 13, 14, 15, 16, 17, 18, 19, 20, 21, 22, 23, 24, 25, 26, 27, 28, 29, 30, 31, 32, 33, 34, 35, 36, 37, 38, 39, 40, 41, 42, 43, 44, 45, 46, 47, 48, 49, 50, 51, 52, 53, 54, 55, 56, 57, 58] rfl rfl
set_option maxRecDepth 20000 in
theorem gX4_borrow_X4_mark : GoodIn wsX4_borrow (wsV RX4 223 RX4 yX4_mark wsX4_mark) := goodIn_app (goodIn_of _ (by decide +kernel)) ggX4_borrow_X4_mark
theorem dX4_borrow_0 : decode cX4_borrow 0 = .ok (.aload_n 0, 1) := by decide +kernel
theorem dX4_borrow_1 : decode cX4_borrow 1 = .ok (.iload_n 1, 1) := by decide +kernel
theorem dX4_borrow_2 : decode cX4_borrow 2 = .ok (.iconst 1, 1) := by decide +kernel
theorem dX4_borrow_3 : decode cX4_borrow 3 = .ok (.invokevirtual 223, 3) := by decide +kernel
theorem dX4_borrow_6 : decode cX4_borrow 6 = .ok (.ireturn, 1) := by decide +kernel
set_option maxRecDepth 20000 in
theorem ggX4_bringBack_X4_mark : GoodIn wsX4_bringBack wsX4_mark := goodIn_r _ [5, 6, 7, 8, 4, 9, 10, 11, 12, 13, 14, 15, 16, 17, 18, 19, 20, 21, 22, 23, 24, 25, 26, 27, 28, 29, 30, 31, 32, 33, 34, 35, 36, 37, 38, 39, 40, 41, 42, 43, 44, 45, 46, 47, 48, 49, 50, 51, 52, 53, 54, 55, 56, 57, 58] rfl rfl
set_option maxRecDepth 20000 in
theorem gX4_bringBack_X4_mark : GoodIn wsX4_bringBack (wsV RX4 223 RX4 yX4_mark wsX4_mark) := goodIn_app (goodIn_of _ (by decide +kernel)) ggX4_bringBack_X4_mark
theorem dX4_bringBack_0 : decode cX4_bringBack 0 = .ok (.aload_n 0, 1) := by decide +kernel
theorem dX4_bringBack_1 : decode cX4_bringBack 1 = .ok (.iload_n 1, 1) := by decide +kernel
theorem dX4_bringBack_2 : decode cX4_bringBack 2 = .ok (.iconst 0, 1) := by decide +kernel
theorem dX4_bringBack_3 : decode cX4_bringBack 3 = .ok (.invokevirtual 223, 3) := by decide +kernel
theorem dX4_bringBack_6 : decode cX4_bringBack 6 = .ok (.ireturn, 1) := by decide +kernel
set_option maxRecDepth 20000 in
theorem ggX4_walk_X4_isVisitor : GoodIn wsX4_walk wsX4_isVisitor := goodIn_r _ [5, 6, 7, 8, 4, 9] rfl rfl
set_option maxRecDepth 20000 in
theorem gX4_walk_X4_isVisitor : GoodIn wsX4_walk (va_wsS RX4 205 yX4_isVisitor wsX4_isVisitor) := goodIn_app (goodIn_of _ (by decide +kernel)) ggX4_walk_X4_isVisitor
set_option maxRecDepth 20000 in
theorem ggX4_walk_X4_isGate : GoodIn wsX4_walk wsX4_isGate := goodIn_r _ [12, 13, 7, 8, 4, 9] rfl rfl
set_option maxRecDepth 20000 in
theorem gX4_walk_X4_isGate : GoodIn wsX4_walk (va_wsS RX4 211 yX4_isGate wsX4_isGate) := goodIn_app (goodIn_of _ (by decide +kernel)) ggX4_walk_X4_isGate
set_option maxRecDepth 20000 in
theorem ggX4_walk_X4_canWalk : GoodIn wsX4_walk wsX4_canWalk := goodIn_r _ [16, 17, 18, 4, 19] rfl rfl
set_option maxRecDepth 20000 in
theorem gX4_walk_X4_canWalk : GoodIn wsX4_walk (va_wsS RX4 156 yX4_canWalk wsX4_canWalk) := goodIn_app (goodIn_of _ (by decide +kernel)) ggX4_walk_X4_canWalk
set_option maxRecDepth 20000 in
theorem ggX4_walk_X4_refused : GoodIn wsX4_walk wsX4_refused := goodIn_r _ [23, 24, 37, 38, 39, 40, 41, 42, 43, 44, 45, 46, 47, 48, 49] rfl rfl
set_option maxRecDepth 20000 in
theorem gX4_walk_X4_refused : GoodIn wsX4_walk (wsV RX4 113 RX4 yX4_refused wsX4_refused) := goodIn_app (goodIn_of _ (by decide +kernel)) ggX4_walk_X4_refused
set_option maxRecDepth 20000 in
theorem ggX4_walk_X4_remember : GoodIn wsX4_walk wsX4_remember := goodIn_r _ [28, 29, 30, 1, 31, 32, 4, 33, 37, 38, 39, 40, 41, 42, 43, 44, 45, 46, 47, 48, 49] rfl rfl
set_option maxRecDepth 20000 in
theorem gX4_walk_X4_remember : GoodIn wsX4_walk (wsV RX4 217 RX4 yX4_remember wsX4_remember) := goodIn_app (goodIn_of _ (by decide +kernel)) ggX4_walk_X4_remember
set_option maxRecDepth 20000 in
theorem ggX4_walk_X4_walkIn : GoodIn wsX4_walk wsX4_walkIn := goodIn_r _ [36, 17, 18, 4, 19] rfl rfl
set_option maxRecDepth 20000 in
theorem gX4_walk_X4_walkIn : GoodIn wsX4_walk (va_wsS RX4 160 yX4_walkIn wsX4_walkIn) := goodIn_app (goodIn_of _ (by decide +kernel)) ggX4_walk_X4_walkIn
theorem dX4_walk_0 : decode cX4_walk 0 = .ok (.iload_n 1, 1) := by decide +kernel
theorem dX4_walk_1 : decode cX4_walk 1 = .ok (.invokestatic 205, 3) := by decide +kernel
theorem dX4_walk_4 : decode cX4_walk 4 = .ok (.ifCond .eq 14, 3) := by decide +kernel
theorem dX4_walk_7 : decode cX4_walk 7 = .ok (.iload_n 2, 1) := by decide +kernel
theorem dX4_walk_8 : decode cX4_walk 8 = .ok (.invokestatic 211, 3) := by decide +kernel
theorem dX4_walk_11 : decode cX4_walk 11 = .ok (.ifCond .eq 7, 3) := by decide +kernel
theorem dX4_walk_14 : decode cX4_walk 14 = .ok (.iconst 1, 1) := by decide +kernel
theorem dX4_walk_15 : decode cX4_walk 15 = .ok (.goto 4, 3) := by decide +kernel
theorem dX4_walk_18 : decode cX4_walk 18 = .ok (.iconst 0, 1) := by decide +kernel
theorem dX4_walk_19 : decode cX4_walk 19 = .ok (.istore 4, 2) := by decide +kernel
theorem dX4_walk_21 : decode cX4_walk 21 = .ok (.aload_n 0, 1) := by decide +kernel
theorem dX4_walk_22 : decode cX4_walk 22 = .ok (.iload 4, 2) := by decide +kernel
theorem dX4_walk_24 : decode cX4_walk 24 = .ok (.ifCond .ne 7, 3) := by decide +kernel
theorem dX4_walk_27 : decode cX4_walk 27 = .ok (.iconst 1, 1) := by decide +kernel
theorem dX4_walk_28 : decode cX4_walk 28 = .ok (.goto 20, 3) := by decide +kernel
theorem dX4_walk_31 : decode cX4_walk 31 = .ok (.aload_n 0, 1) := by decide +kernel
theorem dX4_walk_32 : decode cX4_walk 32 = .ok (.getfield 16, 3) := by decide +kernel
theorem dX4_walk_35 : decode cX4_walk 35 = .ok (.iload_n 1, 1) := by decide +kernel
theorem dX4_walk_36 : decode cX4_walk 36 = .ok (.iload_n 3, 1) := by decide +kernel
theorem dX4_walk_37 : decode cX4_walk 37 = .ok (.invokestatic 156, 3) := by decide +kernel
theorem dX4_walk_40 : decode cX4_walk 40 = .ok (.ifCond .eq 7, 3) := by decide +kernel
theorem dX4_walk_43 : decode cX4_walk 43 = .ok (.iconst 0, 1) := by decide +kernel
theorem dX4_walk_44 : decode cX4_walk 44 = .ok (.goto 4, 3) := by decide +kernel
theorem dX4_walk_47 : decode cX4_walk 47 = .ok (.iconst 2, 1) := by decide +kernel
theorem dX4_walk_48 : decode cX4_walk 48 = .ok (.invokevirtual 113, 3) := by decide +kernel
theorem dX4_walk_51 : decode cX4_walk 51 = .ok (.ifCond .eq 5, 3) := by decide +kernel
theorem dX4_walk_54 : decode cX4_walk 54 = .ok (.iconst 0, 1) := by decide +kernel
theorem dX4_walk_55 : decode cX4_walk 55 = .ok (.ireturn, 1) := by decide +kernel
theorem dX4_walk_56 : decode cX4_walk 56 = .ok (.aload_n 0, 1) := by decide +kernel
theorem dX4_walk_57 : decode cX4_walk 57 = .ok (.invokevirtual 217, 3) := by decide +kernel
theorem dX4_walk_60 : decode cX4_walk 60 = .ok (.aload_n 0, 1) := by decide +kernel
theorem dX4_walk_61 : decode cX4_walk 61 = .ok (.getfield 16, 3) := by decide +kernel
theorem dX4_walk_64 : decode cX4_walk 64 = .ok (.iload_n 1, 1) := by decide +kernel
theorem dX4_walk_65 : decode cX4_walk 65 = .ok (.iload_n 2, 1) := by decide +kernel
theorem dX4_walk_66 : decode cX4_walk 66 = .ok (.iload_n 3, 1) := by decide +kernel
theorem dX4_walk_67 : decode cX4_walk 67 = .ok (.invokestatic 160, 3) := by decide +kernel
theorem dX4_walk_70 : decode cX4_walk 70 = .ok (.ireturn, 1) := by decide +kernel
set_option maxRecDepth 20000 in
theorem ggX4_turn_X4_isVisitor : GoodIn wsX4_turn wsX4_isVisitor := goodIn_r _ [5, 6, 7, 8, 4, 9] rfl rfl
set_option maxRecDepth 20000 in
theorem gX4_turn_X4_isVisitor : GoodIn wsX4_turn (va_wsS RX4 205 yX4_isVisitor wsX4_isVisitor) := goodIn_app (goodIn_of _ (by decide +kernel)) ggX4_turn_X4_isVisitor
set_option maxRecDepth 20000 in
theorem ggX4_turn_X4_isAtGate : GoodIn wsX4_turn wsX4_isAtGate := goodIn_r _ [12, 13, 14, 4, 15] rfl rfl
set_option maxRecDepth 20000 in
theorem gX4_turn_X4_isAtGate : GoodIn wsX4_turn (va_wsS RX4 150 yX4_isAtGate wsX4_isAtGate) := goodIn_app (goodIn_of _ (by decide +kernel)) ggX4_turn_X4_isAtGate
set_option maxRecDepth 20000 in
theorem ggX4_turn_X4_refused : GoodIn wsX4_turn wsX4_refused := goodIn_r _ [19, 20, 33, 34, 35, 36, 37, 38, 39, 40, 41, 42, 43, 44, 45] rfl rfl
set_option maxRecDepth 20000 in
theorem gX4_turn_X4_refused : GoodIn wsX4_turn (wsV RX4 113 RX4 yX4_refused wsX4_refused) := goodIn_app (goodIn_of _ (by decide +kernel)) ggX4_turn_X4_refused
set_option maxRecDepth 20000 in
theorem ggX4_turn_X4_remember : GoodIn wsX4_turn wsX4_remember := goodIn_r _ [24, 25, 26, 1, 27, 28, 4, 29, 33, 34, 35, 36, 37, 38, 39, 40, 41, 42, 43, 44, 45] rfl rfl
set_option maxRecDepth 20000 in
theorem gX4_turn_X4_remember : GoodIn wsX4_turn (wsV RX4 217 RX4 yX4_remember wsX4_remember) := goodIn_app (goodIn_of _ (by decide +kernel)) ggX4_turn_X4_remember
set_option maxRecDepth 20000 in
theorem ggX4_turn_X4_turnIn : GoodIn wsX4_turn wsX4_turnIn := goodIn_r _ [32, 13, 14, 4, 15] rfl rfl
set_option maxRecDepth 20000 in
theorem gX4_turn_X4_turnIn : GoodIn wsX4_turn (va_wsS RX4 153 yX4_turnIn wsX4_turnIn) := goodIn_app (goodIn_of _ (by decide +kernel)) ggX4_turn_X4_turnIn
theorem dX4_turn_0 : decode cX4_turn 0 = .ok (.aload_n 0, 1) := by decide +kernel
theorem dX4_turn_1 : decode cX4_turn 1 = .ok (.iload_n 1, 1) := by decide +kernel
theorem dX4_turn_2 : decode cX4_turn 2 = .ok (.invokestatic 205, 3) := by decide +kernel
theorem dX4_turn_5 : decode cX4_turn 5 = .ok (.ifCond .ne 7, 3) := by decide +kernel
theorem dX4_turn_8 : decode cX4_turn 8 = .ok (.iconst 1, 1) := by decide +kernel
theorem dX4_turn_9 : decode cX4_turn 9 = .ok (.goto 19, 3) := by decide +kernel
theorem dX4_turn_12 : decode cX4_turn 12 = .ok (.aload_n 0, 1) := by decide +kernel
theorem dX4_turn_13 : decode cX4_turn 13 = .ok (.getfield 16, 3) := by decide +kernel
theorem dX4_turn_16 : decode cX4_turn 16 = .ok (.iload_n 1, 1) := by decide +kernel
theorem dX4_turn_17 : decode cX4_turn 17 = .ok (.invokestatic 150, 3) := by decide +kernel
theorem dX4_turn_20 : decode cX4_turn 20 = .ok (.ifCond .eq 7, 3) := by decide +kernel
theorem dX4_turn_23 : decode cX4_turn 23 = .ok (.iconst 0, 1) := by decide +kernel
theorem dX4_turn_24 : decode cX4_turn 24 = .ok (.goto 4, 3) := by decide +kernel
theorem dX4_turn_27 : decode cX4_turn 27 = .ok (.iconst 2, 1) := by decide +kernel
theorem dX4_turn_28 : decode cX4_turn 28 = .ok (.invokevirtual 113, 3) := by decide +kernel
theorem dX4_turn_31 : decode cX4_turn 31 = .ok (.ifCond .eq 5, 3) := by decide +kernel
theorem dX4_turn_34 : decode cX4_turn 34 = .ok (.iconst 0, 1) := by decide +kernel
theorem dX4_turn_35 : decode cX4_turn 35 = .ok (.ireturn, 1) := by decide +kernel
theorem dX4_turn_36 : decode cX4_turn 36 = .ok (.aload_n 0, 1) := by decide +kernel
theorem dX4_turn_37 : decode cX4_turn 37 = .ok (.invokevirtual 217, 3) := by decide +kernel
theorem dX4_turn_40 : decode cX4_turn 40 = .ok (.aload_n 0, 1) := by decide +kernel
theorem dX4_turn_41 : decode cX4_turn 41 = .ok (.getfield 16, 3) := by decide +kernel
theorem dX4_turn_44 : decode cX4_turn 44 = .ok (.iload_n 1, 1) := by decide +kernel
theorem dX4_turn_45 : decode cX4_turn 45 = .ok (.invokestatic 153, 3) := by decide +kernel
theorem dX4_turn_48 : decode cX4_turn 48 = .ok (.ireturn, 1) := by decide +kernel
set_option maxRecDepth 20000 in
theorem ggX4_ticks_X4_in : GoodIn wsX4_ticks wsX4_in := goodIn_r _ [6] rfl rfl
set_option maxRecDepth 20000 in
theorem gX4_ticks_X4_in : GoodIn wsX4_ticks (va_wsS RX4 69 yX4_in wsX4_in) := goodIn_app (goodIn_of _ (by decide +kernel)) ggX4_ticks_X4_in
set_option maxRecDepth 20000 in
theorem ggX4_ticks_X4_refused : GoodIn wsX4_ticks wsX4_refused := goodIn_r _ [10, 11, 63, 64, 65, 66, 67, 68, 69, 70, 71, 72, 73, 74, 75] rfl rfl
set_option maxRecDepth 20000 in
theorem gX4_ticks_X4_refused : GoodIn wsX4_ticks (wsV RX4 113 RX4 yX4_refused wsX4_refused) := goodIn_app (goodIn_of _ (by decide +kernel)) ggX4_ticks_X4_refused
set_option maxRecDepth 20000 in
theorem ggX4_ticks_X4_remember : GoodIn wsX4_ticks wsX4_remember := goodIn_r _ [15, 16, 17, 2, 18, 19, 5, 20, 63, 64, 65, 66, 67, 68, 69, 70, 71, 72, 73, 74, 75] rfl rfl
set_option maxRecDepth 20000 in
theorem gX4_ticks_X4_remember : GoodIn wsX4_ticks (wsV RX4 217 RX4 yX4_remember wsX4_remember) := goodIn_app (goodIn_of _ (by decide +kernel)) ggX4_ticks_X4_remember
set_option maxRecDepth 20000 in
theorem ggX4_ticks_X4_ticksIn : GoodIn wsX4_ticks wsX4_ticksIn := goodIn_r _ [23, 24, 25, 5, 26, 27, 28, 29, 30, 31, 32, 33, 34, 3, 4, 6, 35, 36, 37, 38, 39, 40, 41, 42, 43, 44, 45, 46, 47, 48, 49, 50, 51, 52, 53, 54, 55, 56, 57, 58, 59, 60, 61, 62, 18, 19, 20] rfl rfl
set_option maxRecDepth 20000 in
theorem gX4_ticks_X4_ticksIn : GoodIn wsX4_ticks (va_wsS RX4 164 yX4_ticksIn wsX4_ticksIn) := goodIn_app (goodIn_of _ (by decide +kernel)) ggX4_ticks_X4_ticksIn
theorem dX4_ticks_0 : decode cX4_ticks 0 = .ok (.aload_n 0, 1) := by decide +kernel
theorem dX4_ticks_1 : decode cX4_ticks 1 = .ok (.iload_n 1, 1) := by decide +kernel
theorem dX4_ticks_2 : decode cX4_ticks 2 = .ok (.i2l, 1) := by decide +kernel
theorem dX4_ticks_3 : decode cX4_ticks 3 = .ok (.lconst 1, 1) := by decide +kernel
theorem dX4_ticks_4 : decode cX4_ticks 4 = .ok (.ldc2_w 226, 3) := by decide +kernel
theorem dX4_ticks_7 : decode cX4_ticks 7 = .ok (.invokestatic 69, 3) := by decide +kernel
theorem dX4_ticks_10 : decode cX4_ticks 10 = .ok (.ifCond .eq 7, 3) := by decide +kernel
theorem dX4_ticks_13 : decode cX4_ticks 13 = .ok (.iconst 0, 1) := by decide +kernel
theorem dX4_ticks_14 : decode cX4_ticks 14 = .ok (.goto 4, 3) := by decide +kernel
theorem dX4_ticks_17 : decode cX4_ticks 17 = .ok (.iconst 1, 1) := by decide +kernel
theorem dX4_ticks_18 : decode cX4_ticks 18 = .ok (.invokevirtual 113, 3) := by decide +kernel
theorem dX4_ticks_21 : decode cX4_ticks 21 = .ok (.ifCond .eq 5, 3) := by decide +kernel
theorem dX4_ticks_24 : decode cX4_ticks 24 = .ok (.iconst 0, 1) := by decide +kernel
theorem dX4_ticks_25 : decode cX4_ticks 25 = .ok (.ireturn, 1) := by decide +kernel
theorem dX4_ticks_26 : decode cX4_ticks 26 = .ok (.aload_n 0, 1) := by decide +kernel
theorem dX4_ticks_27 : decode cX4_ticks 27 = .ok (.invokevirtual 217, 3) := by decide +kernel
theorem dX4_ticks_30 : decode cX4_ticks 30 = .ok (.aload_n 0, 1) := by decide +kernel
theorem dX4_ticks_31 : decode cX4_ticks 31 = .ok (.getfield 16, 3) := by decide +kernel
theorem dX4_ticks_34 : decode cX4_ticks 34 = .ok (.iload_n 1, 1) := by decide +kernel
theorem dX4_ticks_35 : decode cX4_ticks 35 = .ok (.invokestatic 164, 3) := by decide +kernel
theorem dX4_ticks_38 : decode cX4_ticks 38 = .ok (.ireturn, 1) := by decide +kernel
set_option maxRecDepth 20000 in
theorem ggX4_set_X4_in : GoodIn wsX4_set wsX4_in := goodIn_r _ [9] rfl rfl
set_option maxRecDepth 20000 in
theorem gX4_set_X4_in : GoodIn wsX4_set (va_wsS RX4 69 yX4_in wsX4_in) := goodIn_app (goodIn_of _ (by decide +kernel)) ggX4_set_X4_in
set_option maxRecDepth 20000 in
theorem ggX4_set_X4_refused : GoodIn wsX4_set wsX4_refused := goodIn_r _ [13, 14, 27, 28, 29, 30, 31, 32, 33, 34, 35, 36, 37, 38, 39] rfl rfl
set_option maxRecDepth 20000 in
theorem gX4_set_X4_refused : GoodIn wsX4_set (wsV RX4 113 RX4 yX4_refused wsX4_refused) := goodIn_app (goodIn_of _ (by decide +kernel)) ggX4_set_X4_refused
set_option maxRecDepth 20000 in
theorem ggX4_set_X4_remember : GoodIn wsX4_set wsX4_remember := goodIn_r _ [18, 19, 20, 5, 21, 22, 8, 23, 27, 28, 29, 30, 31, 32, 33, 34, 35, 36, 37, 38, 39] rfl rfl
set_option maxRecDepth 20000 in
theorem gX4_set_X4_remember : GoodIn wsX4_set (wsV RX4 217 RX4 yX4_remember wsX4_remember) := goodIn_app (goodIn_of _ (by decide +kernel)) ggX4_set_X4_remember
set_option maxRecDepth 20000 in
theorem ggX4_set_X4_gateAt : GoodIn wsX4_set wsX4_gateAt := goodIn_r _ [26] rfl rfl
set_option maxRecDepth 20000 in
theorem gX4_set_X4_gateAt : GoodIn wsX4_set (va_wsS RX4 42 yX4_gateAt wsX4_gateAt) := goodIn_app (goodIn_of _ (by decide +kernel)) ggX4_set_X4_gateAt
theorem dX4_set_0 : decode cX4_set 0 = .ok (.iload_n 1, 1) := by decide +kernel
theorem dX4_set_1 : decode cX4_set 1 = .ok (.i2l, 1) := by decide +kernel
theorem dX4_set_2 : decode cX4_set 2 = .ok (.lconst 0, 1) := by decide +kernel
theorem dX4_set_3 : decode cX4_set 3 = .ok (.ldc2_w 198, 3) := by decide +kernel
theorem dX4_set_6 : decode cX4_set 6 = .ok (.invokestatic 69, 3) := by decide +kernel
theorem dX4_set_9 : decode cX4_set 9 = .ok (.ifCond .eq 15, 3) := by decide +kernel
theorem dX4_set_12 : decode cX4_set 12 = .ok (.iload_n 2, 1) := by decide +kernel
theorem dX4_set_13 : decode cX4_set 13 = .ok (.i2l, 1) := by decide +kernel
theorem dX4_set_14 : decode cX4_set 14 = .ok (.lconst 0, 1) := by decide +kernel
theorem dX4_set_15 : decode cX4_set 15 = .ok (.ldc2_w 228, 3) := by decide +kernel
theorem dX4_set_18 : decode cX4_set 18 = .ok (.invokestatic 69, 3) := by decide +kernel
theorem dX4_set_21 : decode cX4_set 21 = .ok (.ifCond .ne 37, 3) := by decide +kernel
theorem dX4_set_24 : decode cX4_set 24 = .ok (.iload_n 1, 1) := by decide +kernel
theorem dX4_set_25 : decode cX4_set 25 = .ok (.iconst 3, 1) := by decide +kernel
theorem dX4_set_26 : decode cX4_set 26 = .ok (.if_icmp .ne 15, 3) := by decide +kernel
theorem dX4_set_29 : decode cX4_set 29 = .ok (.iload_n 2, 1) := by decide +kernel
theorem dX4_set_30 : decode cX4_set 30 = .ok (.i2l, 1) := by decide +kernel
theorem dX4_set_31 : decode cX4_set 31 = .ok (.lconst 1, 1) := by decide +kernel
theorem dX4_set_32 : decode cX4_set 32 = .ok (.ldc2_w 83, 3) := by decide +kernel
theorem dX4_set_35 : decode cX4_set 35 = .ok (.invokestatic 69, 3) := by decide +kernel
theorem dX4_set_38 : decode cX4_set 38 = .ok (.ifCond .ne 20, 3) := by decide +kernel
theorem dX4_set_41 : decode cX4_set 41 = .ok (.iload_n 1, 1) := by decide +kernel
theorem dX4_set_42 : decode cX4_set 42 = .ok (.iconst 4, 1) := by decide +kernel
theorem dX4_set_43 : decode cX4_set 43 = .ok (.if_icmp .ne 19, 3) := by decide +kernel
theorem dX4_set_46 : decode cX4_set 46 = .ok (.iload_n 2, 1) := by decide +kernel
theorem dX4_set_47 : decode cX4_set 47 = .ok (.i2l, 1) := by decide +kernel
theorem dX4_set_48 : decode cX4_set 48 = .ok (.lconst 0, 1) := by decide +kernel
theorem dX4_set_49 : decode cX4_set 49 = .ok (.ldc2_w 124, 3) := by decide +kernel
theorem dX4_set_52 : decode cX4_set 52 = .ok (.invokestatic 69, 3) := by decide +kernel
theorem dX4_set_55 : decode cX4_set 55 = .ok (.ifCond .eq 7, 3) := by decide +kernel
theorem dX4_set_58 : decode cX4_set 58 = .ok (.iconst 1, 1) := by decide +kernel
theorem dX4_set_59 : decode cX4_set 59 = .ok (.goto 4, 3) := by decide +kernel
theorem dX4_set_62 : decode cX4_set 62 = .ok (.iconst 0, 1) := by decide +kernel
theorem dX4_set_63 : decode cX4_set 63 = .ok (.istore_n 3, 1) := by decide +kernel
theorem dX4_set_64 : decode cX4_set 64 = .ok (.aload_n 0, 1) := by decide +kernel
theorem dX4_set_65 : decode cX4_set 65 = .ok (.iload_n 3, 1) := by decide +kernel
theorem dX4_set_66 : decode cX4_set 66 = .ok (.ifCond .eq 7, 3) := by decide +kernel
theorem dX4_set_69 : decode cX4_set 69 = .ok (.iconst 0, 1) := by decide +kernel
theorem dX4_set_70 : decode cX4_set 70 = .ok (.goto 4, 3) := by decide +kernel
theorem dX4_set_73 : decode cX4_set 73 = .ok (.iconst 1, 1) := by decide +kernel
theorem dX4_set_74 : decode cX4_set 74 = .ok (.invokevirtual 113, 3) := by decide +kernel
theorem dX4_set_77 : decode cX4_set 77 = .ok (.ifCond .eq 5, 3) := by decide +kernel
theorem dX4_set_80 : decode cX4_set 80 = .ok (.iconst 0, 1) := by decide +kernel
theorem dX4_set_81 : decode cX4_set 81 = .ok (.ireturn, 1) := by decide +kernel
theorem dX4_set_82 : decode cX4_set 82 = .ok (.aload_n 0, 1) := by decide +kernel
theorem dX4_set_83 : decode cX4_set 83 = .ok (.invokevirtual 217, 3) := by decide +kernel
theorem dX4_set_86 : decode cX4_set 86 = .ok (.iload_n 1, 1) := by decide +kernel
theorem dX4_set_87 : decode cX4_set 87 = .ok (.iconst 3, 1) := by decide +kernel
theorem dX4_set_88 : decode cX4_set 88 = .ok (.if_icmp .ge 11, 3) := by decide +kernel
theorem dX4_set_91 : decode cX4_set 91 = .ok (.iload_n 1, 1) := by decide +kernel
theorem dX4_set_92 : decode cX4_set 92 = .ok (.iconst 0, 1) := by decide +kernel
theorem dX4_set_93 : decode cX4_set 93 = .ok (.invokestatic 42, 3) := by decide +kernel
theorem dX4_set_96 : decode cX4_set 96 = .ok (.goto 10, 3) := by decide +kernel
theorem dX4_set_99 : decode cX4_set 99 = .ok (.sipush 196, 3) := by decide +kernel
theorem dX4_set_102 : decode cX4_set 102 = .ok (.iload_n 1, 1) := by decide +kernel
theorem dX4_set_103 : decode cX4_set 103 = .ok (.iadd, 1) := by decide +kernel
theorem dX4_set_104 : decode cX4_set 104 = .ok (.iconst 3, 1) := by decide +kernel
theorem dX4_set_105 : decode cX4_set 105 = .ok (.isub, 1) := by decide +kernel
theorem dX4_set_106 : decode cX4_set 106 = .ok (.istore 4, 2) := by decide +kernel
theorem dX4_set_108 : decode cX4_set 108 = .ok (.aload_n 0, 1) := by decide +kernel
theorem dX4_set_109 : decode cX4_set 109 = .ok (.getfield 16, 3) := by decide +kernel
theorem dX4_set_112 : decode cX4_set 112 = .ok (.iload 4, 2) := by decide +kernel
theorem dX4_set_114 : decode cX4_set 114 = .ok (.iaload, 1) := by decide +kernel
theorem dX4_set_115 : decode cX4_set 115 = .ok (.istore 5, 2) := by decide +kernel
theorem dX4_set_117 : decode cX4_set 117 = .ok (.aload_n 0, 1) := by decide +kernel
theorem dX4_set_118 : decode cX4_set 118 = .ok (.getfield 16, 3) := by decide +kernel
theorem dX4_set_121 : decode cX4_set 121 = .ok (.iload 4, 2) := by decide +kernel
theorem dX4_set_123 : decode cX4_set 123 = .ok (.iload_n 2, 1) := by decide +kernel
theorem dX4_set_124 : decode cX4_set 124 = .ok (.iastore, 1) := by decide +kernel
theorem dX4_set_125 : decode cX4_set 125 = .ok (.iload 5, 2) := by decide +kernel
theorem dX4_set_127 : decode cX4_set 127 = .ok (.ireturn, 1) := by decide +kernel
set_option maxRecDepth 20000 in
theorem ggX4_undo_X4_refused : GoodIn wsX4_undo wsX4_refused := goodIn_r _ [8, 9, 13, 14, 15, 16, 17, 18, 19, 20, 21, 22, 23, 24, 25] rfl rfl
set_option maxRecDepth 20000 in
theorem gX4_undo_X4_refused : GoodIn wsX4_undo (wsV RX4 113 RX4 yX4_refused wsX4_refused) := goodIn_app (goodIn_of _ (by decide +kernel)) ggX4_undo_X4_refused
set_option maxRecDepth 20000 in
theorem ggX4_undo_X4_copy : GoodIn wsX4_undo wsX4_copy := goodIn_r _ [12] rfl rfl
set_option maxRecDepth 20000 in
theorem gX4_undo_X4_copy : GoodIn wsX4_undo (va_wsS RX4 49 yX4_copy wsX4_copy) := goodIn_app (goodIn_of _ (by decide +kernel)) ggX4_undo_X4_copy
theorem dX4_undo_0 : decode cX4_undo 0 = .ok (.aload_n 0, 1) := by decide +kernel
theorem dX4_undo_1 : decode cX4_undo 1 = .ok (.aload_n 0, 1) := by decide +kernel
theorem dX4_undo_2 : decode cX4_undo 2 = .ok (.getfield 46, 3) := by decide +kernel
theorem dX4_undo_5 : decode cX4_undo 5 = .ok (.ifCond .ne 7, 3) := by decide +kernel
theorem dX4_undo_8 : decode cX4_undo 8 = .ok (.iconst 1, 1) := by decide +kernel
theorem dX4_undo_9 : decode cX4_undo 9 = .ok (.goto 4, 3) := by decide +kernel
theorem dX4_undo_12 : decode cX4_undo 12 = .ok (.iconst 0, 1) := by decide +kernel
theorem dX4_undo_13 : decode cX4_undo 13 = .ok (.invokevirtual 113, 3) := by decide +kernel
theorem dX4_undo_16 : decode cX4_undo 16 = .ok (.ifCond .eq 5, 3) := by decide +kernel
theorem dX4_undo_19 : decode cX4_undo 19 = .ok (.iconst 0, 1) := by decide +kernel
theorem dX4_undo_20 : decode cX4_undo 20 = .ok (.ireturn, 1) := by decide +kernel
theorem dX4_undo_21 : decode cX4_undo 21 = .ok (.aload_n 0, 1) := by decide +kernel
theorem dX4_undo_22 : decode cX4_undo 22 = .ok (.dup, 1) := by decide +kernel
theorem dX4_undo_23 : decode cX4_undo 23 = .ok (.getfield 46, 3) := by decide +kernel
theorem dX4_undo_26 : decode cX4_undo 26 = .ok (.iconst 1, 1) := by decide +kernel
theorem dX4_undo_27 : decode cX4_undo 27 = .ok (.isub, 1) := by decide +kernel
theorem dX4_undo_28 : decode cX4_undo 28 = .ok (.putfield 46, 3) := by decide +kernel
theorem dX4_undo_31 : decode cX4_undo 31 = .ok (.aload_n 0, 1) := by decide +kernel
theorem dX4_undo_32 : decode cX4_undo 32 = .ok (.getfield 22, 3) := by decide +kernel
theorem dX4_undo_35 : decode cX4_undo 35 = .ok (.sipush 233, 3) := by decide +kernel
theorem dX4_undo_38 : decode cX4_undo 38 = .ok (.aload_n 0, 1) := by decide +kernel
theorem dX4_undo_39 : decode cX4_undo 39 = .ok (.getfield 46, 3) := by decide +kernel
theorem dX4_undo_42 : decode cX4_undo 42 = .ok (.imul, 1) := by decide +kernel
theorem dX4_undo_43 : decode cX4_undo 43 = .ok (.aload_n 0, 1) := by decide +kernel
theorem dX4_undo_44 : decode cX4_undo 44 = .ok (.getfield 16, 3) := by decide +kernel
theorem dX4_undo_47 : decode cX4_undo 47 = .ok (.iconst 0, 1) := by decide +kernel
theorem dX4_undo_48 : decode cX4_undo 48 = .ok (.sipush 233, 3) := by decide +kernel
theorem dX4_undo_51 : decode cX4_undo 51 = .ok (.invokestatic 49, 3) := by decide +kernel
theorem dX4_undo_54 : decode cX4_undo 54 = .ok (.aload_n 0, 1) := by decide +kernel
theorem dX4_undo_55 : decode cX4_undo 55 = .ok (.getfield 46, 3) := by decide +kernel
theorem dX4_undo_58 : decode cX4_undo 58 = .ok (.ireturn, 1) := by decide +kernel
set_option maxRecDepth 20000 in
theorem ggX4_shouted_X4_isBook : GoodIn wsX4_shouted wsX4_isBook := goodIn_r _ [6, 7, 8, 9, 5, 10] rfl rfl
set_option maxRecDepth 20000 in
theorem gX4_shouted_X4_isBook : GoodIn wsX4_shouted (va_wsS RX4 200 yX4_isBook wsX4_isBook) := goodIn_app (goodIn_of _ (by decide +kernel)) ggX4_shouted_X4_isBook
set_option maxRecDepth 20000 in
theorem ggX4_shouted_X4_refused : GoodIn wsX4_shouted wsX4_refused := goodIn_r _ [14, 15, 62, 63, 64, 65, 66, 67, 68, 69, 70, 71, 72, 73, 74] rfl rfl
set_option maxRecDepth 20000 in
theorem gX4_shouted_X4_refused : GoodIn wsX4_shouted (wsV RX4 113 RX4 yX4_refused wsX4_refused) := goodIn_app (goodIn_of _ (by decide +kernel)) ggX4_shouted_X4_refused
set_option maxRecDepth 20000 in
theorem ggX4_shouted_X4_tryIt : GoodIn wsX4_shouted wsX4_tryIt := goodIn_r _ [19, 2, 1, 20, 21, 5, 22, 62, 63, 64, 65, 66, 67, 68, 69, 70, 71, 72, 73, 74] rfl rfl
set_option maxRecDepth 20000 in
theorem gX4_shouted_X4_tryIt : GoodIn wsX4_shouted (wsV RX4 230 RX4 yX4_tryIt wsX4_tryIt) := goodIn_app (goodIn_of _ (by decide +kernel)) ggX4_shouted_X4_tryIt
set_option maxRecDepth 20000 in
theorem ggX4_shouted_X4_tick : GoodIn wsX4_shouted wsX4_tick := goodIn_r _ [25, 26, 27, 5, 28, 29, 30, 31, 32, 33, 8, 9, 10, 34, 35, 36, 37, 38, 39, 40, 41, 42, 43, 44, 45, 46, 47, 48, 49, 50, 51, 52, 53, 54, 55, 56, 57, 58, 59, 60, 61, 20, 21, 22] rfl rfl
set_option maxRecDepth 20000 in
theorem gX4_shouted_X4_tick : GoodIn wsX4_shouted (va_wsS RX4 102 yX4_tick wsX4_tick) := goodIn_app (goodIn_of _ (by decide +kernel)) ggX4_shouted_X4_tick
set_option maxRecDepth 20000 in
theorem ggX4_shouted_X4_bookAt : GoodIn wsX4_shouted wsX4_bookAt := goodIn_r _ [39] rfl rfl
set_option maxRecDepth 20000 in
theorem gX4_shouted_X4_bookAt : GoodIn wsX4_shouted (va_wsS RX4 53 yX4_bookAt wsX4_bookAt) := goodIn_app (goodIn_of _ (by decide +kernel)) ggX4_shouted_X4_bookAt
theorem dX4_shouted_0 : decode cX4_shouted 0 = .ok (.aload_n 0, 1) := by decide +kernel
theorem dX4_shouted_1 : decode cX4_shouted 1 = .ok (.iload_n 1, 1) := by decide +kernel
theorem dX4_shouted_2 : decode cX4_shouted 2 = .ok (.invokestatic 200, 3) := by decide +kernel
theorem dX4_shouted_5 : decode cX4_shouted 5 = .ok (.ifCond .eq 7, 3) := by decide +kernel
theorem dX4_shouted_8 : decode cX4_shouted 8 = .ok (.iconst 0, 1) := by decide +kernel
theorem dX4_shouted_9 : decode cX4_shouted 9 = .ok (.goto 4, 3) := by decide +kernel
theorem dX4_shouted_12 : decode cX4_shouted 12 = .ok (.iconst 1, 1) := by decide +kernel
theorem dX4_shouted_13 : decode cX4_shouted 13 = .ok (.invokevirtual 113, 3) := by decide +kernel
theorem dX4_shouted_16 : decode cX4_shouted 16 = .ok (.ifCond .eq 5, 3) := by decide +kernel
theorem dX4_shouted_19 : decode cX4_shouted 19 = .ok (.iconst 0, 1) := by decide +kernel
theorem dX4_shouted_20 : decode cX4_shouted 20 = .ok (.ireturn, 1) := by decide +kernel
theorem dX4_shouted_21 : decode cX4_shouted 21 = .ok (.aload_n 0, 1) := by decide +kernel
theorem dX4_shouted_22 : decode cX4_shouted 22 = .ok (.invokevirtual 230, 3) := by decide +kernel
theorem dX4_shouted_25 : decode cX4_shouted 25 = .ok (.iconst 1, 1) := by decide +kernel
theorem dX4_shouted_26 : decode cX4_shouted 26 = .ok (.istore_n 2, 1) := by decide +kernel
theorem dX4_shouted_27 : decode cX4_shouted 27 = .ok (.iload_n 2, 1) := by decide +kernel
theorem dX4_shouted_28 : decode cX4_shouted 28 = .ok (.bipush 100, 2) := by decide +kernel
theorem dX4_shouted_30 : decode cX4_shouted 30 = .ok (.if_icmp .ge 41, 3) := by decide +kernel
theorem dX4_shouted_33 : decode cX4_shouted 33 = .ok (.aload_n 0, 1) := by decide +kernel
theorem dX4_shouted_34 : decode cX4_shouted 34 = .ok (.getfield 19, 3) := by decide +kernel
theorem dX4_shouted_37 : decode cX4_shouted 37 = .ok (.invokestatic 102, 3) := by decide +kernel
theorem dX4_shouted_40 : decode cX4_shouted 40 = .ok (.aload_n 0, 1) := by decide +kernel
theorem dX4_shouted_41 : decode cX4_shouted 41 = .ok (.getfield 19, 3) := by decide +kernel
theorem dX4_shouted_44 : decode cX4_shouted 44 = .ok (.iload_n 1, 1) := by decide +kernel
theorem dX4_shouted_45 : decode cX4_shouted 45 = .ok (.iconst 4, 1) := by decide +kernel
theorem dX4_shouted_46 : decode cX4_shouted 46 = .ok (.invokestatic 53, 3) := by decide +kernel
theorem dX4_shouted_49 : decode cX4_shouted 49 = .ok (.iaload, 1) := by decide +kernel
theorem dX4_shouted_50 : decode cX4_shouted 50 = .ok (.aload_n 0, 1) := by decide +kernel
theorem dX4_shouted_51 : decode cX4_shouted 51 = .ok (.getfield 16, 3) := by decide +kernel
theorem dX4_shouted_54 : decode cX4_shouted 54 = .ok (.iload_n 1, 1) := by decide +kernel
theorem dX4_shouted_55 : decode cX4_shouted 55 = .ok (.iconst 4, 1) := by decide +kernel
theorem dX4_shouted_56 : decode cX4_shouted 56 = .ok (.invokestatic 53, 3) := by decide +kernel
theorem dX4_shouted_59 : decode cX4_shouted 59 = .ok (.iaload, 1) := by decide +kernel
theorem dX4_shouted_60 : decode cX4_shouted 60 = .ok (.if_icmp .le 5, 3) := by decide +kernel
theorem dX4_shouted_63 : decode cX4_shouted 63 = .ok (.iload_n 2, 1) := by decide +kernel
theorem dX4_shouted_64 : decode cX4_shouted 64 = .ok (.ireturn, 1) := by decide +kernel
theorem dX4_shouted_65 : decode cX4_shouted 65 = .ok (.iinc 2 1, 3) := by decide +kernel
theorem dX4_shouted_68 : decode cX4_shouted 68 = .ok (.goto (-41), 3) := by decide +kernel
theorem dX4_shouted_71 : decode cX4_shouted 71 = .ok (.bipush (-9), 2) := by decide +kernel
theorem dX4_shouted_73 : decode cX4_shouted 73 = .ok (.ireturn, 1) := by decide +kernel
set_option maxRecDepth 20000 in
theorem ggX4_slipSet_X4_tick : GoodIn wsX4_slipSet wsX4_tick := goodIn_r _ [6, 7, 8, 5, 9, 10, 11, 12, 13, 14, 15, 16, 17, 18, 19, 20, 21, 22, 23, 24, 25, 26, 27, 28, 29, 30, 31, 32, 33, 34, 35, 36, 37, 38, 39, 40, 41, 42, 43, 44, 45, 46, 47, 48] rfl rfl
set_option maxRecDepth 20000 in
theorem gX4_slipSet_X4_tick : GoodIn wsX4_slipSet (va_wsS RX4 102 yX4_tick wsX4_tick) := goodIn_app (goodIn_of _ (by decide +kernel)) ggX4_slipSet_X4_tick
set_option maxRecDepth 20000 in
theorem ggX4_slipSet_X4_bookAt : GoodIn wsX4_slipSet wsX4_bookAt := goodIn_r _ [23] rfl rfl
set_option maxRecDepth 20000 in
theorem gX4_slipSet_X4_bookAt : GoodIn wsX4_slipSet (va_wsS RX4 53 yX4_bookAt wsX4_bookAt) := goodIn_app (goodIn_of _ (by decide +kernel)) ggX4_slipSet_X4_bookAt
set_option maxRecDepth 20000 in
theorem ggX4_slipSet_X4_isAtGate : GoodIn wsX4_slipSet wsX4_isAtGate := goodIn_r _ [51, 7, 8, 5, 9] rfl rfl
set_option maxRecDepth 20000 in
theorem gX4_slipSet_X4_isAtGate : GoodIn wsX4_slipSet (va_wsS RX4 150 yX4_isAtGate wsX4_isAtGate) := goodIn_app (goodIn_of _ (by decide +kernel)) ggX4_slipSet_X4_isAtGate
set_option maxRecDepth 20000 in
theorem ggX4_slipSet_X4_visitorAt : GoodIn wsX4_slipSet wsX4_visitorAt := goodIn_r _ [9] rfl rfl
set_option maxRecDepth 20000 in
theorem gX4_slipSet_X4_visitorAt : GoodIn wsX4_slipSet (va_wsS RX4 56 yX4_visitorAt wsX4_visitorAt) := goodIn_app (goodIn_of _ (by decide +kernel)) ggX4_slipSet_X4_visitorAt
set_option maxRecDepth 20000 in
theorem ggX4_slipSet_X4_toldWhenOut : GoodIn wsX4_slipSet wsX4_toldWhenOut := goodIn_r _ [55, 1, 21, 22, 5, 23, 56, 57, 58, 59, 60, 61, 62, 63, 64, 65, 66, 67, 68] rfl rfl
set_option maxRecDepth 20000 in
theorem gX4_slipSet_X4_toldWhenOut : GoodIn wsX4_slipSet (wsV RX4 233 RX4 yX4_toldWhenOut wsX4_toldWhenOut) := goodIn_app (goodIn_of _ (by decide +kernel)) ggX4_slipSet_X4_toldWhenOut
theorem dX4_slipSet_0 : decode cX4_slipSet 0 = .ok (.iconst 0, 1) := by decide +kernel
theorem dX4_slipSet_1 : decode cX4_slipSet 1 = .ok (.istore_n 1, 1) := by decide +kernel
theorem dX4_slipSet_2 : decode cX4_slipSet 2 = .ok (.iconst 0, 1) := by decide +kernel
theorem dX4_slipSet_3 : decode cX4_slipSet 3 = .ok (.istore_n 2, 1) := by decide +kernel
theorem dX4_slipSet_4 : decode cX4_slipSet 4 = .ok (.iload_n 2, 1) := by decide +kernel
theorem dX4_slipSet_5 : decode cX4_slipSet 5 = .ok (.bipush 7, 2) := by decide +kernel
theorem dX4_slipSet_7 : decode cX4_slipSet 7 = .ok (.if_icmp .gt 16, 3) := by decide +kernel
theorem dX4_slipSet_10 : decode cX4_slipSet 10 = .ok (.aload_n 0, 1) := by decide +kernel
theorem dX4_slipSet_11 : decode cX4_slipSet 11 = .ok (.getfield 19, 3) := by decide +kernel
theorem dX4_slipSet_14 : decode cX4_slipSet 14 = .ok (.invokestatic 102, 3) := by decide +kernel
theorem dX4_slipSet_17 : decode cX4_slipSet 17 = .ok (.iinc 2 1, 3) := by decide +kernel
theorem dX4_slipSet_20 : decode cX4_slipSet 20 = .ok (.goto (-16), 3) := by decide +kernel
theorem dX4_slipSet_23 : decode cX4_slipSet 23 = .ok (.iconst 0, 1) := by decide +kernel
theorem dX4_slipSet_24 : decode cX4_slipSet 24 = .ok (.istore_n 2, 1) := by decide +kernel
theorem dX4_slipSet_25 : decode cX4_slipSet 25 = .ok (.iload_n 2, 1) := by decide +kernel
theorem dX4_slipSet_26 : decode cX4_slipSet 26 = .ok (.bipush 20, 2) := by decide +kernel
theorem dX4_slipSet_28 : decode cX4_slipSet 28 = .ok (.if_icmp .ge 94, 3) := by decide +kernel
theorem dX4_slipSet_31 : decode cX4_slipSet 31 = .ok (.aload_n 0, 1) := by decide +kernel
theorem dX4_slipSet_32 : decode cX4_slipSet 32 = .ok (.getfield 16, 3) := by decide +kernel
theorem dX4_slipSet_35 : decode cX4_slipSet 35 = .ok (.iload_n 2, 1) := by decide +kernel
theorem dX4_slipSet_36 : decode cX4_slipSet 36 = .ok (.iconst 0, 1) := by decide +kernel
theorem dX4_slipSet_37 : decode cX4_slipSet 37 = .ok (.invokestatic 53, 3) := by decide +kernel
theorem dX4_slipSet_40 : decode cX4_slipSet 40 = .ok (.iaload, 1) := by decide +kernel
theorem dX4_slipSet_41 : decode cX4_slipSet 41 = .ok (.iconst 1, 1) := by decide +kernel
theorem dX4_slipSet_42 : decode cX4_slipSet 42 = .ok (.isub, 1) := by decide +kernel
theorem dX4_slipSet_43 : decode cX4_slipSet 43 = .ok (.istore_n 3, 1) := by decide +kernel
theorem dX4_slipSet_44 : decode cX4_slipSet 44 = .ok (.iload_n 3, 1) := by decide +kernel
theorem dX4_slipSet_45 : decode cX4_slipSet 45 = .ok (.ifCond .lt 32, 3) := by decide +kernel
theorem dX4_slipSet_48 : decode cX4_slipSet 48 = .ok (.aload_n 0, 1) := by decide +kernel
theorem dX4_slipSet_49 : decode cX4_slipSet 49 = .ok (.getfield 16, 3) := by decide +kernel
theorem dX4_slipSet_52 : decode cX4_slipSet 52 = .ok (.iload_n 3, 1) := by decide +kernel
theorem dX4_slipSet_53 : decode cX4_slipSet 53 = .ok (.invokestatic 150, 3) := by decide +kernel
theorem dX4_slipSet_56 : decode cX4_slipSet 56 = .ok (.ifCond .eq 21, 3) := by decide +kernel
theorem dX4_slipSet_59 : decode cX4_slipSet 59 = .ok (.aload_n 0, 1) := by decide +kernel
theorem dX4_slipSet_60 : decode cX4_slipSet 60 = .ok (.getfield 19, 3) := by decide +kernel
theorem dX4_slipSet_63 : decode cX4_slipSet 63 = .ok (.iload_n 3, 1) := by decide +kernel
theorem dX4_slipSet_64 : decode cX4_slipSet 64 = .ok (.iconst 0, 1) := by decide +kernel
theorem dX4_slipSet_65 : decode cX4_slipSet 65 = .ok (.invokestatic 56, 3) := by decide +kernel
theorem dX4_slipSet_68 : decode cX4_slipSet 68 = .ok (.iaload, 1) := by decide +kernel
theorem dX4_slipSet_69 : decode cX4_slipSet 69 = .ok (.iconst 2, 1) := by decide +kernel
theorem dX4_slipSet_70 : decode cX4_slipSet 70 = .ok (.if_icmp .ne 7, 3) := by decide +kernel
theorem dX4_slipSet_73 : decode cX4_slipSet 73 = .ok (.iconst 1, 1) := by decide +kernel
theorem dX4_slipSet_74 : decode cX4_slipSet 74 = .ok (.goto 4, 3) := by decide +kernel
theorem dX4_slipSet_77 : decode cX4_slipSet 77 = .ok (.iconst 0, 1) := by decide +kernel
theorem dX4_slipSet_78 : decode cX4_slipSet 78 = .ok (.istore 4, 2) := by decide +kernel
theorem dX4_slipSet_80 : decode cX4_slipSet 80 = .ok (.iload_n 1, 1) := by decide +kernel
theorem dX4_slipSet_81 : decode cX4_slipSet 81 = .ok (.iload 4, 2) := by decide +kernel
theorem dX4_slipSet_83 : decode cX4_slipSet 83 = .ok (.ifCond .eq 30, 3) := by decide +kernel
theorem dX4_slipSet_86 : decode cX4_slipSet 86 = .ok (.aload_n 0, 1) := by decide +kernel
theorem dX4_slipSet_87 : decode cX4_slipSet 87 = .ok (.getfield 16, 3) := by decide +kernel
theorem dX4_slipSet_90 : decode cX4_slipSet 90 = .ok (.iload_n 2, 1) := by decide +kernel
theorem dX4_slipSet_91 : decode cX4_slipSet 91 = .ok (.iconst 1, 1) := by decide +kernel
theorem dX4_slipSet_92 : decode cX4_slipSet 92 = .ok (.invokestatic 53, 3) := by decide +kernel
theorem dX4_slipSet_95 : decode cX4_slipSet 95 = .ok (.iaload, 1) := by decide +kernel
theorem dX4_slipSet_96 : decode cX4_slipSet 96 = .ok (.ifCond .ne 17, 3) := by decide +kernel
theorem dX4_slipSet_99 : decode cX4_slipSet 99 = .ok (.aload_n 0, 1) := by decide +kernel
theorem dX4_slipSet_100 : decode cX4_slipSet 100 = .ok (.iload_n 2, 1) := by decide +kernel
theorem dX4_slipSet_101 : decode cX4_slipSet 101 = .ok (.invokevirtual 233, 3) := by decide +kernel
theorem dX4_slipSet_104 : decode cX4_slipSet 104 = .ok (.ifCond .ne 9, 3) := by decide +kernel
theorem dX4_slipSet_107 : decode cX4_slipSet 107 = .ok (.iconst 1, 1) := by decide +kernel
theorem dX4_slipSet_108 : decode cX4_slipSet 108 = .ok (.iload_n 2, 1) := by decide +kernel
theorem dX4_slipSet_109 : decode cX4_slipSet 109 = .ok (.ishl, 1) := by decide +kernel
theorem dX4_slipSet_110 : decode cX4_slipSet 110 = .ok (.goto 4, 3) := by decide +kernel
theorem dX4_slipSet_113 : decode cX4_slipSet 113 = .ok (.iconst 0, 1) := by decide +kernel
theorem dX4_slipSet_114 : decode cX4_slipSet 114 = .ok (.ior, 1) := by decide +kernel
theorem dX4_slipSet_115 : decode cX4_slipSet 115 = .ok (.istore_n 1, 1) := by decide +kernel
theorem dX4_slipSet_116 : decode cX4_slipSet 116 = .ok (.iinc 2 1, 3) := by decide +kernel
theorem dX4_slipSet_119 : decode cX4_slipSet 119 = .ok (.goto (-94), 3) := by decide +kernel
theorem dX4_slipSet_122 : decode cX4_slipSet 122 = .ok (.iload_n 1, 1) := by decide +kernel
theorem dX4_slipSet_123 : decode cX4_slipSet 123 = .ok (.ireturn, 1) := by decide +kernel
set_option maxRecDepth 20000 in
theorem ggX4_toldWhenOut_X4_bookAt : GoodIn wsX4_toldWhenOut wsX4_bookAt := goodIn_r _ [5] rfl rfl
set_option maxRecDepth 20000 in
theorem gX4_toldWhenOut_X4_bookAt : GoodIn wsX4_toldWhenOut (va_wsS RX4 53 yX4_bookAt wsX4_bookAt) := goodIn_app (goodIn_of _ (by decide +kernel)) ggX4_toldWhenOut_X4_bookAt
theorem dX4_toldWhenOut_0 : decode cX4_toldWhenOut 0 = .ok (.aload_n 0, 1) := by decide +kernel
theorem dX4_toldWhenOut_1 : decode cX4_toldWhenOut 1 = .ok (.getfield 19, 3) := by decide +kernel
theorem dX4_toldWhenOut_4 : decode cX4_toldWhenOut 4 = .ok (.iload_n 1, 1) := by decide +kernel
theorem dX4_toldWhenOut_5 : decode cX4_toldWhenOut 5 = .ok (.iconst 3, 1) := by decide +kernel
theorem dX4_toldWhenOut_6 : decode cX4_toldWhenOut 6 = .ok (.invokestatic 53, 3) := by decide +kernel
theorem dX4_toldWhenOut_9 : decode cX4_toldWhenOut 9 = .ok (.iaload, 1) := by decide +kernel
theorem dX4_toldWhenOut_10 : decode cX4_toldWhenOut 10 = .ok (.ireturn, 1) := by decide +kernel
set_option maxRecDepth 20000 in
theorem ggX4_slips_X4_tryIt : GoodIn wsX4_slips wsX4_tryIt := goodIn_r _ [6, 7, 8, 9, 10, 5, 11, 65, 66, 67, 68, 69, 70, 71, 72, 73, 74, 75, 76, 77] rfl rfl
set_option maxRecDepth 20000 in
theorem gX4_slips_X4_tryIt : GoodIn wsX4_slips (wsV RX4 230 RX4 yX4_tryIt wsX4_tryIt) := goodIn_app (goodIn_of _ (by decide +kernel)) ggX4_slips_X4_tryIt
set_option maxRecDepth 20000 in
theorem ggX4_slips_X4_slipSet : GoodIn wsX4_slips wsX4_slipSet := goodIn_r _ [15, 8, 7, 16, 17, 5, 18, 19, 20, 21, 22, 23, 24, 25, 26, 27, 28, 29, 30, 31, 32, 33, 34, 35, 36, 37, 38, 39, 40, 41, 42, 43, 44, 45, 46, 47, 48, 49, 50, 51, 52, 53, 54, 55, 56, 57, 9, 10, 11, 58, 59, 60, 61, 62, 63, 64, 65, 66, 67, 68, 69, 70, 71, 72, 73, 74, 75, 76, 77] rfl rfl
set_option maxRecDepth 20000 in
theorem gX4_slips_X4_slipSet : GoodIn wsX4_slips (wsV RX4 236 RX4 yX4_slipSet wsX4_slipSet) := goodIn_app (goodIn_of _ (by decide +kernel)) ggX4_slips_X4_slipSet
theorem dX4_slips_0 : decode cX4_slips 0 = .ok (.aload_n 0, 1) := by decide +kernel
theorem dX4_slips_1 : decode cX4_slips 1 = .ok (.iconst 0, 1) := by decide +kernel
theorem dX4_slips_2 : decode cX4_slips 2 = .ok (.putfield 36, 3) := by decide +kernel
theorem dX4_slips_5 : decode cX4_slips 5 = .ok (.aload_n 0, 1) := by decide +kernel
theorem dX4_slips_6 : decode cX4_slips 6 = .ok (.invokevirtual 230, 3) := by decide +kernel
theorem dX4_slips_9 : decode cX4_slips 9 = .ok (.aload_n 0, 1) := by decide +kernel
theorem dX4_slips_10 : decode cX4_slips 10 = .ok (.invokevirtual 236, 3) := by decide +kernel
theorem dX4_slips_13 : decode cX4_slips 13 = .ok (.ireturn, 1) := by decide +kernel
set_option maxRecDepth 20000 in
theorem ggX4_leastStrength_X4_isGate : GoodIn wsX4_leastStrength wsX4_isGate := goodIn_r _ [5, 6, 7, 8, 4, 9] rfl rfl
set_option maxRecDepth 20000 in
theorem gX4_leastStrength_X4_isGate : GoodIn wsX4_leastStrength (va_wsS RX4 211 yX4_isGate wsX4_isGate) := goodIn_app (goodIn_of _ (by decide +kernel)) ggX4_leastStrength_X4_isGate
set_option maxRecDepth 20000 in
theorem ggX4_leastStrength_X4_refused : GoodIn wsX4_leastStrength wsX4_refused := goodIn_r _ [13, 14, 73, 74, 75, 76, 77, 78, 79, 80, 81, 82, 83, 84, 85] rfl rfl
set_option maxRecDepth 20000 in
theorem gX4_leastStrength_X4_refused : GoodIn wsX4_leastStrength (wsV RX4 113 RX4 yX4_refused wsX4_refused) := goodIn_app (goodIn_of _ (by decide +kernel)) ggX4_leastStrength_X4_refused
set_option maxRecDepth 20000 in
theorem ggX4_leastStrength_X4_tryIt : GoodIn wsX4_leastStrength wsX4_tryIt := goodIn_r _ [18, 19, 1, 20, 21, 4, 22, 73, 74, 75, 76, 77, 78, 79, 80, 81, 82, 83, 84, 85] rfl rfl
set_option maxRecDepth 20000 in
theorem gX4_leastStrength_X4_tryIt : GoodIn wsX4_leastStrength (wsV RX4 230 RX4 yX4_tryIt wsX4_tryIt) := goodIn_app (goodIn_of _ (by decide +kernel)) ggX4_leastStrength_X4_tryIt
set_option maxRecDepth 20000 in
theorem ggX4_leastStrength_X4_gateAt : GoodIn wsX4_leastStrength wsX4_gateAt := goodIn_r _ [25] rfl rfl
set_option maxRecDepth 20000 in
theorem gX4_leastStrength_X4_gateAt : GoodIn wsX4_leastStrength (va_wsS RX4 42 yX4_gateAt wsX4_gateAt) := goodIn_app (goodIn_of _ (by decide +kernel)) ggX4_leastStrength_X4_gateAt
set_option maxRecDepth 20000 in
theorem ggX4_leastStrength_X4_slipSet : GoodIn wsX4_leastStrength wsX4_slipSet := goodIn_r _ [29, 1, 19, 30, 31, 4, 32, 33, 34, 35, 36, 37, 38, 39, 40, 7, 8, 9, 41, 42, 43, 44, 45, 46, 47, 48, 49, 23, 24, 25, 50, 51, 52, 53, 54, 55, 56, 57, 58, 59, 60, 61, 62, 63, 64, 65, 20, 21, 22, 66, 67, 68, 69, 70, 71, 72, 73, 74, 75, 76, 77, 78, 79, 80, 81, 82, 83, 84, 85] rfl rfl
set_option maxRecDepth 20000 in
theorem gX4_leastStrength_X4_slipSet : GoodIn wsX4_leastStrength (wsV RX4 236 RX4 yX4_slipSet wsX4_slipSet) := goodIn_app (goodIn_of _ (by decide +kernel)) ggX4_leastStrength_X4_slipSet
theorem dX4_leastStrength_0 : decode cX4_leastStrength 0 = .ok (.aload_n 0, 1) := by decide +kernel
theorem dX4_leastStrength_1 : decode cX4_leastStrength 1 = .ok (.iload_n 1, 1) := by decide +kernel
theorem dX4_leastStrength_2 : decode cX4_leastStrength 2 = .ok (.invokestatic 211, 3) := by decide +kernel
theorem dX4_leastStrength_5 : decode cX4_leastStrength 5 = .ok (.ifCond .eq 7, 3) := by decide +kernel
theorem dX4_leastStrength_8 : decode cX4_leastStrength 8 = .ok (.iconst 0, 1) := by decide +kernel
theorem dX4_leastStrength_9 : decode cX4_leastStrength 9 = .ok (.goto 4, 3) := by decide +kernel
theorem dX4_leastStrength_12 : decode cX4_leastStrength 12 = .ok (.iconst 1, 1) := by decide +kernel
theorem dX4_leastStrength_13 : decode cX4_leastStrength 13 = .ok (.invokevirtual 113, 3) := by decide +kernel
theorem dX4_leastStrength_16 : decode cX4_leastStrength 16 = .ok (.ifCond .eq 5, 3) := by decide +kernel
theorem dX4_leastStrength_19 : decode cX4_leastStrength 19 = .ok (.iconst 0, 1) := by decide +kernel
theorem dX4_leastStrength_20 : decode cX4_leastStrength 20 = .ok (.ireturn, 1) := by decide +kernel
theorem dX4_leastStrength_21 : decode cX4_leastStrength 21 = .ok (.iconst 0, 1) := by decide +kernel
theorem dX4_leastStrength_22 : decode cX4_leastStrength 22 = .ok (.istore_n 2, 1) := by decide +kernel
theorem dX4_leastStrength_23 : decode cX4_leastStrength 23 = .ok (.iload_n 2, 1) := by decide +kernel
theorem dX4_leastStrength_24 : decode cX4_leastStrength 24 = .ok (.bipush 16, 2) := by decide +kernel
theorem dX4_leastStrength_26 : decode cX4_leastStrength 26 = .ok (.if_icmp .ge 33, 3) := by decide +kernel
theorem dX4_leastStrength_29 : decode cX4_leastStrength 29 = .ok (.aload_n 0, 1) := by decide +kernel
theorem dX4_leastStrength_30 : decode cX4_leastStrength 30 = .ok (.invokevirtual 230, 3) := by decide +kernel
theorem dX4_leastStrength_33 : decode cX4_leastStrength 33 = .ok (.aload_n 0, 1) := by decide +kernel
theorem dX4_leastStrength_34 : decode cX4_leastStrength 34 = .ok (.getfield 19, 3) := by decide +kernel
theorem dX4_leastStrength_37 : decode cX4_leastStrength 37 = .ok (.iload_n 1, 1) := by decide +kernel
theorem dX4_leastStrength_38 : decode cX4_leastStrength 38 = .ok (.iconst 0, 1) := by decide +kernel
theorem dX4_leastStrength_39 : decode cX4_leastStrength 39 = .ok (.invokestatic 42, 3) := by decide +kernel
theorem dX4_leastStrength_42 : decode cX4_leastStrength 42 = .ok (.iload_n 2, 1) := by decide +kernel
theorem dX4_leastStrength_43 : decode cX4_leastStrength 43 = .ok (.iastore, 1) := by decide +kernel
theorem dX4_leastStrength_44 : decode cX4_leastStrength 44 = .ok (.aload_n 0, 1) := by decide +kernel
theorem dX4_leastStrength_45 : decode cX4_leastStrength 45 = .ok (.invokevirtual 236, 3) := by decide +kernel
theorem dX4_leastStrength_48 : decode cX4_leastStrength 48 = .ok (.ifCond .ne 5, 3) := by decide +kernel
theorem dX4_leastStrength_51 : decode cX4_leastStrength 51 = .ok (.iload_n 2, 1) := by decide +kernel
theorem dX4_leastStrength_52 : decode cX4_leastStrength 52 = .ok (.ireturn, 1) := by decide +kernel
theorem dX4_leastStrength_53 : decode cX4_leastStrength 53 = .ok (.iinc 2 1, 3) := by decide +kernel
theorem dX4_leastStrength_56 : decode cX4_leastStrength 56 = .ok (.goto (-33), 3) := by decide +kernel
theorem dX4_leastStrength_59 : decode cX4_leastStrength 59 = .ok (.bipush (-9), 2) := by decide +kernel
theorem dX4_leastStrength_61 : decode cX4_leastStrength 61 = .ok (.ireturn, 1) := by decide +kernel
set_option maxRecDepth 20000 in
theorem ggX4_bestGate_X4_isVisitor : GoodIn wsX4_bestGate wsX4_isVisitor := goodIn_r _ [6, 7, 8, 9, 5, 10] rfl rfl
set_option maxRecDepth 20000 in
theorem gX4_bestGate_X4_isVisitor : GoodIn wsX4_bestGate (va_wsS RX4 205 yX4_isVisitor wsX4_isVisitor) := goodIn_app (goodIn_of _ (by decide +kernel)) ggX4_bestGate_X4_isVisitor
set_option maxRecDepth 20000 in
theorem ggX4_bestGate_X4_isInside : GoodIn wsX4_bestGate wsX4_isInside := goodIn_r _ [13, 14, 15, 5, 16] rfl rfl
set_option maxRecDepth 20000 in
theorem gX4_bestGate_X4_isInside : GoodIn wsX4_bestGate (va_wsS RX4 59 yX4_isInside wsX4_isInside) := goodIn_app (goodIn_of _ (by decide +kernel)) ggX4_bestGate_X4_isInside
set_option maxRecDepth 20000 in
theorem ggX4_bestGate_X4_refused : GoodIn wsX4_bestGate wsX4_refused := goodIn_r _ [20, 21, 71, 72, 73, 74, 75, 76, 77, 78, 79, 80, 81, 82, 83] rfl rfl
set_option maxRecDepth 20000 in
theorem gX4_bestGate_X4_refused : GoodIn wsX4_bestGate (wsV RX4 113 RX4 yX4_refused wsX4_refused) := goodIn_app (goodIn_of _ (by decide +kernel)) ggX4_bestGate_X4_refused
set_option maxRecDepth 20000 in
theorem ggX4_bestGate_X4_tryIt : GoodIn wsX4_bestGate wsX4_tryIt := goodIn_r _ [25, 1, 2, 26, 27, 5, 28, 71, 72, 73, 74, 75, 76, 77, 78, 79, 80, 81, 82, 83] rfl rfl
set_option maxRecDepth 20000 in
theorem gX4_bestGate_X4_tryIt : GoodIn wsX4_bestGate (wsV RX4 230 RX4 yX4_tryIt wsX4_tryIt) := goodIn_app (goodIn_of _ (by decide +kernel)) ggX4_bestGate_X4_tryIt
set_option maxRecDepth 20000 in
theorem ggX4_bestGate_X4_walkIn : GoodIn wsX4_bestGate wsX4_walkIn := goodIn_r _ [31, 14, 15, 5, 16] rfl rfl
set_option maxRecDepth 20000 in
theorem gX4_bestGate_X4_walkIn : GoodIn wsX4_bestGate (va_wsS RX4 160 yX4_walkIn wsX4_walkIn) := goodIn_app (goodIn_of _ (by decide +kernel)) ggX4_bestGate_X4_walkIn
set_option maxRecDepth 20000 in
theorem ggX4_bestGate_X4_ticksIn : GoodIn wsX4_bestGate wsX4_ticksIn := goodIn_r _ [34, 35, 36, 5, 37, 14, 15, 16, 38, 39, 40, 41, 42, 8, 9, 10, 43, 44, 45, 46, 47, 48, 49, 50, 51, 52, 53, 54, 55, 56, 57, 58, 59, 60, 61, 62, 63, 64, 65, 66, 67, 68, 69, 70, 26, 27, 28] rfl rfl
set_option maxRecDepth 20000 in
theorem gX4_bestGate_X4_ticksIn : GoodIn wsX4_bestGate (va_wsS RX4 164 yX4_ticksIn wsX4_ticksIn) := goodIn_app (goodIn_of _ (by decide +kernel)) ggX4_bestGate_X4_ticksIn
theorem dX4_bestGate_0 : decode cX4_bestGate 0 = .ok (.aload_n 0, 1) := by decide +kernel
theorem dX4_bestGate_1 : decode cX4_bestGate 1 = .ok (.iload_n 1, 1) := by decide +kernel
theorem dX4_bestGate_2 : decode cX4_bestGate 2 = .ok (.invokestatic 205, 3) := by decide +kernel
theorem dX4_bestGate_5 : decode cX4_bestGate 5 = .ok (.ifCond .ne 7, 3) := by decide +kernel
theorem dX4_bestGate_8 : decode cX4_bestGate 8 = .ok (.iconst 1, 1) := by decide +kernel
theorem dX4_bestGate_9 : decode cX4_bestGate 9 = .ok (.goto 19, 3) := by decide +kernel
theorem dX4_bestGate_12 : decode cX4_bestGate 12 = .ok (.aload_n 0, 1) := by decide +kernel
theorem dX4_bestGate_13 : decode cX4_bestGate 13 = .ok (.getfield 16, 3) := by decide +kernel
theorem dX4_bestGate_16 : decode cX4_bestGate 16 = .ok (.iload_n 1, 1) := by decide +kernel
theorem dX4_bestGate_17 : decode cX4_bestGate 17 = .ok (.invokestatic 59, 3) := by decide +kernel
theorem dX4_bestGate_20 : decode cX4_bestGate 20 = .ok (.ifCond .eq 7, 3) := by decide +kernel
theorem dX4_bestGate_23 : decode cX4_bestGate 23 = .ok (.iconst 0, 1) := by decide +kernel
theorem dX4_bestGate_24 : decode cX4_bestGate 24 = .ok (.goto 4, 3) := by decide +kernel
theorem dX4_bestGate_27 : decode cX4_bestGate 27 = .ok (.iconst 2, 1) := by decide +kernel
theorem dX4_bestGate_28 : decode cX4_bestGate 28 = .ok (.invokevirtual 113, 3) := by decide +kernel
theorem dX4_bestGate_31 : decode cX4_bestGate 31 = .ok (.ifCond .eq 5, 3) := by decide +kernel
theorem dX4_bestGate_34 : decode cX4_bestGate 34 = .ok (.iconst 0, 1) := by decide +kernel
theorem dX4_bestGate_35 : decode cX4_bestGate 35 = .ok (.ireturn, 1) := by decide +kernel
theorem dX4_bestGate_36 : decode cX4_bestGate 36 = .ok (.bipush (-9), 2) := by decide +kernel
theorem dX4_bestGate_38 : decode cX4_bestGate 38 = .ok (.istore_n 2, 1) := by decide +kernel
theorem dX4_bestGate_39 : decode cX4_bestGate 39 = .ok (.iconst 0, 1) := by decide +kernel
theorem dX4_bestGate_40 : decode cX4_bestGate 40 = .ok (.istore_n 3, 1) := by decide +kernel
theorem dX4_bestGate_41 : decode cX4_bestGate 41 = .ok (.iconst 0, 1) := by decide +kernel
theorem dX4_bestGate_42 : decode cX4_bestGate 42 = .ok (.istore 4, 2) := by decide +kernel
theorem dX4_bestGate_44 : decode cX4_bestGate 44 = .ok (.iload 4, 2) := by decide +kernel
theorem dX4_bestGate_46 : decode cX4_bestGate 46 = .ok (.iconst 3, 1) := by decide +kernel
theorem dX4_bestGate_47 : decode cX4_bestGate 47 = .ok (.if_icmp .ge 54, 3) := by decide +kernel
theorem dX4_bestGate_50 : decode cX4_bestGate 50 = .ok (.aload_n 0, 1) := by decide +kernel
theorem dX4_bestGate_51 : decode cX4_bestGate 51 = .ok (.invokevirtual 230, 3) := by decide +kernel
theorem dX4_bestGate_54 : decode cX4_bestGate 54 = .ok (.aload_n 0, 1) := by decide +kernel
theorem dX4_bestGate_55 : decode cX4_bestGate 55 = .ok (.getfield 19, 3) := by decide +kernel
theorem dX4_bestGate_58 : decode cX4_bestGate 58 = .ok (.iload_n 1, 1) := by decide +kernel
theorem dX4_bestGate_59 : decode cX4_bestGate 59 = .ok (.iload 4, 2) := by decide +kernel
theorem dX4_bestGate_61 : decode cX4_bestGate 61 = .ok (.iconst 1, 1) := by decide +kernel
theorem dX4_bestGate_62 : decode cX4_bestGate 62 = .ok (.invokestatic 160, 3) := by decide +kernel
theorem dX4_bestGate_65 : decode cX4_bestGate 65 = .ok (.pop, 1) := by decide +kernel
theorem dX4_bestGate_66 : decode cX4_bestGate 66 = .ok (.aload_n 0, 1) := by decide +kernel
theorem dX4_bestGate_67 : decode cX4_bestGate 67 = .ok (.getfield 19, 3) := by decide +kernel
theorem dX4_bestGate_70 : decode cX4_bestGate 70 = .ok (.bipush 99, 2) := by decide +kernel
theorem dX4_bestGate_72 : decode cX4_bestGate 72 = .ok (.invokestatic 164, 3) := by decide +kernel
theorem dX4_bestGate_75 : decode cX4_bestGate 75 = .ok (.istore 5, 2) := by decide +kernel
theorem dX4_bestGate_77 : decode cX4_bestGate 77 = .ok (.iload_n 2, 1) := by decide +kernel
theorem dX4_bestGate_78 : decode cX4_bestGate 78 = .ok (.bipush (-9), 2) := by decide +kernel
theorem dX4_bestGate_80 : decode cX4_bestGate 80 = .ok (.if_icmp .eq 9, 3) := by decide +kernel
theorem dX4_bestGate_83 : decode cX4_bestGate 83 = .ok (.iload 5, 2) := by decide +kernel
theorem dX4_bestGate_85 : decode cX4_bestGate 85 = .ok (.iload_n 3, 1) := by decide +kernel
theorem dX4_bestGate_86 : decode cX4_bestGate 86 = .ok (.if_icmp .ge 9, 3) := by decide +kernel
theorem dX4_bestGate_89 : decode cX4_bestGate 89 = .ok (.iload 4, 2) := by decide +kernel
theorem dX4_bestGate_91 : decode cX4_bestGate 91 = .ok (.istore_n 2, 1) := by decide +kernel
theorem dX4_bestGate_92 : decode cX4_bestGate 92 = .ok (.iload 5, 2) := by decide +kernel
theorem dX4_bestGate_94 : decode cX4_bestGate 94 = .ok (.istore_n 3, 1) := by decide +kernel
theorem dX4_bestGate_95 : decode cX4_bestGate 95 = .ok (.iinc 4 1, 3) := by decide +kernel
theorem dX4_bestGate_98 : decode cX4_bestGate 98 = .ok (.goto (-54), 3) := by decide +kernel
theorem dX4_bestGate_101 : decode cX4_bestGate 101 = .ok (.iload_n 2, 1) := by decide +kernel
theorem dX4_bestGate_102 : decode cX4_bestGate 102 = .ok (.ireturn, 1) := by decide +kernel
set_option maxRecDepth 20000 in
theorem ggX4_takes_X4_isVisitor : GoodIn wsX4_takes wsX4_isVisitor := goodIn_r _ [5, 6, 7, 8, 4, 9] rfl rfl
set_option maxRecDepth 20000 in
theorem gX4_takes_X4_isVisitor : GoodIn wsX4_takes (va_wsS RX4 205 yX4_isVisitor wsX4_isVisitor) := goodIn_app (goodIn_of _ (by decide +kernel)) ggX4_takes_X4_isVisitor
set_option maxRecDepth 20000 in
theorem ggX4_takes_X4_isBook : GoodIn wsX4_takes wsX4_isBook := goodIn_r _ [12, 13, 7, 8, 4, 9] rfl rfl
set_option maxRecDepth 20000 in
theorem gX4_takes_X4_isBook : GoodIn wsX4_takes (va_wsS RX4 200 yX4_isBook wsX4_isBook) := goodIn_app (goodIn_of _ (by decide +kernel)) ggX4_takes_X4_isBook
set_option maxRecDepth 20000 in
theorem ggX4_takes_X4_canTake : GoodIn wsX4_takes wsX4_canTake := goodIn_r _ [16, 17, 18, 4, 19, 20, 21, 22, 23, 24, 25, 26, 27, 28] rfl rfl
set_option maxRecDepth 20000 in
theorem gX4_takes_X4_canTake : GoodIn wsX4_takes (va_wsS RX4 140 yX4_canTake wsX4_canTake) := goodIn_app (goodIn_of _ (by decide +kernel)) ggX4_takes_X4_canTake
set_option maxRecDepth 20000 in
theorem ggX4_takes_X4_bookAt : GoodIn wsX4_takes wsX4_bookAt := goodIn_r _ [19] rfl rfl
set_option maxRecDepth 20000 in
theorem gX4_takes_X4_bookAt : GoodIn wsX4_takes (va_wsS RX4 53 yX4_bookAt wsX4_bookAt) := goodIn_app (goodIn_of _ (by decide +kernel)) ggX4_takes_X4_bookAt
theorem dX4_takes_0 : decode cX4_takes 0 = .ok (.iload_n 1, 1) := by decide +kernel
theorem dX4_takes_1 : decode cX4_takes 1 = .ok (.invokestatic 205, 3) := by decide +kernel
theorem dX4_takes_4 : decode cX4_takes 4 = .ok (.ifCond .eq 22, 3) := by decide +kernel
theorem dX4_takes_7 : decode cX4_takes 7 = .ok (.iload_n 2, 1) := by decide +kernel
theorem dX4_takes_8 : decode cX4_takes 8 = .ok (.invokestatic 200, 3) := by decide +kernel
theorem dX4_takes_11 : decode cX4_takes 11 = .ok (.ifCond .eq 15, 3) := by decide +kernel
theorem dX4_takes_14 : decode cX4_takes 14 = .ok (.aload_n 0, 1) := by decide +kernel
theorem dX4_takes_15 : decode cX4_takes 15 = .ok (.getfield 19, 3) := by decide +kernel
theorem dX4_takes_18 : decode cX4_takes 18 = .ok (.iload_n 1, 1) := by decide +kernel
theorem dX4_takes_19 : decode cX4_takes 19 = .ok (.iload_n 2, 1) := by decide +kernel
theorem dX4_takes_20 : decode cX4_takes 20 = .ok (.invokestatic 140, 3) := by decide +kernel
theorem dX4_takes_23 : decode cX4_takes 23 = .ok (.ifCond .ne 5, 3) := by decide +kernel
theorem dX4_takes_26 : decode cX4_takes 26 = .ok (.iconst 0, 1) := by decide +kernel
theorem dX4_takes_27 : decode cX4_takes 27 = .ok (.ireturn, 1) := by decide +kernel
theorem dX4_takes_28 : decode cX4_takes 28 = .ok (.aload_n 0, 1) := by decide +kernel
theorem dX4_takes_29 : decode cX4_takes 29 = .ok (.getfield 19, 3) := by decide +kernel
theorem dX4_takes_32 : decode cX4_takes 32 = .ok (.iload_n 2, 1) := by decide +kernel
theorem dX4_takes_33 : decode cX4_takes 33 = .ok (.iconst 0, 1) := by decide +kernel
theorem dX4_takes_34 : decode cX4_takes 34 = .ok (.invokestatic 53, 3) := by decide +kernel
theorem dX4_takes_37 : decode cX4_takes 37 = .ok (.iload_n 1, 1) := by decide +kernel
theorem dX4_takes_38 : decode cX4_takes 38 = .ok (.iconst 1, 1) := by decide +kernel
theorem dX4_takes_39 : decode cX4_takes 39 = .ok (.iadd, 1) := by decide +kernel
theorem dX4_takes_40 : decode cX4_takes 40 = .ok (.iastore, 1) := by decide +kernel
theorem dX4_takes_41 : decode cX4_takes 41 = .ok (.iconst 1, 1) := by decide +kernel
theorem dX4_takes_42 : decode cX4_takes 42 = .ok (.ireturn, 1) := by decide +kernel
set_option maxRecDepth 20000 in
theorem ggX4_marks_X4_isBook : GoodIn wsX4_marks wsX4_isBook := goodIn_r _ [5, 6, 7, 8, 4, 9] rfl rfl
set_option maxRecDepth 20000 in
theorem gX4_marks_X4_isBook : GoodIn wsX4_marks (va_wsS RX4 200 yX4_isBook wsX4_isBook) := goodIn_app (goodIn_of _ (by decide +kernel)) ggX4_marks_X4_isBook
set_option maxRecDepth 20000 in
theorem ggX4_marks_X4_canPutBack : GoodIn wsX4_marks wsX4_canPutBack := goodIn_r _ [12, 13, 14, 4, 15, 16, 17, 18, 19, 20, 21, 22, 23, 24] rfl rfl
set_option maxRecDepth 20000 in
theorem gX4_marks_X4_canPutBack : GoodIn wsX4_marks (va_wsS RX4 147 yX4_canPutBack wsX4_canPutBack) := goodIn_app (goodIn_of _ (by decide +kernel)) ggX4_marks_X4_canPutBack
set_option maxRecDepth 20000 in
theorem ggX4_marks_X4_canBorrow : GoodIn wsX4_marks wsX4_canBorrow := goodIn_r _ [27, 13, 14, 4, 15, 16, 17, 18, 19, 20, 21, 22, 23, 24] rfl rfl
set_option maxRecDepth 20000 in
theorem gX4_marks_X4_canBorrow : GoodIn wsX4_marks (va_wsS RX4 220 yX4_canBorrow wsX4_canBorrow) := goodIn_app (goodIn_of _ (by decide +kernel)) ggX4_marks_X4_canBorrow
set_option maxRecDepth 20000 in
theorem ggX4_marks_X4_bookAt : GoodIn wsX4_marks wsX4_bookAt := goodIn_r _ [15] rfl rfl
set_option maxRecDepth 20000 in
theorem gX4_marks_X4_bookAt : GoodIn wsX4_marks (va_wsS RX4 53 yX4_bookAt wsX4_bookAt) := goodIn_app (goodIn_of _ (by decide +kernel)) ggX4_marks_X4_bookAt
theorem dX4_marks_0 : decode cX4_marks 0 = .ok (.iload_n 1, 1) := by decide +kernel
theorem dX4_marks_1 : decode cX4_marks 1 = .ok (.invokestatic 200, 3) := by decide +kernel
theorem dX4_marks_4 : decode cX4_marks 4 = .ok (.ifCond .eq 40, 3) := by decide +kernel
theorem dX4_marks_7 : decode cX4_marks 7 = .ok (.iload_n 2, 1) := by decide +kernel
theorem dX4_marks_8 : decode cX4_marks 8 = .ok (.iconst 2, 1) := by decide +kernel
theorem dX4_marks_9 : decode cX4_marks 9 = .ok (.if_icmp .gt 35, 3) := by decide +kernel
theorem dX4_marks_12 : decode cX4_marks 12 = .ok (.iload_n 2, 1) := by decide +kernel
theorem dX4_marks_13 : decode cX4_marks 13 = .ok (.ifCond .ne 17, 3) := by decide +kernel
theorem dX4_marks_16 : decode cX4_marks 16 = .ok (.aload_n 0, 1) := by decide +kernel
theorem dX4_marks_17 : decode cX4_marks 17 = .ok (.getfield 19, 3) := by decide +kernel
theorem dX4_marks_20 : decode cX4_marks 20 = .ok (.iload_n 1, 1) := by decide +kernel
theorem dX4_marks_21 : decode cX4_marks 21 = .ok (.invokestatic 147, 3) := by decide +kernel
theorem dX4_marks_24 : decode cX4_marks 24 = .ok (.ifCond .eq 20, 3) := by decide +kernel
theorem dX4_marks_27 : decode cX4_marks 27 = .ok (.goto 19, 3) := by decide +kernel
theorem dX4_marks_30 : decode cX4_marks 30 = .ok (.aload_n 0, 1) := by decide +kernel
theorem dX4_marks_31 : decode cX4_marks 31 = .ok (.getfield 19, 3) := by decide +kernel
theorem dX4_marks_34 : decode cX4_marks 34 = .ok (.iload_n 1, 1) := by decide +kernel
theorem dX4_marks_35 : decode cX4_marks 35 = .ok (.iconst 2, 1) := by decide +kernel
theorem dX4_marks_36 : decode cX4_marks 36 = .ok (.iload_n 2, 1) := by decide +kernel
theorem dX4_marks_37 : decode cX4_marks 37 = .ok (.isub, 1) := by decide +kernel
theorem dX4_marks_38 : decode cX4_marks 38 = .ok (.invokestatic 220, 3) := by decide +kernel
theorem dX4_marks_41 : decode cX4_marks 41 = .ok (.ifCond .ne 5, 3) := by decide +kernel
theorem dX4_marks_44 : decode cX4_marks 44 = .ok (.iconst 0, 1) := by decide +kernel
theorem dX4_marks_45 : decode cX4_marks 45 = .ok (.ireturn, 1) := by decide +kernel
theorem dX4_marks_46 : decode cX4_marks 46 = .ok (.aload_n 0, 1) := by decide +kernel
theorem dX4_marks_47 : decode cX4_marks 47 = .ok (.getfield 19, 3) := by decide +kernel
theorem dX4_marks_50 : decode cX4_marks 50 = .ok (.iload_n 1, 1) := by decide +kernel
theorem dX4_marks_51 : decode cX4_marks 51 = .ok (.iload_n 2, 1) := by decide +kernel
theorem dX4_marks_52 : decode cX4_marks 52 = .ok (.ifCond .ne 7, 3) := by decide +kernel
theorem dX4_marks_55 : decode cX4_marks 55 = .ok (.iconst 0, 1) := by decide +kernel
theorem dX4_marks_56 : decode cX4_marks 56 = .ok (.goto 4, 3) := by decide +kernel
theorem dX4_marks_59 : decode cX4_marks 59 = .ok (.iconst 1, 1) := by decide +kernel
theorem dX4_marks_60 : decode cX4_marks 60 = .ok (.invokestatic 53, 3) := by decide +kernel
theorem dX4_marks_63 : decode cX4_marks 63 = .ok (.iload_n 2, 1) := by decide +kernel
theorem dX4_marks_64 : decode cX4_marks 64 = .ok (.iconst 1, 1) := by decide +kernel
theorem dX4_marks_65 : decode cX4_marks 65 = .ok (.if_icmp .ne 7, 3) := by decide +kernel
theorem dX4_marks_68 : decode cX4_marks 68 = .ok (.iconst 1, 1) := by decide +kernel
theorem dX4_marks_69 : decode cX4_marks 69 = .ok (.goto 4, 3) := by decide +kernel
theorem dX4_marks_72 : decode cX4_marks 72 = .ok (.iconst 0, 1) := by decide +kernel
theorem dX4_marks_73 : decode cX4_marks 73 = .ok (.iastore, 1) := by decide +kernel
theorem dX4_marks_74 : decode cX4_marks 74 = .ok (.iconst 1, 1) := by decide +kernel
theorem dX4_marks_75 : decode cX4_marks 75 = .ok (.ireturn, 1) := by decide +kernel
set_option maxRecDepth 20000 in
theorem ggX4_walks_X4_isVisitor : GoodIn wsX4_walks wsX4_isVisitor := goodIn_r _ [5, 6, 7, 8, 4, 9] rfl rfl
set_option maxRecDepth 20000 in
theorem gX4_walks_X4_isVisitor : GoodIn wsX4_walks (va_wsS RX4 205 yX4_isVisitor wsX4_isVisitor) := goodIn_app (goodIn_of _ (by decide +kernel)) ggX4_walks_X4_isVisitor
set_option maxRecDepth 20000 in
theorem ggX4_walks_X4_isGate : GoodIn wsX4_walks wsX4_isGate := goodIn_r _ [12, 13, 7, 8, 4, 9] rfl rfl
set_option maxRecDepth 20000 in
theorem gX4_walks_X4_isGate : GoodIn wsX4_walks (va_wsS RX4 211 yX4_isGate wsX4_isGate) := goodIn_app (goodIn_of _ (by decide +kernel)) ggX4_walks_X4_isGate
set_option maxRecDepth 20000 in
theorem ggX4_walks_X4_canWalk : GoodIn wsX4_walks wsX4_canWalk := goodIn_r _ [16, 17, 18, 4, 19] rfl rfl
set_option maxRecDepth 20000 in
theorem gX4_walks_X4_canWalk : GoodIn wsX4_walks (va_wsS RX4 156 yX4_canWalk wsX4_canWalk) := goodIn_app (goodIn_of _ (by decide +kernel)) ggX4_walks_X4_canWalk
set_option maxRecDepth 20000 in
theorem ggX4_walks_X4_walkIn : GoodIn wsX4_walks wsX4_walkIn := goodIn_r _ [22, 17, 18, 4, 19] rfl rfl
set_option maxRecDepth 20000 in
theorem gX4_walks_X4_walkIn : GoodIn wsX4_walks (va_wsS RX4 160 yX4_walkIn wsX4_walkIn) := goodIn_app (goodIn_of _ (by decide +kernel)) ggX4_walks_X4_walkIn
theorem dX4_walks_0 : decode cX4_walks 0 = .ok (.iload_n 1, 1) := by decide +kernel
theorem dX4_walks_1 : decode cX4_walks 1 = .ok (.invokestatic 205, 3) := by decide +kernel
theorem dX4_walks_4 : decode cX4_walks 4 = .ok (.ifCond .eq 22, 3) := by decide +kernel
theorem dX4_walks_7 : decode cX4_walks 7 = .ok (.iload_n 2, 1) := by decide +kernel
theorem dX4_walks_8 : decode cX4_walks 8 = .ok (.invokestatic 211, 3) := by decide +kernel
theorem dX4_walks_11 : decode cX4_walks 11 = .ok (.ifCond .eq 15, 3) := by decide +kernel
theorem dX4_walks_14 : decode cX4_walks 14 = .ok (.aload_n 0, 1) := by decide +kernel
theorem dX4_walks_15 : decode cX4_walks 15 = .ok (.getfield 19, 3) := by decide +kernel
theorem dX4_walks_18 : decode cX4_walks 18 = .ok (.iload_n 1, 1) := by decide +kernel
theorem dX4_walks_19 : decode cX4_walks 19 = .ok (.iload_n 3, 1) := by decide +kernel
theorem dX4_walks_20 : decode cX4_walks 20 = .ok (.invokestatic 156, 3) := by decide +kernel
theorem dX4_walks_23 : decode cX4_walks 23 = .ok (.ifCond .ne 5, 3) := by decide +kernel
theorem dX4_walks_26 : decode cX4_walks 26 = .ok (.iconst 0, 1) := by decide +kernel
theorem dX4_walks_27 : decode cX4_walks 27 = .ok (.ireturn, 1) := by decide +kernel
theorem dX4_walks_28 : decode cX4_walks 28 = .ok (.aload_n 0, 1) := by decide +kernel
theorem dX4_walks_29 : decode cX4_walks 29 = .ok (.getfield 19, 3) := by decide +kernel
theorem dX4_walks_32 : decode cX4_walks 32 = .ok (.iload_n 1, 1) := by decide +kernel
theorem dX4_walks_33 : decode cX4_walks 33 = .ok (.iload_n 2, 1) := by decide +kernel
theorem dX4_walks_34 : decode cX4_walks 34 = .ok (.iload_n 3, 1) := by decide +kernel
theorem dX4_walks_35 : decode cX4_walks 35 = .ok (.invokestatic 160, 3) := by decide +kernel
theorem dX4_walks_38 : decode cX4_walks 38 = .ok (.pop, 1) := by decide +kernel
theorem dX4_walks_39 : decode cX4_walks 39 = .ok (.iconst 1, 1) := by decide +kernel
theorem dX4_walks_40 : decode cX4_walks 40 = .ok (.ireturn, 1) := by decide +kernel
set_option maxRecDepth 20000 in
theorem ggX4_turns_X4_isVisitor : GoodIn wsX4_turns wsX4_isVisitor := goodIn_r _ [5, 6, 7, 8, 4, 9] rfl rfl
set_option maxRecDepth 20000 in
theorem gX4_turns_X4_isVisitor : GoodIn wsX4_turns (va_wsS RX4 205 yX4_isVisitor wsX4_isVisitor) := goodIn_app (goodIn_of _ (by decide +kernel)) ggX4_turns_X4_isVisitor
set_option maxRecDepth 20000 in
theorem ggX4_turns_X4_isAtGate : GoodIn wsX4_turns wsX4_isAtGate := goodIn_r _ [12, 13, 14, 4, 15] rfl rfl
set_option maxRecDepth 20000 in
theorem gX4_turns_X4_isAtGate : GoodIn wsX4_turns (va_wsS RX4 150 yX4_isAtGate wsX4_isAtGate) := goodIn_app (goodIn_of _ (by decide +kernel)) ggX4_turns_X4_isAtGate
set_option maxRecDepth 20000 in
theorem ggX4_turns_X4_turnIn : GoodIn wsX4_turns wsX4_turnIn := goodIn_r _ [18, 13, 14, 4, 15] rfl rfl
set_option maxRecDepth 20000 in
theorem gX4_turns_X4_turnIn : GoodIn wsX4_turns (va_wsS RX4 153 yX4_turnIn wsX4_turnIn) := goodIn_app (goodIn_of _ (by decide +kernel)) ggX4_turns_X4_turnIn
theorem dX4_turns_0 : decode cX4_turns 0 = .ok (.iload_n 1, 1) := by decide +kernel
theorem dX4_turns_1 : decode cX4_turns 1 = .ok (.invokestatic 205, 3) := by decide +kernel
theorem dX4_turns_4 : decode cX4_turns 4 = .ok (.ifCond .eq 14, 3) := by decide +kernel
theorem dX4_turns_7 : decode cX4_turns 7 = .ok (.aload_n 0, 1) := by decide +kernel
theorem dX4_turns_8 : decode cX4_turns 8 = .ok (.getfield 19, 3) := by decide +kernel
theorem dX4_turns_11 : decode cX4_turns 11 = .ok (.iload_n 1, 1) := by decide +kernel
theorem dX4_turns_12 : decode cX4_turns 12 = .ok (.invokestatic 150, 3) := by decide +kernel
theorem dX4_turns_15 : decode cX4_turns 15 = .ok (.ifCond .ne 5, 3) := by decide +kernel
theorem dX4_turns_18 : decode cX4_turns 18 = .ok (.iconst 0, 1) := by decide +kernel
theorem dX4_turns_19 : decode cX4_turns 19 = .ok (.ireturn, 1) := by decide +kernel
theorem dX4_turns_20 : decode cX4_turns 20 = .ok (.aload_n 0, 1) := by decide +kernel
theorem dX4_turns_21 : decode cX4_turns 21 = .ok (.getfield 19, 3) := by decide +kernel
theorem dX4_turns_24 : decode cX4_turns 24 = .ok (.iload_n 1, 1) := by decide +kernel
theorem dX4_turns_25 : decode cX4_turns 25 = .ok (.invokestatic 153, 3) := by decide +kernel
theorem dX4_turns_28 : decode cX4_turns 28 = .ok (.pop, 1) := by decide +kernel
theorem dX4_turns_29 : decode cX4_turns 29 = .ok (.iconst 1, 1) := by decide +kernel
theorem dX4_turns_30 : decode cX4_turns 30 = .ok (.ireturn, 1) := by decide +kernel
set_option maxRecDepth 20000 in
theorem ggX4_passes_X4_in : GoodIn wsX4_passes wsX4_in := goodIn_r _ [6] rfl rfl
set_option maxRecDepth 20000 in
theorem gX4_passes_X4_in : GoodIn wsX4_passes (va_wsS RX4 69 yX4_in wsX4_in) := goodIn_app (goodIn_of _ (by decide +kernel)) ggX4_passes_X4_in
set_option maxRecDepth 20000 in
theorem ggX4_passes_X4_ticksIn : GoodIn wsX4_passes wsX4_ticksIn := goodIn_r _ [9, 10, 11, 5, 12, 13, 14, 15, 16, 17, 18, 19, 20, 3, 4, 6, 21, 22, 23, 24, 25, 26, 27, 28, 29, 30, 31, 32, 33, 34, 35, 36, 37, 38, 39, 40, 41, 42, 43, 44, 45, 46, 47, 48, 49, 50, 51] rfl rfl
set_option maxRecDepth 20000 in
theorem gX4_passes_X4_ticksIn : GoodIn wsX4_passes (va_wsS RX4 164 yX4_ticksIn wsX4_ticksIn) := goodIn_app (goodIn_of _ (by decide +kernel)) ggX4_passes_X4_ticksIn
theorem dX4_passes_0 : decode cX4_passes 0 = .ok (.iload_n 1, 1) := by decide +kernel
theorem dX4_passes_1 : decode cX4_passes 1 = .ok (.i2l, 1) := by decide +kernel
theorem dX4_passes_2 : decode cX4_passes 2 = .ok (.lconst 1, 1) := by decide +kernel
theorem dX4_passes_3 : decode cX4_passes 3 = .ok (.ldc2_w 226, 3) := by decide +kernel
theorem dX4_passes_6 : decode cX4_passes 6 = .ok (.invokestatic 69, 3) := by decide +kernel
theorem dX4_passes_9 : decode cX4_passes 9 = .ok (.ifCond .ne 5, 3) := by decide +kernel
theorem dX4_passes_12 : decode cX4_passes 12 = .ok (.iconst 0, 1) := by decide +kernel
theorem dX4_passes_13 : decode cX4_passes 13 = .ok (.ireturn, 1) := by decide +kernel
theorem dX4_passes_14 : decode cX4_passes 14 = .ok (.aload_n 0, 1) := by decide +kernel
theorem dX4_passes_15 : decode cX4_passes 15 = .ok (.getfield 19, 3) := by decide +kernel
theorem dX4_passes_18 : decode cX4_passes 18 = .ok (.iload_n 1, 1) := by decide +kernel
theorem dX4_passes_19 : decode cX4_passes 19 = .ok (.invokestatic 164, 3) := by decide +kernel
theorem dX4_passes_22 : decode cX4_passes 22 = .ok (.pop, 1) := by decide +kernel
theorem dX4_passes_23 : decode cX4_passes 23 = .ok (.iconst 1, 1) := by decide +kernel
theorem dX4_passes_24 : decode cX4_passes 24 = .ok (.ireturn, 1) := by decide +kernel
set_option maxRecDepth 20000 in
theorem ggX4_does_X4_takes : GoodIn wsX4_does wsX4_takes := goodIn_r _ [6, 1, 7, 8, 5, 9, 10, 11, 12, 13, 14, 15, 16, 17, 18, 19, 20, 21, 22, 23, 24, 25, 26, 27, 28, 29, 30, 31, 32, 111, 112, 113, 114, 115, 116, 117, 118, 119, 120, 121, 122, 123] rfl rfl
set_option maxRecDepth 20000 in
theorem gX4_does_X4_takes : GoodIn wsX4_does (wsV RX4 239 RX4 yX4_takes wsX4_takes) := goodIn_app (goodIn_of _ (by decide +kernel)) ggX4_does_X4_takes
set_option maxRecDepth 20000 in
theorem ggX4_does_X4_marks : GoodIn wsX4_does wsX4_marks := goodIn_r _ [36, 1, 14, 15, 5, 16, 17, 11, 12, 13, 37, 38, 39, 21, 22, 23, 40, 41, 42, 24, 25, 26, 27, 28, 29, 43, 44, 45, 111, 112, 113, 114, 115, 116, 117, 118, 119, 120, 121, 122, 123] rfl rfl
set_option maxRecDepth 20000 in
theorem gX4_does_X4_marks : GoodIn wsX4_does (wsV RX4 243 RX4 yX4_marks wsX4_marks) := goodIn_app (goodIn_of _ (by decide +kernel)) ggX4_does_X4_marks
set_option maxRecDepth 20000 in
theorem ggX4_does_X4_walks : GoodIn wsX4_does wsX4_walks := goodIn_r _ [49, 1, 7, 8, 5, 9, 10, 11, 12, 13, 50, 51, 52, 53, 54, 55, 56, 27, 28, 29, 57, 58, 59, 111, 112, 113, 114, 115, 116, 117, 118, 119, 120, 121, 122, 123] rfl rfl
set_option maxRecDepth 20000 in
theorem gX4_does_X4_walks : GoodIn wsX4_does (wsV RX4 246 RX4 yX4_walks wsX4_walks) := goodIn_app (goodIn_of _ (by decide +kernel)) ggX4_does_X4_walks
set_option maxRecDepth 20000 in
theorem ggX4_does_X4_turns : GoodIn wsX4_does wsX4_turns := goodIn_r _ [63, 1, 7, 8, 5, 9, 10, 11, 12, 13, 64, 65, 66, 27, 28, 29, 67, 68, 69, 111, 112, 113, 114, 115, 116, 117, 118, 119, 120, 121, 122, 123] rfl rfl
set_option maxRecDepth 20000 in
theorem gX4_does_X4_turns : GoodIn wsX4_does (wsV RX4 250 RX4 yX4_turns wsX4_turns) := goodIn_app (goodIn_of _ (by decide +kernel)) ggX4_does_X4_turns
set_option maxRecDepth 20000 in
theorem ggX4_does_X4_passes : GoodIn wsX4_does wsX4_passes := goodIn_r _ [73, 74, 1, 11, 12, 5, 13, 75, 76, 77, 78, 79, 80, 27, 28, 29, 81, 82, 83, 84, 85, 86, 87, 88, 21, 22, 23, 89, 90, 91, 92, 93, 94, 95, 96, 97, 98, 99, 100, 101, 30, 31, 32, 102, 103, 104, 105, 106, 107, 108, 109, 110, 111, 112, 113, 114, 115, 116, 117, 118, 119, 120, 121, 122, 123] rfl rfl
set_option maxRecDepth 20000 in
theorem gX4_does_X4_passes : GoodIn wsX4_does (wsV RX4 253 RX4 yX4_passes wsX4_passes) := goodIn_app (goodIn_of _ (by decide +kernel)) ggX4_does_X4_passes
set_option maxRecDepth 20000 in
theorem ggX4_does_X4_isBook : GoodIn wsX4_does wsX4_isBook := goodIn_r _ [16, 17, 11, 12, 5, 13] rfl rfl
set_option maxRecDepth 20000 in
theorem gX4_does_X4_isBook : GoodIn wsX4_does (va_wsS RX4 200 yX4_isBook wsX4_isBook) := goodIn_app (goodIn_of _ (by decide +kernel)) ggX4_does_X4_isBook
set_option maxRecDepth 20000 in
theorem ggX4_does_X4_bookAt : GoodIn wsX4_does wsX4_bookAt := goodIn_r _ [23] rfl rfl
set_option maxRecDepth 20000 in
theorem gX4_does_X4_bookAt : GoodIn wsX4_does (va_wsS RX4 53 yX4_bookAt wsX4_bookAt) := goodIn_app (goodIn_of _ (by decide +kernel)) ggX4_does_X4_bookAt
set_option maxRecDepth 20000 in
theorem ggX4_does_X4_isVisitor : GoodIn wsX4_does wsX4_isVisitor := goodIn_r _ [9, 10, 11, 12, 5, 13] rfl rfl
set_option maxRecDepth 20000 in
theorem gX4_does_X4_isVisitor : GoodIn wsX4_does (va_wsS RX4 205 yX4_isVisitor wsX4_isVisitor) := goodIn_app (goodIn_of _ (by decide +kernel)) ggX4_does_X4_isVisitor
set_option maxRecDepth 20000 in
theorem ggX4_does_X4_visitorAt : GoodIn wsX4_does wsX4_visitorAt := goodIn_r _ [29] rfl rfl
set_option maxRecDepth 20000 in
theorem gX4_does_X4_visitorAt : GoodIn wsX4_does (va_wsS RX4 56 yX4_visitorAt wsX4_visitorAt) := goodIn_app (goodIn_of _ (by decide +kernel)) ggX4_does_X4_visitorAt
theorem dX4_does_0 : decode cX4_does 0 = .ok (.iload_n 1, 1) := by decide +kernel
theorem dX4_does_1 : decode cX4_does 1 = .ok (.sipush 10000, 3) := by decide +kernel
theorem dX4_does_4 : decode cX4_does 4 = .ok (.idiv, 1) := by decide +kernel
theorem dX4_does_5 : decode cX4_does 5 = .ok (.istore_n 2, 1) := by decide +kernel
theorem dX4_does_6 : decode cX4_does 6 = .ok (.iload_n 1, 1) := by decide +kernel
theorem dX4_does_7 : decode cX4_does 7 = .ok (.sipush 1000, 3) := by decide +kernel
theorem dX4_does_10 : decode cX4_does 10 = .ok (.idiv, 1) := by decide +kernel
theorem dX4_does_11 : decode cX4_does 11 = .ok (.bipush 10, 2) := by decide +kernel
theorem dX4_does_13 : decode cX4_does 13 = .ok (.irem, 1) := by decide +kernel
theorem dX4_does_14 : decode cX4_does 14 = .ok (.istore_n 3, 1) := by decide +kernel
theorem dX4_does_15 : decode cX4_does 15 = .ok (.iload_n 1, 1) := by decide +kernel
theorem dX4_does_16 : decode cX4_does 16 = .ok (.bipush 10, 2) := by decide +kernel
theorem dX4_does_18 : decode cX4_does 18 = .ok (.idiv, 1) := by decide +kernel
theorem dX4_does_19 : decode cX4_does 19 = .ok (.bipush 100, 2) := by decide +kernel
theorem dX4_does_21 : decode cX4_does 21 = .ok (.irem, 1) := by decide +kernel
theorem dX4_does_22 : decode cX4_does 22 = .ok (.istore 4, 2) := by decide +kernel
theorem dX4_does_24 : decode cX4_does 24 = .ok (.iload_n 1, 1) := by decide +kernel
theorem dX4_does_25 : decode cX4_does 25 = .ok (.bipush 10, 2) := by decide +kernel
theorem dX4_does_27 : decode cX4_does 27 = .ok (.irem, 1) := by decide +kernel
theorem dX4_does_28 : decode cX4_does 28 = .ok (.istore 5, 2) := by decide +kernel
theorem dX4_does_30 : decode cX4_does 30 = .ok (.iload_n 1, 1) := by decide +kernel
theorem dX4_does_31 : decode cX4_does 31 = .ok (.bipush 100, 2) := by decide +kernel
theorem dX4_does_33 : decode cX4_does 33 = .ok (.idiv, 1) := by decide +kernel
theorem dX4_does_34 : decode cX4_does 34 = .ok (.bipush 100, 2) := by decide +kernel
theorem dX4_does_36 : decode cX4_does 36 = .ok (.irem, 1) := by decide +kernel
theorem dX4_does_37 : decode cX4_does 37 = .ok (.istore 6, 2) := by decide +kernel
theorem dX4_does_39 : decode cX4_does 39 = .ok (.iload_n 2, 1) := by decide +kernel
theorem dX4_does_40 : decode cX4_does 40 = .ok (.tableswitch 310 1 9 #[52, 73, 94, 141, 163, 185, 225, 258, 284], 52) := by decide +kernel
theorem dX4_does_92 : decode cX4_does 92 = .ok (.iload 5, 2) := by decide +kernel
theorem dX4_does_94 : decode cX4_does 94 = .ok (.ifCond .ne 17, 3) := by decide +kernel
theorem dX4_does_97 : decode cX4_does 97 = .ok (.aload_n 0, 1) := by decide +kernel
theorem dX4_does_98 : decode cX4_does 98 = .ok (.iload_n 3, 1) := by decide +kernel
theorem dX4_does_99 : decode cX4_does 99 = .ok (.iload 4, 2) := by decide +kernel
theorem dX4_does_101 : decode cX4_does 101 = .ok (.invokevirtual 239, 3) := by decide +kernel
theorem dX4_does_104 : decode cX4_does 104 = .ok (.ifCond .eq 7, 3) := by decide +kernel
theorem dX4_does_107 : decode cX4_does 107 = .ok (.iconst 1, 1) := by decide +kernel
theorem dX4_does_108 : decode cX4_does 108 = .ok (.goto 4, 3) := by decide +kernel
theorem dX4_does_111 : decode cX4_does 111 = .ok (.iconst 0, 1) := by decide +kernel
theorem dX4_does_112 : decode cX4_does 112 = .ok (.ireturn, 1) := by decide +kernel
theorem dX4_does_113 : decode cX4_does 113 = .ok (.iload_n 3, 1) := by decide +kernel
theorem dX4_does_114 : decode cX4_does 114 = .ok (.ifCond .ne 18, 3) := by decide +kernel
theorem dX4_does_117 : decode cX4_does 117 = .ok (.aload_n 0, 1) := by decide +kernel
theorem dX4_does_118 : decode cX4_does 118 = .ok (.iload 4, 2) := by decide +kernel
theorem dX4_does_120 : decode cX4_does 120 = .ok (.iload 5, 2) := by decide +kernel
theorem dX4_does_122 : decode cX4_does 122 = .ok (.invokevirtual 243, 3) := by decide +kernel
theorem dX4_does_125 : decode cX4_does 125 = .ok (.ifCond .eq 7, 3) := by decide +kernel
theorem dX4_does_128 : decode cX4_does 128 = .ok (.iconst 1, 1) := by decide +kernel
theorem dX4_does_129 : decode cX4_does 129 = .ok (.goto 4, 3) := by decide +kernel
theorem dX4_does_132 : decode cX4_does 132 = .ok (.iconst 0, 1) := by decide +kernel
theorem dX4_does_133 : decode cX4_does 133 = .ok (.ireturn, 1) := by decide +kernel
theorem dX4_does_134 : decode cX4_does 134 = .ok (.iload 5, 2) := by decide +kernel
theorem dX4_does_136 : decode cX4_does 136 = .ok (.ifCond .ne 43, 3) := by decide +kernel
theorem dX4_does_139 : decode cX4_does 139 = .ok (.iload 4, 2) := by decide +kernel
theorem dX4_does_141 : decode cX4_does 141 = .ok (.bipush 10, 2) := by decide +kernel
theorem dX4_does_143 : decode cX4_does 143 = .ok (.irem, 1) := by decide +kernel
theorem dX4_does_144 : decode cX4_does 144 = .ok (.iconst 2, 1) := by decide +kernel
theorem dX4_does_145 : decode cX4_does 145 = .ok (.if_icmp .ge 34, 3) := by decide +kernel
theorem dX4_does_148 : decode cX4_does 148 = .ok (.aload_n 0, 1) := by decide +kernel
theorem dX4_does_149 : decode cX4_does 149 = .ok (.iload_n 3, 1) := by decide +kernel
theorem dX4_does_150 : decode cX4_does 150 = .ok (.iload 4, 2) := by decide +kernel
theorem dX4_does_152 : decode cX4_does 152 = .ok (.bipush 10, 2) := by decide +kernel
theorem dX4_does_154 : decode cX4_does 154 = .ok (.idiv, 1) := by decide +kernel
theorem dX4_does_155 : decode cX4_does 155 = .ok (.iload 4, 2) := by decide +kernel
theorem dX4_does_157 : decode cX4_does 157 = .ok (.bipush 10, 2) := by decide +kernel
theorem dX4_does_159 : decode cX4_does 159 = .ok (.irem, 1) := by decide +kernel
theorem dX4_does_160 : decode cX4_does 160 = .ok (.iconst 1, 1) := by decide +kernel
theorem dX4_does_161 : decode cX4_does 161 = .ok (.if_icmp .ne 7, 3) := by decide +kernel
theorem dX4_does_164 : decode cX4_does 164 = .ok (.iconst 1, 1) := by decide +kernel
theorem dX4_does_165 : decode cX4_does 165 = .ok (.goto 4, 3) := by decide +kernel
theorem dX4_does_168 : decode cX4_does 168 = .ok (.iconst 0, 1) := by decide +kernel
theorem dX4_does_169 : decode cX4_does 169 = .ok (.invokevirtual 246, 3) := by decide +kernel
theorem dX4_does_172 : decode cX4_does 172 = .ok (.ifCond .eq 7, 3) := by decide +kernel
theorem dX4_does_175 : decode cX4_does 175 = .ok (.iconst 1, 1) := by decide +kernel
theorem dX4_does_176 : decode cX4_does 176 = .ok (.goto 4, 3) := by decide +kernel
theorem dX4_does_179 : decode cX4_does 179 = .ok (.iconst 0, 1) := by decide +kernel
theorem dX4_does_180 : decode cX4_does 180 = .ok (.ireturn, 1) := by decide +kernel
theorem dX4_does_181 : decode cX4_does 181 = .ok (.iload_n 1, 1) := by decide +kernel
theorem dX4_does_182 : decode cX4_does 182 = .ok (.sipush 1000, 3) := by decide +kernel
theorem dX4_does_185 : decode cX4_does 185 = .ok (.irem, 1) := by decide +kernel
theorem dX4_does_186 : decode cX4_does 186 = .ok (.ifCond .ne 15, 3) := by decide +kernel
theorem dX4_does_189 : decode cX4_does 189 = .ok (.aload_n 0, 1) := by decide +kernel
theorem dX4_does_190 : decode cX4_does 190 = .ok (.iload_n 3, 1) := by decide +kernel
theorem dX4_does_191 : decode cX4_does 191 = .ok (.invokevirtual 250, 3) := by decide +kernel
theorem dX4_does_194 : decode cX4_does 194 = .ok (.ifCond .eq 7, 3) := by decide +kernel
theorem dX4_does_197 : decode cX4_does 197 = .ok (.iconst 1, 1) := by decide +kernel
theorem dX4_does_198 : decode cX4_does 198 = .ok (.goto 4, 3) := by decide +kernel
theorem dX4_does_201 : decode cX4_does 201 = .ok (.iconst 0, 1) := by decide +kernel
theorem dX4_does_202 : decode cX4_does 202 = .ok (.ireturn, 1) := by decide +kernel
theorem dX4_does_203 : decode cX4_does 203 = .ok (.iload 6, 2) := by decide +kernel
theorem dX4_does_205 : decode cX4_does 205 = .ok (.ifCond .ne 18, 3) := by decide +kernel
theorem dX4_does_208 : decode cX4_does 208 = .ok (.aload_n 0, 1) := by decide +kernel
theorem dX4_does_209 : decode cX4_does 209 = .ok (.iload_n 1, 1) := by decide +kernel
theorem dX4_does_210 : decode cX4_does 210 = .ok (.bipush 100, 2) := by decide +kernel
theorem dX4_does_212 : decode cX4_does 212 = .ok (.irem, 1) := by decide +kernel
theorem dX4_does_213 : decode cX4_does 213 = .ok (.invokevirtual 253, 3) := by decide +kernel
theorem dX4_does_216 : decode cX4_does 216 = .ok (.ifCond .eq 7, 3) := by decide +kernel
theorem dX4_does_219 : decode cX4_does 219 = .ok (.iconst 1, 1) := by decide +kernel
theorem dX4_does_220 : decode cX4_does 220 = .ok (.goto 4, 3) := by decide +kernel
theorem dX4_does_223 : decode cX4_does 223 = .ok (.iconst 0, 1) := by decide +kernel
theorem dX4_does_224 : decode cX4_does 224 = .ok (.ireturn, 1) := by decide +kernel
theorem dX4_does_225 : decode cX4_does 225 = .ok (.iload_n 3, 1) := by decide +kernel
theorem dX4_does_226 : decode cX4_does 226 = .ok (.ifCond .ne 37, 3) := by decide +kernel
theorem dX4_does_229 : decode cX4_does 229 = .ok (.iload 4, 2) := by decide +kernel
theorem dX4_does_231 : decode cX4_does 231 = .ok (.invokestatic 200, 3) := by decide +kernel
theorem dX4_does_234 : decode cX4_does 234 = .ok (.ifCond .eq 29, 3) := by decide +kernel
theorem dX4_does_237 : decode cX4_does 237 = .ok (.iload 5, 2) := by decide +kernel
theorem dX4_does_239 : decode cX4_does 239 = .ok (.iconst 2, 1) := by decide +kernel
theorem dX4_does_240 : decode cX4_does 240 = .ok (.if_icmp .ge 23, 3) := by decide +kernel
theorem dX4_does_243 : decode cX4_does 243 = .ok (.aload_n 0, 1) := by decide +kernel
theorem dX4_does_244 : decode cX4_does 244 = .ok (.getfield 19, 3) := by decide +kernel
theorem dX4_does_247 : decode cX4_does 247 = .ok (.iload 4, 2) := by decide +kernel
theorem dX4_does_249 : decode cX4_does 249 = .ok (.iconst 3, 1) := by decide +kernel
theorem dX4_does_250 : decode cX4_does 250 = .ok (.invokestatic 53, 3) := by decide +kernel
theorem dX4_does_253 : decode cX4_does 253 = .ok (.iaload, 1) := by decide +kernel
theorem dX4_does_254 : decode cX4_does 254 = .ok (.iload 5, 2) := by decide +kernel
theorem dX4_does_256 : decode cX4_does 256 = .ok (.if_icmp .ne 7, 3) := by decide +kernel
theorem dX4_does_259 : decode cX4_does 259 = .ok (.iconst 1, 1) := by decide +kernel
theorem dX4_does_260 : decode cX4_does 260 = .ok (.goto 4, 3) := by decide +kernel
theorem dX4_does_263 : decode cX4_does 263 = .ok (.iconst 0, 1) := by decide +kernel
theorem dX4_does_264 : decode cX4_does 264 = .ok (.ireturn, 1) := by decide +kernel
theorem dX4_does_265 : decode cX4_does 265 = .ok (.iload_n 3, 1) := by decide +kernel
theorem dX4_does_266 : decode cX4_does 266 = .ok (.invokestatic 205, 3) := by decide +kernel
theorem dX4_does_269 : decode cX4_does 269 = .ok (.ifCond .eq 27, 3) := by decide +kernel
theorem dX4_does_272 : decode cX4_does 272 = .ok (.iload 4, 2) := by decide +kernel
theorem dX4_does_274 : decode cX4_does 274 = .ok (.ifCond .ne 22, 3) := by decide +kernel
theorem dX4_does_277 : decode cX4_does 277 = .ok (.aload_n 0, 1) := by decide +kernel
theorem dX4_does_278 : decode cX4_does 278 = .ok (.getfield 19, 3) := by decide +kernel
theorem dX4_does_281 : decode cX4_does 281 = .ok (.iload_n 3, 1) := by decide +kernel
theorem dX4_does_282 : decode cX4_does 282 = .ok (.iconst 0, 1) := by decide +kernel
theorem dX4_does_283 : decode cX4_does 283 = .ok (.invokestatic 56, 3) := by decide +kernel
theorem dX4_does_286 : decode cX4_does 286 = .ok (.iaload, 1) := by decide +kernel
theorem dX4_does_287 : decode cX4_does 287 = .ok (.iload 5, 2) := by decide +kernel
theorem dX4_does_289 : decode cX4_does 289 = .ok (.if_icmp .ne 7, 3) := by decide +kernel
theorem dX4_does_292 : decode cX4_does 292 = .ok (.iconst 1, 1) := by decide +kernel
theorem dX4_does_293 : decode cX4_does 293 = .ok (.goto 4, 3) := by decide +kernel
theorem dX4_does_296 : decode cX4_does 296 = .ok (.iconst 0, 1) := by decide +kernel
theorem dX4_does_297 : decode cX4_does 297 = .ok (.ireturn, 1) := by decide +kernel
theorem dX4_does_298 : decode cX4_does 298 = .ok (.iload 6, 2) := by decide +kernel
theorem dX4_does_300 : decode cX4_does 300 = .ok (.ifCond .ne 22, 3) := by decide +kernel
theorem dX4_does_303 : decode cX4_does 303 = .ok (.aload_n 0, 1) := by decide +kernel
theorem dX4_does_304 : decode cX4_does 304 = .ok (.getfield 19, 3) := by decide +kernel
theorem dX4_does_307 : decode cX4_does 307 = .ok (.sipush 201, 3) := by decide +kernel
theorem dX4_does_310 : decode cX4_does 310 = .ok (.iaload, 1) := by decide +kernel
theorem dX4_does_311 : decode cX4_does 311 = .ok (.iload_n 1, 1) := by decide +kernel
theorem dX4_does_312 : decode cX4_does 312 = .ok (.bipush 100, 2) := by decide +kernel
theorem dX4_does_314 : decode cX4_does 314 = .ok (.irem, 1) := by decide +kernel
theorem dX4_does_315 : decode cX4_does 315 = .ok (.if_icmp .gt 7, 3) := by decide +kernel
theorem dX4_does_318 : decode cX4_does 318 = .ok (.iconst 1, 1) := by decide +kernel
theorem dX4_does_319 : decode cX4_does 319 = .ok (.goto 4, 3) := by decide +kernel
theorem dX4_does_322 : decode cX4_does 322 = .ok (.iconst 0, 1) := by decide +kernel
theorem dX4_does_323 : decode cX4_does 323 = .ok (.ireturn, 1) := by decide +kernel
theorem dX4_does_324 : decode cX4_does 324 = .ok (.iload 6, 2) := by decide +kernel
theorem dX4_does_326 : decode cX4_does 326 = .ok (.ifCond .ne 22, 3) := by decide +kernel
theorem dX4_does_329 : decode cX4_does 329 = .ok (.aload_n 0, 1) := by decide +kernel
theorem dX4_does_330 : decode cX4_does 330 = .ok (.getfield 19, 3) := by decide +kernel
theorem dX4_does_333 : decode cX4_does 333 = .ok (.sipush 199, 3) := by decide +kernel
theorem dX4_does_336 : decode cX4_does 336 = .ok (.iaload, 1) := by decide +kernel
theorem dX4_does_337 : decode cX4_does 337 = .ok (.iload_n 1, 1) := by decide +kernel
theorem dX4_does_338 : decode cX4_does 338 = .ok (.bipush 100, 2) := by decide +kernel
theorem dX4_does_340 : decode cX4_does 340 = .ok (.irem, 1) := by decide +kernel
theorem dX4_does_341 : decode cX4_does 341 = .ok (.if_icmp .lt 7, 3) := by decide +kernel
theorem dX4_does_344 : decode cX4_does 344 = .ok (.iconst 1, 1) := by decide +kernel
theorem dX4_does_345 : decode cX4_does 345 = .ok (.goto 4, 3) := by decide +kernel
theorem dX4_does_348 : decode cX4_does 348 = .ok (.iconst 0, 1) := by decide +kernel
theorem dX4_does_349 : decode cX4_does 349 = .ok (.ireturn, 1) := by decide +kernel
theorem dX4_does_350 : decode cX4_does 350 = .ok (.iconst 0, 1) := by decide +kernel
theorem dX4_does_351 : decode cX4_does 351 = .ok (.ireturn, 1) := by decide +kernel
set_option maxRecDepth 20000 in
theorem ggX4_runScript_X4_in : GoodIn wsX4_runScript wsX4_in := goodIn_r _ [6] rfl rfl
set_option maxRecDepth 20000 in
theorem gX4_runScript_X4_in : GoodIn wsX4_runScript (va_wsS RX4 69 yX4_in wsX4_in) := goodIn_app (goodIn_of _ (by decide +kernel)) ggX4_runScript_X4_in
set_option maxRecDepth 20000 in
theorem ggX4_runScript_X4_tenTo : GoodIn wsX4_runScript wsX4_tenTo := goodIn_r _ [9, 10] rfl rfl
set_option maxRecDepth 20000 in
theorem gX4_runScript_X4_tenTo : GoodIn wsX4_runScript (va_wsS RX4 256 yX4_tenTo wsX4_tenTo) := goodIn_app (goodIn_of _ (by decide +kernel)) ggX4_runScript_X4_tenTo
set_option maxRecDepth 20000 in
theorem ggX4_runScript_X4_refused : GoodIn wsX4_runScript wsX4_refused := goodIn_r _ [14, 15, 130, 131, 132, 133, 134, 135, 136, 137, 138, 139, 140, 141, 142] rfl rfl
set_option maxRecDepth 20000 in
theorem gX4_runScript_X4_refused : GoodIn wsX4_runScript (wsV RX4 113 RX4 yX4_refused wsX4_refused) := goodIn_app (goodIn_of _ (by decide +kernel)) ggX4_runScript_X4_refused
set_option maxRecDepth 20000 in
theorem ggX4_runScript_X4_tryIt : GoodIn wsX4_runScript wsX4_tryIt := goodIn_r _ [19, 20, 21, 22, 23, 5, 24, 130, 131, 132, 133, 134, 135, 136, 137, 138, 139, 140, 141, 142] rfl rfl
set_option maxRecDepth 20000 in
theorem gX4_runScript_X4_tryIt : GoodIn wsX4_runScript (wsV RX4 230 RX4 yX4_tryIt wsX4_tryIt) := goodIn_app (goodIn_of _ (by decide +kernel)) ggX4_runScript_X4_tryIt
set_option maxRecDepth 20000 in
theorem ggX4_runScript_X4_does : GoodIn wsX4_runScript wsX4_does := goodIn_r _ [28, 21, 29, 30, 31, 5, 32, 33, 34, 35, 36, 3, 4, 6, 37, 38, 39, 40, 41, 42, 43, 44, 45, 46, 47, 48, 49, 50, 51, 52, 53, 54, 55, 56, 57, 58, 59, 60, 61, 62, 63, 64, 65, 66, 67, 68, 69, 70, 71, 72, 73, 74, 75, 76, 77, 78, 79, 80, 81, 82, 83, 84, 85, 86, 87, 88, 89, 90, 91, 92, 93, 94, 95, 96, 97, 98, 99, 100, 101, 102, 103, 104, 105, 106, 107, 1, 108, 109, 110, 111, 112, 113, 114, 115, 116, 117, 118, 119, 120, 121, 122, 123, 124, 125, 126, 127, 128, 129, 22, 23, 24, 130, 131, 132, 133, 134, 135, 136, 137, 138, 139, 140, 141, 142] rfl rfl
set_option maxRecDepth 20000 in
theorem gX4_runScript_X4_does : GoodIn wsX4_runScript (wsV RX4 262 RX4 yX4_does wsX4_does) := goodIn_app (goodIn_of _ (by decide +kernel)) ggX4_runScript_X4_does
theorem dX4_runScript_0 : decode cX4_runScript 0 = .ok (.iload_n 1, 1) := by decide +kernel
theorem dX4_runScript_1 : decode cX4_runScript 1 = .ok (.i2l, 1) := by decide +kernel
theorem dX4_runScript_2 : decode cX4_runScript 2 = .ok (.lconst 1, 1) := by decide +kernel
theorem dX4_runScript_3 : decode cX4_runScript 3 = .ok (.ldc2_w 83, 3) := by decide +kernel
theorem dX4_runScript_6 : decode cX4_runScript 6 = .ok (.invokestatic 69, 3) := by decide +kernel
theorem dX4_runScript_9 : decode cX4_runScript 9 = .ok (.istore 4, 2) := by decide +kernel
theorem dX4_runScript_11 : decode cX4_runScript 11 = .ok (.aload_n 0, 1) := by decide +kernel
theorem dX4_runScript_12 : decode cX4_runScript 12 = .ok (.iload 4, 2) := by decide +kernel
theorem dX4_runScript_14 : decode cX4_runScript 14 = .ok (.ifCond .eq 32, 3) := by decide +kernel
theorem dX4_runScript_17 : decode cX4_runScript 17 = .ok (.lload_n 2, 1) := by decide +kernel
theorem dX4_runScript_18 : decode cX4_runScript 18 = .ok (.lconst 0, 1) := by decide +kernel
theorem dX4_runScript_19 : decode cX4_runScript 19 = .ok (.iload 4, 2) := by decide +kernel
theorem dX4_runScript_21 : decode cX4_runScript 21 = .ok (.ifCond .eq 9, 3) := by decide +kernel
theorem dX4_runScript_24 : decode cX4_runScript 24 = .ok (.iconst 5, 1) := by decide +kernel
theorem dX4_runScript_25 : decode cX4_runScript 25 = .ok (.iload_n 1, 1) := by decide +kernel
theorem dX4_runScript_26 : decode cX4_runScript 26 = .ok (.imul, 1) := by decide +kernel
theorem dX4_runScript_27 : decode cX4_runScript 27 = .ok (.goto 4, 3) := by decide +kernel
theorem dX4_runScript_30 : decode cX4_runScript 30 = .ok (.iconst 0, 1) := by decide +kernel
theorem dX4_runScript_31 : decode cX4_runScript 31 = .ok (.invokestatic 256, 3) := by decide +kernel
theorem dX4_runScript_34 : decode cX4_runScript 34 = .ok (.lconst 1, 1) := by decide +kernel
theorem dX4_runScript_35 : decode cX4_runScript 35 = .ok (.lsub, 1) := by decide +kernel
theorem dX4_runScript_36 : decode cX4_runScript 36 = .ok (.invokestatic 69, 3) := by decide +kernel
theorem dX4_runScript_39 : decode cX4_runScript 39 = .ok (.ifCond .eq 7, 3) := by decide +kernel
theorem dX4_runScript_42 : decode cX4_runScript 42 = .ok (.iconst 0, 1) := by decide +kernel
theorem dX4_runScript_43 : decode cX4_runScript 43 = .ok (.goto 4, 3) := by decide +kernel
theorem dX4_runScript_46 : decode cX4_runScript 46 = .ok (.iconst 1, 1) := by decide +kernel
theorem dX4_runScript_47 : decode cX4_runScript 47 = .ok (.invokevirtual 113, 3) := by decide +kernel
theorem dX4_runScript_50 : decode cX4_runScript 50 = .ok (.ifCond .eq 5, 3) := by decide +kernel
theorem dX4_runScript_53 : decode cX4_runScript 53 = .ok (.iconst 0, 1) := by decide +kernel
theorem dX4_runScript_54 : decode cX4_runScript 54 = .ok (.ireturn, 1) := by decide +kernel
theorem dX4_runScript_55 : decode cX4_runScript 55 = .ok (.aload_n 0, 1) := by decide +kernel
theorem dX4_runScript_56 : decode cX4_runScript 56 = .ok (.invokevirtual 230, 3) := by decide +kernel
theorem dX4_runScript_59 : decode cX4_runScript 59 = .ok (.iconst 0, 1) := by decide +kernel
theorem dX4_runScript_60 : decode cX4_runScript 60 = .ok (.istore 5, 2) := by decide +kernel
theorem dX4_runScript_62 : decode cX4_runScript 62 = .ok (.iload 5, 2) := by decide +kernel
theorem dX4_runScript_64 : decode cX4_runScript 64 = .ok (.iload_n 1, 1) := by decide +kernel
theorem dX4_runScript_65 : decode cX4_runScript 65 = .ok (.if_icmp .ge 37, 3) := by decide +kernel
theorem dX4_runScript_68 : decode cX4_runScript 68 = .ok (.aload_n 0, 1) := by decide +kernel
theorem dX4_runScript_69 : decode cX4_runScript 69 = .ok (.lload_n 2, 1) := by decide +kernel
theorem dX4_runScript_70 : decode cX4_runScript 70 = .ok (.iconst 5, 1) := by decide +kernel
theorem dX4_runScript_71 : decode cX4_runScript 71 = .ok (.iload_n 1, 1) := by decide +kernel
theorem dX4_runScript_72 : decode cX4_runScript 72 = .ok (.iconst 1, 1) := by decide +kernel
theorem dX4_runScript_73 : decode cX4_runScript 73 = .ok (.isub, 1) := by decide +kernel
theorem dX4_runScript_74 : decode cX4_runScript 74 = .ok (.iload 5, 2) := by decide +kernel
theorem dX4_runScript_76 : decode cX4_runScript 76 = .ok (.isub, 1) := by decide +kernel
theorem dX4_runScript_77 : decode cX4_runScript 77 = .ok (.imul, 1) := by decide +kernel
theorem dX4_runScript_78 : decode cX4_runScript 78 = .ok (.invokestatic 256, 3) := by decide +kernel
theorem dX4_runScript_81 : decode cX4_runScript 81 = .ok (.ldiv, 1) := by decide +kernel
theorem dX4_runScript_82 : decode cX4_runScript 82 = .ok (.ldc2_w 260, 3) := by decide +kernel
theorem dX4_runScript_85 : decode cX4_runScript 85 = .ok (.lrem, 1) := by decide +kernel
theorem dX4_runScript_86 : decode cX4_runScript 86 = .ok (.l2i, 1) := by decide +kernel
theorem dX4_runScript_87 : decode cX4_runScript 87 = .ok (.invokevirtual 262, 3) := by decide +kernel
theorem dX4_runScript_90 : decode cX4_runScript 90 = .ok (.ifCond .ne 6, 3) := by decide +kernel
theorem dX4_runScript_93 : decode cX4_runScript 93 = .ok (.iload 5, 2) := by decide +kernel
theorem dX4_runScript_95 : decode cX4_runScript 95 = .ok (.ireturn, 1) := by decide +kernel
theorem dX4_runScript_96 : decode cX4_runScript 96 = .ok (.iinc 5 1, 3) := by decide +kernel
theorem dX4_runScript_99 : decode cX4_runScript 99 = .ok (.goto (-37), 3) := by decide +kernel
theorem dX4_runScript_102 : decode cX4_runScript 102 = .ok (.bipush (-9), 2) := by decide +kernel
theorem dX4_runScript_104 : decode cX4_runScript 104 = .ok (.ireturn, 1) := by decide +kernel
set_option maxRecDepth 20000 in
theorem ggX4_stir_X4_takes : GoodIn wsX4_stir wsX4_takes := goodIn_r _ [6, 1, 7, 8, 5, 9, 10, 11, 12, 13, 14, 15, 16, 17, 18, 19, 20, 21, 22, 23, 24, 25, 26, 27, 28, 29, 30, 31, 32, 70, 71, 72, 73, 74, 75, 76, 77, 78, 79, 80, 81, 82] rfl rfl
set_option maxRecDepth 20000 in
theorem gX4_stir_X4_takes : GoodIn wsX4_stir (wsV RX4 239 RX4 yX4_takes wsX4_takes) := goodIn_app (goodIn_of _ (by decide +kernel)) ggX4_stir_X4_takes
set_option maxRecDepth 20000 in
theorem ggX4_stir_X4_bookAt : GoodIn wsX4_stir wsX4_bookAt := goodIn_r _ [23] rfl rfl
set_option maxRecDepth 20000 in
theorem gX4_stir_X4_bookAt : GoodIn wsX4_stir (va_wsS RX4 53 yX4_bookAt wsX4_bookAt) := goodIn_app (goodIn_of _ (by decide +kernel)) ggX4_stir_X4_bookAt
set_option maxRecDepth 20000 in
theorem ggX4_stir_X4_marks : GoodIn wsX4_stir wsX4_marks := goodIn_r _ [36, 1, 14, 15, 5, 16, 17, 11, 12, 13, 37, 38, 39, 21, 22, 23, 40, 41, 42, 24, 25, 26, 27, 28, 29, 43, 44, 45, 70, 71, 72, 73, 74, 75, 76, 77, 78, 79, 80, 81, 82] rfl rfl
set_option maxRecDepth 20000 in
theorem gX4_stir_X4_marks : GoodIn wsX4_stir (wsV RX4 243 RX4 yX4_marks wsX4_marks) := goodIn_app (goodIn_of _ (by decide +kernel)) ggX4_stir_X4_marks
set_option maxRecDepth 20000 in
theorem ggX4_stir_X4_isInside : GoodIn wsX4_stir wsX4_isInside := goodIn_r _ [26, 27, 28, 5, 29] rfl rfl
set_option maxRecDepth 20000 in
theorem gX4_stir_X4_isInside : GoodIn wsX4_stir (va_wsS RX4 59 yX4_isInside wsX4_isInside) := goodIn_app (goodIn_of _ (by decide +kernel)) ggX4_stir_X4_isInside
set_option maxRecDepth 20000 in
theorem ggX4_stir_X4_walks : GoodIn wsX4_stir wsX4_walks := goodIn_r _ [49, 1, 7, 8, 5, 9, 10, 11, 12, 13, 50, 51, 52, 53, 54, 55, 56, 27, 28, 29, 57, 58, 59, 70, 71, 72, 73, 74, 75, 76, 77, 78, 79, 80, 81, 82] rfl rfl
set_option maxRecDepth 20000 in
theorem gX4_stir_X4_walks : GoodIn wsX4_stir (wsV RX4 246 RX4 yX4_walks wsX4_walks) := goodIn_app (goodIn_of _ (by decide +kernel)) ggX4_stir_X4_walks
set_option maxRecDepth 20000 in
theorem ggX4_stir_X4_turns : GoodIn wsX4_stir wsX4_turns := goodIn_r _ [63, 1, 7, 8, 5, 9, 10, 11, 12, 13, 64, 65, 66, 27, 28, 29, 67, 68, 69, 70, 71, 72, 73, 74, 75, 76, 77, 78, 79, 80, 81, 82] rfl rfl
set_option maxRecDepth 20000 in
theorem gX4_stir_X4_turns : GoodIn wsX4_stir (wsV RX4 250 RX4 yX4_turns wsX4_turns) := goodIn_app (goodIn_of _ (by decide +kernel)) ggX4_stir_X4_turns
theorem dX4_stir_0 : decode cX4_stir 0 = .ok (.iload_n 1, 1) := by decide +kernel
theorem dX4_stir_1 : decode cX4_stir 1 = .ok (.bipush 8, 2) := by decide +kernel
theorem dX4_stir_3 : decode cX4_stir 3 = .ok (.idiv, 1) := by decide +kernel
theorem dX4_stir_4 : decode cX4_stir 4 = .ok (.bipush 6, 2) := by decide +kernel
theorem dX4_stir_6 : decode cX4_stir 6 = .ok (.irem, 1) := by decide +kernel
theorem dX4_stir_7 : decode cX4_stir 7 = .ok (.istore_n 2, 1) := by decide +kernel
theorem dX4_stir_8 : decode cX4_stir 8 = .ok (.iload_n 1, 1) := by decide +kernel
theorem dX4_stir_9 : decode cX4_stir 9 = .ok (.bipush 64, 2) := by decide +kernel
theorem dX4_stir_11 : decode cX4_stir 11 = .ok (.idiv, 1) := by decide +kernel
theorem dX4_stir_12 : decode cX4_stir 12 = .ok (.bipush 20, 2) := by decide +kernel
theorem dX4_stir_14 : decode cX4_stir 14 = .ok (.irem, 1) := by decide +kernel
theorem dX4_stir_15 : decode cX4_stir 15 = .ok (.istore_n 3, 1) := by decide +kernel
theorem dX4_stir_16 : decode cX4_stir 16 = .ok (.iload_n 1, 1) := by decide +kernel
theorem dX4_stir_17 : decode cX4_stir 17 = .ok (.sipush 2048, 3) := by decide +kernel
theorem dX4_stir_20 : decode cX4_stir 20 = .ok (.idiv, 1) := by decide +kernel
theorem dX4_stir_21 : decode cX4_stir 21 = .ok (.iconst 3, 1) := by decide +kernel
theorem dX4_stir_22 : decode cX4_stir 22 = .ok (.irem, 1) := by decide +kernel
theorem dX4_stir_23 : decode cX4_stir 23 = .ok (.istore 4, 2) := by decide +kernel
theorem dX4_stir_25 : decode cX4_stir 25 = .ok (.iload_n 1, 1) := by decide +kernel
theorem dX4_stir_26 : decode cX4_stir 26 = .ok (.bipush 8, 2) := by decide +kernel
theorem dX4_stir_28 : decode cX4_stir 28 = .ok (.irem, 1) := by decide +kernel
theorem dX4_stir_29 : decode cX4_stir 29 = .ok (.tableswitch 104 0 5 #[39, 39, 49, 76, 76, 95], 39) := by decide +kernel
theorem dX4_stir_68 : decode cX4_stir 68 = .ok (.aload_n 0, 1) := by decide +kernel
theorem dX4_stir_69 : decode cX4_stir 69 = .ok (.iload_n 2, 1) := by decide +kernel
theorem dX4_stir_70 : decode cX4_stir 70 = .ok (.iload_n 3, 1) := by decide +kernel
theorem dX4_stir_71 : decode cX4_stir 71 = .ok (.invokevirtual 239, 3) := by decide +kernel
theorem dX4_stir_74 : decode cX4_stir 74 = .ok (.pop, 1) := by decide +kernel
theorem dX4_stir_75 : decode cX4_stir 75 = .ok (.goto 58, 3) := by decide +kernel
theorem dX4_stir_78 : decode cX4_stir 78 = .ok (.aload_n 0, 1) := by decide +kernel
theorem dX4_stir_79 : decode cX4_stir 79 = .ok (.iload_n 3, 1) := by decide +kernel
theorem dX4_stir_80 : decode cX4_stir 80 = .ok (.aload_n 0, 1) := by decide +kernel
theorem dX4_stir_81 : decode cX4_stir 81 = .ok (.getfield 19, 3) := by decide +kernel
theorem dX4_stir_84 : decode cX4_stir 84 = .ok (.iload_n 3, 1) := by decide +kernel
theorem dX4_stir_85 : decode cX4_stir 85 = .ok (.iconst 1, 1) := by decide +kernel
theorem dX4_stir_86 : decode cX4_stir 86 = .ok (.invokestatic 53, 3) := by decide +kernel
theorem dX4_stir_89 : decode cX4_stir 89 = .ok (.iaload, 1) := by decide +kernel
theorem dX4_stir_90 : decode cX4_stir 90 = .ok (.ifCond .ne 7, 3) := by decide +kernel
theorem dX4_stir_93 : decode cX4_stir 93 = .ok (.iconst 1, 1) := by decide +kernel
theorem dX4_stir_94 : decode cX4_stir 94 = .ok (.goto 4, 3) := by decide +kernel
theorem dX4_stir_97 : decode cX4_stir 97 = .ok (.iconst 2, 1) := by decide +kernel
theorem dX4_stir_98 : decode cX4_stir 98 = .ok (.invokevirtual 243, 3) := by decide +kernel
theorem dX4_stir_101 : decode cX4_stir 101 = .ok (.pop, 1) := by decide +kernel
theorem dX4_stir_102 : decode cX4_stir 102 = .ok (.goto 31, 3) := by decide +kernel
theorem dX4_stir_105 : decode cX4_stir 105 = .ok (.aload_n 0, 1) := by decide +kernel
theorem dX4_stir_106 : decode cX4_stir 106 = .ok (.iload_n 2, 1) := by decide +kernel
theorem dX4_stir_107 : decode cX4_stir 107 = .ok (.iload 4, 2) := by decide +kernel
theorem dX4_stir_109 : decode cX4_stir 109 = .ok (.aload_n 0, 1) := by decide +kernel
theorem dX4_stir_110 : decode cX4_stir 110 = .ok (.getfield 19, 3) := by decide +kernel
theorem dX4_stir_113 : decode cX4_stir 113 = .ok (.iload_n 2, 1) := by decide +kernel
theorem dX4_stir_114 : decode cX4_stir 114 = .ok (.invokestatic 59, 3) := by decide +kernel
theorem dX4_stir_117 : decode cX4_stir 117 = .ok (.invokevirtual 246, 3) := by decide +kernel
theorem dX4_stir_120 : decode cX4_stir 120 = .ok (.pop, 1) := by decide +kernel
theorem dX4_stir_121 : decode cX4_stir 121 = .ok (.goto 12, 3) := by decide +kernel
theorem dX4_stir_124 : decode cX4_stir 124 = .ok (.aload_n 0, 1) := by decide +kernel
theorem dX4_stir_125 : decode cX4_stir 125 = .ok (.iload_n 2, 1) := by decide +kernel
theorem dX4_stir_126 : decode cX4_stir 126 = .ok (.invokevirtual 250, 3) := by decide +kernel
theorem dX4_stir_129 : decode cX4_stir 129 = .ok (.pop, 1) := by decide +kernel
theorem dX4_stir_130 : decode cX4_stir 130 = .ok (.goto 3, 3) := by decide +kernel
theorem dX4_stir_133 : decode cX4_stir 133 = .ok (.return_, 1) := by decide +kernel
set_option maxRecDepth 20000 in
theorem ggX4_simulate_X4_in : GoodIn wsX4_simulate wsX4_in := goodIn_r _ [9] rfl rfl
set_option maxRecDepth 20000 in
theorem gX4_simulate_X4_in : GoodIn wsX4_simulate (va_wsS RX4 69 yX4_in wsX4_in) := goodIn_app (goodIn_of _ (by decide +kernel)) ggX4_simulate_X4_in
set_option maxRecDepth 20000 in
theorem ggX4_simulate_X4_refused : GoodIn wsX4_simulate wsX4_refused := goodIn_r _ [13, 14, 120, 121, 122, 123, 124, 125, 126, 127, 128, 129, 130, 131, 132] rfl rfl
set_option maxRecDepth 20000 in
theorem gX4_simulate_X4_refused : GoodIn wsX4_simulate (wsV RX4 113 RX4 yX4_refused wsX4_refused) := goodIn_app (goodIn_of _ (by decide +kernel)) ggX4_simulate_X4_refused
set_option maxRecDepth 20000 in
theorem ggX4_simulate_X4_tryIt : GoodIn wsX4_simulate wsX4_tryIt := goodIn_r _ [18, 5, 4, 19, 20, 8, 21, 120, 121, 122, 123, 124, 125, 126, 127, 128, 129, 130, 131, 132] rfl rfl
set_option maxRecDepth 20000 in
theorem gX4_simulate_X4_tryIt : GoodIn wsX4_simulate (wsV RX4 230 RX4 yX4_tryIt wsX4_tryIt) := goodIn_app (goodIn_of _ (by decide +kernel)) ggX4_simulate_X4_tryIt
set_option maxRecDepth 20000 in
theorem ggX4_simulate_X4_stir : GoodIn wsX4_simulate wsX4_stir := goodIn_r _ [25, 4, 26, 27, 28, 8, 29, 30, 31, 32, 33, 6, 7, 9, 34, 35, 36, 37, 38, 39, 40, 41, 42, 43, 44, 45, 46, 47, 48, 49, 50, 51, 52, 53, 54, 55, 56, 57, 58, 59, 60, 61, 62, 63, 64, 65, 66, 67, 68, 69, 70, 71, 72, 73, 74, 75, 76, 77, 78, 79, 80, 81, 82, 83, 84, 85, 86, 87, 88, 89, 120, 121, 122, 123, 124, 125, 126, 127, 128, 129, 130, 131, 132] rfl rfl
set_option maxRecDepth 20000 in
theorem gX4_simulate_X4_stir : GoodIn wsX4_simulate (wsV RX4 271 RX4 yX4_stir wsX4_stir) := goodIn_app (goodIn_of _ (by decide +kernel)) ggX4_simulate_X4_stir
set_option maxRecDepth 20000 in
theorem ggX4_simulate_X4_tick : GoodIn wsX4_simulate wsX4_tick := goodIn_r _ [92, 47, 48, 8, 49, 93, 94, 95, 96, 97, 6, 7, 9, 98, 99, 100, 41, 42, 43, 101, 102, 103, 104, 105, 106, 107, 108, 109, 110, 111, 112, 113, 50, 51, 52, 114, 115, 116, 117, 118, 119, 19, 20, 21] rfl rfl
set_option maxRecDepth 20000 in
theorem gX4_simulate_X4_tick : GoodIn wsX4_simulate (va_wsS RX4 102 yX4_tick wsX4_tick) := goodIn_app (goodIn_of _ (by decide +kernel)) ggX4_simulate_X4_tick
theorem dX4_simulate_0 : decode cX4_simulate 0 = .ok (.aload_n 0, 1) := by decide +kernel
theorem dX4_simulate_1 : decode cX4_simulate 1 = .ok (.iload_n 3, 1) := by decide +kernel
theorem dX4_simulate_2 : decode cX4_simulate 2 = .ok (.i2l, 1) := by decide +kernel
theorem dX4_simulate_3 : decode cX4_simulate 3 = .ok (.lconst 1, 1) := by decide +kernel
theorem dX4_simulate_4 : decode cX4_simulate 4 = .ok (.ldc2_w 265, 3) := by decide +kernel
theorem dX4_simulate_7 : decode cX4_simulate 7 = .ok (.invokestatic 69, 3) := by decide +kernel
theorem dX4_simulate_10 : decode cX4_simulate 10 = .ok (.ifCond .eq 7, 3) := by decide +kernel
theorem dX4_simulate_13 : decode cX4_simulate 13 = .ok (.iconst 0, 1) := by decide +kernel
theorem dX4_simulate_14 : decode cX4_simulate 14 = .ok (.goto 4, 3) := by decide +kernel
theorem dX4_simulate_17 : decode cX4_simulate 17 = .ok (.iconst 1, 1) := by decide +kernel
theorem dX4_simulate_18 : decode cX4_simulate 18 = .ok (.invokevirtual 113, 3) := by decide +kernel
theorem dX4_simulate_21 : decode cX4_simulate 21 = .ok (.ifCond .eq 5, 3) := by decide +kernel
theorem dX4_simulate_24 : decode cX4_simulate 24 = .ok (.iconst 0, 1) := by decide +kernel
theorem dX4_simulate_25 : decode cX4_simulate 25 = .ok (.ireturn, 1) := by decide +kernel
theorem dX4_simulate_26 : decode cX4_simulate 26 = .ok (.aload_n 0, 1) := by decide +kernel
theorem dX4_simulate_27 : decode cX4_simulate 27 = .ok (.invokevirtual 230, 3) := by decide +kernel
theorem dX4_simulate_30 : decode cX4_simulate 30 = .ok (.lload_n 1, 1) := by decide +kernel
theorem dX4_simulate_31 : decode cX4_simulate 31 = .ok (.lstore 4, 2) := by decide +kernel
theorem dX4_simulate_33 : decode cX4_simulate 33 = .ok (.iconst 0, 1) := by decide +kernel
theorem dX4_simulate_34 : decode cX4_simulate 34 = .ok (.istore 6, 2) := by decide +kernel
theorem dX4_simulate_36 : decode cX4_simulate 36 = .ok (.iload 6, 2) := by decide +kernel
theorem dX4_simulate_38 : decode cX4_simulate 38 = .ok (.iload_n 3, 1) := by decide +kernel
theorem dX4_simulate_39 : decode cX4_simulate 39 = .ok (.if_icmp .ge 38, 3) := by decide +kernel
theorem dX4_simulate_42 : decode cX4_simulate 42 = .ok (.lload 4, 2) := by decide +kernel
theorem dX4_simulate_44 : decode cX4_simulate 44 = .ok (.ldc2_w 267, 3) := by decide +kernel
theorem dX4_simulate_47 : decode cX4_simulate 47 = .ok (.lmul, 1) := by decide +kernel
theorem dX4_simulate_48 : decode cX4_simulate 48 = .ok (.ldc2_w 269, 3) := by decide +kernel
theorem dX4_simulate_51 : decode cX4_simulate 51 = .ok (.ladd, 1) := by decide +kernel
theorem dX4_simulate_52 : decode cX4_simulate 52 = .ok (.lstore 4, 2) := by decide +kernel
theorem dX4_simulate_54 : decode cX4_simulate 54 = .ok (.aload_n 0, 1) := by decide +kernel
theorem dX4_simulate_55 : decode cX4_simulate 55 = .ok (.lload 4, 2) := by decide +kernel
theorem dX4_simulate_57 : decode cX4_simulate 57 = .ok (.bipush 33, 2) := by decide +kernel
theorem dX4_simulate_59 : decode cX4_simulate 59 = .ok (.lushr, 1) := by decide +kernel
theorem dX4_simulate_60 : decode cX4_simulate 60 = .ok (.l2i, 1) := by decide +kernel
theorem dX4_simulate_61 : decode cX4_simulate 61 = .ok (.invokevirtual 271, 3) := by decide +kernel
theorem dX4_simulate_64 : decode cX4_simulate 64 = .ok (.aload_n 0, 1) := by decide +kernel
theorem dX4_simulate_65 : decode cX4_simulate 65 = .ok (.getfield 19, 3) := by decide +kernel
theorem dX4_simulate_68 : decode cX4_simulate 68 = .ok (.invokestatic 102, 3) := by decide +kernel
theorem dX4_simulate_71 : decode cX4_simulate 71 = .ok (.iinc 6 1, 3) := by decide +kernel
theorem dX4_simulate_74 : decode cX4_simulate 74 = .ok (.goto (-38), 3) := by decide +kernel
theorem dX4_simulate_77 : decode cX4_simulate 77 = .ok (.sipush 10000, 3) := by decide +kernel
theorem dX4_simulate_80 : decode cX4_simulate 80 = .ok (.aload_n 0, 1) := by decide +kernel
theorem dX4_simulate_81 : decode cX4_simulate 81 = .ok (.getfield 19, 3) := by decide +kernel
theorem dX4_simulate_84 : decode cX4_simulate 84 = .ok (.sipush 199, 3) := by decide +kernel
theorem dX4_simulate_87 : decode cX4_simulate 87 = .ok (.iaload, 1) := by decide +kernel
theorem dX4_simulate_88 : decode cX4_simulate 88 = .ok (.aload_n 0, 1) := by decide +kernel
theorem dX4_simulate_89 : decode cX4_simulate 89 = .ok (.getfield 16, 3) := by decide +kernel
theorem dX4_simulate_92 : decode cX4_simulate 92 = .ok (.sipush 199, 3) := by decide +kernel
theorem dX4_simulate_95 : decode cX4_simulate 95 = .ok (.iaload, 1) := by decide +kernel
theorem dX4_simulate_96 : decode cX4_simulate 96 = .ok (.isub, 1) := by decide +kernel
theorem dX4_simulate_97 : decode cX4_simulate 97 = .ok (.imul, 1) := by decide +kernel
theorem dX4_simulate_98 : decode cX4_simulate 98 = .ok (.bipush 100, 2) := by decide +kernel
theorem dX4_simulate_100 : decode cX4_simulate 100 = .ok (.aload_n 0, 1) := by decide +kernel
theorem dX4_simulate_101 : decode cX4_simulate 101 = .ok (.getfield 19, 3) := by decide +kernel
theorem dX4_simulate_104 : decode cX4_simulate 104 = .ok (.sipush 200, 3) := by decide +kernel
theorem dX4_simulate_107 : decode cX4_simulate 107 = .ok (.iaload, 1) := by decide +kernel
theorem dX4_simulate_108 : decode cX4_simulate 108 = .ok (.aload_n 0, 1) := by decide +kernel
theorem dX4_simulate_109 : decode cX4_simulate 109 = .ok (.getfield 16, 3) := by decide +kernel
theorem dX4_simulate_112 : decode cX4_simulate 112 = .ok (.sipush 200, 3) := by decide +kernel
theorem dX4_simulate_115 : decode cX4_simulate 115 = .ok (.iaload, 1) := by decide +kernel
theorem dX4_simulate_116 : decode cX4_simulate 116 = .ok (.isub, 1) := by decide +kernel
theorem dX4_simulate_117 : decode cX4_simulate 117 = .ok (.imul, 1) := by decide +kernel
theorem dX4_simulate_118 : decode cX4_simulate 118 = .ok (.iadd, 1) := by decide +kernel
theorem dX4_simulate_119 : decode cX4_simulate 119 = .ok (.aload_n 0, 1) := by decide +kernel
theorem dX4_simulate_120 : decode cX4_simulate 120 = .ok (.getfield 19, 3) := by decide +kernel
theorem dX4_simulate_123 : decode cX4_simulate 123 = .ok (.sipush 201, 3) := by decide +kernel
theorem dX4_simulate_126 : decode cX4_simulate 126 = .ok (.iaload, 1) := by decide +kernel
theorem dX4_simulate_127 : decode cX4_simulate 127 = .ok (.iadd, 1) := by decide +kernel
theorem dX4_simulate_128 : decode cX4_simulate 128 = .ok (.aload_n 0, 1) := by decide +kernel
theorem dX4_simulate_129 : decode cX4_simulate 129 = .ok (.getfield 16, 3) := by decide +kernel
theorem dX4_simulate_132 : decode cX4_simulate 132 = .ok (.sipush 201, 3) := by decide +kernel
theorem dX4_simulate_135 : decode cX4_simulate 135 = .ok (.iaload, 1) := by decide +kernel
theorem dX4_simulate_136 : decode cX4_simulate 136 = .ok (.isub, 1) := by decide +kernel
theorem dX4_simulate_137 : decode cX4_simulate 137 = .ok (.ireturn, 1) := by decide +kernel
set_option maxRecDepth 20000 in
theorem ggX4_save_X4_in : GoodIn wsX4_save wsX4_in := goodIn_r _ [7] rfl rfl
set_option maxRecDepth 20000 in
theorem gX4_save_X4_in : GoodIn wsX4_save (va_wsS RX4 69 yX4_in wsX4_in) := goodIn_app (goodIn_of _ (by decide +kernel)) ggX4_save_X4_in
set_option maxRecDepth 20000 in
theorem ggX4_save_X4_refused : GoodIn wsX4_save wsX4_refused := goodIn_r _ [11, 12, 16, 17, 18, 19, 20, 21, 22, 23, 24, 25, 26, 27, 28] rfl rfl
set_option maxRecDepth 20000 in
theorem gX4_save_X4_refused : GoodIn wsX4_save (wsV RX4 113 RX4 yX4_refused wsX4_refused) := goodIn_app (goodIn_of _ (by decide +kernel)) ggX4_save_X4_refused
set_option maxRecDepth 20000 in
theorem ggX4_save_X4_copy : GoodIn wsX4_save wsX4_copy := goodIn_r _ [15] rfl rfl
set_option maxRecDepth 20000 in
theorem gX4_save_X4_copy : GoodIn wsX4_save (va_wsS RX4 49 yX4_copy wsX4_copy) := goodIn_app (goodIn_of _ (by decide +kernel)) ggX4_save_X4_copy
theorem dX4_save_0 : decode cX4_save 0 = .ok (.aload_n 0, 1) := by decide +kernel
theorem dX4_save_1 : decode cX4_save 1 = .ok (.iload_n 1, 1) := by decide +kernel
theorem dX4_save_2 : decode cX4_save 2 = .ok (.i2l, 1) := by decide +kernel
theorem dX4_save_3 : decode cX4_save 3 = .ok (.lconst 0, 1) := by decide +kernel
theorem dX4_save_4 : decode cX4_save 4 = .ok (.lconst 1, 1) := by decide +kernel
theorem dX4_save_5 : decode cX4_save 5 = .ok (.invokestatic 69, 3) := by decide +kernel
theorem dX4_save_8 : decode cX4_save 8 = .ok (.ifCond .eq 7, 3) := by decide +kernel
theorem dX4_save_11 : decode cX4_save 11 = .ok (.iconst 0, 1) := by decide +kernel
theorem dX4_save_12 : decode cX4_save 12 = .ok (.goto 4, 3) := by decide +kernel
theorem dX4_save_15 : decode cX4_save 15 = .ok (.iconst 1, 1) := by decide +kernel
theorem dX4_save_16 : decode cX4_save 16 = .ok (.invokevirtual 113, 3) := by decide +kernel
theorem dX4_save_19 : decode cX4_save 19 = .ok (.ifCond .eq 5, 3) := by decide +kernel
theorem dX4_save_22 : decode cX4_save 22 = .ok (.iconst 0, 1) := by decide +kernel
theorem dX4_save_23 : decode cX4_save 23 = .ok (.ireturn, 1) := by decide +kernel
theorem dX4_save_24 : decode cX4_save 24 = .ok (.aload_n 0, 1) := by decide +kernel
theorem dX4_save_25 : decode cX4_save 25 = .ok (.getfield 16, 3) := by decide +kernel
theorem dX4_save_28 : decode cX4_save 28 = .ok (.iconst 0, 1) := by decide +kernel
theorem dX4_save_29 : decode cX4_save 29 = .ok (.aload_n 0, 1) := by decide +kernel
theorem dX4_save_30 : decode cX4_save 30 = .ok (.getfield 25, 3) := by decide +kernel
theorem dX4_save_33 : decode cX4_save 33 = .ok (.sipush 233, 3) := by decide +kernel
theorem dX4_save_36 : decode cX4_save 36 = .ok (.iload_n 1, 1) := by decide +kernel
theorem dX4_save_37 : decode cX4_save 37 = .ok (.imul, 1) := by decide +kernel
theorem dX4_save_38 : decode cX4_save 38 = .ok (.sipush 233, 3) := by decide +kernel
theorem dX4_save_41 : decode cX4_save 41 = .ok (.invokestatic 49, 3) := by decide +kernel
theorem dX4_save_44 : decode cX4_save 44 = .ok (.aload_n 0, 1) := by decide +kernel
theorem dX4_save_45 : decode cX4_save 45 = .ok (.getfield 28, 3) := by decide +kernel
theorem dX4_save_48 : decode cX4_save 48 = .ok (.iload_n 1, 1) := by decide +kernel
theorem dX4_save_49 : decode cX4_save 49 = .ok (.iconst 1, 1) := by decide +kernel
theorem dX4_save_50 : decode cX4_save 50 = .ok (.bastore, 1) := by decide +kernel
theorem dX4_save_51 : decode cX4_save 51 = .ok (.aload_n 0, 1) := by decide +kernel
theorem dX4_save_52 : decode cX4_save 52 = .ok (.getfield 16, 3) := by decide +kernel
theorem dX4_save_55 : decode cX4_save 55 = .ok (.sipush 198, 3) := by decide +kernel
theorem dX4_save_58 : decode cX4_save 58 = .ok (.iaload, 1) := by decide +kernel
theorem dX4_save_59 : decode cX4_save 59 = .ok (.ireturn, 1) := by decide +kernel
set_option maxRecDepth 20000 in
theorem ggX4_restore_X4_in : GoodIn wsX4_restore wsX4_in := goodIn_r _ [8] rfl rfl
set_option maxRecDepth 20000 in
theorem gX4_restore_X4_in : GoodIn wsX4_restore (va_wsS RX4 69 yX4_in wsX4_in) := goodIn_app (goodIn_of _ (by decide +kernel)) ggX4_restore_X4_in
set_option maxRecDepth 20000 in
theorem ggX4_restore_X4_refused : GoodIn wsX4_restore wsX4_refused := goodIn_r _ [12, 13, 17, 18, 19, 20, 21, 22, 23, 24, 25, 26, 27, 28, 29] rfl rfl
set_option maxRecDepth 20000 in
theorem gX4_restore_X4_refused : GoodIn wsX4_restore (wsV RX4 113 RX4 yX4_refused wsX4_refused) := goodIn_app (goodIn_of _ (by decide +kernel)) ggX4_restore_X4_refused
set_option maxRecDepth 20000 in
theorem ggX4_restore_X4_copy : GoodIn wsX4_restore wsX4_copy := goodIn_r _ [16] rfl rfl
set_option maxRecDepth 20000 in
theorem gX4_restore_X4_copy : GoodIn wsX4_restore (va_wsS RX4 49 yX4_copy wsX4_copy) := goodIn_app (goodIn_of _ (by decide +kernel)) ggX4_restore_X4_copy
theorem dX4_restore_0 : decode cX4_restore 0 = .ok (.aload_n 0, 1) := by decide +kernel
theorem dX4_restore_1 : decode cX4_restore 1 = .ok (.iload_n 1, 1) := by decide +kernel
theorem dX4_restore_2 : decode cX4_restore 2 = .ok (.i2l, 1) := by decide +kernel
theorem dX4_restore_3 : decode cX4_restore 3 = .ok (.lconst 0, 1) := by decide +kernel
theorem dX4_restore_4 : decode cX4_restore 4 = .ok (.lconst 1, 1) := by decide +kernel
theorem dX4_restore_5 : decode cX4_restore 5 = .ok (.invokestatic 69, 3) := by decide +kernel
theorem dX4_restore_8 : decode cX4_restore 8 = .ok (.ifCond .ne 7, 3) := by decide +kernel
theorem dX4_restore_11 : decode cX4_restore 11 = .ok (.iconst 1, 1) := by decide +kernel
theorem dX4_restore_12 : decode cX4_restore 12 = .ok (.goto 17, 3) := by decide +kernel
theorem dX4_restore_15 : decode cX4_restore 15 = .ok (.aload_n 0, 1) := by decide +kernel
theorem dX4_restore_16 : decode cX4_restore 16 = .ok (.getfield 28, 3) := by decide +kernel
theorem dX4_restore_19 : decode cX4_restore 19 = .ok (.iload_n 1, 1) := by decide +kernel
theorem dX4_restore_20 : decode cX4_restore 20 = .ok (.baload, 1) := by decide +kernel
theorem dX4_restore_21 : decode cX4_restore 21 = .ok (.ifCond .eq 7, 3) := by decide +kernel
theorem dX4_restore_24 : decode cX4_restore 24 = .ok (.iconst 0, 1) := by decide +kernel
theorem dX4_restore_25 : decode cX4_restore 25 = .ok (.goto 4, 3) := by decide +kernel
theorem dX4_restore_28 : decode cX4_restore 28 = .ok (.iconst 2, 1) := by decide +kernel
theorem dX4_restore_29 : decode cX4_restore 29 = .ok (.invokevirtual 113, 3) := by decide +kernel
theorem dX4_restore_32 : decode cX4_restore 32 = .ok (.ifCond .eq 5, 3) := by decide +kernel
theorem dX4_restore_35 : decode cX4_restore 35 = .ok (.iconst 0, 1) := by decide +kernel
theorem dX4_restore_36 : decode cX4_restore 36 = .ok (.ireturn, 1) := by decide +kernel
theorem dX4_restore_37 : decode cX4_restore 37 = .ok (.aload_n 0, 1) := by decide +kernel
theorem dX4_restore_38 : decode cX4_restore 38 = .ok (.getfield 25, 3) := by decide +kernel
theorem dX4_restore_41 : decode cX4_restore 41 = .ok (.sipush 233, 3) := by decide +kernel
theorem dX4_restore_44 : decode cX4_restore 44 = .ok (.iload_n 1, 1) := by decide +kernel
theorem dX4_restore_45 : decode cX4_restore 45 = .ok (.imul, 1) := by decide +kernel
theorem dX4_restore_46 : decode cX4_restore 46 = .ok (.aload_n 0, 1) := by decide +kernel
theorem dX4_restore_47 : decode cX4_restore 47 = .ok (.getfield 16, 3) := by decide +kernel
theorem dX4_restore_50 : decode cX4_restore 50 = .ok (.iconst 0, 1) := by decide +kernel
theorem dX4_restore_51 : decode cX4_restore 51 = .ok (.sipush 233, 3) := by decide +kernel
theorem dX4_restore_54 : decode cX4_restore 54 = .ok (.invokestatic 49, 3) := by decide +kernel
theorem dX4_restore_57 : decode cX4_restore 57 = .ok (.aload_n 0, 1) := by decide +kernel
theorem dX4_restore_58 : decode cX4_restore 58 = .ok (.iconst 0, 1) := by decide +kernel
theorem dX4_restore_59 : decode cX4_restore 59 = .ok (.putfield 46, 3) := by decide +kernel
theorem dX4_restore_62 : decode cX4_restore 62 = .ok (.aload_n 0, 1) := by decide +kernel
theorem dX4_restore_63 : decode cX4_restore 63 = .ok (.getfield 16, 3) := by decide +kernel
theorem dX4_restore_66 : decode cX4_restore 66 = .ok (.sipush 198, 3) := by decide +kernel
theorem dX4_restore_69 : decode cX4_restore 69 = .ok (.iaload, 1) := by decide +kernel
theorem dX4_restore_70 : decode cX4_restore 70 = .ok (.ireturn, 1) := by decide +kernel
