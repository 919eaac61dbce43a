set_option maxRecDepth 20000 in
theorem ggX3_init_X2_init : GoodIn wsX3_init wsX2_init := goodIn_r _ [19, 20, 2, 3, 21, 22, 23, 24, 25, 26, 27, 28, 29, 30, 31, 32, 33, 34, 77, 78, 79, 80, 81, 82, 83, 84, 85, 86, 87, 88] rfl rfl
set_option maxRecDepth 20000 in
theorem gX3_init_X2_init_n11 : GoodIn wsX3_init (wsX2_init) := ggX3_init_X2_init
set_option maxRecDepth 20000 in
theorem ggX3_init_X1_init : GoodIn wsX3_init wsX1_init := goodIn_r _ [37, 38, 2, 3, 39, 40, 41, 42, 26, 43, 44, 45, 46, 16, 47, 48, 49, 50, 51, 52, 53, 54, 55, 56, 57, 58, 59, 60, 61, 62, 63, 10, 64, 65, 66, 67, 68, 69, 70, 71, 72, 73, 74, 75, 76, 111, 112, 113, 114, 115, 116, 117, 118, 119, 96, 97, 98, 99, 100, 101, 102, 103, 104, 105, 106, 107, 108, 109, 110] rfl rfl
set_option maxRecDepth 20000 in
theorem gX3_init_X1_init : GoodIn wsX3_init (wsX1_init) := ggX3_init_X1_init
theorem dX3_init_0 : decode cX3_init 0 = .ok (.aload_n 0, 1) := by decide +kernel
theorem dX3_init_1 : decode cX3_init 1 = .ok (.invokespecial 3, 3) := by decide +kernel
theorem dX3_init_4 : decode cX3_init 4 = .ok (.aload_n 0, 1) := by decide +kernel
theorem dX3_init_5 : decode cX3_init 5 = .ok (.new 9, 3) := by decide +kernel
theorem dX3_init_8 : decode cX3_init 8 = .ok (.dup, 1) := by decide +kernel
theorem dX3_init_9 : decode cX3_init 9 = .ok (.invokespecial 11, 3) := by decide +kernel
theorem dX3_init_12 : decode cX3_init 12 = .ok (.putfield 12, 3) := by decide +kernel
theorem dX3_init_15 : decode cX3_init 15 = .ok (.aload_n 0, 1) := by decide +kernel
theorem dX3_init_16 : decode cX3_init 16 = .ok (.new 16, 3) := by decide +kernel
theorem dX3_init_19 : decode cX3_init 19 = .ok (.dup, 1) := by decide +kernel
theorem dX3_init_20 : decode cX3_init 20 = .ok (.invokespecial 18, 3) := by decide +kernel
theorem dX3_init_23 : decode cX3_init 23 = .ok (.putfield 19, 3) := by decide +kernel
theorem dX3_init_26 : decode cX3_init 26 = .ok (.aload_n 0, 1) := by decide +kernel
theorem dX3_init_27 : decode cX3_init 27 = .ok (.new 16, 3) := by decide +kernel
theorem dX3_init_30 : decode cX3_init 30 = .ok (.dup, 1) := by decide +kernel
theorem dX3_init_31 : decode cX3_init 31 = .ok (.invokespecial 18, 3) := by decide +kernel
theorem dX3_init_34 : decode cX3_init 34 = .ok (.putfield 23, 3) := by decide +kernel
theorem dX3_init_37 : decode cX3_init 37 = .ok (.aload_n 0, 1) := by decide +kernel
theorem dX3_init_38 : decode cX3_init 38 = .ok (.bipush 14, 2) := by decide +kernel
theorem dX3_init_40 : decode cX3_init 40 = .ok (.anewarray 16, 3) := by decide +kernel
theorem dX3_init_43 : decode cX3_init 43 = .ok (.putfield 26, 3) := by decide +kernel
theorem dX3_init_46 : decode cX3_init 46 = .ok (.iconst 0, 1) := by decide +kernel
theorem dX3_init_47 : decode cX3_init 47 = .ok (.istore_n 1, 1) := by decide +kernel
theorem dX3_init_48 : decode cX3_init 48 = .ok (.iload_n 1, 1) := by decide +kernel
theorem dX3_init_49 : decode cX3_init 49 = .ok (.bipush 14, 2) := by decide +kernel
theorem dX3_init_51 : decode cX3_init 51 = .ok (.if_icmp .ge 22, 3) := by decide +kernel
theorem dX3_init_54 : decode cX3_init 54 = .ok (.aload_n 0, 1) := by decide +kernel
theorem dX3_init_55 : decode cX3_init 55 = .ok (.getfield 26, 3) := by decide +kernel
theorem dX3_init_58 : decode cX3_init 58 = .ok (.iload_n 1, 1) := by decide +kernel
theorem dX3_init_59 : decode cX3_init 59 = .ok (.new 16, 3) := by decide +kernel
theorem dX3_init_62 : decode cX3_init 62 = .ok (.dup, 1) := by decide +kernel
theorem dX3_init_63 : decode cX3_init 63 = .ok (.invokespecial 18, 3) := by decide +kernel
theorem dX3_init_66 : decode cX3_init 66 = .ok (.aastore, 1) := by decide +kernel
theorem dX3_init_67 : decode cX3_init 67 = .ok (.iinc 1 1, 3) := by decide +kernel
theorem dX3_init_70 : decode cX3_init 70 = .ok (.goto (-22), 3) := by decide +kernel
theorem dX3_init_73 : decode cX3_init 73 = .ok (.aload_n 0, 1) := by decide +kernel
theorem dX3_init_74 : decode cX3_init 74 = .ok (.iconst 0, 1) := by decide +kernel
theorem dX3_init_75 : decode cX3_init 75 = .ok (.putfield 30, 3) := by decide +kernel
theorem dX3_init_78 : decode cX3_init 78 = .ok (.aload_n 0, 1) := by decide +kernel
theorem dX3_init_79 : decode cX3_init 79 = .ok (.iconst 2, 1) := by decide +kernel
theorem dX3_init_80 : decode cX3_init 80 = .ok (.anewarray 16, 3) := by decide +kernel
theorem dX3_init_83 : decode cX3_init 83 = .ok (.putfield 34, 3) := by decide +kernel
theorem dX3_init_86 : decode cX3_init 86 = .ok (.iconst 0, 1) := by decide +kernel
theorem dX3_init_87 : decode cX3_init 87 = .ok (.istore_n 1, 1) := by decide +kernel
theorem dX3_init_88 : decode cX3_init 88 = .ok (.iload_n 1, 1) := by decide +kernel
theorem dX3_init_89 : decode cX3_init 89 = .ok (.iconst 2, 1) := by decide +kernel
theorem dX3_init_90 : decode cX3_init 90 = .ok (.if_icmp .ge 22, 3) := by decide +kernel
theorem dX3_init_93 : decode cX3_init 93 = .ok (.aload_n 0, 1) := by decide +kernel
theorem dX3_init_94 : decode cX3_init 94 = .ok (.getfield 34, 3) := by decide +kernel
theorem dX3_init_97 : decode cX3_init 97 = .ok (.iload_n 1, 1) := by decide +kernel
theorem dX3_init_98 : decode cX3_init 98 = .ok (.new 16, 3) := by decide +kernel
theorem dX3_init_101 : decode cX3_init 101 = .ok (.dup, 1) := by decide +kernel
theorem dX3_init_102 : decode cX3_init 102 = .ok (.invokespecial 18, 3) := by decide +kernel
theorem dX3_init_105 : decode cX3_init 105 = .ok (.aastore, 1) := by decide +kernel
theorem dX3_init_106 : decode cX3_init 106 = .ok (.iinc 1 1, 3) := by decide +kernel
theorem dX3_init_109 : decode cX3_init 109 = .ok (.goto (-21), 3) := by decide +kernel
theorem dX3_init_112 : decode cX3_init 112 = .ok (.aload_n 0, 1) := by decide +kernel
theorem dX3_init_113 : decode cX3_init 113 = .ok (.iconst 2, 1) := by decide +kernel
theorem dX3_init_114 : decode cX3_init 114 = .ok (.newarray .boolean, 2) := by decide +kernel
theorem dX3_init_116 : decode cX3_init 116 = .ok (.putfield 37, 3) := by decide +kernel
theorem dX3_init_119 : decode cX3_init 119 = .ok (.return_, 1) := by decide +kernel
set_option maxRecDepth 20000 in
theorem ggX3_append_X2_isFull : GoodIn wsX3_append wsX2_isFull := goodIn_r _ [10, 11, 24, 25, 26, 27, 28, 29, 30, 31, 32, 33, 34, 35] rfl rfl
set_option maxRecDepth 20000 in
theorem gX3_append_X2_isFull : GoodIn wsX3_append (wsV RX3 48 RX2 yX2_isFull wsX2_isFull) := goodIn_app (goodIn_of _ (by decide +kernel)) ggX3_append_X2_isFull
set_option maxRecDepth 20000 in
theorem ggX3_append_X2_add : GoodIn wsX3_append wsX2_add := goodIn_r _ [15, 11, 16, 24, 25, 26, 27, 28, 29, 30, 31, 32, 33, 34, 35] rfl rfl
set_option maxRecDepth 20000 in
theorem gX3_append_X2_add : GoodIn wsX3_append (wsV RX3 57 RX2 yX2_add wsX2_add) := goodIn_app (goodIn_of _ (by decide +kernel)) ggX3_append_X2_add
theorem dX3_append_0 : decode cX3_append 0 = .ok (.iload_n 1, 1) := by decide +kernel
theorem dX3_append_1 : decode cX3_append 1 = .ok (.ifCond .lt 10, 3) := by decide +kernel
theorem dX3_append_4 : decode cX3_append 4 = .ok (.iload_n 1, 1) := by decide +kernel
theorem dX3_append_5 : decode cX3_append 5 = .ok (.sipush 255, 3) := by decide +kernel
theorem dX3_append_8 : decode cX3_append 8 = .ok (.if_icmp .le 13, 3) := by decide +kernel
theorem dX3_append_11 : decode cX3_append 11 = .ok (.new 41, 3) := by decide +kernel
theorem dX3_append_14 : decode cX3_append 14 = .ok (.dup, 1) := by decide +kernel
theorem dX3_append_15 : decode cX3_append 15 = .ok (.ldc 43, 2) := by decide +kernel
theorem dX3_append_17 : decode cX3_append 17 = .ok (.invokespecial 45, 3) := by decide +kernel
theorem dX3_append_20 : decode cX3_append 20 = .ok (.athrow, 1) := by decide +kernel
theorem dX3_append_21 : decode cX3_append 21 = .ok (.aload_n 0, 1) := by decide +kernel
theorem dX3_append_22 : decode cX3_append 22 = .ok (.getfield 12, 3) := by decide +kernel
theorem dX3_append_25 : decode cX3_append 25 = .ok (.invokevirtual 48, 3) := by decide +kernel
theorem dX3_append_28 : decode cX3_append 28 = .ok (.ifCond .eq 13, 3) := by decide +kernel
theorem dX3_append_31 : decode cX3_append 31 = .ok (.new 52, 3) := by decide +kernel
theorem dX3_append_34 : decode cX3_append 34 = .ok (.dup, 1) := by decide +kernel
theorem dX3_append_35 : decode cX3_append 35 = .ok (.ldc 54, 2) := by decide +kernel
theorem dX3_append_37 : decode cX3_append 37 = .ok (.invokespecial 56, 3) := by decide +kernel
theorem dX3_append_40 : decode cX3_append 40 = .ok (.athrow, 1) := by decide +kernel
theorem dX3_append_41 : decode cX3_append 41 = .ok (.aload_n 0, 1) := by decide +kernel
theorem dX3_append_42 : decode cX3_append 42 = .ok (.getfield 12, 3) := by decide +kernel
theorem dX3_append_45 : decode cX3_append 45 = .ok (.iload_n 1, 1) := by decide +kernel
theorem dX3_append_46 : decode cX3_append 46 = .ok (.i2c, 1) := by decide +kernel
theorem dX3_append_47 : decode cX3_append 47 = .ok (.invokevirtual 57, 3) := by decide +kernel
theorem dX3_append_50 : decode cX3_append 50 = .ok (.ireturn, 1) := by decide +kernel
set_option maxRecDepth 20000 in
theorem ggX3_clearText_X2_empty : GoodIn wsX3_clearText wsX2_empty := goodIn_r _ [6, 7, 15, 16, 17, 18, 19, 20, 21, 22, 23, 24, 25, 26] rfl rfl
set_option maxRecDepth 20000 in
theorem gX3_clearText_X2_empty : GoodIn wsX3_clearText (wsV RX3 61 RX2 yX2_empty wsX2_empty) := goodIn_app (goodIn_of _ (by decide +kernel)) ggX3_clearText_X2_empty
theorem dX3_clearText_0 : decode cX3_clearText 0 = .ok (.aload_n 0, 1) := by decide +kernel
theorem dX3_clearText_1 : decode cX3_clearText 1 = .ok (.getfield 12, 3) := by decide +kernel
theorem dX3_clearText_4 : decode cX3_clearText 4 = .ok (.invokevirtual 61, 3) := by decide +kernel
theorem dX3_clearText_7 : decode cX3_clearText 7 = .ok (.ireturn, 1) := by decide +kernel
set_option maxRecDepth 20000 in
theorem ggX3_errorPosition_X2_firstError : GoodIn wsX3_errorPosition wsX2_firstError := goodIn_r _ [6, 7, 8, 9, 10, 11, 5, 12, 13, 14, 15, 16, 17, 18, 19, 20, 21, 22, 23, 24, 25, 26, 27, 28, 29, 30, 31, 32, 33, 34, 35, 36, 37, 38, 39, 40, 41, 42, 43, 44, 45, 46, 47, 48, 49, 50, 51, 52, 53, 54, 55, 56, 57, 58, 66, 67, 68, 69, 70, 71, 72, 73, 74, 75, 76, 77] rfl rfl
set_option maxRecDepth 20000 in
theorem gX3_errorPosition_X2_firstError : GoodIn wsX3_errorPosition (wsV RX3 65 RX2 yX2_firstError wsX2_firstError) := goodIn_app (goodIn_of _ (by decide +kernel)) ggX3_errorPosition_X2_firstError
theorem dX3_errorPosition_0 : decode cX3_errorPosition 0 = .ok (.aload_n 0, 1) := by decide +kernel
theorem dX3_errorPosition_1 : decode cX3_errorPosition 1 = .ok (.getfield 12, 3) := by decide +kernel
theorem dX3_errorPosition_4 : decode cX3_errorPosition 4 = .ok (.invokevirtual 65, 3) := by decide +kernel
theorem dX3_errorPosition_7 : decode cX3_errorPosition 7 = .ok (.ireturn, 1) := by decide +kernel
set_option maxRecDepth 20000 in
theorem ggX3_load_X2_firstError : GoodIn wsX3_load wsX2_firstError := goodIn_r _ [8, 9, 10, 11, 12, 13, 7, 14, 15, 16, 17, 18, 19, 20, 21, 22, 23, 24, 25, 26, 27, 28, 29, 30, 31, 32, 33, 34, 35, 36, 37, 38, 39, 40, 41, 42, 43, 44, 45, 46, 47, 48, 49, 50, 51, 52, 53, 54, 55, 56, 57, 58, 59, 60, 272, 273, 274, 275, 276, 277, 278, 279, 280, 281, 282, 283] rfl rfl
set_option maxRecDepth 20000 in
theorem gX3_load_X2_firstError : GoodIn wsX3_load (wsV RX3 65 RX2 yX2_firstError wsX2_firstError) := goodIn_app (goodIn_of _ (by decide +kernel)) ggX3_load_X2_firstError
set_option maxRecDepth 20000 in
theorem ggX3_load_X3_forgetEverything : GoodIn wsX3_load wsX3_forgetEverything := goodIn_r _ [65, 66, 67, 68, 69, 70, 71, 72, 73, 74, 75, 76, 77, 78, 79, 80, 81, 82, 83, 84, 85, 86, 87, 88, 89, 90, 91, 92, 93, 94, 95, 96, 97, 98, 99, 100, 101, 265, 266, 267, 268, 269, 270, 271, 284, 285, 286, 287, 288, 289, 290, 291, 292, 293, 294, 295, 296, 297, 298, 299, 300, 301, 302, 303, 304, 305, 306, 307] rfl rfl
set_option maxRecDepth 20000 in
theorem gX3_load_X3_forgetEverything : GoodIn wsX3_load (wsV RX3 70 RX3 yX3_forgetEverything wsX3_forgetEverything) := goodIn_app (goodIn_of _ (by decide +kernel)) ggX3_load_X3_forgetEverything
set_option maxRecDepth 20000 in
theorem ggX3_load_X2_startReading : GoodIn wsX3_load wsX2_startReading := goodIn_r _ [14, 9, 272, 273, 274, 275, 276, 277, 278, 279, 280, 281, 282, 283] rfl rfl
set_option maxRecDepth 20000 in
theorem gX3_load_X2_startReading : GoodIn wsX3_load (wsV RX3 73 RX2 yX2_startReading wsX2_startReading) := goodIn_app (goodIn_of _ (by decide +kernel)) ggX3_load_X2_startReading
set_option maxRecDepth 20000 in
theorem ggX3_load_X2_readHeader : GoodIn wsX3_load wsX2_readHeader := goodIn_r _ [18, 19, 20, 21, 22, 23, 24, 25, 7, 26, 9, 10, 27, 28, 29, 30, 31, 32, 33, 34, 35, 36, 272, 273, 274, 275, 276, 277, 278, 279, 280, 281, 282, 283] rfl rfl
set_option maxRecDepth 20000 in
theorem gX3_load_X2_readHeader : GoodIn wsX3_load (wsV RX3 76 RX2 yX2_readHeader wsX2_readHeader) := goodIn_app (goodIn_of _ (by decide +kernel)) ggX3_load_X2_readHeader
set_option maxRecDepth 20000 in
theorem ggX3_load_X3_putGatesOfText : GoodIn wsX3_load wsX3_putGatesOfText := goodIn_r _ [107, 66, 108, 109, 3, 110, 111, 112, 113, 114, 265, 266, 267, 268, 269, 270, 271, 284, 285, 286, 287, 288, 289, 290, 291, 292, 293, 294, 295, 296, 297, 298, 299, 300, 301, 302, 303, 304, 305, 306, 307, 272, 273, 274, 275, 276, 277, 278, 279, 280, 281, 282, 283] rfl rfl
set_option maxRecDepth 20000 in
theorem gX3_load_X3_putGatesOfText : GoodIn wsX3_load (wsV RX3 79 RX3 yX3_putGatesOfText wsX3_putGatesOfText) := goodIn_app (goodIn_of _ (by decide +kernel)) ggX3_load_X3_putGatesOfText
set_option maxRecDepth 20000 in
theorem ggX3_load_X2_readCommand : GoodIn wsX3_load wsX2_readCommand := goodIn_r _ [40, 28, 9, 23, 24, 25, 7, 26, 10, 27, 41, 42, 43, 44, 20, 45, 33, 34, 35, 36, 46, 47, 48, 49, 50, 29, 30, 31, 32, 51, 52, 53, 54, 55, 56, 57, 58, 59, 60, 272, 273, 274, 275, 276, 277, 278, 279, 280, 281, 282, 283] rfl rfl
set_option maxRecDepth 20000 in
theorem gX3_load_X2_readCommand : GoodIn wsX3_load (wsV RX3 82 RX2 yX2_readCommand wsX2_readCommand) := goodIn_app (goodIn_of _ (by decide +kernel)) ggX3_load_X2_readCommand
set_option maxRecDepth 20000 in
theorem ggX3_load_X3_doTextCommand : GoodIn wsX3_load wsX3_doTextCommand := goodIn_r _ [119, 3, 120, 66, 121, 122, 123, 124, 125, 126, 127, 72, 128, 75, 129, 130, 131, 132, 76, 133, 64, 134, 135, 136, 137, 138, 139, 140, 141, 142, 143, 144, 145, 146, 147, 148, 149, 150, 151, 152, 153, 154, 155, 156, 157, 158, 159, 160, 161, 162, 163, 164, 165, 166, 167, 82, 168, 169, 170, 171, 172, 173, 174, 175, 176, 177, 178, 179, 180, 181, 182, 183, 184, 185, 186, 187, 77, 78, 79, 188, 189, 190, 191, 192, 193, 194, 195, 196, 197, 198, 199, 200, 201, 202, 203, 204, 205, 74, 206, 207, 208, 92, 209, 96, 210, 211, 212, 213, 85, 81, 214, 215, 216, 217, 218, 219, 220, 221, 86, 83, 87, 88, 222, 223, 224, 225, 80, 226, 227, 228, 229, 97, 230, 231, 232, 233, 234, 84, 235, 236, 237, 238, 239, 240, 241, 242, 243, 244, 245, 246, 247, 248, 249, 250, 251, 252, 253, 254, 255, 95, 101, 256, 257, 258, 259, 260, 261, 262, 263, 264, 98, 99, 100, 265, 266, 267, 268, 269, 270, 271, 272, 273, 274, 275, 276, 277, 278, 279, 280, 281, 282, 283, 284, 285, 286, 287, 288, 289, 290, 291, 292, 293, 294, 295, 296, 297, 298, 299, 300, 301, 302, 303, 304, 305, 306, 307] rfl rfl
set_option maxRecDepth 20000 in
theorem gX3_load_X3_doTextCommand : GoodIn wsX3_load (wsV RX3 85 RX3 yX3_doTextCommand wsX3_doTextCommand) := goodIn_app (goodIn_of _ (by decide +kernel)) ggX3_load_X3_doTextCommand
theorem dX3_load_0 : decode cX3_load 0 = .ok (.aload_n 0, 1) := by decide +kernel
theorem dX3_load_1 : decode cX3_load 1 = .ok (.getfield 12, 3) := by decide +kernel
theorem dX3_load_4 : decode cX3_load 4 = .ok (.invokevirtual 65, 3) := by decide +kernel
theorem dX3_load_7 : decode cX3_load 7 = .ok (.bipush (-9), 2) := by decide +kernel
theorem dX3_load_9 : decode cX3_load 9 = .ok (.if_icmp .eq 13, 3) := by decide +kernel
theorem dX3_load_12 : decode cX3_load 12 = .ok (.new 52, 3) := by decide +kernel
theorem dX3_load_15 : decode cX3_load 15 = .ok (.dup, 1) := by decide +kernel
theorem dX3_load_16 : decode cX3_load 16 = .ok (.ldc 68, 2) := by decide +kernel
theorem dX3_load_18 : decode cX3_load 18 = .ok (.invokespecial 56, 3) := by decide +kernel
theorem dX3_load_21 : decode cX3_load 21 = .ok (.athrow, 1) := by decide +kernel
theorem dX3_load_22 : decode cX3_load 22 = .ok (.aload_n 0, 1) := by decide +kernel
theorem dX3_load_23 : decode cX3_load 23 = .ok (.invokevirtual 70, 3) := by decide +kernel
theorem dX3_load_26 : decode cX3_load 26 = .ok (.aload_n 0, 1) := by decide +kernel
theorem dX3_load_27 : decode cX3_load 27 = .ok (.getfield 12, 3) := by decide +kernel
theorem dX3_load_30 : decode cX3_load 30 = .ok (.invokevirtual 73, 3) := by decide +kernel
theorem dX3_load_33 : decode cX3_load 33 = .ok (.aload_n 0, 1) := by decide +kernel
theorem dX3_load_34 : decode cX3_load 34 = .ok (.getfield 12, 3) := by decide +kernel
theorem dX3_load_37 : decode cX3_load 37 = .ok (.invokevirtual 76, 3) := by decide +kernel
theorem dX3_load_40 : decode cX3_load 40 = .ok (.pop, 1) := by decide +kernel
theorem dX3_load_41 : decode cX3_load 41 = .ok (.aload_n 0, 1) := by decide +kernel
theorem dX3_load_42 : decode cX3_load 42 = .ok (.invokevirtual 79, 3) := by decide +kernel
theorem dX3_load_45 : decode cX3_load 45 = .ok (.iconst 0, 1) := by decide +kernel
theorem dX3_load_46 : decode cX3_load 46 = .ok (.istore_n 1, 1) := by decide +kernel
theorem dX3_load_47 : decode cX3_load 47 = .ok (.iconst 0, 1) := by decide +kernel
theorem dX3_load_48 : decode cX3_load 48 = .ok (.istore_n 2, 1) := by decide +kernel
theorem dX3_load_49 : decode cX3_load 49 = .ok (.iload_n 2, 1) := by decide +kernel
theorem dX3_load_50 : decode cX3_load 50 = .ok (.bipush 120, 2) := by decide +kernel
theorem dX3_load_52 : decode cX3_load 52 = .ok (.if_icmp .ge 29, 3) := by decide +kernel
theorem dX3_load_55 : decode cX3_load 55 = .ok (.aload_n 0, 1) := by decide +kernel
theorem dX3_load_56 : decode cX3_load 56 = .ok (.getfield 12, 3) := by decide +kernel
theorem dX3_load_59 : decode cX3_load 59 = .ok (.invokevirtual 82, 3) := by decide +kernel
theorem dX3_load_62 : decode cX3_load 62 = .ok (.ifCond .eq 19, 3) := by decide +kernel
theorem dX3_load_65 : decode cX3_load 65 = .ok (.aload_n 0, 1) := by decide +kernel
theorem dX3_load_66 : decode cX3_load 66 = .ok (.invokevirtual 85, 3) := by decide +kernel
theorem dX3_load_69 : decode cX3_load 69 = .ok (.ifCond .ne 6, 3) := by decide +kernel
theorem dX3_load_72 : decode cX3_load 72 = .ok (.iinc 1 1, 3) := by decide +kernel
theorem dX3_load_75 : decode cX3_load 75 = .ok (.iinc 2 1, 3) := by decide +kernel
theorem dX3_load_78 : decode cX3_load 78 = .ok (.goto (-29), 3) := by decide +kernel
theorem dX3_load_81 : decode cX3_load 81 = .ok (.iload_n 1, 1) := by decide +kernel
theorem dX3_load_82 : decode cX3_load 82 = .ok (.ireturn, 1) := by decide +kernel
set_option maxRecDepth 20000 in
theorem ggX3_forgetEverything_X1_clear : GoodIn wsX3_forgetEverything wsX1_clear := goodIn_r _ [8, 9, 10, 11, 12, 13, 14, 15, 16, 17, 18, 19, 20, 21, 22, 23, 24, 25, 26, 27, 28, 29, 30, 31, 32, 33, 34, 35, 36, 44, 45, 46, 47, 48, 49, 50, 51, 52, 53, 54, 55, 56, 57, 58, 59, 60, 61, 62, 63, 64, 65, 66, 67] rfl rfl
set_option maxRecDepth 20000 in
theorem gX3_forgetEverything_X1_clear : GoodIn wsX3_forgetEverything (wsV RX3 88 RX1 yX1_clear wsX1_clear) := goodIn_app (goodIn_of _ (by decide +kernel)) ggX3_forgetEverything_X1_clear
theorem dX3_forgetEverything_0 : decode cX3_forgetEverything 0 = .ok (.aload_n 0, 1) := by decide +kernel
theorem dX3_forgetEverything_1 : decode cX3_forgetEverything 1 = .ok (.getfield 19, 3) := by decide +kernel
theorem dX3_forgetEverything_4 : decode cX3_forgetEverything 4 = .ok (.invokevirtual 88, 3) := by decide +kernel
theorem dX3_forgetEverything_7 : decode cX3_forgetEverything 7 = .ok (.aload_n 0, 1) := by decide +kernel
theorem dX3_forgetEverything_8 : decode cX3_forgetEverything 8 = .ok (.iconst 0, 1) := by decide +kernel
theorem dX3_forgetEverything_9 : decode cX3_forgetEverything 9 = .ok (.putfield 30, 3) := by decide +kernel
theorem dX3_forgetEverything_12 : decode cX3_forgetEverything 12 = .ok (.iconst 0, 1) := by decide +kernel
theorem dX3_forgetEverything_13 : decode cX3_forgetEverything 13 = .ok (.istore_n 1, 1) := by decide +kernel
theorem dX3_forgetEverything_14 : decode cX3_forgetEverything 14 = .ok (.iload_n 1, 1) := by decide +kernel
theorem dX3_forgetEverything_15 : decode cX3_forgetEverything 15 = .ok (.iconst 2, 1) := by decide +kernel
theorem dX3_forgetEverything_16 : decode cX3_forgetEverything 16 = .ok (.if_icmp .ge 16, 3) := by decide +kernel
theorem dX3_forgetEverything_19 : decode cX3_forgetEverything 19 = .ok (.aload_n 0, 1) := by decide +kernel
theorem dX3_forgetEverything_20 : decode cX3_forgetEverything 20 = .ok (.getfield 37, 3) := by decide +kernel
theorem dX3_forgetEverything_23 : decode cX3_forgetEverything 23 = .ok (.iload_n 1, 1) := by decide +kernel
theorem dX3_forgetEverything_24 : decode cX3_forgetEverything 24 = .ok (.iconst 0, 1) := by decide +kernel
theorem dX3_forgetEverything_25 : decode cX3_forgetEverything 25 = .ok (.bastore, 1) := by decide +kernel
theorem dX3_forgetEverything_26 : decode cX3_forgetEverything 26 = .ok (.iinc 1 1, 3) := by decide +kernel
theorem dX3_forgetEverything_29 : decode cX3_forgetEverything 29 = .ok (.goto (-15), 3) := by decide +kernel
theorem dX3_forgetEverything_32 : decode cX3_forgetEverything 32 = .ok (.return_, 1) := by decide +kernel
theorem dX3_putGatesOfText_0 : decode cX3_putGatesOfText 0 = .ok (.iconst 0, 1) := by decide +kernel
theorem dX3_putGatesOfText_1 : decode cX3_putGatesOfText 1 = .ok (.istore_n 1, 1) := by decide +kernel
theorem dX3_putGatesOfText_2 : decode cX3_putGatesOfText 2 = .ok (.iload_n 1, 1) := by decide +kernel
theorem dX3_putGatesOfText_3 : decode cX3_putGatesOfText 3 = .ok (.iconst 3, 1) := by decide +kernel
theorem dX3_putGatesOfText_4 : decode cX3_putGatesOfText 4 = .ok (.if_icmp .ge 30, 3) := by decide +kernel
theorem dX3_putGatesOfText_7 : decode cX3_putGatesOfText 7 = .ok (.aload_n 0, 1) := by decide +kernel
theorem dX3_putGatesOfText_8 : decode cX3_putGatesOfText 8 = .ok (.getfield 19, 3) := by decide +kernel
theorem dX3_putGatesOfText_11 : decode cX3_putGatesOfText 11 = .ok (.getfield 91, 3) := by decide +kernel
theorem dX3_putGatesOfText_14 : decode cX3_putGatesOfText 14 = .ok (.getfield 95, 3) := by decide +kernel
theorem dX3_putGatesOfText_17 : decode cX3_putGatesOfText 17 = .ok (.iload_n 1, 1) := by decide +kernel
theorem dX3_putGatesOfText_18 : decode cX3_putGatesOfText 18 = .ok (.aload_n 0, 1) := by decide +kernel
theorem dX3_putGatesOfText_19 : decode cX3_putGatesOfText 19 = .ok (.getfield 12, 3) := by decide +kernel
theorem dX3_putGatesOfText_22 : decode cX3_putGatesOfText 22 = .ok (.getfield 101, 3) := by decide +kernel
theorem dX3_putGatesOfText_25 : decode cX3_putGatesOfText 25 = .ok (.iload_n 1, 1) := by decide +kernel
theorem dX3_putGatesOfText_26 : decode cX3_putGatesOfText 26 = .ok (.iaload, 1) := by decide +kernel
theorem dX3_putGatesOfText_27 : decode cX3_putGatesOfText 27 = .ok (.iastore, 1) := by decide +kernel
theorem dX3_putGatesOfText_28 : decode cX3_putGatesOfText 28 = .ok (.iinc 1 1, 3) := by decide +kernel
theorem dX3_putGatesOfText_31 : decode cX3_putGatesOfText 31 = .ok (.goto (-29), 3) := by decide +kernel
theorem dX3_putGatesOfText_34 : decode cX3_putGatesOfText 34 = .ok (.aload_n 0, 1) := by decide +kernel
theorem dX3_putGatesOfText_35 : decode cX3_putGatesOfText 35 = .ok (.getfield 19, 3) := by decide +kernel
theorem dX3_putGatesOfText_38 : decode cX3_putGatesOfText 38 = .ok (.aload_n 0, 1) := by decide +kernel
theorem dX3_putGatesOfText_39 : decode cX3_putGatesOfText 39 = .ok (.getfield 12, 3) := by decide +kernel
theorem dX3_putGatesOfText_42 : decode cX3_putGatesOfText 42 = .ok (.getfield 102, 3) := by decide +kernel
theorem dX3_putGatesOfText_45 : decode cX3_putGatesOfText 45 = .ok (.putfield 105, 3) := by decide +kernel
theorem dX3_putGatesOfText_48 : decode cX3_putGatesOfText 48 = .ok (.aload_n 0, 1) := by decide +kernel
theorem dX3_putGatesOfText_49 : decode cX3_putGatesOfText 49 = .ok (.getfield 19, 3) := by decide +kernel
theorem dX3_putGatesOfText_52 : decode cX3_putGatesOfText 52 = .ok (.getfield 91, 3) := by decide +kernel
theorem dX3_putGatesOfText_55 : decode cX3_putGatesOfText 55 = .ok (.aload_n 0, 1) := by decide +kernel
theorem dX3_putGatesOfText_56 : decode cX3_putGatesOfText 56 = .ok (.getfield 12, 3) := by decide +kernel
theorem dX3_putGatesOfText_59 : decode cX3_putGatesOfText 59 = .ok (.getfield 106, 3) := by decide +kernel
theorem dX3_putGatesOfText_62 : decode cX3_putGatesOfText 62 = .ok (.putfield 109, 3) := by decide +kernel
theorem dX3_putGatesOfText_65 : decode cX3_putGatesOfText 65 = .ok (.return_, 1) := by decide +kernel
set_option maxRecDepth 20000 in
theorem ggX3_doTextCommand_X1_tryTake : GoodIn wsX3_doTextCommand wsX1_tryTake := goodIn_r _ [12, 13, 14, 15, 16, 11, 17, 18, 19, 20, 21, 22, 23, 24, 25, 26, 27, 28, 29, 30, 31, 32, 33, 34, 35, 36, 37, 38, 192, 193, 194, 195, 196, 197, 198, 199, 200, 201, 202, 203, 204, 205, 206] rfl rfl
set_option maxRecDepth 20000 in
theorem gX3_doTextCommand_X1_tryTake : GoodIn wsX3_doTextCommand (wsV RX3 119 RX1 yX1_tryTake wsX1_tryTake) := goodIn_app (goodIn_of _ (by decide +kernel)) ggX3_doTextCommand_X1_tryTake
set_option maxRecDepth 20000 in
theorem ggX3_doTextCommand_X1_tryPutBack : GoodIn wsX3_doTextCommand wsX1_tryPutBack := goodIn_r _ [42, 13, 43, 44, 45, 11, 46, 22, 20, 23, 24, 25, 26, 27, 28, 29, 47, 48, 49, 50, 18, 37, 38, 192, 193, 194, 195, 196, 197, 198, 199, 200, 201, 202, 203, 204, 205, 206] rfl rfl
set_option maxRecDepth 20000 in
theorem gX3_doTextCommand_X1_tryPutBack : GoodIn wsX3_doTextCommand (wsV RX3 123 RX1 yX1_tryPutBack wsX1_tryPutBack) := goodIn_app (goodIn_of _ (by decide +kernel)) ggX3_doTextCommand_X1_tryPutBack
set_option maxRecDepth 20000 in
theorem ggX3_doTextCommand_X1_tryBorrowOrBringBack : GoodIn wsX3_doTextCommand wsX1_tryBorrowOrBringBack := goodIn_r _ [54, 55, 28, 20, 29, 56, 57, 58, 11, 59, 60, 61, 62, 63, 22, 23, 47, 48, 49, 50, 13, 18, 37, 38, 64, 65, 66, 67, 68, 69, 70, 71, 192, 193, 194, 195, 196, 197, 198, 199, 200, 201, 202, 203, 204, 205, 206] rfl rfl
set_option maxRecDepth 20000 in
theorem gX3_doTextCommand_X1_tryBorrowOrBringBack : GoodIn wsX3_doTextCommand (wsV RX3 127 RX1 yX1_tryBorrowOrBringBack wsX1_tryBorrowOrBringBack) := goodIn_app (goodIn_of _ (by decide +kernel)) ggX3_doTextCommand_X1_tryBorrowOrBringBack
set_option maxRecDepth 20000 in
theorem ggX3_doTextCommand_X1_tryWalk : GoodIn wsX3_doTextCommand wsX1_tryWalk := goodIn_r _ [75, 18, 76, 77, 78, 79, 80, 81, 11, 82, 19, 20, 21, 83, 84, 192, 193, 194, 195, 196, 197, 198, 199, 200, 201, 202, 203, 204, 205, 206] rfl rfl
set_option maxRecDepth 20000 in
theorem gX3_doTextCommand_X1_tryWalk : GoodIn wsX3_doTextCommand (wsV RX3 133 RX1 yX1_tryWalk wsX1_tryWalk) := goodIn_app (goodIn_of _ (by decide +kernel)) ggX3_doTextCommand_X1_tryWalk
set_option maxRecDepth 20000 in
theorem ggX3_doTextCommand_X1_tryTurn : GoodIn wsX3_doTextCommand wsX1_tryTurn := goodIn_r _ [88, 78, 89, 90, 91, 11, 92, 18, 19, 20, 21, 192, 193, 194, 195, 196, 197, 198, 199, 200, 201, 202, 203, 204, 205, 206] rfl rfl
set_option maxRecDepth 20000 in
theorem gX3_doTextCommand_X1_tryTurn : GoodIn wsX3_doTextCommand (wsV RX3 137 RX1 yX1_tryTurn wsX1_tryTurn) := goodIn_app (goodIn_of _ (by decide +kernel)) ggX3_doTextCommand_X1_tryTurn
set_option maxRecDepth 20000 in
theorem ggX3_doTextCommand_X1_passTicks : GoodIn wsX3_doTextCommand wsX1_passTicks := goodIn_r _ [96, 97, 98, 99, 100, 101, 102, 103, 104, 105, 106, 11, 107, 108, 18, 109, 110, 111, 112, 113, 77, 78, 13, 55, 114, 115, 116, 117, 118, 119, 120, 121, 30, 31, 32, 33, 34, 35, 36, 122, 123, 124, 125, 126, 28, 20, 29, 127, 128, 129, 130, 131, 132, 133, 134, 135, 136, 137, 138, 139, 140, 141, 142, 143, 144, 145, 146, 147, 148, 149, 76, 150, 37, 38, 151, 152, 153, 154, 155, 156, 157, 158, 159, 160, 161, 162, 163, 164, 165, 166, 167, 168, 169, 170, 171, 172, 22, 23, 192, 193, 194, 195, 196, 197, 198, 199, 200, 201, 202, 203, 204, 205, 206, 207, 208, 209, 210, 211, 212, 213, 214, 215] rfl rfl
set_option maxRecDepth 20000 in
theorem gX3_doTextCommand_X1_passTicks : GoodIn wsX3_doTextCommand (wsV RX3 143 RX1 yX1_passTicks wsX1_passTicks) := goodIn_app (goodIn_of _ (by decide +kernel)) ggX3_doTextCommand_X1_passTicks
theorem dX3_doTextCommand_0 : decode cX3_doTextCommand 0 = .ok (.aload_n 0, 1) := by decide +kernel
theorem dX3_doTextCommand_1 : decode cX3_doTextCommand 1 = .ok (.getfield 12, 3) := by decide +kernel
theorem dX3_doTextCommand_4 : decode cX3_doTextCommand 4 = .ok (.getfield 110, 3) := by decide +kernel
theorem dX3_doTextCommand_7 : decode cX3_doTextCommand 7 = .ok (.tableswitch 202 98 116 #[126, 202, 202, 202, 202, 202, 202, 164, 202, 202, 202, 202, 202, 141, 111, 202, 187, 202, 89], 89) := by decide +kernel
theorem dX3_doTextCommand_96 : decode cX3_doTextCommand 96 = .ok (.aload_n 0, 1) := by decide +kernel
theorem dX3_doTextCommand_97 : decode cX3_doTextCommand 97 = .ok (.getfield 19, 3) := by decide +kernel
theorem dX3_doTextCommand_100 : decode cX3_doTextCommand 100 = .ok (.aload_n 0, 1) := by decide +kernel
theorem dX3_doTextCommand_101 : decode cX3_doTextCommand 101 = .ok (.getfield 12, 3) := by decide +kernel
theorem dX3_doTextCommand_104 : decode cX3_doTextCommand 104 = .ok (.getfield 113, 3) := by decide +kernel
theorem dX3_doTextCommand_107 : decode cX3_doTextCommand 107 = .ok (.aload_n 0, 1) := by decide +kernel
theorem dX3_doTextCommand_108 : decode cX3_doTextCommand 108 = .ok (.getfield 12, 3) := by decide +kernel
theorem dX3_doTextCommand_111 : decode cX3_doTextCommand 111 = .ok (.getfield 116, 3) := by decide +kernel
theorem dX3_doTextCommand_114 : decode cX3_doTextCommand 114 = .ok (.invokevirtual 119, 3) := by decide +kernel
theorem dX3_doTextCommand_117 : decode cX3_doTextCommand 117 = .ok (.ireturn, 1) := by decide +kernel
theorem dX3_doTextCommand_118 : decode cX3_doTextCommand 118 = .ok (.aload_n 0, 1) := by decide +kernel
theorem dX3_doTextCommand_119 : decode cX3_doTextCommand 119 = .ok (.getfield 19, 3) := by decide +kernel
theorem dX3_doTextCommand_122 : decode cX3_doTextCommand 122 = .ok (.aload_n 0, 1) := by decide +kernel
theorem dX3_doTextCommand_123 : decode cX3_doTextCommand 123 = .ok (.getfield 12, 3) := by decide +kernel
theorem dX3_doTextCommand_126 : decode cX3_doTextCommand 126 = .ok (.getfield 116, 3) := by decide +kernel
theorem dX3_doTextCommand_129 : decode cX3_doTextCommand 129 = .ok (.invokevirtual 123, 3) := by decide +kernel
theorem dX3_doTextCommand_132 : decode cX3_doTextCommand 132 = .ok (.ireturn, 1) := by decide +kernel
theorem dX3_doTextCommand_133 : decode cX3_doTextCommand 133 = .ok (.aload_n 0, 1) := by decide +kernel
theorem dX3_doTextCommand_134 : decode cX3_doTextCommand 134 = .ok (.getfield 19, 3) := by decide +kernel
theorem dX3_doTextCommand_137 : decode cX3_doTextCommand 137 = .ok (.aload_n 0, 1) := by decide +kernel
theorem dX3_doTextCommand_138 : decode cX3_doTextCommand 138 = .ok (.getfield 12, 3) := by decide +kernel
theorem dX3_doTextCommand_141 : decode cX3_doTextCommand 141 = .ok (.getfield 116, 3) := by decide +kernel
theorem dX3_doTextCommand_144 : decode cX3_doTextCommand 144 = .ok (.invokevirtual 127, 3) := by decide +kernel
theorem dX3_doTextCommand_147 : decode cX3_doTextCommand 147 = .ok (.ireturn, 1) := by decide +kernel
theorem dX3_doTextCommand_148 : decode cX3_doTextCommand 148 = .ok (.aload_n 0, 1) := by decide +kernel
theorem dX3_doTextCommand_149 : decode cX3_doTextCommand 149 = .ok (.getfield 19, 3) := by decide +kernel
theorem dX3_doTextCommand_152 : decode cX3_doTextCommand 152 = .ok (.aload_n 0, 1) := by decide +kernel
theorem dX3_doTextCommand_153 : decode cX3_doTextCommand 153 = .ok (.getfield 12, 3) := by decide +kernel
theorem dX3_doTextCommand_156 : decode cX3_doTextCommand 156 = .ok (.getfield 113, 3) := by decide +kernel
theorem dX3_doTextCommand_159 : decode cX3_doTextCommand 159 = .ok (.aload_n 0, 1) := by decide +kernel
theorem dX3_doTextCommand_160 : decode cX3_doTextCommand 160 = .ok (.getfield 12, 3) := by decide +kernel
theorem dX3_doTextCommand_163 : decode cX3_doTextCommand 163 = .ok (.getfield 130, 3) := by decide +kernel
theorem dX3_doTextCommand_166 : decode cX3_doTextCommand 166 = .ok (.iconst 1, 1) := by decide +kernel
theorem dX3_doTextCommand_167 : decode cX3_doTextCommand 167 = .ok (.invokevirtual 133, 3) := by decide +kernel
theorem dX3_doTextCommand_170 : decode cX3_doTextCommand 170 = .ok (.ireturn, 1) := by decide +kernel
theorem dX3_doTextCommand_171 : decode cX3_doTextCommand 171 = .ok (.aload_n 0, 1) := by decide +kernel
theorem dX3_doTextCommand_172 : decode cX3_doTextCommand 172 = .ok (.getfield 19, 3) := by decide +kernel
theorem dX3_doTextCommand_175 : decode cX3_doTextCommand 175 = .ok (.aload_n 0, 1) := by decide +kernel
theorem dX3_doTextCommand_176 : decode cX3_doTextCommand 176 = .ok (.getfield 12, 3) := by decide +kernel
theorem dX3_doTextCommand_179 : decode cX3_doTextCommand 179 = .ok (.getfield 113, 3) := by decide +kernel
theorem dX3_doTextCommand_182 : decode cX3_doTextCommand 182 = .ok (.aload_n 0, 1) := by decide +kernel
theorem dX3_doTextCommand_183 : decode cX3_doTextCommand 183 = .ok (.getfield 12, 3) := by decide +kernel
theorem dX3_doTextCommand_186 : decode cX3_doTextCommand 186 = .ok (.getfield 130, 3) := by decide +kernel
theorem dX3_doTextCommand_189 : decode cX3_doTextCommand 189 = .ok (.iconst 0, 1) := by decide +kernel
theorem dX3_doTextCommand_190 : decode cX3_doTextCommand 190 = .ok (.invokevirtual 133, 3) := by decide +kernel
theorem dX3_doTextCommand_193 : decode cX3_doTextCommand 193 = .ok (.ireturn, 1) := by decide +kernel
theorem dX3_doTextCommand_194 : decode cX3_doTextCommand 194 = .ok (.aload_n 0, 1) := by decide +kernel
theorem dX3_doTextCommand_195 : decode cX3_doTextCommand 195 = .ok (.getfield 19, 3) := by decide +kernel
theorem dX3_doTextCommand_198 : decode cX3_doTextCommand 198 = .ok (.aload_n 0, 1) := by decide +kernel
theorem dX3_doTextCommand_199 : decode cX3_doTextCommand 199 = .ok (.getfield 12, 3) := by decide +kernel
theorem dX3_doTextCommand_202 : decode cX3_doTextCommand 202 = .ok (.getfield 113, 3) := by decide +kernel
theorem dX3_doTextCommand_205 : decode cX3_doTextCommand 205 = .ok (.invokevirtual 137, 3) := by decide +kernel
theorem dX3_doTextCommand_208 : decode cX3_doTextCommand 208 = .ok (.ireturn, 1) := by decide +kernel
theorem dX3_doTextCommand_209 : decode cX3_doTextCommand 209 = .ok (.aload_n 0, 1) := by decide +kernel
theorem dX3_doTextCommand_210 : decode cX3_doTextCommand 210 = .ok (.getfield 19, 3) := by decide +kernel
theorem dX3_doTextCommand_213 : decode cX3_doTextCommand 213 = .ok (.aload_n 0, 1) := by decide +kernel
theorem dX3_doTextCommand_214 : decode cX3_doTextCommand 214 = .ok (.getfield 12, 3) := by decide +kernel
theorem dX3_doTextCommand_217 : decode cX3_doTextCommand 217 = .ok (.getfield 140, 3) := by decide +kernel
theorem dX3_doTextCommand_220 : decode cX3_doTextCommand 220 = .ok (.invokevirtual 143, 3) := by decide +kernel
theorem dX3_doTextCommand_223 : decode cX3_doTextCommand 223 = .ok (.pop, 1) := by decide +kernel
theorem dX3_doTextCommand_224 : decode cX3_doTextCommand 224 = .ok (.iconst 1, 1) := by decide +kernel
theorem dX3_doTextCommand_225 : decode cX3_doTextCommand 225 = .ok (.ireturn, 1) := by decide +kernel
set_option maxRecDepth 20000 in
theorem ggX3_about_X0_shoutCount : GoodIn wsX3_about wsX0_shoutCount := goodIn_r _ [15, 16, 65, 66, 67, 68, 69, 70, 71, 72, 73] rfl rfl
set_option maxRecDepth 20000 in
theorem gX3_about_X0_shoutCount : GoodIn wsX3_about (wsV RX3 148 RX0 yX0_shoutCount wsX0_shoutCount) := goodIn_app (goodIn_of _ (by decide +kernel)) ggX3_about_X0_shoutCount
set_option maxRecDepth 20000 in
theorem ggX3_about_X0_waitingCount : GoodIn wsX3_about wsX0_waitingCount := goodIn_r _ [20, 21, 65, 66, 67, 68, 69, 70, 71, 72, 73] rfl rfl
set_option maxRecDepth 20000 in
theorem gX3_about_X0_waitingCount : GoodIn wsX3_about (wsV RX3 151 RX0 yX0_waitingCount wsX0_waitingCount) := goodIn_app (goodIn_of _ (by decide +kernel)) ggX3_about_X0_waitingCount
set_option maxRecDepth 20000 in
theorem ggX3_about_J6_bitCount_0f7a4 : GoodIn wsX3_about wsJ6_bitCount_0f7a4 := goodIn_r _ [25, 26, 27, 28] rfl rfl
set_option maxRecDepth 20000 in
theorem gX3_about_J6_bitCount_0f7a4 : GoodIn wsX3_about (va_wsS RX3 163 yJ6_bitCount_0f7a4 wsJ6_bitCount_0f7a4) := goodIn_app (goodIn_of _ (by decide +kernel)) ggX3_about_J6_bitCount_0f7a4
set_option maxRecDepth 20000 in
theorem ggX3_about_X1_booksInBags : GoodIn wsX3_about wsX1_booksInBags := goodIn_r _ [33, 34, 50, 51, 52, 53, 54, 55, 56, 57, 58, 59, 60, 61, 62, 63, 64] rfl rfl
set_option maxRecDepth 20000 in
theorem gX3_about_X1_booksInBags : GoodIn wsX3_about (wsV RX3 168 RX1 yX1_booksInBags wsX1_booksInBags) := goodIn_app (goodIn_of _ (by decide +kernel)) ggX3_about_X1_booksInBags
set_option maxRecDepth 20000 in
theorem ggX3_about_X1_visitorsWho : GoodIn wsX3_about wsX1_visitorsWho := goodIn_r _ [38, 39, 40, 41, 42, 50, 51, 52, 53, 54, 55, 56, 57, 58, 59, 60, 61, 62, 63, 64] rfl rfl
set_option maxRecDepth 20000 in
theorem gX3_about_X1_visitorsWho : GoodIn wsX3_about (wsV RX3 171 RX1 yX1_visitorsWho wsX1_visitorsWho) := goodIn_app (goodIn_of _ (by decide +kernel)) ggX3_about_X1_visitorsWho
theorem dX3_about_0 : decode cX3_about 0 = .ok (.iload_n 1, 1) := by decide +kernel
theorem dX3_about_1 : decode cX3_about 1 = .ok (.tableswitch 164 0 10 #[59, 67, 78, 89, 97, 105, 116, 127, 136, 145, 153], 59) := by decide +kernel
theorem dX3_about_60 : decode cX3_about 60 = .ok (.aload_n 0, 1) := by decide +kernel
theorem dX3_about_61 : decode cX3_about 61 = .ok (.getfield 19, 3) := by decide +kernel
theorem dX3_about_64 : decode cX3_about 64 = .ok (.getfield 147, 3) := by decide +kernel
theorem dX3_about_67 : decode cX3_about 67 = .ok (.ireturn, 1) := by decide +kernel
theorem dX3_about_68 : decode cX3_about 68 = .ok (.aload_n 0, 1) := by decide +kernel
theorem dX3_about_69 : decode cX3_about 69 = .ok (.getfield 19, 3) := by decide +kernel
theorem dX3_about_72 : decode cX3_about 72 = .ok (.getfield 91, 3) := by decide +kernel
theorem dX3_about_75 : decode cX3_about 75 = .ok (.invokevirtual 148, 3) := by decide +kernel
theorem dX3_about_78 : decode cX3_about 78 = .ok (.ireturn, 1) := by decide +kernel
theorem dX3_about_79 : decode cX3_about 79 = .ok (.aload_n 0, 1) := by decide +kernel
theorem dX3_about_80 : decode cX3_about 80 = .ok (.getfield 19, 3) := by decide +kernel
theorem dX3_about_83 : decode cX3_about 83 = .ok (.getfield 91, 3) := by decide +kernel
theorem dX3_about_86 : decode cX3_about 86 = .ok (.invokevirtual 151, 3) := by decide +kernel
theorem dX3_about_89 : decode cX3_about 89 = .ok (.ireturn, 1) := by decide +kernel
theorem dX3_about_90 : decode cX3_about 90 = .ok (.aload_n 0, 1) := by decide +kernel
theorem dX3_about_91 : decode cX3_about 91 = .ok (.getfield 19, 3) := by decide +kernel
theorem dX3_about_94 : decode cX3_about 94 = .ok (.getfield 154, 3) := by decide +kernel
theorem dX3_about_97 : decode cX3_about 97 = .ok (.ireturn, 1) := by decide +kernel
theorem dX3_about_98 : decode cX3_about 98 = .ok (.aload_n 0, 1) := by decide +kernel
theorem dX3_about_99 : decode cX3_about 99 = .ok (.getfield 19, 3) := by decide +kernel
theorem dX3_about_102 : decode cX3_about 102 = .ok (.getfield 157, 3) := by decide +kernel
theorem dX3_about_105 : decode cX3_about 105 = .ok (.ireturn, 1) := by decide +kernel
theorem dX3_about_106 : decode cX3_about 106 = .ok (.aload_n 0, 1) := by decide +kernel
theorem dX3_about_107 : decode cX3_about 107 = .ok (.getfield 19, 3) := by decide +kernel
theorem dX3_about_110 : decode cX3_about 110 = .ok (.getfield 160, 3) := by decide +kernel
theorem dX3_about_113 : decode cX3_about 113 = .ok (.invokestatic 163, 3) := by decide +kernel
theorem dX3_about_116 : decode cX3_about 116 = .ok (.ireturn, 1) := by decide +kernel
theorem dX3_about_117 : decode cX3_about 117 = .ok (.aload_n 0, 1) := by decide +kernel
theorem dX3_about_118 : decode cX3_about 118 = .ok (.getfield 19, 3) := by decide +kernel
theorem dX3_about_121 : decode cX3_about 121 = .ok (.invokevirtual 168, 3) := by decide +kernel
theorem dX3_about_124 : decode cX3_about 124 = .ok (.invokestatic 163, 3) := by decide +kernel
theorem dX3_about_127 : decode cX3_about 127 = .ok (.ireturn, 1) := by decide +kernel
theorem dX3_about_128 : decode cX3_about 128 = .ok (.aload_n 0, 1) := by decide +kernel
theorem dX3_about_129 : decode cX3_about 129 = .ok (.getfield 19, 3) := by decide +kernel
theorem dX3_about_132 : decode cX3_about 132 = .ok (.iconst 1, 1) := by decide +kernel
theorem dX3_about_133 : decode cX3_about 133 = .ok (.invokevirtual 171, 3) := by decide +kernel
theorem dX3_about_136 : decode cX3_about 136 = .ok (.ireturn, 1) := by decide +kernel
theorem dX3_about_137 : decode cX3_about 137 = .ok (.aload_n 0, 1) := by decide +kernel
theorem dX3_about_138 : decode cX3_about 138 = .ok (.getfield 19, 3) := by decide +kernel
theorem dX3_about_141 : decode cX3_about 141 = .ok (.iconst 2, 1) := by decide +kernel
theorem dX3_about_142 : decode cX3_about 142 = .ok (.invokevirtual 171, 3) := by decide +kernel
theorem dX3_about_145 : decode cX3_about 145 = .ok (.ireturn, 1) := by decide +kernel
theorem dX3_about_146 : decode cX3_about 146 = .ok (.aload_n 0, 1) := by decide +kernel
theorem dX3_about_147 : decode cX3_about 147 = .ok (.getfield 19, 3) := by decide +kernel
theorem dX3_about_150 : decode cX3_about 150 = .ok (.getfield 105, 3) := by decide +kernel
theorem dX3_about_153 : decode cX3_about 153 = .ok (.ireturn, 1) := by decide +kernel
theorem dX3_about_154 : decode cX3_about 154 = .ok (.aload_n 0, 1) := by decide +kernel
theorem dX3_about_155 : decode cX3_about 155 = .ok (.getfield 19, 3) := by decide +kernel
theorem dX3_about_158 : decode cX3_about 158 = .ok (.getfield 91, 3) := by decide +kernel
theorem dX3_about_161 : decode cX3_about 161 = .ok (.getfield 109, 3) := by decide +kernel
theorem dX3_about_164 : decode cX3_about 164 = .ok (.ireturn, 1) := by decide +kernel
theorem dX3_about_165 : decode cX3_about 165 = .ok (.new 41, 3) := by decide +kernel
theorem dX3_about_168 : decode cX3_about 168 = .ok (.dup, 1) := by decide +kernel
theorem dX3_about_169 : decode cX3_about 169 = .ok (.ldc 174, 2) := by decide +kernel
theorem dX3_about_171 : decode cX3_about 171 = .ok (.invokespecial 45, 3) := by decide +kernel
theorem dX3_about_174 : decode cX3_about 174 = .ok (.athrow, 1) := by decide +kernel
set_option maxRecDepth 20000 in
theorem ggX3_book_X3_requireBook : GoodIn wsX3_book wsX3_requireBook := goodIn_ca (goodIn_r _ [11, 12, 13, 14, 15, 10, 16] rfl rfl) (goodIn_sub (fun _ h => List.mem_cons_of_mem _ (List.mem_append_right _ h)) (by decide +kernel))
set_option maxRecDepth 20000 in
theorem gX3_book_X3_requireBook : GoodIn wsX3_book (va_wsS RX3 176 yX3_requireBook wsX3_requireBook) := goodIn_app (goodIn_of _ (by decide +kernel)) ggX3_book_X3_requireBook
set_option maxRecDepth 20000 in
theorem ggX3_book_X1_holderOf : GoodIn wsX3_book wsX1_holderOf := goodIn_r _ [21, 22, 23, 10, 24, 36, 37, 38, 39, 40, 41, 42, 43, 44, 45, 46, 47, 48, 49, 50] rfl rfl
set_option maxRecDepth 20000 in
theorem gX3_book_X1_holderOf : GoodIn wsX3_book (wsV RX3 180 RX1 yX1_holderOf wsX1_holderOf) := goodIn_app (goodIn_of _ (by decide +kernel)) ggX3_book_X1_holderOf
set_option maxRecDepth 20000 in
theorem ggX3_book_X3_has : GoodIn wsX3_book wsX3_has := goodIn_r _ [24] rfl rfl
set_option maxRecDepth 20000 in
theorem gX3_book_X3_has : GoodIn wsX3_book (va_wsS RX3 183 yX3_has wsX3_has) := goodIn_app (goodIn_of _ (by decide +kernel)) ggX3_book_X3_has
set_option maxRecDepth 20000 in
theorem ggX3_book_X3_oneIf : GoodIn wsX3_book wsX3_oneIf := goodIn_r _ [28] rfl rfl
set_option maxRecDepth 20000 in
theorem gX3_book_X3_oneIf : GoodIn wsX3_book (va_wsS RX3 186 yX3_oneIf wsX3_oneIf) := goodIn_app (goodIn_of _ (by decide +kernel)) ggX3_book_X3_oneIf
theorem dX3_book_0 : decode cX3_book 0 = .ok (.iload_n 1, 1) := by decide +kernel
theorem dX3_book_1 : decode cX3_book 1 = .ok (.invokestatic 176, 3) := by decide +kernel
theorem dX3_book_4 : decode cX3_book 4 = .ok (.iload_n 2, 1) := by decide +kernel
theorem dX3_book_5 : decode cX3_book 5 = .ok (.tableswitch 94 0 4 #[35, 44, 59, 69, 84], 35) := by decide +kernel
theorem dX3_book_40 : decode cX3_book 40 = .ok (.aload_n 0, 1) := by decide +kernel
theorem dX3_book_41 : decode cX3_book 41 = .ok (.getfield 19, 3) := by decide +kernel
theorem dX3_book_44 : decode cX3_book 44 = .ok (.iload_n 1, 1) := by decide +kernel
theorem dX3_book_45 : decode cX3_book 45 = .ok (.invokevirtual 180, 3) := by decide +kernel
theorem dX3_book_48 : decode cX3_book 48 = .ok (.ireturn, 1) := by decide +kernel
theorem dX3_book_49 : decode cX3_book 49 = .ok (.aload_n 0, 1) := by decide +kernel
theorem dX3_book_50 : decode cX3_book 50 = .ok (.getfield 19, 3) := by decide +kernel
theorem dX3_book_53 : decode cX3_book 53 = .ok (.getfield 160, 3) := by decide +kernel
theorem dX3_book_56 : decode cX3_book 56 = .ok (.iload_n 1, 1) := by decide +kernel
theorem dX3_book_57 : decode cX3_book 57 = .ok (.invokestatic 183, 3) := by decide +kernel
theorem dX3_book_60 : decode cX3_book 60 = .ok (.invokestatic 186, 3) := by decide +kernel
theorem dX3_book_63 : decode cX3_book 63 = .ok (.ireturn, 1) := by decide +kernel
theorem dX3_book_64 : decode cX3_book 64 = .ok (.aload_n 0, 1) := by decide +kernel
theorem dX3_book_65 : decode cX3_book 65 = .ok (.getfield 19, 3) := by decide +kernel
theorem dX3_book_68 : decode cX3_book 68 = .ok (.getfield 190, 3) := by decide +kernel
theorem dX3_book_71 : decode cX3_book 71 = .ok (.iload_n 1, 1) := by decide +kernel
theorem dX3_book_72 : decode cX3_book 72 = .ok (.iaload, 1) := by decide +kernel
theorem dX3_book_73 : decode cX3_book 73 = .ok (.ireturn, 1) := by decide +kernel
theorem dX3_book_74 : decode cX3_book 74 = .ok (.aload_n 0, 1) := by decide +kernel
theorem dX3_book_75 : decode cX3_book 75 = .ok (.getfield 19, 3) := by decide +kernel
theorem dX3_book_78 : decode cX3_book 78 = .ok (.getfield 193, 3) := by decide +kernel
theorem dX3_book_81 : decode cX3_book 81 = .ok (.iload_n 1, 1) := by decide +kernel
theorem dX3_book_82 : decode cX3_book 82 = .ok (.invokestatic 183, 3) := by decide +kernel
theorem dX3_book_85 : decode cX3_book 85 = .ok (.invokestatic 186, 3) := by decide +kernel
theorem dX3_book_88 : decode cX3_book 88 = .ok (.ireturn, 1) := by decide +kernel
theorem dX3_book_89 : decode cX3_book 89 = .ok (.aload_n 0, 1) := by decide +kernel
theorem dX3_book_90 : decode cX3_book 90 = .ok (.getfield 19, 3) := by decide +kernel
theorem dX3_book_93 : decode cX3_book 93 = .ok (.getfield 196, 3) := by decide +kernel
theorem dX3_book_96 : decode cX3_book 96 = .ok (.iload_n 1, 1) := by decide +kernel
theorem dX3_book_97 : decode cX3_book 97 = .ok (.iaload, 1) := by decide +kernel
theorem dX3_book_98 : decode cX3_book 98 = .ok (.ireturn, 1) := by decide +kernel
theorem dX3_book_99 : decode cX3_book 99 = .ok (.new 41, 3) := by decide +kernel
theorem dX3_book_102 : decode cX3_book 102 = .ok (.dup, 1) := by decide +kernel
theorem dX3_book_103 : decode cX3_book 103 = .ok (.ldc 199, 2) := by decide +kernel
theorem dX3_book_105 : decode cX3_book 105 = .ok (.invokespecial 45, 3) := by decide +kernel
theorem dX3_book_108 : decode cX3_book 108 = .ok (.athrow, 1) := by decide +kernel
set_option maxRecDepth 20000 in
theorem ggX3_visitor_X3_requireVisitor : GoodIn wsX3_visitor wsX3_requireVisitor := goodIn_ca (goodIn_r _ [12, 13, 14, 15, 16, 11, 17] rfl rfl) (goodIn_sub (fun _ h => List.mem_cons_of_mem _ (List.mem_append_right _ h)) (by decide +kernel))
set_option maxRecDepth 20000 in
theorem gX3_visitor_X3_requireVisitor : GoodIn wsX3_visitor (va_wsS RX3 201 yX3_requireVisitor wsX3_requireVisitor) := goodIn_app (goodIn_of _ (by decide +kernel)) ggX3_visitor_X3_requireVisitor
set_option maxRecDepth 20000 in
theorem ggX3_visitor_X3_oneIf : GoodIn wsX3_visitor wsX3_oneIf := goodIn_r _ [20] rfl rfl
set_option maxRecDepth 20000 in
theorem gX3_visitor_X3_oneIf : GoodIn wsX3_visitor (va_wsS RX3 186 yX3_oneIf wsX3_oneIf) := goodIn_app (goodIn_of _ (by decide +kernel)) ggX3_visitor_X3_oneIf
theorem dX3_visitor_0 : decode cX3_visitor 0 = .ok (.iload_n 1, 1) := by decide +kernel
theorem dX3_visitor_1 : decode cX3_visitor 1 = .ok (.invokestatic 201, 3) := by decide +kernel
theorem dX3_visitor_4 : decode cX3_visitor 4 = .ok (.aload_n 0, 1) := by decide +kernel
theorem dX3_visitor_5 : decode cX3_visitor 5 = .ok (.getfield 19, 3) := by decide +kernel
theorem dX3_visitor_8 : decode cX3_visitor 8 = .ok (.getfield 204, 3) := by decide +kernel
theorem dX3_visitor_11 : decode cX3_visitor 11 = .ok (.iload_n 1, 1) := by decide +kernel
theorem dX3_visitor_12 : decode cX3_visitor 12 = .ok (.iaload, 1) := by decide +kernel
theorem dX3_visitor_13 : decode cX3_visitor 13 = .ok (.iconst 1, 1) := by decide +kernel
theorem dX3_visitor_14 : decode cX3_visitor 14 = .ok (.if_icmp .ne 7, 3) := by decide +kernel
theorem dX3_visitor_17 : decode cX3_visitor 17 = .ok (.iconst 1, 1) := by decide +kernel
theorem dX3_visitor_18 : decode cX3_visitor 18 = .ok (.goto 4, 3) := by decide +kernel
theorem dX3_visitor_21 : decode cX3_visitor 21 = .ok (.iconst 0, 1) := by decide +kernel
theorem dX3_visitor_22 : decode cX3_visitor 22 = .ok (.istore_n 3, 1) := by decide +kernel
theorem dX3_visitor_23 : decode cX3_visitor 23 = .ok (.iload_n 2, 1) := by decide +kernel
theorem dX3_visitor_24 : decode cX3_visitor 24 = .ok (.tableswitch 116 0 4 #[36, 46, 65, 84, 106], 36) := by decide +kernel
theorem dX3_visitor_60 : decode cX3_visitor 60 = .ok (.aload_n 0, 1) := by decide +kernel
theorem dX3_visitor_61 : decode cX3_visitor 61 = .ok (.getfield 19, 3) := by decide +kernel
theorem dX3_visitor_64 : decode cX3_visitor 64 = .ok (.getfield 204, 3) := by decide +kernel
theorem dX3_visitor_67 : decode cX3_visitor 67 = .ok (.iload_n 1, 1) := by decide +kernel
theorem dX3_visitor_68 : decode cX3_visitor 68 = .ok (.iaload, 1) := by decide +kernel
theorem dX3_visitor_69 : decode cX3_visitor 69 = .ok (.ireturn, 1) := by decide +kernel
theorem dX3_visitor_70 : decode cX3_visitor 70 = .ok (.iload_n 3, 1) := by decide +kernel
theorem dX3_visitor_71 : decode cX3_visitor 71 = .ok (.ifCond .eq 15, 3) := by decide +kernel
theorem dX3_visitor_74 : decode cX3_visitor 74 = .ok (.aload_n 0, 1) := by decide +kernel
theorem dX3_visitor_75 : decode cX3_visitor 75 = .ok (.getfield 19, 3) := by decide +kernel
theorem dX3_visitor_78 : decode cX3_visitor 78 = .ok (.getfield 207, 3) := by decide +kernel
theorem dX3_visitor_81 : decode cX3_visitor 81 = .ok (.iload_n 1, 1) := by decide +kernel
theorem dX3_visitor_82 : decode cX3_visitor 82 = .ok (.iaload, 1) := by decide +kernel
theorem dX3_visitor_83 : decode cX3_visitor 83 = .ok (.goto 5, 3) := by decide +kernel
theorem dX3_visitor_86 : decode cX3_visitor 86 = .ok (.bipush (-9), 2) := by decide +kernel
theorem dX3_visitor_88 : decode cX3_visitor 88 = .ok (.ireturn, 1) := by decide +kernel
theorem dX3_visitor_89 : decode cX3_visitor 89 = .ok (.iload_n 3, 1) := by decide +kernel
theorem dX3_visitor_90 : decode cX3_visitor 90 = .ok (.ifCond .eq 15, 3) := by decide +kernel
theorem dX3_visitor_93 : decode cX3_visitor 93 = .ok (.aload_n 0, 1) := by decide +kernel
theorem dX3_visitor_94 : decode cX3_visitor 94 = .ok (.getfield 19, 3) := by decide +kernel
theorem dX3_visitor_97 : decode cX3_visitor 97 = .ok (.getfield 210, 3) := by decide +kernel
theorem dX3_visitor_100 : decode cX3_visitor 100 = .ok (.iload_n 1, 1) := by decide +kernel
theorem dX3_visitor_101 : decode cX3_visitor 101 = .ok (.iaload, 1) := by decide +kernel
theorem dX3_visitor_102 : decode cX3_visitor 102 = .ok (.goto 5, 3) := by decide +kernel
theorem dX3_visitor_105 : decode cX3_visitor 105 = .ok (.bipush (-9), 2) := by decide +kernel
theorem dX3_visitor_107 : decode cX3_visitor 107 = .ok (.ireturn, 1) := by decide +kernel
theorem dX3_visitor_108 : decode cX3_visitor 108 = .ok (.iload_n 3, 1) := by decide +kernel
theorem dX3_visitor_109 : decode cX3_visitor 109 = .ok (.ifCond .eq 18, 3) := by decide +kernel
theorem dX3_visitor_112 : decode cX3_visitor 112 = .ok (.aload_n 0, 1) := by decide +kernel
theorem dX3_visitor_113 : decode cX3_visitor 113 = .ok (.getfield 19, 3) := by decide +kernel
theorem dX3_visitor_116 : decode cX3_visitor 116 = .ok (.getfield 213, 3) := by decide +kernel
theorem dX3_visitor_119 : decode cX3_visitor 119 = .ok (.iload_n 1, 1) := by decide +kernel
theorem dX3_visitor_120 : decode cX3_visitor 120 = .ok (.baload, 1) := by decide +kernel
theorem dX3_visitor_121 : decode cX3_visitor 121 = .ok (.invokestatic 186, 3) := by decide +kernel
theorem dX3_visitor_124 : decode cX3_visitor 124 = .ok (.goto 5, 3) := by decide +kernel
theorem dX3_visitor_127 : decode cX3_visitor 127 = .ok (.bipush (-9), 2) := by decide +kernel
theorem dX3_visitor_129 : decode cX3_visitor 129 = .ok (.ireturn, 1) := by decide +kernel
theorem dX3_visitor_130 : decode cX3_visitor 130 = .ok (.aload_n 0, 1) := by decide +kernel
theorem dX3_visitor_131 : decode cX3_visitor 131 = .ok (.getfield 19, 3) := by decide +kernel
theorem dX3_visitor_134 : decode cX3_visitor 134 = .ok (.getfield 216, 3) := by decide +kernel
theorem dX3_visitor_137 : decode cX3_visitor 137 = .ok (.iload_n 1, 1) := by decide +kernel
theorem dX3_visitor_138 : decode cX3_visitor 138 = .ok (.iaload, 1) := by decide +kernel
theorem dX3_visitor_139 : decode cX3_visitor 139 = .ok (.ireturn, 1) := by decide +kernel
theorem dX3_visitor_140 : decode cX3_visitor 140 = .ok (.new 41, 3) := by decide +kernel
theorem dX3_visitor_143 : decode cX3_visitor 143 = .ok (.dup, 1) := by decide +kernel
theorem dX3_visitor_144 : decode cX3_visitor 144 = .ok (.ldc 219, 2) := by decide +kernel
theorem dX3_visitor_146 : decode cX3_visitor 146 = .ok (.invokespecial 45, 3) := by decide +kernel
theorem dX3_visitor_149 : decode cX3_visitor 149 = .ok (.athrow, 1) := by decide +kernel
set_option maxRecDepth 20000 in
theorem ggX3_gate_X3_requireGate : GoodIn wsX3_gate wsX3_requireGate := goodIn_ca (goodIn_r _ [12, 13, 14, 15, 16, 11, 17] rfl rfl) (goodIn_sub (fun _ h => List.mem_cons_of_mem _ (List.mem_append_right _ h)) (by decide +kernel))
set_option maxRecDepth 20000 in
theorem gX3_gate_X3_requireGate : GoodIn wsX3_gate (va_wsS RX3 221 yX3_requireGate wsX3_requireGate) := goodIn_app (goodIn_of _ (by decide +kernel)) ggX3_gate_X3_requireGate
set_option maxRecDepth 20000 in
theorem ggX3_gate_X0_firstWaiting : GoodIn wsX3_gate wsX0_firstWaiting := goodIn_r _ [22, 23, 24, 74, 75, 76, 77, 78, 79, 80, 81, 82] rfl rfl
set_option maxRecDepth 20000 in
theorem gX3_gate_X0_firstWaiting : GoodIn wsX3_gate (wsV RX3 230 RX0 yX0_firstWaiting wsX0_firstWaiting) := goodIn_app (goodIn_of _ (by decide +kernel)) ggX3_gate_X0_firstWaiting
set_option maxRecDepth 20000 in
theorem ggX3_gate_X1_booksRead : GoodIn wsX3_gate wsX1_booksRead := goodIn_r _ [29, 30, 31, 32, 33, 34, 35, 28, 36, 37, 38, 39, 40, 41, 42, 43, 44, 45, 46, 47, 48, 49, 50, 51, 59, 60, 61, 62, 63, 64, 65, 66, 67, 68, 69, 70, 71, 72, 73, 74, 75, 76, 77, 78, 79, 80, 81, 82] rfl rfl
set_option maxRecDepth 20000 in
theorem gX3_gate_X1_booksRead : GoodIn wsX3_gate (wsV RX3 236 RX1 yX1_booksRead wsX1_booksRead) := goodIn_app (goodIn_of _ (by decide +kernel)) ggX3_gate_X1_booksRead
theorem dX3_gate_0 : decode cX3_gate 0 = .ok (.iload_n 1, 1) := by decide +kernel
theorem dX3_gate_1 : decode cX3_gate 1 = .ok (.invokestatic 221, 3) := by decide +kernel
theorem dX3_gate_4 : decode cX3_gate 4 = .ok (.iload_n 2, 1) := by decide +kernel
theorem dX3_gate_5 : decode cX3_gate 5 = .ok (.tableswitch 113 0 5 #[39, 52, 65, 78, 90, 103], 39) := by decide +kernel
theorem dX3_gate_44 : decode cX3_gate 44 = .ok (.aload_n 0, 1) := by decide +kernel
theorem dX3_gate_45 : decode cX3_gate 45 = .ok (.getfield 19, 3) := by decide +kernel
theorem dX3_gate_48 : decode cX3_gate 48 = .ok (.getfield 91, 3) := by decide +kernel
theorem dX3_gate_51 : decode cX3_gate 51 = .ok (.getfield 95, 3) := by decide +kernel
theorem dX3_gate_54 : decode cX3_gate 54 = .ok (.iload_n 1, 1) := by decide +kernel
theorem dX3_gate_55 : decode cX3_gate 55 = .ok (.iaload, 1) := by decide +kernel
theorem dX3_gate_56 : decode cX3_gate 56 = .ok (.ireturn, 1) := by decide +kernel
theorem dX3_gate_57 : decode cX3_gate 57 = .ok (.aload_n 0, 1) := by decide +kernel
theorem dX3_gate_58 : decode cX3_gate 58 = .ok (.getfield 19, 3) := by decide +kernel
theorem dX3_gate_61 : decode cX3_gate 61 = .ok (.getfield 91, 3) := by decide +kernel
theorem dX3_gate_64 : decode cX3_gate 64 = .ok (.getfield 224, 3) := by decide +kernel
theorem dX3_gate_67 : decode cX3_gate 67 = .ok (.iload_n 1, 1) := by decide +kernel
theorem dX3_gate_68 : decode cX3_gate 68 = .ok (.iaload, 1) := by decide +kernel
theorem dX3_gate_69 : decode cX3_gate 69 = .ok (.ireturn, 1) := by decide +kernel
theorem dX3_gate_70 : decode cX3_gate 70 = .ok (.aload_n 0, 1) := by decide +kernel
theorem dX3_gate_71 : decode cX3_gate 71 = .ok (.getfield 19, 3) := by decide +kernel
theorem dX3_gate_74 : decode cX3_gate 74 = .ok (.getfield 91, 3) := by decide +kernel
theorem dX3_gate_77 : decode cX3_gate 77 = .ok (.getfield 227, 3) := by decide +kernel
theorem dX3_gate_80 : decode cX3_gate 80 = .ok (.iload_n 1, 1) := by decide +kernel
theorem dX3_gate_81 : decode cX3_gate 81 = .ok (.iaload, 1) := by decide +kernel
theorem dX3_gate_82 : decode cX3_gate 82 = .ok (.ireturn, 1) := by decide +kernel
theorem dX3_gate_83 : decode cX3_gate 83 = .ok (.aload_n 0, 1) := by decide +kernel
theorem dX3_gate_84 : decode cX3_gate 84 = .ok (.getfield 19, 3) := by decide +kernel
theorem dX3_gate_87 : decode cX3_gate 87 = .ok (.getfield 91, 3) := by decide +kernel
theorem dX3_gate_90 : decode cX3_gate 90 = .ok (.iload_n 1, 1) := by decide +kernel
theorem dX3_gate_91 : decode cX3_gate 91 = .ok (.invokevirtual 230, 3) := by decide +kernel
theorem dX3_gate_94 : decode cX3_gate 94 = .ok (.ireturn, 1) := by decide +kernel
theorem dX3_gate_95 : decode cX3_gate 95 = .ok (.aload_n 0, 1) := by decide +kernel
theorem dX3_gate_96 : decode cX3_gate 96 = .ok (.getfield 19, 3) := by decide +kernel
theorem dX3_gate_99 : decode cX3_gate 99 = .ok (.getfield 91, 3) := by decide +kernel
theorem dX3_gate_102 : decode cX3_gate 102 = .ok (.getfield 233, 3) := by decide +kernel
theorem dX3_gate_105 : decode cX3_gate 105 = .ok (.iload_n 1, 1) := by decide +kernel
theorem dX3_gate_106 : decode cX3_gate 106 = .ok (.iaload, 1) := by decide +kernel
theorem dX3_gate_107 : decode cX3_gate 107 = .ok (.ireturn, 1) := by decide +kernel
theorem dX3_gate_108 : decode cX3_gate 108 = .ok (.aload_n 0, 1) := by decide +kernel
theorem dX3_gate_109 : decode cX3_gate 109 = .ok (.getfield 19, 3) := by decide +kernel
theorem dX3_gate_112 : decode cX3_gate 112 = .ok (.iload_n 1, 1) := by decide +kernel
theorem dX3_gate_113 : decode cX3_gate 113 = .ok (.iconst 0, 1) := by decide +kernel
theorem dX3_gate_114 : decode cX3_gate 114 = .ok (.invokevirtual 236, 3) := by decide +kernel
theorem dX3_gate_117 : decode cX3_gate 117 = .ok (.ireturn, 1) := by decide +kernel
theorem dX3_gate_118 : decode cX3_gate 118 = .ok (.new 41, 3) := by decide +kernel
theorem dX3_gate_121 : decode cX3_gate 121 = .ok (.dup, 1) := by decide +kernel
theorem dX3_gate_122 : decode cX3_gate 122 = .ok (.ldc 240, 2) := by decide +kernel
theorem dX3_gate_124 : decode cX3_gate 124 = .ok (.invokespecial 45, 3) := by decide +kernel
theorem dX3_gate_127 : decode cX3_gate 127 = .ok (.athrow, 1) := by decide +kernel
theorem dX3_shout_0 : decode cX3_shout 0 = .ok (.iload_n 1, 1) := by decide +kernel
theorem dX3_shout_1 : decode cX3_shout 1 = .ok (.ifCond .lt 9, 3) := by decide +kernel
theorem dX3_shout_4 : decode cX3_shout 4 = .ok (.iload_n 1, 1) := by decide +kernel
theorem dX3_shout_5 : decode cX3_shout 5 = .ok (.bipush 10, 2) := by decide +kernel
theorem dX3_shout_7 : decode cX3_shout 7 = .ok (.if_icmp .lt 13, 3) := by decide +kernel
theorem dX3_shout_10 : decode cX3_shout 10 = .ok (.new 41, 3) := by decide +kernel
theorem dX3_shout_13 : decode cX3_shout 13 = .ok (.dup, 1) := by decide +kernel
theorem dX3_shout_14 : decode cX3_shout 14 = .ok (.ldc 242, 2) := by decide +kernel
theorem dX3_shout_16 : decode cX3_shout 16 = .ok (.invokespecial 45, 3) := by decide +kernel
theorem dX3_shout_19 : decode cX3_shout 19 = .ok (.athrow, 1) := by decide +kernel
theorem dX3_shout_20 : decode cX3_shout 20 = .ok (.iload_n 2, 1) := by decide +kernel
theorem dX3_shout_21 : decode cX3_shout 21 = .ok (.tableswitch 66 0 2 #[27, 40, 53], 27) := by decide +kernel
theorem dX3_shout_48 : decode cX3_shout 48 = .ok (.aload_n 0, 1) := by decide +kernel
theorem dX3_shout_49 : decode cX3_shout 49 = .ok (.getfield 19, 3) := by decide +kernel
theorem dX3_shout_52 : decode cX3_shout 52 = .ok (.getfield 91, 3) := by decide +kernel
theorem dX3_shout_55 : decode cX3_shout 55 = .ok (.getfield 244, 3) := by decide +kernel
theorem dX3_shout_58 : decode cX3_shout 58 = .ok (.iload_n 1, 1) := by decide +kernel
theorem dX3_shout_59 : decode cX3_shout 59 = .ok (.iaload, 1) := by decide +kernel
theorem dX3_shout_60 : decode cX3_shout 60 = .ok (.ireturn, 1) := by decide +kernel
theorem dX3_shout_61 : decode cX3_shout 61 = .ok (.aload_n 0, 1) := by decide +kernel
theorem dX3_shout_62 : decode cX3_shout 62 = .ok (.getfield 19, 3) := by decide +kernel
theorem dX3_shout_65 : decode cX3_shout 65 = .ok (.getfield 91, 3) := by decide +kernel
theorem dX3_shout_68 : decode cX3_shout 68 = .ok (.getfield 247, 3) := by decide +kernel
theorem dX3_shout_71 : decode cX3_shout 71 = .ok (.iload_n 1, 1) := by decide +kernel
theorem dX3_shout_72 : decode cX3_shout 72 = .ok (.iaload, 1) := by decide +kernel
theorem dX3_shout_73 : decode cX3_shout 73 = .ok (.ireturn, 1) := by decide +kernel
theorem dX3_shout_74 : decode cX3_shout 74 = .ok (.aload_n 0, 1) := by decide +kernel
theorem dX3_shout_75 : decode cX3_shout 75 = .ok (.getfield 19, 3) := by decide +kernel
theorem dX3_shout_78 : decode cX3_shout 78 = .ok (.getfield 91, 3) := by decide +kernel
theorem dX3_shout_81 : decode cX3_shout 81 = .ok (.getfield 250, 3) := by decide +kernel
theorem dX3_shout_84 : decode cX3_shout 84 = .ok (.iload_n 1, 1) := by decide +kernel
theorem dX3_shout_85 : decode cX3_shout 85 = .ok (.iaload, 1) := by decide +kernel
theorem dX3_shout_86 : decode cX3_shout 86 = .ok (.ireturn, 1) := by decide +kernel
theorem dX3_shout_87 : decode cX3_shout 87 = .ok (.new 41, 3) := by decide +kernel
theorem dX3_shout_90 : decode cX3_shout 90 = .ok (.dup, 1) := by decide +kernel
theorem dX3_shout_91 : decode cX3_shout 91 = .ok (.ldc 253, 2) := by decide +kernel
theorem dX3_shout_93 : decode cX3_shout 93 = .ok (.invokespecial 45, 3) := by decide +kernel
theorem dX3_shout_96 : decode cX3_shout 96 = .ok (.athrow, 1) := by decide +kernel
set_option maxRecDepth 20000 in
theorem ggX3_take_X3_requireVisitor : GoodIn wsX3_take wsX3_requireVisitor := goodIn_ca (goodIn_r _ [6, 7, 8, 9, 10, 5, 11] rfl rfl) (goodIn_sub (fun _ h => List.mem_cons_of_mem _ (List.mem_append_left _ (List.mem_append_right _ h))) (by decide +kernel))
set_option maxRecDepth 20000 in
theorem gX3_take_X3_requireVisitor : GoodIn wsX3_take (va_wsS RX3 201 yX3_requireVisitor wsX3_requireVisitor) := goodIn_app (goodIn_of _ (by decide +kernel)) ggX3_take_X3_requireVisitor
set_option maxRecDepth 20000 in
theorem ggX3_take_X3_requireBook : GoodIn wsX3_take wsX3_requireBook := goodIn_ca (goodIn_r _ [14, 7, 8, 15, 16, 5, 17] rfl rfl) (goodIn_sub (fun _ h => List.mem_cons_of_mem _ (List.mem_append_left _ (List.mem_append_right _ h))) (by decide +kernel))
set_option maxRecDepth 20000 in
theorem gX3_take_X3_requireBook : GoodIn wsX3_take (va_wsS RX3 176 yX3_requireBook wsX3_requireBook) := goodIn_app (goodIn_of _ (by decide +kernel)) ggX3_take_X3_requireBook
set_option maxRecDepth 20000 in
theorem ggX3_take_X1_canTake : GoodIn wsX3_take wsX1_canTake := goodIn_r _ [22, 23, 24, 10, 5, 11, 16, 17, 25, 26, 27, 21, 28, 29, 30, 31, 32, 33, 34, 35, 36, 37, 109, 110, 111, 112, 113, 114, 115, 116, 117, 118, 119, 120, 121, 122, 123] rfl rfl
set_option maxRecDepth 20000 in
theorem gX3_take_X1_canTake : GoodIn wsX3_take (wsV RX3 255 RX1 yX1_canTake wsX1_canTake) := goodIn_app (goodIn_of _ (by decide +kernel)) ggX3_take_X1_canTake
set_option maxRecDepth 20000 in
theorem ggX3_take_X3_requireAllowed : GoodIn wsX3_take wsX3_requireAllowed := goodIn_ca (goodIn_r _ [40, 41, 42] rfl rfl) (goodIn_sub (fun _ h => List.mem_cons_of_mem _ (List.mem_append_right _ h)) (by decide +kernel))
set_option maxRecDepth 20000 in
theorem gX3_take_X3_requireAllowed : GoodIn wsX3_take (va_wsS RX3 258 yX3_requireAllowed wsX3_requireAllowed) := goodIn_app (goodIn_of _ (by decide +kernel)) ggX3_take_X3_requireAllowed
set_option maxRecDepth 20000 in
theorem ggX3_take_X3_remember : GoodIn wsX3_take wsX3_remember := goodIn_r _ [46, 47, 48, 1, 49, 50, 51, 5, 52, 53, 54, 55, 21, 56, 57, 24, 23, 58, 59, 60, 61, 62, 63, 64, 65, 66, 67, 68, 69, 70, 71, 72, 73, 74, 75, 76, 77, 78, 79, 80, 81, 82, 83, 84, 85, 86, 87, 88, 89, 90, 91, 92, 93, 102, 103, 104, 105, 106, 107, 108, 109, 110, 111, 112, 113, 114, 115, 116, 117, 118, 119, 120, 121, 122, 123, 124, 125, 126, 127, 128, 129, 130, 131, 132] rfl rfl
set_option maxRecDepth 20000 in
theorem gX3_take_X3_remember : GoodIn wsX3_take (wsV RX3 262 RX3 yX3_remember wsX3_remember) := goodIn_app (goodIn_of _ (by decide +kernel)) ggX3_take_X3_remember
set_option maxRecDepth 20000 in
theorem ggX3_take_X1_tryTake : GoodIn wsX3_take wsX1_tryTake := goodIn_r _ [97, 24, 98, 19, 20, 21, 22, 23, 10, 5, 11, 16, 17, 25, 26, 27, 28, 29, 30, 31, 32, 33, 34, 35, 36, 37, 99, 100, 109, 110, 111, 112, 113, 114, 115, 116, 117, 118, 119, 120, 121, 122, 123] rfl rfl
set_option maxRecDepth 20000 in
theorem gX3_take_X1_tryTake : GoodIn wsX3_take (wsV RX3 119 RX1 yX1_tryTake wsX1_tryTake) := goodIn_app (goodIn_of _ (by decide +kernel)) ggX3_take_X1_tryTake
set_option maxRecDepth 20000 in
theorem ggX3_take_J6_bitCount_0f7a4 : GoodIn wsX3_take wsJ6_bitCount_0f7a4 := goodIn_r _ [34, 35, 36, 37] rfl rfl
set_option maxRecDepth 20000 in
theorem gX3_take_J6_bitCount_0f7a4 : GoodIn wsX3_take (va_wsS RX3 163 yJ6_bitCount_0f7a4 wsJ6_bitCount_0f7a4) := goodIn_app (goodIn_of _ (by decide +kernel)) ggX3_take_J6_bitCount_0f7a4
theorem dX3_take_0 : decode cX3_take 0 = .ok (.iload_n 1, 1) := by decide +kernel
theorem dX3_take_1 : decode cX3_take 1 = .ok (.invokestatic 201, 3) := by decide +kernel
theorem dX3_take_4 : decode cX3_take 4 = .ok (.iload_n 2, 1) := by decide +kernel
theorem dX3_take_5 : decode cX3_take 5 = .ok (.invokestatic 176, 3) := by decide +kernel
theorem dX3_take_8 : decode cX3_take 8 = .ok (.aload_n 0, 1) := by decide +kernel
theorem dX3_take_9 : decode cX3_take 9 = .ok (.getfield 19, 3) := by decide +kernel
theorem dX3_take_12 : decode cX3_take 12 = .ok (.iload_n 1, 1) := by decide +kernel
theorem dX3_take_13 : decode cX3_take 13 = .ok (.iload_n 2, 1) := by decide +kernel
theorem dX3_take_14 : decode cX3_take 14 = .ok (.invokevirtual 255, 3) := by decide +kernel
theorem dX3_take_17 : decode cX3_take 17 = .ok (.invokestatic 258, 3) := by decide +kernel
theorem dX3_take_20 : decode cX3_take 20 = .ok (.aload_n 0, 1) := by decide +kernel
theorem dX3_take_21 : decode cX3_take 21 = .ok (.invokevirtual 262, 3) := by decide +kernel
theorem dX3_take_24 : decode cX3_take 24 = .ok (.aload_n 0, 1) := by decide +kernel
theorem dX3_take_25 : decode cX3_take 25 = .ok (.getfield 19, 3) := by decide +kernel
theorem dX3_take_28 : decode cX3_take 28 = .ok (.iload_n 1, 1) := by decide +kernel
theorem dX3_take_29 : decode cX3_take 29 = .ok (.iload_n 2, 1) := by decide +kernel
theorem dX3_take_30 : decode cX3_take 30 = .ok (.invokevirtual 119, 3) := by decide +kernel
theorem dX3_take_33 : decode cX3_take 33 = .ok (.pop, 1) := by decide +kernel
theorem dX3_take_34 : decode cX3_take 34 = .ok (.aload_n 0, 1) := by decide +kernel
theorem dX3_take_35 : decode cX3_take 35 = .ok (.getfield 19, 3) := by decide +kernel
theorem dX3_take_38 : decode cX3_take 38 = .ok (.getfield 216, 3) := by decide +kernel
theorem dX3_take_41 : decode cX3_take 41 = .ok (.iload_n 1, 1) := by decide +kernel
theorem dX3_take_42 : decode cX3_take 42 = .ok (.iaload, 1) := by decide +kernel
theorem dX3_take_43 : decode cX3_take 43 = .ok (.invokestatic 163, 3) := by decide +kernel
theorem dX3_take_46 : decode cX3_take 46 = .ok (.ireturn, 1) := by decide +kernel
set_option maxRecDepth 20000 in
theorem ggX3_putBack_X3_requireBook : GoodIn wsX3_putBack wsX3_requireBook := goodIn_ca (goodIn_r _ [5, 6, 7, 8, 9, 4, 10] rfl rfl) (goodIn_sub (fun _ h => List.mem_cons_of_mem _ (List.mem_append_left _ (List.mem_append_right _ h))) (by decide +kernel))
set_option maxRecDepth 20000 in
theorem gX3_putBack_X3_requireBook : GoodIn wsX3_putBack (va_wsS RX3 176 yX3_requireBook wsX3_requireBook) := goodIn_app (goodIn_of _ (by decide +kernel)) ggX3_putBack_X3_requireBook
set_option maxRecDepth 20000 in
theorem ggX3_putBack_X1_canPutBack : GoodIn wsX3_putBack wsX1_canPutBack := goodIn_r _ [15, 9, 4, 10, 16, 17, 18, 14, 19, 20, 21, 22, 23, 24, 25, 26, 27, 99, 100, 101, 102, 103, 104, 105, 106, 107, 108, 109, 110, 111, 112, 113] rfl rfl
set_option maxRecDepth 20000 in
theorem gX3_putBack_X1_canPutBack : GoodIn wsX3_putBack (wsV RX3 265 RX1 yX1_canPutBack wsX1_canPutBack) := goodIn_app (goodIn_of _ (by decide +kernel)) ggX3_putBack_X1_canPutBack
set_option maxRecDepth 20000 in
theorem ggX3_putBack_X3_requireAllowed : GoodIn wsX3_putBack wsX3_requireAllowed := goodIn_ca (goodIn_r _ [30, 31, 32] rfl rfl) (goodIn_sub (fun _ h => List.mem_cons_of_mem _ (List.mem_append_right _ h)) (by decide +kernel))
set_option maxRecDepth 20000 in
theorem gX3_putBack_X3_requireAllowed : GoodIn wsX3_putBack (va_wsS RX3 258 yX3_requireAllowed wsX3_requireAllowed) := goodIn_app (goodIn_of _ (by decide +kernel)) ggX3_putBack_X3_requireAllowed
set_option maxRecDepth 20000 in
theorem ggX3_putBack_X3_remember : GoodIn wsX3_putBack wsX3_remember := goodIn_r _ [36, 37, 38, 1, 39, 40, 41, 4, 42, 43, 44, 45, 14, 46, 47, 20, 27, 48, 49, 50, 51, 52, 53, 54, 55, 56, 57, 58, 59, 60, 61, 62, 63, 64, 65, 66, 67, 68, 69, 70, 71, 72, 73, 74, 75, 76, 77, 78, 79, 80, 81, 82, 83, 92, 93, 94, 95, 96, 97, 98, 99, 100, 101, 102, 103, 104, 105, 106, 107, 108, 109, 110, 111, 112, 113, 114, 115, 116, 117, 118, 119, 120, 121, 122] rfl rfl
set_option maxRecDepth 20000 in
theorem gX3_putBack_X3_remember : GoodIn wsX3_putBack (wsV RX3 262 RX3 yX3_remember wsX3_remember) := goodIn_app (goodIn_of _ (by decide +kernel)) ggX3_putBack_X3_remember
set_option maxRecDepth 20000 in
theorem ggX3_putBack_X1_holderOf : GoodIn wsX3_putBack wsX1_holderOf := goodIn_r _ [19, 20, 21, 4, 22, 99, 100, 101, 102, 103, 104, 105, 106, 107, 108, 109, 110, 111, 112, 113] rfl rfl
set_option maxRecDepth 20000 in
theorem gX3_putBack_X1_holderOf : GoodIn wsX3_putBack (wsV RX3 180 RX1 yX1_holderOf wsX1_holderOf) := goodIn_app (goodIn_of _ (by decide +kernel)) ggX3_putBack_X1_holderOf
set_option maxRecDepth 20000 in
theorem ggX3_putBack_X1_tryPutBack : GoodIn wsX3_putBack wsX1_tryPutBack := goodIn_r _ [88, 20, 89, 12, 13, 14, 15, 9, 4, 10, 16, 17, 18, 19, 21, 22, 23, 24, 25, 26, 27, 90, 91, 99, 100, 101, 102, 103, 104, 105, 106, 107, 108, 109, 110, 111, 112, 113] rfl rfl
set_option maxRecDepth 20000 in
theorem gX3_putBack_X1_tryPutBack : GoodIn wsX3_putBack (wsV RX3 123 RX1 yX1_tryPutBack wsX1_tryPutBack) := goodIn_app (goodIn_of _ (by decide +kernel)) ggX3_putBack_X1_tryPutBack
theorem dX3_putBack_0 : decode cX3_putBack 0 = .ok (.iload_n 1, 1) := by decide +kernel
theorem dX3_putBack_1 : decode cX3_putBack 1 = .ok (.invokestatic 176, 3) := by decide +kernel
theorem dX3_putBack_4 : decode cX3_putBack 4 = .ok (.aload_n 0, 1) := by decide +kernel
theorem dX3_putBack_5 : decode cX3_putBack 5 = .ok (.getfield 19, 3) := by decide +kernel
theorem dX3_putBack_8 : decode cX3_putBack 8 = .ok (.iload_n 1, 1) := by decide +kernel
theorem dX3_putBack_9 : decode cX3_putBack 9 = .ok (.invokevirtual 265, 3) := by decide +kernel
theorem dX3_putBack_12 : decode cX3_putBack 12 = .ok (.invokestatic 258, 3) := by decide +kernel
theorem dX3_putBack_15 : decode cX3_putBack 15 = .ok (.aload_n 0, 1) := by decide +kernel
theorem dX3_putBack_16 : decode cX3_putBack 16 = .ok (.invokevirtual 262, 3) := by decide +kernel
theorem dX3_putBack_19 : decode cX3_putBack 19 = .ok (.aload_n 0, 1) := by decide +kernel
theorem dX3_putBack_20 : decode cX3_putBack 20 = .ok (.getfield 19, 3) := by decide +kernel
theorem dX3_putBack_23 : decode cX3_putBack 23 = .ok (.iload_n 1, 1) := by decide +kernel
theorem dX3_putBack_24 : decode cX3_putBack 24 = .ok (.invokevirtual 180, 3) := by decide +kernel
theorem dX3_putBack_27 : decode cX3_putBack 27 = .ok (.istore_n 2, 1) := by decide +kernel
theorem dX3_putBack_28 : decode cX3_putBack 28 = .ok (.aload_n 0, 1) := by decide +kernel
theorem dX3_putBack_29 : decode cX3_putBack 29 = .ok (.getfield 19, 3) := by decide +kernel
theorem dX3_putBack_32 : decode cX3_putBack 32 = .ok (.iload_n 1, 1) := by decide +kernel
theorem dX3_putBack_33 : decode cX3_putBack 33 = .ok (.invokevirtual 123, 3) := by decide +kernel
theorem dX3_putBack_36 : decode cX3_putBack 36 = .ok (.pop, 1) := by decide +kernel
theorem dX3_putBack_37 : decode cX3_putBack 37 = .ok (.iload_n 2, 1) := by decide +kernel
theorem dX3_putBack_38 : decode cX3_putBack 38 = .ok (.ireturn, 1) := by decide +kernel
set_option maxRecDepth 20000 in
theorem ggX3_borrow_X3_requireBook : GoodIn wsX3_borrow wsX3_requireBook := goodIn_ca (goodIn_r _ [6, 7, 8, 9, 10, 5, 11] rfl rfl) (goodIn_sub (fun _ h => List.mem_cons_of_mem _ (List.mem_append_left _ (List.mem_append_right _ h))) (by decide +kernel))
set_option maxRecDepth 20000 in
theorem gX3_borrow_X3_requireBook : GoodIn wsX3_borrow (va_wsS RX3 176 yX3_requireBook wsX3_requireBook) := goodIn_app (goodIn_of _ (by decide +kernel)) ggX3_borrow_X3_requireBook
set_option maxRecDepth 20000 in
theorem ggX3_borrow_X1_canBorrow : GoodIn wsX3_borrow wsX1_canBorrow := goodIn_r _ [16, 17, 10, 5, 11, 18, 19, 20, 21, 22, 15, 23, 24, 25, 102, 103, 104, 105, 106, 107, 108, 109, 110, 111, 112, 113, 114, 115, 116] rfl rfl
set_option maxRecDepth 20000 in
theorem gX3_borrow_X1_canBorrow : GoodIn wsX3_borrow (wsV RX3 268 RX1 yX1_canBorrow wsX1_canBorrow) := goodIn_app (goodIn_of _ (by decide +kernel)) ggX3_borrow_X1_canBorrow
set_option maxRecDepth 20000 in
theorem ggX3_borrow_X3_requireAllowed : GoodIn wsX3_borrow wsX3_requireAllowed := goodIn_ca (goodIn_r _ [28, 29, 30] rfl rfl) (goodIn_sub (fun _ h => List.mem_cons_of_mem _ (List.mem_append_right _ h)) (by decide +kernel))
set_option maxRecDepth 20000 in
theorem gX3_borrow_X3_requireAllowed : GoodIn wsX3_borrow (va_wsS RX3 258 yX3_requireAllowed wsX3_requireAllowed) := goodIn_app (goodIn_of _ (by decide +kernel)) ggX3_borrow_X3_requireAllowed
set_option maxRecDepth 20000 in
theorem ggX3_borrow_X3_remember : GoodIn wsX3_borrow wsX3_remember := goodIn_r _ [34, 35, 36, 1, 37, 38, 39, 5, 40, 41, 42, 43, 15, 44, 45, 24, 25, 46, 47, 48, 49, 50, 17, 51, 52, 53, 54, 55, 56, 57, 58, 59, 60, 61, 62, 63, 64, 65, 66, 67, 68, 69, 70, 71, 72, 73, 74, 75, 76, 77, 78, 79, 80, 95, 96, 97, 98, 99, 100, 101, 102, 103, 104, 105, 106, 107, 108, 109, 110, 111, 112, 113, 114, 115, 116, 117, 118, 119, 120, 121, 122, 123, 124, 125] rfl rfl
set_option maxRecDepth 20000 in
theorem gX3_borrow_X3_remember : GoodIn wsX3_borrow (wsV RX3 262 RX3 yX3_remember wsX3_remember) := goodIn_app (goodIn_of _ (by decide +kernel)) ggX3_borrow_X3_remember
set_option maxRecDepth 20000 in
theorem ggX3_borrow_X1_tryBorrow : GoodIn wsX3_borrow wsX1_tryBorrow := goodIn_r _ [84, 17, 85, 13, 14, 15, 16, 10, 5, 11, 18, 19, 20, 21, 22, 23, 24, 25, 86, 87, 102, 103, 104, 105, 106, 107, 108, 109, 110, 111, 112, 113, 114, 115, 116] rfl rfl
set_option maxRecDepth 20000 in
theorem gX3_borrow_X1_tryBorrow : GoodIn wsX3_borrow (wsV RX3 271 RX1 yX1_tryBorrow wsX1_tryBorrow) := goodIn_app (goodIn_of _ (by decide +kernel)) ggX3_borrow_X1_tryBorrow
set_option maxRecDepth 20000 in
theorem ggX3_borrow_J6_bitCount_0f7a4 : GoodIn wsX3_borrow wsJ6_bitCount_0f7a4 := goodIn_r _ [91, 92, 93, 94] rfl rfl
set_option maxRecDepth 20000 in
theorem gX3_borrow_J6_bitCount_0f7a4 : GoodIn wsX3_borrow (va_wsS RX3 163 yJ6_bitCount_0f7a4 wsJ6_bitCount_0f7a4) := goodIn_app (goodIn_of _ (by decide +kernel)) ggX3_borrow_J6_bitCount_0f7a4
theorem dX3_borrow_0 : decode cX3_borrow 0 = .ok (.iload_n 1, 1) := by decide +kernel
theorem dX3_borrow_1 : decode cX3_borrow 1 = .ok (.invokestatic 176, 3) := by decide +kernel
theorem dX3_borrow_4 : decode cX3_borrow 4 = .ok (.aload_n 0, 1) := by decide +kernel
theorem dX3_borrow_5 : decode cX3_borrow 5 = .ok (.getfield 19, 3) := by decide +kernel
theorem dX3_borrow_8 : decode cX3_borrow 8 = .ok (.iload_n 1, 1) := by decide +kernel
theorem dX3_borrow_9 : decode cX3_borrow 9 = .ok (.invokevirtual 268, 3) := by decide +kernel
theorem dX3_borrow_12 : decode cX3_borrow 12 = .ok (.invokestatic 258, 3) := by decide +kernel
theorem dX3_borrow_15 : decode cX3_borrow 15 = .ok (.aload_n 0, 1) := by decide +kernel
theorem dX3_borrow_16 : decode cX3_borrow 16 = .ok (.invokevirtual 262, 3) := by decide +kernel
theorem dX3_borrow_19 : decode cX3_borrow 19 = .ok (.aload_n 0, 1) := by decide +kernel
theorem dX3_borrow_20 : decode cX3_borrow 20 = .ok (.getfield 19, 3) := by decide +kernel
theorem dX3_borrow_23 : decode cX3_borrow 23 = .ok (.iload_n 1, 1) := by decide +kernel
theorem dX3_borrow_24 : decode cX3_borrow 24 = .ok (.invokevirtual 271, 3) := by decide +kernel
theorem dX3_borrow_27 : decode cX3_borrow 27 = .ok (.pop, 1) := by decide +kernel
theorem dX3_borrow_28 : decode cX3_borrow 28 = .ok (.aload_n 0, 1) := by decide +kernel
theorem dX3_borrow_29 : decode cX3_borrow 29 = .ok (.getfield 19, 3) := by decide +kernel
theorem dX3_borrow_32 : decode cX3_borrow 32 = .ok (.getfield 160, 3) := by decide +kernel
theorem dX3_borrow_35 : decode cX3_borrow 35 = .ok (.invokestatic 163, 3) := by decide +kernel
theorem dX3_borrow_38 : decode cX3_borrow 38 = .ok (.ireturn, 1) := by decide +kernel
set_option maxRecDepth 20000 in
theorem ggX3_bringBack_X3_requireBook : GoodIn wsX3_bringBack wsX3_requireBook := goodIn_ca (goodIn_r _ [6, 7, 8, 9, 10, 5, 11] rfl rfl) (goodIn_sub (fun _ h => List.mem_cons_of_mem _ (List.mem_append_left _ (List.mem_append_right _ h))) (by decide +kernel))
set_option maxRecDepth 20000 in
theorem gX3_bringBack_X3_requireBook : GoodIn wsX3_bringBack (va_wsS RX3 176 yX3_requireBook wsX3_requireBook) := goodIn_app (goodIn_of _ (by decide +kernel)) ggX3_bringBack_X3_requireBook
set_option maxRecDepth 20000 in
theorem ggX3_bringBack_X1_canBringBack : GoodIn wsX3_bringBack wsX1_canBringBack := goodIn_r _ [16, 17, 10, 5, 11, 18, 19, 20, 21, 22, 15, 23, 24, 25, 102, 103, 104, 105, 106, 107, 108, 109, 110, 111, 112, 113, 114, 115, 116] rfl rfl
set_option maxRecDepth 20000 in
theorem gX3_bringBack_X1_canBringBack : GoodIn wsX3_bringBack (wsV RX3 274 RX1 yX1_canBringBack wsX1_canBringBack) := goodIn_app (goodIn_of _ (by decide +kernel)) ggX3_bringBack_X1_canBringBack
set_option maxRecDepth 20000 in
theorem ggX3_bringBack_X3_requireAllowed : GoodIn wsX3_bringBack wsX3_requireAllowed := goodIn_ca (goodIn_r _ [28, 29, 30] rfl rfl) (goodIn_sub (fun _ h => List.mem_cons_of_mem _ (List.mem_append_right _ h)) (by decide +kernel))
set_option maxRecDepth 20000 in
theorem gX3_bringBack_X3_requireAllowed : GoodIn wsX3_bringBack (va_wsS RX3 258 yX3_requireAllowed wsX3_requireAllowed) := goodIn_app (goodIn_of _ (by decide +kernel)) ggX3_bringBack_X3_requireAllowed
set_option maxRecDepth 20000 in
theorem ggX3_bringBack_X3_remember : GoodIn wsX3_bringBack wsX3_remember := goodIn_r _ [34, 35, 36, 1, 37, 38, 39, 5, 40, 41, 42, 43, 15, 44, 45, 24, 25, 46, 47, 48, 49, 50, 17, 51, 52, 53, 54, 55, 56, 57, 58, 59, 60, 61, 62, 63, 64, 65, 66, 67, 68, 69, 70, 71, 72, 73, 74, 75, 76, 77, 78, 79, 80, 95, 96, 97, 98, 99, 100, 101, 102, 103, 104, 105, 106, 107, 108, 109, 110, 111, 112, 113, 114, 115, 116, 117, 118, 119, 120, 121, 122, 123, 124, 125] rfl rfl
set_option maxRecDepth 20000 in
theorem gX3_bringBack_X3_remember : GoodIn wsX3_bringBack (wsV RX3 262 RX3 yX3_remember wsX3_remember) := goodIn_app (goodIn_of _ (by decide +kernel)) ggX3_bringBack_X3_remember
set_option maxRecDepth 20000 in
theorem ggX3_bringBack_X1_tryBringBack : GoodIn wsX3_bringBack wsX1_tryBringBack := goodIn_r _ [84, 17, 85, 13, 14, 15, 16, 10, 5, 11, 18, 19, 20, 21, 22, 23, 24, 25, 86, 87, 102, 103, 104, 105, 106, 107, 108, 109, 110, 111, 112, 113, 114, 115, 116] rfl rfl
set_option maxRecDepth 20000 in
theorem gX3_bringBack_X1_tryBringBack : GoodIn wsX3_bringBack (wsV RX3 277 RX1 yX1_tryBringBack wsX1_tryBringBack) := goodIn_app (goodIn_of _ (by decide +kernel)) ggX3_bringBack_X1_tryBringBack
set_option maxRecDepth 20000 in
theorem ggX3_bringBack_J6_bitCount_0f7a4 : GoodIn wsX3_bringBack wsJ6_bitCount_0f7a4 := goodIn_r _ [91, 92, 93, 94] rfl rfl
set_option maxRecDepth 20000 in
theorem gX3_bringBack_J6_bitCount_0f7a4 : GoodIn wsX3_bringBack (va_wsS RX3 163 yJ6_bitCount_0f7a4 wsJ6_bitCount_0f7a4) := goodIn_app (goodIn_of _ (by decide +kernel)) ggX3_bringBack_J6_bitCount_0f7a4
theorem dX3_bringBack_0 : decode cX3_bringBack 0 = .ok (.iload_n 1, 1) := by decide +kernel
theorem dX3_bringBack_1 : decode cX3_bringBack 1 = .ok (.invokestatic 176, 3) := by decide +kernel
theorem dX3_bringBack_4 : decode cX3_bringBack 4 = .ok (.aload_n 0, 1) := by decide +kernel
theorem dX3_bringBack_5 : decode cX3_bringBack 5 = .ok (.getfield 19, 3) := by decide +kernel
theorem dX3_bringBack_8 : decode cX3_bringBack 8 = .ok (.iload_n 1, 1) := by decide +kernel
theorem dX3_bringBack_9 : decode cX3_bringBack 9 = .ok (.invokevirtual 274, 3) := by decide +kernel
theorem dX3_bringBack_12 : decode cX3_bringBack 12 = .ok (.invokestatic 258, 3) := by decide +kernel
theorem dX3_bringBack_15 : decode cX3_bringBack 15 = .ok (.aload_n 0, 1) := by decide +kernel
theorem dX3_bringBack_16 : decode cX3_bringBack 16 = .ok (.invokevirtual 262, 3) := by decide +kernel
theorem dX3_bringBack_19 : decode cX3_bringBack 19 = .ok (.aload_n 0, 1) := by decide +kernel
theorem dX3_bringBack_20 : decode cX3_bringBack 20 = .ok (.getfield 19, 3) := by decide +kernel
theorem dX3_bringBack_23 : decode cX3_bringBack 23 = .ok (.iload_n 1, 1) := by decide +kernel
theorem dX3_bringBack_24 : decode cX3_bringBack 24 = .ok (.invokevirtual 277, 3) := by decide +kernel
theorem dX3_bringBack_27 : decode cX3_bringBack 27 = .ok (.pop, 1) := by decide +kernel
theorem dX3_bringBack_28 : decode cX3_bringBack 28 = .ok (.aload_n 0, 1) := by decide +kernel
theorem dX3_bringBack_29 : decode cX3_bringBack 29 = .ok (.getfield 19, 3) := by decide +kernel
theorem dX3_bringBack_32 : decode cX3_bringBack 32 = .ok (.getfield 160, 3) := by decide +kernel
theorem dX3_bringBack_35 : decode cX3_bringBack 35 = .ok (.invokestatic 163, 3) := by decide +kernel
theorem dX3_bringBack_38 : decode cX3_bringBack 38 = .ok (.ireturn, 1) := by decide +kernel
set_option maxRecDepth 20000 in
theorem ggX3_walk_X3_requireVisitor : GoodIn wsX3_walk wsX3_requireVisitor := goodIn_ca (goodIn_r _ [5, 6, 7, 8, 9, 4, 10] rfl rfl) (goodIn_sub (fun _ h => List.mem_cons_of_mem _ (List.mem_append_left _ (List.mem_append_right _ h))) (by decide +kernel))
set_option maxRecDepth 20000 in
theorem gX3_walk_X3_requireVisitor : GoodIn wsX3_walk (va_wsS RX3 201 yX3_requireVisitor wsX3_requireVisitor) := goodIn_app (goodIn_of _ (by decide +kernel)) ggX3_walk_X3_requireVisitor
set_option maxRecDepth 20000 in
theorem ggX3_walk_X3_requireGate : GoodIn wsX3_walk wsX3_requireGate := goodIn_ca (goodIn_r _ [13, 6, 7, 14, 15, 4, 16] rfl rfl) (goodIn_sub (fun _ h => List.mem_cons_of_mem _ (List.mem_append_left _ (List.mem_append_right _ h))) (by decide +kernel))
set_option maxRecDepth 20000 in
theorem gX3_walk_X3_requireGate : GoodIn wsX3_walk (va_wsS RX3 221 yX3_requireGate wsX3_requireGate) := goodIn_app (goodIn_of _ (by decide +kernel)) ggX3_walk_X3_requireGate
set_option maxRecDepth 20000 in
theorem ggX3_walk_X1_canWalk : GoodIn wsX3_walk wsX1_canWalk := goodIn_r _ [21, 22, 9, 4, 10, 15, 16, 98, 99, 100, 101, 102, 103, 104, 105, 106, 107, 108, 109, 110, 111, 112] rfl rfl
set_option maxRecDepth 20000 in
theorem gX3_walk_X1_canWalk : GoodIn wsX3_walk (wsV RX3 280 RX1 yX1_canWalk wsX1_canWalk) := goodIn_app (goodIn_of _ (by decide +kernel)) ggX3_walk_X1_canWalk
set_option maxRecDepth 20000 in
theorem ggX3_walk_X3_requireAllowed : GoodIn wsX3_walk wsX3_requireAllowed := goodIn_ca (goodIn_r _ [25, 26, 27] rfl rfl) (goodIn_sub (fun _ h => List.mem_cons_of_mem _ (List.mem_append_right _ h)) (by decide +kernel))
set_option maxRecDepth 20000 in
theorem gX3_walk_X3_requireAllowed : GoodIn wsX3_walk (va_wsS RX3 258 yX3_requireAllowed wsX3_requireAllowed) := goodIn_app (goodIn_of _ (by decide +kernel)) ggX3_walk_X3_requireAllowed
set_option maxRecDepth 20000 in
theorem ggX3_walk_X3_remember : GoodIn wsX3_walk wsX3_remember := goodIn_r _ [31, 32, 33, 1, 34, 35, 36, 4, 37, 38, 39, 40, 20, 41, 42, 43, 22, 44, 45, 46, 47, 48, 49, 50, 51, 52, 53, 54, 55, 56, 57, 58, 59, 60, 61, 62, 63, 64, 65, 66, 67, 68, 69, 70, 71, 72, 73, 74, 75, 76, 77, 78, 79, 91, 92, 93, 94, 95, 96, 97, 98, 99, 100, 101, 102, 103, 104, 105, 106, 107, 108, 109, 110, 111, 112, 113, 114, 115, 116, 117, 118, 119, 120, 121] rfl rfl
set_option maxRecDepth 20000 in
theorem gX3_walk_X3_remember : GoodIn wsX3_walk (wsV RX3 262 RX3 yX3_remember wsX3_remember) := goodIn_app (goodIn_of _ (by decide +kernel)) ggX3_walk_X3_remember
set_option maxRecDepth 20000 in
theorem ggX3_walk_X1_tryWalk : GoodIn wsX3_walk wsX1_tryWalk := goodIn_r _ [83, 22, 44, 45, 46, 84, 18, 19, 20, 21, 9, 4, 10, 15, 16, 98, 99, 100, 101, 102, 103, 104, 105, 106, 107, 108, 109, 110, 111, 112] rfl rfl
set_option maxRecDepth 20000 in
theorem gX3_walk_X1_tryWalk : GoodIn wsX3_walk (wsV RX3 133 RX1 yX1_tryWalk wsX1_tryWalk) := goodIn_app (goodIn_of _ (by decide +kernel)) ggX3_walk_X1_tryWalk
set_option maxRecDepth 20000 in
theorem ggX3_walk_X1_visitorsAt : GoodIn wsX3_walk wsX1_visitorsAt := goodIn_r _ [88, 22, 44, 89, 4, 90, 98, 99, 100, 101, 102, 103, 104, 105, 106, 107, 108, 109, 110, 111, 112] rfl rfl
set_option maxRecDepth 20000 in
theorem gX3_walk_X1_visitorsAt : GoodIn wsX3_walk (wsV RX3 283 RX1 yX1_visitorsAt wsX1_visitorsAt) := goodIn_app (goodIn_of _ (by decide +kernel)) ggX3_walk_X1_visitorsAt
theorem dX3_walk_0 : decode cX3_walk 0 = .ok (.iload_n 1, 1) := by decide +kernel
theorem dX3_walk_1 : decode cX3_walk 1 = .ok (.invokestatic 201, 3) := by decide +kernel
theorem dX3_walk_4 : decode cX3_walk 4 = .ok (.iload_n 2, 1) := by decide +kernel
theorem dX3_walk_5 : decode cX3_walk 5 = .ok (.invokestatic 221, 3) := by decide +kernel
theorem dX3_walk_8 : decode cX3_walk 8 = .ok (.aload_n 0, 1) := by decide +kernel
theorem dX3_walk_9 : decode cX3_walk 9 = .ok (.getfield 19, 3) := by decide +kernel
theorem dX3_walk_12 : decode cX3_walk 12 = .ok (.iload_n 1, 1) := by decide +kernel
theorem dX3_walk_13 : decode cX3_walk 13 = .ok (.iload_n 2, 1) := by decide +kernel
theorem dX3_walk_14 : decode cX3_walk 14 = .ok (.iload_n 3, 1) := by decide +kernel
theorem dX3_walk_15 : decode cX3_walk 15 = .ok (.invokevirtual 280, 3) := by decide +kernel
theorem dX3_walk_18 : decode cX3_walk 18 = .ok (.invokestatic 258, 3) := by decide +kernel
theorem dX3_walk_21 : decode cX3_walk 21 = .ok (.aload_n 0, 1) := by decide +kernel
theorem dX3_walk_22 : decode cX3_walk 22 = .ok (.invokevirtual 262, 3) := by decide +kernel
theorem dX3_walk_25 : decode cX3_walk 25 = .ok (.aload_n 0, 1) := by decide +kernel
theorem dX3_walk_26 : decode cX3_walk 26 = .ok (.getfield 19, 3) := by decide +kernel
theorem dX3_walk_29 : decode cX3_walk 29 = .ok (.iload_n 1, 1) := by decide +kernel
theorem dX3_walk_30 : decode cX3_walk 30 = .ok (.iload_n 2, 1) := by decide +kernel
theorem dX3_walk_31 : decode cX3_walk 31 = .ok (.iload_n 3, 1) := by decide +kernel
theorem dX3_walk_32 : decode cX3_walk 32 = .ok (.invokevirtual 133, 3) := by decide +kernel
theorem dX3_walk_35 : decode cX3_walk 35 = .ok (.pop, 1) := by decide +kernel
theorem dX3_walk_36 : decode cX3_walk 36 = .ok (.aload_n 0, 1) := by decide +kernel
theorem dX3_walk_37 : decode cX3_walk 37 = .ok (.getfield 19, 3) := by decide +kernel
theorem dX3_walk_40 : decode cX3_walk 40 = .ok (.iload_n 2, 1) := by decide +kernel
theorem dX3_walk_41 : decode cX3_walk 41 = .ok (.invokevirtual 283, 3) := by decide +kernel
theorem dX3_walk_44 : decode cX3_walk 44 = .ok (.ireturn, 1) := by decide +kernel
set_option maxRecDepth 20000 in
theorem ggX3_turn_X3_requireVisitor : GoodIn wsX3_turn wsX3_requireVisitor := goodIn_ca (goodIn_r _ [6, 7, 8, 9, 10, 5, 11] rfl rfl) (goodIn_sub (fun _ h => List.mem_cons_of_mem _ (List.mem_append_left _ (List.mem_append_right _ h))) (by decide +kernel))
set_option maxRecDepth 20000 in
theorem gX3_turn_X3_requireVisitor : GoodIn wsX3_turn (va_wsS RX3 201 yX3_requireVisitor wsX3_requireVisitor) := goodIn_app (goodIn_of _ (by decide +kernel)) ggX3_turn_X3_requireVisitor
set_option maxRecDepth 20000 in
theorem ggX3_turn_X1_canTurn : GoodIn wsX3_turn wsX1_canTurn := goodIn_r _ [16, 17, 10, 5, 11, 90, 91, 92, 93, 94, 95, 96, 97, 98, 99, 100, 101, 102, 103, 104] rfl rfl
set_option maxRecDepth 20000 in
theorem gX3_turn_X1_canTurn : GoodIn wsX3_turn (wsV RX3 286 RX1 yX1_canTurn wsX1_canTurn) := goodIn_app (goodIn_of _ (by decide +kernel)) ggX3_turn_X1_canTurn
set_option maxRecDepth 20000 in
theorem ggX3_turn_X3_requireAllowed : GoodIn wsX3_turn wsX3_requireAllowed := goodIn_ca (goodIn_r _ [20, 21, 22] rfl rfl) (goodIn_sub (fun _ h => List.mem_cons_of_mem _ (List.mem_append_right _ h)) (by decide +kernel))
set_option maxRecDepth 20000 in
theorem gX3_turn_X3_requireAllowed : GoodIn wsX3_turn (va_wsS RX3 258 yX3_requireAllowed wsX3_requireAllowed) := goodIn_app (goodIn_of _ (by decide +kernel)) ggX3_turn_X3_requireAllowed
set_option maxRecDepth 20000 in
theorem ggX3_turn_X3_remember : GoodIn wsX3_turn wsX3_remember := goodIn_r _ [26, 27, 28, 1, 29, 30, 31, 5, 32, 33, 34, 35, 15, 36, 37, 38, 17, 39, 40, 41, 42, 43, 44, 45, 46, 47, 48, 49, 50, 51, 52, 53, 54, 55, 56, 57, 58, 59, 60, 61, 62, 63, 64, 65, 66, 67, 68, 69, 70, 71, 72, 73, 74, 83, 84, 85, 86, 87, 88, 89, 90, 91, 92, 93, 94, 95, 96, 97, 98, 99, 100, 101, 102, 103, 104, 105, 106, 107, 108, 109, 110, 111, 112, 113] rfl rfl
set_option maxRecDepth 20000 in
theorem gX3_turn_X3_remember : GoodIn wsX3_turn (wsV RX3 262 RX3 yX3_remember wsX3_remember) := goodIn_app (goodIn_of _ (by decide +kernel)) ggX3_turn_X3_remember
set_option maxRecDepth 20000 in
theorem ggX3_turn_X1_tryTurn : GoodIn wsX3_turn wsX1_tryTurn := goodIn_r _ [78, 41, 79, 13, 14, 15, 16, 17, 10, 5, 11, 90, 91, 92, 93, 94, 95, 96, 97, 98, 99, 100, 101, 102, 103, 104] rfl rfl
set_option maxRecDepth 20000 in
theorem gX3_turn_X1_tryTurn : GoodIn wsX3_turn (wsV RX3 137 RX1 yX1_tryTurn wsX1_tryTurn) := goodIn_app (goodIn_of _ (by decide +kernel)) ggX3_turn_X1_tryTurn
set_option maxRecDepth 20000 in
theorem ggX3_turn_X3_oneIf : GoodIn wsX3_turn wsX3_oneIf := goodIn_r _ [82] rfl rfl
set_option maxRecDepth 20000 in
theorem gX3_turn_X3_oneIf : GoodIn wsX3_turn (va_wsS RX3 186 yX3_oneIf wsX3_oneIf) := goodIn_app (goodIn_of _ (by decide +kernel)) ggX3_turn_X3_oneIf
theorem dX3_turn_0 : decode cX3_turn 0 = .ok (.iload_n 1, 1) := by decide +kernel
theorem dX3_turn_1 : decode cX3_turn 1 = .ok (.invokestatic 201, 3) := by decide +kernel
theorem dX3_turn_4 : decode cX3_turn 4 = .ok (.aload_n 0, 1) := by decide +kernel
theorem dX3_turn_5 : decode cX3_turn 5 = .ok (.getfield 19, 3) := by decide +kernel
theorem dX3_turn_8 : decode cX3_turn 8 = .ok (.iload_n 1, 1) := by decide +kernel
theorem dX3_turn_9 : decode cX3_turn 9 = .ok (.invokevirtual 286, 3) := by decide +kernel
theorem dX3_turn_12 : decode cX3_turn 12 = .ok (.invokestatic 258, 3) := by decide +kernel
theorem dX3_turn_15 : decode cX3_turn 15 = .ok (.aload_n 0, 1) := by decide +kernel
theorem dX3_turn_16 : decode cX3_turn 16 = .ok (.invokevirtual 262, 3) := by decide +kernel
theorem dX3_turn_19 : decode cX3_turn 19 = .ok (.aload_n 0, 1) := by decide +kernel
theorem dX3_turn_20 : decode cX3_turn 20 = .ok (.getfield 19, 3) := by decide +kernel
theorem dX3_turn_23 : decode cX3_turn 23 = .ok (.iload_n 1, 1) := by decide +kernel
theorem dX3_turn_24 : decode cX3_turn 24 = .ok (.invokevirtual 137, 3) := by decide +kernel
theorem dX3_turn_27 : decode cX3_turn 27 = .ok (.pop, 1) := by decide +kernel
theorem dX3_turn_28 : decode cX3_turn 28 = .ok (.aload_n 0, 1) := by decide +kernel
theorem dX3_turn_29 : decode cX3_turn 29 = .ok (.getfield 19, 3) := by decide +kernel
theorem dX3_turn_32 : decode cX3_turn 32 = .ok (.getfield 213, 3) := by decide +kernel
theorem dX3_turn_35 : decode cX3_turn 35 = .ok (.iload_n 1, 1) := by decide +kernel
theorem dX3_turn_36 : decode cX3_turn 36 = .ok (.baload, 1) := by decide +kernel
theorem dX3_turn_37 : decode cX3_turn 37 = .ok (.invokestatic 186, 3) := by decide +kernel
theorem dX3_turn_40 : decode cX3_turn 40 = .ok (.ireturn, 1) := by decide +kernel
set_option maxRecDepth 20000 in
theorem ggX3_ticks_X3_isTickNumber : GoodIn wsX3_ticks wsX3_isTickNumber := goodIn_r _ [7] rfl rfl
set_option maxRecDepth 20000 in
theorem gX3_ticks_X3_isTickNumber : GoodIn wsX3_ticks (va_wsS RX3 289 yX3_isTickNumber wsX3_isTickNumber) := goodIn_app (goodIn_of _ (by decide +kernel)) ggX3_ticks_X3_isTickNumber
set_option maxRecDepth 20000 in
theorem ggX3_ticks_X3_remember : GoodIn wsX3_ticks wsX3_remember := goodIn_r _ [11, 12, 13, 3, 14, 15, 16, 6, 17, 18, 19, 20, 21, 22, 23, 24, 25, 26, 27, 28, 29, 30, 31, 32, 33, 34, 35, 36, 37, 38, 39, 40, 41, 42, 43, 44, 45, 46, 47, 48, 49, 50, 51, 52, 53, 54, 55, 56, 57, 58, 59, 60, 61, 136, 137, 138, 139, 140, 141, 142, 143, 144, 145, 146, 147, 148, 149, 150, 151, 152, 153, 154, 155, 156, 157, 158, 159, 160, 161, 162, 163, 164, 165, 166] rfl rfl
set_option maxRecDepth 20000 in
theorem gX3_ticks_X3_remember : GoodIn wsX3_ticks (wsV RX3 262 RX3 yX3_remember wsX3_remember) := goodIn_app (goodIn_of _ (by decide +kernel)) ggX3_ticks_X3_remember
set_option maxRecDepth 20000 in
theorem ggX3_ticks_X1_passTicks : GoodIn wsX3_ticks wsX1_passTicks := goodIn_r _ [65, 23, 66, 67, 68, 41, 69, 45, 70, 71, 72, 21, 73, 34, 25, 30, 74, 75, 76, 77, 27, 28, 24, 31, 78, 79, 80, 81, 35, 32, 36, 37, 82, 83, 84, 85, 86, 87, 88, 89, 90, 91, 92, 29, 93, 6, 94, 95, 96, 97, 98, 46, 47, 99, 100, 101, 102, 33, 103, 104, 105, 106, 107, 108, 109, 110, 111, 112, 56, 113, 26, 114, 115, 116, 117, 118, 119, 120, 121, 122, 123, 124, 44, 51, 125, 126, 127, 128, 129, 130, 131, 132, 133, 48, 49, 50, 134, 135, 143, 144, 145, 146, 147, 148, 149, 150, 151, 152, 153, 154, 155, 156, 157, 158, 159, 160, 161, 162, 163, 164, 165, 166] rfl rfl
set_option maxRecDepth 20000 in
theorem gX3_ticks_X1_passTicks : GoodIn wsX3_ticks (wsV RX3 143 RX1 yX1_passTicks wsX1_passTicks) := goodIn_app (goodIn_of _ (by decide +kernel)) ggX3_ticks_X1_passTicks
theorem dX3_ticks_0 : decode cX3_ticks 0 = .ok (.iload_n 1, 1) := by decide +kernel
theorem dX3_ticks_1 : decode cX3_ticks 1 = .ok (.invokestatic 289, 3) := by decide +kernel
theorem dX3_ticks_4 : decode cX3_ticks 4 = .ok (.ifCond .ne 14, 3) := by decide +kernel
theorem dX3_ticks_7 : decode cX3_ticks 7 = .ok (.new 41, 3) := by decide +kernel
theorem dX3_ticks_10 : decode cX3_ticks 10 = .ok (.dup, 1) := by decide +kernel
theorem dX3_ticks_11 : decode cX3_ticks 11 = .ok (.ldc_w 292, 3) := by decide +kernel
theorem dX3_ticks_14 : decode cX3_ticks 14 = .ok (.invokespecial 45, 3) := by decide +kernel
theorem dX3_ticks_17 : decode cX3_ticks 17 = .ok (.athrow, 1) := by decide +kernel
theorem dX3_ticks_18 : decode cX3_ticks 18 = .ok (.aload_n 0, 1) := by decide +kernel
theorem dX3_ticks_19 : decode cX3_ticks 19 = .ok (.invokevirtual 262, 3) := by decide +kernel
theorem dX3_ticks_22 : decode cX3_ticks 22 = .ok (.aload_n 0, 1) := by decide +kernel
theorem dX3_ticks_23 : decode cX3_ticks 23 = .ok (.getfield 19, 3) := by decide +kernel
theorem dX3_ticks_26 : decode cX3_ticks 26 = .ok (.iload_n 1, 1) := by decide +kernel
theorem dX3_ticks_27 : decode cX3_ticks 27 = .ok (.invokevirtual 143, 3) := by decide +kernel
theorem dX3_ticks_30 : decode cX3_ticks 30 = .ok (.ireturn, 1) := by decide +kernel
set_option maxRecDepth 20000 in
theorem ggX3_set_X3_isSetting : GoodIn wsX3_set wsX3_isSetting := goodIn_r _ [7, 8, 9, 6, 10] rfl rfl
set_option maxRecDepth 20000 in
theorem gX3_set_X3_isSetting : GoodIn wsX3_set (va_wsS RX3 294 yX3_isSetting wsX3_isSetting) := goodIn_app (goodIn_of _ (by decide +kernel)) ggX3_set_X3_isSetting
set_option maxRecDepth 20000 in
theorem ggX3_set_X3_remember : GoodIn wsX3_set wsX3_remember := goodIn_r _ [14, 15, 16, 3, 17, 18, 19, 6, 20, 21, 22, 23, 24, 25, 26, 27, 28, 29, 30, 31, 32, 33, 34, 35, 36, 37, 38, 39, 40, 41, 42, 43, 44, 45, 46, 47, 48, 49, 50, 51, 52, 53, 54, 55, 56, 57, 58, 59, 60, 61, 62, 63, 64, 71, 72, 73, 74, 75, 76, 77, 78, 79, 80, 81, 82, 83, 84, 85, 86, 87, 88, 89, 90, 91, 92, 93, 94, 95, 96, 97, 98, 99, 100, 101] rfl rfl
set_option maxRecDepth 20000 in
theorem gX3_set_X3_remember : GoodIn wsX3_set (wsV RX3 262 RX3 yX3_remember wsX3_remember) := goodIn_app (goodIn_of _ (by decide +kernel)) ggX3_set_X3_remember
set_option maxRecDepth 20000 in
theorem ggX3_set_X1_change : GoodIn wsX3_set wsX1_change := goodIn_r _ [68, 26, 69, 36, 70, 9, 6, 10, 78, 79, 80, 81, 82, 83, 84, 85, 86, 87, 88, 89, 90, 91, 92, 93, 94, 95, 96, 97, 98, 99, 100, 101] rfl rfl
set_option maxRecDepth 20000 in
theorem gX3_set_X1_change : GoodIn wsX3_set (wsV RX3 299 RX1 yX1_change wsX1_change) := goodIn_app (goodIn_of _ (by decide +kernel)) ggX3_set_X1_change
theorem dX3_set_0 : decode cX3_set 0 = .ok (.iload_n 1, 1) := by decide +kernel
theorem dX3_set_1 : decode cX3_set 1 = .ok (.iload_n 2, 1) := by decide +kernel
theorem dX3_set_2 : decode cX3_set 2 = .ok (.invokestatic 294, 3) := by decide +kernel
theorem dX3_set_5 : decode cX3_set 5 = .ok (.ifCond .ne 14, 3) := by decide +kernel
theorem dX3_set_8 : decode cX3_set 8 = .ok (.new 41, 3) := by decide +kernel
theorem dX3_set_11 : decode cX3_set 11 = .ok (.dup, 1) := by decide +kernel
theorem dX3_set_12 : decode cX3_set 12 = .ok (.ldc_w 297, 3) := by decide +kernel
theorem dX3_set_15 : decode cX3_set 15 = .ok (.invokespecial 45, 3) := by decide +kernel
theorem dX3_set_18 : decode cX3_set 18 = .ok (.athrow, 1) := by decide +kernel
theorem dX3_set_19 : decode cX3_set 19 = .ok (.aload_n 0, 1) := by decide +kernel
theorem dX3_set_20 : decode cX3_set 20 = .ok (.invokevirtual 262, 3) := by decide +kernel
theorem dX3_set_23 : decode cX3_set 23 = .ok (.aload_n 0, 1) := by decide +kernel
theorem dX3_set_24 : decode cX3_set 24 = .ok (.getfield 19, 3) := by decide +kernel
theorem dX3_set_27 : decode cX3_set 27 = .ok (.iload_n 1, 1) := by decide +kernel
theorem dX3_set_28 : decode cX3_set 28 = .ok (.iload_n 2, 1) := by decide +kernel
theorem dX3_set_29 : decode cX3_set 29 = .ok (.invokevirtual 299, 3) := by decide +kernel
theorem dX3_set_32 : decode cX3_set 32 = .ok (.ireturn, 1) := by decide +kernel
set_option maxRecDepth 20000 in
theorem ggX3_undo_X1_copyFrom : GoodIn wsX3_undo wsX1_copyFrom := goodIn_r _ [10, 11, 12, 13, 14, 15, 16, 17, 18, 19, 20, 21, 22, 23, 24, 25, 26, 27, 28, 29, 30, 31, 32, 33, 34, 35, 36, 37, 38, 39, 40, 41, 42, 43, 44, 45, 46, 47, 48, 49, 50, 58, 59, 60, 61, 62, 63, 64, 65, 66, 67, 68, 69, 70, 71, 72, 73, 74, 75, 76, 77, 78, 79, 80, 81] rfl rfl
set_option maxRecDepth 20000 in
theorem gX3_undo_X1_copyFrom : GoodIn wsX3_undo (wsV RX3 305 RX1 yX1_copyFrom wsX1_copyFrom) := goodIn_app (goodIn_of _ (by decide +kernel)) ggX3_undo_X1_copyFrom
theorem dX3_undo_0 : decode cX3_undo 0 = .ok (.aload_n 0, 1) := by decide +kernel
theorem dX3_undo_1 : decode cX3_undo 1 = .ok (.getfield 30, 3) := by decide +kernel
theorem dX3_undo_4 : decode cX3_undo 4 = .ok (.ifCond .gt 14, 3) := by decide +kernel
theorem dX3_undo_7 : decode cX3_undo 7 = .ok (.new 52, 3) := by decide +kernel
theorem dX3_undo_10 : decode cX3_undo 10 = .ok (.dup, 1) := by decide +kernel
theorem dX3_undo_11 : decode cX3_undo 11 = .ok (.ldc_w 303, 3) := by decide +kernel
theorem dX3_undo_14 : decode cX3_undo 14 = .ok (.invokespecial 56, 3) := by decide +kernel
theorem dX3_undo_17 : decode cX3_undo 17 = .ok (.athrow, 1) := by decide +kernel
theorem dX3_undo_18 : decode cX3_undo 18 = .ok (.aload_n 0, 1) := by decide +kernel
theorem dX3_undo_19 : decode cX3_undo 19 = .ok (.dup, 1) := by decide +kernel
theorem dX3_undo_20 : decode cX3_undo 20 = .ok (.getfield 30, 3) := by decide +kernel
theorem dX3_undo_23 : decode cX3_undo 23 = .ok (.iconst 1, 1) := by decide +kernel
theorem dX3_undo_24 : decode cX3_undo 24 = .ok (.isub, 1) := by decide +kernel
theorem dX3_undo_25 : decode cX3_undo 25 = .ok (.putfield 30, 3) := by decide +kernel
theorem dX3_undo_28 : decode cX3_undo 28 = .ok (.aload_n 0, 1) := by decide +kernel
theorem dX3_undo_29 : decode cX3_undo 29 = .ok (.getfield 19, 3) := by decide +kernel
theorem dX3_undo_32 : decode cX3_undo 32 = .ok (.aload_n 0, 1) := by decide +kernel
theorem dX3_undo_33 : decode cX3_undo 33 = .ok (.getfield 26, 3) := by decide +kernel
theorem dX3_undo_36 : decode cX3_undo 36 = .ok (.aload_n 0, 1) := by decide +kernel
theorem dX3_undo_37 : decode cX3_undo 37 = .ok (.getfield 30, 3) := by decide +kernel
theorem dX3_undo_40 : decode cX3_undo 40 = .ok (.aaload, 1) := by decide +kernel
theorem dX3_undo_41 : decode cX3_undo 41 = .ok (.invokevirtual 305, 3) := by decide +kernel
theorem dX3_undo_44 : decode cX3_undo 44 = .ok (.aload_n 0, 1) := by decide +kernel
theorem dX3_undo_45 : decode cX3_undo 45 = .ok (.getfield 30, 3) := by decide +kernel
theorem dX3_undo_48 : decode cX3_undo 48 = .ok (.ireturn, 1) := by decide +kernel
set_option maxRecDepth 20000 in
theorem ggX3_remember_X3_forgetOldest : GoodIn wsX3_remember wsX3_forgetOldest := goodIn_r _ [8, 2, 1, 53, 54, 55, 56, 57, 58, 59] rfl rfl
set_option maxRecDepth 20000 in
theorem gX3_remember_X3_forgetOldest : GoodIn wsX3_remember (wsV RX3 309 RX3 yX3_forgetOldest wsX3_forgetOldest) := goodIn_app (goodIn_of _ (by decide +kernel)) ggX3_remember_X3_forgetOldest
set_option maxRecDepth 20000 in
theorem ggX3_remember_X1_copyFrom : GoodIn wsX3_remember wsX1_copyFrom := goodIn_r _ [13, 14, 15, 16, 17, 18, 19, 20, 21, 22, 23, 24, 25, 26, 27, 28, 29, 30, 31, 32, 33, 34, 35, 36, 37, 38, 39, 40, 41, 42, 43, 7, 44, 45, 46, 47, 48, 49, 50, 51, 52, 60, 61, 62, 63, 64, 65, 66, 67, 68, 69, 70, 71, 72, 73, 74, 75, 76, 77, 78, 79, 80, 81, 82, 83] rfl rfl
set_option maxRecDepth 20000 in
theorem gX3_remember_X1_copyFrom : GoodIn wsX3_remember (wsV RX3 305 RX1 yX1_copyFrom wsX1_copyFrom) := goodIn_app (goodIn_of _ (by decide +kernel)) ggX3_remember_X1_copyFrom
theorem dX3_remember_0 : decode cX3_remember 0 = .ok (.aload_n 0, 1) := by decide +kernel
theorem dX3_remember_1 : decode cX3_remember 1 = .ok (.getfield 30, 3) := by decide +kernel
theorem dX3_remember_4 : decode cX3_remember 4 = .ok (.bipush 14, 2) := by decide +kernel
theorem dX3_remember_6 : decode cX3_remember 6 = .ok (.if_icmp .lt 7, 3) := by decide +kernel
theorem dX3_remember_9 : decode cX3_remember 9 = .ok (.aload_n 0, 1) := by decide +kernel
theorem dX3_remember_10 : decode cX3_remember 10 = .ok (.invokevirtual 309, 3) := by decide +kernel
theorem dX3_remember_13 : decode cX3_remember 13 = .ok (.aload_n 0, 1) := by decide +kernel
theorem dX3_remember_14 : decode cX3_remember 14 = .ok (.getfield 26, 3) := by decide +kernel
theorem dX3_remember_17 : decode cX3_remember 17 = .ok (.aload_n 0, 1) := by decide +kernel
theorem dX3_remember_18 : decode cX3_remember 18 = .ok (.getfield 30, 3) := by decide +kernel
theorem dX3_remember_21 : decode cX3_remember 21 = .ok (.aaload, 1) := by decide +kernel
theorem dX3_remember_22 : decode cX3_remember 22 = .ok (.aload_n 0, 1) := by decide +kernel
theorem dX3_remember_23 : decode cX3_remember 23 = .ok (.getfield 19, 3) := by decide +kernel
theorem dX3_remember_26 : decode cX3_remember 26 = .ok (.invokevirtual 305, 3) := by decide +kernel
theorem dX3_remember_29 : decode cX3_remember 29 = .ok (.aload_n 0, 1) := by decide +kernel
theorem dX3_remember_30 : decode cX3_remember 30 = .ok (.dup, 1) := by decide +kernel
theorem dX3_remember_31 : decode cX3_remember 31 = .ok (.getfield 30, 3) := by decide +kernel
theorem dX3_remember_34 : decode cX3_remember 34 = .ok (.iconst 1, 1) := by decide +kernel
theorem dX3_remember_35 : decode cX3_remember 35 = .ok (.iadd, 1) := by decide +kernel
theorem dX3_remember_36 : decode cX3_remember 36 = .ok (.putfield 30, 3) := by decide +kernel
theorem dX3_remember_39 : decode cX3_remember 39 = .ok (.return_, 1) := by decide +kernel
theorem dX3_forgetOldest_0 : decode cX3_forgetOldest 0 = .ok (.aload_n 0, 1) := by decide +kernel
theorem dX3_forgetOldest_1 : decode cX3_forgetOldest 1 = .ok (.getfield 26, 3) := by decide +kernel
theorem dX3_forgetOldest_4 : decode cX3_forgetOldest 4 = .ok (.iconst 0, 1) := by decide +kernel
theorem dX3_forgetOldest_5 : decode cX3_forgetOldest 5 = .ok (.aaload, 1) := by decide +kernel
theorem dX3_forgetOldest_6 : decode cX3_forgetOldest 6 = .ok (.astore_n 1, 1) := by decide +kernel
theorem dX3_forgetOldest_7 : decode cX3_forgetOldest 7 = .ok (.iconst 1, 1) := by decide +kernel
theorem dX3_forgetOldest_8 : decode cX3_forgetOldest 8 = .ok (.istore_n 2, 1) := by decide +kernel
theorem dX3_forgetOldest_9 : decode cX3_forgetOldest 9 = .ok (.iload_n 2, 1) := by decide +kernel
theorem dX3_forgetOldest_10 : decode cX3_forgetOldest 10 = .ok (.bipush 14, 2) := by decide +kernel
theorem dX3_forgetOldest_12 : decode cX3_forgetOldest 12 = .ok (.if_icmp .ge 23, 3) := by decide +kernel
theorem dX3_forgetOldest_15 : decode cX3_forgetOldest 15 = .ok (.aload_n 0, 1) := by decide +kernel
theorem dX3_forgetOldest_16 : decode cX3_forgetOldest 16 = .ok (.getfield 26, 3) := by decide +kernel
theorem dX3_forgetOldest_19 : decode cX3_forgetOldest 19 = .ok (.iload_n 2, 1) := by decide +kernel
theorem dX3_forgetOldest_20 : decode cX3_forgetOldest 20 = .ok (.iconst 1, 1) := by decide +kernel
theorem dX3_forgetOldest_21 : decode cX3_forgetOldest 21 = .ok (.isub, 1) := by decide +kernel
theorem dX3_forgetOldest_22 : decode cX3_forgetOldest 22 = .ok (.aload_n 0, 1) := by decide +kernel
theorem dX3_forgetOldest_23 : decode cX3_forgetOldest 23 = .ok (.getfield 26, 3) := by decide +kernel
theorem dX3_forgetOldest_26 : decode cX3_forgetOldest 26 = .ok (.iload_n 2, 1) := by decide +kernel
theorem dX3_forgetOldest_27 : decode cX3_forgetOldest 27 = .ok (.aaload, 1) := by decide +kernel
theorem dX3_forgetOldest_28 : decode cX3_forgetOldest 28 = .ok (.aastore, 1) := by decide +kernel
theorem dX3_forgetOldest_29 : decode cX3_forgetOldest 29 = .ok (.iinc 2 1, 3) := by decide +kernel
theorem dX3_forgetOldest_32 : decode cX3_forgetOldest 32 = .ok (.goto (-23), 3) := by decide +kernel
theorem dX3_forgetOldest_35 : decode cX3_forgetOldest 35 = .ok (.aload_n 0, 1) := by decide +kernel
theorem dX3_forgetOldest_36 : decode cX3_forgetOldest 36 = .ok (.getfield 26, 3) := by decide +kernel
theorem dX3_forgetOldest_39 : decode cX3_forgetOldest 39 = .ok (.bipush 13, 2) := by decide +kernel
theorem dX3_forgetOldest_41 : decode cX3_forgetOldest 41 = .ok (.aload_n 1, 1) := by decide +kernel
theorem dX3_forgetOldest_42 : decode cX3_forgetOldest 42 = .ok (.aastore, 1) := by decide +kernel
theorem dX3_forgetOldest_43 : decode cX3_forgetOldest 43 = .ok (.aload_n 0, 1) := by decide +kernel
theorem dX3_forgetOldest_44 : decode cX3_forgetOldest 44 = .ok (.bipush 13, 2) := by decide +kernel
theorem dX3_forgetOldest_46 : decode cX3_forgetOldest 46 = .ok (.putfield 30, 3) := by decide +kernel
theorem dX3_forgetOldest_49 : decode cX3_forgetOldest 49 = .ok (.return_, 1) := by decide +kernel
set_option maxRecDepth 20000 in
theorem ggX3_shouted_X3_requireBook : GoodIn wsX3_shouted wsX3_requireBook := goodIn_ca (goodIn_r _ [7, 8, 9, 10, 11, 6, 12] rfl rfl) (goodIn_sub (fun _ h => List.mem_cons_of_mem _ (List.mem_append_right _ h)) (by decide +kernel))
set_option maxRecDepth 20000 in
theorem gX3_shouted_X3_requireBook : GoodIn wsX3_shouted (va_wsS RX3 176 yX3_requireBook wsX3_requireBook) := goodIn_app (goodIn_of _ (by decide +kernel)) ggX3_shouted_X3_requireBook
set_option maxRecDepth 20000 in
theorem ggX3_shouted_X1_copyFrom : GoodIn wsX3_shouted wsX1_copyFrom := goodIn_r _ [17, 18, 19, 20, 21, 22, 23, 24, 25, 26, 27, 28, 29, 30, 31, 32, 33, 34, 35, 36, 37, 38, 39, 40, 41, 42, 43, 44, 45, 46, 47, 6, 48, 49, 50, 51, 52, 53, 54, 55, 56, 136, 137, 138, 139, 140, 141, 142, 143, 144, 145, 146, 147, 148, 149, 150, 151, 152, 153, 154, 155, 156, 157, 158, 159] rfl rfl
set_option maxRecDepth 20000 in
theorem gX3_shouted_X1_copyFrom : GoodIn wsX3_shouted (wsV RX3 305 RX1 yX1_copyFrom wsX1_copyFrom) := goodIn_app (goodIn_of _ (by decide +kernel)) ggX3_shouted_X1_copyFrom
set_option maxRecDepth 20000 in
theorem ggX3_shouted_X1_passTicks : GoodIn wsX3_shouted wsX1_passTicks := goodIn_r _ [60, 18, 61, 62, 63, 36, 64, 40, 65, 66, 67, 16, 68, 29, 20, 25, 69, 70, 71, 72, 22, 23, 19, 26, 73, 74, 75, 76, 30, 27, 31, 32, 77, 78, 79, 80, 81, 82, 83, 84, 85, 86, 87, 24, 88, 6, 89, 90, 91, 92, 93, 41, 42, 94, 95, 96, 97, 28, 98, 99, 100, 101, 102, 103, 104, 105, 106, 107, 51, 108, 21, 109, 110, 111, 112, 113, 114, 115, 116, 117, 118, 119, 39, 46, 120, 121, 122, 123, 124, 125, 126, 127, 128, 43, 44, 45, 11, 12, 136, 137, 138, 139, 140, 141, 142, 143, 144, 145, 146, 147, 148, 149, 150, 151, 152, 153, 154, 155, 156, 157, 158, 159] rfl rfl
set_option maxRecDepth 20000 in
theorem gX3_shouted_X1_passTicks : GoodIn wsX3_shouted (wsV RX3 143 RX1 yX1_passTicks wsX1_passTicks) := goodIn_app (goodIn_of _ (by decide +kernel)) ggX3_shouted_X1_passTicks
theorem dX3_shouted_0 : decode cX3_shouted 0 = .ok (.iload_n 1, 1) := by decide +kernel
theorem dX3_shouted_1 : decode cX3_shouted 1 = .ok (.invokestatic 176, 3) := by decide +kernel
theorem dX3_shouted_4 : decode cX3_shouted 4 = .ok (.aload_n 0, 1) := by decide +kernel
theorem dX3_shouted_5 : decode cX3_shouted 5 = .ok (.getfield 23, 3) := by decide +kernel
theorem dX3_shouted_8 : decode cX3_shouted 8 = .ok (.aload_n 0, 1) := by decide +kernel
theorem dX3_shouted_9 : decode cX3_shouted 9 = .ok (.getfield 19, 3) := by decide +kernel
theorem dX3_shouted_12 : decode cX3_shouted 12 = .ok (.invokevirtual 305, 3) := by decide +kernel
theorem dX3_shouted_15 : decode cX3_shouted 15 = .ok (.iconst 1, 1) := by decide +kernel
theorem dX3_shouted_16 : decode cX3_shouted 16 = .ok (.istore_n 2, 1) := by decide +kernel
theorem dX3_shouted_17 : decode cX3_shouted 17 = .ok (.iload_n 2, 1) := by decide +kernel
theorem dX3_shouted_18 : decode cX3_shouted 18 = .ok (.bipush 99, 2) := by decide +kernel
theorem dX3_shouted_20 : decode cX3_shouted 20 = .ok (.if_icmp .gt 41, 3) := by decide +kernel
theorem dX3_shouted_23 : decode cX3_shouted 23 = .ok (.aload_n 0, 1) := by decide +kernel
theorem dX3_shouted_24 : decode cX3_shouted 24 = .ok (.getfield 23, 3) := by decide +kernel
theorem dX3_shouted_27 : decode cX3_shouted 27 = .ok (.iconst 1, 1) := by decide +kernel
theorem dX3_shouted_28 : decode cX3_shouted 28 = .ok (.invokevirtual 143, 3) := by decide +kernel
theorem dX3_shouted_31 : decode cX3_shouted 31 = .ok (.pop, 1) := by decide +kernel
theorem dX3_shouted_32 : decode cX3_shouted 32 = .ok (.aload_n 0, 1) := by decide +kernel
theorem dX3_shouted_33 : decode cX3_shouted 33 = .ok (.getfield 23, 3) := by decide +kernel
theorem dX3_shouted_36 : decode cX3_shouted 36 = .ok (.getfield 196, 3) := by decide +kernel
theorem dX3_shouted_39 : decode cX3_shouted 39 = .ok (.iload_n 1, 1) := by decide +kernel
theorem dX3_shouted_40 : decode cX3_shouted 40 = .ok (.iaload, 1) := by decide +kernel
theorem dX3_shouted_41 : decode cX3_shouted 41 = .ok (.aload_n 0, 1) := by decide +kernel
theorem dX3_shouted_42 : decode cX3_shouted 42 = .ok (.getfield 19, 3) := by decide +kernel
theorem dX3_shouted_45 : decode cX3_shouted 45 = .ok (.getfield 196, 3) := by decide +kernel
theorem dX3_shouted_48 : decode cX3_shouted 48 = .ok (.iload_n 1, 1) := by decide +kernel
theorem dX3_shouted_49 : decode cX3_shouted 49 = .ok (.iaload, 1) := by decide +kernel
theorem dX3_shouted_50 : decode cX3_shouted 50 = .ok (.if_icmp .eq 5, 3) := by decide +kernel
theorem dX3_shouted_53 : decode cX3_shouted 53 = .ok (.iload_n 2, 1) := by decide +kernel
theorem dX3_shouted_54 : decode cX3_shouted 54 = .ok (.ireturn, 1) := by decide +kernel
theorem dX3_shouted_55 : decode cX3_shouted 55 = .ok (.iinc 2 1, 3) := by decide +kernel
theorem dX3_shouted_58 : decode cX3_shouted 58 = .ok (.goto (-41), 3) := by decide +kernel
theorem dX3_shouted_61 : decode cX3_shouted 61 = .ok (.bipush (-9), 2) := by decide +kernel
theorem dX3_shouted_63 : decode cX3_shouted 63 = .ok (.ireturn, 1) := by decide +kernel
set_option maxRecDepth 20000 in
theorem ggX3_slips_X1_copyFrom : GoodIn wsX3_slips wsX1_copyFrom := goodIn_r _ [7, 8, 9, 10, 11, 12, 13, 14, 15, 16, 17, 18, 19, 20, 21, 22, 23, 24, 25, 26, 27, 28, 29, 30, 31, 32, 33, 34, 35, 36, 37, 38, 39, 40, 41, 42, 43, 44, 45, 46, 47, 133, 134, 135, 136, 137, 138, 139, 140, 141, 142, 143, 144, 145, 146, 147, 148, 149, 150, 151, 152, 153, 154, 155, 156] rfl rfl
set_option maxRecDepth 20000 in
theorem gX3_slips_X1_copyFrom : GoodIn wsX3_slips (wsV RX3 305 RX1 yX1_copyFrom wsX1_copyFrom) := goodIn_app (goodIn_of _ (by decide +kernel)) ggX3_slips_X1_copyFrom
set_option maxRecDepth 20000 in
theorem ggX3_slips_X1_slipsOfCrossings : GoodIn wsX3_slips wsX1_slipsOfCrossings := goodIn_r _ [51, 22, 52, 53, 54, 6, 55, 8, 56, 57, 58, 26, 59, 30, 60, 61, 62, 63, 19, 10, 15, 64, 65, 66, 67, 12, 13, 9, 16, 68, 69, 70, 71, 20, 17, 21, 72, 73, 74, 75, 76, 77, 78, 79, 80, 81, 82, 14, 83, 38, 84, 85, 86, 87, 88, 31, 32, 89, 90, 91, 92, 18, 93, 94, 95, 96, 97, 98, 99, 100, 101, 102, 42, 103, 11, 104, 105, 106, 107, 108, 109, 110, 111, 112, 113, 114, 29, 36, 115, 116, 117, 118, 119, 120, 121, 122, 123, 33, 34, 35, 124, 125, 133, 134, 135, 136, 137, 138, 139, 140, 141, 142, 143, 144, 145, 146, 147, 148, 149, 150, 151, 152, 153, 154, 155, 156] rfl rfl
set_option maxRecDepth 20000 in
theorem gX3_slips_X1_slipsOfCrossings : GoodIn wsX3_slips (wsV RX3 312 RX1 yX1_slipsOfCrossings wsX1_slipsOfCrossings) := goodIn_app (goodIn_of _ (by decide +kernel)) ggX3_slips_X1_slipsOfCrossings
theorem dX3_slips_0 : decode cX3_slips 0 = .ok (.aload_n 0, 1) := by decide +kernel
theorem dX3_slips_1 : decode cX3_slips 1 = .ok (.getfield 23, 3) := by decide +kernel
theorem dX3_slips_4 : decode cX3_slips 4 = .ok (.aload_n 0, 1) := by decide +kernel
theorem dX3_slips_5 : decode cX3_slips 5 = .ok (.getfield 19, 3) := by decide +kernel
theorem dX3_slips_8 : decode cX3_slips 8 = .ok (.invokevirtual 305, 3) := by decide +kernel
theorem dX3_slips_11 : decode cX3_slips 11 = .ok (.aload_n 0, 1) := by decide +kernel
theorem dX3_slips_12 : decode cX3_slips 12 = .ok (.getfield 23, 3) := by decide +kernel
theorem dX3_slips_15 : decode cX3_slips 15 = .ok (.invokevirtual 312, 3) := by decide +kernel
theorem dX3_slips_18 : decode cX3_slips 18 = .ok (.ireturn, 1) := by decide +kernel
set_option maxRecDepth 20000 in
theorem ggX3_leastStrength_X3_requireGate : GoodIn wsX3_leastStrength wsX3_requireGate := goodIn_ca (goodIn_r _ [8, 9, 10, 11, 12, 7, 13] rfl rfl) (goodIn_sub (fun _ h => List.mem_cons_of_mem _ (List.mem_append_right _ h)) (by decide +kernel))
set_option maxRecDepth 20000 in
theorem gX3_leastStrength_X3_requireGate : GoodIn wsX3_leastStrength (va_wsS RX3 221 yX3_requireGate wsX3_requireGate) := goodIn_app (goodIn_of _ (by decide +kernel)) ggX3_leastStrength_X3_requireGate
set_option maxRecDepth 20000 in
theorem ggX3_leastStrength_X1_copyFrom : GoodIn wsX3_leastStrength wsX1_copyFrom := goodIn_r _ [18, 19, 20, 21, 22, 23, 24, 25, 26, 27, 28, 29, 30, 31, 32, 33, 34, 35, 36, 37, 38, 39, 40, 41, 42, 43, 44, 45, 46, 47, 48, 7, 49, 50, 51, 52, 53, 54, 55, 56, 57, 143, 144, 145, 146, 147, 148, 149, 150, 151, 152, 153, 154, 155, 156, 157, 158, 159, 160, 161, 162, 163, 164, 165, 166] rfl rfl
set_option maxRecDepth 20000 in
theorem gX3_leastStrength_X1_copyFrom : GoodIn wsX3_leastStrength (wsV RX3 305 RX1 yX1_copyFrom wsX1_copyFrom) := goodIn_app (goodIn_of _ (by decide +kernel)) ggX3_leastStrength_X1_copyFrom
set_option maxRecDepth 20000 in
theorem ggX3_leastStrength_X1_slipsOfCrossings : GoodIn wsX3_leastStrength wsX1_slipsOfCrossings := goodIn_r _ [61, 33, 62, 63, 64, 17, 65, 19, 66, 67, 68, 37, 69, 41, 70, 71, 72, 73, 30, 21, 26, 74, 75, 76, 77, 23, 24, 20, 27, 78, 79, 80, 81, 31, 28, 32, 82, 83, 84, 85, 86, 87, 88, 89, 90, 91, 92, 25, 93, 7, 94, 95, 96, 97, 98, 42, 43, 99, 100, 101, 102, 29, 103, 104, 105, 106, 107, 108, 109, 110, 111, 112, 52, 113, 22, 114, 115, 116, 117, 118, 119, 120, 121, 122, 123, 124, 40, 47, 125, 126, 127, 128, 129, 130, 131, 132, 133, 44, 45, 46, 134, 135, 143, 144, 145, 146, 147, 148, 149, 150, 151, 152, 153, 154, 155, 156, 157, 158, 159, 160, 161, 162, 163, 164, 165, 166] rfl rfl
set_option maxRecDepth 20000 in
theorem gX3_leastStrength_X1_slipsOfCrossings : GoodIn wsX3_leastStrength (wsV RX3 312 RX1 yX1_slipsOfCrossings wsX1_slipsOfCrossings) := goodIn_app (goodIn_of _ (by decide +kernel)) ggX3_leastStrength_X1_slipsOfCrossings
theorem dX3_leastStrength_0 : decode cX3_leastStrength 0 = .ok (.iload_n 1, 1) := by decide +kernel
theorem dX3_leastStrength_1 : decode cX3_leastStrength 1 = .ok (.invokestatic 221, 3) := by decide +kernel
theorem dX3_leastStrength_4 : decode cX3_leastStrength 4 = .ok (.iconst 0, 1) := by decide +kernel
theorem dX3_leastStrength_5 : decode cX3_leastStrength 5 = .ok (.istore_n 2, 1) := by decide +kernel
theorem dX3_leastStrength_6 : decode cX3_leastStrength 6 = .ok (.iload_n 2, 1) := by decide +kernel
theorem dX3_leastStrength_7 : decode cX3_leastStrength 7 = .ok (.bipush 15, 2) := by decide +kernel
theorem dX3_leastStrength_9 : decode cX3_leastStrength 9 = .ok (.if_icmp .gt 45, 3) := by decide +kernel
theorem dX3_leastStrength_12 : decode cX3_leastStrength 12 = .ok (.aload_n 0, 1) := by decide +kernel
theorem dX3_leastStrength_13 : decode cX3_leastStrength 13 = .ok (.getfield 23, 3) := by decide +kernel
theorem dX3_leastStrength_16 : decode cX3_leastStrength 16 = .ok (.aload_n 0, 1) := by decide +kernel
theorem dX3_leastStrength_17 : decode cX3_leastStrength 17 = .ok (.getfield 19, 3) := by decide +kernel
theorem dX3_leastStrength_20 : decode cX3_leastStrength 20 = .ok (.invokevirtual 305, 3) := by decide +kernel
theorem dX3_leastStrength_23 : decode cX3_leastStrength 23 = .ok (.aload_n 0, 1) := by decide +kernel
theorem dX3_leastStrength_24 : decode cX3_leastStrength 24 = .ok (.getfield 23, 3) := by decide +kernel
theorem dX3_leastStrength_27 : decode cX3_leastStrength 27 = .ok (.getfield 91, 3) := by decide +kernel
theorem dX3_leastStrength_30 : decode cX3_leastStrength 30 = .ok (.getfield 95, 3) := by decide +kernel
theorem dX3_leastStrength_33 : decode cX3_leastStrength 33 = .ok (.iload_n 1, 1) := by decide +kernel
theorem dX3_leastStrength_34 : decode cX3_leastStrength 34 = .ok (.iload_n 2, 1) := by decide +kernel
theorem dX3_leastStrength_35 : decode cX3_leastStrength 35 = .ok (.iastore, 1) := by decide +kernel
theorem dX3_leastStrength_36 : decode cX3_leastStrength 36 = .ok (.aload_n 0, 1) := by decide +kernel
theorem dX3_leastStrength_37 : decode cX3_leastStrength 37 = .ok (.getfield 23, 3) := by decide +kernel
theorem dX3_leastStrength_40 : decode cX3_leastStrength 40 = .ok (.invokevirtual 312, 3) := by decide +kernel
theorem dX3_leastStrength_43 : decode cX3_leastStrength 43 = .ok (.ifCond .ne 5, 3) := by decide +kernel
theorem dX3_leastStrength_46 : decode cX3_leastStrength 46 = .ok (.iload_n 2, 1) := by decide +kernel
theorem dX3_leastStrength_47 : decode cX3_leastStrength 47 = .ok (.ireturn, 1) := by decide +kernel
theorem dX3_leastStrength_48 : decode cX3_leastStrength 48 = .ok (.iinc 2 1, 3) := by decide +kernel
theorem dX3_leastStrength_51 : decode cX3_leastStrength 51 = .ok (.goto (-45), 3) := by decide +kernel
theorem dX3_leastStrength_54 : decode cX3_leastStrength 54 = .ok (.bipush (-9), 2) := by decide +kernel
theorem dX3_leastStrength_56 : decode cX3_leastStrength 56 = .ok (.ireturn, 1) := by decide +kernel
set_option maxRecDepth 20000 in
theorem ggX3_bestGate_X3_requireVisitor : GoodIn wsX3_bestGate wsX3_requireVisitor := goodIn_ca (goodIn_r _ [6, 7, 8, 9, 10, 5, 11] rfl rfl) (goodIn_sub (fun _ h => List.mem_cons_of_mem _ (List.mem_append_left _ (List.mem_append_right _ h))) (by decide +kernel))
set_option maxRecDepth 20000 in
theorem gX3_bestGate_X3_requireVisitor : GoodIn wsX3_bestGate (va_wsS RX3 201 yX3_requireVisitor wsX3_requireVisitor) := goodIn_app (goodIn_of _ (by decide +kernel)) ggX3_bestGate_X3_requireVisitor
set_option maxRecDepth 20000 in
theorem ggX3_bestGate_X3_requireAllowed : GoodIn wsX3_bestGate wsX3_requireAllowed := goodIn_ca (goodIn_r _ [14, 15, 16] rfl rfl) (goodIn_sub (fun _ h => List.mem_cons_of_mem _ (List.mem_append_right _ h)) (by decide +kernel))
set_option maxRecDepth 20000 in
theorem gX3_bestGate_X3_requireAllowed : GoodIn wsX3_bestGate (va_wsS RX3 258 yX3_requireAllowed wsX3_requireAllowed) := goodIn_app (goodIn_of _ (by decide +kernel)) ggX3_bestGate_X3_requireAllowed
set_option maxRecDepth 20000 in
theorem ggX3_bestGate_X3_shoutsAfterWalk : GoodIn wsX3_bestGate wsX3_shoutsAfterWalk := goodIn_r _ [20, 21, 1, 22, 23, 24, 25, 26, 27, 28, 29, 30, 31, 32, 33, 34, 35, 36, 37, 38, 39, 40, 41, 42, 43, 44, 45, 46, 47, 48, 49, 50, 51, 52, 53, 54, 55, 56, 5, 57, 58, 59, 60, 61, 62, 63, 64, 65, 66, 67, 68, 69, 70, 71, 72, 73, 10, 11, 74, 75, 76, 77, 78, 79, 80, 81, 82, 83, 84, 85, 86, 87, 88, 89, 90, 91, 92, 93, 94, 95, 96, 97, 98, 99, 100, 101, 102, 103, 104, 105, 106, 107, 108, 109, 110, 111, 112, 113, 114, 115, 116, 117, 118, 119, 120, 121, 122, 123, 124, 125, 126, 127, 128, 129, 130, 131, 132, 133, 134, 135, 136, 137, 138, 139, 140, 141, 142, 143, 144, 145, 146, 147, 148, 149, 150, 151, 152, 153, 154, 155, 156, 157, 158, 159, 160, 161, 162, 163, 164, 165, 166, 167, 168, 169, 170, 171, 172, 173, 174, 175, 176, 177, 178, 179, 180] rfl rfl
set_option maxRecDepth 20000 in
theorem gX3_bestGate_X3_shoutsAfterWalk : GoodIn wsX3_bestGate (wsV RX3 315 RX3 yX3_shoutsAfterWalk wsX3_shoutsAfterWalk) := goodIn_app (goodIn_of _ (by decide +kernel)) ggX3_bestGate_X3_shoutsAfterWalk
theorem dX3_bestGate_0 : decode cX3_bestGate 0 = .ok (.iload_n 1, 1) := by decide +kernel
theorem dX3_bestGate_1 : decode cX3_bestGate 1 = .ok (.invokestatic 201, 3) := by decide +kernel
theorem dX3_bestGate_4 : decode cX3_bestGate 4 = .ok (.aload_n 0, 1) := by decide +kernel
theorem dX3_bestGate_5 : decode cX3_bestGate 5 = .ok (.getfield 19, 3) := by decide +kernel
theorem dX3_bestGate_8 : decode cX3_bestGate 8 = .ok (.getfield 204, 3) := by decide +kernel
theorem dX3_bestGate_11 : decode cX3_bestGate 11 = .ok (.iload_n 1, 1) := by decide +kernel
theorem dX3_bestGate_12 : decode cX3_bestGate 12 = .ok (.iaload, 1) := by decide +kernel
theorem dX3_bestGate_13 : decode cX3_bestGate 13 = .ok (.ifCond .ne 7, 3) := by decide +kernel
theorem dX3_bestGate_16 : decode cX3_bestGate 16 = .ok (.iconst 1, 1) := by decide +kernel
theorem dX3_bestGate_17 : decode cX3_bestGate 17 = .ok (.goto 4, 3) := by decide +kernel
theorem dX3_bestGate_20 : decode cX3_bestGate 20 = .ok (.iconst 0, 1) := by decide +kernel
theorem dX3_bestGate_21 : decode cX3_bestGate 21 = .ok (.invokestatic 258, 3) := by decide +kernel
theorem dX3_bestGate_24 : decode cX3_bestGate 24 = .ok (.iconst 0, 1) := by decide +kernel
theorem dX3_bestGate_25 : decode cX3_bestGate 25 = .ok (.istore_n 2, 1) := by decide +kernel
theorem dX3_bestGate_26 : decode cX3_bestGate 26 = .ok (.aload_n 0, 1) := by decide +kernel
theorem dX3_bestGate_27 : decode cX3_bestGate 27 = .ok (.iload_n 1, 1) := by decide +kernel
theorem dX3_bestGate_28 : decode cX3_bestGate 28 = .ok (.iconst 0, 1) := by decide +kernel
theorem dX3_bestGate_29 : decode cX3_bestGate 29 = .ok (.invokevirtual 315, 3) := by decide +kernel
theorem dX3_bestGate_32 : decode cX3_bestGate 32 = .ok (.istore_n 3, 1) := by decide +kernel
theorem dX3_bestGate_33 : decode cX3_bestGate 33 = .ok (.iconst 1, 1) := by decide +kernel
theorem dX3_bestGate_34 : decode cX3_bestGate 34 = .ok (.istore 4, 2) := by decide +kernel
theorem dX3_bestGate_36 : decode cX3_bestGate 36 = .ok (.iload 4, 2) := by decide +kernel
theorem dX3_bestGate_38 : decode cX3_bestGate 38 = .ok (.iconst 3, 1) := by decide +kernel
theorem dX3_bestGate_39 : decode cX3_bestGate 39 = .ok (.if_icmp .ge 30, 3) := by decide +kernel
theorem dX3_bestGate_42 : decode cX3_bestGate 42 = .ok (.aload_n 0, 1) := by decide +kernel
theorem dX3_bestGate_43 : decode cX3_bestGate 43 = .ok (.iload_n 1, 1) := by decide +kernel
theorem dX3_bestGate_44 : decode cX3_bestGate 44 = .ok (.iload 4, 2) := by decide +kernel
theorem dX3_bestGate_46 : decode cX3_bestGate 46 = .ok (.invokevirtual 315, 3) := by decide +kernel
theorem dX3_bestGate_49 : decode cX3_bestGate 49 = .ok (.istore 5, 2) := by decide +kernel
theorem dX3_bestGate_51 : decode cX3_bestGate 51 = .ok (.iload 5, 2) := by decide +kernel
theorem dX3_bestGate_53 : decode cX3_bestGate 53 = .ok (.iload_n 3, 1) := by decide +kernel
theorem dX3_bestGate_54 : decode cX3_bestGate 54 = .ok (.if_icmp .ge 9, 3) := by decide +kernel
theorem dX3_bestGate_57 : decode cX3_bestGate 57 = .ok (.iload 4, 2) := by decide +kernel
theorem dX3_bestGate_59 : decode cX3_bestGate 59 = .ok (.istore_n 2, 1) := by decide +kernel
theorem dX3_bestGate_60 : decode cX3_bestGate 60 = .ok (.iload 5, 2) := by decide +kernel
theorem dX3_bestGate_62 : decode cX3_bestGate 62 = .ok (.istore_n 3, 1) := by decide +kernel
theorem dX3_bestGate_63 : decode cX3_bestGate 63 = .ok (.iinc 4 1, 3) := by decide +kernel
theorem dX3_bestGate_66 : decode cX3_bestGate 66 = .ok (.goto (-30), 3) := by decide +kernel
theorem dX3_bestGate_69 : decode cX3_bestGate 69 = .ok (.iload_n 2, 1) := by decide +kernel
theorem dX3_bestGate_70 : decode cX3_bestGate 70 = .ok (.ireturn, 1) := by decide +kernel
set_option maxRecDepth 20000 in
theorem ggX3_shoutsAfterWalk_X1_copyFrom : GoodIn wsX3_shoutsAfterWalk wsX1_copyFrom := goodIn_r _ [7, 8, 9, 10, 11, 12, 13, 14, 15, 16, 17, 18, 19, 20, 21, 22, 23, 24, 25, 26, 27, 28, 29, 30, 31, 32, 33, 34, 35, 36, 37, 38, 39, 40, 41, 42, 43, 44, 45, 46, 47, 141, 142, 143, 144, 145, 146, 147, 148, 149, 150, 151, 152, 153, 154, 155, 156, 157, 158, 159, 160, 161, 162, 163, 164] rfl rfl
set_option maxRecDepth 20000 in
theorem gX3_shoutsAfterWalk_X1_copyFrom : GoodIn wsX3_shoutsAfterWalk (wsV RX3 305 RX1 yX1_copyFrom wsX1_copyFrom) := goodIn_app (goodIn_of _ (by decide +kernel)) ggX3_shoutsAfterWalk_X1_copyFrom
set_option maxRecDepth 20000 in
theorem ggX3_shoutsAfterWalk_X1_tryWalk : GoodIn wsX3_shoutsAfterWalk wsX1_tryWalk := goodIn_r _ [51, 10, 11, 12, 13, 52, 53, 54, 6, 55, 56, 38, 57, 58, 59, 141, 142, 143, 144, 145, 146, 147, 148, 149, 150, 151, 152, 153, 154, 155] rfl rfl
set_option maxRecDepth 20000 in
theorem gX3_shoutsAfterWalk_X1_tryWalk : GoodIn wsX3_shoutsAfterWalk (wsV RX3 133 RX1 yX1_tryWalk wsX1_tryWalk) := goodIn_app (goodIn_of _ (by decide +kernel)) ggX3_shoutsAfterWalk_X1_tryWalk
set_option maxRecDepth 20000 in
theorem ggX3_shoutsAfterWalk_X1_passTicks : GoodIn wsX3_shoutsAfterWalk wsX1_passTicks := goodIn_r _ [63, 8, 64, 65, 66, 26, 67, 30, 68, 69, 70, 6, 71, 19, 10, 15, 72, 73, 74, 75, 12, 13, 9, 16, 76, 77, 78, 79, 20, 17, 21, 22, 80, 81, 82, 83, 84, 85, 86, 87, 88, 89, 90, 14, 91, 38, 92, 93, 94, 95, 96, 31, 32, 97, 98, 99, 100, 18, 101, 102, 103, 104, 105, 106, 107, 108, 109, 110, 42, 111, 11, 112, 113, 114, 115, 116, 117, 118, 119, 120, 121, 122, 29, 36, 123, 124, 125, 126, 127, 128, 129, 130, 131, 33, 34, 35, 132, 133, 141, 142, 143, 144, 145, 146, 147, 148, 149, 150, 151, 152, 153, 154, 155, 156, 157, 158, 159, 160, 161, 162, 163, 164] rfl rfl
set_option maxRecDepth 20000 in
theorem gX3_shoutsAfterWalk_X1_passTicks : GoodIn wsX3_shoutsAfterWalk (wsV RX3 143 RX1 yX1_passTicks wsX1_passTicks) := goodIn_app (goodIn_of _ (by decide +kernel)) ggX3_shoutsAfterWalk_X1_passTicks
theorem dX3_shoutsAfterWalk_0 : decode cX3_shoutsAfterWalk 0 = .ok (.aload_n 0, 1) := by decide +kernel
theorem dX3_shoutsAfterWalk_1 : decode cX3_shoutsAfterWalk 1 = .ok (.getfield 23, 3) := by decide +kernel
theorem dX3_shoutsAfterWalk_4 : decode cX3_shoutsAfterWalk 4 = .ok (.aload_n 0, 1) := by decide +kernel
theorem dX3_shoutsAfterWalk_5 : decode cX3_shoutsAfterWalk 5 = .ok (.getfield 19, 3) := by decide +kernel
theorem dX3_shoutsAfterWalk_8 : decode cX3_shoutsAfterWalk 8 = .ok (.invokevirtual 305, 3) := by decide +kernel
theorem dX3_shoutsAfterWalk_11 : decode cX3_shoutsAfterWalk 11 = .ok (.aload_n 0, 1) := by decide +kernel
theorem dX3_shoutsAfterWalk_12 : decode cX3_shoutsAfterWalk 12 = .ok (.getfield 23, 3) := by decide +kernel
theorem dX3_shoutsAfterWalk_15 : decode cX3_shoutsAfterWalk 15 = .ok (.iload_n 1, 1) := by decide +kernel
theorem dX3_shoutsAfterWalk_16 : decode cX3_shoutsAfterWalk 16 = .ok (.iload_n 2, 1) := by decide +kernel
theorem dX3_shoutsAfterWalk_17 : decode cX3_shoutsAfterWalk 17 = .ok (.iconst 1, 1) := by decide +kernel
theorem dX3_shoutsAfterWalk_18 : decode cX3_shoutsAfterWalk 18 = .ok (.invokevirtual 133, 3) := by decide +kernel
theorem dX3_shoutsAfterWalk_21 : decode cX3_shoutsAfterWalk 21 = .ok (.pop, 1) := by decide +kernel
theorem dX3_shoutsAfterWalk_22 : decode cX3_shoutsAfterWalk 22 = .ok (.aload_n 0, 1) := by decide +kernel
theorem dX3_shoutsAfterWalk_23 : decode cX3_shoutsAfterWalk 23 = .ok (.getfield 23, 3) := by decide +kernel
theorem dX3_shoutsAfterWalk_26 : decode cX3_shoutsAfterWalk 26 = .ok (.bipush 99, 2) := by decide +kernel
theorem dX3_shoutsAfterWalk_28 : decode cX3_shoutsAfterWalk 28 = .ok (.invokevirtual 143, 3) := by decide +kernel
theorem dX3_shoutsAfterWalk_31 : decode cX3_shoutsAfterWalk 31 = .ok (.ireturn, 1) := by decide +kernel
set_option maxRecDepth 20000 in
theorem ggX3_runScript_X3_withoutLastGroups : GoodIn wsX3_runScript wsX3_withoutLastGroups := goodIn_r _ [9, 5] rfl rfl
set_option maxRecDepth 20000 in
theorem gX3_runScript_X3_withoutLastGroups : GoodIn wsX3_runScript (va_wsS RX3 318 yX3_withoutLastGroups wsX3_withoutLastGroups) := goodIn_app (goodIn_of _ (by decide +kernel)) ggX3_runScript_X3_withoutLastGroups
set_option maxRecDepth 20000 in
theorem ggX3_runScript_X1_copyFrom : GoodIn wsX3_runScript wsX1_copyFrom := goodIn_r _ [14, 15, 16, 17, 18, 19, 20, 21, 22, 23, 24, 25, 26, 27, 28, 29, 30, 31, 32, 33, 34, 35, 36, 37, 38, 39, 40, 41, 42, 43, 44, 8, 45, 46, 47, 48, 49, 50, 51, 52, 53, 217, 218, 219, 220, 221, 222, 223, 224, 225, 226, 227, 228, 229, 230, 231, 232, 233, 234, 235, 236, 237, 238, 239, 240] rfl rfl
set_option maxRecDepth 20000 in
theorem gX3_runScript_X1_copyFrom : GoodIn wsX3_runScript (wsV RX3 305 RX1 yX1_copyFrom wsX1_copyFrom) := goodIn_app (goodIn_of _ (by decide +kernel)) ggX3_runScript_X1_copyFrom
set_option maxRecDepth 20000 in
theorem ggX3_runScript_X3_doScriptCommand : GoodIn wsX3_runScript wsX3_doScriptCommand := goodIn_r _ [57, 3, 58, 59, 60, 61, 62, 63, 64, 13, 65, 16, 66, 67, 68, 69, 17, 70, 8, 71, 72, 73, 74, 75, 76, 77, 78, 79, 80, 81, 82, 83, 84, 85, 86, 87, 88, 89, 90, 91, 92, 93, 94, 95, 96, 97, 98, 99, 100, 101, 102, 103, 104, 105, 106, 107, 108, 23, 109, 110, 111, 112, 113, 114, 115, 116, 117, 118, 119, 120, 121, 122, 123, 124, 18, 19, 20, 125, 126, 127, 128, 129, 130, 131, 132, 133, 134, 135, 136, 137, 138, 139, 140, 141, 142, 143, 144, 145, 15, 146, 147, 148, 33, 149, 37, 150, 151, 152, 153, 26, 22, 154, 155, 156, 157, 158, 159, 160, 161, 27, 24, 28, 29, 162, 163, 164, 165, 21, 166, 167, 168, 169, 38, 39, 170, 171, 172, 173, 25, 174, 175, 176, 177, 178, 179, 180, 181, 182, 183, 48, 184, 185, 186, 187, 188, 189, 190, 191, 192, 193, 36, 43, 194, 195, 196, 197, 198, 199, 200, 201, 202, 40, 41, 42, 203, 204, 205, 206, 207, 208, 209, 210, 211, 212, 213, 214, 215, 216, 217, 218, 219, 220, 221, 222, 223, 224, 225, 226, 227, 228, 229, 230, 231, 232, 233, 234, 235, 236, 237, 238, 239, 240] rfl rfl
set_option maxRecDepth 20000 in
theorem gX3_runScript_X3_doScriptCommand : GoodIn wsX3_runScript (wsV RX3 326 RX3 yX3_doScriptCommand wsX3_doScriptCommand) := goodIn_app (goodIn_of _ (by decide +kernel)) ggX3_runScript_X3_doScriptCommand
theorem dX3_runScript_0 : decode cX3_runScript 0 = .ok (.iload_n 1, 1) := by decide +kernel
theorem dX3_runScript_1 : decode cX3_runScript 1 = .ok (.iconst 1, 1) := by decide +kernel
theorem dX3_runScript_2 : decode cX3_runScript 2 = .ok (.if_icmp .lt 24, 3) := by decide +kernel
theorem dX3_runScript_5 : decode cX3_runScript 5 = .ok (.iload_n 1, 1) := by decide +kernel
theorem dX3_runScript_6 : decode cX3_runScript 6 = .ok (.iconst 3, 1) := by decide +kernel
theorem dX3_runScript_7 : decode cX3_runScript 7 = .ok (.if_icmp .gt 19, 3) := by decide +kernel
theorem dX3_runScript_10 : decode cX3_runScript 10 = .ok (.lload_n 2, 1) := by decide +kernel
theorem dX3_runScript_11 : decode cX3_runScript 11 = .ok (.lconst 0, 1) := by decide +kernel
theorem dX3_runScript_12 : decode cX3_runScript 12 = .ok (.lcmp, 1) := by decide +kernel
theorem dX3_runScript_13 : decode cX3_runScript 13 = .ok (.ifCond .lt 13, 3) := by decide +kernel
theorem dX3_runScript_16 : decode cX3_runScript 16 = .ok (.lload_n 2, 1) := by decide +kernel
theorem dX3_runScript_17 : decode cX3_runScript 17 = .ok (.iload_n 1, 1) := by decide +kernel
theorem dX3_runScript_18 : decode cX3_runScript 18 = .ok (.invokestatic 318, 3) := by decide +kernel
theorem dX3_runScript_21 : decode cX3_runScript 21 = .ok (.lconst 0, 1) := by decide +kernel
theorem dX3_runScript_22 : decode cX3_runScript 22 = .ok (.lcmp, 1) := by decide +kernel
theorem dX3_runScript_23 : decode cX3_runScript 23 = .ok (.ifCond .eq 14, 3) := by decide +kernel
theorem dX3_runScript_26 : decode cX3_runScript 26 = .ok (.new 41, 3) := by decide +kernel
theorem dX3_runScript_29 : decode cX3_runScript 29 = .ok (.dup, 1) := by decide +kernel
theorem dX3_runScript_30 : decode cX3_runScript 30 = .ok (.ldc_w 322, 3) := by decide +kernel
theorem dX3_runScript_33 : decode cX3_runScript 33 = .ok (.invokespecial 45, 3) := by decide +kernel
theorem dX3_runScript_36 : decode cX3_runScript 36 = .ok (.athrow, 1) := by decide +kernel
theorem dX3_runScript_37 : decode cX3_runScript 37 = .ok (.aload_n 0, 1) := by decide +kernel
theorem dX3_runScript_38 : decode cX3_runScript 38 = .ok (.getfield 23, 3) := by decide +kernel
theorem dX3_runScript_41 : decode cX3_runScript 41 = .ok (.aload_n 0, 1) := by decide +kernel
theorem dX3_runScript_42 : decode cX3_runScript 42 = .ok (.getfield 19, 3) := by decide +kernel
theorem dX3_runScript_45 : decode cX3_runScript 45 = .ok (.invokevirtual 305, 3) := by decide +kernel
theorem dX3_runScript_48 : decode cX3_runScript 48 = .ok (.iconst 0, 1) := by decide +kernel
theorem dX3_runScript_49 : decode cX3_runScript 49 = .ok (.istore 4, 2) := by decide +kernel
theorem dX3_runScript_51 : decode cX3_runScript 51 = .ok (.iload 4, 2) := by decide +kernel
theorem dX3_runScript_53 : decode cX3_runScript 53 = .ok (.iload_n 1, 1) := by decide +kernel
theorem dX3_runScript_54 : decode cX3_runScript 54 = .ok (.if_icmp .ge 38, 3) := by decide +kernel
theorem dX3_runScript_57 : decode cX3_runScript 57 = .ok (.lload_n 2, 1) := by decide +kernel
theorem dX3_runScript_58 : decode cX3_runScript 58 = .ok (.iload_n 1, 1) := by decide +kernel
theorem dX3_runScript_59 : decode cX3_runScript 59 = .ok (.iconst 1, 1) := by decide +kernel
theorem dX3_runScript_60 : decode cX3_runScript 60 = .ok (.isub, 1) := by decide +kernel
theorem dX3_runScript_61 : decode cX3_runScript 61 = .ok (.iload 4, 2) := by decide +kernel
theorem dX3_runScript_63 : decode cX3_runScript 63 = .ok (.isub, 1) := by decide +kernel
theorem dX3_runScript_64 : decode cX3_runScript 64 = .ok (.invokestatic 318, 3) := by decide +kernel
theorem dX3_runScript_67 : decode cX3_runScript 67 = .ok (.ldc2_w 324, 3) := by decide +kernel
theorem dX3_runScript_70 : decode cX3_runScript 70 = .ok (.lrem, 1) := by decide +kernel
theorem dX3_runScript_71 : decode cX3_runScript 71 = .ok (.l2i, 1) := by decide +kernel
theorem dX3_runScript_72 : decode cX3_runScript 72 = .ok (.istore 5, 2) := by decide +kernel
theorem dX3_runScript_74 : decode cX3_runScript 74 = .ok (.aload_n 0, 1) := by decide +kernel
theorem dX3_runScript_75 : decode cX3_runScript 75 = .ok (.iload 5, 2) := by decide +kernel
theorem dX3_runScript_77 : decode cX3_runScript 77 = .ok (.invokevirtual 326, 3) := by decide +kernel
theorem dX3_runScript_80 : decode cX3_runScript 80 = .ok (.ifCond .ne 6, 3) := by decide +kernel
theorem dX3_runScript_83 : decode cX3_runScript 83 = .ok (.iload 4, 2) := by decide +kernel
theorem dX3_runScript_85 : decode cX3_runScript 85 = .ok (.ireturn, 1) := by decide +kernel
theorem dX3_runScript_86 : decode cX3_runScript 86 = .ok (.iinc 4 1, 3) := by decide +kernel
theorem dX3_runScript_89 : decode cX3_runScript 89 = .ok (.goto (-38), 3) := by decide +kernel
theorem dX3_runScript_92 : decode cX3_runScript 92 = .ok (.bipush (-9), 2) := by decide +kernel
theorem dX3_runScript_94 : decode cX3_runScript 94 = .ok (.ireturn, 1) := by decide +kernel
theorem dX3_withoutLastGroups_0 : decode cX3_withoutLastGroups 0 = .ok (.lload_n 0, 1) := by decide +kernel
theorem dX3_withoutLastGroups_1 : decode cX3_withoutLastGroups 1 = .ok (.lstore_n 3, 1) := by decide +kernel
theorem dX3_withoutLastGroups_2 : decode cX3_withoutLastGroups 2 = .ok (.iconst 0, 1) := by decide +kernel
theorem dX3_withoutLastGroups_3 : decode cX3_withoutLastGroups 3 = .ok (.istore 5, 2) := by decide +kernel
theorem dX3_withoutLastGroups_5 : decode cX3_withoutLastGroups 5 = .ok (.iload 5, 2) := by decide +kernel
theorem dX3_withoutLastGroups_7 : decode cX3_withoutLastGroups 7 = .ok (.iload_n 2, 1) := by decide +kernel
theorem dX3_withoutLastGroups_8 : decode cX3_withoutLastGroups 8 = .ok (.if_icmp .ge 15, 3) := by decide +kernel
theorem dX3_withoutLastGroups_11 : decode cX3_withoutLastGroups 11 = .ok (.lload_n 3, 1) := by decide +kernel
theorem dX3_withoutLastGroups_12 : decode cX3_withoutLastGroups 12 = .ok (.ldc2_w 324, 3) := by decide +kernel
theorem dX3_withoutLastGroups_15 : decode cX3_withoutLastGroups 15 = .ok (.ldiv, 1) := by decide +kernel
theorem dX3_withoutLastGroups_16 : decode cX3_withoutLastGroups 16 = .ok (.lstore_n 3, 1) := by decide +kernel
theorem dX3_withoutLastGroups_17 : decode cX3_withoutLastGroups 17 = .ok (.iinc 5 1, 3) := by decide +kernel
theorem dX3_withoutLastGroups_20 : decode cX3_withoutLastGroups 20 = .ok (.goto (-15), 3) := by decide +kernel
theorem dX3_withoutLastGroups_23 : decode cX3_withoutLastGroups 23 = .ok (.lload_n 3, 1) := by decide +kernel
theorem dX3_withoutLastGroups_24 : decode cX3_withoutLastGroups 24 = .ok (.lreturn, 1) := by decide +kernel
set_option maxRecDepth 20000 in
theorem ggX3_doScriptCommand_X1_tryTake : GoodIn wsX3_doScriptCommand wsX1_tryTake := goodIn_r _ [10, 11, 12, 13, 14, 9, 15, 16, 17, 18, 19, 20, 21, 22, 23, 24, 25, 26, 27, 28, 29, 30, 31, 32, 33, 34, 35, 36, 188, 189, 190, 191, 192, 193, 194, 195, 196, 197, 198, 199, 200, 201, 202] rfl rfl
set_option maxRecDepth 20000 in
theorem gX3_doScriptCommand_X1_tryTake : GoodIn wsX3_doScriptCommand (wsV RX3 119 RX1 yX1_tryTake wsX1_tryTake) := goodIn_app (goodIn_of _ (by decide +kernel)) ggX3_doScriptCommand_X1_tryTake
set_option maxRecDepth 20000 in
theorem ggX3_doScriptCommand_X3_doBookCommand : GoodIn wsX3_doScriptCommand wsX3_doBookCommand := goodIn_r _ [40, 1, 41, 42, 43, 9, 44, 11, 45, 46, 47, 48, 20, 18, 21, 22, 23, 24, 25, 26, 27, 49, 50, 51, 52, 16, 35, 36, 53, 54, 55, 56, 57, 58, 59, 60, 61, 62, 63, 64, 65, 66, 67, 68, 69, 181, 182, 183, 184, 185, 186, 187, 188, 189, 190, 191, 192, 193, 194, 195, 196, 197, 198, 199, 200, 201, 202] rfl rfl
set_option maxRecDepth 20000 in
theorem gX3_doScriptCommand_X3_doBookCommand : GoodIn wsX3_doScriptCommand (wsV RX3 329 RX3 yX3_doBookCommand wsX3_doBookCommand) := goodIn_app (goodIn_of _ (by decide +kernel)) ggX3_doScriptCommand_X3_doBookCommand
set_option maxRecDepth 20000 in
theorem ggX3_doScriptCommand_X1_tryWalk : GoodIn wsX3_doScriptCommand wsX1_tryWalk := goodIn_r _ [73, 16, 74, 75, 76, 77, 78, 79, 9, 80, 17, 18, 19, 81, 82, 188, 189, 190, 191, 192, 193, 194, 195, 196, 197, 198, 199, 200, 201, 202] rfl rfl
set_option maxRecDepth 20000 in
theorem gX3_doScriptCommand_X1_tryWalk : GoodIn wsX3_doScriptCommand (wsV RX3 133 RX1 yX1_tryWalk wsX1_tryWalk) := goodIn_app (goodIn_of _ (by decide +kernel)) ggX3_doScriptCommand_X1_tryWalk
set_option maxRecDepth 20000 in
theorem ggX3_doScriptCommand_X1_tryTurn : GoodIn wsX3_doScriptCommand wsX1_tryTurn := goodIn_r _ [86, 76, 87, 88, 89, 9, 90, 16, 17, 18, 19, 188, 189, 190, 191, 192, 193, 194, 195, 196, 197, 198, 199, 200, 201, 202] rfl rfl
set_option maxRecDepth 20000 in
theorem gX3_doScriptCommand_X1_tryTurn : GoodIn wsX3_doScriptCommand (wsV RX3 137 RX1 yX1_tryTurn wsX1_tryTurn) := goodIn_app (goodIn_of _ (by decide +kernel)) ggX3_doScriptCommand_X1_tryTurn
set_option maxRecDepth 20000 in
theorem ggX3_doScriptCommand_X3_isTickNumber : GoodIn wsX3_doScriptCommand wsX3_isTickNumber := goodIn_r _ [93] rfl rfl
set_option maxRecDepth 20000 in
theorem gX3_doScriptCommand_X3_isTickNumber : GoodIn wsX3_doScriptCommand (va_wsS RX3 289 yX3_isTickNumber wsX3_isTickNumber) := goodIn_app (goodIn_of _ (by decide +kernel)) ggX3_doScriptCommand_X3_isTickNumber
set_option maxRecDepth 20000 in
theorem ggX3_doScriptCommand_X1_passTicks : GoodIn wsX3_doScriptCommand wsX1_passTicks := goodIn_r _ [97, 98, 99, 100, 101, 102, 103, 104, 105, 106, 107, 9, 108, 109, 16, 110, 111, 112, 113, 114, 75, 76, 11, 57, 115, 116, 117, 118, 119, 120, 121, 122, 28, 29, 30, 31, 32, 33, 34, 123, 124, 125, 126, 127, 26, 18, 27, 128, 129, 130, 131, 132, 133, 134, 135, 136, 137, 138, 139, 140, 141, 142, 143, 144, 145, 146, 147, 148, 149, 150, 74, 151, 35, 36, 152, 153, 154, 155, 156, 157, 158, 159, 160, 161, 162, 163, 164, 165, 166, 167, 168, 169, 170, 171, 172, 173, 20, 21, 188, 189, 190, 191, 192, 193, 194, 195, 196, 197, 198, 199, 200, 201, 202, 203, 204, 205, 206, 207, 208, 209, 210, 211] rfl rfl
set_option maxRecDepth 20000 in
theorem gX3_doScriptCommand_X1_passTicks : GoodIn wsX3_doScriptCommand (wsV RX3 143 RX1 yX1_passTicks wsX1_passTicks) := goodIn_app (goodIn_of _ (by decide +kernel)) ggX3_doScriptCommand_X1_passTicks
set_option maxRecDepth 20000 in
theorem ggX3_doScriptCommand_X3_isBook : GoodIn wsX3_doScriptCommand wsX3_isBook := goodIn_r _ [21] rfl rfl
set_option maxRecDepth 20000 in
theorem gX3_doScriptCommand_X3_isBook : GoodIn wsX3_doScriptCommand (va_wsS RX3 332 yX3_isBook wsX3_isBook) := goodIn_app (goodIn_of _ (by decide +kernel)) ggX3_doScriptCommand_X3_isBook
set_option maxRecDepth 20000 in
theorem ggX3_doScriptCommand_X3_has : GoodIn wsX3_doScriptCommand wsX3_has := goodIn_r _ [27] rfl rfl
set_option maxRecDepth 20000 in
theorem gX3_doScriptCommand_X3_has : GoodIn wsX3_doScriptCommand (va_wsS RX3 183 yX3_has wsX3_has) := goodIn_app (goodIn_of _ (by decide +kernel)) ggX3_doScriptCommand_X3_has
set_option maxRecDepth 20000 in
theorem ggX3_doScriptCommand_X3_oneIf : GoodIn wsX3_doScriptCommand wsX3_oneIf := goodIn_r _ [178] rfl rfl
set_option maxRecDepth 20000 in
theorem gX3_doScriptCommand_X3_oneIf : GoodIn wsX3_doScriptCommand (va_wsS RX3 186 yX3_oneIf wsX3_oneIf) := goodIn_app (goodIn_of _ (by decide +kernel)) ggX3_doScriptCommand_X3_oneIf
set_option maxRecDepth 20000 in
theorem ggX3_doScriptCommand_X3_isVisitor : GoodIn wsX3_doScriptCommand wsX3_isVisitor := goodIn_r _ [19] rfl rfl
set_option maxRecDepth 20000 in
theorem gX3_doScriptCommand_X3_isVisitor : GoodIn wsX3_doScriptCommand (va_wsS RX3 335 yX3_isVisitor wsX3_isVisitor) := goodIn_app (goodIn_of _ (by decide +kernel)) ggX3_doScriptCommand_X3_isVisitor
set_option maxRecDepth 20000 in
theorem ggX3_doScriptCommand_X0_shoutCount : GoodIn wsX3_doScriptCommand wsX0_shoutCount := goodIn_r _ [103, 104, 203, 204, 205, 206, 207, 208, 209, 210, 211] rfl rfl
set_option maxRecDepth 20000 in
theorem gX3_doScriptCommand_X0_shoutCount : GoodIn wsX3_doScriptCommand (wsV RX3 148 RX0 yX0_shoutCount wsX0_shoutCount) := goodIn_app (goodIn_of _ (by decide +kernel)) ggX3_doScriptCommand_X0_shoutCount
theorem dX3_doScriptCommand_0 : decode cX3_doScriptCommand 0 = .ok (.iload_n 1, 1) := by decide +kernel
theorem dX3_doScriptCommand_1 : decode cX3_doScriptCommand 1 = .ok (.sipush 1000, 3) := by decide +kernel
theorem dX3_doScriptCommand_4 : decode cX3_doScriptCommand 4 = .ok (.idiv, 1) := by decide +kernel
theorem dX3_doScriptCommand_5 : decode cX3_doScriptCommand 5 = .ok (.bipush 10, 2) := by decide +kernel
theorem dX3_doScriptCommand_7 : decode cX3_doScriptCommand 7 = .ok (.irem, 1) := by decide +kernel
theorem dX3_doScriptCommand_8 : decode cX3_doScriptCommand 8 = .ok (.istore_n 2, 1) := by decide +kernel
theorem dX3_doScriptCommand_9 : decode cX3_doScriptCommand 9 = .ok (.iload_n 1, 1) := by decide +kernel
theorem dX3_doScriptCommand_10 : decode cX3_doScriptCommand 10 = .ok (.bipush 100, 2) := by decide +kernel
theorem dX3_doScriptCommand_12 : decode cX3_doScriptCommand 12 = .ok (.idiv, 1) := by decide +kernel
theorem dX3_doScriptCommand_13 : decode cX3_doScriptCommand 13 = .ok (.bipush 10, 2) := by decide +kernel
theorem dX3_doScriptCommand_15 : decode cX3_doScriptCommand 15 = .ok (.irem, 1) := by decide +kernel
theorem dX3_doScriptCommand_16 : decode cX3_doScriptCommand 16 = .ok (.istore_n 3, 1) := by decide +kernel
theorem dX3_doScriptCommand_17 : decode cX3_doScriptCommand 17 = .ok (.iload_n 1, 1) := by decide +kernel
theorem dX3_doScriptCommand_18 : decode cX3_doScriptCommand 18 = .ok (.bipush 10, 2) := by decide +kernel
theorem dX3_doScriptCommand_20 : decode cX3_doScriptCommand 20 = .ok (.idiv, 1) := by decide +kernel
theorem dX3_doScriptCommand_21 : decode cX3_doScriptCommand 21 = .ok (.bipush 10, 2) := by decide +kernel
theorem dX3_doScriptCommand_23 : decode cX3_doScriptCommand 23 = .ok (.irem, 1) := by decide +kernel
theorem dX3_doScriptCommand_24 : decode cX3_doScriptCommand 24 = .ok (.istore 4, 2) := by decide +kernel
theorem dX3_doScriptCommand_26 : decode cX3_doScriptCommand 26 = .ok (.iload_n 1, 1) := by decide +kernel
theorem dX3_doScriptCommand_27 : decode cX3_doScriptCommand 27 = .ok (.bipush 10, 2) := by decide +kernel
theorem dX3_doScriptCommand_29 : decode cX3_doScriptCommand 29 = .ok (.irem, 1) := by decide +kernel
theorem dX3_doScriptCommand_30 : decode cX3_doScriptCommand 30 = .ok (.istore 5, 2) := by decide +kernel
theorem dX3_doScriptCommand_32 : decode cX3_doScriptCommand 32 = .ok (.bipush 10, 2) := by decide +kernel
theorem dX3_doScriptCommand_34 : decode cX3_doScriptCommand 34 = .ok (.iload_n 3, 1) := by decide +kernel
theorem dX3_doScriptCommand_35 : decode cX3_doScriptCommand 35 = .ok (.imul, 1) := by decide +kernel
theorem dX3_doScriptCommand_36 : decode cX3_doScriptCommand 36 = .ok (.iload 4, 2) := by decide +kernel
theorem dX3_doScriptCommand_38 : decode cX3_doScriptCommand 38 = .ok (.iadd, 1) := by decide +kernel
theorem dX3_doScriptCommand_39 : decode cX3_doScriptCommand 39 = .ok (.istore 6, 2) := by decide +kernel
theorem dX3_doScriptCommand_41 : decode cX3_doScriptCommand 41 = .ok (.bipush 10, 2) := by decide +kernel
theorem dX3_doScriptCommand_43 : decode cX3_doScriptCommand 43 = .ok (.iload 4, 2) := by decide +kernel
theorem dX3_doScriptCommand_45 : decode cX3_doScriptCommand 45 = .ok (.imul, 1) := by decide +kernel
theorem dX3_doScriptCommand_46 : decode cX3_doScriptCommand 46 = .ok (.iload 5, 2) := by decide +kernel
theorem dX3_doScriptCommand_48 : decode cX3_doScriptCommand 48 = .ok (.iadd, 1) := by decide +kernel
theorem dX3_doScriptCommand_49 : decode cX3_doScriptCommand 49 = .ok (.istore 7, 2) := by decide +kernel
theorem dX3_doScriptCommand_51 : decode cX3_doScriptCommand 51 = .ok (.iload_n 1, 1) := by decide +kernel
theorem dX3_doScriptCommand_52 : decode cX3_doScriptCommand 52 = .ok (.sipush 10000, 3) := by decide +kernel
theorem dX3_doScriptCommand_55 : decode cX3_doScriptCommand 55 = .ok (.idiv, 1) := by decide +kernel
theorem dX3_doScriptCommand_56 : decode cX3_doScriptCommand 56 = .ok (.tableswitch 322 1 9 #[52, 76, 97, 137, 163, 193, 231, 267, 293], 52) := by decide +kernel
theorem dX3_doScriptCommand_108 : decode cX3_doScriptCommand 108 = .ok (.iload 5, 2) := by decide +kernel
theorem dX3_doScriptCommand_110 : decode cX3_doScriptCommand 110 = .ok (.ifCond .ne 20, 3) := by decide +kernel
theorem dX3_doScriptCommand_113 : decode cX3_doScriptCommand 113 = .ok (.aload_n 0, 1) := by decide +kernel
theorem dX3_doScriptCommand_114 : decode cX3_doScriptCommand 114 = .ok (.getfield 23, 3) := by decide +kernel
theorem dX3_doScriptCommand_117 : decode cX3_doScriptCommand 117 = .ok (.iload_n 2, 1) := by decide +kernel
theorem dX3_doScriptCommand_118 : decode cX3_doScriptCommand 118 = .ok (.iload 6, 2) := by decide +kernel
theorem dX3_doScriptCommand_120 : decode cX3_doScriptCommand 120 = .ok (.invokevirtual 119, 3) := by decide +kernel
theorem dX3_doScriptCommand_123 : decode cX3_doScriptCommand 123 = .ok (.ifCond .eq 7, 3) := by decide +kernel
theorem dX3_doScriptCommand_126 : decode cX3_doScriptCommand 126 = .ok (.iconst 1, 1) := by decide +kernel
theorem dX3_doScriptCommand_127 : decode cX3_doScriptCommand 127 = .ok (.goto 4, 3) := by decide +kernel
theorem dX3_doScriptCommand_130 : decode cX3_doScriptCommand 130 = .ok (.iconst 0, 1) := by decide +kernel
theorem dX3_doScriptCommand_131 : decode cX3_doScriptCommand 131 = .ok (.ireturn, 1) := by decide +kernel
theorem dX3_doScriptCommand_132 : decode cX3_doScriptCommand 132 = .ok (.iload_n 2, 1) := by decide +kernel
theorem dX3_doScriptCommand_133 : decode cX3_doScriptCommand 133 = .ok (.ifCond .ne 18, 3) := by decide +kernel
theorem dX3_doScriptCommand_136 : decode cX3_doScriptCommand 136 = .ok (.aload_n 0, 1) := by decide +kernel
theorem dX3_doScriptCommand_137 : decode cX3_doScriptCommand 137 = .ok (.iload 6, 2) := by decide +kernel
theorem dX3_doScriptCommand_139 : decode cX3_doScriptCommand 139 = .ok (.iload 5, 2) := by decide +kernel
theorem dX3_doScriptCommand_141 : decode cX3_doScriptCommand 141 = .ok (.invokevirtual 329, 3) := by decide +kernel
theorem dX3_doScriptCommand_144 : decode cX3_doScriptCommand 144 = .ok (.ifCond .eq 7, 3) := by decide +kernel
theorem dX3_doScriptCommand_147 : decode cX3_doScriptCommand 147 = .ok (.iconst 1, 1) := by decide +kernel
theorem dX3_doScriptCommand_148 : decode cX3_doScriptCommand 148 = .ok (.goto 4, 3) := by decide +kernel
theorem dX3_doScriptCommand_151 : decode cX3_doScriptCommand 151 = .ok (.iconst 0, 1) := by decide +kernel
theorem dX3_doScriptCommand_152 : decode cX3_doScriptCommand 152 = .ok (.ireturn, 1) := by decide +kernel
theorem dX3_doScriptCommand_153 : decode cX3_doScriptCommand 153 = .ok (.iload 4, 2) := by decide +kernel
theorem dX3_doScriptCommand_155 : decode cX3_doScriptCommand 155 = .ok (.iconst 1, 1) := by decide +kernel
theorem dX3_doScriptCommand_156 : decode cX3_doScriptCommand 156 = .ok (.if_icmp .gt 35, 3) := by decide +kernel
theorem dX3_doScriptCommand_159 : decode cX3_doScriptCommand 159 = .ok (.iload 5, 2) := by decide +kernel
theorem dX3_doScriptCommand_161 : decode cX3_doScriptCommand 161 = .ok (.ifCond .ne 30, 3) := by decide +kernel
theorem dX3_doScriptCommand_164 : decode cX3_doScriptCommand 164 = .ok (.aload_n 0, 1) := by decide +kernel
theorem dX3_doScriptCommand_165 : decode cX3_doScriptCommand 165 = .ok (.getfield 23, 3) := by decide +kernel
theorem dX3_doScriptCommand_168 : decode cX3_doScriptCommand 168 = .ok (.iload_n 2, 1) := by decide +kernel
theorem dX3_doScriptCommand_169 : decode cX3_doScriptCommand 169 = .ok (.iload_n 3, 1) := by decide +kernel
theorem dX3_doScriptCommand_170 : decode cX3_doScriptCommand 170 = .ok (.iload 4, 2) := by decide +kernel
theorem dX3_doScriptCommand_172 : decode cX3_doScriptCommand 172 = .ok (.iconst 1, 1) := by decide +kernel
theorem dX3_doScriptCommand_173 : decode cX3_doScriptCommand 173 = .ok (.if_icmp .ne 7, 3) := by decide +kernel
theorem dX3_doScriptCommand_176 : decode cX3_doScriptCommand 176 = .ok (.iconst 1, 1) := by decide +kernel
theorem dX3_doScriptCommand_177 : decode cX3_doScriptCommand 177 = .ok (.goto 4, 3) := by decide +kernel
theorem dX3_doScriptCommand_180 : decode cX3_doScriptCommand 180 = .ok (.iconst 0, 1) := by decide +kernel
theorem dX3_doScriptCommand_181 : decode cX3_doScriptCommand 181 = .ok (.invokevirtual 133, 3) := by decide +kernel
theorem dX3_doScriptCommand_184 : decode cX3_doScriptCommand 184 = .ok (.ifCond .eq 7, 3) := by decide +kernel
theorem dX3_doScriptCommand_187 : decode cX3_doScriptCommand 187 = .ok (.iconst 1, 1) := by decide +kernel
theorem dX3_doScriptCommand_188 : decode cX3_doScriptCommand 188 = .ok (.goto 4, 3) := by decide +kernel
theorem dX3_doScriptCommand_191 : decode cX3_doScriptCommand 191 = .ok (.iconst 0, 1) := by decide +kernel
theorem dX3_doScriptCommand_192 : decode cX3_doScriptCommand 192 = .ok (.ireturn, 1) := by decide +kernel
theorem dX3_doScriptCommand_193 : decode cX3_doScriptCommand 193 = .ok (.iload_n 3, 1) := by decide +kernel
theorem dX3_doScriptCommand_194 : decode cX3_doScriptCommand 194 = .ok (.ifCond .ne 23, 3) := by decide +kernel
theorem dX3_doScriptCommand_197 : decode cX3_doScriptCommand 197 = .ok (.iload 7, 2) := by decide +kernel
theorem dX3_doScriptCommand_199 : decode cX3_doScriptCommand 199 = .ok (.ifCond .ne 18, 3) := by decide +kernel
theorem dX3_doScriptCommand_202 : decode cX3_doScriptCommand 202 = .ok (.aload_n 0, 1) := by decide +kernel
theorem dX3_doScriptCommand_203 : decode cX3_doScriptCommand 203 = .ok (.getfield 23, 3) := by decide +kernel
theorem dX3_doScriptCommand_206 : decode cX3_doScriptCommand 206 = .ok (.iload_n 2, 1) := by decide +kernel
theorem dX3_doScriptCommand_207 : decode cX3_doScriptCommand 207 = .ok (.invokevirtual 137, 3) := by decide +kernel
theorem dX3_doScriptCommand_210 : decode cX3_doScriptCommand 210 = .ok (.ifCond .eq 7, 3) := by decide +kernel
theorem dX3_doScriptCommand_213 : decode cX3_doScriptCommand 213 = .ok (.iconst 1, 1) := by decide +kernel
theorem dX3_doScriptCommand_214 : decode cX3_doScriptCommand 214 = .ok (.goto 4, 3) := by decide +kernel
theorem dX3_doScriptCommand_217 : decode cX3_doScriptCommand 217 = .ok (.iconst 0, 1) := by decide +kernel
theorem dX3_doScriptCommand_218 : decode cX3_doScriptCommand 218 = .ok (.ireturn, 1) := by decide +kernel
theorem dX3_doScriptCommand_219 : decode cX3_doScriptCommand 219 = .ok (.iload_n 2, 1) := by decide +kernel
theorem dX3_doScriptCommand_220 : decode cX3_doScriptCommand 220 = .ok (.ifCond .ne 15, 3) := by decide +kernel
theorem dX3_doScriptCommand_223 : decode cX3_doScriptCommand 223 = .ok (.iload_n 3, 1) := by decide +kernel
theorem dX3_doScriptCommand_224 : decode cX3_doScriptCommand 224 = .ok (.ifCond .ne 11, 3) := by decide +kernel
theorem dX3_doScriptCommand_227 : decode cX3_doScriptCommand 227 = .ok (.iload 7, 2) := by decide +kernel
theorem dX3_doScriptCommand_229 : decode cX3_doScriptCommand 229 = .ok (.invokestatic 289, 3) := by decide +kernel
theorem dX3_doScriptCommand_232 : decode cX3_doScriptCommand 232 = .ok (.ifCond .ne 5, 3) := by decide +kernel
theorem dX3_doScriptCommand_235 : decode cX3_doScriptCommand 235 = .ok (.iconst 0, 1) := by decide +kernel
theorem dX3_doScriptCommand_236 : decode cX3_doScriptCommand 236 = .ok (.ireturn, 1) := by decide +kernel
theorem dX3_doScriptCommand_237 : decode cX3_doScriptCommand 237 = .ok (.aload_n 0, 1) := by decide +kernel
theorem dX3_doScriptCommand_238 : decode cX3_doScriptCommand 238 = .ok (.getfield 23, 3) := by decide +kernel
theorem dX3_doScriptCommand_241 : decode cX3_doScriptCommand 241 = .ok (.iload 7, 2) := by decide +kernel
theorem dX3_doScriptCommand_243 : decode cX3_doScriptCommand 243 = .ok (.invokevirtual 143, 3) := by decide +kernel
theorem dX3_doScriptCommand_246 : decode cX3_doScriptCommand 246 = .ok (.pop, 1) := by decide +kernel
theorem dX3_doScriptCommand_247 : decode cX3_doScriptCommand 247 = .ok (.iconst 1, 1) := by decide +kernel
theorem dX3_doScriptCommand_248 : decode cX3_doScriptCommand 248 = .ok (.ireturn, 1) := by decide +kernel
theorem dX3_doScriptCommand_249 : decode cX3_doScriptCommand 249 = .ok (.iload_n 2, 1) := by decide +kernel
theorem dX3_doScriptCommand_250 : decode cX3_doScriptCommand 250 = .ok (.ifCond .ne 35, 3) := by decide +kernel
theorem dX3_doScriptCommand_253 : decode cX3_doScriptCommand 253 = .ok (.iload 6, 2) := by decide +kernel
theorem dX3_doScriptCommand_255 : decode cX3_doScriptCommand 255 = .ok (.invokestatic 332, 3) := by decide +kernel
theorem dX3_doScriptCommand_258 : decode cX3_doScriptCommand 258 = .ok (.ifCond .eq 27, 3) := by decide +kernel
theorem dX3_doScriptCommand_261 : decode cX3_doScriptCommand 261 = .ok (.aload_n 0, 1) := by decide +kernel
theorem dX3_doScriptCommand_262 : decode cX3_doScriptCommand 262 = .ok (.getfield 23, 3) := by decide +kernel
theorem dX3_doScriptCommand_265 : decode cX3_doScriptCommand 265 = .ok (.getfield 193, 3) := by decide +kernel
theorem dX3_doScriptCommand_268 : decode cX3_doScriptCommand 268 = .ok (.iload 6, 2) := by decide +kernel
theorem dX3_doScriptCommand_270 : decode cX3_doScriptCommand 270 = .ok (.invokestatic 183, 3) := by decide +kernel
theorem dX3_doScriptCommand_273 : decode cX3_doScriptCommand 273 = .ok (.invokestatic 186, 3) := by decide +kernel
theorem dX3_doScriptCommand_276 : decode cX3_doScriptCommand 276 = .ok (.iload 5, 2) := by decide +kernel
theorem dX3_doScriptCommand_278 : decode cX3_doScriptCommand 278 = .ok (.if_icmp .ne 7, 3) := by decide +kernel
theorem dX3_doScriptCommand_281 : decode cX3_doScriptCommand 281 = .ok (.iconst 1, 1) := by decide +kernel
theorem dX3_doScriptCommand_282 : decode cX3_doScriptCommand 282 = .ok (.goto 4, 3) := by decide +kernel
theorem dX3_doScriptCommand_285 : decode cX3_doScriptCommand 285 = .ok (.iconst 0, 1) := by decide +kernel
theorem dX3_doScriptCommand_286 : decode cX3_doScriptCommand 286 = .ok (.ireturn, 1) := by decide +kernel
theorem dX3_doScriptCommand_287 : decode cX3_doScriptCommand 287 = .ok (.iload_n 3, 1) := by decide +kernel
theorem dX3_doScriptCommand_288 : decode cX3_doScriptCommand 288 = .ok (.ifCond .ne 33, 3) := by decide +kernel
theorem dX3_doScriptCommand_291 : decode cX3_doScriptCommand 291 = .ok (.iload 4, 2) := by decide +kernel
theorem dX3_doScriptCommand_293 : decode cX3_doScriptCommand 293 = .ok (.ifCond .ne 28, 3) := by decide +kernel
theorem dX3_doScriptCommand_296 : decode cX3_doScriptCommand 296 = .ok (.iload_n 2, 1) := by decide +kernel
theorem dX3_doScriptCommand_297 : decode cX3_doScriptCommand 297 = .ok (.invokestatic 335, 3) := by decide +kernel
theorem dX3_doScriptCommand_300 : decode cX3_doScriptCommand 300 = .ok (.ifCond .eq 21, 3) := by decide +kernel
theorem dX3_doScriptCommand_303 : decode cX3_doScriptCommand 303 = .ok (.aload_n 0, 1) := by decide +kernel
theorem dX3_doScriptCommand_304 : decode cX3_doScriptCommand 304 = .ok (.getfield 23, 3) := by decide +kernel
theorem dX3_doScriptCommand_307 : decode cX3_doScriptCommand 307 = .ok (.getfield 204, 3) := by decide +kernel
theorem dX3_doScriptCommand_310 : decode cX3_doScriptCommand 310 = .ok (.iload_n 2, 1) := by decide +kernel
theorem dX3_doScriptCommand_311 : decode cX3_doScriptCommand 311 = .ok (.iaload, 1) := by decide +kernel
theorem dX3_doScriptCommand_312 : decode cX3_doScriptCommand 312 = .ok (.iload 5, 2) := by decide +kernel
theorem dX3_doScriptCommand_314 : decode cX3_doScriptCommand 314 = .ok (.if_icmp .ne 7, 3) := by decide +kernel
theorem dX3_doScriptCommand_317 : decode cX3_doScriptCommand 317 = .ok (.iconst 1, 1) := by decide +kernel
theorem dX3_doScriptCommand_318 : decode cX3_doScriptCommand 318 = .ok (.goto 4, 3) := by decide +kernel
theorem dX3_doScriptCommand_321 : decode cX3_doScriptCommand 321 = .ok (.iconst 0, 1) := by decide +kernel
theorem dX3_doScriptCommand_322 : decode cX3_doScriptCommand 322 = .ok (.ireturn, 1) := by decide +kernel
theorem dX3_doScriptCommand_323 : decode cX3_doScriptCommand 323 = .ok (.iload_n 2, 1) := by decide +kernel
theorem dX3_doScriptCommand_324 : decode cX3_doScriptCommand 324 = .ok (.ifCond .ne 23, 3) := by decide +kernel
theorem dX3_doScriptCommand_327 : decode cX3_doScriptCommand 327 = .ok (.iload_n 3, 1) := by decide +kernel
theorem dX3_doScriptCommand_328 : decode cX3_doScriptCommand 328 = .ok (.ifCond .ne 19, 3) := by decide +kernel
theorem dX3_doScriptCommand_331 : decode cX3_doScriptCommand 331 = .ok (.aload_n 0, 1) := by decide +kernel
theorem dX3_doScriptCommand_332 : decode cX3_doScriptCommand 332 = .ok (.getfield 23, 3) := by decide +kernel
theorem dX3_doScriptCommand_335 : decode cX3_doScriptCommand 335 = .ok (.getfield 157, 3) := by decide +kernel
theorem dX3_doScriptCommand_338 : decode cX3_doScriptCommand 338 = .ok (.iload 7, 2) := by decide +kernel
theorem dX3_doScriptCommand_340 : decode cX3_doScriptCommand 340 = .ok (.if_icmp .gt 7, 3) := by decide +kernel
theorem dX3_doScriptCommand_343 : decode cX3_doScriptCommand 343 = .ok (.iconst 1, 1) := by decide +kernel
theorem dX3_doScriptCommand_344 : decode cX3_doScriptCommand 344 = .ok (.goto 4, 3) := by decide +kernel
theorem dX3_doScriptCommand_347 : decode cX3_doScriptCommand 347 = .ok (.iconst 0, 1) := by decide +kernel
theorem dX3_doScriptCommand_348 : decode cX3_doScriptCommand 348 = .ok (.ireturn, 1) := by decide +kernel
theorem dX3_doScriptCommand_349 : decode cX3_doScriptCommand 349 = .ok (.iload_n 2, 1) := by decide +kernel
theorem dX3_doScriptCommand_350 : decode cX3_doScriptCommand 350 = .ok (.ifCond .ne 26, 3) := by decide +kernel
theorem dX3_doScriptCommand_353 : decode cX3_doScriptCommand 353 = .ok (.iload_n 3, 1) := by decide +kernel
theorem dX3_doScriptCommand_354 : decode cX3_doScriptCommand 354 = .ok (.ifCond .ne 22, 3) := by decide +kernel
theorem dX3_doScriptCommand_357 : decode cX3_doScriptCommand 357 = .ok (.aload_n 0, 1) := by decide +kernel
theorem dX3_doScriptCommand_358 : decode cX3_doScriptCommand 358 = .ok (.getfield 23, 3) := by decide +kernel
theorem dX3_doScriptCommand_361 : decode cX3_doScriptCommand 361 = .ok (.getfield 91, 3) := by decide +kernel
theorem dX3_doScriptCommand_364 : decode cX3_doScriptCommand 364 = .ok (.invokevirtual 148, 3) := by decide +kernel
theorem dX3_doScriptCommand_367 : decode cX3_doScriptCommand 367 = .ok (.iload 7, 2) := by decide +kernel
theorem dX3_doScriptCommand_369 : decode cX3_doScriptCommand 369 = .ok (.if_icmp .lt 7, 3) := by decide +kernel
theorem dX3_doScriptCommand_372 : decode cX3_doScriptCommand 372 = .ok (.iconst 1, 1) := by decide +kernel
theorem dX3_doScriptCommand_373 : decode cX3_doScriptCommand 373 = .ok (.goto 4, 3) := by decide +kernel
theorem dX3_doScriptCommand_376 : decode cX3_doScriptCommand 376 = .ok (.iconst 0, 1) := by decide +kernel
theorem dX3_doScriptCommand_377 : decode cX3_doScriptCommand 377 = .ok (.ireturn, 1) := by decide +kernel
theorem dX3_doScriptCommand_378 : decode cX3_doScriptCommand 378 = .ok (.iconst 0, 1) := by decide +kernel
theorem dX3_doScriptCommand_379 : decode cX3_doScriptCommand 379 = .ok (.ireturn, 1) := by decide +kernel
set_option maxRecDepth 20000 in
theorem ggX3_doBookCommand_X1_tryPutBack : GoodIn wsX3_doBookCommand wsX1_tryPutBack := goodIn_r _ [6, 7, 8, 9, 10, 5, 11, 12, 13, 14, 15, 16, 17, 18, 19, 20, 21, 22, 23, 24, 25, 26, 27, 52, 53, 54, 55, 56, 57, 58, 59, 60, 61, 62, 63, 64, 65, 66] rfl rfl
set_option maxRecDepth 20000 in
theorem gX3_doBookCommand_X1_tryPutBack : GoodIn wsX3_doBookCommand (wsV RX3 123 RX1 yX1_tryPutBack wsX1_tryPutBack) := goodIn_app (goodIn_of _ (by decide +kernel)) ggX3_doBookCommand_X1_tryPutBack
set_option maxRecDepth 20000 in
theorem ggX3_doBookCommand_X1_tryBorrow : GoodIn wsX3_doBookCommand wsX1_tryBorrow := goodIn_r _ [31, 32, 33, 34, 35, 5, 36, 12, 13, 14, 19, 20, 21, 22, 23, 24, 7, 25, 26, 27, 52, 53, 54, 55, 56, 57, 58, 59, 60, 61, 62, 63, 64, 65, 66] rfl rfl
set_option maxRecDepth 20000 in
theorem gX3_doBookCommand_X1_tryBorrow : GoodIn wsX3_doBookCommand (wsV RX3 271 RX1 yX1_tryBorrow wsX1_tryBorrow) := goodIn_app (goodIn_of _ (by decide +kernel)) ggX3_doBookCommand_X1_tryBorrow
set_option maxRecDepth 20000 in
theorem ggX3_doBookCommand_X1_tryBringBack : GoodIn wsX3_doBookCommand wsX1_tryBringBack := goodIn_r _ [40, 32, 41, 42, 43, 5, 44, 12, 13, 14, 19, 20, 21, 22, 23, 24, 7, 25, 26, 27, 52, 53, 54, 55, 56, 57, 58, 59, 60, 61, 62, 63, 64, 65, 66] rfl rfl
set_option maxRecDepth 20000 in
theorem gX3_doBookCommand_X1_tryBringBack : GoodIn wsX3_doBookCommand (wsV RX3 277 RX1 yX1_tryBringBack wsX1_tryBringBack) := goodIn_app (goodIn_of _ (by decide +kernel)) ggX3_doBookCommand_X1_tryBringBack
theorem dX3_doBookCommand_0 : decode cX3_doBookCommand 0 = .ok (.iload_n 2, 1) := by decide +kernel
theorem dX3_doBookCommand_1 : decode cX3_doBookCommand 1 = .ok (.tableswitch 54 0 2 #[27, 36, 45], 27) := by decide +kernel
theorem dX3_doBookCommand_28 : decode cX3_doBookCommand 28 = .ok (.aload_n 0, 1) := by decide +kernel
theorem dX3_doBookCommand_29 : decode cX3_doBookCommand 29 = .ok (.getfield 23, 3) := by decide +kernel
theorem dX3_doBookCommand_32 : decode cX3_doBookCommand 32 = .ok (.iload_n 1, 1) := by decide +kernel
theorem dX3_doBookCommand_33 : decode cX3_doBookCommand 33 = .ok (.invokevirtual 123, 3) := by decide +kernel
theorem dX3_doBookCommand_36 : decode cX3_doBookCommand 36 = .ok (.ireturn, 1) := by decide +kernel
theorem dX3_doBookCommand_37 : decode cX3_doBookCommand 37 = .ok (.aload_n 0, 1) := by decide +kernel
theorem dX3_doBookCommand_38 : decode cX3_doBookCommand 38 = .ok (.getfield 23, 3) := by decide +kernel
theorem dX3_doBookCommand_41 : decode cX3_doBookCommand 41 = .ok (.iload_n 1, 1) := by decide +kernel
theorem dX3_doBookCommand_42 : decode cX3_doBookCommand 42 = .ok (.invokevirtual 271, 3) := by decide +kernel
theorem dX3_doBookCommand_45 : decode cX3_doBookCommand 45 = .ok (.ireturn, 1) := by decide +kernel
theorem dX3_doBookCommand_46 : decode cX3_doBookCommand 46 = .ok (.aload_n 0, 1) := by decide +kernel
theorem dX3_doBookCommand_47 : decode cX3_doBookCommand 47 = .ok (.getfield 23, 3) := by decide +kernel
theorem dX3_doBookCommand_50 : decode cX3_doBookCommand 50 = .ok (.iload_n 1, 1) := by decide +kernel
theorem dX3_doBookCommand_51 : decode cX3_doBookCommand 51 = .ok (.invokevirtual 277, 3) := by decide +kernel
theorem dX3_doBookCommand_54 : decode cX3_doBookCommand 54 = .ok (.ireturn, 1) := by decide +kernel
theorem dX3_doBookCommand_55 : decode cX3_doBookCommand 55 = .ok (.iconst 0, 1) := by decide +kernel
theorem dX3_doBookCommand_56 : decode cX3_doBookCommand 56 = .ok (.ireturn, 1) := by decide +kernel
set_option maxRecDepth 20000 in
theorem ggX3_simulate_X1_copyFrom : GoodIn wsX3_simulate wsX1_copyFrom := goodIn_r _ [13, 14, 15, 16, 17, 18, 19, 20, 21, 22, 23, 24, 25, 26, 27, 28, 29, 30, 31, 32, 33, 34, 35, 36, 37, 38, 39, 40, 41, 42, 43, 44, 45, 46, 47, 48, 49, 50, 51, 52, 53, 199, 200, 201, 202, 203, 204, 205, 206, 207, 208, 209, 210, 211, 212, 213, 214, 215, 216, 217, 218, 219, 220, 221, 222] rfl rfl
set_option maxRecDepth 20000 in
theorem gX3_simulate_X1_copyFrom : GoodIn wsX3_simulate (wsV RX3 305 RX1 yX1_copyFrom wsX1_copyFrom) := goodIn_app (goodIn_of _ (by decide +kernel)) ggX3_simulate_X1_copyFrom
set_option maxRecDepth 20000 in
theorem ggX3_simulate_X3_doSimulatedTurn : GoodIn wsX3_simulate wsX3_doSimulatedTurn := goodIn_r _ [57, 3, 58, 59, 60, 12, 61, 15, 62, 63, 64, 65, 16, 66, 44, 67, 68, 69, 70, 71, 72, 73, 74, 75, 76, 77, 78, 79, 80, 81, 82, 83, 84, 85, 86, 87, 88, 22, 89, 90, 91, 92, 93, 94, 95, 96, 97, 98, 99, 100, 101, 102, 103, 104, 105, 106, 107, 108, 109, 110, 111, 112, 113, 114, 115, 116, 17, 18, 19, 117, 118, 119, 120, 121, 122, 123, 124, 125, 126, 127, 128, 129, 130, 192, 193, 194, 195, 196, 197, 198, 199, 200, 201, 202, 203, 204, 205, 206, 207, 208, 209, 210, 211, 212, 213] rfl rfl
set_option maxRecDepth 20000 in
theorem gX3_simulate_X3_doSimulatedTurn : GoodIn wsX3_simulate (wsV RX3 344 RX3 yX3_doSimulatedTurn wsX3_doSimulatedTurn) := goodIn_app (goodIn_of _ (by decide +kernel)) ggX3_simulate_X3_doSimulatedTurn
set_option maxRecDepth 20000 in
theorem ggX3_simulate_X1_passTicks : GoodIn wsX3_simulate wsX1_passTicks := goodIn_r _ [134, 14, 135, 136, 137, 32, 138, 36, 139, 140, 141, 12, 142, 25, 16, 21, 143, 144, 145, 146, 18, 19, 15, 22, 147, 148, 149, 150, 26, 23, 27, 28, 76, 77, 78, 79, 80, 81, 82, 151, 152, 153, 154, 20, 74, 44, 75, 155, 156, 157, 158, 37, 38, 159, 160, 161, 162, 24, 163, 164, 165, 166, 167, 168, 169, 170, 171, 172, 48, 173, 17, 174, 83, 84, 175, 176, 177, 178, 179, 180, 181, 182, 35, 42, 183, 184, 185, 186, 187, 188, 189, 190, 191, 39, 40, 41, 68, 69, 199, 200, 201, 202, 203, 204, 205, 206, 207, 208, 209, 210, 211, 212, 213, 214, 215, 216, 217, 218, 219, 220, 221, 222] rfl rfl
set_option maxRecDepth 20000 in
theorem gX3_simulate_X1_passTicks : GoodIn wsX3_simulate (wsV RX3 143 RX1 yX1_passTicks wsX1_passTicks) := goodIn_app (goodIn_of _ (by decide +kernel)) ggX3_simulate_X1_passTicks
theorem dX3_simulate_0 : decode cX3_simulate 0 = .ok (.iload_n 3, 1) := by decide +kernel
theorem dX3_simulate_1 : decode cX3_simulate 1 = .ok (.iconst 1, 1) := by decide +kernel
theorem dX3_simulate_2 : decode cX3_simulate 2 = .ok (.if_icmp .lt 9, 3) := by decide +kernel
theorem dX3_simulate_5 : decode cX3_simulate 5 = .ok (.iload_n 3, 1) := by decide +kernel
theorem dX3_simulate_6 : decode cX3_simulate 6 = .ok (.bipush 99, 2) := by decide +kernel
theorem dX3_simulate_8 : decode cX3_simulate 8 = .ok (.if_icmp .le 14, 3) := by decide +kernel
theorem dX3_simulate_11 : decode cX3_simulate 11 = .ok (.new 41, 3) := by decide +kernel
theorem dX3_simulate_14 : decode cX3_simulate 14 = .ok (.dup, 1) := by decide +kernel
theorem dX3_simulate_15 : decode cX3_simulate 15 = .ok (.ldc_w 338, 3) := by decide +kernel
theorem dX3_simulate_18 : decode cX3_simulate 18 = .ok (.invokespecial 45, 3) := by decide +kernel
theorem dX3_simulate_21 : decode cX3_simulate 21 = .ok (.athrow, 1) := by decide +kernel
theorem dX3_simulate_22 : decode cX3_simulate 22 = .ok (.aload_n 0, 1) := by decide +kernel
theorem dX3_simulate_23 : decode cX3_simulate 23 = .ok (.getfield 23, 3) := by decide +kernel
theorem dX3_simulate_26 : decode cX3_simulate 26 = .ok (.aload_n 0, 1) := by decide +kernel
theorem dX3_simulate_27 : decode cX3_simulate 27 = .ok (.getfield 19, 3) := by decide +kernel
theorem dX3_simulate_30 : decode cX3_simulate 30 = .ok (.invokevirtual 305, 3) := by decide +kernel
theorem dX3_simulate_33 : decode cX3_simulate 33 = .ok (.iconst 0, 1) := by decide +kernel
theorem dX3_simulate_34 : decode cX3_simulate 34 = .ok (.istore 4, 2) := by decide +kernel
theorem dX3_simulate_36 : decode cX3_simulate 36 = .ok (.lload_n 1, 1) := by decide +kernel
theorem dX3_simulate_37 : decode cX3_simulate 37 = .ok (.lstore 5, 2) := by decide +kernel
theorem dX3_simulate_39 : decode cX3_simulate 39 = .ok (.iconst 0, 1) := by decide +kernel
theorem dX3_simulate_40 : decode cX3_simulate 40 = .ok (.istore 7, 2) := by decide +kernel
theorem dX3_simulate_42 : decode cX3_simulate 42 = .ok (.iload 7, 2) := by decide +kernel
theorem dX3_simulate_44 : decode cX3_simulate 44 = .ok (.iload_n 3, 1) := by decide +kernel
theorem dX3_simulate_45 : decode cX3_simulate 45 = .ok (.if_icmp .ge 44, 3) := by decide +kernel
theorem dX3_simulate_48 : decode cX3_simulate 48 = .ok (.lload 5, 2) := by decide +kernel
theorem dX3_simulate_50 : decode cX3_simulate 50 = .ok (.ldc2_w 340, 3) := by decide +kernel
theorem dX3_simulate_53 : decode cX3_simulate 53 = .ok (.lmul, 1) := by decide +kernel
theorem dX3_simulate_54 : decode cX3_simulate 54 = .ok (.ldc2_w 342, 3) := by decide +kernel
theorem dX3_simulate_57 : decode cX3_simulate 57 = .ok (.ladd, 1) := by decide +kernel
theorem dX3_simulate_58 : decode cX3_simulate 58 = .ok (.lstore 5, 2) := by decide +kernel
theorem dX3_simulate_60 : decode cX3_simulate 60 = .ok (.aload_n 0, 1) := by decide +kernel
theorem dX3_simulate_61 : decode cX3_simulate 61 = .ok (.lload 5, 2) := by decide +kernel
theorem dX3_simulate_63 : decode cX3_simulate 63 = .ok (.bipush 33, 2) := by decide +kernel
theorem dX3_simulate_65 : decode cX3_simulate 65 = .ok (.lushr, 1) := by decide +kernel
theorem dX3_simulate_66 : decode cX3_simulate 66 = .ok (.l2i, 1) := by decide +kernel
theorem dX3_simulate_67 : decode cX3_simulate 67 = .ok (.invokevirtual 344, 3) := by decide +kernel
theorem dX3_simulate_70 : decode cX3_simulate 70 = .ok (.iload 4, 2) := by decide +kernel
theorem dX3_simulate_72 : decode cX3_simulate 72 = .ok (.aload_n 0, 1) := by decide +kernel
theorem dX3_simulate_73 : decode cX3_simulate 73 = .ok (.getfield 23, 3) := by decide +kernel
theorem dX3_simulate_76 : decode cX3_simulate 76 = .ok (.iconst 1, 1) := by decide +kernel
theorem dX3_simulate_77 : decode cX3_simulate 77 = .ok (.invokevirtual 143, 3) := by decide +kernel
theorem dX3_simulate_80 : decode cX3_simulate 80 = .ok (.iadd, 1) := by decide +kernel
theorem dX3_simulate_81 : decode cX3_simulate 81 = .ok (.istore 4, 2) := by decide +kernel
theorem dX3_simulate_83 : decode cX3_simulate 83 = .ok (.iinc 7 1, 3) := by decide +kernel
theorem dX3_simulate_86 : decode cX3_simulate 86 = .ok (.goto (-44), 3) := by decide +kernel
theorem dX3_simulate_89 : decode cX3_simulate 89 = .ok (.aload_n 0, 1) := by decide +kernel
theorem dX3_simulate_90 : decode cX3_simulate 90 = .ok (.getfield 23, 3) := by decide +kernel
theorem dX3_simulate_93 : decode cX3_simulate 93 = .ok (.getfield 154, 3) := by decide +kernel
theorem dX3_simulate_96 : decode cX3_simulate 96 = .ok (.aload_n 0, 1) := by decide +kernel
theorem dX3_simulate_97 : decode cX3_simulate 97 = .ok (.getfield 19, 3) := by decide +kernel
theorem dX3_simulate_100 : decode cX3_simulate 100 = .ok (.getfield 154, 3) := by decide +kernel
theorem dX3_simulate_103 : decode cX3_simulate 103 = .ok (.isub, 1) := by decide +kernel
theorem dX3_simulate_104 : decode cX3_simulate 104 = .ok (.istore 7, 2) := by decide +kernel
theorem dX3_simulate_106 : decode cX3_simulate 106 = .ok (.aload_n 0, 1) := by decide +kernel
theorem dX3_simulate_107 : decode cX3_simulate 107 = .ok (.getfield 23, 3) := by decide +kernel
theorem dX3_simulate_110 : decode cX3_simulate 110 = .ok (.getfield 157, 3) := by decide +kernel
theorem dX3_simulate_113 : decode cX3_simulate 113 = .ok (.aload_n 0, 1) := by decide +kernel
theorem dX3_simulate_114 : decode cX3_simulate 114 = .ok (.getfield 19, 3) := by decide +kernel
theorem dX3_simulate_117 : decode cX3_simulate 117 = .ok (.getfield 157, 3) := by decide +kernel
theorem dX3_simulate_120 : decode cX3_simulate 120 = .ok (.isub, 1) := by decide +kernel
theorem dX3_simulate_121 : decode cX3_simulate 121 = .ok (.istore 8, 2) := by decide +kernel
theorem dX3_simulate_123 : decode cX3_simulate 123 = .ok (.sipush 10000, 3) := by decide +kernel
theorem dX3_simulate_126 : decode cX3_simulate 126 = .ok (.iload 4, 2) := by decide +kernel
theorem dX3_simulate_128 : decode cX3_simulate 128 = .ok (.imul, 1) := by decide +kernel
theorem dX3_simulate_129 : decode cX3_simulate 129 = .ok (.bipush 100, 2) := by decide +kernel
theorem dX3_simulate_131 : decode cX3_simulate 131 = .ok (.iload 7, 2) := by decide +kernel
theorem dX3_simulate_133 : decode cX3_simulate 133 = .ok (.imul, 1) := by decide +kernel
theorem dX3_simulate_134 : decode cX3_simulate 134 = .ok (.iadd, 1) := by decide +kernel
theorem dX3_simulate_135 : decode cX3_simulate 135 = .ok (.iload 8, 2) := by decide +kernel
theorem dX3_simulate_137 : decode cX3_simulate 137 = .ok (.iadd, 1) := by decide +kernel
theorem dX3_simulate_138 : decode cX3_simulate 138 = .ok (.ireturn, 1) := by decide +kernel
set_option maxRecDepth 20000 in
theorem ggX3_doSimulatedTurn_X1_tryTake : GoodIn wsX3_doSimulatedTurn wsX1_tryTake := goodIn_r _ [6, 7, 8, 9, 10, 5, 11, 12, 13, 14, 15, 16, 17, 18, 19, 20, 21, 22, 23, 24, 25, 26, 27, 28, 29, 30, 31, 32, 90, 91, 92, 93, 94, 95, 96, 97, 98, 99, 100, 101, 102, 103, 104] rfl rfl
set_option maxRecDepth 20000 in
theorem gX3_doSimulatedTurn_X1_tryTake : GoodIn wsX3_doSimulatedTurn (wsV RX3 119 RX1 yX1_tryTake wsX1_tryTake) := goodIn_app (goodIn_of _ (by decide +kernel)) ggX3_doSimulatedTurn_X1_tryTake
set_option maxRecDepth 20000 in
theorem ggX3_doSimulatedTurn_X1_tryBorrowOrBringBack : GoodIn wsX3_doSimulatedTurn wsX1_tryBorrowOrBringBack := goodIn_r _ [36, 37, 22, 14, 23, 38, 39, 40, 5, 41, 42, 43, 44, 45, 16, 17, 46, 47, 48, 49, 7, 12, 31, 32, 50, 51, 52, 53, 54, 55, 56, 57, 90, 91, 92, 93, 94, 95, 96, 97, 98, 99, 100, 101, 102, 103, 104] rfl rfl
set_option maxRecDepth 20000 in
theorem gX3_doSimulatedTurn_X1_tryBorrowOrBringBack : GoodIn wsX3_doSimulatedTurn (wsV RX3 127 RX1 yX1_tryBorrowOrBringBack wsX1_tryBorrowOrBringBack) := goodIn_app (goodIn_of _ (by decide +kernel)) ggX3_doSimulatedTurn_X1_tryBorrowOrBringBack
set_option maxRecDepth 20000 in
theorem ggX3_doSimulatedTurn_X1_tryWalkEitherWay : GoodIn wsX3_doSimulatedTurn wsX1_tryWalkEitherWay := goodIn_r _ [61, 12, 13, 14, 15, 62, 63, 64, 5, 65, 66, 67, 68, 69, 70, 71, 72, 73, 74, 90, 91, 92, 93, 94, 95, 96, 97, 98, 99, 100, 101, 102, 103, 104] rfl rfl
set_option maxRecDepth 20000 in
theorem gX3_doSimulatedTurn_X1_tryWalkEitherWay : GoodIn wsX3_doSimulatedTurn (wsV RX3 347 RX1 yX1_tryWalkEitherWay wsX1_tryWalkEitherWay) := goodIn_app (goodIn_of _ (by decide +kernel)) ggX3_doSimulatedTurn_X1_tryWalkEitherWay
set_option maxRecDepth 20000 in
theorem ggX3_doSimulatedTurn_X1_tryTurn : GoodIn wsX3_doSimulatedTurn wsX1_tryTurn := goodIn_r _ [78, 68, 79, 80, 81, 5, 82, 12, 13, 14, 15, 90, 91, 92, 93, 94, 95, 96, 97, 98, 99, 100, 101, 102, 103, 104] rfl rfl
set_option maxRecDepth 20000 in
theorem gX3_doSimulatedTurn_X1_tryTurn : GoodIn wsX3_doSimulatedTurn (wsV RX3 137 RX1 yX1_tryTurn wsX1_tryTurn) := goodIn_app (goodIn_of _ (by decide +kernel)) ggX3_doSimulatedTurn_X1_tryTurn
theorem dX3_doSimulatedTurn_0 : decode cX3_doSimulatedTurn 0 = .ok (.iload_n 1, 1) := by decide +kernel
theorem dX3_doSimulatedTurn_1 : decode cX3_doSimulatedTurn 1 = .ok (.bipush 8, 2) := by decide +kernel
theorem dX3_doSimulatedTurn_3 : decode cX3_doSimulatedTurn 3 = .ok (.idiv, 1) := by decide +kernel
theorem dX3_doSimulatedTurn_4 : decode cX3_doSimulatedTurn 4 = .ok (.bipush 6, 2) := by decide +kernel
theorem dX3_doSimulatedTurn_6 : decode cX3_doSimulatedTurn 6 = .ok (.irem, 1) := by decide +kernel
theorem dX3_doSimulatedTurn_7 : decode cX3_doSimulatedTurn 7 = .ok (.istore_n 2, 1) := by decide +kernel
theorem dX3_doSimulatedTurn_8 : decode cX3_doSimulatedTurn 8 = .ok (.iload_n 1, 1) := by decide +kernel
theorem dX3_doSimulatedTurn_9 : decode cX3_doSimulatedTurn 9 = .ok (.bipush 64, 2) := by decide +kernel
theorem dX3_doSimulatedTurn_11 : decode cX3_doSimulatedTurn 11 = .ok (.idiv, 1) := by decide +kernel
theorem dX3_doSimulatedTurn_12 : decode cX3_doSimulatedTurn 12 = .ok (.bipush 20, 2) := by decide +kernel
theorem dX3_doSimulatedTurn_14 : decode cX3_doSimulatedTurn 14 = .ok (.irem, 1) := by decide +kernel
theorem dX3_doSimulatedTurn_15 : decode cX3_doSimulatedTurn 15 = .ok (.istore_n 3, 1) := by decide +kernel
theorem dX3_doSimulatedTurn_16 : decode cX3_doSimulatedTurn 16 = .ok (.iload_n 1, 1) := by decide +kernel
theorem dX3_doSimulatedTurn_17 : decode cX3_doSimulatedTurn 17 = .ok (.sipush 2048, 3) := by decide +kernel
theorem dX3_doSimulatedTurn_20 : decode cX3_doSimulatedTurn 20 = .ok (.idiv, 1) := by decide +kernel
theorem dX3_doSimulatedTurn_21 : decode cX3_doSimulatedTurn 21 = .ok (.iconst 3, 1) := by decide +kernel
theorem dX3_doSimulatedTurn_22 : decode cX3_doSimulatedTurn 22 = .ok (.irem, 1) := by decide +kernel
theorem dX3_doSimulatedTurn_23 : decode cX3_doSimulatedTurn 23 = .ok (.istore 4, 2) := by decide +kernel
theorem dX3_doSimulatedTurn_25 : decode cX3_doSimulatedTurn 25 = .ok (.iload_n 1, 1) := by decide +kernel
theorem dX3_doSimulatedTurn_26 : decode cX3_doSimulatedTurn 26 = .ok (.bipush 8, 2) := by decide +kernel
theorem dX3_doSimulatedTurn_28 : decode cX3_doSimulatedTurn 28 = .ok (.irem, 1) := by decide +kernel
theorem dX3_doSimulatedTurn_29 : decode cX3_doSimulatedTurn 29 = .ok (.tableswitch 90 0 5 #[39, 39, 52, 64, 64, 78], 39) := by decide +kernel
theorem dX3_doSimulatedTurn_68 : decode cX3_doSimulatedTurn 68 = .ok (.aload_n 0, 1) := by decide +kernel
theorem dX3_doSimulatedTurn_69 : decode cX3_doSimulatedTurn 69 = .ok (.getfield 23, 3) := by decide +kernel
theorem dX3_doSimulatedTurn_72 : decode cX3_doSimulatedTurn 72 = .ok (.iload_n 2, 1) := by decide +kernel
theorem dX3_doSimulatedTurn_73 : decode cX3_doSimulatedTurn 73 = .ok (.iload_n 3, 1) := by decide +kernel
theorem dX3_doSimulatedTurn_74 : decode cX3_doSimulatedTurn 74 = .ok (.invokevirtual 119, 3) := by decide +kernel
theorem dX3_doSimulatedTurn_77 : decode cX3_doSimulatedTurn 77 = .ok (.pop, 1) := by decide +kernel
theorem dX3_doSimulatedTurn_78 : decode cX3_doSimulatedTurn 78 = .ok (.goto 41, 3) := by decide +kernel
theorem dX3_doSimulatedTurn_81 : decode cX3_doSimulatedTurn 81 = .ok (.aload_n 0, 1) := by decide +kernel
theorem dX3_doSimulatedTurn_82 : decode cX3_doSimulatedTurn 82 = .ok (.getfield 23, 3) := by decide +kernel
theorem dX3_doSimulatedTurn_85 : decode cX3_doSimulatedTurn 85 = .ok (.iload_n 3, 1) := by decide +kernel
theorem dX3_doSimulatedTurn_86 : decode cX3_doSimulatedTurn 86 = .ok (.invokevirtual 127, 3) := by decide +kernel
theorem dX3_doSimulatedTurn_89 : decode cX3_doSimulatedTurn 89 = .ok (.pop, 1) := by decide +kernel
theorem dX3_doSimulatedTurn_90 : decode cX3_doSimulatedTurn 90 = .ok (.goto 29, 3) := by decide +kernel
theorem dX3_doSimulatedTurn_93 : decode cX3_doSimulatedTurn 93 = .ok (.aload_n 0, 1) := by decide +kernel
theorem dX3_doSimulatedTurn_94 : decode cX3_doSimulatedTurn 94 = .ok (.getfield 23, 3) := by decide +kernel
theorem dX3_doSimulatedTurn_97 : decode cX3_doSimulatedTurn 97 = .ok (.iload_n 2, 1) := by decide +kernel
theorem dX3_doSimulatedTurn_98 : decode cX3_doSimulatedTurn 98 = .ok (.iload 4, 2) := by decide +kernel
theorem dX3_doSimulatedTurn_100 : decode cX3_doSimulatedTurn 100 = .ok (.invokevirtual 347, 3) := by decide +kernel
theorem dX3_doSimulatedTurn_103 : decode cX3_doSimulatedTurn 103 = .ok (.pop, 1) := by decide +kernel
theorem dX3_doSimulatedTurn_104 : decode cX3_doSimulatedTurn 104 = .ok (.goto 15, 3) := by decide +kernel
theorem dX3_doSimulatedTurn_107 : decode cX3_doSimulatedTurn 107 = .ok (.aload_n 0, 1) := by decide +kernel
theorem dX3_doSimulatedTurn_108 : decode cX3_doSimulatedTurn 108 = .ok (.getfield 23, 3) := by decide +kernel
theorem dX3_doSimulatedTurn_111 : decode cX3_doSimulatedTurn 111 = .ok (.iload_n 2, 1) := by decide +kernel
theorem dX3_doSimulatedTurn_112 : decode cX3_doSimulatedTurn 112 = .ok (.invokevirtual 137, 3) := by decide +kernel
theorem dX3_doSimulatedTurn_115 : decode cX3_doSimulatedTurn 115 = .ok (.pop, 1) := by decide +kernel
theorem dX3_doSimulatedTurn_116 : decode cX3_doSimulatedTurn 116 = .ok (.goto 3, 3) := by decide +kernel
theorem dX3_doSimulatedTurn_119 : decode cX3_doSimulatedTurn 119 = .ok (.return_, 1) := by decide +kernel
set_option maxRecDepth 20000 in
theorem ggX3_save_X3_requireSlot : GoodIn wsX3_save wsX3_requireSlot := goodIn_ca (goodIn_r _ [8, 9, 10] rfl rfl) (goodIn_sub (fun _ h => List.mem_cons_of_mem _ (List.mem_append_right _ h)) (by decide +kernel))
set_option maxRecDepth 20000 in
theorem gX3_save_X3_requireSlot : GoodIn wsX3_save (va_wsS RX3 350 yX3_requireSlot wsX3_requireSlot) := goodIn_app (goodIn_of _ (by decide +kernel)) ggX3_save_X3_requireSlot
set_option maxRecDepth 20000 in
theorem ggX3_save_X1_copyFrom : GoodIn wsX3_save wsX1_copyFrom := goodIn_r _ [15, 16, 17, 18, 19, 20, 21, 22, 23, 24, 25, 26, 27, 28, 29, 30, 31, 32, 33, 34, 35, 36, 37, 38, 39, 40, 41, 42, 43, 44, 45, 7, 46, 47, 48, 49, 50, 51, 52, 53, 54, 62, 63, 64, 65, 66, 67, 68, 69, 70, 71, 72, 73, 74, 75, 76, 77, 78, 79, 80, 81, 82, 83, 84, 85] rfl rfl
set_option maxRecDepth 20000 in
theorem gX3_save_X1_copyFrom : GoodIn wsX3_save (wsV RX3 305 RX1 yX1_copyFrom wsX1_copyFrom) := goodIn_app (goodIn_of _ (by decide +kernel)) ggX3_save_X1_copyFrom
theorem dX3_save_0 : decode cX3_save 0 = .ok (.iload_n 1, 1) := by decide +kernel
theorem dX3_save_1 : decode cX3_save 1 = .ok (.invokestatic 350, 3) := by decide +kernel
theorem dX3_save_4 : decode cX3_save 4 = .ok (.aload_n 0, 1) := by decide +kernel
theorem dX3_save_5 : decode cX3_save 5 = .ok (.getfield 34, 3) := by decide +kernel
theorem dX3_save_8 : decode cX3_save 8 = .ok (.iload_n 1, 1) := by decide +kernel
theorem dX3_save_9 : decode cX3_save 9 = .ok (.aaload, 1) := by decide +kernel
theorem dX3_save_10 : decode cX3_save 10 = .ok (.aload_n 0, 1) := by decide +kernel
theorem dX3_save_11 : decode cX3_save 11 = .ok (.getfield 19, 3) := by decide +kernel
theorem dX3_save_14 : decode cX3_save 14 = .ok (.invokevirtual 305, 3) := by decide +kernel
theorem dX3_save_17 : decode cX3_save 17 = .ok (.aload_n 0, 1) := by decide +kernel
theorem dX3_save_18 : decode cX3_save 18 = .ok (.getfield 37, 3) := by decide +kernel
theorem dX3_save_21 : decode cX3_save 21 = .ok (.iload_n 1, 1) := by decide +kernel
theorem dX3_save_22 : decode cX3_save 22 = .ok (.iconst 1, 1) := by decide +kernel
theorem dX3_save_23 : decode cX3_save 23 = .ok (.bastore, 1) := by decide +kernel
theorem dX3_save_24 : decode cX3_save 24 = .ok (.aload_n 0, 1) := by decide +kernel
theorem dX3_save_25 : decode cX3_save 25 = .ok (.getfield 19, 3) := by decide +kernel
theorem dX3_save_28 : decode cX3_save 28 = .ok (.getfield 147, 3) := by decide +kernel
theorem dX3_save_31 : decode cX3_save 31 = .ok (.ireturn, 1) := by decide +kernel
set_option maxRecDepth 20000 in
theorem ggX3_restore_X3_requireSlot : GoodIn wsX3_restore wsX3_requireSlot := goodIn_ca (goodIn_r _ [9, 10, 11] rfl rfl) (goodIn_sub (fun _ h => List.mem_cons_of_mem _ (List.mem_append_left _ (List.mem_append_right _ h))) (by decide +kernel))
set_option maxRecDepth 20000 in
theorem gX3_restore_X3_requireSlot : GoodIn wsX3_restore (va_wsS RX3 350 yX3_requireSlot wsX3_requireSlot) := goodIn_app (goodIn_of _ (by decide +kernel)) ggX3_restore_X3_requireSlot
set_option maxRecDepth 20000 in
theorem ggX3_restore_X3_requireAllowed : GoodIn wsX3_restore wsX3_requireAllowed := goodIn_ca (goodIn_r _ [14, 15, 16] rfl rfl) (goodIn_sub (fun _ h => List.mem_cons_of_mem _ (List.mem_append_right _ h)) (by decide +kernel))
set_option maxRecDepth 20000 in
theorem gX3_restore_X3_requireAllowed : GoodIn wsX3_restore (va_wsS RX3 258 yX3_requireAllowed wsX3_requireAllowed) := goodIn_app (goodIn_of _ (by decide +kernel)) ggX3_restore_X3_requireAllowed
set_option maxRecDepth 20000 in
theorem ggX3_restore_X1_copyFrom : GoodIn wsX3_restore wsX1_copyFrom := goodIn_r _ [21, 22, 23, 24, 25, 26, 27, 28, 29, 30, 31, 32, 33, 34, 35, 36, 37, 38, 39, 40, 41, 42, 43, 44, 45, 46, 47, 48, 49, 50, 51, 8, 52, 53, 54, 55, 56, 57, 58, 59, 60, 68, 69, 70, 71, 72, 73, 74, 75, 76, 77, 78, 79, 80, 81, 82, 83, 84, 85, 86, 87, 88, 89, 90, 91] rfl rfl
set_option maxRecDepth 20000 in
theorem gX3_restore_X1_copyFrom : GoodIn wsX3_restore (wsV RX3 305 RX1 yX1_copyFrom wsX1_copyFrom) := goodIn_app (goodIn_of _ (by decide +kernel)) ggX3_restore_X1_copyFrom
theorem dX3_restore_0 : decode cX3_restore 0 = .ok (.iload_n 1, 1) := by decide +kernel
theorem dX3_restore_1 : decode cX3_restore 1 = .ok (.invokestatic 350, 3) := by decide +kernel
theorem dX3_restore_4 : decode cX3_restore 4 = .ok (.aload_n 0, 1) := by decide +kernel
theorem dX3_restore_5 : decode cX3_restore 5 = .ok (.getfield 37, 3) := by decide +kernel
theorem dX3_restore_8 : decode cX3_restore 8 = .ok (.iload_n 1, 1) := by decide +kernel
theorem dX3_restore_9 : decode cX3_restore 9 = .ok (.baload, 1) := by decide +kernel
theorem dX3_restore_10 : decode cX3_restore 10 = .ok (.invokestatic 258, 3) := by decide +kernel
theorem dX3_restore_13 : decode cX3_restore 13 = .ok (.aload_n 0, 1) := by decide +kernel
theorem dX3_restore_14 : decode cX3_restore 14 = .ok (.getfield 19, 3) := by decide +kernel
theorem dX3_restore_17 : decode cX3_restore 17 = .ok (.aload_n 0, 1) := by decide +kernel
theorem dX3_restore_18 : decode cX3_restore 18 = .ok (.getfield 34, 3) := by decide +kernel
theorem dX3_restore_21 : decode cX3_restore 21 = .ok (.iload_n 1, 1) := by decide +kernel
theorem dX3_restore_22 : decode cX3_restore 22 = .ok (.aaload, 1) := by decide +kernel
theorem dX3_restore_23 : decode cX3_restore 23 = .ok (.invokevirtual 305, 3) := by decide +kernel
theorem dX3_restore_26 : decode cX3_restore 26 = .ok (.aload_n 0, 1) := by decide +kernel
theorem dX3_restore_27 : decode cX3_restore 27 = .ok (.iconst 0, 1) := by decide +kernel
theorem dX3_restore_28 : decode cX3_restore 28 = .ok (.putfield 30, 3) := by decide +kernel
theorem dX3_restore_31 : decode cX3_restore 31 = .ok (.aload_n 0, 1) := by decide +kernel
theorem dX3_restore_32 : decode cX3_restore 32 = .ok (.getfield 19, 3) := by decide +kernel
theorem dX3_restore_35 : decode cX3_restore 35 = .ok (.getfield 147, 3) := by decide +kernel
theorem dX3_restore_38 : decode cX3_restore 38 = .ok (.ireturn, 1) := by decide +kernel
theorem dX3_isBook_0 : decode cX3_isBook 0 = .ok (.iload_n 0, 1) := by decide +kernel
theorem dX3_isBook_1 : decode cX3_isBook 1 = .ok (.ifCond .lt 13, 3) := by decide +kernel
theorem dX3_isBook_4 : decode cX3_isBook 4 = .ok (.iload_n 0, 1) := by decide +kernel
theorem dX3_isBook_5 : decode cX3_isBook 5 = .ok (.bipush 20, 2) := by decide +kernel
theorem dX3_isBook_7 : decode cX3_isBook 7 = .ok (.if_icmp .ge 7, 3) := by decide +kernel
theorem dX3_isBook_10 : decode cX3_isBook 10 = .ok (.iconst 1, 1) := by decide +kernel
theorem dX3_isBook_11 : decode cX3_isBook 11 = .ok (.goto 4, 3) := by decide +kernel
theorem dX3_isBook_14 : decode cX3_isBook 14 = .ok (.iconst 0, 1) := by decide +kernel
theorem dX3_isBook_15 : decode cX3_isBook 15 = .ok (.ireturn, 1) := by decide +kernel
theorem dX3_isVisitor_0 : decode cX3_isVisitor 0 = .ok (.iload_n 0, 1) := by decide +kernel
theorem dX3_isVisitor_1 : decode cX3_isVisitor 1 = .ok (.ifCond .lt 13, 3) := by decide +kernel
theorem dX3_isVisitor_4 : decode cX3_isVisitor 4 = .ok (.iload_n 0, 1) := by decide +kernel
theorem dX3_isVisitor_5 : decode cX3_isVisitor 5 = .ok (.bipush 6, 2) := by decide +kernel
theorem dX3_isVisitor_7 : decode cX3_isVisitor 7 = .ok (.if_icmp .ge 7, 3) := by decide +kernel
theorem dX3_isVisitor_10 : decode cX3_isVisitor 10 = .ok (.iconst 1, 1) := by decide +kernel
theorem dX3_isVisitor_11 : decode cX3_isVisitor 11 = .ok (.goto 4, 3) := by decide +kernel
theorem dX3_isVisitor_14 : decode cX3_isVisitor 14 = .ok (.iconst 0, 1) := by decide +kernel
theorem dX3_isVisitor_15 : decode cX3_isVisitor 15 = .ok (.ireturn, 1) := by decide +kernel
theorem dX3_isGate_0 : decode cX3_isGate 0 = .ok (.iload_n 0, 1) := by decide +kernel
theorem dX3_isGate_1 : decode cX3_isGate 1 = .ok (.ifCond .lt 12, 3) := by decide +kernel
theorem dX3_isGate_4 : decode cX3_isGate 4 = .ok (.iload_n 0, 1) := by decide +kernel
theorem dX3_isGate_5 : decode cX3_isGate 5 = .ok (.iconst 3, 1) := by decide +kernel
theorem dX3_isGate_6 : decode cX3_isGate 6 = .ok (.if_icmp .ge 7, 3) := by decide +kernel
theorem dX3_isGate_9 : decode cX3_isGate 9 = .ok (.iconst 1, 1) := by decide +kernel
theorem dX3_isGate_10 : decode cX3_isGate 10 = .ok (.goto 4, 3) := by decide +kernel
theorem dX3_isGate_13 : decode cX3_isGate 13 = .ok (.iconst 0, 1) := by decide +kernel
theorem dX3_isGate_14 : decode cX3_isGate 14 = .ok (.ireturn, 1) := by decide +kernel
theorem dX3_isTickNumber_0 : decode cX3_isTickNumber 0 = .ok (.iload_n 0, 1) := by decide +kernel
theorem dX3_isTickNumber_1 : decode cX3_isTickNumber 1 = .ok (.iconst 1, 1) := by decide +kernel
theorem dX3_isTickNumber_2 : decode cX3_isTickNumber 2 = .ok (.if_icmp .lt 13, 3) := by decide +kernel
theorem dX3_isTickNumber_5 : decode cX3_isTickNumber 5 = .ok (.iload_n 0, 1) := by decide +kernel
theorem dX3_isTickNumber_6 : decode cX3_isTickNumber 6 = .ok (.bipush 50, 2) := by decide +kernel
theorem dX3_isTickNumber_8 : decode cX3_isTickNumber 8 = .ok (.if_icmp .gt 7, 3) := by decide +kernel
theorem dX3_isTickNumber_11 : decode cX3_isTickNumber 11 = .ok (.iconst 1, 1) := by decide +kernel
theorem dX3_isTickNumber_12 : decode cX3_isTickNumber 12 = .ok (.goto 4, 3) := by decide +kernel
theorem dX3_isTickNumber_15 : decode cX3_isTickNumber 15 = .ok (.iconst 0, 1) := by decide +kernel
theorem dX3_isTickNumber_16 : decode cX3_isTickNumber 16 = .ok (.ireturn, 1) := by decide +kernel
set_option maxRecDepth 20000 in
theorem ggX3_isSetting_X3_isGate : GoodIn wsX3_isSetting wsX3_isGate := goodIn_r _ [4] rfl rfl
set_option maxRecDepth 20000 in
theorem gX3_isSetting_X3_isGate : GoodIn wsX3_isSetting (va_wsS RX3 353 yX3_isGate wsX3_isGate) := goodIn_app (goodIn_of _ (by decide +kernel)) ggX3_isSetting_X3_isGate
theorem dX3_isSetting_0 : decode cX3_isSetting 0 = .ok (.iload_n 0, 1) := by decide +kernel
theorem dX3_isSetting_1 : decode cX3_isSetting 1 = .ok (.invokestatic 353, 3) := by decide +kernel
theorem dX3_isSetting_4 : decode cX3_isSetting 4 = .ok (.ifCond .eq 19, 3) := by decide +kernel
theorem dX3_isSetting_7 : decode cX3_isSetting 7 = .ok (.iload_n 1, 1) := by decide +kernel
theorem dX3_isSetting_8 : decode cX3_isSetting 8 = .ok (.ifCond .lt 13, 3) := by decide +kernel
theorem dX3_isSetting_11 : decode cX3_isSetting 11 = .ok (.iload_n 1, 1) := by decide +kernel
theorem dX3_isSetting_12 : decode cX3_isSetting 12 = .ok (.bipush 15, 2) := by decide +kernel
theorem dX3_isSetting_14 : decode cX3_isSetting 14 = .ok (.if_icmp .gt 7, 3) := by decide +kernel
theorem dX3_isSetting_17 : decode cX3_isSetting 17 = .ok (.iconst 1, 1) := by decide +kernel
theorem dX3_isSetting_18 : decode cX3_isSetting 18 = .ok (.goto 4, 3) := by decide +kernel
theorem dX3_isSetting_21 : decode cX3_isSetting 21 = .ok (.iconst 0, 1) := by decide +kernel
theorem dX3_isSetting_22 : decode cX3_isSetting 22 = .ok (.ireturn, 1) := by decide +kernel
theorem dX3_isSetting_23 : decode cX3_isSetting 23 = .ok (.iload_n 0, 1) := by decide +kernel
theorem dX3_isSetting_24 : decode cX3_isSetting 24 = .ok (.iconst 3, 1) := by decide +kernel
theorem dX3_isSetting_25 : decode cX3_isSetting 25 = .ok (.if_icmp .ne 19, 3) := by decide +kernel
theorem dX3_isSetting_28 : decode cX3_isSetting 28 = .ok (.iload_n 1, 1) := by decide +kernel
theorem dX3_isSetting_29 : decode cX3_isSetting 29 = .ok (.iconst 1, 1) := by decide +kernel
theorem dX3_isSetting_30 : decode cX3_isSetting 30 = .ok (.if_icmp .lt 12, 3) := by decide +kernel
theorem dX3_isSetting_33 : decode cX3_isSetting 33 = .ok (.iload_n 1, 1) := by decide +kernel
theorem dX3_isSetting_34 : decode cX3_isSetting 34 = .ok (.iconst 3, 1) := by decide +kernel
theorem dX3_isSetting_35 : decode cX3_isSetting 35 = .ok (.if_icmp .gt 7, 3) := by decide +kernel
theorem dX3_isSetting_38 : decode cX3_isSetting 38 = .ok (.iconst 1, 1) := by decide +kernel
theorem dX3_isSetting_39 : decode cX3_isSetting 39 = .ok (.goto 4, 3) := by decide +kernel
theorem dX3_isSetting_42 : decode cX3_isSetting 42 = .ok (.iconst 0, 1) := by decide +kernel
theorem dX3_isSetting_43 : decode cX3_isSetting 43 = .ok (.ireturn, 1) := by decide +kernel
theorem dX3_isSetting_44 : decode cX3_isSetting 44 = .ok (.iload_n 0, 1) := by decide +kernel
theorem dX3_isSetting_45 : decode cX3_isSetting 45 = .ok (.iconst 4, 1) := by decide +kernel
theorem dX3_isSetting_46 : decode cX3_isSetting 46 = .ok (.if_icmp .ne 17, 3) := by decide +kernel
theorem dX3_isSetting_49 : decode cX3_isSetting 49 = .ok (.iload_n 1, 1) := by decide +kernel
theorem dX3_isSetting_50 : decode cX3_isSetting 50 = .ok (.ifCond .lt 13, 3) := by decide +kernel
theorem dX3_isSetting_53 : decode cX3_isSetting 53 = .ok (.iload_n 1, 1) := by decide +kernel
theorem dX3_isSetting_54 : decode cX3_isSetting 54 = .ok (.bipush 9, 2) := by decide +kernel
theorem dX3_isSetting_56 : decode cX3_isSetting 56 = .ok (.if_icmp .gt 7, 3) := by decide +kernel
theorem dX3_isSetting_59 : decode cX3_isSetting 59 = .ok (.iconst 1, 1) := by decide +kernel
theorem dX3_isSetting_60 : decode cX3_isSetting 60 = .ok (.goto 4, 3) := by decide +kernel
theorem dX3_isSetting_63 : decode cX3_isSetting 63 = .ok (.iconst 0, 1) := by decide +kernel
theorem dX3_isSetting_64 : decode cX3_isSetting 64 = .ok (.ireturn, 1) := by decide +kernel
set_option maxRecDepth 20000 in
theorem ggX3_requireBook_X3_isBook : GoodIn wsX3_requireBook wsX3_isBook := goodIn_r _ [6] rfl rfl
set_option maxRecDepth 20000 in
theorem gX3_requireBook_X3_isBook : GoodIn wsX3_requireBook (va_wsS RX3 332 yX3_isBook wsX3_isBook) := goodIn_app (goodIn_of _ (by decide +kernel)) ggX3_requireBook_X3_isBook
theorem dX3_requireBook_0 : decode cX3_requireBook 0 = .ok (.iload_n 0, 1) := by decide +kernel
theorem dX3_requireBook_1 : decode cX3_requireBook 1 = .ok (.invokestatic 332, 3) := by decide +kernel
theorem dX3_requireBook_4 : decode cX3_requireBook 4 = .ok (.ifCond .ne 14, 3) := by decide +kernel
theorem dX3_requireBook_7 : decode cX3_requireBook 7 = .ok (.new 356, 3) := by decide +kernel
theorem dX3_requireBook_10 : decode cX3_requireBook 10 = .ok (.dup, 1) := by decide +kernel
theorem dX3_requireBook_11 : decode cX3_requireBook 11 = .ok (.ldc_w 358, 3) := by decide +kernel
theorem dX3_requireBook_14 : decode cX3_requireBook 14 = .ok (.invokespecial 360, 3) := by decide +kernel
theorem dX3_requireBook_17 : decode cX3_requireBook 17 = .ok (.athrow, 1) := by decide +kernel
theorem dX3_requireBook_18 : decode cX3_requireBook 18 = .ok (.return_, 1) := by decide +kernel
set_option maxRecDepth 20000 in
theorem ggX3_requireVisitor_X3_isVisitor : GoodIn wsX3_requireVisitor wsX3_isVisitor := goodIn_r _ [6] rfl rfl
set_option maxRecDepth 20000 in
theorem gX3_requireVisitor_X3_isVisitor : GoodIn wsX3_requireVisitor (va_wsS RX3 335 yX3_isVisitor wsX3_isVisitor) := goodIn_app (goodIn_of _ (by decide +kernel)) ggX3_requireVisitor_X3_isVisitor
theorem dX3_requireVisitor_0 : decode cX3_requireVisitor 0 = .ok (.iload_n 0, 1) := by decide +kernel
theorem dX3_requireVisitor_1 : decode cX3_requireVisitor 1 = .ok (.invokestatic 335, 3) := by decide +kernel
theorem dX3_requireVisitor_4 : decode cX3_requireVisitor 4 = .ok (.ifCond .ne 14, 3) := by decide +kernel
theorem dX3_requireVisitor_7 : decode cX3_requireVisitor 7 = .ok (.new 356, 3) := by decide +kernel
theorem dX3_requireVisitor_10 : decode cX3_requireVisitor 10 = .ok (.dup, 1) := by decide +kernel
theorem dX3_requireVisitor_11 : decode cX3_requireVisitor 11 = .ok (.ldc_w 361, 3) := by decide +kernel
theorem dX3_requireVisitor_14 : decode cX3_requireVisitor 14 = .ok (.invokespecial 360, 3) := by decide +kernel
theorem dX3_requireVisitor_17 : decode cX3_requireVisitor 17 = .ok (.athrow, 1) := by decide +kernel
theorem dX3_requireVisitor_18 : decode cX3_requireVisitor 18 = .ok (.return_, 1) := by decide +kernel
set_option maxRecDepth 20000 in
theorem ggX3_requireGate_X3_isGate : GoodIn wsX3_requireGate wsX3_isGate := goodIn_r _ [6] rfl rfl
set_option maxRecDepth 20000 in
theorem gX3_requireGate_X3_isGate : GoodIn wsX3_requireGate (va_wsS RX3 353 yX3_isGate wsX3_isGate) := goodIn_app (goodIn_of _ (by decide +kernel)) ggX3_requireGate_X3_isGate
theorem dX3_requireGate_0 : decode cX3_requireGate 0 = .ok (.iload_n 0, 1) := by decide +kernel
theorem dX3_requireGate_1 : decode cX3_requireGate 1 = .ok (.invokestatic 353, 3) := by decide +kernel
theorem dX3_requireGate_4 : decode cX3_requireGate 4 = .ok (.ifCond .ne 14, 3) := by decide +kernel
theorem dX3_requireGate_7 : decode cX3_requireGate 7 = .ok (.new 356, 3) := by decide +kernel
theorem dX3_requireGate_10 : decode cX3_requireGate 10 = .ok (.dup, 1) := by decide +kernel
theorem dX3_requireGate_11 : decode cX3_requireGate 11 = .ok (.ldc_w 363, 3) := by decide +kernel
theorem dX3_requireGate_14 : decode cX3_requireGate 14 = .ok (.invokespecial 360, 3) := by decide +kernel
theorem dX3_requireGate_17 : decode cX3_requireGate 17 = .ok (.athrow, 1) := by decide +kernel
theorem dX3_requireGate_18 : decode cX3_requireGate 18 = .ok (.return_, 1) := by decide +kernel
theorem dX3_requireSlot_0 : decode cX3_requireSlot 0 = .ok (.iload_n 0, 1) := by decide +kernel
theorem dX3_requireSlot_1 : decode cX3_requireSlot 1 = .ok (.ifCond .lt 8, 3) := by decide +kernel
theorem dX3_requireSlot_4 : decode cX3_requireSlot 4 = .ok (.iload_n 0, 1) := by decide +kernel
theorem dX3_requireSlot_5 : decode cX3_requireSlot 5 = .ok (.iconst 2, 1) := by decide +kernel
theorem dX3_requireSlot_6 : decode cX3_requireSlot 6 = .ok (.if_icmp .lt 14, 3) := by decide +kernel
theorem dX3_requireSlot_9 : decode cX3_requireSlot 9 = .ok (.new 356, 3) := by decide +kernel
theorem dX3_requireSlot_12 : decode cX3_requireSlot 12 = .ok (.dup, 1) := by decide +kernel
theorem dX3_requireSlot_13 : decode cX3_requireSlot 13 = .ok (.ldc_w 365, 3) := by decide +kernel
theorem dX3_requireSlot_16 : decode cX3_requireSlot 16 = .ok (.invokespecial 360, 3) := by decide +kernel
theorem dX3_requireSlot_19 : decode cX3_requireSlot 19 = .ok (.athrow, 1) := by decide +kernel
theorem dX3_requireSlot_20 : decode cX3_requireSlot 20 = .ok (.return_, 1) := by decide +kernel
theorem dX3_requireAllowed_0 : decode cX3_requireAllowed 0 = .ok (.iload_n 0, 1) := by decide +kernel
theorem dX3_requireAllowed_1 : decode cX3_requireAllowed 1 = .ok (.ifCond .ne 14, 3) := by decide +kernel
theorem dX3_requireAllowed_4 : decode cX3_requireAllowed 4 = .ok (.new 52, 3) := by decide +kernel
theorem dX3_requireAllowed_7 : decode cX3_requireAllowed 7 = .ok (.dup, 1) := by decide +kernel
theorem dX3_requireAllowed_8 : decode cX3_requireAllowed 8 = .ok (.ldc_w 367, 3) := by decide +kernel
theorem dX3_requireAllowed_11 : decode cX3_requireAllowed 11 = .ok (.invokespecial 56, 3) := by decide +kernel
theorem dX3_requireAllowed_14 : decode cX3_requireAllowed 14 = .ok (.athrow, 1) := by decide +kernel
theorem dX3_requireAllowed_15 : decode cX3_requireAllowed 15 = .ok (.return_, 1) := by decide +kernel
theorem dX3_bit_0 : decode cX3_bit 0 = .ok (.iconst 1, 1) := by decide +kernel
theorem dX3_bit_1 : decode cX3_bit 1 = .ok (.iload_n 0, 1) := by decide +kernel
theorem dX3_bit_2 : decode cX3_bit 2 = .ok (.ishl, 1) := by decide +kernel
theorem dX3_bit_3 : decode cX3_bit 3 = .ok (.ireturn, 1) := by decide +kernel
theorem dX3_has_0 : decode cX3_has 0 = .ok (.iload_n 0, 1) := by decide +kernel
theorem dX3_has_1 : decode cX3_has 1 = .ok (.iload_n 1, 1) := by decide +kernel
theorem dX3_has_2 : decode cX3_has 2 = .ok (.ishr, 1) := by decide +kernel
theorem dX3_has_3 : decode cX3_has 3 = .ok (.iconst 1, 1) := by decide +kernel
theorem dX3_has_4 : decode cX3_has 4 = .ok (.iand, 1) := by decide +kernel
theorem dX3_has_5 : decode cX3_has 5 = .ok (.ifCond .eq 7, 3) := by decide +kernel
theorem dX3_has_8 : decode cX3_has 8 = .ok (.iconst 1, 1) := by decide +kernel
theorem dX3_has_9 : decode cX3_has 9 = .ok (.goto 4, 3) := by decide +kernel
theorem dX3_has_12 : decode cX3_has 12 = .ok (.iconst 0, 1) := by decide +kernel
theorem dX3_has_13 : decode cX3_has 13 = .ok (.ireturn, 1) := by decide +kernel
theorem dX3_oneIf_0 : decode cX3_oneIf 0 = .ok (.iload_n 0, 1) := by decide +kernel
theorem dX3_oneIf_1 : decode cX3_oneIf 1 = .ok (.ifCond .eq 7, 3) := by decide +kernel
theorem dX3_oneIf_4 : decode cX3_oneIf 4 = .ok (.iconst 1, 1) := by decide +kernel
theorem dX3_oneIf_5 : decode cX3_oneIf 5 = .ok (.goto 4, 3) := by decide +kernel
theorem dX3_oneIf_8 : decode cX3_oneIf 8 = .ok (.iconst 0, 1) := by decide +kernel
theorem dX3_oneIf_9 : decode cX3_oneIf 9 = .ok (.ireturn, 1) := by decide +kernel
theorem dX3_copyInts_0 : decode cX3_copyInts 0 = .ok (.aload_n 0, 1) := by decide +kernel
theorem dX3_copyInts_1 : decode cX3_copyInts 1 = .ok (.iconst 0, 1) := by decide +kernel
theorem dX3_copyInts_2 : decode cX3_copyInts 2 = .ok (.aload_n 1, 1) := by decide +kernel
theorem dX3_copyInts_3 : decode cX3_copyInts 3 = .ok (.iconst 0, 1) := by decide +kernel
theorem dX3_copyInts_4 : decode cX3_copyInts 4 = .ok (.aload_n 0, 1) := by decide +kernel
theorem dX3_copyInts_5 : decode cX3_copyInts 5 = .ok (.arraylength, 1) := by decide +kernel
theorem dX3_copyInts_6 : decode cX3_copyInts 6 = .ok (.aload_n 1, 1) := by decide +kernel
theorem dX3_copyInts_7 : decode cX3_copyInts 7 = .ok (.arraylength, 1) := by decide +kernel
theorem dX3_copyInts_8 : decode cX3_copyInts 8 = .ok (.invokestatic 369, 3) := by decide +kernel
theorem dX3_copyInts_11 : decode cX3_copyInts 11 = .ok (.invokestatic 374, 3) := by decide +kernel
theorem dX3_copyInts_14 : decode cX3_copyInts 14 = .ok (.return_, 1) := by decide +kernel
