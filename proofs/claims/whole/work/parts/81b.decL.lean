theorem dL_set_0 : decode cL_set 0 = .ok (.aload_n 3, 1) := by decide +kernel
theorem dL_set_1 : decode cL_set 1 = .ok (.iconst 0, 1) := by decide +kernel
theorem dL_set_2 : decode cL_set 2 = .ok (.aload_n 0, 1) := by decide +kernel
theorem dL_set_3 : decode cL_set 3 = .ok (.iload_n 1, 1) := by decide +kernel
theorem dL_set_4 : decode cL_set 4 = .ok (.iload_n 2, 1) := by decide +kernel
theorem dL_set_5 : decode cL_set 5 = .ok (.invokevirtual 61, 3) := by decide +kernel
theorem dL_set_8 : decode cL_set 8 = .ok (.i2l, 1) := by decide +kernel
theorem dL_set_9 : decode cL_set 9 = .ok (.lastore, 1) := by decide +kernel
theorem dL_set_10 : decode cL_set 10 = .ok (.goto 7, 3) := by decide +kernel
theorem dL_set_13 : decode cL_set 13 = .ok (.astore 4, 2) := by decide +kernel
theorem dL_set_15 : decode cL_set 15 = .ok (.iconst 1, 1) := by decide +kernel
theorem dL_set_16 : decode cL_set 16 = .ok (.ireturn, 1) := by decide +kernel
theorem dL_set_17 : decode cL_set 17 = .ok (.iconst 0, 1) := by decide +kernel
theorem dL_set_18 : decode cL_set 18 = .ok (.ireturn, 1) := by decide +kernel
set_option maxRecDepth 20000 in
theorem ggL_undo_X3_undo : GoodIn wsL_undo wsX3_undo := goodIn_ca (goodIn_r _ [6, 7, 8, 9, 10, 11, 12, 13, 14, 15, 16, 17, 18, 19, 20, 21, 22, 23, 24, 25, 26, 27, 28, 29, 30, 31, 32, 33, 34, 35, 36, 37, 38, 39, 40, 41, 42, 43, 44, 45, 46, 5, 47, 48, 49, 50, 51, 52, 53, 54, 55, 56, 57, 58, 59, 60, 61, 62, 63, 64, 65, 66, 67, 68, 69, 70, 71, 72, 73, 74, 75, 76, 77, 78, 79, 80, 81, 82, 83, 84, 85, 86] rfl rfl) (goodIn_sub (fun _ h => List.mem_cons_of_mem _ (List.mem_append_right _ h)) (by decide +kernel))
set_option maxRecDepth 20000 in
theorem gL_undo_X3_undo : GoodIn wsL_undo (wsV RL 64 RX3 yX3_undo wsX3_undo) := goodIn_app (goodIn_of _ (by decide +kernel)) ggL_undo_X3_undo
theorem dL_undo_0 : decode cL_undo 0 = .ok (.aload_n 1, 1) := by decide +kernel
theorem dL_undo_1 : decode cL_undo 1 = .ok (.iconst 0, 1) := by decide +kernel
theorem dL_undo_2 : decode cL_undo 2 = .ok (.aload_n 0, 1) := by decide +kernel
theorem dL_undo_3 : decode cL_undo 3 = .ok (.invokevirtual 64, 3) := by decide +kernel
theorem dL_undo_6 : decode cL_undo 6 = .ok (.i2l, 1) := by decide +kernel
theorem dL_undo_7 : decode cL_undo 7 = .ok (.lastore, 1) := by decide +kernel
theorem dL_undo_8 : decode cL_undo 8 = .ok (.goto 6, 3) := by decide +kernel
theorem dL_undo_11 : decode cL_undo 11 = .ok (.astore_n 2, 1) := by decide +kernel
theorem dL_undo_12 : decode cL_undo 12 = .ok (.iconst 1, 1) := by decide +kernel
theorem dL_undo_13 : decode cL_undo 13 = .ok (.ireturn, 1) := by decide +kernel
theorem dL_undo_14 : decode cL_undo 14 = .ok (.iconst 0, 1) := by decide +kernel
theorem dL_undo_15 : decode cL_undo 15 = .ok (.ireturn, 1) := by decide +kernel
set_option maxRecDepth 20000 in
theorem ggL_shouted_X3_shouted : GoodIn wsL_shouted wsX3_shouted := goodIn_ca (goodIn_r _ [6, 7, 8, 9, 10, 11, 5, 12, 13, 14, 15, 16, 17, 18, 19, 20, 21, 22, 23, 24, 25, 26, 27, 28, 29, 30, 31, 32, 33, 34, 35, 36, 37, 38, 39, 40, 41, 42, 43, 44, 45, 46, 47, 48, 49, 50, 51, 52, 53, 54, 55, 56, 57, 58, 59, 60, 61, 62, 63, 64, 65, 66, 67, 68, 69, 70, 71, 72, 73, 74, 75, 76, 77, 78, 79, 80, 81, 82, 83, 84, 85, 86, 87, 88, 89, 90, 91, 92, 93, 94, 95, 96, 97, 98, 99, 100, 101, 102, 103, 104, 105, 106, 107, 108, 109, 110, 111, 112, 113, 114, 115, 116, 117, 118, 119, 120, 121, 122, 123, 124, 125, 126, 127, 128, 129, 130, 131, 132, 133, 134, 135, 136, 137, 138, 139, 140, 141, 142, 143, 144, 145, 146, 147, 148, 149, 150, 151, 152, 153, 154, 155, 156, 157, 158, 159, 160, 161, 162, 163, 164] rfl rfl) (goodIn_sub (fun _ h => List.mem_cons_of_mem _ (List.mem_append_right _ h)) (by decide +kernel))
set_option maxRecDepth 20000 in
theorem gL_shouted_X3_shouted : GoodIn wsL_shouted (wsV RL 67 RX3 yX3_shouted wsX3_shouted) := goodIn_app (goodIn_of _ (by decide +kernel)) ggL_shouted_X3_shouted
theorem dL_shouted_0 : decode cL_shouted 0 = .ok (.aload_n 2, 1) := by decide +kernel
theorem dL_shouted_1 : decode cL_shouted 1 = .ok (.iconst 0, 1) := by decide +kernel
theorem dL_shouted_2 : decode cL_shouted 2 = .ok (.aload_n 0, 1) := by decide +kernel
theorem dL_shouted_3 : decode cL_shouted 3 = .ok (.iload_n 1, 1) := by decide +kernel
theorem dL_shouted_4 : decode cL_shouted 4 = .ok (.invokevirtual 67, 3) := by decide +kernel
theorem dL_shouted_7 : decode cL_shouted 7 = .ok (.i2l, 1) := by decide +kernel
theorem dL_shouted_8 : decode cL_shouted 8 = .ok (.lastore, 1) := by decide +kernel
theorem dL_shouted_9 : decode cL_shouted 9 = .ok (.goto 6, 3) := by decide +kernel
theorem dL_shouted_12 : decode cL_shouted 12 = .ok (.astore_n 3, 1) := by decide +kernel
theorem dL_shouted_13 : decode cL_shouted 13 = .ok (.iconst 1, 1) := by decide +kernel
theorem dL_shouted_14 : decode cL_shouted 14 = .ok (.ireturn, 1) := by decide +kernel
theorem dL_shouted_15 : decode cL_shouted 15 = .ok (.iconst 0, 1) := by decide +kernel
theorem dL_shouted_16 : decode cL_shouted 16 = .ok (.ireturn, 1) := by decide +kernel
set_option maxRecDepth 20000 in
theorem ggL_leastStrength_X3_leastStrength : GoodIn wsL_leastStrength wsX3_leastStrength := goodIn_ca (goodIn_r _ [6, 7, 8, 9, 10, 11, 12, 5, 13, 14, 15, 16, 17, 18, 19, 20, 21, 22, 23, 24, 25, 26, 27, 28, 29, 30, 31, 32, 33, 34, 35, 36, 37, 38, 39, 40, 41, 42, 43, 44, 45, 46, 47, 48, 49, 50, 51, 52, 53, 54, 55, 56, 57, 58, 59, 60, 61, 62, 63, 64, 65, 66, 67, 68, 69, 70, 71, 72, 73, 74, 75, 76, 77, 78, 79, 80, 81, 82, 83, 84, 85, 86, 87, 88, 89, 90, 91, 92, 93, 94, 95, 96, 97, 98, 99, 100, 101, 102, 103, 104, 105, 106, 107, 108, 109, 110, 111, 112, 113, 114, 115, 116, 117, 118, 119, 120, 121, 122, 123, 124, 125, 126, 127, 128, 129, 130, 131, 132, 133, 134, 135, 136, 137, 138, 139, 140, 141, 142, 143, 144, 145, 146, 147, 148, 149, 150, 151, 152, 153, 154, 155, 156, 157, 158, 159, 160, 161, 162, 163, 164, 165, 166, 167, 168, 169, 170, 171] rfl rfl) (goodIn_sub (fun _ h => List.mem_cons_of_mem _ (List.mem_append_right _ h)) (by decide +kernel))
set_option maxRecDepth 20000 in
theorem gL_leastStrength_X3_leastStrength : GoodIn wsL_leastStrength (wsV RL 70 RX3 yX3_leastStrength wsX3_leastStrength) := goodIn_app (goodIn_of _ (by decide +kernel)) ggL_leastStrength_X3_leastStrength
theorem dL_leastStrength_0 : decode cL_leastStrength 0 = .ok (.aload_n 2, 1) := by decide +kernel
theorem dL_leastStrength_1 : decode cL_leastStrength 1 = .ok (.iconst 0, 1) := by decide +kernel
theorem dL_leastStrength_2 : decode cL_leastStrength 2 = .ok (.aload_n 0, 1) := by decide +kernel
theorem dL_leastStrength_3 : decode cL_leastStrength 3 = .ok (.iload_n 1, 1) := by decide +kernel
theorem dL_leastStrength_4 : decode cL_leastStrength 4 = .ok (.invokevirtual 70, 3) := by decide +kernel
theorem dL_leastStrength_7 : decode cL_leastStrength 7 = .ok (.i2l, 1) := by decide +kernel
theorem dL_leastStrength_8 : decode cL_leastStrength 8 = .ok (.lastore, 1) := by decide +kernel
theorem dL_leastStrength_9 : decode cL_leastStrength 9 = .ok (.goto 6, 3) := by decide +kernel
theorem dL_leastStrength_12 : decode cL_leastStrength 12 = .ok (.astore_n 3, 1) := by decide +kernel
theorem dL_leastStrength_13 : decode cL_leastStrength 13 = .ok (.iconst 1, 1) := by decide +kernel
theorem dL_leastStrength_14 : decode cL_leastStrength 14 = .ok (.ireturn, 1) := by decide +kernel
theorem dL_leastStrength_15 : decode cL_leastStrength 15 = .ok (.iconst 0, 1) := by decide +kernel
theorem dL_leastStrength_16 : decode cL_leastStrength 16 = .ok (.ireturn, 1) := by decide +kernel
set_option maxRecDepth 20000 in
theorem ggL_bestGate_X3_bestGate : GoodIn wsL_bestGate wsX3_bestGate := goodIn_ca (goodIn_ca (goodIn_r _ [7, 8, 9, 10, 11, 6, 12, 13, 14, 15, 16, 17, 18, 19, 20, 21, 22, 23, 24, 25, 26, 27, 28, 29, 30, 31, 32, 33, 34, 35, 36, 37, 38, 39, 40, 41, 42, 43, 44, 45, 46, 47, 48, 49, 50, 51, 52, 53, 54, 55, 56, 57, 58, 59, 60, 61, 62, 63, 64, 65, 66, 67, 68, 69, 70, 71, 72, 73, 74, 75, 76, 77, 78, 79, 80, 81, 82, 83, 84, 85, 86, 87, 88, 89, 90, 91, 92, 93, 94, 95, 96, 97, 98, 99, 100, 101, 102, 103, 104, 105, 106, 107, 108, 109, 110, 111, 112, 113, 114, 115, 116, 117, 118, 119, 120, 121, 122, 123, 124, 125, 126, 127, 128, 129, 130, 131, 132, 133, 134, 135, 136, 137, 138, 139, 140, 141, 142, 143, 144, 145, 146, 147, 148, 149, 150, 151, 152, 153, 154, 155, 156, 157, 158, 159, 160, 161, 162, 163, 164, 165, 166, 167, 168, 169, 170, 171, 172, 173, 174, 175, 176, 177, 178, 179, 180, 181, 182, 183, 184, 185, 186] rfl rfl) (goodIn_sub (fun _ h => List.mem_cons_of_mem _ (List.mem_append_left _ (List.mem_append_right _ h))) (by decide +kernel))) (goodIn_sub (fun _ h => List.mem_cons_of_mem _ (List.mem_append_right _ h)) (by decide +kernel))
set_option maxRecDepth 20000 in
theorem gL_bestGate_X3_bestGate : GoodIn wsL_bestGate (wsV RL 73 RX3 yX3_bestGate wsX3_bestGate) := goodIn_app (goodIn_of _ (by decide +kernel)) ggL_bestGate_X3_bestGate
theorem dL_bestGate_0 : decode cL_bestGate 0 = .ok (.aload_n 2, 1) := by decide +kernel
theorem dL_bestGate_1 : decode cL_bestGate 1 = .ok (.iconst 0, 1) := by decide +kernel
theorem dL_bestGate_2 : decode cL_bestGate 2 = .ok (.aload_n 0, 1) := by decide +kernel
theorem dL_bestGate_3 : decode cL_bestGate 3 = .ok (.iload_n 1, 1) := by decide +kernel
theorem dL_bestGate_4 : decode cL_bestGate 4 = .ok (.invokevirtual 73, 3) := by decide +kernel
theorem dL_bestGate_7 : decode cL_bestGate 7 = .ok (.i2l, 1) := by decide +kernel
theorem dL_bestGate_8 : decode cL_bestGate 8 = .ok (.lastore, 1) := by decide +kernel
theorem dL_bestGate_9 : decode cL_bestGate 9 = .ok (.goto 9, 3) := by decide +kernel
theorem dL_bestGate_12 : decode cL_bestGate 12 = .ok (.astore_n 3, 1) := by decide +kernel
theorem dL_bestGate_13 : decode cL_bestGate 13 = .ok (.iconst 1, 1) := by decide +kernel
theorem dL_bestGate_14 : decode cL_bestGate 14 = .ok (.ireturn, 1) := by decide +kernel
theorem dL_bestGate_15 : decode cL_bestGate 15 = .ok (.astore_n 3, 1) := by decide +kernel
theorem dL_bestGate_16 : decode cL_bestGate 16 = .ok (.iconst 2, 1) := by decide +kernel
theorem dL_bestGate_17 : decode cL_bestGate 17 = .ok (.ireturn, 1) := by decide +kernel
theorem dL_bestGate_18 : decode cL_bestGate 18 = .ok (.iconst 0, 1) := by decide +kernel
theorem dL_bestGate_19 : decode cL_bestGate 19 = .ok (.ireturn, 1) := by decide +kernel
set_option maxRecDepth 20000 in
theorem ggL_runScript_X3_runScript : GoodIn wsL_runScript wsX3_runScript := goodIn_ca (goodIn_r _ [6, 7, 8, 9, 10, 11, 12, 13, 5, 14, 15, 16, 17, 18, 19, 20, 21, 22, 23, 24, 25, 26, 27, 28, 29, 30, 31, 32, 33, 34, 35, 36, 37, 38, 39, 40, 41, 42, 43, 44, 45, 46, 47, 48, 49, 50, 51, 52, 53, 54, 55, 56, 57, 58, 59, 60, 61, 62, 63, 64, 65, 66, 67, 68, 69, 70, 71, 72, 73, 74, 75, 76, 77, 78, 79, 80, 81, 82, 83, 84, 85, 86, 87, 88, 89, 90, 91, 92, 93, 94, 95, 96, 97, 98, 99, 100, 101, 102, 103, 104, 105, 106, 107, 108, 109, 110, 111, 112, 113, 114, 115, 116, 117, 118, 119, 120, 121, 122, 123, 124, 125, 126, 127, 128, 129, 130, 131, 132, 133, 134, 135, 136, 137, 138, 139, 140, 141, 142, 143, 144, 145, 146, 147, 148, 149, 150, 151, 152, 153, 154, 155, 156, 157, 158, 159, 160, 161, 162, 163, 164, 165, 166, 167, 168, 169, 170, 171, 172, 173, 174, 175, 176, 177, 178, 179, 180, 181, 182, 183, 184, 185, 186, 187, 188, 189, 190, 191, 192, 193, 194, 195, 196, 197, 198, 199, 200, 201, 202, 203, 204, 205, 206, 207, 208, 209, 210, 211, 212, 213, 214, 215, 216, 217, 218, 219, 220, 221, 222, 223, 224, 225, 226, 227, 228, 229, 230, 231, 232, 233, 234, 235, 236, 237, 238, 239, 240, 241, 242, 243, 244, 245] rfl rfl) (goodIn_sub (fun _ h => List.mem_cons_of_mem _ (List.mem_append_right _ h)) (by decide +kernel))
set_option maxRecDepth 20000 in
theorem gL_runScript_X3_runScript : GoodIn wsL_runScript (wsV RL 76 RX3 yX3_runScript wsX3_runScript) := goodIn_app (goodIn_of _ (by decide +kernel)) ggL_runScript_X3_runScript
theorem dL_runScript_0 : decode cL_runScript 0 = .ok (.aload 4, 2) := by decide +kernel
theorem dL_runScript_2 : decode cL_runScript 2 = .ok (.iconst 0, 1) := by decide +kernel
theorem dL_runScript_3 : decode cL_runScript 3 = .ok (.aload_n 0, 1) := by decide +kernel
theorem dL_runScript_4 : decode cL_runScript 4 = .ok (.iload_n 1, 1) := by decide +kernel
theorem dL_runScript_5 : decode cL_runScript 5 = .ok (.lload_n 2, 1) := by decide +kernel
theorem dL_runScript_6 : decode cL_runScript 6 = .ok (.invokevirtual 76, 3) := by decide +kernel
theorem dL_runScript_9 : decode cL_runScript 9 = .ok (.i2l, 1) := by decide +kernel
theorem dL_runScript_10 : decode cL_runScript 10 = .ok (.lastore, 1) := by decide +kernel
theorem dL_runScript_11 : decode cL_runScript 11 = .ok (.goto 7, 3) := by decide +kernel
theorem dL_runScript_14 : decode cL_runScript 14 = .ok (.astore 5, 2) := by decide +kernel
theorem dL_runScript_16 : decode cL_runScript 16 = .ok (.iconst 1, 1) := by decide +kernel
theorem dL_runScript_17 : decode cL_runScript 17 = .ok (.ireturn, 1) := by decide +kernel
theorem dL_runScript_18 : decode cL_runScript 18 = .ok (.iconst 0, 1) := by decide +kernel
theorem dL_runScript_19 : decode cL_runScript 19 = .ok (.ireturn, 1) := by decide +kernel
set_option maxRecDepth 20000 in
theorem ggL_simulate_X3_simulate : GoodIn wsL_simulate wsX3_simulate := goodIn_ca (goodIn_r _ [6, 7, 8, 9, 10, 11, 12, 13, 14, 15, 16, 17, 18, 19, 20, 21, 22, 23, 24, 25, 26, 27, 28, 29, 30, 31, 32, 33, 34, 35, 36, 37, 38, 39, 40, 41, 42, 43, 44, 45, 46, 47, 48, 49, 5, 50, 51, 52, 53, 54, 55, 56, 57, 58, 59, 60, 61, 62, 63, 64, 65, 66, 67, 68, 69, 70, 71, 72, 73, 74, 75, 76, 77, 78, 79, 80, 81, 82, 83, 84, 85, 86, 87, 88, 89, 90, 91, 92, 93, 94, 95, 96, 97, 98, 99, 100, 101, 102, 103, 104, 105, 106, 107, 108, 109, 110, 111, 112, 113, 114, 115, 116, 117, 118, 119, 120, 121, 122, 123, 124, 125, 126, 127, 128, 129, 130, 131, 132, 133, 134, 135, 136, 137, 138, 139, 140, 141, 142, 143, 144, 145, 146, 147, 148, 149, 150, 151, 152, 153, 154, 155, 156, 157, 158, 159, 160, 161, 162, 163, 164, 165, 166, 167, 168, 169, 170, 171, 172, 173, 174, 175, 176, 177, 178, 179, 180, 181, 182, 183, 184, 185, 186, 187, 188, 189, 190, 191, 192, 193, 194, 195, 196, 197, 198, 199, 200, 201, 202, 203, 204, 205, 206, 207, 208, 209, 210, 211, 212, 213, 214, 215, 216, 217, 218, 219, 220, 221, 222, 223, 224, 225, 226, 227] rfl rfl) (goodIn_sub (fun _ h => List.mem_cons_of_mem _ (List.mem_append_right _ h)) (by decide +kernel))
set_option maxRecDepth 20000 in
theorem gL_simulate_X3_simulate : GoodIn wsL_simulate (wsV RL 80 RX3 yX3_simulate wsX3_simulate) := goodIn_app (goodIn_of _ (by decide +kernel)) ggL_simulate_X3_simulate
theorem dL_simulate_0 : decode cL_simulate 0 = .ok (.aload 4, 2) := by decide +kernel
theorem dL_simulate_2 : decode cL_simulate 2 = .ok (.iconst 0, 1) := by decide +kernel
theorem dL_simulate_3 : decode cL_simulate 3 = .ok (.aload_n 0, 1) := by decide +kernel
theorem dL_simulate_4 : decode cL_simulate 4 = .ok (.lload_n 1, 1) := by decide +kernel
theorem dL_simulate_5 : decode cL_simulate 5 = .ok (.iload_n 3, 1) := by decide +kernel
theorem dL_simulate_6 : decode cL_simulate 6 = .ok (.invokevirtual 80, 3) := by decide +kernel
theorem dL_simulate_9 : decode cL_simulate 9 = .ok (.i2l, 1) := by decide +kernel
theorem dL_simulate_10 : decode cL_simulate 10 = .ok (.lastore, 1) := by decide +kernel
theorem dL_simulate_11 : decode cL_simulate 11 = .ok (.goto 7, 3) := by decide +kernel
theorem dL_simulate_14 : decode cL_simulate 14 = .ok (.astore 5, 2) := by decide +kernel
theorem dL_simulate_16 : decode cL_simulate 16 = .ok (.iconst 1, 1) := by decide +kernel
theorem dL_simulate_17 : decode cL_simulate 17 = .ok (.ireturn, 1) := by decide +kernel
theorem dL_simulate_18 : decode cL_simulate 18 = .ok (.iconst 0, 1) := by decide +kernel
theorem dL_simulate_19 : decode cL_simulate 19 = .ok (.ireturn, 1) := by decide +kernel
set_option maxRecDepth 20000 in
theorem ggL_save_X3_save : GoodIn wsL_save wsX3_save := goodIn_ca (goodIn_r _ [6, 7, 8, 9, 10, 11, 12, 5, 13, 14, 15, 16, 17, 18, 19, 20, 21, 22, 23, 24, 25, 26, 27, 28, 29, 30, 31, 32, 33, 34, 35, 36, 37, 38, 39, 40, 41, 42, 43, 44, 45, 46, 47, 48, 49, 50, 51, 52, 53, 54, 55, 56, 57, 58, 59, 60, 61, 62, 63, 64, 65, 66, 67, 68, 69, 70, 71, 72, 73, 74, 75, 76, 77, 78, 79, 80, 81, 82, 83, 84, 85, 86, 87, 88, 89, 90] rfl rfl) (goodIn_sub (fun _ h => List.mem_cons_of_mem _ (List.mem_append_right _ h)) (by decide +kernel))
set_option maxRecDepth 20000 in
theorem gL_save_X3_save : GoodIn wsL_save (wsV RL 84 RX3 yX3_save wsX3_save) := goodIn_app (goodIn_of _ (by decide +kernel)) ggL_save_X3_save
theorem dL_save_0 : decode cL_save 0 = .ok (.aload_n 2, 1) := by decide +kernel
theorem dL_save_1 : decode cL_save 1 = .ok (.iconst 0, 1) := by decide +kernel
theorem dL_save_2 : decode cL_save 2 = .ok (.aload_n 0, 1) := by decide +kernel
theorem dL_save_3 : decode cL_save 3 = .ok (.iload_n 1, 1) := by decide +kernel
theorem dL_save_4 : decode cL_save 4 = .ok (.invokevirtual 84, 3) := by decide +kernel
theorem dL_save_7 : decode cL_save 7 = .ok (.i2l, 1) := by decide +kernel
theorem dL_save_8 : decode cL_save 8 = .ok (.lastore, 1) := by decide +kernel
theorem dL_save_9 : decode cL_save 9 = .ok (.goto 6, 3) := by decide +kernel
theorem dL_save_12 : decode cL_save 12 = .ok (.astore_n 3, 1) := by decide +kernel
theorem dL_save_13 : decode cL_save 13 = .ok (.iconst 1, 1) := by decide +kernel
theorem dL_save_14 : decode cL_save 14 = .ok (.ireturn, 1) := by decide +kernel
theorem dL_save_15 : decode cL_save 15 = .ok (.iconst 0, 1) := by decide +kernel
theorem dL_save_16 : decode cL_save 16 = .ok (.ireturn, 1) := by decide +kernel
set_option maxRecDepth 20000 in
theorem ggL_restore_X3_restore : GoodIn wsL_restore wsX3_restore := goodIn_ca (goodIn_ca (goodIn_r _ [7, 8, 9, 10, 11, 12, 13, 14, 6, 15, 16, 17, 18, 19, 20, 21, 22, 23, 24, 25, 26, 27, 28, 29, 30, 31, 32, 33, 34, 35, 36, 37, 38, 39, 40, 41, 42, 43, 44, 45, 46, 47, 48, 49, 50, 51, 52, 53, 54, 55, 56, 57, 58, 59, 60, 61, 62, 63, 64, 65, 66, 67, 68, 69, 70, 71, 72, 73, 74, 75, 76, 77, 78, 79, 80, 81, 82, 83, 84, 85, 86, 87, 88, 89, 90, 91, 92, 93, 94, 95, 96, 97] rfl rfl) (goodIn_sub (fun _ h => List.mem_cons_of_mem _ (List.mem_append_left _ (List.mem_append_right _ h))) (by decide +kernel))) (goodIn_sub (fun _ h => List.mem_cons_of_mem _ (List.mem_append_right _ h)) (by decide +kernel))
set_option maxRecDepth 20000 in
theorem gL_restore_X3_restore : GoodIn wsL_restore (wsV RL 87 RX3 yX3_restore wsX3_restore) := goodIn_app (goodIn_of _ (by decide +kernel)) ggL_restore_X3_restore
theorem dL_restore_0 : decode cL_restore 0 = .ok (.aload_n 2, 1) := by decide +kernel
theorem dL_restore_1 : decode cL_restore 1 = .ok (.iconst 0, 1) := by decide +kernel
theorem dL_restore_2 : decode cL_restore 2 = .ok (.aload_n 0, 1) := by decide +kernel
theorem dL_restore_3 : decode cL_restore 3 = .ok (.iload_n 1, 1) := by decide +kernel
theorem dL_restore_4 : decode cL_restore 4 = .ok (.invokevirtual 87, 3) := by decide +kernel
theorem dL_restore_7 : decode cL_restore 7 = .ok (.i2l, 1) := by decide +kernel
theorem dL_restore_8 : decode cL_restore 8 = .ok (.lastore, 1) := by decide +kernel
theorem dL_restore_9 : decode cL_restore 9 = .ok (.goto 9, 3) := by decide +kernel
theorem dL_restore_12 : decode cL_restore 12 = .ok (.astore_n 3, 1) := by decide +kernel
theorem dL_restore_13 : decode cL_restore 13 = .ok (.iconst 1, 1) := by decide +kernel
theorem dL_restore_14 : decode cL_restore 14 = .ok (.ireturn, 1) := by decide +kernel
theorem dL_restore_15 : decode cL_restore 15 = .ok (.astore_n 3, 1) := by decide +kernel
theorem dL_restore_16 : decode cL_restore 16 = .ok (.iconst 2, 1) := by decide +kernel
theorem dL_restore_17 : decode cL_restore 17 = .ok (.ireturn, 1) := by decide +kernel
theorem dL_restore_18 : decode cL_restore 18 = .ok (.iconst 0, 1) := by decide +kernel
theorem dL_restore_19 : decode cL_restore 19 = .ok (.ireturn, 1) := by decide +kernel
set_option maxRecDepth 20000 in
theorem ggL_law_X3_init : GoodIn wsL_law wsX3_init := goodIn_r _ [10, 11, 12, 13, 14, 15, 16, 17, 18, 19, 20, 21, 22, 23, 24, 25, 26, 27, 28, 29, 30, 31, 32, 33, 34, 35, 36, 37, 38, 39, 40, 41, 42, 43, 44, 45, 46, 47, 48, 49, 50, 51, 52, 53, 54, 55, 56, 57, 58, 59, 60, 61, 62, 63, 64, 65, 66, 67, 68, 69, 70, 71, 72, 73, 74, 75, 76, 77, 78, 79, 80, 81, 82, 83, 84, 85, 86, 985, 986, 987, 988, 989, 990, 991, 992, 993, 994, 995, 996, 965, 966, 967, 968, 969, 970, 971, 997, 998, 999, 1000, 1001, 1002, 1003, 1004, 1005, 1006, 1007, 1008, 1009, 1010, 1011, 1012, 1013, 1014, 1015, 1016, 1017, 1018, 1019, 1020] rfl rfl
set_option maxRecDepth 20000 in
theorem gL_law_X3_init : GoodIn wsL_law (wsX3_init) := ggL_law_X3_init
set_option maxRecDepth 20000 in
theorem ggL_law_X4_init : GoodIn wsL_law wsX4_init := goodIn_r _ [89, 90, 12, 13, 36, 91, 92, 93, 94, 95, 96, 26, 97, 98, 99, 5, 100, 101, 102, 103, 972, 973, 974, 975, 976, 977, 978, 979, 980, 981, 982, 983, 984] rfl rfl
set_option maxRecDepth 20000 in
theorem gL_law_X4_init : GoodIn wsL_law (wsX4_init) := ggL_law_X4_init
set_option maxRecDepth 20000 in
theorem ggL_law_L_append : GoodIn wsL_law wsL_append := goodIn_ca (goodIn_ca (goodIn_r _ [107, 108, 109, 110, 111, 112, 2, 113, 114, 115, 116, 117, 17, 118, 119, 120, 16, 121, 33, 122, 123, 124, 125, 32, 965, 966, 967, 968, 969, 970, 971, 985, 986, 987, 988, 989, 990, 991, 992, 993, 994, 995, 996] rfl rfl) (goodIn_sub (fun _ h => List.mem_append_left _ (List.mem_append_left _ (List.mem_append_right _ h))) (by decide +kernel))) (goodIn_sub (fun _ h => List.mem_append_left _ (List.mem_append_right _ h)) (by decide +kernel))
set_option maxRecDepth 20000 in
theorem gL_law_L_append : GoodIn wsL_law (va_wsS RL 94 yL_append wsL_append) := goodIn_app (goodIn_of _ (by decide +kernel)) ggL_law_L_append
set_option maxRecDepth 20000 in
theorem ggL_law_X4_append : GoodIn wsL_law wsX4_append := goodIn_r _ [129, 130, 131, 91, 132, 133, 5, 134, 135, 136, 137, 138, 139, 972, 973, 974, 975, 976, 977, 978, 979, 980, 981, 982, 983, 984] rfl rfl
set_option maxRecDepth 20000 in
theorem gL_law_X4_append : GoodIn wsL_law (wsV RL 99 RX4 yX4_append wsX4_append) := goodIn_app (goodIn_of _ (by decide +kernel)) ggL_law_X4_append
set_option maxRecDepth 20000 in
theorem ggL_law_X4_thrown : GoodIn wsL_law wsX4_thrown := goodIn_r _ [143, 139, 972, 973, 974, 975, 976, 977, 978, 979, 980, 981, 982, 983, 984] rfl rfl
set_option maxRecDepth 20000 in
theorem gL_law_X4_thrown : GoodIn wsL_law (wsV RL 100 RX4 yX4_thrown wsX4_thrown) := goodIn_app (goodIn_of _ (by decide +kernel)) ggL_law_X4_thrown
set_option maxRecDepth 20000 in
theorem ggL_law_X3_clearText : GoodIn wsL_law wsX3_clearText := goodIn_r _ [147, 17, 148, 149, 150, 16, 151, 33, 965, 966, 967, 968, 969, 970, 971, 985, 986, 987, 988, 989, 990, 991, 992, 993, 994, 995, 996] rfl rfl
set_option maxRecDepth 20000 in
theorem gL_law_X3_clearText : GoodIn wsL_law (wsV RL 103 RX3 yX3_clearText wsX3_clearText) := goodIn_app (goodIn_of _ (by decide +kernel)) ggL_law_X3_clearText
set_option maxRecDepth 20000 in
theorem ggL_law_X4_clearText : GoodIn wsL_law wsX4_clearText := goodIn_r _ [155, 139, 131, 972, 973, 974, 975, 976, 977, 978, 979, 980, 981, 982, 983, 984] rfl rfl
set_option maxRecDepth 20000 in
theorem gL_law_X4_clearText : GoodIn wsL_law (wsV RL 106 RX4 yX4_clearText wsX4_clearText) := goodIn_app (goodIn_of _ (by decide +kernel)) ggL_law_X4_clearText
set_option maxRecDepth 20000 in
theorem ggL_law_X3_errorPosition : GoodIn wsL_law wsX3_errorPosition := goodIn_r _ [159, 17, 160, 161, 162, 16, 163, 34, 33, 164, 165, 166, 167, 168, 169, 170, 171, 37, 35, 38, 39, 172, 173, 174, 175, 32, 40, 176, 177, 178, 179, 180, 181, 182, 183, 184, 185, 186, 187, 188, 189, 190, 191, 41, 192, 193, 194, 195, 42, 196, 197, 198, 199, 43, 200, 201, 202, 203, 44, 965, 966, 967, 968, 969, 970, 971, 985, 986, 987, 988, 989, 990, 991, 992, 993, 994, 995, 996] rfl rfl
set_option maxRecDepth 20000 in
theorem gL_law_X3_errorPosition : GoodIn wsL_law (wsV RL 107 RX3 yX3_errorPosition wsX3_errorPosition) := goodIn_app (goodIn_of _ (by decide +kernel)) ggL_law_X3_errorPosition
set_option maxRecDepth 20000 in
theorem ggL_law_X4_errorPosition : GoodIn wsL_law wsX4_errorPosition := goodIn_r _ [207, 139, 208, 209, 210, 5, 211, 212, 213, 214, 92, 131, 91, 98, 99, 100, 101, 102, 103, 215, 216, 217, 218, 219, 220, 221, 222, 223, 224, 225, 226, 227, 132, 133, 134, 228, 229, 230, 231, 232, 233, 234, 235, 236, 237, 238, 239, 240, 241, 242, 243, 244, 245, 246, 247, 248, 249, 250, 251, 252, 253, 254, 255, 256, 257, 258, 259, 260, 261, 262, 263, 264, 265, 266, 267, 268, 269, 270, 271, 272, 273, 274, 275, 276, 277, 278, 279, 280, 281, 282, 283, 284, 285, 286, 287, 288, 289, 290, 291, 292, 293, 294, 295, 296, 297, 298, 299, 300, 301, 302, 303, 304, 305, 306, 307, 308, 309, 972, 973, 974, 975, 976, 977, 978, 979, 980, 981, 982, 983, 984] rfl rfl
set_option maxRecDepth 20000 in
theorem gL_law_X4_errorPosition : GoodIn wsL_law (wsV RL 110 RX4 yX4_errorPosition wsX4_errorPosition) := goodIn_app (goodIn_of _ (by decide +kernel)) ggL_law_X4_errorPosition
set_option maxRecDepth 20000 in
theorem ggL_law_L_load : GoodIn wsL_law wsL_load := goodIn_ca (goodIn_r _ [312, 109, 313, 314, 315, 2, 316, 116, 117, 17, 160, 161, 162, 16, 163, 34, 33, 164, 165, 166, 167, 168, 169, 170, 171, 37, 35, 38, 39, 172, 173, 174, 175, 32, 40, 176, 177, 178, 179, 180, 181, 182, 183, 184, 185, 186, 187, 188, 189, 190, 191, 41, 192, 193, 194, 195, 42, 196, 197, 198, 199, 43, 200, 201, 202, 203, 44, 317, 318, 319, 320, 21, 24, 27, 321, 72, 73, 20, 74, 52, 53, 54, 55, 56, 57, 58, 59, 75, 76, 77, 78, 79, 80, 81, 82, 83, 84, 51, 85, 63, 64, 65, 66, 68, 69, 70, 86, 322, 323, 324, 325, 326, 327, 328, 329, 330, 331, 332, 333, 334, 335, 336, 337, 338, 339, 340, 341, 342, 343, 344, 345, 346, 347, 348, 349, 350, 351, 352, 353, 354, 355, 356, 357, 358, 359, 360, 361, 362, 363, 364, 365, 366, 367, 368, 369, 370, 371, 372, 373, 374, 375, 376, 377, 378, 379, 380, 381, 382, 383, 384, 385, 386, 387, 388, 389, 390, 391, 392, 393, 394, 395, 396, 397, 398, 399, 400, 401, 402, 403, 404, 405, 406, 407, 408, 409, 410, 411, 412, 413, 414, 415, 416, 417, 418, 419, 420, 421, 422, 423, 424, 425, 426, 427, 428, 429, 430, 431, 432, 433, 434, 435, 436, 437, 438, 439, 440, 441, 442, 443, 444, 445, 446, 447, 448, 449, 67, 450, 451, 452, 453, 454, 455, 456, 457, 458, 459, 460, 461, 462, 463, 464, 465, 466, 467, 468, 469, 470, 471, 472, 473, 474, 475, 476, 477, 478, 479, 480, 481, 482, 483, 965, 966, 967, 968, 969, 970, 971, 985, 986, 987, 988, 989, 990, 991, 992, 993, 994, 995, 996, 997, 998, 999, 1000, 1001, 1002, 1003, 1004, 1005, 1006, 1007, 1008, 1009, 1010, 1011, 1012, 1013, 1014, 1015, 1016, 1017, 1018, 1019, 1020] rfl rfl) (goodIn_sub (fun _ h => List.mem_append_left _ (List.mem_append_right _ h)) (by decide +kernel))
set_option maxRecDepth 20000 in
theorem gL_law_L_load : GoodIn wsL_law (va_wsS RL 111 yL_load wsL_load) := goodIn_app (goodIn_of _ (by decide +kernel)) ggL_law_L_load
set_option maxRecDepth 20000 in
theorem ggL_law_X4_load : GoodIn wsL_law wsX4_load := goodIn_r _ [487, 92, 93, 488, 97, 214, 208, 209, 210, 5, 211, 212, 213, 131, 91, 98, 99, 100, 101, 102, 103, 215, 216, 217, 218, 219, 220, 221, 222, 223, 224, 225, 226, 227, 132, 133, 134, 228, 229, 230, 231, 232, 233, 234, 235, 236, 237, 238, 239, 240, 241, 242, 243, 244, 245, 246, 247, 248, 249, 250, 251, 252, 253, 254, 255, 256, 257, 258, 259, 260, 261, 262, 263, 264, 265, 266, 267, 268, 269, 270, 271, 272, 273, 274, 275, 276, 277, 278, 279, 280, 281, 282, 283, 284, 285, 286, 287, 288, 289, 290, 291, 292, 293, 294, 295, 296, 297, 298, 299, 300, 301, 302, 303, 304, 305, 306, 307, 308, 309, 135, 136, 137, 138, 139, 972, 973, 974, 975, 976, 977, 978, 979, 980, 981, 982, 983, 984] rfl rfl
set_option maxRecDepth 20000 in
theorem gL_law_X4_load : GoodIn wsL_law (wsV RL 114 RX4 yX4_load wsX4_load) := goodIn_app (goodIn_of _ (by decide +kernel)) ggL_law_X4_load
set_option maxRecDepth 20000 in
theorem ggL_law_L_about : GoodIn wsL_law wsL_about := goodIn_ca (goodIn_r _ [491, 108, 492, 493, 494, 2, 495, 114, 115, 21, 496, 328, 497, 498, 499, 332, 334, 500, 427, 428, 51, 429, 65, 501, 502, 503, 504, 66, 505, 364, 365, 366, 367, 368, 369, 506, 507, 508, 20, 509, 53, 510, 511, 512, 513, 54, 514, 515, 965, 966, 967, 968, 969, 970, 971, 997, 998, 999, 1000, 1001, 1002, 1003, 1004, 1005, 1006, 1007, 1008, 1009, 1010, 1011, 1012, 1013, 1014, 1015, 1016, 1017, 1018, 1019, 1020] rfl rfl) (goodIn_sub (fun _ h => List.mem_append_left _ (List.mem_append_left _ (List.mem_append_right _ h))) (by decide +kernel))
set_option maxRecDepth 20000 in
theorem gL_law_L_about : GoodIn wsL_law (va_wsS RL 115 yL_about wsL_about) := goodIn_app (goodIn_of _ (by decide +kernel)) ggL_law_L_about
set_option maxRecDepth 20000 in
theorem ggL_law_X4_about : GoodIn wsL_law wsX4_about := goodIn_r _ [519, 520, 93, 132, 133, 5, 134, 135, 136, 137, 138, 139, 521, 522, 523, 524, 101, 102, 103, 525, 526, 527, 249, 250, 251, 528, 529, 530, 531, 262, 263, 264, 532, 533, 534, 535, 238, 239, 240, 972, 973, 974, 975, 976, 977, 978, 979, 980, 981, 982, 983, 984] rfl rfl
set_option maxRecDepth 20000 in
theorem gL_law_X4_about : GoodIn wsL_law (wsV RL 117 RX4 yX4_about wsX4_about) := goodIn_app (goodIn_of _ (by decide +kernel)) ggL_law_X4_about
set_option maxRecDepth 20000 in
theorem ggL_law_L_book : GoodIn wsL_law wsL_book := goodIn_ca (goodIn_ca (goodIn_r _ [538, 539, 108, 540, 541, 542, 2, 543, 114, 115, 21, 499, 544, 545, 546, 547, 548, 549, 550, 551, 552, 355, 356, 553, 358, 359, 20, 360, 53, 361, 362, 554, 555, 514, 515, 965, 966, 967, 968, 969, 970, 971, 997, 998, 999, 1000, 1001, 1002, 1003, 1004, 1005, 1006, 1007, 1008, 1009, 1010, 1011] rfl rfl) (goodIn_sub (fun _ h => List.mem_append_left _ (List.mem_append_left _ (List.mem_append_right _ h))) (by decide +kernel))) (goodIn_sub (fun _ h => List.mem_append_right _ h) (by decide +kernel))
set_option maxRecDepth 20000 in
theorem gL_law_L_book : GoodIn wsL_law (va_wsS RL 118 yL_book wsL_book) := goodIn_app (goodIn_of _ (by decide +kernel)) ggL_law_L_book
set_option maxRecDepth 20000 in
theorem ggL_law_X4_book : GoodIn wsL_law wsX4_book := goodIn_r _ [559, 560, 93, 561, 562, 5, 563, 564, 132, 133, 134, 135, 136, 137, 138, 139, 249, 250, 251, 972, 973, 974, 975, 976, 977, 978, 979, 980, 981, 982, 983, 984] rfl rfl
set_option maxRecDepth 20000 in
theorem gL_law_X4_book : GoodIn wsL_law (wsV RL 121 RX4 yX4_book wsX4_book) := goodIn_app (goodIn_of _ (by decide +kernel)) ggL_law_X4_book
set_option maxRecDepth 20000 in
theorem ggL_law_L_visitor : GoodIn wsL_law wsL_visitor := goodIn_ca (goodIn_ca (goodIn_r _ [567, 539, 108, 568, 569, 570, 2, 571, 114, 115, 21, 572, 573, 574, 575, 576, 577, 578, 579, 550, 551, 580, 353, 354, 555, 514, 515, 965, 966, 967, 968, 969, 970, 971, 997, 998, 999, 1000, 1001, 1002, 1003, 1004, 1005, 1006, 1007, 1008, 1009, 1010, 1011] rfl rfl) (goodIn_sub (fun _ h => List.mem_append_left _ (List.mem_append_left _ (List.mem_append_right _ h))) (by decide +kernel))) (goodIn_sub (fun _ h => List.mem_append_right _ h) (by decide +kernel))
set_option maxRecDepth 20000 in
theorem gL_law_L_visitor : GoodIn wsL_law (va_wsS RL 122 yL_visitor wsL_visitor) := goodIn_app (goodIn_of _ (by decide +kernel)) ggL_law_L_visitor
set_option maxRecDepth 20000 in
theorem ggL_law_X4_visitor : GoodIn wsL_law wsX4_visitor := goodIn_r _ [584, 560, 93, 585, 586, 5, 587, 588, 132, 133, 134, 135, 136, 137, 138, 139, 589, 590, 591, 592, 249, 250, 251, 298, 299, 300, 238, 239, 240, 972, 973, 974, 975, 976, 977, 978, 979, 980, 981, 982, 983, 984] rfl rfl
set_option maxRecDepth 20000 in
theorem gL_law_X4_visitor : GoodIn wsL_law (wsV RL 124 RX4 yX4_visitor wsX4_visitor) := goodIn_app (goodIn_of _ (by decide +kernel)) ggL_law_X4_visitor
set_option maxRecDepth 20000 in
theorem ggL_law_L_gate : GoodIn wsL_law wsL_gate := goodIn_ca (goodIn_ca (goodIn_r _ [595, 539, 108, 596, 597, 598, 2, 599, 114, 115, 21, 328, 329, 600, 601, 602, 603, 604, 605, 550, 551, 606, 412, 413, 607, 476, 477, 51, 478, 66, 67, 608, 455, 456, 20, 457, 54, 57, 53, 458, 459, 460, 461, 56, 462, 463, 464, 465, 55, 52, 466, 363, 364, 365, 366, 367, 368, 369, 965, 966, 967, 968, 969, 970, 971, 997, 998, 999, 1000, 1001, 1002, 1003, 1004, 1005, 1006, 1007, 1008, 1009, 1010, 1011, 1012, 1013, 1014, 1015, 1016, 1017, 1018, 1019, 1020] rfl rfl) (goodIn_sub (fun _ h => List.mem_append_left _ (List.mem_append_left _ (List.mem_append_right _ h))) (by decide +kernel))) (goodIn_sub (fun _ h => List.mem_append_right _ h) (by decide +kernel))
set_option maxRecDepth 20000 in
theorem gL_law_L_gate : GoodIn wsL_law (va_wsS RL 125 yL_gate wsL_gate) := goodIn_app (goodIn_of _ (by decide +kernel)) ggL_law_L_gate
set_option maxRecDepth 20000 in
theorem ggL_law_X4_gate : GoodIn wsL_law wsX4_gate := goodIn_r _ [612, 588, 93, 613, 614, 5, 615, 616, 132, 133, 134, 135, 136, 137, 138, 139, 101, 102, 103, 617, 618, 619, 620, 255, 256, 257, 249, 250, 251, 258, 259, 260, 261, 238, 239, 240, 262, 263, 264, 972, 973, 974, 975, 976, 977, 978, 979, 980, 981, 982, 983, 984] rfl rfl
set_option maxRecDepth 20000 in
theorem gL_law_X4_gate : GoodIn wsL_law (wsV RL 127 RX4 yX4_gate wsX4_gate) := goodIn_app (goodIn_of _ (by decide +kernel)) ggL_law_X4_gate
set_option maxRecDepth 20000 in
theorem ggL_law_L_shout : GoodIn wsL_law wsL_shout := goodIn_ca (goodIn_r _ [623, 108, 624, 625, 626, 2, 627, 114, 115, 21, 328, 628, 629, 630, 965, 966, 967, 968, 969, 970, 971, 997, 998, 999, 1000, 1001, 1002, 1003, 1004, 1005, 1006, 1007, 1008, 1009, 1010, 1011, 1012, 1013, 1014, 1015, 1016, 1017, 1018, 1019, 1020] rfl rfl) (goodIn_sub (fun _ h => List.mem_append_left _ (List.mem_append_left _ (List.mem_append_right _ h))) (by decide +kernel))
set_option maxRecDepth 20000 in
theorem gL_law_L_shout : GoodIn wsL_law (va_wsS RL 128 yL_shout wsL_shout) := goodIn_app (goodIn_of _ (by decide +kernel)) ggL_law_L_shout
set_option maxRecDepth 20000 in
theorem ggL_law_X4_shout : GoodIn wsL_law wsX4_shout := goodIn_r _ [634, 227, 616, 93, 132, 133, 5, 134, 135, 136, 137, 138, 139, 972, 973, 974, 975, 976, 977, 978, 979, 980, 981, 982, 983, 984] rfl rfl
set_option maxRecDepth 20000 in
theorem gL_law_X4_shout : GoodIn wsL_law (wsV RL 130 RX4 yX4_shout wsX4_shout) := goodIn_app (goodIn_of _ (by decide +kernel)) ggL_law_X4_shout
set_option maxRecDepth 20000 in
theorem ggL_law_L_take : GoodIn wsL_law wsL_take := goodIn_ca (goodIn_ca (goodIn_r _ [637, 539, 109, 638, 639, 640, 2, 641, 21, 576, 577, 578, 579, 550, 551, 580, 353, 354, 547, 548, 549, 552, 355, 356, 642, 350, 351, 20, 352, 54, 53, 357, 358, 359, 360, 361, 362, 363, 364, 365, 366, 367, 368, 369, 643, 644, 645, 116, 117, 646, 647, 648, 649, 24, 23, 650, 651, 652, 653, 654, 655, 656, 657, 52, 55, 56, 57, 58, 59, 75, 76, 77, 78, 79, 80, 81, 658, 659, 660, 51, 661, 63, 64, 65, 66, 67, 68, 69, 70, 86, 662, 663, 664, 665, 464, 666, 667, 668, 669, 670, 345, 346, 347, 348, 349, 370, 371, 505, 965, 966, 967, 968, 969, 970, 971, 997, 998, 999, 1000, 1001, 1002, 1003, 1004, 1005, 1006, 1007, 1008, 1009, 1010, 1011, 1012, 1013, 1014, 1015, 1016, 1017, 1018, 1019, 1020] rfl rfl) (goodIn_sub (fun _ h => List.mem_append_right _ h) (by decide +kernel))) (goodIn_sub (fun _ h => List.mem_append_left _ (List.mem_append_right _ h)) (by decide +kernel))
set_option maxRecDepth 20000 in
theorem gL_law_L_take : GoodIn wsL_law (va_wsS RL 131 yL_take wsL_take) := goodIn_app (goodIn_of _ (by decide +kernel)) ggL_law_L_take
set_option maxRecDepth 20000 in
theorem ggL_law_X4_take : GoodIn wsL_law wsX4_take := goodIn_r _ [674, 93, 585, 586, 5, 587, 588, 132, 133, 134, 561, 562, 563, 564, 278, 279, 280, 249, 250, 251, 281, 282, 283, 238, 239, 240, 262, 263, 264, 135, 136, 137, 138, 139, 675, 676, 677, 678, 488, 95, 271, 272, 273, 972, 973, 974, 975, 976, 977, 978, 979, 980, 981, 982, 983, 984] rfl rfl
set_option maxRecDepth 20000 in
theorem gL_law_X4_take : GoodIn wsL_law (wsV RL 133 RX4 yX4_take wsX4_take) := goodIn_app (goodIn_of _ (by decide +kernel)) ggL_law_X4_take
set_option maxRecDepth 20000 in
theorem ggL_law_L_putBack : GoodIn wsL_law wsL_putBack := goodIn_ca (goodIn_ca (goodIn_r _ [681, 539, 109, 682, 683, 684, 2, 685, 21, 547, 548, 549, 550, 551, 552, 355, 356, 686, 377, 378, 20, 379, 357, 358, 359, 360, 53, 361, 362, 380, 381, 382, 383, 54, 643, 644, 645, 116, 117, 646, 647, 648, 649, 24, 23, 650, 651, 652, 653, 654, 655, 656, 657, 52, 55, 56, 57, 58, 59, 75, 76, 77, 78, 79, 80, 81, 658, 659, 660, 51, 661, 63, 64, 65, 66, 67, 68, 69, 70, 86, 662, 663, 664, 665, 464, 666, 667, 668, 669, 670, 553, 372, 373, 374, 375, 376, 370, 371, 965, 966, 967, 968, 969, 970, 971, 997, 998, 999, 1000, 1001, 1002, 1003, 1004, 1005, 1006, 1007, 1008, 1009, 1010, 1011, 1012, 1013, 1014, 1015, 1016, 1017, 1018, 1019, 1020] rfl rfl) (goodIn_sub (fun _ h => List.mem_append_right _ h) (by decide +kernel))) (goodIn_sub (fun _ h => List.mem_append_left _ (List.mem_append_right _ h)) (by decide +kernel))
set_option maxRecDepth 20000 in
theorem gL_law_L_putBack : GoodIn wsL_law (va_wsS RL 134 yL_putBack wsL_putBack) := goodIn_app (goodIn_of _ (by decide +kernel)) ggL_law_L_putBack
set_option maxRecDepth 20000 in
theorem ggL_law_X4_putBack : GoodIn wsL_law wsX4_putBack := goodIn_r _ [690, 93, 561, 562, 5, 563, 564, 132, 133, 134, 288, 289, 290, 249, 250, 251, 291, 292, 293, 281, 282, 283, 238, 239, 240, 135, 136, 137, 138, 139, 675, 676, 677, 678, 488, 95, 271, 272, 273, 972, 973, 974, 975, 976, 977, 978, 979, 980, 981, 982, 983, 984] rfl rfl
set_option maxRecDepth 20000 in
theorem gL_law_X4_putBack : GoodIn wsL_law (wsV RL 136 RX4 yX4_putBack wsX4_putBack) := goodIn_app (goodIn_of _ (by decide +kernel)) ggL_law_X4_putBack
set_option maxRecDepth 20000 in
theorem ggL_law_L_borrow : GoodIn wsL_law wsL_borrow := goodIn_ca (goodIn_ca (goodIn_r _ [693, 539, 109, 694, 695, 696, 2, 697, 21, 499, 547, 548, 549, 550, 551, 552, 355, 356, 698, 401, 402, 20, 403, 75, 361, 362, 380, 381, 382, 383, 53, 54, 643, 644, 645, 116, 117, 646, 647, 648, 649, 24, 23, 650, 651, 652, 653, 654, 655, 656, 657, 52, 55, 56, 57, 58, 59, 76, 77, 78, 79, 80, 81, 658, 659, 660, 51, 661, 63, 64, 65, 66, 67, 68, 69, 70, 86, 662, 663, 664, 665, 464, 666, 667, 668, 669, 670, 699, 397, 398, 399, 400, 370, 371, 505, 364, 365, 366, 367, 368, 369, 965, 966, 967, 968, 969, 970, 971, 997, 998, 999, 1000, 1001, 1002, 1003, 1004, 1005, 1006, 1007, 1008, 1009, 1010, 1011, 1012, 1013, 1014, 1015, 1016, 1017, 1018, 1019, 1020] rfl rfl) (goodIn_sub (fun _ h => List.mem_append_right _ h) (by decide +kernel))) (goodIn_sub (fun _ h => List.mem_append_left _ (List.mem_append_right _ h)) (by decide +kernel))
set_option maxRecDepth 20000 in
theorem gL_law_L_borrow : GoodIn wsL_law (va_wsS RL 137 yL_borrow wsL_borrow) := goodIn_app (goodIn_of _ (by decide +kernel)) ggL_law_L_borrow
set_option maxRecDepth 20000 in
theorem ggL_law_X4_borrow : GoodIn wsL_law wsX4_borrow := goodIn_r _ [703, 704, 705, 706, 5, 707, 93, 561, 562, 563, 564, 132, 133, 134, 708, 709, 710, 249, 250, 251, 291, 292, 293, 281, 282, 283, 238, 239, 240, 135, 136, 137, 138, 139, 675, 676, 677, 678, 488, 95, 271, 272, 273, 525, 526, 527, 972, 973, 974, 975, 976, 977, 978, 979, 980, 981, 982, 983, 984] rfl rfl
set_option maxRecDepth 20000 in
theorem gL_law_X4_borrow : GoodIn wsL_law (wsV RL 139 RX4 yX4_borrow wsX4_borrow) := goodIn_app (goodIn_of _ (by decide +kernel)) ggL_law_X4_borrow
set_option maxRecDepth 20000 in
theorem ggL_law_L_bringBack : GoodIn wsL_law wsL_bringBack := goodIn_ca (goodIn_ca (goodIn_r _ [713, 539, 109, 714, 715, 716, 2, 717, 21, 499, 547, 548, 549, 550, 551, 552, 355, 356, 718, 393, 394, 20, 395, 75, 361, 362, 380, 381, 382, 383, 53, 54, 643, 644, 645, 116, 117, 646, 647, 648, 649, 24, 23, 650, 651, 652, 653, 654, 655, 656, 657, 52, 55, 56, 57, 58, 59, 76, 77, 78, 79, 80, 81, 658, 659, 660, 51, 661, 63, 64, 65, 66, 67, 68, 69, 70, 86, 662, 663, 664, 665, 464, 666, 667, 668, 669, 670, 719, 389, 390, 391, 392, 370, 371, 505, 364, 365, 366, 367, 368, 369, 965, 966, 967, 968, 969, 970, 971, 997, 998, 999, 1000, 1001, 1002, 1003, 1004, 1005, 1006, 1007, 1008, 1009, 1010, 1011, 1012, 1013, 1014, 1015, 1016, 1017, 1018, 1019, 1020] rfl rfl) (goodIn_sub (fun _ h => List.mem_append_right _ h) (by decide +kernel))) (goodIn_sub (fun _ h => List.mem_append_left _ (List.mem_append_right _ h)) (by decide +kernel))
set_option maxRecDepth 20000 in
theorem gL_law_L_bringBack : GoodIn wsL_law (va_wsS RL 140 yL_bringBack wsL_bringBack) := goodIn_app (goodIn_of _ (by decide +kernel)) ggL_law_L_bringBack
set_option maxRecDepth 20000 in
theorem ggL_law_X4_bringBack : GoodIn wsL_law wsX4_bringBack := goodIn_r _ [723, 704, 705, 706, 5, 707, 93, 561, 562, 563, 564, 132, 133, 134, 708, 709, 710, 249, 250, 251, 291, 292, 293, 281, 282, 283, 238, 239, 240, 135, 136, 137, 138, 139, 675, 676, 677, 678, 488, 95, 271, 272, 273, 525, 526, 527, 972, 973, 974, 975, 976, 977, 978, 979, 980, 981, 982, 983, 984] rfl rfl
set_option maxRecDepth 20000 in
theorem gL_law_X4_bringBack : GoodIn wsL_law (wsV RL 142 RX4 yX4_bringBack wsX4_bringBack) := goodIn_app (goodIn_of _ (by decide +kernel)) ggL_law_X4_bringBack
set_option maxRecDepth 20000 in
theorem ggL_law_L_walk : GoodIn wsL_law wsL_walk := goodIn_ca (goodIn_ca (goodIn_r _ [726, 539, 109, 727, 728, 729, 2, 730, 21, 577, 578, 579, 550, 551, 580, 353, 354, 603, 604, 605, 606, 412, 413, 731, 409, 410, 20, 411, 54, 643, 644, 645, 116, 117, 646, 647, 648, 649, 24, 23, 650, 651, 652, 653, 654, 655, 656, 657, 52, 53, 55, 56, 57, 58, 59, 75, 76, 77, 78, 79, 80, 81, 658, 659, 660, 51, 661, 63, 64, 65, 66, 67, 68, 69, 70, 86, 662, 663, 664, 665, 464, 666, 667, 668, 669, 670, 404, 405, 406, 407, 408, 732, 733, 734, 735, 514, 515, 965, 966, 967, 968, 969, 970, 971, 997, 998, 999, 1000, 1001, 1002, 1003, 1004, 1005, 1006, 1007, 1008, 1009, 1010, 1011, 1012, 1013, 1014, 1015, 1016, 1017, 1018, 1019, 1020] rfl rfl) (goodIn_sub (fun _ h => List.mem_append_right _ h) (by decide +kernel))) (goodIn_sub (fun _ h => List.mem_append_left _ (List.mem_append_right _ h)) (by decide +kernel))
set_option maxRecDepth 20000 in
theorem gL_law_L_walk : GoodIn wsL_law (va_wsS RL 143 yL_walk wsL_walk) := goodIn_app (goodIn_of _ (by decide +kernel)) ggL_law_L_walk
set_option maxRecDepth 20000 in
theorem ggL_law_X4_walk : GoodIn wsL_law wsX4_walk := goodIn_r _ [739, 93, 585, 586, 5, 587, 588, 132, 133, 134, 613, 614, 615, 616, 304, 305, 306, 238, 239, 240, 135, 136, 137, 138, 139, 675, 676, 677, 678, 488, 95, 271, 272, 273, 307, 308, 309, 972, 973, 974, 975, 976, 977, 978, 979, 980, 981, 982, 983, 984] rfl rfl
set_option maxRecDepth 20000 in
theorem gL_law_X4_walk : GoodIn wsL_law (wsV RL 146 RX4 yX4_walk wsX4_walk) := goodIn_app (goodIn_of _ (by decide +kernel)) ggL_law_X4_walk
set_option maxRecDepth 20000 in
theorem ggL_law_L_turn : GoodIn wsL_law wsL_turn := goodIn_ca (goodIn_ca (goodIn_r _ [742, 539, 109, 743, 744, 745, 2, 746, 21, 575, 577, 578, 579, 550, 551, 580, 353, 354, 747, 419, 420, 20, 421, 54, 643, 644, 645, 116, 117, 646, 647, 648, 649, 24, 23, 650, 651, 652, 653, 654, 655, 656, 657, 52, 53, 55, 56, 57, 58, 59, 75, 76, 77, 78, 79, 80, 81, 658, 659, 660, 51, 661, 63, 64, 65, 66, 67, 68, 69, 70, 86, 662, 663, 664, 665, 464, 666, 667, 668, 669, 670, 414, 415, 416, 417, 418, 555, 514, 515, 965, 966, 967, 968, 969, 970, 971, 997, 998, 999, 1000, 1001, 1002, 1003, 1004, 1005, 1006, 1007, 1008, 1009, 1010, 1011, 1012, 1013, 1014, 1015, 1016, 1017, 1018, 1019, 1020] rfl rfl) (goodIn_sub (fun _ h => List.mem_append_right _ h) (by decide +kernel))) (goodIn_sub (fun _ h => List.mem_append_left _ (List.mem_append_right _ h)) (by decide +kernel))
set_option maxRecDepth 20000 in
theorem gL_law_L_turn : GoodIn wsL_law (va_wsS RL 147 yL_turn wsL_turn) := goodIn_app (goodIn_of _ (by decide +kernel)) ggL_law_L_turn
set_option maxRecDepth 20000 in
theorem ggL_law_X4_turn : GoodIn wsL_law wsX4_turn := goodIn_r _ [751, 93, 585, 586, 5, 587, 588, 132, 133, 134, 298, 299, 300, 238, 239, 240, 135, 136, 137, 138, 139, 675, 676, 677, 678, 488, 95, 271, 272, 273, 301, 302, 303, 972, 973, 974, 975, 976, 977, 978, 979, 980, 981, 982, 983, 984] rfl rfl
set_option maxRecDepth 20000 in
theorem gL_law_X4_turn : GoodIn wsL_law (wsV RL 149 RX4 yX4_turn wsX4_turn) := goodIn_app (goodIn_of _ (by decide +kernel)) ggL_law_X4_turn
set_option maxRecDepth 20000 in
theorem ggL_law_L_ticks : GoodIn wsL_law wsL_ticks := goodIn_ca (goodIn_r _ [754, 108, 755, 756, 757, 2, 758, 114, 115, 21, 759, 760, 761, 646, 647, 648, 649, 24, 23, 650, 651, 652, 653, 654, 655, 656, 20, 657, 52, 53, 54, 55, 56, 57, 58, 59, 75, 76, 77, 78, 79, 80, 81, 658, 659, 660, 51, 661, 63, 64, 65, 66, 67, 68, 69, 70, 86, 662, 663, 664, 665, 464, 666, 667, 668, 669, 670, 422, 423, 424, 425, 426, 427, 428, 429, 430, 431, 432, 433, 434, 435, 436, 437, 438, 439, 440, 441, 363, 364, 365, 366, 367, 368, 369, 442, 443, 444, 445, 361, 362, 446, 447, 448, 449, 450, 451, 452, 453, 454, 455, 456, 457, 458, 459, 460, 461, 462, 463, 465, 466, 370, 371, 467, 468, 469, 470, 471, 472, 473, 474, 475, 476, 477, 478, 479, 480, 481, 482, 483, 355, 356, 965, 966, 967, 968, 969, 970, 971, 997, 998, 999, 1000, 1001, 1002, 1003, 1004, 1005, 1006, 1007, 1008, 1009, 1010, 1011, 1012, 1013, 1014, 1015, 1016, 1017, 1018, 1019, 1020] rfl rfl) (goodIn_sub (fun _ h => List.mem_append_left _ (List.mem_append_left _ (List.mem_append_right _ h))) (by decide +kernel))
set_option maxRecDepth 20000 in
theorem gL_law_L_ticks : GoodIn wsL_law (va_wsS RL 150 yL_ticks wsL_ticks) := goodIn_app (goodIn_of _ (by decide +kernel)) ggL_law_L_ticks
set_option maxRecDepth 20000 in
theorem ggL_law_X4_ticks : GoodIn wsL_law wsX4_ticks := goodIn_r _ [765, 766, 93, 132, 133, 5, 134, 135, 136, 137, 138, 139, 675, 676, 677, 678, 488, 95, 271, 272, 273, 232, 233, 234, 235, 236, 237, 238, 239, 240, 241, 242, 243, 244, 245, 246, 247, 248, 249, 250, 251, 252, 253, 254, 101, 102, 103, 255, 256, 257, 258, 259, 260, 261, 262, 263, 264, 265, 266, 267, 268, 269, 270, 972, 973, 974, 975, 976, 977, 978, 979, 980, 981, 982, 983, 984] rfl rfl
set_option maxRecDepth 20000 in
theorem gL_law_X4_ticks : GoodIn wsL_law (wsV RL 152 RX4 yX4_ticks wsX4_ticks) := goodIn_app (goodIn_of _ (by decide +kernel)) ggL_law_X4_ticks
set_option maxRecDepth 20000 in
theorem ggL_law_L_set : GoodIn wsL_law wsL_set := goodIn_ca (goodIn_r _ [769, 108, 770, 771, 772, 2, 773, 114, 115, 21, 774, 775, 776, 606, 412, 413, 646, 647, 648, 649, 24, 23, 650, 651, 652, 653, 654, 655, 656, 20, 657, 52, 53, 54, 55, 56, 57, 58, 59, 75, 76, 77, 78, 79, 80, 81, 658, 659, 660, 51, 661, 63, 64, 65, 66, 67, 68, 69, 70, 86, 662, 663, 664, 665, 464, 666, 667, 668, 669, 670, 777, 778, 779, 780, 466, 781, 965, 966, 967, 968, 969, 970, 971, 997, 998, 999, 1000, 1001, 1002, 1003, 1004, 1005, 1006, 1007, 1008, 1009, 1010, 1011, 1012, 1013, 1014, 1015, 1016, 1017, 1018, 1019, 1020] rfl rfl) (goodIn_sub (fun _ h => List.mem_append_left _ (List.mem_append_left _ (List.mem_append_right _ h))) (by decide +kernel))
set_option maxRecDepth 20000 in
theorem gL_law_L_set : GoodIn wsL_law (va_wsS RL 153 yL_set wsL_set) := goodIn_app (goodIn_of _ (by decide +kernel)) ggL_law_L_set
set_option maxRecDepth 20000 in
theorem ggL_law_X4_set : GoodIn wsL_law wsX4_set := goodIn_r _ [785, 616, 786, 245, 227, 93, 132, 133, 5, 134, 135, 136, 137, 138, 139, 675, 676, 677, 678, 488, 95, 271, 272, 273, 101, 102, 103, 972, 973, 974, 975, 976, 977, 978, 979, 980, 981, 982, 983, 984] rfl rfl
set_option maxRecDepth 20000 in
theorem gL_law_X4_set : GoodIn wsL_law (wsV RL 155 RX4 yX4_set wsX4_set) := goodIn_app (goodIn_of _ (by decide +kernel)) ggL_law_X4_set
set_option maxRecDepth 20000 in
theorem ggL_law_L_undo : GoodIn wsL_law wsL_undo := goodIn_ca (goodIn_r _ [789, 109, 790, 791, 792, 2, 793, 116, 117, 24, 21, 23, 654, 655, 656, 20, 657, 52, 53, 54, 55, 56, 57, 58, 59, 75, 76, 77, 78, 79, 80, 81, 658, 659, 660, 51, 661, 63, 64, 65, 66, 67, 68, 69, 70, 86, 662, 663, 664, 665, 464, 666, 667, 668, 669, 670, 965, 966, 967, 968, 969, 970, 971, 997, 998, 999, 1000, 1001, 1002, 1003, 1004, 1005, 1006, 1007, 1008, 1009, 1010, 1011, 1012, 1013, 1014, 1015, 1016, 1017, 1018, 1019, 1020] rfl rfl) (goodIn_sub (fun _ h => List.mem_append_left _ (List.mem_append_right _ h)) (by decide +kernel))
set_option maxRecDepth 20000 in
theorem gL_law_L_undo : GoodIn wsL_law (va_wsS RL 156 yL_undo wsL_undo) := goodIn_app (goodIn_of _ (by decide +kernel)) ggL_law_L_undo
set_option maxRecDepth 20000 in
theorem ggL_law_X4_undo : GoodIn wsL_law wsX4_undo := goodIn_r _ [797, 488, 95, 93, 135, 136, 137, 5, 138, 139, 271, 272, 273, 972, 973, 974, 975, 976, 977, 978, 979, 980, 981, 982, 983, 984] rfl rfl
set_option maxRecDepth 20000 in
theorem gL_law_X4_undo : GoodIn wsL_law (wsV RL 158 RX4 yX4_undo wsX4_undo) := goodIn_app (goodIn_of _ (by decide +kernel)) ggL_law_X4_undo
set_option maxRecDepth 20000 in
theorem ggL_law_L_shouted : GoodIn wsL_law wsL_shouted := goodIn_ca (goodIn_r _ [800, 539, 801, 802, 803, 2, 804, 22, 21, 546, 547, 548, 549, 550, 551, 552, 355, 356, 654, 655, 656, 20, 657, 52, 53, 54, 55, 56, 57, 58, 59, 75, 76, 77, 78, 79, 80, 81, 658, 659, 660, 51, 661, 63, 64, 65, 66, 67, 68, 69, 70, 86, 662, 663, 664, 665, 464, 666, 667, 668, 669, 670, 422, 423, 424, 425, 426, 427, 428, 429, 430, 431, 432, 433, 434, 435, 436, 437, 438, 439, 440, 441, 363, 364, 365, 366, 367, 368, 369, 442, 443, 444, 445, 361, 362, 446, 447, 448, 449, 450, 451, 452, 453, 454, 455, 456, 457, 458, 459, 460, 461, 462, 463, 465, 466, 370, 371, 467, 468, 469, 470, 471, 472, 473, 474, 475, 476, 477, 478, 479, 480, 481, 482, 483, 965, 966, 967, 968, 969, 970, 971, 997, 998, 999, 1000, 1001, 1002, 1003, 1004, 1005, 1006, 1007, 1008, 1009, 1010, 1011, 1012, 1013, 1014, 1015, 1016, 1017, 1018, 1019, 1020] rfl rfl) (goodIn_sub (fun _ h => List.mem_append_right _ h) (by decide +kernel))
set_option maxRecDepth 20000 in
theorem gL_law_L_shouted : GoodIn wsL_law (va_wsS RL 159 yL_shouted wsL_shouted) := goodIn_app (goodIn_of _ (by decide +kernel)) ggL_law_L_shouted
set_option maxRecDepth 20000 in
theorem ggL_law_X4_shouted : GoodIn wsL_law wsX4_shouted := goodIn_r _ [808, 94, 93, 561, 562, 5, 563, 564, 132, 133, 134, 135, 136, 137, 138, 139, 809, 810, 811, 812, 271, 272, 273, 235, 236, 237, 238, 239, 240, 241, 242, 243, 244, 245, 246, 247, 248, 249, 250, 251, 252, 253, 254, 101, 102, 103, 255, 256, 257, 258, 259, 260, 261, 262, 263, 264, 265, 266, 267, 268, 269, 270, 972, 973, 974, 975, 976, 977, 978, 979, 980, 981, 982, 983, 984] rfl rfl
set_option maxRecDepth 20000 in
theorem gL_law_X4_shouted : GoodIn wsL_law (wsV RL 161 RX4 yX4_shouted wsX4_shouted) := goodIn_app (goodIn_of _ (by decide +kernel)) ggL_law_X4_shouted
set_option maxRecDepth 20000 in
theorem ggL_law_X3_slips : GoodIn wsL_law wsX3_slips := goodIn_r _ [816, 22, 21, 654, 655, 656, 20, 657, 52, 53, 54, 55, 56, 57, 58, 59, 75, 76, 77, 78, 79, 80, 81, 658, 659, 660, 51, 661, 63, 64, 65, 66, 67, 68, 69, 70, 86, 662, 2, 663, 664, 665, 464, 666, 667, 668, 669, 670, 817, 818, 819, 820, 821, 423, 424, 425, 426, 427, 428, 429, 430, 431, 432, 433, 434, 435, 436, 437, 438, 439, 440, 441, 363, 364, 365, 366, 367, 368, 369, 442, 443, 444, 445, 361, 362, 446, 447, 448, 449, 450, 451, 452, 453, 454, 455, 456, 457, 458, 459, 460, 461, 462, 463, 465, 466, 370, 371, 467, 468, 469, 470, 471, 472, 473, 474, 475, 476, 477, 478, 479, 480, 481, 482, 483, 355, 356, 965, 966, 967, 968, 969, 970, 971, 997, 998, 999, 1000, 1001, 1002, 1003, 1004, 1005, 1006, 1007, 1008, 1009, 1010, 1011, 1012, 1013, 1014, 1015, 1016, 1017, 1018, 1019, 1020] rfl rfl
set_option maxRecDepth 20000 in
theorem gL_law_X3_slips : GoodIn wsL_law (wsV RL 162 RX3 yX3_slips wsX3_slips) := goodIn_app (goodIn_of _ (by decide +kernel)) ggL_law_X3_slips
set_option maxRecDepth 20000 in
theorem ggL_law_X4_slips : GoodIn wsL_law wsX4_slips := goodIn_r _ [825, 139, 809, 810, 811, 5, 812, 93, 94, 271, 272, 273, 826, 827, 828, 829, 235, 236, 237, 238, 239, 240, 241, 242, 243, 244, 245, 132, 133, 134, 246, 247, 248, 249, 250, 251, 252, 253, 254, 101, 102, 103, 255, 256, 257, 258, 259, 260, 261, 262, 263, 264, 265, 266, 267, 268, 269, 270, 298, 299, 300, 830, 831, 832, 833, 972, 973, 974, 975, 976, 977, 978, 979, 980, 981, 982, 983, 984] rfl rfl
set_option maxRecDepth 20000 in
theorem gL_law_X4_slips : GoodIn wsL_law (wsV RL 165 RX4 yX4_slips wsX4_slips) := goodIn_app (goodIn_of _ (by decide +kernel)) ggL_law_X4_slips
set_option maxRecDepth 20000 in
theorem ggL_law_L_leastStrength : GoodIn wsL_law wsL_leastStrength := goodIn_ca (goodIn_r _ [836, 539, 837, 838, 839, 2, 840, 22, 21, 328, 329, 603, 604, 605, 550, 551, 606, 412, 413, 654, 655, 656, 20, 657, 52, 53, 54, 55, 56, 57, 58, 59, 75, 76, 77, 78, 79, 80, 81, 658, 659, 660, 51, 661, 63, 64, 65, 66, 67, 68, 69, 70, 86, 662, 663, 664, 665, 464, 666, 667, 668, 669, 670, 817, 818, 819, 820, 821, 423, 424, 425, 426, 427, 428, 429, 430, 431, 432, 433, 434, 435, 436, 437, 438, 439, 440, 441, 363, 364, 365, 366, 367, 368, 369, 442, 443, 444, 445, 361, 362, 446, 447, 448, 449, 450, 451, 452, 453, 454, 455, 456, 457, 458, 459, 460, 461, 462, 463, 465, 466, 370, 371, 467, 468, 469, 470, 471, 472, 473, 474, 475, 476, 477, 478, 479, 480, 481, 482, 483, 355, 356, 965, 966, 967, 968, 969, 970, 971, 997, 998, 999, 1000, 1001, 1002, 1003, 1004, 1005, 1006, 1007, 1008, 1009, 1010, 1011, 1012, 1013, 1014, 1015, 1016, 1017, 1018, 1019, 1020] rfl rfl) (goodIn_sub (fun _ h => List.mem_append_right _ h) (by decide +kernel))
set_option maxRecDepth 20000 in
theorem gL_law_L_leastStrength : GoodIn wsL_law (va_wsS RL 166 yL_leastStrength wsL_leastStrength) := goodIn_app (goodIn_of _ (by decide +kernel)) ggL_law_L_leastStrength
set_option maxRecDepth 20000 in
theorem ggL_law_X4_leastStrength : GoodIn wsL_law wsX4_leastStrength := goodIn_r _ [844, 94, 613, 614, 5, 615, 616, 132, 133, 134, 135, 136, 137, 138, 139, 809, 810, 811, 812, 93, 271, 272, 273, 101, 102, 103, 826, 827, 828, 829, 235, 236, 237, 238, 239, 240, 241, 242, 243, 244, 245, 246, 247, 248, 249, 250, 251, 252, 253, 254, 255, 256, 257, 258, 259, 260, 261, 262, 263, 264, 265, 266, 267, 268, 269, 270, 298, 299, 300, 830, 831, 832, 833, 972, 973, 974, 975, 976, 977, 978, 979, 980, 981, 982, 983, 984] rfl rfl
set_option maxRecDepth 20000 in
theorem gL_law_X4_leastStrength : GoodIn wsL_law (wsV RL 168 RX4 yX4_leastStrength wsX4_leastStrength) := goodIn_app (goodIn_of _ (by decide +kernel)) ggL_law_X4_leastStrength
set_option maxRecDepth 20000 in
theorem ggL_law_L_bestGate : GoodIn wsL_law wsL_bestGate := goodIn_ca (goodIn_ca (goodIn_r _ [847, 539, 109, 848, 849, 850, 2, 851, 21, 572, 577, 578, 579, 550, 551, 580, 353, 354, 643, 644, 645, 116, 117, 852, 853, 854, 855, 22, 654, 655, 656, 20, 657, 52, 53, 54, 55, 56, 57, 58, 59, 75, 76, 77, 78, 79, 80, 81, 658, 659, 660, 51, 661, 63, 64, 65, 66, 67, 68, 69, 70, 86, 662, 663, 664, 665, 464, 666, 667, 668, 669, 670, 404, 405, 406, 407, 408, 409, 410, 411, 412, 413, 422, 423, 424, 425, 426, 427, 428, 429, 430, 431, 432, 433, 434, 435, 436, 437, 438, 439, 440, 441, 363, 364, 365, 366, 367, 368, 369, 442, 443, 444, 445, 361, 362, 446, 447, 448, 449, 450, 451, 452, 453, 454, 455, 456, 457, 458, 459, 460, 461, 462, 463, 465, 466, 370, 371, 467, 468, 469, 470, 471, 472, 473, 474, 475, 476, 477, 478, 479, 480, 481, 482, 483, 355, 356, 965, 966, 967, 968, 969, 970, 971, 997, 998, 999, 1000, 1001, 1002, 1003, 1004, 1005, 1006, 1007, 1008, 1009, 1010, 1011, 1012, 1013, 1014, 1015, 1016, 1017, 1018, 1019, 1020] rfl rfl) (goodIn_sub (fun _ h => List.mem_append_right _ h) (by decide +kernel))) (goodIn_sub (fun _ h => List.mem_append_left _ (List.mem_append_right _ h)) (by decide +kernel))
set_option maxRecDepth 20000 in
theorem gL_law_L_bestGate : GoodIn wsL_law (va_wsS RL 169 yL_bestGate wsL_bestGate) := goodIn_app (goodIn_of _ (by decide +kernel)) ggL_law_L_bestGate
set_option maxRecDepth 20000 in
theorem ggL_law_X4_bestGate : GoodIn wsL_law wsX4_bestGate := goodIn_r _ [859, 93, 94, 585, 586, 5, 587, 588, 132, 133, 134, 281, 282, 283, 238, 239, 240, 135, 136, 137, 138, 139, 809, 810, 811, 812, 271, 272, 273, 307, 308, 309, 232, 233, 234, 235, 236, 237, 241, 242, 243, 244, 245, 246, 247, 248, 249, 250, 251, 252, 253, 254, 101, 102, 103, 255, 256, 257, 258, 259, 260, 261, 262, 263, 264, 265, 266, 267, 268, 269, 270, 972, 973, 974, 975, 976, 977, 978, 979, 980, 981, 982, 983, 984] rfl rfl
set_option maxRecDepth 20000 in
theorem gL_law_X4_bestGate : GoodIn wsL_law (wsV RL 171 RX4 yX4_bestGate wsX4_bestGate) := goodIn_app (goodIn_of _ (by decide +kernel)) ggL_law_X4_bestGate
set_option maxRecDepth 20000 in
theorem ggL_law_L_runScript : GoodIn wsL_law wsL_runScript := goodIn_ca (goodIn_r _ [862, 108, 863, 864, 865, 2, 866, 114, 115, 22, 21, 867, 868, 869, 870, 654, 655, 656, 20, 657, 52, 53, 54, 55, 56, 57, 58, 59, 75, 76, 77, 78, 79, 80, 81, 658, 659, 660, 51, 661, 63, 64, 65, 66, 67, 68, 69, 70, 86, 662, 663, 664, 665, 464, 666, 667, 668, 669, 670, 871, 872, 873, 874, 545, 572, 498, 328, 345, 346, 347, 348, 349, 350, 351, 352, 353, 354, 355, 356, 357, 358, 359, 360, 361, 362, 363, 364, 365, 366, 367, 368, 369, 370, 371, 875, 876, 877, 878, 372, 373, 374, 375, 376, 377, 378, 379, 380, 381, 382, 383, 699, 397, 398, 399, 400, 401, 402, 403, 719, 389, 390, 391, 392, 393, 394, 395, 404, 405, 406, 407, 408, 409, 410, 411, 412, 413, 414, 415, 416, 417, 418, 419, 420, 421, 759, 760, 761, 422, 423, 424, 425, 426, 427, 428, 429, 430, 431, 432, 433, 434, 435, 436, 437, 438, 439, 440, 441, 442, 443, 444, 445, 446, 447, 448, 449, 450, 451, 452, 453, 454, 455, 456, 457, 458, 459, 460, 461, 462, 463, 465, 466, 467, 468, 469, 470, 471, 472, 473, 474, 475, 476, 477, 478, 479, 480, 481, 482, 483, 552, 554, 555, 514, 515, 580, 500, 965, 966, 967, 968, 969, 970, 971, 997, 998, 999, 1000, 1001, 1002, 1003, 1004, 1005, 1006, 1007, 1008, 1009, 1010, 1011, 1012, 1013, 1014, 1015, 1016, 1017, 1018, 1019, 1020] rfl rfl) (goodIn_sub (fun _ h => List.mem_append_left _ (List.mem_append_left _ (List.mem_append_right _ h))) (by decide +kernel))
set_option maxRecDepth 20000 in
theorem gL_law_L_runScript : GoodIn wsL_law (va_wsS RL 174 yL_runScript wsL_runScript) := goodIn_app (goodIn_of _ (by decide +kernel)) ggL_law_L_runScript
set_option maxRecDepth 20000 in
theorem ggL_law_X4_runScript : GoodIn wsL_law wsX4_runScript := goodIn_r _ [882, 245, 883, 132, 133, 5, 134, 884, 885, 886, 520, 135, 136, 137, 138, 139, 809, 810, 811, 812, 93, 94, 271, 272, 273, 887, 888, 889, 890, 891, 892, 893, 894, 585, 586, 587, 588, 561, 562, 563, 564, 278, 279, 280, 249, 250, 251, 281, 282, 283, 238, 239, 240, 262, 263, 264, 895, 896, 897, 898, 288, 289, 290, 291, 292, 293, 708, 709, 710, 899, 900, 901, 902, 613, 614, 615, 616, 304, 305, 306, 307, 308, 309, 903, 904, 905, 906, 298, 299, 300, 301, 302, 303, 907, 908, 909, 910, 766, 232, 233, 234, 235, 236, 237, 241, 242, 243, 244, 246, 247, 248, 252, 253, 254, 101, 102, 103, 255, 256, 257, 258, 259, 260, 261, 265, 266, 267, 268, 269, 270, 972, 973, 974, 975, 976, 977, 978, 979, 980, 981, 982, 983, 984] rfl rfl
set_option maxRecDepth 20000 in
theorem gL_law_X4_runScript : GoodIn wsL_law (wsV RL 177 RX4 yX4_runScript wsX4_runScript) := goodIn_app (goodIn_of _ (by decide +kernel)) ggL_law_X4_runScript
set_option maxRecDepth 20000 in
theorem ggL_law_L_simulate : GoodIn wsL_law wsL_simulate := goodIn_ca (goodIn_r _ [913, 108, 914, 915, 916, 2, 917, 114, 115, 22, 21, 918, 919, 497, 498, 654, 655, 656, 20, 657, 52, 53, 54, 55, 56, 57, 58, 59, 75, 76, 77, 78, 79, 80, 81, 658, 659, 660, 51, 661, 63, 64, 65, 66, 67, 68, 69, 70, 86, 662, 663, 664, 665, 464, 666, 667, 668, 669, 670, 920, 921, 922, 923, 345, 346, 347, 348, 349, 350, 351, 352, 353, 354, 355, 356, 357, 358, 359, 360, 361, 362, 363, 364, 365, 366, 367, 368, 369, 370, 371, 384, 385, 386, 387, 388, 389, 390, 391, 392, 393, 394, 395, 380, 381, 382, 383, 396, 397, 398, 399, 400, 401, 402, 403, 924, 925, 926, 927, 928, 405, 406, 407, 408, 409, 410, 411, 412, 413, 414, 415, 416, 417, 418, 419, 420, 421, 422, 423, 424, 425, 426, 427, 428, 429, 430, 431, 432, 433, 434, 435, 436, 437, 438, 439, 440, 441, 442, 443, 444, 445, 446, 447, 448, 449, 450, 451, 452, 453, 454, 455, 456, 457, 458, 459, 460, 461, 462, 463, 465, 466, 467, 468, 469, 470, 471, 472, 473, 474, 475, 476, 477, 478, 479, 480, 481, 482, 483, 965, 966, 967, 968, 969, 970, 971, 997, 998, 999, 1000, 1001, 1002, 1003, 1004, 1005, 1006, 1007, 1008, 1009, 1010, 1011, 1012, 1013, 1014, 1015, 1016, 1017, 1018, 1019, 1020] rfl rfl) (goodIn_sub (fun _ h => List.mem_append_left _ (List.mem_append_left _ (List.mem_append_right _ h))) (by decide +kernel))
set_option maxRecDepth 20000 in
theorem gL_law_L_simulate : GoodIn wsL_law (va_wsS RL 178 yL_simulate wsL_simulate) := goodIn_app (goodIn_of _ (by decide +kernel)) ggL_law_L_simulate
set_option maxRecDepth 20000 in
theorem ggL_law_X4_simulate : GoodIn wsL_law wsX4_simulate := goodIn_r _ [932, 933, 934, 935, 94, 93, 132, 133, 5, 134, 135, 136, 137, 138, 139, 809, 810, 811, 812, 271, 272, 273, 936, 937, 938, 939, 891, 892, 893, 894, 585, 586, 587, 588, 561, 562, 563, 564, 278, 279, 280, 249, 250, 251, 281, 282, 283, 238, 239, 240, 262, 263, 264, 895, 896, 897, 898, 288, 289, 290, 291, 292, 293, 708, 709, 710, 899, 900, 901, 902, 613, 614, 615, 616, 304, 305, 306, 307, 308, 309, 903, 904, 905, 906, 298, 299, 300, 301, 302, 303, 235, 236, 237, 241, 242, 243, 244, 245, 246, 247, 248, 252, 253, 254, 101, 102, 103, 255, 256, 257, 258, 259, 260, 261, 265, 266, 267, 268, 269, 270, 972, 973, 974, 975, 976, 977, 978, 979, 980, 981, 982, 983, 984] rfl rfl
set_option maxRecDepth 20000 in
theorem gL_law_X4_simulate : GoodIn wsL_law (wsV RL 181 RX4 yX4_simulate wsX4_simulate) := goodIn_app (goodIn_of _ (by decide +kernel)) ggL_law_X4_simulate
set_option maxRecDepth 20000 in
theorem ggL_law_L_save : GoodIn wsL_law wsL_save := goodIn_ca (goodIn_r _ [942, 539, 943, 944, 945, 2, 946, 25, 21, 27, 496, 947, 948, 949, 550, 551, 654, 655, 656, 20, 657, 52, 53, 54, 55, 56, 57, 58, 59, 75, 76, 77, 78, 79, 80, 81, 658, 659, 660, 51, 661, 63, 64, 65, 66, 67, 68, 69, 70, 86, 662, 663, 664, 665, 464, 666, 667, 668, 669, 670, 965, 966, 967, 968, 969, 970, 971, 997, 998, 999, 1000, 1001, 1002, 1003, 1004, 1005, 1006, 1007, 1008, 1009, 1010, 1011, 1012, 1013, 1014, 1015, 1016, 1017, 1018, 1019, 1020] rfl rfl) (goodIn_sub (fun _ h => List.mem_append_right _ h) (by decide +kernel))
set_option maxRecDepth 20000 in
theorem gL_law_L_save : GoodIn wsL_law (va_wsS RL 182 yL_save wsL_save) := goodIn_app (goodIn_of _ (by decide +kernel)) ggL_law_L_save
set_option maxRecDepth 20000 in
theorem ggL_law_X4_save : GoodIn wsL_law wsX4_save := goodIn_r _ [953, 93, 96, 97, 132, 133, 5, 134, 135, 136, 137, 138, 139, 271, 272, 273, 972, 973, 974, 975, 976, 977, 978, 979, 980, 981, 982, 983, 984] rfl rfl
set_option maxRecDepth 20000 in
theorem gL_law_X4_save : GoodIn wsL_law (wsV RL 184 RX4 yX4_save wsX4_save) := goodIn_app (goodIn_of _ (by decide +kernel)) ggL_law_X4_save
set_option maxRecDepth 20000 in
theorem ggL_law_L_restore : GoodIn wsL_law wsL_restore := goodIn_ca (goodIn_ca (goodIn_r _ [956, 539, 109, 957, 958, 959, 2, 960, 27, 21, 25, 24, 496, 947, 948, 949, 550, 551, 643, 644, 645, 116, 117, 654, 655, 656, 20, 657, 52, 53, 54, 55, 56, 57, 58, 59, 75, 76, 77, 78, 79, 80, 81, 658, 659, 660, 51, 661, 63, 64, 65, 66, 67, 68, 69, 70, 86, 662, 663, 664, 665, 464, 666, 667, 668, 669, 670, 965, 966, 967, 968, 969, 970, 971, 997, 998, 999, 1000, 1001, 1002, 1003, 1004, 1005, 1006, 1007, 1008, 1009, 1010, 1011, 1012, 1013, 1014, 1015, 1016, 1017, 1018, 1019, 1020] rfl rfl) (goodIn_sub (fun _ h => List.mem_append_right _ h) (by decide +kernel))) (goodIn_sub (fun _ h => List.mem_append_left _ (List.mem_append_right _ h)) (by decide +kernel))
