set_option maxRecDepth 20000 in
theorem ggL_setRaw_X9_setRaw : GoodIn wsL_setRaw wsX9_setRaw := goodIn_ca (goodIn_ca (goodIn_r _ [7, 8, 9, 10, 11, 12, 13, 6, 14, 15, 16, 17, 18, 19, 20, 21, 22, 23, 24, 25, 26, 27, 28, 29, 30, 31, 32, 33, 34, 35, 36, 37, 38, 39, 40, 41, 42, 43, 44, 45, 46, 47, 48, 49, 50, 51, 52, 53, 54, 55, 56, 57, 58, 59, 60, 61, 62, 63, 64, 65, 66, 67, 68, 69, 70, 71, 72, 73, 74, 75, 76, 77, 78, 79, 80, 81, 82, 83, 84, 85, 86, 87, 88, 89, 90, 91, 92, 93, 94, 95] (by decide +kernel) (by decide +kernel)) (goodIn_sub (fun _ h => List.mem_cons_of_mem _ (List.mem_append_left _ (List.mem_append_right _ h))) (by decide +kernel))) (goodIn_sub (fun _ h => List.mem_cons_of_mem _ (List.mem_append_right _ h)) (by decide +kernel))
set_option maxRecDepth 20000 in
theorem gL_setRaw_X9_setRaw : GoodIn wsL_setRaw (wsV RL 7 RX9 yX9_setRaw wsX9_setRaw) := goodIn_app (goodIn_of _ (by decide +kernel)) ggL_setRaw_X9_setRaw
theorem dL_setRaw_0 : decode cL_setRaw 0 = .ok (.aload 4, 2) := by decide +kernel
theorem dL_setRaw_2 : decode cL_setRaw 2 = .ok (.iconst 0, 1) := by decide +kernel
theorem dL_setRaw_3 : decode cL_setRaw 3 = .ok (.aload_n 0, 1) := by decide +kernel
theorem dL_setRaw_4 : decode cL_setRaw 4 = .ok (.iload_n 1, 1) := by decide +kernel
theorem dL_setRaw_5 : decode cL_setRaw 5 = .ok (.iload_n 2, 1) := by decide +kernel
theorem dL_setRaw_6 : decode cL_setRaw 6 = .ok (.iload_n 3, 1) := by decide +kernel
theorem dL_setRaw_7 : decode cL_setRaw 7 = .ok (.invokevirtual 7, 3) := by decide +kernel
theorem dL_setRaw_10 : decode cL_setRaw 10 = .ok (.i2l, 1) := by decide +kernel
theorem dL_setRaw_11 : decode cL_setRaw 11 = .ok (.lastore, 1) := by decide +kernel
theorem dL_setRaw_12 : decode cL_setRaw 12 = .ok (.goto 11, 3) := by decide +kernel
theorem dL_setRaw_15 : decode cL_setRaw 15 = .ok (.astore 5, 2) := by decide +kernel
theorem dL_setRaw_17 : decode cL_setRaw 17 = .ok (.iconst 1, 1) := by decide +kernel
theorem dL_setRaw_18 : decode cL_setRaw 18 = .ok (.ireturn, 1) := by decide +kernel
theorem dL_setRaw_19 : decode cL_setRaw 19 = .ok (.astore 5, 2) := by decide +kernel
theorem dL_setRaw_21 : decode cL_setRaw 21 = .ok (.iconst 2, 1) := by decide +kernel
theorem dL_setRaw_22 : decode cL_setRaw 22 = .ok (.ireturn, 1) := by decide +kernel
theorem dL_setRaw_23 : decode cL_setRaw 23 = .ok (.iconst 0, 1) := by decide +kernel
theorem dL_setRaw_24 : decode cL_setRaw 24 = .ok (.ireturn, 1) := by decide +kernel
set_option maxRecDepth 20000 in
theorem ggL_press_X9_press : GoodIn wsL_press wsX9_press := goodIn_ca (goodIn_ca (goodIn_r _ [7, 8, 9, 10, 11, 12, 13, 6, 14, 15, 16, 17, 18, 19, 20, 21, 22, 23, 24, 25, 26, 27, 28, 29, 30, 31, 32, 33, 34, 35, 36, 37, 38, 39, 40, 41, 42, 43, 44, 45, 46, 47, 48, 49, 50, 51, 52, 53, 54, 55, 56, 57, 58, 59, 60, 61, 62, 63, 64, 65, 66, 67, 68, 69, 70, 71, 72, 73, 74, 75, 76, 77, 78, 79, 80, 81, 82, 83, 84, 85, 86, 87, 88, 89, 90, 91, 92, 93, 94, 95, 96, 97, 98, 99, 100, 101, 102, 103] (by decide +kernel) (by decide +kernel)) (goodIn_sub (fun _ h => List.mem_cons_of_mem _ (List.mem_append_left _ (List.mem_append_right _ h))) (by decide +kernel))) (goodIn_sub (fun _ h => List.mem_cons_of_mem _ (List.mem_append_right _ h)) (by decide +kernel))
set_option maxRecDepth 20000 in
theorem gL_press_X9_press : GoodIn wsL_press (wsV RL 17 RX9 yX9_press wsX9_press) := goodIn_app (goodIn_of _ (by decide +kernel)) ggL_press_X9_press
theorem dL_press_0 : decode cL_press 0 = .ok (.aload 4, 2) := by decide +kernel
theorem dL_press_2 : decode cL_press 2 = .ok (.iconst 0, 1) := by decide +kernel
theorem dL_press_3 : decode cL_press 3 = .ok (.aload_n 0, 1) := by decide +kernel
theorem dL_press_4 : decode cL_press 4 = .ok (.iload_n 1, 1) := by decide +kernel
theorem dL_press_5 : decode cL_press 5 = .ok (.iload_n 2, 1) := by decide +kernel
theorem dL_press_6 : decode cL_press 6 = .ok (.iload_n 3, 1) := by decide +kernel
theorem dL_press_7 : decode cL_press 7 = .ok (.invokevirtual 17, 3) := by decide +kernel
theorem dL_press_10 : decode cL_press 10 = .ok (.i2l, 1) := by decide +kernel
theorem dL_press_11 : decode cL_press 11 = .ok (.lastore, 1) := by decide +kernel
theorem dL_press_12 : decode cL_press 12 = .ok (.goto 11, 3) := by decide +kernel
theorem dL_press_15 : decode cL_press 15 = .ok (.astore 5, 2) := by decide +kernel
theorem dL_press_17 : decode cL_press 17 = .ok (.iconst 1, 1) := by decide +kernel
theorem dL_press_18 : decode cL_press 18 = .ok (.ireturn, 1) := by decide +kernel
theorem dL_press_19 : decode cL_press 19 = .ok (.astore 5, 2) := by decide +kernel
theorem dL_press_21 : decode cL_press 21 = .ok (.iconst 2, 1) := by decide +kernel
theorem dL_press_22 : decode cL_press 22 = .ok (.ireturn, 1) := by decide +kernel
theorem dL_press_23 : decode cL_press 23 = .ok (.iconst 0, 1) := by decide +kernel
theorem dL_press_24 : decode cL_press 24 = .ok (.ireturn, 1) := by decide +kernel
set_option maxRecDepth 20000 in
theorem ggL_set_X9_set : GoodIn wsL_set wsX9_set := goodIn_ca (goodIn_ca (goodIn_r _ [7, 8, 9, 10, 11, 12, 13, 14, 15, 6, 16, 17, 18, 19, 20, 21, 22, 23, 24, 25, 26, 27, 28, 29, 30, 31, 32, 33, 34, 35, 36, 37, 38, 39, 40, 41, 42, 43, 44, 45, 46, 47, 48, 49, 50, 51, 52, 53, 54, 55, 56, 57, 58, 59, 60, 61, 62, 63, 64, 65, 66, 67, 68, 69, 70, 71, 72, 73, 74, 75, 76, 77, 78, 79, 80, 81, 82, 83, 84, 85] (by decide +kernel) (by decide +kernel)) (goodIn_sub (fun _ h => List.mem_cons_of_mem _ (List.mem_append_left _ (List.mem_append_right _ h))) (by decide +kernel))) (goodIn_sub (fun _ h => List.mem_cons_of_mem _ (List.mem_append_right _ h)) (by decide +kernel))
set_option maxRecDepth 20000 in
theorem gL_set_X9_set : GoodIn wsL_set (wsV RL 20 RX9 yX9_set wsX9_set) := goodIn_app (goodIn_of _ (by decide +kernel)) ggL_set_X9_set
theorem dL_set_0 : decode cL_set 0 = .ok (.aload_n 3, 1) := by decide +kernel
theorem dL_set_1 : decode cL_set 1 = .ok (.iconst 0, 1) := by decide +kernel
theorem dL_set_2 : decode cL_set 2 = .ok (.aload_n 0, 1) := by decide +kernel
theorem dL_set_3 : decode cL_set 3 = .ok (.iload_n 1, 1) := by decide +kernel
theorem dL_set_4 : decode cL_set 4 = .ok (.iload_n 2, 1) := by decide +kernel
theorem dL_set_5 : decode cL_set 5 = .ok (.invokevirtual 20, 3) := by decide +kernel
theorem dL_set_8 : decode cL_set 8 = .ok (.i2l, 1) := by decide +kernel
theorem dL_set_9 : decode cL_set 9 = .ok (.lastore, 1) := by decide +kernel
theorem dL_set_10 : decode cL_set 10 = .ok (.goto 11, 3) := by decide +kernel
theorem dL_set_13 : decode cL_set 13 = .ok (.astore 4, 2) := by decide +kernel
theorem dL_set_15 : decode cL_set 15 = .ok (.iconst 1, 1) := by decide +kernel
theorem dL_set_16 : decode cL_set 16 = .ok (.ireturn, 1) := by decide +kernel
theorem dL_set_17 : decode cL_set 17 = .ok (.astore 4, 2) := by decide +kernel
theorem dL_set_19 : decode cL_set 19 = .ok (.iconst 2, 1) := by decide +kernel
theorem dL_set_20 : decode cL_set 20 = .ok (.ireturn, 1) := by decide +kernel
theorem dL_set_21 : decode cL_set 21 = .ok (.iconst 0, 1) := by decide +kernel
theorem dL_set_22 : decode cL_set 22 = .ok (.ireturn, 1) := by decide +kernel
set_option maxRecDepth 20000 in
theorem ggL_appendText_X9_appendText : GoodIn wsL_appendText wsX9_appendText := goodIn_ca (goodIn_ca (goodIn_r _ [7, 8, 9, 10, 11, 12, 13, 14, 15, 16, 17, 18, 19, 20, 21, 22, 23, 24, 25, 26, 27, 28, 29, 30, 31, 32, 33] (by decide +kernel) (by decide +kernel)) (goodIn_sub (fun _ h => List.mem_cons_of_mem _ (List.mem_append_left _ (List.mem_append_right _ h))) (by decide +kernel))) (goodIn_sub (fun _ h => List.mem_cons_of_mem _ (List.mem_append_right _ h)) (by decide +kernel))
set_option maxRecDepth 20000 in
theorem gL_appendText_X9_appendText : GoodIn wsL_appendText (wsV RL 24 RX9 yX9_appendText wsX9_appendText) := goodIn_app (goodIn_of _ (by decide +kernel)) ggL_appendText_X9_appendText
theorem dL_appendText_0 : decode cL_appendText 0 = .ok (.aload_n 2, 1) := by decide +kernel
theorem dL_appendText_1 : decode cL_appendText 1 = .ok (.iconst 0, 1) := by decide +kernel
theorem dL_appendText_2 : decode cL_appendText 2 = .ok (.aload_n 0, 1) := by decide +kernel
theorem dL_appendText_3 : decode cL_appendText 3 = .ok (.iload_n 1, 1) := by decide +kernel
theorem dL_appendText_4 : decode cL_appendText 4 = .ok (.invokevirtual 24, 3) := by decide +kernel
theorem dL_appendText_7 : decode cL_appendText 7 = .ok (.i2l, 1) := by decide +kernel
theorem dL_appendText_8 : decode cL_appendText 8 = .ok (.lastore, 1) := by decide +kernel
theorem dL_appendText_9 : decode cL_appendText 9 = .ok (.goto 9, 3) := by decide +kernel
theorem dL_appendText_12 : decode cL_appendText 12 = .ok (.astore_n 3, 1) := by decide +kernel
theorem dL_appendText_13 : decode cL_appendText 13 = .ok (.iconst 1, 1) := by decide +kernel
theorem dL_appendText_14 : decode cL_appendText 14 = .ok (.ireturn, 1) := by decide +kernel
theorem dL_appendText_15 : decode cL_appendText 15 = .ok (.astore_n 3, 1) := by decide +kernel
theorem dL_appendText_16 : decode cL_appendText 16 = .ok (.iconst 2, 1) := by decide +kernel
theorem dL_appendText_17 : decode cL_appendText 17 = .ok (.ireturn, 1) := by decide +kernel
theorem dL_appendText_18 : decode cL_appendText 18 = .ok (.iconst 0, 1) := by decide +kernel
theorem dL_appendText_19 : decode cL_appendText 19 = .ok (.ireturn, 1) := by decide +kernel
set_option maxRecDepth 20000 in
theorem ggL_runText_X9_runText : GoodIn wsL_runText wsX9_runText := goodIn_ca (goodIn_r _ [6, 7, 8, 9, 10, 11, 12, 13, 14, 15, 5, 16, 17, 18, 19, 20, 21, 22, 23, 24, 25, 26, 27, 28, 29, 30, 31, 32, 33, 34, 35, 36, 37, 38, 39, 40, 41, 42, 43, 44, 45, 46, 47, 48, 49, 50, 51, 52, 53, 54, 55, 56, 57, 58, 59, 60, 61, 62, 63, 64, 65, 66, 67, 68, 69, 70, 71, 72, 73, 74, 75, 76, 77, 78, 79, 80, 81, 82, 83, 84, 85, 86, 87, 88, 89, 90, 91, 92, 93, 94, 95, 96, 97, 98, 99, 100, 101, 102, 103, 104, 105, 106, 107, 108, 109, 110, 111, 112, 113, 114, 115, 116, 117, 118, 119, 120, 121, 122, 123, 124, 125, 126, 127, 128, 129, 130, 131, 132, 133, 134, 135, 136, 137, 138, 139, 140, 141, 142, 143, 144, 145, 146, 147, 148, 149, 150, 151, 152, 153, 154, 155, 156, 157, 158, 159, 160, 161, 162, 163, 164, 165, 166, 167, 168, 169, 170, 171, 172, 173, 174, 175, 176, 177, 178, 179, 180, 181, 182, 183, 184, 185, 186, 187, 188, 189, 190, 191, 192, 193, 194, 195, 196, 197, 198, 199, 200, 201, 202, 203, 204, 205, 206, 207, 208, 209, 210, 211, 212, 213, 214, 215, 216, 217, 218, 219, 220, 221, 222, 223, 224, 225, 226, 227, 228, 229, 230, 231, 232, 233, 234, 235, 236, 237, 238, 239, 240, 241, 242, 243, 244, 245, 246, 247, 248, 249, 250, 251, 252, 253, 254, 255, 256, 257, 258, 259, 260, 261, 262, 263, 264, 265, 266, 267, 268, 269, 270, 271, 272, 273, 274, 275, 276, 277, 278, 279, 280, 281, 282, 283, 284, 285, 286, 287, 288, 289, 290, 291, 292, 293, 294, 295, 296, 297, 298, 299, 300, 301, 302, 303, 304, 305, 306, 307, 308, 309, 310, 311, 312, 313, 314, 315, 316, 317, 318, 319, 320, 321] (by decide +kernel) (by decide +kernel)) (goodIn_sub (fun _ h => List.mem_cons_of_mem _ (List.mem_append_right _ h)) (by decide +kernel))
set_option maxRecDepth 20000 in
theorem gL_runText_X9_runText : GoodIn wsL_runText (wsV RL 30 RX9 yX9_runText wsX9_runText) := goodIn_app (goodIn_of _ (by decide +kernel)) ggL_runText_X9_runText
theorem dL_runText_0 : decode cL_runText 0 = .ok (.aload_n 1, 1) := by decide +kernel
theorem dL_runText_1 : decode cL_runText 1 = .ok (.iconst 0, 1) := by decide +kernel
theorem dL_runText_2 : decode cL_runText 2 = .ok (.aload_n 0, 1) := by decide +kernel
theorem dL_runText_3 : decode cL_runText 3 = .ok (.invokevirtual 30, 3) := by decide +kernel
theorem dL_runText_6 : decode cL_runText 6 = .ok (.i2l, 1) := by decide +kernel
theorem dL_runText_7 : decode cL_runText 7 = .ok (.lastore, 1) := by decide +kernel
theorem dL_runText_8 : decode cL_runText 8 = .ok (.goto 6, 3) := by decide +kernel
theorem dL_runText_11 : decode cL_runText 11 = .ok (.astore_n 2, 1) := by decide +kernel
theorem dL_runText_12 : decode cL_runText 12 = .ok (.iconst 1, 1) := by decide +kernel
theorem dL_runText_13 : decode cL_runText 13 = .ok (.ireturn, 1) := by decide +kernel
theorem dL_runText_14 : decode cL_runText 14 = .ok (.iconst 0, 1) := by decide +kernel
theorem dL_runText_15 : decode cL_runText 15 = .ok (.ireturn, 1) := by decide +kernel
set_option maxRecDepth 20000 in
theorem ggL_undo_X9_undo : GoodIn wsL_undo wsX9_undo := goodIn_ca (goodIn_r _ [6, 7, 8, 9, 10, 11, 12, 13, 14, 15, 16, 17, 18, 19, 20, 21, 22, 23, 24, 25, 26, 27, 28, 29, 30, 31, 32, 33, 34, 35, 36, 37, 38, 39, 40, 41, 42, 43, 44, 45, 46, 47, 48, 49, 50, 51, 52, 53, 54, 55, 56, 57, 58, 59, 60, 61, 62, 63, 64, 65, 66, 67, 68, 69, 70, 71, 72, 73] (by decide +kernel) (by decide +kernel)) (goodIn_sub (fun _ h => List.mem_cons_of_mem _ (List.mem_append_right _ h)) (by decide +kernel))
set_option maxRecDepth 20000 in
theorem gL_undo_X9_undo : GoodIn wsL_undo (wsV RL 34 RX9 yX9_undo wsX9_undo) := goodIn_app (goodIn_of _ (by decide +kernel)) ggL_undo_X9_undo
theorem dL_undo_0 : decode cL_undo 0 = .ok (.aload_n 1, 1) := by decide +kernel
theorem dL_undo_1 : decode cL_undo 1 = .ok (.iconst 0, 1) := by decide +kernel
theorem dL_undo_2 : decode cL_undo 2 = .ok (.aload_n 0, 1) := by decide +kernel
theorem dL_undo_3 : decode cL_undo 3 = .ok (.invokevirtual 34, 3) := by decide +kernel
theorem dL_undo_6 : decode cL_undo 6 = .ok (.i2l, 1) := by decide +kernel
theorem dL_undo_7 : decode cL_undo 7 = .ok (.lastore, 1) := by decide +kernel
theorem dL_undo_8 : decode cL_undo 8 = .ok (.goto 6, 3) := by decide +kernel
theorem dL_undo_11 : decode cL_undo 11 = .ok (.astore_n 2, 1) := by decide +kernel
theorem dL_undo_12 : decode cL_undo 12 = .ok (.iconst 1, 1) := by decide +kernel
theorem dL_undo_13 : decode cL_undo 13 = .ok (.ireturn, 1) := by decide +kernel
theorem dL_undo_14 : decode cL_undo 14 = .ok (.iconst 0, 1) := by decide +kernel
theorem dL_undo_15 : decode cL_undo 15 = .ok (.ireturn, 1) := by decide +kernel
set_option maxRecDepth 20000 in
theorem ggL_raw_X9_raw : GoodIn wsL_raw wsX9_raw := goodIn_ca (goodIn_r _ [6, 7, 8, 9, 5, 10, 11, 12, 13, 14, 15, 16, 17, 18, 19, 20, 21, 22, 23, 24, 25, 26, 27, 28, 29, 30, 31, 32, 33, 34, 35, 36, 37, 38, 39, 40, 41, 42] (by decide +kernel) (by decide +kernel)) (goodIn_sub (fun _ h => List.mem_cons_of_mem _ (List.mem_append_right _ h)) (by decide +kernel))
set_option maxRecDepth 20000 in
theorem gL_raw_X9_raw : GoodIn wsL_raw (wsV RL 37 RX9 yX9_raw wsX9_raw) := goodIn_app (goodIn_of _ (by decide +kernel)) ggL_raw_X9_raw
theorem dL_raw_0 : decode cL_raw 0 = .ok (.aload_n 3, 1) := by decide +kernel
theorem dL_raw_1 : decode cL_raw 1 = .ok (.iconst 0, 1) := by decide +kernel
theorem dL_raw_2 : decode cL_raw 2 = .ok (.aload_n 0, 1) := by decide +kernel
theorem dL_raw_3 : decode cL_raw 3 = .ok (.iload_n 1, 1) := by decide +kernel
theorem dL_raw_4 : decode cL_raw 4 = .ok (.iload_n 2, 1) := by decide +kernel
theorem dL_raw_5 : decode cL_raw 5 = .ok (.invokevirtual 37, 3) := by decide +kernel
theorem dL_raw_8 : decode cL_raw 8 = .ok (.i2l, 1) := by decide +kernel
theorem dL_raw_9 : decode cL_raw 9 = .ok (.lastore, 1) := by decide +kernel
theorem dL_raw_10 : decode cL_raw 10 = .ok (.goto 7, 3) := by decide +kernel
theorem dL_raw_13 : decode cL_raw 13 = .ok (.astore 4, 2) := by decide +kernel
theorem dL_raw_15 : decode cL_raw 15 = .ok (.iconst 1, 1) := by decide +kernel
theorem dL_raw_16 : decode cL_raw 16 = .ok (.ireturn, 1) := by decide +kernel
theorem dL_raw_17 : decode cL_raw 17 = .ok (.iconst 0, 1) := by decide +kernel
theorem dL_raw_18 : decode cL_raw 18 = .ok (.ireturn, 1) := by decide +kernel
set_option maxRecDepth 20000 in
theorem ggL_signal_X9_signal : GoodIn wsL_signal wsX9_signal := goodIn_ca (goodIn_r _ [6, 7, 8, 9, 5, 10, 11, 12, 13, 14, 15, 16, 17, 18, 19, 20, 21, 22, 23, 24, 25, 26, 27, 28, 29, 30, 31, 32, 33, 34, 35, 36, 37, 38, 39, 40, 41] (by decide +kernel) (by decide +kernel)) (goodIn_sub (fun _ h => List.mem_cons_of_mem _ (List.mem_append_right _ h)) (by decide +kernel))
set_option maxRecDepth 20000 in
theorem gL_signal_X9_signal : GoodIn wsL_signal (wsV RL 40 RX9 yX9_signal wsX9_signal) := goodIn_app (goodIn_of _ (by decide +kernel)) ggL_signal_X9_signal
theorem dL_signal_0 : decode cL_signal 0 = .ok (.aload_n 3, 1) := by decide +kernel
theorem dL_signal_1 : decode cL_signal 1 = .ok (.iconst 0, 1) := by decide +kernel
theorem dL_signal_2 : decode cL_signal 2 = .ok (.aload_n 0, 1) := by decide +kernel
theorem dL_signal_3 : decode cL_signal 3 = .ok (.iload_n 1, 1) := by decide +kernel
theorem dL_signal_4 : decode cL_signal 4 = .ok (.iload_n 2, 1) := by decide +kernel
theorem dL_signal_5 : decode cL_signal 5 = .ok (.invokevirtual 40, 3) := by decide +kernel
theorem dL_signal_8 : decode cL_signal 8 = .ok (.i2l, 1) := by decide +kernel
theorem dL_signal_9 : decode cL_signal 9 = .ok (.lastore, 1) := by decide +kernel
theorem dL_signal_10 : decode cL_signal 10 = .ok (.goto 7, 3) := by decide +kernel
theorem dL_signal_13 : decode cL_signal 13 = .ok (.astore 4, 2) := by decide +kernel
theorem dL_signal_15 : decode cL_signal 15 = .ok (.iconst 1, 1) := by decide +kernel
theorem dL_signal_16 : decode cL_signal 16 = .ok (.ireturn, 1) := by decide +kernel
theorem dL_signal_17 : decode cL_signal 17 = .ok (.iconst 0, 1) := by decide +kernel
theorem dL_signal_18 : decode cL_signal 18 = .ok (.ireturn, 1) := by decide +kernel
set_option maxRecDepth 20000 in
theorem ggL_regionSize_X9_regionSize : GoodIn wsL_regionSize wsX9_regionSize := goodIn_ca (goodIn_r _ [6, 7, 8, 9, 10, 5, 11, 12, 13, 14, 15, 16, 17, 18, 19, 20, 21, 22, 23, 24, 25, 26, 27, 28, 29, 30, 31, 32, 33, 34, 35, 36, 37, 38, 39, 40, 41, 42, 43, 44, 45, 46, 47, 48, 49, 50, 51, 52, 53, 54, 55, 56, 57, 58, 59, 60, 61, 62, 63, 64, 65, 66, 67, 68, 69, 70, 71, 72, 73, 74, 75] (by decide +kernel) (by decide +kernel)) (goodIn_sub (fun _ h => List.mem_cons_of_mem _ (List.mem_append_right _ h)) (by decide +kernel))
set_option maxRecDepth 20000 in
theorem gL_regionSize_X9_regionSize : GoodIn wsL_regionSize (wsV RL 43 RX9 yX9_regionSize wsX9_regionSize) := goodIn_app (goodIn_of _ (by decide +kernel)) ggL_regionSize_X9_regionSize
theorem dL_regionSize_0 : decode cL_regionSize 0 = .ok (.aload_n 3, 1) := by decide +kernel
theorem dL_regionSize_1 : decode cL_regionSize 1 = .ok (.iconst 0, 1) := by decide +kernel
theorem dL_regionSize_2 : decode cL_regionSize 2 = .ok (.aload_n 0, 1) := by decide +kernel
theorem dL_regionSize_3 : decode cL_regionSize 3 = .ok (.iload_n 1, 1) := by decide +kernel
theorem dL_regionSize_4 : decode cL_regionSize 4 = .ok (.iload_n 2, 1) := by decide +kernel
theorem dL_regionSize_5 : decode cL_regionSize 5 = .ok (.invokevirtual 43, 3) := by decide +kernel
theorem dL_regionSize_8 : decode cL_regionSize 8 = .ok (.i2l, 1) := by decide +kernel
theorem dL_regionSize_9 : decode cL_regionSize 9 = .ok (.lastore, 1) := by decide +kernel
theorem dL_regionSize_10 : decode cL_regionSize 10 = .ok (.goto 7, 3) := by decide +kernel
theorem dL_regionSize_13 : decode cL_regionSize 13 = .ok (.astore 4, 2) := by decide +kernel
theorem dL_regionSize_15 : decode cL_regionSize 15 = .ok (.iconst 1, 1) := by decide +kernel
theorem dL_regionSize_16 : decode cL_regionSize 16 = .ok (.ireturn, 1) := by decide +kernel
theorem dL_regionSize_17 : decode cL_regionSize 17 = .ok (.iconst 0, 1) := by decide +kernel
theorem dL_regionSize_18 : decode cL_regionSize 18 = .ok (.ireturn, 1) := by decide +kernel
set_option maxRecDepth 20000 in
theorem ggL_regionKind_X9_regionKind : GoodIn wsL_regionKind wsX9_regionKind := goodIn_ca (goodIn_r _ [6, 7, 8, 9, 10, 5, 11, 12, 13, 14, 15, 16, 17, 18, 19, 20, 21, 22, 23, 24, 25, 26, 27, 28, 29, 30, 31, 32, 33, 34, 35, 36, 37, 38, 39, 40, 41, 42, 43, 44, 45, 46, 47, 48, 49, 50, 51, 52, 53, 54, 55, 56, 57, 58, 59, 60, 61, 62, 63, 64, 65, 66, 67, 68, 69, 70, 71, 72, 73, 74, 75] (by decide +kernel) (by decide +kernel)) (goodIn_sub (fun _ h => List.mem_cons_of_mem _ (List.mem_append_right _ h)) (by decide +kernel))
set_option maxRecDepth 20000 in
theorem gL_regionKind_X9_regionKind : GoodIn wsL_regionKind (wsV RL 46 RX9 yX9_regionKind wsX9_regionKind) := goodIn_app (goodIn_of _ (by decide +kernel)) ggL_regionKind_X9_regionKind
theorem dL_regionKind_0 : decode cL_regionKind 0 = .ok (.aload_n 3, 1) := by decide +kernel
theorem dL_regionKind_1 : decode cL_regionKind 1 = .ok (.iconst 0, 1) := by decide +kernel
theorem dL_regionKind_2 : decode cL_regionKind 2 = .ok (.aload_n 0, 1) := by decide +kernel
theorem dL_regionKind_3 : decode cL_regionKind 3 = .ok (.iload_n 1, 1) := by decide +kernel
theorem dL_regionKind_4 : decode cL_regionKind 4 = .ok (.iload_n 2, 1) := by decide +kernel
theorem dL_regionKind_5 : decode cL_regionKind 5 = .ok (.invokevirtual 46, 3) := by decide +kernel
theorem dL_regionKind_8 : decode cL_regionKind 8 = .ok (.i2l, 1) := by decide +kernel
theorem dL_regionKind_9 : decode cL_regionKind 9 = .ok (.lastore, 1) := by decide +kernel
theorem dL_regionKind_10 : decode cL_regionKind 10 = .ok (.goto 7, 3) := by decide +kernel
theorem dL_regionKind_13 : decode cL_regionKind 13 = .ok (.astore 4, 2) := by decide +kernel
theorem dL_regionKind_15 : decode cL_regionKind 15 = .ok (.iconst 1, 1) := by decide +kernel
theorem dL_regionKind_16 : decode cL_regionKind 16 = .ok (.ireturn, 1) := by decide +kernel
theorem dL_regionKind_17 : decode cL_regionKind 17 = .ok (.iconst 0, 1) := by decide +kernel
theorem dL_regionKind_18 : decode cL_regionKind 18 = .ok (.ireturn, 1) := by decide +kernel
set_option maxRecDepth 20000 in
theorem ggL_regions_X9_regions : GoodIn wsL_regions wsX9_regions := goodIn_ca (goodIn_r _ [6, 7, 8, 9, 10, 11, 12, 13, 14, 15, 16, 17, 18, 19, 20, 21, 22, 23, 24, 25, 26, 27, 28, 29, 30, 31, 32, 33, 34, 5, 35, 36, 37, 38, 39, 40, 41, 42, 43, 44, 45, 46, 47, 48, 49, 50, 51, 52, 53, 54, 55, 56, 57, 58, 59, 60, 61, 62, 63, 64, 65, 66, 67, 68, 69, 70] (by decide +kernel) (by decide +kernel)) (goodIn_sub (fun _ h => List.mem_cons_of_mem _ (List.mem_append_right _ h)) (by decide +kernel))
set_option maxRecDepth 20000 in
theorem gL_regions_X9_regions : GoodIn wsL_regions (wsV RL 49 RX9 yX9_regions wsX9_regions) := goodIn_app (goodIn_of _ (by decide +kernel)) ggL_regions_X9_regions
theorem dL_regions_0 : decode cL_regions 0 = .ok (.aload_n 2, 1) := by decide +kernel
theorem dL_regions_1 : decode cL_regions 1 = .ok (.iconst 0, 1) := by decide +kernel
theorem dL_regions_2 : decode cL_regions 2 = .ok (.aload_n 0, 1) := by decide +kernel
theorem dL_regions_3 : decode cL_regions 3 = .ok (.iload_n 1, 1) := by decide +kernel
theorem dL_regions_4 : decode cL_regions 4 = .ok (.invokevirtual 49, 3) := by decide +kernel
theorem dL_regions_7 : decode cL_regions 7 = .ok (.i2l, 1) := by decide +kernel
theorem dL_regions_8 : decode cL_regions 8 = .ok (.lastore, 1) := by decide +kernel
theorem dL_regions_9 : decode cL_regions 9 = .ok (.goto 6, 3) := by decide +kernel
theorem dL_regions_12 : decode cL_regions 12 = .ok (.astore_n 3, 1) := by decide +kernel
theorem dL_regions_13 : decode cL_regions 13 = .ok (.iconst 1, 1) := by decide +kernel
theorem dL_regions_14 : decode cL_regions 14 = .ok (.ireturn, 1) := by decide +kernel
theorem dL_regions_15 : decode cL_regions 15 = .ok (.iconst 0, 1) := by decide +kernel
theorem dL_regions_16 : decode cL_regions 16 = .ok (.ireturn, 1) := by decide +kernel
set_option maxRecDepth 20000 in
theorem ggL_setting_X9_setting : GoodIn wsL_setting wsX9_setting := goodIn_ca (goodIn_r _ [6, 7, 8, 9, 5, 10, 11, 12, 13, 14, 15, 16, 17, 18, 19, 20, 21, 22, 23, 24, 25, 26] (by decide +kernel) (by decide +kernel)) (goodIn_sub (fun _ h => List.mem_cons_of_mem _ (List.mem_append_right _ h)) (by decide +kernel))
set_option maxRecDepth 20000 in
theorem gL_setting_X9_setting : GoodIn wsL_setting (wsV RL 52 RX9 yX9_setting wsX9_setting) := goodIn_app (goodIn_of _ (by decide +kernel)) ggL_setting_X9_setting
theorem dL_setting_0 : decode cL_setting 0 = .ok (.aload_n 2, 1) := by decide +kernel
theorem dL_setting_1 : decode cL_setting 1 = .ok (.iconst 0, 1) := by decide +kernel
theorem dL_setting_2 : decode cL_setting 2 = .ok (.aload_n 0, 1) := by decide +kernel
theorem dL_setting_3 : decode cL_setting 3 = .ok (.iload_n 1, 1) := by decide +kernel
theorem dL_setting_4 : decode cL_setting 4 = .ok (.invokevirtual 52, 3) := by decide +kernel
theorem dL_setting_7 : decode cL_setting 7 = .ok (.i2l, 1) := by decide +kernel
theorem dL_setting_8 : decode cL_setting 8 = .ok (.lastore, 1) := by decide +kernel
theorem dL_setting_9 : decode cL_setting 9 = .ok (.goto 6, 3) := by decide +kernel
theorem dL_setting_12 : decode cL_setting 12 = .ok (.astore_n 3, 1) := by decide +kernel
theorem dL_setting_13 : decode cL_setting 13 = .ok (.iconst 1, 1) := by decide +kernel
theorem dL_setting_14 : decode cL_setting 14 = .ok (.ireturn, 1) := by decide +kernel
theorem dL_setting_15 : decode cL_setting 15 = .ok (.iconst 0, 1) := by decide +kernel
theorem dL_setting_16 : decode cL_setting 16 = .ok (.ireturn, 1) := by decide +kernel
set_option maxRecDepth 20000 in
theorem ggL_contact_X9_contact : GoodIn wsL_contact wsX9_contact := goodIn_ca (goodIn_ca (goodIn_r _ [7, 8, 9, 10, 6, 11, 12, 13, 14, 15, 16, 17, 18, 19, 20, 21, 22, 23, 24, 25, 26, 27, 28, 29, 30, 31, 32, 33, 34, 35, 36, 37, 38, 39, 40, 41, 42, 43, 44, 45, 46, 47, 48, 49, 50, 51, 52, 53, 54, 55, 56, 57, 58, 59, 60, 61, 62, 63, 64, 65, 66, 67, 68, 69, 70, 71, 72, 73, 74, 75, 76, 77, 78, 79, 80, 81, 82, 83, 84, 85, 86, 87, 88, 89, 90, 91, 92, 93, 94, 95, 96, 97, 98, 99, 100, 101, 102, 103, 104, 105, 106, 107, 108, 109, 110, 111, 112, 113, 114, 115, 116, 117, 118, 119, 120, 121, 122, 123, 124, 125, 126, 127, 128, 129] (by decide +kernel) (by decide +kernel)) (goodIn_sub (fun _ h => List.mem_cons_of_mem _ (List.mem_append_left _ (List.mem_append_right _ h))) (by decide +kernel))) (goodIn_sub (fun _ h => List.mem_cons_of_mem _ (List.mem_append_right _ h)) (by decide +kernel))
set_option maxRecDepth 20000 in
theorem gL_contact_X9_contact : GoodIn wsL_contact (wsV RL 55 RX9 yX9_contact wsX9_contact) := goodIn_app (goodIn_of _ (by decide +kernel)) ggL_contact_X9_contact
theorem dL_contact_0 : decode cL_contact 0 = .ok (.aload_n 3, 1) := by decide +kernel
theorem dL_contact_1 : decode cL_contact 1 = .ok (.iconst 0, 1) := by decide +kernel
theorem dL_contact_2 : decode cL_contact 2 = .ok (.aload_n 0, 1) := by decide +kernel
theorem dL_contact_3 : decode cL_contact 3 = .ok (.iload_n 1, 1) := by decide +kernel
theorem dL_contact_4 : decode cL_contact 4 = .ok (.iload_n 2, 1) := by decide +kernel
theorem dL_contact_5 : decode cL_contact 5 = .ok (.invokevirtual 55, 3) := by decide +kernel
theorem dL_contact_8 : decode cL_contact 8 = .ok (.i2l, 1) := by decide +kernel
theorem dL_contact_9 : decode cL_contact 9 = .ok (.lastore, 1) := by decide +kernel
theorem dL_contact_10 : decode cL_contact 10 = .ok (.goto 11, 3) := by decide +kernel
theorem dL_contact_13 : decode cL_contact 13 = .ok (.astore 4, 2) := by decide +kernel
theorem dL_contact_15 : decode cL_contact 15 = .ok (.iconst 1, 1) := by decide +kernel
theorem dL_contact_16 : decode cL_contact 16 = .ok (.ireturn, 1) := by decide +kernel
theorem dL_contact_17 : decode cL_contact 17 = .ok (.astore 4, 2) := by decide +kernel
theorem dL_contact_19 : decode cL_contact 19 = .ok (.iconst 2, 1) := by decide +kernel
theorem dL_contact_20 : decode cL_contact 20 = .ok (.ireturn, 1) := by decide +kernel
theorem dL_contact_21 : decode cL_contact 21 = .ok (.iconst 0, 1) := by decide +kernel
theorem dL_contact_22 : decode cL_contact 22 = .ok (.ireturn, 1) := by decide +kernel
set_option maxRecDepth 20000 in
theorem ggL_isDown_X9_isDown : GoodIn wsL_isDown wsX9_isDown := goodIn_ca (goodIn_r _ [6, 7, 8, 9, 5, 10, 11, 12, 13, 14, 15, 16, 17, 18, 19, 20, 21, 22, 23, 24, 25, 26, 27, 28, 29, 30, 31] (by decide +kernel) (by decide +kernel)) (goodIn_sub (fun _ h => List.mem_cons_of_mem _ (List.mem_append_right _ h)) (by decide +kernel))
set_option maxRecDepth 20000 in
theorem gL_isDown_X9_isDown : GoodIn wsL_isDown (wsV RL 58 RX9 yX9_isDown wsX9_isDown) := goodIn_app (goodIn_of _ (by decide +kernel)) ggL_isDown_X9_isDown
theorem dL_isDown_0 : decode cL_isDown 0 = .ok (.aload_n 2, 1) := by decide +kernel
theorem dL_isDown_1 : decode cL_isDown 1 = .ok (.iconst 0, 1) := by decide +kernel
theorem dL_isDown_2 : decode cL_isDown 2 = .ok (.aload_n 0, 1) := by decide +kernel
theorem dL_isDown_3 : decode cL_isDown 3 = .ok (.iload_n 1, 1) := by decide +kernel
theorem dL_isDown_4 : decode cL_isDown 4 = .ok (.invokevirtual 58, 3) := by decide +kernel
theorem dL_isDown_7 : decode cL_isDown 7 = .ok (.ifCond .eq 7, 3) := by decide +kernel
theorem dL_isDown_10 : decode cL_isDown 10 = .ok (.lconst 1, 1) := by decide +kernel
theorem dL_isDown_11 : decode cL_isDown 11 = .ok (.goto 4, 3) := by decide +kernel
theorem dL_isDown_14 : decode cL_isDown 14 = .ok (.lconst 0, 1) := by decide +kernel
theorem dL_isDown_15 : decode cL_isDown 15 = .ok (.lastore, 1) := by decide +kernel
theorem dL_isDown_16 : decode cL_isDown 16 = .ok (.goto 6, 3) := by decide +kernel
theorem dL_isDown_19 : decode cL_isDown 19 = .ok (.astore_n 3, 1) := by decide +kernel
theorem dL_isDown_20 : decode cL_isDown 20 = .ok (.iconst 1, 1) := by decide +kernel
theorem dL_isDown_21 : decode cL_isDown 21 = .ok (.ireturn, 1) := by decide +kernel
theorem dL_isDown_22 : decode cL_isDown 22 = .ok (.iconst 0, 1) := by decide +kernel
theorem dL_isDown_23 : decode cL_isDown 23 = .ok (.ireturn, 1) := by decide +kernel
set_option maxRecDepth 20000 in
theorem ggL_track_X9_track : GoodIn wsL_track wsX9_track := goodIn_ca (goodIn_ca (goodIn_r _ [7, 8, 9, 10, 6, 11, 12, 13, 14, 15, 16, 17, 18, 19, 20, 21, 22, 23, 24, 25, 26, 27, 28, 29, 30, 31, 32, 33, 34, 35, 36, 37, 38, 39, 40, 41, 42, 43, 44, 45, 46, 47] (by decide +kernel) (by decide +kernel)) (goodIn_sub (fun _ h => List.mem_cons_of_mem _ (List.mem_append_left _ (List.mem_append_right _ h))) (by decide +kernel))) (goodIn_sub (fun _ h => List.mem_cons_of_mem _ (List.mem_append_right _ h)) (by decide +kernel))
set_option maxRecDepth 20000 in
theorem gL_track_X9_track : GoodIn wsL_track (wsV RL 62 RX9 yX9_track wsX9_track) := goodIn_app (goodIn_of _ (by decide +kernel)) ggL_track_X9_track
theorem dL_track_0 : decode cL_track 0 = .ok (.aload_n 3, 1) := by decide +kernel
theorem dL_track_1 : decode cL_track 1 = .ok (.iconst 0, 1) := by decide +kernel
theorem dL_track_2 : decode cL_track 2 = .ok (.aload_n 0, 1) := by decide +kernel
theorem dL_track_3 : decode cL_track 3 = .ok (.iload_n 1, 1) := by decide +kernel
theorem dL_track_4 : decode cL_track 4 = .ok (.iload_n 2, 1) := by decide +kernel
theorem dL_track_5 : decode cL_track 5 = .ok (.invokevirtual 62, 3) := by decide +kernel
theorem dL_track_8 : decode cL_track 8 = .ok (.i2l, 1) := by decide +kernel
theorem dL_track_9 : decode cL_track 9 = .ok (.lastore, 1) := by decide +kernel
theorem dL_track_10 : decode cL_track 10 = .ok (.goto 11, 3) := by decide +kernel
theorem dL_track_13 : decode cL_track 13 = .ok (.astore 4, 2) := by decide +kernel
theorem dL_track_15 : decode cL_track 15 = .ok (.iconst 1, 1) := by decide +kernel
theorem dL_track_16 : decode cL_track 16 = .ok (.ireturn, 1) := by decide +kernel
theorem dL_track_17 : decode cL_track 17 = .ok (.astore 4, 2) := by decide +kernel
theorem dL_track_19 : decode cL_track 19 = .ok (.iconst 2, 1) := by decide +kernel
theorem dL_track_20 : decode cL_track 20 = .ok (.ireturn, 1) := by decide +kernel
theorem dL_track_21 : decode cL_track 21 = .ok (.iconst 0, 1) := by decide +kernel
theorem dL_track_22 : decode cL_track 22 = .ok (.ireturn, 1) := by decide +kernel
set_option maxRecDepth 20000 in
theorem ggL_squaredDistance_X9_squaredDistance : GoodIn wsL_squaredDistance wsX9_squaredDistance := goodIn_ca (goodIn_r _ [6, 7, 8, 9, 10, 5, 11, 12, 13, 14, 15, 16, 17, 18, 19, 20, 21, 22, 23, 24, 25, 26, 27, 28, 29, 30, 31, 32, 33, 34, 35, 36, 37, 38, 39, 40, 41, 42, 43, 44, 45, 46, 47, 48, 49, 50, 51, 52, 53, 54, 55, 56, 57, 58, 59, 60, 61, 62, 63, 64, 65, 66, 67, 68, 69, 70, 71, 72, 73, 74, 75, 76, 77, 78, 79, 80, 81, 82, 83, 84, 85, 86, 87, 88, 89, 90, 91, 92, 93, 94, 95, 96, 97, 98, 99, 100, 101, 102, 103, 104, 105, 106, 107, 108, 109, 110, 111, 112, 113, 114, 115, 116, 117, 118, 119, 120, 121, 122, 123, 124, 125, 126, 127, 128, 129, 130, 131, 132, 133, 134, 135, 136, 137, 138, 139, 140, 141, 142] (by decide +kernel) (by decide +kernel)) (goodIn_sub (fun _ h => List.mem_cons_of_mem _ (List.mem_append_right _ h)) (by decide +kernel))
set_option maxRecDepth 20000 in
theorem gL_squaredDistance_X9_squaredDistance : GoodIn wsL_squaredDistance (wsV RL 65 RX9 yX9_squaredDistance wsX9_squaredDistance) := goodIn_app (goodIn_of _ (by decide +kernel)) ggL_squaredDistance_X9_squaredDistance
theorem dL_squaredDistance_0 : decode cL_squaredDistance 0 = .ok (.aload_n 3, 1) := by decide +kernel
theorem dL_squaredDistance_1 : decode cL_squaredDistance 1 = .ok (.iconst 0, 1) := by decide +kernel
theorem dL_squaredDistance_2 : decode cL_squaredDistance 2 = .ok (.aload_n 0, 1) := by decide +kernel
theorem dL_squaredDistance_3 : decode cL_squaredDistance 3 = .ok (.iload_n 1, 1) := by decide +kernel
theorem dL_squaredDistance_4 : decode cL_squaredDistance 4 = .ok (.iload_n 2, 1) := by decide +kernel
theorem dL_squaredDistance_5 : decode cL_squaredDistance 5 = .ok (.invokevirtual 65, 3) := by decide +kernel
theorem dL_squaredDistance_8 : decode cL_squaredDistance 8 = .ok (.i2l, 1) := by decide +kernel
theorem dL_squaredDistance_9 : decode cL_squaredDistance 9 = .ok (.lastore, 1) := by decide +kernel
theorem dL_squaredDistance_10 : decode cL_squaredDistance 10 = .ok (.goto 7, 3) := by decide +kernel
theorem dL_squaredDistance_13 : decode cL_squaredDistance 13 = .ok (.astore 4, 2) := by decide +kernel
theorem dL_squaredDistance_15 : decode cL_squaredDistance 15 = .ok (.iconst 1, 1) := by decide +kernel
theorem dL_squaredDistance_16 : decode cL_squaredDistance 16 = .ok (.ireturn, 1) := by decide +kernel
theorem dL_squaredDistance_17 : decode cL_squaredDistance 17 = .ok (.iconst 0, 1) := by decide +kernel
theorem dL_squaredDistance_18 : decode cL_squaredDistance 18 = .ok (.ireturn, 1) := by decide +kernel
set_option maxRecDepth 20000 in
theorem ggL_match_X9_match : GoodIn wsL_match wsX9_match := goodIn_ca (goodIn_r _ [6, 7, 8, 9, 5, 10, 11, 12, 13, 14, 15, 16, 17, 18, 19, 20, 21, 22, 23, 24, 25, 26, 27, 28, 29, 30, 31, 32, 33, 34, 35, 36, 37, 38, 39, 40, 41, 42, 43, 44, 45, 46, 47, 48, 49, 50, 51, 52, 53, 54, 55, 56, 57, 58, 59, 60, 61, 62, 63, 64, 65, 66, 67, 68, 69, 70, 71, 72, 73, 74, 75, 76, 77, 78, 79, 80, 81, 82, 83, 84, 85, 86, 87, 88, 89, 90, 91, 92, 93, 94, 95, 96, 97, 98, 99, 100, 101, 102, 103, 104, 105, 106, 107, 108, 109, 110, 111, 112, 113, 114, 115, 116, 117, 118, 119, 120, 121, 122, 123, 124, 125, 126, 127, 128, 129, 130, 131, 132, 133, 134, 135, 136, 137, 138, 139, 140, 141, 142, 143, 144, 145, 146, 147, 148, 149, 150, 151, 152, 153, 154, 155, 156, 157, 158, 159, 160, 161, 162, 163, 164, 165, 166, 167, 168, 169, 170, 171, 172, 173, 174, 175, 176, 177, 178, 179, 180, 181, 182, 183, 184, 185, 186, 187, 188] (by decide +kernel) (by decide +kernel)) (goodIn_sub (fun _ h => List.mem_cons_of_mem _ (List.mem_append_right _ h)) (by decide +kernel))
set_option maxRecDepth 20000 in
theorem gL_match_X9_match : GoodIn wsL_match (wsV RL 68 RX9 yX9_match wsX9_match) := goodIn_app (goodIn_of _ (by decide +kernel)) ggL_match_X9_match
theorem dL_match_0 : decode cL_match 0 = .ok (.aload_n 2, 1) := by decide +kernel
theorem dL_match_1 : decode cL_match 1 = .ok (.iconst 0, 1) := by decide +kernel
theorem dL_match_2 : decode cL_match 2 = .ok (.aload_n 0, 1) := by decide +kernel
theorem dL_match_3 : decode cL_match 3 = .ok (.iload_n 1, 1) := by decide +kernel
theorem dL_match_4 : decode cL_match 4 = .ok (.invokevirtual 68, 3) := by decide +kernel
theorem dL_match_7 : decode cL_match 7 = .ok (.i2l, 1) := by decide +kernel
theorem dL_match_8 : decode cL_match 8 = .ok (.lastore, 1) := by decide +kernel
theorem dL_match_9 : decode cL_match 9 = .ok (.goto 6, 3) := by decide +kernel
theorem dL_match_12 : decode cL_match 12 = .ok (.astore_n 3, 1) := by decide +kernel
theorem dL_match_13 : decode cL_match 13 = .ok (.iconst 1, 1) := by decide +kernel
theorem dL_match_14 : decode cL_match 14 = .ok (.ireturn, 1) := by decide +kernel
theorem dL_match_15 : decode cL_match 15 = .ok (.iconst 0, 1) := by decide +kernel
theorem dL_match_16 : decode cL_match 16 = .ok (.ireturn, 1) := by decide +kernel

