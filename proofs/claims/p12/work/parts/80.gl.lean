set_option maxRecDepth 20000 in
theorem ggL_put_X2_put : GoodIn wsL_put wsX2_put := goodIn_ca (goodIn_r _ [6, 7, 8, 9, 10, 5, 11, 12, 13, 14, 15, 16, 17, 18, 19, 20, 23, 24, 25, 26, 27, 28, 29] (by decide +kernel) (by decide +kernel)) (goodIn_sub (fun _ h => List.mem_cons_of_mem _ (List.mem_append_right _ h)) (by decide +kernel))
set_option maxRecDepth 20000 in
theorem gL_put_X2_put : GoodIn wsL_put (wsV RL 7 RX2 yX2_put wsX2_put) := goodIn_app (goodIn_of _ (by decide +kernel)) ggL_put_X2_put
set_option maxRecDepth 20000 in
theorem ggL_copy_X2_copy : GoodIn wsL_copy wsX2_copy := goodIn_ca (goodIn_r _ [6, 7, 8, 9, 5, 10, 11, 12, 13, 14, 15, 16, 19, 20, 21, 22, 23, 24, 25] (by decide +kernel) (by decide +kernel)) (goodIn_sub (fun _ h => List.mem_cons_of_mem _ (List.mem_append_right _ h)) (by decide +kernel))
set_option maxRecDepth 20000 in
theorem gL_copy_X2_copy : GoodIn wsL_copy (wsV RL 21 RX2 yX2_copy wsX2_copy) := goodIn_app (goodIn_of _ (by decide +kernel)) ggL_copy_X2_copy
set_option maxRecDepth 20000 in
theorem ggL_type_X2_type : GoodIn wsL_type wsX2_type := goodIn_ca (goodIn_ca (goodIn_r _ [7, 8, 9, 10, 11, 12, 13, 14, 15, 16, 17, 18, 19, 20, 21, 22, 23, 24, 25, 26, 27, 28, 29, 30, 33, 34, 35, 36, 37, 38, 39, 40, 41] (by decide +kernel) (by decide +kernel)) (goodIn_sub (fun _ h => List.mem_cons_of_mem _ (List.mem_append_left _ (List.mem_append_right _ h))) (by decide +kernel))) (goodIn_sub (fun _ h => List.mem_cons_of_mem _ (List.mem_append_right _ h)) (by decide +kernel))
set_option maxRecDepth 20000 in
theorem gL_type_X2_type : GoodIn wsL_type (wsV RL 25 RX2 yX2_type wsX2_type) := goodIn_app (goodIn_of _ (by decide +kernel)) ggL_type_X2_type
set_option maxRecDepth 20000 in
theorem ggL_erase_X2_erase : GoodIn wsL_erase wsX2_erase := goodIn_ca (goodIn_r _ [6, 7, 8, 9, 10, 11, 12, 13, 14, 15, 16, 17, 18, 19, 22, 23, 24, 25, 26, 27, 28, 29, 30] (by decide +kernel) (by decide +kernel)) (goodIn_sub (fun _ h => List.mem_cons_of_mem _ (List.mem_append_right _ h)) (by decide +kernel))
set_option maxRecDepth 20000 in
theorem gL_erase_X2_erase : GoodIn wsL_erase (wsV RL 33 RX2 yX2_erase wsX2_erase) := goodIn_app (goodIn_of _ (by decide +kernel)) ggL_erase_X2_erase
set_option maxRecDepth 20000 in
theorem ggL_read_X2_read : GoodIn wsL_read wsX2_read := goodIn_ca (goodIn_ca (goodIn_r _ [7, 8, 9, 10, 11, 12, 6, 13, 14, 15, 16, 17, 18, 19, 20, 21, 22, 23, 24, 25, 26, 27, 28, 29, 30, 31, 32, 33, 34, 35, 36, 37, 38, 39, 40, 41, 42, 43, 44, 45, 46, 47, 48, 49, 50, 51, 52, 53, 54, 55, 56, 57, 58, 59, 60, 61, 62, 63, 64, 65, 66, 67, 68, 69, 70, 71, 72, 73, 74, 75, 76, 77, 78, 79, 80, 81, 82, 83, 84, 85, 86, 87, 90, 91, 92, 93, 94, 95, 96, 97, 98] (by decide +kernel) (by decide +kernel)) (goodIn_sub (fun _ h => List.mem_cons_of_mem _ (List.mem_append_left _ (List.mem_append_right _ h))) (by decide +kernel))) (goodIn_sub (fun _ h => List.mem_cons_of_mem _ (List.mem_append_right _ h)) (by decide +kernel))
set_option maxRecDepth 20000 in
theorem gL_read_X2_read : GoodIn wsL_read (wsV RL 37 RX2 yX2_read wsX2_read) := goodIn_app (goodIn_of _ (by decide +kernel)) ggL_read_X2_read
set_option maxRecDepth 20000 in
theorem ggL_write_X2_write : GoodIn wsL_write wsX2_write := goodIn_ca (goodIn_ca (goodIn_r _ [7, 8, 9, 10, 11, 6, 12, 13, 14, 15, 16, 17, 18, 19, 20, 21, 22, 23, 24, 25, 26, 27, 28, 29, 30, 31, 32, 33, 34, 35, 36, 37, 38, 39, 40, 41, 42, 43, 44, 45, 46, 47, 48, 49, 50, 51, 52, 53, 54, 55, 56, 57, 58, 59, 60, 61, 62, 63, 64, 65, 66, 67, 68, 69, 70, 71, 72, 73, 74, 75, 76, 77, 78, 81, 82, 83, 84, 85, 86, 87, 88, 89] (by decide +kernel) (by decide +kernel)) (goodIn_sub (fun _ h => List.mem_cons_of_mem _ (List.mem_append_left _ (List.mem_append_right _ h))) (by decide +kernel))) (goodIn_sub (fun _ h => List.mem_cons_of_mem _ (List.mem_append_right _ h)) (by decide +kernel))
set_option maxRecDepth 20000 in
theorem gL_write_X2_write : GoodIn wsL_write (wsV RL 40 RX2 yX2_write wsX2_write) := goodIn_app (goodIn_of _ (by decide +kernel)) ggL_write_X2_write
set_option maxRecDepth 20000 in
theorem ggL_bits_X2_bits : GoodIn wsL_bits wsX2_bits := goodIn_ca (goodIn_ca (goodIn_r _ [7, 8, 9, 10, 11, 6, 12, 13, 14, 15, 16, 17, 18, 19, 20, 21, 22, 23, 24, 25, 26, 27, 28, 29, 30, 31, 32, 33, 34, 35, 36, 37, 38, 39, 40, 41, 42, 43, 44, 45, 46, 47, 48, 49, 50, 51, 52, 53, 54, 55, 56, 57, 58, 61, 62, 63, 64, 65, 66, 67, 68, 69] (by decide +kernel) (by decide +kernel)) (goodIn_sub (fun _ h => List.mem_cons_of_mem _ (List.mem_append_left _ (List.mem_append_right _ h))) (by decide +kernel))) (goodIn_sub (fun _ h => List.mem_cons_of_mem _ (List.mem_append_right _ h)) (by decide +kernel))
set_option maxRecDepth 20000 in
theorem gL_bits_X2_bits : GoodIn wsL_bits (wsV RL 43 RX2 yX2_bits wsX2_bits) := goodIn_app (goodIn_of _ (by decide +kernel)) ggL_bits_X2_bits
set_option maxRecDepth 20000 in
theorem ggL_divide_X2_divide : GoodIn wsL_divide wsX2_divide := goodIn_ca (goodIn_ca (goodIn_r _ [7, 8, 9, 6, 10, 11, 12, 13, 14, 15, 16, 17, 18, 19, 20, 21, 22, 23, 24, 25, 26, 27, 28, 29, 30, 31, 32, 33, 34, 35, 36, 37, 38, 39, 42, 43, 44, 45, 46, 47, 48] (by decide +kernel) (by decide +kernel)) (goodIn_sub (fun _ h => List.mem_cons_of_mem _ (List.mem_append_left _ (List.mem_append_right _ h))) (by decide +kernel))) (goodIn_sub (fun _ h => List.mem_cons_of_mem _ (List.mem_append_right _ h)) (by decide +kernel))
set_option maxRecDepth 20000 in
theorem gL_divide_X2_divide : GoodIn wsL_divide (wsV RL 47 RX2 yX2_divide wsX2_divide) := goodIn_app (goodIn_of _ (by decide +kernel)) ggL_divide_X2_divide
set_option maxRecDepth 20000 in
theorem ggL_rest_X2_rest : GoodIn wsL_rest wsX2_rest := goodIn_ca (goodIn_ca (goodIn_r _ [7, 8, 9, 6, 10, 11, 12, 13, 14, 15, 16, 17, 18, 19, 20, 21, 22, 23, 24, 25, 26, 27, 28, 29, 30, 31, 32, 33, 34, 35, 36, 37, 38, 39, 42, 43, 44, 45, 46, 47, 48] (by decide +kernel) (by decide +kernel)) (goodIn_sub (fun _ h => List.mem_cons_of_mem _ (List.mem_append_left _ (List.mem_append_right _ h))) (by decide +kernel))) (goodIn_sub (fun _ h => List.mem_cons_of_mem _ (List.mem_append_right _ h)) (by decide +kernel))
set_option maxRecDepth 20000 in
theorem gL_rest_X2_rest : GoodIn wsL_rest (wsV RL 51 RX2 yX2_rest wsX2_rest) := goodIn_app (goodIn_of _ (by decide +kernel)) ggL_rest_X2_rest
set_option maxRecDepth 20000 in
theorem ggL_turn_X2_turn : GoodIn wsL_turn wsX2_turn := goodIn_ca (goodIn_r _ [6, 7, 8, 9, 5, 10, 11, 12, 13, 14, 15, 16, 17, 18, 19, 20, 21, 22, 23, 24, 27, 28, 29, 30, 31, 32, 33] (by decide +kernel) (by decide +kernel)) (goodIn_sub (fun _ h => List.mem_cons_of_mem _ (List.mem_append_right _ h)) (by decide +kernel))
set_option maxRecDepth 20000 in
theorem gL_turn_X2_turn : GoodIn wsL_turn (wsV RL 54 RX2 yX2_turn wsX2_turn) := goodIn_app (goodIn_of _ (by decide +kernel)) ggL_turn_X2_turn
set_option maxRecDepth 20000 in
theorem ggL_about_X2_about : GoodIn wsL_about wsX2_about := goodIn_ca (goodIn_r _ [6, 7, 8, 9, 5, 10, 11, 12, 13, 14, 15, 16, 17, 18, 19, 20, 21, 22, 23, 24, 25, 26, 27, 28, 29, 30, 31, 32, 33, 34, 35, 36, 37, 38, 39, 40, 41, 44, 45, 46, 47, 48, 49, 50] (by decide +kernel) (by decide +kernel)) (goodIn_sub (fun _ h => List.mem_cons_of_mem _ (List.mem_append_right _ h)) (by decide +kernel))
set_option maxRecDepth 20000 in
theorem gL_about_X2_about : GoodIn wsL_about (wsV RL 57 RX2 yX2_about wsX2_about) := goodIn_app (goodIn_of _ (by decide +kernel)) ggL_about_X2_about
set_option maxRecDepth 20000 in
theorem ggL_pick_X2_pick : GoodIn wsL_pick wsX2_pick := goodIn_ca (goodIn_r _ [6, 7, 8, 5, 9, 10, 11, 12, 13, 14, 15, 16, 17, 18, 19, 20, 21, 22, 23, 24, 25, 26, 27, 28, 29, 30, 31, 32, 33, 34, 35, 36, 37, 38, 39, 42, 43, 44, 45, 46, 47, 48] (by decide +kernel) (by decide +kernel)) (goodIn_sub (fun _ h => List.mem_cons_of_mem _ (List.mem_append_right _ h)) (by decide +kernel))
set_option maxRecDepth 20000 in
theorem gL_pick_X2_pick : GoodIn wsL_pick (wsV RL 61 RX2 yX2_pick wsX2_pick) := goodIn_app (goodIn_of _ (by decide +kernel)) ggL_pick_X2_pick
set_option maxRecDepth 20000 in
theorem ggL_join_X2_join : GoodIn wsL_join wsX2_join := goodIn_ca (goodIn_ca (goodIn_r _ [7, 8, 9, 10, 11, 12, 13, 14, 15, 16, 6, 17, 18, 19, 20, 21, 22, 23, 24, 25, 26, 27, 28, 29, 30, 31, 32, 33, 34, 35, 36, 39, 40, 41, 42, 43, 44, 45] (by decide +kernel) (by decide +kernel)) (goodIn_sub (fun _ h => List.mem_cons_of_mem _ (List.mem_append_left _ (List.mem_append_right _ h))) (by decide +kernel))) (goodIn_sub (fun _ h => List.mem_cons_of_mem _ (List.mem_append_right _ h)) (by decide +kernel))
set_option maxRecDepth 20000 in
theorem gL_join_X2_join : GoodIn wsL_join (wsV RL 65 RX2 yX2_join wsX2_join) := goodIn_app (goodIn_of _ (by decide +kernel)) ggL_join_X2_join
set_option maxRecDepth 20000 in
theorem ggL_high_X2_high : GoodIn wsL_high wsX2_high := goodIn_ca (goodIn_r _ [6, 7, 8, 9, 5, 10, 11, 12, 13, 14, 15, 18, 19, 20, 21, 22, 23, 24] (by decide +kernel) (by decide +kernel)) (goodIn_sub (fun _ h => List.mem_cons_of_mem _ (List.mem_append_right _ h)) (by decide +kernel))
set_option maxRecDepth 20000 in
theorem gL_high_X2_high : GoodIn wsL_high (wsV RL 69 RX2 yX2_high wsX2_high) := goodIn_app (goodIn_of _ (by decide +kernel)) ggL_high_X2_high
set_option maxRecDepth 20000 in
theorem ggL_low_X2_low : GoodIn wsL_low wsX2_low := goodIn_ca (goodIn_r _ [6, 7, 8, 9, 5, 10, 11, 12, 15, 16, 17, 18, 19, 20, 21] (by decide +kernel) (by decide +kernel)) (goodIn_sub (fun _ h => List.mem_cons_of_mem _ (List.mem_append_right _ h)) (by decide +kernel))
set_option maxRecDepth 20000 in
theorem gL_low_X2_low : GoodIn wsL_low (wsV RL 73 RX2 yX2_low wsX2_low) := goodIn_app (goodIn_of _ (by decide +kernel)) ggL_low_X2_low
set_option maxRecDepth 20000 in
theorem ggL_count_X2_count : GoodIn wsL_count wsX2_count := goodIn_ca (goodIn_ca (goodIn_r _ [7, 8, 9, 10, 6, 11, 12, 13, 14, 15, 16, 17, 18, 19, 20, 21, 22, 23, 24, 25, 26, 27, 28, 29, 30, 31, 32, 33, 34, 35, 36, 37, 38, 39, 40, 41, 42, 43, 44, 45, 46, 47, 48, 49, 50, 51, 52, 53, 54, 55, 56, 57, 58, 59, 62, 63, 64, 65, 66, 67, 68] (by decide +kernel) (by decide +kernel)) (goodIn_sub (fun _ h => List.mem_cons_of_mem _ (List.mem_append_left _ (List.mem_append_right _ h))) (by decide +kernel))) (goodIn_sub (fun _ h => List.mem_cons_of_mem _ (List.mem_append_right _ h)) (by decide +kernel))
set_option maxRecDepth 20000 in
theorem gL_count_X2_count : GoodIn wsL_count (wsV RL 76 RX2 yX2_count wsX2_count) := goodIn_app (goodIn_of _ (by decide +kernel)) ggL_count_X2_count
set_option maxRecDepth 20000 in
theorem ggL_compare_X2_compare : GoodIn wsL_compare wsX2_compare := goodIn_ca (goodIn_r _ [6, 7, 8, 5, 9, 10, 11, 12, 13, 14, 15, 16, 17, 18, 19, 20, 21, 22, 23, 24, 25, 26, 27, 28, 29, 32, 33, 34, 35, 36, 37, 38] (by decide +kernel) (by decide +kernel)) (goodIn_sub (fun _ h => List.mem_cons_of_mem _ (List.mem_append_right _ h)) (by decide +kernel))
set_option maxRecDepth 20000 in
theorem gL_compare_X2_compare : GoodIn wsL_compare (wsV RL 79 RX2 yX2_compare wsX2_compare) := goodIn_app (goodIn_of _ (by decide +kernel)) ggL_compare_X2_compare
set_option maxRecDepth 20000 in
theorem ggL_digit_X2_digit : GoodIn wsL_digit wsX2_digit := goodIn_ca (goodIn_ca (goodIn_r _ [7, 8, 9, 10, 11, 12, 13, 14, 15, 16, 17, 18, 6, 19, 20, 21, 22, 23, 24, 25, 26, 27, 28, 29, 32, 33, 34, 35, 36, 37, 38, 39, 40] (by decide +kernel) (by decide +kernel)) (goodIn_sub (fun _ h => List.mem_cons_of_mem _ (List.mem_append_left _ (List.mem_append_right _ h))) (by decide +kernel))) (goodIn_sub (fun _ h => List.mem_cons_of_mem _ (List.mem_append_right _ h)) (by decide +kernel))
set_option maxRecDepth 20000 in
theorem gL_digit_X2_digit : GoodIn wsL_digit (wsV RL 83 RX2 yX2_digit wsX2_digit) := goodIn_app (goodIn_of _ (by decide +kernel)) ggL_digit_X2_digit
set_option maxRecDepth 20000 in
theorem ggL_bench_X2_bench : GoodIn wsL_bench wsX2_bench := goodIn_ca (goodIn_r _ [6, 7, 8, 9, 10, 11, 12, 13, 5, 14, 15, 16, 17, 18, 19, 20, 21, 22, 25, 26, 27, 28, 29, 30, 31, 32, 33] (by decide +kernel) (by decide +kernel)) (goodIn_sub (fun _ h => List.mem_cons_of_mem _ (List.mem_append_right _ h)) (by decide +kernel))
set_option maxRecDepth 20000 in
theorem gL_bench_X2_bench : GoodIn wsL_bench (wsV RL 87 RX2 yX2_bench wsX2_bench) := goodIn_app (goodIn_of _ (by decide +kernel)) ggL_bench_X2_bench
set_option maxRecDepth 20000 in
theorem ggL_isNumber_X2_isNumber : GoodIn wsL_isNumber wsX2_isNumber := goodIn_ca (goodIn_r _ [6, 7, 8, 9, 5, 10, 11, 12, 13, 14, 15, 16, 17, 18, 19, 20, 21, 22, 23, 24, 25, 26, 27, 28, 29, 30, 31, 32, 33, 34, 35, 36, 37, 38, 39, 40, 41, 42, 43, 44, 45, 46, 47, 48, 49, 50, 51, 52, 53, 54, 55, 56, 57, 58, 59, 60, 61, 62, 63, 64, 67, 68, 69, 70, 71, 72, 73, 74, 75] (by decide +kernel) (by decide +kernel)) (goodIn_sub (fun _ h => List.mem_cons_of_mem _ (List.mem_append_right _ h)) (by decide +kernel))
set_option maxRecDepth 20000 in
theorem gL_isNumber_X2_isNumber : GoodIn wsL_isNumber (wsV RL 90 RX2 yX2_isNumber wsX2_isNumber) := goodIn_app (goodIn_of _ (by decide +kernel)) ggL_isNumber_X2_isNumber
set_option maxRecDepth 20000 in
theorem ggL_would_X2_would : GoodIn wsL_would wsX2_would := goodIn_ca (goodIn_r _ [6, 7, 8, 9, 5, 10, 11, 12, 13, 14, 15, 16, 17, 18, 19, 20, 21, 22, 23, 24, 25, 26, 27, 28, 29, 30, 31, 32, 33, 34, 35, 36, 37, 38, 39, 40, 41, 42, 43, 44, 45, 46, 47, 48, 49, 50, 51, 52, 53, 54, 55, 56, 57, 58, 59, 60, 61, 62, 63, 64, 65, 66, 67, 68, 69, 70, 71, 72, 73, 74, 75, 76, 77, 80, 81, 82, 83, 84, 85, 86, 87, 88] (by decide +kernel) (by decide +kernel)) (goodIn_sub (fun _ h => List.mem_cons_of_mem _ (List.mem_append_right _ h)) (by decide +kernel))
set_option maxRecDepth 20000 in
theorem gL_would_X2_would : GoodIn wsL_would (wsV RL 93 RX2 yX2_would wsX2_would) := goodIn_app (goodIn_of _ (by decide +kernel)) ggL_would_X2_would
set_option maxRecDepth 20000 in
theorem ggL_written_X2_written : GoodIn wsL_written wsX2_written := goodIn_ca (goodIn_ca (goodIn_r _ [7, 8, 9, 10, 6, 11, 12, 13, 14, 15, 16, 17, 18, 19, 20, 21, 22, 23, 24, 25, 26, 27, 28, 29, 30, 31, 32, 33, 34, 35, 36, 37, 38, 39, 40, 41, 42, 43, 44, 45, 46, 47, 48, 49, 50, 51, 52, 53, 54, 55, 56, 57, 58, 59, 60, 61, 62, 63, 64, 65, 66, 67, 68, 69, 70, 71, 72, 73, 74, 75, 76, 77, 78, 79, 80, 81, 82, 83, 84, 85, 86, 87, 88, 89, 90, 91, 92, 93, 94, 95, 96, 97, 98, 99, 100, 101, 102, 103, 104, 105, 106, 107, 108, 109, 110, 111, 112, 113, 114, 115, 116, 117, 118, 119, 120, 121, 122, 123, 124, 125, 126, 127, 128, 129, 130, 131, 132, 133, 134, 135, 136, 137, 138, 139, 140, 141, 142, 143, 144, 145, 146, 147, 148, 149, 150, 151, 152, 153, 154, 155, 156, 157, 158, 159, 160, 161, 162, 163, 164, 165, 166, 167, 168, 169, 170, 171, 172, 173, 174, 175, 176, 177, 178, 179, 180, 181, 182, 183, 184, 185, 186, 187, 188, 189, 190, 191, 192, 193, 194, 195, 196, 197, 198, 199, 200, 201, 202, 203, 204, 205, 206, 207, 208, 209, 210, 211, 212, 213, 214, 215, 216, 217, 218, 219, 220, 221, 222, 223, 224, 225, 226, 227, 228, 229, 230, 231, 232, 233, 234, 235, 236, 237, 238, 239, 240, 241, 242, 243, 244, 245, 246, 247, 248, 249, 250, 251, 252, 253, 254, 255, 256, 257, 258, 259, 260, 263, 264, 265, 266, 267, 268, 269, 270, 271, 272, 273, 274, 275, 276, 277, 278, 279] (by decide +kernel) (by decide +kernel)) (goodIn_sub (fun _ h => List.mem_cons_of_mem _ (List.mem_append_left _ (List.mem_append_right _ h))) (by decide +kernel))) (goodIn_sub (fun _ h => List.mem_cons_of_mem _ (List.mem_append_right _ h)) (by decide +kernel))
set_option maxRecDepth 20000 in
theorem gL_written_X2_written : GoodIn wsL_written (wsV RL 96 RX2 yX2_written wsX2_written) := goodIn_app (goodIn_of _ (by decide +kernel)) ggL_written_X2_written
set_option maxRecDepth 20000 in
theorem ggL_same_X2_same : GoodIn wsL_same wsX2_same := goodIn_ca (goodIn_r _ [6, 7, 8, 9, 10, 5, 11, 12, 13, 14, 15, 16, 17, 18, 19, 20, 21, 22, 23, 24, 25, 26, 27, 28, 29, 30, 31, 32, 33, 34, 35, 36, 37, 38, 39, 40, 41, 42, 43, 44, 45, 46, 47, 48, 49, 50, 51, 52, 53, 54, 55, 56, 57, 58, 59, 60, 61, 62, 63, 64, 65, 66, 67, 68, 69, 70, 71, 72, 73, 74, 75, 76, 77, 78, 81, 82, 83, 84, 85, 86, 87, 88, 89] (by decide +kernel) (by decide +kernel)) (goodIn_sub (fun _ h => List.mem_cons_of_mem _ (List.mem_append_right _ h)) (by decide +kernel))
set_option maxRecDepth 20000 in
theorem gL_same_X2_same : GoodIn wsL_same (wsV RL 104 RX2 yX2_same wsX2_same) := goodIn_app (goodIn_of _ (by decide +kernel)) ggL_same_X2_same
set_option maxRecDepth 20000 in
theorem ggL_law_X2_init : GoodIn wsL_law wsX2_init := goodIn_r _ [11, 12, 13, 14, 15, 16, 17, 18, 19, 20, 21, 22, 23, 24, 25, 26, 27, 1053, 1054, 1055, 1056, 1057, 1058, 1059, 1072, 1073] (by decide +kernel) (by decide +kernel)
set_option maxRecDepth 20000 in
theorem gL_law_X2_init : GoodIn wsL_law (wsX2_init) := ggL_law_X2_init
set_option maxRecDepth 20000 in
theorem ggL_law_X4_init : GoodIn wsL_law wsX4_init := goodIn_r _ [30, 31, 13, 14, 32, 33, 34, 35, 36, 37, 1060, 1061, 1062, 1063, 1064, 1065, 1066, 1067, 1068, 1069] (by decide +kernel) (by decide +kernel)
set_option maxRecDepth 20000 in
theorem gL_law_X4_init : GoodIn wsL_law (wsX4_init) := ggL_law_X4_init
set_option maxRecDepth 20000 in
theorem ggL_law_X3_init : GoodIn wsL_law wsX3_init := goodIn_r _ [39, 40, 13, 14] (by decide +kernel) (by decide +kernel)
set_option maxRecDepth 20000 in
theorem gL_law_X3_init_n111 : GoodIn wsL_law (wsX3_init) := ggL_law_X3_init
set_option maxRecDepth 20000 in
theorem ggL_law_L_put : GoodIn wsL_law wsL_put := goodIn_ca (goodIn_r _ [44, 45, 46, 47, 48, 2, 49, 16, 50, 51, 52, 53, 54, 55, 56, 57, 58, 59, 60, 61, 62, 1070, 1071, 1053, 1054, 1055, 1056, 1057, 1058, 1059] (by decide +kernel) (by decide +kernel)) (goodIn_sub (fun _ h => List.mem_append_left _ (List.mem_append_left _ (List.mem_append_right _ h))) (by decide +kernel))
set_option maxRecDepth 20000 in
theorem gL_law_L_put : GoodIn wsL_law (va_wsS RL 112 yL_put wsL_put) := goodIn_app (goodIn_of _ (by decide +kernel)) ggL_law_L_put
set_option maxRecDepth 20000 in
theorem ggL_law_X4_put : GoodIn wsL_law wsX4_put := goodIn_r _ [66, 67, 34, 33, 68, 69, 5, 70, 71, 72, 73, 74, 75, 76, 77, 78, 79, 80, 81, 82, 83, 84, 85, 86, 87, 88, 89, 90, 91, 92, 93, 1060, 1061, 1062, 1063, 1064, 1065, 1066, 1067, 1068, 1069] (by decide +kernel) (by decide +kernel)
set_option maxRecDepth 20000 in
theorem gL_law_X4_put : GoodIn wsL_law (wsV RL 117 RX4 yX4_put wsX4_put) := goodIn_app (goodIn_of _ (by decide +kernel)) ggL_law_X4_put
set_option maxRecDepth 20000 in
theorem ggL_law_L_copy : GoodIn wsL_law wsL_copy := goodIn_ca (goodIn_r _ [96, 45, 97, 98, 99, 2, 100, 16, 51, 52, 53, 54, 55, 101, 102, 103, 104, 1070, 1071, 1053, 1054, 1055, 1056, 1057, 1058, 1059] (by decide +kernel) (by decide +kernel)) (goodIn_sub (fun _ h => List.mem_append_left _ (List.mem_append_left _ (List.mem_append_right _ h))) (by decide +kernel))
set_option maxRecDepth 20000 in
theorem gL_law_L_copy : GoodIn wsL_law (va_wsS RL 118 yL_copy wsL_copy) := goodIn_app (goodIn_of _ (by decide +kernel)) ggL_law_L_copy
set_option maxRecDepth 20000 in
theorem ggL_law_X4_copy : GoodIn wsL_law wsX4_copy := goodIn_r _ [108, 67, 34, 68, 69, 5, 70, 71, 72, 73, 109, 110, 111, 112, 113, 114, 115, 116, 117, 118, 119, 33, 120, 121, 122, 123, 124, 125, 126, 127, 1060, 1061, 1062, 1063, 1064, 1065, 1066, 1067, 1068, 1069] (by decide +kernel) (by decide +kernel)
set_option maxRecDepth 20000 in
theorem gL_law_X4_copy : GoodIn wsL_law (wsV RL 121 RX4 yX4_copy wsX4_copy) := goodIn_app (goodIn_of _ (by decide +kernel)) ggL_law_X4_copy
set_option maxRecDepth 20000 in
theorem ggL_law_L_type : GoodIn wsL_law wsL_type := goodIn_ca (goodIn_ca (goodIn_r _ [130, 131, 132, 133, 134, 135, 2, 136, 137, 138, 139, 140, 20, 141, 142, 143, 19, 144, 145, 146, 147, 148, 149, 150, 151, 152, 27, 153, 154, 155, 156, 1070, 1071, 1053, 1054, 1055, 1056, 1057, 1058, 1059, 1072, 1073] (by decide +kernel) (by decide +kernel)) (goodIn_sub (fun _ h => List.mem_append_left _ (List.mem_append_right _ h)) (by decide +kernel))) (goodIn_sub (fun _ h => List.mem_append_right _ h) (by decide +kernel))
set_option maxRecDepth 20000 in
theorem gL_law_L_type : GoodIn wsL_law (va_wsS RL 122 yL_type wsL_type) := goodIn_app (goodIn_of _ (by decide +kernel)) ggL_law_L_type
set_option maxRecDepth 20000 in
theorem ggL_law_X4_type : GoodIn wsL_law wsX4_type := goodIn_r _ [160, 67, 35, 161, 162, 163, 71, 72, 5, 73, 74, 75, 76, 77, 164, 165, 166, 167, 168, 169, 170, 171, 172, 173, 174, 175, 176, 177, 178, 179, 180, 181, 182, 183, 184, 185, 186, 13, 14, 187, 188, 189, 190, 191, 192, 193, 194, 195, 196, 197, 198, 199, 200, 201, 202, 203, 204, 205, 206, 207, 208, 209, 210, 211, 212, 213, 214, 215, 216, 217, 218, 219, 220, 221, 222, 223, 224, 225, 226, 227, 228, 229, 230, 231, 232, 233, 234, 235, 236, 237, 238, 239, 240, 241, 242, 243, 244, 245, 246, 247, 248, 249, 250, 251, 252, 253, 254, 255, 256, 257, 258, 259, 260, 261, 262, 263, 264, 265, 266, 267, 268, 269, 270, 271, 272, 273, 274, 275, 276, 277, 278, 279, 280, 281, 282, 283, 284, 285, 286, 287, 288, 289, 290, 291, 292, 293, 294, 295, 296, 297, 298, 299, 300, 301, 302, 303, 304, 305, 306, 307, 308, 309, 310, 311, 312, 313, 314, 315, 316, 317, 318, 319, 320, 321, 322, 323, 324, 325, 326, 327, 328, 329, 330, 331, 332, 333, 334, 335, 336, 337, 338, 339, 340, 341, 342, 343, 344, 345, 346, 347, 348, 349, 350, 351, 352, 353, 354, 355, 356, 357, 358, 359, 360, 361, 362, 363, 364, 365, 366, 367, 368, 369, 370, 371, 372, 373, 374, 375, 376, 377, 378, 379, 380, 381, 382, 383, 384, 385, 386, 387, 388, 389, 390, 391, 392, 393, 394, 395, 1060, 1061, 1062, 1063, 1064, 1065, 1066, 1067, 1068, 1069, 1074, 1075, 1076, 1077, 1078, 1079, 1080, 1081] (by decide +kernel) (by decide +kernel)
set_option maxRecDepth 20000 in
theorem gL_law_X4_type : GoodIn wsL_law (wsV RL 125 RX4 yX4_type wsX4_type) := goodIn_app (goodIn_of _ (by decide +kernel)) ggL_law_X4_type
set_option maxRecDepth 20000 in
theorem ggL_law_L_erase : GoodIn wsL_law wsL_erase := goodIn_ca (goodIn_r _ [398, 132, 399, 400, 401, 2, 402, 139, 140, 20, 153, 154, 155, 19, 156, 145, 403, 404, 405, 406, 1070, 1071, 1053, 1054, 1055, 1056, 1057, 1058, 1059, 1072, 1073] (by decide +kernel) (by decide +kernel)) (goodIn_sub (fun _ h => List.mem_append_right _ h) (by decide +kernel))
set_option maxRecDepth 20000 in
theorem gL_law_L_erase : GoodIn wsL_law (va_wsS RL 126 yL_erase wsL_erase) := goodIn_app (goodIn_of _ (by decide +kernel)) ggL_law_L_erase
set_option maxRecDepth 20000 in
theorem ggL_law_X4_erase : GoodIn wsL_law wsX4_erase := goodIn_r _ [410, 67, 35, 411, 412, 413, 167, 414, 169, 74, 75, 76, 5, 77, 164, 165, 166, 168, 170, 171, 172, 173, 174, 175, 415, 416, 417, 418, 419, 420, 270, 271, 272, 273, 274, 275, 276, 421, 422, 423, 424, 425, 426, 301, 427, 428, 349, 429, 374, 239, 375, 241, 242, 243, 244, 245, 246, 376, 377, 378, 188, 247, 248, 231, 249, 250, 251, 252, 253, 379, 380, 381, 382, 162, 163, 430, 431, 432, 356, 13, 14, 433, 434, 193, 435, 436, 437, 438, 384, 385, 386, 387, 388, 306, 307, 308, 266, 267, 268, 309, 310, 311, 312, 313, 314, 389, 390, 391, 262, 280, 281, 195, 196, 197, 198, 392, 439, 394, 395, 440, 1060, 1061, 1062, 1063, 1064, 1065, 1066, 1067, 1068, 1069, 1078, 1079, 1080, 1081, 1074, 1075, 1076, 1077] (by decide +kernel) (by decide +kernel)
set_option maxRecDepth 20000 in
theorem gL_law_X4_erase : GoodIn wsL_law (wsV RL 129 RX4 yX4_erase wsX4_erase) := goodIn_app (goodIn_of _ (by decide +kernel)) ggL_law_X4_erase
set_option maxRecDepth 20000 in
theorem ggL_law_X2_clear : GoodIn wsL_law wsX2_clear := goodIn_r _ [444, 20, 153, 154, 155, 19, 156, 145, 445, 446, 447, 448, 1053, 1054, 1055, 1056, 1057, 1058, 1059, 1072, 1073] (by decide +kernel) (by decide +kernel)
set_option maxRecDepth 20000 in
theorem gL_law_X2_clear : GoodIn wsL_law (wsV RL 130 RX2 yX2_clear wsX2_clear) := goodIn_app (goodIn_of _ (by decide +kernel)) ggL_law_X2_clear
set_option maxRecDepth 20000 in
theorem ggL_law_X4_clear : GoodIn wsL_law wsX4_clear := goodIn_r _ [452, 67, 35, 164, 165, 166, 167, 168, 169, 170, 171, 172, 173, 174, 175, 1060, 1061, 1062, 1063, 1064, 1065, 1066, 1067, 1068, 1069, 1078, 1079, 1080, 1081] (by decide +kernel) (by decide +kernel)
set_option maxRecDepth 20000 in
theorem gL_law_X4_clear : GoodIn wsL_law (wsV RL 133 RX4 yX4_clear wsX4_clear) := goodIn_app (goodIn_of _ (by decide +kernel)) ggL_law_X4_clear
set_option maxRecDepth 20000 in
theorem ggL_law_L_read : GoodIn wsL_law wsL_read := goodIn_ca (goodIn_ca (goodIn_r _ [455, 45, 131, 456, 457, 458, 2, 459, 460, 20, 461, 51, 52, 53, 54, 55, 462, 463, 464, 465, 466, 467, 137, 138, 468, 469, 470, 471, 472, 473, 19, 474, 145, 475, 476, 477, 478, 27, 479, 480, 481, 482, 483, 484, 485, 486, 487, 488, 489, 490, 491, 492, 493, 494, 495, 496, 497, 498, 499, 500, 501, 502, 503, 504, 505, 506, 507, 508, 509, 510, 511, 512, 513, 514, 515, 516, 517, 518, 519, 520, 521, 522, 523, 101, 102, 103, 104, 16, 1070, 1071, 1053, 1054, 1055, 1056, 1057, 1058, 1059, 1072, 1073] (by decide +kernel) (by decide +kernel)) (goodIn_sub (fun _ h => List.mem_append_left _ (List.mem_append_left _ (List.mem_append_right _ h))) (by decide +kernel))) (goodIn_sub (fun _ h => List.mem_append_left _ (List.mem_append_right _ h)) (by decide +kernel))
set_option maxRecDepth 20000 in
theorem gL_law_L_read : GoodIn wsL_law (va_wsS RL 134 yL_read wsL_read) := goodIn_app (goodIn_of _ (by decide +kernel)) ggL_law_L_read
set_option maxRecDepth 20000 in
theorem ggL_law_X4_read : GoodIn wsL_law wsX4_read := goodIn_r _ [527, 67, 528, 35, 529, 68, 69, 5, 70, 71, 72, 73, 74, 75, 76, 77, 530, 531, 532, 533, 534, 535, 33, 81, 164, 165, 166, 167, 168, 169, 170, 171, 172, 173, 174, 175, 536, 537, 538, 539, 421, 422, 423, 424, 540, 541, 301, 542, 543, 339, 340, 272, 341, 342, 275, 343, 544, 545, 193, 546, 335, 336, 337, 266, 267, 268, 338, 389, 390, 391, 262, 280, 281, 547, 548, 549, 550, 551, 552, 553, 554, 555, 556, 557, 558, 120, 125, 126, 127, 121, 122, 123, 124, 113, 114, 115, 116, 34, 117, 118, 119, 1060, 1061, 1062, 1063, 1064, 1065, 1066, 1067, 1068, 1069, 1078, 1079, 1080, 1081] (by decide +kernel) (by decide +kernel)
set_option maxRecDepth 20000 in
theorem gL_law_X4_read : GoodIn wsL_law (wsV RL 136 RX4 yX4_read wsX4_read) := goodIn_app (goodIn_of _ (by decide +kernel)) ggL_law_X4_read
set_option maxRecDepth 20000 in
theorem ggL_law_L_write : GoodIn wsL_law wsL_write := goodIn_ca (goodIn_ca (goodIn_r _ [561, 45, 131, 562, 563, 564, 2, 565, 566, 20, 51, 52, 53, 54, 55, 462, 463, 464, 465, 466, 467, 137, 138, 468, 469, 470, 567, 568, 569, 570, 518, 519, 520, 571, 479, 480, 572, 573, 574, 575, 16, 521, 522, 523, 576, 577, 578, 579, 50, 580, 581, 582, 19, 583, 145, 498, 499, 500, 501, 502, 503, 504, 505, 584, 147, 148, 585, 150, 151, 152, 27, 586, 587, 588, 589, 153, 154, 155, 156, 1070, 1071, 1053, 1054, 1055, 1056, 1057, 1058, 1059, 1072, 1073] (by decide +kernel) (by decide +kernel)) (goodIn_sub (fun _ h => List.mem_append_left _ (List.mem_append_left _ (List.mem_append_right _ h))) (by decide +kernel))) (goodIn_sub (fun _ h => List.mem_append_left _ (List.mem_append_right _ h)) (by decide +kernel))
set_option maxRecDepth 20000 in
theorem gL_law_L_write : GoodIn wsL_law (va_wsS RL 137 yL_write wsL_write) := goodIn_app (goodIn_of _ (by decide +kernel)) ggL_law_L_write
set_option maxRecDepth 20000 in
theorem ggL_law_X4_write : GoodIn wsL_law wsX4_write := goodIn_r _ [593, 67, 68, 69, 5, 70, 71, 72, 73, 74, 75, 76, 77, 530, 531, 532, 594, 595, 596, 597, 598, 599, 600, 601, 34, 602, 603, 604, 33, 605, 606, 607, 161, 162, 163, 121, 122, 123, 124, 179, 180, 181, 182, 183, 184, 185, 186, 13, 14, 187, 188, 189, 190, 191, 192, 193, 194, 195, 196, 197, 198, 199, 200, 201, 202, 203, 204, 205, 206, 207, 208, 209, 210, 211, 212, 213, 214, 215, 216, 217, 218, 219, 220, 221, 222, 223, 224, 225, 226, 227, 228, 229, 230, 231, 232, 233, 234, 235, 236, 237, 238, 239, 240, 241, 242, 243, 244, 245, 246, 247, 248, 249, 250, 251, 252, 253, 254, 255, 256, 257, 258, 259, 260, 261, 262, 263, 264, 265, 266, 267, 268, 269, 270, 167, 271, 272, 273, 274, 275, 276, 277, 278, 279, 280, 281, 282, 165, 166, 168, 169, 170, 171, 172, 173, 174, 175, 283, 284, 285, 286, 287, 288, 289, 290, 291, 292, 293, 294, 295, 296, 297, 298, 299, 300, 301, 302, 303, 304, 305, 306, 307, 308, 309, 310, 311, 312, 313, 314, 315, 316, 317, 318, 319, 320, 556, 557, 558, 120, 81, 608, 609, 610, 611, 612, 613, 614, 615, 367, 616, 368, 369, 364, 370, 371, 617, 618, 619, 176, 177, 178, 321, 322, 323, 324, 325, 326, 327, 328, 329, 330, 331, 332, 333, 334, 335, 336, 337, 338, 339, 340, 341, 342, 343, 620, 621, 622, 623, 624, 625, 626, 627, 628, 629, 630, 390, 391, 344, 345, 346, 347, 348, 349, 350, 351, 352, 353, 354, 355, 356, 357, 358, 359, 360, 361, 362, 363, 365, 366, 372, 373, 374, 375, 376, 377, 378, 379, 380, 381, 382, 383, 384, 385, 386, 387, 388, 389, 392, 393, 394, 395, 631, 632, 633, 634, 635, 35, 164, 1060, 1061, 1062, 1063, 1064, 1065, 1066, 1067, 1068, 1069, 1074, 1075, 1076, 1077, 1078, 1079, 1080, 1081] (by decide +kernel) (by decide +kernel)
set_option maxRecDepth 20000 in
theorem gL_law_X4_write : GoodIn wsL_law (wsV RL 139 RX4 yX4_write wsX4_write) := goodIn_app (goodIn_of _ (by decide +kernel)) ggL_law_X4_write
set_option maxRecDepth 20000 in
theorem ggL_law_L_bits : GoodIn wsL_law wsL_bits := goodIn_ca (goodIn_ca (goodIn_r _ [638, 45, 131, 639, 640, 641, 2, 642, 566, 20, 51, 52, 53, 54, 55, 468, 469, 470, 137, 138, 576, 577, 578, 579, 16, 50, 643, 644, 645, 580, 581, 582, 19, 583, 145, 498, 499, 500, 501, 502, 503, 504, 505, 584, 147, 148, 585, 150, 151, 152, 27, 586, 587, 588, 589, 153, 154, 155, 156, 1070, 1071, 1053, 1054, 1055, 1056, 1057, 1058, 1059, 1072, 1073] (by decide +kernel) (by decide +kernel)) (goodIn_sub (fun _ h => List.mem_append_left _ (List.mem_append_left _ (List.mem_append_right _ h))) (by decide +kernel))) (goodIn_sub (fun _ h => List.mem_append_left _ (List.mem_append_right _ h)) (by decide +kernel))
set_option maxRecDepth 20000 in
theorem gL_law_L_bits : GoodIn wsL_law (va_wsS RL 140 yL_bits wsL_bits) := goodIn_app (goodIn_of _ (by decide +kernel)) ggL_law_L_bits
set_option maxRecDepth 20000 in
theorem ggL_law_X4_bits_ : GoodIn wsL_law wsX4_bits_ := goodIn_r _ [649, 67, 68, 69, 5, 70, 71, 72, 73, 74, 75, 76, 77, 598, 599, 600, 601, 34, 602, 603, 604, 33, 608, 609, 610, 611, 612, 243, 244, 613, 614, 161, 162, 163, 81, 179, 180, 181, 182, 183, 184, 185, 186, 13, 14, 187, 188, 189, 190, 191, 192, 193, 194, 195, 196, 197, 198, 615, 367, 616, 368, 369, 364, 205, 370, 371, 208, 617, 618, 619, 176, 177, 178, 321, 322, 323, 324, 325, 326, 327, 328, 214, 215, 216, 217, 218, 219, 220, 221, 222, 223, 224, 225, 226, 227, 228, 229, 230, 231, 232, 233, 234, 235, 236, 237, 238, 239, 240, 241, 242, 245, 246, 247, 248, 249, 250, 251, 252, 253, 254, 255, 256, 257, 258, 329, 330, 301, 331, 294, 295, 296, 297, 298, 299, 300, 302, 303, 304, 305, 306, 307, 308, 266, 267, 268, 309, 310, 167, 311, 272, 312, 313, 275, 314, 277, 278, 279, 262, 280, 281, 332, 333, 334, 335, 336, 337, 338, 339, 340, 341, 342, 343, 620, 621, 622, 623, 624, 625, 626, 627, 628, 629, 630, 390, 391, 344, 345, 346, 347, 348, 349, 350, 351, 352, 353, 354, 355, 356, 175, 169, 174, 357, 358, 359, 360, 361, 362, 363, 365, 366, 372, 373, 374, 375, 376, 377, 378, 379, 380, 381, 382, 383, 384, 385, 386, 387, 388, 389, 392, 393, 394, 395, 631, 632, 633, 634, 635, 35, 164, 165, 166, 168, 170, 171, 172, 173, 1060, 1061, 1062, 1063, 1064, 1065, 1066, 1067, 1068, 1069, 1074, 1075, 1076, 1077, 1078, 1079, 1080, 1081] (by decide +kernel) (by decide +kernel)
set_option maxRecDepth 20000 in
theorem gL_law_X4_bits_ : GoodIn wsL_law (wsV RL 143 RX4 yX4_bits_ wsX4_bits_) := goodIn_app (goodIn_of _ (by decide +kernel)) ggL_law_X4_bits_
set_option maxRecDepth 20000 in
theorem ggL_law_L_divide : GoodIn wsL_law wsL_divide := goodIn_ca (goodIn_ca (goodIn_r _ [652, 45, 132, 653, 654, 655, 2, 656, 51, 52, 53, 54, 55, 657, 658, 659, 660, 139, 140, 576, 577, 578, 579, 16, 50, 661, 499, 500, 501, 502, 503, 504, 505, 521, 522, 523, 101, 102, 103, 104, 1070, 1071, 1053, 1054, 1055, 1056, 1057, 1058, 1059] (by decide +kernel) (by decide +kernel)) (goodIn_sub (fun _ h => List.mem_append_left _ (List.mem_append_left _ (List.mem_append_right _ h))) (by decide +kernel))) (goodIn_sub (fun _ h => List.mem_append_right _ h) (by decide +kernel))
set_option maxRecDepth 20000 in
theorem gL_law_L_divide : GoodIn wsL_law (va_wsS RL 144 yL_divide wsL_divide) := goodIn_app (goodIn_of _ (by decide +kernel)) ggL_law_L_divide
set_option maxRecDepth 20000 in
theorem ggL_law_X4_divide : GoodIn wsL_law wsX4_divide := goodIn_r _ [665, 67, 666, 667, 668, 5, 669, 68, 69, 70, 71, 72, 73, 598, 599, 600, 601, 34, 602, 603, 604, 33, 617, 618, 619, 670, 671, 672, 32, 85, 86, 87, 121, 122, 123, 124, 673, 674, 675, 81, 88, 89, 90, 91, 92, 93, 676, 677, 678, 556, 557, 558, 120, 679, 680, 681, 113, 114, 115, 116, 117, 118, 119, 125, 126, 127, 1060, 1061, 1062, 1063, 1064, 1065, 1066, 1067, 1068, 1069] (by decide +kernel) (by decide +kernel)
set_option maxRecDepth 20000 in
theorem gL_law_X4_divide : GoodIn wsL_law (wsV RL 146 RX4 yX4_divide wsX4_divide) := goodIn_app (goodIn_of _ (by decide +kernel)) ggL_law_X4_divide
set_option maxRecDepth 20000 in
theorem ggL_law_L_rest : GoodIn wsL_law wsL_rest := goodIn_ca (goodIn_ca (goodIn_r _ [684, 45, 132, 685, 686, 687, 2, 688, 51, 52, 53, 54, 55, 657, 658, 659, 660, 139, 140, 576, 577, 578, 579, 16, 50, 661, 499, 500, 501, 502, 503, 504, 505, 521, 522, 523, 101, 102, 103, 104, 1070, 1071, 1053, 1054, 1055, 1056, 1057, 1058, 1059] (by decide +kernel) (by decide +kernel)) (goodIn_sub (fun _ h => List.mem_append_left _ (List.mem_append_left _ (List.mem_append_right _ h))) (by decide +kernel))) (goodIn_sub (fun _ h => List.mem_append_right _ h) (by decide +kernel))
set_option maxRecDepth 20000 in
theorem gL_law_L_rest : GoodIn wsL_law (va_wsS RL 147 yL_rest wsL_rest) := goodIn_app (goodIn_of _ (by decide +kernel)) ggL_law_L_rest
set_option maxRecDepth 20000 in
theorem ggL_law_X4_rest : GoodIn wsL_law wsX4_rest := goodIn_r _ [692, 67, 666, 667, 668, 5, 669, 68, 69, 70, 71, 72, 73, 598, 599, 600, 601, 34, 602, 603, 604, 33, 617, 618, 619, 670, 671, 672, 32, 85, 86, 87, 121, 122, 123, 124, 673, 674, 675, 81, 88, 89, 90, 91, 92, 93, 676, 677, 678, 556, 557, 558, 120, 679, 680, 681, 113, 114, 115, 116, 117, 118, 119, 125, 126, 127, 1060, 1061, 1062, 1063, 1064, 1065, 1066, 1067, 1068, 1069] (by decide +kernel) (by decide +kernel)
set_option maxRecDepth 20000 in
theorem gL_law_X4_rest : GoodIn wsL_law (wsV RL 149 RX4 yX4_rest wsX4_rest) := goodIn_app (goodIn_of _ (by decide +kernel)) ggL_law_X4_rest
set_option maxRecDepth 20000 in
theorem ggL_law_L_turn : GoodIn wsL_law wsL_turn := goodIn_ca (goodIn_r _ [695, 45, 696, 697, 698, 2, 699, 16, 51, 52, 53, 54, 55, 700, 701, 702, 703, 101, 102, 103, 104, 704, 705, 58, 706, 1070, 1071, 1053, 1054, 1055, 1056, 1057, 1058, 1059] (by decide +kernel) (by decide +kernel)) (goodIn_sub (fun _ h => List.mem_append_left _ (List.mem_append_left _ (List.mem_append_right _ h))) (by decide +kernel))
set_option maxRecDepth 20000 in
theorem gL_law_L_turn : GoodIn wsL_law (va_wsS RL 150 yL_turn wsL_turn) := goodIn_app (goodIn_of _ (by decide +kernel)) ggL_law_L_turn
set_option maxRecDepth 20000 in
theorem ggL_law_X4_turn : GoodIn wsL_law wsX4_turn := goodIn_r _ [710, 67, 68, 69, 5, 70, 71, 72, 73, 109, 110, 111, 112, 598, 599, 600, 601, 34, 602, 603, 604, 33, 711, 712, 713, 85, 86, 87, 88, 89, 90, 91, 92, 93, 679, 680, 681, 113, 114, 115, 116, 117, 118, 119, 120, 121, 122, 123, 124, 125, 126, 127, 1060, 1061, 1062, 1063, 1064, 1065, 1066, 1067, 1068, 1069] (by decide +kernel) (by decide +kernel)
set_option maxRecDepth 20000 in
theorem gL_law_X4_turn : GoodIn wsL_law (wsV RL 152 RX4 yX4_turn wsX4_turn) := goodIn_app (goodIn_of _ (by decide +kernel)) ggL_law_X4_turn
set_option maxRecDepth 20000 in
theorem ggL_law_X4_thrown : GoodIn wsL_law wsX4_thrown := goodIn_r _ [717, 67, 1060, 1061, 1062, 1063, 1064, 1065, 1066, 1067, 1068, 1069] (by decide +kernel) (by decide +kernel)
set_option maxRecDepth 20000 in
theorem gL_law_X4_thrown : GoodIn wsL_law (wsV RL 153 RX4 yX4_thrown wsX4_thrown) := goodIn_app (goodIn_of _ (by decide +kernel)) ggL_law_X4_thrown
set_option maxRecDepth 20000 in
theorem ggL_law_L_about : GoodIn wsL_law wsL_about := goodIn_ca (goodIn_r _ [720, 45, 721, 722, 723, 2, 724, 16, 51, 52, 53, 54, 55, 725, 726, 702, 727, 728, 729, 730, 731, 732, 733, 734, 735, 101, 102, 103, 104, 736, 737, 58, 738, 739, 740, 741, 742, 743, 60, 61, 62, 744, 1070, 1071, 1053, 1054, 1055, 1056, 1057, 1058, 1059] (by decide +kernel) (by decide +kernel)) (goodIn_sub (fun _ h => List.mem_append_left _ (List.mem_append_left _ (List.mem_append_right _ h))) (by decide +kernel))
set_option maxRecDepth 20000 in
theorem gL_law_L_about : GoodIn wsL_law (va_wsS RL 156 yL_about wsL_about) := goodIn_app (goodIn_of _ (by decide +kernel)) ggL_law_L_about
set_option maxRecDepth 20000 in
theorem ggL_law_X4_about : GoodIn wsL_law wsX4_about := goodIn_r _ [748, 67, 68, 69, 5, 70, 71, 72, 73, 109, 110, 111, 112, 598, 599, 600, 601, 34, 602, 603, 604, 33, 749, 750, 751, 85, 86, 87, 88, 89, 90, 91, 92, 93, 679, 680, 681, 113, 114, 115, 116, 117, 118, 119, 120, 121, 122, 123, 124, 125, 126, 127, 1060, 1061, 1062, 1063, 1064, 1065, 1066, 1067, 1068, 1069] (by decide +kernel) (by decide +kernel)
set_option maxRecDepth 20000 in
theorem gL_law_X4_about : GoodIn wsL_law (wsV RL 159 RX4 yX4_about wsX4_about) := goodIn_app (goodIn_of _ (by decide +kernel)) ggL_law_X4_about
set_option maxRecDepth 20000 in
theorem ggL_law_L_pick : GoodIn wsL_law wsL_pick := goodIn_ca (goodIn_r _ [754, 45, 755, 756, 757, 2, 758, 51, 52, 53, 54, 55, 576, 577, 578, 579, 16, 50, 101, 102, 103, 104, 759, 760, 58, 761, 762, 763, 702, 764, 765, 766, 767, 768, 769, 770, 771, 521, 522, 523, 1070, 1071, 1053, 1054, 1055, 1056, 1057, 1058, 1059] (by decide +kernel) (by decide +kernel)) (goodIn_sub (fun _ h => List.mem_append_left _ (List.mem_append_left _ (List.mem_append_right _ h))) (by decide +kernel))
set_option maxRecDepth 20000 in
theorem gL_law_L_pick : GoodIn wsL_law (va_wsS RL 160 yL_pick wsL_pick) := goodIn_app (goodIn_of _ (by decide +kernel)) ggL_law_L_pick
set_option maxRecDepth 20000 in
theorem ggL_law_X4_pick : GoodIn wsL_law wsX4_pick := goodIn_r _ [775, 67, 33, 68, 69, 5, 70, 71, 72, 73, 74, 75, 76, 77, 598, 599, 600, 601, 34, 602, 603, 604, 776, 777, 778, 85, 86, 87, 88, 89, 90, 91, 92, 93, 679, 680, 681, 113, 114, 115, 116, 117, 118, 119, 120, 121, 122, 123, 124, 125, 126, 127, 1060, 1061, 1062, 1063, 1064, 1065, 1066, 1067, 1068, 1069] (by decide +kernel) (by decide +kernel)
set_option maxRecDepth 20000 in
theorem gL_law_X4_pick : GoodIn wsL_law (wsV RL 162 RX4 yX4_pick wsX4_pick) := goodIn_app (goodIn_of _ (by decide +kernel)) ggL_law_X4_pick
set_option maxRecDepth 20000 in
theorem ggL_law_L_join : GoodIn wsL_law wsL_join := goodIn_ca (goodIn_ca (goodIn_r _ [781, 45, 131, 782, 783, 784, 2, 785, 786, 787, 231, 788, 789, 790, 791, 51, 52, 53, 54, 55, 468, 469, 470, 137, 138, 572, 573, 574, 575, 16, 521, 522, 523, 101, 102, 103, 104, 1070, 1071, 1053, 1054, 1055, 1056, 1057, 1058, 1059] (by decide +kernel) (by decide +kernel)) (goodIn_sub (fun _ h => List.mem_append_left _ (List.mem_append_left _ (List.mem_append_right _ h))) (by decide +kernel))) (goodIn_sub (fun _ h => List.mem_append_left _ (List.mem_append_right _ h)) (by decide +kernel))
set_option maxRecDepth 20000 in
theorem gL_law_L_join : GoodIn wsL_law (va_wsS RL 163 yL_join wsL_join) := goodIn_app (goodIn_of _ (by decide +kernel)) ggL_law_L_join
set_option maxRecDepth 20000 in
theorem ggL_law_X4_join : GoodIn wsL_law wsX4_join := goodIn_r _ [795, 67, 68, 69, 5, 70, 71, 72, 73, 109, 110, 111, 112, 598, 599, 600, 601, 34, 602, 603, 604, 33, 796, 797, 798, 121, 122, 123, 124, 676, 677, 678, 673, 674, 675, 81, 113, 114, 115, 116, 117, 118, 119, 120, 125, 126, 127, 1060, 1061, 1062, 1063, 1064, 1065, 1066, 1067, 1068, 1069] (by decide +kernel) (by decide +kernel)
set_option maxRecDepth 20000 in
theorem gL_law_X4_join : GoodIn wsL_law (wsV RL 166 RX4 yX4_join wsX4_join) := goodIn_app (goodIn_of _ (by decide +kernel)) ggL_law_X4_join
set_option maxRecDepth 20000 in
theorem ggL_law_X2_knock : GoodIn wsL_law wsX2_knock := goodIn_r _ [802, 803, 1053, 1054, 1055, 1056, 1057, 1058, 1059] (by decide +kernel) (by decide +kernel)
set_option maxRecDepth 20000 in
theorem gL_law_X2_knock : GoodIn wsL_law (wsV RL 167 RX2 yX2_knock wsX2_knock) := goodIn_app (goodIn_of _ (by decide +kernel)) ggL_law_X2_knock
set_option maxRecDepth 20000 in
theorem ggL_law_X4_knock : GoodIn wsL_law wsX4_knock := goodIn_r _ [807, 67, 808, 1060, 1061, 1062, 1063, 1064, 1065, 1066, 1067, 1068, 1069] (by decide +kernel) (by decide +kernel)
set_option maxRecDepth 20000 in
theorem gL_law_X4_knock : GoodIn wsL_law (wsV RL 170 RX4 yX4_knock wsX4_knock) := goodIn_app (goodIn_of _ (by decide +kernel)) ggL_law_X4_knock
set_option maxRecDepth 20000 in
theorem ggL_law_L_high : GoodIn wsL_law wsL_high := goodIn_ca (goodIn_r _ [811, 45, 812, 813, 814, 2, 815, 16, 51, 52, 53, 54, 55, 816, 817, 818, 1070, 1071, 1053, 1054, 1055, 1056, 1057, 1058, 1059] (by decide +kernel) (by decide +kernel)) (goodIn_sub (fun _ h => List.mem_append_left _ (List.mem_append_left _ (List.mem_append_right _ h))) (by decide +kernel))
set_option maxRecDepth 20000 in
theorem gL_law_L_high : GoodIn wsL_law (va_wsS RL 171 yL_high wsL_high) := goodIn_app (goodIn_of _ (by decide +kernel)) ggL_law_L_high
set_option maxRecDepth 20000 in
theorem ggL_law_X4_high : GoodIn wsL_law wsX4_high := goodIn_r _ [822, 67, 34, 68, 69, 5, 70, 71, 72, 73, 823, 824, 825, 124, 81, 74, 75, 76, 77, 1060, 1061, 1062, 1063, 1064, 1065, 1066, 1067, 1068, 1069] (by decide +kernel) (by decide +kernel)
set_option maxRecDepth 20000 in
theorem gL_law_X4_high : GoodIn wsL_law (wsV RL 174 RX4 yX4_high wsX4_high) := goodIn_app (goodIn_of _ (by decide +kernel)) ggL_law_X4_high
set_option maxRecDepth 20000 in
theorem ggL_law_L_low : GoodIn wsL_law wsL_low := goodIn_ca (goodIn_r _ [828, 45, 829, 830, 831, 2, 832, 16, 51, 52, 53, 54, 55, 1070, 1071, 1053, 1054, 1055, 1056, 1057, 1058, 1059] (by decide +kernel) (by decide +kernel)) (goodIn_sub (fun _ h => List.mem_append_left _ (List.mem_append_left _ (List.mem_append_right _ h))) (by decide +kernel))
set_option maxRecDepth 20000 in
theorem gL_law_L_low : GoodIn wsL_law (va_wsS RL 175 yL_low wsL_low) := goodIn_app (goodIn_of _ (by decide +kernel)) ggL_law_L_low
set_option maxRecDepth 20000 in
theorem ggL_law_X4_low : GoodIn wsL_law wsX4_low := goodIn_r _ [836, 67, 34, 68, 69, 5, 70, 71, 72, 73, 823, 824, 825, 124, 81, 74, 75, 76, 77, 1060, 1061, 1062, 1063, 1064, 1065, 1066, 1067, 1068, 1069] (by decide +kernel) (by decide +kernel)
set_option maxRecDepth 20000 in
theorem gL_law_X4_low : GoodIn wsL_law (wsV RL 177 RX4 yX4_low wsX4_low) := goodIn_app (goodIn_of _ (by decide +kernel)) ggL_law_X4_low
set_option maxRecDepth 20000 in
theorem ggL_law_L_count : GoodIn wsL_law wsL_count := goodIn_ca (goodIn_ca (goodIn_r _ [839, 45, 131, 840, 841, 842, 2, 843, 16, 51, 52, 53, 54, 55, 468, 469, 470, 137, 138, 844, 845, 846, 847, 848, 702, 849, 732, 733, 734, 850, 763, 764, 765, 851, 770, 771, 852, 853, 854, 855, 856, 857, 56, 57, 58, 59, 60, 61, 62, 759, 760, 761, 762, 766, 767, 768, 769, 858, 859, 860, 1070, 1071, 1053, 1054, 1055, 1056, 1057, 1058, 1059] (by decide +kernel) (by decide +kernel)) (goodIn_sub (fun _ h => List.mem_append_left _ (List.mem_append_left _ (List.mem_append_right _ h))) (by decide +kernel))) (goodIn_sub (fun _ h => List.mem_append_left _ (List.mem_append_right _ h)) (by decide +kernel))
set_option maxRecDepth 20000 in
theorem gL_law_L_count : GoodIn wsL_law (va_wsS RL 178 yL_count wsL_count) := goodIn_app (goodIn_of _ (by decide +kernel)) ggL_law_L_count
set_option maxRecDepth 20000 in
theorem ggL_law_X4_count_ : GoodIn wsL_law wsX4_count_ := goodIn_r _ [864, 67, 68, 69, 5, 70, 71, 72, 73, 74, 75, 76, 77, 865, 866, 867, 868, 598, 599, 600, 601, 34, 602, 603, 604, 33, 82, 83, 84, 85, 86, 87, 88, 89, 90, 91, 92, 93, 776, 777, 778, 617, 618, 619, 121, 122, 123, 124, 1060, 1061, 1062, 1063, 1064, 1065, 1066, 1067, 1068, 1069] (by decide +kernel) (by decide +kernel)
set_option maxRecDepth 20000 in
theorem gL_law_X4_count_ : GoodIn wsL_law (wsV RL 180 RX4 yX4_count_ wsX4_count_) := goodIn_app (goodIn_of _ (by decide +kernel)) ggL_law_X4_count_
set_option maxRecDepth 20000 in
theorem ggL_law_L_compare : GoodIn wsL_law wsL_compare := goodIn_ca (goodIn_r _ [871, 45, 872, 873, 874, 2, 875, 51, 52, 53, 54, 55, 576, 577, 578, 579, 16, 50, 572, 573, 574, 575, 521, 522, 523, 876, 503, 500, 504, 505, 1070, 1071, 1053, 1054, 1055, 1056, 1057, 1058, 1059] (by decide +kernel) (by decide +kernel)) (goodIn_sub (fun _ h => List.mem_append_left _ (List.mem_append_left _ (List.mem_append_right _ h))) (by decide +kernel))
set_option maxRecDepth 20000 in
theorem gL_law_L_compare : GoodIn wsL_law (va_wsS RL 181 yL_compare wsL_compare) := goodIn_app (goodIn_of _ (by decide +kernel)) ggL_law_L_compare
set_option maxRecDepth 20000 in
theorem ggL_law_X4_compare_ : GoodIn wsL_law wsX4_compare_ := goodIn_r _ [880, 67, 68, 69, 5, 70, 71, 72, 73, 74, 75, 76, 77, 598, 599, 600, 601, 34, 602, 603, 604, 33, 676, 677, 678, 796, 797, 798, 121, 122, 123, 124, 1060, 1061, 1062, 1063, 1064, 1065, 1066, 1067, 1068, 1069] (by decide +kernel) (by decide +kernel)
set_option maxRecDepth 20000 in
theorem gL_law_X4_compare_ : GoodIn wsL_law (wsV RL 184 RX4 yX4_compare_ wsX4_compare_) := goodIn_app (goodIn_of _ (by decide +kernel)) ggL_law_X4_compare_
set_option maxRecDepth 20000 in
theorem ggL_law_X2_text : GoodIn wsL_law wsX2_text := goodIn_r _ [884, 20, 885, 886, 887, 19, 888, 889, 162, 163, 145, 27, 890, 180, 181, 182, 183, 184, 185, 186, 13, 14, 187, 188, 189, 190, 191, 192, 193, 194, 195, 196, 197, 198, 891, 322, 323, 324, 325, 326, 205, 327, 328, 208, 214, 215, 216, 217, 218, 219, 220, 221, 222, 223, 224, 225, 226, 227, 228, 229, 230, 231, 232, 233, 234, 235, 236, 237, 238, 239, 240, 241, 242, 243, 244, 245, 246, 247, 248, 249, 250, 251, 252, 253, 254, 255, 256, 257, 258, 329, 330, 301, 331, 294, 295, 296, 297, 298, 299, 300, 302, 303, 304, 305, 306, 307, 308, 266, 267, 268, 309, 310, 167, 311, 272, 312, 313, 275, 314, 277, 278, 279, 262, 280, 281, 332, 333, 334, 335, 336, 337, 338, 339, 340, 341, 342, 343, 892, 345, 346, 347, 348, 349, 350, 351, 352, 353, 354, 355, 356, 175, 169, 174, 357, 358, 359, 360, 361, 362, 363, 364, 365, 366, 367, 368, 369, 370, 371, 372, 373, 374, 375, 376, 377, 378, 379, 380, 381, 382, 383, 384, 385, 386, 387, 388, 389, 390, 391, 392, 393, 394, 395, 1053, 1054, 1055, 1056, 1057, 1058, 1059, 1074, 1075, 1076, 1077, 1072, 1073, 1078, 1079, 1080, 1081] (by decide +kernel) (by decide +kernel)
set_option maxRecDepth 20000 in
theorem gL_law_X2_text : GoodIn wsL_law (wsV RL 185 RX2 yX2_text wsX2_text) := goodIn_app (goodIn_of _ (by decide +kernel)) ggL_law_X2_text
set_option maxRecDepth 20000 in
theorem ggL_law_X4_text : GoodIn wsL_law wsX4_text := goodIn_r _ [896, 67, 35, 1060, 1061, 1062, 1063, 1064, 1065, 1066, 1067, 1068, 1069] (by decide +kernel) (by decide +kernel)
set_option maxRecDepth 20000 in
theorem gL_law_X4_text : GoodIn wsL_law (wsV RL 189 RX4 yX4_text wsX4_text) := goodIn_app (goodIn_of _ (by decide +kernel)) ggL_law_X4_text
set_option maxRecDepth 20000 in
theorem ggL_law_L_digit : GoodIn wsL_law wsL_digit := goodIn_ca (goodIn_ca (goodIn_r _ [899, 45, 131, 900, 901, 902, 2, 903, 54, 55, 20, 153, 154, 155, 19, 156, 145, 465, 466, 467, 137, 138, 904, 507, 508, 509, 27, 510, 511, 512, 1070, 1071, 1053, 1054, 1055, 1056, 1057, 1058, 1059, 1072, 1073] (by decide +kernel) (by decide +kernel)) (goodIn_sub (fun _ h => List.mem_append_left _ (List.mem_append_left _ (List.mem_append_right _ h))) (by decide +kernel))) (goodIn_sub (fun _ h => List.mem_append_left _ (List.mem_append_right _ h)) (by decide +kernel))
set_option maxRecDepth 20000 in
theorem gL_law_L_digit : GoodIn wsL_law (va_wsS RL 190 yL_digit wsL_digit) := goodIn_app (goodIn_of _ (by decide +kernel)) ggL_law_L_digit
set_option maxRecDepth 20000 in
theorem ggL_law_X4_digit : GoodIn wsL_law wsX4_digit := goodIn_r _ [908, 67, 35, 164, 165, 166, 167, 168, 169, 170, 171, 172, 173, 174, 175, 71, 72, 5, 73, 74, 75, 76, 77, 536, 537, 538, 539, 421, 422, 423, 424, 540, 541, 301, 542, 543, 339, 340, 272, 341, 342, 275, 343, 544, 545, 193, 546, 335, 336, 337, 266, 267, 268, 338, 389, 390, 391, 262, 280, 281, 909, 910, 911, 550, 551, 552, 1060, 1061, 1062, 1063, 1064, 1065, 1066, 1067, 1068, 1069, 1078, 1079, 1080, 1081] (by decide +kernel) (by decide +kernel)
set_option maxRecDepth 20000 in
theorem gL_law_X4_digit : GoodIn wsL_law (wsV RL 192 RX4 yX4_digit wsX4_digit) := goodIn_app (goodIn_of _ (by decide +kernel)) ggL_law_X4_digit
set_option maxRecDepth 20000 in
theorem ggL_law_L_bench : GoodIn wsL_law wsL_bench := goodIn_ca (goodIn_r _ [914, 131, 915, 916, 917, 2, 918, 20, 461, 460, 566, 803, 468, 469, 470, 137, 138, 153, 154, 155, 19, 156, 145, 1070, 1071, 1053, 1054, 1055, 1056, 1057, 1058, 1059, 1072, 1073] (by decide +kernel) (by decide +kernel)) (goodIn_sub (fun _ h => List.mem_append_left _ (List.mem_append_right _ h)) (by decide +kernel))
set_option maxRecDepth 20000 in
theorem gL_law_L_bench : GoodIn wsL_law (va_wsS RL 193 yL_bench wsL_bench) := goodIn_app (goodIn_of _ (by decide +kernel)) ggL_law_L_bench
set_option maxRecDepth 20000 in
theorem ggL_law_X4_bench : GoodIn wsL_law wsX4_bench := goodIn_r _ [922, 67, 71, 72, 5, 73, 923, 924, 925, 926, 35, 529, 528, 635, 808, 164, 165, 166, 167, 168, 169, 170, 171, 172, 173, 174, 175, 74, 75, 76, 77, 1060, 1061, 1062, 1063, 1064, 1065, 1066, 1067, 1068, 1069, 1078, 1079, 1080, 1081] (by decide +kernel) (by decide +kernel)
set_option maxRecDepth 20000 in
theorem gL_law_X4_bench : GoodIn wsL_law (wsV RL 195 RX4 yX4_bench wsX4_bench) := goodIn_app (goodIn_of _ (by decide +kernel)) ggL_law_X4_bench
set_option maxRecDepth 20000 in
theorem ggL_law_L_isNumber : GoodIn wsL_law wsL_isNumber := goodIn_ca (goodIn_r _ [929, 131, 930, 931, 932, 2, 933, 20, 462, 463, 464, 465, 466, 467, 137, 138, 468, 469, 470, 471, 472, 473, 19, 474, 145, 475, 476, 477, 478, 27, 479, 480, 481, 482, 483, 484, 485, 486, 487, 488, 489, 490, 491, 492, 493, 494, 495, 496, 497, 498, 499, 500, 501, 502, 503, 504, 505, 506, 507, 508, 509, 510, 511, 512, 513, 1070, 1071, 1053, 1054, 1055, 1056, 1057, 1058, 1059, 1072, 1073] (by decide +kernel) (by decide +kernel)) (goodIn_sub (fun _ h => List.mem_append_left _ (List.mem_append_right _ h)) (by decide +kernel))
set_option maxRecDepth 20000 in
theorem gL_law_L_isNumber : GoodIn wsL_law (va_wsS RL 196 yL_isNumber wsL_isNumber) := goodIn_app (goodIn_of _ (by decide +kernel)) ggL_law_L_isNumber
set_option maxRecDepth 20000 in
theorem ggL_law_X4_isNumber : GoodIn wsL_law wsX4_isNumber := goodIn_r _ [937, 67, 35, 530, 531, 5, 532, 71, 72, 73, 109, 110, 111, 112, 533, 534, 535, 33, 81, 164, 165, 166, 167, 168, 169, 170, 171, 172, 173, 174, 175, 536, 537, 538, 539, 421, 422, 423, 424, 540, 541, 301, 542, 543, 339, 340, 272, 341, 342, 275, 343, 544, 545, 193, 546, 335, 336, 337, 266, 267, 268, 338, 389, 390, 391, 262, 280, 281, 547, 548, 549, 550, 551, 552, 553, 554, 555, 556, 557, 558, 120, 125, 126, 127, 121, 122, 123, 124, 1060, 1061, 1062, 1063, 1064, 1065, 1066, 1067, 1068, 1069, 1078, 1079, 1080, 1081] (by decide +kernel) (by decide +kernel)
set_option maxRecDepth 20000 in
theorem gL_law_X4_isNumber : GoodIn wsL_law (wsV RL 198 RX4 yX4_isNumber wsX4_isNumber) := goodIn_app (goodIn_of _ (by decide +kernel)) ggL_law_X4_isNumber
set_option maxRecDepth 20000 in
theorem ggL_law_L_would : GoodIn wsL_law wsL_would := goodIn_ca (goodIn_r _ [940, 131, 941, 942, 943, 2, 944, 20, 462, 463, 464, 465, 466, 467, 137, 138, 468, 469, 470, 471, 472, 473, 19, 474, 145, 475, 476, 477, 478, 27, 479, 480, 481, 482, 483, 484, 485, 486, 487, 488, 489, 490, 491, 492, 493, 494, 495, 496, 497, 498, 499, 500, 501, 502, 503, 504, 505, 506, 507, 508, 509, 510, 511, 512, 513, 514, 515, 516, 517, 518, 519, 520, 521, 522, 523, 816, 817, 818, 1070, 1071, 1053, 1054, 1055, 1056, 1057, 1058, 1059, 1072, 1073] (by decide +kernel) (by decide +kernel)) (goodIn_sub (fun _ h => List.mem_append_left _ (List.mem_append_right _ h)) (by decide +kernel))
set_option maxRecDepth 20000 in
theorem gL_law_L_would : GoodIn wsL_law (va_wsS RL 199 yL_would wsL_would) := goodIn_app (goodIn_of _ (by decide +kernel)) ggL_law_L_would
set_option maxRecDepth 20000 in
theorem ggL_law_X4_would : GoodIn wsL_law wsX4_would := goodIn_r _ [948, 67, 530, 531, 5, 532, 71, 72, 73, 949, 950, 951, 952, 35, 533, 534, 535, 33, 81, 164, 165, 166, 167, 168, 169, 170, 171, 172, 173, 174, 175, 536, 537, 538, 539, 421, 422, 423, 424, 540, 541, 301, 542, 543, 339, 340, 272, 341, 342, 275, 343, 544, 545, 193, 546, 335, 336, 337, 266, 267, 268, 338, 389, 390, 391, 262, 280, 281, 547, 548, 549, 550, 551, 552, 553, 554, 555, 556, 557, 558, 120, 125, 126, 127, 121, 122, 123, 124, 117, 118, 119, 823, 824, 825, 74, 75, 76, 77, 1060, 1061, 1062, 1063, 1064, 1065, 1066, 1067, 1068, 1069, 1078, 1079, 1080, 1081] (by decide +kernel) (by decide +kernel)
set_option maxRecDepth 20000 in
theorem gL_law_X4_would : GoodIn wsL_law (wsV RL 201 RX4 yX4_would wsX4_would) := goodIn_app (goodIn_of _ (by decide +kernel)) ggL_law_X4_would
set_option maxRecDepth 20000 in
theorem ggL_law_L_written : GoodIn wsL_law wsL_written := goodIn_ca (goodIn_ca (goodIn_r _ [955, 45, 131, 956, 957, 958, 2, 959, 21, 51, 52, 53, 54, 55, 462, 463, 464, 465, 466, 467, 137, 138, 468, 469, 470, 567, 568, 569, 570, 518, 519, 520, 571, 479, 480, 572, 573, 574, 575, 16, 521, 522, 523, 576, 577, 578, 579, 50, 580, 581, 582, 19, 583, 145, 498, 499, 500, 501, 502, 503, 504, 505, 584, 147, 148, 585, 150, 151, 152, 27, 586, 587, 588, 589, 885, 886, 887, 888, 889, 162, 163, 890, 180, 181, 182, 183, 184, 185, 186, 13, 14, 187, 188, 189, 190, 191, 192, 193, 194, 195, 196, 197, 198, 891, 322, 323, 324, 325, 326, 205, 327, 328, 208, 214, 215, 216, 217, 218, 219, 220, 221, 222, 223, 224, 225, 226, 227, 228, 229, 230, 231, 232, 233, 234, 235, 236, 237, 238, 239, 240, 241, 242, 243, 244, 245, 246, 247, 248, 249, 250, 251, 252, 253, 254, 255, 256, 257, 258, 329, 330, 301, 331, 294, 295, 296, 297, 298, 299, 300, 302, 303, 304, 305, 306, 307, 308, 266, 267, 268, 309, 310, 167, 311, 272, 312, 313, 275, 314, 277, 278, 279, 262, 280, 281, 332, 333, 334, 335, 336, 337, 338, 339, 340, 341, 342, 343, 892, 345, 346, 347, 348, 349, 350, 351, 352, 353, 354, 355, 356, 175, 169, 174, 357, 358, 359, 360, 361, 362, 363, 364, 365, 366, 367, 368, 369, 370, 371, 372, 373, 374, 375, 376, 377, 378, 379, 380, 381, 382, 383, 384, 385, 386, 387, 388, 389, 390, 391, 392, 393, 394, 395, 1070, 1071, 1053, 1054, 1055, 1056, 1057, 1058, 1059, 1072, 1073, 1074, 1075, 1076, 1077, 1078, 1079, 1080, 1081] (by decide +kernel) (by decide +kernel)) (goodIn_sub (fun _ h => List.mem_append_left _ (List.mem_append_left _ (List.mem_append_right _ h))) (by decide +kernel))) (goodIn_sub (fun _ h => List.mem_append_left _ (List.mem_append_right _ h)) (by decide +kernel))
set_option maxRecDepth 20000 in
theorem gL_law_L_written : GoodIn wsL_law (va_wsS RL 202 yL_written wsL_written) := goodIn_app (goodIn_of _ (by decide +kernel)) ggL_law_L_written
set_option maxRecDepth 20000 in
theorem ggL_law_X4_written : GoodIn wsL_law wsX4_written := goodIn_r _ [963, 67, 68, 69, 5, 70, 71, 72, 73, 530, 531, 532, 594, 595, 596, 597, 598, 599, 600, 601, 34, 602, 603, 604, 33, 605, 606, 607, 161, 162, 163, 121, 122, 123, 124, 179, 180, 181, 182, 183, 184, 185, 186, 13, 14, 187, 188, 189, 190, 191, 192, 193, 194, 195, 196, 197, 198, 199, 200, 201, 202, 203, 204, 205, 206, 207, 208, 209, 210, 211, 212, 213, 214, 215, 216, 217, 218, 219, 220, 221, 222, 223, 224, 225, 226, 227, 228, 229, 230, 231, 232, 233, 234, 235, 236, 237, 238, 239, 240, 241, 242, 243, 244, 245, 246, 247, 248, 249, 250, 251, 252, 253, 254, 255, 256, 257, 258, 259, 260, 261, 262, 263, 264, 265, 266, 267, 268, 269, 270, 167, 271, 272, 273, 274, 275, 276, 277, 278, 279, 280, 281, 282, 165, 166, 168, 169, 170, 171, 172, 173, 174, 175, 283, 284, 285, 286, 287, 288, 289, 290, 291, 292, 293, 294, 295, 296, 297, 298, 299, 300, 301, 302, 303, 304, 305, 306, 307, 308, 309, 310, 311, 312, 313, 314, 315, 316, 317, 318, 319, 320, 556, 557, 558, 120, 81, 608, 609, 610, 611, 612, 613, 614, 615, 367, 616, 368, 369, 364, 370, 371, 617, 618, 619, 176, 177, 178, 321, 322, 323, 324, 325, 326, 327, 328, 329, 330, 331, 332, 333, 334, 335, 336, 337, 338, 339, 340, 341, 342, 343, 620, 621, 622, 623, 624, 625, 626, 627, 628, 629, 630, 390, 391, 344, 345, 346, 347, 348, 349, 350, 351, 352, 353, 354, 355, 356, 357, 358, 359, 360, 361, 362, 363, 365, 366, 372, 373, 374, 375, 376, 377, 378, 379, 380, 381, 382, 383, 384, 385, 386, 387, 388, 389, 392, 393, 394, 395, 1060, 1061, 1062, 1063, 1064, 1065, 1066, 1067, 1068, 1069, 1074, 1075, 1076, 1077, 1078, 1079, 1080, 1081] (by decide +kernel) (by decide +kernel)
set_option maxRecDepth 20000 in
theorem gL_law_X4_written : GoodIn wsL_law (wsV RL 204 RX4 yX4_written wsX4_written) := goodIn_app (goodIn_of _ (by decide +kernel)) ggL_law_X4_written
set_option maxRecDepth 20000 in
theorem ggL_law_L_same : GoodIn wsL_law wsL_same := goodIn_ca (goodIn_r _ [966, 131, 967, 968, 969, 2, 970, 20, 16, 462, 463, 464, 465, 466, 467, 137, 138, 468, 469, 470, 471, 472, 473, 19, 474, 145, 475, 476, 477, 478, 27, 479, 480, 481, 482, 483, 484, 485, 486, 487, 488, 489, 490, 491, 492, 493, 494, 495, 496, 497, 498, 499, 500, 501, 502, 503, 504, 505, 506, 507, 508, 509, 510, 511, 512, 513, 514, 515, 516, 517, 971, 972, 973, 518, 519, 520, 521, 522, 523, 1070, 1071, 1053, 1054, 1055, 1056, 1057, 1058, 1059, 1072, 1073] (by decide +kernel) (by decide +kernel)) (goodIn_sub (fun _ h => List.mem_append_left _ (List.mem_append_right _ h)) (by decide +kernel))
set_option maxRecDepth 20000 in
theorem gL_law_L_same : GoodIn wsL_law (va_wsS RL 205 yL_same wsL_same) := goodIn_app (goodIn_of _ (by decide +kernel)) ggL_law_L_same
set_option maxRecDepth 20000 in
theorem ggL_law_X4_same : GoodIn wsL_law wsX4_same := goodIn_r _ [977, 67, 530, 531, 5, 532, 71, 72, 73, 978, 979, 980, 981, 35, 533, 534, 535, 33, 81, 164, 165, 166, 167, 168, 169, 170, 171, 172, 173, 174, 175, 536, 537, 538, 539, 421, 422, 423, 424, 540, 541, 301, 542, 543, 339, 340, 272, 341, 342, 275, 343, 544, 545, 193, 546, 335, 336, 337, 266, 267, 268, 338, 389, 390, 391, 262, 280, 281, 547, 548, 549, 550, 551, 552, 553, 554, 555, 556, 557, 558, 120, 125, 126, 127, 121, 122, 123, 124, 598, 599, 600, 601, 34, 602, 603, 604, 91, 92, 93, 74, 75, 76, 77, 1060, 1061, 1062, 1063, 1064, 1065, 1066, 1067, 1068, 1069, 1078, 1079, 1080, 1081] (by decide +kernel) (by decide +kernel)
set_option maxRecDepth 20000 in
theorem gL_law_X4_same : GoodIn wsL_law (wsV RL 207 RX4 yX4_same wsX4_same) := goodIn_app (goodIn_of _ (by decide +kernel)) ggL_law_X4_same
set_option maxRecDepth 20000 in
theorem ggL_law_X2_isSound : GoodIn wsL_law wsX2_isSound := goodIn_r _ [985, 16, 986, 987, 988, 2, 989, 21, 567, 568, 569, 570, 518, 519, 520, 571, 479, 480, 572, 573, 574, 575, 521, 522, 523, 576, 577, 578, 579, 50, 580, 581, 582, 19, 583, 145, 498, 499, 500, 501, 502, 503, 504, 505, 584, 147, 148, 585, 150, 151, 152, 27, 586, 587, 588, 589, 471, 472, 473, 474, 475, 476, 477, 478, 481, 482, 483, 484, 485, 486, 487, 488, 489, 490, 491, 492, 493, 494, 495, 496, 497, 506, 507, 508, 509, 510, 511, 512, 513, 514, 515, 516, 517, 971, 972, 973, 990, 991, 992, 661, 876, 993, 994, 995, 704, 705, 58, 706, 741, 742, 743, 60, 61, 62, 744, 737, 738, 739, 740, 736, 56, 57, 59, 816, 817, 818, 847, 848, 702, 849, 732, 733, 734, 1053, 1054, 1055, 1056, 1057, 1058, 1059, 1072, 1073] (by decide +kernel) (by decide +kernel)
set_option maxRecDepth 20000 in
theorem gL_law_X2_isSound : GoodIn wsL_law (wsV RL 208 RX2 yX2_isSound wsX2_isSound) := goodIn_app (goodIn_of _ (by decide +kernel)) ggL_law_X2_isSound
set_option maxRecDepth 20000 in
theorem ggL_law_X4_isSound : GoodIn wsL_law wsX4_isSound := goodIn_r _ [999, 67, 1000, 1001, 1002, 5, 1003, 34, 33, 1004, 1005, 1006, 1007, 547, 548, 549, 1008, 1009, 1010, 1011, 124, 36, 37, 120, 81, 1012, 1013, 1014, 1015, 1016, 1017, 1018, 1019, 1020, 1021, 1022, 1023, 1024, 1025, 1026, 1027, 617, 618, 619, 670, 671, 672, 32, 85, 86, 87, 121, 122, 123, 673, 674, 675, 88, 89, 90, 91, 92, 93, 676, 677, 678, 556, 557, 558, 679, 680, 681, 125, 126, 127, 711, 712, 713, 749, 750, 751, 82, 83, 84, 602, 603, 604, 1060, 1061, 1062, 1063, 1064, 1065, 1066, 1067, 1068, 1069] (by decide +kernel) (by decide +kernel)
set_option maxRecDepth 20000 in
theorem gL_law_X4_isSound : GoodIn wsL_law (wsV RL 212 RX4 yX4_isSound wsX4_isSound) := goodIn_app (goodIn_of _ (by decide +kernel)) ggL_law_X4_isSound
set_option maxRecDepth 20000 in
theorem ggL_law_X2_digest : GoodIn wsL_law wsX2_digest := goodIn_ca (goodIn_r _ [1031, 1032, 1033, 20, 21, 1034, 916, 917, 2, 918, 461, 460, 566, 803, 468, 469, 470, 137, 138, 153, 154, 155, 19, 156, 145, 1035, 1036, 1037, 1038, 16, 816, 817, 818, 855, 856, 857, 56, 57, 58, 59, 60, 61, 62, 759, 760, 761, 762, 763, 702, 764, 765, 766, 767, 768, 769, 770, 771, 858, 859, 860, 844, 845, 846, 847, 848, 849, 732, 733, 734, 850, 851, 852, 853, 854, 904, 507, 508, 509, 27, 510, 511, 512, 1039, 942, 943, 944, 462, 463, 464, 465, 466, 467, 471, 472, 473, 474, 475, 476, 477, 478, 479, 480, 481, 482, 483, 484, 485, 486, 487, 488, 489, 490, 491, 492, 493, 494, 495, 496, 497, 498, 499, 500, 501, 502, 503, 504, 505, 506, 513, 514, 515, 516, 517, 518, 519, 520, 521, 522, 523, 567, 568, 569, 570, 571, 572, 573, 574, 575, 576, 577, 578, 579, 50, 580, 581, 582, 583, 584, 147, 148, 585, 150, 151, 152, 586, 587, 588, 589, 1040, 968, 969, 970, 971, 972, 973, 1041, 983, 984, 985, 986, 987, 988, 989, 990, 991, 992, 661, 876, 993, 994, 995, 704, 705, 706, 741, 742, 743, 744, 737, 738, 739, 740, 736, 1053, 1054, 1055, 1056, 1057, 1058, 1059, 1072, 1073] (by decide +kernel) (by decide +kernel)) (goodIn_sub (fun _ h => List.mem_append_left _ (List.mem_append_right _ h)) (by decide +kernel))
set_option maxRecDepth 20000 in
theorem gL_law_X2_digest : GoodIn wsL_law (wsV RL 213 RX2 yX2_digest wsX2_digest) := goodIn_app (goodIn_of _ (by decide +kernel)) ggL_law_X2_digest
set_option maxRecDepth 20000 in
theorem ggL_law_X4_digest : GoodIn wsL_law wsX4_digest := goodIn_r _ [1045, 67, 1046, 1047, 34, 35, 923, 924, 925, 5, 926, 529, 528, 635, 808, 164, 165, 166, 167, 168, 169, 170, 171, 172, 173, 174, 175, 1048, 1049, 1050, 1051, 1052, 823, 824, 825, 124, 81, 865, 866, 867, 868, 598, 599, 600, 601, 602, 603, 604, 33, 82, 83, 84, 85, 86, 87, 88, 89, 90, 91, 92, 93, 776, 777, 778, 617, 618, 619, 121, 122, 123, 536, 537, 538, 539, 421, 422, 423, 424, 540, 541, 301, 542, 543, 339, 340, 272, 341, 342, 275, 343, 544, 545, 193, 546, 335, 336, 337, 266, 267, 268, 338, 389, 390, 391, 262, 280, 281, 909, 910, 911, 550, 551, 552, 949, 950, 951, 952, 533, 534, 535, 547, 548, 549, 553, 554, 555, 556, 557, 558, 120, 125, 126, 127, 117, 118, 119, 594, 595, 596, 597, 605, 606, 607, 161, 162, 163, 179, 180, 181, 182, 183, 184, 185, 186, 13, 14, 187, 188, 189, 190, 191, 192, 194, 195, 196, 197, 198, 199, 200, 201, 202, 203, 204, 205, 206, 207, 208, 209, 210, 211, 212, 213, 214, 215, 216, 217, 218, 219, 220, 221, 222, 223, 224, 225, 226, 227, 228, 229, 230, 231, 232, 233, 234, 235, 236, 237, 238, 239, 240, 241, 242, 243, 244, 245, 246, 247, 248, 249, 250, 251, 252, 253, 254, 255, 256, 257, 258, 259, 260, 261, 263, 264, 265, 269, 270, 271, 273, 274, 276, 277, 278, 279, 282, 283, 284, 285, 286, 287, 288, 289, 290, 291, 292, 293, 294, 295, 296, 297, 298, 299, 300, 302, 303, 304, 305, 306, 307, 308, 309, 310, 311, 312, 313, 314, 315, 316, 317, 318, 319, 320, 608, 609, 610, 611, 612, 613, 614, 615, 367, 616, 368, 369, 364, 370, 371, 176, 177, 178, 321, 322, 323, 324, 325, 326, 327, 328, 329, 330, 331, 332, 333, 334, 620, 621, 622, 623, 624, 625, 626, 627, 628, 629, 630, 344, 345, 346, 347, 348, 349, 350, 351, 352, 353, 354, 355, 356, 357, 358, 359, 360, 361, 362, 363, 365, 366, 372, 373, 374, 375, 376, 377, 378, 379, 380, 381, 382, 383, 384, 385, 386, 387, 388, 392, 393, 394, 395, 978, 979, 980, 981, 1000, 1001, 1002, 1003, 1004, 1005, 1006, 1007, 1008, 1009, 1010, 1011, 36, 37, 1012, 1013, 1014, 1015, 1016, 1017, 1018, 1019, 1020, 1021, 1022, 1023, 1024, 1025, 1026, 1027, 670, 671, 672, 32, 673, 674, 675, 676, 677, 678, 679, 680, 681, 711, 712, 713, 749, 750, 751, 1060, 1061, 1062, 1063, 1064, 1065, 1066, 1067, 1068, 1069, 1078, 1079, 1080, 1081, 1074, 1075, 1076, 1077] (by decide +kernel) (by decide +kernel)
set_option maxRecDepth 20000 in
theorem gL_law_X4_digest : GoodIn wsL_law (wsV RL 217 RX4 yX4_digest wsX4_digest) := goodIn_app (goodIn_of _ (by decide +kernel)) ggL_law_X4_digest
