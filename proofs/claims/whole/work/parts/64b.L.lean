set_option maxRecDepth 20000 in
theorem ggL_law_X0_init : GoodIn wsL_law wsX0_init := goodIn_r _ [10, 11, 12, 13, 14, 15, 16, 17, 18, 19, 20, 21, 383, 384, 385, 386, 387, 388] (by decide +kernel) (by decide +kernel)
set_option maxRecDepth 20000 in
theorem gL_law_X0_init : GoodIn wsL_law (wsX0_init) := ggL_law_X0_init
set_option maxRecDepth 20000 in
theorem ggL_law_X1_init : GoodIn wsL_law wsX1_init := goodIn_r _ [24, 25, 12, 13, 15, 26, 27, 28, 389, 390, 391] (by decide +kernel) (by decide +kernel)
set_option maxRecDepth 20000 in
theorem gL_law_X1_init : GoodIn wsL_law (wsX1_init) := ggL_law_X1_init
set_option maxRecDepth 20000 in
theorem ggL_law_L_set : GoodIn wsL_law wsL_set := goodIn_ca (goodIn_r _ [32, 33, 34, 35, 36, 2, 37, 19, 38, 39, 40, 41, 42, 43, 44, 45, 46, 47, 48, 49, 50, 16, 51, 52, 53, 54, 17, 18, 383, 384, 385, 386, 387, 388] (by decide +kernel) (by decide +kernel)) (goodIn_sub (fun _ h => List.mem_append_left _ (List.mem_append_left _ (List.mem_append_right _ h))) (by decide +kernel))
set_option maxRecDepth 20000 in
theorem gL_law_L_set : GoodIn wsL_law (va_wsS RL 73 yL_set wsL_set) := goodIn_app (goodIn_of _ (by decide +kernel)) ggL_law_L_set
set_option maxRecDepth 20000 in
theorem ggL_law_X1_set : GoodIn wsL_law wsX1_set := goodIn_r _ [58, 59, 26, 60, 61, 62, 5, 63, 64, 65, 66, 67, 68, 69, 70, 71, 28, 389, 390, 391] (by decide +kernel) (by decide +kernel)
set_option maxRecDepth 20000 in
theorem gL_law_X1_set : GoodIn wsL_law (wsV RL 78 RX1 yX1_set wsX1_set) := goodIn_app (goodIn_of _ (by decide +kernel)) ggL_law_X1_set
set_option maxRecDepth 20000 in
theorem ggL_law_X1_thrown : GoodIn wsL_law wsX1_thrown := goodIn_r _ [75, 59, 389, 390, 391] (by decide +kernel) (by decide +kernel)
set_option maxRecDepth 20000 in
theorem gL_law_X1_thrown : GoodIn wsL_law (wsV RL 79 RX1 yX1_thrown wsX1_thrown) := goodIn_app (goodIn_of _ (by decide +kernel)) ggL_law_X1_thrown
set_option maxRecDepth 20000 in
theorem ggL_law_L_append : GoodIn wsL_law wsL_append := goodIn_ca (goodIn_ca (goodIn_r _ [78, 33, 79, 80, 81, 82, 2, 83, 84, 85, 17, 19, 16, 51, 52, 53, 54, 18, 38, 39, 40, 41, 42, 43, 44, 45, 46, 47, 48, 49, 50, 383, 384, 385, 386, 387, 388] (by decide +kernel) (by decide +kernel)) (goodIn_sub (fun _ h => List.mem_append_left _ (List.mem_append_right _ h)) (by decide +kernel))) (goodIn_sub (fun _ h => List.mem_append_left _ (List.mem_append_left _ (List.mem_append_right _ h))) (by decide +kernel))
set_option maxRecDepth 20000 in
theorem gL_law_L_append : GoodIn wsL_law (va_wsS RL 83 yL_append wsL_append) := goodIn_app (goodIn_of _ (by decide +kernel)) ggL_law_L_append
set_option maxRecDepth 20000 in
theorem ggL_law_X1_append : GoodIn wsL_law wsX1_append := goodIn_r _ [89, 59, 60, 26, 61, 62, 5, 63, 64, 65, 66, 67, 68, 69, 70, 71, 28, 90, 91, 92, 93, 94, 95, 96, 97, 98, 99, 100, 101, 102, 103, 104, 105, 389, 390, 391] (by decide +kernel) (by decide +kernel)
set_option maxRecDepth 20000 in
theorem gL_law_X1_append : GoodIn wsL_law (wsV RL 86 RX1 yX1_append wsX1_append) := goodIn_app (goodIn_of _ (by decide +kernel)) ggL_law_X1_append
set_option maxRecDepth 20000 in
theorem ggL_law_L_negate : GoodIn wsL_law wsL_negate := goodIn_ca (goodIn_r _ [108, 33, 109, 110, 111, 2, 112, 18, 38, 39, 40, 41, 42, 383, 384, 385, 386, 387, 388] (by decide +kernel) (by decide +kernel)) (goodIn_sub (fun _ h => List.mem_append_left _ (List.mem_append_left _ (List.mem_append_right _ h))) (by decide +kernel))
set_option maxRecDepth 20000 in
theorem gL_law_L_negate : GoodIn wsL_law (va_wsS RL 87 yL_negate wsL_negate) := goodIn_app (goodIn_of _ (by decide +kernel)) ggL_law_L_negate
set_option maxRecDepth 20000 in
theorem ggL_law_X1_negate : GoodIn wsL_law wsX1_negate := goodIn_r _ [116, 59, 26, 61, 62, 5, 63, 389, 390, 391] (by decide +kernel) (by decide +kernel)
set_option maxRecDepth 20000 in
theorem gL_law_X1_negate : GoodIn wsL_law (wsV RL 90 RX1 yX1_negate wsX1_negate) := goodIn_app (goodIn_of _ (by decide +kernel)) ggL_law_X1_negate
set_option maxRecDepth 20000 in
theorem ggL_law_L_copy : GoodIn wsL_law wsL_copy := goodIn_ca (goodIn_r _ [119, 33, 120, 121, 122, 2, 123, 16, 51, 52, 53, 54, 17, 18, 38, 39, 40, 41, 42, 383, 384, 385, 386, 387, 388] (by decide +kernel) (by decide +kernel)) (goodIn_sub (fun _ h => List.mem_append_left _ (List.mem_append_left _ (List.mem_append_right _ h))) (by decide +kernel))
set_option maxRecDepth 20000 in
theorem gL_law_L_copy : GoodIn wsL_law (va_wsS RL 91 yL_copy wsL_copy) := goodIn_app (goodIn_of _ (by decide +kernel)) ggL_law_L_copy
set_option maxRecDepth 20000 in
theorem ggL_law_X1_copy : GoodIn wsL_law wsX1_copy := goodIn_r _ [127, 59, 61, 62, 5, 63, 102, 103, 104, 105, 26, 90, 91, 92, 93, 28, 68, 69, 70, 71, 389, 390, 391] (by decide +kernel) (by decide +kernel)
set_option maxRecDepth 20000 in
theorem gL_law_X1_copy : GoodIn wsL_law (wsV RL 93 RX1 yX1_copy wsX1_copy) := goodIn_app (goodIn_of _ (by decide +kernel)) ggL_law_X1_copy
set_option maxRecDepth 20000 in
theorem ggL_law_L_add : GoodIn wsL_law wsL_add := goodIn_ca (goodIn_ca (goodIn_r _ [130, 33, 79, 131, 132, 133, 2, 134, 18, 38, 39, 40, 41, 42, 135, 136, 137, 138, 139, 140, 141, 142, 19, 17, 143, 144, 145, 146, 16, 147, 43, 44, 45, 46, 148, 149, 150, 151, 84, 85, 152, 153, 154, 155, 156, 157, 158, 159, 47, 48, 49, 50, 51, 52, 53, 54, 383, 384, 385, 386, 387, 388] (by decide +kernel) (by decide +kernel)) (goodIn_sub (fun _ h => List.mem_append_left _ (List.mem_append_left _ (List.mem_append_right _ h))) (by decide +kernel))) (goodIn_sub (fun _ h => List.mem_append_left _ (List.mem_append_right _ h)) (by decide +kernel))
set_option maxRecDepth 20000 in
theorem gL_law_L_add : GoodIn wsL_law (va_wsS RL 94 yL_add wsL_add) := goodIn_app (goodIn_of _ (by decide +kernel)) ggL_law_L_add
set_option maxRecDepth 20000 in
theorem ggL_law_X1_add : GoodIn wsL_law wsX1_add := goodIn_r _ [163, 164, 165, 166, 5, 167, 59, 61, 62, 63, 102, 103, 104, 105, 26, 90, 91, 92, 93, 28, 68, 69, 70, 71, 64, 65, 66, 67, 168, 169, 170, 171, 60, 172, 173, 174, 175, 176, 177, 178, 179, 94, 95, 96, 97, 98, 99, 100, 101, 389, 390, 391] (by decide +kernel) (by decide +kernel)
set_option maxRecDepth 20000 in
theorem gL_law_X1_add : GoodIn wsL_law (wsV RL 97 RX1 yX1_add wsX1_add) := goodIn_app (goodIn_of _ (by decide +kernel)) ggL_law_X1_add
set_option maxRecDepth 20000 in
theorem ggL_law_L_subtract : GoodIn wsL_law wsL_subtract := goodIn_ca (goodIn_ca (goodIn_r _ [182, 33, 79, 183, 184, 185, 2, 186, 18, 38, 39, 40, 41, 42, 135, 136, 137, 138, 139, 140, 141, 142, 19, 17, 143, 144, 145, 146, 16, 147, 43, 44, 45, 46, 148, 149, 150, 151, 84, 85, 152, 153, 154, 155, 156, 157, 158, 159, 47, 48, 49, 50, 51, 52, 53, 54, 383, 384, 385, 386, 387, 388] (by decide +kernel) (by decide +kernel)) (goodIn_sub (fun _ h => List.mem_append_left _ (List.mem_append_left _ (List.mem_append_right _ h))) (by decide +kernel))) (goodIn_sub (fun _ h => List.mem_append_left _ (List.mem_append_right _ h)) (by decide +kernel))
set_option maxRecDepth 20000 in
theorem gL_law_L_subtract : GoodIn wsL_law (va_wsS RL 98 yL_subtract wsL_subtract) := goodIn_app (goodIn_of _ (by decide +kernel)) ggL_law_L_subtract
set_option maxRecDepth 20000 in
theorem ggL_law_X1_subtract : GoodIn wsL_law wsX1_subtract := goodIn_r _ [190, 26, 164, 165, 166, 5, 167, 59, 61, 62, 63, 102, 103, 104, 105, 90, 91, 92, 93, 28, 68, 69, 70, 71, 64, 65, 66, 67, 168, 169, 170, 171, 60, 172, 173, 174, 175, 176, 177, 178, 179, 94, 95, 96, 97, 98, 99, 100, 101, 389, 390, 391] (by decide +kernel) (by decide +kernel)
set_option maxRecDepth 20000 in
theorem gL_law_X1_subtract : GoodIn wsL_law (wsV RL 100 RX1 yX1_subtract wsX1_subtract) := goodIn_app (goodIn_of _ (by decide +kernel)) ggL_law_X1_subtract
set_option maxRecDepth 20000 in
theorem ggL_law_L_multiply : GoodIn wsL_law wsL_multiply := goodIn_ca (goodIn_ca (goodIn_r _ [193, 33, 79, 194, 195, 196, 2, 197, 84, 85, 17, 18, 38, 39, 40, 41, 42, 198, 199, 200, 201, 19, 16, 147, 43, 44, 45, 46, 202, 203, 204, 205, 148, 149, 150, 151, 47, 48, 49, 50, 51, 52, 53, 54, 383, 384, 385, 386, 387, 388] (by decide +kernel) (by decide +kernel)) (goodIn_sub (fun _ h => List.mem_append_left _ (List.mem_append_right _ h)) (by decide +kernel))) (goodIn_sub (fun _ h => List.mem_append_left _ (List.mem_append_left _ (List.mem_append_right _ h))) (by decide +kernel))
set_option maxRecDepth 20000 in
theorem gL_law_L_multiply : GoodIn wsL_law (va_wsS RL 101 yL_multiply wsL_multiply) := goodIn_app (goodIn_of _ (by decide +kernel)) ggL_law_L_multiply
set_option maxRecDepth 20000 in
theorem ggL_law_X1_multiply : GoodIn wsL_law wsX1_multiply := goodIn_r _ [209, 210, 26, 164, 165, 166, 5, 167, 59, 61, 62, 63, 102, 103, 104, 105, 90, 91, 92, 93, 28, 68, 69, 70, 71, 64, 65, 66, 67, 98, 99, 100, 101, 94, 95, 96, 97, 389, 390, 391] (by decide +kernel) (by decide +kernel)
set_option maxRecDepth 20000 in
theorem gL_law_X1_multiply : GoodIn wsL_law (wsV RL 103 RX1 yX1_multiply wsX1_multiply) := goodIn_app (goodIn_of _ (by decide +kernel)) ggL_law_X1_multiply
set_option maxRecDepth 20000 in
theorem ggL_law_L_divide : GoodIn wsL_law wsL_divide := goodIn_ca (goodIn_ca (goodIn_r _ [213, 33, 214, 215, 216, 217, 2, 218, 219, 220, 18, 17, 20, 38, 39, 40, 41, 42, 221, 222, 223, 224, 16, 225, 226, 227, 228, 229, 230, 231, 21, 19, 232, 233, 234, 235, 147, 43, 44, 45, 46, 236, 237, 238, 239, 240, 241, 242, 243, 244, 245, 145, 246, 247, 248, 249, 250, 251, 252, 253, 254, 255, 256, 257, 258, 259, 260, 261, 47, 48, 49, 50, 51, 52, 53, 54, 262, 263, 264, 265, 383, 384, 385, 386, 387, 388] (by decide +kernel) (by decide +kernel)) (goodIn_sub (fun _ h => List.mem_append_right _ h) (by decide +kernel))) (goodIn_sub (fun _ h => List.mem_append_left _ (List.mem_append_left _ (List.mem_append_right _ h))) (by decide +kernel))
set_option maxRecDepth 20000 in
theorem gL_law_L_divide : GoodIn wsL_law (va_wsS RL 104 yL_divide wsL_divide) := goodIn_app (goodIn_of _ (by decide +kernel)) ggL_law_L_divide
set_option maxRecDepth 20000 in
theorem ggL_law_X1_divide : GoodIn wsL_law wsX1_divide := goodIn_r _ [269, 59, 26, 61, 62, 5, 63, 102, 103, 104, 105, 90, 91, 92, 93, 28, 68, 69, 70, 71, 64, 65, 66, 67, 98, 99, 100, 101, 270, 271, 272, 273, 274, 275, 276, 277, 278, 279, 280, 281, 60, 282, 283, 284, 285, 286, 287, 288, 289, 389, 390, 391] (by decide +kernel) (by decide +kernel)
set_option maxRecDepth 20000 in
theorem gL_law_X1_divide : GoodIn wsL_law (wsV RL 107 RX1 yX1_divide wsX1_divide) := goodIn_app (goodIn_of _ (by decide +kernel)) ggL_law_X1_divide
set_option maxRecDepth 20000 in
theorem ggL_law_L_root : GoodIn wsL_law wsL_root := goodIn_ca (goodIn_ca (goodIn_r _ [292, 33, 214, 293, 294, 295, 2, 296, 219, 220, 18, 19, 38, 39, 40, 41, 42, 43, 44, 45, 46, 297, 298, 299, 300, 20, 21, 221, 222, 223, 224, 17, 16, 225, 226, 227, 232, 233, 234, 235, 147, 301, 302, 303, 304, 253, 247, 248, 249, 305, 306, 307, 308, 309, 310, 311, 240, 241, 242, 243, 244, 245, 145, 246, 250, 251, 252, 254, 255, 256, 257, 258, 259, 260, 261, 262, 263, 264, 265, 47, 48, 49, 50, 51, 52, 53, 54, 383, 384, 385, 386, 387, 388] (by decide +kernel) (by decide +kernel)) (goodIn_sub (fun _ h => List.mem_append_right _ h) (by decide +kernel))) (goodIn_sub (fun _ h => List.mem_append_left _ (List.mem_append_left _ (List.mem_append_right _ h))) (by decide +kernel))
set_option maxRecDepth 20000 in
theorem gL_law_L_root : GoodIn wsL_law (va_wsS RL 108 yL_root wsL_root) := goodIn_app (goodIn_of _ (by decide +kernel)) ggL_law_L_root
set_option maxRecDepth 20000 in
theorem ggL_law_X1_root : GoodIn wsL_law wsX1_root := goodIn_r _ [315, 59, 26, 61, 62, 5, 63, 102, 103, 104, 105, 90, 91, 92, 93, 28, 68, 69, 70, 71, 64, 65, 66, 67, 98, 99, 100, 101, 270, 271, 272, 273, 274, 275, 276, 277, 278, 279, 280, 281, 60, 282, 283, 284, 285, 286, 287, 288, 289, 389, 390, 391] (by decide +kernel) (by decide +kernel)
set_option maxRecDepth 20000 in
theorem gL_law_X1_root : GoodIn wsL_law (wsV RL 110 RX1 yX1_root wsX1_root) := goodIn_app (goodIn_of _ (by decide +kernel)) ggL_law_X1_root
set_option maxRecDepth 20000 in
theorem ggL_law_L_compare : GoodIn wsL_law wsL_compare := goodIn_ca (goodIn_r _ [318, 33, 319, 320, 321, 2, 322, 18, 38, 39, 40, 41, 42, 152, 153, 154, 155, 17, 16, 147, 383, 384, 385, 386, 387, 388] (by decide +kernel) (by decide +kernel)) (goodIn_sub (fun _ h => List.mem_append_left _ (List.mem_append_left _ (List.mem_append_right _ h))) (by decide +kernel))
set_option maxRecDepth 20000 in
theorem gL_law_L_compare : GoodIn wsL_law (va_wsS RL 111 yL_compare wsL_compare) := goodIn_app (goodIn_of _ (by decide +kernel)) ggL_law_L_compare
set_option maxRecDepth 20000 in
theorem ggL_law_X1_compare : GoodIn wsL_law wsX1_compare := goodIn_r _ [326, 59, 26, 61, 62, 5, 63, 172, 173, 174, 175, 90, 91, 92, 93, 28, 389, 390, 391] (by decide +kernel) (by decide +kernel)
set_option maxRecDepth 20000 in
theorem gL_law_X1_compare : GoodIn wsL_law (wsV RL 114 RX1 yX1_compare wsX1_compare) := goodIn_app (goodIn_of _ (by decide +kernel)) ggL_law_X1_compare
set_option maxRecDepth 20000 in
theorem ggL_law_L_compareSizes : GoodIn wsL_law wsL_compareSizes := goodIn_ca (goodIn_r _ [329, 33, 330, 331, 332, 2, 333, 38, 39, 40, 41, 42, 152, 153, 154, 155, 17, 16, 147, 383, 384, 385, 386, 387, 388] (by decide +kernel) (by decide +kernel)) (goodIn_sub (fun _ h => List.mem_append_left _ (List.mem_append_left _ (List.mem_append_right _ h))) (by decide +kernel))
set_option maxRecDepth 20000 in
theorem gL_law_L_compareSizes : GoodIn wsL_law (va_wsS RL 115 yL_compareSizes wsL_compareSizes) := goodIn_app (goodIn_of _ (by decide +kernel)) ggL_law_L_compareSizes
set_option maxRecDepth 20000 in
theorem ggL_law_X1_compareSizes : GoodIn wsL_law wsX1_compareSizes := goodIn_r _ [337, 59, 61, 62, 5, 63, 172, 173, 174, 175, 90, 91, 92, 93, 28, 389, 390, 391] (by decide +kernel) (by decide +kernel)
set_option maxRecDepth 20000 in
theorem gL_law_X1_compareSizes : GoodIn wsL_law (wsV RL 117 RX1 yX1_compareSizes wsX1_compareSizes) := goodIn_app (goodIn_of _ (by decide +kernel)) ggL_law_X1_compareSizes
set_option maxRecDepth 20000 in
theorem ggL_law_L_sign : GoodIn wsL_law wsL_sign := goodIn_ca (goodIn_r _ [340, 33, 341, 342, 343, 2, 344, 18, 38, 39, 40, 41, 42, 383, 384, 385, 386, 387, 388] (by decide +kernel) (by decide +kernel)) (goodIn_sub (fun _ h => List.mem_append_left _ (List.mem_append_left _ (List.mem_append_right _ h))) (by decide +kernel))
set_option maxRecDepth 20000 in
theorem gL_law_L_sign : GoodIn wsL_law (va_wsS RL 118 yL_sign wsL_sign) := goodIn_app (goodIn_of _ (by decide +kernel)) ggL_law_L_sign
set_option maxRecDepth 20000 in
theorem ggL_law_X1_sign : GoodIn wsL_law wsX1_sign := goodIn_r _ [348, 59, 26, 61, 62, 5, 63, 389, 390, 391] (by decide +kernel) (by decide +kernel)
set_option maxRecDepth 20000 in
theorem gL_law_X1_sign : GoodIn wsL_law (wsV RL 121 RX1 yX1_sign wsX1_sign) := goodIn_app (goodIn_of _ (by decide +kernel)) ggL_law_X1_sign
set_option maxRecDepth 20000 in
theorem ggL_law_L_bits : GoodIn wsL_law wsL_bits := goodIn_ca (goodIn_r _ [351, 33, 352, 353, 354, 2, 355, 38, 39, 40, 41, 42, 221, 222, 223, 224, 17, 16, 225, 226, 227, 383, 384, 385, 386, 387, 388] (by decide +kernel) (by decide +kernel)) (goodIn_sub (fun _ h => List.mem_append_left _ (List.mem_append_left _ (List.mem_append_right _ h))) (by decide +kernel))
set_option maxRecDepth 20000 in
theorem gL_law_L_bits : GoodIn wsL_law (va_wsS RL 122 yL_bits wsL_bits) := goodIn_app (goodIn_of _ (by decide +kernel)) ggL_law_L_bits
set_option maxRecDepth 20000 in
theorem ggL_law_X1_bits : GoodIn wsL_law wsX1_bits := goodIn_r _ [359, 59, 61, 62, 5, 63, 270, 271, 272, 273, 98, 99, 100, 101, 90, 91, 92, 93, 28, 389, 390, 391] (by decide +kernel) (by decide +kernel)
set_option maxRecDepth 20000 in
theorem gL_law_X1_bits : GoodIn wsL_law (wsV RL 124 RX1 yX1_bits wsX1_bits) := goodIn_app (goodIn_of _ (by decide +kernel)) ggL_law_X1_bits
set_option maxRecDepth 20000 in
theorem ggL_law_L_word : GoodIn wsL_law wsL_word := goodIn_ca (goodIn_r _ [362, 33, 363, 364, 365, 2, 366, 41, 42, 16, 38, 39, 40, 383, 384, 385, 386, 387, 388] (by decide +kernel) (by decide +kernel)) (goodIn_sub (fun _ h => List.mem_append_left _ (List.mem_append_left _ (List.mem_append_right _ h))) (by decide +kernel))
set_option maxRecDepth 20000 in
theorem gL_law_L_word : GoodIn wsL_law (va_wsS RL 125 yL_word wsL_word) := goodIn_app (goodIn_of _ (by decide +kernel)) ggL_law_L_word
set_option maxRecDepth 20000 in
theorem ggL_law_X1_word : GoodIn wsL_law wsX1_word := goodIn_r _ [370, 59, 61, 62, 5, 63, 90, 91, 92, 93, 28, 389, 390, 391] (by decide +kernel) (by decide +kernel)
set_option maxRecDepth 20000 in
theorem gL_law_X1_word : GoodIn wsL_law (wsV RL 127 RX1 yX1_word wsX1_word) := goodIn_app (goodIn_of _ (by decide +kernel)) ggL_law_X1_word
set_option maxRecDepth 20000 in
theorem ggL_law_L_residue : GoodIn wsL_law wsL_residue := goodIn_ca (goodIn_ca (goodIn_r _ [373, 33, 214, 374, 375, 376, 2, 377, 219, 220, 17, 16, 18, 38, 39, 40, 41, 42, 247, 248, 249, 147, 383, 384, 385, 386, 387, 388] (by decide +kernel) (by decide +kernel)) (goodIn_sub (fun _ h => List.mem_append_right _ h) (by decide +kernel))) (goodIn_sub (fun _ h => List.mem_append_left _ (List.mem_append_left _ (List.mem_append_right _ h))) (by decide +kernel))
set_option maxRecDepth 20000 in
theorem gL_law_L_residue : GoodIn wsL_law (va_wsS RL 128 yL_residue wsL_residue) := goodIn_app (goodIn_of _ (by decide +kernel)) ggL_law_L_residue
set_option maxRecDepth 20000 in
theorem ggL_law_X1_residue : GoodIn wsL_law wsX1_residue := goodIn_r _ [381, 59, 382, 26, 61, 62, 5, 63, 98, 99, 100, 101, 90, 91, 92, 93, 28, 389, 390, 391] (by decide +kernel) (by decide +kernel)
set_option maxRecDepth 20000 in
theorem gL_law_X1_residue : GoodIn wsL_law (wsV RL 130 RX1 yX1_residue wsX1_residue) := goodIn_app (goodIn_of _ (by decide +kernel)) ggL_law_X1_residue
