set_option maxRecDepth 20000 in
theorem ggL_law_X1_init : GoodIn wsL_law wsX1_init := goodIn_r _ [10, 11, 12, 13, 14, 15, 16, 17, 6, 18, 19, 20, 21, 22, 23, 24, 25, 26, 27, 28, 404, 405, 406, 407, 408, 409, 410, 411, 412, 413, 428, 429] (by decide +kernel) (by decide +kernel)
set_option maxRecDepth 20000 in
theorem gL_law_X1_init : GoodIn wsL_law (wsX1_init) := ggL_law_X1_init
set_option maxRecDepth 20000 in
theorem ggL_law_X2_init : GoodIn wsL_law wsX2_init := goodIn_r _ [31, 32, 12, 13, 19, 33, 34, 35, 6, 36, 37, 38, 39, 40, 414, 415, 416, 417, 418, 419, 420, 421, 422, 423, 424, 425, 426, 427] (by decide +kernel) (by decide +kernel)
set_option maxRecDepth 20000 in
theorem gL_law_X2_init : GoodIn wsL_law (wsX2_init) := ggL_law_X2_init
set_option maxRecDepth 20000 in
theorem ggL_law_L_row : GoodIn wsL_law wsL_row := goodIn_ca (goodIn_ca (goodIn_ca (goodIn_r _ [44, 45, 46, 47, 48, 49, 50, 2, 51, 52, 53, 54, 55, 56, 15, 57, 58, 59, 60, 61, 62, 63, 64, 65, 66, 67, 68, 6, 69, 14, 16, 17, 23, 24, 25, 26, 12, 13, 27, 28, 404, 405, 406, 407, 408, 409, 410, 411, 412, 413, 428, 429] (by decide +kernel) (by decide +kernel)) (goodIn_sub (fun _ h => List.mem_append_left _ (List.mem_append_left _ (List.mem_append_left _ (List.mem_append_left _ (List.mem_append_right _ h))))) (by decide +kernel))) (goodIn_sub (fun _ h => List.mem_append_left _ (List.mem_append_left _ (List.mem_append_left _ (List.mem_append_right _ h)))) (by decide +kernel))) (goodIn_sub (fun _ h => List.mem_append_left _ (List.mem_append_left _ (List.mem_append_right _ h))) (by decide +kernel))
set_option maxRecDepth 20000 in
theorem gL_law_L_row : GoodIn wsL_law (va_wsS RL 81 yL_row wsL_row) := goodIn_app (goodIn_of _ (by decide +kernel)) ggL_law_L_row
set_option maxRecDepth 20000 in
theorem ggL_law_X2_row : GoodIn wsL_law wsX2_row := goodIn_r _ [73, 74, 75, 33, 34, 35, 36, 76, 77, 78, 5, 79, 80, 81, 82, 83, 84, 85, 86, 414, 415, 416, 417, 418, 419, 420, 421, 422, 423, 424, 425, 426, 427] (by decide +kernel) (by decide +kernel)
set_option maxRecDepth 20000 in
theorem gL_law_X2_row : GoodIn wsL_law (wsV RL 86 RX2 yX2_row wsX2_row) := goodIn_app (goodIn_of _ (by decide +kernel)) ggL_law_X2_row
set_option maxRecDepth 20000 in
theorem ggL_law_X2_thrown : GoodIn wsL_law wsX2_thrown := goodIn_r _ [90, 74, 414, 415, 416, 417, 418, 419, 420, 421, 422, 423, 424, 425, 426, 427] (by decide +kernel) (by decide +kernel)
set_option maxRecDepth 20000 in
theorem gL_law_X2_thrown : GoodIn wsL_law (wsV RL 87 RX2 yX2_thrown wsX2_thrown) := goodIn_app (goodIn_of _ (by decide +kernel)) ggL_law_X2_thrown
set_option maxRecDepth 20000 in
theorem ggL_law_L_lid : GoodIn wsL_law wsL_lid := goodIn_ca (goodIn_r _ [93, 45, 94, 95, 96, 2, 97, 15, 18, 57, 58, 59, 60, 61, 62, 63, 64, 65, 404, 405, 406, 407, 408, 409, 410, 411, 412, 413] (by decide +kernel) (by decide +kernel)) (goodIn_sub (fun _ h => List.mem_append_left _ (List.mem_append_left _ (List.mem_append_right _ h))) (by decide +kernel))
set_option maxRecDepth 20000 in
theorem gL_law_L_lid : GoodIn wsL_law (va_wsS RL 91 yL_lid wsL_lid) := goodIn_app (goodIn_of _ (by decide +kernel)) ggL_law_L_lid
set_option maxRecDepth 20000 in
theorem ggL_law_X2_lid : GoodIn wsL_law wsX2_lid := goodIn_r _ [101, 74, 33, 77, 78, 5, 79, 80, 81, 82, 83, 414, 415, 416, 417, 418, 419, 420, 421, 422, 423, 424, 425, 426, 427] (by decide +kernel) (by decide +kernel)
set_option maxRecDepth 20000 in
theorem gL_law_X2_lid : GoodIn wsL_law (wsV RL 94 RX2 yX2_lid wsX2_lid) := goodIn_app (goodIn_of _ (by decide +kernel)) ggL_law_X2_lid
set_option maxRecDepth 20000 in
theorem ggL_law_L_clear : GoodIn wsL_law wsL_clear := goodIn_ca (goodIn_r _ [104, 45, 105, 106, 107, 2, 108, 15, 57, 58, 59, 60, 61, 62, 63, 64, 65, 404, 405, 406, 407, 408, 409, 410, 411, 412, 413] (by decide +kernel) (by decide +kernel)) (goodIn_sub (fun _ h => List.mem_append_left _ (List.mem_append_left _ (List.mem_append_right _ h))) (by decide +kernel))
set_option maxRecDepth 20000 in
theorem gL_law_L_clear : GoodIn wsL_law (va_wsS RL 95 yL_clear wsL_clear) := goodIn_app (goodIn_of _ (by decide +kernel)) ggL_law_L_clear
set_option maxRecDepth 20000 in
theorem ggL_law_X2_clear : GoodIn wsL_law wsX2_clear := goodIn_r _ [112, 74, 33, 77, 78, 5, 79, 80, 81, 82, 83, 414, 415, 416, 417, 418, 419, 420, 421, 422, 423, 424, 425, 426, 427] (by decide +kernel) (by decide +kernel)
set_option maxRecDepth 20000 in
theorem gL_law_X2_clear : GoodIn wsL_law (wsV RL 97 RX2 yX2_clear wsX2_clear) := goodIn_app (goodIn_of _ (by decide +kernel)) ggL_law_X2_clear
set_option maxRecDepth 20000 in
theorem ggL_law_L_share : GoodIn wsL_law wsL_share := goodIn_ca (goodIn_r _ [115, 45, 116, 117, 118, 2, 119, 15, 61, 62, 63, 64, 65, 57, 58, 59, 60, 120, 121, 122, 123, 404, 405, 406, 407, 408, 409, 410, 411, 412, 413, 428, 429] (by decide +kernel) (by decide +kernel)) (goodIn_sub (fun _ h => List.mem_append_left _ (List.mem_append_left _ (List.mem_append_right _ h))) (by decide +kernel))
set_option maxRecDepth 20000 in
theorem gL_law_L_share : GoodIn wsL_law (va_wsS RL 98 yL_share wsL_share) := goodIn_app (goodIn_of _ (by decide +kernel)) ggL_law_L_share
set_option maxRecDepth 20000 in
theorem ggL_law_X2_share : GoodIn wsL_law wsX2_share := goodIn_r _ [127, 74, 33, 77, 78, 5, 79, 80, 81, 82, 83, 128, 129, 130, 131, 34, 414, 415, 416, 417, 418, 419, 420, 421, 422, 423, 424, 425, 426, 427] (by decide +kernel) (by decide +kernel)
set_option maxRecDepth 20000 in
theorem gL_law_X2_share : GoodIn wsL_law (wsV RL 101 RX2 yX2_share wsX2_share) := goodIn_app (goodIn_of _ (by decide +kernel)) ggL_law_X2_share
set_option maxRecDepth 20000 in
theorem ggL_law_L_put : GoodIn wsL_law wsL_put := goodIn_ca (goodIn_ca (goodIn_ca (goodIn_r _ [134, 45, 135, 136, 137, 138, 139, 2, 140, 141, 142, 143, 123, 57, 58, 59, 60, 15, 61, 62, 63, 64, 65, 144, 145, 146, 147, 148, 149, 150, 151, 152, 153, 154, 155, 156, 157, 428, 429, 404, 405, 406, 407, 408, 409, 410, 411, 412, 413] (by decide +kernel) (by decide +kernel)) (goodIn_sub (fun _ h => List.mem_append_left _ (List.mem_append_right _ h)) (by decide +kernel))) (goodIn_sub (fun _ h => List.mem_append_left _ (List.mem_append_left _ (List.mem_append_right _ h))) (by decide +kernel))) (goodIn_sub (fun _ h => List.mem_append_right _ h) (by decide +kernel))
set_option maxRecDepth 20000 in
theorem gL_law_L_put : GoodIn wsL_law (va_wsS RL 104 yL_put wsL_put) := goodIn_app (goodIn_of _ (by decide +kernel)) ggL_law_L_put
set_option maxRecDepth 20000 in
theorem ggL_law_X2_put : GoodIn wsL_law wsX2_put := goodIn_r _ [161, 74, 33, 36, 77, 78, 5, 79, 80, 81, 82, 83, 162, 163, 164, 165, 166, 167, 168, 169, 128, 129, 130, 131, 34, 84, 85, 86, 170, 171, 172, 173, 35, 174, 175, 176, 414, 415, 416, 417, 418, 419, 420, 421, 422, 423, 424, 425, 426, 427] (by decide +kernel) (by decide +kernel)
set_option maxRecDepth 20000 in
theorem gL_law_X2_put : GoodIn wsL_law (wsV RL 107 RX2 yX2_put wsX2_put) := goodIn_app (goodIn_of _ (by decide +kernel)) ggL_law_X2_put
set_option maxRecDepth 20000 in
theorem ggL_law_L_lay : GoodIn wsL_law wsL_lay := goodIn_ca (goodIn_ca (goodIn_ca (goodIn_ca (goodIn_ca (goodIn_r _ [179, 45, 46, 135, 136, 47, 180, 181, 182, 2, 183, 52, 53, 54, 55, 184, 123, 20, 143, 57, 58, 59, 60, 15, 61, 62, 63, 64, 65, 185, 186, 187, 141, 142, 188, 189, 190, 147, 148, 149, 150, 151, 152, 153, 154, 191, 192, 193, 404, 405, 406, 407, 408, 409, 410, 411, 412, 413, 428, 429] (by decide +kernel) (by decide +kernel)) (goodIn_sub (fun _ h => List.mem_append_left _ (List.mem_append_left _ (List.mem_append_left _ (List.mem_append_left _ (List.mem_append_right _ h))))) (by decide +kernel))) (goodIn_sub (fun _ h => List.mem_append_left _ (List.mem_append_left _ (List.mem_append_left _ (List.mem_append_right _ h)))) (by decide +kernel))) (goodIn_sub (fun _ h => List.mem_append_left _ (List.mem_append_left _ (List.mem_append_right _ h))) (by decide +kernel))) (goodIn_sub (fun _ h => List.mem_append_left _ (List.mem_append_right _ h)) (by decide +kernel))) (goodIn_sub (fun _ h => List.mem_append_right _ h) (by decide +kernel))
set_option maxRecDepth 20000 in
theorem gL_law_L_lay : GoodIn wsL_law (va_wsS RL 108 yL_lay wsL_lay) := goodIn_app (goodIn_of _ (by decide +kernel)) ggL_law_L_lay
set_option maxRecDepth 20000 in
theorem ggL_law_X2_lay : GoodIn wsL_law wsX2_lay := goodIn_r _ [197, 74, 198, 38, 39, 36, 33, 77, 78, 5, 79, 80, 81, 82, 83, 162, 163, 164, 165, 166, 167, 168, 169, 128, 129, 130, 131, 34, 84, 85, 86, 170, 171, 172, 173, 35, 199, 200, 201, 414, 415, 416, 417, 418, 419, 420, 421, 422, 423, 424, 425, 426, 427] (by decide +kernel) (by decide +kernel)
set_option maxRecDepth 20000 in
theorem gL_law_X2_lay : GoodIn wsL_law (wsV RL 110 RX2 yX2_lay wsX2_lay) := goodIn_app (goodIn_of _ (by decide +kernel)) ggL_law_X2_lay
set_option maxRecDepth 20000 in
theorem ggL_law_L_lift : GoodIn wsL_law wsL_lift := goodIn_ca (goodIn_ca (goodIn_ca (goodIn_r _ [204, 45, 135, 136, 205, 206, 207, 2, 208, 143, 69, 57, 58, 59, 60, 15, 61, 62, 63, 64, 65, 185, 186, 187, 141, 142, 188, 189, 190, 123, 147, 148, 149, 150, 151, 152, 153, 154, 428, 429, 404, 405, 406, 407, 408, 409, 410, 411, 412, 413] (by decide +kernel) (by decide +kernel)) (goodIn_sub (fun _ h => List.mem_append_left _ (List.mem_append_left _ (List.mem_append_right _ h))) (by decide +kernel))) (goodIn_sub (fun _ h => List.mem_append_left _ (List.mem_append_right _ h)) (by decide +kernel))) (goodIn_sub (fun _ h => List.mem_append_right _ h) (by decide +kernel))
set_option maxRecDepth 20000 in
theorem gL_law_L_lift : GoodIn wsL_law (va_wsS RL 111 yL_lift wsL_lift) := goodIn_app (goodIn_of _ (by decide +kernel)) ggL_law_L_lift
set_option maxRecDepth 20000 in
theorem ggL_law_X2_lift : GoodIn wsL_law wsX2_lift := goodIn_r _ [212, 74, 33, 36, 76, 77, 78, 5, 79, 80, 81, 82, 83, 162, 163, 164, 165, 166, 167, 168, 169, 128, 129, 130, 131, 34, 84, 85, 86, 170, 171, 172, 173, 35, 414, 415, 416, 417, 418, 419, 420, 421, 422, 423, 424, 425, 426, 427] (by decide +kernel) (by decide +kernel)
set_option maxRecDepth 20000 in
theorem gL_law_X2_lift : GoodIn wsL_law (wsV RL 113 RX2 yX2_lift wsX2_lift) := goodIn_app (goodIn_of _ (by decide +kernel)) ggL_law_X2_lift
set_option maxRecDepth 20000 in
theorem ggL_law_L_move : GoodIn wsL_law wsL_move := goodIn_ca (goodIn_r _ [215, 45, 216, 217, 218, 2, 219, 57, 58, 59, 60, 15, 61, 62, 63, 64, 65, 220, 221, 222, 223, 143, 224, 225, 226, 227, 228, 229, 230, 231, 232, 22, 233, 234, 147, 148, 149, 123, 235, 236, 237, 188, 189, 190, 238, 239, 240, 241, 242, 243, 244, 20, 144, 145, 146, 245, 246, 247, 248, 184, 191, 192, 193, 404, 405, 406, 407, 408, 409, 410, 411, 412, 413, 428, 429] (by decide +kernel) (by decide +kernel)) (goodIn_sub (fun _ h => List.mem_append_left _ (List.mem_append_left _ (List.mem_append_right _ h))) (by decide +kernel))
set_option maxRecDepth 20000 in
theorem gL_law_L_move : GoodIn wsL_law (va_wsS RL 114 yL_move wsL_move) := goodIn_app (goodIn_of _ (by decide +kernel)) ggL_law_L_move
set_option maxRecDepth 20000 in
theorem ggL_law_X2_move : GoodIn wsL_law wsX2_move := goodIn_r _ [252, 74, 77, 78, 5, 79, 80, 81, 82, 83, 253, 254, 255, 256, 257, 33, 37, 36, 38, 258, 259, 260, 261, 35, 166, 167, 168, 169, 128, 129, 130, 131, 34, 84, 85, 86, 262, 263, 264, 199, 200, 201, 265, 266, 267, 268, 269, 40, 270, 414, 415, 416, 417, 418, 419, 420, 421, 422, 423, 424, 425, 426, 427] (by decide +kernel) (by decide +kernel)
set_option maxRecDepth 20000 in
theorem gL_law_X2_move : GoodIn wsL_law (wsV RL 117 RX2 yX2_move wsX2_move) := goodIn_app (goodIn_of _ (by decide +kernel)) ggL_law_X2_move
set_option maxRecDepth 20000 in
theorem ggL_law_L_pour : GoodIn wsL_law wsL_pour := goodIn_ca (goodIn_r _ [273, 45, 274, 275, 276, 2, 277, 278, 279, 280, 281, 57, 58, 59, 60, 15, 61, 62, 63, 64, 65, 282, 283, 284, 143, 220, 221, 222, 223, 224, 225, 226, 227, 228, 229, 230, 231, 232, 22, 233, 234, 147, 148, 149, 123, 235, 236, 237, 188, 189, 190, 238, 239, 240, 241, 242, 243, 244, 20, 144, 145, 146, 245, 246, 247, 248, 184, 191, 192, 193, 404, 405, 406, 407, 408, 409, 410, 411, 412, 413, 428, 429] (by decide +kernel) (by decide +kernel)) (goodIn_sub (fun _ h => List.mem_append_left _ (List.mem_append_left _ (List.mem_append_right _ h))) (by decide +kernel))
set_option maxRecDepth 20000 in
theorem gL_law_L_pour : GoodIn wsL_law (va_wsS RL 118 yL_pour wsL_pour) := goodIn_app (goodIn_of _ (by decide +kernel)) ggL_law_L_pour
set_option maxRecDepth 20000 in
theorem ggL_law_X2_pour : GoodIn wsL_law wsX2_pour := goodIn_r _ [288, 74, 35, 33, 77, 78, 5, 79, 80, 81, 82, 83, 166, 167, 168, 169, 253, 254, 255, 256, 257, 37, 36, 38, 258, 259, 260, 261, 128, 129, 130, 131, 34, 84, 85, 86, 262, 263, 264, 199, 200, 201, 265, 266, 267, 268, 269, 40, 270, 414, 415, 416, 417, 418, 419, 420, 421, 422, 423, 424, 425, 426, 427] (by decide +kernel) (by decide +kernel)
set_option maxRecDepth 20000 in
theorem gL_law_X2_pour : GoodIn wsL_law (wsV RL 120 RX2 yX2_pour wsX2_pour) := goodIn_app (goodIn_of _ (by decide +kernel)) ggL_law_X2_pour
set_option maxRecDepth 20000 in
theorem ggL_law_X1_moved : GoodIn wsL_law wsX1_moved := goodIn_r _ [292, 233, 404, 405, 406, 407, 408, 409, 410, 411, 412, 413] (by decide +kernel) (by decide +kernel)
set_option maxRecDepth 20000 in
theorem gL_law_X1_moved : GoodIn wsL_law (wsV RL 121 RX1 yX1_moved wsX1_moved) := goodIn_app (goodIn_of _ (by decide +kernel)) ggL_law_X1_moved
set_option maxRecDepth 20000 in
theorem ggL_law_X2_moved : GoodIn wsL_law wsX2_moved := goodIn_r _ [296, 74, 257, 414, 415, 416, 417, 418, 419, 420, 421, 422, 423, 424, 425, 426, 427] (by decide +kernel) (by decide +kernel)
set_option maxRecDepth 20000 in
theorem gL_law_X2_moved : GoodIn wsL_law (wsV RL 124 RX2 yX2_moved wsX2_moved) := goodIn_app (goodIn_of _ (by decide +kernel)) ggL_law_X2_moved
set_option maxRecDepth 20000 in
theorem ggL_law_L_at : GoodIn wsL_law wsL_at := goodIn_ca (goodIn_ca (goodIn_ca (goodIn_r _ [299, 45, 135, 136, 300, 301, 302, 2, 303, 143, 57, 58, 59, 60, 15, 61, 62, 63, 64, 65, 304, 305, 306, 141, 142, 147, 148, 149, 123, 150, 151, 152, 153, 154, 428, 429, 404, 405, 406, 407, 408, 409, 410, 411, 412, 413] (by decide +kernel) (by decide +kernel)) (goodIn_sub (fun _ h => List.mem_append_left _ (List.mem_append_left _ (List.mem_append_right _ h))) (by decide +kernel))) (goodIn_sub (fun _ h => List.mem_append_left _ (List.mem_append_right _ h)) (by decide +kernel))) (goodIn_sub (fun _ h => List.mem_append_right _ h) (by decide +kernel))
set_option maxRecDepth 20000 in
theorem gL_law_L_at : GoodIn wsL_law (va_wsS RL 125 yL_at wsL_at) := goodIn_app (goodIn_of _ (by decide +kernel)) ggL_law_L_at
set_option maxRecDepth 20000 in
theorem ggL_law_X2_at : GoodIn wsL_law wsX2_at := goodIn_r _ [310, 74, 36, 33, 77, 78, 5, 79, 80, 81, 82, 83, 166, 167, 168, 169, 170, 171, 172, 173, 35, 414, 415, 416, 417, 418, 419, 420, 421, 422, 423, 424, 425, 426, 427] (by decide +kernel) (by decide +kernel)
set_option maxRecDepth 20000 in
theorem gL_law_X2_at : GoodIn wsL_law (wsV RL 127 RX2 yX2_at wsX2_at) := goodIn_app (goodIn_of _ (by decide +kernel)) ggL_law_X2_at
set_option maxRecDepth 20000 in
theorem ggL_law_L_holds : GoodIn wsL_law wsL_holds := goodIn_ca (goodIn_r _ [313, 45, 314, 315, 316, 2, 317, 57, 58, 59, 60, 15, 61, 62, 63, 64, 65, 120, 121, 122, 123, 404, 405, 406, 407, 408, 409, 410, 411, 412, 413, 428, 429] (by decide +kernel) (by decide +kernel)) (goodIn_sub (fun _ h => List.mem_append_left _ (List.mem_append_left _ (List.mem_append_right _ h))) (by decide +kernel))
set_option maxRecDepth 20000 in
theorem gL_law_L_holds : GoodIn wsL_law (va_wsS RL 128 yL_holds wsL_holds) := goodIn_app (goodIn_of _ (by decide +kernel)) ggL_law_L_holds
set_option maxRecDepth 20000 in
theorem ggL_law_X2_holds : GoodIn wsL_law wsX2_holds := goodIn_r _ [321, 74, 77, 78, 5, 79, 128, 129, 130, 131, 33, 34, 80, 81, 82, 83, 414, 415, 416, 417, 418, 419, 420, 421, 422, 423, 424, 425, 426, 427] (by decide +kernel) (by decide +kernel)
set_option maxRecDepth 20000 in
theorem gL_law_X2_holds : GoodIn wsL_law (wsV RL 130 RX2 yX2_holds wsX2_holds) := goodIn_app (goodIn_of _ (by decide +kernel)) ggL_law_X2_holds
set_option maxRecDepth 20000 in
theorem ggL_law_L_places : GoodIn wsL_law wsL_places := goodIn_ca (goodIn_ca (goodIn_r _ [324, 45, 135, 325, 326, 327, 2, 328, 143, 57, 58, 59, 60, 15, 61, 62, 63, 64, 65, 304, 305, 306, 141, 142, 147, 148, 149, 123, 428, 429, 404, 405, 406, 407, 408, 409, 410, 411, 412, 413] (by decide +kernel) (by decide +kernel)) (goodIn_sub (fun _ h => List.mem_append_left _ (List.mem_append_left _ (List.mem_append_right _ h))) (by decide +kernel))) (goodIn_sub (fun _ h => List.mem_append_left _ (List.mem_append_right _ h)) (by decide +kernel))
set_option maxRecDepth 20000 in
theorem gL_law_L_places : GoodIn wsL_law (va_wsS RL 131 yL_places wsL_places) := goodIn_app (goodIn_of _ (by decide +kernel)) ggL_law_L_places
set_option maxRecDepth 20000 in
theorem ggL_law_X2_places : GoodIn wsL_law wsX2_places := goodIn_r _ [332, 74, 35, 33, 77, 78, 5, 79, 80, 81, 82, 83, 166, 167, 168, 169, 414, 415, 416, 417, 418, 419, 420, 421, 422, 423, 424, 425, 426, 427] (by decide +kernel) (by decide +kernel)
set_option maxRecDepth 20000 in
theorem gL_law_X2_places : GoodIn wsL_law (wsV RL 133 RX2 yX2_places wsX2_places) := goodIn_app (goodIn_of _ (by decide +kernel)) ggL_law_X2_places
set_option maxRecDepth 20000 in
theorem ggL_law_L_same : GoodIn wsL_law wsL_same := goodIn_ca (goodIn_r _ [335, 45, 336, 337, 338, 2, 339, 57, 58, 59, 60, 15, 61, 62, 63, 64, 65, 147, 148, 149, 123, 404, 405, 406, 407, 408, 409, 410, 411, 412, 413, 428, 429] (by decide +kernel) (by decide +kernel)) (goodIn_sub (fun _ h => List.mem_append_left _ (List.mem_append_left _ (List.mem_append_right _ h))) (by decide +kernel))
set_option maxRecDepth 20000 in
theorem gL_law_L_same : GoodIn wsL_law (va_wsS RL 134 yL_same wsL_same) := goodIn_app (goodIn_of _ (by decide +kernel)) ggL_law_L_same
set_option maxRecDepth 20000 in
theorem ggL_law_X2_same : GoodIn wsL_law wsX2_same := goodIn_r _ [343, 74, 33, 77, 78, 5, 79, 80, 81, 82, 83, 166, 167, 168, 169, 414, 415, 416, 417, 418, 419, 420, 421, 422, 423, 424, 425, 426, 427] (by decide +kernel) (by decide +kernel)
set_option maxRecDepth 20000 in
theorem gL_law_X2_same : GoodIn wsL_law (wsV RL 136 RX2 yX2_same wsX2_same) := goodIn_app (goodIn_of _ (by decide +kernel)) ggL_law_X2_same
set_option maxRecDepth 20000 in
theorem ggL_law_L_all : GoodIn wsL_law wsL_all := goodIn_ca (goodIn_ca (goodIn_r _ [346, 45, 135, 347, 348, 349, 2, 350, 143, 57, 58, 59, 60, 15, 61, 62, 63, 64, 65, 304, 305, 306, 141, 142, 147, 148, 149, 123, 188, 189, 190, 351, 352, 353, 354, 21, 245, 246, 247, 248, 184, 355, 356, 357, 428, 429, 404, 405, 406, 407, 408, 409, 410, 411, 412, 413] (by decide +kernel) (by decide +kernel)) (goodIn_sub (fun _ h => List.mem_append_left _ (List.mem_append_left _ (List.mem_append_right _ h))) (by decide +kernel))) (goodIn_sub (fun _ h => List.mem_append_left _ (List.mem_append_right _ h)) (by decide +kernel))
set_option maxRecDepth 20000 in
theorem gL_law_L_all : GoodIn wsL_law (va_wsS RL 137 yL_all wsL_all) := goodIn_app (goodIn_of _ (by decide +kernel)) ggL_law_L_all
set_option maxRecDepth 20000 in
theorem ggL_law_X2_all : GoodIn wsL_law wsX2_all := goodIn_r _ [361, 74, 33, 34, 35, 36, 39, 77, 78, 5, 79, 80, 81, 82, 83, 166, 167, 168, 169, 84, 85, 86, 414, 415, 416, 417, 418, 419, 420, 421, 422, 423, 424, 425, 426, 427] (by decide +kernel) (by decide +kernel)
set_option maxRecDepth 20000 in
theorem gL_law_X2_all : GoodIn wsL_law (wsV RL 139 RX2 yX2_all wsX2_all) := goodIn_app (goodIn_of _ (by decide +kernel)) ggL_law_X2_all
set_option maxRecDepth 20000 in
theorem ggL_law_L_feed : GoodIn wsL_law wsL_feed := goodIn_ca (goodIn_r _ [364, 136, 365, 366, 367, 2, 368, 21, 369, 370, 371, 372, 153, 154, 245, 246, 247, 248, 184, 404, 405, 406, 407, 408, 409, 410, 411, 412, 413] (by decide +kernel) (by decide +kernel)) (goodIn_sub (fun _ h => List.mem_append_right _ h) (by decide +kernel))
set_option maxRecDepth 20000 in
theorem gL_law_L_feed : GoodIn wsL_law (va_wsS RL 140 yL_feed wsL_feed) := goodIn_app (goodIn_of _ (by decide +kernel)) ggL_law_L_feed
set_option maxRecDepth 20000 in
theorem ggL_law_X2_feed : GoodIn wsL_law wsX2_feed := goodIn_r _ [376, 74, 39, 377, 378, 379, 5, 380, 198, 80, 81, 82, 83, 414, 415, 416, 417, 418, 419, 420, 421, 422, 423, 424, 425, 426, 427] (by decide +kernel) (by decide +kernel)
set_option maxRecDepth 20000 in
theorem gL_law_X2_feed : GoodIn wsL_law (wsV RL 142 RX2 yX2_feed wsX2_feed) := goodIn_app (goodIn_of _ (by decide +kernel)) ggL_law_X2_feed
set_option maxRecDepth 20000 in
theorem ggL_law_L_kind : GoodIn wsL_law wsL_kind := goodIn_ca (goodIn_r _ [383, 136, 384, 385, 386, 2, 387, 20, 369, 370, 371, 372, 153, 154, 245, 246, 247, 248, 184, 404, 405, 406, 407, 408, 409, 410, 411, 412, 413] (by decide +kernel) (by decide +kernel)) (goodIn_sub (fun _ h => List.mem_append_right _ h) (by decide +kernel))
set_option maxRecDepth 20000 in
theorem gL_law_L_kind : GoodIn wsL_law (va_wsS RL 143 yL_kind wsL_kind) := goodIn_app (goodIn_of _ (by decide +kernel)) ggL_law_L_kind
set_option maxRecDepth 20000 in
theorem ggL_law_X2_kind : GoodIn wsL_law wsX2_kind := goodIn_r _ [391, 74, 38, 377, 378, 379, 5, 380, 198, 80, 81, 82, 83, 414, 415, 416, 417, 418, 419, 420, 421, 422, 423, 424, 425, 426, 427] (by decide +kernel) (by decide +kernel)
set_option maxRecDepth 20000 in
theorem gL_law_X2_kind : GoodIn wsL_law (wsV RL 145 RX2 yX2_kind wsX2_kind) := goodIn_app (goodIn_of _ (by decide +kernel)) ggL_law_X2_kind
set_option maxRecDepth 20000 in
theorem ggL_law_X1_count : GoodIn wsL_law wsX1_count := goodIn_r _ [395, 56, 184, 232, 234, 396, 397, 398, 2, 399, 22, 404, 405, 406, 407, 408, 409, 410, 411, 412, 413] (by decide +kernel) (by decide +kernel)
set_option maxRecDepth 20000 in
theorem gL_law_X1_count : GoodIn wsL_law (wsV RL 146 RX1 yX1_count wsX1_count) := goodIn_app (goodIn_of _ (by decide +kernel)) ggL_law_X1_count
set_option maxRecDepth 20000 in
theorem ggL_law_X2_count : GoodIn wsL_law wsX2_count := goodIn_r _ [403, 74, 75, 198, 269, 40, 270, 414, 415, 416, 417, 418, 419, 420, 421, 422, 423, 424, 425, 426, 427] (by decide +kernel) (by decide +kernel)
set_option maxRecDepth 20000 in
theorem gL_law_X2_count : GoodIn wsL_law (wsV RL 149 RX2 yX2_count wsX2_count) := goodIn_app (goodIn_of _ (by decide +kernel)) ggL_law_X2_count
