set_option maxRecDepth 20000 in
theorem ggnL_law_L_cell : GoodIn wnL_law wsL_cell := goodIn_r _ [10] (by decide +kernel) (by decide +kernel)
set_option maxRecDepth 20000 in
theorem gnL_law_L_cell : GoodIn wnL_law (va_wsS RL 60 yL_cell wsL_cell) := goodIn_app (goodIn_of _ (by decide +kernel)) ggnL_law_L_cell
set_option maxRecDepth 20000 in
theorem ggnL_law_X2_init : GoodIn wnL_law wsX2_init := goodIn_r _ [13, 14, 15, 16, 17, 18, 19, 20, 21, 22, 23, 24, 25, 26, 27, 28, 29, 30, 31, 32, 33, 34, 35, 36, 37, 38, 39, 40, 41, 42, 43, 44, 45, 46, 47, 48, 49, 50, 51, 52, 53, 440, 441, 442, 443, 444, 445, 446, 447, 448, 462, 463, 464, 465, 466, 467, 468, 469, 470] (by decide +kernel) (by decide +kernel)
set_option maxRecDepth 20000 in
theorem gnL_law_X2_init : GoodIn wnL_law (wsX2_init) := ggnL_law_X2_init
set_option maxRecDepth 20000 in
theorem ggnL_law_X3_init : GoodIn wnL_law wsX3_init := goodIn_r _ [56, 57, 15, 16, 42, 58, 59, 60, 61, 62, 63, 64, 449, 450, 451, 452, 453, 454, 455, 456, 457, 458, 459, 460, 461] (by decide +kernel) (by decide +kernel)
set_option maxRecDepth 20000 in
theorem gnL_law_X3_init : GoodIn wnL_law (wsX3_init) := ggnL_law_X3_init
set_option maxRecDepth 20000 in
theorem ggnL_law_L_add : GoodIn wnL_law wsL_add := goodIn_ca (goodIn_ca (goodIn_ca (goodIn_r _ [67, 68, 69, 70, 71, 72, 73, 2, 74, 75, 76, 77, 78, 79, 30, 80, 81, 82, 83, 84, 85, 36, 86, 87, 88, 27, 89, 43, 440, 441, 442, 443, 444, 445, 446, 447, 448, 462] (by decide +kernel) (by decide +kernel)) (goodIn_sub (fun _ h => List.mem_append_left _ (List.mem_append_left _ (List.mem_append_left _ (List.mem_append_right _ h)))) (by decide +kernel))) (goodIn_sub (fun _ h => List.mem_append_left _ (List.mem_append_left _ (List.mem_append_right _ h))) (by decide +kernel))) (goodIn_sub (fun _ h => List.mem_append_left _ (List.mem_append_right _ h)) (by decide +kernel))
set_option maxRecDepth 20000 in
theorem gnL_law_L_add : GoodIn wnL_law (va_wsS RL 72 yL_add wsL_add) := goodIn_app (goodIn_of _ (by decide +kernel)) ggnL_law_L_add
set_option maxRecDepth 20000 in
theorem ggnL_law_X3_add : GoodIn wnL_law wsX3_add := goodIn_r _ [93, 60, 94, 95, 63, 96, 97, 5, 98, 449, 450, 451, 452, 453, 454, 455, 456, 457, 458, 459, 460, 461] (by decide +kernel) (by decide +kernel)
set_option maxRecDepth 20000 in
theorem gnL_law_X3_add : GoodIn wnL_law (wsV RL 75 RX3 yX3_add wsX3_add) := goodIn_app (goodIn_of _ (by decide +kernel)) ggnL_law_X3_add
set_option maxRecDepth 20000 in
theorem ggnL_law_X3_thrown : GoodIn wnL_law wsX3_thrown := goodIn_r _ [102, 95, 449, 450, 451, 452, 453, 454, 455, 456, 457, 458, 459, 460, 461] (by decide +kernel) (by decide +kernel)
set_option maxRecDepth 20000 in
theorem gnL_law_X3_thrown : GoodIn wnL_law (wsV RL 76 RX3 yX3_thrown wsX3_thrown) := goodIn_app (goodIn_of _ (by decide +kernel)) ggnL_law_X3_thrown
set_option maxRecDepth 20000 in
theorem ggnL_law_L_end : GoodIn wnL_law wsL_end := goodIn_ca (goodIn_ca (goodIn_ca (goodIn_r _ [105, 68, 69, 70, 106, 107, 108, 2, 109, 75, 76, 79, 34, 30, 110, 111, 112, 113, 114, 115, 116, 80, 81, 82, 83, 84, 85, 36, 117, 118, 119, 120, 77, 78, 28, 121, 122, 123, 27, 124, 43, 125, 126, 127, 33, 128, 49, 129, 130, 131, 87, 88, 89, 132, 133, 134, 135, 136, 137, 138, 139, 140, 141, 142, 143, 144, 145, 146, 147, 148, 50, 51, 149, 150, 151, 152, 153, 154, 155, 156, 440, 441, 442, 443, 444, 445, 446, 447, 448, 463, 464, 465, 466, 467, 468, 469, 470, 462] (by decide +kernel) (by decide +kernel)) (goodIn_sub (fun _ h => List.mem_append_left _ (List.mem_append_left _ (List.mem_append_left _ (List.mem_append_right _ h)))) (by decide +kernel))) (goodIn_sub (fun _ h => List.mem_append_left _ (List.mem_append_right _ h)) (by decide +kernel))) (goodIn_sub (fun _ h => List.mem_append_left _ (List.mem_append_left _ (List.mem_append_right _ h))) (by decide +kernel))
set_option maxRecDepth 20000 in
theorem gnL_law_L_end : GoodIn wnL_law (va_wsS RL 79 yL_end wsL_end) := goodIn_app (goodIn_of _ (by decide +kernel)) ggnL_law_L_end
set_option maxRecDepth 20000 in
theorem ggnL_law_X3_end : GoodIn wnL_law wsX3_end := goodIn_r _ [160, 60, 94, 95, 61, 63, 161, 96, 97, 5, 98, 162, 163, 164, 165, 62, 64, 166, 167, 168, 169, 170, 171, 172, 173, 174, 175, 176, 177, 449, 450, 451, 452, 453, 454, 455, 456, 457, 458, 459, 460, 461] (by decide +kernel) (by decide +kernel)
set_option maxRecDepth 20000 in
theorem gnL_law_X3_end : GoodIn wnL_law (wsV RL 81 RX3 yX3_end wsX3_end) := goodIn_app (goodIn_of _ (by decide +kernel)) ggnL_law_X3_end
set_option maxRecDepth 20000 in
theorem ggnL_law_L_whole : GoodIn wnL_law wsL_whole := goodIn_ca (goodIn_ca (goodIn_r _ [180, 69, 70, 181, 182, 183, 2, 184, 34, 80, 81, 82, 83, 84, 85, 36, 117, 118, 119, 120, 77, 78, 28, 121, 122, 123, 27, 124, 43, 185, 186, 187, 33, 188, 52, 189, 190, 191, 192, 51, 137, 138, 139, 140, 132, 133, 134, 135, 136, 87, 88, 89, 193, 126, 127, 128, 49, 129, 130, 131, 141, 142, 143, 144, 145, 146, 147, 148, 50, 149, 150, 151, 152, 153, 154, 155, 156, 440, 441, 442, 443, 444, 445, 446, 447, 448, 463, 464, 465, 466, 467, 468, 469, 470, 462] (by decide +kernel) (by decide +kernel)) (goodIn_sub (fun _ h => List.mem_append_left _ (List.mem_append_right _ h)) (by decide +kernel))) (goodIn_sub (fun _ h => List.mem_append_left _ (List.mem_append_left _ (List.mem_append_right _ h))) (by decide +kernel))
set_option maxRecDepth 20000 in
theorem gnL_law_L_whole : GoodIn wnL_law (va_wsS RL 82 yL_whole wsL_whole) := goodIn_app (goodIn_of _ (by decide +kernel)) ggnL_law_L_whole
set_option maxRecDepth 20000 in
theorem ggnL_law_X3_whole : GoodIn wnL_law wsX3_whole := goodIn_r _ [197, 60, 95, 161, 61, 162, 163, 164, 5, 165, 62, 64, 166, 167, 168, 169, 198, 199, 200, 201, 202, 203, 204, 205, 170, 171, 172, 173, 174, 175, 176, 177, 449, 450, 451, 452, 453, 454, 455, 456, 457, 458, 459, 460, 461] (by decide +kernel) (by decide +kernel)
set_option maxRecDepth 20000 in
theorem gnL_law_X3_whole : GoodIn wnL_law (wsV RL 85 RX3 yX3_whole wsX3_whole) := goodIn_app (goodIn_of _ (by decide +kernel)) ggnL_law_X3_whole
set_option maxRecDepth 20000 in
theorem ggnL_law_L_sync : GoodIn wnL_law wsL_sync := goodIn_ca (goodIn_r _ [208, 69, 209, 210, 211, 2, 212, 34, 28, 80, 81, 82, 83, 84, 85, 36, 213, 214, 215, 27, 216, 217, 138, 139, 140, 43, 136, 87, 88, 89, 218, 219, 220, 33, 221, 130, 222, 129, 223, 440, 441, 442, 443, 444, 445, 446, 447, 448, 463, 464, 465, 466, 467, 468, 469, 470, 462] (by decide +kernel) (by decide +kernel)) (goodIn_sub (fun _ h => List.mem_append_left _ (List.mem_append_right _ h)) (by decide +kernel))
set_option maxRecDepth 20000 in
theorem gnL_law_L_sync : GoodIn wnL_law (va_wsS RL 86 yL_sync wsL_sync) := goodIn_app (goodIn_of _ (by decide +kernel)) ggnL_law_L_sync
set_option maxRecDepth 20000 in
theorem ggnL_law_X3_sync : GoodIn wnL_law wsX3_sync := goodIn_r _ [227, 60, 95, 62, 228, 161, 58, 61, 449, 450, 451, 452, 453, 454, 455, 456, 457, 458, 459, 460, 461] (by decide +kernel) (by decide +kernel)
set_option maxRecDepth 20000 in
theorem gnL_law_X3_sync : GoodIn wnL_law (wsV RL 88 RX3 yX3_sync wsX3_sync) := goodIn_app (goodIn_of _ (by decide +kernel)) ggnL_law_X3_sync
set_option maxRecDepth 20000 in
theorem ggnL_law_L_cut : GoodIn wnL_law wsL_cut := goodIn_ca (goodIn_ca (goodIn_r _ [231, 68, 69, 232, 233, 234, 2, 235, 75, 76, 34, 28, 79, 36, 236, 237, 238, 33, 239, 129, 223, 80, 81, 82, 83, 84, 85, 213, 214, 215, 27, 216, 217, 138, 139, 140, 43, 136, 87, 88, 89, 144, 86, 240, 241, 242, 243, 222, 130, 51, 149, 150, 151, 152, 49, 50, 137, 131, 440, 441, 442, 443, 444, 445, 446, 447, 448, 463, 464, 465, 466, 467, 468, 469, 470, 462] (by decide +kernel) (by decide +kernel)) (goodIn_sub (fun _ h => List.mem_append_left _ (List.mem_append_left _ (List.mem_append_left _ (List.mem_append_right _ h)))) (by decide +kernel))) (goodIn_sub (fun _ h => List.mem_append_left _ (List.mem_append_right _ h)) (by decide +kernel))
set_option maxRecDepth 20000 in
theorem gnL_law_L_cut : GoodIn wnL_law (va_wsS RL 89 yL_cut wsL_cut) := goodIn_app (goodIn_of _ (by decide +kernel)) ggnL_law_L_cut
set_option maxRecDepth 20000 in
theorem ggnL_law_X3_cut : GoodIn wnL_law wsX3_cut := goodIn_r _ [247, 60, 95, 62, 228, 58, 61, 161, 94, 96, 97, 5, 98, 248, 249, 250, 251, 449, 450, 451, 452, 453, 454, 455, 456, 457, 458, 459, 460, 461] (by decide +kernel) (by decide +kernel)
set_option maxRecDepth 20000 in
theorem gnL_law_X3_cut : GoodIn wnL_law (wsV RL 92 RX3 yX3_cut wsX3_cut) := goodIn_app (goodIn_of _ (by decide +kernel)) ggnL_law_X3_cut
set_option maxRecDepth 20000 in
theorem ggnL_law_X2_start : GoodIn wnL_law wsX2_start := goodIn_r _ [255, 256, 257, 258, 2, 259, 79, 34, 28, 35, 36, 260, 261, 262, 33, 263, 222, 223, 264, 241, 242, 243, 130, 51, 129, 149, 150, 151, 152, 49, 50, 137, 138, 139, 27, 140, 43, 131, 87, 88, 89, 265, 266, 267, 268, 269, 270, 271, 272, 273, 274, 275, 276, 217, 277, 122, 123, 124, 115, 116, 278, 279, 280, 281, 141, 142, 143, 144, 282, 283, 284, 285, 286, 214, 215, 216, 136, 145, 146, 147, 148, 153, 154, 155, 156, 218, 219, 220, 221, 440, 441, 442, 443, 444, 445, 446, 447, 448, 463, 464, 465, 466, 467, 468, 469, 470, 462] (by decide +kernel) (by decide +kernel)
set_option maxRecDepth 20000 in
theorem gnL_law_X2_start : GoodIn wnL_law (wsV RL 93 RX2 yX2_start wsX2_start) := goodIn_app (goodIn_of _ (by decide +kernel)) ggnL_law_X2_start
set_option maxRecDepth 20000 in
theorem ggnL_law_X3_start : GoodIn wnL_law wsX3_start := goodIn_r _ [290, 95, 161, 291, 292, 293, 5, 294, 94, 60, 58, 61, 62, 295, 228, 296, 297, 298, 299, 64, 96, 97, 98, 174, 175, 176, 177, 300, 301, 302, 303, 198, 199, 200, 201, 202, 203, 204, 205, 449, 450, 451, 452, 453, 454, 455, 456, 457, 458, 459, 460, 461] (by decide +kernel) (by decide +kernel)
set_option maxRecDepth 20000 in
theorem gnL_law_X3_start : GoodIn wnL_law (wsV RL 96 RX3 yX3_start wsX3_start) := goodIn_app (goodIn_of _ (by decide +kernel)) ggnL_law_X3_start
set_option maxRecDepth 20000 in
theorem ggnL_law_L_poke : GoodIn wnL_law wsL_poke := goodIn_ca (goodIn_r _ [306, 68, 307, 308, 309, 2, 310, 75, 76, 28, 311, 312, 313, 314, 24, 315, 316, 317, 144, 138, 139, 27, 140, 43, 86, 87, 88, 89, 440, 441, 442, 443, 444, 445, 446, 447, 448, 471, 472, 473, 474, 475, 476, 462] (by decide +kernel) (by decide +kernel)) (goodIn_sub (fun _ h => List.mem_append_left _ (List.mem_append_left _ (List.mem_append_left _ (List.mem_append_right _ h)))) (by decide +kernel))
set_option maxRecDepth 20000 in
theorem gnL_law_L_poke : GoodIn wnL_law (va_wsS RL 97 yL_poke wsL_poke) := goodIn_app (goodIn_of _ (by decide +kernel)) ggnL_law_L_poke
set_option maxRecDepth 20000 in
theorem ggnL_law_X3_poke : GoodIn wnL_law wsX3_poke := goodIn_r _ [321, 95, 58, 96, 97, 5, 98, 322, 323, 324, 325, 64, 449, 450, 451, 452, 453, 454, 455, 456, 457, 458, 459, 460, 461] (by decide +kernel) (by decide +kernel)
set_option maxRecDepth 20000 in
theorem gnL_law_X3_poke : GoodIn wnL_law (wsV RL 100 RX3 yX3_poke wsX3_poke) := goodIn_app (goodIn_of _ (by decide +kernel)) ggnL_law_X3_poke
set_option maxRecDepth 20000 in
theorem ggnL_law_L_byteOf : GoodIn wnL_law wsL_byteOf := goodIn_r _ [328, 329, 330, 331, 2, 332, 28, 311, 312, 313, 314, 24, 315, 316, 317, 144, 138, 139, 27, 140, 43, 440, 441, 442, 443, 444, 445, 446, 447, 448, 471, 472, 473, 474, 475, 476, 462] (by decide +kernel) (by decide +kernel)
set_option maxRecDepth 20000 in
theorem gnL_law_L_byteOf : GoodIn wnL_law (va_wsS RL 101 yL_byteOf wsL_byteOf) := goodIn_app (goodIn_of _ (by decide +kernel)) ggnL_law_L_byteOf
set_option maxRecDepth 20000 in
theorem ggnL_law_X3_byteOf : GoodIn wnL_law wsX3_byteOf := goodIn_r _ [336, 95, 58, 322, 323, 324, 5, 325, 64, 96, 97, 98, 449, 450, 451, 452, 453, 454, 455, 456, 457, 458, 459, 460, 461] (by decide +kernel) (by decide +kernel)
set_option maxRecDepth 20000 in
theorem gnL_law_X3_byteOf : GoodIn wnL_law (wsV RL 104 RX3 yX3_byteOf wsX3_byteOf) := goodIn_app (goodIn_of _ (by decide +kernel)) ggnL_law_X3_byteOf
set_option maxRecDepth 20000 in
theorem ggnL_law_L_row : GoodIn wnL_law wnL_row := goodIn_ca (goodIn_ca (goodIn_r _ [339, 340, 68, 341, 342, 343, 2, 344, 345, 346, 75, 76, 34, 347, 348, 349, 33, 350, 130, 351, 352, 353, 354, 355, 154, 155, 156, 49, 50, 137, 138, 139, 27, 140, 43, 356, 357, 358, 359, 360, 150, 151, 152, 440, 441, 442, 443, 444, 445, 446, 447, 448, 463, 464, 465, 466, 467, 468, 469, 470, 462] (by decide +kernel) (by decide +kernel)) (goodIn_sub (fun _ h => List.mem_append_right _ h) (by decide +kernel))) (goodIn_sub (fun _ h => List.mem_append_left _ (List.mem_append_left _ (List.mem_append_left _ (List.mem_append_right _ h)))) (by decide +kernel))
set_option maxRecDepth 20000 in
theorem gnL_law_L_row : GoodIn wnL_law (va_wsS RL 105 yL_row wnL_row) := goodIn_app (goodIn_of _ (by decide +kernel)) ggnL_law_L_row
set_option maxRecDepth 20000 in
theorem ggnL_law_X3_row : GoodIn wnL_law wsX3_row := goodIn_r _ [364, 161, 95, 228, 61, 62, 96, 97, 5, 98, 365, 366, 367, 368, 202, 203, 204, 205, 449, 450, 451, 452, 453, 454, 455, 456, 457, 458, 459, 460, 461] (by decide +kernel) (by decide +kernel)
set_option maxRecDepth 20000 in
theorem gnL_law_X3_row : GoodIn wnL_law (wsV RL 107 RX3 yX3_row wsX3_row) := goodIn_app (goodIn_of _ (by decide +kernel)) ggnL_law_X3_row
set_option maxRecDepth 20000 in
theorem ggnL_law_L_find : GoodIn wnL_law wsL_find := goodIn_ca (goodIn_r _ [371, 68, 372, 373, 374, 2, 375, 75, 76, 34, 110, 111, 112, 113, 114, 115, 116, 376, 377, 378, 33, 379, 130, 149, 150, 151, 152, 49, 50, 137, 138, 139, 27, 140, 43, 440, 441, 442, 443, 444, 445, 446, 447, 448, 463, 464, 465, 466, 467, 468, 469, 470, 462] (by decide +kernel) (by decide +kernel)) (goodIn_sub (fun _ h => List.mem_append_left _ (List.mem_append_left _ (List.mem_append_left _ (List.mem_append_right _ h)))) (by decide +kernel))
set_option maxRecDepth 20000 in
theorem gnL_law_L_find : GoodIn wnL_law (va_wsS RL 108 yL_find wsL_find) := goodIn_app (goodIn_of _ (by decide +kernel)) ggnL_law_L_find
set_option maxRecDepth 20000 in
theorem ggnL_law_X3_find : GoodIn wnL_law wsX3_find := goodIn_r _ [383, 95, 161, 96, 97, 5, 98, 202, 203, 204, 205, 61, 62, 449, 450, 451, 452, 453, 454, 455, 456, 457, 458, 459, 460, 461] (by decide +kernel) (by decide +kernel)
set_option maxRecDepth 20000 in
theorem gnL_law_X3_find : GoodIn wnL_law (wsV RL 110 RX3 yX3_find wsX3_find) := goodIn_app (goodIn_of _ (by decide +kernel)) ggnL_law_X3_find
set_option maxRecDepth 20000 in
theorem ggnL_law_X2_wrong : GoodIn wnL_law wsX2_wrong := goodIn_r _ [387, 35, 440, 441, 442, 443, 444, 445, 446, 447, 448] (by decide +kernel) (by decide +kernel)
set_option maxRecDepth 20000 in
theorem gnL_law_X2_wrong : GoodIn wnL_law (wsV RL 111 RX2 yX2_wrong wsX2_wrong) := goodIn_app (goodIn_of _ (by decide +kernel)) ggnL_law_X2_wrong
set_option maxRecDepth 20000 in
theorem ggnL_law_X3_wrong : GoodIn wnL_law wsX3_wrong := goodIn_r _ [391, 95, 295, 449, 450, 451, 452, 453, 454, 455, 456, 457, 458, 459, 460, 461] (by decide +kernel) (by decide +kernel)
set_option maxRecDepth 20000 in
theorem gnL_law_X3_wrong : GoodIn wnL_law (wsV RL 114 RX3 yX3_wrong wsX3_wrong) := goodIn_app (goodIn_of _ (by decide +kernel)) ggnL_law_X3_wrong
set_option maxRecDepth 20000 in
theorem ggnL_law_L_backup : GoodIn wnL_law wsL_backup := goodIn_ca (goodIn_r _ [394, 69, 395, 396, 397, 2, 398, 29, 28, 399, 34, 80, 81, 82, 83, 84, 85, 36, 121, 122, 123, 27, 124, 43, 213, 214, 215, 216, 217, 138, 139, 140, 136, 87, 88, 89, 440, 441, 442, 443, 444, 445, 446, 447, 448, 463, 464, 465, 466, 467, 468, 469, 470, 462] (by decide +kernel) (by decide +kernel)) (goodIn_sub (fun _ h => List.mem_append_left _ (List.mem_append_right _ h)) (by decide +kernel))
set_option maxRecDepth 20000 in
theorem gnL_law_L_backup : GoodIn wnL_law (va_wsS RL 115 yL_backup wsL_backup) := goodIn_app (goodIn_of _ (by decide +kernel)) ggnL_law_L_backup
set_option maxRecDepth 20000 in
theorem ggnL_law_X3_backup : GoodIn wnL_law wsX3_backup := goodIn_r _ [403, 60, 95, 64, 59, 58, 404, 228, 449, 450, 451, 452, 453, 454, 455, 456, 457, 458, 459, 460, 461] (by decide +kernel) (by decide +kernel)
set_option maxRecDepth 20000 in
theorem gnL_law_X3_backup : GoodIn wnL_law (wsV RL 117 RX3 yX3_backup wsX3_backup) := goodIn_app (goodIn_of _ (by decide +kernel)) ggnL_law_X3_backup
set_option maxRecDepth 20000 in
theorem ggnL_law_L_restore : GoodIn wnL_law wsL_restore := goodIn_ca (goodIn_r _ [407, 69, 408, 409, 410, 2, 411, 84, 85, 399, 28, 29, 121, 122, 123, 27, 124, 43, 213, 214, 215, 216, 217, 138, 139, 140, 136, 87, 88, 89, 256, 257, 258, 259, 79, 34, 35, 36, 260, 261, 262, 33, 263, 222, 223, 264, 241, 242, 243, 130, 51, 129, 149, 150, 151, 152, 49, 50, 137, 131, 265, 266, 267, 268, 269, 270, 271, 272, 273, 274, 275, 276, 277, 115, 116, 278, 279, 280, 281, 141, 142, 143, 144, 282, 283, 284, 285, 286, 145, 146, 147, 148, 153, 154, 155, 156, 218, 219, 220, 221, 440, 441, 442, 443, 444, 445, 446, 447, 448, 462, 463, 464, 465, 466, 467, 468, 469, 470] (by decide +kernel) (by decide +kernel)) (goodIn_sub (fun _ h => List.mem_append_left _ (List.mem_append_right _ h)) (by decide +kernel))
set_option maxRecDepth 20000 in
theorem gnL_law_L_restore : GoodIn wnL_law (va_wsS RL 118 yL_restore wsL_restore) := goodIn_app (goodIn_of _ (by decide +kernel)) ggnL_law_L_restore
set_option maxRecDepth 20000 in
theorem ggnL_law_X3_restore : GoodIn wnL_law wsX3_restore := goodIn_r _ [415, 404, 95, 64, 58, 59, 161, 291, 292, 293, 5, 294, 94, 60, 61, 62, 295, 228, 296, 297, 298, 299, 96, 97, 98, 174, 175, 176, 177, 300, 301, 302, 303, 198, 199, 200, 201, 202, 203, 204, 205, 449, 450, 451, 452, 453, 454, 455, 456, 457, 458, 459, 460, 461] (by decide +kernel) (by decide +kernel)
set_option maxRecDepth 20000 in
theorem gnL_law_X3_restore : GoodIn wnL_law (wsV RL 120 RX3 yX3_restore wsX3_restore) := goodIn_app (goodIn_of _ (by decide +kernel)) ggnL_law_X3_restore
set_option maxRecDepth 20000 in
theorem ggnL_law_L_total : GoodIn wnL_law wsL_total := goodIn_ca (goodIn_r _ [418, 68, 419, 420, 421, 2, 422, 21, 22, 19, 23, 34, 17, 18, 20, 110, 111, 112, 113, 75, 76, 114, 115, 116, 360, 150, 151, 33, 152, 49, 50, 137, 138, 139, 27, 140, 43, 423, 424, 425, 426, 153, 154, 155, 156, 427, 357, 358, 359, 440, 441, 442, 443, 444, 445, 446, 447, 448, 463, 464, 465, 466, 467, 468, 469, 470, 462] (by decide +kernel) (by decide +kernel)) (goodIn_sub (fun _ h => List.mem_append_left _ (List.mem_append_left _ (List.mem_append_left _ (List.mem_append_right _ h)))) (by decide +kernel))
set_option maxRecDepth 20000 in
theorem gnL_law_L_total : GoodIn wnL_law (va_wsS RL 121 yL_total wsL_total) := goodIn_app (goodIn_of _ (by decide +kernel)) ggnL_law_L_total
set_option maxRecDepth 20000 in
theorem ggnL_law_X3_total : GoodIn wnL_law wsX3_total := goodIn_r _ [431, 95, 161, 61, 62, 96, 97, 5, 98, 202, 203, 204, 205, 365, 366, 367, 368, 449, 450, 451, 452, 453, 454, 455, 456, 457, 458, 459, 460, 461] (by decide +kernel) (by decide +kernel)
set_option maxRecDepth 20000 in
theorem gnL_law_X3_total : GoodIn wnL_law (wsV RL 123 RX3 yX3_total wsX3_total) := goodIn_app (goodIn_of _ (by decide +kernel)) ggnL_law_X3_total
set_option maxRecDepth 20000 in
theorem ggnL_law_X2_count : GoodIn wnL_law wsX2_count := goodIn_r _ [435, 24, 34, 79, 36, 236, 237, 238, 33, 239, 129, 223, 144, 138, 139, 27, 140, 43, 440, 441, 442, 443, 444, 445, 446, 447, 448, 463, 464, 465, 466, 467, 468, 469, 470, 462] (by decide +kernel) (by decide +kernel)
set_option maxRecDepth 20000 in
theorem gnL_law_X2_count : GoodIn wnL_law (wsV RL 124 RX2 yX2_count wsX2_count) := goodIn_app (goodIn_of _ (by decide +kernel)) ggnL_law_X2_count
set_option maxRecDepth 20000 in
theorem ggnL_law_X3_count : GoodIn wnL_law wsX3_count := goodIn_r _ [439, 95, 64, 161, 228, 94, 60, 62, 248, 249, 250, 5, 251, 198, 199, 200, 201, 202, 203, 204, 205, 61, 449, 450, 451, 452, 453, 454, 455, 456, 457, 458, 459, 460, 461] (by decide +kernel) (by decide +kernel)
set_option maxRecDepth 20000 in
theorem gnL_law_X3_count : GoodIn wnL_law (wsV RL 127 RX3 yX3_count wsX3_count) := goodIn_app (goodIn_of _ (by decide +kernel)) ggnL_law_X3_count
theorem aie_good : (Cond.classLink RL 37 xAIE :: xaAIE.filter goodWord).all goodWord = true := by decide +kernel
theorem gq_L_cell : GoodIn wqL_law (va_wsS RL 60 yL_cell wsL_cell) := goodIn_mono gnL_law_L_cell
theorem gq_X2_init : GoodIn wqL_law (wsX2_init) := goodIn_mono gnL_law_X2_init
theorem gq_X3_init : GoodIn wqL_law (wsX3_init) := goodIn_mono gnL_law_X3_init
theorem gq_L_add : GoodIn wqL_law (va_wsS RL 72 yL_add wsL_add) := goodIn_mono gnL_law_L_add
theorem gq_X3_add : GoodIn wqL_law (wsV RL 75 RX3 yX3_add wsX3_add) := goodIn_mono gnL_law_X3_add
theorem gq_X3_thrown : GoodIn wqL_law (wsV RL 76 RX3 yX3_thrown wsX3_thrown) := goodIn_mono gnL_law_X3_thrown
theorem gq_L_end : GoodIn wqL_law (va_wsS RL 79 yL_end wsL_end) := goodIn_mono gnL_law_L_end
theorem gq_X3_end : GoodIn wqL_law (wsV RL 81 RX3 yX3_end wsX3_end) := goodIn_mono gnL_law_X3_end
theorem gq_L_whole : GoodIn wqL_law (va_wsS RL 82 yL_whole wsL_whole) := goodIn_mono gnL_law_L_whole
theorem gq_X3_whole : GoodIn wqL_law (wsV RL 85 RX3 yX3_whole wsX3_whole) := goodIn_mono gnL_law_X3_whole
theorem gq_L_sync : GoodIn wqL_law (va_wsS RL 86 yL_sync wsL_sync) := goodIn_mono gnL_law_L_sync
theorem gq_X3_sync : GoodIn wqL_law (wsV RL 88 RX3 yX3_sync wsX3_sync) := goodIn_mono gnL_law_X3_sync
theorem gq_L_cut : GoodIn wqL_law (va_wsS RL 89 yL_cut wsL_cut) := goodIn_mono gnL_law_L_cut
theorem gq_X3_cut : GoodIn wqL_law (wsV RL 92 RX3 yX3_cut wsX3_cut) := goodIn_mono gnL_law_X3_cut
theorem gq_X2_start : GoodIn wqL_law (wsV RL 93 RX2 yX2_start wsX2_start) := goodIn_mono gnL_law_X2_start
theorem gq_X3_start : GoodIn wqL_law (wsV RL 96 RX3 yX3_start wsX3_start) := goodIn_mono gnL_law_X3_start
theorem gq_L_poke : GoodIn wqL_law (va_wsS RL 97 yL_poke wqL_poke) := by
  rw [va_wsS, wqL_poke, ← List.append_assoc]
  exact goodIn_ext gnL_law_L_poke aie_good
theorem gq_X3_poke : GoodIn wqL_law (wsV RL 100 RX3 yX3_poke wsX3_poke) := goodIn_mono gnL_law_X3_poke
theorem gq_L_byteOf : GoodIn wqL_law (va_wsS RL 101 yL_byteOf wqL_byteOf) := by
  rw [va_wsS, wqL_byteOf, ← List.append_assoc]
  exact goodIn_ext gnL_law_L_byteOf aie_good
theorem gq_X3_byteOf : GoodIn wqL_law (wsV RL 104 RX3 yX3_byteOf wsX3_byteOf) := goodIn_mono gnL_law_X3_byteOf
theorem gq_L_row : GoodIn wqL_law (va_wsS RL 105 yL_row wnL_row) := goodIn_mono gnL_law_L_row
theorem gq_X3_row : GoodIn wqL_law (wsV RL 107 RX3 yX3_row wsX3_row) := goodIn_mono gnL_law_X3_row
theorem gq_L_find : GoodIn wqL_law (va_wsS RL 108 yL_find wsL_find) := goodIn_mono gnL_law_L_find
theorem gq_X3_find : GoodIn wqL_law (wsV RL 110 RX3 yX3_find wsX3_find) := goodIn_mono gnL_law_X3_find
theorem gq_X2_wrong : GoodIn wqL_law (wsV RL 111 RX2 yX2_wrong wsX2_wrong) := goodIn_mono gnL_law_X2_wrong
theorem gq_X3_wrong : GoodIn wqL_law (wsV RL 114 RX3 yX3_wrong wsX3_wrong) := goodIn_mono gnL_law_X3_wrong
theorem gq_L_backup : GoodIn wqL_law (va_wsS RL 115 yL_backup wsL_backup) := goodIn_mono gnL_law_L_backup
theorem gq_X3_backup : GoodIn wqL_law (wsV RL 117 RX3 yX3_backup wsX3_backup) := goodIn_mono gnL_law_X3_backup
theorem gq_L_restore : GoodIn wqL_law (va_wsS RL 118 yL_restore wsL_restore) := goodIn_mono gnL_law_L_restore
theorem gq_X3_restore : GoodIn wqL_law (wsV RL 120 RX3 yX3_restore wsX3_restore) := goodIn_mono gnL_law_X3_restore
theorem gq_L_total : GoodIn wqL_law (va_wsS RL 121 yL_total wsL_total) := goodIn_mono gnL_law_L_total
theorem gq_X3_total : GoodIn wqL_law (wsV RL 123 RX3 yX3_total wsX3_total) := goodIn_mono gnL_law_X3_total
theorem gq_X2_count : GoodIn wqL_law (wsV RL 124 RX2 yX2_count wsX2_count) := goodIn_mono gnL_law_X2_count
theorem gq_X3_count : GoodIn wqL_law (wsV RL 127 RX3 yX3_count wsX3_count) := goodIn_mono gnL_law_X3_count
