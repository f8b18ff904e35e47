set_option maxRecDepth 20000 in
theorem ggL_law_X0_init : GoodIn wsL_law wsX0_init := goodIn_r _ [8, 9, 10, 11, 12, 13, 14, 15, 16, 17, 18, 19, 20, 333, 334, 335, 336, 337, 338, 339, 340] (by decide +kernel) (by decide +kernel)
set_option maxRecDepth 20000 in
theorem gL_law_X0_init : GoodIn wsL_law (wsX0_init) := ggL_law_X0_init
set_option maxRecDepth 20000 in
theorem ggL_law_X1_init : GoodIn wsL_law wsX1_init := goodIn_r _ [23, 24, 10, 11, 15, 25, 26, 27, 28, 29, 30, 31, 341, 342, 343, 344, 345, 346, 347, 348] (by decide +kernel) (by decide +kernel)
set_option maxRecDepth 20000 in
theorem gL_law_X1_init : GoodIn wsL_law (wsX1_init) := ggL_law_X1_init
set_option maxRecDepth 20000 in
theorem ggL_law_X0_enter : GoodIn wsL_law wsX0_enter := goodIn_r _ [35, 12, 16, 36, 37, 38, 2, 39, 333, 334, 335, 336, 337, 338, 339, 340] (by decide +kernel) (by decide +kernel)
set_option maxRecDepth 20000 in
theorem gL_law_X0_enter : GoodIn wsL_law (wsV RL 13 RX0 yX0_enter wsX0_enter) := goodIn_app (goodIn_of _ (by decide +kernel)) ggL_law_X0_enter
set_option maxRecDepth 20000 in
theorem ggL_law_X1_enter : GoodIn wsL_law wsX1_enter := goodIn_r _ [43, 44, 25, 26, 45, 46, 5, 47, 341, 342, 343, 344, 345, 346, 347, 348] (by decide +kernel) (by decide +kernel)
set_option maxRecDepth 20000 in
theorem gL_law_X1_enter : GoodIn wsL_law (wsV RL 17 RX1 yX1_enter wsX1_enter) := goodIn_app (goodIn_of _ (by decide +kernel)) ggL_law_X1_enter
set_option maxRecDepth 20000 in
theorem ggL_law_X0_jump : GoodIn wsL_law wsX0_jump := goodIn_r _ [51, 17, 18, 19, 52, 53, 54, 2, 55, 12, 56, 57, 58, 59, 60, 61, 62, 63, 64, 333, 334, 335, 336, 337, 338, 339, 340] (by decide +kernel) (by decide +kernel)
set_option maxRecDepth 20000 in
theorem gL_law_X0_jump : GoodIn wsL_law (wsV RL 18 RX0 yX0_jump wsX0_jump) := goodIn_app (goodIn_of _ (by decide +kernel)) ggL_law_X0_jump
set_option maxRecDepth 20000 in
theorem ggL_law_X1_jump : GoodIn wsL_law wsX1_jump := goodIn_r _ [68, 26, 27, 28, 69, 70, 71, 5, 72, 44, 45, 46, 47, 73, 74, 75, 341, 342, 343, 344, 345, 346, 347, 348] (by decide +kernel) (by decide +kernel)
set_option maxRecDepth 20000 in
theorem gL_law_X1_jump : GoodIn wsL_law (wsV RL 22 RX1 yX1_jump wsX1_jump) := goodIn_app (goodIn_of _ (by decide +kernel)) ggL_law_X1_jump
set_option maxRecDepth 20000 in
theorem ggL_law_X0_undo : GoodIn wsL_law wsX0_undo := goodIn_r _ [79, 17, 18, 19, 52, 53, 54, 2, 55, 12, 62, 63, 64, 333, 334, 335, 336, 337, 338, 339, 340] (by decide +kernel) (by decide +kernel)
set_option maxRecDepth 20000 in
theorem gL_law_X0_undo : GoodIn wsL_law (wsV RL 23 RX0 yX0_undo wsX0_undo) := goodIn_app (goodIn_of _ (by decide +kernel)) ggL_law_X0_undo
set_option maxRecDepth 20000 in
theorem ggL_law_X1_undo : GoodIn wsL_law wsX1_undo := goodIn_r _ [83, 26, 69, 70, 71, 5, 72, 44, 45, 46, 47, 341, 342, 343, 344, 345, 346, 347, 348] (by decide +kernel) (by decide +kernel)
set_option maxRecDepth 20000 in
theorem gL_law_X1_undo : GoodIn wsL_law (wsV RL 26 RX1 yX1_undo wsX1_undo) := goodIn_app (goodIn_of _ (by decide +kernel)) ggL_law_X1_undo
set_option maxRecDepth 20000 in
theorem ggL_law_X0_record : GoodIn wsL_law wsX0_record := goodIn_r _ [87, 13, 56, 57, 2, 58, 333, 334, 335, 336, 337, 338, 339, 340] (by decide +kernel) (by decide +kernel)
set_option maxRecDepth 20000 in
theorem gL_law_X0_record : GoodIn wsL_law (wsV RL 27 RX0 yX0_record wsX0_record) := goodIn_app (goodIn_of _ (by decide +kernel)) ggL_law_X0_record
set_option maxRecDepth 20000 in
theorem ggL_law_X1_record : GoodIn wsL_law wsX1_record := goodIn_r _ [91, 30, 73, 74, 5, 75, 45, 46, 47, 341, 342, 343, 344, 345, 346, 347, 348] (by decide +kernel) (by decide +kernel)
set_option maxRecDepth 20000 in
theorem gL_law_X1_record : GoodIn wsL_law (wsV RL 30 RX1 yX1_record wsX1_record) := goodIn_app (goodIn_of _ (by decide +kernel)) ggL_law_X1_record
set_option maxRecDepth 20000 in
theorem ggL_law_X0_limit : GoodIn wsL_law wsX0_limit := goodIn_r _ [95, 14, 59, 60, 2, 61, 333, 334, 335, 336, 337, 338, 339, 340] (by decide +kernel) (by decide +kernel)
set_option maxRecDepth 20000 in
theorem gL_law_X0_limit : GoodIn wsL_law (wsV RL 31 RX0 yX0_limit wsX0_limit) := goodIn_app (goodIn_of _ (by decide +kernel)) ggL_law_X0_limit
set_option maxRecDepth 20000 in
theorem ggL_law_X1_limit : GoodIn wsL_law wsX1_limit := goodIn_r _ [99, 31, 73, 74, 5, 75, 45, 46, 47, 341, 342, 343, 344, 345, 346, 347, 348] (by decide +kernel) (by decide +kernel)
set_option maxRecDepth 20000 in
theorem gL_law_X1_limit : GoodIn wsL_law (wsV RL 34 RX1 yX1_limit wsX1_limit) := goodIn_app (goodIn_of _ (by decide +kernel)) ggL_law_X1_limit
set_option maxRecDepth 20000 in
theorem ggL_law_X0_value : GoodIn wsL_law wsX0_value := goodIn_r _ [103, 104, 105, 2, 106, 52, 53, 54, 55, 12, 107, 108, 109, 110, 111, 112, 113, 18, 19, 62, 63, 64, 333, 334, 335, 336, 337, 338, 339, 340] (by decide +kernel) (by decide +kernel)
set_option maxRecDepth 20000 in
theorem gL_law_X0_value : GoodIn wsL_law (wsV RL 35 RX0 yX0_value wsX0_value) := goodIn_app (goodIn_of _ (by decide +kernel)) ggL_law_X0_value
set_option maxRecDepth 20000 in
theorem ggL_law_X1_value : GoodIn wsL_law wsX1_value := goodIn_r _ [117, 45, 46, 5, 47, 69, 70, 71, 72, 44, 118, 119, 120, 121, 122, 123, 124, 26, 27, 28, 125, 126, 127, 341, 342, 343, 344, 345, 346, 347, 348] (by decide +kernel) (by decide +kernel)
set_option maxRecDepth 20000 in
theorem gL_law_X1_value : GoodIn wsL_law (wsV RL 38 RX1 yX1_value wsX1_value) := goodIn_app (goodIn_of _ (by decide +kernel)) ggL_law_X1_value
set_option maxRecDepth 20000 in
theorem ggL_law_X0_fits : GoodIn wsL_law wsX0_fits := goodIn_r _ [131, 132, 133, 2, 134, 104, 105, 106, 52, 53, 54, 55, 12, 107, 108, 109, 110, 111, 112, 113, 18, 19, 62, 63, 64, 135, 136, 137, 138, 139, 140, 141, 142, 143, 333, 334, 335, 336, 337, 338, 339, 340] (by decide +kernel) (by decide +kernel)
set_option maxRecDepth 20000 in
theorem gL_law_X0_fits : GoodIn wsL_law (wsV RL 39 RX0 yX0_fits wsX0_fits) := goodIn_app (goodIn_of _ (by decide +kernel)) ggL_law_X0_fits
set_option maxRecDepth 20000 in
theorem ggL_law_X1_fits : GoodIn wsL_law wsX1_fits := goodIn_r _ [147, 148, 149, 150, 5, 151, 45, 46, 47, 69, 70, 71, 72, 44, 118, 119, 120, 121, 122, 123, 124, 26, 27, 28, 125, 126, 127, 152, 153, 154, 155, 29, 341, 342, 343, 344, 345, 346, 347, 348] (by decide +kernel) (by decide +kernel)
set_option maxRecDepth 20000 in
theorem gL_law_X1_fits : GoodIn wsL_law (wsV RL 43 RX1 yX1_fits wsX1_fits) := goodIn_app (goodIn_of _ (by decide +kernel)) ggL_law_X1_fits
set_option maxRecDepth 20000 in
theorem ggL_law_X0_count : GoodIn wsL_law wsX0_count := goodIn_r _ [159, 160, 161, 162, 2, 163, 132, 133, 134, 104, 105, 106, 52, 53, 54, 55, 12, 56, 57, 58, 59, 60, 61, 110, 111, 112, 113, 18, 19, 62, 63, 64, 135, 136, 137, 138, 139, 140, 141, 142, 143, 333, 334, 335, 336, 337, 338, 339, 340] (by decide +kernel) (by decide +kernel)
set_option maxRecDepth 20000 in
theorem gL_law_X0_count : GoodIn wsL_law (wsV RL 44 RX0 yX0_count wsX0_count) := goodIn_app (goodIn_of _ (by decide +kernel)) ggL_law_X0_count
set_option maxRecDepth 20000 in
theorem ggL_law_X1_count : GoodIn wsL_law wsX1_count := goodIn_r _ [167, 168, 169, 170, 5, 171, 148, 149, 150, 151, 45, 46, 47, 69, 70, 71, 72, 44, 73, 74, 75, 121, 122, 123, 124, 26, 27, 28, 125, 126, 127, 152, 153, 154, 155, 29, 341, 342, 343, 344, 345, 346, 347, 348] (by decide +kernel) (by decide +kernel)
set_option maxRecDepth 20000 in
theorem gL_law_X1_count : GoodIn wsL_law (wsV RL 48 RX1 yX1_count wsX1_count) := goodIn_app (goodIn_of _ (by decide +kernel)) ggL_law_X1_count
set_option maxRecDepth 20000 in
theorem ggL_law_X0_turned : GoodIn wsL_law wsX0_turned := goodIn_r _ [175, 160, 161, 162, 2, 163, 132, 133, 134, 104, 105, 106, 52, 53, 54, 55, 12, 56, 57, 58, 59, 60, 61, 110, 111, 112, 113, 18, 19, 62, 63, 64, 135, 136, 137, 138, 139, 140, 141, 142, 143, 333, 334, 335, 336, 337, 338, 339, 340] (by decide +kernel) (by decide +kernel)
set_option maxRecDepth 20000 in
theorem gL_law_X0_turned : GoodIn wsL_law (wsV RL 49 RX0 yX0_turned wsX0_turned) := goodIn_app (goodIn_of _ (by decide +kernel)) ggL_law_X0_turned
set_option maxRecDepth 20000 in
theorem ggL_law_X1_turned : GoodIn wsL_law wsX1_turned := goodIn_r _ [179, 168, 169, 170, 5, 171, 148, 149, 150, 151, 45, 46, 47, 69, 70, 71, 72, 44, 73, 74, 75, 121, 122, 123, 124, 26, 27, 28, 125, 126, 127, 152, 153, 154, 155, 29, 341, 342, 343, 344, 345, 346, 347, 348] (by decide +kernel) (by decide +kernel)
set_option maxRecDepth 20000 in
theorem gL_law_X1_turned : GoodIn wsL_law (wsV RL 52 RX1 yX1_turned wsX1_turned) := goodIn_app (goodIn_of _ (by decide +kernel)) ggL_law_X1_turned
set_option maxRecDepth 20000 in
theorem ggL_law_X0_longest : GoodIn wsL_law wsX0_longest := goodIn_r _ [183, 184, 185, 186, 187, 160, 161, 162, 2, 163, 132, 133, 134, 104, 105, 106, 52, 53, 54, 55, 12, 56, 57, 58, 59, 60, 61, 110, 111, 112, 113, 18, 19, 62, 63, 64, 135, 136, 137, 138, 139, 140, 141, 142, 143, 333, 334, 335, 336, 337, 338, 339, 340] (by decide +kernel) (by decide +kernel)
set_option maxRecDepth 20000 in
theorem gL_law_X0_longest : GoodIn wsL_law (wsV RL 53 RX0 yX0_longest wsX0_longest) := goodIn_app (goodIn_of _ (by decide +kernel)) ggL_law_X0_longest
set_option maxRecDepth 20000 in
theorem ggL_law_X1_longest : GoodIn wsL_law wsX1_longest := goodIn_r _ [191, 168, 169, 170, 5, 171, 148, 149, 150, 151, 45, 46, 47, 69, 70, 71, 72, 44, 73, 74, 75, 192, 193, 194, 195, 121, 122, 123, 124, 26, 27, 28, 125, 126, 127, 152, 153, 154, 155, 29, 341, 342, 343, 344, 345, 346, 347, 348] (by decide +kernel) (by decide +kernel)
set_option maxRecDepth 20000 in
theorem gL_law_X1_longest : GoodIn wsL_law (wsV RL 56 RX1 yX1_longest wsX1_longest) := goodIn_app (goodIn_of _ (by decide +kernel)) ggL_law_X1_longest
set_option maxRecDepth 20000 in
theorem ggL_law_X0_skip : GoodIn wsL_law wsX0_skip := goodIn_r _ [199, 160, 161, 162, 2, 163, 132, 133, 134, 104, 105, 106, 52, 53, 54, 55, 12, 56, 57, 58, 59, 60, 61, 107, 108, 109, 110, 111, 112, 113, 18, 19, 62, 63, 64, 135, 136, 137, 138, 139, 140, 141, 142, 143, 333, 334, 335, 336, 337, 338, 339, 340] (by decide +kernel) (by decide +kernel)
set_option maxRecDepth 20000 in
theorem gL_law_X0_skip : GoodIn wsL_law (wsV RL 57 RX0 yX0_skip wsX0_skip) := goodIn_app (goodIn_of _ (by decide +kernel)) ggL_law_X0_skip
set_option maxRecDepth 20000 in
theorem ggL_law_X1_skip : GoodIn wsL_law wsX1_skip := goodIn_r _ [203, 168, 169, 170, 5, 171, 148, 149, 150, 151, 45, 46, 47, 69, 70, 71, 72, 44, 73, 74, 75, 118, 119, 120, 121, 122, 123, 124, 26, 27, 28, 125, 126, 127, 152, 153, 154, 155, 29, 341, 342, 343, 344, 345, 346, 347, 348] (by decide +kernel) (by decide +kernel)
set_option maxRecDepth 20000 in
theorem gL_law_X1_skip : GoodIn wsL_law (wsV RL 60 RX1 yX1_skip wsX1_skip) := goodIn_app (goodIn_of _ (by decide +kernel)) ggL_law_X1_skip
set_option maxRecDepth 20000 in
theorem ggL_law_X0_pick : GoodIn wsL_law wsX0_pick := goodIn_r _ [207, 160, 161, 162, 2, 163, 132, 133, 134, 104, 105, 106, 52, 53, 54, 55, 12, 56, 57, 58, 59, 60, 61, 110, 111, 112, 113, 18, 19, 62, 63, 64, 135, 136, 137, 138, 139, 140, 141, 142, 143, 333, 334, 335, 336, 337, 338, 339, 340] (by decide +kernel) (by decide +kernel)
set_option maxRecDepth 20000 in
theorem gL_law_X0_pick : GoodIn wsL_law (wsV RL 61 RX0 yX0_pick wsX0_pick) := goodIn_app (goodIn_of _ (by decide +kernel)) ggL_law_X0_pick
set_option maxRecDepth 20000 in
theorem ggL_law_X1_pick : GoodIn wsL_law wsX1_pick := goodIn_r _ [211, 168, 169, 170, 5, 171, 148, 149, 150, 151, 45, 46, 47, 69, 70, 71, 72, 44, 73, 74, 75, 121, 122, 123, 124, 26, 27, 28, 125, 126, 127, 152, 153, 154, 155, 29, 341, 342, 343, 344, 345, 346, 347, 348] (by decide +kernel) (by decide +kernel)
set_option maxRecDepth 20000 in
theorem gL_law_X1_pick : GoodIn wsL_law (wsV RL 64 RX1 yX1_pick wsX1_pick) := goodIn_app (goodIn_of _ (by decide +kernel)) ggL_law_X1_pick
set_option maxRecDepth 20000 in
theorem ggL_law_X0_best : GoodIn wsL_law wsX0_best := goodIn_r _ [215, 52, 53, 54, 2, 55, 12, 216, 217, 218, 219, 18, 184, 185, 186, 187, 220, 221, 222, 223, 19, 14, 62, 63, 64, 135, 136, 137, 138, 139, 140, 141, 142, 143, 333, 334, 335, 336, 337, 338, 339, 340] (by decide +kernel) (by decide +kernel)
set_option maxRecDepth 20000 in
theorem gL_law_X0_best : GoodIn wsL_law (wsV RL 65 RX0 yX0_best wsX0_best) := goodIn_app (goodIn_of _ (by decide +kernel)) ggL_law_X0_best
set_option maxRecDepth 20000 in
theorem ggL_law_X1_best : GoodIn wsL_law wsX1_best := goodIn_r _ [227, 69, 70, 71, 5, 72, 44, 45, 46, 47, 228, 229, 230, 231, 121, 122, 123, 124, 26, 27, 28, 125, 126, 127, 232, 233, 234, 235, 31, 152, 153, 154, 155, 29, 341, 342, 343, 344, 345, 346, 347, 348] (by decide +kernel) (by decide +kernel)
set_option maxRecDepth 20000 in
theorem gL_law_X1_best : GoodIn wsL_law (wsV RL 68 RX1 yX1_best wsX1_best) := goodIn_app (goodIn_of _ (by decide +kernel)) ggL_law_X1_best
set_option maxRecDepth 20000 in
theorem ggL_law_X0_ahead : GoodIn wsL_law wsX0_ahead := goodIn_r _ [239, 52, 53, 54, 2, 55, 12, 240, 241, 242, 243, 20, 18, 62, 63, 64, 220, 221, 222, 223, 19, 14, 135, 136, 137, 138, 139, 140, 141, 142, 143, 244, 245, 246, 247, 248, 249, 250, 251, 333, 334, 335, 336, 337, 338, 339, 340] (by decide +kernel) (by decide +kernel)
set_option maxRecDepth 20000 in
theorem gL_law_X0_ahead : GoodIn wsL_law (wsV RL 69 RX0 yX0_ahead wsX0_ahead) := goodIn_app (goodIn_of _ (by decide +kernel)) ggL_law_X0_ahead
set_option maxRecDepth 20000 in
theorem ggL_law_X1_ahead : GoodIn wsL_law wsX1_ahead := goodIn_r _ [255, 69, 70, 71, 5, 72, 44, 45, 46, 47, 256, 257, 258, 259, 228, 229, 230, 231, 121, 122, 123, 124, 26, 27, 28, 125, 126, 127, 232, 233, 234, 235, 31, 152, 153, 154, 155, 29, 260, 261, 262, 263, 341, 342, 343, 344, 345, 346, 347, 348] (by decide +kernel) (by decide +kernel)
set_option maxRecDepth 20000 in
theorem gL_law_X1_ahead : GoodIn wsL_law (wsV RL 73 RX1 yX1_ahead wsX1_ahead) := goodIn_app (goodIn_of _ (by decide +kernel)) ggL_law_X1_ahead
set_option maxRecDepth 20000 in
theorem ggL_law_X0_place : GoodIn wsL_law wsX0_place := goodIn_r _ [267, 12, 52, 53, 54, 2, 55, 216, 217, 218, 219, 18, 184, 185, 186, 187, 220, 221, 222, 223, 19, 14, 62, 63, 64, 135, 136, 137, 138, 139, 140, 141, 142, 143, 268, 269, 270, 271, 240, 241, 242, 243, 20, 244, 245, 246, 247, 248, 249, 250, 251, 333, 334, 335, 336, 337, 338, 339, 340] (by decide +kernel) (by decide +kernel)
set_option maxRecDepth 20000 in
theorem gL_law_X0_place : GoodIn wsL_law (wsV RL 74 RX0 yX0_place wsX0_place) := goodIn_app (goodIn_of _ (by decide +kernel)) ggL_law_X0_place
set_option maxRecDepth 20000 in
theorem ggL_law_X1_place : GoodIn wsL_law wsX1_place := goodIn_r _ [275, 44, 69, 70, 71, 5, 72, 45, 46, 47, 276, 225, 226, 227, 228, 229, 230, 231, 121, 122, 123, 124, 26, 27, 28, 125, 126, 127, 232, 233, 234, 235, 31, 152, 153, 154, 155, 29, 256, 257, 258, 259, 260, 261, 262, 263, 341, 342, 343, 344, 345, 346, 347, 348] (by decide +kernel) (by decide +kernel)
set_option maxRecDepth 20000 in
theorem gL_law_X1_place : GoodIn wsL_law (wsV RL 77 RX1 yX1_place wsX1_place) := goodIn_app (goodIn_of _ (by decide +kernel)) ggL_law_X1_place
set_option maxRecDepth 20000 in
theorem ggL_law_X0_order : GoodIn wsL_law wsX0_order := goodIn_r _ [280, 12, 268, 269, 270, 2, 271, 240, 241, 242, 243, 20, 18, 62, 63, 64, 220, 221, 222, 223, 19, 14, 135, 136, 137, 138, 139, 140, 141, 142, 143, 244, 245, 246, 247, 281, 282, 283, 284, 285, 286, 287, 288, 248, 249, 250, 251, 333, 334, 335, 336, 337, 338, 339, 340] (by decide +kernel) (by decide +kernel)
set_option maxRecDepth 20000 in
theorem gL_law_X0_order : GoodIn wsL_law (wsV RL 78 RX0 yX0_order wsX0_order) := goodIn_app (goodIn_of _ (by decide +kernel)) ggL_law_X0_order
set_option maxRecDepth 20000 in
theorem ggL_law_X1_order : GoodIn wsL_law wsX1_order := goodIn_r _ [292, 44, 45, 46, 5, 47, 293, 294, 295, 296, 276, 225, 226, 227, 69, 70, 71, 72, 228, 229, 230, 231, 121, 122, 123, 124, 26, 27, 28, 125, 126, 127, 232, 233, 234, 235, 31, 152, 153, 154, 155, 29, 256, 257, 258, 259, 260, 261, 262, 263, 341, 342, 343, 344, 345, 346, 347, 348] (by decide +kernel) (by decide +kernel)
set_option maxRecDepth 20000 in
theorem gL_law_X1_order : GoodIn wsL_law (wsV RL 81 RX1 yX1_order wsX1_order) := goodIn_app (goodIn_of _ (by decide +kernel)) ggL_law_X1_order
set_option maxRecDepth 20000 in
theorem ggL_law_X0_verdict : GoodIn wsL_law wsX0_verdict := goodIn_r _ [300, 18, 19, 13, 14, 52, 53, 54, 2, 55, 12, 107, 108, 109, 62, 63, 64, 220, 221, 222, 223, 135, 136, 137, 138, 139, 140, 141, 142, 143, 301, 302, 303, 304, 333, 334, 335, 336, 337, 338, 339, 340] (by decide +kernel) (by decide +kernel)
set_option maxRecDepth 20000 in
theorem gL_law_X0_verdict : GoodIn wsL_law (wsV RL 82 RX0 yX0_verdict wsX0_verdict) := goodIn_app (goodIn_of _ (by decide +kernel)) ggL_law_X0_verdict
set_option maxRecDepth 20000 in
theorem ggL_law_X1_verdict : GoodIn wsL_law wsX1_verdict := goodIn_r _ [308, 30, 31, 69, 70, 71, 5, 72, 44, 45, 46, 47, 118, 119, 120, 121, 122, 123, 124, 26, 27, 28, 125, 126, 127, 232, 233, 234, 235, 152, 153, 154, 155, 29, 309, 310, 311, 312, 341, 342, 343, 344, 345, 346, 347, 348] (by decide +kernel) (by decide +kernel)
set_option maxRecDepth 20000 in
theorem gL_law_X1_verdict : GoodIn wsL_law (wsV RL 85 RX1 yX1_verdict wsX1_verdict) := goodIn_app (goodIn_of _ (by decide +kernel)) ggL_law_X1_verdict
set_option maxRecDepth 20000 in
theorem ggL_law_X0_told : GoodIn wsL_law wsX0_told := goodIn_r _ [316, 12, 13, 14, 317, 318, 319, 2, 320, 17, 321, 322, 323, 324, 18, 325, 326, 327, 328, 220, 221, 222, 223, 19, 62, 63, 64, 135, 136, 137, 138, 139, 140, 141, 142, 143, 333, 334, 335, 336, 337, 338, 339, 340] (by decide +kernel) (by decide +kernel)
set_option maxRecDepth 20000 in
theorem gL_law_X0_told : GoodIn wsL_law (wsV RL 86 RX0 yX0_told wsX0_told) := goodIn_app (goodIn_of _ (by decide +kernel)) ggL_law_X0_told
set_option maxRecDepth 20000 in
theorem ggL_law_X1_told : GoodIn wsL_law wsX1_told := goodIn_r _ [332, 44, 30, 31, 26, 45, 46, 5, 47, 121, 122, 123, 124, 27, 28, 125, 126, 127, 232, 233, 234, 235, 152, 153, 154, 155, 29, 341, 342, 343, 344, 345, 346, 347, 348] (by decide +kernel) (by decide +kernel)
set_option maxRecDepth 20000 in
theorem gL_law_X1_told : GoodIn wsL_law (wsV RL 89 RX1 yX1_told wsX1_told) := goodIn_app (goodIn_of _ (by decide +kernel)) ggL_law_X1_told
