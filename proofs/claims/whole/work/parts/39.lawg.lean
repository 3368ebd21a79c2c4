set_option maxRecDepth 20000 in
theorem ggL_law_X4_init : GoodIn wsL_law wsX4_init := goodIn_r _ [8, 9, 10, 11, 12, 13, 14, 15, 16, 17, 18, 19, 20, 21, 22, 23, 24, 25, 26, 27, 28, 29, 30, 31, 32, 33, 34, 35, 36, 37, 38, 39, 40, 41, 42, 43, 44, 45, 46, 47, 48, 49, 50, 51, 52, 53, 54, 55, 56, 57, 683, 684, 685, 686, 687, 688, 689, 690, 691, 692, 693, 656, 657, 658, 694, 695, 696, 697, 698, 699, 700, 701, 702] (by decide +kernel) (by decide +kernel)
set_option maxRecDepth 20000 in
theorem gL_law_X4_init : GoodIn wsL_law (wsX4_init) := ggL_law_X4_init
set_option maxRecDepth 20000 in
theorem ggL_law_X5_init : GoodIn wsL_law wsX5_init := goodIn_r _ [60, 61, 10, 11, 27, 62, 63, 64, 65, 66, 67, 68, 69, 70, 71, 72, 73, 74, 75, 76, 77, 78, 79, 80, 81, 82, 83, 84, 659, 660, 661, 662, 663, 664, 665, 666, 667, 668, 669, 670, 671, 672, 673, 674, 675, 676, 677, 678, 679, 680, 681, 682] (by decide +kernel) (by decide +kernel)
set_option maxRecDepth 20000 in
theorem gL_law_X5_init : GoodIn wsL_law (wsX5_init) := ggL_law_X5_init
set_option maxRecDepth 20000 in
theorem ggL_law_X4_page : GoodIn wsL_law wsX4_page := goodIn_r _ [88, 15, 89, 90, 19, 91, 92, 2, 93, 94, 95, 96, 18, 97, 47, 98, 99, 54, 100, 656, 657, 658, 683, 684, 685, 686, 687, 688, 689, 690, 691, 692, 693, 694, 695, 696, 697, 698, 699, 700] (by decide +kernel) (by decide +kernel)
set_option maxRecDepth 20000 in
theorem gL_law_X4_page : GoodIn wsL_law (wsV RL 13 RX4 yX4_page wsX4_page) := goodIn_app (goodIn_of _ (by decide +kernel)) ggL_law_X4_page
set_option maxRecDepth 20000 in
theorem ggL_law_X5_page : GoodIn wsL_law wsX5_page := goodIn_r _ [104, 105, 62, 63, 106, 107, 108, 5, 109, 659, 660, 661, 662, 663, 664, 665, 666, 667, 668, 669, 670, 671, 672, 673, 674, 675, 676, 677, 678, 679, 680, 681, 682] (by decide +kernel) (by decide +kernel)
set_option maxRecDepth 20000 in
theorem gL_law_X5_page : GoodIn wsL_law (wsV RL 17 RX5 yX5_page wsX5_page) := goodIn_app (goodIn_of _ (by decide +kernel)) ggL_law_X5_page
set_option maxRecDepth 20000 in
theorem ggL_law_X4_weight : GoodIn wsL_law wsX4_weight := goodIn_r _ [113, 15, 114, 19, 115, 116, 2, 117, 91, 92, 93, 94, 95, 96, 18, 97, 47, 98, 99, 54, 100, 656, 657, 658, 683, 684, 685, 686, 687, 688, 689, 690, 691, 692, 693, 694, 695, 696, 697, 698, 699, 700] (by decide +kernel) (by decide +kernel)
set_option maxRecDepth 20000 in
theorem gL_law_X4_weight : GoodIn wsL_law (wsV RL 18 RX4 yX4_weight wsX4_weight) := goodIn_app (goodIn_of _ (by decide +kernel)) ggL_law_X4_weight
set_option maxRecDepth 20000 in
theorem ggL_law_X5_weight : GoodIn wsL_law wsX5_weight := goodIn_r _ [121, 105, 64, 106, 107, 108, 5, 109, 659, 660, 661, 662, 663, 664, 665, 666, 667, 668, 669, 670, 671, 672, 673, 674, 675, 676, 677, 678, 679, 680, 681, 682] (by decide +kernel) (by decide +kernel)
set_option maxRecDepth 20000 in
theorem gL_law_X5_weight : GoodIn wsL_law (wsV RL 21 RX5 yX5_weight wsX5_weight) := goodIn_app (goodIn_of _ (by decide +kernel)) ggL_law_X5_weight
set_option maxRecDepth 20000 in
theorem ggL_law_X4_shape : GoodIn wsL_law wsX4_shape := goodIn_r _ [125, 15, 126, 127, 128, 19, 91, 92, 2, 93, 129, 130, 131, 132, 133, 134, 135, 136, 137, 138, 10, 11, 139, 140, 141, 142, 143, 144, 145, 146, 147, 148, 14, 149, 150, 151, 33, 31, 94, 95, 96, 18, 97, 47, 98, 99, 54, 100, 656, 657, 658, 703, 704, 705, 706, 707, 708, 709, 683, 684, 685, 686, 687, 688, 689, 690, 691, 692, 693, 694, 695, 696, 697, 698, 699, 700] (by decide +kernel) (by decide +kernel)
set_option maxRecDepth 20000 in
theorem gL_law_X4_shape : GoodIn wsL_law (wsV RL 22 RX4 yX4_shape wsX4_shape) := goodIn_app (goodIn_of _ (by decide +kernel)) ggL_law_X4_shape
set_option maxRecDepth 20000 in
theorem ggL_law_X5_shape : GoodIn wsL_law wsX5_shape := goodIn_r _ [155, 105, 65, 68, 69, 70, 71, 72, 73, 74, 67, 66, 106, 107, 108, 5, 109, 156, 157, 158, 659, 660, 661, 662, 663, 664, 665, 666, 667, 668, 669, 670, 671, 672, 673, 674, 675, 676, 677, 678, 679, 680, 681, 682] (by decide +kernel) (by decide +kernel)
set_option maxRecDepth 20000 in
theorem gL_law_X5_shape : GoodIn wsL_law (wsV RL 26 RX5 yX5_shape wsX5_shape) := goodIn_app (goodIn_of _ (by decide +kernel)) ggL_law_X5_shape
set_option maxRecDepth 20000 in
theorem ggL_law_X4_take : GoodIn wsL_law wsX4_take := goodIn_r _ [162, 15, 19, 163, 164, 165, 14, 166, 33, 92, 2, 93, 167, 168, 169, 170, 151, 31, 171, 172, 173, 174, 175, 176, 177, 178, 179, 180, 181, 182, 94, 95, 96, 18, 97, 47, 98, 99, 54, 100, 656, 657, 658, 683, 684, 685, 686, 687, 688, 689, 690, 691, 692, 693, 694, 695, 696, 697, 698, 699, 700] (by decide +kernel) (by decide +kernel)
set_option maxRecDepth 20000 in
theorem gL_law_X4_take : GoodIn wsL_law (wsV RL 27 RX4 yX4_take wsX4_take) := goodIn_app (goodIn_of _ (by decide +kernel)) ggL_law_X4_take
set_option maxRecDepth 20000 in
theorem ggL_law_X5_take : GoodIn wsL_law wsX5_take := goodIn_r _ [186, 105, 66, 67, 106, 187, 188, 189, 5, 190, 659, 660, 661, 662, 663, 664, 665, 666, 667, 668, 669, 670, 671, 672, 673, 674, 675, 676, 677, 678, 679, 680, 681, 682] (by decide +kernel) (by decide +kernel)
set_option maxRecDepth 20000 in
theorem gL_law_X5_take : GoodIn wsL_law (wsV RL 31 RX5 yX5_take wsX5_take) := goodIn_app (goodIn_of _ (by decide +kernel)) ggL_law_X5_take
set_option maxRecDepth 20000 in
theorem ggL_law_X4_move : GoodIn wsL_law wsX4_move := goodIn_r _ [194, 15, 19, 163, 164, 165, 14, 166, 33, 92, 2, 93, 132, 133, 134, 91, 195, 196, 197, 128, 198, 199, 127, 139, 142, 143, 144, 145, 200, 136, 137, 138, 10, 11, 140, 141, 201, 180, 181, 182, 94, 95, 96, 18, 97, 47, 98, 99, 54, 100, 656, 657, 658, 683, 684, 685, 686, 687, 688, 689, 690, 691, 692, 693, 703, 704, 705, 706, 707, 708, 709, 694, 695, 696, 697, 698, 699, 700] (by decide +kernel) (by decide +kernel)
set_option maxRecDepth 20000 in
theorem gL_law_X4_move : GoodIn wsL_law (wsV RL 32 RX4 yX4_move wsX4_move) := goodIn_app (goodIn_of _ (by decide +kernel)) ggL_law_X4_move
set_option maxRecDepth 20000 in
theorem ggL_law_X5_move : GoodIn wsL_law wsX5_move := goodIn_r _ [205, 105, 69, 70, 106, 187, 188, 189, 5, 190, 66, 67, 156, 157, 158, 107, 108, 109, 659, 660, 661, 662, 663, 664, 665, 666, 667, 668, 669, 670, 671, 672, 673, 674, 675, 676, 677, 678, 679, 680, 681, 682] (by decide +kernel) (by decide +kernel)
set_option maxRecDepth 20000 in
theorem gL_law_X5_move : GoodIn wsL_law (wsV RL 36 RX5 yX5_move wsX5_move) := goodIn_app (goodIn_of _ (by decide +kernel)) ggL_law_X5_move
set_option maxRecDepth 20000 in
theorem ggL_law_X4_lift : GoodIn wsL_law wsX4_lift := goodIn_r _ [209, 15, 19, 163, 164, 165, 14, 166, 33, 92, 2, 93, 210, 211, 212, 213, 151, 31, 171, 172, 173, 174, 175, 176, 177, 178, 94, 95, 96, 18, 97, 47, 98, 99, 54, 100, 656, 657, 658, 683, 684, 685, 686, 687, 688, 689, 690, 691, 692, 693, 694, 695, 696, 697, 698, 699, 700] (by decide +kernel) (by decide +kernel)
set_option maxRecDepth 20000 in
theorem gL_law_X4_lift : GoodIn wsL_law (wsV RL 37 RX4 yX4_lift wsX4_lift) := goodIn_app (goodIn_of _ (by decide +kernel)) ggL_law_X4_lift
set_option maxRecDepth 20000 in
theorem ggL_law_X5_lift : GoodIn wsL_law wsX5_lift := goodIn_r _ [217, 105, 66, 67, 106, 187, 188, 189, 5, 190, 107, 108, 109, 659, 660, 661, 662, 663, 664, 665, 666, 667, 668, 669, 670, 671, 672, 673, 674, 675, 676, 677, 678, 679, 680, 681, 682] (by decide +kernel) (by decide +kernel)
set_option maxRecDepth 20000 in
theorem gL_law_X5_lift : GoodIn wsL_law (wsV RL 41 RX5 yX5_lift wsX5_lift) := goodIn_app (goodIn_of _ (by decide +kernel)) ggL_law_X5_lift
set_option maxRecDepth 20000 in
theorem ggL_law_X4_paint : GoodIn wsL_law wsX4_paint := goodIn_r _ [221, 15, 19, 163, 164, 165, 14, 166, 33, 92, 2, 93, 129, 130, 131, 91, 222, 223, 224, 128, 225, 199, 127, 139, 140, 141, 142, 143, 200, 136, 137, 138, 10, 11, 144, 145, 201, 180, 181, 182, 94, 95, 96, 18, 97, 47, 98, 99, 54, 100, 656, 657, 658, 683, 684, 685, 686, 687, 688, 689, 690, 691, 692, 693, 703, 704, 705, 706, 707, 708, 709, 694, 695, 696, 697, 698, 699, 700] (by decide +kernel) (by decide +kernel)
set_option maxRecDepth 20000 in
theorem gL_law_X4_paint : GoodIn wsL_law (wsV RL 42 RX4 yX4_paint wsX4_paint) := goodIn_app (goodIn_of _ (by decide +kernel)) ggL_law_X4_paint
set_option maxRecDepth 20000 in
theorem ggL_law_X5_paint : GoodIn wsL_law wsX5_paint := goodIn_r _ [229, 105, 73, 74, 106, 187, 188, 189, 5, 190, 66, 67, 107, 108, 109, 659, 660, 661, 662, 663, 664, 665, 666, 667, 668, 669, 670, 671, 672, 673, 674, 675, 676, 677, 678, 679, 680, 681, 682] (by decide +kernel) (by decide +kernel)
set_option maxRecDepth 20000 in
theorem gL_law_X5_paint : GoodIn wsL_law (wsV RL 46 RX5 yX5_paint wsX5_paint) := goodIn_app (goodIn_of _ (by decide +kernel)) ggL_law_X5_paint
set_option maxRecDepth 20000 in
theorem ggL_law_X4_tell : GoodIn wsL_law wsX4_tell := goodIn_r _ [233, 15, 234, 235, 236, 237, 238, 239, 240, 19, 163, 164, 165, 14, 166, 33, 92, 2, 93, 241, 172, 173, 174, 151, 175, 176, 177, 178, 31, 242, 243, 244, 18, 245, 47, 246, 247, 248, 249, 38, 42, 43, 44, 250, 251, 252, 253, 254, 255, 256, 257, 41, 258, 57, 259, 260, 261, 262, 263, 264, 265, 266, 267, 268, 98, 99, 54, 100, 269, 270, 271, 272, 53, 55, 273, 274, 275, 276, 277, 278, 279, 280, 281, 282, 128, 283, 140, 141, 142, 143, 139, 284, 285, 286, 287, 288, 289, 290, 291, 292, 293, 294, 295, 296, 297, 298, 299, 300, 301, 302, 303, 56, 304, 305, 306, 307, 45, 308, 309, 310, 311, 312, 313, 314, 315, 316, 317, 318, 319, 320, 321, 322, 323, 324, 325, 326, 327, 328, 329, 28, 330, 331, 332, 333, 334, 335, 336, 337, 338, 339, 340, 341, 342, 343, 344, 345, 346, 347, 348, 349, 350, 46, 351, 352, 353, 354, 355, 356, 357, 358, 359, 30, 360, 361, 362, 363, 364, 365, 366, 367, 368, 656, 657, 658, 703, 704, 705, 706, 707, 708, 709, 683, 684, 685, 686, 687, 688, 689, 690, 691, 692, 693, 694, 695, 696, 697, 698, 699, 700, 701, 702] (by decide +kernel) (by decide +kernel)
set_option maxRecDepth 20000 in
theorem gL_law_X4_tell : GoodIn wsL_law (wsV RL 47 RX4 yX4_tell wsX4_tell) := goodIn_app (goodIn_of _ (by decide +kernel)) ggL_law_X4_tell
set_option maxRecDepth 20000 in
theorem ggL_law_X5_tell : GoodIn wsL_law wsX5_tell := goodIn_r _ [372, 105, 68, 69, 70, 71, 72, 73, 74, 62, 63, 79, 187, 188, 189, 5, 190, 66, 67, 373, 374, 375, 376, 106, 80, 82, 83, 377, 378, 379, 380, 107, 108, 109, 381, 382, 383, 384, 75, 385, 386, 387, 388, 389, 390, 391, 392, 393, 394, 395, 396, 64, 659, 660, 661, 662, 663, 664, 665, 666, 667, 668, 669, 670, 671, 672, 673, 674, 675, 676, 677, 678, 679, 680, 681, 682] (by decide +kernel) (by decide +kernel)
set_option maxRecDepth 20000 in
theorem gL_law_X5_tell : GoodIn wsL_law (wsV RL 51 RX5 yX5_tell wsX5_tell) := goodIn_app (goodIn_of _ (by decide +kernel)) ggL_law_X5_tell
set_option maxRecDepth 20000 in
theorem ggL_law_X4_cell : GoodIn wsL_law wsX4_cell := goodIn_r _ [400, 15, 19, 401, 402, 403, 404, 405, 406, 14, 407, 25, 26, 92, 2, 93, 242, 243, 244, 18, 245, 47, 246, 247, 248, 249, 38, 42, 43, 44, 250, 251, 252, 253, 254, 255, 256, 257, 41, 258, 57, 259, 260, 176, 177, 178, 31, 261, 164, 165, 166, 33, 262, 263, 264, 265, 266, 267, 268, 98, 99, 54, 100, 269, 270, 271, 272, 53, 55, 273, 274, 275, 276, 277, 278, 279, 280, 281, 282, 128, 283, 140, 141, 142, 143, 139, 284, 285, 286, 287, 288, 289, 290, 291, 292, 293, 294, 295, 296, 297, 298, 299, 300, 301, 302, 303, 56, 304, 305, 306, 307, 45, 308, 309, 310, 311, 312, 313, 314, 315, 316, 317, 318, 319, 320, 321, 322, 323, 324, 325, 326, 327, 328, 329, 28, 330, 331, 332, 333, 334, 335, 336, 337, 338, 339, 340, 341, 342, 343, 344, 345, 346, 347, 348, 349, 350, 46, 351, 352, 353, 354, 355, 356, 357, 358, 359, 30, 360, 361, 362, 363, 364, 408, 409, 410, 411, 412, 413, 414, 415, 416, 417, 418, 419, 420, 421, 422, 423, 424, 425, 426, 427, 428, 429, 430, 431, 656, 657, 658, 694, 695, 696, 697, 698, 699, 700, 683, 684, 685, 686, 687, 688, 689, 690, 691, 692, 693, 701, 702, 703, 704, 705, 706, 707, 708, 709] (by decide +kernel) (by decide +kernel)
set_option maxRecDepth 20000 in
theorem gL_law_X4_cell : GoodIn wsL_law (wsV RL 52 RX4 yX4_cell wsX4_cell) := goodIn_app (goodIn_of _ (by decide +kernel)) ggL_law_X4_cell
set_option maxRecDepth 20000 in
theorem ggL_law_X5_cell : GoodIn wsL_law wsX5_cell := goodIn_r _ [435, 105, 80, 82, 79, 83, 385, 386, 387, 5, 388, 62, 63, 107, 108, 109, 373, 374, 375, 376, 106, 66, 67, 73, 74, 377, 378, 379, 380, 69, 70, 71, 72, 68, 381, 382, 383, 384, 75, 389, 390, 391, 392, 393, 394, 395, 396, 64, 436, 437, 438, 439, 76, 77, 440, 441, 442, 443, 78, 444, 445, 446, 447, 659, 660, 661, 662, 663, 664, 665, 666, 667, 668, 669, 670, 671, 672, 673, 674, 675, 676, 677, 678, 679, 680, 681, 682] (by decide +kernel) (by decide +kernel)
set_option maxRecDepth 20000 in
theorem gL_law_X5_cell : GoodIn wsL_law (wsV RL 56 RX5 yX5_cell wsX5_cell) := goodIn_app (goodIn_of _ (by decide +kernel)) ggL_law_X5_cell
set_option maxRecDepth 20000 in
theorem ggL_law_X4_inner : GoodIn wsL_law wsX4_inner := goodIn_r _ [451, 15, 19, 452, 404, 405, 406, 14, 407, 25, 26, 92, 2, 93, 91, 242, 243, 244, 18, 245, 47, 246, 247, 248, 249, 38, 42, 43, 44, 250, 251, 252, 253, 254, 255, 256, 257, 41, 258, 57, 259, 260, 176, 177, 178, 31, 261, 164, 165, 166, 33, 262, 263, 264, 265, 266, 267, 268, 98, 99, 54, 100, 269, 270, 271, 272, 53, 55, 273, 274, 275, 276, 277, 278, 279, 280, 281, 282, 128, 283, 140, 141, 142, 143, 139, 284, 285, 286, 287, 288, 289, 290, 291, 292, 293, 294, 295, 296, 297, 298, 299, 300, 301, 302, 303, 56, 304, 305, 306, 307, 45, 308, 309, 310, 311, 312, 313, 314, 315, 316, 317, 318, 319, 320, 321, 322, 323, 324, 325, 326, 327, 328, 329, 28, 330, 331, 332, 333, 334, 335, 336, 337, 338, 339, 340, 341, 342, 343, 344, 345, 346, 347, 348, 349, 350, 46, 351, 352, 353, 354, 355, 356, 357, 358, 359, 30, 360, 361, 362, 363, 364, 453, 454, 455, 456, 656, 657, 658, 694, 695, 696, 697, 698, 699, 700, 683, 684, 685, 686, 687, 688, 689, 690, 691, 692, 693, 701, 702, 703, 704, 705, 706, 707, 708, 709] (by decide +kernel) (by decide +kernel)
set_option maxRecDepth 20000 in
theorem gL_law_X4_inner : GoodIn wsL_law (wsV RL 57 RX4 yX4_inner wsX4_inner) := goodIn_app (goodIn_of _ (by decide +kernel)) ggL_law_X4_inner
set_option maxRecDepth 20000 in
theorem ggL_law_X5_inner : GoodIn wsL_law wsX5_inner := goodIn_r _ [460, 105, 373, 374, 375, 5, 376, 106, 62, 63, 79, 66, 67, 80, 73, 82, 74, 83, 377, 378, 379, 380, 69, 70, 71, 72, 68, 107, 108, 109, 381, 382, 383, 384, 75, 385, 386, 387, 388, 389, 390, 391, 392, 393, 394, 395, 396, 64, 461, 462, 463, 464, 659, 660, 661, 662, 663, 664, 665, 666, 667, 668, 669, 670, 671, 672, 673, 674, 675, 676, 677, 678, 679, 680, 681, 682] (by decide +kernel) (by decide +kernel)
set_option maxRecDepth 20000 in
theorem gL_law_X5_inner : GoodIn wsL_law (wsV RL 60 RX5 yX5_inner wsX5_inner) := goodIn_app (goodIn_of _ (by decide +kernel)) ggL_law_X5_inner
set_option maxRecDepth 20000 in
theorem ggL_law_X4_lighter : GoodIn wsL_law wsX4_lighter := goodIn_r _ [468, 15, 129, 130, 2, 131, 91, 92, 93, 469, 323, 324, 14, 325, 326, 327, 328, 329, 28, 294, 295, 656, 657, 658, 683, 684, 685, 686, 687, 688, 689, 690, 691, 692, 693] (by decide +kernel) (by decide +kernel)
set_option maxRecDepth 20000 in
theorem gL_law_X4_lighter : GoodIn wsL_law (wsV RL 61 RX4 yX4_lighter wsX4_lighter) := goodIn_app (goodIn_of _ (by decide +kernel)) ggL_law_X4_lighter
set_option maxRecDepth 20000 in
theorem ggL_law_X5_lighter : GoodIn wsL_law wsX5_lighter := goodIn_r _ [473, 105, 107, 108, 5, 109, 389, 390, 391, 392, 393, 394, 395, 396, 64, 659, 660, 661, 662, 663, 664, 665, 666, 667, 668, 669, 670, 671, 672, 673, 674, 675, 676, 677, 678, 679, 680, 681, 682] (by decide +kernel) (by decide +kernel)
set_option maxRecDepth 20000 in
theorem gL_law_X5_lighter : GoodIn wsL_law (wsV RL 64 RX5 yX5_lighter wsX5_lighter) := goodIn_app (goodIn_of _ (by decide +kernel)) ggL_law_X5_lighter
set_option maxRecDepth 20000 in
theorem ggL_law_X4_trap : GoodIn wsL_law wsX4_trap := goodIn_r _ [477, 15, 478, 19, 402, 401, 91, 92, 2, 93, 94, 95, 96, 18, 97, 47, 98, 99, 54, 100, 242, 243, 244, 245, 246, 247, 248, 249, 38, 42, 43, 44, 250, 251, 252, 253, 254, 255, 256, 257, 41, 258, 57, 259, 260, 176, 177, 14, 178, 31, 261, 164, 165, 166, 33, 262, 263, 264, 265, 266, 267, 268, 269, 270, 271, 272, 53, 55, 273, 274, 275, 276, 277, 278, 279, 280, 281, 282, 128, 283, 140, 141, 142, 143, 139, 284, 285, 286, 287, 288, 289, 290, 291, 292, 293, 294, 295, 296, 297, 298, 299, 300, 301, 302, 303, 56, 304, 305, 306, 307, 45, 308, 309, 310, 311, 312, 313, 314, 315, 316, 317, 318, 319, 320, 321, 322, 323, 324, 325, 326, 327, 328, 329, 28, 330, 331, 332, 333, 334, 335, 336, 337, 338, 339, 340, 341, 342, 343, 344, 345, 346, 347, 348, 349, 350, 46, 351, 352, 353, 354, 355, 356, 357, 358, 359, 30, 360, 361, 362, 363, 364, 479, 480, 481, 482, 483, 484, 485, 486, 487, 488, 489, 656, 657, 658, 683, 684, 685, 686, 687, 688, 689, 690, 691, 692, 693, 694, 695, 696, 697, 698, 699, 700, 701, 702, 703, 704, 705, 706, 707, 708, 709] (by decide +kernel) (by decide +kernel)
set_option maxRecDepth 20000 in
theorem gL_law_X4_trap : GoodIn wsL_law (wsV RL 65 RX4 yX4_trap wsX4_trap) := goodIn_app (goodIn_of _ (by decide +kernel)) ggL_law_X4_trap
set_option maxRecDepth 20000 in
theorem ggL_law_X5_trap : GoodIn wsL_law wsX5_trap := goodIn_r _ [493, 105, 75, 106, 62, 63, 80, 107, 108, 5, 109, 373, 374, 375, 376, 79, 66, 67, 73, 82, 74, 83, 377, 378, 379, 380, 69, 70, 71, 72, 68, 381, 382, 383, 384, 385, 386, 387, 388, 389, 390, 391, 392, 393, 394, 395, 396, 64, 494, 495, 496, 497, 498, 499, 500, 659, 660, 661, 662, 663, 664, 665, 666, 667, 668, 669, 670, 671, 672, 673, 674, 675, 676, 677, 678, 679, 680, 681, 682] (by decide +kernel) (by decide +kernel)
set_option maxRecDepth 20000 in
theorem gL_law_X5_trap : GoodIn wsL_law (wsV RL 69 RX5 yX5_trap wsX5_trap) := goodIn_app (goodIn_of _ (by decide +kernel)) ggL_law_X5_trap
set_option maxRecDepth 20000 in
theorem ggL_law_X4_off : GoodIn wsL_law wsX4_off := goodIn_r _ [504, 15, 505, 506, 19, 115, 116, 2, 117, 91, 92, 93, 507, 508, 509, 94, 95, 96, 18, 97, 47, 98, 99, 54, 100, 656, 657, 658, 683, 684, 685, 686, 687, 688, 689, 690, 691, 692, 693, 694, 695, 696, 697, 698, 699, 700] (by decide +kernel) (by decide +kernel)
set_option maxRecDepth 20000 in
theorem gL_law_X4_off : GoodIn wsL_law (wsV RL 70 RX4 yX4_off wsX4_off) := goodIn_app (goodIn_of _ (by decide +kernel)) ggL_law_X4_off
set_option maxRecDepth 20000 in
theorem ggL_law_X5_off : GoodIn wsL_law wsX5_off := goodIn_r _ [513, 105, 76, 77, 107, 108, 5, 109, 659, 660, 661, 662, 663, 664, 665, 666, 667, 668, 669, 670, 671, 672, 673, 674, 675, 676, 677, 678, 679, 680, 681, 682] (by decide +kernel) (by decide +kernel)
set_option maxRecDepth 20000 in
theorem gL_law_X5_off : GoodIn wsL_law (wsV RL 73 RX5 yX5_off wsX5_off) := goodIn_app (goodIn_of _ (by decide +kernel)) ggL_law_X5_off
set_option maxRecDepth 20000 in
theorem ggL_law_X4_creep : GoodIn wsL_law wsX4_creep := goodIn_r _ [517, 15, 518, 19, 91, 92, 2, 93, 94, 95, 96, 18, 97, 47, 98, 99, 54, 100, 656, 657, 658, 683, 684, 685, 686, 687, 688, 689, 690, 691, 692, 693, 694, 695, 696, 697, 698, 699, 700] (by decide +kernel) (by decide +kernel)
set_option maxRecDepth 20000 in
theorem gL_law_X4_creep : GoodIn wsL_law (wsV RL 74 RX4 yX4_creep wsX4_creep) := goodIn_app (goodIn_of _ (by decide +kernel)) ggL_law_X4_creep
set_option maxRecDepth 20000 in
theorem ggL_law_X5_creep : GoodIn wsL_law wsX5_creep := goodIn_r _ [522, 105, 78, 107, 108, 5, 109, 659, 660, 661, 662, 663, 664, 665, 666, 667, 668, 669, 670, 671, 672, 673, 674, 675, 676, 677, 678, 679, 680, 681, 682] (by decide +kernel) (by decide +kernel)
set_option maxRecDepth 20000 in
theorem gL_law_X5_creep : GoodIn wsL_law (wsV RL 77 RX5 yX5_creep wsX5_creep) := goodIn_app (goodIn_of _ (by decide +kernel)) ggL_law_X5_creep
set_option maxRecDepth 20000 in
theorem ggL_law_X4_right : GoodIn wsL_law wsX4_right := goodIn_r _ [526, 15, 19, 527, 528, 529, 14, 530, 360, 29, 30, 531, 252, 253, 254, 94, 95, 96, 18, 97, 47, 98, 99, 54, 100, 656, 657, 658, 683, 684, 685, 686, 687, 688, 689, 690, 691, 692, 693, 694, 695, 696, 697, 698, 699, 700] (by decide +kernel) (by decide +kernel)
set_option maxRecDepth 20000 in
theorem gL_law_X4_right : GoodIn wsL_law (wsV RL 78 RX4 yX4_right wsX4_right) := goodIn_app (goodIn_of _ (by decide +kernel)) ggL_law_X4_right
set_option maxRecDepth 20000 in
theorem ggL_law_X5_right : GoodIn wsL_law wsX5_right := goodIn_r _ [535, 105, 76, 77, 78, 659, 660, 661, 662, 663, 664, 665, 666, 667, 668, 669, 670, 671, 672, 673, 674, 675, 676, 677, 678, 679, 680, 681, 682] (by decide +kernel) (by decide +kernel)
set_option maxRecDepth 20000 in
theorem gL_law_X5_right : GoodIn wsL_law (wsV RL 81 RX5 yX5_right wsX5_right) := goodIn_app (goodIn_of _ (by decide +kernel)) ggL_law_X5_right
set_option maxRecDepth 20000 in
theorem ggL_law_X4_count : GoodIn wsL_law wsX4_count := goodIn_r _ [539, 19, 15, 402, 540, 478, 89, 90, 518, 242, 243, 244, 18, 245, 47, 246, 247, 248, 249, 38, 42, 43, 44, 250, 251, 252, 253, 254, 255, 256, 257, 41, 258, 57, 259, 260, 176, 177, 14, 178, 31, 92, 2, 93, 261, 164, 165, 166, 33, 262, 263, 264, 265, 266, 267, 268, 98, 99, 54, 100, 269, 270, 271, 272, 53, 55, 273, 274, 275, 276, 277, 278, 279, 280, 281, 282, 128, 283, 140, 141, 142, 143, 139, 284, 285, 286, 287, 288, 289, 290, 291, 292, 293, 294, 295, 296, 297, 298, 299, 300, 301, 302, 303, 56, 304, 305, 306, 307, 45, 308, 309, 310, 311, 312, 313, 314, 315, 316, 317, 318, 319, 320, 321, 322, 323, 324, 325, 326, 327, 328, 329, 28, 330, 331, 332, 333, 334, 335, 336, 337, 338, 339, 340, 341, 342, 343, 344, 345, 346, 347, 348, 349, 350, 46, 351, 352, 353, 354, 355, 356, 357, 358, 359, 30, 360, 361, 362, 363, 364, 541, 542, 543, 544, 424, 425, 426, 427, 545, 484, 485, 486, 487, 488, 489, 546, 547, 548, 549, 550, 421, 422, 423, 551, 552, 553, 554, 555, 429, 430, 431, 556, 557, 558, 559, 29, 560, 561, 562, 563, 26, 564, 479, 480, 481, 482, 483, 565, 566, 567, 568, 569, 409, 410, 411, 412, 656, 657, 658, 694, 695, 696, 697, 698, 699, 700, 683, 684, 685, 686, 687, 688, 689, 690, 691, 692, 693, 701, 702, 703, 704, 705, 706, 707, 708, 709] (by decide +kernel) (by decide +kernel)
set_option maxRecDepth 20000 in
theorem gL_law_X4_count : GoodIn wsL_law (wsV RL 82 RX4 yX4_count wsX4_count) := goodIn_app (goodIn_of _ (by decide +kernel)) ggL_law_X4_count
set_option maxRecDepth 20000 in
theorem ggL_law_X5_count : GoodIn wsL_law wsX5_count := goodIn_r _ [573, 105, 66, 75, 62, 63, 78, 80, 373, 374, 375, 5, 376, 106, 79, 67, 73, 82, 74, 83, 377, 378, 379, 380, 69, 70, 71, 72, 68, 107, 108, 109, 381, 382, 383, 384, 385, 386, 387, 388, 389, 390, 391, 392, 393, 394, 395, 396, 64, 574, 575, 576, 577, 76, 77, 578, 579, 580, 440, 441, 442, 443, 494, 495, 496, 497, 498, 499, 500, 436, 437, 438, 439, 444, 445, 446, 447, 659, 660, 661, 662, 663, 664, 665, 666, 667, 668, 669, 670, 671, 672, 673, 674, 675, 676, 677, 678, 679, 680, 681, 682] (by decide +kernel) (by decide +kernel)
set_option maxRecDepth 20000 in
theorem gL_law_X5_count : GoodIn wsL_law (wsV RL 85 RX5 yX5_count wsX5_count) := goodIn_app (goodIn_of _ (by decide +kernel)) ggL_law_X5_count
set_option maxRecDepth 20000 in
theorem ggL_law_X4_bare : GoodIn wsL_law wsX4_bare := goodIn_r _ [584, 19, 15, 115, 116, 2, 117, 91, 92, 93, 507, 508, 509, 242, 243, 244, 18, 245, 47, 246, 247, 248, 249, 38, 42, 43, 44, 250, 251, 252, 253, 254, 255, 256, 257, 41, 258, 57, 259, 260, 176, 177, 14, 178, 31, 261, 164, 165, 166, 33, 262, 263, 264, 265, 266, 267, 268, 98, 99, 54, 100, 269, 270, 271, 272, 53, 55, 273, 274, 275, 276, 277, 278, 279, 280, 281, 282, 128, 283, 140, 141, 142, 143, 139, 284, 285, 286, 287, 288, 289, 290, 291, 292, 293, 294, 295, 296, 297, 298, 299, 300, 301, 302, 303, 56, 304, 305, 306, 307, 45, 308, 309, 310, 311, 312, 313, 314, 315, 316, 317, 318, 319, 320, 321, 322, 323, 324, 325, 326, 327, 328, 329, 28, 330, 331, 332, 333, 334, 335, 336, 337, 338, 339, 340, 341, 342, 343, 344, 345, 346, 347, 348, 349, 350, 46, 351, 352, 353, 354, 355, 356, 357, 358, 359, 30, 360, 361, 362, 363, 364, 585, 586, 587, 588, 424, 425, 426, 427, 545, 484, 485, 486, 487, 488, 489, 656, 657, 658, 694, 695, 696, 697, 698, 699, 700, 683, 684, 685, 686, 687, 688, 689, 690, 691, 692, 693, 701, 702, 703, 704, 705, 706, 707, 708, 709] (by decide +kernel) (by decide +kernel)
set_option maxRecDepth 20000 in
theorem gL_law_X4_bare : GoodIn wsL_law (wsV RL 86 RX4 yX4_bare wsX4_bare) := goodIn_app (goodIn_of _ (by decide +kernel)) ggL_law_X4_bare
set_option maxRecDepth 20000 in
theorem ggL_law_X5_bare : GoodIn wsL_law wsX5_bare := goodIn_r _ [592, 105, 62, 63, 107, 108, 5, 109, 373, 374, 375, 376, 106, 79, 66, 67, 80, 73, 82, 74, 83, 377, 378, 379, 380, 69, 70, 71, 72, 68, 381, 382, 383, 384, 75, 385, 386, 387, 388, 389, 390, 391, 392, 393, 394, 395, 396, 64, 593, 594, 595, 596, 444, 445, 446, 447, 659, 660, 661, 662, 663, 664, 665, 666, 667, 668, 669, 670, 671, 672, 673, 674, 675, 676, 677, 678, 679, 680, 681, 682] (by decide +kernel) (by decide +kernel)
set_option maxRecDepth 20000 in
theorem gL_law_X5_bare : GoodIn wsL_law (wsV RL 89 RX5 yX5_bare wsX5_bare) := goodIn_app (goodIn_of _ (by decide +kernel)) ggL_law_X5_bare
set_option maxRecDepth 20000 in
theorem ggL_law_X4_safe : GoodIn wsL_law wsX4_safe := goodIn_r _ [600, 19, 15, 242, 243, 244, 18, 245, 47, 246, 247, 248, 249, 38, 42, 43, 44, 250, 251, 252, 253, 254, 255, 256, 257, 41, 258, 57, 259, 260, 176, 177, 14, 178, 31, 92, 2, 93, 261, 164, 165, 166, 33, 262, 263, 264, 265, 266, 267, 268, 98, 99, 54, 100, 269, 270, 271, 272, 53, 55, 273, 274, 275, 276, 277, 278, 279, 280, 281, 282, 128, 283, 140, 141, 142, 143, 139, 284, 285, 286, 287, 288, 289, 290, 291, 292, 293, 294, 295, 296, 297, 298, 299, 300, 301, 302, 303, 56, 304, 305, 306, 307, 45, 308, 309, 310, 311, 312, 313, 314, 315, 316, 317, 318, 319, 320, 321, 322, 323, 324, 325, 326, 327, 328, 329, 28, 330, 331, 332, 333, 334, 335, 336, 337, 338, 339, 340, 341, 342, 343, 344, 345, 346, 347, 348, 349, 350, 46, 351, 352, 353, 354, 355, 356, 357, 358, 359, 30, 360, 361, 362, 363, 364, 601, 602, 603, 604, 605, 454, 455, 456, 424, 425, 426, 427, 656, 657, 658, 694, 695, 696, 697, 698, 699, 700, 683, 684, 685, 686, 687, 688, 689, 690, 691, 692, 693, 701, 702, 703, 704, 705, 706, 707, 708, 709] (by decide +kernel) (by decide +kernel)
set_option maxRecDepth 20000 in
theorem gL_law_X4_safe : GoodIn wsL_law (wsV RL 90 RX4 yX4_safe wsX4_safe) := goodIn_app (goodIn_of _ (by decide +kernel)) ggL_law_X4_safe
set_option maxRecDepth 20000 in
theorem ggL_law_X5_safe : GoodIn wsL_law wsX5_safe := goodIn_r _ [609, 105, 373, 374, 375, 5, 376, 106, 62, 63, 79, 66, 67, 80, 73, 82, 74, 83, 377, 378, 379, 380, 69, 70, 71, 72, 68, 107, 108, 109, 381, 382, 383, 384, 75, 385, 386, 387, 388, 389, 390, 391, 392, 393, 394, 395, 396, 64, 610, 611, 612, 613, 461, 462, 463, 464, 614, 615, 616, 617, 593, 594, 595, 596, 444, 445, 446, 447, 659, 660, 661, 662, 663, 664, 665, 666, 667, 668, 669, 670, 671, 672, 673, 674, 675, 676, 677, 678, 679, 680, 681, 682] (by decide +kernel) (by decide +kernel)
set_option maxRecDepth 20000 in
theorem gL_law_X5_safe : GoodIn wsL_law (wsV RL 94 RX5 yX5_safe wsX5_safe) := goodIn_app (goodIn_of _ (by decide +kernel)) ggL_law_X5_safe
set_option maxRecDepth 20000 in
theorem ggL_law_X4_plate : GoodIn wsL_law wsX4_plate := goodIn_r _ [621, 15, 89, 19, 402, 115, 116, 2, 117, 91, 92, 93, 242, 243, 244, 18, 245, 47, 246, 247, 248, 249, 38, 42, 43, 44, 250, 251, 252, 253, 254, 255, 256, 257, 41, 258, 57, 259, 260, 176, 177, 14, 178, 31, 261, 164, 165, 166, 33, 262, 263, 264, 265, 266, 267, 268, 98, 99, 54, 100, 269, 270, 271, 272, 53, 55, 273, 274, 275, 276, 277, 278, 279, 280, 281, 282, 128, 283, 140, 141, 142, 143, 139, 284, 285, 286, 287, 288, 289, 290, 291, 292, 293, 294, 295, 296, 297, 298, 299, 300, 301, 302, 303, 56, 304, 305, 306, 307, 45, 308, 309, 310, 311, 312, 313, 314, 315, 316, 317, 318, 319, 320, 321, 322, 323, 324, 325, 326, 327, 328, 329, 28, 330, 331, 332, 333, 334, 335, 336, 337, 338, 339, 340, 341, 342, 343, 344, 345, 346, 347, 348, 349, 350, 46, 351, 352, 353, 354, 355, 356, 357, 358, 359, 30, 360, 361, 362, 363, 364, 622, 656, 657, 658, 683, 684, 685, 686, 687, 688, 689, 690, 691, 692, 693, 694, 695, 696, 697, 698, 699, 700, 701, 702, 703, 704, 705, 706, 707, 708, 709] (by decide +kernel) (by decide +kernel)
set_option maxRecDepth 20000 in
theorem gL_law_X4_plate : GoodIn wsL_law (wsV RL 95 RX4 yX4_plate wsX4_plate) := goodIn_app (goodIn_of _ (by decide +kernel)) ggL_law_X4_plate
set_option maxRecDepth 20000 in
theorem ggL_law_X5_plate : GoodIn wsL_law wsX5_plate := goodIn_r _ [626, 105, 62, 63, 83, 107, 108, 5, 109, 373, 374, 375, 376, 106, 79, 66, 67, 80, 73, 82, 74, 377, 378, 379, 380, 69, 70, 71, 72, 68, 381, 382, 383, 384, 75, 385, 386, 387, 388, 389, 390, 391, 392, 393, 394, 395, 396, 64, 659, 660, 661, 662, 663, 664, 665, 666, 667, 668, 669, 670, 671, 672, 673, 674, 675, 676, 677, 678, 679, 680, 681, 682] (by decide +kernel) (by decide +kernel)
set_option maxRecDepth 20000 in
theorem gL_law_X5_plate : GoodIn wsL_law (wsV RL 98 RX5 yX5_plate wsX5_plate) := goodIn_app (goodIn_of _ (by decide +kernel)) ggL_law_X5_plate
set_option maxRecDepth 20000 in
theorem ggL_law_X4_image : GoodIn wsL_law wsX4_image := goodIn_r _ [630, 20, 12, 13, 14, 15, 91, 92, 2, 93, 21, 22, 23, 24, 10, 11, 25, 26, 27, 28, 29, 30, 31, 32, 33, 631, 632, 633, 634, 635, 360, 151, 150, 636, 315, 316, 317, 656, 657, 658, 683, 684, 685, 686, 687, 688, 689, 690, 691, 692, 693] (by decide +kernel) (by decide +kernel)
set_option maxRecDepth 20000 in
theorem gL_law_X4_image : GoodIn wsL_law (wsV RL 99 RX4 yX4_image wsX4_image) := goodIn_app (goodIn_of _ (by decide +kernel)) ggL_law_X4_image
set_option maxRecDepth 20000 in
theorem ggL_law_X5_image : GoodIn wsL_law wsX5_image := goodIn_r _ [640, 105, 84, 107, 108, 5, 109, 641, 642, 643, 644, 62, 63, 64, 65, 66, 67, 68, 69, 70, 71, 72, 73, 74, 75, 76, 77, 78, 645, 646, 647, 659, 660, 661, 662, 663, 664, 665, 666, 667, 668, 669, 670, 671, 672, 673, 674, 675, 676, 677, 678, 679, 680, 681, 682] (by decide +kernel) (by decide +kernel)
set_option maxRecDepth 20000 in
theorem gL_law_X5_image : GoodIn wsL_law (wsV RL 102 RX5 yX5_image wsX5_image) := goodIn_app (goodIn_of _ (by decide +kernel)) ggL_law_X5_image
set_option maxRecDepth 20000 in
theorem ggL_law_X4_again : GoodIn wsL_law wsX4_again := goodIn_r _ [651, 20, 15, 19, 91, 92, 2, 93, 631, 632, 633, 14, 634, 25, 26, 635, 360, 151, 150, 28, 636, 315, 316, 317, 29, 30, 31, 33, 94, 95, 96, 18, 97, 47, 98, 99, 54, 100, 656, 657, 658, 683, 684, 685, 686, 687, 688, 689, 690, 691, 692, 693, 694, 695, 696, 697, 698, 699, 700] (by decide +kernel) (by decide +kernel)
set_option maxRecDepth 20000 in
theorem gL_law_X4_again : GoodIn wsL_law (wsV RL 103 RX4 yX4_again wsX4_again) := goodIn_app (goodIn_of _ (by decide +kernel)) ggL_law_X4_again
set_option maxRecDepth 20000 in
theorem ggL_law_X5_again : GoodIn wsL_law wsX5_again := goodIn_r _ [655, 105, 84, 106, 107, 108, 5, 109, 641, 642, 643, 644, 62, 63, 64, 65, 66, 67, 68, 69, 70, 71, 72, 73, 74, 75, 76, 77, 78, 645, 646, 647, 659, 660, 661, 662, 663, 664, 665, 666, 667, 668, 669, 670, 671, 672, 673, 674, 675, 676, 677, 678, 679, 680, 681, 682] (by decide +kernel) (by decide +kernel)
set_option maxRecDepth 20000 in
theorem gL_law_X5_again : GoodIn wsL_law (wsV RL 106 RX5 yX5_again wsX5_again) := goodIn_app (goodIn_of _ (by decide +kernel)) ggL_law_X5_again


