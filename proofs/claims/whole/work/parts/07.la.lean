theorem dL_cell_0 : decode cL_cell 0 = .ok (.iload_n 1, 1) := by decide +kernel
theorem dL_cell_1 : decode cL_cell 1 = .ok (.aload_n 0, 1) := by decide +kernel
theorem dL_cell_2 : decode cL_cell 2 = .ok (.arraylength, 1) := by decide +kernel
theorem dL_cell_3 : decode cL_cell 3 = .ok (.if_icmp .ge 9, 3) := by decide +kernel
theorem dL_cell_6 : decode cL_cell 6 = .ok (.aload_n 0, 1) := by decide +kernel
theorem dL_cell_7 : decode cL_cell 7 = .ok (.iload_n 1, 1) := by decide +kernel
theorem dL_cell_8 : decode cL_cell 8 = .ok (.iaload, 1) := by decide +kernel
theorem dL_cell_9 : decode cL_cell 9 = .ok (.goto 4, 3) := by decide +kernel
theorem dL_cell_12 : decode cL_cell 12 = .ok (.iconst 0, 1) := by decide +kernel
theorem dL_cell_13 : decode cL_cell 13 = .ok (.ireturn, 1) := by decide +kernel
set_option maxRecDepth 100000 in
theorem ggL_law_L_cell : GoodIn wsL_law wsL_cell := goodIn_r _ [10] rfl (by decide +kernel)
set_option maxRecDepth 100000 in
theorem gL_law_L_cell : GoodIn wsL_law (va_wsS RL 9 yL_cell wsL_cell) := goodIn_app (goodIn_of _ (by decide +kernel)) ggL_law_L_cell
set_option maxRecDepth 100000 in
theorem ggL_law_X9_init : GoodIn wsL_law wsX9_init := goodIn_r _ [13, 14, 15, 16, 17, 18, 19, 20, 21, 22, 23, 24, 25, 26, 27, 28, 29, 30, 31, 32, 33, 34, 35, 36, 37, 38, 39, 40, 41, 42, 43, 44, 45, 46, 47, 48, 49, 50, 51, 52, 53, 54, 55, 56, 57, 58, 59, 60, 61, 62, 63, 64, 65, 66, 67, 68, 69, 70, 71, 72, 73, 74, 75, 76, 77, 78, 79, 80, 81, 82, 83, 84, 85, 86, 87, 88, 89, 90, 91, 92, 93, 94, 95, 96, 97, 98, 99, 100, 101, 102, 103, 104, 105, 106, 107, 108, 109, 110, 111, 112, 113, 744, 745, 746, 747, 748, 749, 750, 751, 752, 753, 754, 755, 756, 757, 698, 699, 700, 701, 702, 703, 704, 705, 706, 707, 708, 709, 710, 758, 759, 760, 761, 762, 763, 764, 765, 766, 767, 768, 769, 770, 771, 772, 773, 774, 775, 776, 777, 778, 779, 780, 781, 782, 783, 784, 785, 786, 787, 788, 789] rfl (by decide +kernel)
set_option maxRecDepth 100000 in
theorem gL_law_X9_init : GoodIn wsL_law (wsX9_init) := ggL_law_X9_init
set_option maxRecDepth 100000 in
theorem ggL_law_X10_init : GoodIn wsL_law wsX10_init := goodIn_r _ [116, 117, 15, 16, 61, 118, 119, 120, 121, 122, 123, 124, 125, 126, 127, 128, 129, 130, 131, 132, 5, 133, 711, 712, 713, 714, 715, 716, 717, 718, 719, 720, 721, 722, 723, 724, 725, 726, 727, 728, 729, 730, 731, 732, 733, 734, 735, 736, 737, 738, 739, 740, 741, 742, 743] rfl (by decide +kernel)
set_option maxRecDepth 100000 in
theorem gL_law_X10_init : GoodIn wsL_law (wsX10_init) := ggL_law_X10_init
set_option maxRecDepth 100000 in
theorem ggL_law_X9_put : GoodIn wsL_law wsX9_put := goodIn_r _ [137, 28, 138, 139, 140, 19, 141, 142, 143, 144, 145, 146, 147, 148, 149, 62, 698, 699, 700, 701, 702, 703, 704, 705, 706, 707, 708, 709, 710, 744] rfl (by decide +kernel)
set_option maxRecDepth 100000 in
theorem gL_law_X9_put : GoodIn wsL_law (wsV RL 23 RX9 yX9_put wsX9_put) := goodIn_app (goodIn_of _ (by decide +kernel)) ggL_law_X9_put
set_option maxRecDepth 100000 in
theorem ggL_law_X10_put : GoodIn wsL_law wsX10_put := goodIn_r _ [153, 118, 154, 131, 132, 5, 133, 155, 156, 157, 158, 711, 712, 713, 714, 715, 716, 717, 718, 719, 720, 721, 722, 723, 724, 725, 726, 727, 728, 729, 730, 731, 732, 733, 734, 735, 736, 737, 738, 739, 740, 741, 742, 743] rfl (by decide +kernel)
set_option maxRecDepth 100000 in
theorem gL_law_X10_put : GoodIn wsL_law (wsV RL 27 RX10 yX10_put wsX10_put) := goodIn_app (goodIn_of _ (by decide +kernel)) ggL_law_X10_put
set_option maxRecDepth 100000 in
theorem ggL_law_X9_at : GoodIn wsL_law wsX9_at := goodIn_r _ [162, 28, 138, 139, 140, 19, 141, 163, 164, 165, 166, 62, 698, 699, 700, 701, 702, 703, 704, 705, 706, 707, 708, 709, 710, 744] rfl (by decide +kernel)
set_option maxRecDepth 100000 in
theorem gL_law_X9_at : GoodIn wsL_law (wsV RL 28 RX9 yX9_at wsX9_at) := goodIn_app (goodIn_of _ (by decide +kernel)) ggL_law_X9_at
set_option maxRecDepth 100000 in
theorem ggL_law_X10_at : GoodIn wsL_law wsX10_at := goodIn_r _ [170, 118, 155, 156, 5, 157, 158, 711, 712, 713, 714, 715, 716, 717, 718, 719, 720, 721, 722, 723, 724, 725, 726, 727, 728, 729, 730, 731, 732, 733, 734, 735, 736, 737, 738, 739, 740, 741, 742, 743] rfl (by decide +kernel)
set_option maxRecDepth 100000 in
theorem gL_law_X10_at : GoodIn wsL_law (wsV RL 32 RX10 yX10_at wsX10_at) := goodIn_app (goodIn_of _ (by decide +kernel)) ggL_law_X10_at
set_option maxRecDepth 100000 in
theorem ggL_law_X9_pack : GoodIn wsL_law wsX9_pack := goodIn_r _ [174, 28, 29, 26, 138, 139, 140, 19, 141, 175, 176, 177, 22, 178, 73, 71, 67, 179, 180, 181, 164, 165, 166, 62, 182, 183, 184, 185, 69, 70, 68, 186, 187, 188, 189, 190, 191, 192, 193, 194, 195, 196, 197, 198, 199, 200, 201, 202, 203, 204, 205, 206, 207, 208, 209, 210, 211, 212, 213, 214, 215, 216, 217, 218, 219, 220, 221, 222, 223, 224, 225, 226, 227, 228, 229, 230, 231, 232, 233, 234, 235, 236, 237, 238, 239, 240, 241, 242, 243, 244, 245, 246, 247, 248, 249, 250, 251, 252, 253, 254, 255, 256, 257, 258, 259, 260, 261, 262, 263, 264, 265, 266, 267, 268, 269, 270, 271, 272, 273, 274, 275, 276, 277, 278, 142, 143, 144, 145, 146, 147, 148, 149, 698, 699, 700, 701, 702, 703, 704, 705, 706, 707, 708, 709, 710, 745, 746, 747, 748, 749, 750, 751, 744] rfl (by decide +kernel)
set_option maxRecDepth 100000 in
theorem gL_law_X9_pack : GoodIn wsL_law (wsV RL 33 RX9 yX9_pack wsX9_pack) := goodIn_app (goodIn_of _ (by decide +kernel)) ggL_law_X9_pack
set_option maxRecDepth 100000 in
theorem ggL_law_X10_pack : GoodIn wsL_law wsX10_pack := goodIn_r _ [282, 118, 120, 131, 132, 5, 133, 155, 156, 157, 158, 283, 284, 285, 286, 130, 287, 288, 289, 290, 291, 292, 119, 293, 294, 295, 296, 297, 298, 299, 300, 301, 302, 303, 304, 711, 712, 713, 714, 715, 716, 717, 718, 719, 720, 721, 722, 723, 724, 725, 726, 727, 728, 729, 730, 731, 732, 733, 734, 735, 736, 737, 738, 739, 740, 741, 742, 743] rfl (by decide +kernel)
set_option maxRecDepth 100000 in
theorem gL_law_X10_pack : GoodIn wsL_law (wsV RL 37 RX10 yX10_pack wsX10_pack) := goodIn_app (goodIn_of _ (by decide +kernel)) ggL_law_X10_pack
set_option maxRecDepth 100000 in
theorem ggL_law_X9_tables : GoodIn wsL_law wsX9_tables := goodIn_r _ [308, 55, 56, 309, 310, 2, 311, 698, 699, 700, 701, 702, 703, 704, 705, 706, 707, 708, 709, 710] rfl (by decide +kernel)
set_option maxRecDepth 100000 in
theorem gL_law_X9_tables : GoodIn wsL_law (wsV RL 38 RX9 yX9_tables wsX9_tables) := goodIn_app (goodIn_of _ (by decide +kernel)) ggL_law_X9_tables
set_option maxRecDepth 100000 in
theorem ggL_law_X10_tables : GoodIn wsL_law wsX10_tables := goodIn_r _ [315, 316, 317, 131, 132, 5, 133, 711, 712, 713, 714, 715, 716, 717, 718, 719, 720, 721, 722, 723, 724, 725, 726, 727, 728, 729, 730, 731, 732, 733, 734, 735, 736, 737, 738, 739, 740, 741, 742, 743] rfl (by decide +kernel)
set_option maxRecDepth 100000 in
theorem gL_law_X10_tables : GoodIn wsL_law (wsV RL 42 RX10 yX10_tables wsX10_tables) := goodIn_app (goodIn_of _ (by decide +kernel)) ggL_law_X10_tables
set_option maxRecDepth 100000 in
theorem ggL_law_X9_look : GoodIn wsL_law wsX9_look := goodIn_r _ [321, 28, 30, 29, 309, 310, 2, 311, 138, 139, 140, 19, 141, 322, 323, 324, 25, 325, 80, 326, 327, 328, 329, 330, 81, 331, 219, 220, 221, 332, 164, 165, 166, 62, 333, 334, 335, 336, 337, 338, 339, 340, 341, 342, 79, 175, 176, 177, 22, 178, 73, 71, 67, 179, 180, 181, 182, 183, 184, 185, 69, 70, 68, 186, 187, 188, 189, 190, 191, 192, 193, 194, 195, 196, 197, 198, 199, 200, 201, 202, 203, 204, 205, 206, 207, 208, 209, 210, 211, 212, 213, 214, 215, 216, 217, 218, 222, 223, 224, 225, 226, 227, 228, 229, 230, 231, 232, 233, 234, 235, 236, 237, 238, 239, 240, 241, 242, 243, 244, 245, 246, 247, 248, 249, 250, 251, 252, 253, 254, 255, 256, 257, 258, 259, 260, 261, 262, 263, 264, 265, 266, 267, 268, 269, 270, 271, 272, 273, 274, 275, 276, 277, 278, 343, 344, 345, 346, 347, 348, 349, 350, 351, 698, 699, 700, 701, 702, 703, 704, 705, 706, 707, 708, 709, 710, 752, 753, 754, 755, 756, 757, 744, 745, 746, 747, 748, 749, 750, 751] rfl (by decide +kernel)
set_option maxRecDepth 100000 in
theorem gL_law_X9_look : GoodIn wsL_law (wsV RL 43 RX9 yX9_look wsX9_look) := goodIn_app (goodIn_of _ (by decide +kernel)) ggL_law_X9_look
set_option maxRecDepth 100000 in
theorem ggL_law_X10_look : GoodIn wsL_law wsX10_look := goodIn_r _ [355, 131, 132, 5, 133, 155, 156, 157, 158, 356, 357, 358, 359, 118, 360, 292, 361, 362, 363, 283, 284, 285, 286, 130, 364, 365, 366, 367, 120, 287, 288, 289, 290, 291, 119, 293, 294, 295, 296, 297, 298, 299, 300, 301, 302, 303, 304, 711, 712, 713, 714, 715, 716, 717, 718, 719, 720, 721, 722, 723, 724, 725, 726, 727, 728, 729, 730, 731, 732, 733, 734, 735, 736, 737, 738, 739, 740, 741, 742, 743] rfl (by decide +kernel)
set_option maxRecDepth 100000 in
theorem gL_law_X10_look : GoodIn wsL_law (wsV RL 46 RX10 yX10_look wsX10_look) := goodIn_app (goodIn_of _ (by decide +kernel)) ggL_law_X10_look
set_option maxRecDepth 100000 in
theorem ggL_law_X9_parse : GoodIn wsL_law wsX9_parse := goodIn_r _ [371, 34, 309, 310, 2, 311, 372, 373, 374, 33, 375, 91, 376, 89, 377, 223, 220, 224, 88, 90, 86, 87, 378, 379, 380, 381, 92, 382, 383, 384, 164, 165, 19, 166, 62, 385, 139, 140, 141, 386, 323, 324, 25, 325, 80, 326, 327, 328, 329, 330, 81, 331, 219, 221, 332, 333, 334, 335, 336, 337, 338, 339, 340, 341, 342, 79, 387, 388, 389, 390, 391, 392, 393, 394, 395, 396, 397, 398, 399, 176, 177, 22, 178, 73, 71, 67, 179, 180, 181, 182, 183, 184, 185, 69, 70, 68, 186, 187, 188, 189, 190, 191, 192, 193, 194, 195, 196, 197, 198, 199, 200, 201, 202, 203, 204, 205, 206, 207, 208, 209, 210, 211, 212, 213, 214, 215, 216, 217, 218, 222, 225, 226, 227, 228, 229, 230, 231, 232, 233, 234, 235, 236, 237, 238, 239, 240, 241, 242, 243, 244, 245, 246, 247, 248, 249, 250, 251, 252, 253, 254, 255, 256, 257, 258, 259, 260, 261, 262, 263, 264, 265, 266, 267, 268, 269, 270, 271, 272, 273, 274, 275, 276, 277, 278, 400, 344, 345, 346, 347, 348, 349, 350, 351, 401, 147, 148, 149, 402, 403, 404, 405, 406, 143, 144, 145, 146, 698, 699, 700, 701, 702, 703, 704, 705, 706, 707, 708, 709, 710, 758, 759, 760, 761, 762, 763, 764, 765, 766, 767, 744, 752, 753, 754, 755, 756, 757, 745, 746, 747, 748, 749, 750, 751] rfl (by decide +kernel)
set_option maxRecDepth 100000 in
theorem gL_law_X9_parse : GoodIn wsL_law (wsV RL 47 RX9 yX9_parse wsX9_parse) := goodIn_app (goodIn_of _ (by decide +kernel)) ggL_law_X9_parse
set_option maxRecDepth 100000 in
theorem ggL_law_X10_parse : GoodIn wsL_law wsX10_parse := goodIn_r _ [410, 131, 132, 5, 133, 411, 412, 413, 414, 130, 118, 415, 121, 122, 416, 123, 155, 156, 157, 158, 356, 357, 358, 359, 360, 292, 361, 362, 363, 283, 284, 285, 286, 417, 418, 419, 420, 364, 365, 366, 367, 120, 287, 288, 289, 290, 291, 119, 293, 294, 295, 296, 297, 298, 299, 300, 301, 302, 303, 304, 711, 712, 713, 714, 715, 716, 717, 718, 719, 720, 721, 722, 723, 724, 725, 726, 727, 728, 729, 730, 731, 732, 733, 734, 735, 736, 737, 738, 739, 740, 741, 742, 743] rfl (by decide +kernel)
set_option maxRecDepth 100000 in
theorem gL_law_X10_parse : GoodIn wsL_law (wsV RL 51 RX10 yX10_parse wsX10_parse) := goodIn_app (goodIn_of _ (by decide +kernel)) ggL_law_X10_parse
set_option maxRecDepth 100000 in
theorem ggL_law_X9_begin : GoodIn wsL_law wsX9_begin := goodIn_r _ [424, 38, 425, 28, 426, 219, 220, 221, 42, 309, 310, 2, 311, 163, 164, 165, 19, 166, 62, 427, 428, 429, 430, 27, 138, 139, 140, 141, 431, 432, 433, 37, 434, 435, 436, 437, 438, 439, 96, 440, 441, 442, 443, 97, 444, 445, 446, 41, 447, 448, 449, 450, 451, 452, 453, 454, 455, 456, 457, 698, 699, 700, 701, 702, 703, 704, 705, 706, 707, 708, 709, 710, 768, 769, 770, 771, 772, 773, 774, 744, 775, 776, 777, 778, 779, 780] rfl (by decide +kernel)
set_option maxRecDepth 100000 in
theorem gL_law_X9_begin : GoodIn wsL_law (wsV RL 52 RX9 yX9_begin wsX9_begin) := goodIn_app (goodIn_of _ (by decide +kernel)) ggL_law_X9_begin
set_option maxRecDepth 100000 in
theorem ggL_law_X10_begin : GoodIn wsL_law wsX10_begin := goodIn_r _ [461, 462, 118, 130, 463, 464, 465, 466, 124, 467, 468, 469, 470, 131, 132, 5, 133, 155, 156, 157, 158, 711, 712, 713, 714, 715, 716, 717, 718, 719, 720, 721, 722, 723, 724, 725, 726, 727, 728, 729, 730, 731, 732, 733, 734, 735, 736, 737, 738, 739, 740, 741, 742, 743] rfl (by decide +kernel)
set_option maxRecDepth 100000 in
theorem gL_law_X10_begin : GoodIn wsL_law (wsV RL 55 RX10 yX10_begin wsX10_begin) := goodIn_app (goodIn_of _ (by decide +kernel)) ggL_law_X10_begin
set_option maxRecDepth 100000 in
theorem ggL_law_X9_key : GoodIn wsL_law wsX9_key := goodIn_r _ [474, 38, 425, 475, 476, 2, 477, 478, 479, 480, 481, 482, 483, 484, 485, 56, 427, 428, 429, 430, 27, 486, 487, 488, 489, 28, 163, 164, 165, 19, 166, 62, 490, 491, 492, 493, 46, 494, 50, 495, 34, 496, 55, 497, 498, 499, 500, 501, 502, 503, 37, 504, 439, 97, 505, 147, 148, 149, 506, 507, 508, 45, 509, 510, 511, 512, 513, 223, 220, 224, 104, 105, 514, 515, 516, 517, 49, 518, 519, 109, 520, 521, 522, 523, 57, 372, 373, 374, 33, 375, 91, 376, 89, 377, 88, 90, 86, 87, 378, 379, 380, 381, 92, 382, 383, 384, 385, 139, 140, 141, 386, 323, 324, 25, 325, 80, 326, 327, 328, 329, 330, 81, 331, 219, 221, 332, 333, 334, 335, 336, 337, 338, 339, 340, 341, 342, 79, 387, 388, 389, 390, 391, 392, 393, 394, 395, 396, 397, 398, 399, 176, 177, 22, 178, 73, 71, 67, 179, 180, 181, 182, 183, 184, 185, 69, 70, 68, 186, 187, 188, 189, 190, 191, 192, 193, 194, 195, 196, 197, 198, 199, 200, 201, 202, 203, 204, 205, 206, 207, 208, 209, 210, 211, 212, 213, 214, 215, 216, 217, 218, 222, 225, 226, 227, 228, 229, 230, 231, 232, 233, 234, 235, 236, 237, 238, 239, 240, 241, 242, 243, 244, 245, 246, 247, 248, 249, 250, 251, 252, 253, 254, 255, 256, 257, 258, 259, 260, 261, 262, 263, 264, 265, 266, 267, 268, 269, 270, 271, 272, 273, 274, 275, 276, 277, 278, 400, 344, 345, 346, 347, 348, 349, 350, 351, 401, 402, 403, 404, 405, 406, 143, 144, 145, 146, 524, 525, 526, 527, 528, 529, 530, 531, 532, 533, 534, 535, 536, 537, 538, 539, 540, 541, 542, 543, 544, 545, 546, 547, 548, 549, 550, 551, 552, 553, 554, 440, 441, 442, 443, 438, 555, 556, 557, 558, 559, 560, 561, 562, 563, 564, 698, 699, 700, 701, 702, 703, 704, 705, 706, 707, 708, 709, 710, 768, 769, 770, 771, 772, 773, 774, 744, 781, 782, 783, 784, 785, 786, 758, 759, 760, 761, 762, 763, 764, 765, 766, 767, 752, 753, 754, 755, 756, 757, 745, 746, 747, 748, 749, 750, 751] rfl (by decide +kernel)
set_option maxRecDepth 100000 in
theorem gL_law_X9_key : GoodIn wsL_law (wsV RL 56 RX9 yX9_key wsX9_key) := goodIn_app (goodIn_of _ (by decide +kernel)) ggL_law_X9_key
set_option maxRecDepth 100000 in
theorem ggL_law_X10_key : GoodIn wsL_law wsX10_key := goodIn_r _ [568, 462, 466, 467, 569, 465, 124, 131, 132, 5, 133, 570, 571, 572, 573, 130, 317, 118, 574, 575, 576, 577, 126, 127, 125, 464, 463, 316, 578, 579, 580, 581, 582, 583, 584, 585, 128, 586, 411, 412, 413, 414, 415, 121, 122, 416, 123, 155, 156, 157, 158, 356, 357, 358, 359, 360, 292, 361, 362, 363, 283, 284, 285, 286, 417, 418, 419, 420, 364, 365, 366, 367, 120, 287, 288, 289, 290, 291, 119, 293, 294, 295, 296, 297, 298, 299, 300, 301, 302, 303, 304, 587, 588, 589, 590, 711, 712, 713, 714, 715, 716, 717, 718, 719, 720, 721, 722, 723, 724, 725, 726, 727, 728, 729, 730, 731, 732, 733, 734, 735, 736, 737, 738, 739, 740, 741, 742, 743] rfl (by decide +kernel)
set_option maxRecDepth 100000 in
theorem gL_law_X10_key : GoodIn wsL_law (wsV RL 59 RX10 yX10_key wsX10_key) := goodIn_app (goodIn_of _ (by decide +kernel)) ggL_law_X10_key
set_option maxRecDepth 100000 in
theorem ggL_law_X9_timed : GoodIn wsL_law wsX9_timed := goodIn_r _ [594, 38, 425, 27, 42, 595, 596, 451, 452, 41, 453, 454, 455, 456, 457, 698, 699, 700, 701, 702, 703, 704, 705, 706, 707, 708, 709, 710, 768, 769, 770, 771, 772, 773, 774, 775, 776, 777, 778, 779, 780] rfl (by decide +kernel)
set_option maxRecDepth 100000 in
theorem gL_law_X9_timed : GoodIn wsL_law (wsV RL 60 RX9 yX9_timed wsX9_timed) := goodIn_app (goodIn_of _ (by decide +kernel)) ggL_law_X9_timed
set_option maxRecDepth 100000 in
theorem ggL_law_X10_timed : GoodIn wsL_law wsX10_timed := goodIn_r _ [600, 462, 130, 468, 601, 602, 469, 470, 131, 132, 5, 133, 711, 712, 713, 714, 715, 716, 717, 718, 719, 720, 721, 722, 723, 724, 725, 726, 727, 728, 729, 730, 731, 732, 733, 734, 735, 736, 737, 738, 739, 740, 741, 742, 743] rfl (by decide +kernel)
set_option maxRecDepth 100000 in
theorem gL_law_X10_timed : GoodIn wsL_law (wsV RL 63 RX10 yX10_timed wsX10_timed) := goodIn_app (goodIn_of _ (by decide +kernel)) ggL_law_X10_timed
set_option maxRecDepth 100000 in
theorem ggL_law_X9_tick : GoodIn wsL_law wsX9_tick := goodIn_r _ [606, 38, 425, 607, 42, 608, 609, 610, 611, 41, 612, 449, 454, 457, 456, 613, 223, 220, 224, 448, 614, 615, 616, 617, 455, 618, 619, 620, 2, 621, 538, 539, 540, 37, 541, 439, 497, 498, 499, 500, 496, 494, 28, 427, 428, 429, 430, 27, 501, 502, 503, 504, 97, 505, 147, 148, 19, 149, 62, 520, 521, 522, 523, 57, 698, 699, 700, 701, 702, 703, 704, 705, 706, 707, 708, 709, 710, 768, 769, 770, 771, 772, 773, 774, 775, 776, 777, 778, 779, 780, 744] rfl (by decide +kernel)
set_option maxRecDepth 100000 in
theorem gL_law_X9_tick : GoodIn wsL_law (wsV RL 64 RX9 yX9_tick wsX9_tick) := goodIn_app (goodIn_of _ (by decide +kernel)) ggL_law_X9_tick
set_option maxRecDepth 100000 in
theorem ggL_law_X10_tick : GoodIn wsL_law wsX10_tick := goodIn_r _ [625, 462, 626, 468, 469, 470, 602, 601, 466, 125, 131, 132, 5, 133, 578, 579, 580, 581, 130, 463, 118, 124, 711, 712, 713, 714, 715, 716, 717, 718, 719, 720, 721, 722, 723, 724, 725, 726, 727, 728, 729, 730, 731, 732, 733, 734, 735, 736, 737, 738, 739, 740, 741, 742, 743] rfl (by decide +kernel)
set_option maxRecDepth 100000 in
theorem gL_law_X10_tick : GoodIn wsL_law (wsV RL 67 RX10 yX10_tick wsX10_tick) := goodIn_app (goodIn_of _ (by decide +kernel)) ggL_law_X10_tick
set_option maxRecDepth 100000 in
theorem ggL_law_X9_script : GoodIn wsL_law wsX9_script := goodIn_r _ [630, 54, 631, 475, 476, 2, 477, 632, 633, 634, 53, 635, 636, 637, 113, 698, 699, 700, 701, 702, 703, 704, 705, 706, 707, 708, 709, 710, 787, 788, 789] rfl (by decide +kernel)
set_option maxRecDepth 100000 in
theorem gL_law_X9_script : GoodIn wsL_law (wsV RL 68 RX9 yX9_script wsX9_script) := goodIn_app (goodIn_of _ (by decide +kernel)) ggL_law_X9_script
set_option maxRecDepth 100000 in
theorem ggL_law_X10_script : GoodIn wsL_law wsX10_script := goodIn_r _ [641, 642, 129, 131, 132, 5, 133, 711, 712, 713, 714, 715, 716, 717, 718, 719, 720, 721, 722, 723, 724, 725, 726, 727, 728, 729, 730, 731, 732, 733, 734, 735, 736, 737, 738, 739, 740, 741, 742, 743] rfl (by decide +kernel)
set_option maxRecDepth 100000 in
theorem gL_law_X10_script : GoodIn wsL_law (wsV RL 71 RX10 yX10_script wsX10_script) := goodIn_app (goodIn_of _ (by decide +kernel)) ggL_law_X10_script
set_option maxRecDepth 100000 in
theorem ggL_law_X9_play : GoodIn wsL_law wsX9_play := goodIn_r _ [646, 38, 425, 54, 631, 647, 648, 649, 53, 650, 637, 636, 113, 478, 479, 480, 2, 481, 482, 483, 484, 485, 56, 427, 428, 429, 430, 27, 486, 487, 488, 489, 28, 163, 164, 165, 19, 166, 62, 490, 491, 492, 493, 46, 494, 50, 495, 34, 496, 55, 497, 498, 499, 500, 501, 502, 503, 37, 504, 439, 97, 505, 147, 148, 149, 506, 507, 508, 45, 509, 510, 511, 512, 513, 223, 220, 224, 104, 105, 514, 515, 516, 517, 49, 518, 519, 109, 520, 521, 522, 523, 57, 372, 373, 374, 33, 375, 91, 376, 89, 377, 88, 90, 86, 87, 378, 379, 380, 381, 92, 382, 383, 384, 385, 139, 140, 141, 386, 323, 324, 25, 325, 80, 326, 327, 328, 329, 330, 81, 331, 219, 221, 332, 333, 334, 335, 336, 337, 338, 339, 340, 341, 342, 79, 387, 388, 389, 390, 391, 392, 393, 394, 395, 396, 397, 398, 399, 176, 177, 22, 178, 73, 71, 67, 179, 180, 181, 182, 183, 184, 185, 69, 70, 68, 186, 187, 188, 189, 190, 191, 192, 193, 194, 195, 196, 197, 198, 199, 200, 201, 202, 203, 204, 205, 206, 207, 208, 209, 210, 211, 212, 213, 214, 215, 216, 217, 218, 222, 225, 226, 227, 228, 229, 230, 231, 232, 233, 234, 235, 236, 237, 238, 239, 240, 241, 242, 243, 244, 245, 246, 247, 248, 249, 250, 251, 252, 253, 254, 255, 256, 257, 258, 259, 260, 261, 262, 263, 264, 265, 266, 267, 268, 269, 270, 271, 272, 273, 274, 275, 276, 277, 278, 400, 344, 345, 346, 347, 348, 349, 350, 351, 401, 402, 403, 404, 405, 406, 143, 144, 145, 146, 524, 525, 526, 527, 528, 529, 530, 531, 532, 533, 534, 535, 536, 537, 538, 539, 540, 541, 542, 543, 544, 545, 546, 547, 548, 549, 550, 551, 552, 553, 554, 440, 441, 442, 443, 438, 555, 556, 557, 558, 559, 560, 561, 562, 563, 564, 698, 699, 700, 701, 702, 703, 704, 705, 706, 707, 708, 709, 710, 768, 769, 770, 771, 772, 773, 774, 787, 788, 789, 744, 781, 782, 783, 784, 785, 786, 758, 759, 760, 761, 762, 763, 764, 765, 766, 767, 752, 753, 754, 755, 756, 757, 745, 746, 747, 748, 749, 750, 751] rfl (by decide +kernel)
set_option maxRecDepth 100000 in
theorem gL_law_X9_play : GoodIn wsL_law (wsV RL 72 RX9 yX9_play wsX9_play) := goodIn_app (goodIn_of _ (by decide +kernel)) ggL_law_X9_play
set_option maxRecDepth 100000 in
theorem ggL_law_X10_play : GoodIn wsL_law wsX10_play := goodIn_r _ [654, 462, 642, 129, 655, 566, 567, 5, 568, 466, 467, 569, 465, 124, 131, 132, 133, 570, 571, 572, 573, 130, 317, 118, 574, 575, 576, 577, 126, 127, 125, 464, 463, 316, 578, 579, 580, 581, 582, 583, 584, 585, 128, 586, 411, 412, 413, 414, 415, 121, 122, 416, 123, 155, 156, 157, 158, 356, 357, 358, 359, 360, 292, 361, 362, 363, 283, 284, 285, 286, 417, 418, 419, 420, 364, 365, 366, 367, 120, 287, 288, 289, 290, 291, 119, 293, 294, 295, 296, 297, 298, 299, 300, 301, 302, 303, 304, 587, 588, 589, 590, 711, 712, 713, 714, 715, 716, 717, 718, 719, 720, 721, 722, 723, 724, 725, 726, 727, 728, 729, 730, 731, 732, 733, 734, 735, 736, 737, 738, 739, 740, 741, 742, 743] rfl (by decide +kernel)
set_option maxRecDepth 100000 in
theorem gL_law_X10_play : GoodIn wsL_law (wsV RL 76 RX10 yX10_play wsX10_play) := goodIn_app (goodIn_of _ (by decide +kernel)) ggL_law_X10_play
set_option maxRecDepth 100000 in
theorem ggL_law_X9_told : GoodIn wsL_law wsX9_told := goodIn_r _ [659, 38, 425, 494, 660, 54, 631, 46, 533, 50, 661, 57, 42, 595, 698, 699, 700, 701, 702, 703, 704, 705, 706, 707, 708, 709, 710, 768, 769, 770, 771, 772, 773, 774, 787, 788, 789, 781, 782, 783, 784, 785, 786, 775, 776, 777, 778, 779, 780] rfl (by decide +kernel)
set_option maxRecDepth 100000 in
theorem gL_law_X9_told : GoodIn wsL_law (wsV RL 77 RX9 yX9_told wsX9_told) := goodIn_app (goodIn_of _ (by decide +kernel)) ggL_law_X9_told
set_option maxRecDepth 100000 in
theorem ggL_law_X10_told : GoodIn wsL_law wsX10_told := goodIn_r _ [665, 462, 466, 465, 642, 569, 586, 125, 470, 711, 712, 713, 714, 715, 716, 717, 718, 719, 720, 721, 722, 723, 724, 725, 726, 727, 728, 729, 730, 731, 732, 733, 734, 735, 736, 737, 738, 739, 740, 741, 742, 743] rfl (by decide +kernel)
set_option maxRecDepth 100000 in
theorem gL_law_X10_told : GoodIn wsL_law (wsV RL 80 RX10 yX10_told wsX10_told) := goodIn_app (goodIn_of _ (by decide +kernel)) ggL_law_X10_told
set_option maxRecDepth 100000 in
theorem ggL_law_X9_typed : GoodIn wsL_law wsX9_typed := goodIn_r _ [669, 38, 425, 494, 501, 502, 503, 37, 504, 439, 97, 698, 699, 700, 701, 702, 703, 704, 705, 706, 707, 708, 709, 710, 768, 769, 770, 771, 772, 773, 774] rfl (by decide +kernel)
set_option maxRecDepth 100000 in
theorem gL_law_X9_typed : GoodIn wsL_law (wsV RL 81 RX9 yX9_typed wsX9_typed) := goodIn_app (goodIn_of _ (by decide +kernel)) ggL_law_X9_typed
set_option maxRecDepth 100000 in
theorem ggL_law_X10_typed : GoodIn wsL_law wsX10_typed := goodIn_r _ [673, 462, 466, 124, 131, 132, 5, 133, 711, 712, 713, 714, 715, 716, 717, 718, 719, 720, 721, 722, 723, 724, 725, 726, 727, 728, 729, 730, 731, 732, 733, 734, 735, 736, 737, 738, 739, 740, 741, 742, 743] rfl (by decide +kernel)
set_option maxRecDepth 100000 in
theorem gL_law_X10_typed : GoodIn wsL_law (wsV RL 84 RX10 yX10_typed wsX10_typed) := goodIn_app (goodIn_of _ (by decide +kernel)) ggL_law_X10_typed
set_option maxRecDepth 100000 in
theorem ggL_law_X9_kept : GoodIn wsL_law wsX9_kept := goodIn_r _ [677, 46, 542, 543, 544, 45, 545, 104, 546, 547, 548, 549, 512, 511, 550, 551, 552, 553, 105, 554, 698, 699, 700, 701, 702, 703, 704, 705, 706, 707, 708, 709, 710, 781, 782, 783, 784] rfl (by decide +kernel)
set_option maxRecDepth 100000 in
theorem gL_law_X9_kept : GoodIn wsL_law (wsV RL 85 RX9 yX9_kept wsX9_kept) := goodIn_app (goodIn_of _ (by decide +kernel)) ggL_law_X9_kept
set_option maxRecDepth 100000 in
theorem ggL_law_X10_kept : GoodIn wsL_law wsX10_kept := goodIn_r _ [681, 569, 126, 127, 131, 132, 5, 133, 711, 712, 713, 714, 715, 716, 717, 718, 719, 720, 721, 722, 723, 724, 725, 726, 727, 728, 729, 730, 731, 732, 733, 734, 735, 736, 737, 738, 739, 740, 741, 742, 743] rfl (by decide +kernel)
set_option maxRecDepth 100000 in
theorem gL_law_X10_kept : GoodIn wsL_law (wsV RL 88 RX10 yX10_kept wsX10_kept) := goodIn_app (goodIn_of _ (by decide +kernel)) ggL_law_X10_kept
set_option maxRecDepth 100000 in
theorem ggL_law_X9_echo : GoodIn wsL_law wsX9_echo := goodIn_r _ [685, 50, 686, 687, 688, 49, 689, 519, 690, 691, 692, 693, 109, 698, 699, 700, 701, 702, 703, 704, 705, 706, 707, 708, 709, 710, 785, 786] rfl (by decide +kernel)
set_option maxRecDepth 100000 in
theorem gL_law_X9_echo : GoodIn wsL_law (wsV RL 89 RX9 yX9_echo wsX9_echo) := goodIn_app (goodIn_of _ (by decide +kernel)) ggL_law_X9_echo
set_option maxRecDepth 100000 in
theorem ggL_law_X10_echo : GoodIn wsL_law wsX10_echo := goodIn_r _ [697, 586, 128, 131, 132, 5, 133, 711, 712, 713, 714, 715, 716, 717, 718, 719, 720, 721, 722, 723, 724, 725, 726, 727, 728, 729, 730, 731, 732, 733, 734, 735, 736, 737, 738, 739, 740, 741, 742, 743] rfl (by decide +kernel)
set_option maxRecDepth 100000 in
theorem gL_law_X10_echo : GoodIn wsL_law (wsV RL 92 RX10 yX10_echo wsX10_echo) := goodIn_app (goodIn_of _ (by decide +kernel)) ggL_law_X10_echo
theorem dL_law_0 : decode cL_law 0 = .ok (.new 7, 3) := by decide +kernel
theorem dL_law_3 : decode cL_law 3 = .ok (.dup, 1) := by decide +kernel
theorem dL_law_4 : decode cL_law 4 = .ok (.aload_n 0, 1) := by decide +kernel
theorem dL_law_5 : decode cL_law 5 = .ok (.iconst 0, 1) := by decide +kernel
theorem dL_law_6 : decode cL_law 6 = .ok (.invokestatic 9, 3) := by decide +kernel
theorem dL_law_9 : decode cL_law 9 = .ok (.invokespecial 15, 3) := by decide +kernel
theorem dL_law_12 : decode cL_law 12 = .ok (.astore_n 1, 1) := by decide +kernel
theorem dL_law_13 : decode cL_law 13 = .ok (.new 18, 3) := by decide +kernel
theorem dL_law_16 : decode cL_law 16 = .ok (.dup, 1) := by decide +kernel
theorem dL_law_17 : decode cL_law 17 = .ok (.aload_n 0, 1) := by decide +kernel
theorem dL_law_18 : decode cL_law 18 = .ok (.iconst 0, 1) := by decide +kernel
theorem dL_law_19 : decode cL_law 19 = .ok (.invokestatic 9, 3) := by decide +kernel
theorem dL_law_22 : decode cL_law 22 = .ok (.invokespecial 20, 3) := by decide +kernel
theorem dL_law_25 : decode cL_law 25 = .ok (.astore_n 2, 1) := by decide +kernel
theorem dL_law_26 : decode cL_law 26 = .ok (.iconst 1, 1) := by decide +kernel
theorem dL_law_27 : decode cL_law 27 = .ok (.istore_n 3, 1) := by decide +kernel
theorem dL_law_28 : decode cL_law 28 = .ok (.iload_n 3, 1) := by decide +kernel
theorem dL_law_29 : decode cL_law 29 = .ok (.aload_n 0, 1) := by decide +kernel
theorem dL_law_30 : decode cL_law 30 = .ok (.arraylength, 1) := by decide +kernel
theorem dL_law_31 : decode cL_law 31 = .ok (.iconst 5, 1) := by decide +kernel
theorem dL_law_32 : decode cL_law 32 = .ok (.isub, 1) := by decide +kernel
theorem dL_law_33 : decode cL_law 33 = .ok (.if_icmp .gt 627, 3) := by decide +kernel
theorem dL_law_36 : decode cL_law 36 = .ok (.aload_n 0, 1) := by decide +kernel
theorem dL_law_37 : decode cL_law 37 = .ok (.iload_n 3, 1) := by decide +kernel
theorem dL_law_38 : decode cL_law 38 = .ok (.iaload, 1) := by decide +kernel
theorem dL_law_39 : decode cL_law 39 = .ok (.bipush 15, 2) := by decide +kernel
theorem dL_law_41 : decode cL_law 41 = .ok (.iand, 1) := by decide +kernel
theorem dL_law_42 : decode cL_law 42 = .ok (.tableswitch 612 0 15 #[78, 151, 174, 217, 250, 293, 362, 395, 418, 451, 474, 497, 510, 533, 556, 589], 78) := by decide +kernel
theorem dL_law_120 : decode cL_law 120 = .ok (.aload_n 1, 1) := by decide +kernel
theorem dL_law_121 : decode cL_law 121 = .ok (.aload_n 0, 1) := by decide +kernel
theorem dL_law_122 : decode cL_law 122 = .ok (.iload_n 3, 1) := by decide +kernel
theorem dL_law_123 : decode cL_law 123 = .ok (.iconst 1, 1) := by decide +kernel
theorem dL_law_124 : decode cL_law 124 = .ok (.iadd, 1) := by decide +kernel
theorem dL_law_125 : decode cL_law 125 = .ok (.iaload, 1) := by decide +kernel
theorem dL_law_126 : decode cL_law 126 = .ok (.aload_n 0, 1) := by decide +kernel
theorem dL_law_127 : decode cL_law 127 = .ok (.iload_n 3, 1) := by decide +kernel
theorem dL_law_128 : decode cL_law 128 = .ok (.iconst 2, 1) := by decide +kernel
theorem dL_law_129 : decode cL_law 129 = .ok (.iadd, 1) := by decide +kernel
theorem dL_law_130 : decode cL_law 130 = .ok (.iaload, 1) := by decide +kernel
theorem dL_law_131 : decode cL_law 131 = .ok (.aload_n 0, 1) := by decide +kernel
theorem dL_law_132 : decode cL_law 132 = .ok (.iload_n 3, 1) := by decide +kernel
theorem dL_law_133 : decode cL_law 133 = .ok (.iconst 3, 1) := by decide +kernel
theorem dL_law_134 : decode cL_law 134 = .ok (.iadd, 1) := by decide +kernel
theorem dL_law_135 : decode cL_law 135 = .ok (.iaload, 1) := by decide +kernel
theorem dL_law_136 : decode cL_law 136 = .ok (.i2l, 1) := by decide +kernel
theorem dL_law_137 : decode cL_law 137 = .ok (.bipush 32, 2) := by decide +kernel
theorem dL_law_139 : decode cL_law 139 = .ok (.lshl, 1) := by decide +kernel
theorem dL_law_140 : decode cL_law 140 = .ok (.aload_n 0, 1) := by decide +kernel
theorem dL_law_141 : decode cL_law 141 = .ok (.iload_n 3, 1) := by decide +kernel
theorem dL_law_142 : decode cL_law 142 = .ok (.iconst 4, 1) := by decide +kernel
theorem dL_law_143 : decode cL_law 143 = .ok (.iadd, 1) := by decide +kernel
theorem dL_law_144 : decode cL_law 144 = .ok (.iaload, 1) := by decide +kernel
theorem dL_law_145 : decode cL_law 145 = .ok (.i2l, 1) := by decide +kernel
theorem dL_law_146 : decode cL_law 146 = .ok (.ldc2_w 21, 3) := by decide +kernel
theorem dL_law_149 : decode cL_law 149 = .ok (.land, 1) := by decide +kernel
theorem dL_law_150 : decode cL_law 150 = .ok (.lor, 1) := by decide +kernel
theorem dL_law_151 : decode cL_law 151 = .ok (.invokevirtual 23, 3) := by decide +kernel
theorem dL_law_154 : decode cL_law 154 = .ok (.aload_n 2, 1) := by decide +kernel
theorem dL_law_155 : decode cL_law 155 = .ok (.aload_n 0, 1) := by decide +kernel
theorem dL_law_156 : decode cL_law 156 = .ok (.iload_n 3, 1) := by decide +kernel
theorem dL_law_157 : decode cL_law 157 = .ok (.iconst 1, 1) := by decide +kernel
theorem dL_law_158 : decode cL_law 158 = .ok (.iadd, 1) := by decide +kernel
theorem dL_law_159 : decode cL_law 159 = .ok (.iaload, 1) := by decide +kernel
theorem dL_law_160 : decode cL_law 160 = .ok (.aload_n 0, 1) := by decide +kernel
theorem dL_law_161 : decode cL_law 161 = .ok (.iload_n 3, 1) := by decide +kernel
theorem dL_law_162 : decode cL_law 162 = .ok (.iconst 2, 1) := by decide +kernel
theorem dL_law_163 : decode cL_law 163 = .ok (.iadd, 1) := by decide +kernel
theorem dL_law_164 : decode cL_law 164 = .ok (.iaload, 1) := by decide +kernel
theorem dL_law_165 : decode cL_law 165 = .ok (.aload_n 0, 1) := by decide +kernel
theorem dL_law_166 : decode cL_law 166 = .ok (.iload_n 3, 1) := by decide +kernel
theorem dL_law_167 : decode cL_law 167 = .ok (.iconst 3, 1) := by decide +kernel
theorem dL_law_168 : decode cL_law 168 = .ok (.iadd, 1) := by decide +kernel
theorem dL_law_169 : decode cL_law 169 = .ok (.iaload, 1) := by decide +kernel
theorem dL_law_170 : decode cL_law 170 = .ok (.i2l, 1) := by decide +kernel
theorem dL_law_171 : decode cL_law 171 = .ok (.bipush 32, 2) := by decide +kernel
theorem dL_law_173 : decode cL_law 173 = .ok (.lshl, 1) := by decide +kernel
theorem dL_law_174 : decode cL_law 174 = .ok (.aload_n 0, 1) := by decide +kernel
theorem dL_law_175 : decode cL_law 175 = .ok (.iload_n 3, 1) := by decide +kernel
theorem dL_law_176 : decode cL_law 176 = .ok (.iconst 4, 1) := by decide +kernel
theorem dL_law_177 : decode cL_law 177 = .ok (.iadd, 1) := by decide +kernel
theorem dL_law_178 : decode cL_law 178 = .ok (.iaload, 1) := by decide +kernel
theorem dL_law_179 : decode cL_law 179 = .ok (.i2l, 1) := by decide +kernel
theorem dL_law_180 : decode cL_law 180 = .ok (.ldc2_w 21, 3) := by decide +kernel
theorem dL_law_183 : decode cL_law 183 = .ok (.land, 1) := by decide +kernel
theorem dL_law_184 : decode cL_law 184 = .ok (.lor, 1) := by decide +kernel
theorem dL_law_185 : decode cL_law 185 = .ok (.invokevirtual 27, 3) := by decide +kernel
theorem dL_law_188 : decode cL_law 188 = .ok (.if_icmp .eq 466, 3) := by decide +kernel
theorem dL_law_191 : decode cL_law 191 = .ok (.iconst 0, 1) := by decide +kernel
theorem dL_law_192 : decode cL_law 192 = .ok (.ireturn, 1) := by decide +kernel
theorem dL_law_193 : decode cL_law 193 = .ok (.aload_n 1, 1) := by decide +kernel
theorem dL_law_194 : decode cL_law 194 = .ok (.aload_n 0, 1) := by decide +kernel
theorem dL_law_195 : decode cL_law 195 = .ok (.iload_n 3, 1) := by decide +kernel
theorem dL_law_196 : decode cL_law 196 = .ok (.iconst 1, 1) := by decide +kernel
theorem dL_law_197 : decode cL_law 197 = .ok (.iadd, 1) := by decide +kernel
theorem dL_law_198 : decode cL_law 198 = .ok (.iaload, 1) := by decide +kernel
theorem dL_law_199 : decode cL_law 199 = .ok (.invokevirtual 28, 3) := by decide +kernel
theorem dL_law_202 : decode cL_law 202 = .ok (.aload_n 2, 1) := by decide +kernel
theorem dL_law_203 : decode cL_law 203 = .ok (.aload_n 0, 1) := by decide +kernel
theorem dL_law_204 : decode cL_law 204 = .ok (.iload_n 3, 1) := by decide +kernel
theorem dL_law_205 : decode cL_law 205 = .ok (.iconst 1, 1) := by decide +kernel
theorem dL_law_206 : decode cL_law 206 = .ok (.iadd, 1) := by decide +kernel
theorem dL_law_207 : decode cL_law 207 = .ok (.iaload, 1) := by decide +kernel
theorem dL_law_208 : decode cL_law 208 = .ok (.invokevirtual 32, 3) := by decide +kernel
theorem dL_law_211 : decode cL_law 211 = .ok (.if_icmp .eq 443, 3) := by decide +kernel
theorem dL_law_214 : decode cL_law 214 = .ok (.iconst 0, 1) := by decide +kernel
theorem dL_law_215 : decode cL_law 215 = .ok (.ireturn, 1) := by decide +kernel
theorem dL_law_216 : decode cL_law 216 = .ok (.aload_n 1, 1) := by decide +kernel
theorem dL_law_217 : decode cL_law 217 = .ok (.aload_n 0, 1) := by decide +kernel
theorem dL_law_218 : decode cL_law 218 = .ok (.iload_n 3, 1) := by decide +kernel
theorem dL_law_219 : decode cL_law 219 = .ok (.iconst 1, 1) := by decide +kernel
theorem dL_law_220 : decode cL_law 220 = .ok (.iadd, 1) := by decide +kernel
theorem dL_law_221 : decode cL_law 221 = .ok (.iaload, 1) := by decide +kernel
theorem dL_law_222 : decode cL_law 222 = .ok (.aload_n 0, 1) := by decide +kernel
theorem dL_law_223 : decode cL_law 223 = .ok (.iload_n 3, 1) := by decide +kernel
theorem dL_law_224 : decode cL_law 224 = .ok (.iconst 2, 1) := by decide +kernel
theorem dL_law_225 : decode cL_law 225 = .ok (.iadd, 1) := by decide +kernel
theorem dL_law_226 : decode cL_law 226 = .ok (.iaload, 1) := by decide +kernel
theorem dL_law_227 : decode cL_law 227 = .ok (.aload_n 0, 1) := by decide +kernel
theorem dL_law_228 : decode cL_law 228 = .ok (.iload_n 3, 1) := by decide +kernel
theorem dL_law_229 : decode cL_law 229 = .ok (.iconst 3, 1) := by decide +kernel
theorem dL_law_230 : decode cL_law 230 = .ok (.iadd, 1) := by decide +kernel
theorem dL_law_231 : decode cL_law 231 = .ok (.iaload, 1) := by decide +kernel
theorem dL_law_232 : decode cL_law 232 = .ok (.invokevirtual 33, 3) := by decide +kernel
theorem dL_law_235 : decode cL_law 235 = .ok (.aload_n 2, 1) := by decide +kernel
theorem dL_law_236 : decode cL_law 236 = .ok (.aload_n 0, 1) := by decide +kernel
theorem dL_law_237 : decode cL_law 237 = .ok (.iload_n 3, 1) := by decide +kernel
theorem dL_law_238 : decode cL_law 238 = .ok (.iconst 1, 1) := by decide +kernel
theorem dL_law_239 : decode cL_law 239 = .ok (.iadd, 1) := by decide +kernel
theorem dL_law_240 : decode cL_law 240 = .ok (.iaload, 1) := by decide +kernel
theorem dL_law_241 : decode cL_law 241 = .ok (.aload_n 0, 1) := by decide +kernel
theorem dL_law_242 : decode cL_law 242 = .ok (.iload_n 3, 1) := by decide +kernel
theorem dL_law_243 : decode cL_law 243 = .ok (.iconst 2, 1) := by decide +kernel
theorem dL_law_244 : decode cL_law 244 = .ok (.iadd, 1) := by decide +kernel
theorem dL_law_245 : decode cL_law 245 = .ok (.iaload, 1) := by decide +kernel
theorem dL_law_246 : decode cL_law 246 = .ok (.aload_n 0, 1) := by decide +kernel
theorem dL_law_247 : decode cL_law 247 = .ok (.iload_n 3, 1) := by decide +kernel
theorem dL_law_248 : decode cL_law 248 = .ok (.iconst 3, 1) := by decide +kernel
theorem dL_law_249 : decode cL_law 249 = .ok (.iadd, 1) := by decide +kernel
theorem dL_law_250 : decode cL_law 250 = .ok (.iaload, 1) := by decide +kernel
theorem dL_law_251 : decode cL_law 251 = .ok (.invokevirtual 37, 3) := by decide +kernel
theorem dL_law_254 : decode cL_law 254 = .ok (.if_icmp .eq 400, 3) := by decide +kernel
theorem dL_law_257 : decode cL_law 257 = .ok (.iconst 0, 1) := by decide +kernel
theorem dL_law_258 : decode cL_law 258 = .ok (.ireturn, 1) := by decide +kernel
theorem dL_law_259 : decode cL_law 259 = .ok (.aload_n 1, 1) := by decide +kernel
theorem dL_law_260 : decode cL_law 260 = .ok (.aload_n 0, 1) := by decide +kernel
theorem dL_law_261 : decode cL_law 261 = .ok (.iload_n 3, 1) := by decide +kernel
theorem dL_law_262 : decode cL_law 262 = .ok (.iconst 1, 1) := by decide +kernel
theorem dL_law_263 : decode cL_law 263 = .ok (.iadd, 1) := by decide +kernel
theorem dL_law_264 : decode cL_law 264 = .ok (.iaload, 1) := by decide +kernel
theorem dL_law_265 : decode cL_law 265 = .ok (.aload_n 0, 1) := by decide +kernel
theorem dL_law_266 : decode cL_law 266 = .ok (.iload_n 3, 1) := by decide +kernel
theorem dL_law_267 : decode cL_law 267 = .ok (.iconst 2, 1) := by decide +kernel
theorem dL_law_268 : decode cL_law 268 = .ok (.iadd, 1) := by decide +kernel
theorem dL_law_269 : decode cL_law 269 = .ok (.iaload, 1) := by decide +kernel
theorem dL_law_270 : decode cL_law 270 = .ok (.invokevirtual 38, 3) := by decide +kernel
theorem dL_law_273 : decode cL_law 273 = .ok (.aload_n 2, 1) := by decide +kernel
theorem dL_law_274 : decode cL_law 274 = .ok (.aload_n 0, 1) := by decide +kernel
theorem dL_law_275 : decode cL_law 275 = .ok (.iload_n 3, 1) := by decide +kernel
theorem dL_law_276 : decode cL_law 276 = .ok (.iconst 1, 1) := by decide +kernel
theorem dL_law_277 : decode cL_law 277 = .ok (.iadd, 1) := by decide +kernel
theorem dL_law_278 : decode cL_law 278 = .ok (.iaload, 1) := by decide +kernel
theorem dL_law_279 : decode cL_law 279 = .ok (.aload_n 0, 1) := by decide +kernel
theorem dL_law_280 : decode cL_law 280 = .ok (.iload_n 3, 1) := by decide +kernel
theorem dL_law_281 : decode cL_law 281 = .ok (.iconst 2, 1) := by decide +kernel
theorem dL_law_282 : decode cL_law 282 = .ok (.iadd, 1) := by decide +kernel
theorem dL_law_283 : decode cL_law 283 = .ok (.iaload, 1) := by decide +kernel
theorem dL_law_284 : decode cL_law 284 = .ok (.invokevirtual 42, 3) := by decide +kernel
theorem dL_law_287 : decode cL_law 287 = .ok (.if_icmp .eq 367, 3) := by decide +kernel
theorem dL_law_290 : decode cL_law 290 = .ok (.iconst 0, 1) := by decide +kernel
theorem dL_law_291 : decode cL_law 291 = .ok (.ireturn, 1) := by decide +kernel
theorem dL_law_292 : decode cL_law 292 = .ok (.aload_n 1, 1) := by decide +kernel
theorem dL_law_293 : decode cL_law 293 = .ok (.aload_n 0, 1) := by decide +kernel
theorem dL_law_294 : decode cL_law 294 = .ok (.iload_n 3, 1) := by decide +kernel
theorem dL_law_295 : decode cL_law 295 = .ok (.iconst 1, 1) := by decide +kernel
theorem dL_law_296 : decode cL_law 296 = .ok (.iadd, 1) := by decide +kernel
theorem dL_law_297 : decode cL_law 297 = .ok (.iaload, 1) := by decide +kernel
theorem dL_law_298 : decode cL_law 298 = .ok (.aload_n 0, 1) := by decide +kernel
theorem dL_law_299 : decode cL_law 299 = .ok (.iload_n 3, 1) := by decide +kernel
theorem dL_law_300 : decode cL_law 300 = .ok (.iconst 2, 1) := by decide +kernel
theorem dL_law_301 : decode cL_law 301 = .ok (.iadd, 1) := by decide +kernel
theorem dL_law_302 : decode cL_law 302 = .ok (.iaload, 1) := by decide +kernel
theorem dL_law_303 : decode cL_law 303 = .ok (.aload_n 0, 1) := by decide +kernel
theorem dL_law_304 : decode cL_law 304 = .ok (.iload_n 3, 1) := by decide +kernel
theorem dL_law_305 : decode cL_law 305 = .ok (.iconst 3, 1) := by decide +kernel
theorem dL_law_306 : decode cL_law 306 = .ok (.iadd, 1) := by decide +kernel
theorem dL_law_307 : decode cL_law 307 = .ok (.iaload, 1) := by decide +kernel
theorem dL_law_308 : decode cL_law 308 = .ok (.invokevirtual 43, 3) := by decide +kernel
theorem dL_law_311 : decode cL_law 311 = .ok (.aload_n 2, 1) := by decide +kernel
theorem dL_law_312 : decode cL_law 312 = .ok (.aload_n 0, 1) := by decide +kernel
theorem dL_law_313 : decode cL_law 313 = .ok (.iload_n 3, 1) := by decide +kernel
theorem dL_law_314 : decode cL_law 314 = .ok (.iconst 1, 1) := by decide +kernel
theorem dL_law_315 : decode cL_law 315 = .ok (.iadd, 1) := by decide +kernel
theorem dL_law_316 : decode cL_law 316 = .ok (.iaload, 1) := by decide +kernel
theorem dL_law_317 : decode cL_law 317 = .ok (.aload_n 0, 1) := by decide +kernel
theorem dL_law_318 : decode cL_law 318 = .ok (.iload_n 3, 1) := by decide +kernel
theorem dL_law_319 : decode cL_law 319 = .ok (.iconst 2, 1) := by decide +kernel
theorem dL_law_320 : decode cL_law 320 = .ok (.iadd, 1) := by decide +kernel
theorem dL_law_321 : decode cL_law 321 = .ok (.iaload, 1) := by decide +kernel
theorem dL_law_322 : decode cL_law 322 = .ok (.aload_n 0, 1) := by decide +kernel
theorem dL_law_323 : decode cL_law 323 = .ok (.iload_n 3, 1) := by decide +kernel
theorem dL_law_324 : decode cL_law 324 = .ok (.iconst 3, 1) := by decide +kernel
theorem dL_law_325 : decode cL_law 325 = .ok (.iadd, 1) := by decide +kernel
theorem dL_law_326 : decode cL_law 326 = .ok (.iaload, 1) := by decide +kernel
theorem dL_law_327 : decode cL_law 327 = .ok (.invokevirtual 46, 3) := by decide +kernel
theorem dL_law_330 : decode cL_law 330 = .ok (.if_icmp .eq 324, 3) := by decide +kernel
theorem dL_law_333 : decode cL_law 333 = .ok (.iconst 0, 1) := by decide +kernel
theorem dL_law_334 : decode cL_law 334 = .ok (.ireturn, 1) := by decide +kernel
theorem dL_law_335 : decode cL_law 335 = .ok (.aload_n 1, 1) := by decide +kernel
theorem dL_law_336 : decode cL_law 336 = .ok (.aload_n 0, 1) := by decide +kernel
theorem dL_law_337 : decode cL_law 337 = .ok (.iload_n 3, 1) := by decide +kernel
theorem dL_law_338 : decode cL_law 338 = .ok (.iconst 1, 1) := by decide +kernel
theorem dL_law_339 : decode cL_law 339 = .ok (.iadd, 1) := by decide +kernel
theorem dL_law_340 : decode cL_law 340 = .ok (.iaload, 1) := by decide +kernel
theorem dL_law_341 : decode cL_law 341 = .ok (.aload_n 0, 1) := by decide +kernel
theorem dL_law_342 : decode cL_law 342 = .ok (.iload_n 3, 1) := by decide +kernel
theorem dL_law_343 : decode cL_law 343 = .ok (.iconst 2, 1) := by decide +kernel
theorem dL_law_344 : decode cL_law 344 = .ok (.iadd, 1) := by decide +kernel
theorem dL_law_345 : decode cL_law 345 = .ok (.iaload, 1) := by decide +kernel
theorem dL_law_346 : decode cL_law 346 = .ok (.aload_n 0, 1) := by decide +kernel
theorem dL_law_347 : decode cL_law 347 = .ok (.iload_n 3, 1) := by decide +kernel
theorem dL_law_348 : decode cL_law 348 = .ok (.iconst 3, 1) := by decide +kernel
theorem dL_law_349 : decode cL_law 349 = .ok (.iadd, 1) := by decide +kernel
theorem dL_law_350 : decode cL_law 350 = .ok (.iaload, 1) := by decide +kernel
theorem dL_law_351 : decode cL_law 351 = .ok (.aload_n 0, 1) := by decide +kernel
theorem dL_law_352 : decode cL_law 352 = .ok (.iload_n 3, 1) := by decide +kernel
theorem dL_law_353 : decode cL_law 353 = .ok (.iconst 4, 1) := by decide +kernel
theorem dL_law_354 : decode cL_law 354 = .ok (.iadd, 1) := by decide +kernel
theorem dL_law_355 : decode cL_law 355 = .ok (.iaload, 1) := by decide +kernel
theorem dL_law_356 : decode cL_law 356 = .ok (.ifCond .eq 7, 3) := by decide +kernel
theorem dL_law_359 : decode cL_law 359 = .ok (.iconst 1, 1) := by decide +kernel
theorem dL_law_360 : decode cL_law 360 = .ok (.goto 4, 3) := by decide +kernel
theorem dL_law_363 : decode cL_law 363 = .ok (.iconst 0, 1) := by decide +kernel
theorem dL_law_364 : decode cL_law 364 = .ok (.invokevirtual 47, 3) := by decide +kernel
theorem dL_law_367 : decode cL_law 367 = .ok (.aload_n 2, 1) := by decide +kernel
theorem dL_law_368 : decode cL_law 368 = .ok (.aload_n 0, 1) := by decide +kernel
theorem dL_law_369 : decode cL_law 369 = .ok (.iload_n 3, 1) := by decide +kernel
theorem dL_law_370 : decode cL_law 370 = .ok (.iconst 1, 1) := by decide +kernel
theorem dL_law_371 : decode cL_law 371 = .ok (.iadd, 1) := by decide +kernel
theorem dL_law_372 : decode cL_law 372 = .ok (.iaload, 1) := by decide +kernel
theorem dL_law_373 : decode cL_law 373 = .ok (.aload_n 0, 1) := by decide +kernel
theorem dL_law_374 : decode cL_law 374 = .ok (.iload_n 3, 1) := by decide +kernel
theorem dL_law_375 : decode cL_law 375 = .ok (.iconst 2, 1) := by decide +kernel
theorem dL_law_376 : decode cL_law 376 = .ok (.iadd, 1) := by decide +kernel
theorem dL_law_377 : decode cL_law 377 = .ok (.iaload, 1) := by decide +kernel
theorem dL_law_378 : decode cL_law 378 = .ok (.aload_n 0, 1) := by decide +kernel
theorem dL_law_379 : decode cL_law 379 = .ok (.iload_n 3, 1) := by decide +kernel
theorem dL_law_380 : decode cL_law 380 = .ok (.iconst 3, 1) := by decide +kernel
theorem dL_law_381 : decode cL_law 381 = .ok (.iadd, 1) := by decide +kernel
theorem dL_law_382 : decode cL_law 382 = .ok (.iaload, 1) := by decide +kernel
theorem dL_law_383 : decode cL_law 383 = .ok (.aload_n 0, 1) := by decide +kernel
theorem dL_law_384 : decode cL_law 384 = .ok (.iload_n 3, 1) := by decide +kernel
theorem dL_law_385 : decode cL_law 385 = .ok (.iconst 4, 1) := by decide +kernel
theorem dL_law_386 : decode cL_law 386 = .ok (.iadd, 1) := by decide +kernel
theorem dL_law_387 : decode cL_law 387 = .ok (.iaload, 1) := by decide +kernel
theorem dL_law_388 : decode cL_law 388 = .ok (.ifCond .eq 7, 3) := by decide +kernel
theorem dL_law_391 : decode cL_law 391 = .ok (.iconst 1, 1) := by decide +kernel
theorem dL_law_392 : decode cL_law 392 = .ok (.goto 4, 3) := by decide +kernel
theorem dL_law_395 : decode cL_law 395 = .ok (.iconst 0, 1) := by decide +kernel
theorem dL_law_396 : decode cL_law 396 = .ok (.invokevirtual 51, 3) := by decide +kernel
theorem dL_law_399 : decode cL_law 399 = .ok (.if_icmp .eq 255, 3) := by decide +kernel
theorem dL_law_402 : decode cL_law 402 = .ok (.iconst 0, 1) := by decide +kernel
theorem dL_law_403 : decode cL_law 403 = .ok (.ireturn, 1) := by decide +kernel
theorem dL_law_404 : decode cL_law 404 = .ok (.aload_n 1, 1) := by decide +kernel
theorem dL_law_405 : decode cL_law 405 = .ok (.aload_n 0, 1) := by decide +kernel
theorem dL_law_406 : decode cL_law 406 = .ok (.iload_n 3, 1) := by decide +kernel
theorem dL_law_407 : decode cL_law 407 = .ok (.iconst 1, 1) := by decide +kernel
theorem dL_law_408 : decode cL_law 408 = .ok (.iadd, 1) := by decide +kernel
theorem dL_law_409 : decode cL_law 409 = .ok (.iaload, 1) := by decide +kernel
theorem dL_law_410 : decode cL_law 410 = .ok (.aload_n 0, 1) := by decide +kernel
theorem dL_law_411 : decode cL_law 411 = .ok (.iload_n 3, 1) := by decide +kernel
theorem dL_law_412 : decode cL_law 412 = .ok (.iconst 2, 1) := by decide +kernel
theorem dL_law_413 : decode cL_law 413 = .ok (.iadd, 1) := by decide +kernel
theorem dL_law_414 : decode cL_law 414 = .ok (.iaload, 1) := by decide +kernel
theorem dL_law_415 : decode cL_law 415 = .ok (.invokevirtual 52, 3) := by decide +kernel
theorem dL_law_418 : decode cL_law 418 = .ok (.aload_n 2, 1) := by decide +kernel
theorem dL_law_419 : decode cL_law 419 = .ok (.aload_n 0, 1) := by decide +kernel
theorem dL_law_420 : decode cL_law 420 = .ok (.iload_n 3, 1) := by decide +kernel
theorem dL_law_421 : decode cL_law 421 = .ok (.iconst 1, 1) := by decide +kernel
theorem dL_law_422 : decode cL_law 422 = .ok (.iadd, 1) := by decide +kernel
theorem dL_law_423 : decode cL_law 423 = .ok (.iaload, 1) := by decide +kernel
theorem dL_law_424 : decode cL_law 424 = .ok (.aload_n 0, 1) := by decide +kernel
theorem dL_law_425 : decode cL_law 425 = .ok (.iload_n 3, 1) := by decide +kernel
theorem dL_law_426 : decode cL_law 426 = .ok (.iconst 2, 1) := by decide +kernel
theorem dL_law_427 : decode cL_law 427 = .ok (.iadd, 1) := by decide +kernel
theorem dL_law_428 : decode cL_law 428 = .ok (.iaload, 1) := by decide +kernel
theorem dL_law_429 : decode cL_law 429 = .ok (.invokevirtual 55, 3) := by decide +kernel
theorem dL_law_432 : decode cL_law 432 = .ok (.if_icmp .eq 222, 3) := by decide +kernel
theorem dL_law_435 : decode cL_law 435 = .ok (.iconst 0, 1) := by decide +kernel
theorem dL_law_436 : decode cL_law 436 = .ok (.ireturn, 1) := by decide +kernel
theorem dL_law_437 : decode cL_law 437 = .ok (.aload_n 1, 1) := by decide +kernel
theorem dL_law_438 : decode cL_law 438 = .ok (.aload_n 0, 1) := by decide +kernel
theorem dL_law_439 : decode cL_law 439 = .ok (.iload_n 3, 1) := by decide +kernel
theorem dL_law_440 : decode cL_law 440 = .ok (.iconst 1, 1) := by decide +kernel
theorem dL_law_441 : decode cL_law 441 = .ok (.iadd, 1) := by decide +kernel
theorem dL_law_442 : decode cL_law 442 = .ok (.iaload, 1) := by decide +kernel
theorem dL_law_443 : decode cL_law 443 = .ok (.invokevirtual 56, 3) := by decide +kernel
theorem dL_law_446 : decode cL_law 446 = .ok (.aload_n 2, 1) := by decide +kernel
theorem dL_law_447 : decode cL_law 447 = .ok (.aload_n 0, 1) := by decide +kernel
theorem dL_law_448 : decode cL_law 448 = .ok (.iload_n 3, 1) := by decide +kernel
theorem dL_law_449 : decode cL_law 449 = .ok (.iconst 1, 1) := by decide +kernel
theorem dL_law_450 : decode cL_law 450 = .ok (.iadd, 1) := by decide +kernel
theorem dL_law_451 : decode cL_law 451 = .ok (.iaload, 1) := by decide +kernel
theorem dL_law_452 : decode cL_law 452 = .ok (.invokevirtual 59, 3) := by decide +kernel
theorem dL_law_455 : decode cL_law 455 = .ok (.if_icmp .eq 199, 3) := by decide +kernel
theorem dL_law_458 : decode cL_law 458 = .ok (.iconst 0, 1) := by decide +kernel
theorem dL_law_459 : decode cL_law 459 = .ok (.ireturn, 1) := by decide +kernel
theorem dL_law_460 : decode cL_law 460 = .ok (.aload_n 1, 1) := by decide +kernel
theorem dL_law_461 : decode cL_law 461 = .ok (.aload_n 0, 1) := by decide +kernel
theorem dL_law_462 : decode cL_law 462 = .ok (.iload_n 3, 1) := by decide +kernel
theorem dL_law_463 : decode cL_law 463 = .ok (.iconst 1, 1) := by decide +kernel
theorem dL_law_464 : decode cL_law 464 = .ok (.iadd, 1) := by decide +kernel
theorem dL_law_465 : decode cL_law 465 = .ok (.iaload, 1) := by decide +kernel
theorem dL_law_466 : decode cL_law 466 = .ok (.aload_n 0, 1) := by decide +kernel
theorem dL_law_467 : decode cL_law 467 = .ok (.iload_n 3, 1) := by decide +kernel
theorem dL_law_468 : decode cL_law 468 = .ok (.iconst 2, 1) := by decide +kernel
theorem dL_law_469 : decode cL_law 469 = .ok (.iadd, 1) := by decide +kernel
theorem dL_law_470 : decode cL_law 470 = .ok (.iaload, 1) := by decide +kernel
theorem dL_law_471 : decode cL_law 471 = .ok (.invokevirtual 60, 3) := by decide +kernel
theorem dL_law_474 : decode cL_law 474 = .ok (.aload_n 2, 1) := by decide +kernel
theorem dL_law_475 : decode cL_law 475 = .ok (.aload_n 0, 1) := by decide +kernel
theorem dL_law_476 : decode cL_law 476 = .ok (.iload_n 3, 1) := by decide +kernel
theorem dL_law_477 : decode cL_law 477 = .ok (.iconst 1, 1) := by decide +kernel
theorem dL_law_478 : decode cL_law 478 = .ok (.iadd, 1) := by decide +kernel
theorem dL_law_479 : decode cL_law 479 = .ok (.iaload, 1) := by decide +kernel
theorem dL_law_480 : decode cL_law 480 = .ok (.aload_n 0, 1) := by decide +kernel
theorem dL_law_481 : decode cL_law 481 = .ok (.iload_n 3, 1) := by decide +kernel
theorem dL_law_482 : decode cL_law 482 = .ok (.iconst 2, 1) := by decide +kernel
theorem dL_law_483 : decode cL_law 483 = .ok (.iadd, 1) := by decide +kernel
theorem dL_law_484 : decode cL_law 484 = .ok (.iaload, 1) := by decide +kernel
theorem dL_law_485 : decode cL_law 485 = .ok (.invokevirtual 63, 3) := by decide +kernel
theorem dL_law_488 : decode cL_law 488 = .ok (.if_icmp .eq 166, 3) := by decide +kernel
theorem dL_law_491 : decode cL_law 491 = .ok (.iconst 0, 1) := by decide +kernel
theorem dL_law_492 : decode cL_law 492 = .ok (.ireturn, 1) := by decide +kernel
theorem dL_law_493 : decode cL_law 493 = .ok (.aload_n 1, 1) := by decide +kernel
theorem dL_law_494 : decode cL_law 494 = .ok (.aload_n 0, 1) := by decide +kernel
theorem dL_law_495 : decode cL_law 495 = .ok (.iload_n 3, 1) := by decide +kernel
theorem dL_law_496 : decode cL_law 496 = .ok (.iconst 1, 1) := by decide +kernel
theorem dL_law_497 : decode cL_law 497 = .ok (.iadd, 1) := by decide +kernel
theorem dL_law_498 : decode cL_law 498 = .ok (.iaload, 1) := by decide +kernel
theorem dL_law_499 : decode cL_law 499 = .ok (.invokevirtual 64, 3) := by decide +kernel
theorem dL_law_502 : decode cL_law 502 = .ok (.aload_n 2, 1) := by decide +kernel
theorem dL_law_503 : decode cL_law 503 = .ok (.aload_n 0, 1) := by decide +kernel
theorem dL_law_504 : decode cL_law 504 = .ok (.iload_n 3, 1) := by decide +kernel
theorem dL_law_505 : decode cL_law 505 = .ok (.iconst 1, 1) := by decide +kernel
theorem dL_law_506 : decode cL_law 506 = .ok (.iadd, 1) := by decide +kernel
theorem dL_law_507 : decode cL_law 507 = .ok (.iaload, 1) := by decide +kernel
theorem dL_law_508 : decode cL_law 508 = .ok (.invokevirtual 67, 3) := by decide +kernel
theorem dL_law_511 : decode cL_law 511 = .ok (.if_icmp .eq 143, 3) := by decide +kernel
theorem dL_law_514 : decode cL_law 514 = .ok (.iconst 0, 1) := by decide +kernel
theorem dL_law_515 : decode cL_law 515 = .ok (.ireturn, 1) := by decide +kernel
theorem dL_law_516 : decode cL_law 516 = .ok (.aload_n 1, 1) := by decide +kernel
theorem dL_law_517 : decode cL_law 517 = .ok (.aload_n 0, 1) := by decide +kernel
theorem dL_law_518 : decode cL_law 518 = .ok (.iload_n 3, 1) := by decide +kernel
theorem dL_law_519 : decode cL_law 519 = .ok (.iconst 1, 1) := by decide +kernel
theorem dL_law_520 : decode cL_law 520 = .ok (.iadd, 1) := by decide +kernel
theorem dL_law_521 : decode cL_law 521 = .ok (.iaload, 1) := by decide +kernel
theorem dL_law_522 : decode cL_law 522 = .ok (.invokevirtual 68, 3) := by decide +kernel
theorem dL_law_525 : decode cL_law 525 = .ok (.aload_n 2, 1) := by decide +kernel
theorem dL_law_526 : decode cL_law 526 = .ok (.aload_n 0, 1) := by decide +kernel
theorem dL_law_527 : decode cL_law 527 = .ok (.iload_n 3, 1) := by decide +kernel
theorem dL_law_528 : decode cL_law 528 = .ok (.iconst 1, 1) := by decide +kernel
theorem dL_law_529 : decode cL_law 529 = .ok (.iadd, 1) := by decide +kernel
theorem dL_law_530 : decode cL_law 530 = .ok (.iaload, 1) := by decide +kernel
theorem dL_law_531 : decode cL_law 531 = .ok (.invokevirtual 71, 3) := by decide +kernel
theorem dL_law_534 : decode cL_law 534 = .ok (.if_icmp .eq 120, 3) := by decide +kernel
theorem dL_law_537 : decode cL_law 537 = .ok (.iconst 0, 1) := by decide +kernel
theorem dL_law_538 : decode cL_law 538 = .ok (.ireturn, 1) := by decide +kernel
theorem dL_law_539 : decode cL_law 539 = .ok (.aload_n 1, 1) := by decide +kernel
theorem dL_law_540 : decode cL_law 540 = .ok (.invokevirtual 72, 3) := by decide +kernel
theorem dL_law_543 : decode cL_law 543 = .ok (.aload_n 2, 1) := by decide +kernel
theorem dL_law_544 : decode cL_law 544 = .ok (.invokevirtual 76, 3) := by decide +kernel
theorem dL_law_547 : decode cL_law 547 = .ok (.if_icmp .eq 107, 3) := by decide +kernel
theorem dL_law_550 : decode cL_law 550 = .ok (.iconst 0, 1) := by decide +kernel
theorem dL_law_551 : decode cL_law 551 = .ok (.ireturn, 1) := by decide +kernel
theorem dL_law_552 : decode cL_law 552 = .ok (.aload_n 1, 1) := by decide +kernel
theorem dL_law_553 : decode cL_law 553 = .ok (.aload_n 0, 1) := by decide +kernel
theorem dL_law_554 : decode cL_law 554 = .ok (.iload_n 3, 1) := by decide +kernel
theorem dL_law_555 : decode cL_law 555 = .ok (.iconst 1, 1) := by decide +kernel
theorem dL_law_556 : decode cL_law 556 = .ok (.iadd, 1) := by decide +kernel
theorem dL_law_557 : decode cL_law 557 = .ok (.iaload, 1) := by decide +kernel
theorem dL_law_558 : decode cL_law 558 = .ok (.invokevirtual 77, 3) := by decide +kernel
theorem dL_law_561 : decode cL_law 561 = .ok (.aload_n 2, 1) := by decide +kernel
theorem dL_law_562 : decode cL_law 562 = .ok (.aload_n 0, 1) := by decide +kernel
theorem dL_law_563 : decode cL_law 563 = .ok (.iload_n 3, 1) := by decide +kernel
theorem dL_law_564 : decode cL_law 564 = .ok (.iconst 1, 1) := by decide +kernel
theorem dL_law_565 : decode cL_law 565 = .ok (.iadd, 1) := by decide +kernel
theorem dL_law_566 : decode cL_law 566 = .ok (.iaload, 1) := by decide +kernel
theorem dL_law_567 : decode cL_law 567 = .ok (.invokevirtual 80, 3) := by decide +kernel
theorem dL_law_570 : decode cL_law 570 = .ok (.if_icmp .eq 84, 3) := by decide +kernel
theorem dL_law_573 : decode cL_law 573 = .ok (.iconst 0, 1) := by decide +kernel
theorem dL_law_574 : decode cL_law 574 = .ok (.ireturn, 1) := by decide +kernel
theorem dL_law_575 : decode cL_law 575 = .ok (.aload_n 1, 1) := by decide +kernel
theorem dL_law_576 : decode cL_law 576 = .ok (.aload_n 0, 1) := by decide +kernel
theorem dL_law_577 : decode cL_law 577 = .ok (.iload_n 3, 1) := by decide +kernel
theorem dL_law_578 : decode cL_law 578 = .ok (.iconst 1, 1) := by decide +kernel
theorem dL_law_579 : decode cL_law 579 = .ok (.iadd, 1) := by decide +kernel
theorem dL_law_580 : decode cL_law 580 = .ok (.iaload, 1) := by decide +kernel
theorem dL_law_581 : decode cL_law 581 = .ok (.invokevirtual 81, 3) := by decide +kernel
theorem dL_law_584 : decode cL_law 584 = .ok (.aload_n 2, 1) := by decide +kernel
theorem dL_law_585 : decode cL_law 585 = .ok (.aload_n 0, 1) := by decide +kernel
theorem dL_law_586 : decode cL_law 586 = .ok (.iload_n 3, 1) := by decide +kernel
theorem dL_law_587 : decode cL_law 587 = .ok (.iconst 1, 1) := by decide +kernel
theorem dL_law_588 : decode cL_law 588 = .ok (.iadd, 1) := by decide +kernel
theorem dL_law_589 : decode cL_law 589 = .ok (.iaload, 1) := by decide +kernel
theorem dL_law_590 : decode cL_law 590 = .ok (.invokevirtual 84, 3) := by decide +kernel
theorem dL_law_593 : decode cL_law 593 = .ok (.if_icmp .eq 61, 3) := by decide +kernel
theorem dL_law_596 : decode cL_law 596 = .ok (.iconst 0, 1) := by decide +kernel
theorem dL_law_597 : decode cL_law 597 = .ok (.ireturn, 1) := by decide +kernel
theorem dL_law_598 : decode cL_law 598 = .ok (.aload_n 1, 1) := by decide +kernel
theorem dL_law_599 : decode cL_law 599 = .ok (.aload_n 0, 1) := by decide +kernel
theorem dL_law_600 : decode cL_law 600 = .ok (.iload_n 3, 1) := by decide +kernel
theorem dL_law_601 : decode cL_law 601 = .ok (.iconst 1, 1) := by decide +kernel
theorem dL_law_602 : decode cL_law 602 = .ok (.iadd, 1) := by decide +kernel
theorem dL_law_603 : decode cL_law 603 = .ok (.iaload, 1) := by decide +kernel
theorem dL_law_604 : decode cL_law 604 = .ok (.aload_n 0, 1) := by decide +kernel
theorem dL_law_605 : decode cL_law 605 = .ok (.iload_n 3, 1) := by decide +kernel
theorem dL_law_606 : decode cL_law 606 = .ok (.iconst 2, 1) := by decide +kernel
theorem dL_law_607 : decode cL_law 607 = .ok (.iadd, 1) := by decide +kernel
theorem dL_law_608 : decode cL_law 608 = .ok (.iaload, 1) := by decide +kernel
theorem dL_law_609 : decode cL_law 609 = .ok (.invokevirtual 85, 3) := by decide +kernel
theorem dL_law_612 : decode cL_law 612 = .ok (.aload_n 2, 1) := by decide +kernel
theorem dL_law_613 : decode cL_law 613 = .ok (.aload_n 0, 1) := by decide +kernel
theorem dL_law_614 : decode cL_law 614 = .ok (.iload_n 3, 1) := by decide +kernel
theorem dL_law_615 : decode cL_law 615 = .ok (.iconst 1, 1) := by decide +kernel
theorem dL_law_616 : decode cL_law 616 = .ok (.iadd, 1) := by decide +kernel
theorem dL_law_617 : decode cL_law 617 = .ok (.iaload, 1) := by decide +kernel
theorem dL_law_618 : decode cL_law 618 = .ok (.aload_n 0, 1) := by decide +kernel
theorem dL_law_619 : decode cL_law 619 = .ok (.iload_n 3, 1) := by decide +kernel
theorem dL_law_620 : decode cL_law 620 = .ok (.iconst 2, 1) := by decide +kernel
theorem dL_law_621 : decode cL_law 621 = .ok (.iadd, 1) := by decide +kernel
theorem dL_law_622 : decode cL_law 622 = .ok (.iaload, 1) := by decide +kernel
theorem dL_law_623 : decode cL_law 623 = .ok (.invokevirtual 88, 3) := by decide +kernel
theorem dL_law_626 : decode cL_law 626 = .ok (.if_icmp .eq 28, 3) := by decide +kernel
theorem dL_law_629 : decode cL_law 629 = .ok (.iconst 0, 1) := by decide +kernel
theorem dL_law_630 : decode cL_law 630 = .ok (.ireturn, 1) := by decide +kernel
theorem dL_law_631 : decode cL_law 631 = .ok (.aload_n 1, 1) := by decide +kernel
theorem dL_law_632 : decode cL_law 632 = .ok (.aload_n 0, 1) := by decide +kernel
theorem dL_law_633 : decode cL_law 633 = .ok (.iload_n 3, 1) := by decide +kernel
theorem dL_law_634 : decode cL_law 634 = .ok (.iconst 1, 1) := by decide +kernel
theorem dL_law_635 : decode cL_law 635 = .ok (.iadd, 1) := by decide +kernel
theorem dL_law_636 : decode cL_law 636 = .ok (.iaload, 1) := by decide +kernel
theorem dL_law_637 : decode cL_law 637 = .ok (.invokevirtual 89, 3) := by decide +kernel
theorem dL_law_640 : decode cL_law 640 = .ok (.aload_n 2, 1) := by decide +kernel
theorem dL_law_641 : decode cL_law 641 = .ok (.aload_n 0, 1) := by decide +kernel
theorem dL_law_642 : decode cL_law 642 = .ok (.iload_n 3, 1) := by decide +kernel
theorem dL_law_643 : decode cL_law 643 = .ok (.iconst 1, 1) := by decide +kernel
theorem dL_law_644 : decode cL_law 644 = .ok (.iadd, 1) := by decide +kernel
theorem dL_law_645 : decode cL_law 645 = .ok (.iaload, 1) := by decide +kernel
theorem dL_law_646 : decode cL_law 646 = .ok (.invokevirtual 92, 3) := by decide +kernel
theorem dL_law_649 : decode cL_law 649 = .ok (.if_icmp .eq 5, 3) := by decide +kernel
theorem dL_law_652 : decode cL_law 652 = .ok (.iconst 0, 1) := by decide +kernel
theorem dL_law_653 : decode cL_law 653 = .ok (.ireturn, 1) := by decide +kernel
theorem dL_law_654 : decode cL_law 654 = .ok (.iinc 3 5, 3) := by decide +kernel
theorem dL_law_657 : decode cL_law 657 = .ok (.goto (-629), 3) := by decide +kernel
theorem dL_law_660 : decode cL_law 660 = .ok (.iconst 1, 1) := by decide +kernel
theorem dL_law_661 : decode cL_law 661 = .ok (.ireturn, 1) := by decide +kernel
