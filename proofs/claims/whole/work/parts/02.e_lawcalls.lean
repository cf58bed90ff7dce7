set_option maxRecDepth 20000 in
theorem ggL_law_X9_init : GoodIn wsL_law wsX9_init := goodIn_r _ [8, 9, 10, 11, 12, 13, 14, 15, 16, 17, 18, 19, 20, 21, 22, 23, 24, 25, 26, 27, 28, 29, 30, 31, 32, 33, 34, 35, 36, 37, 38, 39, 40, 41, 42, 43, 44, 45, 46, 47, 48, 49, 50, 51, 52, 53, 54, 55, 56, 57, 58, 59, 60, 61, 62, 63, 64, 65, 66, 67, 68, 69, 70, 71, 72, 73, 74, 75, 76, 77, 78, 79, 80, 81, 82, 83, 84, 85, 86, 87, 88, 89, 90, 91, 92, 93, 94, 95, 96, 97, 98, 99, 100, 101, 102, 103, 104, 105, 106, 107, 108, 109, 110, 111, 112, 113, 114, 115, 116, 117, 118, 119, 120, 121, 122, 123, 124, 125, 126, 742, 743, 744, 745, 746, 747, 748, 749, 750, 751, 752, 753, 754, 755, 790, 791, 792, 793, 794, 795, 796, 797, 798, 799, 800, 801, 802, 803, 804, 805, 806, 807, 808, 809, 810, 811, 812, 813, 814, 815, 816, 817, 818, 819, 820, 821, 822, 823, 824, 825] (by decide +kernel) (by decide +kernel)
set_option maxRecDepth 20000 in
theorem gL_law_X9_init : GoodIn wsL_law (wsX9_init) := ggL_law_X9_init
set_option maxRecDepth 20000 in
theorem ggL_law_X10_init : GoodIn wsL_law wsX10_init := goodIn_r _ [129, 130, 10, 11, 33, 131, 132, 133, 134, 135, 116, 136, 137, 138, 139, 140, 141, 142, 143, 144, 145, 146, 147, 148, 149, 150, 151, 152, 153, 154, 155, 156, 157, 756, 757, 758, 759, 760, 761, 762, 763, 764, 765, 766, 767, 768, 769, 770, 771, 772, 773, 774, 775, 776, 777, 778, 779, 780, 781, 782, 783, 784, 785, 786, 787, 788, 789] (by decide +kernel) (by decide +kernel)
set_option maxRecDepth 20000 in
theorem gL_law_X10_init : GoodIn wsL_law (wsX10_init) := ggL_law_X10_init
set_option maxRecDepth 20000 in
theorem ggL_law_X9_kind : GoodIn wsL_law wsX9_kind := goodIn_r _ [161, 14, 13, 162, 163, 164, 165, 166, 2, 167, 742, 743, 744, 745, 746, 747, 748, 749, 750, 751, 752, 753, 754, 755, 801, 802, 803, 804, 805, 806, 807] (by decide +kernel) (by decide +kernel)
set_option maxRecDepth 20000 in
theorem gL_law_X9_kind : GoodIn wsL_law (wsV RL 13 RX9 yX9_kind wsX9_kind) := goodIn_app (goodIn_of _ (by decide +kernel)) ggL_law_X9_kind
set_option maxRecDepth 20000 in
theorem ggL_law_X10_kind : GoodIn wsL_law wsX10_kind := goodIn_r _ [171, 172, 131, 132, 133, 173, 174, 5, 175, 756, 757, 758, 759, 760, 761, 762, 763, 764, 765, 766, 767, 768, 769, 770, 771, 772, 773, 774, 775, 776, 777, 778, 779, 780, 781, 782, 783, 784, 785, 786, 787, 788, 789] (by decide +kernel) (by decide +kernel)
set_option maxRecDepth 20000 in
theorem gL_law_X10_kind : GoodIn wsL_law (wsV RL 17 RX10 yX10_kind wsX10_kind) := goodIn_app (goodIn_of _ (by decide +kernel)) ggL_law_X10_kind
set_option maxRecDepth 20000 in
theorem ggL_law_X9_recipe : GoodIn wsL_law wsX9_recipe := goodIn_r _ [179, 17, 16, 180, 165, 166, 2, 167, 742, 743, 744, 745, 746, 747, 748, 749, 750, 751, 752, 753, 754, 755, 808, 809, 810, 811] (by decide +kernel) (by decide +kernel)
set_option maxRecDepth 20000 in
theorem gL_law_X9_recipe : GoodIn wsL_law (wsV RL 18 RX9 yX9_recipe wsX9_recipe) := goodIn_app (goodIn_of _ (by decide +kernel)) ggL_law_X9_recipe
set_option maxRecDepth 20000 in
theorem ggL_law_X10_recipe : GoodIn wsL_law wsX10_recipe := goodIn_r _ [184, 185, 134, 173, 174, 5, 175, 756, 757, 758, 759, 760, 761, 762, 763, 764, 765, 766, 767, 768, 769, 770, 771, 772, 773, 774, 775, 776, 777, 778, 779, 780, 781, 782, 783, 784, 785, 786, 787, 788, 789] (by decide +kernel) (by decide +kernel)
set_option maxRecDepth 20000 in
theorem gL_law_X10_recipe : GoodIn wsL_law (wsV RL 22 RX10 yX10_recipe wsX10_recipe) := goodIn_app (goodIn_of _ (by decide +kernel)) ggL_law_X10_recipe
set_option maxRecDepth 20000 in
theorem ggL_law_X9_part : GoodIn wsL_law wsX9_part := goodIn_r _ [189, 16, 190, 28, 191, 192, 193, 2, 194, 17, 165, 166, 167, 195, 196, 197, 198, 14, 199, 200, 201, 53, 202, 110, 109, 742, 743, 744, 745, 746, 747, 748, 749, 750, 751, 752, 753, 754, 755, 808, 809, 810, 811] (by decide +kernel) (by decide +kernel)
set_option maxRecDepth 20000 in
theorem gL_law_X9_part : GoodIn wsL_law (wsV RL 23 RX9 yX9_part wsX9_part) := goodIn_app (goodIn_of _ (by decide +kernel)) ggL_law_X9_part
set_option maxRecDepth 20000 in
theorem ggL_law_X10_part : GoodIn wsL_law wsX10_part := goodIn_r _ [206, 136, 135, 207, 208, 209, 5, 210, 185, 173, 174, 175, 211, 212, 213, 214, 172, 756, 757, 758, 759, 760, 761, 762, 763, 764, 765, 766, 767, 768, 769, 770, 771, 772, 773, 774, 775, 776, 777, 778, 779, 780, 781, 782, 783, 784, 785, 786, 787, 788, 789] (by decide +kernel) (by decide +kernel)
set_option maxRecDepth 20000 in
theorem gL_law_X10_part : GoodIn wsL_law (wsV RL 26 RX10 yX10_part wsX10_part) := goodIn_app (goodIn_of _ (by decide +kernel)) ggL_law_X10_part
set_option maxRecDepth 20000 in
theorem ggL_law_X9_rule : GoodIn wsL_law wsX9_rule := goodIn_r _ [218, 25, 219, 165, 166, 2, 167, 742, 743, 744, 745, 746, 747, 748, 749, 750, 751, 752, 753, 754, 755] (by decide +kernel) (by decide +kernel)
set_option maxRecDepth 20000 in
theorem gL_law_X9_rule : GoodIn wsL_law (wsV RL 27 RX9 yX9_rule wsX9_rule) := goodIn_app (goodIn_of _ (by decide +kernel)) ggL_law_X9_rule
set_option maxRecDepth 20000 in
theorem ggL_law_X10_rule : GoodIn wsL_law wsX10_rule := goodIn_r _ [223, 137, 173, 174, 5, 175, 224, 225, 226, 756, 757, 758, 759, 760, 761, 762, 763, 764, 765, 766, 767, 768, 769, 770, 771, 772, 773, 774, 775, 776, 777, 778, 779, 780, 781, 782, 783, 784, 785, 786, 787, 788, 789] (by decide +kernel) (by decide +kernel)
set_option maxRecDepth 20000 in
theorem gL_law_X10_rule : GoodIn wsL_law (wsV RL 31 RX10 yX10_rule wsX10_rule) := goodIn_app (goodIn_of _ (by decide +kernel)) ggL_law_X10_rule
set_option maxRecDepth 20000 in
theorem ggL_law_X9_receive : GoodIn wsL_law wsX9_receive := goodIn_r _ [230, 13, 231, 195, 196, 197, 2, 198, 14, 165, 166, 167, 232, 233, 234, 235, 32, 236, 237, 238, 239, 240, 241, 242, 243, 31, 244, 63, 65, 64, 245, 246, 247, 248, 249, 250, 251, 252, 28, 253, 254, 255, 256, 257, 258, 27, 259, 260, 261, 262, 16, 263, 264, 34, 265, 266, 267, 51, 268, 100, 101, 102, 98, 103, 742, 743, 744, 745, 746, 747, 748, 749, 750, 751, 752, 753, 754, 755, 801, 802, 803, 804, 805, 806, 807, 821, 822, 823, 824, 825, 790, 791, 792, 812, 813, 814, 815, 816, 808, 809, 810, 811] (by decide +kernel) (by decide +kernel)
set_option maxRecDepth 20000 in
theorem gL_law_X9_receive : GoodIn wsL_law (wsV RL 32 RX9 yX9_receive wsX9_receive) := goodIn_app (goodIn_of _ (by decide +kernel)) ggL_law_X9_receive
set_option maxRecDepth 20000 in
theorem ggL_law_X10_receive : GoodIn wsL_law wsX10_receive := goodIn_r _ [272, 138, 211, 212, 213, 5, 214, 172, 173, 174, 175, 273, 274, 275, 276, 145, 277, 278, 279, 280, 281, 147, 756, 757, 758, 759, 760, 761, 762, 763, 764, 765, 766, 767, 768, 769, 770, 771, 772, 773, 774, 775, 776, 777, 778, 779, 780, 781, 782, 783, 784, 785, 786, 787, 788, 789] (by decide +kernel) (by decide +kernel)
set_option maxRecDepth 20000 in
theorem gL_law_X10_receive : GoodIn wsL_law (wsV RL 35 RX10 yX10_receive wsX10_receive) := goodIn_app (goodIn_of _ (by decide +kernel)) ggL_law_X10_receive
set_option maxRecDepth 20000 in
theorem ggL_law_X9_issue : GoodIn wsL_law wsX9_issue := goodIn_r _ [285, 286, 13, 231, 287, 288, 289, 290, 2, 291, 165, 166, 167, 195, 196, 197, 198, 14, 232, 233, 234, 235, 32, 236, 237, 238, 239, 240, 241, 242, 243, 31, 244, 63, 65, 64, 245, 246, 247, 248, 249, 250, 251, 252, 28, 253, 254, 255, 256, 257, 258, 27, 259, 260, 261, 262, 16, 263, 264, 34, 265, 266, 267, 51, 268, 100, 101, 102, 98, 103, 742, 743, 744, 745, 746, 747, 748, 749, 750, 751, 752, 753, 754, 755, 801, 802, 803, 804, 805, 806, 807, 821, 822, 823, 824, 825, 790, 791, 792, 812, 813, 814, 815, 816, 808, 809, 810, 811] (by decide +kernel) (by decide +kernel)
set_option maxRecDepth 20000 in
theorem gL_law_X9_issue : GoodIn wsL_law (wsV RL 36 RX9 yX9_issue wsX9_issue) := goodIn_app (goodIn_of _ (by decide +kernel)) ggL_law_X9_issue
set_option maxRecDepth 20000 in
theorem ggL_law_X10_issue : GoodIn wsL_law wsX10_issue := goodIn_r _ [295, 296, 138, 297, 139, 298, 299, 5, 300, 173, 174, 175, 211, 212, 213, 214, 172, 301, 302, 303, 304, 132, 277, 278, 279, 280, 281, 147, 756, 757, 758, 759, 760, 761, 762, 763, 764, 765, 766, 767, 768, 769, 770, 771, 772, 773, 774, 775, 776, 777, 778, 779, 780, 781, 782, 783, 784, 785, 786, 787, 788, 789] (by decide +kernel) (by decide +kernel)
set_option maxRecDepth 20000 in
theorem gL_law_X10_issue : GoodIn wsL_law (wsV RL 39 RX10 yX10_issue wsX10_issue) := goodIn_app (goodIn_of _ (by decide +kernel)) ggL_law_X10_issue
set_option maxRecDepth 20000 in
theorem ggL_law_X9_lend : GoodIn wsL_law wsX9_lend := goodIn_r _ [308, 286, 13, 288, 287, 289, 290, 2, 291, 165, 166, 167, 195, 196, 197, 198, 14, 232, 233, 234, 235, 32, 236, 237, 238, 239, 240, 241, 242, 243, 31, 244, 63, 65, 64, 245, 246, 247, 248, 249, 250, 251, 252, 28, 253, 254, 255, 256, 257, 258, 27, 259, 260, 261, 262, 16, 263, 264, 34, 265, 266, 267, 51, 268, 100, 101, 102, 98, 103, 742, 743, 744, 745, 746, 747, 748, 749, 750, 751, 752, 753, 754, 755, 801, 802, 803, 804, 805, 806, 807, 821, 822, 823, 824, 825, 790, 791, 792, 812, 813, 814, 815, 816, 808, 809, 810, 811] (by decide +kernel) (by decide +kernel)
set_option maxRecDepth 20000 in
theorem gL_law_X9_lend : GoodIn wsL_law (wsV RL 40 RX9 yX9_lend wsX9_lend) := goodIn_app (goodIn_of _ (by decide +kernel)) ggL_law_X9_lend
set_option maxRecDepth 20000 in
theorem ggL_law_X10_lend : GoodIn wsL_law wsX10_lend := goodIn_r _ [312, 296, 139, 297, 298, 299, 5, 300, 173, 174, 175, 211, 212, 213, 214, 172, 313, 314, 315, 316, 277, 278, 279, 280, 281, 147, 756, 757, 758, 759, 760, 761, 762, 763, 764, 765, 766, 767, 768, 769, 770, 771, 772, 773, 774, 775, 776, 777, 778, 779, 780, 781, 782, 783, 784, 785, 786, 787, 788, 789] (by decide +kernel) (by decide +kernel)
set_option maxRecDepth 20000 in
theorem gL_law_X10_lend : GoodIn wsL_law (wsV RL 43 RX10 yX10_lend wsX10_lend) := goodIn_app (goodIn_of _ (by decide +kernel)) ggL_law_X10_lend
set_option maxRecDepth 20000 in
theorem ggL_law_X9_sell : GoodIn wsL_law wsX9_sell := goodIn_r _ [320, 16, 28, 190, 289, 290, 2, 291, 165, 166, 167, 191, 192, 193, 194, 17, 321, 322, 323, 324, 325, 326, 327, 180, 41, 40, 25, 328, 329, 330, 247, 331, 332, 333, 334, 57, 335, 124, 125, 336, 337, 338, 339, 123, 232, 233, 234, 235, 32, 236, 237, 238, 239, 240, 241, 242, 243, 31, 244, 63, 65, 64, 245, 246, 248, 249, 250, 251, 252, 253, 254, 13, 255, 256, 257, 258, 27, 259, 260, 261, 262, 14, 263, 264, 34, 265, 266, 267, 51, 268, 100, 101, 102, 98, 103, 742, 743, 744, 745, 746, 747, 748, 749, 750, 751, 752, 753, 754, 755, 808, 809, 810, 811, 817, 818, 819, 820, 821, 822, 823, 824, 825, 790, 791, 792, 812, 813, 814, 815, 816, 801, 802, 803, 804, 805, 806, 807] (by decide +kernel) (by decide +kernel)
set_option maxRecDepth 20000 in
theorem gL_law_X9_sell : GoodIn wsL_law (wsV RL 44 RX9 yX9_sell wsX9_sell) := goodIn_app (goodIn_of _ (by decide +kernel)) ggL_law_X9_sell
set_option maxRecDepth 20000 in
theorem ggL_law_X10_sell : GoodIn wsL_law wsX10_sell := goodIn_r _ [343, 136, 298, 299, 5, 300, 173, 174, 175, 207, 208, 209, 210, 185, 344, 345, 346, 347, 134, 348, 153, 137, 349, 350, 351, 352, 150, 152, 151, 353, 354, 355, 356, 172, 135, 139, 145, 142, 357, 146, 358, 359, 360, 277, 278, 279, 280, 281, 147, 756, 757, 758, 759, 760, 761, 762, 763, 764, 765, 766, 767, 768, 769, 770, 771, 772, 773, 774, 775, 776, 777, 778, 779, 780, 781, 782, 783, 784, 785, 786, 787, 788, 789] (by decide +kernel) (by decide +kernel)
set_option maxRecDepth 20000 in
theorem gL_law_X10_sell : GoodIn wsL_law (wsV RL 48 RX10 yX10_sell wsX10_sell) := goodIn_app (goodIn_of _ (by decide +kernel)) ggL_law_X10_sell
set_option maxRecDepth 20000 in
theorem ggL_law_X9_lose : GoodIn wsL_law wsX9_lose := goodIn_r _ [364, 286, 13, 288, 289, 290, 2, 291, 165, 166, 167, 195, 196, 197, 198, 14, 232, 233, 234, 235, 32, 236, 237, 238, 239, 240, 241, 242, 243, 31, 244, 63, 65, 64, 245, 246, 247, 248, 249, 250, 251, 252, 28, 253, 254, 255, 256, 257, 258, 27, 259, 260, 261, 262, 16, 263, 264, 34, 265, 266, 267, 51, 268, 100, 101, 102, 98, 103, 742, 743, 744, 745, 746, 747, 748, 749, 750, 751, 752, 753, 754, 755, 801, 802, 803, 804, 805, 806, 807, 821, 822, 823, 824, 825, 790, 791, 792, 812, 813, 814, 815, 816, 808, 809, 810, 811] (by decide +kernel) (by decide +kernel)
set_option maxRecDepth 20000 in
theorem gL_law_X9_lose : GoodIn wsL_law (wsV RL 49 RX9 yX9_lose wsX9_lose) := goodIn_app (goodIn_of _ (by decide +kernel)) ggL_law_X9_lose
set_option maxRecDepth 20000 in
theorem ggL_law_X10_lose : GoodIn wsL_law wsX10_lose := goodIn_r _ [368, 296, 139, 298, 299, 5, 300, 173, 174, 175, 211, 212, 213, 214, 172, 369, 370, 371, 372, 145, 277, 278, 279, 280, 281, 147, 756, 757, 758, 759, 760, 761, 762, 763, 764, 765, 766, 767, 768, 769, 770, 771, 772, 773, 774, 775, 776, 777, 778, 779, 780, 781, 782, 783, 784, 785, 786, 787, 788, 789] (by decide +kernel) (by decide +kernel)
set_option maxRecDepth 20000 in
theorem gL_law_X10_lose : GoodIn wsL_law (wsV RL 53 RX10 yX10_lose wsX10_lose) := goodIn_app (goodIn_of _ (by decide +kernel)) ggL_law_X10_lose
set_option maxRecDepth 20000 in
theorem ggL_law_X9_weigh : GoodIn wsL_law wsX9_weigh := goodIn_r _ [376, 286, 28, 253, 287, 13, 288, 377, 289, 290, 2, 291, 165, 166, 167, 195, 196, 197, 198, 14, 255, 256, 257, 258, 27, 378, 379, 380, 51, 381, 98, 97, 382, 330, 247, 331, 99, 383, 384, 385, 386, 25, 264, 387, 388, 389, 390, 232, 233, 234, 235, 32, 236, 237, 238, 239, 240, 241, 242, 243, 31, 244, 63, 65, 64, 245, 246, 248, 249, 250, 251, 252, 254, 259, 260, 261, 262, 16, 263, 34, 265, 266, 267, 268, 100, 101, 102, 103, 742, 743, 744, 745, 746, 747, 748, 749, 750, 751, 752, 753, 754, 755, 812, 813, 814, 815, 816, 801, 802, 803, 804, 805, 806, 807, 821, 822, 823, 824, 825, 790, 791, 792, 808, 809, 810, 811] (by decide +kernel) (by decide +kernel)
set_option maxRecDepth 20000 in
theorem gL_law_X9_weigh : GoodIn wsL_law (wsV RL 54 RX9 yX9_weigh wsX9_weigh) := goodIn_app (goodIn_of _ (by decide +kernel)) ggL_law_X9_weigh
set_option maxRecDepth 20000 in
theorem ggL_law_X10_weigh : GoodIn wsL_law wsX10_weigh := goodIn_r _ [394, 296, 357, 141, 297, 131, 132, 133, 139, 140, 143, 145, 298, 299, 5, 300, 173, 174, 175, 211, 212, 213, 214, 172, 358, 359, 360, 395, 396, 397, 398, 137, 142, 277, 278, 279, 280, 281, 147, 756, 757, 758, 759, 760, 761, 762, 763, 764, 765, 766, 767, 768, 769, 770, 771, 772, 773, 774, 775, 776, 777, 778, 779, 780, 781, 782, 783, 784, 785, 786, 787, 788, 789] (by decide +kernel) (by decide +kernel)
set_option maxRecDepth 20000 in
theorem gL_law_X10_weigh : GoodIn wsL_law (wsV RL 57 RX10 yX10_weigh wsX10_weigh) := goodIn_app (goodIn_of _ (by decide +kernel)) ggL_law_X10_weigh
set_option maxRecDepth 20000 in
theorem ggL_law_X9_undo : GoodIn wsL_law wsX9_undo := goodIn_r _ [402, 32, 403, 236, 404, 405, 406, 31, 407, 65, 64, 63, 249, 250, 251, 2, 252, 28, 237, 253, 238, 254, 239, 13, 255, 256, 257, 258, 27, 259, 260, 261, 262, 16, 14, 263, 264, 34, 240, 265, 266, 267, 51, 268, 100, 101, 102, 98, 103, 742, 743, 744, 745, 746, 747, 748, 749, 750, 751, 752, 753, 754, 755, 790, 791, 792, 821, 822, 823, 824, 825, 812, 813, 814, 815, 816, 808, 809, 810, 811, 801, 802, 803, 804, 805, 806, 807] (by decide +kernel) (by decide +kernel)
set_option maxRecDepth 20000 in
theorem gL_law_X9_undo : GoodIn wsL_law (wsV RL 58 RX9 yX9_undo wsX9_undo) := goodIn_app (goodIn_of _ (by decide +kernel)) ggL_law_X9_undo
set_option maxRecDepth 20000 in
theorem ggL_law_X10_undo : GoodIn wsL_law wsX10_undo := goodIn_r _ [411, 281, 147, 139, 145, 141, 357, 273, 274, 275, 5, 276, 138, 301, 302, 303, 304, 132, 313, 314, 315, 316, 353, 354, 355, 356, 172, 135, 142, 146, 358, 359, 360, 369, 370, 371, 372, 756, 757, 758, 759, 760, 761, 762, 763, 764, 765, 766, 767, 768, 769, 770, 771, 772, 773, 774, 775, 776, 777, 778, 779, 780, 781, 782, 783, 784, 785, 786, 787, 788, 789] (by decide +kernel) (by decide +kernel)
set_option maxRecDepth 20000 in
theorem gL_law_X10_undo : GoodIn wsL_law (wsV RL 62 RX10 yX10_undo wsX10_undo) := goodIn_app (goodIn_of _ (by decide +kernel)) ggL_law_X10_undo
set_option maxRecDepth 20000 in
theorem ggL_law_X9_keeper : GoodIn wsL_law wsX9_keeper := goodIn_r _ [415, 28, 416, 289, 290, 2, 291, 165, 166, 167, 417, 418, 419, 255, 256, 257, 258, 27, 742, 743, 744, 745, 746, 747, 748, 749, 750, 751, 752, 753, 754, 755, 812, 813, 814, 815, 816] (by decide +kernel) (by decide +kernel)
set_option maxRecDepth 20000 in
theorem gL_law_X9_keeper : GoodIn wsL_law (wsV RL 63 RX9 yX9_keeper wsX9_keeper) := goodIn_app (goodIn_of _ (by decide +kernel)) ggL_law_X9_keeper
set_option maxRecDepth 20000 in
theorem ggL_law_X10_keeper : GoodIn wsL_law wsX10_keeper := goodIn_r _ [423, 144, 357, 298, 299, 5, 300, 173, 174, 175, 756, 757, 758, 759, 760, 761, 762, 763, 764, 765, 766, 767, 768, 769, 770, 771, 772, 773, 774, 775, 776, 777, 778, 779, 780, 781, 782, 783, 784, 785, 786, 787, 788, 789] (by decide +kernel) (by decide +kernel)
set_option maxRecDepth 20000 in
theorem gL_law_X10_keeper : GoodIn wsL_law (wsV RL 66 RX10 yX10_keeper wsX10_keeper) := goodIn_app (goodIn_of _ (by decide +kernel)) ggL_law_X10_keeper
set_option maxRecDepth 20000 in
theorem ggL_law_X9_night : GoodIn wsL_law wsX9_night := goodIn_r _ [427, 28, 416, 32, 403, 255, 256, 257, 2, 258, 27, 742, 743, 744, 745, 746, 747, 748, 749, 750, 751, 752, 753, 754, 755, 812, 813, 814, 815, 816, 790, 791, 792] (by decide +kernel) (by decide +kernel)
set_option maxRecDepth 20000 in
theorem gL_law_X9_night : GoodIn wsL_law (wsV RL 67 RX9 yX9_night wsX9_night) := goodIn_app (goodIn_of _ (by decide +kernel)) ggL_law_X9_night
set_option maxRecDepth 20000 in
theorem ggL_law_X10_night : GoodIn wsL_law wsX10_night := goodIn_r _ [431, 357, 144, 281, 136, 756, 757, 758, 759, 760, 761, 762, 763, 764, 765, 766, 767, 768, 769, 770, 771, 772, 773, 774, 775, 776, 777, 778, 779, 780, 781, 782, 783, 784, 785, 786, 787, 788, 789] (by decide +kernel) (by decide +kernel)
set_option maxRecDepth 20000 in
theorem gL_law_X10_night : GoodIn wsL_law (wsV RL 70 RX10 yX10_night wsX10_night) := goodIn_app (goodIn_of _ (by decide +kernel)) ggL_law_X10_night
set_option maxRecDepth 20000 in
theorem ggL_law_X9_has : GoodIn wsL_law wsX9_has := goodIn_r _ [435, 286, 13, 231, 288, 165, 166, 2, 167, 195, 196, 197, 198, 14, 742, 743, 744, 745, 746, 747, 748, 749, 750, 751, 752, 753, 754, 755, 801, 802, 803, 804, 805, 806, 807] (by decide +kernel) (by decide +kernel)
set_option maxRecDepth 20000 in
theorem gL_law_X9_has : GoodIn wsL_law (wsV RL 71 RX9 yX9_has wsX9_has) := goodIn_app (goodIn_of _ (by decide +kernel)) ggL_law_X9_has
set_option maxRecDepth 20000 in
theorem ggL_law_X10_has : GoodIn wsL_law wsX10_has := goodIn_r _ [439, 296, 138, 139, 173, 174, 5, 175, 211, 212, 213, 214, 172, 756, 757, 758, 759, 760, 761, 762, 763, 764, 765, 766, 767, 768, 769, 770, 771, 772, 773, 774, 775, 776, 777, 778, 779, 780, 781, 782, 783, 784, 785, 786, 787, 788, 789] (by decide +kernel) (by decide +kernel)
set_option maxRecDepth 20000 in
theorem gL_law_X10_has : GoodIn wsL_law (wsV RL 74 RX10 yX10_has wsX10_has) := goodIn_app (goodIn_of _ (by decide +kernel)) ggL_law_X10_has
set_option maxRecDepth 20000 in
theorem ggL_law_X9_all : GoodIn wsL_law wsX9_all := goodIn_r _ [443, 286, 13, 444, 445, 195, 196, 197, 2, 198, 14, 165, 166, 167, 742, 743, 744, 745, 746, 747, 748, 749, 750, 751, 752, 753, 754, 755, 801, 802, 803, 804, 805, 806, 807] (by decide +kernel) (by decide +kernel)
set_option maxRecDepth 20000 in
theorem gL_law_X9_all : GoodIn wsL_law (wsV RL 75 RX9 yX9_all wsX9_all) := goodIn_app (goodIn_of _ (by decide +kernel)) ggL_law_X9_all
set_option maxRecDepth 20000 in
theorem ggL_law_X10_all : GoodIn wsL_law wsX10_all := goodIn_r _ [449, 145, 296, 211, 212, 213, 5, 214, 172, 173, 174, 175, 756, 757, 758, 759, 760, 761, 762, 763, 764, 765, 766, 767, 768, 769, 770, 771, 772, 773, 774, 775, 776, 777, 778, 779, 780, 781, 782, 783, 784, 785, 786, 787, 788, 789] (by decide +kernel) (by decide +kernel)
set_option maxRecDepth 20000 in
theorem gL_law_X10_all : GoodIn wsL_law (wsV RL 78 RX10 yX10_all wsX10_all) := goodIn_app (goodIn_of _ (by decide +kernel)) ggL_law_X10_all
set_option maxRecDepth 20000 in
theorem ggL_law_X9_gap : GoodIn wsL_law wsX9_gap := goodIn_r _ [453, 28, 286, 253, 254, 454, 377, 264, 416, 165, 166, 2, 167, 289, 290, 291, 195, 196, 197, 198, 14, 255, 256, 257, 258, 27, 383, 384, 385, 386, 13, 25, 387, 388, 389, 51, 390, 99, 455, 456, 457, 55, 458, 117, 118, 459, 460, 247, 461, 119, 742, 743, 744, 745, 746, 747, 748, 749, 750, 751, 752, 753, 754, 755, 812, 813, 814, 815, 816, 801, 802, 803, 804, 805, 806, 807] (by decide +kernel) (by decide +kernel)
set_option maxRecDepth 20000 in
theorem gL_law_X9_gap : GoodIn wsL_law (wsV RL 79 RX9 yX9_gap wsX9_gap) := goodIn_app (goodIn_of _ (by decide +kernel)) ggL_law_X9_gap
set_option maxRecDepth 20000 in
theorem ggL_law_X10_gap : GoodIn wsL_law wsX10_gap := goodIn_r _ [465, 357, 296, 141, 140, 466, 142, 144, 173, 174, 5, 175, 298, 299, 300, 211, 212, 213, 214, 172, 358, 359, 360, 467, 468, 469, 470, 143, 395, 396, 397, 398, 137, 133, 471, 472, 473, 474, 756, 757, 758, 759, 760, 761, 762, 763, 764, 765, 766, 767, 768, 769, 770, 771, 772, 773, 774, 775, 776, 777, 778, 779, 780, 781, 782, 783, 784, 785, 786, 787, 788, 789] (by decide +kernel) (by decide +kernel)
set_option maxRecDepth 20000 in
theorem gL_law_X10_gap : GoodIn wsL_law (wsV RL 82 RX10 yX10_gap wsX10_gap) := goodIn_app (goodIn_of _ (by decide +kernel)) ggL_law_X10_gap
set_option maxRecDepth 20000 in
theorem ggL_law_X9_over : GoodIn wsL_law wsX9_over := goodIn_r _ [478, 479, 27, 264, 254, 480, 481, 482, 247, 483, 417, 418, 2, 419, 165, 166, 167, 195, 196, 197, 198, 14, 484, 485, 486, 487, 28, 488, 489, 490, 55, 491, 114, 117, 115, 492, 493, 494, 742, 743, 744, 745, 746, 747, 748, 749, 750, 751, 752, 753, 754, 755, 812, 813, 814, 815, 816] (by decide +kernel) (by decide +kernel)
set_option maxRecDepth 20000 in
theorem gL_law_X9_over : GoodIn wsL_law (wsV RL 83 RX9 yX9_over wsX9_over) := goodIn_app (goodIn_of _ (by decide +kernel)) ggL_law_X9_over
set_option maxRecDepth 20000 in
theorem ggL_law_X10_over : GoodIn wsL_law wsX10_over := goodIn_r _ [498, 499, 357, 142, 140, 500, 173, 174, 5, 175, 211, 212, 213, 214, 172, 501, 502, 503, 504, 144, 141, 358, 359, 360, 505, 506, 507, 756, 757, 758, 759, 760, 761, 762, 763, 764, 765, 766, 767, 768, 769, 770, 771, 772, 773, 774, 775, 776, 777, 778, 779, 780, 781, 782, 783, 784, 785, 786, 787, 788, 789] (by decide +kernel) (by decide +kernel)
set_option maxRecDepth 20000 in
theorem gL_law_X10_over : GoodIn wsL_law (wsV RL 87 RX10 yX10_over wsX10_over) := goodIn_app (goodIn_of _ (by decide +kernel)) ggL_law_X10_over
set_option maxRecDepth 20000 in
theorem ggL_law_X9_leans : GoodIn wsL_law wsX9_leans := goodIn_r _ [511, 27, 417, 418, 2, 419, 165, 166, 167, 195, 196, 197, 198, 14, 484, 485, 486, 487, 28, 488, 489, 490, 55, 491, 114, 117, 115, 455, 456, 457, 458, 118, 459, 460, 247, 461, 119, 742, 743, 744, 745, 746, 747, 748, 749, 750, 751, 752, 753, 754, 755, 812, 813, 814, 815, 816] (by decide +kernel) (by decide +kernel)
set_option maxRecDepth 20000 in
theorem gL_law_X9_leans : GoodIn wsL_law (wsV RL 88 RX9 yX9_leans wsX9_leans) := goodIn_app (goodIn_of _ (by decide +kernel)) ggL_law_X9_leans
set_option maxRecDepth 20000 in
theorem ggL_law_X10_leans : GoodIn wsL_law wsX10_leans := goodIn_r _ [515, 357, 173, 174, 5, 175, 211, 212, 213, 214, 172, 501, 502, 503, 504, 144, 141, 142, 358, 359, 360, 471, 472, 473, 474, 140, 467, 468, 469, 470, 143, 395, 396, 397, 398, 137, 133, 756, 757, 758, 759, 760, 761, 762, 763, 764, 765, 766, 767, 768, 769, 770, 771, 772, 773, 774, 775, 776, 777, 778, 779, 780, 781, 782, 783, 784, 785, 786, 787, 788, 789] (by decide +kernel) (by decide +kernel)
set_option maxRecDepth 20000 in
theorem gL_law_X10_leans : GoodIn wsL_law (wsV RL 91 RX10 yX10_leans wsX10_leans) := goodIn_app (goodIn_of _ (by decide +kernel)) ggL_law_X10_leans
set_option maxRecDepth 20000 in
theorem ggL_law_X9_takings : GoodIn wsL_law wsX9_takings := goodIn_r _ [519, 34, 289, 290, 2, 291, 165, 166, 167, 742, 743, 744, 745, 746, 747, 748, 749, 750, 751, 752, 753, 754, 755] (by decide +kernel) (by decide +kernel)
set_option maxRecDepth 20000 in
theorem gL_law_X9_takings : GoodIn wsL_law (wsV RL 92 RX9 yX9_takings wsX9_takings) := goodIn_app (goodIn_of _ (by decide +kernel)) ggL_law_X9_takings
set_option maxRecDepth 20000 in
theorem ggL_law_X10_takings : GoodIn wsL_law wsX10_takings := goodIn_r _ [523, 146, 298, 299, 5, 300, 173, 174, 175, 756, 757, 758, 759, 760, 761, 762, 763, 764, 765, 766, 767, 768, 769, 770, 771, 772, 773, 774, 775, 776, 777, 778, 779, 780, 781, 782, 783, 784, 785, 786, 787, 788, 789] (by decide +kernel) (by decide +kernel)
set_option maxRecDepth 20000 in
theorem gL_law_X10_takings : GoodIn wsL_law (wsV RL 95 RX10 yX10_takings wsX10_takings) := goodIn_app (goodIn_of _ (by decide +kernel)) ggL_law_X10_takings
set_option maxRecDepth 20000 in
theorem ggL_law_X9_foretell : GoodIn wsL_law wsX9_foretell := goodIn_r _ [527, 38, 528, 165, 166, 2, 167, 529, 530, 531, 37, 532, 79, 81, 80, 742, 743, 744, 745, 746, 747, 748, 749, 750, 751, 752, 753, 754, 755, 793, 794, 795] (by decide +kernel) (by decide +kernel)
set_option maxRecDepth 20000 in
theorem gL_law_X9_foretell : GoodIn wsL_law (wsV RL 96 RX9 yX9_foretell wsX9_foretell) := goodIn_app (goodIn_of _ (by decide +kernel)) ggL_law_X9_foretell
set_option maxRecDepth 20000 in
theorem ggL_law_X10_foretell : GoodIn wsL_law wsX10_foretell := goodIn_r _ [536, 537, 148, 149, 173, 174, 5, 175, 756, 757, 758, 759, 760, 761, 762, 763, 764, 765, 766, 767, 768, 769, 770, 771, 772, 773, 774, 775, 776, 777, 778, 779, 780, 781, 782, 783, 784, 785, 786, 787, 788, 789] (by decide +kernel) (by decide +kernel)
set_option maxRecDepth 20000 in
theorem gL_law_X10_foretell : GoodIn wsL_law (wsV RL 99 RX10 yX10_foretell wsX10_foretell) := goodIn_app (goodIn_of _ (by decide +kernel)) ggL_law_X10_foretell
set_option maxRecDepth 20000 in
theorem ggL_law_X9_forget : GoodIn wsL_law wsX9_forget := goodIn_r _ [541, 38, 528, 742, 743, 744, 745, 746, 747, 748, 749, 750, 751, 752, 753, 754, 755, 793, 794, 795] (by decide +kernel) (by decide +kernel)
set_option maxRecDepth 20000 in
theorem gL_law_X9_forget : GoodIn wsL_law (wsV RL 100 RX9 yX9_forget wsX9_forget) := goodIn_app (goodIn_of _ (by decide +kernel)) ggL_law_X9_forget
set_option maxRecDepth 20000 in
theorem ggL_law_X10_forget : GoodIn wsL_law wsX10_forget := goodIn_r _ [545, 537, 756, 757, 758, 759, 760, 761, 762, 763, 764, 765, 766, 767, 768, 769, 770, 771, 772, 773, 774, 775, 776, 777, 778, 779, 780, 781, 782, 783, 784, 785, 786, 787, 788, 789] (by decide +kernel) (by decide +kernel)
set_option maxRecDepth 20000 in
theorem gL_law_X10_forget : GoodIn wsL_law (wsV RL 103 RX10 yX10_forget wsX10_forget) := goodIn_app (goodIn_of _ (by decide +kernel)) ggL_law_X10_forget
set_option maxRecDepth 20000 in
theorem ggL_law_X9_press : GoodIn wsL_law wsX9_press := goodIn_r _ [549, 38, 528, 25, 165, 166, 2, 167, 550, 551, 552, 37, 553, 554, 555, 556, 557, 81, 79, 558, 330, 247, 331, 80, 559, 742, 743, 744, 745, 746, 747, 748, 749, 750, 751, 752, 753, 754, 755, 793, 794, 795] (by decide +kernel) (by decide +kernel)
set_option maxRecDepth 20000 in
theorem gL_law_X9_press : GoodIn wsL_law (wsV RL 104 RX9 yX9_press wsX9_press) := goodIn_app (goodIn_of _ (by decide +kernel)) ggL_law_X9_press
set_option maxRecDepth 20000 in
theorem ggL_law_X10_press : GoodIn wsL_law wsX10_press := goodIn_r _ [563, 537, 173, 174, 5, 175, 564, 565, 566, 567, 148, 149, 137, 756, 757, 758, 759, 760, 761, 762, 763, 764, 765, 766, 767, 768, 769, 770, 771, 772, 773, 774, 775, 776, 777, 778, 779, 780, 781, 782, 783, 784, 785, 786, 787, 788, 789] (by decide +kernel) (by decide +kernel)
set_option maxRecDepth 20000 in
theorem gL_law_X10_press : GoodIn wsL_law (wsV RL 107 RX10 yX10_press wsX10_press) := goodIn_app (goodIn_of _ (by decide +kernel)) ggL_law_X10_press
set_option maxRecDepth 20000 in
theorem ggL_law_X9_makes : GoodIn wsL_law wsX9_makes := goodIn_r _ [571, 572, 573, 574, 2, 575, 14, 165, 166, 167, 576, 577, 578, 579, 17, 16, 580, 581, 582, 53, 583, 109, 742, 743, 744, 745, 746, 747, 748, 749, 750, 751, 752, 753, 754, 755, 808, 809, 810, 811] (by decide +kernel) (by decide +kernel)
set_option maxRecDepth 20000 in
theorem gL_law_X9_makes : GoodIn wsL_law (wsV RL 108 RX9 yX9_makes wsX9_makes) := goodIn_app (goodIn_of _ (by decide +kernel)) ggL_law_X9_makes
set_option maxRecDepth 20000 in
theorem ggL_law_X10_makes : GoodIn wsL_law wsX10_makes := goodIn_r _ [587, 172, 173, 174, 5, 175, 588, 589, 590, 591, 185, 135, 756, 757, 758, 759, 760, 761, 762, 763, 764, 765, 766, 767, 768, 769, 770, 771, 772, 773, 774, 775, 776, 777, 778, 779, 780, 781, 782, 783, 784, 785, 786, 787, 788, 789] (by decide +kernel) (by decide +kernel)
set_option maxRecDepth 20000 in
theorem gL_law_X10_makes : GoodIn wsL_law (wsV RL 111 RX10 yX10_makes wsX10_makes) := goodIn_app (goodIn_of _ (by decide +kernel)) ggL_law_X10_makes
set_option maxRecDepth 20000 in
theorem ggL_law_X9_fewest : GoodIn wsL_law wsX9_fewest := goodIn_r _ [595, 165, 166, 2, 167, 572, 573, 574, 575, 14, 596, 597, 598, 599, 600, 601, 602, 576, 577, 578, 579, 17, 16, 580, 581, 582, 53, 583, 109, 742, 743, 744, 745, 746, 747, 748, 749, 750, 751, 752, 753, 754, 755, 808, 809, 810, 811] (by decide +kernel) (by decide +kernel)
set_option maxRecDepth 20000 in
theorem gL_law_X9_fewest : GoodIn wsL_law (wsV RL 112 RX9 yX9_fewest wsX9_fewest) := goodIn_app (goodIn_of _ (by decide +kernel)) ggL_law_X9_fewest
set_option maxRecDepth 20000 in
theorem ggL_law_X10_fewest : GoodIn wsL_law wsX10_fewest := goodIn_r _ [606, 172, 173, 174, 5, 175, 607, 608, 609, 588, 589, 590, 591, 185, 135, 756, 757, 758, 759, 760, 761, 762, 763, 764, 765, 766, 767, 768, 769, 770, 771, 772, 773, 774, 775, 776, 777, 778, 779, 780, 781, 782, 783, 784, 785, 786, 787, 788, 789] (by decide +kernel) (by decide +kernel)
set_option maxRecDepth 20000 in
theorem gL_law_X10_fewest : GoodIn wsL_law (wsV RL 115 RX10 yX10_fewest wsX10_fewest) := goodIn_app (goodIn_of _ (by decide +kernel)) ggL_law_X10_fewest
set_option maxRecDepth 20000 in
theorem ggL_law_X9_most : GoodIn wsL_law wsX9_most := goodIn_r _ [613, 14, 165, 166, 2, 167, 572, 573, 574, 575, 596, 597, 598, 599, 600, 601, 602, 576, 577, 578, 579, 17, 16, 580, 581, 582, 53, 583, 109, 742, 743, 744, 745, 746, 747, 748, 749, 750, 751, 752, 753, 754, 755, 808, 809, 810, 811] (by decide +kernel) (by decide +kernel)
set_option maxRecDepth 20000 in
theorem gL_law_X9_most : GoodIn wsL_law (wsV RL 116 RX9 yX9_most wsX9_most) := goodIn_app (goodIn_of _ (by decide +kernel)) ggL_law_X9_most
set_option maxRecDepth 20000 in
theorem ggL_law_X10_most : GoodIn wsL_law wsX10_most := goodIn_r _ [617, 172, 173, 174, 5, 175, 607, 608, 609, 588, 589, 590, 591, 185, 135, 756, 757, 758, 759, 760, 761, 762, 763, 764, 765, 766, 767, 768, 769, 770, 771, 772, 773, 774, 775, 776, 777, 778, 779, 780, 781, 782, 783, 784, 785, 786, 787, 788, 789] (by decide +kernel) (by decide +kernel)
set_option maxRecDepth 20000 in
theorem gL_law_X10_most : GoodIn wsL_law (wsV RL 119 RX10 yX10_most wsX10_most) := goodIn_app (goodIn_of _ (by decide +kernel)) ggL_law_X10_most
set_option maxRecDepth 20000 in
theorem ggL_law_X9_priceRule : GoodIn wsL_law wsX9_priceRule := goodIn_r _ [621, 41, 40, 622, 623, 624, 328, 165, 166, 2, 167, 742, 743, 744, 745, 746, 747, 748, 749, 750, 751, 752, 753, 754, 755, 817, 818, 819, 820] (by decide +kernel) (by decide +kernel)
set_option maxRecDepth 20000 in
theorem gL_law_X9_priceRule : GoodIn wsL_law (wsV RL 120 RX9 yX9_priceRule wsX9_priceRule) := goodIn_app (goodIn_of _ (by decide +kernel)) ggL_law_X9_priceRule
set_option maxRecDepth 20000 in
theorem ggL_law_X10_priceRule : GoodIn wsL_law wsX10_priceRule := goodIn_r _ [628, 348, 150, 151, 152, 153, 173, 174, 5, 175, 756, 757, 758, 759, 760, 761, 762, 763, 764, 765, 766, 767, 768, 769, 770, 771, 772, 773, 774, 775, 776, 777, 778, 779, 780, 781, 782, 783, 784, 785, 786, 787, 788, 789] (by decide +kernel) (by decide +kernel)
set_option maxRecDepth 20000 in
theorem gL_law_X10_priceRule : GoodIn wsL_law (wsV RL 123 RX10 yX10_priceRule wsX10_priceRule) := goodIn_app (goodIn_of _ (by decide +kernel)) ggL_law_X10_priceRule
set_option maxRecDepth 20000 in
theorem ggL_law_X9_price : GoodIn wsL_law wsX9_price := goodIn_r _ [632, 191, 192, 193, 2, 194, 17, 165, 166, 167, 321, 322, 323, 324, 325, 326, 327, 16, 180, 41, 40, 25, 328, 329, 330, 247, 331, 332, 333, 334, 57, 335, 124, 125, 336, 337, 338, 339, 123, 742, 743, 744, 745, 746, 747, 748, 749, 750, 751, 752, 753, 754, 755, 808, 809, 810, 811, 817, 818, 819, 820] (by decide +kernel) (by decide +kernel)
set_option maxRecDepth 20000 in
theorem gL_law_X9_price : GoodIn wsL_law (wsV RL 124 RX9 yX9_price wsX9_price) := goodIn_app (goodIn_of _ (by decide +kernel)) ggL_law_X9_price
set_option maxRecDepth 20000 in
theorem ggL_law_X10_price : GoodIn wsL_law wsX10_price := goodIn_r _ [636, 207, 208, 209, 5, 210, 185, 173, 174, 175, 344, 345, 346, 347, 134, 348, 153, 137, 349, 350, 351, 352, 150, 152, 151, 756, 757, 758, 759, 760, 761, 762, 763, 764, 765, 766, 767, 768, 769, 770, 771, 772, 773, 774, 775, 776, 777, 778, 779, 780, 781, 782, 783, 784, 785, 786, 787, 788, 789] (by decide +kernel) (by decide +kernel)
set_option maxRecDepth 20000 in
theorem gL_law_X10_price : GoodIn wsL_law (wsV RL 127 RX10 yX10_price wsX10_price) := goodIn_app (goodIn_of _ (by decide +kernel)) ggL_law_X10_price
set_option maxRecDepth 20000 in
theorem ggL_law_X9_person : GoodIn wsL_law wsX9_person := goodIn_r _ [640, 45, 641, 165, 166, 2, 167, 742, 743, 744, 745, 746, 747, 748, 749, 750, 751, 752, 753, 754, 755, 796] (by decide +kernel) (by decide +kernel)
set_option maxRecDepth 20000 in
theorem gL_law_X9_person : GoodIn wsL_law (wsV RL 128 RX9 yX9_person wsX9_person) := goodIn_app (goodIn_of _ (by decide +kernel)) ggL_law_X9_person
set_option maxRecDepth 20000 in
theorem ggL_law_X10_person : GoodIn wsL_law wsX10_person := goodIn_r _ [645, 154, 173, 174, 5, 175, 756, 757, 758, 759, 760, 761, 762, 763, 764, 765, 766, 767, 768, 769, 770, 771, 772, 773, 774, 775, 776, 777, 778, 779, 780, 781, 782, 783, 784, 785, 786, 787, 788, 789] (by decide +kernel) (by decide +kernel)
set_option maxRecDepth 20000 in
theorem gL_law_X10_person : GoodIn wsL_law (wsV RL 131 RX10 yX10_person wsX10_person) := goodIn_app (goodIn_of _ (by decide +kernel)) ggL_law_X10_person
set_option maxRecDepth 20000 in
theorem ggL_law_X9_tips : GoodIn wsL_law wsX9_tips := goodIn_r _ [649, 650, 45, 165, 166, 2, 167, 651, 652, 653, 44, 654, 85, 655, 656, 657, 658, 659, 660, 661, 662, 663, 664, 665, 666, 742, 743, 744, 745, 746, 747, 748, 749, 750, 751, 752, 753, 754, 755, 796] (by decide +kernel) (by decide +kernel)
set_option maxRecDepth 20000 in
theorem gL_law_X9_tips : GoodIn wsL_law (wsV RL 132 RX9 yX9_tips wsX9_tips) := goodIn_app (goodIn_of _ (by decide +kernel)) ggL_law_X9_tips
set_option maxRecDepth 20000 in
theorem ggL_law_X10_tips : GoodIn wsL_law wsX10_tips := goodIn_r _ [670, 671, 154, 173, 174, 5, 175, 756, 757, 758, 759, 760, 761, 762, 763, 764, 765, 766, 767, 768, 769, 770, 771, 772, 773, 774, 775, 776, 777, 778, 779, 780, 781, 782, 783, 784, 785, 786, 787, 788, 789] (by decide +kernel) (by decide +kernel)
set_option maxRecDepth 20000 in
theorem gL_law_X10_tips : GoodIn wsL_law (wsV RL 135 RX10 yX10_tips wsX10_tips) := goodIn_app (goodIn_of _ (by decide +kernel)) ggL_law_X10_tips
set_option maxRecDepth 20000 in
theorem ggL_law_X9_keg : GoodIn wsL_law wsX9_keg := goodIn_r _ [675, 676, 25, 329, 330, 247, 331, 677, 246, 248, 678, 165, 166, 2, 167, 742, 743, 744, 745, 746, 747, 748, 749, 750, 751, 752, 753, 754, 755] (by decide +kernel) (by decide +kernel)
set_option maxRecDepth 20000 in
theorem gL_law_X9_keg : GoodIn wsL_law (wsV RL 136 RX9 yX9_keg wsX9_keg) := goodIn_app (goodIn_of _ (by decide +kernel)) ggL_law_X9_keg
set_option maxRecDepth 20000 in
theorem ggL_law_X10_keg : GoodIn wsL_law wsX10_keg := goodIn_r _ [682, 683, 137, 684, 173, 174, 5, 175, 756, 757, 758, 759, 760, 761, 762, 763, 764, 765, 766, 767, 768, 769, 770, 771, 772, 773, 774, 775, 776, 777, 778, 779, 780, 781, 782, 783, 784, 785, 786, 787, 788, 789] (by decide +kernel) (by decide +kernel)
set_option maxRecDepth 20000 in
theorem gL_law_X10_keg : GoodIn wsL_law (wsV RL 139 RX10 yX10_keg wsX10_keg) := goodIn_app (goodIn_of _ (by decide +kernel)) ggL_law_X10_keg
set_option maxRecDepth 20000 in
theorem ggL_law_X9_deal : GoodIn wsL_law wsX9_deal := goodIn_r _ [688, 676, 49, 689, 165, 166, 2, 167, 690, 691, 692, 48, 693, 89, 91, 90, 742, 743, 744, 745, 746, 747, 748, 749, 750, 751, 752, 753, 754, 755, 797, 798, 799, 800] (by decide +kernel) (by decide +kernel)
set_option maxRecDepth 20000 in
theorem gL_law_X9_deal : GoodIn wsL_law (wsV RL 140 RX9 yX9_deal wsX9_deal) := goodIn_app (goodIn_of _ (by decide +kernel)) ggL_law_X9_deal
set_option maxRecDepth 20000 in
theorem ggL_law_X10_deal : GoodIn wsL_law wsX10_deal := goodIn_r _ [697, 683, 698, 155, 156, 173, 174, 5, 175, 756, 757, 758, 759, 760, 761, 762, 763, 764, 765, 766, 767, 768, 769, 770, 771, 772, 773, 774, 775, 776, 777, 778, 779, 780, 781, 782, 783, 784, 785, 786, 787, 788, 789] (by decide +kernel) (by decide +kernel)
set_option maxRecDepth 20000 in
theorem gL_law_X10_deal : GoodIn wsL_law (wsV RL 143 RX10 yX10_deal wsX10_deal) := goodIn_app (goodIn_of _ (by decide +kernel)) ggL_law_X10_deal
set_option maxRecDepth 20000 in
theorem ggL_law_X9_buy : GoodIn wsL_law wsX9_buy := goodIn_r _ [702, 49, 689, 165, 166, 2, 167, 703, 704, 705, 48, 706, 93, 91, 707, 708, 246, 247, 248, 709, 710, 711, 712, 89, 90, 713, 714, 715, 716, 717, 718, 719, 720, 721, 722, 723, 724, 725, 726, 727, 728, 742, 743, 744, 745, 746, 747, 748, 749, 750, 751, 752, 753, 754, 755, 797, 798, 799, 800] (by decide +kernel) (by decide +kernel)
set_option maxRecDepth 20000 in
theorem gL_law_X9_buy : GoodIn wsL_law (wsV RL 144 RX9 yX9_buy wsX9_buy) := goodIn_app (goodIn_of _ (by decide +kernel)) ggL_law_X9_buy
set_option maxRecDepth 20000 in
theorem ggL_law_X10_buy : GoodIn wsL_law wsX10_buy := goodIn_r _ [732, 698, 733, 157, 155, 156, 173, 174, 5, 175, 756, 757, 758, 759, 760, 761, 762, 763, 764, 765, 766, 767, 768, 769, 770, 771, 772, 773, 774, 775, 776, 777, 778, 779, 780, 781, 782, 783, 784, 785, 786, 787, 788, 789] (by decide +kernel) (by decide +kernel)
set_option maxRecDepth 20000 in
theorem gL_law_X10_buy : GoodIn wsL_law (wsV RL 147 RX10 yX10_buy wsX10_buy) := goodIn_app (goodIn_of _ (by decide +kernel)) ggL_law_X10_buy
set_option maxRecDepth 20000 in
theorem ggL_law_X9_count : GoodIn wsL_law wsX9_count := goodIn_r _ [737, 14, 17, 28, 32, 403, 41, 49, 689, 38, 528, 742, 743, 744, 745, 746, 747, 748, 749, 750, 751, 752, 753, 754, 755, 790, 791, 792, 797, 798, 799, 800, 793, 794, 795] (by decide +kernel) (by decide +kernel)
set_option maxRecDepth 20000 in
theorem gL_law_X9_count : GoodIn wsL_law (wsV RL 148 RX9 yX9_count wsX9_count) := goodIn_app (goodIn_of _ (by decide +kernel)) ggL_law_X9_count
set_option maxRecDepth 20000 in
theorem ggL_law_X10_count : GoodIn wsL_law wsX10_count := goodIn_r _ [741, 172, 185, 357, 281, 348, 698, 537, 756, 757, 758, 759, 760, 761, 762, 763, 764, 765, 766, 767, 768, 769, 770, 771, 772, 773, 774, 775, 776, 777, 778, 779, 780, 781, 782, 783, 784, 785, 786, 787, 788, 789] (by decide +kernel) (by decide +kernel)
set_option maxRecDepth 20000 in
theorem gL_law_X10_count : GoodIn wsL_law (wsV RL 151 RX10 yX10_count wsX10_count) := goodIn_app (goodIn_of _ (by decide +kernel)) ggL_law_X10_count
