set_option maxRecDepth 20000 in
theorem ggL_law_X4_init : GoodIn wsL_law wsX4_init := goodIn_r _ [9, 10, 11, 12, 13, 14, 15, 16, 17, 18, 19, 20, 21, 22, 23, 24, 25, 26, 27, 28, 29, 30, 31, 32, 33, 34, 35, 36, 37, 38, 39, 40, 41, 42, 43, 44, 45, 46, 47, 48, 49, 50, 51, 52, 53, 54, 55, 56, 57, 58, 59, 60, 61, 866, 867, 868, 869, 870, 871, 843, 844, 845, 846, 847, 848, 849, 872, 873, 874, 875, 876, 877, 878, 879, 880, 881, 882, 883, 884, 885, 886, 887, 888] (by decide +kernel) (by decide +kernel)
set_option maxRecDepth 20000 in
theorem gL_law_X4_init : GoodIn wsL_law (wsX4_init) := ggL_law_X4_init
set_option maxRecDepth 20000 in
theorem ggL_law_X5_init : GoodIn wsL_law wsX5_init := goodIn_r _ [64, 65, 11, 12, 26, 66, 67, 68, 69, 70, 71, 72, 73, 58, 74, 75, 850, 851, 852, 853, 854, 855, 856, 857, 858, 859, 860, 861, 862, 863, 864, 865] (by decide +kernel) (by decide +kernel)
set_option maxRecDepth 20000 in
theorem gL_law_X5_init : GoodIn wsL_law (wsX5_init) := ggL_law_X5_init
set_option maxRecDepth 20000 in
theorem ggL_law_X4_road : GoodIn wsL_law wsX4_road := goodIn_r _ [79, 16, 80, 81, 2, 82, 83, 84, 85, 86, 87, 88, 89, 90, 27, 91, 843, 844, 845, 846, 847, 848, 849, 866, 867, 868, 869, 870, 871] (by decide +kernel) (by decide +kernel)
set_option maxRecDepth 20000 in
theorem gL_law_X4_road : GoodIn wsL_law (wsV RL 13 RX4 yX4_road wsX4_road) := goodIn_app (goodIn_of _ (by decide +kernel)) ggL_law_X4_road
set_option maxRecDepth 20000 in
theorem ggL_law_X5_road : GoodIn wsL_law wsX5_road := goodIn_r _ [95, 96, 97, 98, 99, 100, 101, 5, 102, 103, 104, 105, 106, 66, 107, 108, 109, 110, 70, 850, 851, 852, 853, 854, 855, 856, 857, 858, 859, 860, 861, 862, 863, 864, 865] (by decide +kernel) (by decide +kernel)
set_option maxRecDepth 20000 in
theorem gL_law_X5_road : GoodIn wsL_law (wsV RL 17 RX5 yX5_road wsX5_road) := goodIn_app (goodIn_of _ (by decide +kernel)) ggL_law_X5_road
set_option maxRecDepth 20000 in
theorem ggL_law_X4_at : GoodIn wsL_law wsX4_at := goodIn_r _ [114, 16, 80, 81, 2, 82, 87, 88, 89, 90, 27, 91, 843, 844, 845, 846, 847, 848, 849, 866, 867, 868, 869, 870, 871, 881, 882, 883, 884, 885, 886, 887, 888] (by decide +kernel) (by decide +kernel)
set_option maxRecDepth 20000 in
theorem gL_law_X4_at : GoodIn wsL_law (wsV RL 18 RX4 yX4_at wsX4_at) := goodIn_app (goodIn_of _ (by decide +kernel)) ggL_law_X4_at
set_option maxRecDepth 20000 in
theorem ggL_law_X5_at : GoodIn wsL_law wsX5_at := goodIn_r _ [118, 99, 119, 120, 5, 121, 122, 100, 101, 102, 123, 124, 125, 126, 66, 127, 128, 129, 130, 131, 132, 133, 107, 108, 109, 110, 70, 850, 851, 852, 853, 854, 855, 856, 857, 858, 859, 860, 861, 862, 863, 864, 865] (by decide +kernel) (by decide +kernel)
set_option maxRecDepth 20000 in
theorem gL_law_X5_at : GoodIn wsL_law (wsV RL 22 RX5 yX5_at wsX5_at) := goodIn_app (goodIn_of _ (by decide +kernel)) ggL_law_X5_at
set_option maxRecDepth 20000 in
theorem ggL_law_X4_walker : GoodIn wsL_law wsX4_walker := goodIn_r _ [137, 16, 80, 81, 2, 82, 87, 88, 89, 90, 27, 91, 138, 15, 139, 140, 37, 141, 142, 143, 39, 144, 41, 145, 146, 147, 148, 149, 150, 151, 152, 153, 154, 843, 844, 845, 846, 847, 848, 849, 866, 867, 868, 869, 870, 871, 881, 882, 883, 884, 885, 886, 887, 888] (by decide +kernel) (by decide +kernel)
set_option maxRecDepth 20000 in
theorem gL_law_X4_walker : GoodIn wsL_law (wsV RL 23 RX4 yX4_walker wsX4_walker) := goodIn_app (goodIn_of _ (by decide +kernel)) ggL_law_X4_walker
set_option maxRecDepth 20000 in
theorem ggL_law_X5_walker : GoodIn wsL_law wsX5_walker := goodIn_r _ [158, 99, 66, 159, 160, 161, 5, 162, 163, 100, 101, 102, 119, 120, 121, 122, 107, 108, 109, 110, 70, 164, 165, 166, 167, 131, 132, 133, 850, 851, 852, 853, 854, 855, 856, 857, 858, 859, 860, 861, 862, 863, 864, 865] (by decide +kernel) (by decide +kernel)
set_option maxRecDepth 20000 in
theorem gL_law_X5_walker : GoodIn wsL_law (wsV RL 26 RX5 yX5_walker wsX5_walker) := goodIn_app (goodIn_of _ (by decide +kernel)) ggL_law_X5_walker
set_option maxRecDepth 20000 in
theorem ggL_law_X4_of : GoodIn wsL_law wsX4_of := goodIn_r _ [171, 16, 172, 173, 174, 2, 175, 80, 81, 82, 87, 88, 89, 90, 27, 91, 176, 15, 177, 178, 36, 179, 180, 181, 182, 37, 39, 183, 184, 185, 35, 186, 41, 187, 188, 148, 149, 150, 151, 152, 153, 154, 147, 843, 844, 845, 846, 847, 848, 849, 866, 867, 868, 869, 870, 871, 881, 882, 883, 884, 885, 886, 887, 888] (by decide +kernel) (by decide +kernel)
set_option maxRecDepth 20000 in
theorem gL_law_X4_of : GoodIn wsL_law (wsV RL 27 RX4 yX4_of wsX4_of) := goodIn_app (goodIn_of _ (by decide +kernel)) ggL_law_X4_of
set_option maxRecDepth 20000 in
theorem ggL_law_X5_of : GoodIn wsL_law wsX5_of := goodIn_r _ [192, 193, 99, 194, 195, 196, 5, 197, 66, 100, 101, 102, 107, 108, 109, 110, 70, 127, 128, 129, 130, 131, 132, 133, 198, 199, 200, 201, 123, 124, 125, 126, 202, 203, 204, 205, 850, 851, 852, 853, 854, 855, 856, 857, 858, 859, 860, 861, 862, 863, 864, 865] (by decide +kernel) (by decide +kernel)
set_option maxRecDepth 20000 in
theorem gL_law_X5_of : GoodIn wsL_law (wsV RL 30 RX5 yX5_of wsX5_of) := goodIn_app (goodIn_of _ (by decide +kernel)) ggL_law_X5_of
set_option maxRecDepth 20000 in
theorem ggL_law_X4_set : GoodIn wsL_law wsX4_set := goodIn_r _ [209, 16, 172, 173, 174, 2, 175, 80, 81, 82, 210, 211, 212, 86, 87, 88, 89, 90, 27, 91, 186, 41, 187, 188, 148, 149, 150, 151, 152, 153, 154, 147, 213, 214, 215, 843, 844, 845, 846, 847, 848, 849, 866, 867, 868, 869, 870, 871, 881, 882, 883, 884, 885, 886, 887, 888] (by decide +kernel) (by decide +kernel)
set_option maxRecDepth 20000 in
theorem gL_law_X4_set : GoodIn wsL_law (wsV RL 31 RX4 yX4_set wsX4_set) := goodIn_app (goodIn_of _ (by decide +kernel)) ggL_law_X4_set
set_option maxRecDepth 20000 in
theorem ggL_law_X5_set : GoodIn wsL_law wsX5_set := goodIn_r _ [219, 220, 99, 100, 101, 5, 102, 221, 222, 223, 224, 194, 195, 196, 197, 66, 131, 132, 133, 103, 104, 105, 106, 107, 108, 109, 110, 70, 850, 851, 852, 853, 854, 855, 856, 857, 858, 859, 860, 861, 862, 863, 864, 865] (by decide +kernel) (by decide +kernel)
set_option maxRecDepth 20000 in
theorem gL_law_X5_set : GoodIn wsL_law (wsV RL 35 RX5 yX5_set wsX5_set) := goodIn_app (goodIn_of _ (by decide +kernel)) ggL_law_X5_set
set_option maxRecDepth 20000 in
theorem ggL_law_X4_turn : GoodIn wsL_law wsX4_turn := goodIn_r _ [228, 16, 172, 173, 174, 2, 175, 80, 81, 82, 87, 88, 89, 90, 27, 91, 843, 844, 845, 846, 847, 848, 849, 866, 867, 868, 869, 870, 871, 881, 882, 883, 884, 885, 886, 887, 888] (by decide +kernel) (by decide +kernel)
set_option maxRecDepth 20000 in
theorem gL_law_X4_turn : GoodIn wsL_law (wsV RL 36 RX4 yX4_turn wsX4_turn) := goodIn_app (goodIn_of _ (by decide +kernel)) ggL_law_X4_turn
set_option maxRecDepth 20000 in
theorem ggL_law_X5_turn : GoodIn wsL_law wsX5_turn := goodIn_r _ [232, 99, 194, 195, 196, 5, 197, 66, 100, 101, 102, 160, 161, 162, 163, 131, 132, 133, 103, 104, 105, 106, 107, 108, 109, 110, 70, 850, 851, 852, 853, 854, 855, 856, 857, 858, 859, 860, 861, 862, 863, 864, 865] (by decide +kernel) (by decide +kernel)
set_option maxRecDepth 20000 in
theorem gL_law_X5_turn : GoodIn wsL_law (wsV RL 39 RX5 yX5_turn wsX5_turn) := goodIn_app (goodIn_of _ (by decide +kernel)) ggL_law_X5_turn
set_option maxRecDepth 20000 in
theorem ggL_law_X4_as : GoodIn wsL_law wsX4_as := goodIn_r _ [236, 16, 172, 173, 174, 2, 175, 80, 81, 82, 87, 88, 89, 90, 27, 91, 237, 238, 239, 843, 844, 845, 846, 847, 848, 849, 866, 867, 868, 869, 870, 871, 881, 882, 883, 884, 885, 886, 887, 888] (by decide +kernel) (by decide +kernel)
set_option maxRecDepth 20000 in
theorem gL_law_X4_as : GoodIn wsL_law (wsV RL 40 RX4 yX4_as wsX4_as) := goodIn_app (goodIn_of _ (by decide +kernel)) ggL_law_X4_as
set_option maxRecDepth 20000 in
theorem ggL_law_X5_as : GoodIn wsL_law wsX5_as := goodIn_r _ [243, 99, 244, 194, 195, 196, 5, 197, 66, 100, 101, 102, 160, 161, 162, 163, 107, 108, 109, 110, 70, 127, 128, 129, 130, 131, 132, 133, 245, 246, 247, 850, 851, 852, 853, 854, 855, 856, 857, 858, 859, 860, 861, 862, 863, 864, 865] (by decide +kernel) (by decide +kernel)
set_option maxRecDepth 20000 in
theorem gL_law_X5_as : GoodIn wsL_law (wsV RL 43 RX5 yX5_as wsX5_as) := goodIn_app (goodIn_of _ (by decide +kernel)) ggL_law_X5_as
set_option maxRecDepth 20000 in
theorem ggL_law_X4_hours : GoodIn wsL_law wsX4_hours := goodIn_r _ [251, 16, 252, 80, 81, 2, 82, 87, 88, 89, 90, 27, 91, 253, 15, 254, 255, 256, 257, 258, 259, 37, 39, 33, 260, 261, 262, 263, 264, 265, 266, 267, 268, 176, 177, 178, 36, 179, 180, 181, 182, 269, 41, 270, 271, 149, 148, 272, 273, 274, 275, 34, 276, 277, 278, 279, 280, 183, 184, 185, 35, 281, 282, 283, 284, 843, 844, 845, 846, 847, 848, 849, 866, 867, 868, 869, 870, 871, 881, 882, 883, 884, 885, 886, 887, 888] (by decide +kernel) (by decide +kernel)
set_option maxRecDepth 20000 in
theorem gL_law_X4_hours : GoodIn wsL_law (wsV RL 44 RX4 yX4_hours wsX4_hours) := goodIn_app (goodIn_of _ (by decide +kernel)) ggL_law_X4_hours
set_option maxRecDepth 20000 in
theorem ggL_law_X5_hours : GoodIn wsL_law wsX5_hours := goodIn_r _ [288, 289, 99, 66, 290, 291, 100, 101, 5, 102, 107, 108, 109, 110, 70, 292, 293, 294, 295, 296, 297, 298, 299, 127, 128, 129, 130, 131, 132, 133, 300, 301, 302, 303, 198, 199, 200, 201, 123, 124, 125, 126, 304, 305, 306, 307, 308, 309, 310, 224, 202, 203, 204, 205, 311, 312, 313, 314, 850, 851, 852, 853, 854, 855, 856, 857, 858, 859, 860, 861, 862, 863, 864, 865] (by decide +kernel) (by decide +kernel)
set_option maxRecDepth 20000 in
theorem gL_law_X5_hours : GoodIn wsL_law (wsV RL 47 RX5 yX5_hours wsX5_hours) := goodIn_app (goodIn_of _ (by decide +kernel)) ggL_law_X5_hours
set_option maxRecDepth 20000 in
theorem ggL_law_X4_now : GoodIn wsL_law wsX4_now := goodIn_r _ [318, 16, 319, 15, 320, 321, 37, 39, 186, 41, 187, 188, 148, 149, 150, 151, 152, 153, 154, 147, 322, 323, 324, 87, 88, 89, 2, 90, 27, 91, 843, 844, 845, 846, 847, 848, 849, 866, 867, 868, 869, 870, 871, 881, 882, 883, 884, 885, 886, 887, 888] (by decide +kernel) (by decide +kernel)
set_option maxRecDepth 20000 in
theorem gL_law_X4_now : GoodIn wsL_law (wsV RL 48 RX4 yX4_now wsX4_now) := goodIn_app (goodIn_of _ (by decide +kernel)) ggL_law_X4_now
set_option maxRecDepth 20000 in
theorem ggL_law_X5_now : GoodIn wsL_law wsX5_now := goodIn_r _ [328, 66, 99, 329, 330, 331, 5, 332, 127, 128, 129, 130, 131, 132, 133, 333, 334, 335, 336, 107, 108, 109, 110, 70, 850, 851, 852, 853, 854, 855, 856, 857, 858, 859, 860, 861, 862, 863, 864, 865] (by decide +kernel) (by decide +kernel)
set_option maxRecDepth 20000 in
theorem gL_law_X5_now : GoodIn wsL_law (wsV RL 51 RX5 yX5_now wsX5_now) := goodIn_app (goodIn_of _ (by decide +kernel)) ggL_law_X5_now
set_option maxRecDepth 20000 in
theorem ggL_law_X4_on : GoodIn wsL_law wsX4_on := goodIn_r _ [340, 17, 172, 173, 174, 2, 175, 16, 80, 81, 82, 87, 88, 89, 90, 27, 91, 341, 342, 343, 344, 345, 15, 346, 347, 33, 34, 35, 36, 37, 39, 348, 41, 349, 350, 147, 148, 149, 150, 151, 152, 153, 154, 253, 254, 255, 256, 257, 258, 259, 260, 261, 262, 263, 264, 265, 266, 267, 268, 176, 177, 178, 179, 180, 181, 182, 269, 270, 271, 272, 273, 274, 275, 276, 277, 278, 279, 280, 183, 184, 185, 281, 282, 283, 284, 843, 844, 845, 846, 847, 848, 849, 866, 867, 868, 869, 870, 871, 881, 882, 883, 884, 885, 886, 887, 888] (by decide +kernel) (by decide +kernel)
set_option maxRecDepth 20000 in
theorem gL_law_X4_on : GoodIn wsL_law (wsV RL 52 RX4 yX4_on wsX4_on) := goodIn_app (goodIn_of _ (by decide +kernel)) ggL_law_X4_on
set_option maxRecDepth 20000 in
theorem ggL_law_X5_on : GoodIn wsL_law wsX5_on := goodIn_r _ [354, 289, 96, 99, 194, 195, 196, 5, 197, 66, 100, 101, 102, 107, 108, 109, 110, 70, 131, 132, 133, 355, 356, 357, 358, 359, 360, 361, 362, 69, 292, 293, 294, 295, 296, 297, 298, 299, 127, 128, 129, 130, 300, 301, 302, 303, 198, 199, 200, 201, 123, 124, 125, 126, 304, 305, 306, 307, 308, 309, 310, 224, 202, 203, 204, 205, 311, 312, 313, 314, 363, 364, 365, 366, 850, 851, 852, 853, 854, 855, 856, 857, 858, 859, 860, 861, 862, 863, 864, 865] (by decide +kernel) (by decide +kernel)
set_option maxRecDepth 20000 in
theorem gL_law_X5_on : GoodIn wsL_law (wsV RL 55 RX5 yX5_on wsX5_on) := goodIn_app (goodIn_of _ (by decide +kernel)) ggL_law_X5_on
set_option maxRecDepth 20000 in
theorem ggL_law_X4_fund : GoodIn wsL_law wsX4_fund := goodIn_r _ [370, 17, 80, 81, 2, 82, 87, 88, 89, 90, 27, 91, 341, 342, 343, 344, 16, 345, 15, 346, 347, 33, 34, 35, 36, 37, 39, 348, 41, 349, 350, 147, 148, 149, 150, 151, 152, 153, 154, 253, 254, 255, 256, 257, 258, 259, 260, 261, 262, 263, 264, 265, 266, 267, 268, 176, 177, 178, 179, 180, 181, 182, 269, 270, 271, 272, 273, 274, 275, 276, 277, 278, 279, 280, 183, 184, 185, 281, 282, 283, 284, 843, 844, 845, 846, 847, 848, 849, 866, 867, 868, 869, 870, 871, 881, 882, 883, 884, 885, 886, 887, 888] (by decide +kernel) (by decide +kernel)
set_option maxRecDepth 20000 in
theorem gL_law_X4_fund : GoodIn wsL_law (wsV RL 56 RX4 yX4_fund wsX4_fund) := goodIn_app (goodIn_of _ (by decide +kernel)) ggL_law_X4_fund
set_option maxRecDepth 20000 in
theorem ggL_law_X5_fund : GoodIn wsL_law wsX5_fund := goodIn_r _ [374, 289, 99, 100, 101, 5, 102, 355, 356, 357, 358, 66, 359, 360, 361, 362, 69, 292, 293, 294, 295, 296, 297, 298, 299, 127, 128, 129, 130, 131, 132, 133, 300, 301, 302, 303, 198, 199, 200, 201, 123, 124, 125, 126, 304, 305, 306, 307, 308, 309, 310, 224, 202, 203, 204, 205, 311, 312, 313, 314, 363, 364, 365, 366, 107, 108, 109, 110, 70, 850, 851, 852, 853, 854, 855, 856, 857, 858, 859, 860, 861, 862, 863, 864, 865] (by decide +kernel) (by decide +kernel)
set_option maxRecDepth 20000 in
theorem gL_law_X5_fund : GoodIn wsL_law (wsV RL 59 RX5 yX5_fund wsX5_fund) := goodIn_app (goodIn_of _ (by decide +kernel)) ggL_law_X5_fund
set_option maxRecDepth 20000 in
theorem ggL_law_X4_empty : GoodIn wsL_law wsX4_empty := goodIn_r _ [378, 17, 341, 342, 343, 2, 344, 16, 345, 15, 346, 347, 33, 34, 35, 36, 37, 39, 348, 41, 349, 350, 147, 148, 149, 150, 151, 152, 153, 154, 257, 258, 259, 260, 261, 262, 263, 264, 265, 266, 267, 268, 176, 177, 178, 179, 180, 181, 182, 269, 270, 271, 272, 273, 274, 275, 276, 277, 278, 279, 280, 183, 184, 185, 281, 282, 283, 284, 87, 88, 89, 90, 27, 91, 843, 844, 845, 846, 847, 848, 849, 866, 867, 868, 869, 870, 871, 881, 882, 883, 884, 885, 886, 887, 888] (by decide +kernel) (by decide +kernel)
set_option maxRecDepth 20000 in
theorem gL_law_X4_empty : GoodIn wsL_law (wsV RL 60 RX4 yX4_empty wsX4_empty) := goodIn_app (goodIn_of _ (by decide +kernel)) ggL_law_X4_empty
set_option maxRecDepth 20000 in
theorem ggL_law_X5_empty : GoodIn wsL_law wsX5_empty := goodIn_r _ [382, 383, 384, 385, 5, 386, 66, 387, 359, 360, 361, 362, 69, 296, 297, 298, 299, 127, 128, 129, 130, 131, 132, 133, 300, 301, 302, 303, 198, 199, 200, 201, 123, 124, 125, 126, 304, 305, 306, 307, 308, 309, 310, 224, 202, 203, 204, 205, 311, 312, 313, 314, 363, 364, 365, 366, 107, 108, 109, 110, 70, 99, 850, 851, 852, 853, 854, 855, 856, 857, 858, 859, 860, 861, 862, 863, 864, 865] (by decide +kernel) (by decide +kernel)
set_option maxRecDepth 20000 in
theorem gL_law_X5_empty : GoodIn wsL_law (wsV RL 64 RX5 yX5_empty wsX5_empty) := goodIn_app (goodIn_of _ (by decide +kernel)) ggL_law_X5_empty
set_option maxRecDepth 20000 in
theorem ggL_law_X4_comes : GoodIn wsL_law wsX4_comes := goodIn_r _ [391, 17, 172, 173, 174, 2, 175, 16, 80, 81, 82, 87, 88, 89, 90, 27, 91, 341, 342, 343, 344, 345, 15, 346, 347, 33, 34, 35, 36, 37, 39, 348, 41, 349, 350, 147, 148, 149, 150, 151, 152, 153, 154, 257, 258, 259, 260, 261, 262, 263, 264, 265, 266, 267, 268, 176, 177, 178, 179, 180, 181, 182, 269, 270, 271, 272, 273, 274, 275, 276, 277, 278, 279, 280, 183, 184, 185, 281, 282, 283, 284, 843, 844, 845, 846, 847, 848, 849, 866, 867, 868, 869, 870, 871, 881, 882, 883, 884, 885, 886, 887, 888] (by decide +kernel) (by decide +kernel)
set_option maxRecDepth 20000 in
theorem gL_law_X4_comes : GoodIn wsL_law (wsV RL 65 RX4 yX4_comes wsX4_comes) := goodIn_app (goodIn_of _ (by decide +kernel)) ggL_law_X4_comes
set_option maxRecDepth 20000 in
theorem ggL_law_X5_comes : GoodIn wsL_law wsX5_comes := goodIn_r _ [395, 99, 194, 195, 196, 5, 197, 66, 100, 101, 102, 119, 120, 121, 122, 131, 132, 133, 383, 384, 385, 386, 387, 359, 360, 361, 362, 69, 296, 297, 298, 299, 127, 128, 129, 130, 300, 301, 302, 303, 198, 199, 200, 201, 123, 124, 125, 126, 304, 305, 306, 307, 308, 309, 310, 224, 202, 203, 204, 205, 311, 312, 313, 314, 363, 364, 365, 366, 107, 108, 109, 110, 70, 850, 851, 852, 853, 854, 855, 856, 857, 858, 859, 860, 861, 862, 863, 864, 865] (by decide +kernel) (by decide +kernel)
set_option maxRecDepth 20000 in
theorem gL_law_X5_comes : GoodIn wsL_law (wsV RL 68 RX5 yX5_comes wsX5_comes) := goodIn_app (goodIn_of _ (by decide +kernel)) ggL_law_X5_comes
set_option maxRecDepth 20000 in
theorem ggL_law_X4_meet : GoodIn wsL_law wsX4_meet := goodIn_r _ [399, 17, 400, 401, 402, 2, 403, 172, 173, 174, 175, 16, 80, 81, 82, 87, 88, 89, 90, 27, 91, 341, 342, 343, 344, 345, 15, 346, 347, 33, 34, 35, 36, 37, 39, 348, 41, 349, 350, 147, 148, 149, 150, 151, 152, 153, 154, 257, 258, 259, 260, 261, 262, 263, 264, 265, 266, 267, 268, 176, 177, 178, 179, 180, 181, 182, 269, 270, 271, 272, 273, 274, 275, 276, 277, 278, 279, 280, 183, 184, 185, 281, 282, 283, 284, 843, 844, 845, 846, 847, 848, 849, 866, 867, 868, 869, 870, 871, 881, 882, 883, 884, 885, 886, 887, 888] (by decide +kernel) (by decide +kernel)
set_option maxRecDepth 20000 in
theorem gL_law_X4_meet : GoodIn wsL_law (wsV RL 69 RX4 yX4_meet wsX4_meet) := goodIn_app (goodIn_of _ (by decide +kernel)) ggL_law_X4_meet
set_option maxRecDepth 20000 in
theorem ggL_law_X5_meet : GoodIn wsL_law wsX5_meet := goodIn_r _ [407, 99, 387, 408, 409, 410, 5, 411, 194, 195, 196, 197, 66, 100, 101, 102, 107, 108, 109, 110, 70, 359, 360, 361, 362, 69, 127, 128, 129, 130, 131, 132, 133, 296, 297, 298, 299, 300, 301, 302, 303, 198, 199, 200, 201, 123, 124, 125, 126, 304, 305, 306, 307, 308, 309, 310, 224, 202, 203, 204, 205, 311, 312, 313, 314, 363, 364, 365, 366, 850, 851, 852, 853, 854, 855, 856, 857, 858, 859, 860, 861, 862, 863, 864, 865] (by decide +kernel) (by decide +kernel)
set_option maxRecDepth 20000 in
theorem gL_law_X5_meet : GoodIn wsL_law (wsV RL 72 RX5 yX5_meet wsX5_meet) := goodIn_app (goodIn_of _ (by decide +kernel)) ggL_law_X5_meet
set_option maxRecDepth 20000 in
theorem ggL_law_X4_worn : GoodIn wsL_law wsX4_worn := goodIn_r _ [415, 17, 172, 173, 174, 2, 175, 16, 80, 81, 82, 87, 88, 89, 90, 27, 91, 341, 342, 343, 344, 345, 15, 346, 347, 33, 34, 35, 36, 37, 39, 348, 41, 349, 350, 147, 148, 149, 150, 151, 152, 153, 154, 257, 258, 259, 260, 261, 262, 263, 264, 265, 266, 267, 268, 176, 177, 178, 179, 180, 181, 182, 269, 270, 271, 272, 273, 274, 275, 276, 277, 278, 279, 280, 183, 184, 185, 281, 282, 283, 284, 843, 844, 845, 846, 847, 848, 849, 866, 867, 868, 869, 870, 871, 881, 882, 883, 884, 885, 886, 887, 888] (by decide +kernel) (by decide +kernel)
set_option maxRecDepth 20000 in
theorem gL_law_X4_worn : GoodIn wsL_law (wsV RL 73 RX4 yX4_worn wsX4_worn) := goodIn_app (goodIn_of _ (by decide +kernel)) ggL_law_X4_worn
set_option maxRecDepth 20000 in
theorem ggL_law_X5_worn : GoodIn wsL_law wsX5_worn := goodIn_r _ [419, 99, 194, 195, 196, 5, 197, 66, 100, 101, 102, 131, 132, 133, 383, 384, 385, 386, 387, 359, 360, 361, 362, 69, 296, 297, 298, 299, 127, 128, 129, 130, 300, 301, 302, 303, 198, 199, 200, 201, 123, 124, 125, 126, 304, 305, 306, 307, 308, 309, 310, 224, 202, 203, 204, 205, 311, 312, 313, 314, 363, 364, 365, 366, 107, 108, 109, 110, 70, 850, 851, 852, 853, 854, 855, 856, 857, 858, 859, 860, 861, 862, 863, 864, 865] (by decide +kernel) (by decide +kernel)
set_option maxRecDepth 20000 in
theorem gL_law_X5_worn : GoodIn wsL_law (wsV RL 76 RX5 yX5_worn wsX5_worn) := goodIn_app (goodIn_of _ (by decide +kernel)) ggL_law_X5_worn
set_option maxRecDepth 20000 in
theorem ggL_law_X4_stop : GoodIn wsL_law wsX4_stop := goodIn_r _ [423, 16, 80, 81, 2, 82, 87, 88, 89, 90, 27, 91, 322, 15, 323, 324, 37, 39, 186, 41, 187, 188, 148, 149, 150, 151, 152, 153, 154, 147, 424, 425, 426, 427, 428, 429, 430, 431, 432, 433, 434, 17, 341, 342, 343, 344, 345, 346, 347, 33, 34, 35, 36, 348, 349, 350, 257, 258, 259, 260, 261, 262, 263, 264, 265, 266, 267, 268, 176, 177, 178, 179, 180, 181, 182, 269, 270, 271, 272, 273, 274, 275, 276, 277, 278, 279, 280, 183, 184, 185, 281, 282, 283, 284, 843, 844, 845, 846, 847, 848, 849, 866, 867, 868, 869, 870, 871, 881, 882, 883, 884, 885, 886, 887, 888] (by decide +kernel) (by decide +kernel)
set_option maxRecDepth 20000 in
theorem gL_law_X4_stop : GoodIn wsL_law (wsV RL 77 RX4 yX4_stop wsX4_stop) := goodIn_app (goodIn_of _ (by decide +kernel)) ggL_law_X4_stop
set_option maxRecDepth 20000 in
theorem ggL_law_X5_stop : GoodIn wsL_law wsX5_stop := goodIn_r _ [438, 439, 99, 66, 387, 100, 101, 5, 102, 107, 108, 109, 110, 70, 333, 334, 335, 336, 127, 128, 129, 130, 131, 132, 133, 359, 360, 361, 362, 69, 440, 441, 442, 292, 293, 294, 295, 296, 297, 298, 299, 300, 301, 302, 303, 198, 199, 200, 201, 123, 124, 125, 126, 304, 305, 306, 307, 308, 309, 310, 224, 202, 203, 204, 205, 311, 312, 313, 314, 363, 364, 365, 366, 850, 851, 852, 853, 854, 855, 856, 857, 858, 859, 860, 861, 862, 863, 864, 865] (by decide +kernel) (by decide +kernel)
set_option maxRecDepth 20000 in
theorem gL_law_X5_stop : GoodIn wsL_law (wsV RL 80 RX5 yX5_stop wsX5_stop) := goodIn_app (goodIn_of _ (by decide +kernel)) ggL_law_X5_stop
set_option maxRecDepth 20000 in
theorem ggL_law_X4_penny : GoodIn wsL_law wsX4_penny := goodIn_r _ [446, 86, 17, 80, 81, 2, 82, 87, 88, 89, 90, 27, 91, 341, 342, 343, 344, 16, 345, 15, 346, 347, 33, 34, 35, 36, 37, 39, 348, 41, 349, 350, 147, 148, 149, 150, 151, 152, 153, 154, 253, 254, 255, 256, 257, 258, 259, 260, 261, 262, 263, 264, 265, 266, 267, 268, 176, 177, 178, 179, 180, 181, 182, 269, 270, 271, 272, 273, 274, 275, 276, 277, 278, 279, 280, 183, 184, 185, 281, 282, 283, 284, 843, 844, 845, 846, 847, 848, 849, 866, 867, 868, 869, 870, 871, 881, 882, 883, 884, 885, 886, 887, 888] (by decide +kernel) (by decide +kernel)
set_option maxRecDepth 20000 in
theorem gL_law_X4_penny : GoodIn wsL_law (wsV RL 81 RX4 yX4_penny wsX4_penny) := goodIn_app (goodIn_of _ (by decide +kernel)) ggL_law_X4_penny
set_option maxRecDepth 20000 in
theorem ggL_law_X5_penny : GoodIn wsL_law wsX5_penny := goodIn_r _ [450, 97, 99, 66, 387, 451, 452, 5, 453, 454, 100, 101, 102, 107, 108, 109, 110, 70, 355, 356, 357, 358, 359, 360, 361, 362, 69, 292, 293, 294, 295, 296, 297, 298, 299, 127, 128, 129, 130, 131, 132, 133, 300, 301, 302, 303, 198, 199, 200, 201, 123, 124, 125, 126, 304, 305, 306, 307, 308, 309, 310, 224, 202, 203, 204, 205, 311, 312, 313, 314, 363, 364, 365, 366, 850, 851, 852, 853, 854, 855, 856, 857, 858, 859, 860, 861, 862, 863, 864, 865] (by decide +kernel) (by decide +kernel)
set_option maxRecDepth 20000 in
theorem gL_law_X5_penny : GoodIn wsL_law (wsV RL 84 RX5 yX5_penny wsX5_penny) := goodIn_app (goodIn_of _ (by decide +kernel)) ggL_law_X5_penny
set_option maxRecDepth 20000 in
theorem ggL_law_X4_reason : GoodIn wsL_law wsX4_reason := goodIn_r _ [458, 86, 17, 172, 173, 174, 2, 175, 16, 80, 81, 82, 87, 88, 89, 90, 27, 91, 341, 342, 343, 344, 345, 15, 346, 347, 33, 34, 35, 36, 37, 39, 348, 41, 349, 350, 147, 148, 149, 150, 151, 152, 153, 154, 459, 460, 461, 462, 253, 254, 255, 256, 257, 258, 259, 260, 261, 262, 263, 264, 265, 266, 267, 268, 176, 177, 178, 179, 180, 181, 182, 269, 270, 271, 272, 273, 274, 275, 276, 277, 278, 279, 280, 183, 184, 185, 281, 282, 283, 284, 843, 844, 845, 846, 847, 848, 849, 866, 867, 868, 869, 870, 871, 881, 882, 883, 884, 885, 886, 887, 888] (by decide +kernel) (by decide +kernel)
set_option maxRecDepth 20000 in
theorem gL_law_X4_reason : GoodIn wsL_law (wsV RL 85 RX4 yX4_reason wsX4_reason) := goodIn_app (goodIn_of _ (by decide +kernel)) ggL_law_X4_reason
set_option maxRecDepth 20000 in
theorem ggL_law_X5_reason : GoodIn wsL_law wsX5_reason := goodIn_r _ [466, 97, 99, 66, 387, 194, 195, 196, 5, 197, 100, 101, 102, 451, 452, 453, 454, 107, 108, 109, 110, 70, 127, 128, 129, 130, 131, 132, 133, 355, 356, 357, 358, 359, 360, 361, 362, 69, 292, 293, 294, 295, 296, 297, 298, 299, 300, 301, 302, 303, 198, 199, 200, 201, 123, 124, 125, 126, 304, 305, 306, 307, 308, 309, 310, 224, 202, 203, 204, 205, 311, 312, 313, 314, 363, 364, 365, 366, 850, 851, 852, 853, 854, 855, 856, 857, 858, 859, 860, 861, 862, 863, 864, 865] (by decide +kernel) (by decide +kernel)
set_option maxRecDepth 20000 in
theorem gL_law_X5_reason : GoodIn wsL_law (wsV RL 88 RX5 yX5_reason wsX5_reason) := goodIn_app (goodIn_of _ (by decide +kernel)) ggL_law_X5_reason
set_option maxRecDepth 20000 in
theorem ggL_law_X4_kind : GoodIn wsL_law wsX4_kind := goodIn_r _ [470, 17, 172, 173, 174, 2, 175, 16, 80, 81, 82, 87, 88, 89, 90, 27, 91, 341, 342, 343, 344, 345, 15, 346, 347, 33, 34, 35, 36, 37, 39, 348, 41, 349, 350, 147, 148, 149, 150, 151, 152, 153, 154, 459, 460, 461, 462, 253, 254, 255, 256, 257, 258, 259, 260, 261, 262, 263, 264, 265, 266, 267, 268, 176, 177, 178, 179, 180, 181, 182, 269, 270, 271, 272, 273, 274, 275, 276, 277, 278, 279, 280, 183, 184, 185, 281, 282, 283, 284, 843, 844, 845, 846, 847, 848, 849, 866, 867, 868, 869, 870, 871, 881, 882, 883, 884, 885, 886, 887, 888] (by decide +kernel) (by decide +kernel)
set_option maxRecDepth 20000 in
theorem gL_law_X4_kind : GoodIn wsL_law (wsV RL 89 RX4 yX4_kind wsX4_kind) := goodIn_app (goodIn_of _ (by decide +kernel)) ggL_law_X4_kind
set_option maxRecDepth 20000 in
theorem ggL_law_X5_kind : GoodIn wsL_law wsX5_kind := goodIn_r _ [474, 99, 194, 195, 196, 5, 197, 66, 100, 101, 102, 451, 452, 453, 454, 131, 132, 133, 475, 476, 477, 478, 355, 356, 357, 358, 359, 360, 361, 362, 69, 292, 293, 294, 295, 296, 297, 298, 299, 127, 128, 129, 130, 300, 301, 302, 303, 198, 199, 200, 201, 123, 124, 125, 126, 304, 305, 306, 307, 308, 309, 310, 224, 202, 203, 204, 205, 311, 312, 313, 314, 363, 364, 365, 366, 107, 108, 109, 110, 70, 850, 851, 852, 853, 854, 855, 856, 857, 858, 859, 860, 861, 862, 863, 864, 865] (by decide +kernel) (by decide +kernel)
set_option maxRecDepth 20000 in
theorem gL_law_X5_kind : GoodIn wsL_law (wsV RL 92 RX5 yX5_kind wsX5_kind) := goodIn_app (goodIn_of _ (by decide +kernel)) ggL_law_X5_kind
set_option maxRecDepth 20000 in
theorem ggL_law_X4_begin : GoodIn wsL_law wsX4_begin := goodIn_r _ [482, 17, 172, 173, 174, 2, 175, 16, 80, 81, 82, 87, 88, 89, 90, 27, 91, 341, 342, 343, 344, 345, 15, 346, 347, 33, 34, 35, 36, 37, 39, 348, 41, 349, 350, 147, 148, 149, 150, 151, 152, 153, 154, 459, 460, 461, 462, 253, 254, 255, 256, 257, 258, 259, 260, 261, 262, 263, 264, 265, 266, 267, 268, 176, 177, 178, 179, 180, 181, 182, 269, 270, 271, 272, 273, 274, 275, 276, 277, 278, 279, 280, 183, 184, 185, 281, 282, 283, 284, 843, 844, 845, 846, 847, 848, 849, 866, 867, 868, 869, 870, 871, 881, 882, 883, 884, 885, 886, 887, 888] (by decide +kernel) (by decide +kernel)
set_option maxRecDepth 20000 in
theorem gL_law_X4_begin : GoodIn wsL_law (wsV RL 93 RX4 yX4_begin wsX4_begin) := goodIn_app (goodIn_of _ (by decide +kernel)) ggL_law_X4_begin
set_option maxRecDepth 20000 in
theorem ggL_law_X5_begin : GoodIn wsL_law wsX5_begin := goodIn_r _ [486, 99, 66, 194, 195, 196, 5, 197, 100, 101, 102, 451, 452, 453, 454, 107, 108, 109, 110, 70, 131, 132, 133, 103, 104, 105, 106, 475, 476, 477, 478, 355, 356, 357, 358, 359, 360, 361, 362, 69, 292, 293, 294, 295, 296, 297, 298, 299, 127, 128, 129, 130, 300, 301, 302, 303, 198, 199, 200, 201, 123, 124, 125, 126, 304, 305, 306, 307, 308, 309, 310, 224, 202, 203, 204, 205, 311, 312, 313, 314, 363, 364, 365, 366, 850, 851, 852, 853, 854, 855, 856, 857, 858, 859, 860, 861, 862, 863, 864, 865] (by decide +kernel) (by decide +kernel)
set_option maxRecDepth 20000 in
theorem gL_law_X5_begin : GoodIn wsL_law (wsV RL 96 RX5 yX5_begin wsX5_begin) := goodIn_app (goodIn_of _ (by decide +kernel)) ggL_law_X5_begin
set_option maxRecDepth 20000 in
theorem ggL_law_X4_richest : GoodIn wsL_law wsX4_richest := goodIn_r _ [490, 16, 17, 80, 81, 2, 82, 87, 88, 89, 90, 27, 91, 341, 342, 343, 344, 345, 15, 346, 347, 33, 34, 35, 36, 37, 39, 348, 41, 349, 350, 147, 148, 149, 150, 151, 152, 153, 154, 253, 254, 255, 256, 257, 258, 259, 260, 261, 262, 263, 264, 265, 266, 267, 268, 176, 177, 178, 179, 180, 181, 182, 269, 270, 271, 272, 273, 274, 275, 276, 277, 278, 279, 280, 183, 184, 185, 281, 282, 283, 284, 843, 844, 845, 846, 847, 848, 849, 866, 867, 868, 869, 870, 871, 881, 882, 883, 884, 885, 886, 887, 888] (by decide +kernel) (by decide +kernel)
set_option maxRecDepth 20000 in
theorem gL_law_X4_richest : GoodIn wsL_law (wsV RL 97 RX4 yX4_richest wsX4_richest) := goodIn_app (goodIn_of _ (by decide +kernel)) ggL_law_X4_richest
set_option maxRecDepth 20000 in
theorem ggL_law_X5_richest : GoodIn wsL_law wsX5_richest := goodIn_r _ [494, 289, 99, 66, 387, 100, 101, 5, 102, 107, 108, 109, 110, 70, 359, 360, 361, 362, 69, 292, 293, 294, 295, 296, 297, 298, 299, 127, 128, 129, 130, 131, 132, 133, 300, 301, 302, 303, 198, 199, 200, 201, 123, 124, 125, 126, 304, 305, 306, 307, 308, 309, 310, 224, 202, 203, 204, 205, 311, 312, 313, 314, 363, 364, 365, 366, 850, 851, 852, 853, 854, 855, 856, 857, 858, 859, 860, 861, 862, 863, 864, 865] (by decide +kernel) (by decide +kernel)
set_option maxRecDepth 20000 in
theorem gL_law_X5_richest : GoodIn wsL_law (wsV RL 100 RX5 yX5_richest wsX5_richest) := goodIn_app (goodIn_of _ (by decide +kernel)) ggL_law_X5_richest
set_option maxRecDepth 20000 in
theorem ggL_law_X4_rival : GoodIn wsL_law wsX4_rival := goodIn_r _ [498, 17, 400, 401, 402, 2, 403, 172, 173, 174, 175, 16, 80, 81, 82, 87, 88, 89, 90, 27, 91, 341, 342, 343, 344, 345, 15, 346, 347, 33, 34, 35, 36, 37, 39, 348, 41, 349, 350, 147, 148, 149, 150, 151, 152, 153, 154, 459, 460, 461, 462, 253, 254, 255, 256, 257, 258, 259, 260, 261, 262, 263, 264, 265, 266, 267, 268, 176, 177, 178, 179, 180, 181, 182, 269, 270, 271, 272, 273, 274, 275, 276, 277, 278, 279, 280, 183, 184, 185, 281, 282, 283, 284, 843, 844, 845, 846, 847, 848, 849, 866, 867, 868, 869, 870, 871, 881, 882, 883, 884, 885, 886, 887, 888] (by decide +kernel) (by decide +kernel)
set_option maxRecDepth 20000 in
theorem gL_law_X4_rival : GoodIn wsL_law (wsV RL 101 RX4 yX4_rival wsX4_rival) := goodIn_app (goodIn_of _ (by decide +kernel)) ggL_law_X4_rival
set_option maxRecDepth 20000 in
theorem ggL_law_X5_rival : GoodIn wsL_law wsX5_rival := goodIn_r _ [502, 99, 66, 408, 409, 410, 5, 411, 194, 195, 196, 197, 100, 101, 102, 451, 452, 453, 454, 107, 108, 109, 110, 70, 131, 132, 133, 355, 356, 357, 358, 359, 360, 361, 362, 69, 292, 293, 294, 295, 296, 297, 298, 299, 127, 128, 129, 130, 300, 301, 302, 303, 198, 199, 200, 201, 123, 124, 125, 126, 304, 305, 306, 307, 308, 309, 310, 224, 202, 203, 204, 205, 311, 312, 313, 314, 363, 364, 365, 366, 103, 104, 105, 106, 850, 851, 852, 853, 854, 855, 856, 857, 858, 859, 860, 861, 862, 863, 864, 865] (by decide +kernel) (by decide +kernel)
set_option maxRecDepth 20000 in
theorem gL_law_X5_rival : GoodIn wsL_law (wsV RL 104 RX5 yX5_rival wsX5_rival) := goodIn_app (goodIn_of _ (by decide +kernel)) ggL_law_X5_rival
set_option maxRecDepth 20000 in
theorem ggL_law_X4_enough : GoodIn wsL_law wsX4_enough := goodIn_r _ [506, 17, 86, 80, 81, 2, 82, 87, 88, 89, 90, 27, 91, 341, 342, 343, 344, 16, 345, 15, 346, 347, 33, 34, 35, 36, 37, 39, 348, 41, 349, 350, 147, 148, 149, 150, 151, 152, 153, 154, 253, 254, 255, 256, 257, 258, 259, 260, 261, 262, 263, 264, 265, 266, 267, 268, 176, 177, 178, 179, 180, 181, 182, 269, 270, 271, 272, 273, 274, 275, 276, 277, 278, 279, 280, 183, 184, 185, 281, 282, 283, 284, 843, 844, 845, 846, 847, 848, 849, 866, 867, 868, 869, 870, 871, 881, 882, 883, 884, 885, 886, 887, 888] (by decide +kernel) (by decide +kernel)
set_option maxRecDepth 20000 in
theorem gL_law_X4_enough : GoodIn wsL_law (wsV RL 105 RX4 yX4_enough wsX4_enough) := goodIn_app (goodIn_of _ (by decide +kernel)) ggL_law_X4_enough
set_option maxRecDepth 20000 in
theorem ggL_law_X5_enough : GoodIn wsL_law wsX5_enough := goodIn_r _ [510, 439, 99, 224, 66, 387, 100, 101, 5, 102, 107, 108, 109, 110, 70, 103, 104, 105, 106, 355, 356, 357, 358, 359, 360, 361, 362, 69, 292, 293, 294, 295, 296, 297, 298, 299, 127, 128, 129, 130, 131, 132, 133, 300, 301, 302, 303, 198, 199, 200, 201, 123, 124, 125, 126, 304, 305, 306, 307, 308, 309, 310, 202, 203, 204, 205, 311, 312, 313, 314, 363, 364, 365, 366, 850, 851, 852, 853, 854, 855, 856, 857, 858, 859, 860, 861, 862, 863, 864, 865] (by decide +kernel) (by decide +kernel)
set_option maxRecDepth 20000 in
theorem gL_law_X5_enough : GoodIn wsL_law (wsV RL 108 RX5 yX5_enough wsX5_enough) := goodIn_app (goodIn_of _ (by decide +kernel)) ggL_law_X5_enough
set_option maxRecDepth 20000 in
theorem ggL_law_X4_feed : GoodIn wsL_law wsX4_feed := goodIn_r _ [514, 23, 80, 81, 2, 82, 87, 88, 89, 90, 27, 91, 515, 22, 516, 517, 49, 50, 843, 844, 845, 846, 847, 848, 849, 872, 873, 874, 875, 876, 877] (by decide +kernel) (by decide +kernel)
set_option maxRecDepth 20000 in
theorem gL_law_X4_feed : GoodIn wsL_law (wsV RL 109 RX4 yX4_feed wsX4_feed) := goodIn_app (goodIn_of _ (by decide +kernel)) ggL_law_X4_feed
set_option maxRecDepth 20000 in
theorem ggL_law_X5_feed : GoodIn wsL_law wsX5_feed := goodIn_r _ [521, 522, 99, 523, 159, 71, 100, 101, 5, 102, 107, 108, 109, 110, 70, 850, 851, 852, 853, 854, 855, 856, 857, 858, 859, 860, 861, 862, 863, 864, 865] (by decide +kernel) (by decide +kernel)
set_option maxRecDepth 20000 in
theorem gL_law_X5_feed : GoodIn wsL_law (wsV RL 112 RX5 yX5_feed wsX5_feed) := goodIn_app (goodIn_of _ (by decide +kernel)) ggL_law_X5_feed
set_option maxRecDepth 20000 in
theorem ggL_law_X4_wipe : GoodIn wsL_law wsX4_wipe := goodIn_r _ [527, 23, 843, 844, 845, 846, 847, 848, 849, 872, 873, 874, 875, 876, 877] (by decide +kernel) (by decide +kernel)
set_option maxRecDepth 20000 in
theorem gL_law_X4_wipe : GoodIn wsL_law (wsV RL 113 RX4 yX4_wipe wsX4_wipe) := goodIn_app (goodIn_of _ (by decide +kernel)) ggL_law_X4_wipe
set_option maxRecDepth 20000 in
theorem ggL_law_X5_wipe : GoodIn wsL_law wsX5_wipe := goodIn_r _ [531, 523, 850, 851, 852, 853, 854, 855, 856, 857, 858, 859, 860, 861, 862, 863, 864, 865] (by decide +kernel) (by decide +kernel)
set_option maxRecDepth 20000 in
theorem gL_law_X5_wipe : GoodIn wsL_law (wsV RL 116 RX5 yX5_wipe wsX5_wipe) := goodIn_app (goodIn_of _ (by decide +kernel)) ggL_law_X5_wipe
set_option maxRecDepth 20000 in
theorem ggL_law_X4_text : GoodIn wsL_law wsX4_text := goodIn_r _ [535, 23, 17, 16, 341, 342, 343, 2, 344, 345, 15, 346, 347, 33, 34, 35, 36, 37, 39, 348, 41, 349, 350, 147, 148, 149, 150, 151, 152, 153, 154, 536, 22, 537, 538, 53, 51, 52, 539, 540, 541, 542, 50, 54, 543, 265, 266, 267, 544, 545, 546, 547, 49, 548, 549, 550, 551, 552, 553, 554, 555, 556, 557, 558, 559, 560, 561, 562, 563, 564, 565, 566, 567, 568, 569, 570, 571, 572, 573, 574, 575, 576, 577, 578, 579, 580, 581, 582, 583, 584, 585, 586, 587, 588, 589, 590, 591, 592, 593, 594, 595, 596, 597, 598, 599, 600, 601, 602, 603, 604, 605, 606, 607, 608, 609, 610, 611, 612, 613, 614, 615, 616, 617, 618, 619, 620, 621, 138, 139, 140, 141, 142, 143, 144, 145, 146, 622, 623, 624, 625, 626, 627, 628, 629, 843, 844, 845, 846, 847, 848, 849, 872, 873, 874, 875, 876, 877, 866, 867, 868, 869, 870, 871, 881, 882, 883, 884, 885, 886, 887, 888] (by decide +kernel) (by decide +kernel)
set_option maxRecDepth 20000 in
theorem gL_law_X4_text : GoodIn wsL_law (wsV RL 117 RX4 yX4_text wsX4_text) := goodIn_app (goodIn_of _ (by decide +kernel)) ggL_law_X4_text
set_option maxRecDepth 20000 in
theorem ggL_law_X5_text : GoodIn wsL_law wsX5_text := goodIn_r _ [633, 634, 635, 636, 523, 637, 638, 639, 5, 640, 68, 66, 641, 642, 643, 644, 645, 646, 647, 648, 71, 649, 650, 651, 652, 653, 100, 101, 102, 654, 655, 656, 657, 658, 659, 660, 661, 662, 663, 664, 665, 666, 667, 668, 669, 670, 671, 672, 673, 674, 675, 676, 677, 678, 679, 680, 681, 682, 683, 684, 685, 686, 687, 688, 689, 690, 691, 692, 693, 694, 164, 165, 166, 167, 131, 132, 133, 695, 696, 697, 698, 699, 700, 701, 702, 703, 704, 705, 706, 850, 851, 852, 853, 854, 855, 856, 857, 858, 859, 860, 861, 862, 863, 864, 865] (by decide +kernel) (by decide +kernel)
set_option maxRecDepth 20000 in
theorem gL_law_X5_text : GoodIn wsL_law (wsV RL 120 RX5 yX5_text wsX5_text) := goodIn_app (goodIn_of _ (by decide +kernel)) ggL_law_X5_text
set_option maxRecDepth 20000 in
theorem ggL_law_X4_sheet : GoodIn wsL_law wsX4_sheet := goodIn_r _ [710, 25, 711, 712, 2, 713, 80, 81, 82, 87, 88, 89, 90, 27, 91, 714, 29, 715, 716, 60, 61, 59, 843, 844, 845, 846, 847, 848, 849, 878, 879, 880] (by decide +kernel) (by decide +kernel)
set_option maxRecDepth 20000 in
theorem gL_law_X4_sheet : GoodIn wsL_law (wsV RL 121 RX4 yX4_sheet wsX4_sheet) := goodIn_app (goodIn_of _ (by decide +kernel)) ggL_law_X4_sheet
set_option maxRecDepth 20000 in
theorem ggL_law_X5_sheet : GoodIn wsL_law wsX5_sheet := goodIn_r _ [720, 99, 721, 72, 73, 74, 722, 723, 5, 724, 725, 100, 101, 102, 107, 108, 109, 110, 70, 850, 851, 852, 853, 854, 855, 856, 857, 858, 859, 860, 861, 862, 863, 864, 865] (by decide +kernel) (by decide +kernel)
set_option maxRecDepth 20000 in
theorem gL_law_X5_sheet : GoodIn wsL_law (wsV RL 124 RX5 yX5_sheet wsX5_sheet) := goodIn_app (goodIn_of _ (by decide +kernel)) ggL_law_X5_sheet
set_option maxRecDepth 20000 in
theorem ggL_law_X4_write : GoodIn wsL_law wsX4_write := goodIn_r _ [729, 25, 711, 712, 2, 713, 80, 81, 82, 87, 88, 89, 90, 27, 91, 730, 29, 731, 732, 60, 733, 734, 735, 59, 843, 844, 845, 846, 847, 848, 849, 878, 879, 880] (by decide +kernel) (by decide +kernel)
set_option maxRecDepth 20000 in
theorem gL_law_X4_write : GoodIn wsL_law (wsV RL 127 RX4 yX4_write wsX4_write) := goodIn_app (goodIn_of _ (by decide +kernel)) ggL_law_X4_write
set_option maxRecDepth 20000 in
theorem ggL_law_X5_write : GoodIn wsL_law wsX5_write := goodIn_r _ [739, 73, 99, 74, 72, 740, 741, 742, 5, 743, 744, 722, 723, 724, 725, 100, 101, 102, 107, 108, 109, 110, 70, 745, 746, 747, 850, 851, 852, 853, 854, 855, 856, 857, 858, 859, 860, 861, 862, 863, 864, 865] (by decide +kernel) (by decide +kernel)
set_option maxRecDepth 20000 in
theorem gL_law_X5_write : GoodIn wsL_law (wsV RL 131 RX5 yX5_write wsX5_write) := goodIn_app (goodIn_of _ (by decide +kernel)) ggL_law_X5_write
set_option maxRecDepth 20000 in
theorem ggL_law_X4_copy : GoodIn wsL_law wsX4_copy := goodIn_r _ [751, 25, 752, 753, 754, 755, 711, 712, 2, 713, 80, 81, 82, 87, 88, 89, 90, 27, 91, 730, 29, 731, 732, 60, 756, 757, 758, 61, 843, 844, 845, 846, 847, 848, 849, 878, 879, 880] (by decide +kernel) (by decide +kernel)
set_option maxRecDepth 20000 in
theorem gL_law_X4_copy : GoodIn wsL_law (wsV RL 132 RX4 yX4_copy wsX4_copy) := goodIn_app (goodIn_of _ (by decide +kernel)) ggL_law_X4_copy
set_option maxRecDepth 20000 in
theorem ggL_law_X5_copy : GoodIn wsL_law wsX5_copy := goodIn_r _ [762, 99, 72, 744, 244, 73, 75, 74, 722, 723, 5, 724, 725, 100, 101, 102, 107, 108, 109, 110, 70, 850, 851, 852, 853, 854, 855, 856, 857, 858, 859, 860, 861, 862, 863, 864, 865] (by decide +kernel) (by decide +kernel)
set_option maxRecDepth 20000 in
theorem gL_law_X5_copy : GoodIn wsL_law (wsV RL 136 RX5 yX5_copy wsX5_copy) := goodIn_app (goodIn_of _ (by decide +kernel)) ggL_law_X5_copy
set_option maxRecDepth 20000 in
theorem ggL_law_X4_lays : GoodIn wsL_law wsX4_lays := goodIn_r _ [766, 25, 16, 767, 711, 712, 2, 713, 80, 81, 82, 87, 88, 89, 90, 27, 91, 730, 29, 731, 732, 60, 843, 844, 845, 846, 847, 848, 849, 878, 879, 880, 866, 867, 868, 869, 870, 871, 881, 882, 883, 884, 885, 886, 887, 888] (by decide +kernel) (by decide +kernel)
set_option maxRecDepth 20000 in
theorem gL_law_X4_lays : GoodIn wsL_law (wsV RL 137 RX4 yX4_lays wsX4_lays) := goodIn_app (goodIn_of _ (by decide +kernel)) ggL_law_X4_lays
set_option maxRecDepth 20000 in
theorem ggL_law_X5_lays : GoodIn wsL_law wsX5_lays := goodIn_r _ [771, 73, 66, 74, 193, 740, 741, 742, 5, 743, 99, 72, 744, 722, 723, 724, 725, 100, 101, 102, 107, 108, 109, 110, 70, 131, 132, 133, 127, 128, 129, 130, 850, 851, 852, 853, 854, 855, 856, 857, 858, 859, 860, 861, 862, 863, 864, 865] (by decide +kernel) (by decide +kernel)
set_option maxRecDepth 20000 in
theorem gL_law_X5_lays : GoodIn wsL_law (wsV RL 140 RX5 yX5_lays wsX5_lays) := goodIn_app (goodIn_of _ (by decide +kernel)) ggL_law_X5_lays
set_option maxRecDepth 20000 in
theorem ggL_law_X4_book : GoodIn wsL_law wsX4_book := goodIn_r _ [775, 25, 17, 711, 712, 2, 713, 80, 81, 82, 87, 88, 89, 90, 27, 91, 730, 29, 731, 732, 60, 172, 173, 174, 175, 16, 341, 342, 343, 344, 345, 15, 346, 347, 33, 34, 35, 36, 37, 39, 348, 41, 349, 350, 147, 148, 149, 150, 151, 152, 153, 154, 733, 734, 735, 59, 257, 258, 259, 260, 261, 262, 263, 264, 265, 266, 267, 268, 176, 177, 178, 179, 180, 181, 182, 269, 270, 271, 272, 273, 274, 275, 276, 277, 278, 279, 280, 183, 184, 185, 281, 282, 283, 284, 843, 844, 845, 846, 847, 848, 849, 878, 879, 880, 866, 867, 868, 869, 870, 871, 881, 882, 883, 884, 885, 886, 887, 888] (by decide +kernel) (by decide +kernel)
set_option maxRecDepth 20000 in
theorem gL_law_X4_book : GoodIn wsL_law (wsV RL 141 RX4 yX4_book wsX4_book) := goodIn_app (goodIn_of _ (by decide +kernel)) ggL_law_X4_book
set_option maxRecDepth 20000 in
theorem ggL_law_X5_book : GoodIn wsL_law wsX5_book := goodIn_r _ [779, 73, 74, 72, 780, 781, 782, 5, 783, 99, 740, 741, 742, 743, 744, 722, 723, 724, 725, 100, 101, 102, 194, 195, 196, 197, 66, 107, 108, 109, 110, 70, 359, 360, 361, 362, 69, 127, 128, 129, 130, 131, 132, 133, 745, 746, 747, 296, 297, 298, 299, 300, 301, 302, 303, 198, 199, 200, 201, 123, 124, 125, 126, 304, 305, 306, 307, 308, 309, 310, 224, 202, 203, 204, 205, 311, 312, 313, 314, 363, 364, 365, 366, 850, 851, 852, 853, 854, 855, 856, 857, 858, 859, 860, 861, 862, 863, 864, 865] (by decide +kernel) (by decide +kernel)
set_option maxRecDepth 20000 in
theorem gL_law_X5_book : GoodIn wsL_law (wsV RL 144 RX5 yX5_book wsX5_book) := goodIn_app (goodIn_of _ (by decide +kernel)) ggL_law_X5_book
set_option maxRecDepth 20000 in
theorem ggL_law_X4_read : GoodIn wsL_law wsX4_read := goodIn_r _ [787, 25, 17, 711, 712, 2, 713, 80, 81, 82, 87, 88, 89, 90, 27, 91, 730, 29, 731, 732, 60, 172, 173, 174, 175, 16, 341, 342, 343, 344, 345, 15, 346, 347, 33, 34, 35, 36, 37, 39, 348, 41, 349, 350, 147, 148, 149, 150, 151, 152, 153, 154, 788, 789, 790, 791, 257, 258, 259, 260, 261, 262, 263, 264, 265, 266, 267, 268, 176, 177, 178, 179, 180, 181, 182, 269, 270, 271, 272, 273, 274, 275, 276, 277, 278, 279, 280, 183, 184, 185, 281, 282, 283, 284, 843, 844, 845, 846, 847, 848, 849, 866, 867, 868, 869, 870, 871, 881, 882, 883, 884, 885, 886, 887, 888, 878, 879, 880] (by decide +kernel) (by decide +kernel)
set_option maxRecDepth 20000 in
theorem gL_law_X4_read : GoodIn wsL_law (wsV RL 145 RX4 yX4_read wsX4_read) := goodIn_app (goodIn_of _ (by decide +kernel)) ggL_law_X4_read
set_option maxRecDepth 20000 in
theorem ggL_law_X5_read : GoodIn wsL_law wsX5_read := goodIn_r _ [795, 66, 780, 781, 782, 5, 783, 99, 740, 741, 742, 743, 72, 744, 722, 723, 724, 725, 100, 101, 102, 194, 195, 196, 197, 107, 108, 109, 110, 70, 359, 360, 361, 362, 69, 131, 132, 133, 796, 797, 798, 799, 73, 74, 127, 128, 129, 130, 296, 297, 298, 299, 300, 301, 302, 303, 198, 199, 200, 201, 123, 124, 125, 126, 304, 305, 306, 307, 308, 309, 310, 224, 202, 203, 204, 205, 311, 312, 313, 314, 363, 364, 365, 366, 850, 851, 852, 853, 854, 855, 856, 857, 858, 859, 860, 861, 862, 863, 864, 865] (by decide +kernel) (by decide +kernel)
set_option maxRecDepth 20000 in
theorem gL_law_X5_read : GoodIn wsL_law (wsV RL 148 RX5 yX5_read wsX5_read) := goodIn_app (goodIn_of _ (by decide +kernel)) ggL_law_X5_read
set_option maxRecDepth 20000 in
theorem ggL_law_X4_image : GoodIn wsL_law wsX4_image := goodIn_r _ [803, 18, 16, 19, 345, 15, 346, 347, 33, 34, 35, 36, 37, 39, 348, 41, 349, 350, 147, 148, 149, 150, 151, 152, 153, 154, 843, 844, 845, 846, 847, 848, 849, 866, 867, 868, 869, 870, 871, 881, 882, 883, 884, 885, 886, 887, 888] (by decide +kernel) (by decide +kernel)
set_option maxRecDepth 20000 in
theorem gL_law_X4_image : GoodIn wsL_law (wsV RL 149 RX4 yX4_image wsX4_image) := goodIn_app (goodIn_of _ (by decide +kernel)) ggL_law_X4_image
set_option maxRecDepth 20000 in
theorem ggL_law_X5_image : GoodIn wsL_law wsX5_image := goodIn_r _ [807, 67, 66, 808, 850, 851, 852, 853, 854, 855, 856, 857, 858, 859, 860, 861, 862, 863, 864, 865] (by decide +kernel) (by decide +kernel)
set_option maxRecDepth 20000 in
theorem gL_law_X5_image : GoodIn wsL_law (wsV RL 152 RX5 yX5_image wsX5_image) := goodIn_app (goodIn_of _ (by decide +kernel)) ggL_law_X5_image
set_option maxRecDepth 20000 in
theorem ggL_law_X4_undo : GoodIn wsL_law wsX4_undo := goodIn_r _ [812, 19, 16, 18, 87, 88, 89, 2, 90, 27, 91, 345, 15, 346, 347, 33, 34, 35, 36, 37, 39, 348, 41, 349, 350, 147, 148, 149, 150, 151, 152, 153, 154, 843, 844, 845, 846, 847, 848, 849, 866, 867, 868, 869, 870, 871, 881, 882, 883, 884, 885, 886, 887, 888] (by decide +kernel) (by decide +kernel)
set_option maxRecDepth 20000 in
theorem gL_law_X4_undo : GoodIn wsL_law (wsV RL 153 RX4 yX4_undo wsX4_undo) := goodIn_app (goodIn_of _ (by decide +kernel)) ggL_law_X4_undo
set_option maxRecDepth 20000 in
theorem ggL_law_X5_undo : GoodIn wsL_law wsX5_undo := goodIn_r _ [816, 808, 387, 66, 67, 107, 108, 109, 5, 110, 70, 99, 850, 851, 852, 853, 854, 855, 856, 857, 858, 859, 860, 861, 862, 863, 864, 865] (by decide +kernel) (by decide +kernel)
set_option maxRecDepth 20000 in
theorem gL_law_X5_undo : GoodIn wsL_law (wsV RL 156 RX5 yX5_undo wsX5_undo) := goodIn_app (goodIn_of _ (by decide +kernel)) ggL_law_X5_undo
set_option maxRecDepth 20000 in
theorem ggL_law_X4_tear : GoodIn wsL_law wsX4_tear := goodIn_r _ [820, 19, 843, 844, 845, 846, 847, 848, 849] (by decide +kernel) (by decide +kernel)
set_option maxRecDepth 20000 in
theorem gL_law_X4_tear : GoodIn wsL_law (wsV RL 157 RX4 yX4_tear wsX4_tear) := goodIn_app (goodIn_of _ (by decide +kernel)) ggL_law_X4_tear
set_option maxRecDepth 20000 in
theorem ggL_law_X5_tear : GoodIn wsL_law wsX5_tear := goodIn_r _ [824, 808, 850, 851, 852, 853, 854, 855, 856, 857, 858, 859, 860, 861, 862, 863, 864, 865] (by decide +kernel) (by decide +kernel)
set_option maxRecDepth 20000 in
theorem gL_law_X5_tear : GoodIn wsL_law (wsV RL 160 RX5 yX5_tear wsX5_tear) := goodIn_app (goodIn_of _ (by decide +kernel)) ggL_law_X5_tear
set_option maxRecDepth 20000 in
theorem ggL_law_X4_count : GoodIn wsL_law wsX4_count := goodIn_r _ [828, 16, 23, 319, 15, 320, 321, 37, 39, 186, 41, 187, 188, 148, 149, 150, 151, 152, 153, 154, 147, 87, 88, 89, 2, 90, 27, 91, 843, 844, 845, 846, 847, 848, 849, 866, 867, 868, 869, 870, 871, 872, 873, 874, 875, 876, 877, 881, 882, 883, 884, 885, 886, 887, 888] (by decide +kernel) (by decide +kernel)
set_option maxRecDepth 20000 in
theorem gL_law_X4_count : GoodIn wsL_law (wsV RL 161 RX4 yX4_count wsX4_count) := goodIn_app (goodIn_of _ (by decide +kernel)) ggL_law_X4_count
set_option maxRecDepth 20000 in
theorem ggL_law_X5_count : GoodIn wsL_law wsX5_count := goodIn_r _ [832, 66, 523, 99, 329, 330, 331, 5, 332, 127, 128, 129, 130, 131, 132, 133, 107, 108, 109, 110, 70, 850, 851, 852, 853, 854, 855, 856, 857, 858, 859, 860, 861, 862, 863, 864, 865] (by decide +kernel) (by decide +kernel)
set_option maxRecDepth 20000 in
theorem gL_law_X5_count : GoodIn wsL_law (wsV RL 164 RX5 yX5_count wsX5_count) := goodIn_app (goodIn_of _ (by decide +kernel)) ggL_law_X5_count
set_option maxRecDepth 20000 in
theorem ggL_law_X4_status : GoodIn wsL_law wsX4_status := goodIn_r _ [836, 27, 80, 81, 2, 82, 87, 88, 89, 90, 91, 843, 844, 845, 846, 847, 848, 849] (by decide +kernel) (by decide +kernel)
set_option maxRecDepth 20000 in
theorem gL_law_X4_status : GoodIn wsL_law (wsV RL 165 RX4 yX4_status wsX4_status) := goodIn_app (goodIn_of _ (by decide +kernel)) ggL_law_X4_status
set_option maxRecDepth 20000 in
theorem ggL_law_X5_status : GoodIn wsL_law wsX5_status := goodIn_r _ [840, 841, 842, 99, 70, 100, 101, 5, 102, 107, 108, 109, 110, 850, 851, 852, 853, 854, 855, 856, 857, 858, 859, 860, 861, 862, 863, 864, 865] (by decide +kernel) (by decide +kernel)
set_option maxRecDepth 20000 in
theorem gL_law_X5_status : GoodIn wsL_law (wsV RL 168 RX5 yX5_status wsX5_status) := goodIn_app (goodIn_of _ (by decide +kernel)) ggL_law_X5_status
