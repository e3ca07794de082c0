set_option maxRecDepth 20000 in
theorem ggL_law_X10_init : GoodIn wsL_law wsX10_init := goodIn_r _ [8, 9, 10, 11, 12, 13, 14, 15, 16, 17, 18, 19, 20, 21, 22, 23, 24, 25, 26, 27, 28, 29, 30, 31, 32, 33, 34, 35, 36, 37, 38, 39, 40, 41, 42, 43, 44, 45, 46, 47, 48, 49, 50, 51, 52, 53, 54, 55, 56, 57, 58, 59, 60, 61, 62, 63, 64, 65, 66, 67, 68, 69, 70, 71, 72, 73, 74, 75, 76, 77, 78, 79, 80, 81, 82, 83, 84, 85, 86, 87, 88, 89, 90, 91, 92, 93, 94, 95, 96, 97, 98, 99, 100, 101, 102, 103, 104, 105, 106, 107, 108, 109, 110, 111, 112, 113, 114, 115, 116, 117, 118, 119, 120, 121, 122, 123, 124, 125, 126, 127, 128, 129, 130, 131, 132, 133, 134, 135, 136, 137, 138, 139, 140, 141, 142, 143, 144, 878, 879, 880, 843, 844, 845, 846, 847, 848, 881, 882, 883, 884, 885, 886, 887, 888, 889, 890, 891, 892, 893, 894, 895, 896, 897, 898, 899, 900, 901, 902, 903, 904, 905, 906, 907, 908, 909, 910, 911, 912, 913, 914, 915, 916, 917, 918, 919, 920, 921, 922, 923, 924, 925, 926, 927, 928, 929, 930, 931, 932, 933, 934, 935, 936, 937, 938] (by decide +kernel) (by decide +kernel)
set_option maxRecDepth 20000 in
theorem gL_law_X10_init : GoodIn wsL_law (wsX10_init) := ggL_law_X10_init
set_option maxRecDepth 20000 in
theorem ggL_law_X11_init : GoodIn wsL_law wsX11_init := goodIn_r _ [147, 148, 10, 11, 149, 150, 39, 151, 152, 153, 154, 155, 156, 157, 158, 159, 160, 161, 61, 162, 163, 164, 165, 166, 167, 168, 849, 850, 851, 852, 853, 854, 855, 856, 857, 858, 859, 860, 861, 862, 863, 864, 865, 866, 867, 868, 869, 870, 871, 872, 873, 874, 875, 876, 877] (by decide +kernel) (by decide +kernel)
set_option maxRecDepth 20000 in
theorem gL_law_X11_init : GoodIn wsL_law (wsX11_init) := ggL_law_X11_init
set_option maxRecDepth 20000 in
theorem ggL_law_X10_board : GoodIn wsL_law wsX10_board := goodIn_r _ [172, 15, 173, 174, 175, 14, 176, 41, 42, 40, 177, 178, 179, 180, 99, 100, 101, 181, 182, 183, 2, 184, 27, 35, 185, 186, 187, 26, 188, 84, 86, 79, 83, 189, 190, 191, 22, 192, 193, 63, 194, 94, 95, 78, 96, 91, 92, 97, 98, 195, 196, 197, 82, 198, 199, 200, 201, 202, 203, 34, 204, 205, 843, 844, 845, 846, 847, 848, 878, 879, 880, 895, 896, 897, 898, 899, 886, 887, 888, 889, 890, 891, 892, 893, 894, 923, 924, 925, 926, 927, 928, 929, 930, 931, 932, 933, 934, 903, 904, 905, 906, 907, 908, 909, 910, 911, 912, 913, 914, 915, 916, 917] (by decide +kernel) (by decide +kernel)
set_option maxRecDepth 20000 in
theorem gL_law_X10_board : GoodIn wsL_law (wsV RL 13 RX10 yX10_board wsX10_board) := goodIn_app (goodIn_of _ (by decide +kernel)) ggL_law_X10_board
set_option maxRecDepth 20000 in
theorem ggL_law_X11_board : GoodIn wsL_law wsX11_board := goodIn_r _ [209, 149, 150, 151, 210, 211, 212, 213, 5, 214, 849, 850, 851, 852, 853, 854, 855, 856, 857, 858, 859, 860, 861, 862, 863, 864, 865, 866, 867, 868, 869, 870, 871, 872, 873, 874, 875, 876, 877] (by decide +kernel) (by decide +kernel)
set_option maxRecDepth 20000 in
theorem gL_law_X11_board : GoodIn wsL_law (wsV RL 17 RX11 yX11_board wsX11_board) := goodIn_app (goodIn_of _ (by decide +kernel)) ggL_law_X11_board
set_option maxRecDepth 20000 in
theorem ggL_law_X10_line : GoodIn wsL_law wsX10_line := goodIn_r _ [218, 27, 15, 219, 220, 221, 26, 222, 84, 223, 224, 225, 14, 226, 41, 42, 40, 843, 844, 845, 846, 847, 848, 895, 896, 897, 898, 899, 878, 879, 880] (by decide +kernel) (by decide +kernel)
set_option maxRecDepth 20000 in
theorem gL_law_X10_line : GoodIn wsL_law (wsV RL 18 RX10 yX10_line wsX10_line) := goodIn_app (goodIn_of _ (by decide +kernel)) ggL_law_X10_line
set_option maxRecDepth 20000 in
theorem ggL_law_X11_line : GoodIn wsL_law wsX11_line := goodIn_r _ [230, 210, 149, 150, 151, 212, 213, 5, 214, 849, 850, 851, 852, 853, 854, 855, 856, 857, 858, 859, 860, 861, 862, 863, 864, 865, 866, 867, 868, 869, 870, 871, 872, 873, 874, 875, 876, 877] (by decide +kernel) (by decide +kernel)
set_option maxRecDepth 20000 in
theorem gL_law_X11_line : GoodIn wsL_law (wsV RL 22 RX11 yX11_line wsX11_line) := goodIn_app (goodIn_of _ (by decide +kernel)) ggL_law_X11_line
set_option maxRecDepth 20000 in
theorem ggL_law_X10_law : GoodIn wsL_law wsX10_law := goodIn_r _ [234, 27, 19, 219, 220, 221, 26, 222, 84, 235, 236, 237, 18, 238, 46, 47, 48, 49, 50, 843, 844, 845, 846, 847, 848, 895, 896, 897, 898, 899, 881, 882, 883, 884, 885] (by decide +kernel) (by decide +kernel)
set_option maxRecDepth 20000 in
theorem gL_law_X10_law : GoodIn wsL_law (wsV RL 23 RX10 yX10_law wsX10_law) := goodIn_app (goodIn_of _ (by decide +kernel)) ggL_law_X10_law
set_option maxRecDepth 20000 in
theorem ggL_law_X11_law : GoodIn wsL_law wsX11_law := goodIn_r _ [242, 210, 243, 152, 153, 244, 245, 212, 213, 5, 214, 849, 850, 851, 852, 853, 854, 855, 856, 857, 858, 859, 860, 861, 862, 863, 864, 865, 866, 867, 868, 869, 870, 871, 872, 873, 874, 875, 876, 877] (by decide +kernel) (by decide +kernel)
set_option maxRecDepth 20000 in
theorem gL_law_X11_law : GoodIn wsL_law (wsV RL 27 RX11 yX11_law wsX11_law) := goodIn_app (goodIn_of _ (by decide +kernel)) ggL_law_X11_law
set_option maxRecDepth 20000 in
theorem ggL_law_X10_begin : GoodIn wsL_law wsX10_begin := goodIn_r _ [249, 27, 15, 35, 23, 219, 220, 221, 26, 222, 84, 250, 251, 2, 252, 253, 254, 255, 14, 256, 40, 257, 258, 259, 260, 41, 42, 261, 262, 263, 264, 201, 202, 203, 34, 204, 205, 265, 266, 267, 268, 86, 85, 79, 269, 186, 187, 188, 83, 189, 190, 191, 22, 192, 193, 63, 194, 94, 95, 78, 96, 91, 92, 97, 98, 99, 100, 101, 195, 196, 197, 82, 198, 199, 200, 270, 271, 272, 57, 273, 274, 275, 69, 70, 71, 276, 277, 278, 279, 280, 281, 282, 283, 284, 285, 59, 60, 62, 65, 286, 287, 288, 289, 290, 291, 292, 293, 294, 295, 296, 297, 298, 299, 300, 301, 58, 302, 303, 304, 305, 306, 307, 308, 309, 310, 311, 312, 313, 314, 315, 316, 317, 318, 319, 320, 321, 843, 844, 845, 846, 847, 848, 886, 887, 888, 889, 890, 891, 892, 893, 894, 895, 896, 897, 898, 899, 878, 879, 880, 903, 904, 905, 906, 907, 908, 909, 910, 911, 912, 913, 914, 915, 916, 917, 881, 882, 883, 884, 885, 923, 924, 925, 926, 927, 928, 929, 930, 931, 932, 933, 934, 918, 919, 920, 921, 922] (by decide +kernel) (by decide +kernel)
set_option maxRecDepth 20000 in
theorem gL_law_X10_begin : GoodIn wsL_law (wsV RL 28 RX10 yX10_begin wsX10_begin) := goodIn_app (goodIn_of _ (by decide +kernel)) ggL_law_X10_begin
set_option maxRecDepth 20000 in
theorem ggL_law_X11_begin : GoodIn wsL_law wsX11_begin := goodIn_r _ [325, 210, 151, 326, 157, 156, 154, 155, 327, 328, 329, 330, 331, 211, 212, 213, 5, 214, 332, 333, 334, 335, 149, 150, 336, 337, 338, 339, 161, 340, 341, 342, 343, 344, 345, 346, 347, 243, 348, 349, 350, 351, 352, 353, 354, 355, 356, 357, 358, 359, 360, 361, 362, 363, 244, 364, 365, 366, 367, 368, 369, 370, 371, 849, 850, 851, 852, 853, 854, 855, 856, 857, 858, 859, 860, 861, 862, 863, 864, 865, 866, 867, 868, 869, 870, 871, 872, 873, 874, 875, 876, 877] (by decide +kernel) (by decide +kernel)
set_option maxRecDepth 20000 in
theorem gL_law_X11_begin : GoodIn wsL_law (wsV RL 32 RX11 yX11_begin wsX11_begin) := goodIn_app (goodIn_of _ (by decide +kernel)) ggL_law_X11_begin
set_option maxRecDepth 20000 in
theorem ggL_law_X10_stop : GoodIn wsL_law wsX10_stop := goodIn_r _ [375, 27, 219, 220, 221, 26, 222, 84, 181, 182, 183, 2, 184, 35, 185, 186, 187, 188, 86, 79, 83, 189, 190, 191, 22, 192, 193, 63, 194, 94, 95, 78, 96, 91, 92, 97, 98, 99, 100, 101, 195, 196, 197, 82, 198, 199, 200, 201, 202, 203, 34, 204, 205, 843, 844, 845, 846, 847, 848, 895, 896, 897, 898, 899, 886, 887, 888, 889, 890, 891, 892, 893, 894, 923, 924, 925, 926, 927, 928, 929, 930, 931, 932, 933, 934, 903, 904, 905, 906, 907, 908, 909, 910, 911, 912, 913, 914, 915, 916, 917] (by decide +kernel) (by decide +kernel)
set_option maxRecDepth 20000 in
theorem gL_law_X10_stop : GoodIn wsL_law (wsV RL 33 RX10 yX10_stop wsX10_stop) := goodIn_app (goodIn_of _ (by decide +kernel)) ggL_law_X10_stop
set_option maxRecDepth 20000 in
theorem ggL_law_X11_stop : GoodIn wsL_law wsX11_stop := goodIn_r _ [379, 210, 211, 849, 850, 851, 852, 853, 854, 855, 856, 857, 858, 859, 860, 861, 862, 863, 864, 865, 866, 867, 868, 869, 870, 871, 872, 873, 874, 875, 876, 877] (by decide +kernel) (by decide +kernel)
set_option maxRecDepth 20000 in
theorem gL_law_X11_stop : GoodIn wsL_law (wsV RL 37 RX11 yX11_stop wsX11_stop) := goodIn_app (goodIn_of _ (by decide +kernel)) ggL_law_X11_stop
set_option maxRecDepth 20000 in
theorem ggL_law_X10_go : GoodIn wsL_law wsX10_go := goodIn_r _ [383, 27, 384, 385, 386, 26, 387, 83, 86, 79, 388, 389, 390, 391, 84, 85, 392, 393, 394, 22, 395, 193, 396, 295, 296, 78, 297, 91, 397, 398, 399, 57, 400, 401, 311, 312, 313, 274, 71, 402, 403, 404, 405, 63, 65, 406, 407, 408, 409, 410, 411, 315, 316, 317, 92, 412, 319, 320, 321, 58, 413, 414, 415, 416, 417, 418, 419, 420, 421, 62, 60, 422, 294, 423, 279, 280, 281, 310, 314, 424, 425, 426, 427, 59, 428, 429, 430, 431, 432, 433, 434, 435, 64, 436, 437, 438, 82, 439, 111, 440, 441, 442, 443, 199, 108, 105, 106, 444, 445, 446, 447, 448, 449, 450, 451, 452, 453, 454, 455, 456, 107, 109, 110, 200, 457, 458, 459, 460, 461, 278, 286, 287, 288, 289, 290, 291, 292, 293, 298, 299, 300, 301, 302, 303, 304, 305, 306, 307, 308, 309, 318, 462, 463, 464, 465, 843, 844, 845, 846, 847, 848, 895, 896, 897, 898, 899, 926, 927, 928, 929, 930, 931, 932, 933, 934, 886, 887, 888, 889, 890, 891, 892, 893, 894, 923, 924, 925, 881, 882, 883, 884, 885, 918, 919, 920, 921, 922] (by decide +kernel) (by decide +kernel)
set_option maxRecDepth 20000 in
theorem gL_law_X10_go : GoodIn wsL_law (wsV RL 38 RX10 yX10_go wsX10_go) := goodIn_app (goodIn_of _ (by decide +kernel)) ggL_law_X10_go
set_option maxRecDepth 20000 in
theorem ggL_law_X11_go : GoodIn wsL_law wsX11_go := goodIn_r _ [469, 330, 331, 470, 471, 472, 5, 473, 210, 326, 155, 328, 245, 329, 212, 213, 214, 352, 353, 354, 355, 154, 360, 361, 362, 363, 244, 156, 364, 365, 366, 367, 150, 149, 368, 369, 370, 371, 157, 474, 475, 476, 477, 162, 478, 479, 480, 481, 153, 482, 483, 484, 485, 152, 486, 487, 488, 489, 336, 337, 338, 339, 161, 340, 341, 342, 343, 490, 491, 492, 493, 494, 495, 496, 497, 498, 499, 500, 501, 502, 503, 504, 505, 506, 507, 508, 509, 158, 327, 344, 345, 346, 347, 243, 332, 333, 334, 335, 348, 349, 350, 351, 356, 357, 358, 359, 849, 850, 851, 852, 853, 854, 855, 856, 857, 858, 859, 860, 861, 862, 863, 864, 865, 866, 867, 868, 869, 870, 871, 872, 873, 874, 875, 876, 877] (by decide +kernel) (by decide +kernel)
set_option maxRecDepth 20000 in
theorem gL_law_X11_go : GoodIn wsL_law (wsV RL 42 RX11 yX11_go wsX11_go) := goodIn_app (goodIn_of _ (by decide +kernel)) ggL_law_X11_go
set_option maxRecDepth 20000 in
theorem ggL_law_X10_why : GoodIn wsL_law wsX10_why := goodIn_r _ [513, 27, 514, 389, 390, 26, 391, 84, 86, 79, 85, 392, 393, 394, 22, 395, 193, 396, 295, 296, 78, 297, 91, 397, 398, 399, 57, 400, 401, 311, 312, 313, 274, 71, 402, 403, 404, 405, 63, 65, 406, 407, 408, 409, 410, 411, 315, 316, 317, 92, 412, 319, 320, 321, 58, 413, 414, 415, 416, 83, 417, 418, 419, 420, 421, 62, 60, 422, 294, 423, 279, 280, 281, 310, 314, 424, 425, 426, 427, 59, 428, 429, 430, 431, 432, 433, 434, 435, 64, 436, 437, 438, 82, 439, 111, 440, 441, 442, 443, 199, 108, 105, 106, 444, 843, 844, 845, 846, 847, 848, 895, 896, 897, 898, 899, 886, 887, 888, 889, 890, 891, 892, 893, 894, 923, 924, 925, 881, 882, 883, 884, 885, 918, 919, 920, 921, 922, 926, 927, 928, 929, 930, 931, 932, 933, 934] (by decide +kernel) (by decide +kernel)
set_option maxRecDepth 20000 in
theorem gL_law_X10_why : GoodIn wsL_law (wsV RL 43 RX10 yX10_why wsX10_why) := goodIn_app (goodIn_of _ (by decide +kernel)) ggL_law_X10_why
set_option maxRecDepth 20000 in
theorem ggL_law_X11_why : GoodIn wsL_law wsX11_why := goodIn_r _ [473, 210, 326, 155, 328, 245, 329, 212, 213, 5, 214, 352, 353, 354, 355, 154, 360, 361, 362, 363, 244, 156, 364, 365, 366, 367, 150, 149, 368, 369, 370, 371, 157, 474, 475, 476, 477, 162, 331, 478, 479, 480, 481, 153, 482, 483, 484, 485, 152, 486, 487, 488, 489, 336, 337, 338, 339, 161, 340, 341, 342, 343, 490, 491, 492, 493, 494, 495, 496, 497, 498, 499, 500, 501, 502, 503, 504, 505, 849, 850, 851, 852, 853, 854, 855, 856, 857, 858, 859, 860, 861, 862, 863, 864, 865, 866, 867, 868, 869, 870, 871, 872, 873, 874, 875, 876, 877] (by decide +kernel) (by decide +kernel)
set_option maxRecDepth 20000 in
theorem gL_law_X11_why : GoodIn wsL_law (wsV RL 46 RX11 yX11_why wsX11_why) := goodIn_app (goodIn_of _ (by decide +kernel)) ggL_law_X11_why
set_option maxRecDepth 20000 in
theorem ggL_law_X10_about : GoodIn wsL_law wsX10_about := goodIn_r _ [519, 27, 23, 15, 520, 521, 522, 26, 523, 84, 79, 524, 525, 526, 527, 86, 396, 295, 296, 78, 297, 91, 528, 258, 259, 14, 260, 41, 42, 529, 463, 464, 82, 465, 199, 108, 843, 844, 845, 846, 847, 848, 895, 896, 897, 898, 899, 886, 887, 888, 889, 890, 891, 892, 893, 894, 926, 927, 928, 929, 930, 931, 932, 933, 934, 878, 879, 880, 923, 924, 925] (by decide +kernel) (by decide +kernel)
set_option maxRecDepth 20000 in
theorem gL_law_X10_about : GoodIn wsL_law (wsV RL 47 RX10 yX10_about wsX10_about) := goodIn_app (goodIn_of _ (by decide +kernel)) ggL_law_X10_about
set_option maxRecDepth 20000 in
theorem ggL_law_X11_about : GoodIn wsL_law wsX11_about := goodIn_r _ [533, 210, 328, 326, 155, 329, 330, 149, 331, 332, 333, 334, 5, 335, 150, 849, 850, 851, 852, 853, 854, 855, 856, 857, 858, 859, 860, 861, 862, 863, 864, 865, 866, 867, 868, 869, 870, 871, 872, 873, 874, 875, 876, 877] (by decide +kernel) (by decide +kernel)
set_option maxRecDepth 20000 in
theorem gL_law_X11_about : GoodIn wsL_law (wsV RL 50 RX11 yX11_about wsX11_about) := goodIn_app (goodIn_of _ (by decide +kernel)) ggL_law_X11_about
set_option maxRecDepth 20000 in
theorem ggL_law_X10_piece : GoodIn wsL_law wsX10_piece := goodIn_r _ [537, 23, 27, 538, 393, 394, 22, 395, 193, 539, 295, 296, 78, 297, 91, 540, 541, 542, 26, 543, 86, 79, 392, 544, 521, 522, 523, 84, 545, 546, 547, 548, 306, 307, 308, 309, 63, 65, 58, 294, 310, 311, 312, 57, 313, 274, 71, 314, 315, 316, 317, 92, 318, 319, 320, 321, 843, 844, 845, 846, 847, 848, 886, 887, 888, 889, 890, 891, 892, 893, 894, 895, 896, 897, 898, 899, 923, 924, 925, 881, 882, 883, 884, 885, 918, 919, 920, 921, 922] (by decide +kernel) (by decide +kernel)
set_option maxRecDepth 20000 in
theorem gL_law_X10_piece : GoodIn wsL_law (wsV RL 51 RX10 yX10_piece wsX10_piece) := goodIn_app (goodIn_of _ (by decide +kernel)) ggL_law_X10_piece
set_option maxRecDepth 20000 in
theorem ggL_law_X11_piece : GoodIn wsL_law wsX11_piece := goodIn_r _ [552, 210, 326, 154, 155, 328, 212, 213, 5, 214, 352, 353, 354, 355, 356, 357, 358, 359, 360, 361, 362, 363, 244, 156, 364, 365, 366, 367, 150, 149, 368, 369, 370, 371, 157, 478, 479, 480, 481, 153, 849, 850, 851, 852, 853, 854, 855, 856, 857, 858, 859, 860, 861, 862, 863, 864, 865, 866, 867, 868, 869, 870, 871, 872, 873, 874, 875, 876, 877] (by decide +kernel) (by decide +kernel)
set_option maxRecDepth 20000 in
theorem gL_law_X11_piece : GoodIn wsL_law (wsV RL 55 RX11 yX11_piece wsX11_piece) := goodIn_app (goodIn_of _ (by decide +kernel)) ggL_law_X11_piece
set_option maxRecDepth 20000 in
theorem ggL_law_X10_on : GoodIn wsL_law wsX10_on := goodIn_r _ [556, 27, 557, 315, 316, 78, 317, 92, 843, 844, 845, 846, 847, 848, 895, 896, 897, 898, 899, 923, 924, 925] (by decide +kernel) (by decide +kernel)
set_option maxRecDepth 20000 in
theorem gL_law_X10_on : GoodIn wsL_law (wsV RL 56 RX10 yX10_on wsX10_on) := goodIn_app (goodIn_of _ (by decide +kernel)) ggL_law_X10_on
set_option maxRecDepth 20000 in
theorem ggL_law_X11_on : GoodIn wsL_law wsX11_on := goodIn_r _ [561, 210, 156, 332, 333, 334, 5, 335, 149, 150, 212, 213, 214, 849, 850, 851, 852, 853, 854, 855, 856, 857, 858, 859, 860, 861, 862, 863, 864, 865, 866, 867, 868, 869, 870, 871, 872, 873, 874, 875, 876, 877] (by decide +kernel) (by decide +kernel)
set_option maxRecDepth 20000 in
theorem gL_law_X11_on : GoodIn wsL_law (wsV RL 59 RX11 yX11_on wsX11_on) := goodIn_app (goodIn_of _ (by decide +kernel)) ggL_law_X11_on
set_option maxRecDepth 20000 in
theorem ggL_law_X10_field : GoodIn wsL_law wsX10_field := goodIn_r _ [565, 27, 15, 23, 219, 220, 221, 26, 222, 84, 528, 258, 259, 14, 260, 41, 42, 843, 844, 845, 846, 847, 848, 886, 887, 888, 889, 890, 891, 892, 893, 894, 918, 919, 920, 921, 922, 895, 896, 897, 898, 899, 878, 879, 880] (by decide +kernel) (by decide +kernel)
set_option maxRecDepth 20000 in
theorem gL_law_X10_field : GoodIn wsL_law (wsV RL 60 RX10 yX10_field wsX10_field) := goodIn_app (goodIn_of _ (by decide +kernel)) ggL_law_X10_field
set_option maxRecDepth 20000 in
theorem ggL_law_X11_field : GoodIn wsL_law wsX11_field := goodIn_r _ [569, 210, 157, 332, 333, 334, 5, 335, 149, 150, 212, 213, 214, 344, 345, 346, 347, 243, 849, 850, 851, 852, 853, 854, 855, 856, 857, 858, 859, 860, 861, 862, 863, 864, 865, 866, 867, 868, 869, 870, 871, 872, 873, 874, 875, 876, 877] (by decide +kernel) (by decide +kernel)
set_option maxRecDepth 20000 in
theorem gL_law_X11_field : GoodIn wsL_law (wsV RL 63 RX11 yX11_field wsX11_field) := goodIn_app (goodIn_of _ (by decide +kernel)) ggL_law_X11_field
set_option maxRecDepth 20000 in
theorem ggL_law_X10_took : GoodIn wsL_law wsX10_took := goodIn_r _ [573, 27, 574, 575, 576, 82, 577, 199, 108, 109, 843, 844, 845, 846, 847, 848, 895, 896, 897, 898, 899, 926, 927, 928, 929, 930, 931, 932, 933, 934] (by decide +kernel) (by decide +kernel)
set_option maxRecDepth 20000 in
theorem gL_law_X10_took : GoodIn wsL_law (wsV RL 64 RX10 yX10_took wsX10_took) := goodIn_app (goodIn_of _ (by decide +kernel)) ggL_law_X10_took
set_option maxRecDepth 20000 in
theorem ggL_law_X11_took : GoodIn wsL_law wsX11_took := goodIn_r _ [581, 210, 331, 326, 162, 849, 850, 851, 852, 853, 854, 855, 856, 857, 858, 859, 860, 861, 862, 863, 864, 865, 866, 867, 868, 869, 870, 871, 872, 873, 874, 875, 876, 877] (by decide +kernel) (by decide +kernel)
set_option maxRecDepth 20000 in
theorem gL_law_X11_took : GoodIn wsL_law (wsV RL 67 RX11 yX11_took wsX11_took) := goodIn_app (goodIn_of _ (by decide +kernel)) ggL_law_X11_took
set_option maxRecDepth 20000 in
theorem ggL_law_X10_ring : GoodIn wsL_law wsX10_ring := goodIn_r _ [585, 31, 27, 586, 587, 588, 30, 589, 118, 117, 116, 590, 295, 296, 78, 297, 91, 591, 299, 300, 22, 301, 58, 592, 311, 312, 57, 313, 274, 71, 593, 594, 595, 596, 597, 315, 316, 317, 92, 598, 393, 394, 395, 193, 843, 844, 845, 846, 847, 848, 895, 896, 897, 898, 899, 900, 901, 902, 886, 887, 888, 889, 890, 891, 892, 893, 894, 923, 924, 925, 918, 919, 920, 921, 922] (by decide +kernel) (by decide +kernel)
set_option maxRecDepth 20000 in
theorem gL_law_X10_ring : GoodIn wsL_law (wsV RL 68 RX10 yX10_ring wsX10_ring) := goodIn_app (goodIn_of _ (by decide +kernel)) ggL_law_X10_ring
set_option maxRecDepth 20000 in
theorem ggL_law_X11_ring : GoodIn wsL_law wsX11_ring := goodIn_r _ [602, 210, 155, 327, 344, 345, 346, 5, 347, 243, 157, 150, 332, 333, 334, 335, 149, 603, 604, 605, 606, 163, 164, 156, 364, 365, 366, 367, 849, 850, 851, 852, 853, 854, 855, 856, 857, 858, 859, 860, 861, 862, 863, 864, 865, 866, 867, 868, 869, 870, 871, 872, 873, 874, 875, 876, 877] (by decide +kernel) (by decide +kernel)
set_option maxRecDepth 20000 in
theorem gL_law_X11_ring : GoodIn wsL_law (wsV RL 71 RX11 yX11_ring wsX11_ring) := goodIn_app (goodIn_of _ (by decide +kernel)) ggL_law_X11_ring
set_option maxRecDepth 20000 in
theorem ggL_law_X10_needed : GoodIn wsL_law wsX10_needed := goodIn_r _ [610, 23, 31, 27, 538, 393, 394, 22, 395, 193, 586, 587, 588, 30, 589, 118, 117, 116, 590, 295, 296, 78, 297, 91, 591, 299, 300, 301, 58, 592, 311, 312, 57, 313, 274, 71, 593, 594, 595, 596, 597, 315, 316, 317, 92, 598, 843, 844, 845, 846, 847, 848, 886, 887, 888, 889, 890, 891, 892, 893, 894, 895, 896, 897, 898, 899, 900, 901, 902, 923, 924, 925, 918, 919, 920, 921, 922] (by decide +kernel) (by decide +kernel)
set_option maxRecDepth 20000 in
theorem gL_law_X10_needed : GoodIn wsL_law (wsV RL 72 RX10 yX10_needed wsX10_needed) := goodIn_app (goodIn_of _ (by decide +kernel)) ggL_law_X10_needed
set_option maxRecDepth 20000 in
theorem ggL_law_X11_needed : GoodIn wsL_law wsX11_needed := goodIn_r _ [614, 326, 155, 615, 600, 601, 5, 602, 210, 327, 344, 345, 346, 347, 243, 157, 150, 332, 333, 334, 335, 149, 603, 604, 605, 606, 163, 164, 156, 364, 365, 366, 367, 212, 213, 214, 352, 353, 354, 355, 154, 849, 850, 851, 852, 853, 854, 855, 856, 857, 858, 859, 860, 861, 862, 863, 864, 865, 866, 867, 868, 869, 870, 871, 872, 873, 874, 875, 876, 877] (by decide +kernel) (by decide +kernel)
set_option maxRecDepth 20000 in
theorem gL_law_X11_needed : GoodIn wsL_law (wsV RL 76 RX11 yX11_needed wsX11_needed) := goodIn_app (goodIn_of _ (by decide +kernel)) ggL_law_X11_needed
set_option maxRecDepth 20000 in
theorem ggL_law_X10_back : GoodIn wsL_law wsX10_back := goodIn_r _ [619, 27, 620, 621, 622, 26, 623, 83, 79, 84, 624, 625, 626, 82, 627, 199, 105, 106, 108, 109, 110, 628, 279, 280, 78, 281, 91, 92, 843, 844, 845, 846, 847, 848, 895, 896, 897, 898, 899, 926, 927, 928, 929, 930, 931, 932, 933, 934, 923, 924, 925] (by decide +kernel) (by decide +kernel)
set_option maxRecDepth 20000 in
theorem gL_law_X10_back : GoodIn wsL_law (wsV RL 77 RX10 yX10_back wsX10_back) := goodIn_app (goodIn_of _ (by decide +kernel)) ggL_law_X10_back
set_option maxRecDepth 20000 in
theorem ggL_law_X11_back : GoodIn wsL_law wsX11_back := goodIn_r _ [632, 210, 329, 330, 498, 499, 500, 5, 501, 156, 326, 155, 161, 328, 340, 341, 342, 343, 502, 503, 504, 505, 331, 162, 849, 850, 851, 852, 853, 854, 855, 856, 857, 858, 859, 860, 861, 862, 863, 864, 865, 866, 867, 868, 869, 870, 871, 872, 873, 874, 875, 876, 877] (by decide +kernel) (by decide +kernel)
set_option maxRecDepth 20000 in
theorem gL_law_X11_back : GoodIn wsL_law (wsV RL 80 RX11 yX11_back wsX11_back) := goodIn_app (goodIn_of _ (by decide +kernel)) ggL_law_X11_back
set_option maxRecDepth 20000 in
theorem ggL_law_X10_again : GoodIn wsL_law wsX10_again := goodIn_r _ [636, 27, 637, 638, 639, 26, 640, 83, 445, 446, 447, 82, 448, 199, 449, 450, 451, 452, 79, 86, 413, 414, 415, 416, 417, 418, 419, 22, 420, 421, 62, 58, 60, 422, 393, 394, 395, 193, 294, 295, 296, 78, 297, 91, 423, 279, 280, 281, 92, 310, 311, 312, 57, 313, 274, 71, 314, 315, 316, 317, 424, 425, 426, 427, 59, 63, 65, 428, 429, 430, 431, 432, 433, 434, 435, 64, 436, 437, 438, 439, 111, 440, 441, 442, 443, 108, 105, 106, 444, 453, 454, 455, 456, 107, 109, 110, 200, 457, 458, 459, 460, 461, 278, 286, 287, 288, 289, 84, 85, 290, 291, 292, 293, 298, 299, 300, 301, 302, 303, 304, 305, 306, 307, 308, 309, 318, 319, 320, 321, 843, 844, 845, 846, 847, 848, 895, 896, 897, 898, 899, 926, 927, 928, 929, 930, 931, 932, 933, 934, 886, 887, 888, 889, 890, 891, 892, 893, 894, 923, 924, 925, 918, 919, 920, 921, 922, 881, 882, 883, 884, 885] (by decide +kernel) (by decide +kernel)
set_option maxRecDepth 20000 in
theorem gL_law_X10_again : GoodIn wsL_law (wsV RL 81 RX10 yX10_again wsX10_again) := goodIn_app (goodIn_of _ (by decide +kernel)) ggL_law_X10_again
set_option maxRecDepth 20000 in
theorem ggL_law_X11_again : GoodIn wsL_law wsX11_again := goodIn_r _ [644, 210, 330, 158, 329, 506, 507, 508, 5, 509, 328, 155, 327, 245, 474, 475, 476, 477, 156, 326, 162, 331, 364, 365, 366, 367, 150, 149, 478, 479, 480, 481, 154, 153, 352, 353, 354, 355, 482, 483, 484, 485, 152, 486, 487, 488, 489, 157, 336, 337, 338, 339, 161, 340, 341, 342, 343, 344, 345, 346, 347, 243, 332, 333, 334, 335, 348, 349, 350, 351, 356, 357, 358, 359, 360, 361, 362, 363, 244, 368, 369, 370, 371, 490, 491, 492, 493, 494, 495, 496, 497, 849, 850, 851, 852, 853, 854, 855, 856, 857, 858, 859, 860, 861, 862, 863, 864, 865, 866, 867, 868, 869, 870, 871, 872, 873, 874, 875, 876, 877] (by decide +kernel) (by decide +kernel)
set_option maxRecDepth 20000 in
theorem gL_law_X11_again : GoodIn wsL_law (wsV RL 84 RX11 yX11_again wsX11_again) := goodIn_app (goodIn_of _ (by decide +kernel)) ggL_law_X11_again
set_option maxRecDepth 20000 in
theorem ggL_law_X10_solve : GoodIn wsL_law wsX10_solve := goodIn_r _ [648, 27, 35, 219, 220, 221, 26, 222, 84, 649, 650, 651, 34, 652, 205, 653, 654, 128, 137, 124, 130, 655, 656, 657, 658, 659, 129, 660, 661, 662, 663, 133, 39, 134, 135, 136, 664, 665, 127, 666, 667, 668, 459, 669, 670, 458, 460, 671, 672, 673, 674, 142, 143, 675, 144, 676, 677, 678, 99, 100, 101, 679, 94, 95, 78, 96, 91, 92, 97, 98, 680, 681, 682, 683, 684, 685, 686, 687, 688, 689, 279, 280, 281, 690, 315, 316, 317, 691, 319, 320, 22, 321, 63, 58, 692, 291, 292, 293, 294, 295, 296, 297, 298, 299, 300, 301, 302, 303, 304, 305, 193, 60, 306, 307, 308, 309, 65, 310, 311, 312, 57, 313, 274, 71, 314, 318, 693, 694, 695, 696, 697, 698, 699, 700, 701, 702, 703, 704, 418, 419, 420, 421, 62, 422, 393, 394, 395, 423, 424, 425, 426, 427, 59, 428, 429, 430, 431, 432, 433, 434, 435, 64, 705, 706, 707, 708, 709, 710, 711, 712, 713, 714, 715, 716, 717, 718, 719, 720, 721, 722, 723, 724, 725, 726, 727, 728, 131, 132, 729, 843, 844, 845, 846, 847, 848, 895, 896, 897, 898, 899, 903, 904, 905, 906, 907, 908, 909, 910, 911, 912, 913, 914, 915, 916, 917, 886, 887, 888, 889, 890, 891, 892, 893, 894, 918, 919, 920, 921, 922, 935, 936, 937, 938, 923, 924, 925, 881, 882, 883, 884, 885] (by decide +kernel) (by decide +kernel)
set_option maxRecDepth 20000 in
theorem gL_law_X10_solve : GoodIn wsL_law (wsV RL 85 RX10 yX10_solve wsX10_solve) := goodIn_app (goodIn_of _ (by decide +kernel)) ggL_law_X10_solve
set_option maxRecDepth 20000 in
theorem ggL_law_X11_solve : GoodIn wsL_law wsX11_solve := goodIn_r _ [733, 210, 734, 165, 166, 168, 329, 211, 735, 736, 737, 5, 738, 739, 326, 332, 333, 334, 335, 149, 150, 740, 741, 742, 743, 328, 156, 155, 368, 369, 370, 371, 157, 154, 744, 745, 746, 747, 327, 344, 345, 346, 347, 243, 348, 349, 350, 351, 352, 353, 354, 355, 356, 357, 358, 359, 360, 361, 362, 363, 244, 364, 365, 366, 367, 748, 749, 750, 751, 474, 475, 476, 477, 162, 331, 478, 479, 480, 481, 153, 482, 483, 484, 485, 152, 486, 487, 488, 489, 752, 753, 754, 755, 498, 499, 500, 501, 161, 340, 341, 342, 343, 502, 503, 504, 505, 849, 850, 851, 852, 853, 854, 855, 856, 857, 858, 859, 860, 861, 862, 863, 864, 865, 866, 867, 868, 869, 870, 871, 872, 873, 874, 875, 876, 877] (by decide +kernel) (by decide +kernel)
set_option maxRecDepth 20000 in
theorem gL_law_X11_solve : GoodIn wsL_law (wsV RL 89 RX11 yX11_solve wsX11_solve) := goodIn_app (goodIn_of _ (by decide +kernel)) ggL_law_X11_solve
set_option maxRecDepth 20000 in
theorem ggL_law_X10_worth : GoodIn wsL_law wsX10_worth := goodIn_r _ [759, 35, 27, 760, 761, 762, 34, 763, 133, 764, 765, 766, 767, 205, 137, 129, 654, 702, 295, 296, 78, 297, 91, 843, 844, 845, 846, 847, 848, 895, 896, 897, 898, 899, 903, 904, 905, 906, 907, 908, 909, 910, 911, 912, 913, 914, 915, 916, 917, 886, 887, 888, 889, 890, 891, 892, 893, 894, 918, 919, 920, 921, 922, 923, 924, 925] (by decide +kernel) (by decide +kernel)
set_option maxRecDepth 20000 in
theorem gL_law_X10_worth : GoodIn wsL_law (wsV RL 90 RX10 yX10_worth wsX10_worth) := goodIn_app (goodIn_of _ (by decide +kernel)) ggL_law_X10_worth
set_option maxRecDepth 20000 in
theorem ggL_law_X11_worth : GoodIn wsL_law wsX11_worth := goodIn_r _ [771, 211, 165, 752, 753, 754, 5, 755, 326, 155, 328, 332, 333, 334, 335, 149, 150, 849, 850, 851, 852, 853, 854, 855, 856, 857, 858, 859, 860, 861, 862, 863, 864, 865, 866, 867, 868, 869, 870, 871, 872, 873, 874, 875, 876, 877] (by decide +kernel) (by decide +kernel)
set_option maxRecDepth 20000 in
theorem gL_law_X11_worth : GoodIn wsL_law (wsV RL 93 RX11 yX11_worth wsX11_worth) := goodIn_app (goodIn_of _ (by decide +kernel)) ggL_law_X11_worth
set_option maxRecDepth 20000 in
theorem ggL_law_X10_deep : GoodIn wsL_law wsX10_deep := goodIn_r _ [775, 35, 27, 776, 777, 778, 34, 779, 134, 764, 765, 766, 767, 205, 137, 129, 654, 702, 295, 296, 78, 297, 91, 843, 844, 845, 846, 847, 848, 895, 896, 897, 898, 899, 903, 904, 905, 906, 907, 908, 909, 910, 911, 912, 913, 914, 915, 916, 917, 886, 887, 888, 889, 890, 891, 892, 893, 894, 918, 919, 920, 921, 922, 923, 924, 925] (by decide +kernel) (by decide +kernel)
set_option maxRecDepth 20000 in
theorem gL_law_X10_deep : GoodIn wsL_law (wsV RL 94 RX10 yX10_deep wsX10_deep) := goodIn_app (goodIn_of _ (by decide +kernel)) ggL_law_X10_deep
set_option maxRecDepth 20000 in
theorem ggL_law_X11_deep : GoodIn wsL_law wsX11_deep := goodIn_r _ [783, 211, 166, 752, 753, 754, 5, 755, 326, 155, 328, 332, 333, 334, 335, 149, 150, 849, 850, 851, 852, 853, 854, 855, 856, 857, 858, 859, 860, 861, 862, 863, 864, 865, 866, 867, 868, 869, 870, 871, 872, 873, 874, 875, 876, 877] (by decide +kernel) (by decide +kernel)
set_option maxRecDepth 20000 in
theorem gL_law_X11_deep : GoodIn wsL_law (wsV RL 97 RX11 yX11_deep wsX11_deep) := goodIn_app (goodIn_of _ (by decide +kernel)) ggL_law_X11_deep
set_option maxRecDepth 20000 in
theorem ggL_law_X10_best : GoodIn wsL_law wsX10_best := goodIn_r _ [787, 35, 27, 788, 789, 790, 34, 791, 133, 134, 137, 764, 765, 766, 767, 205, 129, 654, 702, 295, 296, 78, 297, 91, 792, 793, 794, 795, 796, 393, 394, 22, 395, 193, 701, 307, 308, 309, 63, 65, 58, 294, 310, 311, 312, 57, 313, 274, 71, 314, 315, 316, 317, 92, 318, 319, 320, 321, 797, 398, 399, 400, 401, 704, 418, 419, 420, 421, 62, 60, 422, 423, 279, 280, 281, 424, 425, 426, 427, 59, 428, 429, 430, 431, 432, 433, 434, 435, 64, 705, 706, 707, 708, 843, 844, 845, 846, 847, 848, 895, 896, 897, 898, 899, 903, 904, 905, 906, 907, 908, 909, 910, 911, 912, 913, 914, 915, 916, 917, 886, 887, 888, 889, 890, 891, 892, 893, 894, 923, 924, 925, 918, 919, 920, 921, 922, 881, 882, 883, 884, 885] (by decide +kernel) (by decide +kernel)
set_option maxRecDepth 20000 in
theorem gL_law_X10_best : GoodIn wsL_law (wsV RL 98 RX10 yX10_best wsX10_best) := goodIn_app (goodIn_of _ (by decide +kernel)) ggL_law_X10_best
set_option maxRecDepth 20000 in
theorem ggL_law_X11_best : GoodIn wsL_law wsX11_best := goodIn_r _ [801, 211, 326, 165, 166, 329, 752, 753, 754, 5, 755, 155, 328, 332, 333, 334, 335, 149, 150, 744, 745, 746, 747, 327, 344, 345, 346, 347, 243, 157, 348, 349, 350, 351, 352, 353, 354, 355, 154, 356, 357, 358, 359, 360, 361, 362, 363, 244, 156, 364, 365, 366, 367, 368, 369, 370, 371, 802, 803, 804, 805, 740, 741, 742, 743, 474, 475, 476, 477, 162, 331, 478, 479, 480, 481, 153, 482, 483, 484, 485, 152, 486, 487, 488, 489, 498, 499, 500, 501, 161, 340, 341, 342, 343, 502, 503, 504, 505, 849, 850, 851, 852, 853, 854, 855, 856, 857, 858, 859, 860, 861, 862, 863, 864, 865, 866, 867, 868, 869, 870, 871, 872, 873, 874, 875, 876, 877] (by decide +kernel) (by decide +kernel)
set_option maxRecDepth 20000 in
theorem gL_law_X11_best : GoodIn wsL_law (wsV RL 101 RX11 yX11_best wsX11_best) := goodIn_app (goodIn_of _ (by decide +kernel)) ggL_law_X11_best
set_option maxRecDepth 20000 in
theorem ggL_law_X10_count : GoodIn wsL_law wsX10_count := goodIn_r _ [809, 35, 810, 811, 812, 34, 813, 205, 131, 251, 2, 252, 843, 844, 845, 846, 847, 848, 903, 904, 905, 906, 907, 908, 909, 910, 911, 912, 913, 914, 915, 916, 917] (by decide +kernel) (by decide +kernel)
set_option maxRecDepth 20000 in
theorem gL_law_X10_count : GoodIn wsL_law (wsV RL 102 RX10 yX10_count wsX10_count) := goodIn_app (goodIn_of _ (by decide +kernel)) ggL_law_X10_count
set_option maxRecDepth 20000 in
theorem ggL_law_X11_count : GoodIn wsL_law wsX11_count := goodIn_r _ [817, 211, 165, 212, 213, 5, 214, 735, 736, 737, 738, 739, 326, 734, 332, 333, 334, 335, 149, 150, 849, 850, 851, 852, 853, 854, 855, 856, 857, 858, 859, 860, 861, 862, 863, 864, 865, 866, 867, 868, 869, 870, 871, 872, 873, 874, 875, 876, 877] (by decide +kernel) (by decide +kernel)
set_option maxRecDepth 20000 in
theorem gL_law_X11_count : GoodIn wsL_law (wsV RL 105 RX11 yX11_count wsX11_count) := goodIn_app (goodIn_of _ (by decide +kernel)) ggL_law_X11_count
set_option maxRecDepth 20000 in
theorem ggL_law_X10_most : GoodIn wsL_law wsX10_most := goodIn_r _ [821, 35, 822, 823, 824, 34, 825, 205, 132, 251, 2, 252, 843, 844, 845, 846, 847, 848, 903, 904, 905, 906, 907, 908, 909, 910, 911, 912, 913, 914, 915, 916, 917] (by decide +kernel) (by decide +kernel)
set_option maxRecDepth 20000 in
theorem gL_law_X10_most : GoodIn wsL_law (wsV RL 106 RX10 yX10_most wsX10_most) := goodIn_app (goodIn_of _ (by decide +kernel)) ggL_law_X10_most
set_option maxRecDepth 20000 in
theorem ggL_law_X11_most : GoodIn wsL_law wsX11_most := goodIn_r _ [829, 211, 165, 166, 830, 458, 459, 460, 212, 213, 5, 214, 735, 736, 737, 738, 739, 326, 734, 332, 333, 334, 335, 149, 150, 849, 850, 851, 852, 853, 854, 855, 856, 857, 858, 859, 860, 861, 862, 863, 864, 865, 866, 867, 868, 869, 870, 871, 872, 873, 874, 875, 876, 877] (by decide +kernel) (by decide +kernel)
set_option maxRecDepth 20000 in
theorem gL_law_X11_most : GoodIn wsL_law (wsV RL 109 RX11 yX11_most wsX11_most) := goodIn_app (goodIn_of _ (by decide +kernel)) ggL_law_X11_most
set_option maxRecDepth 20000 in
theorem ggL_law_X10_stand : GoodIn wsL_law wsX10_stand := goodIn_r _ [834, 35, 835, 836, 837, 34, 838, 205, 654, 133, 251, 2, 252, 843, 844, 845, 846, 847, 848, 903, 904, 905, 906, 907, 908, 909, 910, 911, 912, 913, 914, 915, 916, 917] (by decide +kernel) (by decide +kernel)
set_option maxRecDepth 20000 in
theorem gL_law_X10_stand : GoodIn wsL_law (wsV RL 110 RX10 yX10_stand wsX10_stand) := goodIn_app (goodIn_of _ (by decide +kernel)) ggL_law_X10_stand
set_option maxRecDepth 20000 in
theorem ggL_law_X11_stand : GoodIn wsL_law wsX11_stand := goodIn_r _ [842, 211, 739, 165, 212, 213, 5, 214, 735, 736, 737, 738, 326, 734, 332, 333, 334, 335, 149, 150, 849, 850, 851, 852, 853, 854, 855, 856, 857, 858, 859, 860, 861, 862, 863, 864, 865, 866, 867, 868, 869, 870, 871, 872, 873, 874, 875, 876, 877] (by decide +kernel) (by decide +kernel)
set_option maxRecDepth 20000 in
theorem gL_law_X11_stand : GoodIn wsL_law (wsV RL 113 RX11 yX11_stand wsX11_stand) := goodIn_app (goodIn_of _ (by decide +kernel)) ggL_law_X11_stand
theorem fL_law_0 : DS.Facts cL_law 0 [(.new 7, 3), (.dup, 1), (.invokespecial 9, 3), (.astore_n 1, 1), (.new 10, 3), (.dup, 1), (.invokespecial 12, 3), (.astore_n 2, 1), (.iconst 0, 1), (.istore_n 3, 1), (.iload_n 3, 1), (.aload_n 0, 1), (.arraylength, 1), (.bipush 6, 2), (.isub, 1), (.if_icmp .gt 727, 3), (.aload_n 0, 1), (.iload_n 3, 1), (.iaload, 1), (.bipush 31, 2), (.iand, 1), (.tableswitch 712 0 22 #[107, 140, 183, 262, 285, 298, 341, 384, 407, 440, 463, 486, 509, 522, 545, 558, 571, 584, 597, 610, 623, 656, 679], 107), (.aload_n 1, 1), (.aload_n 0, 1)] := DS.facts 0 _ (by decide +kernel) (by decide +kernel)
theorem dL_law_0 : decode cL_law 0 = .ok (.new 7, 3) := fL_law_0.1
theorem dL_law_3 : decode cL_law 3 = .ok (.dup, 1) := fL_law_0.2.1
theorem dL_law_4 : decode cL_law 4 = .ok (.invokespecial 9, 3) := fL_law_0.2.2.1
theorem dL_law_7 : decode cL_law 7 = .ok (.astore_n 1, 1) := fL_law_0.2.2.2.1
theorem dL_law_8 : decode cL_law 8 = .ok (.new 10, 3) := fL_law_0.2.2.2.2.1
theorem dL_law_11 : decode cL_law 11 = .ok (.dup, 1) := fL_law_0.2.2.2.2.2.1
theorem dL_law_12 : decode cL_law 12 = .ok (.invokespecial 12, 3) := fL_law_0.2.2.2.2.2.2.1
theorem dL_law_15 : decode cL_law 15 = .ok (.astore_n 2, 1) := fL_law_0.2.2.2.2.2.2.2.1
theorem dL_law_16 : decode cL_law 16 = .ok (.iconst 0, 1) := fL_law_0.2.2.2.2.2.2.2.2.1
theorem dL_law_17 : decode cL_law 17 = .ok (.istore_n 3, 1) := fL_law_0.2.2.2.2.2.2.2.2.2.1
theorem dL_law_18 : decode cL_law 18 = .ok (.iload_n 3, 1) := fL_law_0.2.2.2.2.2.2.2.2.2.2.1
theorem dL_law_19 : decode cL_law 19 = .ok (.aload_n 0, 1) := fL_law_0.2.2.2.2.2.2.2.2.2.2.2.1
theorem dL_law_20 : decode cL_law 20 = .ok (.arraylength, 1) := fL_law_0.2.2.2.2.2.2.2.2.2.2.2.2.1
theorem dL_law_21 : decode cL_law 21 = .ok (.bipush 6, 2) := fL_law_0.2.2.2.2.2.2.2.2.2.2.2.2.2.1
theorem dL_law_23 : decode cL_law 23 = .ok (.isub, 1) := fL_law_0.2.2.2.2.2.2.2.2.2.2.2.2.2.2.1
theorem dL_law_24 : decode cL_law 24 = .ok (.if_icmp .gt 727, 3) := fL_law_0.2.2.2.2.2.2.2.2.2.2.2.2.2.2.2.1
theorem dL_law_27 : decode cL_law 27 = .ok (.aload_n 0, 1) := fL_law_0.2.2.2.2.2.2.2.2.2.2.2.2.2.2.2.2.1
theorem dL_law_28 : decode cL_law 28 = .ok (.iload_n 3, 1) := fL_law_0.2.2.2.2.2.2.2.2.2.2.2.2.2.2.2.2.2.1
theorem dL_law_29 : decode cL_law 29 = .ok (.iaload, 1) := fL_law_0.2.2.2.2.2.2.2.2.2.2.2.2.2.2.2.2.2.2.1
theorem dL_law_30 : decode cL_law 30 = .ok (.bipush 31, 2) := fL_law_0.2.2.2.2.2.2.2.2.2.2.2.2.2.2.2.2.2.2.2.1
theorem dL_law_32 : decode cL_law 32 = .ok (.iand, 1) := fL_law_0.2.2.2.2.2.2.2.2.2.2.2.2.2.2.2.2.2.2.2.2.1
theorem dL_law_33 : decode cL_law 33 = .ok (.tableswitch 712 0 22 #[107, 140, 183, 262, 285, 298, 341, 384, 407, 440, 463, 486, 509, 522, 545, 558, 571, 584, 597, 610, 623, 656, 679], 107) := fL_law_0.2.2.2.2.2.2.2.2.2.2.2.2.2.2.2.2.2.2.2.2.2.1
theorem dL_law_140 : decode cL_law 140 = .ok (.aload_n 1, 1) := fL_law_0.2.2.2.2.2.2.2.2.2.2.2.2.2.2.2.2.2.2.2.2.2.2.1
theorem dL_law_141 : decode cL_law 141 = .ok (.aload_n 0, 1) := fL_law_0.2.2.2.2.2.2.2.2.2.2.2.2.2.2.2.2.2.2.2.2.2.2.2.1
theorem fL_law_142 : DS.Facts cL_law 142 [(.iload_n 3, 1), (.iconst 1, 1), (.iadd, 1), (.iaload, 1), (.aload_n 0, 1), (.iload_n 3, 1), (.iconst 2, 1), (.iadd, 1), (.iaload, 1), (.invokevirtual 13, 3), (.pop, 1), (.aload_n 2, 1), (.aload_n 0, 1), (.iload_n 3, 1), (.iconst 1, 1), (.iadd, 1), (.iaload, 1), (.aload_n 0, 1), (.iload_n 3, 1), (.iconst 2, 1), (.iadd, 1), (.iaload, 1), (.invokevirtual 17, 3), (.pop, 1)] := DS.facts 142 _ (by decide +kernel) (by decide +kernel)
theorem dL_law_142 : decode cL_law 142 = .ok (.iload_n 3, 1) := fL_law_142.1
theorem dL_law_143 : decode cL_law 143 = .ok (.iconst 1, 1) := fL_law_142.2.1
theorem dL_law_144 : decode cL_law 144 = .ok (.iadd, 1) := fL_law_142.2.2.1
theorem dL_law_145 : decode cL_law 145 = .ok (.iaload, 1) := fL_law_142.2.2.2.1
theorem dL_law_146 : decode cL_law 146 = .ok (.aload_n 0, 1) := fL_law_142.2.2.2.2.1
theorem dL_law_147 : decode cL_law 147 = .ok (.iload_n 3, 1) := fL_law_142.2.2.2.2.2.1
theorem dL_law_148 : decode cL_law 148 = .ok (.iconst 2, 1) := fL_law_142.2.2.2.2.2.2.1
theorem dL_law_149 : decode cL_law 149 = .ok (.iadd, 1) := fL_law_142.2.2.2.2.2.2.2.1
theorem dL_law_150 : decode cL_law 150 = .ok (.iaload, 1) := fL_law_142.2.2.2.2.2.2.2.2.1
theorem dL_law_151 : decode cL_law 151 = .ok (.invokevirtual 13, 3) := fL_law_142.2.2.2.2.2.2.2.2.2.1
theorem dL_law_154 : decode cL_law 154 = .ok (.pop, 1) := fL_law_142.2.2.2.2.2.2.2.2.2.2.1
theorem dL_law_155 : decode cL_law 155 = .ok (.aload_n 2, 1) := fL_law_142.2.2.2.2.2.2.2.2.2.2.2.1
theorem dL_law_156 : decode cL_law 156 = .ok (.aload_n 0, 1) := fL_law_142.2.2.2.2.2.2.2.2.2.2.2.2.1
theorem dL_law_157 : decode cL_law 157 = .ok (.iload_n 3, 1) := fL_law_142.2.2.2.2.2.2.2.2.2.2.2.2.2.1
theorem dL_law_158 : decode cL_law 158 = .ok (.iconst 1, 1) := fL_law_142.2.2.2.2.2.2.2.2.2.2.2.2.2.2.1
theorem dL_law_159 : decode cL_law 159 = .ok (.iadd, 1) := fL_law_142.2.2.2.2.2.2.2.2.2.2.2.2.2.2.2.1
theorem dL_law_160 : decode cL_law 160 = .ok (.iaload, 1) := fL_law_142.2.2.2.2.2.2.2.2.2.2.2.2.2.2.2.2.1
theorem dL_law_161 : decode cL_law 161 = .ok (.aload_n 0, 1) := fL_law_142.2.2.2.2.2.2.2.2.2.2.2.2.2.2.2.2.2.1
theorem dL_law_162 : decode cL_law 162 = .ok (.iload_n 3, 1) := fL_law_142.2.2.2.2.2.2.2.2.2.2.2.2.2.2.2.2.2.2.1
theorem dL_law_163 : decode cL_law 163 = .ok (.iconst 2, 1) := fL_law_142.2.2.2.2.2.2.2.2.2.2.2.2.2.2.2.2.2.2.2.1
theorem dL_law_164 : decode cL_law 164 = .ok (.iadd, 1) := fL_law_142.2.2.2.2.2.2.2.2.2.2.2.2.2.2.2.2.2.2.2.2.1
theorem dL_law_165 : decode cL_law 165 = .ok (.iaload, 1) := fL_law_142.2.2.2.2.2.2.2.2.2.2.2.2.2.2.2.2.2.2.2.2.2.1
theorem dL_law_166 : decode cL_law 166 = .ok (.invokevirtual 17, 3) := fL_law_142.2.2.2.2.2.2.2.2.2.2.2.2.2.2.2.2.2.2.2.2.2.2.1
theorem dL_law_169 : decode cL_law 169 = .ok (.pop, 1) := fL_law_142.2.2.2.2.2.2.2.2.2.2.2.2.2.2.2.2.2.2.2.2.2.2.2.1
theorem fL_law_170 : DS.Facts cL_law 170 [(.goto 575, 3), (.aload_n 1, 1), (.aload_n 0, 1), (.iload_n 3, 1), (.iconst 1, 1), (.iadd, 1), (.iaload, 1), (.aload_n 0, 1), (.iload_n 3, 1), (.iconst 2, 1), (.iadd, 1), (.iaload, 1), (.aload_n 0, 1), (.iload_n 3, 1), (.iconst 3, 1), (.iadd, 1), (.iaload, 1), (.invokevirtual 18, 3), (.pop, 1), (.aload_n 2, 1), (.aload_n 0, 1), (.iload_n 3, 1), (.iconst 1, 1), (.iadd, 1)] := DS.facts 170 _ (by decide +kernel) (by decide +kernel)
theorem dL_law_170 : decode cL_law 170 = .ok (.goto 575, 3) := fL_law_170.1
theorem dL_law_173 : decode cL_law 173 = .ok (.aload_n 1, 1) := fL_law_170.2.1
theorem dL_law_174 : decode cL_law 174 = .ok (.aload_n 0, 1) := fL_law_170.2.2.1
theorem dL_law_175 : decode cL_law 175 = .ok (.iload_n 3, 1) := fL_law_170.2.2.2.1
theorem dL_law_176 : decode cL_law 176 = .ok (.iconst 1, 1) := fL_law_170.2.2.2.2.1
theorem dL_law_177 : decode cL_law 177 = .ok (.iadd, 1) := fL_law_170.2.2.2.2.2.1
theorem dL_law_178 : decode cL_law 178 = .ok (.iaload, 1) := fL_law_170.2.2.2.2.2.2.1
theorem dL_law_179 : decode cL_law 179 = .ok (.aload_n 0, 1) := fL_law_170.2.2.2.2.2.2.2.1
theorem dL_law_180 : decode cL_law 180 = .ok (.iload_n 3, 1) := fL_law_170.2.2.2.2.2.2.2.2.1
theorem dL_law_181 : decode cL_law 181 = .ok (.iconst 2, 1) := fL_law_170.2.2.2.2.2.2.2.2.2.1
theorem dL_law_182 : decode cL_law 182 = .ok (.iadd, 1) := fL_law_170.2.2.2.2.2.2.2.2.2.2.1
theorem dL_law_183 : decode cL_law 183 = .ok (.iaload, 1) := fL_law_170.2.2.2.2.2.2.2.2.2.2.2.1
theorem dL_law_184 : decode cL_law 184 = .ok (.aload_n 0, 1) := fL_law_170.2.2.2.2.2.2.2.2.2.2.2.2.1
theorem dL_law_185 : decode cL_law 185 = .ok (.iload_n 3, 1) := fL_law_170.2.2.2.2.2.2.2.2.2.2.2.2.2.1
theorem dL_law_186 : decode cL_law 186 = .ok (.iconst 3, 1) := fL_law_170.2.2.2.2.2.2.2.2.2.2.2.2.2.2.1
theorem dL_law_187 : decode cL_law 187 = .ok (.iadd, 1) := fL_law_170.2.2.2.2.2.2.2.2.2.2.2.2.2.2.2.1
theorem dL_law_188 : decode cL_law 188 = .ok (.iaload, 1) := fL_law_170.2.2.2.2.2.2.2.2.2.2.2.2.2.2.2.2.1
theorem dL_law_189 : decode cL_law 189 = .ok (.invokevirtual 18, 3) := fL_law_170.2.2.2.2.2.2.2.2.2.2.2.2.2.2.2.2.2.1
theorem dL_law_192 : decode cL_law 192 = .ok (.pop, 1) := fL_law_170.2.2.2.2.2.2.2.2.2.2.2.2.2.2.2.2.2.2.1
theorem dL_law_193 : decode cL_law 193 = .ok (.aload_n 2, 1) := fL_law_170.2.2.2.2.2.2.2.2.2.2.2.2.2.2.2.2.2.2.2.1
theorem dL_law_194 : decode cL_law 194 = .ok (.aload_n 0, 1) := fL_law_170.2.2.2.2.2.2.2.2.2.2.2.2.2.2.2.2.2.2.2.2.1
theorem dL_law_195 : decode cL_law 195 = .ok (.iload_n 3, 1) := fL_law_170.2.2.2.2.2.2.2.2.2.2.2.2.2.2.2.2.2.2.2.2.2.1
theorem dL_law_196 : decode cL_law 196 = .ok (.iconst 1, 1) := fL_law_170.2.2.2.2.2.2.2.2.2.2.2.2.2.2.2.2.2.2.2.2.2.2.1
theorem dL_law_197 : decode cL_law 197 = .ok (.iadd, 1) := fL_law_170.2.2.2.2.2.2.2.2.2.2.2.2.2.2.2.2.2.2.2.2.2.2.2.1
theorem fL_law_198 : DS.Facts cL_law 198 [(.iaload, 1), (.aload_n 0, 1), (.iload_n 3, 1), (.iconst 2, 1), (.iadd, 1), (.iaload, 1), (.aload_n 0, 1), (.iload_n 3, 1), (.iconst 3, 1), (.iadd, 1), (.iaload, 1), (.invokevirtual 22, 3), (.pop, 1), (.goto 532, 3), (.aload_n 1, 1), (.aload_n 0, 1), (.iload_n 3, 1), (.iconst 1, 1), (.iadd, 1), (.iaload, 1), (.aload_n 0, 1), (.iload_n 3, 1), (.iconst 2, 1), (.iadd, 1)] := DS.facts 198 _ (by decide +kernel) (by decide +kernel)
theorem dL_law_198 : decode cL_law 198 = .ok (.iaload, 1) := fL_law_198.1
theorem dL_law_199 : decode cL_law 199 = .ok (.aload_n 0, 1) := fL_law_198.2.1
theorem dL_law_200 : decode cL_law 200 = .ok (.iload_n 3, 1) := fL_law_198.2.2.1
theorem dL_law_201 : decode cL_law 201 = .ok (.iconst 2, 1) := fL_law_198.2.2.2.1
theorem dL_law_202 : decode cL_law 202 = .ok (.iadd, 1) := fL_law_198.2.2.2.2.1
theorem dL_law_203 : decode cL_law 203 = .ok (.iaload, 1) := fL_law_198.2.2.2.2.2.1
theorem dL_law_204 : decode cL_law 204 = .ok (.aload_n 0, 1) := fL_law_198.2.2.2.2.2.2.1
theorem dL_law_205 : decode cL_law 205 = .ok (.iload_n 3, 1) := fL_law_198.2.2.2.2.2.2.2.1
theorem dL_law_206 : decode cL_law 206 = .ok (.iconst 3, 1) := fL_law_198.2.2.2.2.2.2.2.2.1
theorem dL_law_207 : decode cL_law 207 = .ok (.iadd, 1) := fL_law_198.2.2.2.2.2.2.2.2.2.1
theorem dL_law_208 : decode cL_law 208 = .ok (.iaload, 1) := fL_law_198.2.2.2.2.2.2.2.2.2.2.1
theorem dL_law_209 : decode cL_law 209 = .ok (.invokevirtual 22, 3) := fL_law_198.2.2.2.2.2.2.2.2.2.2.2.1
theorem dL_law_212 : decode cL_law 212 = .ok (.pop, 1) := fL_law_198.2.2.2.2.2.2.2.2.2.2.2.2.1
theorem dL_law_213 : decode cL_law 213 = .ok (.goto 532, 3) := fL_law_198.2.2.2.2.2.2.2.2.2.2.2.2.2.1
theorem dL_law_216 : decode cL_law 216 = .ok (.aload_n 1, 1) := fL_law_198.2.2.2.2.2.2.2.2.2.2.2.2.2.2.1
theorem dL_law_217 : decode cL_law 217 = .ok (.aload_n 0, 1) := fL_law_198.2.2.2.2.2.2.2.2.2.2.2.2.2.2.2.1
theorem dL_law_218 : decode cL_law 218 = .ok (.iload_n 3, 1) := fL_law_198.2.2.2.2.2.2.2.2.2.2.2.2.2.2.2.2.1
theorem dL_law_219 : decode cL_law 219 = .ok (.iconst 1, 1) := fL_law_198.2.2.2.2.2.2.2.2.2.2.2.2.2.2.2.2.2.1
theorem dL_law_220 : decode cL_law 220 = .ok (.iadd, 1) := fL_law_198.2.2.2.2.2.2.2.2.2.2.2.2.2.2.2.2.2.2.1
theorem dL_law_221 : decode cL_law 221 = .ok (.iaload, 1) := fL_law_198.2.2.2.2.2.2.2.2.2.2.2.2.2.2.2.2.2.2.2.1
theorem dL_law_222 : decode cL_law 222 = .ok (.aload_n 0, 1) := fL_law_198.2.2.2.2.2.2.2.2.2.2.2.2.2.2.2.2.2.2.2.2.1
theorem dL_law_223 : decode cL_law 223 = .ok (.iload_n 3, 1) := fL_law_198.2.2.2.2.2.2.2.2.2.2.2.2.2.2.2.2.2.2.2.2.2.1
theorem dL_law_224 : decode cL_law 224 = .ok (.iconst 2, 1) := fL_law_198.2.2.2.2.2.2.2.2.2.2.2.2.2.2.2.2.2.2.2.2.2.2.1
theorem dL_law_225 : decode cL_law 225 = .ok (.iadd, 1) := fL_law_198.2.2.2.2.2.2.2.2.2.2.2.2.2.2.2.2.2.2.2.2.2.2.2.1
theorem fL_law_226 : DS.Facts cL_law 226 [(.iaload, 1), (.aload_n 0, 1), (.iload_n 3, 1), (.iconst 3, 1), (.iadd, 1), (.iaload, 1), (.ifCond .eq 7, 3), (.iconst 1, 1), (.goto 4, 3), (.iconst 0, 1), (.aload_n 0, 1), (.iload_n 3, 1), (.iconst 4, 1), (.iadd, 1), (.iaload, 1), (.aload_n 0, 1), (.iload_n 3, 1), (.iconst 5, 1), (.iadd, 1), (.iaload, 1), (.invokevirtual 23, 3), (.pop, 1), (.aload_n 2, 1), (.aload_n 0, 1)] := DS.facts 226 _ (by decide +kernel) (by decide +kernel)
theorem dL_law_226 : decode cL_law 226 = .ok (.iaload, 1) := fL_law_226.1
theorem dL_law_227 : decode cL_law 227 = .ok (.aload_n 0, 1) := fL_law_226.2.1
theorem dL_law_228 : decode cL_law 228 = .ok (.iload_n 3, 1) := fL_law_226.2.2.1
theorem dL_law_229 : decode cL_law 229 = .ok (.iconst 3, 1) := fL_law_226.2.2.2.1
theorem dL_law_230 : decode cL_law 230 = .ok (.iadd, 1) := fL_law_226.2.2.2.2.1
theorem dL_law_231 : decode cL_law 231 = .ok (.iaload, 1) := fL_law_226.2.2.2.2.2.1
theorem dL_law_232 : decode cL_law 232 = .ok (.ifCond .eq 7, 3) := fL_law_226.2.2.2.2.2.2.1
theorem dL_law_235 : decode cL_law 235 = .ok (.iconst 1, 1) := fL_law_226.2.2.2.2.2.2.2.1
theorem dL_law_236 : decode cL_law 236 = .ok (.goto 4, 3) := fL_law_226.2.2.2.2.2.2.2.2.1
theorem dL_law_239 : decode cL_law 239 = .ok (.iconst 0, 1) := fL_law_226.2.2.2.2.2.2.2.2.2.1
theorem dL_law_240 : decode cL_law 240 = .ok (.aload_n 0, 1) := fL_law_226.2.2.2.2.2.2.2.2.2.2.1
theorem dL_law_241 : decode cL_law 241 = .ok (.iload_n 3, 1) := fL_law_226.2.2.2.2.2.2.2.2.2.2.2.1
theorem dL_law_242 : decode cL_law 242 = .ok (.iconst 4, 1) := fL_law_226.2.2.2.2.2.2.2.2.2.2.2.2.1
theorem dL_law_243 : decode cL_law 243 = .ok (.iadd, 1) := fL_law_226.2.2.2.2.2.2.2.2.2.2.2.2.2.1
theorem dL_law_244 : decode cL_law 244 = .ok (.iaload, 1) := fL_law_226.2.2.2.2.2.2.2.2.2.2.2.2.2.2.1
theorem dL_law_245 : decode cL_law 245 = .ok (.aload_n 0, 1) := fL_law_226.2.2.2.2.2.2.2.2.2.2.2.2.2.2.2.1
theorem dL_law_246 : decode cL_law 246 = .ok (.iload_n 3, 1) := fL_law_226.2.2.2.2.2.2.2.2.2.2.2.2.2.2.2.2.1
theorem dL_law_247 : decode cL_law 247 = .ok (.iconst 5, 1) := fL_law_226.2.2.2.2.2.2.2.2.2.2.2.2.2.2.2.2.2.1
theorem dL_law_248 : decode cL_law 248 = .ok (.iadd, 1) := fL_law_226.2.2.2.2.2.2.2.2.2.2.2.2.2.2.2.2.2.2.1
theorem dL_law_249 : decode cL_law 249 = .ok (.iaload, 1) := fL_law_226.2.2.2.2.2.2.2.2.2.2.2.2.2.2.2.2.2.2.2.1
theorem dL_law_250 : decode cL_law 250 = .ok (.invokevirtual 23, 3) := fL_law_226.2.2.2.2.2.2.2.2.2.2.2.2.2.2.2.2.2.2.2.2.1
theorem dL_law_253 : decode cL_law 253 = .ok (.pop, 1) := fL_law_226.2.2.2.2.2.2.2.2.2.2.2.2.2.2.2.2.2.2.2.2.2.1
theorem dL_law_254 : decode cL_law 254 = .ok (.aload_n 2, 1) := fL_law_226.2.2.2.2.2.2.2.2.2.2.2.2.2.2.2.2.2.2.2.2.2.2.1
theorem dL_law_255 : decode cL_law 255 = .ok (.aload_n 0, 1) := fL_law_226.2.2.2.2.2.2.2.2.2.2.2.2.2.2.2.2.2.2.2.2.2.2.2.1
theorem fL_law_256 : DS.Facts cL_law 256 [(.iload_n 3, 1), (.iconst 1, 1), (.iadd, 1), (.iaload, 1), (.aload_n 0, 1), (.iload_n 3, 1), (.iconst 2, 1), (.iadd, 1), (.iaload, 1), (.aload_n 0, 1), (.iload_n 3, 1), (.iconst 3, 1), (.iadd, 1), (.iaload, 1), (.ifCond .eq 7, 3), (.iconst 1, 1), (.goto 4, 3), (.iconst 0, 1), (.aload_n 0, 1), (.iload_n 3, 1), (.iconst 4, 1), (.iadd, 1), (.iaload, 1), (.aload_n 0, 1)] := DS.facts 256 _ (by decide +kernel) (by decide +kernel)
theorem dL_law_256 : decode cL_law 256 = .ok (.iload_n 3, 1) := fL_law_256.1
theorem dL_law_257 : decode cL_law 257 = .ok (.iconst 1, 1) := fL_law_256.2.1
theorem dL_law_258 : decode cL_law 258 = .ok (.iadd, 1) := fL_law_256.2.2.1
theorem dL_law_259 : decode cL_law 259 = .ok (.iaload, 1) := fL_law_256.2.2.2.1
theorem dL_law_260 : decode cL_law 260 = .ok (.aload_n 0, 1) := fL_law_256.2.2.2.2.1
theorem dL_law_261 : decode cL_law 261 = .ok (.iload_n 3, 1) := fL_law_256.2.2.2.2.2.1
theorem dL_law_262 : decode cL_law 262 = .ok (.iconst 2, 1) := fL_law_256.2.2.2.2.2.2.1
theorem dL_law_263 : decode cL_law 263 = .ok (.iadd, 1) := fL_law_256.2.2.2.2.2.2.2.1
theorem dL_law_264 : decode cL_law 264 = .ok (.iaload, 1) := fL_law_256.2.2.2.2.2.2.2.2.1
theorem dL_law_265 : decode cL_law 265 = .ok (.aload_n 0, 1) := fL_law_256.2.2.2.2.2.2.2.2.2.1
theorem dL_law_266 : decode cL_law 266 = .ok (.iload_n 3, 1) := fL_law_256.2.2.2.2.2.2.2.2.2.2.1
theorem dL_law_267 : decode cL_law 267 = .ok (.iconst 3, 1) := fL_law_256.2.2.2.2.2.2.2.2.2.2.2.1
theorem dL_law_268 : decode cL_law 268 = .ok (.iadd, 1) := fL_law_256.2.2.2.2.2.2.2.2.2.2.2.2.1
theorem dL_law_269 : decode cL_law 269 = .ok (.iaload, 1) := fL_law_256.2.2.2.2.2.2.2.2.2.2.2.2.2.1
theorem dL_law_270 : decode cL_law 270 = .ok (.ifCond .eq 7, 3) := fL_law_256.2.2.2.2.2.2.2.2.2.2.2.2.2.2.1
theorem dL_law_273 : decode cL_law 273 = .ok (.iconst 1, 1) := fL_law_256.2.2.2.2.2.2.2.2.2.2.2.2.2.2.2.1
theorem dL_law_274 : decode cL_law 274 = .ok (.goto 4, 3) := fL_law_256.2.2.2.2.2.2.2.2.2.2.2.2.2.2.2.2.1
theorem dL_law_277 : decode cL_law 277 = .ok (.iconst 0, 1) := fL_law_256.2.2.2.2.2.2.2.2.2.2.2.2.2.2.2.2.2.1
theorem dL_law_278 : decode cL_law 278 = .ok (.aload_n 0, 1) := fL_law_256.2.2.2.2.2.2.2.2.2.2.2.2.2.2.2.2.2.2.1
theorem dL_law_279 : decode cL_law 279 = .ok (.iload_n 3, 1) := fL_law_256.2.2.2.2.2.2.2.2.2.2.2.2.2.2.2.2.2.2.2.1
theorem dL_law_280 : decode cL_law 280 = .ok (.iconst 4, 1) := fL_law_256.2.2.2.2.2.2.2.2.2.2.2.2.2.2.2.2.2.2.2.2.1
theorem dL_law_281 : decode cL_law 281 = .ok (.iadd, 1) := fL_law_256.2.2.2.2.2.2.2.2.2.2.2.2.2.2.2.2.2.2.2.2.2.1
theorem dL_law_282 : decode cL_law 282 = .ok (.iaload, 1) := fL_law_256.2.2.2.2.2.2.2.2.2.2.2.2.2.2.2.2.2.2.2.2.2.2.1
theorem dL_law_283 : decode cL_law 283 = .ok (.aload_n 0, 1) := fL_law_256.2.2.2.2.2.2.2.2.2.2.2.2.2.2.2.2.2.2.2.2.2.2.2.1
theorem fL_law_284 : DS.Facts cL_law 284 [(.iload_n 3, 1), (.iconst 5, 1), (.iadd, 1), (.iaload, 1), (.invokevirtual 27, 3), (.pop, 1), (.goto 453, 3), (.aload_n 1, 1), (.aload_n 0, 1), (.iload_n 3, 1), (.iconst 1, 1), (.iadd, 1), (.iaload, 1), (.invokevirtual 28, 3), (.pop, 1), (.aload_n 2, 1), (.aload_n 0, 1), (.iload_n 3, 1), (.iconst 1, 1), (.iadd, 1), (.iaload, 1), (.invokevirtual 32, 3), (.pop, 1), (.goto 430, 3)] := DS.facts 284 _ (by decide +kernel) (by decide +kernel)
theorem dL_law_284 : decode cL_law 284 = .ok (.iload_n 3, 1) := fL_law_284.1
theorem dL_law_285 : decode cL_law 285 = .ok (.iconst 5, 1) := fL_law_284.2.1
theorem dL_law_286 : decode cL_law 286 = .ok (.iadd, 1) := fL_law_284.2.2.1
theorem dL_law_287 : decode cL_law 287 = .ok (.iaload, 1) := fL_law_284.2.2.2.1
theorem dL_law_288 : decode cL_law 288 = .ok (.invokevirtual 27, 3) := fL_law_284.2.2.2.2.1
theorem dL_law_291 : decode cL_law 291 = .ok (.pop, 1) := fL_law_284.2.2.2.2.2.1
theorem dL_law_292 : decode cL_law 292 = .ok (.goto 453, 3) := fL_law_284.2.2.2.2.2.2.1
theorem dL_law_295 : decode cL_law 295 = .ok (.aload_n 1, 1) := fL_law_284.2.2.2.2.2.2.2.1
theorem dL_law_296 : decode cL_law 296 = .ok (.aload_n 0, 1) := fL_law_284.2.2.2.2.2.2.2.2.1
theorem dL_law_297 : decode cL_law 297 = .ok (.iload_n 3, 1) := fL_law_284.2.2.2.2.2.2.2.2.2.1
theorem dL_law_298 : decode cL_law 298 = .ok (.iconst 1, 1) := fL_law_284.2.2.2.2.2.2.2.2.2.2.1
theorem dL_law_299 : decode cL_law 299 = .ok (.iadd, 1) := fL_law_284.2.2.2.2.2.2.2.2.2.2.2.1
theorem dL_law_300 : decode cL_law 300 = .ok (.iaload, 1) := fL_law_284.2.2.2.2.2.2.2.2.2.2.2.2.1
theorem dL_law_301 : decode cL_law 301 = .ok (.invokevirtual 28, 3) := fL_law_284.2.2.2.2.2.2.2.2.2.2.2.2.2.1
theorem dL_law_304 : decode cL_law 304 = .ok (.pop, 1) := fL_law_284.2.2.2.2.2.2.2.2.2.2.2.2.2.2.1
theorem dL_law_305 : decode cL_law 305 = .ok (.aload_n 2, 1) := fL_law_284.2.2.2.2.2.2.2.2.2.2.2.2.2.2.2.1
theorem dL_law_306 : decode cL_law 306 = .ok (.aload_n 0, 1) := fL_law_284.2.2.2.2.2.2.2.2.2.2.2.2.2.2.2.2.1
theorem dL_law_307 : decode cL_law 307 = .ok (.iload_n 3, 1) := fL_law_284.2.2.2.2.2.2.2.2.2.2.2.2.2.2.2.2.2.1
theorem dL_law_308 : decode cL_law 308 = .ok (.iconst 1, 1) := fL_law_284.2.2.2.2.2.2.2.2.2.2.2.2.2.2.2.2.2.2.1
theorem dL_law_309 : decode cL_law 309 = .ok (.iadd, 1) := fL_law_284.2.2.2.2.2.2.2.2.2.2.2.2.2.2.2.2.2.2.2.1
theorem dL_law_310 : decode cL_law 310 = .ok (.iaload, 1) := fL_law_284.2.2.2.2.2.2.2.2.2.2.2.2.2.2.2.2.2.2.2.2.1
theorem dL_law_311 : decode cL_law 311 = .ok (.invokevirtual 32, 3) := fL_law_284.2.2.2.2.2.2.2.2.2.2.2.2.2.2.2.2.2.2.2.2.2.1
theorem dL_law_314 : decode cL_law 314 = .ok (.pop, 1) := fL_law_284.2.2.2.2.2.2.2.2.2.2.2.2.2.2.2.2.2.2.2.2.2.2.1
theorem dL_law_315 : decode cL_law 315 = .ok (.goto 430, 3) := fL_law_284.2.2.2.2.2.2.2.2.2.2.2.2.2.2.2.2.2.2.2.2.2.2.2.1
theorem fL_law_318 : DS.Facts cL_law 318 [(.aload_n 1, 1), (.invokevirtual 33, 3), (.pop, 1), (.aload_n 2, 1), (.invokevirtual 37, 3), (.pop, 1), (.goto 417, 3), (.aload_n 1, 1), (.aload_n 0, 1), (.iload_n 3, 1), (.iconst 1, 1), (.iadd, 1), (.iaload, 1), (.aload_n 0, 1), (.iload_n 3, 1), (.iconst 2, 1), (.iadd, 1), (.iaload, 1), (.aload_n 0, 1), (.iload_n 3, 1), (.iconst 3, 1), (.iadd, 1), (.iaload, 1), (.invokevirtual 38, 3)] := DS.facts 318 _ (by decide +kernel) (by decide +kernel)
theorem dL_law_318 : decode cL_law 318 = .ok (.aload_n 1, 1) := fL_law_318.1
theorem dL_law_319 : decode cL_law 319 = .ok (.invokevirtual 33, 3) := fL_law_318.2.1
theorem dL_law_322 : decode cL_law 322 = .ok (.pop, 1) := fL_law_318.2.2.1
theorem dL_law_323 : decode cL_law 323 = .ok (.aload_n 2, 1) := fL_law_318.2.2.2.1
theorem dL_law_324 : decode cL_law 324 = .ok (.invokevirtual 37, 3) := fL_law_318.2.2.2.2.1
theorem dL_law_327 : decode cL_law 327 = .ok (.pop, 1) := fL_law_318.2.2.2.2.2.1
theorem dL_law_328 : decode cL_law 328 = .ok (.goto 417, 3) := fL_law_318.2.2.2.2.2.2.1
theorem dL_law_331 : decode cL_law 331 = .ok (.aload_n 1, 1) := fL_law_318.2.2.2.2.2.2.2.1
theorem dL_law_332 : decode cL_law 332 = .ok (.aload_n 0, 1) := fL_law_318.2.2.2.2.2.2.2.2.1
theorem dL_law_333 : decode cL_law 333 = .ok (.iload_n 3, 1) := fL_law_318.2.2.2.2.2.2.2.2.2.1
theorem dL_law_334 : decode cL_law 334 = .ok (.iconst 1, 1) := fL_law_318.2.2.2.2.2.2.2.2.2.2.1
theorem dL_law_335 : decode cL_law 335 = .ok (.iadd, 1) := fL_law_318.2.2.2.2.2.2.2.2.2.2.2.1
theorem dL_law_336 : decode cL_law 336 = .ok (.iaload, 1) := fL_law_318.2.2.2.2.2.2.2.2.2.2.2.2.1
theorem dL_law_337 : decode cL_law 337 = .ok (.aload_n 0, 1) := fL_law_318.2.2.2.2.2.2.2.2.2.2.2.2.2.1
theorem dL_law_338 : decode cL_law 338 = .ok (.iload_n 3, 1) := fL_law_318.2.2.2.2.2.2.2.2.2.2.2.2.2.2.1
theorem dL_law_339 : decode cL_law 339 = .ok (.iconst 2, 1) := fL_law_318.2.2.2.2.2.2.2.2.2.2.2.2.2.2.2.1
theorem dL_law_340 : decode cL_law 340 = .ok (.iadd, 1) := fL_law_318.2.2.2.2.2.2.2.2.2.2.2.2.2.2.2.2.1
theorem dL_law_341 : decode cL_law 341 = .ok (.iaload, 1) := fL_law_318.2.2.2.2.2.2.2.2.2.2.2.2.2.2.2.2.2.1
theorem dL_law_342 : decode cL_law 342 = .ok (.aload_n 0, 1) := fL_law_318.2.2.2.2.2.2.2.2.2.2.2.2.2.2.2.2.2.2.1
theorem dL_law_343 : decode cL_law 343 = .ok (.iload_n 3, 1) := fL_law_318.2.2.2.2.2.2.2.2.2.2.2.2.2.2.2.2.2.2.2.1
theorem dL_law_344 : decode cL_law 344 = .ok (.iconst 3, 1) := fL_law_318.2.2.2.2.2.2.2.2.2.2.2.2.2.2.2.2.2.2.2.2.1
theorem dL_law_345 : decode cL_law 345 = .ok (.iadd, 1) := fL_law_318.2.2.2.2.2.2.2.2.2.2.2.2.2.2.2.2.2.2.2.2.2.1
theorem dL_law_346 : decode cL_law 346 = .ok (.iaload, 1) := fL_law_318.2.2.2.2.2.2.2.2.2.2.2.2.2.2.2.2.2.2.2.2.2.2.1
theorem dL_law_347 : decode cL_law 347 = .ok (.invokevirtual 38, 3) := fL_law_318.2.2.2.2.2.2.2.2.2.2.2.2.2.2.2.2.2.2.2.2.2.2.2.1
theorem fL_law_350 : DS.Facts cL_law 350 [(.aload_n 2, 1), (.aload_n 0, 1), (.iload_n 3, 1), (.iconst 1, 1), (.iadd, 1), (.iaload, 1), (.aload_n 0, 1), (.iload_n 3, 1), (.iconst 2, 1), (.iadd, 1), (.iaload, 1), (.aload_n 0, 1), (.iload_n 3, 1), (.iconst 3, 1), (.iadd, 1), (.iaload, 1), (.invokevirtual 42, 3), (.if_icmp .eq 376, 3), (.iconst 0, 1), (.ireturn, 1), (.aload_n 1, 1), (.aload_n 0, 1), (.iload_n 3, 1), (.iconst 1, 1)] := DS.facts 350 _ (by decide +kernel) (by decide +kernel)
theorem dL_law_350 : decode cL_law 350 = .ok (.aload_n 2, 1) := fL_law_350.1
theorem dL_law_351 : decode cL_law 351 = .ok (.aload_n 0, 1) := fL_law_350.2.1
theorem dL_law_352 : decode cL_law 352 = .ok (.iload_n 3, 1) := fL_law_350.2.2.1
theorem dL_law_353 : decode cL_law 353 = .ok (.iconst 1, 1) := fL_law_350.2.2.2.1
