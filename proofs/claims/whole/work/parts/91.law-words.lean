set_option maxRecDepth 20000 in
theorem ggL_law_X9_init : GoodIn wsL_law wsX9_init := goodIn_r _ [8, 9, 10, 11, 12, 13, 14, 15, 16, 17, 18, 19, 20, 21, 22, 23, 24, 25, 26, 27, 28, 29, 30, 31, 32, 33, 34, 35, 36, 37, 38, 39, 40, 41, 42, 43, 44, 45, 46, 47, 48, 49, 50, 51, 52, 53, 54, 55, 56, 57, 58, 59, 60, 61, 62, 63, 64, 65, 66, 67, 68, 69, 70, 71, 72, 73, 74, 75, 76, 77, 78, 79, 80, 81, 82, 83, 84, 85, 86, 87, 88, 89, 90, 91, 92, 93, 94, 95, 96, 97, 98, 99, 100, 101, 102, 103, 104, 105, 106, 107, 108, 109, 110, 918, 919, 920, 921, 922, 923, 924, 925, 926, 927, 928, 929, 930, 882, 883, 884, 885, 886, 887, 888, 889, 890, 891, 892, 931, 932, 933, 934, 935, 936, 937, 938, 939, 940, 941, 942, 943, 944, 945, 946, 947, 948, 949, 950, 951, 952, 953] (by decide +kernel) (by decide +kernel)
set_option maxRecDepth 20000 in
theorem gL_law_X9_init : GoodIn wsL_law (wsX9_init) := ggL_law_X9_init
set_option maxRecDepth 20000 in
theorem ggL_law_X10_init : GoodIn wsL_law wsX10_init := goodIn_r _ [113, 114, 10, 11, 115, 50, 116, 117, 118, 119, 120, 121, 122, 123, 124, 125, 126, 127, 128, 129, 130, 131, 132, 133, 5, 134, 135, 136, 137, 893, 894, 895, 896, 897, 898, 899, 900, 901, 902, 903, 904, 905, 906, 907, 908, 909, 910, 911, 912, 913, 914, 915, 916, 917] (by decide +kernel) (by decide +kernel)
set_option maxRecDepth 20000 in
theorem gL_law_X10_init : GoodIn wsL_law (wsX10_init) := ggL_law_X10_init
set_option maxRecDepth 20000 in
theorem ggL_law_X9_windows : GoodIn wsL_law wsX9_windows := goodIn_r _ [141, 15, 142, 143, 144, 2, 145, 146, 58, 59, 14, 60, 61, 62, 63, 64, 65, 51, 55, 66, 67, 68, 69, 52, 882, 883, 884, 885, 886, 887, 888, 889, 890, 891, 892, 918, 919, 920, 921, 922, 923, 924, 925, 926, 927, 928, 929, 930] (by decide +kernel) (by decide +kernel)
set_option maxRecDepth 20000 in
theorem gL_law_X9_windows : GoodIn wsL_law (wsV RL 13 RX9 yX9_windows wsX9_windows) := goodIn_app (goodIn_of _ (by decide +kernel)) ggL_law_X9_windows
set_option maxRecDepth 20000 in
theorem ggL_law_X10_windows : GoodIn wsL_law wsX10_windows := goodIn_r _ [150, 115, 151, 152, 5, 153, 131, 132, 133, 134, 117, 135, 136, 137, 116, 120, 893, 894, 895, 896, 897, 898, 899, 900, 901, 902, 903, 904, 905, 906, 907, 908, 909, 910, 911, 912, 913, 914, 915, 916, 917] (by decide +kernel) (by decide +kernel)
set_option maxRecDepth 20000 in
theorem gL_law_X10_windows : GoodIn wsL_law (wsV RL 17 RX10 yX10_windows wsX10_windows) := goodIn_app (goodIn_of _ (by decide +kernel)) ggL_law_X10_windows
set_option maxRecDepth 20000 in
theorem ggL_law_X9_gap : GoodIn wsL_law wsX9_gap := goodIn_r _ [157, 15, 158, 159, 160, 161, 14, 162, 61, 143, 144, 2, 145, 163, 67, 68, 69, 51, 52, 882, 883, 884, 885, 886, 887, 888, 889, 890, 891, 892, 918, 919, 920, 921, 922, 923, 924, 925, 926, 927, 928, 929, 930] (by decide +kernel) (by decide +kernel)
set_option maxRecDepth 20000 in
theorem gL_law_X9_gap : GoodIn wsL_law (wsV RL 18 RX9 yX9_gap wsX9_gap) := goodIn_app (goodIn_of _ (by decide +kernel)) ggL_law_X9_gap
set_option maxRecDepth 20000 in
theorem ggL_law_X10_gap : GoodIn wsL_law wsX10_gap := goodIn_r _ [167, 116, 168, 169, 170, 5, 171, 115, 151, 152, 153, 893, 894, 895, 896, 897, 898, 899, 900, 901, 902, 903, 904, 905, 906, 907, 908, 909, 910, 911, 912, 913, 914, 915, 916, 917] (by decide +kernel) (by decide +kernel)
set_option maxRecDepth 20000 in
theorem gL_law_X10_gap : GoodIn wsL_law (wsV RL 22 RX10 yX10_gap wsX10_gap) := goodIn_app (goodIn_of _ (by decide +kernel)) ggL_law_X10_gap
set_option maxRecDepth 20000 in
theorem ggL_law_X9_set : GoodIn wsL_law wsX9_set := goodIn_r _ [175, 176, 177, 178, 2, 179, 15, 180, 143, 144, 145, 181, 182, 183, 184, 185, 186, 187, 188, 189, 190, 882, 883, 884, 885, 886, 887, 888, 889, 890, 891, 892, 918, 919, 920, 921, 922, 923, 924, 925, 926, 927, 928, 929, 930] (by decide +kernel) (by decide +kernel)
set_option maxRecDepth 20000 in
theorem gL_law_X9_set : GoodIn wsL_law (wsV RL 23 RX9 yX9_set wsX9_set) := goodIn_app (goodIn_of _ (by decide +kernel)) ggL_law_X9_set
set_option maxRecDepth 20000 in
theorem ggL_law_X10_set : GoodIn wsL_law wsX10_set := goodIn_r _ [194, 117, 118, 119, 151, 152, 5, 153, 893, 894, 895, 896, 897, 898, 899, 900, 901, 902, 903, 904, 905, 906, 907, 908, 909, 910, 911, 912, 913, 914, 915, 916, 917] (by decide +kernel) (by decide +kernel)
set_option maxRecDepth 20000 in
theorem gL_law_X10_set : GoodIn wsL_law (wsV RL 26 RX10 yX10_set wsX10_set) := goodIn_app (goodIn_of _ (by decide +kernel)) ggL_law_X10_set
set_option maxRecDepth 20000 in
theorem ggL_law_X9_say : GoodIn wsL_law wsX9_say := goodIn_r _ [198, 23, 199, 143, 144, 2, 145, 200, 201, 202, 22, 203, 74, 75, 882, 883, 884, 885, 886, 887, 888, 889, 890, 891, 892, 931, 932] (by decide +kernel) (by decide +kernel)
set_option maxRecDepth 20000 in
theorem gL_law_X9_say : GoodIn wsL_law (wsV RL 27 RX9 yX9_say wsX9_say) := goodIn_app (goodIn_of _ (by decide +kernel)) ggL_law_X9_say
set_option maxRecDepth 20000 in
theorem ggL_law_X10_say : GoodIn wsL_law wsX10_say := goodIn_r _ [207, 208, 122, 151, 152, 5, 153, 893, 894, 895, 896, 897, 898, 899, 900, 901, 902, 903, 904, 905, 906, 907, 908, 909, 910, 911, 912, 913, 914, 915, 916, 917] (by decide +kernel) (by decide +kernel)
set_option maxRecDepth 20000 in
theorem gL_law_X10_say : GoodIn wsL_law (wsV RL 30 RX10 yX10_say wsX10_say) := goodIn_app (goodIn_of _ (by decide +kernel)) ggL_law_X10_say
set_option maxRecDepth 20000 in
theorem ggL_law_X9_wipe : GoodIn wsL_law wsX9_wipe := goodIn_r _ [212, 23, 213, 214, 215, 22, 216, 74, 882, 883, 884, 885, 886, 887, 888, 889, 890, 891, 892, 931, 932] (by decide +kernel) (by decide +kernel)
set_option maxRecDepth 20000 in
theorem gL_law_X9_wipe : GoodIn wsL_law (wsV RL 31 RX9 yX9_wipe wsX9_wipe) := goodIn_app (goodIn_of _ (by decide +kernel)) ggL_law_X9_wipe
set_option maxRecDepth 20000 in
theorem ggL_law_X10_wipe : GoodIn wsL_law wsX10_wipe := goodIn_r _ [220, 208, 893, 894, 895, 896, 897, 898, 899, 900, 901, 902, 903, 904, 905, 906, 907, 908, 909, 910, 911, 912, 913, 914, 915, 916, 917] (by decide +kernel) (by decide +kernel)
set_option maxRecDepth 20000 in
theorem gL_law_X10_wipe : GoodIn wsL_law (wsV RL 35 RX10 yX10_wipe wsX10_wipe) := goodIn_app (goodIn_of _ (by decide +kernel)) ggL_law_X10_wipe
set_option maxRecDepth 20000 in
theorem ggL_law_X9_fault : GoodIn wsL_law wsX9_fault := goodIn_r _ [224, 23, 15, 142, 143, 144, 2, 145, 225, 226, 227, 22, 228, 74, 229, 230, 231, 232, 75, 233, 234, 235, 236, 237, 238, 239, 240, 241, 242, 243, 244, 245, 246, 247, 882, 883, 884, 885, 886, 887, 888, 889, 890, 891, 892, 918, 919, 920, 921, 922, 923, 924, 925, 926, 927, 928, 929, 930, 931, 932] (by decide +kernel) (by decide +kernel)
set_option maxRecDepth 20000 in
theorem gL_law_X9_fault : GoodIn wsL_law (wsV RL 36 RX9 yX9_fault wsX9_fault) := goodIn_app (goodIn_of _ (by decide +kernel)) ggL_law_X9_fault
set_option maxRecDepth 20000 in
theorem ggL_law_X10_fault : GoodIn wsL_law wsX10_fault := goodIn_r _ [251, 252, 253, 254, 5, 255, 208, 122, 168, 169, 170, 171, 115, 151, 152, 153, 256, 257, 258, 259, 893, 894, 895, 896, 897, 898, 899, 900, 901, 902, 903, 904, 905, 906, 907, 908, 909, 910, 911, 912, 913, 914, 915, 916, 917] (by decide +kernel) (by decide +kernel)
set_option maxRecDepth 20000 in
theorem gL_law_X10_fault : GoodIn wsL_law (wsV RL 39 RX10 yX10_fault wsX10_fault) := goodIn_app (goodIn_of _ (by decide +kernel)) ggL_law_X10_fault
set_option maxRecDepth 20000 in
theorem ggL_law_X9_judge : GoodIn wsL_law wsX9_judge := goodIn_r _ [263, 23, 15, 142, 27, 264, 265, 143, 144, 2, 145, 225, 226, 227, 22, 228, 74, 229, 230, 231, 232, 75, 233, 234, 235, 266, 267, 268, 26, 269, 270, 271, 272, 273, 274, 275, 276, 81, 82, 277, 278, 279, 280, 281, 14, 282, 61, 62, 48, 49, 63, 64, 65, 51, 55, 53, 54, 66, 67, 68, 69, 52, 283, 284, 285, 286, 287, 288, 289, 290, 291, 292, 293, 294, 295, 296, 297, 298, 299, 300, 301, 302, 303, 304, 305, 306, 307, 308, 309, 310, 311, 312, 313, 314, 315, 316, 317, 318, 319, 320, 321, 322, 323, 56, 324, 160, 161, 162, 325, 326, 327, 328, 329, 330, 331, 332, 333, 334, 335, 336, 337, 338, 339, 340, 341, 882, 883, 884, 885, 886, 887, 888, 889, 890, 891, 892, 918, 919, 920, 921, 922, 923, 924, 925, 926, 927, 928, 929, 930, 933, 934, 935, 936, 937, 938, 931, 932] (by decide +kernel) (by decide +kernel)
set_option maxRecDepth 20000 in
theorem gL_law_X9_judge : GoodIn wsL_law (wsV RL 40 RX9 yX9_judge wsX9_judge) := goodIn_app (goodIn_of _ (by decide +kernel)) ggL_law_X9_judge
set_option maxRecDepth 20000 in
theorem ggL_law_X10_judge : GoodIn wsL_law wsX10_judge := goodIn_r _ [345, 346, 151, 152, 5, 153, 252, 253, 254, 255, 208, 122, 168, 169, 170, 171, 115, 347, 348, 349, 350, 136, 351, 135, 352, 353, 354, 355, 356, 357, 358, 359, 360, 361, 362, 363, 364, 365, 366, 367, 368, 369, 370, 371, 372, 373, 374, 375, 376, 377, 378, 379, 380, 381, 117, 382, 383, 384, 385, 116, 386, 387, 388, 389, 118, 390, 391, 392, 893, 894, 895, 896, 897, 898, 899, 900, 901, 902, 903, 904, 905, 906, 907, 908, 909, 910, 911, 912, 913, 914, 915, 916, 917] (by decide +kernel) (by decide +kernel)
set_option maxRecDepth 20000 in
theorem gL_law_X10_judge : GoodIn wsL_law (wsV RL 43 RX10 yX10_judge wsX10_judge) := goodIn_app (goodIn_of _ (by decide +kernel)) ggL_law_X10_judge
set_option maxRecDepth 20000 in
theorem ggL_law_X9_done : GoodIn wsL_law wsX9_done := goodIn_r _ [396, 15, 27, 397, 398, 399, 23, 400, 401, 402, 2, 403, 142, 264, 225, 226, 227, 22, 228, 74, 229, 230, 231, 232, 75, 233, 234, 235, 266, 267, 268, 26, 269, 270, 271, 272, 273, 274, 275, 276, 81, 82, 277, 278, 279, 280, 281, 14, 282, 61, 62, 48, 49, 63, 64, 65, 51, 55, 53, 54, 66, 67, 68, 69, 52, 283, 284, 285, 286, 287, 288, 289, 290, 291, 292, 293, 294, 295, 296, 297, 298, 299, 300, 301, 302, 303, 304, 305, 306, 307, 308, 309, 310, 311, 312, 313, 314, 315, 316, 317, 318, 319, 320, 321, 322, 323, 56, 324, 160, 161, 162, 325, 326, 327, 328, 329, 330, 331, 332, 333, 334, 335, 336, 337, 338, 339, 340, 341, 213, 214, 215, 216, 882, 883, 884, 885, 886, 887, 888, 889, 890, 891, 892, 933, 934, 935, 936, 937, 938, 918, 919, 920, 921, 922, 923, 924, 925, 926, 927, 928, 929, 930, 931, 932] (by decide +kernel) (by decide +kernel)
set_option maxRecDepth 20000 in
theorem gL_law_X9_done : GoodIn wsL_law (wsV RL 44 RX9 yX9_done wsX9_done) := goodIn_app (goodIn_of _ (by decide +kernel)) ggL_law_X9_done
set_option maxRecDepth 20000 in
theorem ggL_law_X10_done : GoodIn wsL_law wsX10_done := goodIn_r _ [407, 351, 136, 352, 135, 208, 355, 408, 409, 410, 5, 411, 252, 253, 254, 255, 122, 168, 169, 170, 171, 115, 151, 152, 153, 347, 348, 349, 350, 353, 354, 346, 356, 357, 358, 359, 360, 361, 362, 363, 364, 365, 366, 367, 368, 369, 370, 371, 372, 373, 374, 375, 376, 377, 378, 379, 380, 381, 117, 382, 383, 384, 385, 116, 386, 387, 388, 389, 118, 390, 391, 392, 893, 894, 895, 896, 897, 898, 899, 900, 901, 902, 903, 904, 905, 906, 907, 908, 909, 910, 911, 912, 913, 914, 915, 916, 917] (by decide +kernel) (by decide +kernel)
set_option maxRecDepth 20000 in
theorem gL_law_X10_done : GoodIn wsL_law (wsV RL 47 RX10 yX10_done wsX10_done) := goodIn_app (goodIn_of _ (by decide +kernel)) ggL_law_X10_done
set_option maxRecDepth 20000 in
theorem ggL_law_X9_hears : GoodIn wsL_law wsX9_hears := goodIn_r _ [415, 15, 398, 159, 160, 161, 14, 162, 61, 416, 417, 418, 419, 52, 324, 325, 326, 327, 328, 62, 63, 882, 883, 884, 885, 886, 887, 888, 889, 890, 891, 892, 918, 919, 920, 921, 922, 923, 924, 925, 926, 927, 928, 929, 930] (by decide +kernel) (by decide +kernel)
set_option maxRecDepth 20000 in
theorem gL_law_X9_hears : GoodIn wsL_law (wsV RL 48 RX9 yX9_hears wsX9_hears) := goodIn_app (goodIn_of _ (by decide +kernel)) ggL_law_X9_hears
set_option maxRecDepth 20000 in
theorem ggL_law_X10_hears : GoodIn wsL_law wsX10_hears := goodIn_r _ [423, 136, 135, 168, 169, 170, 5, 171, 115, 151, 152, 153, 378, 379, 380, 381, 117, 382, 383, 384, 385, 116, 360, 361, 362, 893, 894, 895, 896, 897, 898, 899, 900, 901, 902, 903, 904, 905, 906, 907, 908, 909, 910, 911, 912, 913, 914, 915, 916, 917] (by decide +kernel) (by decide +kernel)
set_option maxRecDepth 20000 in
theorem gL_law_X10_hears : GoodIn wsL_law (wsV RL 51 RX10 yX10_hears wsX10_hears) := goodIn_app (goodIn_of _ (by decide +kernel)) ggL_law_X10_hears
set_option maxRecDepth 20000 in
theorem ggL_law_X9_behind : GoodIn wsL_law wsX9_behind := goodIn_r _ [427, 15, 27, 397, 398, 159, 160, 161, 14, 162, 61, 400, 401, 402, 2, 403, 23, 142, 264, 225, 226, 227, 22, 228, 74, 229, 230, 231, 232, 75, 233, 234, 235, 266, 267, 268, 26, 269, 270, 271, 272, 273, 274, 275, 276, 81, 82, 277, 278, 279, 280, 281, 282, 62, 48, 49, 63, 64, 65, 51, 55, 53, 54, 66, 67, 68, 69, 52, 283, 284, 285, 286, 287, 288, 289, 290, 291, 292, 293, 294, 295, 296, 297, 298, 299, 300, 301, 302, 303, 304, 305, 306, 307, 308, 309, 310, 311, 312, 313, 314, 315, 316, 317, 318, 319, 320, 321, 322, 323, 56, 324, 325, 326, 327, 328, 329, 330, 331, 332, 333, 334, 335, 336, 337, 338, 339, 340, 341, 416, 417, 418, 419, 882, 883, 884, 885, 886, 887, 888, 889, 890, 891, 892, 933, 934, 935, 936, 937, 938, 918, 919, 920, 921, 922, 923, 924, 925, 926, 927, 928, 929, 930, 931, 932] (by decide +kernel) (by decide +kernel)
set_option maxRecDepth 20000 in
theorem gL_law_X9_behind : GoodIn wsL_law (wsV RL 52 RX9 yX9_behind wsX9_behind) := goodIn_app (goodIn_of _ (by decide +kernel)) ggL_law_X9_behind
set_option maxRecDepth 20000 in
theorem ggL_law_X10_behind : GoodIn wsL_law wsX10_behind := goodIn_r _ [431, 351, 352, 168, 169, 170, 5, 171, 115, 151, 152, 153, 408, 409, 410, 411, 252, 253, 254, 255, 208, 122, 347, 348, 349, 350, 136, 135, 353, 354, 355, 346, 356, 357, 358, 359, 360, 361, 362, 363, 364, 365, 366, 367, 368, 369, 370, 371, 372, 373, 374, 375, 376, 377, 378, 379, 380, 381, 117, 382, 383, 384, 385, 116, 386, 387, 388, 389, 118, 390, 391, 392, 893, 894, 895, 896, 897, 898, 899, 900, 901, 902, 903, 904, 905, 906, 907, 908, 909, 910, 911, 912, 913, 914, 915, 916, 917] (by decide +kernel) (by decide +kernel)
set_option maxRecDepth 20000 in
theorem gL_law_X10_behind : GoodIn wsL_law (wsV RL 55 RX10 yX10_behind wsX10_behind) := goodIn_app (goodIn_of _ (by decide +kernel)) ggL_law_X10_behind
set_option maxRecDepth 20000 in
theorem ggL_law_X9_clashed : GoodIn wsL_law wsX9_clashed := goodIn_r _ [435, 27, 436, 437, 143, 144, 2, 145, 400, 401, 402, 403, 23, 15, 142, 264, 225, 226, 227, 22, 228, 74, 229, 230, 231, 232, 75, 233, 234, 235, 266, 267, 268, 26, 269, 270, 271, 272, 273, 274, 275, 276, 81, 82, 277, 278, 279, 280, 281, 14, 282, 61, 62, 48, 49, 63, 64, 65, 51, 55, 53, 54, 66, 67, 68, 69, 52, 283, 284, 285, 286, 287, 288, 289, 290, 291, 292, 293, 294, 295, 296, 297, 298, 299, 300, 301, 302, 303, 304, 305, 306, 307, 308, 309, 310, 311, 312, 313, 314, 315, 316, 317, 318, 319, 320, 321, 322, 323, 56, 324, 160, 161, 162, 325, 326, 327, 328, 329, 330, 331, 332, 333, 334, 335, 336, 337, 338, 339, 340, 341, 882, 883, 884, 885, 886, 887, 888, 889, 890, 891, 892, 933, 934, 935, 936, 937, 938, 918, 919, 920, 921, 922, 923, 924, 925, 926, 927, 928, 929, 930, 931, 932] (by decide +kernel) (by decide +kernel)
set_option maxRecDepth 20000 in
theorem gL_law_X9_clashed : GoodIn wsL_law (wsV RL 56 RX9 yX9_clashed wsX9_clashed) := goodIn_app (goodIn_of _ (by decide +kernel)) ggL_law_X9_clashed
set_option maxRecDepth 20000 in
theorem ggL_law_X10_clashed : GoodIn wsL_law wsX10_clashed := goodIn_r _ [441, 354, 353, 151, 152, 5, 153, 408, 409, 410, 411, 252, 253, 254, 255, 208, 122, 168, 169, 170, 171, 115, 347, 348, 349, 350, 136, 351, 135, 352, 355, 346, 356, 357, 358, 359, 360, 361, 362, 363, 364, 365, 366, 367, 368, 369, 370, 371, 372, 373, 374, 375, 376, 377, 378, 379, 380, 381, 117, 382, 383, 384, 385, 116, 386, 387, 388, 389, 118, 390, 391, 392, 893, 894, 895, 896, 897, 898, 899, 900, 901, 902, 903, 904, 905, 906, 907, 908, 909, 910, 911, 912, 913, 914, 915, 916, 917] (by decide +kernel) (by decide +kernel)
set_option maxRecDepth 20000 in
theorem gL_law_X10_clashed : GoodIn wsL_law (wsV RL 59 RX10 yX10_clashed wsX10_clashed) := goodIn_app (goodIn_of _ (by decide +kernel)) ggL_law_X10_clashed
set_option maxRecDepth 20000 in
theorem ggL_law_X9_interval : GoodIn wsL_law wsX9_interval := goodIn_r _ [445, 446, 447, 15, 398, 448, 334, 335, 336, 449, 338, 339, 450, 451, 452, 2, 453, 159, 160, 161, 14, 162, 61, 143, 144, 145, 416, 417, 418, 419, 52, 324, 325, 326, 327, 328, 62, 63, 454, 455, 456, 457, 340, 341, 882, 883, 884, 885, 886, 887, 888, 889, 890, 891, 892, 918, 919, 920, 921, 922, 923, 924, 925, 926, 927, 928, 929, 930] (by decide +kernel) (by decide +kernel)
set_option maxRecDepth 20000 in
theorem gL_law_X9_interval : GoodIn wsL_law (wsV RL 60 RX9 yX9_interval wsX9_interval) := goodIn_app (goodIn_of _ (by decide +kernel)) ggL_law_X9_interval
set_option maxRecDepth 20000 in
theorem ggL_law_X10_interval : GoodIn wsL_law wsX10_interval := goodIn_r _ [461, 462, 463, 136, 135, 464, 465, 466, 5, 467, 168, 169, 170, 171, 115, 151, 152, 153, 378, 379, 380, 381, 117, 382, 383, 384, 385, 116, 360, 361, 362, 390, 391, 392, 893, 894, 895, 896, 897, 898, 899, 900, 901, 902, 903, 904, 905, 906, 907, 908, 909, 910, 911, 912, 913, 914, 915, 916, 917] (by decide +kernel) (by decide +kernel)
set_option maxRecDepth 20000 in
theorem gL_law_X10_interval : GoodIn wsL_law (wsV RL 64 RX10 yX10_interval wsX10_interval) := goodIn_app (goodIn_of _ (by decide +kernel)) ggL_law_X10_interval
set_option maxRecDepth 20000 in
theorem ggL_law_X9_heard : GoodIn wsL_law wsX9_heard := goodIn_r _ [471, 143, 144, 2, 145, 472, 473, 474, 475, 15, 142, 476, 477, 478, 479, 398, 416, 417, 418, 14, 419, 52, 61, 324, 160, 161, 162, 325, 326, 327, 328, 62, 63, 480, 481, 482, 483, 882, 883, 884, 885, 886, 887, 888, 889, 890, 891, 892, 918, 919, 920, 921, 922, 923, 924, 925, 926, 927, 928, 929, 930] (by decide +kernel) (by decide +kernel)
set_option maxRecDepth 20000 in
theorem gL_law_X9_heard : GoodIn wsL_law (wsV RL 65 RX9 yX9_heard wsX9_heard) := goodIn_app (goodIn_of _ (by decide +kernel)) ggL_law_X9_heard
set_option maxRecDepth 20000 in
theorem ggL_law_X10_heard : GoodIn wsL_law wsX10_heard := goodIn_r _ [487, 115, 136, 135, 151, 152, 5, 153, 378, 379, 380, 381, 117, 382, 383, 384, 385, 116, 360, 361, 362, 893, 894, 895, 896, 897, 898, 899, 900, 901, 902, 903, 904, 905, 906, 907, 908, 909, 910, 911, 912, 913, 914, 915, 916, 917] (by decide +kernel) (by decide +kernel)
set_option maxRecDepth 20000 in
theorem gL_law_X10_heard : GoodIn wsL_law (wsV RL 68 RX10 yX10_heard wsX10_heard) := goodIn_app (goodIn_of _ (by decide +kernel)) ggL_law_X10_heard
set_option maxRecDepth 20000 in
theorem ggL_law_X9_stopped : GoodIn wsL_law wsX9_stopped := goodIn_r _ [491, 15, 159, 160, 161, 14, 162, 61, 143, 144, 2, 145, 492, 493, 30, 494, 495, 496, 312, 313, 314, 497, 305, 306, 307, 308, 309, 310, 498, 417, 418, 419, 52, 324, 325, 326, 327, 328, 62, 63, 499, 500, 501, 502, 882, 883, 884, 885, 886, 887, 888, 889, 890, 891, 892, 918, 919, 920, 921, 922, 923, 924, 925, 926, 927, 928, 929, 930] (by decide +kernel) (by decide +kernel)
set_option maxRecDepth 20000 in
theorem gL_law_X9_stopped : GoodIn wsL_law (wsV RL 69 RX9 yX9_stopped wsX9_stopped) := goodIn_app (goodIn_of _ (by decide +kernel)) ggL_law_X9_stopped
set_option maxRecDepth 20000 in
theorem ggL_law_X10_stopped : GoodIn wsL_law wsX10_stopped := goodIn_r _ [506, 168, 169, 170, 5, 171, 115, 151, 152, 153, 507, 508, 509, 510, 135, 511, 512, 513, 514, 363, 364, 365, 366, 367, 368, 369, 378, 379, 380, 381, 117, 382, 383, 384, 385, 116, 360, 361, 362, 893, 894, 895, 896, 897, 898, 899, 900, 901, 902, 903, 904, 905, 906, 907, 908, 909, 910, 911, 912, 913, 914, 915, 916, 917] (by decide +kernel) (by decide +kernel)
set_option maxRecDepth 20000 in
theorem gL_law_X10_stopped : GoodIn wsL_law (wsV RL 73 RX10 yX10_stopped wsX10_stopped) := goodIn_app (goodIn_of _ (by decide +kernel)) ggL_law_X10_stopped
set_option maxRecDepth 20000 in
theorem ggL_law_X9_friends : GoodIn wsL_law wsX9_friends := goodIn_r _ [518, 15, 450, 451, 452, 2, 453, 159, 160, 161, 14, 162, 61, 143, 144, 145, 492, 493, 30, 494, 495, 496, 312, 313, 314, 497, 305, 306, 307, 308, 309, 310, 498, 417, 418, 419, 52, 324, 325, 326, 327, 328, 62, 63, 499, 500, 501, 502, 882, 883, 884, 885, 886, 887, 888, 889, 890, 891, 892, 918, 919, 920, 921, 922, 923, 924, 925, 926, 927, 928, 929, 930] (by decide +kernel) (by decide +kernel)
set_option maxRecDepth 20000 in
theorem gL_law_X9_friends : GoodIn wsL_law (wsV RL 74 RX9 yX9_friends wsX9_friends) := goodIn_app (goodIn_of _ (by decide +kernel)) ggL_law_X9_friends
set_option maxRecDepth 20000 in
theorem ggL_law_X10_friends : GoodIn wsL_law wsX10_friends := goodIn_r _ [522, 464, 465, 466, 5, 467, 168, 169, 170, 171, 115, 151, 152, 153, 507, 508, 509, 510, 135, 511, 512, 513, 514, 363, 364, 365, 366, 367, 368, 369, 378, 379, 380, 381, 117, 382, 383, 384, 385, 116, 360, 361, 362, 893, 894, 895, 896, 897, 898, 899, 900, 901, 902, 903, 904, 905, 906, 907, 908, 909, 910, 911, 912, 913, 914, 915, 916, 917] (by decide +kernel) (by decide +kernel)
set_option maxRecDepth 20000 in
theorem gL_law_X10_friends : GoodIn wsL_law (wsV RL 78 RX10 yX10_friends wsX10_friends) := goodIn_app (goodIn_of _ (by decide +kernel)) ggL_law_X10_friends
set_option maxRecDepth 20000 in
theorem ggL_law_X9_changes : GoodIn wsL_law wsX9_changes := goodIn_r _ [526, 15, 23, 31, 527, 528, 159, 160, 161, 14, 162, 61, 143, 144, 2, 145, 236, 237, 238, 22, 239, 74, 240, 241, 242, 243, 229, 230, 231, 232, 75, 244, 245, 246, 247, 529, 530, 531, 30, 532, 495, 533, 338, 335, 339, 88, 89, 534, 535, 536, 301, 302, 303, 304, 305, 306, 307, 308, 309, 310, 311, 312, 313, 314, 498, 417, 418, 419, 52, 324, 325, 326, 327, 328, 62, 63, 537, 538, 539, 540, 541, 542, 543, 544, 545, 546, 547, 548, 549, 550, 551, 552, 553, 554, 555, 556, 557, 91, 558, 882, 883, 884, 885, 886, 887, 888, 889, 890, 891, 892, 939, 940, 941, 942, 943, 944, 945, 918, 919, 920, 921, 922, 923, 924, 925, 926, 927, 928, 929, 930, 931, 932] (by decide +kernel) (by decide +kernel)
set_option maxRecDepth 20000 in
theorem gL_law_X9_changes : GoodIn wsL_law (wsV RL 79 RX9 yX9_changes wsX9_changes) := goodIn_app (goodIn_of _ (by decide +kernel)) ggL_law_X9_changes
set_option maxRecDepth 20000 in
theorem ggL_law_X10_changes : GoodIn wsL_law wsX10_changes := goodIn_r _ [562, 115, 123, 136, 563, 208, 124, 135, 168, 169, 170, 5, 171, 151, 152, 153, 256, 257, 258, 259, 122, 564, 565, 566, 567, 511, 512, 513, 514, 363, 364, 365, 366, 367, 368, 369, 378, 379, 380, 381, 117, 382, 383, 384, 385, 116, 360, 361, 362, 893, 894, 895, 896, 897, 898, 899, 900, 901, 902, 903, 904, 905, 906, 907, 908, 909, 910, 911, 912, 913, 914, 915, 916, 917] (by decide +kernel) (by decide +kernel)
set_option maxRecDepth 20000 in
theorem gL_law_X10_changes : GoodIn wsL_law (wsV RL 82 RX10 yX10_changes wsX10_changes) := goodIn_app (goodIn_of _ (by decide +kernel)) ggL_law_X10_changes
set_option maxRecDepth 20000 in
theorem ggL_law_X9_shifts : GoodIn wsL_law wsX9_shifts := goodIn_r _ [571, 23, 31, 15, 450, 451, 452, 2, 453, 159, 160, 161, 14, 162, 61, 236, 237, 238, 22, 239, 74, 240, 241, 242, 243, 229, 230, 231, 232, 75, 244, 245, 246, 247, 572, 573, 574, 30, 575, 576, 577, 578, 579, 580, 581, 90, 495, 536, 301, 302, 303, 304, 305, 306, 307, 308, 309, 310, 311, 312, 313, 314, 498, 417, 418, 419, 52, 324, 325, 326, 327, 328, 62, 63, 582, 583, 584, 585, 537, 538, 539, 540, 586, 587, 588, 589, 549, 882, 883, 884, 885, 886, 887, 888, 889, 890, 891, 892, 918, 919, 920, 921, 922, 923, 924, 925, 926, 927, 928, 929, 930, 931, 932, 939, 940, 941, 942, 943, 944, 945] (by decide +kernel) (by decide +kernel)
set_option maxRecDepth 20000 in
theorem gL_law_X9_shifts : GoodIn wsL_law (wsV RL 83 RX9 yX9_shifts wsX9_shifts) := goodIn_app (goodIn_of _ (by decide +kernel)) ggL_law_X9_shifts
set_option maxRecDepth 20000 in
theorem ggL_law_X10_shifts : GoodIn wsL_law wsX10_shifts := goodIn_r _ [593, 208, 464, 465, 466, 5, 467, 168, 169, 170, 171, 115, 151, 152, 153, 256, 257, 258, 259, 122, 564, 565, 566, 567, 507, 508, 509, 510, 135, 511, 512, 513, 514, 363, 364, 365, 366, 367, 368, 369, 378, 379, 380, 381, 117, 382, 383, 384, 385, 116, 360, 361, 362, 893, 894, 895, 896, 897, 898, 899, 900, 901, 902, 903, 904, 905, 906, 907, 908, 909, 910, 911, 912, 913, 914, 915, 916, 917] (by decide +kernel) (by decide +kernel)
set_option maxRecDepth 20000 in
theorem gL_law_X10_shifts : GoodIn wsL_law (wsV RL 86 RX10 yX10_shifts wsX10_shifts) := goodIn_app (goodIn_of _ (by decide +kernel)) ggL_law_X10_shifts
set_option maxRecDepth 20000 in
theorem ggL_law_X9_seen : GoodIn wsL_law wsX9_seen := goodIn_r _ [597, 15, 598, 159, 160, 161, 14, 162, 61, 143, 144, 2, 145, 599, 600, 601, 602, 65, 53, 54, 882, 883, 884, 885, 886, 887, 888, 889, 890, 891, 892, 918, 919, 920, 921, 922, 923, 924, 925, 926, 927, 928, 929, 930] (by decide +kernel) (by decide +kernel)
set_option maxRecDepth 20000 in
theorem gL_law_X9_seen : GoodIn wsL_law (wsV RL 87 RX9 yX9_seen wsX9_seen) := goodIn_app (goodIn_of _ (by decide +kernel)) ggL_law_X9_seen
set_option maxRecDepth 20000 in
theorem ggL_law_X10_seen : GoodIn wsL_law wsX10_seen := goodIn_r _ [606, 137, 121, 168, 169, 170, 5, 171, 115, 151, 152, 153, 893, 894, 895, 896, 897, 898, 899, 900, 901, 902, 903, 904, 905, 906, 907, 908, 909, 910, 911, 912, 913, 914, 915, 916, 917] (by decide +kernel) (by decide +kernel)
set_option maxRecDepth 20000 in
theorem gL_law_X10_seen : GoodIn wsL_law (wsV RL 90 RX10 yX10_seen wsX10_seen) := goodIn_app (goodIn_of _ (by decide +kernel)) ggL_law_X10_seen
set_option maxRecDepth 20000 in
theorem ggL_law_X9_forget : GoodIn wsL_law wsX9_forget := goodIn_r _ [610, 15, 598, 882, 883, 884, 885, 886, 887, 888, 889, 890, 891, 892, 918, 919, 920, 921, 922, 923, 924, 925, 926, 927, 928, 929, 930] (by decide +kernel) (by decide +kernel)
set_option maxRecDepth 20000 in
theorem gL_law_X9_forget : GoodIn wsL_law (wsV RL 91 RX9 yX9_forget wsX9_forget) := goodIn_app (goodIn_of _ (by decide +kernel)) ggL_law_X9_forget
set_option maxRecDepth 20000 in
theorem ggL_law_X10_forget : GoodIn wsL_law wsX10_forget := goodIn_r _ [614, 137, 893, 894, 895, 896, 897, 898, 899, 900, 901, 902, 903, 904, 905, 906, 907, 908, 909, 910, 911, 912, 913, 914, 915, 916, 917] (by decide +kernel) (by decide +kernel)
set_option maxRecDepth 20000 in
theorem gL_law_X10_forget : GoodIn wsL_law (wsV RL 94 RX10 yX10_forget wsX10_forget) := goodIn_app (goodIn_of _ (by decide +kernel)) ggL_law_X10_forget
set_option maxRecDepth 20000 in
theorem ggL_law_X9_fit : GoodIn wsL_law wsX9_fit := goodIn_r _ [618, 35, 15, 619, 143, 144, 2, 145, 620, 621, 622, 34, 623, 624, 625, 626, 338, 335, 339, 96, 627, 301, 302, 14, 303, 304, 305, 306, 307, 308, 309, 310, 311, 312, 313, 314, 61, 628, 629, 630, 631, 65, 53, 54, 632, 417, 418, 419, 52, 324, 160, 161, 162, 325, 326, 327, 328, 62, 63, 633, 634, 635, 636, 637, 638, 639, 640, 641, 642, 643, 644, 882, 883, 884, 885, 886, 887, 888, 889, 890, 891, 892, 946, 947, 948, 949, 950, 918, 919, 920, 921, 922, 923, 924, 925, 926, 927, 928, 929, 930] (by decide +kernel) (by decide +kernel)
set_option maxRecDepth 20000 in
theorem gL_law_X9_fit : GoodIn wsL_law (wsV RL 95 RX9 yX9_fit wsX9_fit) := goodIn_app (goodIn_of _ (by decide +kernel)) ggL_law_X9_fit
set_option maxRecDepth 20000 in
theorem ggL_law_X10_fit : GoodIn wsL_law wsX10_fit := goodIn_r _ [648, 115, 151, 152, 5, 153, 649, 650, 651, 652, 137, 121, 135, 511, 512, 513, 514, 363, 364, 365, 366, 367, 368, 369, 378, 379, 380, 381, 117, 382, 383, 384, 385, 116, 360, 361, 362, 893, 894, 895, 896, 897, 898, 899, 900, 901, 902, 903, 904, 905, 906, 907, 908, 909, 910, 911, 912, 913, 914, 915, 916, 917] (by decide +kernel) (by decide +kernel)
set_option maxRecDepth 20000 in
theorem gL_law_X10_fit : GoodIn wsL_law (wsV RL 98 RX10 yX10_fit wsX10_fit) := goodIn_app (goodIn_of _ (by decide +kernel)) ggL_law_X10_fit
set_option maxRecDepth 20000 in
theorem ggL_law_X9_ask : GoodIn wsL_law wsX9_ask := goodIn_r _ [656, 35, 15, 657, 658, 143, 144, 2, 145, 620, 621, 622, 34, 623, 624, 625, 626, 338, 335, 339, 96, 627, 301, 302, 14, 303, 304, 305, 306, 307, 308, 309, 310, 311, 312, 313, 314, 61, 628, 629, 630, 631, 65, 53, 54, 632, 417, 418, 419, 52, 324, 160, 161, 162, 325, 326, 327, 328, 62, 63, 659, 660, 661, 662, 98, 99, 663, 664, 665, 666, 667, 668, 669, 670, 97, 671, 334, 336, 672, 882, 883, 884, 885, 886, 887, 888, 889, 890, 891, 892, 946, 947, 948, 949, 950, 918, 919, 920, 921, 922, 923, 924, 925, 926, 927, 928, 929, 930] (by decide +kernel) (by decide +kernel)
set_option maxRecDepth 20000 in
theorem gL_law_X9_ask : GoodIn wsL_law (wsV RL 99 RX9 yX9_ask wsX9_ask) := goodIn_app (goodIn_of _ (by decide +kernel)) ggL_law_X9_ask
set_option maxRecDepth 20000 in
theorem ggL_law_X10_ask : GoodIn wsL_law wsX10_ask := goodIn_r _ [676, 563, 115, 137, 121, 125, 135, 151, 152, 5, 153, 649, 650, 651, 652, 511, 512, 513, 514, 363, 364, 365, 366, 367, 368, 369, 378, 379, 380, 381, 117, 382, 383, 384, 385, 116, 360, 361, 362, 893, 894, 895, 896, 897, 898, 899, 900, 901, 902, 903, 904, 905, 906, 907, 908, 909, 910, 911, 912, 913, 914, 915, 916, 917] (by decide +kernel) (by decide +kernel)
set_option maxRecDepth 20000 in
theorem gL_law_X10_ask : GoodIn wsL_law (wsV RL 102 RX10 yX10_ask wsX10_ask) := goodIn_app (goodIn_of _ (by decide +kernel)) ggL_law_X10_ask
set_option maxRecDepth 20000 in
theorem ggL_law_X9_borrow : GoodIn wsL_law wsX9_borrow := goodIn_r _ [680, 15, 681, 450, 451, 452, 2, 453, 159, 160, 161, 14, 162, 61, 143, 144, 145, 882, 883, 884, 885, 886, 887, 888, 889, 890, 891, 892, 918, 919, 920, 921, 922, 923, 924, 925, 926, 927, 928, 929, 930] (by decide +kernel) (by decide +kernel)
set_option maxRecDepth 20000 in
theorem gL_law_X9_borrow : GoodIn wsL_law (wsV RL 103 RX9 yX9_borrow wsX9_borrow) := goodIn_app (goodIn_of _ (by decide +kernel)) ggL_law_X9_borrow
set_option maxRecDepth 20000 in
theorem ggL_law_X10_borrow : GoodIn wsL_law wsX10_borrow := goodIn_r _ [685, 120, 464, 465, 466, 5, 467, 168, 169, 170, 171, 115, 151, 152, 153, 893, 894, 895, 896, 897, 898, 899, 900, 901, 902, 903, 904, 905, 906, 907, 908, 909, 910, 911, 912, 913, 914, 915, 916, 917] (by decide +kernel) (by decide +kernel)
set_option maxRecDepth 20000 in
theorem gL_law_X10_borrow : GoodIn wsL_law (wsV RL 106 RX10 yX10_borrow wsX10_borrow) := goodIn_app (goodIn_of _ (by decide +kernel)) ggL_law_X10_borrow
set_option maxRecDepth 20000 in
theorem ggL_law_X9_teas : GoodIn wsL_law wsX9_teas := goodIn_r _ [689, 39, 15, 690, 691, 692, 38, 693, 694, 695, 338, 335, 339, 105, 696, 697, 698, 699, 104, 700, 701, 334, 336, 882, 883, 884, 885, 886, 887, 888, 889, 890, 891, 892, 918, 919, 920, 921, 922, 923, 924, 925, 926, 927, 928, 929, 930, 951, 952] (by decide +kernel) (by decide +kernel)
set_option maxRecDepth 20000 in
theorem gL_law_X9_teas : GoodIn wsL_law (wsV RL 107 RX9 yX9_teas wsX9_teas) := goodIn_app (goodIn_of _ (by decide +kernel)) ggL_law_X9_teas
set_option maxRecDepth 20000 in
theorem ggL_law_X10_teas : GoodIn wsL_law wsX10_teas := goodIn_r _ [705, 115, 120, 126, 360, 361, 5, 362, 363, 364, 365, 893, 894, 895, 896, 897, 898, 899, 900, 901, 902, 903, 904, 905, 906, 907, 908, 909, 910, 911, 912, 913, 914, 915, 916, 917] (by decide +kernel) (by decide +kernel)
set_option maxRecDepth 20000 in
theorem gL_law_X10_teas : GoodIn wsL_law (wsV RL 110 RX10 yX10_teas wsX10_teas) := goodIn_app (goodIn_of _ (by decide +kernel)) ggL_law_X10_teas
set_option maxRecDepth 20000 in
theorem ggL_law_X9_feet : GoodIn wsL_law wsX9_feet := goodIn_r _ [709, 15, 142, 710, 711, 712, 2, 713, 398, 714, 301, 302, 14, 303, 304, 305, 306, 307, 308, 309, 310, 311, 312, 313, 314, 61, 416, 417, 418, 419, 52, 324, 160, 161, 162, 325, 326, 327, 328, 62, 63, 715, 716, 717, 718, 49, 882, 883, 884, 885, 886, 887, 888, 889, 890, 891, 892, 918, 919, 920, 921, 922, 923, 924, 925, 926, 927, 928, 929, 930] (by decide +kernel) (by decide +kernel)
set_option maxRecDepth 20000 in
theorem gL_law_X9_feet : GoodIn wsL_law (wsV RL 111 RX9 yX9_feet wsX9_feet) := goodIn_app (goodIn_of _ (by decide +kernel)) ggL_law_X9_feet
set_option maxRecDepth 20000 in
theorem ggL_law_X10_feet : GoodIn wsL_law wsX10_feet := goodIn_r _ [722, 115, 136, 511, 512, 513, 5, 514, 363, 364, 365, 366, 367, 368, 369, 723, 724, 725, 726, 135, 119, 378, 379, 380, 381, 117, 382, 383, 384, 385, 116, 360, 361, 362, 893, 894, 895, 896, 897, 898, 899, 900, 901, 902, 903, 904, 905, 906, 907, 908, 909, 910, 911, 912, 913, 914, 915, 916, 917] (by decide +kernel) (by decide +kernel)
set_option maxRecDepth 20000 in
theorem gL_law_X10_feet : GoodIn wsL_law (wsV RL 114 RX10 yX10_feet wsX10_feet) := goodIn_app (goodIn_of _ (by decide +kernel)) ggL_law_X10_feet
set_option maxRecDepth 20000 in
theorem ggL_law_X9_hooks : GoodIn wsL_law wsX9_hooks := goodIn_r _ [730, 731, 143, 144, 2, 145, 732, 733, 734, 735, 736, 305, 306, 307, 308, 309, 310, 737, 738, 739, 740, 741, 742, 743, 744, 745, 746, 499, 500, 501, 502] (by decide +kernel) (by decide +kernel)
set_option maxRecDepth 20000 in
theorem gL_law_X9_hooks : GoodIn wsL_law (wsV RL 115 RX9 yX9_hooks wsX9_hooks) := goodIn_app (goodIn_of _ (by decide +kernel)) ggL_law_X9_hooks
set_option maxRecDepth 20000 in
theorem ggL_law_X10_hooks : GoodIn wsL_law wsX10_hooks := goodIn_r _ [750, 751, 151, 152, 5, 153, 363, 364, 365, 752, 753, 754, 360, 361, 362] (by decide +kernel) (by decide +kernel)
set_option maxRecDepth 20000 in
theorem gL_law_X10_hooks : GoodIn wsL_law (wsV RL 118 RX10 yX10_hooks wsX10_hooks) := goodIn_app (goodIn_of _ (by decide +kernel)) ggL_law_X10_hooks
set_option maxRecDepth 20000 in
theorem ggL_law_X9_turns : GoodIn wsL_law wsX9_turns := goodIn_r _ [758, 43, 15, 143, 144, 2, 145, 759, 760, 761, 42, 762, 763, 764, 765, 338, 335, 339, 110, 766, 767, 768, 769, 770, 301, 302, 14, 303, 304, 305, 306, 307, 308, 309, 310, 311, 312, 313, 314, 61, 771, 321, 322, 323, 52, 56, 324, 160, 161, 162, 325, 326, 327, 328, 62, 63, 329, 330, 331, 332, 333, 334, 336, 48, 337, 340, 341, 772, 773, 774, 775, 882, 883, 884, 885, 886, 887, 888, 889, 890, 891, 892, 918, 919, 920, 921, 922, 923, 924, 925, 926, 927, 928, 929, 930, 953] (by decide +kernel) (by decide +kernel)
set_option maxRecDepth 20000 in
theorem gL_law_X9_turns : GoodIn wsL_law (wsV RL 119 RX9 yX9_turns wsX9_turns) := goodIn_app (goodIn_of _ (by decide +kernel)) ggL_law_X9_turns
set_option maxRecDepth 20000 in
theorem ggL_law_X10_turns : GoodIn wsL_law wsX10_turns := goodIn_r _ [779, 115, 128, 136, 151, 152, 5, 153, 780, 781, 782, 783, 135, 360, 361, 362, 511, 512, 513, 514, 363, 364, 365, 366, 367, 368, 369, 374, 375, 376, 377, 378, 379, 380, 381, 117, 382, 383, 384, 385, 116, 386, 387, 388, 389, 118, 390, 391, 392, 893, 894, 895, 896, 897, 898, 899, 900, 901, 902, 903, 904, 905, 906, 907, 908, 909, 910, 911, 912, 913, 914, 915, 916, 917] (by decide +kernel) (by decide +kernel)
set_option maxRecDepth 20000 in
theorem gL_law_X10_turns : GoodIn wsL_law (wsV RL 122 RX10 yX10_turns wsX10_turns) := goodIn_app (goodIn_of _ (by decide +kernel)) ggL_law_X10_turns
set_option maxRecDepth 20000 in
theorem ggL_law_X9_slips : GoodIn wsL_law wsX9_slips := goodIn_r _ [787, 15, 446, 447, 159, 160, 161, 14, 162, 61, 143, 144, 2, 145, 788, 789, 790, 791, 792, 793, 794, 795, 796, 417, 418, 419, 52, 324, 325, 326, 327, 328, 62, 63, 797, 798, 799, 800, 305, 306, 307, 308, 309, 310, 801, 802, 803, 804, 805, 806, 454, 455, 456, 457, 340, 341, 882, 883, 884, 885, 886, 887, 888, 889, 890, 891, 892, 918, 919, 920, 921, 922, 923, 924, 925, 926, 927, 928, 929, 930] (by decide +kernel) (by decide +kernel)
set_option maxRecDepth 20000 in
theorem gL_law_X9_slips : GoodIn wsL_law (wsV RL 123 RX9 yX9_slips wsX9_slips) := goodIn_app (goodIn_of _ (by decide +kernel)) ggL_law_X9_slips
set_option maxRecDepth 20000 in
theorem ggL_law_X10_slips : GoodIn wsL_law wsX10_slips := goodIn_r _ [810, 462, 463, 168, 169, 170, 5, 171, 115, 151, 152, 153, 811, 812, 813, 814, 136, 135, 360, 361, 362, 374, 375, 376, 377, 378, 379, 380, 381, 117, 382, 383, 384, 385, 116, 386, 387, 388, 389, 118, 390, 391, 392, 815, 816, 817, 818, 819, 363, 364, 365, 893, 894, 895, 896, 897, 898, 899, 900, 901, 902, 903, 904, 905, 906, 907, 908, 909, 910, 911, 912, 913, 914, 915, 916, 917] (by decide +kernel) (by decide +kernel)
set_option maxRecDepth 20000 in
theorem gL_law_X10_slips : GoodIn wsL_law (wsV RL 127 RX10 yX10_slips wsX10_slips) := goodIn_app (goodIn_of _ (by decide +kernel)) ggL_law_X10_slips
set_option maxRecDepth 20000 in
theorem ggL_law_X9_calm : GoodIn wsL_law wsX9_calm := goodIn_r _ [823, 447, 15, 143, 144, 2, 145, 824, 825, 790, 826, 792, 793, 794, 795, 827, 321, 322, 14, 323, 52, 61, 56, 324, 160, 161, 162, 325, 326, 327, 328, 62, 63, 329, 330, 331, 332, 333, 334, 335, 336, 48, 337, 338, 339, 340, 341, 797, 798, 799, 800, 305, 306, 307, 308, 309, 310, 801, 802, 803, 804, 805, 806, 454, 455, 456, 457, 882, 883, 884, 885, 886, 887, 888, 889, 890, 891, 892, 918, 919, 920, 921, 922, 923, 924, 925, 926, 927, 928, 929, 930] (by decide +kernel) (by decide +kernel)
set_option maxRecDepth 20000 in
theorem gL_law_X9_calm : GoodIn wsL_law (wsV RL 128 RX9 yX9_calm wsX9_calm) := goodIn_app (goodIn_of _ (by decide +kernel)) ggL_law_X9_calm
set_option maxRecDepth 20000 in
theorem ggL_law_X10_calm : GoodIn wsL_law wsX10_calm := goodIn_r _ [831, 463, 151, 152, 5, 153, 811, 812, 813, 814, 115, 136, 135, 360, 361, 362, 374, 375, 376, 377, 378, 379, 380, 381, 117, 382, 383, 384, 385, 116, 386, 387, 388, 389, 118, 390, 391, 392, 815, 816, 817, 818, 819, 363, 364, 365, 893, 894, 895, 896, 897, 898, 899, 900, 901, 902, 903, 904, 905, 906, 907, 908, 909, 910, 911, 912, 913, 914, 915, 916, 917] (by decide +kernel) (by decide +kernel)
set_option maxRecDepth 20000 in
theorem gL_law_X10_calm : GoodIn wsL_law (wsV RL 132 RX10 yX10_calm wsX10_calm) := goodIn_app (goodIn_of _ (by decide +kernel)) ggL_law_X10_calm
set_option maxRecDepth 20000 in
theorem ggL_law_X9_year : GoodIn wsL_law wsX9_year := goodIn_r _ [835, 27, 15, 437, 836, 397, 398, 143, 144, 2, 145, 837, 838, 839, 26, 840, 841, 278, 81, 319, 273, 274, 275, 276, 272, 271, 82, 277, 279, 280, 281, 14, 282, 61, 62, 48, 49, 63, 64, 65, 51, 55, 53, 54, 66, 67, 68, 69, 52, 842, 843, 844, 845, 846, 288, 289, 290, 291, 292, 293, 294, 295, 296, 297, 298, 299, 300, 301, 302, 303, 304, 305, 306, 307, 308, 309, 310, 311, 312, 313, 314, 315, 316, 317, 318, 320, 321, 322, 323, 56, 324, 160, 161, 162, 325, 326, 327, 328, 329, 330, 331, 332, 333, 334, 335, 336, 337, 338, 339, 340, 341, 847, 417, 418, 419, 882, 883, 884, 885, 886, 887, 888, 889, 890, 891, 892, 933, 934, 935, 936, 937, 938, 918, 919, 920, 921, 922, 923, 924, 925, 926, 927, 928, 929, 930] (by decide +kernel) (by decide +kernel)
set_option maxRecDepth 20000 in
theorem gL_law_X9_year : GoodIn wsL_law (wsV RL 133 RX9 yX9_year wsX9_year) := goodIn_app (goodIn_of _ (by decide +kernel)) ggL_law_X9_year
set_option maxRecDepth 20000 in
theorem ggL_law_X10_year : GoodIn wsL_law wsX10_year := goodIn_r _ [851, 136, 351, 135, 352, 852, 115, 151, 152, 5, 153, 356, 357, 358, 359, 360, 361, 362, 363, 364, 365, 366, 367, 368, 369, 370, 371, 372, 373, 374, 375, 376, 377, 378, 379, 380, 381, 117, 382, 383, 384, 385, 116, 386, 387, 388, 389, 118, 390, 391, 392, 893, 894, 895, 896, 897, 898, 899, 900, 901, 902, 903, 904, 905, 906, 907, 908, 909, 910, 911, 912, 913, 914, 915, 916, 917] (by decide +kernel) (by decide +kernel)
set_option maxRecDepth 20000 in
theorem gL_law_X10_year : GoodIn wsL_law (wsV RL 136 RX10 yX10_year wsX10_year) := goodIn_app (goodIn_of _ (by decide +kernel)) ggL_law_X10_year
set_option maxRecDepth 20000 in
theorem ggL_law_X9_image : GoodIn wsL_law wsX9_image := goodIn_r _ [856, 16, 15, 18, 17, 19, 143, 144, 2, 145, 857, 280, 281, 14, 282, 61, 62, 48, 49, 63, 64, 65, 51, 55, 53, 54, 66, 67, 68, 69, 52, 882, 883, 884, 885, 886, 887, 888, 889, 890, 891, 892, 918, 919, 920, 921, 922, 923, 924, 925, 926, 927, 928, 929, 930] (by decide +kernel) (by decide +kernel)
set_option maxRecDepth 20000 in
theorem gL_law_X9_image : GoodIn wsL_law (wsV RL 137 RX9 yX9_image wsX9_image) := goodIn_app (goodIn_of _ (by decide +kernel)) ggL_law_X9_image
set_option maxRecDepth 20000 in
theorem ggL_law_X10_image : GoodIn wsL_law wsX10_image := goodIn_r _ [861, 129, 116, 120, 121, 115, 117, 118, 119, 135, 136, 137, 130, 151, 152, 5, 153, 893, 894, 895, 896, 897, 898, 899, 900, 901, 902, 903, 904, 905, 906, 907, 908, 909, 910, 911, 912, 913, 914, 915, 916, 917] (by decide +kernel) (by decide +kernel)
set_option maxRecDepth 20000 in
theorem gL_law_X10_image : GoodIn wsL_law (wsV RL 140 RX10 yX10_image wsX10_image) := goodIn_app (goodIn_of _ (by decide +kernel)) ggL_law_X10_image
set_option maxRecDepth 20000 in
theorem ggL_law_X9_restore : GoodIn wsL_law wsX9_restore := goodIn_r _ [865, 18, 19, 15, 16, 17, 143, 144, 2, 145, 857, 280, 281, 14, 282, 61, 62, 48, 49, 63, 64, 65, 51, 55, 53, 54, 66, 67, 68, 69, 52, 882, 883, 884, 885, 886, 887, 888, 889, 890, 891, 892, 918, 919, 920, 921, 922, 923, 924, 925, 926, 927, 928, 929, 930] (by decide +kernel) (by decide +kernel)
set_option maxRecDepth 20000 in
theorem gL_law_X9_restore : GoodIn wsL_law (wsV RL 141 RX9 yX9_restore wsX9_restore) := goodIn_app (goodIn_of _ (by decide +kernel)) ggL_law_X9_restore
set_option maxRecDepth 20000 in
theorem ggL_law_X10_restore : GoodIn wsL_law wsX10_restore := goodIn_r _ [869, 130, 116, 129, 120, 121, 115, 117, 118, 119, 135, 136, 137, 151, 152, 5, 153, 893, 894, 895, 896, 897, 898, 899, 900, 901, 902, 903, 904, 905, 906, 907, 908, 909, 910, 911, 912, 913, 914, 915, 916, 917] (by decide +kernel) (by decide +kernel)
set_option maxRecDepth 20000 in
theorem gL_law_X10_restore : GoodIn wsL_law (wsV RL 144 RX10 yX10_restore wsX10_restore) := goodIn_app (goodIn_of _ (by decide +kernel)) ggL_law_X10_restore
set_option maxRecDepth 20000 in
theorem ggL_law_X9_told : GoodIn wsL_law wsX9_told := goodIn_r _ [873, 23, 199, 15, 142, 180, 185, 190, 399, 398, 598, 874, 875, 876, 2, 877, 158, 143, 144, 145, 882, 883, 884, 885, 886, 887, 888, 889, 890, 891, 892, 931, 932, 918, 919, 920, 921, 922, 923, 924, 925, 926, 927, 928, 929, 930] (by decide +kernel) (by decide +kernel)
set_option maxRecDepth 20000 in
theorem gL_law_X9_told : GoodIn wsL_law (wsV RL 145 RX9 yX9_told wsX9_told) := goodIn_app (goodIn_of _ (by decide +kernel)) ggL_law_X9_told
set_option maxRecDepth 20000 in
theorem ggL_law_X10_told : GoodIn wsL_law wsX10_told := goodIn_r _ [881, 116, 208, 115, 117, 118, 119, 135, 136, 137, 168, 169, 170, 5, 171, 151, 152, 153, 893, 894, 895, 896, 897, 898, 899, 900, 901, 902, 903, 904, 905, 906, 907, 908, 909, 910, 911, 912, 913, 914, 915, 916, 917] (by decide +kernel) (by decide +kernel)
set_option maxRecDepth 20000 in
theorem gL_law_X10_told : GoodIn wsL_law (wsV RL 148 RX10 yX10_told wsX10_told) := goodIn_app (goodIn_of _ (by decide +kernel)) ggL_law_X10_told
