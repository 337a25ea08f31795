set_option maxRecDepth 20000 in
theorem ggL_law_X4_init : GoodIn wsL_law wsX4_init := goodIn_r _ [10, 11, 12, 13, 14, 15, 16, 17, 18, 19, 20, 21, 22, 23, 24, 25, 26, 27, 28, 29, 30, 31, 32, 33, 34, 35, 36, 37, 38, 39, 40, 41, 42, 43, 44, 45, 46, 47, 48, 49, 50, 51, 52, 53, 54, 55, 56, 57, 58, 59, 60, 61, 62, 63, 64, 65, 66, 67, 68, 69, 70, 71, 72, 73, 74, 75, 76, 911, 912, 913, 914, 915, 916, 917, 918, 919, 920, 921, 922, 923, 924, 890, 891, 892, 893, 894, 895, 896, 925, 926, 927, 928, 929, 930, 931, 932, 933, 934, 935, 936, 937, 938, 939, 940, 941, 942, 943, 944, 945, 946, 947, 948, 949, 950] (by decide +kernel) (by decide +kernel)
set_option maxRecDepth 20000 in
theorem gL_law_X4_init : GoodIn wsL_law (wsX4_init) := ggL_law_X4_init
set_option maxRecDepth 20000 in
theorem ggL_law_X5_init : GoodIn wsL_law wsX5_init := goodIn_r _ [79, 80, 12, 13, 37, 81, 82, 83, 84, 85, 86, 24, 87, 88, 89, 90, 5, 91, 897, 898, 899, 900, 901, 902, 903, 904, 905, 906, 907, 908, 909, 910] (by decide +kernel) (by decide +kernel)
set_option maxRecDepth 20000 in
theorem gL_law_X5_init : GoodIn wsL_law (wsX5_init) := ggL_law_X5_init
set_option maxRecDepth 20000 in
theorem ggL_law_L_append : GoodIn wsL_law wsL_append := goodIn_ca (goodIn_ca (goodIn_r _ [95, 96, 97, 98, 99, 100, 2, 101, 102, 103, 104, 105, 33, 106, 107, 890, 891, 892, 893, 894, 895, 896, 941, 942, 943, 944, 945, 946, 947, 948, 949, 950] (by decide +kernel) (by decide +kernel)) (goodIn_sub (fun _ h => List.mem_append_left _ (List.mem_append_left _ (List.mem_append_right _ h))) (by decide +kernel))) (goodIn_sub (fun _ h => List.mem_append_left _ (List.mem_append_right _ h)) (by decide +kernel))
set_option maxRecDepth 20000 in
theorem gL_law_L_append : GoodIn wsL_law (va_wsS RL 87 yL_append wsL_append) := goodIn_app (goodIn_of _ (by decide +kernel)) ggL_law_L_append
set_option maxRecDepth 20000 in
theorem ggL_law_X5_append : GoodIn wsL_law wsX5_append := goodIn_r _ [111, 112, 113, 81, 114, 115, 5, 116, 117, 118, 119, 120, 121, 897, 898, 899, 900, 901, 902, 903, 904, 905, 906, 907, 908, 909, 910] (by decide +kernel) (by decide +kernel)
set_option maxRecDepth 20000 in
theorem gL_law_X5_append : GoodIn wsL_law (wsV RL 92 RX5 yX5_append wsX5_append) := goodIn_app (goodIn_of _ (by decide +kernel)) ggL_law_X5_append
set_option maxRecDepth 20000 in
theorem ggL_law_X5_thrown : GoodIn wsL_law wsX5_thrown := goodIn_r _ [125, 121, 897, 898, 899, 900, 901, 902, 903, 904, 905, 906, 907, 908, 909, 910] (by decide +kernel) (by decide +kernel)
set_option maxRecDepth 20000 in
theorem gL_law_X5_thrown : GoodIn wsL_law (wsV RL 93 RX5 yX5_thrown wsX5_thrown) := goodIn_app (goodIn_of _ (by decide +kernel)) ggL_law_X5_thrown
set_option maxRecDepth 20000 in
theorem ggL_law_X4_clearText : GoodIn wsL_law wsX4_clearText := goodIn_r _ [129, 33, 106, 890, 891, 892, 893, 894, 895, 896, 941, 942, 943, 944, 945, 946, 947, 948, 949, 950] (by decide +kernel) (by decide +kernel)
set_option maxRecDepth 20000 in
theorem gL_law_X4_clearText : GoodIn wsL_law (wsV RL 96 RX4 yX4_clearText wsX4_clearText) := goodIn_app (goodIn_of _ (by decide +kernel)) ggL_law_X4_clearText
set_option maxRecDepth 20000 in
theorem ggL_law_X5_clearText : GoodIn wsL_law wsX5_clearText := goodIn_r _ [133, 121, 113, 897, 898, 899, 900, 901, 902, 903, 904, 905, 906, 907, 908, 909, 910] (by decide +kernel) (by decide +kernel)
set_option maxRecDepth 20000 in
theorem gL_law_X5_clearText : GoodIn wsL_law (wsV RL 99 RX5 yX5_clearText wsX5_clearText) := goodIn_app (goodIn_of _ (by decide +kernel)) ggL_law_X5_clearText
set_option maxRecDepth 20000 in
theorem ggL_law_X4_errorPosition : GoodIn wsL_law wsX4_errorPosition := goodIn_r _ [137, 33, 138, 139, 140, 32, 141, 142, 143, 144, 145, 146, 147, 148, 149, 150, 151, 152, 153, 154, 155, 64, 156, 157, 158, 159, 160, 161, 162, 163, 164, 165, 166, 167, 168, 169, 170, 171, 172, 173, 174, 175, 176, 177, 178, 890, 891, 892, 893, 894, 895, 896, 941, 942, 943, 944, 945, 946, 947, 948, 949, 950] (by decide +kernel) (by decide +kernel)
set_option maxRecDepth 20000 in
theorem gL_law_X4_errorPosition : GoodIn wsL_law (wsV RL 100 RX4 yX4_errorPosition wsX4_errorPosition) := goodIn_app (goodIn_of _ (by decide +kernel)) ggL_law_X4_errorPosition
set_option maxRecDepth 20000 in
theorem ggL_law_X5_errorPosition : GoodIn wsL_law wsX5_errorPosition := goodIn_r _ [182, 121, 183, 184, 185, 5, 186, 187, 188, 189, 82, 113, 190, 191, 192, 193, 81, 194, 195, 196, 197, 198, 199, 200, 201, 202, 114, 115, 116, 89, 90, 91, 203, 204, 205, 206, 207, 208, 209, 210, 211, 212, 213, 214, 215, 216, 217, 218, 219, 220, 221, 222, 223, 224, 225, 226, 227, 228, 229, 230, 231, 232, 233, 234, 235, 236, 237, 238, 239, 240, 88, 241, 242, 243, 244, 245, 246, 247, 248, 249, 250, 251, 252, 253, 254, 255, 256, 257, 258, 259, 260, 261, 262, 263, 264, 265, 266, 267, 268, 269, 270, 271, 272, 273, 274, 275, 276, 277, 278, 279, 280, 281, 282, 283, 284, 285, 286, 287, 288, 289, 290, 291, 292, 293, 294, 295, 296, 297, 298, 299, 300, 897, 898, 899, 900, 901, 902, 903, 904, 905, 906, 907, 908, 909, 910] (by decide +kernel) (by decide +kernel)
set_option maxRecDepth 20000 in
theorem gL_law_X5_errorPosition : GoodIn wsL_law (wsV RL 103 RX5 yX5_errorPosition wsX5_errorPosition) := goodIn_app (goodIn_of _ (by decide +kernel)) ggL_law_X5_errorPosition
set_option maxRecDepth 20000 in
theorem ggL_law_L_load : GoodIn wsL_law wsL_load := goodIn_ca (goodIn_r _ [303, 97, 304, 305, 306, 2, 307, 104, 105, 33, 17, 308, 309, 310, 311, 22, 25, 138, 139, 140, 32, 141, 142, 143, 144, 145, 146, 147, 148, 149, 150, 151, 152, 153, 154, 155, 64, 156, 157, 158, 159, 160, 161, 162, 163, 164, 165, 166, 167, 168, 169, 170, 171, 172, 173, 174, 175, 176, 177, 178, 312, 65, 66, 67, 16, 68, 69, 70, 71, 72, 73, 74, 75, 76, 42, 43, 313, 314, 315, 21, 316, 317, 318, 319, 320, 321, 322, 323, 29, 324, 325, 326, 327, 328, 329, 38, 39, 40, 330, 41, 331, 332, 333, 334, 335, 336, 337, 338, 339, 340, 341, 342, 343, 344, 345, 346, 347, 348, 349, 350, 351, 352, 353, 354, 355, 356, 357, 358, 359, 360, 361, 28, 362, 363, 364, 365, 53, 54, 55, 366, 367, 368, 369, 370, 371, 372, 373, 374, 375, 376, 377, 56, 378, 57, 58, 379, 380, 381, 382, 383, 384, 385, 386, 387, 388, 389, 390, 391, 392, 393, 394, 395, 396, 397, 398, 399, 400, 401, 402, 403, 404, 59, 405, 406, 407, 408, 409, 410, 411, 412, 413, 414, 415, 416, 417, 418, 419, 420, 421, 422, 423, 424, 425, 426, 427, 428, 429, 430, 431, 432, 433, 434, 435, 436, 437, 438, 439, 440, 441, 442, 443, 444, 445, 446, 447, 448, 449, 450, 451, 452, 453, 454, 455, 456, 457, 458, 459, 460, 461, 462, 463, 464, 465, 466, 467, 468, 890, 891, 892, 893, 894, 895, 896, 941, 942, 943, 944, 945, 946, 947, 948, 949, 950, 911, 912, 913, 914, 915, 916, 917, 918, 919, 920, 921, 922, 923, 924, 925, 926, 927, 928, 929, 930, 931, 932, 933, 934, 935, 936, 937, 938, 939, 940] (by decide +kernel) (by decide +kernel)) (goodIn_sub (fun _ h => List.mem_append_left _ (List.mem_append_right _ h)) (by decide +kernel))
set_option maxRecDepth 20000 in
theorem gL_law_L_load : GoodIn wsL_law (va_wsS RL 104 yL_load wsL_load) := goodIn_app (goodIn_of _ (by decide +kernel)) ggL_law_L_load
set_option maxRecDepth 20000 in
theorem ggL_law_X5_load : GoodIn wsL_law wsX5_load := goodIn_r _ [472, 82, 83, 473, 87, 189, 183, 184, 185, 5, 186, 187, 188, 113, 190, 191, 192, 193, 81, 194, 195, 196, 197, 198, 199, 200, 201, 202, 114, 115, 116, 89, 90, 91, 203, 204, 205, 206, 207, 208, 209, 210, 211, 212, 213, 214, 215, 216, 217, 218, 219, 220, 221, 222, 223, 224, 225, 226, 227, 228, 229, 230, 231, 232, 233, 234, 235, 236, 237, 238, 239, 240, 88, 241, 242, 243, 244, 245, 246, 247, 248, 249, 250, 251, 252, 253, 254, 255, 256, 257, 258, 259, 260, 261, 262, 263, 264, 265, 266, 267, 268, 269, 270, 271, 272, 273, 274, 275, 276, 277, 278, 279, 280, 281, 282, 283, 284, 285, 286, 287, 288, 289, 290, 291, 292, 293, 294, 295, 296, 297, 298, 299, 300, 117, 118, 119, 120, 121, 897, 898, 899, 900, 901, 902, 903, 904, 905, 906, 907, 908, 909, 910] (by decide +kernel) (by decide +kernel)
set_option maxRecDepth 20000 in
theorem gL_law_X5_load : GoodIn wsL_law (wsV RL 107 RX5 yX5_load wsX5_load) := goodIn_app (goodIn_of _ (by decide +kernel)) ggL_law_X5_load
set_option maxRecDepth 20000 in
theorem ggL_law_L_about : GoodIn wsL_law wsL_about := goodIn_ca (goodIn_r _ [476, 96, 477, 478, 479, 2, 480, 102, 103, 17, 481, 482, 483, 484, 485, 486, 487, 488, 489, 490, 491, 16, 492, 76, 493, 494, 495, 496, 497, 383, 384, 385, 39, 355, 356, 357, 358, 70, 433, 434, 435, 436, 437, 438, 439, 498, 499, 500, 501, 890, 891, 892, 893, 894, 895, 896, 911, 912, 913, 914, 915, 916, 917, 918, 919, 920, 921, 922, 923, 924] (by decide +kernel) (by decide +kernel)) (goodIn_sub (fun _ h => List.mem_append_left _ (List.mem_append_left _ (List.mem_append_right _ h))) (by decide +kernel))
set_option maxRecDepth 20000 in
theorem gL_law_L_about : GoodIn wsL_law (va_wsS RL 108 yL_about wsL_about) := goodIn_app (goodIn_of _ (by decide +kernel)) ggL_law_L_about
set_option maxRecDepth 20000 in
theorem ggL_law_X5_about : GoodIn wsL_law wsX5_about := goodIn_r _ [505, 202, 83, 114, 115, 5, 116, 117, 118, 119, 120, 121, 506, 507, 508, 263, 264, 265, 218, 219, 220, 231, 232, 233, 278, 279, 280, 897, 898, 899, 900, 901, 902, 903, 904, 905, 906, 907, 908, 909, 910] (by decide +kernel) (by decide +kernel)
set_option maxRecDepth 20000 in
theorem gL_law_X5_about : GoodIn wsL_law (wsV RL 110 RX5 yX5_about wsX5_about) := goodIn_app (goodIn_of _ (by decide +kernel)) ggL_law_X5_about
set_option maxRecDepth 20000 in
theorem ggL_law_L_call : GoodIn wsL_law wsL_call := goodIn_ca (goodIn_ca (goodIn_r _ [511, 512, 96, 513, 514, 515, 2, 516, 517, 518, 102, 103, 17, 519, 520, 521, 522, 523, 430, 431, 16, 432, 76, 524, 494, 495, 496, 497, 383, 384, 385, 39, 355, 356, 357, 358, 70, 433, 434, 435, 436, 437, 438, 439, 890, 891, 892, 893, 894, 895, 896, 911, 912, 913, 914, 915, 916, 917, 918, 919, 920, 921, 922, 923, 924] (by decide +kernel) (by decide +kernel)) (goodIn_sub (fun _ h => List.mem_append_right _ h) (by decide +kernel))) (goodIn_sub (fun _ h => List.mem_append_left _ (List.mem_append_left _ (List.mem_append_right _ h))) (by decide +kernel))
set_option maxRecDepth 20000 in
theorem gL_law_L_call : GoodIn wsL_law (va_wsS RL 111 yL_call wsL_call) := goodIn_app (goodIn_of _ (by decide +kernel)) ggL_law_L_call
set_option maxRecDepth 20000 in
theorem ggL_law_X5_call : GoodIn wsL_law wsX5_call := goodIn_r _ [528, 529, 83, 530, 531, 532, 5, 533, 114, 115, 116, 117, 118, 119, 120, 121, 231, 232, 233, 263, 264, 265, 218, 219, 220, 278, 279, 280, 897, 898, 899, 900, 901, 902, 903, 904, 905, 906, 907, 908, 909, 910] (by decide +kernel) (by decide +kernel)
set_option maxRecDepth 20000 in
theorem gL_law_X5_call : GoodIn wsL_law (wsV RL 114 RX5 yX5_call wsX5_call) := goodIn_app (goodIn_of _ (by decide +kernel)) ggL_law_X5_call
set_option maxRecDepth 20000 in
theorem ggL_law_L_link : GoodIn wsL_law wsL_link := goodIn_ca (goodIn_r _ [536, 512, 537, 538, 539, 2, 540, 517, 518, 17, 484, 481, 541, 457, 458, 16, 459, 71, 542, 543, 544, 545, 76, 40, 497, 383, 384, 385, 39, 355, 356, 357, 358, 70, 546, 547, 548, 549, 38, 890, 891, 892, 893, 894, 895, 896, 911, 912, 913, 914, 915, 916, 917, 918, 919, 920, 921, 922, 923, 924] (by decide +kernel) (by decide +kernel)) (goodIn_sub (fun _ h => List.mem_append_right _ h) (by decide +kernel))
set_option maxRecDepth 20000 in
theorem gL_law_L_link : GoodIn wsL_law (va_wsS RL 115 yL_link wsL_link) := goodIn_app (goodIn_of _ (by decide +kernel)) ggL_law_L_link
set_option maxRecDepth 20000 in
theorem ggL_law_X5_link : GoodIn wsL_law wsX5_link := goodIn_r _ [553, 83, 554, 555, 556, 5, 557, 114, 115, 116, 117, 118, 119, 120, 121, 263, 264, 265, 218, 219, 220, 231, 232, 233, 260, 261, 262, 897, 898, 899, 900, 901, 902, 903, 904, 905, 906, 907, 908, 909, 910] (by decide +kernel) (by decide +kernel)
set_option maxRecDepth 20000 in
theorem gL_law_X5_link : GoodIn wsL_law (wsV RL 118 RX5 yX5_link wsX5_link) := goodIn_app (goodIn_of _ (by decide +kernel)) ggL_law_X5_link
set_option maxRecDepth 20000 in
theorem ggL_law_L_at : GoodIn wsL_law wsL_at := goodIn_ca (goodIn_r _ [560, 512, 561, 562, 563, 2, 564, 517, 518, 17, 565, 344, 345, 16, 346, 72, 339, 340, 341, 342, 70, 566, 332, 333, 334, 335, 336, 337, 338, 69, 567, 352, 353, 354, 76, 39, 568, 348, 349, 350, 38, 890, 891, 892, 893, 894, 895, 896, 911, 912, 913, 914, 915, 916, 917, 918, 919, 920, 921, 922, 923, 924] (by decide +kernel) (by decide +kernel)) (goodIn_sub (fun _ h => List.mem_append_right _ h) (by decide +kernel))
set_option maxRecDepth 20000 in
theorem gL_law_L_at : GoodIn wsL_law (va_wsS RL 119 yL_at wsL_at) := goodIn_app (goodIn_of _ (by decide +kernel)) ggL_law_L_at
set_option maxRecDepth 20000 in
theorem ggL_law_X5_at : GoodIn wsL_law wsX5_at := goodIn_r _ [572, 83, 573, 574, 575, 5, 576, 218, 219, 220, 114, 115, 116, 577, 578, 579, 580, 211, 212, 213, 117, 118, 119, 120, 121, 234, 235, 236, 231, 232, 233, 228, 229, 230, 897, 898, 899, 900, 901, 902, 903, 904, 905, 906, 907, 908, 909, 910] (by decide +kernel) (by decide +kernel)
set_option maxRecDepth 20000 in
theorem gL_law_X5_at : GoodIn wsL_law (wsV RL 122 RX5 yX5_at wsX5_at) := goodIn_app (goodIn_of _ (by decide +kernel)) ggL_law_X5_at
set_option maxRecDepth 20000 in
theorem ggL_law_L_thanks : GoodIn wsL_law wsL_thanks := goodIn_ca (goodIn_r _ [583, 512, 584, 585, 586, 2, 587, 517, 518, 17, 588, 589, 566, 332, 333, 16, 334, 335, 336, 337, 338, 69, 339, 340, 341, 342, 70, 890, 891, 892, 893, 894, 895, 896, 911, 912, 913, 914, 915, 916, 917, 918, 919, 920, 921, 922, 923, 924] (by decide +kernel) (by decide +kernel)) (goodIn_sub (fun _ h => List.mem_append_right _ h) (by decide +kernel))
set_option maxRecDepth 20000 in
theorem gL_law_L_thanks : GoodIn wsL_law (va_wsS RL 123 yL_thanks wsL_thanks) := goodIn_app (goodIn_of _ (by decide +kernel)) ggL_law_L_thanks
set_option maxRecDepth 20000 in
theorem ggL_law_X5_thanks : GoodIn wsL_law wsX5_thanks := goodIn_r _ [593, 83, 577, 578, 579, 5, 580, 211, 212, 213, 114, 115, 116, 117, 118, 119, 120, 121, 897, 898, 899, 900, 901, 902, 903, 904, 905, 906, 907, 908, 909, 910] (by decide +kernel) (by decide +kernel)
set_option maxRecDepth 20000 in
theorem gL_law_X5_thanks : GoodIn wsL_law (wsV RL 126 RX5 yX5_thanks wsX5_thanks) := goodIn_app (goodIn_of _ (by decide +kernel)) ggL_law_X5_thanks
set_option maxRecDepth 20000 in
theorem ggL_law_L_connect : GoodIn wsL_law wsL_connect := goodIn_ca (goodIn_ca (goodIn_r _ [596, 512, 97, 597, 598, 599, 2, 600, 22, 17, 29, 601, 602, 603, 21, 604, 49, 605, 317, 606, 607, 608, 16, 609, 69, 70, 71, 72, 73, 74, 75, 76, 38, 610, 406, 407, 408, 39, 40, 41, 42, 43, 326, 327, 328, 329, 330, 331, 332, 333, 334, 335, 336, 337, 338, 339, 340, 341, 342, 343, 344, 345, 346, 347, 348, 349, 350, 351, 352, 353, 354, 355, 356, 357, 358, 359, 360, 361, 28, 362, 363, 364, 365, 53, 54, 55, 366, 367, 368, 369, 370, 371, 372, 373, 374, 375, 376, 377, 56, 378, 57, 58, 379, 380, 381, 382, 383, 384, 385, 386, 387, 388, 389, 390, 391, 392, 393, 394, 395, 396, 397, 398, 399, 400, 401, 402, 403, 404, 59, 405, 409, 410, 411, 412, 413, 414, 415, 416, 417, 418, 419, 420, 421, 422, 423, 424, 611, 612, 613, 614, 517, 518, 104, 105, 615, 616, 617, 618, 890, 891, 892, 893, 894, 895, 896, 925, 926, 927, 911, 912, 913, 914, 915, 916, 917, 918, 919, 920, 921, 922, 923, 924, 928, 929, 930, 931, 932, 933, 934, 935, 936, 937, 938, 939, 940] (by decide +kernel) (by decide +kernel)) (goodIn_sub (fun _ h => List.mem_append_right _ h) (by decide +kernel))) (goodIn_sub (fun _ h => List.mem_append_left _ (List.mem_append_right _ h)) (by decide +kernel))
set_option maxRecDepth 20000 in
theorem gL_law_L_connect : GoodIn wsL_law (va_wsS RL 127 yL_connect wsL_connect) := goodIn_app (goodIn_of _ (by decide +kernel)) ggL_law_L_connect
set_option maxRecDepth 20000 in
theorem ggL_law_X5_connect : GoodIn wsL_law wsX5_connect := goodIn_r _ [622, 84, 577, 578, 579, 5, 580, 83, 211, 212, 213, 114, 115, 116, 573, 574, 575, 576, 218, 219, 220, 117, 118, 119, 120, 121, 623, 624, 625, 626, 288, 289, 290, 221, 222, 223, 224, 225, 226, 227, 228, 229, 230, 231, 232, 233, 234, 235, 236, 237, 238, 239, 240, 88, 241, 242, 243, 244, 245, 246, 247, 248, 249, 250, 251, 252, 253, 254, 255, 256, 257, 258, 259, 260, 261, 262, 263, 264, 265, 627, 628, 629, 630, 631, 632, 633, 634, 473, 85, 897, 898, 899, 900, 901, 902, 903, 904, 905, 906, 907, 908, 909, 910] (by decide +kernel) (by decide +kernel)
set_option maxRecDepth 20000 in
theorem gL_law_X5_connect : GoodIn wsL_law (wsV RL 129 RX5 yX5_connect wsX5_connect) := goodIn_app (goodIn_of _ (by decide +kernel)) ggL_law_X5_connect
set_option maxRecDepth 20000 in
theorem ggL_law_L_join : GoodIn wsL_law wsL_join := goodIn_ca (goodIn_ca (goodIn_r _ [637, 512, 97, 638, 639, 640, 2, 641, 22, 17, 29, 601, 602, 603, 21, 604, 49, 605, 317, 606, 607, 608, 16, 609, 69, 70, 71, 72, 73, 74, 75, 76, 38, 610, 406, 407, 408, 39, 40, 41, 42, 43, 425, 426, 427, 428, 429, 430, 431, 432, 343, 344, 345, 346, 339, 340, 341, 342, 351, 352, 353, 354, 433, 434, 435, 436, 437, 438, 439, 355, 356, 357, 358, 440, 441, 442, 28, 443, 363, 364, 365, 54, 366, 367, 368, 369, 370, 371, 372, 373, 374, 375, 53, 376, 55, 377, 56, 378, 57, 58, 379, 380, 381, 382, 383, 384, 385, 386, 387, 388, 389, 390, 391, 392, 393, 394, 395, 396, 397, 398, 399, 400, 401, 402, 403, 404, 59, 405, 409, 410, 411, 412, 413, 414, 415, 416, 417, 418, 419, 420, 421, 422, 423, 424, 330, 611, 612, 613, 614, 517, 518, 104, 105, 615, 616, 617, 618, 890, 891, 892, 893, 894, 895, 896, 925, 926, 927, 911, 912, 913, 914, 915, 916, 917, 918, 919, 920, 921, 922, 923, 924, 928, 929, 930, 931, 932, 933, 934, 935, 936, 937, 938, 939, 940] (by decide +kernel) (by decide +kernel)) (goodIn_sub (fun _ h => List.mem_append_right _ h) (by decide +kernel))) (goodIn_sub (fun _ h => List.mem_append_left _ (List.mem_append_right _ h)) (by decide +kernel))
set_option maxRecDepth 20000 in
theorem gL_law_L_join : GoodIn wsL_law (va_wsS RL 130 yL_join wsL_join) := goodIn_app (goodIn_of _ (by decide +kernel)) ggL_law_L_join
set_option maxRecDepth 20000 in
theorem ggL_law_X5_join : GoodIn wsL_law wsX5_join := goodIn_r _ [645, 84, 530, 531, 532, 5, 533, 83, 114, 115, 116, 573, 574, 575, 576, 218, 219, 220, 117, 118, 119, 120, 121, 623, 624, 625, 626, 288, 289, 290, 274, 275, 276, 277, 234, 235, 236, 231, 232, 233, 278, 279, 280, 237, 238, 239, 240, 88, 241, 242, 243, 244, 245, 246, 247, 248, 249, 250, 251, 252, 253, 254, 255, 256, 257, 258, 259, 260, 261, 262, 263, 264, 265, 627, 628, 629, 630, 631, 632, 633, 634, 473, 85, 897, 898, 899, 900, 901, 902, 903, 904, 905, 906, 907, 908, 909, 910] (by decide +kernel) (by decide +kernel)
set_option maxRecDepth 20000 in
theorem gL_law_X5_join : GoodIn wsL_law (wsV RL 132 RX5 yX5_join wsX5_join) := goodIn_app (goodIn_of _ (by decide +kernel)) ggL_law_X5_join
set_option maxRecDepth 20000 in
theorem ggL_law_L_hang : GoodIn wsL_law wsL_hang := goodIn_ca (goodIn_ca (goodIn_r _ [648, 512, 649, 650, 651, 2, 652, 22, 17, 601, 602, 603, 21, 604, 49, 605, 317, 606, 607, 608, 16, 609, 69, 70, 71, 72, 73, 74, 75, 76, 38, 610, 406, 407, 408, 39, 40, 41, 42, 43, 444, 445, 446, 447, 429, 430, 431, 432, 611, 612, 613, 614, 517, 518, 104, 105, 615, 616, 617, 618, 890, 891, 892, 893, 894, 895, 896, 925, 926, 927, 911, 912, 913, 914, 915, 916, 917, 918, 919, 920, 921, 922, 923, 924] (by decide +kernel) (by decide +kernel)) (goodIn_sub (fun _ h => List.mem_append_right _ h) (by decide +kernel))) (goodIn_sub (fun _ h => List.mem_append_left _ (List.mem_append_right _ h)) (by decide +kernel))
set_option maxRecDepth 20000 in
theorem gL_law_L_hang : GoodIn wsL_law (va_wsS RL 133 yL_hang wsL_hang) := goodIn_app (goodIn_of _ (by decide +kernel)) ggL_law_L_hang
set_option maxRecDepth 20000 in
theorem ggL_law_X5_hang : GoodIn wsL_law wsX5_hang := goodIn_r _ [656, 83, 530, 531, 532, 5, 533, 114, 115, 116, 117, 118, 119, 120, 121, 631, 632, 633, 634, 473, 85, 288, 289, 290, 285, 286, 287, 231, 232, 233, 897, 898, 899, 900, 901, 902, 903, 904, 905, 906, 907, 908, 909, 910] (by decide +kernel) (by decide +kernel)
set_option maxRecDepth 20000 in
theorem gL_law_X5_hang : GoodIn wsL_law (wsV RL 135 RX5 yX5_hang wsX5_hang) := goodIn_app (goodIn_of _ (by decide +kernel)) ggL_law_X5_hang
set_option maxRecDepth 20000 in
theorem ggL_law_L_drop : GoodIn wsL_law wsL_drop := goodIn_ca (goodIn_ca (goodIn_r _ [659, 512, 97, 660, 661, 662, 2, 663, 22, 17, 601, 602, 603, 21, 604, 49, 605, 317, 606, 607, 608, 16, 609, 69, 70, 71, 72, 73, 74, 75, 76, 38, 610, 406, 407, 408, 39, 40, 41, 42, 43, 664, 665, 666, 667, 343, 344, 345, 346, 339, 340, 341, 342, 351, 352, 353, 354, 433, 434, 435, 436, 437, 438, 439, 611, 612, 613, 614, 517, 518, 104, 105, 615, 616, 617, 618, 890, 891, 892, 893, 894, 895, 896, 925, 926, 927, 911, 912, 913, 914, 915, 916, 917, 918, 919, 920, 921, 922, 923, 924] (by decide +kernel) (by decide +kernel)) (goodIn_sub (fun _ h => List.mem_append_right _ h) (by decide +kernel))) (goodIn_sub (fun _ h => List.mem_append_left _ (List.mem_append_right _ h)) (by decide +kernel))
set_option maxRecDepth 20000 in
theorem gL_law_L_drop : GoodIn wsL_law (va_wsS RL 136 yL_drop wsL_drop) := goodIn_app (goodIn_of _ (by decide +kernel)) ggL_law_L_drop
set_option maxRecDepth 20000 in
theorem ggL_law_X5_drop : GoodIn wsL_law wsX5_drop := goodIn_r _ [671, 83, 573, 574, 575, 5, 576, 218, 219, 220, 114, 115, 116, 672, 673, 674, 234, 235, 236, 231, 232, 233, 278, 279, 280, 117, 118, 119, 120, 121, 631, 632, 633, 634, 473, 85, 288, 289, 290, 675, 676, 677, 897, 898, 899, 900, 901, 902, 903, 904, 905, 906, 907, 908, 909, 910] (by decide +kernel) (by decide +kernel)
set_option maxRecDepth 20000 in
theorem gL_law_X5_drop : GoodIn wsL_law (wsV RL 138 RX5 yX5_drop wsX5_drop) := goodIn_app (goodIn_of _ (by decide +kernel)) ggL_law_X5_drop
set_option maxRecDepth 20000 in
theorem ggL_law_L_setBroken : GoodIn wsL_law wsL_setBroken := goodIn_ca (goodIn_ca (goodIn_r _ [680, 512, 97, 681, 682, 683, 2, 684, 22, 17, 601, 602, 603, 21, 604, 49, 605, 317, 606, 607, 608, 16, 609, 69, 70, 71, 72, 73, 74, 75, 76, 38, 610, 406, 407, 408, 39, 40, 41, 42, 43, 452, 453, 454, 455, 456, 457, 458, 459, 460, 461, 462, 463, 464, 368, 369, 370, 433, 434, 435, 436, 437, 438, 439, 611, 612, 613, 614, 517, 518, 104, 105, 615, 616, 617, 618, 890, 891, 892, 893, 894, 895, 896, 925, 926, 927, 911, 912, 913, 914, 915, 916, 917, 918, 919, 920, 921, 922, 923, 924] (by decide +kernel) (by decide +kernel)) (goodIn_sub (fun _ h => List.mem_append_right _ h) (by decide +kernel))) (goodIn_sub (fun _ h => List.mem_append_left _ (List.mem_append_right _ h)) (by decide +kernel))
set_option maxRecDepth 20000 in
theorem gL_law_L_setBroken : GoodIn wsL_law (va_wsS RL 139 yL_setBroken wsL_setBroken) := goodIn_app (goodIn_of _ (by decide +kernel)) ggL_law_L_setBroken
set_option maxRecDepth 20000 in
theorem ggL_law_X5_setBroken : GoodIn wsL_law wsX5_setBroken := goodIn_r _ [688, 83, 554, 555, 556, 5, 557, 114, 115, 116, 295, 296, 297, 231, 232, 233, 117, 118, 119, 120, 121, 631, 632, 633, 634, 473, 85, 288, 289, 290, 298, 299, 300, 278, 279, 280, 897, 898, 899, 900, 901, 902, 903, 904, 905, 906, 907, 908, 909, 910] (by decide +kernel) (by decide +kernel)
set_option maxRecDepth 20000 in
theorem gL_law_X5_setBroken : GoodIn wsL_law (wsV RL 141 RX5 yX5_setBroken wsX5_setBroken) := goodIn_app (goodIn_of _ (by decide +kernel)) ggL_law_X5_setBroken
set_option maxRecDepth 20000 in
theorem ggL_law_L_setPatience : GoodIn wsL_law wsL_setPatience := goodIn_ca (goodIn_ca (goodIn_ca (goodIn_r _ [691, 96, 692, 693, 694, 2, 695, 102, 103, 22, 17, 601, 602, 603, 21, 604, 49, 605, 317, 606, 607, 608, 16, 609, 69, 70, 71, 72, 73, 74, 75, 76, 38, 610, 406, 407, 408, 39, 40, 41, 42, 43, 465, 466, 467, 468, 611, 612, 613, 614, 517, 518, 104, 105, 615, 616, 617, 618, 890, 891, 892, 893, 894, 895, 896, 925, 926, 927, 911, 912, 913, 914, 915, 916, 917, 918, 919, 920, 921, 922, 923, 924] (by decide +kernel) (by decide +kernel)) (goodIn_sub (fun _ h => List.mem_append_left _ (List.mem_append_left _ (List.mem_append_right _ h))) (by decide +kernel))) (goodIn_sub (fun _ h => List.mem_append_right _ h) (by decide +kernel))) (goodIn_sub (fun _ h => List.mem_append_left _ (List.mem_append_right _ h)) (by decide +kernel))
set_option maxRecDepth 20000 in
theorem gL_law_L_setPatience : GoodIn wsL_law (va_wsS RL 142 yL_setPatience wsL_setPatience) := goodIn_app (goodIn_of _ (by decide +kernel)) ggL_law_L_setPatience
set_option maxRecDepth 20000 in
theorem ggL_law_X5_setPatience : GoodIn wsL_law wsX5_setPatience := goodIn_r _ [699, 700, 83, 114, 115, 5, 116, 117, 118, 119, 120, 121, 631, 632, 633, 634, 473, 85, 288, 289, 290, 897, 898, 899, 900, 901, 902, 903, 904, 905, 906, 907, 908, 909, 910] (by decide +kernel) (by decide +kernel)
set_option maxRecDepth 20000 in
theorem gL_law_X5_setPatience : GoodIn wsL_law (wsV RL 144 RX5 yX5_setPatience wsX5_setPatience) := goodIn_app (goodIn_of _ (by decide +kernel)) ggL_law_X5_setPatience
set_option maxRecDepth 20000 in
theorem ggL_law_L_undo : GoodIn wsL_law wsL_undo := goodIn_ca (goodIn_r _ [703, 97, 704, 705, 706, 2, 707, 104, 105, 22, 17, 708, 709, 710, 21, 711, 317, 49, 605, 606, 607, 608, 16, 609, 69, 70, 71, 72, 73, 74, 75, 76, 38, 610, 406, 407, 408, 39, 40, 41, 42, 43, 890, 891, 892, 893, 894, 895, 896, 925, 926, 927, 911, 912, 913, 914, 915, 916, 917, 918, 919, 920, 921, 922, 923, 924] (by decide +kernel) (by decide +kernel)) (goodIn_sub (fun _ h => List.mem_append_left _ (List.mem_append_right _ h)) (by decide +kernel))
set_option maxRecDepth 20000 in
theorem gL_law_L_undo : GoodIn wsL_law (va_wsS RL 145 yL_undo wsL_undo) := goodIn_app (goodIn_of _ (by decide +kernel)) ggL_law_L_undo
set_option maxRecDepth 20000 in
theorem ggL_law_X5_undo : GoodIn wsL_law wsX5_undo := goodIn_r _ [715, 473, 85, 83, 117, 118, 119, 5, 120, 121, 288, 289, 290, 897, 898, 899, 900, 901, 902, 903, 904, 905, 906, 907, 908, 909, 910] (by decide +kernel) (by decide +kernel)
set_option maxRecDepth 20000 in
theorem gL_law_X5_undo : GoodIn wsL_law (wsV RL 147 RX5 yX5_undo wsX5_undo) := goodIn_app (goodIn_of _ (by decide +kernel)) ggL_law_X5_undo
set_option maxRecDepth 20000 in
theorem ggL_law_L_moves : GoodIn wsL_law wsL_moves := goodIn_ca (goodIn_r _ [718, 512, 719, 720, 721, 2, 722, 517, 518, 17, 29, 566, 332, 333, 16, 334, 335, 336, 337, 338, 69, 339, 340, 341, 342, 70, 565, 344, 345, 346, 72, 568, 348, 349, 350, 76, 38, 567, 352, 353, 354, 39, 723, 356, 357, 358, 724, 360, 361, 28, 362, 363, 364, 365, 53, 54, 55, 366, 367, 368, 369, 370, 71, 74, 371, 372, 373, 374, 375, 376, 377, 56, 378, 57, 58, 379, 380, 381, 382, 383, 384, 385, 355, 386, 387, 388, 389, 390, 391, 392, 393, 394, 395, 396, 397, 398, 399, 400, 401, 402, 403, 404, 59, 405, 406, 407, 408, 409, 410, 411, 412, 413, 414, 415, 416, 417, 418, 419, 420, 890, 891, 892, 893, 894, 895, 896, 911, 912, 913, 914, 915, 916, 917, 918, 919, 920, 921, 922, 923, 924, 928, 929, 930, 931, 932, 933, 934, 935, 936, 937, 938, 939, 940] (by decide +kernel) (by decide +kernel)) (goodIn_sub (fun _ h => List.mem_append_right _ h) (by decide +kernel))
set_option maxRecDepth 20000 in
theorem gL_law_L_moves : GoodIn wsL_law (va_wsS RL 148 yL_moves wsL_moves) := goodIn_app (goodIn_of _ (by decide +kernel)) ggL_law_L_moves
set_option maxRecDepth 20000 in
theorem ggL_law_X5_moves : GoodIn wsL_law wsX5_moves := goodIn_r _ [728, 577, 578, 579, 5, 580, 83, 211, 212, 213, 114, 115, 116, 573, 574, 575, 576, 218, 219, 220, 117, 118, 119, 120, 121, 729, 730, 731, 732, 84, 623, 624, 625, 626, 288, 289, 290, 221, 222, 223, 224, 225, 226, 227, 228, 229, 230, 231, 232, 233, 234, 235, 236, 237, 238, 239, 240, 88, 241, 242, 243, 244, 245, 246, 247, 248, 249, 250, 251, 252, 253, 254, 255, 256, 257, 258, 259, 260, 261, 262, 263, 264, 265, 897, 898, 899, 900, 901, 902, 903, 904, 905, 906, 907, 908, 909, 910] (by decide +kernel) (by decide +kernel)
set_option maxRecDepth 20000 in
theorem gL_law_X5_moves : GoodIn wsL_law (wsV RL 150 RX5 yX5_moves wsX5_moves) := goodIn_app (goodIn_of _ (by decide +kernel)) ggL_law_X5_moves
set_option maxRecDepth 20000 in
theorem ggL_law_L_open : GoodIn wsL_law wsL_open := goodIn_ca (goodIn_r _ [735, 96, 736, 737, 738, 2, 739, 102, 103, 17, 481, 484, 740, 741, 742, 743, 29, 744, 745, 746, 16, 747, 70, 347, 348, 349, 350, 76, 38, 748, 749, 750, 751, 351, 352, 353, 354, 39, 724, 360, 361, 28, 362, 363, 364, 365, 53, 54, 55, 366, 367, 368, 369, 370, 71, 74, 371, 372, 373, 374, 375, 376, 377, 56, 378, 57, 58, 379, 380, 381, 356, 357, 358, 382, 383, 384, 385, 355, 386, 387, 388, 389, 390, 391, 392, 393, 394, 395, 396, 397, 398, 399, 400, 401, 402, 403, 404, 59, 405, 406, 407, 408, 409, 410, 411, 412, 413, 414, 415, 416, 417, 418, 419, 420, 890, 891, 892, 893, 894, 895, 896, 911, 912, 913, 914, 915, 916, 917, 918, 919, 920, 921, 922, 923, 924, 928, 929, 930, 931, 932, 933, 934, 935, 936, 937, 938, 939, 940] (by decide +kernel) (by decide +kernel)) (goodIn_sub (fun _ h => List.mem_append_left _ (List.mem_append_left _ (List.mem_append_right _ h))) (by decide +kernel))
set_option maxRecDepth 20000 in
theorem gL_law_L_open : GoodIn wsL_law (va_wsS RL 151 yL_open wsL_open) := goodIn_app (goodIn_of _ (by decide +kernel)) ggL_law_L_open
set_option maxRecDepth 20000 in
theorem ggL_law_X5_open : GoodIn wsL_law wsX5_open := goodIn_r _ [755, 700, 83, 114, 115, 5, 116, 117, 118, 119, 120, 121, 211, 212, 213, 218, 219, 220, 729, 730, 731, 732, 84, 623, 624, 625, 626, 288, 289, 290, 221, 222, 223, 224, 225, 226, 227, 228, 229, 230, 231, 232, 233, 234, 235, 236, 237, 238, 239, 240, 88, 241, 242, 243, 244, 245, 246, 247, 248, 249, 250, 251, 252, 253, 254, 255, 256, 257, 258, 259, 260, 261, 262, 263, 264, 265, 897, 898, 899, 900, 901, 902, 903, 904, 905, 906, 907, 908, 909, 910] (by decide +kernel) (by decide +kernel)
set_option maxRecDepth 20000 in
theorem gL_law_X5_open : GoodIn wsL_law (wsV RL 153 RX5 yX5_open wsX5_open) := goodIn_app (goodIn_of _ (by decide +kernel)) ggL_law_X5_open
set_option maxRecDepth 20000 in
theorem ggL_law_X4_fewest : GoodIn wsL_law wsX4_fewest := goodIn_r _ [759, 17, 483, 29, 760, 761, 762, 28, 763, 371, 372, 373, 374, 375, 364, 365, 53, 376, 54, 55, 377, 56, 378, 57, 58, 379, 380, 366, 381, 356, 357, 16, 358, 70, 382, 383, 384, 385, 39, 355, 764, 765, 766, 397, 398, 399, 400, 413, 414, 415, 416, 417, 418, 419, 420, 890, 891, 892, 893, 894, 895, 896, 911, 912, 913, 914, 915, 916, 917, 918, 919, 920, 921, 922, 923, 924, 928, 929, 930, 931, 932, 933, 934, 935, 936, 937, 938, 939, 940] (by decide +kernel) (by decide +kernel)
set_option maxRecDepth 20000 in
theorem gL_law_X4_fewest : GoodIn wsL_law (wsV RL 154 RX4 yX4_fewest wsX4_fewest) := goodIn_app (goodIn_of _ (by decide +kernel)) ggL_law_X4_fewest
set_option maxRecDepth 20000 in
theorem ggL_law_X5_fewest : GoodIn wsL_law wsX5_fewest := goodIn_r _ [770, 121, 83, 278, 279, 5, 280, 245, 246, 247, 248, 88, 249, 250, 251, 252, 231, 232, 233, 253, 254, 255, 256, 257, 258, 259, 260, 261, 262, 263, 264, 265, 218, 219, 220, 897, 898, 899, 900, 901, 902, 903, 904, 905, 906, 907, 908, 909, 910] (by decide +kernel) (by decide +kernel)
set_option maxRecDepth 20000 in
theorem gL_law_X5_fewest : GoodIn wsL_law (wsV RL 157 RX5 yX5_fewest wsX5_fewest) := goodIn_app (goodIn_of _ (by decide +kernel)) ggL_law_X5_fewest
set_option maxRecDepth 20000 in
theorem ggL_law_X4_weakest : GoodIn wsL_law wsX4_weakest := goodIn_r _ [774, 17, 483, 29, 448, 449, 450, 16, 451, 74, 775, 776, 777, 28, 778, 366, 367, 368, 369, 370, 71, 371, 372, 373, 374, 375, 364, 365, 53, 376, 54, 55, 377, 56, 378, 57, 58, 379, 380, 381, 356, 357, 358, 70, 382, 383, 384, 385, 39, 355, 386, 387, 388, 389, 390, 391, 392, 393, 394, 395, 396, 397, 398, 399, 400, 401, 402, 403, 404, 59, 405, 406, 407, 408, 409, 410, 411, 412, 413, 414, 415, 416, 417, 418, 419, 420, 890, 891, 892, 893, 894, 895, 896, 911, 912, 913, 914, 915, 916, 917, 918, 919, 920, 921, 922, 923, 924, 928, 929, 930, 931, 932, 933, 934, 935, 936, 937, 938, 939, 940] (by decide +kernel) (by decide +kernel)
set_option maxRecDepth 20000 in
theorem gL_law_X4_weakest : GoodIn wsL_law (wsV RL 158 RX4 yX4_weakest wsX4_weakest) := goodIn_app (goodIn_of _ (by decide +kernel)) ggL_law_X4_weakest
set_option maxRecDepth 20000 in
theorem ggL_law_X5_weakest : GoodIn wsL_law wsX5_weakest := goodIn_r _ [782, 121, 83, 241, 242, 243, 5, 244, 245, 246, 247, 248, 88, 249, 250, 251, 252, 231, 232, 233, 253, 254, 255, 256, 257, 258, 259, 260, 261, 262, 263, 264, 265, 218, 219, 220, 897, 898, 899, 900, 901, 902, 903, 904, 905, 906, 907, 908, 909, 910] (by decide +kernel) (by decide +kernel)
set_option maxRecDepth 20000 in
theorem gL_law_X5_weakest : GoodIn wsL_law (wsV RL 161 RX5 yX5_weakest wsX5_weakest) := goodIn_app (goodIn_of _ (by decide +kernel)) ggL_law_X5_weakest
set_option maxRecDepth 20000 in
theorem ggL_law_L_runScript : GoodIn wsL_law wsL_runScript := goodIn_ca (goodIn_r _ [785, 96, 786, 787, 788, 2, 789, 102, 103, 18, 17, 790, 791, 792, 793, 794, 607, 608, 16, 609, 69, 70, 71, 72, 73, 74, 75, 76, 38, 610, 406, 407, 408, 39, 40, 41, 42, 43, 795, 796, 797, 798, 29, 521, 485, 326, 327, 328, 329, 330, 331, 332, 333, 334, 335, 336, 337, 338, 339, 340, 341, 342, 343, 344, 345, 346, 347, 348, 349, 350, 351, 352, 353, 354, 355, 356, 357, 358, 359, 360, 361, 28, 362, 363, 364, 365, 53, 54, 55, 366, 367, 368, 369, 370, 371, 372, 373, 374, 375, 376, 377, 56, 378, 57, 58, 379, 380, 381, 382, 383, 384, 385, 386, 387, 388, 389, 390, 391, 392, 393, 394, 395, 396, 397, 398, 399, 400, 401, 402, 403, 404, 59, 405, 409, 410, 411, 412, 413, 414, 415, 416, 417, 418, 419, 420, 421, 422, 423, 424, 425, 426, 427, 428, 429, 430, 431, 432, 433, 434, 435, 436, 437, 438, 439, 440, 441, 442, 443, 444, 445, 446, 447, 664, 665, 666, 667, 452, 453, 454, 455, 456, 457, 458, 459, 460, 461, 462, 463, 464, 465, 466, 467, 468, 523, 489, 490, 491, 492, 493, 494, 495, 496, 497, 890, 891, 892, 893, 894, 895, 896, 911, 912, 913, 914, 915, 916, 917, 918, 919, 920, 921, 922, 923, 924, 928, 929, 930, 931, 932, 933, 934, 935, 936, 937, 938, 939, 940] (by decide +kernel) (by decide +kernel)) (goodIn_sub (fun _ h => List.mem_append_left _ (List.mem_append_left _ (List.mem_append_right _ h))) (by decide +kernel))
set_option maxRecDepth 20000 in
theorem gL_law_L_runScript : GoodIn wsL_law (va_wsS RL 164 yL_runScript wsL_runScript) := goodIn_app (goodIn_of _ (by decide +kernel)) ggL_law_L_runScript
set_option maxRecDepth 20000 in
theorem ggL_law_X5_runScript : GoodIn wsL_law wsX5_runScript := goodIn_r _ [802, 700, 803, 114, 115, 5, 116, 804, 805, 806, 807, 117, 118, 119, 120, 121, 623, 624, 625, 626, 83, 84, 288, 289, 290, 808, 809, 810, 811, 812, 813, 814, 815, 211, 212, 213, 218, 219, 220, 221, 222, 223, 224, 225, 226, 227, 228, 229, 230, 231, 232, 233, 234, 235, 236, 237, 238, 239, 240, 88, 241, 242, 243, 244, 245, 246, 247, 248, 249, 250, 251, 252, 253, 254, 255, 256, 257, 258, 259, 260, 261, 262, 263, 264, 265, 816, 817, 818, 819, 274, 275, 276, 277, 278, 279, 280, 820, 821, 822, 823, 285, 286, 287, 824, 825, 826, 827, 672, 673, 674, 675, 676, 677, 828, 829, 830, 831, 295, 296, 297, 298, 299, 300, 832, 833, 834, 835, 506, 507, 508, 897, 898, 899, 900, 901, 902, 903, 904, 905, 906, 907, 908, 909, 910] (by decide +kernel) (by decide +kernel)
set_option maxRecDepth 20000 in
theorem gL_law_X5_runScript : GoodIn wsL_law (wsV RL 167 RX5 yX5_runScript wsX5_runScript) := goodIn_app (goodIn_of _ (by decide +kernel)) ggL_law_X5_runScript
set_option maxRecDepth 20000 in
theorem ggL_law_L_simulate : GoodIn wsL_law wsL_simulate := goodIn_ca (goodIn_r _ [838, 96, 839, 840, 841, 2, 842, 102, 103, 18, 17, 843, 844, 485, 794, 607, 608, 16, 609, 69, 70, 71, 72, 73, 74, 75, 76, 38, 610, 406, 407, 408, 39, 40, 41, 42, 43, 845, 846, 847, 848, 484, 29, 849, 850, 172, 851, 852, 336, 337, 338, 339, 340, 341, 342, 853, 854, 855, 856, 425, 426, 427, 428, 429, 430, 431, 432, 343, 344, 345, 346, 351, 352, 353, 354, 433, 434, 435, 436, 437, 438, 439, 355, 356, 357, 358, 440, 441, 442, 28, 443, 363, 364, 365, 54, 366, 367, 368, 369, 370, 371, 372, 373, 374, 375, 53, 376, 55, 377, 56, 378, 57, 58, 379, 380, 381, 382, 383, 384, 385, 386, 387, 388, 389, 390, 391, 392, 393, 394, 395, 396, 397, 398, 399, 400, 401, 402, 403, 404, 59, 405, 409, 410, 411, 412, 413, 414, 415, 416, 417, 418, 419, 420, 421, 422, 423, 424, 330, 444, 445, 446, 447, 664, 665, 666, 667, 326, 327, 328, 329, 331, 332, 333, 334, 335, 347, 348, 349, 350, 359, 360, 361, 362, 890, 891, 892, 893, 894, 895, 896, 911, 912, 913, 914, 915, 916, 917, 918, 919, 920, 921, 922, 923, 924, 928, 929, 930, 931, 932, 933, 934, 935, 936, 937, 938, 939, 940] (by decide +kernel) (by decide +kernel)) (goodIn_sub (fun _ h => List.mem_append_left _ (List.mem_append_left _ (List.mem_append_right _ h))) (by decide +kernel))
set_option maxRecDepth 20000 in
theorem gL_law_L_simulate : GoodIn wsL_law (va_wsS RL 168 yL_simulate wsL_simulate) := goodIn_app (goodIn_of _ (by decide +kernel)) ggL_law_L_simulate
set_option maxRecDepth 20000 in
theorem ggL_law_X5_simulate : GoodIn wsL_law wsX5_simulate := goodIn_r _ [860, 861, 862, 863, 84, 83, 114, 115, 5, 116, 117, 118, 119, 120, 121, 623, 624, 625, 626, 288, 289, 290, 864, 865, 866, 867, 211, 212, 213, 218, 219, 220, 812, 813, 814, 815, 221, 222, 223, 224, 225, 226, 227, 228, 229, 230, 231, 232, 233, 234, 235, 236, 237, 238, 239, 240, 88, 241, 242, 243, 244, 245, 246, 247, 248, 249, 250, 251, 252, 253, 254, 255, 256, 257, 258, 259, 260, 261, 262, 263, 264, 265, 816, 817, 818, 819, 274, 275, 276, 277, 278, 279, 280, 820, 821, 822, 823, 285, 286, 287, 824, 825, 826, 827, 672, 673, 674, 675, 676, 677, 897, 898, 899, 900, 901, 902, 903, 904, 905, 906, 907, 908, 909, 910] (by decide +kernel) (by decide +kernel)
set_option maxRecDepth 20000 in
theorem gL_law_X5_simulate : GoodIn wsL_law (wsV RL 171 RX5 yX5_simulate wsX5_simulate) := goodIn_app (goodIn_of _ (by decide +kernel)) ggL_law_X5_simulate
set_option maxRecDepth 20000 in
theorem ggL_law_L_save : GoodIn wsL_law wsL_save := goodIn_ca (goodIn_r _ [870, 512, 871, 872, 873, 2, 874, 517, 518, 23, 17, 25, 485, 794, 607, 608, 16, 609, 69, 70, 71, 72, 73, 74, 75, 76, 38, 610, 406, 407, 408, 39, 40, 41, 42, 43, 890, 891, 892, 893, 894, 895, 896, 911, 912, 913, 914, 915, 916, 917, 918, 919, 920, 921, 922, 923, 924] (by decide +kernel) (by decide +kernel)) (goodIn_sub (fun _ h => List.mem_append_right _ h) (by decide +kernel))
set_option maxRecDepth 20000 in
theorem gL_law_L_save : GoodIn wsL_law (va_wsS RL 172 yL_save wsL_save) := goodIn_app (goodIn_of _ (by decide +kernel)) ggL_law_L_save
set_option maxRecDepth 20000 in
theorem ggL_law_X5_save : GoodIn wsL_law wsX5_save := goodIn_r _ [878, 83, 86, 87, 114, 115, 5, 116, 117, 118, 119, 120, 121, 288, 289, 290, 897, 898, 899, 900, 901, 902, 903, 904, 905, 906, 907, 908, 909, 910] (by decide +kernel) (by decide +kernel)
set_option maxRecDepth 20000 in
theorem gL_law_X5_save : GoodIn wsL_law (wsV RL 174 RX5 yX5_save wsX5_save) := goodIn_app (goodIn_of _ (by decide +kernel)) ggL_law_X5_save
set_option maxRecDepth 20000 in
theorem ggL_law_L_restore : GoodIn wsL_law wsL_restore := goodIn_ca (goodIn_ca (goodIn_r _ [881, 512, 97, 882, 883, 884, 2, 885, 517, 518, 104, 105, 25, 17, 23, 22, 485, 794, 607, 608, 16, 609, 69, 70, 71, 72, 73, 74, 75, 76, 38, 610, 406, 407, 408, 39, 40, 41, 42, 43, 313, 314, 315, 21, 316, 317, 890, 891, 892, 893, 894, 895, 896, 911, 912, 913, 914, 915, 916, 917, 918, 919, 920, 921, 922, 923, 924, 925, 926, 927] (by decide +kernel) (by decide +kernel)) (goodIn_sub (fun _ h => List.mem_append_right _ h) (by decide +kernel))) (goodIn_sub (fun _ h => List.mem_append_left _ (List.mem_append_right _ h)) (by decide +kernel))
set_option maxRecDepth 20000 in
theorem gL_law_L_restore : GoodIn wsL_law (va_wsS RL 175 yL_restore wsL_restore) := goodIn_app (goodIn_of _ (by decide +kernel)) ggL_law_L_restore
set_option maxRecDepth 20000 in
theorem ggL_law_X5_restore : GoodIn wsL_law wsX5_restore := goodIn_r _ [889, 87, 86, 83, 473, 114, 115, 5, 116, 117, 118, 119, 120, 121, 288, 289, 290, 897, 898, 899, 900, 901, 902, 903, 904, 905, 906, 907, 908, 909, 910] (by decide +kernel) (by decide +kernel)
set_option maxRecDepth 20000 in
theorem gL_law_X5_restore : GoodIn wsL_law (wsV RL 177 RX5 yX5_restore wsX5_restore) := goodIn_app (goodIn_of _ (by decide +kernel)) ggL_law_X5_restore
