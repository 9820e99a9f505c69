set_option maxRecDepth 20000 in
theorem ggL_joins_L_latest : GoodIn wsL_joins wsL_latest := goodIn_r _ [5] (by decide +kernel) (by decide +kernel)
set_option maxRecDepth 20000 in
theorem gL_joins_L_latest : GoodIn wsL_joins (va_wsS RL 126 yL_latest wsL_latest) := goodIn_app (goodIn_of _ (by decide +kernel)) ggL_joins_L_latest
set_option maxRecDepth 20000 in
theorem ggL_joins_L_asks : GoodIn wsL_joins wsL_asks := goodIn_ca (goodIn_ca (goodIn_ca (goodIn_r _ [8, 9, 10, 11, 1, 12, 13, 14, 15, 16, 17, 18, 19, 20, 21, 22, 23, 24, 25, 26, 27, 28, 29, 30, 31, 32, 33, 34, 35, 36, 37, 38, 39, 40, 41, 42, 43, 44, 45, 46, 47, 48, 49, 50, 51, 52, 53, 54, 55, 56, 57, 58, 59, 60, 61, 62, 63, 64, 65, 66, 67, 68, 69, 70, 71, 72, 73, 74, 75, 76, 77, 78, 79, 80, 81, 82, 83, 84, 85, 86, 87, 88, 89, 90, 91, 92, 93, 94, 95, 96, 97, 98, 99, 100, 101, 102, 103, 104, 105, 106, 107, 108, 109, 110, 111, 112, 113, 114, 115, 116, 117, 118, 119, 120, 121, 122, 123, 124, 125, 126, 127, 128, 129, 130, 131, 132, 133, 134, 135, 136, 137, 138, 139, 140, 141, 142, 143, 144, 145, 146, 147, 148, 149, 150, 151, 152, 153, 154, 155, 156, 157, 158, 159, 160, 161, 162, 163, 164, 165, 166, 167, 168, 169, 170, 171, 172, 173, 174, 175, 176, 177, 178, 179, 180, 181, 182, 183, 184, 185, 186, 187, 188, 189, 190, 191, 192, 193, 194, 195, 196, 197, 198, 199, 200, 201, 202, 203, 204, 205, 206, 207, 208, 209, 210, 211, 212, 213, 214, 215, 216, 217, 218, 219, 220, 221, 222, 223, 224, 225, 226, 227, 228, 229, 230, 231, 232, 233, 234, 235, 236, 237, 238, 239, 240, 241, 242, 243, 244, 245, 246, 247, 248, 249, 250, 251, 252, 253, 254, 255, 256, 257, 258, 259, 260, 261, 262, 263, 264, 265, 266, 267, 268, 269, 270, 271, 272, 273, 274, 275, 276, 328, 329, 330, 331, 332, 333, 334, 335, 336, 337, 338, 339, 340, 341, 342, 343, 344, 345, 346, 347, 348, 349, 350, 351, 352, 353, 354, 355, 356, 357] (by decide +kernel) (by decide +kernel)) (goodIn_sub (fun _ h => List.mem_cons_of_mem _ (List.mem_append_left _ (List.mem_append_left _ (List.mem_append_right _ h)))) (by decide +kernel))) (goodIn_sub (fun _ h => List.mem_cons_of_mem _ (List.mem_append_left _ (List.mem_append_right _ h))) (by decide +kernel))) (goodIn_sub (fun _ h => List.mem_cons_of_mem _ (List.mem_append_right _ h)) (by decide +kernel))
set_option maxRecDepth 20000 in
theorem gL_joins_L_asks : GoodIn wsL_joins (va_wsS RL 99 yL_asks wsL_asks) := goodIn_app (goodIn_of _ (by decide +kernel)) ggL_joins_L_asks
set_option maxRecDepth 20000 in
theorem ggL_joins_X7_ofBody : GoodIn wsL_joins wsX7_ofBody := goodIn_ca (goodIn_ca (goodIn_r _ [280, 20, 19, 21, 22, 15, 23, 24, 25, 272, 273, 274, 275, 276, 172, 173, 174, 175, 75, 76, 77, 78, 79, 80, 81, 82, 29, 83, 31, 84, 32, 33, 34, 35, 36, 37, 85, 86, 87, 88, 89, 90, 91, 92, 48, 49, 50, 184, 185, 186, 187, 281, 282, 283, 284, 213, 214, 215, 216, 93, 94, 95, 96, 97, 98, 99, 100, 101, 102, 103, 104, 105, 285, 286, 287, 288, 121, 196, 197, 198, 199, 200, 289, 290, 291, 292, 42, 328, 329, 330, 331, 332, 333, 344, 345, 346, 347, 348, 349, 350, 351, 356, 357, 334, 335, 336, 337, 338, 339, 340, 341, 342, 343, 352] (by decide +kernel) (by decide +kernel)) (goodIn_sub (fun _ h => List.mem_cons_of_mem _ (List.mem_append_left _ (List.mem_append_right _ h))) (by decide +kernel))) (goodIn_sub (fun _ h => List.mem_cons_of_mem _ (List.mem_append_right _ h)) (by decide +kernel))
set_option maxRecDepth 20000 in
theorem gL_joins_X7_ofBody : GoodIn wsL_joins (wsV RL 86 RX7 yX7_ofBody wsX7_ofBody) := goodIn_app (goodIn_of _ (by decide +kernel)) ggL_joins_X7_ofBody
set_option maxRecDepth 20000 in
theorem ggL_joins_L_share : GoodIn wsL_joins wsL_share := goodIn_r _ [295, 296, 297, 4, 298, 299, 300, 301, 302, 303, 304, 305, 306, 307, 308] (by decide +kernel) (by decide +kernel)
set_option maxRecDepth 20000 in
theorem gL_joins_L_share : GoodIn wsL_joins (va_wsS RL 129 yL_share wsL_share) := goodIn_app (goodIn_of _ (by decide +kernel)) ggL_joins_L_share
set_option maxRecDepth 20000 in
theorem ggL_joins_L_orbits : GoodIn wsL_joins wsL_orbits := goodIn_r _ [311, 312, 299, 300, 4, 301, 302, 303, 304, 305, 306, 307, 308, 313, 314, 315, 296, 297, 298, 316, 317, 318, 319, 320, 321, 322, 323, 324] (by decide +kernel) (by decide +kernel)
set_option maxRecDepth 20000 in
theorem gL_joins_L_orbits : GoodIn wsL_joins (va_wsS RL 93 yL_orbits wsL_orbits) := goodIn_app (goodIn_of _ (by decide +kernel)) ggL_joins_L_orbits
set_option maxRecDepth 20000 in
theorem ggL_joins_L_firstOf : GoodIn wsL_joins wsL_firstOf := goodIn_r _ [327, 299, 300, 4, 301, 302, 303, 304, 305, 306, 307, 308, 313, 314, 315, 296, 297, 298] (by decide +kernel) (by decide +kernel)
set_option maxRecDepth 20000 in
theorem gL_joins_L_firstOf : GoodIn wsL_joins (va_wsS RL 76 yL_firstOf wsL_firstOf) := goodIn_app (goodIn_of _ (by decide +kernel)) ggL_joins_L_firstOf
set_option maxRecDepth 20000 in
theorem ggL_joins_L_nightOf : GoodIn wsL_joins wsL_nightOf := goodIn_r _ [315, 296, 297, 4, 298] (by decide +kernel) (by decide +kernel)
set_option maxRecDepth 20000 in
theorem gL_joins_L_nightOf : GoodIn wsL_joins (va_wsS RL 61 yL_nightOf wsL_nightOf) := goodIn_app (goodIn_of _ (by decide +kernel)) ggL_joins_L_nightOf
