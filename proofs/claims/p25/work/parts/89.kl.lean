set_option maxRecDepth 20000 in
theorem ggL_links_L_owner : GoodIn wsL_links wsL_owner := goodIn_r _ [6, 1] (by decide +kernel) (by decide +kernel)
set_option maxRecDepth 20000 in
theorem gL_links_L_owner : GoodIn wsL_links (va_wsS RL 50 yL_owner wsL_owner) := goodIn_app (goodIn_of _ (by decide +kernel)) ggL_links_L_owner
set_option maxRecDepth 20000 in
theorem ggL_links_L_asks : GoodIn wsL_links wsL_asks := goodIn_ca (goodIn_ca (goodIn_ca (goodIn_r _ [9, 10, 11, 12, 2, 13, 14, 15, 16, 17, 18, 19, 20, 21, 22, 23, 24, 25, 26, 27, 28, 29, 30, 31, 32, 33, 34, 35, 36, 37, 38, 39, 40, 41, 42, 43, 44, 45, 46, 47, 48, 49, 50, 51, 52, 53, 54, 55, 56, 57, 58, 59, 60, 61, 62, 63, 64, 65, 66, 67, 68, 69, 70, 71, 72, 73, 74, 75, 76, 77, 78, 79, 80, 81, 82, 83, 84, 85, 86, 87, 88, 89, 90, 91, 92, 93, 94, 95, 96, 97, 98, 99, 100, 101, 102, 103, 104, 105, 106, 107, 108, 109, 110, 111, 112, 113, 114, 115, 116, 117, 118, 119, 120, 121, 122, 123, 124, 125, 126, 127, 128, 129, 130, 131, 132, 133, 134, 135, 136, 137, 138, 139, 140, 141, 142, 143, 144, 145, 146, 147, 148, 149, 150, 151, 152, 153, 154, 155, 156, 157, 158, 159, 160, 161, 162, 163, 164, 165, 166, 167, 168, 169, 170, 171, 172, 173, 174, 175, 176, 177, 178, 179, 180, 181, 182, 183, 184, 185, 186, 187, 188, 189, 190, 191, 192, 193, 194, 195, 196, 197, 198, 199, 200, 201, 202, 203, 204, 205, 206, 207, 208, 209, 210, 211, 212, 213, 214, 215, 216, 217, 218, 219, 220, 221, 222, 223, 224, 225, 226, 227, 228, 229, 230, 231, 232, 233, 234, 235, 236, 237, 238, 239, 240, 241, 242, 243, 244, 245, 246, 247, 248, 249, 250, 251, 252, 253, 254, 255, 256, 257, 258, 259, 260, 261, 262, 263, 264, 265, 266, 267, 268, 269, 270, 271, 272, 273, 274, 275, 276, 277, 315, 316, 317, 318, 319, 320, 321, 322, 323, 324, 325, 326, 327, 328, 329, 330, 331, 332, 333, 334, 335, 336, 337, 338, 339, 340, 341, 342, 343, 344] (by decide +kernel) (by decide +kernel)) (goodIn_sub (fun _ h => List.mem_cons_of_mem _ (List.mem_append_left _ (List.mem_append_left _ (List.mem_append_right _ h)))) (by decide +kernel))) (goodIn_sub (fun _ h => List.mem_cons_of_mem _ (List.mem_append_left _ (List.mem_append_right _ h))) (by decide +kernel))) (goodIn_sub (fun _ h => List.mem_cons_of_mem _ (List.mem_append_right _ h)) (by decide +kernel))
set_option maxRecDepth 20000 in
theorem gL_links_L_asks : GoodIn wsL_links (va_wsS RL 99 yL_asks wsL_asks) := goodIn_app (goodIn_of _ (by decide +kernel)) ggL_links_L_asks
set_option maxRecDepth 20000 in
theorem ggL_links_L_isLook : GoodIn wsL_links wsL_isLook := goodIn_r _ [280, 3, 4, 5, 6, 1, 281, 282, 283] (by decide +kernel) (by decide +kernel)
set_option maxRecDepth 20000 in
theorem gL_links_L_isLook : GoodIn wsL_links (va_wsS RL 57 yL_isLook wsL_isLook) := goodIn_app (goodIn_of _ (by decide +kernel)) ggL_links_L_isLook
set_option maxRecDepth 20000 in
theorem ggL_links_L_plateOf : GoodIn wsL_links wsL_plateOf := goodIn_r _ [286] (by decide +kernel) (by decide +kernel)
set_option maxRecDepth 20000 in
theorem gL_links_L_plateOf : GoodIn wsL_links (va_wsS RL 44 yL_plateOf wsL_plateOf) := goodIn_app (goodIn_of _ (by decide +kernel)) ggL_links_L_plateOf
set_option maxRecDepth 20000 in
theorem ggL_links_L_orbits : GoodIn wsL_links wsL_orbits := goodIn_r _ [289, 290, 278, 279, 5, 280, 3, 4, 6, 1, 281, 282, 283, 291, 292, 293, 284, 285, 286, 294, 295, 296, 297, 298, 299, 300, 301, 302] (by decide +kernel) (by decide +kernel)
set_option maxRecDepth 20000 in
theorem gL_links_L_orbits : GoodIn wsL_links (va_wsS RL 93 yL_orbits wsL_orbits) := goodIn_app (goodIn_of _ (by decide +kernel)) ggL_links_L_orbits
set_option maxRecDepth 20000 in
theorem ggL_links_L_looks : GoodIn wsL_links wsL_looks := goodIn_r _ [305, 278, 279, 5, 280, 3, 4, 6, 1, 281, 282, 283] (by decide +kernel) (by decide +kernel)
set_option maxRecDepth 20000 in
theorem gL_links_L_looks : GoodIn wsL_links (va_wsS RL 89 yL_looks wsL_looks) := goodIn_app (goodIn_of _ (by decide +kernel)) ggL_links_L_looks
set_option maxRecDepth 20000 in
theorem ggL_links_X7_ofDot : GoodIn wsL_links wsX7_ofDot := goodIn_ca (goodIn_ca (goodIn_r _ [309, 20, 21, 22, 23, 16, 24, 25, 26, 273, 274, 275, 276, 277, 99, 100, 101, 102, 103, 104, 105, 106, 34, 35, 36, 37, 38, 107, 108, 109, 110, 111, 112, 113, 114, 115, 116, 310, 311, 312, 313, 314, 181, 182, 183, 30, 184, 32, 33, 315, 316, 317, 318, 319, 320, 321, 322, 323, 324, 325, 326, 327, 328, 329, 330, 339, 331, 332, 333, 334, 335, 336, 337, 338] (by decide +kernel) (by decide +kernel)) (goodIn_sub (fun _ h => List.mem_cons_of_mem _ (List.mem_append_left _ (List.mem_append_right _ h))) (by decide +kernel))) (goodIn_sub (fun _ h => List.mem_cons_of_mem _ (List.mem_append_right _ h)) (by decide +kernel))
set_option maxRecDepth 20000 in
theorem gL_links_X7_ofDot : GoodIn wsL_links (wsV RL 123 RX7 yX7_ofDot wsX7_ofDot) := goodIn_app (goodIn_of _ (by decide +kernel)) ggL_links_X7_ofDot
