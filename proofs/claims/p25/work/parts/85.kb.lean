set_option maxRecDepth 20000 in
theorem ggL_isBody_L_owner : GoodIn wsL_isBody wsL_owner := goodIn_r _ [5, 6] (by decide +kernel) (by decide +kernel)
set_option maxRecDepth 20000 in
theorem gL_isBody_L_owner : GoodIn wsL_isBody (va_wsS RL 50 yL_owner wsL_owner) := goodIn_app (goodIn_of _ (by decide +kernel)) ggL_isBody_L_owner
set_option maxRecDepth 20000 in
theorem ggL_isBody_L_firstOf : GoodIn wsL_isBody wsL_firstOf := goodIn_r _ [9, 10, 11, 4, 12, 2, 3, 5, 6, 13, 14, 15, 16, 17, 18, 19, 20, 21] (by decide +kernel) (by decide +kernel)
set_option maxRecDepth 20000 in
theorem gL_isBody_L_firstOf : GoodIn wsL_isBody (va_wsS RL 76 yL_firstOf wsL_firstOf) := goodIn_app (goodIn_of _ (by decide +kernel)) ggL_isBody_L_firstOf
set_option maxRecDepth 20000 in
theorem ggL_isBody_X7_orbits : GoodIn wsL_isBody wsX7_orbits := goodIn_ca (goodIn_r _ [26, 27, 28, 29, 30, 25, 31, 32, 33, 34, 35, 36, 37, 38, 39, 40, 41, 42, 43, 44, 45, 46, 47, 48, 49, 50, 51, 52, 53, 54, 55, 56, 57, 58, 59, 60, 61, 62, 63, 64, 65, 66, 67, 68, 69, 70, 71, 72, 73, 74, 75, 76, 77, 78, 79, 80, 81, 82, 83, 84, 85, 86, 87, 88, 89, 90, 91, 92, 93, 94, 95, 96, 97, 98, 99, 100, 101, 102, 103, 104, 105, 106, 107, 108, 109, 110, 111, 112, 113, 114, 115, 116, 117, 118, 119, 120, 121, 122, 123, 124, 125, 126, 127, 128, 129, 130, 131, 132, 133, 134, 135, 136, 137, 138, 139, 140, 141, 142, 143, 144, 370, 371, 372, 373, 374, 375, 376, 377, 378, 379, 380, 381, 382, 383, 384, 385, 386, 387, 388, 389, 390, 391, 392, 393, 394, 395, 396, 397, 398, 399] (by decide +kernel) (by decide +kernel)) (goodIn_sub (fun _ h => List.mem_cons_of_mem _ (List.mem_append_left _ (List.mem_append_left _ (List.mem_append_right _ h)))) (by decide +kernel))
set_option maxRecDepth 20000 in
theorem gL_isBody_X7_orbits : GoodIn wsL_isBody (wsV RL 80 RX7 yX7_orbits wsX7_orbits) := goodIn_app (goodIn_of _ (by decide +kernel)) ggL_isBody_X7_orbits
set_option maxRecDepth 20000 in
theorem ggL_isBody_X7_spread : GoodIn wsL_isBody wsX7_spread := goodIn_ca (goodIn_ca (goodIn_r _ [148, 27, 28, 29, 30, 25, 31, 32, 33, 149, 150, 151, 152, 153, 34, 35, 36, 37, 38, 39, 40, 41, 42, 43, 44, 45, 46, 47, 48, 49, 50, 51, 52, 53, 54, 55, 56, 57, 58, 59, 60, 61, 62, 63, 64, 65, 66, 67, 68, 69, 70, 71, 72, 73, 74, 75, 76, 77, 78, 79, 80, 81, 82, 83, 84, 85, 86, 87, 88, 89, 90, 91, 92, 93, 94, 95, 96, 97, 98, 99, 100, 101, 102, 103, 104, 105, 106, 107, 108, 109, 110, 111, 112, 113, 114, 115, 116, 117, 118, 119, 120, 121, 122, 123, 124, 125, 126, 127, 128, 129, 130, 131, 132, 133, 134, 135, 136, 137, 138, 139, 140, 154, 155, 156, 157, 158, 159, 160, 161, 162, 370, 371, 372, 373, 374, 375, 376, 377, 378, 379, 380, 381, 382, 383, 384, 385, 386, 387, 388, 389, 390, 391, 392, 393, 394, 395, 396, 397, 398, 399] (by decide +kernel) (by decide +kernel)) (goodIn_sub (fun _ h => List.mem_cons_of_mem _ (List.mem_append_left _ (List.mem_append_left _ (List.mem_append_right _ h)))) (by decide +kernel))) (goodIn_sub (fun _ h => List.mem_cons_of_mem _ (List.mem_append_left _ (List.mem_append_right _ h))) (by decide +kernel))
set_option maxRecDepth 20000 in
theorem gL_isBody_X7_spread : GoodIn wsL_isBody (wsV RL 83 RX7 yX7_spread wsX7_spread) := goodIn_app (goodIn_of _ (by decide +kernel)) ggL_isBody_X7_spread
set_option maxRecDepth 20000 in
theorem ggL_isBody_X7_ofBody : GoodIn wsL_isBody wsX7_ofBody := goodIn_ca (goodIn_ca (goodIn_r _ [166, 27, 56, 29, 30, 25, 31, 32, 33, 149, 150, 151, 152, 153, 167, 168, 169, 170, 55, 57, 58, 59, 60, 61, 62, 63, 64, 65, 66, 67, 68, 69, 70, 48, 71, 50, 72, 73, 74, 75, 76, 77, 78, 79, 80, 81, 82, 171, 172, 173, 174, 175, 176, 177, 178, 179, 180, 181, 182, 83, 84, 85, 86, 87, 88, 89, 90, 91, 92, 93, 94, 95, 183, 184, 185, 186, 111, 187, 188, 189, 190, 191, 192, 193, 194, 195, 196, 370, 371, 372, 373, 374, 375, 376, 377, 378, 379, 380, 381, 382, 383, 388, 389, 390, 391, 392, 393, 394, 395, 396, 397, 398, 399, 387] (by decide +kernel) (by decide +kernel)) (goodIn_sub (fun _ h => List.mem_cons_of_mem _ (List.mem_append_left _ (List.mem_append_left _ (List.mem_append_right _ h)))) (by decide +kernel))) (goodIn_sub (fun _ h => List.mem_cons_of_mem _ (List.mem_append_left _ (List.mem_append_right _ h))) (by decide +kernel))
set_option maxRecDepth 20000 in
theorem gL_isBody_X7_ofBody : GoodIn wsL_isBody (wsV RL 86 RX7 yX7_ofBody wsX7_ofBody) := goodIn_app (goodIn_of _ (by decide +kernel)) ggL_isBody_X7_ofBody
set_option maxRecDepth 20000 in
theorem ggL_isBody_L_looks : GoodIn wsL_isBody wsL_looks := goodIn_r _ [199, 10, 11, 4, 12, 2, 3, 5, 6, 13, 14, 15] (by decide +kernel) (by decide +kernel)
set_option maxRecDepth 20000 in
theorem gL_isBody_L_looks : GoodIn wsL_isBody (va_wsS RL 89 yL_looks wsL_looks) := goodIn_app (goodIn_of _ (by decide +kernel)) ggL_isBody_L_looks
set_option maxRecDepth 20000 in
theorem ggL_isBody_L_orbits : GoodIn wsL_isBody wsL_orbits := goodIn_r _ [202, 203, 10, 11, 4, 12, 2, 3, 5, 6, 13, 14, 15, 16, 17, 18, 19, 20, 21, 204, 205, 206, 207, 208, 209, 210, 211, 212] (by decide +kernel) (by decide +kernel)
set_option maxRecDepth 20000 in
theorem gL_isBody_L_orbits : GoodIn wsL_isBody (va_wsS RL 93 yL_orbits wsL_orbits) := goodIn_app (goodIn_of _ (by decide +kernel)) ggL_isBody_L_orbits
set_option maxRecDepth 20000 in
theorem ggL_isBody_X7_where : GoodIn wsL_isBody wsX7_where := goodIn_ca (goodIn_ca (goodIn_r _ [216, 152, 153, 27, 28, 29, 30, 25, 31, 32, 33, 149, 150, 151, 34, 35, 36, 37, 38, 39, 40, 41, 42, 43, 44, 45, 46, 47, 48, 49, 50, 51, 52, 53, 54, 55, 56, 57, 58, 59, 60, 61, 62, 63, 64, 65, 66, 67, 68, 69, 70, 71, 72, 73, 74, 75, 76, 77, 78, 79, 80, 81, 82, 83, 84, 85, 86, 87, 88, 89, 90, 91, 92, 93, 94, 95, 96, 97, 98, 99, 100, 101, 102, 103, 104, 105, 106, 107, 108, 109, 110, 111, 112, 113, 114, 115, 116, 117, 118, 119, 120, 121, 122, 123, 124, 125, 126, 127, 128, 129, 130, 131, 132, 133, 134, 135, 136, 137, 138, 139, 140, 217, 218, 219, 220, 158, 159, 160, 161, 162, 370, 371, 372, 373, 374, 375, 376, 377, 378, 379, 380, 381, 382, 383, 384, 385, 386, 387, 388, 389, 390, 391, 392, 393, 394, 395, 396, 397, 398, 399] (by decide +kernel) (by decide +kernel)) (goodIn_sub (fun _ h => List.mem_cons_of_mem _ (List.mem_append_left _ (List.mem_append_right _ h))) (by decide +kernel))) (goodIn_sub (fun _ h => List.mem_cons_of_mem _ (List.mem_append_left _ (List.mem_append_left _ (List.mem_append_right _ h)))) (by decide +kernel))
set_option maxRecDepth 20000 in
theorem gL_isBody_X7_where : GoodIn wsL_isBody (wsV RL 96 RX7 yX7_where wsX7_where) := goodIn_app (goodIn_of _ (by decide +kernel)) ggL_isBody_X7_where
set_option maxRecDepth 20000 in
theorem ggL_isBody_L_asks : GoodIn wsL_isBody wsL_asks := goodIn_ca (goodIn_ca (goodIn_ca (goodIn_r _ [223, 224, 225, 1, 226, 227, 228, 229, 25, 230, 231, 232, 56, 27, 29, 30, 31, 32, 33, 233, 234, 235, 64, 236, 66, 68, 69, 70, 48, 71, 50, 237, 238, 239, 240, 196, 241, 242, 243, 244, 245, 80, 81, 82, 246, 247, 248, 249, 34, 35, 36, 37, 28, 38, 39, 40, 41, 42, 43, 44, 45, 46, 47, 49, 51, 52, 53, 54, 55, 57, 58, 59, 60, 61, 62, 63, 65, 67, 72, 73, 74, 75, 76, 77, 78, 79, 83, 84, 85, 86, 87, 88, 89, 90, 91, 92, 93, 94, 95, 96, 97, 98, 99, 100, 101, 102, 103, 104, 105, 106, 107, 108, 109, 110, 111, 112, 113, 114, 115, 116, 117, 118, 119, 120, 121, 122, 123, 124, 125, 126, 127, 128, 129, 130, 131, 132, 133, 134, 135, 136, 137, 138, 139, 140, 250, 251, 252, 253, 254, 255, 256, 257, 258, 259, 260, 261, 262, 263, 264, 265, 266, 267, 268, 269, 270, 167, 168, 169, 170, 271, 272, 273, 274, 275, 276, 277, 278, 171, 172, 173, 174, 279, 280, 281, 282, 283, 284, 285, 286, 187, 188, 189, 190, 191, 287, 288, 289, 290, 141, 142, 143, 144, 291, 292, 293, 294, 179, 180, 181, 182, 295, 296, 297, 298, 299, 300, 301, 302, 303, 304, 305, 306, 307, 308, 309, 310, 311, 312, 313, 314, 315, 316, 317, 318, 319, 320, 321, 322, 323, 324, 325, 326, 327, 328, 329, 330, 158, 159, 160, 161, 162, 331, 332, 333, 334, 335, 336, 337, 338, 339, 340, 341, 342, 343, 344, 149, 150, 151, 152, 153, 370, 371, 372, 373, 374, 375, 390, 391, 392, 393, 394, 395, 396, 397, 398, 399, 376, 377, 378, 379, 380, 381, 382, 383, 387, 384, 385, 386, 388, 389] (by decide +kernel) (by decide +kernel)) (goodIn_sub (fun _ h => List.mem_cons_of_mem _ (List.mem_append_right _ h)) (by decide +kernel))) (goodIn_sub (fun _ h => List.mem_cons_of_mem _ (List.mem_append_left _ (List.mem_append_left _ (List.mem_append_right _ h)))) (by decide +kernel))) (goodIn_sub (fun _ h => List.mem_cons_of_mem _ (List.mem_append_left _ (List.mem_append_right _ h))) (by decide +kernel))
set_option maxRecDepth 20000 in
theorem gL_isBody_L_asks : GoodIn wsL_isBody (va_wsS RL 99 yL_asks wsL_asks) := goodIn_app (goodIn_of _ (by decide +kernel)) ggL_isBody_L_asks
set_option maxRecDepth 20000 in
theorem ggL_isBody_X7_orbit : GoodIn wsL_isBody wsX7_orbit := goodIn_ca (goodIn_ca (goodIn_r _ [344, 27, 28, 29, 30, 25, 31, 32, 33, 34, 35, 36, 37, 38, 39, 40, 41, 42, 43, 44, 45, 46, 47, 48, 49, 50, 51, 52, 53, 54, 55, 56, 57, 58, 59, 60, 61, 62, 63, 64, 65, 66, 67, 68, 69, 70, 71, 72, 73, 74, 75, 76, 77, 78, 79, 80, 81, 82, 83, 84, 85, 86, 87, 88, 89, 90, 91, 92, 93, 94, 95, 96, 97, 98, 99, 100, 101, 102, 103, 104, 105, 106, 107, 108, 109, 110, 111, 112, 113, 114, 115, 116, 117, 118, 119, 120, 121, 122, 123, 124, 125, 126, 127, 128, 129, 130, 131, 132, 133, 134, 135, 136, 137, 138, 139, 140, 141, 142, 143, 144, 149, 150, 151, 152, 153, 327, 328, 329, 330, 158, 159, 160, 161, 162, 331, 332, 333, 334, 370, 371, 372, 373, 374, 375, 376, 377, 378, 379, 380, 381, 382, 383, 384, 385, 386, 387, 388, 389, 390, 391, 392, 393, 394, 395, 396, 397, 398, 399] (by decide +kernel) (by decide +kernel)) (goodIn_sub (fun _ h => List.mem_cons_of_mem _ (List.mem_append_left _ (List.mem_append_left _ (List.mem_append_right _ h)))) (by decide +kernel))) (goodIn_sub (fun _ h => List.mem_cons_of_mem _ (List.mem_append_left _ (List.mem_append_right _ h))) (by decide +kernel))
set_option maxRecDepth 20000 in
theorem gL_isBody_X7_orbit : GoodIn wsL_isBody (wsV RL 32 RX7 yX7_orbit wsX7_orbit) := goodIn_app (goodIn_of _ (by decide +kernel)) ggL_isBody_X7_orbit
set_option maxRecDepth 20000 in
theorem ggL_isBody_L_isLook : GoodIn wsL_isBody wsL_isLook := goodIn_r _ [12, 2, 3, 4, 5, 6, 13, 14, 15] (by decide +kernel) (by decide +kernel)
set_option maxRecDepth 20000 in
theorem gL_isBody_L_isLook : GoodIn wsL_isBody (va_wsS RL 57 yL_isLook wsL_isLook) := goodIn_app (goodIn_of _ (by decide +kernel)) ggL_isBody_L_isLook
set_option maxRecDepth 20000 in
theorem ggL_isBody_L_nightOf : GoodIn wsL_isBody wsL_nightOf := goodIn_r _ [18, 19, 20, 4, 21] (by decide +kernel) (by decide +kernel)
set_option maxRecDepth 20000 in
theorem gL_isBody_L_nightOf : GoodIn wsL_isBody (va_wsS RL 61 yL_nightOf wsL_nightOf) := goodIn_app (goodIn_of _ (by decide +kernel)) ggL_isBody_L_nightOf
set_option maxRecDepth 20000 in
theorem ggL_isBody_L_placeBy : GoodIn wsL_isBody wsL_placeBy := goodIn_r _ [209] (by decide +kernel) (by decide +kernel)
set_option maxRecDepth 20000 in
theorem gL_isBody_L_placeBy : GoodIn wsL_isBody (va_wsS RL 68 yL_placeBy wsL_placeBy) := goodIn_app (goodIn_of _ (by decide +kernel)) ggL_isBody_L_placeBy
set_option maxRecDepth 20000 in
theorem ggL_isBody_L_placeOf : GoodIn wsL_isBody wsL_placeOf := goodIn_r _ [206] (by decide +kernel) (by decide +kernel)
set_option maxRecDepth 20000 in
theorem gL_isBody_L_placeOf : GoodIn wsL_isBody (va_wsS RL 65 yL_placeOf wsL_placeOf) := goodIn_app (goodIn_of _ (by decide +kernel)) ggL_isBody_L_placeOf
set_option maxRecDepth 20000 in
theorem ggL_isBody_L_plateOf : GoodIn wsL_isBody wsL_plateOf := goodIn_r _ [21] (by decide +kernel) (by decide +kernel)
set_option maxRecDepth 20000 in
theorem gL_isBody_L_plateOf : GoodIn wsL_isBody (va_wsS RL 44 yL_plateOf wsL_plateOf) := goodIn_app (goodIn_of _ (by decide +kernel)) ggL_isBody_L_plateOf
set_option maxRecDepth 20000 in
theorem ggL_isBody_L_isNear : GoodIn wsL_isBody wsL_isNear := goodIn_r _ [212] (by decide +kernel) (by decide +kernel)
set_option maxRecDepth 20000 in
theorem gL_isBody_L_isNear : GoodIn wsL_isBody (va_wsS RL 72 yL_isNear wsL_isNear) := goodIn_app (goodIn_of _ (by decide +kernel)) ggL_isBody_L_isNear
set_option maxRecDepth 20000 in
theorem ggL_isBody_X7_orbitsAnew : GoodIn wsL_isBody wsX7_orbitsAnew := goodIn_ca (goodIn_r _ [348, 27, 29, 30, 25, 31, 32, 33, 57, 58, 59, 60, 55, 56, 61, 62, 63, 64, 65, 66, 67, 68, 69, 70, 48, 71, 50, 72, 73, 74, 75, 76, 77, 78, 79, 80, 81, 82, 349, 350, 351, 352, 353, 83, 84, 85, 86, 87, 354, 355, 356, 357, 96, 97, 98, 91, 99, 100, 101, 95, 102, 103, 104, 105, 106, 107, 108, 109, 110, 111, 94, 88, 89, 90, 92, 93, 358, 116, 117, 118, 119, 120, 121, 122, 123, 359, 360, 361, 362, 363, 364, 365, 366, 367, 368, 369, 370, 371, 372, 373, 374, 375, 376, 377, 378, 379, 380, 381, 382, 383, 388, 389, 390, 391, 392, 393, 394, 395, 396, 397, 398, 399, 387] (by decide +kernel) (by decide +kernel)) (goodIn_sub (fun _ h => List.mem_cons_of_mem _ (List.mem_append_left _ (List.mem_append_left _ (List.mem_append_right _ h)))) (by decide +kernel))
set_option maxRecDepth 20000 in
theorem gL_isBody_X7_orbitsAnew : GoodIn wsL_isBody (wsV RL 103 RX7 yX7_orbitsAnew wsX7_orbitsAnew) := goodIn_app (goodIn_of _ (by decide +kernel)) ggL_isBody_X7_orbitsAnew
