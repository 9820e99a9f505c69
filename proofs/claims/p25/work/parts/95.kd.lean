theorem goodIn_td {big ws : List Cond} (n : Nat) (h1 : GoodIn big (ws.take n)) (h2 : GoodIn big (ws.drop n)) : GoodIn big ws := fun w h => by
  rw [← List.take_append_drop n ws] at h
  exact (List.mem_append.mp h).elim (h1 w) (h2 w)
set_option maxRecDepth 20000 in
theorem ggL_desk_X7_init : GoodIn wsL_desk wsX7_init := (goodIn_td 80 (goodIn_r _ [11, 12, 13, 14, 15, 16, 17, 18, 19, 20, 21, 22, 23, 24, 25, 26, 27, 28, 29, 30, 31, 32, 33, 34, 35, 36, 37, 38, 39, 40, 41, 42, 43, 44, 45, 46, 47, 48, 49, 50, 51, 52, 53, 54, 55, 4, 56, 57, 58, 59, 60, 61, 62, 63, 64, 65, 66, 67, 68, 69, 70, 71, 72, 73, 74, 75, 76, 77, 78, 79, 80, 81, 82, 83, 84, 85, 86, 87, 88, 89] (by decide +kernel) (by decide +kernel)) (goodIn_r _ [90, 91, 92, 93, 94, 95, 96, 97, 98, 99, 612, 613, 614, 615, 616, 617, 618, 619, 620, 621, 606, 607, 608, 609, 610, 611, 622, 623, 624, 625, 626, 627, 628, 629, 630, 631, 632, 633, 634, 635, 636, 637, 638, 639, 640, 641] (by decide +kernel) (by decide +kernel)))
set_option maxRecDepth 20000 in
theorem gL_desk_X7_init : GoodIn wsL_desk (wsX7_init) := ggL_desk_X7_init
set_option maxRecDepth 20000 in
theorem ggL_desk_L_draw : GoodIn wsL_desk wsL_draw := goodIn_r _ [103, 104, 105, 106] (by decide +kernel) (by decide +kernel)
set_option maxRecDepth 20000 in
theorem gL_desk_L_draw : GoodIn wsL_desk (va_wsS RL 134 yL_draw wsL_draw) := goodIn_app (goodIn_of _ (by decide +kernel)) ggL_desk_L_draw
set_option maxRecDepth 20000 in
theorem ggL_desk_X7_observatory : GoodIn wsL_desk wsX7_observatory := goodIn_ca (goodIn_ca (goodIn_r _ [110, 111, 112, 18, 113, 114, 3, 115, 116, 117, 118, 119, 120, 17, 121, 45, 122, 123, 124, 125, 44, 126, 56, 606, 607, 608, 609, 610, 611, 612, 613, 614, 615, 616, 617, 618, 619, 620, 621, 641] (by decide +kernel) (by decide +kernel)) (goodIn_sub (fun _ h => List.mem_cons_of_mem _ (List.mem_append_left _ (List.mem_append_left _ (List.mem_append_right _ h)))) (by decide +kernel))) (goodIn_sub (fun _ h => List.mem_cons_of_mem _ (List.mem_append_left _ (List.mem_append_right _ h))) (by decide +kernel))
set_option maxRecDepth 20000 in
theorem gL_desk_X7_observatory : GoodIn wsL_desk (wsV RL 138 RX7 yX7_observatory wsX7_observatory) := goodIn_app (goodIn_of _ (by decide +kernel)) ggL_desk_X7_observatory
set_option maxRecDepth 20000 in
theorem ggL_desk_X7_plate : GoodIn wsL_desk wsX7_plate := goodIn_ca (goodIn_ca (goodIn_ca (goodIn_r _ [130, 111, 112, 18, 131, 132, 3, 133, 134, 135, 113, 114, 115, 116, 117, 136, 137, 138, 17, 139, 46, 140, 47, 123, 124, 125, 44, 126, 56, 606, 607, 608, 609, 610, 611, 612, 613, 614, 615, 616, 617, 618, 619, 620, 621, 641] (by decide +kernel) (by decide +kernel)) (goodIn_sub (fun _ h => List.mem_cons_of_mem _ (List.mem_append_left _ (List.mem_append_left _ (List.mem_append_right _ h)))) (by decide +kernel))) (goodIn_sub (fun _ h => List.mem_cons_of_mem _ (List.mem_append_right _ h)) (by decide +kernel))) (goodIn_sub (fun _ h => List.mem_cons_of_mem _ (List.mem_append_left _ (List.mem_append_right _ h))) (by decide +kernel))
set_option maxRecDepth 20000 in
theorem gL_desk_X7_plate : GoodIn wsL_desk (wsV RL 142 RX7 yX7_plate wsX7_plate) := goodIn_app (goodIn_of _ (by decide +kernel)) ggL_desk_X7_plate
set_option maxRecDepth 20000 in
theorem ggL_desk_L_placeBy : GoodIn wsL_desk wsL_placeBy := goodIn_r _ [143] (by decide +kernel) (by decide +kernel)
set_option maxRecDepth 20000 in
theorem gL_desk_L_placeBy : GoodIn wsL_desk (va_wsS RL 68 yL_placeBy wsL_placeBy) := goodIn_app (goodIn_of _ (by decide +kernel)) ggL_desk_L_placeBy
set_option maxRecDepth 20000 in
theorem ggL_desk_X7_dot : GoodIn wsL_desk wsX7_dot := goodIn_ca (goodIn_ca (goodIn_ca (goodIn_r _ [147, 111, 112, 18, 131, 132, 3, 133, 134, 135, 113, 114, 115, 116, 117, 148, 149, 150, 17, 151, 48, 152, 49, 50, 123, 124, 125, 44, 126, 56, 606, 607, 608, 609, 610, 611, 612, 613, 614, 615, 616, 617, 618, 619, 620, 621, 641] (by decide +kernel) (by decide +kernel)) (goodIn_sub (fun _ h => List.mem_cons_of_mem _ (List.mem_append_left _ (List.mem_append_left _ (List.mem_append_right _ h)))) (by decide +kernel))) (goodIn_sub (fun _ h => List.mem_cons_of_mem _ (List.mem_append_right _ h)) (by decide +kernel))) (goodIn_sub (fun _ h => List.mem_cons_of_mem _ (List.mem_append_left _ (List.mem_append_right _ h))) (by decide +kernel))
set_option maxRecDepth 20000 in
theorem gL_desk_X7_dot : GoodIn wsL_desk (wsV RL 145 RX7 yX7_dot wsX7_dot) := goodIn_app (goodIn_of _ (by decide +kernel)) ggL_desk_X7_dot
set_option maxRecDepth 20000 in
theorem ggL_desk_X7_shift : GoodIn wsL_desk wsX7_shift := goodIn_ca (goodIn_ca (goodIn_r _ [452, 18, 131, 132, 3, 133, 134, 135, 113, 114, 115, 116, 117, 453, 454, 455, 17, 456, 51, 227, 174, 175, 44, 176, 56, 123, 124, 125, 126, 606, 607, 608, 609, 610, 611, 612, 613, 614, 615, 616, 617, 618, 619, 620, 621, 641] (by decide +kernel) (by decide +kernel)) (goodIn_sub (fun _ h => List.mem_cons_of_mem _ (List.mem_append_right _ h)) (by decide +kernel))) (goodIn_sub (fun _ h => List.mem_cons_of_mem _ (List.mem_append_left _ (List.mem_append_right _ h))) (by decide +kernel))
set_option maxRecDepth 20000 in
theorem gL_desk_X7_shift : GoodIn wsL_desk (wsV RL 159 RX7 yX7_shift wsX7_shift) := goodIn_app (goodIn_of _ (by decide +kernel)) ggL_desk_X7_shift
set_option maxRecDepth 20000 in
theorem ggL_desk_L_owner : GoodIn wsL_desk wsL_owner := goodIn_r _ [158, 7] (by decide +kernel) (by decide +kernel)
set_option maxRecDepth 20000 in
theorem gL_desk_L_owner : GoodIn wsL_desk (va_wsS RL 50 yL_owner wsL_owner) := goodIn_app (goodIn_of _ (by decide +kernel)) ggL_desk_L_owner
set_option maxRecDepth 20000 in
theorem ggL_desk_X7_ofBody : GoodIn wsL_desk wsX7_ofBody := goodIn_ca (goodIn_ca ((goodIn_td 80 (goodIn_r _ [427, 22, 18, 131, 132, 3, 133, 134, 135, 113, 114, 115, 116, 117, 290, 291, 292, 293, 26, 204, 205, 206, 207, 208, 209, 210, 21, 211, 62, 63, 173, 174, 175, 44, 176, 56, 212, 213, 214, 25, 215, 76, 216, 217, 124, 125, 126, 302, 303, 304, 305, 428, 429, 430, 431, 330, 331, 332, 333, 218, 219, 220, 221, 222, 223, 224, 225, 17, 226, 47, 48, 227, 432, 433, 434, 435, 46, 314, 315, 316] (by decide +kernel) (by decide +kernel)) (goodIn_r _ [317, 65, 436, 437, 438, 439, 181, 606, 607, 608, 609, 610, 611, 622, 623, 624, 625, 626, 627, 628, 629, 630, 631, 612, 613, 614, 615, 616, 617, 618, 619, 620, 621, 641] (by decide +kernel) (by decide +kernel)))) (goodIn_sub (fun _ h => List.mem_cons_of_mem _ (List.mem_append_right _ h)) (by decide +kernel))) (goodIn_sub (fun _ h => List.mem_cons_of_mem _ (List.mem_append_left _ (List.mem_append_right _ h))) (by decide +kernel))
set_option maxRecDepth 20000 in
theorem gL_desk_X7_ofBody : GoodIn wsL_desk (wsV RL 86 RX7 yX7_ofBody wsX7_ofBody) := goodIn_app (goodIn_of _ (by decide +kernel)) ggL_desk_X7_ofBody
set_option maxRecDepth 20000 in
theorem ggL_desk_L_areFamilies : GoodIn wsL_desk wsL_areFamilies := goodIn_ca (goodIn_ca (goodIn_r _ [515, 516, 517, 518, 3, 519, 22, 38, 131, 132, 133, 134, 135, 113, 114, 115, 116, 117, 314, 315, 316, 21, 317, 65, 173, 174, 175, 44, 176, 56, 520, 521, 522, 37, 523, 98, 524, 525, 124, 125, 126, 526, 527, 528, 529, 530, 262, 263, 264, 531, 532, 533, 534, 535, 536, 537, 538, 539, 540, 66, 247, 248, 250, 251, 541, 542, 543, 544, 545, 546, 547, 548, 549, 181, 550, 551, 552, 553, 606, 607, 608, 609, 610, 611, 622, 623, 624, 625, 626, 627, 628, 629, 641, 640] (by decide +kernel) (by decide +kernel)) (goodIn_sub (fun _ h => List.mem_cons_of_mem _ (List.mem_append_right _ h)) (by decide +kernel))) (goodIn_sub (fun _ h => List.mem_cons_of_mem _ (List.mem_append_left _ (List.mem_append_right _ h))) (by decide +kernel))
set_option maxRecDepth 20000 in
theorem gL_desk_L_areFamilies : GoodIn wsL_desk (va_wsS RL 166 yL_areFamilies wsL_areFamilies) := goodIn_app (goodIn_of _ (by decide +kernel)) ggL_desk_L_areFamilies
set_option maxRecDepth 20000 in
theorem ggL_desk_L_isTurn : GoodIn wsL_desk wsL_isTurn := goodIn_ca ((goodIn_td 80 (goodIn_r _ [556, 407, 408, 102, 409, 386, 387, 388, 156, 157, 158, 7, 389, 390, 391, 398, 399, 400, 392, 393, 394, 557, 558, 559, 6, 560, 561, 562, 3, 563, 22, 26, 131, 132, 133, 134, 135, 204, 205, 206, 207, 18, 208, 209, 210, 21, 211, 62, 63, 173, 174, 175, 44, 176, 56, 212, 213, 214, 25, 215, 76, 216, 217, 124, 125, 126, 564, 565, 566, 567, 568, 569, 570, 571, 363, 262, 263, 264, 364, 266] (by decide +kernel) (by decide +kernel)) (goodIn_r _ [267, 218, 219, 220, 221, 222, 223, 224, 225, 17, 226, 47, 48, 227, 414, 415, 416, 417, 50, 606, 607, 608, 609, 610, 611, 622, 623, 624, 625, 626, 627, 628, 629, 630, 631, 612, 613, 614, 615, 616, 617, 618, 619, 620, 621, 641] (by decide +kernel) (by decide +kernel)))) (goodIn_sub (fun _ h => List.mem_cons_of_mem _ (List.mem_append_right _ h)) (by decide +kernel))
set_option maxRecDepth 20000 in
theorem gL_desk_L_isTurn : GoodIn wsL_desk (va_wsS RL 170 yL_isTurn wsL_isTurn) := goodIn_app (goodIn_of _ (by decide +kernel)) ggL_desk_L_isTurn
