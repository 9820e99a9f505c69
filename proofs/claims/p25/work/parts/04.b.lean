set_option maxRecDepth 20000 in
theorem ggX7_init_X6_init : GoodIn wsX7_init wsX6_init := goodIn_r _ [29, 30, 2, 3, 31, 32, 33, 34, 35, 36, 37, 38, 39, 40, 41, 42, 43, 44, 45, 46, 125, 90, 91, 92, 93, 94, 95, 96, 97, 98, 99] (by decide +kernel) (by decide +kernel)
set_option maxRecDepth 20000 in
theorem gX7_init_X6_init_n9 : GoodIn wsX7_init (wsX6_init) := ggX7_init_X6_init
set_option maxRecDepth 20000 in
theorem ggX7_init_X0_init : GoodIn wsX7_init wsX0_init := goodIn_r _ [49, 50, 2, 3, 51, 32, 33, 52, 53, 54, 55, 56, 57, 42, 43, 44, 45, 46, 58, 59, 60, 61, 125, 106, 107, 108, 109, 110, 111, 112, 113] (by decide +kernel) (by decide +kernel)
set_option maxRecDepth 20000 in
theorem gX7_init_X0_init : GoodIn wsX7_init (wsX0_init) := ggX7_init_X0_init
set_option maxRecDepth 20000 in
theorem ggX7_init_X2_init : GoodIn wsX7_init wsX2_init := goodIn_r _ [63, 64, 2, 3, 65, 32, 33, 66, 67, 42, 43, 44, 45, 46, 125, 114, 115] (by decide +kernel) (by decide +kernel)
set_option maxRecDepth 20000 in
theorem gX7_init_X2_init_n25 : GoodIn wsX7_init (wsX2_init) := ggX7_init_X2_init
set_option maxRecDepth 20000 in
theorem ggX7_init_X3_init : GoodIn wsX7_init wsX3_init := goodIn_r _ [69, 70, 2, 3, 71, 32, 33, 72, 73, 74, 75, 42, 43, 44, 45, 46, 125, 116, 117, 118] (by decide +kernel) (by decide +kernel)
set_option maxRecDepth 20000 in
theorem gX7_init_X3_init_n32 : GoodIn wsX7_init (wsX3_init) := ggX7_init_X3_init
set_option maxRecDepth 20000 in
theorem ggX7_init_X4_init : GoodIn wsX7_init wsX4_init := goodIn_r _ [77, 78, 2, 3, 79, 32, 33, 80, 81, 82, 83, 42, 43, 44, 45, 46, 125, 119, 120, 121, 122, 123] (by decide +kernel) (by decide +kernel)
set_option maxRecDepth 20000 in
theorem gX7_init_X4_init_n39 : GoodIn wsX7_init (wsX4_init) := ggX7_init_X4_init
set_option maxRecDepth 20000 in
theorem ggX7_init_X1_init : GoodIn wsX7_init wsX1_init := goodIn_r _ [85, 86, 2, 3, 87, 32, 33, 88, 89, 42, 43, 44, 45, 46, 125, 124] (by decide +kernel) (by decide +kernel)
set_option maxRecDepth 20000 in
theorem gX7_init_X1_init_n46 : GoodIn wsX7_init (wsX1_init) := ggX7_init_X1_init
theorem dX7_init_0 : decode cX7_init 0 = .ok (.aload_n 0, 1) := by decide +kernel
theorem dX7_init_1 : decode cX7_init 1 = .ok (.invokespecial 1, 3) := by decide +kernel
theorem dX7_init_4 : decode cX7_init 4 = .ok (.aload_n 0, 1) := by decide +kernel
theorem dX7_init_5 : decode cX7_init 5 = .ok (.new 7, 3) := by decide +kernel
theorem dX7_init_8 : decode cX7_init 8 = .ok (.dup, 1) := by decide +kernel
theorem dX7_init_9 : decode cX7_init 9 = .ok (.invokespecial 9, 3) := by decide +kernel
theorem dX7_init_12 : decode cX7_init 12 = .ok (.putfield 10, 3) := by decide +kernel
theorem dX7_init_15 : decode cX7_init 15 = .ok (.aload_n 0, 1) := by decide +kernel
theorem dX7_init_16 : decode cX7_init 16 = .ok (.new 16, 3) := by decide +kernel
theorem dX7_init_19 : decode cX7_init 19 = .ok (.dup, 1) := by decide +kernel
theorem dX7_init_20 : decode cX7_init 20 = .ok (.invokespecial 18, 3) := by decide +kernel
theorem dX7_init_23 : decode cX7_init 23 = .ok (.putfield 19, 3) := by decide +kernel
theorem dX7_init_26 : decode cX7_init 26 = .ok (.aload_n 0, 1) := by decide +kernel
theorem dX7_init_27 : decode cX7_init 27 = .ok (.new 23, 3) := by decide +kernel
theorem dX7_init_30 : decode cX7_init 30 = .ok (.dup, 1) := by decide +kernel
theorem dX7_init_31 : decode cX7_init 31 = .ok (.invokespecial 25, 3) := by decide +kernel
theorem dX7_init_34 : decode cX7_init 34 = .ok (.putfield 26, 3) := by decide +kernel
theorem dX7_init_37 : decode cX7_init 37 = .ok (.aload_n 0, 1) := by decide +kernel
theorem dX7_init_38 : decode cX7_init 38 = .ok (.new 30, 3) := by decide +kernel
theorem dX7_init_41 : decode cX7_init 41 = .ok (.dup, 1) := by decide +kernel
theorem dX7_init_42 : decode cX7_init 42 = .ok (.invokespecial 32, 3) := by decide +kernel
theorem dX7_init_45 : decode cX7_init 45 = .ok (.putfield 33, 3) := by decide +kernel
theorem dX7_init_48 : decode cX7_init 48 = .ok (.aload_n 0, 1) := by decide +kernel
theorem dX7_init_49 : decode cX7_init 49 = .ok (.new 37, 3) := by decide +kernel
theorem dX7_init_52 : decode cX7_init 52 = .ok (.dup, 1) := by decide +kernel
theorem dX7_init_53 : decode cX7_init 53 = .ok (.invokespecial 39, 3) := by decide +kernel
theorem dX7_init_56 : decode cX7_init 56 = .ok (.putfield 40, 3) := by decide +kernel
theorem dX7_init_59 : decode cX7_init 59 = .ok (.aload_n 0, 1) := by decide +kernel
theorem dX7_init_60 : decode cX7_init 60 = .ok (.new 44, 3) := by decide +kernel
theorem dX7_init_63 : decode cX7_init 63 = .ok (.dup, 1) := by decide +kernel
theorem dX7_init_64 : decode cX7_init 64 = .ok (.invokespecial 46, 3) := by decide +kernel
theorem dX7_init_67 : decode cX7_init 67 = .ok (.putfield 47, 3) := by decide +kernel
theorem dX7_init_70 : decode cX7_init 70 = .ok (.return_, 1) := by decide +kernel
set_option maxRecDepth 20000 in
theorem ggX7_observatory_X7_needWithin : GoodIn wsX7_observatory wsX7_needWithin := goodIn_ca (goodIn_r _ [7, 8, 9] (by decide +kernel) (by decide +kernel)) (goodIn_sub (fun _ h => List.mem_cons_of_mem _ (List.mem_append_right _ h)) (by decide +kernel))
set_option maxRecDepth 20000 in
theorem gX7_observatory_X7_needWithin : GoodIn wsX7_observatory (va_wsS RX7 51 yX7_needWithin wsX7_needWithin) := goodIn_app (goodIn_of _ (by decide +kernel)) ggX7_observatory_X7_needWithin
set_option maxRecDepth 20000 in
theorem ggX7_observatory_X6_addObservatory : GoodIn wsX7_observatory wsX6_addObservatory := goodIn_r _ [14, 15, 16, 17, 18, 19, 20, 21, 22, 29, 30, 31, 32, 33, 34, 35, 36, 37, 38, 39] (by decide +kernel) (by decide +kernel)
set_option maxRecDepth 20000 in
theorem gX7_observatory_X6_addObservatory : GoodIn wsX7_observatory (wsV RX7 66 RX6 yX6_addObservatory wsX6_addObservatory) := goodIn_app (goodIn_of _ (by decide +kernel)) ggX7_observatory_X6_addObservatory
theorem dX7_observatory_0 : decode cX7_observatory 0 = .ok (.iload_n 1, 1) := by decide +kernel
theorem dX7_observatory_1 : decode cX7_observatory 1 = .ok (.iconst 0, 1) := by decide +kernel
theorem dX7_observatory_2 : decode cX7_observatory 2 = .ok (.bipush 9, 2) := by decide +kernel
theorem dX7_observatory_4 : decode cX7_observatory 4 = .ok (.invokestatic 51, 3) := by decide +kernel
theorem dX7_observatory_7 : decode cX7_observatory 7 = .ok (.aload_n 0, 1) := by decide +kernel
theorem dX7_observatory_8 : decode cX7_observatory 8 = .ok (.getfield 10, 3) := by decide +kernel
theorem dX7_observatory_11 : decode cX7_observatory 11 = .ok (.getfield 55, 3) := by decide +kernel
theorem dX7_observatory_14 : decode cX7_observatory 14 = .ok (.bipush 6, 2) := by decide +kernel
theorem dX7_observatory_16 : decode cX7_observatory 16 = .ok (.if_icmp .lt 13, 3) := by decide +kernel
theorem dX7_observatory_19 : decode cX7_observatory 19 = .ok (.new 59, 3) := by decide +kernel
theorem dX7_observatory_22 : decode cX7_observatory 22 = .ok (.dup, 1) := by decide +kernel
theorem dX7_observatory_23 : decode cX7_observatory 23 = .ok (.ldc 61, 2) := by decide +kernel
theorem dX7_observatory_25 : decode cX7_observatory 25 = .ok (.invokespecial 63, 3) := by decide +kernel
theorem dX7_observatory_28 : decode cX7_observatory 28 = .ok (.athrow, 1) := by decide +kernel
theorem dX7_observatory_29 : decode cX7_observatory 29 = .ok (.aload_n 0, 1) := by decide +kernel
theorem dX7_observatory_30 : decode cX7_observatory 30 = .ok (.getfield 10, 3) := by decide +kernel
theorem dX7_observatory_33 : decode cX7_observatory 33 = .ok (.iload_n 1, 1) := by decide +kernel
theorem dX7_observatory_34 : decode cX7_observatory 34 = .ok (.invokevirtual 66, 3) := by decide +kernel
theorem dX7_observatory_37 : decode cX7_observatory 37 = .ok (.ireturn, 1) := by decide +kernel
set_option maxRecDepth 20000 in
theorem ggX7_plate_X7_needOneOf : GoodIn wsX7_plate wsX7_needOneOf := goodIn_ca (goodIn_r _ [7, 8, 9] (by decide +kernel) (by decide +kernel)) (goodIn_sub (fun _ h => List.mem_cons_of_mem _ (List.mem_append_left _ (List.mem_append_right _ h))) (by decide +kernel))
set_option maxRecDepth 20000 in
theorem gX7_plate_X7_needOneOf : GoodIn wsX7_plate (va_wsS RX7 70 yX7_needOneOf wsX7_needOneOf) := goodIn_app (goodIn_of _ (by decide +kernel)) ggX7_plate_X7_needOneOf
set_option maxRecDepth 20000 in
theorem ggX7_plate_X7_needWithin : GoodIn wsX7_plate wsX7_needWithin := goodIn_ca (goodIn_r _ [12, 13, 14] (by decide +kernel) (by decide +kernel)) (goodIn_sub (fun _ h => List.mem_cons_of_mem _ (List.mem_append_right _ h)) (by decide +kernel))
set_option maxRecDepth 20000 in
theorem gX7_plate_X7_needWithin : GoodIn wsX7_plate (va_wsS RX7 51 yX7_needWithin wsX7_needWithin) := goodIn_app (goodIn_of _ (by decide +kernel)) ggX7_plate_X7_needWithin
set_option maxRecDepth 20000 in
theorem ggX7_plate_X6_addPlate : GoodIn wsX7_plate wsX6_addPlate := goodIn_r _ [19, 20, 21, 22, 23, 24, 25, 26, 27, 28, 35, 36, 37, 38, 39, 40, 41, 42, 43, 44, 45] (by decide +kernel) (by decide +kernel)
set_option maxRecDepth 20000 in
theorem gX7_plate_X6_addPlate : GoodIn wsX7_plate (wsV RX7 79 RX6 yX6_addPlate wsX6_addPlate) := goodIn_app (goodIn_of _ (by decide +kernel)) ggX7_plate_X6_addPlate
theorem dX7_plate_0 : decode cX7_plate 0 = .ok (.iload_n 1, 1) := by decide +kernel
theorem dX7_plate_1 : decode cX7_plate 1 = .ok (.aload_n 0, 1) := by decide +kernel
theorem dX7_plate_2 : decode cX7_plate 2 = .ok (.getfield 10, 3) := by decide +kernel
theorem dX7_plate_5 : decode cX7_plate 5 = .ok (.getfield 55, 3) := by decide +kernel
theorem dX7_plate_8 : decode cX7_plate 8 = .ok (.invokestatic 70, 3) := by decide +kernel
theorem dX7_plate_11 : decode cX7_plate 11 = .ok (.iload_n 2, 1) := by decide +kernel
theorem dX7_plate_12 : decode cX7_plate 12 = .ok (.iconst 0, 1) := by decide +kernel
theorem dX7_plate_13 : decode cX7_plate 13 = .ok (.sipush 999, 3) := by decide +kernel
theorem dX7_plate_16 : decode cX7_plate 16 = .ok (.invokestatic 51, 3) := by decide +kernel
theorem dX7_plate_19 : decode cX7_plate 19 = .ok (.aload_n 0, 1) := by decide +kernel
theorem dX7_plate_20 : decode cX7_plate 20 = .ok (.getfield 10, 3) := by decide +kernel
theorem dX7_plate_23 : decode cX7_plate 23 = .ok (.getfield 74, 3) := by decide +kernel
theorem dX7_plate_26 : decode cX7_plate 26 = .ok (.bipush 30, 2) := by decide +kernel
theorem dX7_plate_28 : decode cX7_plate 28 = .ok (.if_icmp .lt 13, 3) := by decide +kernel
theorem dX7_plate_31 : decode cX7_plate 31 = .ok (.new 59, 3) := by decide +kernel
theorem dX7_plate_34 : decode cX7_plate 34 = .ok (.dup, 1) := by decide +kernel
theorem dX7_plate_35 : decode cX7_plate 35 = .ok (.ldc 77, 2) := by decide +kernel
theorem dX7_plate_37 : decode cX7_plate 37 = .ok (.invokespecial 63, 3) := by decide +kernel
theorem dX7_plate_40 : decode cX7_plate 40 = .ok (.athrow, 1) := by decide +kernel
theorem dX7_plate_41 : decode cX7_plate 41 = .ok (.aload_n 0, 1) := by decide +kernel
theorem dX7_plate_42 : decode cX7_plate 42 = .ok (.getfield 10, 3) := by decide +kernel
theorem dX7_plate_45 : decode cX7_plate 45 = .ok (.iload_n 1, 1) := by decide +kernel
theorem dX7_plate_46 : decode cX7_plate 46 = .ok (.iload_n 2, 1) := by decide +kernel
theorem dX7_plate_47 : decode cX7_plate 47 = .ok (.invokevirtual 79, 3) := by decide +kernel
theorem dX7_plate_50 : decode cX7_plate 50 = .ok (.ireturn, 1) := by decide +kernel
set_option maxRecDepth 20000 in
theorem ggX7_dot_X7_needOneOf : GoodIn wsX7_dot wsX7_needOneOf := goodIn_ca (goodIn_r _ [7, 8, 9] (by decide +kernel) (by decide +kernel)) (goodIn_sub (fun _ h => List.mem_cons_of_mem _ (List.mem_append_left _ (List.mem_append_right _ h))) (by decide +kernel))
set_option maxRecDepth 20000 in
theorem gX7_dot_X7_needOneOf : GoodIn wsX7_dot (va_wsS RX7 70 yX7_needOneOf wsX7_needOneOf) := goodIn_app (goodIn_of _ (by decide +kernel)) ggX7_dot_X7_needOneOf
set_option maxRecDepth 20000 in
theorem ggX7_dot_X7_needWithin : GoodIn wsX7_dot wsX7_needWithin := goodIn_ca (goodIn_r _ [12, 13, 14] (by decide +kernel) (by decide +kernel)) (goodIn_sub (fun _ h => List.mem_cons_of_mem _ (List.mem_append_right _ h)) (by decide +kernel))
set_option maxRecDepth 20000 in
theorem gX7_dot_X7_needWithin : GoodIn wsX7_dot (va_wsS RX7 51 yX7_needWithin wsX7_needWithin) := goodIn_app (goodIn_of _ (by decide +kernel)) ggX7_dot_X7_needWithin
set_option maxRecDepth 20000 in
theorem ggX7_dot_X6_addDot : GoodIn wsX7_dot wsX6_addDot := goodIn_r _ [19, 20, 21, 22, 23, 24, 25, 26, 27, 28, 29, 36, 37, 38, 39, 40, 41, 42, 43, 44, 45, 46] (by decide +kernel) (by decide +kernel)
set_option maxRecDepth 20000 in
theorem gX7_dot_X6_addDot : GoodIn wsX7_dot (wsV RX7 88 RX6 yX6_addDot wsX6_addDot) := goodIn_app (goodIn_of _ (by decide +kernel)) ggX7_dot_X6_addDot
theorem dX7_dot_0 : decode cX7_dot 0 = .ok (.iload_n 1, 1) := by decide +kernel
theorem dX7_dot_1 : decode cX7_dot 1 = .ok (.aload_n 0, 1) := by decide +kernel
theorem dX7_dot_2 : decode cX7_dot 2 = .ok (.getfield 10, 3) := by decide +kernel
theorem dX7_dot_5 : decode cX7_dot 5 = .ok (.getfield 74, 3) := by decide +kernel
theorem dX7_dot_8 : decode cX7_dot 8 = .ok (.invokestatic 70, 3) := by decide +kernel
theorem dX7_dot_11 : decode cX7_dot 11 = .ok (.iload_n 2, 1) := by decide +kernel
theorem dX7_dot_12 : decode cX7_dot 12 = .ok (.iconst 0, 1) := by decide +kernel
theorem dX7_dot_13 : decode cX7_dot 13 = .ok (.sipush 3599, 3) := by decide +kernel
theorem dX7_dot_16 : decode cX7_dot 16 = .ok (.invokestatic 51, 3) := by decide +kernel
theorem dX7_dot_19 : decode cX7_dot 19 = .ok (.iload_n 3, 1) := by decide +kernel
theorem dX7_dot_20 : decode cX7_dot 20 = .ok (.iconst 0, 1) := by decide +kernel
theorem dX7_dot_21 : decode cX7_dot 21 = .ok (.bipush 99, 2) := by decide +kernel
theorem dX7_dot_23 : decode cX7_dot 23 = .ok (.invokestatic 51, 3) := by decide +kernel
theorem dX7_dot_26 : decode cX7_dot 26 = .ok (.aload_n 0, 1) := by decide +kernel
theorem dX7_dot_27 : decode cX7_dot 27 = .ok (.getfield 10, 3) := by decide +kernel
theorem dX7_dot_30 : decode cX7_dot 30 = .ok (.getfield 83, 3) := by decide +kernel
theorem dX7_dot_33 : decode cX7_dot 33 = .ok (.bipush 60, 2) := by decide +kernel
theorem dX7_dot_35 : decode cX7_dot 35 = .ok (.if_icmp .lt 13, 3) := by decide +kernel
theorem dX7_dot_38 : decode cX7_dot 38 = .ok (.new 59, 3) := by decide +kernel
theorem dX7_dot_41 : decode cX7_dot 41 = .ok (.dup, 1) := by decide +kernel
theorem dX7_dot_42 : decode cX7_dot 42 = .ok (.ldc 86, 2) := by decide +kernel
theorem dX7_dot_44 : decode cX7_dot 44 = .ok (.invokespecial 63, 3) := by decide +kernel
theorem dX7_dot_47 : decode cX7_dot 47 = .ok (.athrow, 1) := by decide +kernel
theorem dX7_dot_48 : decode cX7_dot 48 = .ok (.aload_n 0, 1) := by decide +kernel
theorem dX7_dot_49 : decode cX7_dot 49 = .ok (.getfield 10, 3) := by decide +kernel
theorem dX7_dot_52 : decode cX7_dot 52 = .ok (.iload_n 1, 1) := by decide +kernel
theorem dX7_dot_53 : decode cX7_dot 53 = .ok (.iload_n 2, 1) := by decide +kernel
theorem dX7_dot_54 : decode cX7_dot 54 = .ok (.iload_n 3, 1) := by decide +kernel
theorem dX7_dot_55 : decode cX7_dot 55 = .ok (.invokevirtual 88, 3) := by decide +kernel
theorem dX7_dot_58 : decode cX7_dot 58 = .ok (.ireturn, 1) := by decide +kernel
set_option maxRecDepth 20000 in
theorem ggX7_shift_X7_needOneOf : GoodIn wsX7_shift wsX7_needOneOf := goodIn_ca (goodIn_r _ [5, 6, 7] (by decide +kernel) (by decide +kernel)) (goodIn_sub (fun _ h => List.mem_cons_of_mem _ (List.mem_append_left _ (List.mem_append_right _ h))) (by decide +kernel))
set_option maxRecDepth 20000 in
theorem gX7_shift_X7_needOneOf : GoodIn wsX7_shift (va_wsS RX7 70 yX7_needOneOf wsX7_needOneOf) := goodIn_app (goodIn_of _ (by decide +kernel)) ggX7_shift_X7_needOneOf
set_option maxRecDepth 20000 in
theorem ggX7_shift_X7_needWithin : GoodIn wsX7_shift wsX7_needWithin := goodIn_ca (goodIn_r _ [10, 11, 12] (by decide +kernel) (by decide +kernel)) (goodIn_sub (fun _ h => List.mem_cons_of_mem _ (List.mem_append_right _ h)) (by decide +kernel))
set_option maxRecDepth 20000 in
theorem gX7_shift_X7_needWithin : GoodIn wsX7_shift (va_wsS RX7 51 yX7_needWithin wsX7_needWithin) := goodIn_app (goodIn_of _ (by decide +kernel)) ggX7_shift_X7_needWithin
set_option maxRecDepth 20000 in
theorem ggX7_shift_X6_replaceShift : GoodIn wsX7_shift wsX6_replaceShift := goodIn_r _ [17, 18, 19, 20, 21, 22, 23, 24, 25, 26, 27, 28, 35, 36, 37, 38, 39, 40, 41, 42, 43, 44, 45] (by decide +kernel) (by decide +kernel)
set_option maxRecDepth 20000 in
theorem gX7_shift_X6_replaceShift : GoodIn wsX7_shift (wsV RX7 92 RX6 yX6_replaceShift wsX6_replaceShift) := goodIn_app (goodIn_of _ (by decide +kernel)) ggX7_shift_X6_replaceShift
theorem dX7_shift_0 : decode cX7_shift 0 = .ok (.iload_n 1, 1) := by decide +kernel
theorem dX7_shift_1 : decode cX7_shift 1 = .ok (.bipush 9, 2) := by decide +kernel
theorem dX7_shift_3 : decode cX7_shift 3 = .ok (.invokestatic 70, 3) := by decide +kernel
theorem dX7_shift_6 : decode cX7_shift 6 = .ok (.iload_n 2, 1) := by decide +kernel
theorem dX7_shift_7 : decode cX7_shift 7 = .ok (.bipush (-9), 2) := by decide +kernel
theorem dX7_shift_9 : decode cX7_shift 9 = .ok (.bipush 9, 2) := by decide +kernel
theorem dX7_shift_11 : decode cX7_shift 11 = .ok (.invokestatic 51, 3) := by decide +kernel
theorem dX7_shift_14 : decode cX7_shift 14 = .ok (.aload_n 0, 1) := by decide +kernel
theorem dX7_shift_15 : decode cX7_shift 15 = .ok (.getfield 10, 3) := by decide +kernel
theorem dX7_shift_18 : decode cX7_shift 18 = .ok (.iload_n 1, 1) := by decide +kernel
theorem dX7_shift_19 : decode cX7_shift 19 = .ok (.iload_n 2, 1) := by decide +kernel
theorem dX7_shift_20 : decode cX7_shift 20 = .ok (.invokevirtual 92, 3) := by decide +kernel
theorem dX7_shift_23 : decode cX7_shift 23 = .ok (.ireturn, 1) := by decide +kernel
set_option maxRecDepth 20000 in
theorem ggX7_ofDot_X7_needOneOf : GoodIn wsX7_ofDot wsX7_needOneOf := goodIn_ca (goodIn_r _ [6, 7, 8] (by decide +kernel) (by decide +kernel)) (goodIn_sub (fun _ h => List.mem_cons_of_mem _ (List.mem_append_left _ (List.mem_append_right _ h))) (by decide +kernel))
set_option maxRecDepth 20000 in
theorem gX7_ofDot_X7_needOneOf : GoodIn wsX7_ofDot (va_wsS RX7 70 yX7_needOneOf wsX7_needOneOf) := goodIn_app (goodIn_of _ (by decide +kernel)) ggX7_ofDot_X7_needOneOf
set_option maxRecDepth 20000 in
theorem ggX7_ofDot_X7_needWithin : GoodIn wsX7_ofDot wsX7_needWithin := goodIn_ca (goodIn_r _ [11, 12, 13] (by decide +kernel) (by decide +kernel)) (goodIn_sub (fun _ h => List.mem_cons_of_mem _ (List.mem_append_right _ h)) (by decide +kernel))
set_option maxRecDepth 20000 in
theorem gX7_ofDot_X7_needWithin : GoodIn wsX7_ofDot (va_wsS RX7 51 yX7_needWithin wsX7_needWithin) := goodIn_app (goodIn_of _ (by decide +kernel)) ggX7_ofDot_X7_needWithin
set_option maxRecDepth 20000 in
theorem ggX7_ofDot_X6_nightOf : GoodIn wsX7_ofDot wsX6_nightOf := goodIn_r _ [18, 19, 20, 21, 22, 23, 24, 25, 26, 55, 56, 57, 58, 59, 60, 61, 62, 63, 64, 65] (by decide +kernel) (by decide +kernel)
set_option maxRecDepth 20000 in
theorem gX7_ofDot_X6_nightOf : GoodIn wsX7_ofDot (wsV RX7 95 RX6 yX6_nightOf wsX6_nightOf) := goodIn_app (goodIn_of _ (by decide +kernel)) ggX7_ofDot_X6_nightOf
set_option maxRecDepth 20000 in
theorem ggX7_ofDot_X6_truePlaceOf : GoodIn wsX7_ofDot wsX6_truePlaceOf := goodIn_r _ [30, 31, 32, 21, 22, 23, 24, 25, 26, 33, 34, 35, 36, 55, 56, 57, 58, 59, 60, 61, 62, 63, 64, 65] (by decide +kernel) (by decide +kernel)
set_option maxRecDepth 20000 in
theorem gX7_ofDot_X6_truePlaceOf : GoodIn wsX7_ofDot (wsV RX7 98 RX6 yX6_truePlaceOf wsX6_truePlaceOf) := goodIn_app (goodIn_of _ (by decide +kernel)) ggX7_ofDot_X6_truePlaceOf
set_option maxRecDepth 20000 in
theorem ggX7_ofDot_X6_lightOf : GoodIn wsX7_ofDot wsX6_lightOf := goodIn_r _ [40, 41, 21, 22, 23, 24, 25, 26, 55, 56, 57, 58, 59, 60, 61, 62, 63, 64, 65] (by decide +kernel) (by decide +kernel)
set_option maxRecDepth 20000 in
theorem gX7_ofDot_X6_lightOf : GoodIn wsX7_ofDot (wsV RX7 101 RX6 yX6_lightOf wsX6_lightOf) := goodIn_app (goodIn_of _ (by decide +kernel)) ggX7_ofDot_X6_lightOf
set_option maxRecDepth 20000 in
theorem ggX7_ofDot_X0_ownerOf : GoodIn wsX7_ofDot wsX0_ownerOf := goodIn_r _ [46, 47, 48, 22, 23, 24, 25, 26, 66, 67, 68, 69, 70, 71, 72, 73, 65] (by decide +kernel) (by decide +kernel)
set_option maxRecDepth 20000 in
theorem gX7_ofDot_X0_ownerOf : GoodIn wsX7_ofDot (wsV RX7 104 RX0 yX0_ownerOf wsX0_ownerOf) := goodIn_app (goodIn_of _ (by decide +kernel)) ggX7_ofDot_X0_ownerOf
theorem dX7_ofDot_0 : decode cX7_ofDot 0 = .ok (.iload_n 1, 1) := by decide +kernel
theorem dX7_ofDot_1 : decode cX7_ofDot 1 = .ok (.aload_n 0, 1) := by decide +kernel
theorem dX7_ofDot_2 : decode cX7_ofDot 2 = .ok (.getfield 10, 3) := by decide +kernel
theorem dX7_ofDot_5 : decode cX7_ofDot 5 = .ok (.getfield 83, 3) := by decide +kernel
theorem dX7_ofDot_8 : decode cX7_ofDot 8 = .ok (.invokestatic 70, 3) := by decide +kernel
theorem dX7_ofDot_11 : decode cX7_ofDot 11 = .ok (.iload_n 2, 1) := by decide +kernel
theorem dX7_ofDot_12 : decode cX7_ofDot 12 = .ok (.iconst 0, 1) := by decide +kernel
theorem dX7_ofDot_13 : decode cX7_ofDot 13 = .ok (.iconst 3, 1) := by decide +kernel
theorem dX7_ofDot_14 : decode cX7_ofDot 14 = .ok (.invokestatic 51, 3) := by decide +kernel
theorem dX7_ofDot_17 : decode cX7_ofDot 17 = .ok (.iload_n 2, 1) := by decide +kernel
theorem dX7_ofDot_18 : decode cX7_ofDot 18 = .ok (.tableswitch 53 0 2 #[26, 35, 44], 26) := by decide +kernel
theorem dX7_ofDot_44 : decode cX7_ofDot 44 = .ok (.aload_n 0, 1) := by decide +kernel
theorem dX7_ofDot_45 : decode cX7_ofDot 45 = .ok (.getfield 10, 3) := by decide +kernel
theorem dX7_ofDot_48 : decode cX7_ofDot 48 = .ok (.iload_n 1, 1) := by decide +kernel
theorem dX7_ofDot_49 : decode cX7_ofDot 49 = .ok (.invokevirtual 95, 3) := by decide +kernel
theorem dX7_ofDot_52 : decode cX7_ofDot 52 = .ok (.ireturn, 1) := by decide +kernel
theorem dX7_ofDot_53 : decode cX7_ofDot 53 = .ok (.aload_n 0, 1) := by decide +kernel
theorem dX7_ofDot_54 : decode cX7_ofDot 54 = .ok (.getfield 10, 3) := by decide +kernel
theorem dX7_ofDot_57 : decode cX7_ofDot 57 = .ok (.iload_n 1, 1) := by decide +kernel
theorem dX7_ofDot_58 : decode cX7_ofDot 58 = .ok (.invokevirtual 98, 3) := by decide +kernel
theorem dX7_ofDot_61 : decode cX7_ofDot 61 = .ok (.ireturn, 1) := by decide +kernel
theorem dX7_ofDot_62 : decode cX7_ofDot 62 = .ok (.aload_n 0, 1) := by decide +kernel
theorem dX7_ofDot_63 : decode cX7_ofDot 63 = .ok (.getfield 10, 3) := by decide +kernel
theorem dX7_ofDot_66 : decode cX7_ofDot 66 = .ok (.iload_n 1, 1) := by decide +kernel
theorem dX7_ofDot_67 : decode cX7_ofDot 67 = .ok (.invokevirtual 101, 3) := by decide +kernel
theorem dX7_ofDot_70 : decode cX7_ofDot 70 = .ok (.ireturn, 1) := by decide +kernel
theorem dX7_ofDot_71 : decode cX7_ofDot 71 = .ok (.aload_n 0, 1) := by decide +kernel
theorem dX7_ofDot_72 : decode cX7_ofDot 72 = .ok (.getfield 19, 3) := by decide +kernel
theorem dX7_ofDot_75 : decode cX7_ofDot 75 = .ok (.iload_n 1, 1) := by decide +kernel
theorem dX7_ofDot_76 : decode cX7_ofDot 76 = .ok (.invokevirtual 104, 3) := by decide +kernel
theorem dX7_ofDot_79 : decode cX7_ofDot 79 = .ok (.ireturn, 1) := by decide +kernel
set_option maxRecDepth 20000 in
theorem ggX7_body_X7_needOneOf : GoodIn wsX7_body wsX7_needOneOf := goodIn_ca (goodIn_r _ [8, 9, 10] (by decide +kernel) (by decide +kernel)) (goodIn_sub (fun _ h => List.mem_cons_of_mem _ (List.mem_append_right _ h)) (by decide +kernel))
set_option maxRecDepth 20000 in
theorem gX7_body_X7_needOneOf : GoodIn wsX7_body (va_wsS RX7 70 yX7_needOneOf wsX7_needOneOf) := goodIn_app (goodIn_of _ (by decide +kernel)) ggX7_body_X7_needOneOf
set_option maxRecDepth 20000 in
theorem ggX7_body_X0_isUnlinked : GoodIn wsX7_body wsX0_isUnlinked := goodIn_r _ [15, 16, 17, 18, 19, 20, 21, 22, 52, 53, 54, 55, 56, 57, 58, 59, 60] (by decide +kernel) (by decide +kernel)
set_option maxRecDepth 20000 in
theorem gX7_body_X0_isUnlinked : GoodIn wsX7_body (wsV RX7 107 RX0 yX0_isUnlinked wsX0_isUnlinked) := goodIn_app (goodIn_of _ (by decide +kernel)) ggX7_body_X0_isUnlinked
set_option maxRecDepth 20000 in
theorem ggX7_body_X0_addBody : GoodIn wsX7_body wsX0_addBody := goodIn_r _ [26, 27, 28, 29, 30, 14, 31, 16, 32, 33, 34, 20, 35, 22, 52, 53, 54, 55, 56, 57, 58, 59, 60] (by decide +kernel) (by decide +kernel)
set_option maxRecDepth 20000 in
theorem gX7_body_X0_addBody : GoodIn wsX7_body (wsV RX7 118 RX0 yX0_addBody wsX0_addBody) := goodIn_app (goodIn_of _ (by decide +kernel)) ggX7_body_X0_addBody
theorem dX7_body_0 : decode cX7_body 0 = .ok (.iload_n 1, 1) := by decide +kernel
theorem dX7_body_1 : decode cX7_body 1 = .ok (.aload_n 0, 1) := by decide +kernel
theorem dX7_body_2 : decode cX7_body 2 = .ok (.getfield 10, 3) := by decide +kernel
theorem dX7_body_5 : decode cX7_body 5 = .ok (.getfield 83, 3) := by decide +kernel
theorem dX7_body_8 : decode cX7_body 8 = .ok (.invokestatic 70, 3) := by decide +kernel
theorem dX7_body_11 : decode cX7_body 11 = .ok (.aload_n 0, 1) := by decide +kernel
theorem dX7_body_12 : decode cX7_body 12 = .ok (.getfield 19, 3) := by decide +kernel
theorem dX7_body_15 : decode cX7_body 15 = .ok (.iload_n 1, 1) := by decide +kernel
theorem dX7_body_16 : decode cX7_body 16 = .ok (.invokevirtual 107, 3) := by decide +kernel
theorem dX7_body_19 : decode cX7_body 19 = .ok (.ifCond .ne 13, 3) := by decide +kernel
theorem dX7_body_22 : decode cX7_body 22 = .ok (.new 59, 3) := by decide +kernel
theorem dX7_body_25 : decode cX7_body 25 = .ok (.dup, 1) := by decide +kernel
theorem dX7_body_26 : decode cX7_body 26 = .ok (.ldc 111, 2) := by decide +kernel
theorem dX7_body_28 : decode cX7_body 28 = .ok (.invokespecial 63, 3) := by decide +kernel
theorem dX7_body_31 : decode cX7_body 31 = .ok (.athrow, 1) := by decide +kernel
theorem dX7_body_32 : decode cX7_body 32 = .ok (.aload_n 0, 1) := by decide +kernel
theorem dX7_body_33 : decode cX7_body 33 = .ok (.getfield 19, 3) := by decide +kernel
theorem dX7_body_36 : decode cX7_body 36 = .ok (.getfield 113, 3) := by decide +kernel
theorem dX7_body_39 : decode cX7_body 39 = .ok (.bipush 20, 2) := by decide +kernel
theorem dX7_body_41 : decode cX7_body 41 = .ok (.if_icmp .lt 13, 3) := by decide +kernel
theorem dX7_body_44 : decode cX7_body 44 = .ok (.new 59, 3) := by decide +kernel
theorem dX7_body_47 : decode cX7_body 47 = .ok (.dup, 1) := by decide +kernel
theorem dX7_body_48 : decode cX7_body 48 = .ok (.ldc 116, 2) := by decide +kernel
theorem dX7_body_50 : decode cX7_body 50 = .ok (.invokespecial 63, 3) := by decide +kernel
theorem dX7_body_53 : decode cX7_body 53 = .ok (.athrow, 1) := by decide +kernel
theorem dX7_body_54 : decode cX7_body 54 = .ok (.aload_n 0, 1) := by decide +kernel
theorem dX7_body_55 : decode cX7_body 55 = .ok (.getfield 19, 3) := by decide +kernel
theorem dX7_body_58 : decode cX7_body 58 = .ok (.iload_n 1, 1) := by decide +kernel
theorem dX7_body_59 : decode cX7_body 59 = .ok (.invokevirtual 118, 3) := by decide +kernel
theorem dX7_body_62 : decode cX7_body 62 = .ok (.ireturn, 1) := by decide +kernel
set_option maxRecDepth 20000 in
theorem ggX7_link_X7_needOneOf : GoodIn wsX7_link wsX7_needOneOf := goodIn_ca (goodIn_r _ [8, 9, 10] (by decide +kernel) (by decide +kernel)) (goodIn_sub (fun _ h => List.mem_cons_of_mem _ (List.mem_append_right _ h)) (by decide +kernel))
set_option maxRecDepth 20000 in
theorem gX7_link_X7_needOneOf : GoodIn wsX7_link (va_wsS RX7 70 yX7_needOneOf wsX7_needOneOf) := goodIn_app (goodIn_of _ (by decide +kernel)) ggX7_link_X7_needOneOf
set_option maxRecDepth 20000 in
theorem ggX7_link_X7_findOrbits : GoodIn wsX7_link wsX7_findOrbits := goodIn_r _ [14, 15, 16, 17, 18, 19, 20, 21, 22, 23, 24, 25, 26, 27, 28, 29, 30, 31, 7, 32, 33, 4, 34, 35, 36, 37, 3, 38, 39, 40, 41, 42, 43, 44, 45, 46, 47, 48, 49, 50, 51, 52, 53, 54, 55, 56, 57, 58, 59, 60, 61, 62, 63, 64, 65, 66, 67, 68, 69, 70, 71, 72, 73, 74, 75, 76, 77, 78, 79, 80, 81, 82, 83, 84, 85, 86, 87, 88, 89, 90, 91, 92, 93, 94, 95, 96, 97, 98, 99, 100, 101, 102, 103, 104, 105, 106, 107, 108, 109, 110, 111, 112, 113, 114, 115, 116, 117, 151, 152, 153, 154, 155, 156, 175, 176, 177, 178, 179, 180, 165, 166, 167, 168, 169, 170, 171, 172, 173, 174, 157, 158, 159, 160, 161, 162, 163, 164] (by decide +kernel) (by decide +kernel)
set_option maxRecDepth 20000 in
theorem gX7_link_X7_findOrbits : GoodIn wsX7_link (wsV RX7 121 RX7 yX7_findOrbits wsX7_findOrbits) := goodIn_app (goodIn_of _ (by decide +kernel)) ggX7_link_X7_findOrbits
set_option maxRecDepth 20000 in
theorem ggX7_link_X7_canTake : GoodIn wsX7_link wsX7_canTake := goodIn_r _ [121, 3, 4, 15, 122, 123, 124, 41, 125, 43, 45, 46, 47, 26, 48, 28, 126, 127, 128, 129, 44, 130, 131, 132, 68, 133, 71, 72, 134, 135, 136, 7, 137, 38, 39, 40, 42, 65, 66, 67, 69, 70, 73, 74, 75, 76, 77, 78, 79, 80, 81, 82, 83, 84, 85, 86, 87, 88, 138, 139, 140, 19, 141, 22, 93, 94, 95, 96, 97, 98, 99, 100, 101, 102, 103, 104, 105, 106, 21, 107, 108, 109, 110, 111, 112, 113, 114, 115, 116, 151, 152, 153, 154, 155, 156, 157, 158, 159, 160, 161, 162, 163, 164, 178, 165, 166, 167, 168, 169, 170, 171, 172, 173, 174, 175, 176, 177] (by decide +kernel) (by decide +kernel)
set_option maxRecDepth 20000 in
theorem gX7_link_X7_canTake : GoodIn wsX7_link (wsV RX7 125 RX7 yX7_canTake wsX7_canTake) := goodIn_app (goodIn_of _ (by decide +kernel)) ggX7_link_X7_canTake
set_option maxRecDepth 20000 in
theorem ggX7_link_X0_own : GoodIn wsX7_link wsX0_own := goodIn_r _ [145, 43, 146, 57, 58, 26, 59, 28, 157, 158, 159, 160, 161, 162, 163, 164, 178] (by decide +kernel) (by decide +kernel)
set_option maxRecDepth 20000 in
theorem gX7_link_X0_own : GoodIn wsX7_link (wsV RX7 131 RX0 yX0_own wsX0_own) := goodIn_app (goodIn_of _ (by decide +kernel)) ggX7_link_X0_own
set_option maxRecDepth 20000 in
theorem ggX7_link_X7_countLooks : GoodIn wsX7_link wsX7_countLooks := goodIn_r _ [150, 33, 34, 35, 36, 7, 37, 4, 3, 38, 39, 40, 41, 42, 43, 44, 45, 46, 47, 26, 48, 28, 49, 50, 51, 52, 53, 54, 55, 56, 57, 58, 59, 151, 152, 153, 154, 155, 156, 179, 180, 165, 166, 167, 168, 169, 170, 171, 172, 173, 174, 157, 158, 159, 160, 161, 162, 163, 164, 178] (by decide +kernel) (by decide +kernel)
set_option maxRecDepth 20000 in
theorem gX7_link_X7_countLooks : GoodIn wsX7_link (wsV RX7 134 RX7 yX7_countLooks wsX7_countLooks) := goodIn_app (goodIn_of _ (by decide +kernel)) ggX7_link_X7_countLooks
theorem dX7_link_0 : decode cX7_link 0 = .ok (.iload_n 1, 1) := by decide +kernel
theorem dX7_link_1 : decode cX7_link 1 = .ok (.aload_n 0, 1) := by decide +kernel
theorem dX7_link_2 : decode cX7_link 2 = .ok (.getfield 19, 3) := by decide +kernel
theorem dX7_link_5 : decode cX7_link 5 = .ok (.getfield 113, 3) := by decide +kernel
theorem dX7_link_8 : decode cX7_link 8 = .ok (.invokestatic 70, 3) := by decide +kernel
theorem dX7_link_11 : decode cX7_link 11 = .ok (.iload_n 2, 1) := by decide +kernel
theorem dX7_link_12 : decode cX7_link 12 = .ok (.aload_n 0, 1) := by decide +kernel
theorem dX7_link_13 : decode cX7_link 13 = .ok (.getfield 10, 3) := by decide +kernel
theorem dX7_link_16 : decode cX7_link 16 = .ok (.getfield 83, 3) := by decide +kernel
theorem dX7_link_19 : decode cX7_link 19 = .ok (.invokestatic 70, 3) := by decide +kernel
theorem dX7_link_22 : decode cX7_link 22 = .ok (.aload_n 0, 1) := by decide +kernel
theorem dX7_link_23 : decode cX7_link 23 = .ok (.iload_n 1, 1) := by decide +kernel
theorem dX7_link_24 : decode cX7_link 24 = .ok (.invokevirtual 121, 3) := by decide +kernel
theorem dX7_link_27 : decode cX7_link 27 = .ok (.aload_n 0, 1) := by decide +kernel
theorem dX7_link_28 : decode cX7_link 28 = .ok (.iload_n 1, 1) := by decide +kernel
theorem dX7_link_29 : decode cX7_link 29 = .ok (.iload_n 2, 1) := by decide +kernel
theorem dX7_link_30 : decode cX7_link 30 = .ok (.invokevirtual 125, 3) := by decide +kernel
theorem dX7_link_33 : decode cX7_link 33 = .ok (.ifCond .ne 13, 3) := by decide +kernel
theorem dX7_link_36 : decode cX7_link 36 = .ok (.new 59, 3) := by decide +kernel
theorem dX7_link_39 : decode cX7_link 39 = .ok (.dup, 1) := by decide +kernel
theorem dX7_link_40 : decode cX7_link 40 = .ok (.ldc 129, 2) := by decide +kernel
theorem dX7_link_42 : decode cX7_link 42 = .ok (.invokespecial 63, 3) := by decide +kernel
theorem dX7_link_45 : decode cX7_link 45 = .ok (.athrow, 1) := by decide +kernel
theorem dX7_link_46 : decode cX7_link 46 = .ok (.aload_n 0, 1) := by decide +kernel
theorem dX7_link_47 : decode cX7_link 47 = .ok (.getfield 19, 3) := by decide +kernel
theorem dX7_link_50 : decode cX7_link 50 = .ok (.iload_n 1, 1) := by decide +kernel
theorem dX7_link_51 : decode cX7_link 51 = .ok (.iload_n 2, 1) := by decide +kernel
theorem dX7_link_52 : decode cX7_link 52 = .ok (.invokevirtual 131, 3) := by decide +kernel
theorem dX7_link_55 : decode cX7_link 55 = .ok (.aload_n 0, 1) := by decide +kernel
theorem dX7_link_56 : decode cX7_link 56 = .ok (.iload_n 1, 1) := by decide +kernel
theorem dX7_link_57 : decode cX7_link 57 = .ok (.invokevirtual 134, 3) := by decide +kernel
theorem dX7_link_60 : decode cX7_link 60 = .ok (.ireturn, 1) := by decide +kernel
set_option maxRecDepth 20000 in
theorem ggX7_unlink_X7_needOneOf : GoodIn wsX7_unlink wsX7_needOneOf := goodIn_ca (goodIn_r _ [8, 9, 10] (by decide +kernel) (by decide +kernel)) (goodIn_sub (fun _ h => List.mem_cons_of_mem _ (List.mem_append_right _ h)) (by decide +kernel))
set_option maxRecDepth 20000 in
theorem gX7_unlink_X7_needOneOf : GoodIn wsX7_unlink (va_wsS RX7 70 yX7_needOneOf wsX7_needOneOf) := goodIn_app (goodIn_of _ (by decide +kernel)) ggX7_unlink_X7_needOneOf
set_option maxRecDepth 20000 in
theorem ggX7_unlink_X0_ownerOf : GoodIn wsX7_unlink wsX0_ownerOf := goodIn_r _ [15, 16, 17, 18, 19, 20, 21, 22, 41, 42, 43, 44, 45, 46, 47, 48, 59] (by decide +kernel) (by decide +kernel)
set_option maxRecDepth 20000 in
theorem gX7_unlink_X0_ownerOf : GoodIn wsX7_unlink (wsV RX7 104 RX0 yX0_ownerOf wsX0_ownerOf) := goodIn_app (goodIn_of _ (by decide +kernel)) ggX7_unlink_X0_ownerOf
set_option maxRecDepth 20000 in
theorem ggX7_unlink_X0_countOwnDots : GoodIn wsX7_unlink wsX0_countOwnDots := goodIn_r _ [26, 16, 17, 18, 19, 20, 21, 22, 41, 42, 43, 44, 45, 46, 47, 48, 59] (by decide +kernel) (by decide +kernel)
set_option maxRecDepth 20000 in
theorem gX7_unlink_X0_countOwnDots : GoodIn wsX7_unlink (wsV RX7 137 RX0 yX0_countOwnDots wsX0_countOwnDots) := goodIn_app (goodIn_of _ (by decide +kernel)) ggX7_unlink_X0_countOwnDots
set_option maxRecDepth 20000 in
theorem ggX7_unlink_X0_own : GoodIn wsX7_unlink wsX0_own := goodIn_r _ [30, 16, 31, 32, 33, 20, 34, 22, 41, 42, 43, 44, 45, 46, 47, 48, 59] (by decide +kernel) (by decide +kernel)
set_option maxRecDepth 20000 in
theorem gX7_unlink_X0_own : GoodIn wsX7_unlink (wsV RX7 131 RX0 yX0_own wsX0_own) := goodIn_app (goodIn_of _ (by decide +kernel)) ggX7_unlink_X0_own
theorem dX7_unlink_0 : decode cX7_unlink 0 = .ok (.iload_n 1, 1) := by decide +kernel
theorem dX7_unlink_1 : decode cX7_unlink 1 = .ok (.aload_n 0, 1) := by decide +kernel
theorem dX7_unlink_2 : decode cX7_unlink 2 = .ok (.getfield 19, 3) := by decide +kernel
theorem dX7_unlink_5 : decode cX7_unlink 5 = .ok (.getfield 113, 3) := by decide +kernel
theorem dX7_unlink_8 : decode cX7_unlink 8 = .ok (.invokestatic 70, 3) := by decide +kernel
theorem dX7_unlink_11 : decode cX7_unlink 11 = .ok (.iload_n 2, 1) := by decide +kernel
theorem dX7_unlink_12 : decode cX7_unlink 12 = .ok (.aload_n 0, 1) := by decide +kernel
theorem dX7_unlink_13 : decode cX7_unlink 13 = .ok (.getfield 10, 3) := by decide +kernel
theorem dX7_unlink_16 : decode cX7_unlink 16 = .ok (.getfield 83, 3) := by decide +kernel
theorem dX7_unlink_19 : decode cX7_unlink 19 = .ok (.invokestatic 70, 3) := by decide +kernel
theorem dX7_unlink_22 : decode cX7_unlink 22 = .ok (.aload_n 0, 1) := by decide +kernel
theorem dX7_unlink_23 : decode cX7_unlink 23 = .ok (.getfield 19, 3) := by decide +kernel
theorem dX7_unlink_26 : decode cX7_unlink 26 = .ok (.iload_n 2, 1) := by decide +kernel
theorem dX7_unlink_27 : decode cX7_unlink 27 = .ok (.invokevirtual 104, 3) := by decide +kernel
theorem dX7_unlink_30 : decode cX7_unlink 30 = .ok (.iload_n 1, 1) := by decide +kernel
theorem dX7_unlink_31 : decode cX7_unlink 31 = .ok (.if_icmp .ne 15, 3) := by decide +kernel
theorem dX7_unlink_34 : decode cX7_unlink 34 = .ok (.aload_n 0, 1) := by decide +kernel
theorem dX7_unlink_35 : decode cX7_unlink 35 = .ok (.getfield 19, 3) := by decide +kernel
theorem dX7_unlink_38 : decode cX7_unlink 38 = .ok (.iload_n 1, 1) := by decide +kernel
theorem dX7_unlink_39 : decode cX7_unlink 39 = .ok (.invokevirtual 137, 3) := by decide +kernel
theorem dX7_unlink_42 : decode cX7_unlink 42 = .ok (.iconst 2, 1) := by decide +kernel
theorem dX7_unlink_43 : decode cX7_unlink 43 = .ok (.if_icmp .ge 13, 3) := by decide +kernel
theorem dX7_unlink_46 : decode cX7_unlink 46 = .ok (.new 59, 3) := by decide +kernel
theorem dX7_unlink_49 : decode cX7_unlink 49 = .ok (.dup, 1) := by decide +kernel
theorem dX7_unlink_50 : decode cX7_unlink 50 = .ok (.ldc 140, 2) := by decide +kernel
theorem dX7_unlink_52 : decode cX7_unlink 52 = .ok (.invokespecial 63, 3) := by decide +kernel
theorem dX7_unlink_55 : decode cX7_unlink 55 = .ok (.athrow, 1) := by decide +kernel
theorem dX7_unlink_56 : decode cX7_unlink 56 = .ok (.aload_n 0, 1) := by decide +kernel
theorem dX7_unlink_57 : decode cX7_unlink 57 = .ok (.getfield 19, 3) := by decide +kernel
theorem dX7_unlink_60 : decode cX7_unlink 60 = .ok (.iconst (-1), 1) := by decide +kernel
theorem dX7_unlink_61 : decode cX7_unlink 61 = .ok (.iload_n 2, 1) := by decide +kernel
theorem dX7_unlink_62 : decode cX7_unlink 62 = .ok (.invokevirtual 131, 3) := by decide +kernel
theorem dX7_unlink_65 : decode cX7_unlink 65 = .ok (.aload_n 0, 1) := by decide +kernel
theorem dX7_unlink_66 : decode cX7_unlink 66 = .ok (.getfield 19, 3) := by decide +kernel
theorem dX7_unlink_69 : decode cX7_unlink 69 = .ok (.iload_n 1, 1) := by decide +kernel
theorem dX7_unlink_70 : decode cX7_unlink 70 = .ok (.invokevirtual 137, 3) := by decide +kernel
theorem dX7_unlink_73 : decode cX7_unlink 73 = .ok (.ireturn, 1) := by decide +kernel
set_option maxRecDepth 20000 in
theorem ggX7_join_X7_needOneOf : GoodIn wsX7_join wsX7_needOneOf := goodIn_ca (goodIn_r _ [7, 8, 9] (by decide +kernel) (by decide +kernel)) (goodIn_sub (fun _ h => List.mem_cons_of_mem _ (List.mem_append_right _ h)) (by decide +kernel))
set_option maxRecDepth 20000 in
theorem gX7_join_X7_needOneOf : GoodIn wsX7_join (va_wsS RX7 70 yX7_needOneOf wsX7_needOneOf) := goodIn_app (goodIn_of _ (by decide +kernel)) ggX7_join_X7_needOneOf
set_option maxRecDepth 20000 in
theorem ggX7_join_X7_canJoin : GoodIn wsX7_join wsX7_canJoin := goodIn_r _ [13, 3, 14, 15, 16, 17, 18, 19, 20, 21, 22, 23, 24, 25, 26, 27, 28, 29, 30, 31, 32, 33, 34, 6, 35, 36, 37, 38, 39, 40, 41, 42, 43, 44, 45, 46, 47, 48, 49, 50, 51, 52, 53, 54, 55, 56, 57, 58, 59, 60, 61, 62, 63, 64, 65, 66, 67, 68, 69, 70, 71, 72, 73, 74, 75, 76, 77, 78, 79, 80, 81, 82, 83, 84, 85, 86, 87, 88, 89, 90, 91, 92, 93, 94, 95, 96, 97, 98, 99, 100, 101, 102, 103, 104, 105, 106, 107, 108, 109, 110, 111, 112, 113, 114, 115, 116, 117, 118, 119, 120, 121, 122, 123, 124, 125, 126, 127, 128, 129, 130, 131, 132, 133, 134, 135, 136, 137, 138, 139, 140, 141, 142, 143, 144, 145, 146, 162, 163, 164, 165, 166, 167, 168, 169, 170, 171, 172, 173, 174, 175, 176, 177, 178, 179, 180, 181, 182, 183, 184, 185, 186, 187, 188, 189, 190, 191] (by decide +kernel) (by decide +kernel)
set_option maxRecDepth 20000 in
theorem gX7_join_X7_canJoin : GoodIn wsX7_join (wsV RX7 142 RX7 yX7_canJoin wsX7_canJoin) := goodIn_app (goodIn_of _ (by decide +kernel)) ggX7_join_X7_canJoin
set_option maxRecDepth 20000 in
theorem ggX7_join_X7_isStronger : GoodIn wsX7_join wsX7_isStronger := goodIn_r _ [150, 3, 36, 27, 28, 29, 18, 30, 31, 21, 22, 23, 24, 25, 26, 151, 152, 153, 6, 154, 72, 73, 74, 75, 76, 37, 38, 39, 40, 41, 20, 77, 78, 79, 80, 81, 82, 83, 84, 85, 86, 87, 88, 89, 90, 91, 92, 93, 94, 95, 45, 96, 97, 47, 48, 162, 163, 164, 165, 166, 167, 168, 169, 170, 171, 172, 173, 174, 175, 176, 190, 191, 177, 178, 179, 180, 181, 182, 183, 184, 185, 186] (by decide +kernel) (by decide +kernel)
set_option maxRecDepth 20000 in
theorem gX7_join_X7_isStronger : GoodIn wsX7_join (wsV RX7 147 RX7 yX7_isStronger wsX7_isStronger) := goodIn_app (goodIn_of _ (by decide +kernel)) ggX7_join_X7_isStronger
set_option maxRecDepth 20000 in
theorem ggX7_join_X0_attach : GoodIn wsX7_join wsX0_attach := goodIn_r _ [158, 20, 159, 160, 161, 85, 86, 24, 87, 26, 168, 169, 170, 171, 172, 173, 174, 175, 176] (by decide +kernel) (by decide +kernel)
set_option maxRecDepth 20000 in
theorem gX7_join_X0_attach : GoodIn wsX7_join (wsV RX7 150 RX0 yX0_attach wsX0_attach) := goodIn_app (goodIn_of _ (by decide +kernel)) ggX7_join_X0_attach
theorem dX7_join_0 : decode cX7_join 0 = .ok (.iload_n 1, 1) := by decide +kernel
theorem dX7_join_1 : decode cX7_join 1 = .ok (.aload_n 0, 1) := by decide +kernel
theorem dX7_join_2 : decode cX7_join 2 = .ok (.getfield 19, 3) := by decide +kernel
theorem dX7_join_5 : decode cX7_join 5 = .ok (.getfield 113, 3) := by decide +kernel
theorem dX7_join_8 : decode cX7_join 8 = .ok (.invokestatic 70, 3) := by decide +kernel
theorem dX7_join_11 : decode cX7_join 11 = .ok (.iload_n 2, 1) := by decide +kernel
theorem dX7_join_12 : decode cX7_join 12 = .ok (.aload_n 0, 1) := by decide +kernel
theorem dX7_join_13 : decode cX7_join 13 = .ok (.getfield 19, 3) := by decide +kernel
theorem dX7_join_16 : decode cX7_join 16 = .ok (.getfield 113, 3) := by decide +kernel
theorem dX7_join_19 : decode cX7_join 19 = .ok (.invokestatic 70, 3) := by decide +kernel
theorem dX7_join_22 : decode cX7_join 22 = .ok (.aload_n 0, 1) := by decide +kernel
theorem dX7_join_23 : decode cX7_join 23 = .ok (.iload_n 1, 1) := by decide +kernel
theorem dX7_join_24 : decode cX7_join 24 = .ok (.iload_n 2, 1) := by decide +kernel
theorem dX7_join_25 : decode cX7_join 25 = .ok (.invokevirtual 142, 3) := by decide +kernel
theorem dX7_join_28 : decode cX7_join 28 = .ok (.ifCond .ne 13, 3) := by decide +kernel
theorem dX7_join_31 : decode cX7_join 31 = .ok (.new 59, 3) := by decide +kernel
theorem dX7_join_34 : decode cX7_join 34 = .ok (.dup, 1) := by decide +kernel
theorem dX7_join_35 : decode cX7_join 35 = .ok (.ldc 145, 2) := by decide +kernel
theorem dX7_join_37 : decode cX7_join 37 = .ok (.invokespecial 63, 3) := by decide +kernel
theorem dX7_join_40 : decode cX7_join 40 = .ok (.athrow, 1) := by decide +kernel
theorem dX7_join_41 : decode cX7_join 41 = .ok (.aload_n 0, 1) := by decide +kernel
theorem dX7_join_42 : decode cX7_join 42 = .ok (.iload_n 1, 1) := by decide +kernel
theorem dX7_join_43 : decode cX7_join 43 = .ok (.iload_n 2, 1) := by decide +kernel
theorem dX7_join_44 : decode cX7_join 44 = .ok (.invokevirtual 147, 3) := by decide +kernel
theorem dX7_join_47 : decode cX7_join 47 = .ok (.ifCond .eq 7, 3) := by decide +kernel
theorem dX7_join_50 : decode cX7_join 50 = .ok (.iload_n 1, 1) := by decide +kernel
theorem dX7_join_51 : decode cX7_join 51 = .ok (.goto 4, 3) := by decide +kernel
theorem dX7_join_54 : decode cX7_join 54 = .ok (.iload_n 2, 1) := by decide +kernel
theorem dX7_join_55 : decode cX7_join 55 = .ok (.istore_n 3, 1) := by decide +kernel
theorem dX7_join_56 : decode cX7_join 56 = .ok (.iload_n 3, 1) := by decide +kernel
theorem dX7_join_57 : decode cX7_join 57 = .ok (.iload_n 1, 1) := by decide +kernel
theorem dX7_join_58 : decode cX7_join 58 = .ok (.if_icmp .ne 7, 3) := by decide +kernel
theorem dX7_join_61 : decode cX7_join 61 = .ok (.iload_n 2, 1) := by decide +kernel
theorem dX7_join_62 : decode cX7_join 62 = .ok (.goto 4, 3) := by decide +kernel
theorem dX7_join_65 : decode cX7_join 65 = .ok (.iload_n 1, 1) := by decide +kernel
theorem dX7_join_66 : decode cX7_join 66 = .ok (.istore 4, 2) := by decide +kernel
theorem dX7_join_68 : decode cX7_join 68 = .ok (.aload_n 0, 1) := by decide +kernel
theorem dX7_join_69 : decode cX7_join 69 = .ok (.getfield 19, 3) := by decide +kernel
theorem dX7_join_72 : decode cX7_join 72 = .ok (.iload 4, 2) := by decide +kernel
theorem dX7_join_74 : decode cX7_join 74 = .ok (.iload_n 3, 1) := by decide +kernel
theorem dX7_join_75 : decode cX7_join 75 = .ok (.invokevirtual 150, 3) := by decide +kernel
theorem dX7_join_78 : decode cX7_join 78 = .ok (.iload_n 3, 1) := by decide +kernel
theorem dX7_join_79 : decode cX7_join 79 = .ok (.ireturn, 1) := by decide +kernel
set_option maxRecDepth 20000 in
theorem ggX7_part_X7_needOneOf : GoodIn wsX7_part wsX7_needOneOf := goodIn_ca (goodIn_r _ [7, 8, 9] (by decide +kernel) (by decide +kernel)) (goodIn_sub (fun _ h => List.mem_cons_of_mem _ (List.mem_append_right _ h)) (by decide +kernel))
set_option maxRecDepth 20000 in
theorem gX7_part_X7_needOneOf : GoodIn wsX7_part (va_wsS RX7 70 yX7_needOneOf wsX7_needOneOf) := goodIn_app (goodIn_of _ (by decide +kernel)) ggX7_part_X7_needOneOf
set_option maxRecDepth 20000 in
theorem ggX7_part_X0_latestJoinedTo : GoodIn wsX7_part wsX0_latestJoinedTo := goodIn_r _ [14, 15, 16, 17, 18, 19, 20, 21, 22, 23, 38, 39, 40, 41, 42, 43, 44, 45, 46] (by decide +kernel) (by decide +kernel)
set_option maxRecDepth 20000 in
theorem gX7_part_X0_latestJoinedTo : GoodIn wsX7_part (wsV RX7 153 RX0 yX0_latestJoinedTo wsX0_latestJoinedTo) := goodIn_app (goodIn_of _ (by decide +kernel)) ggX7_part_X0_latestJoinedTo
set_option maxRecDepth 20000 in
theorem ggX7_part_X0_free : GoodIn wsX7_part wsX0_free := goodIn_r _ [27, 17, 28, 29, 30, 21, 31, 23, 38, 39, 40, 41, 42, 43, 44, 45, 46] (by decide +kernel) (by decide +kernel)
set_option maxRecDepth 20000 in
theorem gX7_part_X0_free : GoodIn wsX7_part (wsV RX7 158 RX0 yX0_free wsX0_free) := goodIn_app (goodIn_of _ (by decide +kernel)) ggX7_part_X0_free
theorem dX7_part_0 : decode cX7_part 0 = .ok (.iload_n 1, 1) := by decide +kernel
theorem dX7_part_1 : decode cX7_part 1 = .ok (.aload_n 0, 1) := by decide +kernel
theorem dX7_part_2 : decode cX7_part 2 = .ok (.getfield 19, 3) := by decide +kernel
theorem dX7_part_5 : decode cX7_part 5 = .ok (.getfield 113, 3) := by decide +kernel
theorem dX7_part_8 : decode cX7_part 8 = .ok (.invokestatic 70, 3) := by decide +kernel
theorem dX7_part_11 : decode cX7_part 11 = .ok (.aload_n 0, 1) := by decide +kernel
theorem dX7_part_12 : decode cX7_part 12 = .ok (.getfield 19, 3) := by decide +kernel
theorem dX7_part_15 : decode cX7_part 15 = .ok (.iload_n 1, 1) := by decide +kernel
theorem dX7_part_16 : decode cX7_part 16 = .ok (.invokevirtual 153, 3) := by decide +kernel
theorem dX7_part_19 : decode cX7_part 19 = .ok (.istore_n 2, 1) := by decide +kernel
theorem dX7_part_20 : decode cX7_part 20 = .ok (.iload_n 2, 1) := by decide +kernel
theorem dX7_part_21 : decode cX7_part 21 = .ok (.iconst (-1), 1) := by decide +kernel
theorem dX7_part_22 : decode cX7_part 22 = .ok (.if_icmp .ne 13, 3) := by decide +kernel
theorem dX7_part_25 : decode cX7_part 25 = .ok (.new 59, 3) := by decide +kernel
theorem dX7_part_28 : decode cX7_part 28 = .ok (.dup, 1) := by decide +kernel
theorem dX7_part_29 : decode cX7_part 29 = .ok (.ldc 156, 2) := by decide +kernel
theorem dX7_part_31 : decode cX7_part 31 = .ok (.invokespecial 63, 3) := by decide +kernel
theorem dX7_part_34 : decode cX7_part 34 = .ok (.athrow, 1) := by decide +kernel
theorem dX7_part_35 : decode cX7_part 35 = .ok (.aload_n 0, 1) := by decide +kernel
theorem dX7_part_36 : decode cX7_part 36 = .ok (.getfield 19, 3) := by decide +kernel
theorem dX7_part_39 : decode cX7_part 39 = .ok (.iload_n 2, 1) := by decide +kernel
theorem dX7_part_40 : decode cX7_part 40 = .ok (.invokevirtual 158, 3) := by decide +kernel
theorem dX7_part_43 : decode cX7_part 43 = .ok (.iload_n 2, 1) := by decide +kernel
theorem dX7_part_44 : decode cX7_part 44 = .ok (.ireturn, 1) := by decide +kernel
set_option maxRecDepth 20000 in
theorem ggX7_number_X7_needOneOf : GoodIn wsX7_number wsX7_needOneOf := goodIn_ca (goodIn_r _ [8, 9, 10] (by decide +kernel) (by decide +kernel)) (goodIn_sub (fun _ h => List.mem_cons_of_mem _ (List.mem_append_right _ h)) (by decide +kernel))
set_option maxRecDepth 20000 in
theorem gX7_number_X7_needOneOf : GoodIn wsX7_number (va_wsS RX7 70 yX7_needOneOf wsX7_needOneOf) := goodIn_app (goodIn_of _ (by decide +kernel)) ggX7_number_X7_needOneOf
set_option maxRecDepth 20000 in
theorem ggX7_number_X7_canGetNumber : GoodIn wsX7_number wsX7_canGetNumber := goodIn_r _ [14, 3, 4, 15, 16, 17, 18, 19, 20, 21, 22, 23, 24, 25, 26, 27, 28, 29, 30, 31, 32, 33, 34, 7, 35, 36, 37, 38, 39, 40, 41, 42, 43, 44, 45, 46, 47, 48, 49, 50, 51, 52, 53, 54, 55, 56, 57, 58, 59, 60, 61, 62, 63, 64, 65, 66, 67, 68, 69, 70, 71, 72, 73, 74, 75, 76, 77, 78, 79, 80, 81, 82, 83, 84, 85, 86, 87, 88, 89, 90, 91, 92, 93, 94, 95, 96, 97, 98, 99, 100, 101, 102, 103, 104, 105, 106, 107, 108, 109, 110, 111, 112, 113, 114, 115, 116, 117, 118, 119, 120, 121, 122, 123, 124, 125, 126, 127, 128, 129, 130, 131, 132, 133, 134, 135, 136, 137, 138, 139, 140, 161, 162, 163, 164, 165, 166, 167, 168, 169, 170, 171, 172, 173, 174, 175, 176, 177, 178, 179, 180, 181, 182, 183, 184, 185, 186, 187, 188, 189, 190] (by decide +kernel) (by decide +kernel)
set_option maxRecDepth 20000 in
theorem gX7_number_X7_canGetNumber : GoodIn wsX7_number (wsV RX7 161 RX7 yX7_canGetNumber wsX7_canGetNumber) := goodIn_app (goodIn_of _ (by decide +kernel)) ggX7_number_X7_canGetNumber
set_option maxRecDepth 20000 in
theorem ggX7_number_X3_orbitAt : GoodIn wsX7_number wsX3_orbitAt := goodIn_r _ [144, 145, 146, 147, 148, 85, 149, 87, 88, 89, 90, 91, 24, 92, 26, 126, 22, 23, 25, 117, 7, 118, 119, 120, 121, 122, 123, 124, 125, 104, 105, 106, 136, 62, 63, 64, 150, 151, 152, 153, 127, 128, 129, 130, 188, 189, 190, 175] (by decide +kernel) (by decide +kernel)
set_option maxRecDepth 20000 in
theorem gX7_number_X3_orbitAt : GoodIn wsX7_number (wsV RX7 166 RX3 yX3_orbitAt wsX3_orbitAt) := goodIn_app (goodIn_of _ (by decide +kernel)) ggX7_number_X3_orbitAt
set_option maxRecDepth 20000 in
theorem ggX7_number_X0_giveNumber : GoodIn wsX7_number wsX0_giveNumber := goodIn_r _ [157, 158, 31, 159, 160, 62, 63, 24, 64, 26, 167, 168, 169, 170, 171, 172, 173, 174, 175] (by decide +kernel) (by decide +kernel)
set_option maxRecDepth 20000 in
theorem gX7_number_X0_giveNumber : GoodIn wsX7_number (wsV RX7 169 RX0 yX0_giveNumber wsX0_giveNumber) := goodIn_app (goodIn_of _ (by decide +kernel)) ggX7_number_X0_giveNumber
theorem dX7_number_0 : decode cX7_number 0 = .ok (.iload_n 1, 1) := by decide +kernel
theorem dX7_number_1 : decode cX7_number 1 = .ok (.aload_n 0, 1) := by decide +kernel
theorem dX7_number_2 : decode cX7_number 2 = .ok (.getfield 19, 3) := by decide +kernel
theorem dX7_number_5 : decode cX7_number 5 = .ok (.getfield 113, 3) := by decide +kernel
theorem dX7_number_8 : decode cX7_number 8 = .ok (.invokestatic 70, 3) := by decide +kernel
theorem dX7_number_11 : decode cX7_number 11 = .ok (.aload_n 0, 1) := by decide +kernel
theorem dX7_number_12 : decode cX7_number 12 = .ok (.iload_n 1, 1) := by decide +kernel
theorem dX7_number_13 : decode cX7_number 13 = .ok (.invokevirtual 161, 3) := by decide +kernel
theorem dX7_number_16 : decode cX7_number 16 = .ok (.ifCond .ne 13, 3) := by decide +kernel
theorem dX7_number_19 : decode cX7_number 19 = .ok (.new 59, 3) := by decide +kernel
theorem dX7_number_22 : decode cX7_number 22 = .ok (.dup, 1) := by decide +kernel
theorem dX7_number_23 : decode cX7_number 23 = .ok (.ldc 164, 2) := by decide +kernel
theorem dX7_number_25 : decode cX7_number 25 = .ok (.invokespecial 63, 3) := by decide +kernel
theorem dX7_number_28 : decode cX7_number 28 = .ok (.athrow, 1) := by decide +kernel
theorem dX7_number_29 : decode cX7_number 29 = .ok (.aload_n 0, 1) := by decide +kernel
theorem dX7_number_30 : decode cX7_number 30 = .ok (.getfield 19, 3) := by decide +kernel
theorem dX7_number_33 : decode cX7_number 33 = .ok (.iload_n 1, 1) := by decide +kernel
theorem dX7_number_34 : decode cX7_number 34 = .ok (.aload_n 0, 1) := by decide +kernel
theorem dX7_number_35 : decode cX7_number 35 = .ok (.getfield 33, 3) := by decide +kernel
theorem dX7_number_38 : decode cX7_number 38 = .ok (.iconst 0, 1) := by decide +kernel
theorem dX7_number_39 : decode cX7_number 39 = .ok (.invokevirtual 166, 3) := by decide +kernel
theorem dX7_number_42 : decode cX7_number 42 = .ok (.sipush 405, 3) := by decide +kernel
theorem dX7_number_45 : decode cX7_number 45 = .ok (.irem, 1) := by decide +kernel
theorem dX7_number_46 : decode cX7_number 46 = .ok (.invokevirtual 169, 3) := by decide +kernel
theorem dX7_number_49 : decode cX7_number 49 = .ok (.ireturn, 1) := by decide +kernel
set_option maxRecDepth 20000 in
theorem ggX7_ofBody_X7_needOneOf : GoodIn wsX7_ofBody wsX7_needOneOf := goodIn_ca (goodIn_r _ [6, 7, 8] (by decide +kernel) (by decide +kernel)) (goodIn_sub (fun _ h => List.mem_cons_of_mem _ (List.mem_append_left _ (List.mem_append_right _ h))) (by decide +kernel))
set_option maxRecDepth 20000 in
theorem gX7_ofBody_X7_needOneOf : GoodIn wsX7_ofBody (va_wsS RX7 70 yX7_needOneOf wsX7_needOneOf) := goodIn_app (goodIn_of _ (by decide +kernel)) ggX7_ofBody_X7_needOneOf
set_option maxRecDepth 20000 in
theorem ggX7_ofBody_X7_needWithin : GoodIn wsX7_ofBody wsX7_needWithin := goodIn_ca (goodIn_r _ [11, 12, 13] (by decide +kernel) (by decide +kernel)) (goodIn_sub (fun _ h => List.mem_cons_of_mem _ (List.mem_append_right _ h)) (by decide +kernel))
set_option maxRecDepth 20000 in
theorem gX7_ofBody_X7_needWithin : GoodIn wsX7_ofBody (va_wsS RX7 51 yX7_needWithin wsX7_needWithin) := goodIn_app (goodIn_of _ (by decide +kernel)) ggX7_ofBody_X7_needWithin
set_option maxRecDepth 20000 in
theorem ggX7_ofBody_X7_countLooks : GoodIn wsX7_ofBody wsX7_countLooks := goodIn_r _ [17, 18, 19, 20, 21, 5, 22, 2, 1, 23, 24, 25, 26, 27, 28, 29, 30, 31, 32, 33, 34, 35, 36, 37, 38, 39, 40, 41, 42, 43, 44, 45, 46, 87, 88, 89, 90, 91, 92, 101, 102, 103, 104, 105, 106, 107, 108, 109, 110, 111, 112, 93, 94, 95, 96, 97, 98, 99, 100, 113] (by decide +kernel) (by decide +kernel)
set_option maxRecDepth 20000 in
theorem gX7_ofBody_X7_countLooks : GoodIn wsX7_ofBody (wsV RX7 134 RX7 yX7_countLooks wsX7_countLooks) := goodIn_app (goodIn_of _ (by decide +kernel)) ggX7_ofBody_X7_countLooks
set_option maxRecDepth 20000 in
theorem ggX7_ofBody_X0_countOwnDots : GoodIn wsX7_ofBody wsX0_countOwnDots := goodIn_r _ [50, 28, 30, 31, 32, 33, 34, 35, 93, 94, 95, 96, 97, 98, 99, 100, 113] (by decide +kernel) (by decide +kernel)
set_option maxRecDepth 20000 in
theorem gX7_ofBody_X0_countOwnDots : GoodIn wsX7_ofBody (wsV RX7 137 RX0 yX0_countOwnDots wsX0_countOwnDots) := goodIn_app (goodIn_of _ (by decide +kernel)) ggX7_ofBody_X0_countOwnDots
set_option maxRecDepth 20000 in
theorem ggX7_ofBody_X0_hostOf : GoodIn wsX7_ofBody wsX0_hostOf := goodIn_r _ [54, 29, 30, 31, 32, 33, 34, 35, 93, 94, 95, 96, 97, 98, 99, 100, 113] (by decide +kernel) (by decide +kernel)
set_option maxRecDepth 20000 in
theorem gX7_ofBody_X0_hostOf : GoodIn wsX7_ofBody (wsV RX7 172 RX0 yX0_hostOf wsX0_hostOf) := goodIn_app (goodIn_of _ (by decide +kernel)) ggX7_ofBody_X0_hostOf
set_option maxRecDepth 20000 in
theorem ggX7_ofBody_X7_firstLookOf : GoodIn wsX7_ofBody wsX7_firstLookOf := goodIn_r _ [58, 18, 2, 19, 20, 21, 5, 22, 1, 23, 24, 25, 26, 27, 28, 29, 30, 31, 32, 33, 34, 35, 36, 37, 38, 39, 40, 41, 42, 43, 44, 45, 46, 59, 60, 61, 62, 63, 64, 65, 66, 67, 68, 69, 70, 71, 87, 88, 89, 90, 91, 92, 101, 102, 103, 104, 105, 106, 107, 108, 109, 110, 111, 112, 93, 94, 95, 96, 97, 98, 99, 100, 113] (by decide +kernel) (by decide +kernel)
set_option maxRecDepth 20000 in
theorem gX7_ofBody_X7_firstLookOf : GoodIn wsX7_ofBody (wsV RX7 175 RX7 yX7_firstLookOf wsX7_firstLookOf) := goodIn_app (goodIn_of _ (by decide +kernel)) ggX7_ofBody_X7_firstLookOf
set_option maxRecDepth 20000 in
theorem ggX7_ofBody_X6_observatoryOf : GoodIn wsX7_ofBody wsX6_observatoryOf := goodIn_r _ [75, 76, 70, 71, 31, 32, 33, 34, 35, 103, 104, 105, 106, 107, 108, 109, 110, 111, 112, 113] (by decide +kernel) (by decide +kernel)
set_option maxRecDepth 20000 in
theorem gX7_ofBody_X6_observatoryOf : GoodIn wsX7_ofBody (wsV RX7 178 RX6 yX6_observatoryOf wsX6_observatoryOf) := goodIn_app (goodIn_of _ (by decide +kernel)) ggX7_ofBody_X6_observatoryOf
set_option maxRecDepth 20000 in
theorem ggX7_ofBody_X0_numberOf : GoodIn wsX7_ofBody wsX0_numberOf := goodIn_r _ [80, 81, 30, 31, 32, 33, 34, 35, 93, 94, 95, 96, 97, 98, 99, 100, 113] (by decide +kernel) (by decide +kernel)
set_option maxRecDepth 20000 in
theorem gX7_ofBody_X0_numberOf : GoodIn wsX7_ofBody (wsV RX7 181 RX0 yX0_numberOf wsX0_numberOf) := goodIn_app (goodIn_of _ (by decide +kernel)) ggX7_ofBody_X0_numberOf
set_option maxRecDepth 20000 in
theorem ggX7_ofBody_X0_countJoinedTo : GoodIn wsX7_ofBody wsX0_countJoinedTo := goodIn_r _ [85, 86, 29, 30, 31, 32, 33, 34, 35, 93, 94, 95, 96, 97, 98, 99, 100, 113] (by decide +kernel) (by decide +kernel)
set_option maxRecDepth 20000 in
theorem gX7_ofBody_X0_countJoinedTo : GoodIn wsX7_ofBody (wsV RX7 184 RX0 yX0_countJoinedTo wsX0_countJoinedTo) := goodIn_app (goodIn_of _ (by decide +kernel)) ggX7_ofBody_X0_countJoinedTo
theorem dX7_ofBody_0 : decode cX7_ofBody 0 = .ok (.iload_n 1, 1) := by decide +kernel
theorem dX7_ofBody_1 : decode cX7_ofBody 1 = .ok (.aload_n 0, 1) := by decide +kernel
theorem dX7_ofBody_2 : decode cX7_ofBody 2 = .ok (.getfield 19, 3) := by decide +kernel
theorem dX7_ofBody_5 : decode cX7_ofBody 5 = .ok (.getfield 113, 3) := by decide +kernel
theorem dX7_ofBody_8 : decode cX7_ofBody 8 = .ok (.invokestatic 70, 3) := by decide +kernel
theorem dX7_ofBody_11 : decode cX7_ofBody 11 = .ok (.iload_n 2, 1) := by decide +kernel
theorem dX7_ofBody_12 : decode cX7_ofBody 12 = .ok (.iconst 0, 1) := by decide +kernel
theorem dX7_ofBody_13 : decode cX7_ofBody 13 = .ok (.bipush 6, 2) := by decide +kernel
theorem dX7_ofBody_15 : decode cX7_ofBody 15 = .ok (.invokestatic 51, 3) := by decide +kernel
theorem dX7_ofBody_18 : decode cX7_ofBody 18 = .ok (.iload_n 2, 1) := by decide +kernel
theorem dX7_ofBody_19 : decode cX7_ofBody 19 = .ok (.tableswitch 89 0 5 #[37, 43, 52, 61, 74, 80], 37) := by decide +kernel
theorem dX7_ofBody_56 : decode cX7_ofBody 56 = .ok (.aload_n 0, 1) := by decide +kernel
theorem dX7_ofBody_57 : decode cX7_ofBody 57 = .ok (.iload_n 1, 1) := by decide +kernel
theorem dX7_ofBody_58 : decode cX7_ofBody 58 = .ok (.invokevirtual 134, 3) := by decide +kernel
theorem dX7_ofBody_61 : decode cX7_ofBody 61 = .ok (.ireturn, 1) := by decide +kernel
theorem dX7_ofBody_62 : decode cX7_ofBody 62 = .ok (.aload_n 0, 1) := by decide +kernel
theorem dX7_ofBody_63 : decode cX7_ofBody 63 = .ok (.getfield 19, 3) := by decide +kernel
theorem dX7_ofBody_66 : decode cX7_ofBody 66 = .ok (.iload_n 1, 1) := by decide +kernel
theorem dX7_ofBody_67 : decode cX7_ofBody 67 = .ok (.invokevirtual 137, 3) := by decide +kernel
theorem dX7_ofBody_70 : decode cX7_ofBody 70 = .ok (.ireturn, 1) := by decide +kernel
theorem dX7_ofBody_71 : decode cX7_ofBody 71 = .ok (.aload_n 0, 1) := by decide +kernel
theorem dX7_ofBody_72 : decode cX7_ofBody 72 = .ok (.getfield 19, 3) := by decide +kernel
theorem dX7_ofBody_75 : decode cX7_ofBody 75 = .ok (.iload_n 1, 1) := by decide +kernel
theorem dX7_ofBody_76 : decode cX7_ofBody 76 = .ok (.invokevirtual 172, 3) := by decide +kernel
theorem dX7_ofBody_79 : decode cX7_ofBody 79 = .ok (.ireturn, 1) := by decide +kernel
theorem dX7_ofBody_80 : decode cX7_ofBody 80 = .ok (.aload_n 0, 1) := by decide +kernel
theorem dX7_ofBody_81 : decode cX7_ofBody 81 = .ok (.getfield 10, 3) := by decide +kernel
theorem dX7_ofBody_84 : decode cX7_ofBody 84 = .ok (.aload_n 0, 1) := by decide +kernel
theorem dX7_ofBody_85 : decode cX7_ofBody 85 = .ok (.iload_n 1, 1) := by decide +kernel
theorem dX7_ofBody_86 : decode cX7_ofBody 86 = .ok (.invokevirtual 175, 3) := by decide +kernel
theorem dX7_ofBody_89 : decode cX7_ofBody 89 = .ok (.invokevirtual 178, 3) := by decide +kernel
theorem dX7_ofBody_92 : decode cX7_ofBody 92 = .ok (.ireturn, 1) := by decide +kernel
theorem dX7_ofBody_93 : decode cX7_ofBody 93 = .ok (.aload_n 0, 1) := by decide +kernel
theorem dX7_ofBody_94 : decode cX7_ofBody 94 = .ok (.iload_n 1, 1) := by decide +kernel
theorem dX7_ofBody_95 : decode cX7_ofBody 95 = .ok (.invokevirtual 175, 3) := by decide +kernel
theorem dX7_ofBody_98 : decode cX7_ofBody 98 = .ok (.ireturn, 1) := by decide +kernel
theorem dX7_ofBody_99 : decode cX7_ofBody 99 = .ok (.aload_n 0, 1) := by decide +kernel
theorem dX7_ofBody_100 : decode cX7_ofBody 100 = .ok (.getfield 19, 3) := by decide +kernel
theorem dX7_ofBody_103 : decode cX7_ofBody 103 = .ok (.iload_n 1, 1) := by decide +kernel
theorem dX7_ofBody_104 : decode cX7_ofBody 104 = .ok (.invokevirtual 181, 3) := by decide +kernel
theorem dX7_ofBody_107 : decode cX7_ofBody 107 = .ok (.ireturn, 1) := by decide +kernel
theorem dX7_ofBody_108 : decode cX7_ofBody 108 = .ok (.aload_n 0, 1) := by decide +kernel
theorem dX7_ofBody_109 : decode cX7_ofBody 109 = .ok (.getfield 19, 3) := by decide +kernel
theorem dX7_ofBody_112 : decode cX7_ofBody 112 = .ok (.iload_n 1, 1) := by decide +kernel
theorem dX7_ofBody_113 : decode cX7_ofBody 113 = .ok (.invokevirtual 184, 3) := by decide +kernel
theorem dX7_ofBody_116 : decode cX7_ofBody 116 = .ok (.ireturn, 1) := by decide +kernel
set_option maxRecDepth 20000 in
theorem ggX7_orbits_X7_needOneOf : GoodIn wsX7_orbits wsX7_needOneOf := goodIn_ca (goodIn_r _ [6, 7, 8] (by decide +kernel) (by decide +kernel)) (goodIn_sub (fun _ h => List.mem_cons_of_mem _ (List.mem_append_right _ h)) (by decide +kernel))
set_option maxRecDepth 20000 in
theorem gX7_orbits_X7_needOneOf : GoodIn wsX7_orbits (va_wsS RX7 70 yX7_needOneOf wsX7_needOneOf) := goodIn_app (goodIn_of _ (by decide +kernel)) ggX7_orbits_X7_needOneOf
set_option maxRecDepth 20000 in
theorem ggX7_orbits_X7_findOrbits : GoodIn wsX7_orbits wsX7_findOrbits := goodIn_r _ [12, 2, 13, 14, 15, 16, 17, 18, 19, 20, 21, 22, 23, 24, 25, 26, 27, 28, 5, 29, 30, 31, 32, 33, 34, 35, 1, 36, 37, 38, 39, 40, 41, 42, 43, 44, 45, 46, 47, 48, 49, 50, 51, 52, 53, 54, 55, 56, 57, 58, 59, 60, 61, 62, 63, 64, 65, 66, 67, 68, 69, 70, 71, 72, 73, 74, 75, 76, 77, 78, 79, 80, 81, 82, 83, 84, 85, 86, 87, 88, 89, 90, 91, 92, 93, 94, 95, 96, 97, 98, 99, 100, 101, 102, 103, 104, 105, 106, 107, 108, 109, 110, 111, 112, 113, 114, 115, 120, 121, 122, 123, 124, 125, 134, 135, 136, 137, 138, 139, 140, 141, 142, 143, 144, 145, 146, 147, 148, 149, 126, 127, 128, 129, 130, 131, 132, 133] (by decide +kernel) (by decide +kernel)
set_option maxRecDepth 20000 in
theorem gX7_orbits_X7_findOrbits : GoodIn wsX7_orbits (wsV RX7 121 RX7 yX7_findOrbits wsX7_findOrbits) := goodIn_app (goodIn_of _ (by decide +kernel)) ggX7_orbits_X7_findOrbits
set_option maxRecDepth 20000 in
theorem ggX7_orbits_X3_countOrbits : GoodIn wsX7_orbits wsX3_countOrbits := goodIn_r _ [119, 19, 100, 44, 45, 23, 46, 25, 134, 135, 136, 137] (by decide +kernel) (by decide +kernel)
set_option maxRecDepth 20000 in
theorem gX7_orbits_X3_countOrbits : GoodIn wsX7_orbits (wsV RX7 187 RX3 yX3_countOrbits wsX3_countOrbits) := goodIn_app (goodIn_of _ (by decide +kernel)) ggX7_orbits_X3_countOrbits
theorem dX7_orbits_0 : decode cX7_orbits 0 = .ok (.iload_n 1, 1) := by decide +kernel
theorem dX7_orbits_1 : decode cX7_orbits 1 = .ok (.aload_n 0, 1) := by decide +kernel
theorem dX7_orbits_2 : decode cX7_orbits 2 = .ok (.getfield 19, 3) := by decide +kernel
theorem dX7_orbits_5 : decode cX7_orbits 5 = .ok (.getfield 113, 3) := by decide +kernel
theorem dX7_orbits_8 : decode cX7_orbits 8 = .ok (.invokestatic 70, 3) := by decide +kernel
theorem dX7_orbits_11 : decode cX7_orbits 11 = .ok (.aload_n 0, 1) := by decide +kernel
theorem dX7_orbits_12 : decode cX7_orbits 12 = .ok (.iload_n 1, 1) := by decide +kernel
theorem dX7_orbits_13 : decode cX7_orbits 13 = .ok (.invokevirtual 121, 3) := by decide +kernel
theorem dX7_orbits_16 : decode cX7_orbits 16 = .ok (.aload_n 0, 1) := by decide +kernel
theorem dX7_orbits_17 : decode cX7_orbits 17 = .ok (.getfield 33, 3) := by decide +kernel
theorem dX7_orbits_20 : decode cX7_orbits 20 = .ok (.invokevirtual 187, 3) := by decide +kernel
theorem dX7_orbits_23 : decode cX7_orbits 23 = .ok (.ireturn, 1) := by decide +kernel
set_option maxRecDepth 20000 in
theorem ggX7_orbitsAnew_X7_needOneOf : GoodIn wsX7_orbitsAnew wsX7_needOneOf := goodIn_ca (goodIn_r _ [5, 6, 7] (by decide +kernel) (by decide +kernel)) (goodIn_sub (fun _ h => List.mem_cons_of_mem _ (List.mem_append_right _ h)) (by decide +kernel))
set_option maxRecDepth 20000 in
theorem gX7_orbitsAnew_X7_needOneOf : GoodIn wsX7_orbitsAnew (va_wsS RX7 70 yX7_needOneOf wsX7_needOneOf) := goodIn_app (goodIn_of _ (by decide +kernel)) ggX7_orbitsAnew_X7_needOneOf
set_option maxRecDepth 20000 in
theorem ggX7_orbitsAnew_X7_gatherLooks : GoodIn wsX7_orbitsAnew wsX7_gatherLooks := goodIn_r _ [11, 12, 13, 1, 14, 15, 16, 17, 18, 19, 20, 21, 22, 23, 24, 25, 26, 27, 28, 29, 30, 31, 32, 33, 34, 35, 36, 37, 96, 97, 98, 99, 100, 101, 110, 111, 112, 113, 114, 115, 116, 117, 118, 119, 120, 121, 102, 103, 104, 105, 106, 107, 108, 109, 122] (by decide +kernel) (by decide +kernel)
set_option maxRecDepth 20000 in
theorem gX7_orbitsAnew_X7_gatherLooks : GoodIn wsX7_orbitsAnew (wsV RX7 191 RX7 yX7_gatherLooks wsX7_gatherLooks) := goodIn_app (goodIn_of _ (by decide +kernel)) ggX7_orbitsAnew_X7_gatherLooks
set_option maxRecDepth 20000 in
theorem ggX7_orbitsAnew_X7_countPlacesLeft : GoodIn wsX7_orbitsAnew wsX7_countPlacesLeft := goodIn_r _ [41, 12, 42, 13, 43, 44, 45, 30, 46, 32, 47, 22, 23, 24, 25, 26, 48, 49, 50, 4, 51, 52, 53, 54, 55, 56, 57, 58, 59, 60, 61, 62, 63, 64, 65, 66, 67, 68, 69, 70, 71, 72, 73, 74, 75, 76, 77, 78, 79, 80, 81, 82, 83, 84, 85, 86, 87, 88, 89, 90, 91, 92, 93, 94, 95, 96, 97, 98, 99, 100, 101, 110, 111, 122, 112, 113, 114, 115, 116, 117, 118, 119, 120, 121] (by decide +kernel) (by decide +kernel)
set_option maxRecDepth 20000 in
theorem gX7_orbitsAnew_X7_countPlacesLeft : GoodIn wsX7_orbitsAnew (wsV RX7 194 RX7 yX7_countPlacesLeft wsX7_countPlacesLeft) := goodIn_app (goodIn_of _ (by decide +kernel)) ggX7_orbitsAnew_X7_countPlacesLeft
theorem dX7_orbitsAnew_0 : decode cX7_orbitsAnew 0 = .ok (.iload_n 1, 1) := by decide +kernel
theorem dX7_orbitsAnew_1 : decode cX7_orbitsAnew 1 = .ok (.aload_n 0, 1) := by decide +kernel
theorem dX7_orbitsAnew_2 : decode cX7_orbitsAnew 2 = .ok (.getfield 19, 3) := by decide +kernel
theorem dX7_orbitsAnew_5 : decode cX7_orbitsAnew 5 = .ok (.getfield 113, 3) := by decide +kernel
theorem dX7_orbitsAnew_8 : decode cX7_orbitsAnew 8 = .ok (.invokestatic 70, 3) := by decide +kernel
theorem dX7_orbitsAnew_11 : decode cX7_orbitsAnew 11 = .ok (.aload_n 0, 1) := by decide +kernel
theorem dX7_orbitsAnew_12 : decode cX7_orbitsAnew 12 = .ok (.iload_n 1, 1) := by decide +kernel
theorem dX7_orbitsAnew_13 : decode cX7_orbitsAnew 13 = .ok (.invokevirtual 191, 3) := by decide +kernel
theorem dX7_orbitsAnew_16 : decode cX7_orbitsAnew 16 = .ok (.iconst 0, 1) := by decide +kernel
theorem dX7_orbitsAnew_17 : decode cX7_orbitsAnew 17 = .ok (.istore_n 2, 1) := by decide +kernel
theorem dX7_orbitsAnew_18 : decode cX7_orbitsAnew 18 = .ok (.iconst 0, 1) := by decide +kernel
theorem dX7_orbitsAnew_19 : decode cX7_orbitsAnew 19 = .ok (.istore_n 3, 1) := by decide +kernel
theorem dX7_orbitsAnew_20 : decode cX7_orbitsAnew 20 = .ok (.iload_n 3, 1) := by decide +kernel
theorem dX7_orbitsAnew_21 : decode cX7_orbitsAnew 21 = .ok (.sipush 405, 3) := by decide +kernel
theorem dX7_orbitsAnew_24 : decode cX7_orbitsAnew 24 = .ok (.if_icmp .ge 17, 3) := by decide +kernel
theorem dX7_orbitsAnew_27 : decode cX7_orbitsAnew 27 = .ok (.iload_n 2, 1) := by decide +kernel
theorem dX7_orbitsAnew_28 : decode cX7_orbitsAnew 28 = .ok (.aload_n 0, 1) := by decide +kernel
theorem dX7_orbitsAnew_29 : decode cX7_orbitsAnew 29 = .ok (.iload_n 3, 1) := by decide +kernel
theorem dX7_orbitsAnew_30 : decode cX7_orbitsAnew 30 = .ok (.invokevirtual 194, 3) := by decide +kernel
theorem dX7_orbitsAnew_33 : decode cX7_orbitsAnew 33 = .ok (.iadd, 1) := by decide +kernel
theorem dX7_orbitsAnew_34 : decode cX7_orbitsAnew 34 = .ok (.istore_n 2, 1) := by decide +kernel
theorem dX7_orbitsAnew_35 : decode cX7_orbitsAnew 35 = .ok (.iinc 3 1, 3) := by decide +kernel
theorem dX7_orbitsAnew_38 : decode cX7_orbitsAnew 38 = .ok (.goto (-18), 3) := by decide +kernel
theorem dX7_orbitsAnew_41 : decode cX7_orbitsAnew 41 = .ok (.iload_n 2, 1) := by decide +kernel
theorem dX7_orbitsAnew_42 : decode cX7_orbitsAnew 42 = .ok (.ireturn, 1) := by decide +kernel
set_option maxRecDepth 20000 in
theorem ggX7_orbit_X7_needOneOf : GoodIn wsX7_orbit wsX7_needOneOf := goodIn_ca (goodIn_r _ [6, 7, 8] (by decide +kernel) (by decide +kernel)) (goodIn_sub (fun _ h => List.mem_cons_of_mem _ (List.mem_append_left _ (List.mem_append_right _ h))) (by decide +kernel))
set_option maxRecDepth 20000 in
theorem gX7_orbit_X7_needOneOf : GoodIn wsX7_orbit (va_wsS RX7 70 yX7_needOneOf wsX7_needOneOf) := goodIn_app (goodIn_of _ (by decide +kernel)) ggX7_orbit_X7_needOneOf
set_option maxRecDepth 20000 in
theorem ggX7_orbit_X7_findOrbits : GoodIn wsX7_orbit wsX7_findOrbits := goodIn_r _ [12, 2, 13, 14, 15, 16, 17, 18, 19, 20, 21, 22, 23, 24, 25, 26, 27, 28, 5, 29, 30, 31, 32, 33, 34, 35, 1, 36, 37, 38, 39, 40, 41, 42, 43, 44, 45, 46, 47, 48, 49, 50, 51, 52, 53, 54, 55, 56, 57, 58, 59, 60, 61, 62, 63, 64, 65, 66, 67, 68, 69, 70, 71, 72, 73, 74, 75, 76, 77, 78, 79, 80, 81, 82, 83, 84, 85, 86, 87, 88, 89, 90, 91, 92, 93, 94, 95, 96, 97, 98, 99, 100, 101, 102, 103, 104, 105, 106, 107, 108, 109, 110, 111, 112, 113, 114, 115, 138, 139, 140, 141, 142, 143, 152, 153, 154, 155, 156, 157, 158, 159, 160, 161, 162, 163, 164, 165, 166, 167, 144, 145, 146, 147, 148, 149, 150, 151] (by decide +kernel) (by decide +kernel)
set_option maxRecDepth 20000 in
theorem gX7_orbit_X7_findOrbits : GoodIn wsX7_orbit (wsV RX7 121 RX7 yX7_findOrbits wsX7_findOrbits) := goodIn_app (goodIn_of _ (by decide +kernel)) ggX7_orbit_X7_findOrbits
set_option maxRecDepth 20000 in
theorem ggX7_orbit_X3_countOrbits : GoodIn wsX7_orbit wsX3_countOrbits := goodIn_r _ [119, 19, 100, 44, 45, 23, 46, 25, 152, 153, 154, 155] (by decide +kernel) (by decide +kernel)
set_option maxRecDepth 20000 in
theorem gX7_orbit_X3_countOrbits : GoodIn wsX7_orbit (wsV RX7 187 RX3 yX3_countOrbits wsX3_countOrbits) := goodIn_app (goodIn_of _ (by decide +kernel)) ggX7_orbit_X3_countOrbits
set_option maxRecDepth 20000 in
theorem ggX7_orbit_X7_needWithin : GoodIn wsX7_orbit wsX7_needWithin := goodIn_ca (goodIn_r _ [122, 123, 124] (by decide +kernel) (by decide +kernel)) (goodIn_sub (fun _ h => List.mem_cons_of_mem _ (List.mem_append_right _ h)) (by decide +kernel))
set_option maxRecDepth 20000 in
theorem gX7_orbit_X7_needWithin : GoodIn wsX7_orbit (va_wsS RX7 51 yX7_needWithin wsX7_needWithin) := goodIn_app (goodIn_of _ (by decide +kernel)) ggX7_orbit_X7_needWithin
set_option maxRecDepth 20000 in
theorem ggX7_orbit_X3_orbitAt : GoodIn wsX7_orbit wsX3_orbitAt := goodIn_r _ [128, 129, 130, 131, 132, 16, 133, 18, 19, 20, 21, 22, 23, 24, 25, 100, 44, 45, 46, 91, 5, 92, 93, 94, 95, 96, 97, 98, 99, 78, 79, 80, 115, 55, 56, 57, 134, 135, 136, 137, 101, 102, 103, 104, 152, 153, 154, 155] (by decide +kernel) (by decide +kernel)
set_option maxRecDepth 20000 in
theorem gX7_orbit_X3_orbitAt : GoodIn wsX7_orbit (wsV RX7 166 RX3 yX3_orbitAt wsX3_orbitAt) := goodIn_app (goodIn_of _ (by decide +kernel)) ggX7_orbit_X3_orbitAt
set_option maxRecDepth 20000 in
theorem ggX7_orbit_X7_bOf : GoodIn wsX7_orbit wsX7_bOf := goodIn_r _ [95] (by decide +kernel) (by decide +kernel)
set_option maxRecDepth 20000 in
theorem gX7_orbit_X7_bOf : GoodIn wsX7_orbit (va_wsS RX7 197 yX7_bOf wsX7_bOf) := goodIn_app (goodIn_of _ (by decide +kernel)) ggX7_orbit_X7_bOf
set_option maxRecDepth 20000 in
theorem ggX7_orbit_X7_cOf : GoodIn wsX7_orbit wsX7_cOf := goodIn_r _ [98] (by decide +kernel) (by decide +kernel)
set_option maxRecDepth 20000 in
theorem gX7_orbit_X7_cOf : GoodIn wsX7_orbit (va_wsS RX7 200 yX7_cOf wsX7_cOf) := goodIn_app (goodIn_of _ (by decide +kernel)) ggX7_orbit_X7_cOf
theorem dX7_orbit_0 : decode cX7_orbit 0 = .ok (.iload_n 1, 1) := by decide +kernel
theorem dX7_orbit_1 : decode cX7_orbit 1 = .ok (.aload_n 0, 1) := by decide +kernel
theorem dX7_orbit_2 : decode cX7_orbit 2 = .ok (.getfield 19, 3) := by decide +kernel
theorem dX7_orbit_5 : decode cX7_orbit 5 = .ok (.getfield 113, 3) := by decide +kernel
theorem dX7_orbit_8 : decode cX7_orbit 8 = .ok (.invokestatic 70, 3) := by decide +kernel
theorem dX7_orbit_11 : decode cX7_orbit 11 = .ok (.aload_n 0, 1) := by decide +kernel
theorem dX7_orbit_12 : decode cX7_orbit 12 = .ok (.iload_n 1, 1) := by decide +kernel
theorem dX7_orbit_13 : decode cX7_orbit 13 = .ok (.invokevirtual 121, 3) := by decide +kernel
theorem dX7_orbit_16 : decode cX7_orbit 16 = .ok (.iload_n 2, 1) := by decide +kernel
theorem dX7_orbit_17 : decode cX7_orbit 17 = .ok (.aload_n 0, 1) := by decide +kernel
theorem dX7_orbit_18 : decode cX7_orbit 18 = .ok (.getfield 33, 3) := by decide +kernel
theorem dX7_orbit_21 : decode cX7_orbit 21 = .ok (.invokevirtual 187, 3) := by decide +kernel
theorem dX7_orbit_24 : decode cX7_orbit 24 = .ok (.invokestatic 70, 3) := by decide +kernel
theorem dX7_orbit_27 : decode cX7_orbit 27 = .ok (.iload_n 3, 1) := by decide +kernel
theorem dX7_orbit_28 : decode cX7_orbit 28 = .ok (.iconst 0, 1) := by decide +kernel
theorem dX7_orbit_29 : decode cX7_orbit 29 = .ok (.iconst 2, 1) := by decide +kernel
theorem dX7_orbit_30 : decode cX7_orbit 30 = .ok (.invokestatic 51, 3) := by decide +kernel
theorem dX7_orbit_33 : decode cX7_orbit 33 = .ok (.aload_n 0, 1) := by decide +kernel
theorem dX7_orbit_34 : decode cX7_orbit 34 = .ok (.getfield 33, 3) := by decide +kernel
theorem dX7_orbit_37 : decode cX7_orbit 37 = .ok (.iload_n 2, 1) := by decide +kernel
theorem dX7_orbit_38 : decode cX7_orbit 38 = .ok (.invokevirtual 166, 3) := by decide +kernel
theorem dX7_orbit_41 : decode cX7_orbit 41 = .ok (.istore 4, 2) := by decide +kernel
theorem dX7_orbit_43 : decode cX7_orbit 43 = .ok (.iload_n 3, 1) := by decide +kernel
theorem dX7_orbit_44 : decode cX7_orbit 44 = .ok (.lookupswitch 45 #[(0, 28), (1, 35)], 28) := by decide +kernel
theorem dX7_orbit_72 : decode cX7_orbit 72 = .ok (.iload 4, 2) := by decide +kernel
theorem dX7_orbit_74 : decode cX7_orbit 74 = .ok (.sipush 405, 3) := by decide +kernel
theorem dX7_orbit_77 : decode cX7_orbit 77 = .ok (.idiv, 1) := by decide +kernel
theorem dX7_orbit_78 : decode cX7_orbit 78 = .ok (.ireturn, 1) := by decide +kernel
theorem dX7_orbit_79 : decode cX7_orbit 79 = .ok (.iload 4, 2) := by decide +kernel
theorem dX7_orbit_81 : decode cX7_orbit 81 = .ok (.sipush 405, 3) := by decide +kernel
theorem dX7_orbit_84 : decode cX7_orbit 84 = .ok (.irem, 1) := by decide +kernel
theorem dX7_orbit_85 : decode cX7_orbit 85 = .ok (.invokestatic 197, 3) := by decide +kernel
theorem dX7_orbit_88 : decode cX7_orbit 88 = .ok (.ireturn, 1) := by decide +kernel
theorem dX7_orbit_89 : decode cX7_orbit 89 = .ok (.iload 4, 2) := by decide +kernel
theorem dX7_orbit_91 : decode cX7_orbit 91 = .ok (.sipush 405, 3) := by decide +kernel
theorem dX7_orbit_94 : decode cX7_orbit 94 = .ok (.irem, 1) := by decide +kernel
theorem dX7_orbit_95 : decode cX7_orbit 95 = .ok (.invokestatic 200, 3) := by decide +kernel
theorem dX7_orbit_98 : decode cX7_orbit 98 = .ok (.ireturn, 1) := by decide +kernel
set_option maxRecDepth 20000 in
theorem ggX7_spread_X7_needOneOf : GoodIn wsX7_spread wsX7_needOneOf := goodIn_ca (goodIn_r _ [6, 7, 8] (by decide +kernel) (by decide +kernel)) (goodIn_sub (fun _ h => List.mem_cons_of_mem _ (List.mem_append_left _ (List.mem_append_right _ h))) (by decide +kernel))
set_option maxRecDepth 20000 in
theorem gX7_spread_X7_needOneOf : GoodIn wsX7_spread (va_wsS RX7 70 yX7_needOneOf wsX7_needOneOf) := goodIn_app (goodIn_of _ (by decide +kernel)) ggX7_spread_X7_needOneOf
set_option maxRecDepth 20000 in
theorem ggX7_spread_X7_needWithin : GoodIn wsX7_spread wsX7_needWithin := goodIn_ca (goodIn_r _ [11, 12, 13] (by decide +kernel) (by decide +kernel)) (goodIn_sub (fun _ h => List.mem_cons_of_mem _ (List.mem_append_right _ h)) (by decide +kernel))
set_option maxRecDepth 20000 in
theorem gX7_spread_X7_needWithin : GoodIn wsX7_spread (va_wsS RX7 51 yX7_needWithin wsX7_needWithin) := goodIn_app (goodIn_of _ (by decide +kernel)) ggX7_spread_X7_needWithin
set_option maxRecDepth 20000 in
theorem ggX7_spread_X7_findOrbits : GoodIn wsX7_spread wsX7_findOrbits := goodIn_r _ [17, 2, 18, 19, 20, 21, 22, 23, 24, 25, 26, 27, 28, 29, 30, 31, 32, 33, 5, 34, 35, 36, 37, 38, 39, 40, 1, 41, 42, 43, 44, 45, 46, 47, 48, 49, 50, 51, 52, 53, 54, 55, 56, 57, 58, 59, 60, 61, 62, 63, 64, 65, 66, 67, 68, 69, 70, 71, 72, 73, 74, 75, 76, 77, 78, 79, 80, 81, 82, 83, 84, 85, 86, 87, 88, 89, 90, 91, 92, 93, 94, 95, 96, 97, 98, 99, 100, 101, 102, 103, 104, 105, 106, 107, 108, 109, 110, 111, 112, 113, 114, 115, 116, 117, 118, 119, 120, 130, 131, 132, 133, 134, 135, 144, 145, 146, 147, 148, 149, 150, 151, 152, 153, 154, 155, 156, 157, 158, 159, 136, 137, 138, 139, 140, 141, 142, 143] (by decide +kernel) (by decide +kernel)
set_option maxRecDepth 20000 in
theorem gX7_spread_X7_findOrbits : GoodIn wsX7_spread (wsV RX7 121 RX7 yX7_findOrbits wsX7_findOrbits) := goodIn_app (goodIn_of _ (by decide +kernel)) ggX7_spread_X7_findOrbits
set_option maxRecDepth 20000 in
theorem ggX7_spread_X3_countPlaces : GoodIn wsX7_spread wsX3_countPlaces := goodIn_r _ [124, 125, 126, 127, 128, 21, 129, 23, 24, 25, 26, 27, 28, 29, 30, 105, 49, 50, 51, 96, 5, 97, 98, 99, 100, 101, 102, 103, 104, 83, 84, 85, 120, 60, 61, 62, 144, 145, 146, 147] (by decide +kernel) (by decide +kernel)
set_option maxRecDepth 20000 in
theorem gX7_spread_X3_countPlaces : GoodIn wsX7_spread (wsV RX7 203 RX3 yX3_countPlaces wsX3_countPlaces) := goodIn_app (goodIn_of _ (by decide +kernel)) ggX7_spread_X3_countPlaces
theorem dX7_spread_0 : decode cX7_spread 0 = .ok (.iload_n 1, 1) := by decide +kernel
theorem dX7_spread_1 : decode cX7_spread 1 = .ok (.aload_n 0, 1) := by decide +kernel
theorem dX7_spread_2 : decode cX7_spread 2 = .ok (.getfield 19, 3) := by decide +kernel
theorem dX7_spread_5 : decode cX7_spread 5 = .ok (.getfield 113, 3) := by decide +kernel
theorem dX7_spread_8 : decode cX7_spread 8 = .ok (.invokestatic 70, 3) := by decide +kernel
theorem dX7_spread_11 : decode cX7_spread 11 = .ok (.iload_n 2, 1) := by decide +kernel
theorem dX7_spread_12 : decode cX7_spread 12 = .ok (.iconst 0, 1) := by decide +kernel
theorem dX7_spread_13 : decode cX7_spread 13 = .ok (.sipush 999, 3) := by decide +kernel
theorem dX7_spread_16 : decode cX7_spread 16 = .ok (.invokestatic 51, 3) := by decide +kernel
theorem dX7_spread_19 : decode cX7_spread 19 = .ok (.aload_n 0, 1) := by decide +kernel
theorem dX7_spread_20 : decode cX7_spread 20 = .ok (.iload_n 1, 1) := by decide +kernel
theorem dX7_spread_21 : decode cX7_spread 21 = .ok (.invokevirtual 121, 3) := by decide +kernel
theorem dX7_spread_24 : decode cX7_spread 24 = .ok (.aload_n 0, 1) := by decide +kernel
theorem dX7_spread_25 : decode cX7_spread 25 = .ok (.getfield 33, 3) := by decide +kernel
theorem dX7_spread_28 : decode cX7_spread 28 = .ok (.iload_n 2, 1) := by decide +kernel
theorem dX7_spread_29 : decode cX7_spread 29 = .ok (.invokevirtual 203, 3) := by decide +kernel
theorem dX7_spread_32 : decode cX7_spread 32 = .ok (.ireturn, 1) := by decide +kernel
set_option maxRecDepth 20000 in
theorem ggX7_where_X7_needOneOf : GoodIn wsX7_where wsX7_needOneOf := goodIn_ca (goodIn_r _ [8, 9, 10] (by decide +kernel) (by decide +kernel)) (goodIn_sub (fun _ h => List.mem_cons_of_mem _ (List.mem_append_right _ h)) (by decide +kernel))
set_option maxRecDepth 20000 in
theorem gX7_where_X7_needOneOf : GoodIn wsX7_where (va_wsS RX7 70 yX7_needOneOf wsX7_needOneOf) := goodIn_app (goodIn_of _ (by decide +kernel)) ggX7_where_X7_needOneOf
set_option maxRecDepth 20000 in
theorem ggX7_where_X7_needWithin : GoodIn wsX7_where wsX7_needWithin := goodIn_ca (goodIn_r _ [13, 1, 2] (by decide +kernel) (by decide +kernel)) (goodIn_sub (fun _ h => List.mem_cons_of_mem _ (List.mem_append_left _ (List.mem_append_right _ h))) (by decide +kernel))
set_option maxRecDepth 20000 in
theorem gX7_where_X7_needWithin : GoodIn wsX7_where (va_wsS RX7 51 yX7_needWithin wsX7_needWithin) := goodIn_app (goodIn_of _ (by decide +kernel)) ggX7_where_X7_needWithin
set_option maxRecDepth 20000 in
theorem ggX7_where_X7_findOrbits : GoodIn wsX7_where wsX7_findOrbits := goodIn_r _ [17, 4, 18, 19, 20, 21, 22, 23, 24, 25, 26, 27, 28, 29, 30, 31, 32, 33, 7, 34, 35, 36, 37, 38, 39, 40, 3, 41, 42, 43, 44, 45, 46, 47, 48, 49, 50, 51, 52, 53, 54, 55, 56, 57, 58, 59, 60, 61, 62, 63, 64, 65, 66, 67, 68, 69, 70, 71, 72, 73, 74, 75, 76, 77, 78, 79, 80, 81, 82, 83, 84, 85, 86, 87, 88, 89, 90, 91, 92, 93, 94, 95, 96, 97, 98, 99, 100, 101, 102, 103, 104, 105, 106, 107, 108, 109, 110, 111, 112, 113, 114, 115, 116, 117, 118, 119, 120, 130, 131, 132, 133, 134, 135, 144, 145, 146, 147, 148, 149, 150, 151, 152, 153, 154, 155, 156, 157, 158, 159, 136, 137, 138, 139, 140, 141, 142, 143] (by decide +kernel) (by decide +kernel)
set_option maxRecDepth 20000 in
theorem gX7_where_X7_findOrbits : GoodIn wsX7_where (wsV RX7 121 RX7 yX7_findOrbits wsX7_findOrbits) := goodIn_app (goodIn_of _ (by decide +kernel)) ggX7_where_X7_findOrbits
set_option maxRecDepth 20000 in
theorem ggX7_where_X3_placeAt : GoodIn wsX7_where wsX3_placeAt := goodIn_r _ [124, 125, 126, 127, 128, 21, 129, 23, 24, 25, 26, 27, 28, 29, 30, 105, 49, 50, 51, 96, 7, 97, 98, 99, 100, 101, 102, 103, 104, 83, 84, 85, 120, 60, 61, 62, 144, 145, 146, 147] (by decide +kernel) (by decide +kernel)
set_option maxRecDepth 20000 in
theorem gX7_where_X3_placeAt : GoodIn wsX7_where (wsV RX7 211 RX3 yX3_placeAt wsX3_placeAt) := goodIn_app (goodIn_of _ (by decide +kernel)) ggX7_where_X3_placeAt
theorem dX7_where_0 : decode cX7_where 0 = .ok (.iload_n 1, 1) := by decide +kernel
theorem dX7_where_1 : decode cX7_where 1 = .ok (.aload_n 0, 1) := by decide +kernel
theorem dX7_where_2 : decode cX7_where 2 = .ok (.getfield 19, 3) := by decide +kernel
theorem dX7_where_5 : decode cX7_where 5 = .ok (.getfield 113, 3) := by decide +kernel
theorem dX7_where_8 : decode cX7_where 8 = .ok (.invokestatic 70, 3) := by decide +kernel
theorem dX7_where_11 : decode cX7_where 11 = .ok (.iload_n 2, 1) := by decide +kernel
theorem dX7_where_12 : decode cX7_where 12 = .ok (.iconst 0, 1) := by decide +kernel
theorem dX7_where_13 : decode cX7_where 13 = .ok (.sipush 999, 3) := by decide +kernel
theorem dX7_where_16 : decode cX7_where 16 = .ok (.invokestatic 51, 3) := by decide +kernel
theorem dX7_where_19 : decode cX7_where 19 = .ok (.iload_n 3, 1) := by decide +kernel
theorem dX7_where_20 : decode cX7_where 20 = .ok (.ifCond .ge 13, 3) := by decide +kernel
theorem dX7_where_23 : decode cX7_where 23 = .ok (.new 206, 3) := by decide +kernel
theorem dX7_where_26 : decode cX7_where 26 = .ok (.dup, 1) := by decide +kernel
theorem dX7_where_27 : decode cX7_where 27 = .ok (.ldc 208, 2) := by decide +kernel
theorem dX7_where_29 : decode cX7_where 29 = .ok (.invokespecial 210, 3) := by decide +kernel
theorem dX7_where_32 : decode cX7_where 32 = .ok (.athrow, 1) := by decide +kernel
theorem dX7_where_33 : decode cX7_where 33 = .ok (.aload_n 0, 1) := by decide +kernel
theorem dX7_where_34 : decode cX7_where 34 = .ok (.iload_n 1, 1) := by decide +kernel
theorem dX7_where_35 : decode cX7_where 35 = .ok (.invokevirtual 121, 3) := by decide +kernel
theorem dX7_where_38 : decode cX7_where 38 = .ok (.aload_n 0, 1) := by decide +kernel
theorem dX7_where_39 : decode cX7_where 39 = .ok (.getfield 33, 3) := by decide +kernel
theorem dX7_where_42 : decode cX7_where 42 = .ok (.iload_n 2, 1) := by decide +kernel
theorem dX7_where_43 : decode cX7_where 43 = .ok (.iload_n 3, 1) := by decide +kernel
theorem dX7_where_44 : decode cX7_where 44 = .ok (.invokevirtual 211, 3) := by decide +kernel
theorem dX7_where_47 : decode cX7_where 47 = .ok (.ireturn, 1) := by decide +kernel
set_option maxRecDepth 20000 in
theorem ggX7_chance_X7_needOneOf : GoodIn wsX7_chance wsX7_needOneOf := goodIn_ca (goodIn_r _ [7, 8, 9] (by decide +kernel) (by decide +kernel)) (goodIn_sub (fun _ h => List.mem_cons_of_mem _ (List.mem_append_left _ (List.mem_append_right _ h))) (by decide +kernel))
set_option maxRecDepth 20000 in
theorem gX7_chance_X7_needOneOf : GoodIn wsX7_chance (va_wsS RX7 70 yX7_needOneOf wsX7_needOneOf) := goodIn_app (goodIn_of _ (by decide +kernel)) ggX7_chance_X7_needOneOf
set_option maxRecDepth 20000 in
theorem ggX7_chance_X7_needWithin : GoodIn wsX7_chance wsX7_needWithin := goodIn_ca (goodIn_r _ [12, 13, 14] (by decide +kernel) (by decide +kernel)) (goodIn_sub (fun _ h => List.mem_cons_of_mem _ (List.mem_append_right _ h)) (by decide +kernel))
set_option maxRecDepth 20000 in
theorem gX7_chance_X7_needWithin : GoodIn wsX7_chance (va_wsS RX7 51 yX7_needWithin wsX7_needWithin) := goodIn_app (goodIn_of _ (by decide +kernel)) ggX7_chance_X7_needWithin
set_option maxRecDepth 20000 in
theorem ggX7_chance_X7_findOrbits : GoodIn wsX7_chance wsX7_findOrbits := goodIn_r _ [18, 3, 19, 20, 21, 22, 23, 24, 25, 26, 27, 28, 29, 30, 31, 32, 33, 34, 6, 35, 36, 37, 38, 39, 40, 41, 1, 42, 43, 44, 45, 46, 47, 48, 49, 50, 51, 52, 53, 54, 55, 56, 57, 58, 59, 60, 61, 62, 63, 64, 65, 66, 67, 68, 69, 70, 71, 72, 73, 74, 75, 76, 77, 78, 79, 80, 81, 82, 83, 84, 85, 86, 87, 88, 89, 90, 91, 92, 93, 94, 95, 96, 97, 98, 99, 100, 101, 102, 103, 104, 105, 106, 107, 108, 109, 110, 111, 112, 113, 114, 115, 116, 117, 118, 119, 120, 121, 163, 164, 165, 166, 167, 168, 182, 183, 184, 185, 186, 187, 188, 189, 190, 191, 192, 193, 194, 195, 196, 197, 169, 170, 171, 172, 173, 174, 175, 176] (by decide +kernel) (by decide +kernel)
set_option maxRecDepth 20000 in
theorem gX7_chance_X7_findOrbits : GoodIn wsX7_chance (wsV RX7 121 RX7 yX7_findOrbits wsX7_findOrbits) := goodIn_app (goodIn_of _ (by decide +kernel)) ggX7_chance_X7_findOrbits
set_option maxRecDepth 20000 in
theorem ggX7_chance_X4_countPaths : GoodIn wsX7_chance wsX4_countPaths := goodIn_r _ [126, 127, 128, 129, 130, 131, 132, 27, 28, 29, 30, 31, 133, 134, 135, 125, 136, 137, 138, 139, 97, 6, 98, 99, 100, 101, 102, 103, 104, 140, 84, 85, 86, 141, 50, 51, 52, 142, 61, 62, 63, 143, 144, 145, 22, 146, 25, 106, 147, 148, 149, 150, 151, 152, 153, 154, 24, 155, 156, 157, 158, 159, 177, 178, 179, 180, 181, 185, 182, 183, 184] (by decide +kernel) (by decide +kernel)
set_option maxRecDepth 20000 in
theorem gX7_chance_X4_countPaths : GoodIn wsX7_chance (wsV RX7 214 RX4 yX4_countPaths wsX4_countPaths) := goodIn_app (goodIn_of _ (by decide +kernel)) ggX7_chance_X4_countPaths
set_option maxRecDepth 20000 in
theorem ggX7_chance_X7_greatestDivisor : GoodIn wsX7_chance wsX7_greatestDivisor := goodIn_r _ [162] (by decide +kernel) (by decide +kernel)
set_option maxRecDepth 20000 in
theorem gX7_chance_X7_greatestDivisor : GoodIn wsX7_chance (va_wsS RX7 224 yX7_greatestDivisor wsX7_greatestDivisor) := goodIn_app (goodIn_of _ (by decide +kernel)) ggX7_chance_X7_greatestDivisor
theorem dX7_chance_0 : decode cX7_chance 0 = .ok (.iload_n 1, 1) := by decide +kernel
theorem dX7_chance_1 : decode cX7_chance 1 = .ok (.aload_n 0, 1) := by decide +kernel
theorem dX7_chance_2 : decode cX7_chance 2 = .ok (.getfield 19, 3) := by decide +kernel
theorem dX7_chance_5 : decode cX7_chance 5 = .ok (.getfield 113, 3) := by decide +kernel
theorem dX7_chance_8 : decode cX7_chance 8 = .ok (.invokestatic 70, 3) := by decide +kernel
theorem dX7_chance_11 : decode cX7_chance 11 = .ok (.iload_n 2, 1) := by decide +kernel
theorem dX7_chance_12 : decode cX7_chance 12 = .ok (.iconst 0, 1) := by decide +kernel
theorem dX7_chance_13 : decode cX7_chance 13 = .ok (.sipush 999, 3) := by decide +kernel
theorem dX7_chance_16 : decode cX7_chance 16 = .ok (.invokestatic 51, 3) := by decide +kernel
theorem dX7_chance_19 : decode cX7_chance 19 = .ok (.iload_n 3, 1) := by decide +kernel
theorem dX7_chance_20 : decode cX7_chance 20 = .ok (.iconst 1, 1) := by decide +kernel
theorem dX7_chance_21 : decode cX7_chance 21 = .ok (.bipush 60, 2) := by decide +kernel
theorem dX7_chance_23 : decode cX7_chance 23 = .ok (.invokestatic 51, 3) := by decide +kernel
theorem dX7_chance_26 : decode cX7_chance 26 = .ok (.iload_n 2, 1) := by decide +kernel
theorem dX7_chance_27 : decode cX7_chance 27 = .ok (.iload_n 3, 1) := by decide +kernel
theorem dX7_chance_28 : decode cX7_chance 28 = .ok (.iadd, 1) := by decide +kernel
theorem dX7_chance_29 : decode cX7_chance 29 = .ok (.iconst 1, 1) := by decide +kernel
theorem dX7_chance_30 : decode cX7_chance 30 = .ok (.isub, 1) := by decide +kernel
theorem dX7_chance_31 : decode cX7_chance 31 = .ok (.iconst 0, 1) := by decide +kernel
theorem dX7_chance_32 : decode cX7_chance 32 = .ok (.sipush 999, 3) := by decide +kernel
theorem dX7_chance_35 : decode cX7_chance 35 = .ok (.invokestatic 51, 3) := by decide +kernel
theorem dX7_chance_38 : decode cX7_chance 38 = .ok (.aload_n 0, 1) := by decide +kernel
theorem dX7_chance_39 : decode cX7_chance 39 = .ok (.iload_n 1, 1) := by decide +kernel
theorem dX7_chance_40 : decode cX7_chance 40 = .ok (.invokevirtual 121, 3) := by decide +kernel
theorem dX7_chance_43 : decode cX7_chance 43 = .ok (.aload_n 0, 1) := by decide +kernel
theorem dX7_chance_44 : decode cX7_chance 44 = .ok (.getfield 40, 3) := by decide +kernel
theorem dX7_chance_47 : decode cX7_chance 47 = .ok (.aload_n 0, 1) := by decide +kernel
theorem dX7_chance_48 : decode cX7_chance 48 = .ok (.getfield 33, 3) := by decide +kernel
theorem dX7_chance_51 : decode cX7_chance 51 = .ok (.iload_n 2, 1) := by decide +kernel
theorem dX7_chance_52 : decode cX7_chance 52 = .ok (.iload_n 3, 1) := by decide +kernel
theorem dX7_chance_53 : decode cX7_chance 53 = .ok (.invokevirtual 214, 3) := by decide +kernel
theorem dX7_chance_56 : decode cX7_chance 56 = .ok (.aload_n 0, 1) := by decide +kernel
theorem dX7_chance_57 : decode cX7_chance 57 = .ok (.getfield 40, 3) := by decide +kernel
theorem dX7_chance_60 : decode cX7_chance 60 = .ok (.getfield 218, 3) := by decide +kernel
theorem dX7_chance_63 : decode cX7_chance 63 = .ok (.aload_n 0, 1) := by decide +kernel
theorem dX7_chance_64 : decode cX7_chance 64 = .ok (.getfield 40, 3) := by decide +kernel
theorem dX7_chance_67 : decode cX7_chance 67 = .ok (.getfield 221, 3) := by decide +kernel
theorem dX7_chance_70 : decode cX7_chance 70 = .ok (.invokestatic 224, 3) := by decide +kernel
theorem dX7_chance_73 : decode cX7_chance 73 = .ok (.istore 5, 2) := by decide +kernel
theorem dX7_chance_75 : decode cX7_chance 75 = .ok (.iload 5, 2) := by decide +kernel
theorem dX7_chance_77 : decode cX7_chance 77 = .ok (.ifCond .ne 5, 3) := by decide +kernel
theorem dX7_chance_80 : decode cX7_chance 80 = .ok (.iconst 0, 1) := by decide +kernel
theorem dX7_chance_81 : decode cX7_chance 81 = .ok (.ireturn, 1) := by decide +kernel
theorem dX7_chance_82 : decode cX7_chance 82 = .ok (.iload 4, 2) := by decide +kernel
theorem dX7_chance_84 : decode cX7_chance 84 = .ok (.ifCond .eq 13, 3) := by decide +kernel
theorem dX7_chance_87 : decode cX7_chance 87 = .ok (.aload_n 0, 1) := by decide +kernel
theorem dX7_chance_88 : decode cX7_chance 88 = .ok (.getfield 40, 3) := by decide +kernel
theorem dX7_chance_91 : decode cX7_chance 91 = .ok (.getfield 221, 3) := by decide +kernel
theorem dX7_chance_94 : decode cX7_chance 94 = .ok (.goto 10, 3) := by decide +kernel
theorem dX7_chance_97 : decode cX7_chance 97 = .ok (.aload_n 0, 1) := by decide +kernel
theorem dX7_chance_98 : decode cX7_chance 98 = .ok (.getfield 40, 3) := by decide +kernel
theorem dX7_chance_101 : decode cX7_chance 101 = .ok (.getfield 218, 3) := by decide +kernel
theorem dX7_chance_104 : decode cX7_chance 104 = .ok (.iload 5, 2) := by decide +kernel
theorem dX7_chance_106 : decode cX7_chance 106 = .ok (.idiv, 1) := by decide +kernel
theorem dX7_chance_107 : decode cX7_chance 107 = .ok (.ireturn, 1) := by decide +kernel
set_option maxRecDepth 20000 in
theorem ggX7_families_X7_needWithin : GoodIn wsX7_families wsX7_needWithin := goodIn_ca (goodIn_r _ [6, 7, 8] (by decide +kernel) (by decide +kernel)) (goodIn_sub (fun _ h => List.mem_cons_of_mem _ (List.mem_append_right _ h)) (by decide +kernel))
set_option maxRecDepth 20000 in
theorem gX7_families_X7_needWithin : GoodIn wsX7_families (va_wsS RX7 51 yX7_needWithin wsX7_needWithin) := goodIn_app (goodIn_of _ (by decide +kernel)) ggX7_families_X7_needWithin
set_option maxRecDepth 20000 in
theorem ggX7_families_X1_findFamilies : GoodIn wsX7_families wsX1_findFamilies := goodIn_r _ [13, 14, 15, 16, 17, 18, 19, 20, 21, 22, 23, 24, 25, 26, 27, 28, 29, 30, 31, 32, 33, 12, 34, 35, 36, 37, 38, 39, 40, 41, 42, 43, 44, 45, 46, 47, 48, 49, 50, 5, 51, 52, 53, 54, 66, 67, 68, 69, 70, 71, 72, 73, 74, 75] (by decide +kernel) (by decide +kernel)
set_option maxRecDepth 20000 in
theorem gX7_families_X1_findFamilies : GoodIn wsX7_families (wsV RX7 227 RX1 yX1_findFamilies wsX1_findFamilies) := goodIn_app (goodIn_of _ (by decide +kernel)) ggX7_families_X1_findFamilies
set_option maxRecDepth 20000 in
theorem ggX7_families_X0_numberOf : GoodIn wsX7_families wsX0_numberOf := goodIn_r _ [19, 20, 21, 22, 23, 24, 25, 26, 66, 67, 68, 69, 70, 71, 72, 73, 75] (by decide +kernel) (by decide +kernel)
set_option maxRecDepth 20000 in
theorem gX7_families_X0_numberOf : GoodIn wsX7_families (wsV RX7 181 RX0 yX0_numberOf wsX0_numberOf) := goodIn_app (goodIn_of _ (by decide +kernel)) ggX7_families_X0_numberOf
set_option maxRecDepth 20000 in
theorem ggX7_families_X1_lowestNumberWith : GoodIn wsX7_families wsX1_lowestNumberWith := goodIn_r _ [59, 14, 54, 22, 23, 24, 25, 26, 74, 75] (by decide +kernel) (by decide +kernel)
set_option maxRecDepth 20000 in
theorem gX7_families_X1_lowestNumberWith : GoodIn wsX7_families (wsV RX7 231 RX1 yX1_lowestNumberWith wsX1_lowestNumberWith) := goodIn_app (goodIn_of _ (by decide +kernel)) ggX7_families_X1_lowestNumberWith
theorem dX7_families_0 : decode cX7_families 0 = .ok (.iload_n 1, 1) := by decide +kernel
theorem dX7_families_1 : decode cX7_families 1 = .ok (.iconst 0, 1) := by decide +kernel
theorem dX7_families_2 : decode cX7_families 2 = .ok (.bipush 90, 2) := by decide +kernel
theorem dX7_families_4 : decode cX7_families 4 = .ok (.invokestatic 51, 3) := by decide +kernel
theorem dX7_families_7 : decode cX7_families 7 = .ok (.aload_n 0, 1) := by decide +kernel
theorem dX7_families_8 : decode cX7_families 8 = .ok (.getfield 47, 3) := by decide +kernel
theorem dX7_families_11 : decode cX7_families 11 = .ok (.aload_n 0, 1) := by decide +kernel
theorem dX7_families_12 : decode cX7_families 12 = .ok (.getfield 19, 3) := by decide +kernel
theorem dX7_families_15 : decode cX7_families 15 = .ok (.iload_n 1, 1) := by decide +kernel
theorem dX7_families_16 : decode cX7_families 16 = .ok (.invokevirtual 227, 3) := by decide +kernel
theorem dX7_families_19 : decode cX7_families 19 = .ok (.iconst 0, 1) := by decide +kernel
theorem dX7_families_20 : decode cX7_families 20 = .ok (.istore_n 2, 1) := by decide +kernel
theorem dX7_families_21 : decode cX7_families 21 = .ok (.iconst 0, 1) := by decide +kernel
theorem dX7_families_22 : decode cX7_families 22 = .ok (.istore_n 3, 1) := by decide +kernel
theorem dX7_families_23 : decode cX7_families 23 = .ok (.iload_n 3, 1) := by decide +kernel
theorem dX7_families_24 : decode cX7_families 24 = .ok (.aload_n 0, 1) := by decide +kernel
theorem dX7_families_25 : decode cX7_families 25 = .ok (.getfield 19, 3) := by decide +kernel
theorem dX7_families_28 : decode cX7_families 28 = .ok (.getfield 113, 3) := by decide +kernel
theorem dX7_families_31 : decode cX7_families 31 = .ok (.if_icmp .ge 43, 3) := by decide +kernel
theorem dX7_families_34 : decode cX7_families 34 = .ok (.aload_n 0, 1) := by decide +kernel
theorem dX7_families_35 : decode cX7_families 35 = .ok (.getfield 19, 3) := by decide +kernel
theorem dX7_families_38 : decode cX7_families 38 = .ok (.iload_n 3, 1) := by decide +kernel
theorem dX7_families_39 : decode cX7_families 39 = .ok (.invokevirtual 181, 3) := by decide +kernel
theorem dX7_families_42 : decode cX7_families 42 = .ok (.iconst (-1), 1) := by decide +kernel
theorem dX7_families_43 : decode cX7_families 43 = .ok (.if_icmp .eq 25, 3) := by decide +kernel
theorem dX7_families_46 : decode cX7_families 46 = .ok (.aload_n 0, 1) := by decide +kernel
theorem dX7_families_47 : decode cX7_families 47 = .ok (.getfield 19, 3) := by decide +kernel
theorem dX7_families_50 : decode cX7_families 50 = .ok (.iload_n 3, 1) := by decide +kernel
theorem dX7_families_51 : decode cX7_families 51 = .ok (.invokevirtual 181, 3) := by decide +kernel
theorem dX7_families_54 : decode cX7_families 54 = .ok (.aload_n 0, 1) := by decide +kernel
theorem dX7_families_55 : decode cX7_families 55 = .ok (.getfield 47, 3) := by decide +kernel
theorem dX7_families_58 : decode cX7_families 58 = .ok (.iload_n 3, 1) := by decide +kernel
theorem dX7_families_59 : decode cX7_families 59 = .ok (.invokevirtual 231, 3) := by decide +kernel
theorem dX7_families_62 : decode cX7_families 62 = .ok (.if_icmp .ne 6, 3) := by decide +kernel
theorem dX7_families_65 : decode cX7_families 65 = .ok (.iinc 2 1, 3) := by decide +kernel
theorem dX7_families_68 : decode cX7_families 68 = .ok (.iinc 3 1, 3) := by decide +kernel
theorem dX7_families_71 : decode cX7_families 71 = .ok (.goto (-48), 3) := by decide +kernel
theorem dX7_families_74 : decode cX7_families 74 = .ok (.iload_n 2, 1) := by decide +kernel
theorem dX7_families_75 : decode cX7_families 75 = .ok (.ireturn, 1) := by decide +kernel
set_option maxRecDepth 20000 in
theorem ggX7_family_X7_needOneOf : GoodIn wsX7_family wsX7_needOneOf := goodIn_ca (goodIn_r _ [6, 7, 8] (by decide +kernel) (by decide +kernel)) (goodIn_sub (fun _ h => List.mem_cons_of_mem _ (List.mem_append_left _ (List.mem_append_right _ h))) (by decide +kernel))
set_option maxRecDepth 20000 in
theorem gX7_family_X7_needOneOf : GoodIn wsX7_family (va_wsS RX7 70 yX7_needOneOf wsX7_needOneOf) := goodIn_app (goodIn_of _ (by decide +kernel)) ggX7_family_X7_needOneOf
set_option maxRecDepth 20000 in
theorem ggX7_family_X7_needWithin : GoodIn wsX7_family wsX7_needWithin := goodIn_ca (goodIn_r _ [11, 12, 13] (by decide +kernel) (by decide +kernel)) (goodIn_sub (fun _ h => List.mem_cons_of_mem _ (List.mem_append_right _ h)) (by decide +kernel))
set_option maxRecDepth 20000 in
theorem gX7_family_X7_needWithin : GoodIn wsX7_family (va_wsS RX7 51 yX7_needWithin wsX7_needWithin) := goodIn_app (goodIn_of _ (by decide +kernel)) ggX7_family_X7_needWithin
set_option maxRecDepth 20000 in
theorem ggX7_family_X0_numberOf : GoodIn wsX7_family wsX0_numberOf := goodIn_r _ [18, 19, 20, 21, 22, 23, 24, 25, 76, 77, 78, 79, 80, 81, 82, 83, 84] (by decide +kernel) (by decide +kernel)
set_option maxRecDepth 20000 in
theorem gX7_family_X0_numberOf : GoodIn wsX7_family (wsV RX7 181 RX0 yX0_numberOf wsX0_numberOf) := goodIn_app (goodIn_of _ (by decide +kernel)) ggX7_family_X0_numberOf
set_option maxRecDepth 20000 in
theorem ggX7_family_X1_findFamilies : GoodIn wsX7_family wsX1_findFamilies := goodIn_r _ [30, 31, 32, 15, 16, 17, 18, 19, 20, 21, 22, 23, 24, 25, 33, 34, 35, 36, 37, 38, 39, 29, 40, 41, 42, 43, 44, 45, 46, 47, 48, 49, 50, 51, 52, 53, 54, 55, 56, 5, 57, 58, 59, 60, 76, 77, 78, 79, 80, 81, 82, 83, 85, 84] (by decide +kernel) (by decide +kernel)
set_option maxRecDepth 20000 in
theorem gX7_family_X1_findFamilies : GoodIn wsX7_family (wsV RX7 227 RX1 yX1_findFamilies wsX1_findFamilies) := goodIn_app (goodIn_of _ (by decide +kernel)) ggX7_family_X1_findFamilies
set_option maxRecDepth 20000 in
theorem ggX7_family_X1_lowestNumberWith : GoodIn wsX7_family wsX1_lowestNumberWith := goodIn_r _ [64, 31, 60, 21, 22, 23, 24, 25, 85, 84] (by decide +kernel) (by decide +kernel)
set_option maxRecDepth 20000 in
theorem gX7_family_X1_lowestNumberWith : GoodIn wsX7_family (wsV RX7 231 RX1 yX1_lowestNumberWith wsX1_lowestNumberWith) := goodIn_app (goodIn_of _ (by decide +kernel)) ggX7_family_X1_lowestNumberWith
set_option maxRecDepth 20000 in
theorem ggX7_family_X0_withNumber : GoodIn wsX7_family wsX0_withNumber := goodIn_r _ [68, 69, 19, 20, 21, 22, 23, 24, 25, 76, 77, 78, 79, 80, 81, 82, 83, 84] (by decide +kernel) (by decide +kernel)
set_option maxRecDepth 20000 in
theorem gX7_family_X0_withNumber : GoodIn wsX7_family (wsV RX7 234 RX0 yX0_withNumber wsX0_withNumber) := goodIn_app (goodIn_of _ (by decide +kernel)) ggX7_family_X0_withNumber
theorem dX7_family_0 : decode cX7_family 0 = .ok (.iload_n 1, 1) := by decide +kernel
theorem dX7_family_1 : decode cX7_family 1 = .ok (.aload_n 0, 1) := by decide +kernel
theorem dX7_family_2 : decode cX7_family 2 = .ok (.getfield 19, 3) := by decide +kernel
theorem dX7_family_5 : decode cX7_family 5 = .ok (.getfield 113, 3) := by decide +kernel
theorem dX7_family_8 : decode cX7_family 8 = .ok (.invokestatic 70, 3) := by decide +kernel
theorem dX7_family_11 : decode cX7_family 11 = .ok (.iload_n 2, 1) := by decide +kernel
theorem dX7_family_12 : decode cX7_family 12 = .ok (.iconst 0, 1) := by decide +kernel
theorem dX7_family_13 : decode cX7_family 13 = .ok (.bipush 90, 2) := by decide +kernel
theorem dX7_family_15 : decode cX7_family 15 = .ok (.invokestatic 51, 3) := by decide +kernel
theorem dX7_family_18 : decode cX7_family 18 = .ok (.aload_n 0, 1) := by decide +kernel
theorem dX7_family_19 : decode cX7_family 19 = .ok (.getfield 19, 3) := by decide +kernel
theorem dX7_family_22 : decode cX7_family 22 = .ok (.iload_n 1, 1) := by decide +kernel
theorem dX7_family_23 : decode cX7_family 23 = .ok (.invokevirtual 181, 3) := by decide +kernel
theorem dX7_family_26 : decode cX7_family 26 = .ok (.iconst (-1), 1) := by decide +kernel
theorem dX7_family_27 : decode cX7_family 27 = .ok (.if_icmp .ne 5, 3) := by decide +kernel
theorem dX7_family_30 : decode cX7_family 30 = .ok (.iconst (-1), 1) := by decide +kernel
theorem dX7_family_31 : decode cX7_family 31 = .ok (.ireturn, 1) := by decide +kernel
theorem dX7_family_32 : decode cX7_family 32 = .ok (.aload_n 0, 1) := by decide +kernel
theorem dX7_family_33 : decode cX7_family 33 = .ok (.getfield 47, 3) := by decide +kernel
theorem dX7_family_36 : decode cX7_family 36 = .ok (.aload_n 0, 1) := by decide +kernel
theorem dX7_family_37 : decode cX7_family 37 = .ok (.getfield 19, 3) := by decide +kernel
theorem dX7_family_40 : decode cX7_family 40 = .ok (.iload_n 2, 1) := by decide +kernel
theorem dX7_family_41 : decode cX7_family 41 = .ok (.invokevirtual 227, 3) := by decide +kernel
theorem dX7_family_44 : decode cX7_family 44 = .ok (.aload_n 0, 1) := by decide +kernel
theorem dX7_family_45 : decode cX7_family 45 = .ok (.getfield 19, 3) := by decide +kernel
theorem dX7_family_48 : decode cX7_family 48 = .ok (.aload_n 0, 1) := by decide +kernel
theorem dX7_family_49 : decode cX7_family 49 = .ok (.getfield 47, 3) := by decide +kernel
theorem dX7_family_52 : decode cX7_family 52 = .ok (.iload_n 1, 1) := by decide +kernel
theorem dX7_family_53 : decode cX7_family 53 = .ok (.invokevirtual 231, 3) := by decide +kernel
theorem dX7_family_56 : decode cX7_family 56 = .ok (.invokevirtual 234, 3) := by decide +kernel
theorem dX7_family_59 : decode cX7_family 59 = .ok (.ireturn, 1) := by decide +kernel
set_option maxRecDepth 20000 in
theorem ggX7_turn_X7_needOneOf : GoodIn wsX7_turn wsX7_needOneOf := goodIn_ca (goodIn_r _ [6, 7, 8] (by decide +kernel) (by decide +kernel)) (goodIn_sub (fun _ h => List.mem_cons_of_mem _ (List.mem_append_right _ h)) (by decide +kernel))
set_option maxRecDepth 20000 in
theorem gX7_turn_X7_needOneOf : GoodIn wsX7_turn (va_wsS RX7 70 yX7_needOneOf wsX7_needOneOf) := goodIn_app (goodIn_of _ (by decide +kernel)) ggX7_turn_X7_needOneOf
set_option maxRecDepth 20000 in
theorem ggX7_turn_X7_gatherLooks : GoodIn wsX7_turn wsX7_gatherLooks := goodIn_r _ [12, 2, 13, 1, 14, 15, 16, 17, 18, 19, 20, 21, 22, 23, 24, 25, 26, 27, 28, 29, 30, 31, 32, 33, 34, 35, 36, 37, 71, 72, 73, 74, 75, 76, 85, 86, 87, 88, 89, 90, 91, 92, 93, 94, 95, 96, 77, 78, 79, 80, 81, 82, 83, 84, 97] (by decide +kernel) (by decide +kernel)
set_option maxRecDepth 20000 in
theorem gX7_turn_X7_gatherLooks : GoodIn wsX7_turn (wsV RX7 191 RX7 yX7_gatherLooks wsX7_gatherLooks) := goodIn_app (goodIn_of _ (by decide +kernel)) ggX7_turn_X7_gatherLooks
set_option maxRecDepth 20000 in
theorem ggX7_turn_X7_faultOf : GoodIn wsX7_turn wsX7_faultOf := goodIn_r _ [41, 42, 43, 44, 5, 45, 2, 13, 46, 47, 48, 49, 50, 51, 52, 53, 54, 55, 30, 56, 32, 57, 22, 23, 24, 25, 26, 58, 59, 60, 61, 62, 63, 64, 65, 66, 67, 68, 69, 70, 71, 72, 73, 74, 75, 76, 85, 86, 97, 87, 88, 89, 90, 91, 92, 93, 94, 95, 96] (by decide +kernel) (by decide +kernel)
set_option maxRecDepth 20000 in
theorem gX7_turn_X7_faultOf : GoodIn wsX7_turn (wsV RX7 238 RX7 yX7_faultOf wsX7_faultOf) := goodIn_app (goodIn_of _ (by decide +kernel)) ggX7_turn_X7_faultOf
theorem dX7_turn_0 : decode cX7_turn 0 = .ok (.iload_n 1, 1) := by decide +kernel
theorem dX7_turn_1 : decode cX7_turn 1 = .ok (.aload_n 0, 1) := by decide +kernel
theorem dX7_turn_2 : decode cX7_turn 2 = .ok (.getfield 19, 3) := by decide +kernel
theorem dX7_turn_5 : decode cX7_turn 5 = .ok (.getfield 113, 3) := by decide +kernel
theorem dX7_turn_8 : decode cX7_turn 8 = .ok (.invokestatic 70, 3) := by decide +kernel
theorem dX7_turn_11 : decode cX7_turn 11 = .ok (.aload_n 0, 1) := by decide +kernel
theorem dX7_turn_12 : decode cX7_turn 12 = .ok (.iload_n 1, 1) := by decide +kernel
theorem dX7_turn_13 : decode cX7_turn 13 = .ok (.invokevirtual 191, 3) := by decide +kernel
theorem dX7_turn_16 : decode cX7_turn 16 = .ok (.aload_n 0, 1) := by decide +kernel
theorem dX7_turn_17 : decode cX7_turn 17 = .ok (.getfield 26, 3) := by decide +kernel
theorem dX7_turn_20 : decode cX7_turn 20 = .ok (.getfield 237, 3) := by decide +kernel
theorem dX7_turn_23 : decode cX7_turn 23 = .ok (.iconst 4, 1) := by decide +kernel
theorem dX7_turn_24 : decode cX7_turn 24 = .ok (.if_icmp .ge 5, 3) := by decide +kernel
theorem dX7_turn_27 : decode cX7_turn 27 = .ok (.iconst (-1), 1) := by decide +kernel
theorem dX7_turn_28 : decode cX7_turn 28 = .ok (.ireturn, 1) := by decide +kernel
theorem dX7_turn_29 : decode cX7_turn 29 = .ok (.iconst 2, 1) := by decide +kernel
theorem dX7_turn_30 : decode cX7_turn 30 = .ok (.istore_n 3, 1) := by decide +kernel
theorem dX7_turn_31 : decode cX7_turn 31 = .ok (.aload_n 0, 1) := by decide +kernel
theorem dX7_turn_32 : decode cX7_turn 32 = .ok (.iload_n 3, 1) := by decide +kernel
theorem dX7_turn_33 : decode cX7_turn 33 = .ok (.invokevirtual 238, 3) := by decide +kernel
theorem dX7_turn_36 : decode cX7_turn 36 = .ok (.istore 4, 2) := by decide +kernel
theorem dX7_turn_38 : decode cX7_turn 38 = .ok (.iconst 3, 1) := by decide +kernel
theorem dX7_turn_39 : decode cX7_turn 39 = .ok (.istore 5, 2) := by decide +kernel
theorem dX7_turn_41 : decode cX7_turn 41 = .ok (.iload 5, 2) := by decide +kernel
theorem dX7_turn_43 : decode cX7_turn 43 = .ok (.bipush 20, 2) := by decide +kernel
theorem dX7_turn_45 : decode cX7_turn 45 = .ok (.if_icmp .gt 31, 3) := by decide +kernel
theorem dX7_turn_48 : decode cX7_turn 48 = .ok (.aload_n 0, 1) := by decide +kernel
theorem dX7_turn_49 : decode cX7_turn 49 = .ok (.iload 5, 2) := by decide +kernel
theorem dX7_turn_51 : decode cX7_turn 51 = .ok (.invokevirtual 238, 3) := by decide +kernel
theorem dX7_turn_54 : decode cX7_turn 54 = .ok (.istore 6, 2) := by decide +kernel
theorem dX7_turn_56 : decode cX7_turn 56 = .ok (.iload 6, 2) := by decide +kernel
theorem dX7_turn_58 : decode cX7_turn 58 = .ok (.iload 4, 2) := by decide +kernel
theorem dX7_turn_60 : decode cX7_turn 60 = .ok (.if_icmp .ge 10, 3) := by decide +kernel
theorem dX7_turn_63 : decode cX7_turn 63 = .ok (.iload 5, 2) := by decide +kernel
theorem dX7_turn_65 : decode cX7_turn 65 = .ok (.istore_n 3, 1) := by decide +kernel
theorem dX7_turn_66 : decode cX7_turn 66 = .ok (.iload 6, 2) := by decide +kernel
theorem dX7_turn_68 : decode cX7_turn 68 = .ok (.istore 4, 2) := by decide +kernel
theorem dX7_turn_70 : decode cX7_turn 70 = .ok (.iinc 5 1, 3) := by decide +kernel
theorem dX7_turn_73 : decode cX7_turn 73 = .ok (.goto (-32), 3) := by decide +kernel
theorem dX7_turn_76 : decode cX7_turn 76 = .ok (.iload_n 2, 1) := by decide +kernel
theorem dX7_turn_77 : decode cX7_turn 77 = .ok (.ifCond .eq 8, 3) := by decide +kernel
theorem dX7_turn_80 : decode cX7_turn 80 = .ok (.iload 4, 2) := by decide +kernel
theorem dX7_turn_82 : decode cX7_turn 82 = .ok (.goto 4, 3) := by decide +kernel
theorem dX7_turn_85 : decode cX7_turn 85 = .ok (.iload_n 3, 1) := by decide +kernel
theorem dX7_turn_86 : decode cX7_turn 86 = .ok (.ireturn, 1) := by decide +kernel
theorem dX7_needOneOf_0 : decode cX7_needOneOf 0 = .ok (.iload_n 0, 1) := by decide +kernel
theorem dX7_needOneOf_1 : decode cX7_needOneOf 1 = .ok (.ifCond .lt 8, 3) := by decide +kernel
theorem dX7_needOneOf_4 : decode cX7_needOneOf 4 = .ok (.iload_n 0, 1) := by decide +kernel
theorem dX7_needOneOf_5 : decode cX7_needOneOf 5 = .ok (.iload_n 1, 1) := by decide +kernel
theorem dX7_needOneOf_6 : decode cX7_needOneOf 6 = .ok (.if_icmp .lt 13, 3) := by decide +kernel
theorem dX7_needOneOf_9 : decode cX7_needOneOf 9 = .ok (.new 241, 3) := by decide +kernel
theorem dX7_needOneOf_12 : decode cX7_needOneOf 12 = .ok (.dup, 1) := by decide +kernel
theorem dX7_needOneOf_13 : decode cX7_needOneOf 13 = .ok (.ldc 243, 2) := by decide +kernel
theorem dX7_needOneOf_15 : decode cX7_needOneOf 15 = .ok (.invokespecial 245, 3) := by decide +kernel
theorem dX7_needOneOf_18 : decode cX7_needOneOf 18 = .ok (.athrow, 1) := by decide +kernel
theorem dX7_needOneOf_19 : decode cX7_needOneOf 19 = .ok (.return_, 1) := by decide +kernel
theorem dX7_needWithin_0 : decode cX7_needWithin 0 = .ok (.iload_n 0, 1) := by decide +kernel
theorem dX7_needWithin_1 : decode cX7_needWithin 1 = .ok (.iload_n 1, 1) := by decide +kernel
theorem dX7_needWithin_2 : decode cX7_needWithin 2 = .ok (.if_icmp .lt 8, 3) := by decide +kernel
theorem dX7_needWithin_5 : decode cX7_needWithin 5 = .ok (.iload_n 0, 1) := by decide +kernel
theorem dX7_needWithin_6 : decode cX7_needWithin 6 = .ok (.iload_n 2, 1) := by decide +kernel
theorem dX7_needWithin_7 : decode cX7_needWithin 7 = .ok (.if_icmp .le 13, 3) := by decide +kernel
theorem dX7_needWithin_10 : decode cX7_needWithin 10 = .ok (.new 206, 3) := by decide +kernel
theorem dX7_needWithin_13 : decode cX7_needWithin 13 = .ok (.dup, 1) := by decide +kernel
theorem dX7_needWithin_14 : decode cX7_needWithin 14 = .ok (.ldc 246, 2) := by decide +kernel
theorem dX7_needWithin_16 : decode cX7_needWithin 16 = .ok (.invokespecial 210, 3) := by decide +kernel
theorem dX7_needWithin_19 : decode cX7_needWithin 19 = .ok (.athrow, 1) := by decide +kernel
theorem dX7_needWithin_20 : decode cX7_needWithin 20 = .ok (.return_, 1) := by decide +kernel
set_option maxRecDepth 20000 in
theorem ggX7_gatherLooks_X0_isLook : GoodIn wsX7_gatherLooks wsX0_isLook := goodIn_r _ [8, 9, 10, 11, 12, 13, 14, 15, 16, 46, 47, 48, 49, 50, 51, 52, 53, 54] (by decide +kernel) (by decide +kernel)
set_option maxRecDepth 20000 in
theorem gX7_gatherLooks_X0_isLook : GoodIn wsX7_gatherLooks (wsV RX7 248 RX0 yX0_isLook wsX0_isLook) := goodIn_app (goodIn_of _ (by decide +kernel)) ggX7_gatherLooks_X0_isLook
set_option maxRecDepth 20000 in
theorem ggX7_gatherLooks_X2_add : GoodIn wsX7_gatherLooks wsX2_add := goodIn_r _ [21, 22, 23, 24, 25, 26, 14, 27, 16, 34, 35, 54] (by decide +kernel) (by decide +kernel)
set_option maxRecDepth 20000 in
theorem gX7_gatherLooks_X2_add : GoodIn wsX7_gatherLooks (wsV RX7 251 RX2 yX2_add wsX2_add) := goodIn_app (goodIn_of _ (by decide +kernel)) ggX7_gatherLooks_X2_add
theorem dX7_gatherLooks_0 : decode cX7_gatherLooks 0 = .ok (.aload_n 0, 1) := by decide +kernel
theorem dX7_gatherLooks_1 : decode cX7_gatherLooks 1 = .ok (.getfield 26, 3) := by decide +kernel
theorem dX7_gatherLooks_4 : decode cX7_gatherLooks 4 = .ok (.iconst 0, 1) := by decide +kernel
theorem dX7_gatherLooks_5 : decode cX7_gatherLooks 5 = .ok (.putfield 237, 3) := by decide +kernel
theorem dX7_gatherLooks_8 : decode cX7_gatherLooks 8 = .ok (.iconst 0, 1) := by decide +kernel
theorem dX7_gatherLooks_9 : decode cX7_gatherLooks 9 = .ok (.istore_n 2, 1) := by decide +kernel
theorem dX7_gatherLooks_10 : decode cX7_gatherLooks 10 = .ok (.iload_n 2, 1) := by decide +kernel
theorem dX7_gatherLooks_11 : decode cX7_gatherLooks 11 = .ok (.aload_n 0, 1) := by decide +kernel
theorem dX7_gatherLooks_12 : decode cX7_gatherLooks 12 = .ok (.getfield 10, 3) := by decide +kernel
theorem dX7_gatherLooks_15 : decode cX7_gatherLooks 15 = .ok (.getfield 83, 3) := by decide +kernel
theorem dX7_gatherLooks_18 : decode cX7_gatherLooks 18 = .ok (.if_icmp .ge 29, 3) := by decide +kernel
theorem dX7_gatherLooks_21 : decode cX7_gatherLooks 21 = .ok (.aload_n 0, 1) := by decide +kernel
theorem dX7_gatherLooks_22 : decode cX7_gatherLooks 22 = .ok (.getfield 19, 3) := by decide +kernel
theorem dX7_gatherLooks_25 : decode cX7_gatherLooks 25 = .ok (.iload_n 2, 1) := by decide +kernel
theorem dX7_gatherLooks_26 : decode cX7_gatherLooks 26 = .ok (.iload_n 1, 1) := by decide +kernel
theorem dX7_gatherLooks_27 : decode cX7_gatherLooks 27 = .ok (.invokevirtual 248, 3) := by decide +kernel
theorem dX7_gatherLooks_30 : decode cX7_gatherLooks 30 = .ok (.ifCond .eq 11, 3) := by decide +kernel
theorem dX7_gatherLooks_33 : decode cX7_gatherLooks 33 = .ok (.aload_n 0, 1) := by decide +kernel
theorem dX7_gatherLooks_34 : decode cX7_gatherLooks 34 = .ok (.getfield 26, 3) := by decide +kernel
theorem dX7_gatherLooks_37 : decode cX7_gatherLooks 37 = .ok (.iload_n 2, 1) := by decide +kernel
theorem dX7_gatherLooks_38 : decode cX7_gatherLooks 38 = .ok (.invokevirtual 251, 3) := by decide +kernel
theorem dX7_gatherLooks_41 : decode cX7_gatherLooks 41 = .ok (.iinc 2 1, 3) := by decide +kernel
theorem dX7_gatherLooks_44 : decode cX7_gatherLooks 44 = .ok (.goto (-34), 3) := by decide +kernel
theorem dX7_gatherLooks_47 : decode cX7_gatherLooks 47 = .ok (.return_, 1) := by decide +kernel
set_option maxRecDepth 20000 in
theorem ggX7_countLooks_X7_gatherLooks : GoodIn wsX7_countLooks wsX7_gatherLooks := goodIn_r _ [6, 1, 7, 8, 9, 10, 11, 12, 13, 14, 15, 16, 17, 18, 19, 20, 21, 22, 23, 24, 25, 26, 27, 28, 29, 30, 31, 32, 33, 34, 35, 36, 37, 38, 39, 40, 41, 42, 43, 44, 45, 46, 47, 48, 49, 50, 51, 52, 53, 54, 55, 56, 57, 58, 59] (by decide +kernel) (by decide +kernel)
set_option maxRecDepth 20000 in
theorem gX7_countLooks_X7_gatherLooks : GoodIn wsX7_countLooks (wsV RX7 191 RX7 yX7_gatherLooks wsX7_gatherLooks) := goodIn_app (goodIn_of _ (by decide +kernel)) ggX7_countLooks_X7_gatherLooks
theorem dX7_countLooks_0 : decode cX7_countLooks 0 = .ok (.aload_n 0, 1) := by decide +kernel
theorem dX7_countLooks_1 : decode cX7_countLooks 1 = .ok (.iload_n 1, 1) := by decide +kernel
theorem dX7_countLooks_2 : decode cX7_countLooks 2 = .ok (.invokevirtual 191, 3) := by decide +kernel
theorem dX7_countLooks_5 : decode cX7_countLooks 5 = .ok (.aload_n 0, 1) := by decide +kernel
theorem dX7_countLooks_6 : decode cX7_countLooks 6 = .ok (.getfield 26, 3) := by decide +kernel
theorem dX7_countLooks_9 : decode cX7_countLooks 9 = .ok (.getfield 237, 3) := by decide +kernel
theorem dX7_countLooks_12 : decode cX7_countLooks 12 = .ok (.ireturn, 1) := by decide +kernel
set_option maxRecDepth 20000 in
theorem ggX7_firstLookOf_X7_gatherLooks : GoodIn wsX7_firstLookOf wsX7_gatherLooks := goodIn_r _ [7, 1, 2, 8, 9, 10, 11, 12, 13, 14, 15, 16, 17, 18, 19, 20, 21, 22, 23, 24, 25, 26, 27, 28, 29, 30, 31, 32, 46, 47, 48, 49, 50, 51, 52, 53, 54, 55, 56, 57, 58, 59, 60, 61, 62, 63, 64, 65, 66, 67, 68, 69, 70, 71, 72] (by decide +kernel) (by decide +kernel)
set_option maxRecDepth 20000 in
theorem gX7_firstLookOf_X7_gatherLooks : GoodIn wsX7_firstLookOf (wsV RX7 191 RX7 yX7_gatherLooks wsX7_gatherLooks) := goodIn_app (goodIn_of _ (by decide +kernel)) ggX7_firstLookOf_X7_gatherLooks
set_option maxRecDepth 20000 in
theorem ggX7_firstLookOf_X2_dotAt : GoodIn wsX7_firstLookOf wsX2_dotAt := goodIn_r _ [36, 27, 37, 17, 18, 19, 20, 21, 52, 53, 72] (by decide +kernel) (by decide +kernel)
set_option maxRecDepth 20000 in
theorem gX7_firstLookOf_X2_dotAt : GoodIn wsX7_firstLookOf (wsV RX7 254 RX2 yX2_dotAt wsX2_dotAt) := goodIn_app (goodIn_of _ (by decide +kernel)) ggX7_firstLookOf_X2_dotAt
set_option maxRecDepth 20000 in
theorem ggX7_firstLookOf_X6_nightOf : GoodIn wsX7_firstLookOf wsX6_nightOf := goodIn_r _ [42, 43, 44, 45, 17, 18, 19, 20, 21, 54, 55, 56, 57, 58, 59, 60, 61, 62, 63, 72] (by decide +kernel) (by decide +kernel)
set_option maxRecDepth 20000 in
theorem gX7_firstLookOf_X6_nightOf : GoodIn wsX7_firstLookOf (wsV RX7 95 RX6 yX6_nightOf wsX6_nightOf) := goodIn_app (goodIn_of _ (by decide +kernel)) ggX7_firstLookOf_X6_nightOf
theorem dX7_firstLookOf_0 : decode cX7_firstLookOf 0 = .ok (.aload_n 0, 1) := by decide +kernel
theorem dX7_firstLookOf_1 : decode cX7_firstLookOf 1 = .ok (.iload_n 1, 1) := by decide +kernel
theorem dX7_firstLookOf_2 : decode cX7_firstLookOf 2 = .ok (.invokevirtual 191, 3) := by decide +kernel
theorem dX7_firstLookOf_5 : decode cX7_firstLookOf 5 = .ok (.aload_n 0, 1) := by decide +kernel
theorem dX7_firstLookOf_6 : decode cX7_firstLookOf 6 = .ok (.getfield 26, 3) := by decide +kernel
theorem dX7_firstLookOf_9 : decode cX7_firstLookOf 9 = .ok (.iconst 0, 1) := by decide +kernel
theorem dX7_firstLookOf_10 : decode cX7_firstLookOf 10 = .ok (.invokevirtual 254, 3) := by decide +kernel
theorem dX7_firstLookOf_13 : decode cX7_firstLookOf 13 = .ok (.istore_n 2, 1) := by decide +kernel
theorem dX7_firstLookOf_14 : decode cX7_firstLookOf 14 = .ok (.iconst 1, 1) := by decide +kernel
theorem dX7_firstLookOf_15 : decode cX7_firstLookOf 15 = .ok (.istore_n 3, 1) := by decide +kernel
theorem dX7_firstLookOf_16 : decode cX7_firstLookOf 16 = .ok (.iload_n 3, 1) := by decide +kernel
theorem dX7_firstLookOf_17 : decode cX7_firstLookOf 17 = .ok (.aload_n 0, 1) := by decide +kernel
theorem dX7_firstLookOf_18 : decode cX7_firstLookOf 18 = .ok (.getfield 26, 3) := by decide +kernel
theorem dX7_firstLookOf_21 : decode cX7_firstLookOf 21 = .ok (.getfield 237, 3) := by decide +kernel
theorem dX7_firstLookOf_24 : decode cX7_firstLookOf 24 = .ok (.if_icmp .ge 44, 3) := by decide +kernel
theorem dX7_firstLookOf_27 : decode cX7_firstLookOf 27 = .ok (.aload_n 0, 1) := by decide +kernel
theorem dX7_firstLookOf_28 : decode cX7_firstLookOf 28 = .ok (.getfield 10, 3) := by decide +kernel
theorem dX7_firstLookOf_31 : decode cX7_firstLookOf 31 = .ok (.aload_n 0, 1) := by decide +kernel
theorem dX7_firstLookOf_32 : decode cX7_firstLookOf 32 = .ok (.getfield 26, 3) := by decide +kernel
theorem dX7_firstLookOf_35 : decode cX7_firstLookOf 35 = .ok (.iload_n 3, 1) := by decide +kernel
theorem dX7_firstLookOf_36 : decode cX7_firstLookOf 36 = .ok (.invokevirtual 254, 3) := by decide +kernel
theorem dX7_firstLookOf_39 : decode cX7_firstLookOf 39 = .ok (.invokevirtual 95, 3) := by decide +kernel
theorem dX7_firstLookOf_42 : decode cX7_firstLookOf 42 = .ok (.aload_n 0, 1) := by decide +kernel
theorem dX7_firstLookOf_43 : decode cX7_firstLookOf 43 = .ok (.getfield 10, 3) := by decide +kernel
theorem dX7_firstLookOf_46 : decode cX7_firstLookOf 46 = .ok (.iload_n 2, 1) := by decide +kernel
theorem dX7_firstLookOf_47 : decode cX7_firstLookOf 47 = .ok (.invokevirtual 95, 3) := by decide +kernel
theorem dX7_firstLookOf_50 : decode cX7_firstLookOf 50 = .ok (.if_icmp .ge 12, 3) := by decide +kernel
theorem dX7_firstLookOf_53 : decode cX7_firstLookOf 53 = .ok (.aload_n 0, 1) := by decide +kernel
theorem dX7_firstLookOf_54 : decode cX7_firstLookOf 54 = .ok (.getfield 26, 3) := by decide +kernel
theorem dX7_firstLookOf_57 : decode cX7_firstLookOf 57 = .ok (.iload_n 3, 1) := by decide +kernel
theorem dX7_firstLookOf_58 : decode cX7_firstLookOf 58 = .ok (.invokevirtual 254, 3) := by decide +kernel
theorem dX7_firstLookOf_61 : decode cX7_firstLookOf 61 = .ok (.istore_n 2, 1) := by decide +kernel
theorem dX7_firstLookOf_62 : decode cX7_firstLookOf 62 = .ok (.iinc 3 1, 3) := by decide +kernel
theorem dX7_firstLookOf_65 : decode cX7_firstLookOf 65 = .ok (.goto (-49), 3) := by decide +kernel
theorem dX7_firstLookOf_68 : decode cX7_firstLookOf 68 = .ok (.iload_n 2, 1) := by decide +kernel
theorem dX7_firstLookOf_69 : decode cX7_firstLookOf 69 = .ok (.ireturn, 1) := by decide +kernel
set_option maxRecDepth 20000 in
theorem ggX7_findOrbits_X3_takeAll : GoodIn wsX7_findOrbits wsX3_takeAll := goodIn_r _ [6, 7, 8, 9, 10, 11, 12, 13, 14, 113, 114, 115, 116] (by decide +kernel) (by decide +kernel)
set_option maxRecDepth 20000 in
theorem gX7_findOrbits_X3_takeAll : GoodIn wsX7_findOrbits (wsV RX7 257 RX3 yX3_takeAll wsX3_takeAll) := goodIn_app (goodIn_of _ (by decide +kernel)) ggX7_findOrbits_X3_takeAll
set_option maxRecDepth 20000 in
theorem ggX7_findOrbits_X7_keepFitting : GoodIn wsX7_findOrbits wsX7_keepFitting := goodIn_r _ [19, 20, 1, 21, 22, 23, 24, 18, 25, 26, 27, 28, 29, 30, 31, 32, 33, 34, 35, 36, 12, 37, 14, 38, 39, 40, 41, 42, 43, 44, 45, 46, 47, 48, 49, 50, 51, 52, 53, 54, 55, 56, 57, 58, 59, 60, 61, 62, 63, 64, 65, 66, 67, 68, 69, 70, 71, 72, 73, 74, 75, 76, 77, 78, 79, 80, 5, 81, 8, 7, 82, 83, 84, 85, 86, 87, 88, 89, 90, 91, 92, 93, 94, 95, 96, 97, 98, 99, 100, 101, 102, 103, 104, 105, 106, 107, 108, 109, 110, 111, 112, 117, 118, 119, 120, 121, 122, 123, 124, 125, 126, 127, 128, 129, 130, 131, 132, 133, 134, 135, 136, 116, 113, 114, 115] (by decide +kernel) (by decide +kernel)
set_option maxRecDepth 20000 in
theorem gX7_findOrbits_X7_keepFitting : GoodIn wsX7_findOrbits (wsV RX7 260 RX7 yX7_keepFitting wsX7_keepFitting) := goodIn_app (goodIn_of _ (by decide +kernel)) ggX7_findOrbits_X7_keepFitting
theorem dX7_findOrbits_0 : decode cX7_findOrbits 0 = .ok (.aload_n 0, 1) := by decide +kernel
theorem dX7_findOrbits_1 : decode cX7_findOrbits 1 = .ok (.getfield 33, 3) := by decide +kernel
theorem dX7_findOrbits_4 : decode cX7_findOrbits 4 = .ok (.invokevirtual 257, 3) := by decide +kernel
theorem dX7_findOrbits_7 : decode cX7_findOrbits 7 = .ok (.aload_n 0, 1) := by decide +kernel
theorem dX7_findOrbits_8 : decode cX7_findOrbits 8 = .ok (.iload_n 1, 1) := by decide +kernel
theorem dX7_findOrbits_9 : decode cX7_findOrbits 9 = .ok (.invokevirtual 260, 3) := by decide +kernel
theorem dX7_findOrbits_12 : decode cX7_findOrbits 12 = .ok (.return_, 1) := by decide +kernel
set_option maxRecDepth 20000 in
theorem ggX7_keepFitting_X7_gatherLooks : GoodIn wsX7_keepFitting wsX7_gatherLooks := goodIn_r _ [8, 1, 3, 9, 10, 11, 12, 13, 14, 15, 16, 17, 18, 19, 20, 21, 22, 23, 24, 25, 26, 27, 28, 29, 30, 31, 32, 33, 95, 96, 97, 98, 99, 100, 101, 102, 103, 104, 105, 106, 107, 108, 109, 110, 111, 112, 113, 114, 115, 116, 117, 118, 119, 120, 121] (by decide +kernel) (by decide +kernel)
set_option maxRecDepth 20000 in
theorem gX7_keepFitting_X7_gatherLooks : GoodIn wsX7_keepFitting (wsV RX7 191 RX7 yX7_gatherLooks wsX7_gatherLooks) := goodIn_app (goodIn_of _ (by decide +kernel)) ggX7_keepFitting_X7_gatherLooks
set_option maxRecDepth 20000 in
theorem ggX7_keepFitting_X2_dotAt : GoodIn wsX7_keepFitting wsX2_dotAt := goodIn_r _ [37, 28, 38, 18, 19, 20, 21, 22, 101, 102, 121] (by decide +kernel) (by decide +kernel)
set_option maxRecDepth 20000 in
theorem gX7_keepFitting_X2_dotAt : GoodIn wsX7_keepFitting (wsV RX7 254 RX2 yX2_dotAt wsX2_dotAt) := goodIn_app (goodIn_of _ (by decide +kernel)) ggX7_keepFitting_X2_dotAt
set_option maxRecDepth 20000 in
theorem ggX7_keepFitting_X6_nightOf : GoodIn wsX7_keepFitting wsX6_nightOf := goodIn_r _ [43, 44, 45, 46, 18, 19, 20, 21, 22, 103, 104, 105, 106, 107, 108, 109, 110, 111, 112, 121] (by decide +kernel) (by decide +kernel)
set_option maxRecDepth 20000 in
theorem gX7_keepFitting_X6_nightOf : GoodIn wsX7_keepFitting (wsV RX7 95 RX6 yX6_nightOf wsX6_nightOf) := goodIn_app (goodIn_of _ (by decide +kernel)) ggX7_keepFitting_X6_nightOf
set_option maxRecDepth 20000 in
theorem ggX7_keepFitting_X6_truePlaceOf : GoodIn wsX7_keepFitting wsX6_truePlaceOf := goodIn_r _ [50, 51, 52, 46, 18, 19, 20, 21, 22, 53, 54, 55, 56, 103, 104, 105, 106, 107, 108, 109, 110, 111, 112, 121] (by decide +kernel) (by decide +kernel)
set_option maxRecDepth 20000 in
theorem gX7_keepFitting_X6_truePlaceOf : GoodIn wsX7_keepFitting (wsV RX7 98 RX6 yX6_truePlaceOf wsX6_truePlaceOf) := goodIn_app (goodIn_of _ (by decide +kernel)) ggX7_keepFitting_X6_truePlaceOf
set_option maxRecDepth 20000 in
theorem ggX7_keepFitting_X6_errorOf : GoodIn wsX7_keepFitting wsX6_errorOf := goodIn_r _ [60, 61, 62, 45, 46, 18, 19, 20, 21, 22, 103, 104, 105, 106, 107, 108, 109, 110, 111, 112, 121] (by decide +kernel) (by decide +kernel)
set_option maxRecDepth 20000 in
theorem gX7_keepFitting_X6_errorOf : GoodIn wsX7_keepFitting (wsV RX7 263 RX6 yX6_errorOf wsX6_errorOf) := goodIn_app (goodIn_of _ (by decide +kernel)) ggX7_keepFitting_X6_errorOf
set_option maxRecDepth 20000 in
theorem ggX7_keepFitting_X3_keepNear : GoodIn wsX7_keepFitting wsX3_keepNear := goodIn_r _ [67, 68, 69, 70, 7, 71, 72, 73, 74, 75, 76, 77, 78, 54, 55, 56, 79, 18, 19, 20, 21, 22, 80, 81, 82, 66, 83, 84, 85, 86, 87, 88, 89, 90, 91, 92, 93, 94, 31, 32, 33, 122, 123, 124, 121] (by decide +kernel) (by decide +kernel)
set_option maxRecDepth 20000 in
theorem gX7_keepFitting_X3_keepNear : GoodIn wsX7_keepFitting (wsV RX7 266 RX3 yX3_keepNear wsX3_keepNear) := goodIn_app (goodIn_of _ (by decide +kernel)) ggX7_keepFitting_X3_keepNear
theorem dX7_keepFitting_0 : decode cX7_keepFitting 0 = .ok (.aload_n 0, 1) := by decide +kernel
theorem dX7_keepFitting_1 : decode cX7_keepFitting 1 = .ok (.iload_n 1, 1) := by decide +kernel
theorem dX7_keepFitting_2 : decode cX7_keepFitting 2 = .ok (.invokevirtual 191, 3) := by decide +kernel
theorem dX7_keepFitting_5 : decode cX7_keepFitting 5 = .ok (.iconst 0, 1) := by decide +kernel
theorem dX7_keepFitting_6 : decode cX7_keepFitting 6 = .ok (.istore_n 2, 1) := by decide +kernel
theorem dX7_keepFitting_7 : decode cX7_keepFitting 7 = .ok (.iload_n 2, 1) := by decide +kernel
theorem dX7_keepFitting_8 : decode cX7_keepFitting 8 = .ok (.aload_n 0, 1) := by decide +kernel
theorem dX7_keepFitting_9 : decode cX7_keepFitting 9 = .ok (.getfield 26, 3) := by decide +kernel
theorem dX7_keepFitting_12 : decode cX7_keepFitting 12 = .ok (.getfield 237, 3) := by decide +kernel
theorem dX7_keepFitting_15 : decode cX7_keepFitting 15 = .ok (.if_icmp .ge 49, 3) := by decide +kernel
theorem dX7_keepFitting_18 : decode cX7_keepFitting 18 = .ok (.aload_n 0, 1) := by decide +kernel
theorem dX7_keepFitting_19 : decode cX7_keepFitting 19 = .ok (.getfield 26, 3) := by decide +kernel
theorem dX7_keepFitting_22 : decode cX7_keepFitting 22 = .ok (.iload_n 2, 1) := by decide +kernel
theorem dX7_keepFitting_23 : decode cX7_keepFitting 23 = .ok (.invokevirtual 254, 3) := by decide +kernel
theorem dX7_keepFitting_26 : decode cX7_keepFitting 26 = .ok (.istore_n 3, 1) := by decide +kernel
theorem dX7_keepFitting_27 : decode cX7_keepFitting 27 = .ok (.aload_n 0, 1) := by decide +kernel
theorem dX7_keepFitting_28 : decode cX7_keepFitting 28 = .ok (.getfield 33, 3) := by decide +kernel
theorem dX7_keepFitting_31 : decode cX7_keepFitting 31 = .ok (.aload_n 0, 1) := by decide +kernel
theorem dX7_keepFitting_32 : decode cX7_keepFitting 32 = .ok (.getfield 10, 3) := by decide +kernel
theorem dX7_keepFitting_35 : decode cX7_keepFitting 35 = .ok (.iload_n 3, 1) := by decide +kernel
theorem dX7_keepFitting_36 : decode cX7_keepFitting 36 = .ok (.invokevirtual 95, 3) := by decide +kernel
theorem dX7_keepFitting_39 : decode cX7_keepFitting 39 = .ok (.aload_n 0, 1) := by decide +kernel
theorem dX7_keepFitting_40 : decode cX7_keepFitting 40 = .ok (.getfield 10, 3) := by decide +kernel
theorem dX7_keepFitting_43 : decode cX7_keepFitting 43 = .ok (.iload_n 3, 1) := by decide +kernel
theorem dX7_keepFitting_44 : decode cX7_keepFitting 44 = .ok (.invokevirtual 98, 3) := by decide +kernel
theorem dX7_keepFitting_47 : decode cX7_keepFitting 47 = .ok (.aload_n 0, 1) := by decide +kernel
theorem dX7_keepFitting_48 : decode cX7_keepFitting 48 = .ok (.getfield 10, 3) := by decide +kernel
theorem dX7_keepFitting_51 : decode cX7_keepFitting 51 = .ok (.iload_n 3, 1) := by decide +kernel
theorem dX7_keepFitting_52 : decode cX7_keepFitting 52 = .ok (.invokevirtual 263, 3) := by decide +kernel
theorem dX7_keepFitting_55 : decode cX7_keepFitting 55 = .ok (.invokevirtual 266, 3) := by decide +kernel
theorem dX7_keepFitting_58 : decode cX7_keepFitting 58 = .ok (.iinc 2 1, 3) := by decide +kernel
theorem dX7_keepFitting_61 : decode cX7_keepFitting 61 = .ok (.goto (-54), 3) := by decide +kernel
theorem dX7_keepFitting_64 : decode cX7_keepFitting 64 = .ok (.return_, 1) := by decide +kernel
set_option maxRecDepth 20000 in
theorem ggX7_isSeenOn_X6_plateOf : GoodIn wsX7_isSeenOn wsX6_plateOf := goodIn_r _ [7, 8, 9, 10, 11, 12, 13, 14, 29, 30, 31, 32, 33, 34, 35, 36, 37, 38, 39] (by decide +kernel) (by decide +kernel)
set_option maxRecDepth 20000 in
theorem gX7_isSeenOn_X6_plateOf : GoodIn wsX7_isSeenOn (wsV RX7 269 RX6 yX6_plateOf wsX6_plateOf) := goodIn_app (goodIn_of _ (by decide +kernel)) ggX7_isSeenOn_X6_plateOf
set_option maxRecDepth 20000 in
theorem ggX7_isSeenOn_X0_isLook : GoodIn wsX7_isSeenOn wsX0_isLook := goodIn_r _ [19, 20, 21, 22, 10, 11, 12, 13, 14, 40, 41, 42, 43, 44, 45, 46, 47, 39] (by decide +kernel) (by decide +kernel)
set_option maxRecDepth 20000 in
theorem gX7_isSeenOn_X0_isLook : GoodIn wsX7_isSeenOn (wsV RX7 248 RX0 yX0_isLook wsX0_isLook) := goodIn_app (goodIn_of _ (by decide +kernel)) ggX7_isSeenOn_X0_isLook
theorem dX7_isSeenOn_0 : decode cX7_isSeenOn 0 = .ok (.iconst 0, 1) := by decide +kernel
theorem dX7_isSeenOn_1 : decode cX7_isSeenOn 1 = .ok (.istore_n 3, 1) := by decide +kernel
theorem dX7_isSeenOn_2 : decode cX7_isSeenOn 2 = .ok (.iload_n 3, 1) := by decide +kernel
theorem dX7_isSeenOn_3 : decode cX7_isSeenOn 3 = .ok (.aload_n 0, 1) := by decide +kernel
theorem dX7_isSeenOn_4 : decode cX7_isSeenOn 4 = .ok (.getfield 10, 3) := by decide +kernel
theorem dX7_isSeenOn_7 : decode cX7_isSeenOn 7 = .ok (.getfield 83, 3) := by decide +kernel
theorem dX7_isSeenOn_10 : decode cX7_isSeenOn 10 = .ok (.if_icmp .ge 35, 3) := by decide +kernel
theorem dX7_isSeenOn_13 : decode cX7_isSeenOn 13 = .ok (.aload_n 0, 1) := by decide +kernel
theorem dX7_isSeenOn_14 : decode cX7_isSeenOn 14 = .ok (.getfield 10, 3) := by decide +kernel
theorem dX7_isSeenOn_17 : decode cX7_isSeenOn 17 = .ok (.iload_n 3, 1) := by decide +kernel
theorem dX7_isSeenOn_18 : decode cX7_isSeenOn 18 = .ok (.invokevirtual 269, 3) := by decide +kernel
theorem dX7_isSeenOn_21 : decode cX7_isSeenOn 21 = .ok (.iload_n 2, 1) := by decide +kernel
theorem dX7_isSeenOn_22 : decode cX7_isSeenOn 22 = .ok (.if_icmp .ne 17, 3) := by decide +kernel
theorem dX7_isSeenOn_25 : decode cX7_isSeenOn 25 = .ok (.aload_n 0, 1) := by decide +kernel
theorem dX7_isSeenOn_26 : decode cX7_isSeenOn 26 = .ok (.getfield 19, 3) := by decide +kernel
theorem dX7_isSeenOn_29 : decode cX7_isSeenOn 29 = .ok (.iload_n 3, 1) := by decide +kernel
theorem dX7_isSeenOn_30 : decode cX7_isSeenOn 30 = .ok (.iload_n 1, 1) := by decide +kernel
theorem dX7_isSeenOn_31 : decode cX7_isSeenOn 31 = .ok (.invokevirtual 248, 3) := by decide +kernel
theorem dX7_isSeenOn_34 : decode cX7_isSeenOn 34 = .ok (.ifCond .eq 5, 3) := by decide +kernel
theorem dX7_isSeenOn_37 : decode cX7_isSeenOn 37 = .ok (.iconst 1, 1) := by decide +kernel
theorem dX7_isSeenOn_38 : decode cX7_isSeenOn 38 = .ok (.ireturn, 1) := by decide +kernel
theorem dX7_isSeenOn_39 : decode cX7_isSeenOn 39 = .ok (.iinc 3 1, 3) := by decide +kernel
theorem dX7_isSeenOn_42 : decode cX7_isSeenOn 42 = .ok (.goto (-40), 3) := by decide +kernel
theorem dX7_isSeenOn_45 : decode cX7_isSeenOn 45 = .ok (.iconst 0, 1) := by decide +kernel
theorem dX7_isSeenOn_46 : decode cX7_isSeenOn 46 = .ok (.ireturn, 1) := by decide +kernel
set_option maxRecDepth 20000 in
theorem ggX7_canTake_X0_isUnlinked : GoodIn wsX7_canTake wsX0_isUnlinked := goodIn_r _ [8, 9, 10, 11, 12, 13, 14, 15, 95, 96, 97, 98, 99, 100, 101, 102, 103] (by decide +kernel) (by decide +kernel)
set_option maxRecDepth 20000 in
theorem gX7_canTake_X0_isUnlinked : GoodIn wsX7_canTake (wsV RX7 107 RX0 yX0_isUnlinked wsX0_isUnlinked) := goodIn_app (goodIn_of _ (by decide +kernel)) ggX7_canTake_X0_isUnlinked
set_option maxRecDepth 20000 in
theorem ggX7_canTake_X0_isFree : GoodIn wsX7_canTake wsX0_isFree := goodIn_r _ [19, 20, 10, 11, 12, 13, 14, 15, 95, 96, 97, 98, 99, 100, 101, 102, 103] (by decide +kernel) (by decide +kernel)
set_option maxRecDepth 20000 in
theorem gX7_canTake_X0_isFree : GoodIn wsX7_canTake (wsV RX7 272 RX0 yX0_isFree wsX0_isFree) := goodIn_app (goodIn_of _ (by decide +kernel)) ggX7_canTake_X0_isFree
set_option maxRecDepth 20000 in
theorem ggX7_canTake_X6_plateOf : GoodIn wsX7_canTake wsX6_plateOf := goodIn_r _ [25, 26, 27, 11, 12, 13, 14, 15, 104, 105, 106, 107, 108, 109, 110, 111, 112, 113, 103] (by decide +kernel) (by decide +kernel)
set_option maxRecDepth 20000 in
theorem gX7_canTake_X6_plateOf : GoodIn wsX7_canTake (wsV RX7 269 RX6 yX6_plateOf wsX6_plateOf) := goodIn_app (goodIn_of _ (by decide +kernel)) ggX7_canTake_X6_plateOf
set_option maxRecDepth 20000 in
theorem ggX7_canTake_X7_isSeenOn : GoodIn wsX7_canTake wsX7_isSeenOn := goodIn_r _ [32, 2, 1, 21, 22, 23, 24, 25, 26, 27, 11, 12, 13, 14, 15, 33, 34, 35, 7, 36, 9, 20, 10, 89, 90, 91, 92, 93, 94, 104, 105, 106, 107, 108, 109, 110, 111, 112, 113, 103, 95, 96, 97, 98, 99, 100, 101, 102] (by decide +kernel) (by decide +kernel)
set_option maxRecDepth 20000 in
theorem gX7_canTake_X7_isSeenOn : GoodIn wsX7_canTake (wsV RX7 275 RX7 yX7_isSeenOn wsX7_isSeenOn) := goodIn_app (goodIn_of _ (by decide +kernel)) ggX7_canTake_X7_isSeenOn
set_option maxRecDepth 20000 in
theorem ggX7_canTake_X6_nightOf : GoodIn wsX7_canTake wsX6_nightOf := goodIn_r _ [40, 41, 26, 27, 11, 12, 13, 14, 15, 104, 105, 106, 107, 108, 109, 110, 111, 112, 113, 103] (by decide +kernel) (by decide +kernel)
set_option maxRecDepth 20000 in
theorem gX7_canTake_X6_nightOf : GoodIn wsX7_canTake (wsV RX7 95 RX6 yX6_nightOf wsX6_nightOf) := goodIn_app (goodIn_of _ (by decide +kernel)) ggX7_canTake_X6_nightOf
set_option maxRecDepth 20000 in
theorem ggX7_canTake_X6_truePlaceOf : GoodIn wsX7_canTake wsX6_truePlaceOf := goodIn_r _ [45, 46, 47, 27, 11, 12, 13, 14, 15, 48, 49, 50, 51, 104, 105, 106, 107, 108, 109, 110, 111, 112, 113, 103] (by decide +kernel) (by decide +kernel)
set_option maxRecDepth 20000 in
theorem gX7_canTake_X6_truePlaceOf : GoodIn wsX7_canTake (wsV RX7 98 RX6 yX6_truePlaceOf wsX6_truePlaceOf) := goodIn_app (goodIn_of _ (by decide +kernel)) ggX7_canTake_X6_truePlaceOf
set_option maxRecDepth 20000 in
theorem ggX7_canTake_X6_errorOf : GoodIn wsX7_canTake wsX6_errorOf := goodIn_r _ [55, 56, 57, 26, 27, 11, 12, 13, 14, 15, 104, 105, 106, 107, 108, 109, 110, 111, 112, 113, 103] (by decide +kernel) (by decide +kernel)
set_option maxRecDepth 20000 in
theorem gX7_canTake_X6_errorOf : GoodIn wsX7_canTake (wsV RX7 263 RX6 yX6_errorOf wsX6_errorOf) := goodIn_app (goodIn_of _ (by decide +kernel)) ggX7_canTake_X6_errorOf
set_option maxRecDepth 20000 in
theorem ggX7_canTake_X3_hasNear : GoodIn wsX7_canTake wsX3_hasNear := goodIn_r _ [62, 63, 64, 31, 65, 66, 67, 68, 69, 70, 71, 72, 49, 50, 51, 73, 11, 12, 13, 14, 15, 74, 75, 76, 61, 77, 78, 79, 80, 81, 82, 83, 84, 85, 86, 87, 88, 114, 115, 116, 103] (by decide +kernel) (by decide +kernel)
set_option maxRecDepth 20000 in
theorem gX7_canTake_X3_hasNear : GoodIn wsX7_canTake (wsV RX7 278 RX3 yX3_hasNear wsX3_hasNear) := goodIn_app (goodIn_of _ (by decide +kernel)) ggX7_canTake_X3_hasNear
theorem dX7_canTake_0 : decode cX7_canTake 0 = .ok (.aload_n 0, 1) := by decide +kernel
theorem dX7_canTake_1 : decode cX7_canTake 1 = .ok (.getfield 19, 3) := by decide +kernel
theorem dX7_canTake_4 : decode cX7_canTake 4 = .ok (.iload_n 2, 1) := by decide +kernel
theorem dX7_canTake_5 : decode cX7_canTake 5 = .ok (.invokevirtual 107, 3) := by decide +kernel
theorem dX7_canTake_8 : decode cX7_canTake 8 = .ok (.ifCond .eq 68, 3) := by decide +kernel
theorem dX7_canTake_11 : decode cX7_canTake 11 = .ok (.aload_n 0, 1) := by decide +kernel
theorem dX7_canTake_12 : decode cX7_canTake 12 = .ok (.getfield 19, 3) := by decide +kernel
theorem dX7_canTake_15 : decode cX7_canTake 15 = .ok (.iload_n 1, 1) := by decide +kernel
theorem dX7_canTake_16 : decode cX7_canTake 16 = .ok (.invokevirtual 272, 3) := by decide +kernel
theorem dX7_canTake_19 : decode cX7_canTake 19 = .ok (.ifCond .eq 57, 3) := by decide +kernel
theorem dX7_canTake_22 : decode cX7_canTake 22 = .ok (.aload_n 0, 1) := by decide +kernel
theorem dX7_canTake_23 : decode cX7_canTake 23 = .ok (.iload_n 1, 1) := by decide +kernel
theorem dX7_canTake_24 : decode cX7_canTake 24 = .ok (.aload_n 0, 1) := by decide +kernel
theorem dX7_canTake_25 : decode cX7_canTake 25 = .ok (.getfield 10, 3) := by decide +kernel
theorem dX7_canTake_28 : decode cX7_canTake 28 = .ok (.iload_n 2, 1) := by decide +kernel
theorem dX7_canTake_29 : decode cX7_canTake 29 = .ok (.invokevirtual 269, 3) := by decide +kernel
theorem dX7_canTake_32 : decode cX7_canTake 32 = .ok (.invokevirtual 275, 3) := by decide +kernel
theorem dX7_canTake_35 : decode cX7_canTake 35 = .ok (.ifCond .ne 41, 3) := by decide +kernel
theorem dX7_canTake_38 : decode cX7_canTake 38 = .ok (.aload_n 0, 1) := by decide +kernel
theorem dX7_canTake_39 : decode cX7_canTake 39 = .ok (.getfield 33, 3) := by decide +kernel
theorem dX7_canTake_42 : decode cX7_canTake 42 = .ok (.aload_n 0, 1) := by decide +kernel
theorem dX7_canTake_43 : decode cX7_canTake 43 = .ok (.getfield 10, 3) := by decide +kernel
theorem dX7_canTake_46 : decode cX7_canTake 46 = .ok (.iload_n 2, 1) := by decide +kernel
theorem dX7_canTake_47 : decode cX7_canTake 47 = .ok (.invokevirtual 95, 3) := by decide +kernel
theorem dX7_canTake_50 : decode cX7_canTake 50 = .ok (.aload_n 0, 1) := by decide +kernel
theorem dX7_canTake_51 : decode cX7_canTake 51 = .ok (.getfield 10, 3) := by decide +kernel
theorem dX7_canTake_54 : decode cX7_canTake 54 = .ok (.iload_n 2, 1) := by decide +kernel
theorem dX7_canTake_55 : decode cX7_canTake 55 = .ok (.invokevirtual 98, 3) := by decide +kernel
theorem dX7_canTake_58 : decode cX7_canTake 58 = .ok (.aload_n 0, 1) := by decide +kernel
theorem dX7_canTake_59 : decode cX7_canTake 59 = .ok (.getfield 10, 3) := by decide +kernel
theorem dX7_canTake_62 : decode cX7_canTake 62 = .ok (.iload_n 2, 1) := by decide +kernel
theorem dX7_canTake_63 : decode cX7_canTake 63 = .ok (.invokevirtual 263, 3) := by decide +kernel
theorem dX7_canTake_66 : decode cX7_canTake 66 = .ok (.invokevirtual 278, 3) := by decide +kernel
theorem dX7_canTake_69 : decode cX7_canTake 69 = .ok (.ifCond .eq 7, 3) := by decide +kernel
theorem dX7_canTake_72 : decode cX7_canTake 72 = .ok (.iconst 1, 1) := by decide +kernel
theorem dX7_canTake_73 : decode cX7_canTake 73 = .ok (.goto 4, 3) := by decide +kernel
theorem dX7_canTake_76 : decode cX7_canTake 76 = .ok (.iconst 0, 1) := by decide +kernel
theorem dX7_canTake_77 : decode cX7_canTake 77 = .ok (.ireturn, 1) := by decide +kernel
set_option maxRecDepth 20000 in
theorem ggX7_canJoin_X0_isFree : GoodIn wsX7_canJoin wsX0_isFree := goodIn_r _ [7, 8, 9, 10, 11, 12, 13, 14, 142, 143, 144, 145, 146, 147, 148, 149, 150] (by decide +kernel) (by decide +kernel)
set_option maxRecDepth 20000 in
theorem gX7_canJoin_X0_isFree : GoodIn wsX7_canJoin (wsV RX7 272 RX0 yX0_isFree wsX0_isFree) := goodIn_app (goodIn_of _ (by decide +kernel)) ggX7_canJoin_X0_isFree
set_option maxRecDepth 20000 in
theorem ggX7_canJoin_X0_numberOf : GoodIn wsX7_canJoin wsX0_numberOf := goodIn_r _ [18, 19, 9, 10, 11, 12, 13, 14, 142, 143, 144, 145, 146, 147, 148, 149, 150] (by decide +kernel) (by decide +kernel)
set_option maxRecDepth 20000 in
theorem gX7_canJoin_X0_numberOf : GoodIn wsX7_canJoin (wsV RX7 181 RX0 yX0_numberOf wsX0_numberOf) := goodIn_app (goodIn_of _ (by decide +kernel)) ggX7_canJoin_X0_numberOf
set_option maxRecDepth 20000 in
theorem ggX7_canJoin_X7_shareAPlate : GoodIn wsX7_canJoin wsX7_shareAPlate := goodIn_r _ [24, 25, 1, 26, 27, 28, 6, 29, 30, 8, 9, 10, 11, 12, 13, 14, 31, 32, 33, 34, 35, 36, 37, 38, 39, 40, 23, 41, 136, 137, 138, 139, 140, 141, 151, 152, 153, 154, 155, 156, 157, 158, 159, 160, 142, 143, 144, 145, 146, 147, 148, 149, 150] (by decide +kernel) (by decide +kernel)
set_option maxRecDepth 20000 in
theorem gX7_canJoin_X7_shareAPlate : GoodIn wsX7_canJoin (wsV RX7 282 RX7 yX7_shareAPlate wsX7_shareAPlate) := goodIn_app (goodIn_of _ (by decide +kernel)) ggX7_canJoin_X7_shareAPlate
set_option maxRecDepth 20000 in
theorem ggX7_canJoin_X7_findOrbits : GoodIn wsX7_canJoin wsX7_findOrbits := goodIn_r _ [45, 2, 46, 47, 48, 49, 50, 51, 52, 53, 54, 55, 12, 56, 14, 57, 58, 59, 23, 60, 61, 25, 62, 63, 64, 65, 1, 26, 27, 28, 6, 29, 30, 8, 9, 10, 11, 13, 66, 67, 68, 69, 70, 71, 72, 73, 74, 75, 76, 77, 78, 79, 80, 81, 82, 83, 84, 34, 85, 86, 36, 37, 87, 88, 89, 90, 91, 92, 93, 94, 95, 96, 97, 98, 99, 100, 101, 102, 103, 104, 105, 106, 107, 108, 109, 110, 111, 112, 113, 114, 115, 116, 117, 118, 119, 120, 121, 122, 123, 124, 125, 126, 127, 128, 129, 130, 131, 136, 137, 138, 139, 140, 141, 161, 162, 163, 150, 164, 165, 151, 152, 153, 154, 155, 156, 157, 158, 159, 160, 142, 143, 144, 145, 146, 147, 148, 149] (by decide +kernel) (by decide +kernel)
set_option maxRecDepth 20000 in
theorem gX7_canJoin_X7_findOrbits : GoodIn wsX7_canJoin (wsV RX7 121 RX7 yX7_findOrbits wsX7_findOrbits) := goodIn_app (goodIn_of _ (by decide +kernel)) ggX7_canJoin_X7_findOrbits
set_option maxRecDepth 20000 in
theorem ggX7_canJoin_X7_keepFitting : GoodIn wsX7_canJoin wsX7_keepFitting := goodIn_r _ [60, 61, 2, 25, 62, 63, 64, 23, 65, 1, 26, 27, 28, 6, 29, 30, 8, 9, 10, 11, 12, 13, 14, 66, 67, 68, 69, 70, 71, 72, 73, 74, 75, 76, 77, 78, 79, 80, 81, 82, 83, 84, 34, 85, 86, 36, 37, 87, 88, 89, 90, 91, 92, 93, 94, 95, 96, 97, 98, 99, 100, 101, 102, 103, 104, 105, 49, 106, 52, 51, 107, 108, 109, 110, 111, 112, 113, 114, 115, 116, 117, 118, 119, 120, 121, 122, 123, 124, 125, 126, 127, 128, 129, 130, 131, 136, 137, 138, 139, 140, 141, 164, 165, 151, 152, 153, 154, 155, 156, 157, 158, 159, 160, 142, 143, 144, 145, 146, 147, 148, 149, 150, 161, 162, 163] (by decide +kernel) (by decide +kernel)
set_option maxRecDepth 20000 in
theorem gX7_canJoin_X7_keepFitting : GoodIn wsX7_canJoin (wsV RX7 260 RX7 yX7_keepFitting wsX7_keepFitting) := goodIn_app (goodIn_of _ (by decide +kernel)) ggX7_canJoin_X7_keepFitting
set_option maxRecDepth 20000 in
theorem ggX7_canJoin_X3_countOrbits : GoodIn wsX7_canJoin wsX3_countOrbits := goodIn_r _ [135, 52, 116, 10, 11, 12, 13, 14, 161, 162, 163, 150] (by decide +kernel) (by decide +kernel)
set_option maxRecDepth 20000 in
theorem gX7_canJoin_X3_countOrbits : GoodIn wsX7_canJoin (wsV RX7 187 RX3 yX3_countOrbits wsX3_countOrbits) := goodIn_app (goodIn_of _ (by decide +kernel)) ggX7_canJoin_X3_countOrbits
theorem dX7_canJoin_0 : decode cX7_canJoin 0 = .ok (.iload_n 1, 1) := by decide +kernel
theorem dX7_canJoin_1 : decode cX7_canJoin 1 = .ok (.iload_n 2, 1) := by decide +kernel
theorem dX7_canJoin_2 : decode cX7_canJoin 2 = .ok (.if_icmp .eq 25, 3) := by decide +kernel
theorem dX7_canJoin_5 : decode cX7_canJoin 5 = .ok (.aload_n 0, 1) := by decide +kernel
theorem dX7_canJoin_6 : decode cX7_canJoin 6 = .ok (.getfield 19, 3) := by decide +kernel
theorem dX7_canJoin_9 : decode cX7_canJoin 9 = .ok (.iload_n 1, 1) := by decide +kernel
theorem dX7_canJoin_10 : decode cX7_canJoin 10 = .ok (.invokevirtual 272, 3) := by decide +kernel
theorem dX7_canJoin_13 : decode cX7_canJoin 13 = .ok (.ifCond .eq 14, 3) := by decide +kernel
theorem dX7_canJoin_16 : decode cX7_canJoin 16 = .ok (.aload_n 0, 1) := by decide +kernel
theorem dX7_canJoin_17 : decode cX7_canJoin 17 = .ok (.getfield 19, 3) := by decide +kernel
theorem dX7_canJoin_20 : decode cX7_canJoin 20 = .ok (.iload_n 2, 1) := by decide +kernel
theorem dX7_canJoin_21 : decode cX7_canJoin 21 = .ok (.invokevirtual 272, 3) := by decide +kernel
theorem dX7_canJoin_24 : decode cX7_canJoin 24 = .ok (.ifCond .ne 5, 3) := by decide +kernel
theorem dX7_canJoin_27 : decode cX7_canJoin 27 = .ok (.iconst 0, 1) := by decide +kernel
theorem dX7_canJoin_28 : decode cX7_canJoin 28 = .ok (.ireturn, 1) := by decide +kernel
theorem dX7_canJoin_29 : decode cX7_canJoin 29 = .ok (.aload_n 0, 1) := by decide +kernel
theorem dX7_canJoin_30 : decode cX7_canJoin 30 = .ok (.getfield 19, 3) := by decide +kernel
theorem dX7_canJoin_33 : decode cX7_canJoin 33 = .ok (.iload_n 1, 1) := by decide +kernel
theorem dX7_canJoin_34 : decode cX7_canJoin 34 = .ok (.invokevirtual 181, 3) := by decide +kernel
theorem dX7_canJoin_37 : decode cX7_canJoin 37 = .ok (.iconst (-1), 1) := by decide +kernel
theorem dX7_canJoin_38 : decode cX7_canJoin 38 = .ok (.if_icmp .eq 17, 3) := by decide +kernel
theorem dX7_canJoin_41 : decode cX7_canJoin 41 = .ok (.aload_n 0, 1) := by decide +kernel
theorem dX7_canJoin_42 : decode cX7_canJoin 42 = .ok (.getfield 19, 3) := by decide +kernel
theorem dX7_canJoin_45 : decode cX7_canJoin 45 = .ok (.iload_n 2, 1) := by decide +kernel
theorem dX7_canJoin_46 : decode cX7_canJoin 46 = .ok (.invokevirtual 181, 3) := by decide +kernel
theorem dX7_canJoin_49 : decode cX7_canJoin 49 = .ok (.iconst (-1), 1) := by decide +kernel
theorem dX7_canJoin_50 : decode cX7_canJoin 50 = .ok (.if_icmp .eq 5, 3) := by decide +kernel
theorem dX7_canJoin_53 : decode cX7_canJoin 53 = .ok (.iconst 0, 1) := by decide +kernel
theorem dX7_canJoin_54 : decode cX7_canJoin 54 = .ok (.ireturn, 1) := by decide +kernel
theorem dX7_canJoin_55 : decode cX7_canJoin 55 = .ok (.aload_n 0, 1) := by decide +kernel
theorem dX7_canJoin_56 : decode cX7_canJoin 56 = .ok (.iload_n 1, 1) := by decide +kernel
theorem dX7_canJoin_57 : decode cX7_canJoin 57 = .ok (.iload_n 2, 1) := by decide +kernel
theorem dX7_canJoin_58 : decode cX7_canJoin 58 = .ok (.invokevirtual 282, 3) := by decide +kernel
theorem dX7_canJoin_61 : decode cX7_canJoin 61 = .ok (.ifCond .eq 5, 3) := by decide +kernel
theorem dX7_canJoin_64 : decode cX7_canJoin 64 = .ok (.iconst 0, 1) := by decide +kernel
theorem dX7_canJoin_65 : decode cX7_canJoin 65 = .ok (.ireturn, 1) := by decide +kernel
theorem dX7_canJoin_66 : decode cX7_canJoin 66 = .ok (.aload_n 0, 1) := by decide +kernel
theorem dX7_canJoin_67 : decode cX7_canJoin 67 = .ok (.iload_n 1, 1) := by decide +kernel
theorem dX7_canJoin_68 : decode cX7_canJoin 68 = .ok (.invokevirtual 121, 3) := by decide +kernel
theorem dX7_canJoin_71 : decode cX7_canJoin 71 = .ok (.aload_n 0, 1) := by decide +kernel
theorem dX7_canJoin_72 : decode cX7_canJoin 72 = .ok (.iload_n 2, 1) := by decide +kernel
theorem dX7_canJoin_73 : decode cX7_canJoin 73 = .ok (.invokevirtual 260, 3) := by decide +kernel
theorem dX7_canJoin_76 : decode cX7_canJoin 76 = .ok (.aload_n 0, 1) := by decide +kernel
theorem dX7_canJoin_77 : decode cX7_canJoin 77 = .ok (.getfield 33, 3) := by decide +kernel
theorem dX7_canJoin_80 : decode cX7_canJoin 80 = .ok (.invokevirtual 187, 3) := by decide +kernel
theorem dX7_canJoin_83 : decode cX7_canJoin 83 = .ok (.ifCond .le 7, 3) := by decide +kernel
theorem dX7_canJoin_86 : decode cX7_canJoin 86 = .ok (.iconst 1, 1) := by decide +kernel
theorem dX7_canJoin_87 : decode cX7_canJoin 87 = .ok (.goto 4, 3) := by decide +kernel
theorem dX7_canJoin_90 : decode cX7_canJoin 90 = .ok (.iconst 0, 1) := by decide +kernel
theorem dX7_canJoin_91 : decode cX7_canJoin 91 = .ok (.ireturn, 1) := by decide +kernel
set_option maxRecDepth 20000 in
theorem ggX7_shareAPlate_X0_isLook : GoodIn wsX7_shareAPlate wsX0_isLook := goodIn_r _ [7, 8, 9, 10, 11, 12, 13, 14, 15, 44, 45, 46, 47, 48, 49, 50, 51, 52] (by decide +kernel) (by decide +kernel)
set_option maxRecDepth 20000 in
theorem gX7_shareAPlate_X0_isLook : GoodIn wsX7_shareAPlate (wsV RX7 248 RX0 yX0_isLook wsX0_isLook) := goodIn_app (goodIn_of _ (by decide +kernel)) ggX7_shareAPlate_X0_isLook
set_option maxRecDepth 20000 in
theorem ggX7_shareAPlate_X6_plateOf : GoodIn wsX7_shareAPlate wsX6_plateOf := goodIn_r _ [20, 21, 22, 11, 12, 13, 14, 15, 34, 35, 36, 37, 38, 39, 40, 41, 42, 43, 52] (by decide +kernel) (by decide +kernel)
set_option maxRecDepth 20000 in
theorem gX7_shareAPlate_X6_plateOf : GoodIn wsX7_shareAPlate (wsV RX7 269 RX6 yX6_plateOf wsX6_plateOf) := goodIn_app (goodIn_of _ (by decide +kernel)) ggX7_shareAPlate_X6_plateOf
set_option maxRecDepth 20000 in
theorem ggX7_shareAPlate_X7_isSeenOn : GoodIn wsX7_shareAPlate wsX7_isSeenOn := goodIn_r _ [27, 1, 2, 16, 17, 18, 19, 20, 21, 22, 11, 12, 13, 14, 15, 3, 4, 5, 6, 7, 8, 9, 10, 28, 29, 30, 31, 32, 33, 34, 35, 36, 37, 38, 39, 40, 41, 42, 43, 52, 44, 45, 46, 47, 48, 49, 50, 51] (by decide +kernel) (by decide +kernel)
set_option maxRecDepth 20000 in
theorem gX7_shareAPlate_X7_isSeenOn : GoodIn wsX7_shareAPlate (wsV RX7 275 RX7 yX7_isSeenOn wsX7_isSeenOn) := goodIn_app (goodIn_of _ (by decide +kernel)) ggX7_shareAPlate_X7_isSeenOn
theorem dX7_shareAPlate_0 : decode cX7_shareAPlate 0 = .ok (.iconst 0, 1) := by decide +kernel
theorem dX7_shareAPlate_1 : decode cX7_shareAPlate 1 = .ok (.istore_n 3, 1) := by decide +kernel
theorem dX7_shareAPlate_2 : decode cX7_shareAPlate 2 = .ok (.iload_n 3, 1) := by decide +kernel
theorem dX7_shareAPlate_3 : decode cX7_shareAPlate 3 = .ok (.aload_n 0, 1) := by decide +kernel
theorem dX7_shareAPlate_4 : decode cX7_shareAPlate 4 = .ok (.getfield 10, 3) := by decide +kernel
theorem dX7_shareAPlate_7 : decode cX7_shareAPlate 7 = .ok (.getfield 83, 3) := by decide +kernel
theorem dX7_shareAPlate_10 : decode cX7_shareAPlate 10 = .ok (.if_icmp .ge 39, 3) := by decide +kernel
theorem dX7_shareAPlate_13 : decode cX7_shareAPlate 13 = .ok (.aload_n 0, 1) := by decide +kernel
theorem dX7_shareAPlate_14 : decode cX7_shareAPlate 14 = .ok (.getfield 19, 3) := by decide +kernel
theorem dX7_shareAPlate_17 : decode cX7_shareAPlate 17 = .ok (.iload_n 3, 1) := by decide +kernel
theorem dX7_shareAPlate_18 : decode cX7_shareAPlate 18 = .ok (.iload_n 1, 1) := by decide +kernel
theorem dX7_shareAPlate_19 : decode cX7_shareAPlate 19 = .ok (.invokevirtual 248, 3) := by decide +kernel
theorem dX7_shareAPlate_22 : decode cX7_shareAPlate 22 = .ok (.ifCond .eq 21, 3) := by decide +kernel
theorem dX7_shareAPlate_25 : decode cX7_shareAPlate 25 = .ok (.aload_n 0, 1) := by decide +kernel
theorem dX7_shareAPlate_26 : decode cX7_shareAPlate 26 = .ok (.iload_n 2, 1) := by decide +kernel
theorem dX7_shareAPlate_27 : decode cX7_shareAPlate 27 = .ok (.aload_n 0, 1) := by decide +kernel
theorem dX7_shareAPlate_28 : decode cX7_shareAPlate 28 = .ok (.getfield 10, 3) := by decide +kernel
theorem dX7_shareAPlate_31 : decode cX7_shareAPlate 31 = .ok (.iload_n 3, 1) := by decide +kernel
theorem dX7_shareAPlate_32 : decode cX7_shareAPlate 32 = .ok (.invokevirtual 269, 3) := by decide +kernel
theorem dX7_shareAPlate_35 : decode cX7_shareAPlate 35 = .ok (.invokevirtual 275, 3) := by decide +kernel
theorem dX7_shareAPlate_38 : decode cX7_shareAPlate 38 = .ok (.ifCond .eq 5, 3) := by decide +kernel
theorem dX7_shareAPlate_41 : decode cX7_shareAPlate 41 = .ok (.iconst 1, 1) := by decide +kernel
theorem dX7_shareAPlate_42 : decode cX7_shareAPlate 42 = .ok (.ireturn, 1) := by decide +kernel
theorem dX7_shareAPlate_43 : decode cX7_shareAPlate 43 = .ok (.iinc 3 1, 3) := by decide +kernel
theorem dX7_shareAPlate_46 : decode cX7_shareAPlate 46 = .ok (.goto (-44), 3) := by decide +kernel
theorem dX7_shareAPlate_49 : decode cX7_shareAPlate 49 = .ok (.iconst 0, 1) := by decide +kernel
theorem dX7_shareAPlate_50 : decode cX7_shareAPlate 50 = .ok (.ireturn, 1) := by decide +kernel
set_option maxRecDepth 20000 in
theorem ggX7_isStronger_X0_numberOf : GoodIn wsX7_isStronger wsX0_numberOf := goodIn_r _ [7, 8, 9, 10, 11, 12, 13, 14, 61, 62, 63, 64, 65, 66, 67, 68, 69] (by decide +kernel) (by decide +kernel)
set_option maxRecDepth 20000 in
theorem gX7_isStronger_X0_numberOf : GoodIn wsX7_isStronger (wsV RX7 181 RX0 yX0_numberOf wsX0_numberOf) := goodIn_app (goodIn_of _ (by decide +kernel)) ggX7_isStronger_X0_numberOf
set_option maxRecDepth 20000 in
theorem ggX7_isStronger_X7_firstLookOf : GoodIn wsX7_isStronger wsX7_firstLookOf := goodIn_r _ [19, 20, 2, 21, 22, 23, 18, 24, 1, 25, 26, 27, 6, 28, 29, 30, 9, 10, 11, 12, 13, 14, 31, 32, 33, 34, 35, 36, 37, 38, 39, 40, 41, 42, 43, 44, 45, 46, 47, 48, 49, 50, 51, 52, 53, 54, 55, 56, 57, 58, 59, 60, 70, 71, 72, 73, 74, 75, 76, 77, 78, 79, 80, 81, 61, 62, 63, 64, 65, 66, 67, 68, 69] (by decide +kernel) (by decide +kernel)
set_option maxRecDepth 20000 in
theorem gX7_isStronger_X7_firstLookOf : GoodIn wsX7_isStronger (wsV RX7 175 RX7 yX7_firstLookOf wsX7_firstLookOf) := goodIn_app (goodIn_of _ (by decide +kernel)) ggX7_isStronger_X7_firstLookOf
set_option maxRecDepth 20000 in
theorem ggX7_isStronger_X6_nightOf : GoodIn wsX7_isStronger wsX6_nightOf := goodIn_r _ [51, 52, 53, 54, 10, 11, 12, 13, 14, 72, 73, 74, 75, 76, 77, 78, 79, 80, 81, 69] (by decide +kernel) (by decide +kernel)
set_option maxRecDepth 20000 in
theorem gX7_isStronger_X6_nightOf : GoodIn wsX7_isStronger (wsV RX7 95 RX6 yX6_nightOf wsX6_nightOf) := goodIn_app (goodIn_of _ (by decide +kernel)) ggX7_isStronger_X6_nightOf
theorem dX7_isStronger_0 : decode cX7_isStronger 0 = .ok (.aload_n 0, 1) := by decide +kernel
theorem dX7_isStronger_1 : decode cX7_isStronger 1 = .ok (.getfield 19, 3) := by decide +kernel
theorem dX7_isStronger_4 : decode cX7_isStronger 4 = .ok (.iload_n 1, 1) := by decide +kernel
theorem dX7_isStronger_5 : decode cX7_isStronger 5 = .ok (.invokevirtual 181, 3) := by decide +kernel
theorem dX7_isStronger_8 : decode cX7_isStronger 8 = .ok (.iconst (-1), 1) := by decide +kernel
theorem dX7_isStronger_9 : decode cX7_isStronger 9 = .ok (.if_icmp .eq 5, 3) := by decide +kernel
theorem dX7_isStronger_12 : decode cX7_isStronger 12 = .ok (.iconst 1, 1) := by decide +kernel
theorem dX7_isStronger_13 : decode cX7_isStronger 13 = .ok (.ireturn, 1) := by decide +kernel
theorem dX7_isStronger_14 : decode cX7_isStronger 14 = .ok (.aload_n 0, 1) := by decide +kernel
theorem dX7_isStronger_15 : decode cX7_isStronger 15 = .ok (.getfield 19, 3) := by decide +kernel
theorem dX7_isStronger_18 : decode cX7_isStronger 18 = .ok (.iload_n 2, 1) := by decide +kernel
theorem dX7_isStronger_19 : decode cX7_isStronger 19 = .ok (.invokevirtual 181, 3) := by decide +kernel
theorem dX7_isStronger_22 : decode cX7_isStronger 22 = .ok (.iconst (-1), 1) := by decide +kernel
theorem dX7_isStronger_23 : decode cX7_isStronger 23 = .ok (.if_icmp .eq 5, 3) := by decide +kernel
theorem dX7_isStronger_26 : decode cX7_isStronger 26 = .ok (.iconst 0, 1) := by decide +kernel
theorem dX7_isStronger_27 : decode cX7_isStronger 27 = .ok (.ireturn, 1) := by decide +kernel
theorem dX7_isStronger_28 : decode cX7_isStronger 28 = .ok (.aload_n 0, 1) := by decide +kernel
theorem dX7_isStronger_29 : decode cX7_isStronger 29 = .ok (.iload_n 1, 1) := by decide +kernel
theorem dX7_isStronger_30 : decode cX7_isStronger 30 = .ok (.invokevirtual 175, 3) := by decide +kernel
theorem dX7_isStronger_33 : decode cX7_isStronger 33 = .ok (.istore_n 3, 1) := by decide +kernel
theorem dX7_isStronger_34 : decode cX7_isStronger 34 = .ok (.aload_n 0, 1) := by decide +kernel
theorem dX7_isStronger_35 : decode cX7_isStronger 35 = .ok (.iload_n 2, 1) := by decide +kernel
theorem dX7_isStronger_36 : decode cX7_isStronger 36 = .ok (.invokevirtual 175, 3) := by decide +kernel
theorem dX7_isStronger_39 : decode cX7_isStronger 39 = .ok (.istore 4, 2) := by decide +kernel
theorem dX7_isStronger_41 : decode cX7_isStronger 41 = .ok (.aload_n 0, 1) := by decide +kernel
theorem dX7_isStronger_42 : decode cX7_isStronger 42 = .ok (.getfield 10, 3) := by decide +kernel
theorem dX7_isStronger_45 : decode cX7_isStronger 45 = .ok (.iload_n 3, 1) := by decide +kernel
theorem dX7_isStronger_46 : decode cX7_isStronger 46 = .ok (.invokevirtual 95, 3) := by decide +kernel
theorem dX7_isStronger_49 : decode cX7_isStronger 49 = .ok (.istore 5, 2) := by decide +kernel
theorem dX7_isStronger_51 : decode cX7_isStronger 51 = .ok (.aload_n 0, 1) := by decide +kernel
theorem dX7_isStronger_52 : decode cX7_isStronger 52 = .ok (.getfield 10, 3) := by decide +kernel
theorem dX7_isStronger_55 : decode cX7_isStronger 55 = .ok (.iload 4, 2) := by decide +kernel
theorem dX7_isStronger_57 : decode cX7_isStronger 57 = .ok (.invokevirtual 95, 3) := by decide +kernel
theorem dX7_isStronger_60 : decode cX7_isStronger 60 = .ok (.istore 6, 2) := by decide +kernel
theorem dX7_isStronger_62 : decode cX7_isStronger 62 = .ok (.iload 5, 2) := by decide +kernel
theorem dX7_isStronger_64 : decode cX7_isStronger 64 = .ok (.iload 6, 2) := by decide +kernel
theorem dX7_isStronger_66 : decode cX7_isStronger 66 = .ok (.if_icmp .lt 16, 3) := by decide +kernel
theorem dX7_isStronger_69 : decode cX7_isStronger 69 = .ok (.iload 5, 2) := by decide +kernel
theorem dX7_isStronger_71 : decode cX7_isStronger 71 = .ok (.iload 6, 2) := by decide +kernel
theorem dX7_isStronger_73 : decode cX7_isStronger 73 = .ok (.if_icmp .ne 13, 3) := by decide +kernel
theorem dX7_isStronger_76 : decode cX7_isStronger 76 = .ok (.iload_n 3, 1) := by decide +kernel
theorem dX7_isStronger_77 : decode cX7_isStronger 77 = .ok (.iload 4, 2) := by decide +kernel
theorem dX7_isStronger_79 : decode cX7_isStronger 79 = .ok (.if_icmp .ge 7, 3) := by decide +kernel
theorem dX7_isStronger_82 : decode cX7_isStronger 82 = .ok (.iconst 1, 1) := by decide +kernel
theorem dX7_isStronger_83 : decode cX7_isStronger 83 = .ok (.goto 4, 3) := by decide +kernel
theorem dX7_isStronger_86 : decode cX7_isStronger 86 = .ok (.iconst 0, 1) := by decide +kernel
theorem dX7_isStronger_87 : decode cX7_isStronger 87 = .ok (.ireturn, 1) := by decide +kernel
set_option maxRecDepth 20000 in
theorem ggX7_canGetNumber_X0_isFree : GoodIn wsX7_canGetNumber wsX0_isFree := goodIn_r _ [7, 8, 9, 10, 11, 12, 13, 14, 136, 137, 138, 139, 140, 141, 142, 143, 144] (by decide +kernel) (by decide +kernel)
set_option maxRecDepth 20000 in
theorem gX7_canGetNumber_X0_isFree : GoodIn wsX7_canGetNumber (wsV RX7 272 RX0 yX0_isFree wsX0_isFree) := goodIn_app (goodIn_of _ (by decide +kernel)) ggX7_canGetNumber_X0_isFree
set_option maxRecDepth 20000 in
theorem ggX7_canGetNumber_X0_numberOf : GoodIn wsX7_canGetNumber wsX0_numberOf := goodIn_r _ [18, 19, 9, 10, 11, 12, 13, 14, 136, 137, 138, 139, 140, 141, 142, 143, 144] (by decide +kernel) (by decide +kernel)
set_option maxRecDepth 20000 in
theorem gX7_canGetNumber_X0_numberOf : GoodIn wsX7_canGetNumber (wsV RX7 181 RX0 yX0_numberOf wsX0_numberOf) := goodIn_app (goodIn_of _ (by decide +kernel)) ggX7_canGetNumber_X0_numberOf
set_option maxRecDepth 20000 in
theorem ggX7_canGetNumber_X7_isSeenLongEnough : GoodIn wsX7_canGetNumber wsX7_isSeenLongEnough := goodIn_r _ [24, 25, 26, 27, 28, 29, 30, 31, 32, 33, 34, 35, 36, 23, 37, 1, 38, 39, 40, 6, 41, 42, 8, 9, 10, 11, 12, 13, 14, 43, 44, 45, 46, 47, 48, 49, 50, 51, 52, 53, 54, 55, 56, 57, 58, 59, 60, 61, 62, 63, 64, 65, 66, 130, 131, 132, 133, 134, 135, 145, 146, 147, 148, 149, 150, 151, 152, 153, 154, 155, 156, 136, 137, 138, 139, 140, 141, 142, 143, 144] (by decide +kernel) (by decide +kernel)
set_option maxRecDepth 20000 in
theorem gX7_canGetNumber_X7_isSeenLongEnough : GoodIn wsX7_canGetNumber (wsV RX7 285 RX7 yX7_isSeenLongEnough wsX7_isSeenLongEnough) := goodIn_app (goodIn_of _ (by decide +kernel)) ggX7_canGetNumber_X7_isSeenLongEnough
set_option maxRecDepth 20000 in
theorem ggX7_canGetNumber_X7_findOrbits : GoodIn wsX7_canGetNumber wsX7_findOrbits := goodIn_r _ [70, 2, 71, 72, 73, 74, 75, 76, 77, 78, 79, 80, 12, 81, 14, 82, 83, 84, 23, 85, 25, 26, 34, 35, 36, 37, 1, 38, 39, 40, 6, 41, 42, 8, 9, 10, 11, 13, 43, 44, 45, 46, 47, 48, 49, 50, 51, 52, 53, 54, 55, 56, 57, 58, 59, 60, 61, 62, 63, 64, 65, 66, 86, 87, 88, 89, 90, 91, 92, 93, 94, 95, 96, 97, 98, 99, 100, 101, 102, 103, 104, 105, 106, 107, 108, 109, 110, 111, 112, 113, 114, 115, 116, 117, 118, 119, 120, 121, 122, 123, 28, 29, 30, 124, 32, 33, 125, 130, 131, 132, 133, 134, 135, 157, 158, 159, 144, 145, 146, 147, 148, 149, 150, 151, 152, 153, 154, 155, 156, 136, 137, 138, 139, 140, 141, 142, 143] (by decide +kernel) (by decide +kernel)
set_option maxRecDepth 20000 in
theorem gX7_canGetNumber_X7_findOrbits : GoodIn wsX7_canGetNumber (wsV RX7 121 RX7 yX7_findOrbits wsX7_findOrbits) := goodIn_app (goodIn_of _ (by decide +kernel)) ggX7_canGetNumber_X7_findOrbits
set_option maxRecDepth 20000 in
theorem ggX7_canGetNumber_X3_countOrbits : GoodIn wsX7_canGetNumber wsX3_countOrbits := goodIn_r _ [129, 77, 115, 10, 11, 12, 13, 14, 157, 158, 159, 144] (by decide +kernel) (by decide +kernel)
set_option maxRecDepth 20000 in
theorem gX7_canGetNumber_X3_countOrbits : GoodIn wsX7_canGetNumber (wsV RX7 187 RX3 yX3_countOrbits wsX3_countOrbits) := goodIn_app (goodIn_of _ (by decide +kernel)) ggX7_canGetNumber_X3_countOrbits
theorem dX7_canGetNumber_0 : decode cX7_canGetNumber 0 = .ok (.aload_n 0, 1) := by decide +kernel
theorem dX7_canGetNumber_1 : decode cX7_canGetNumber 1 = .ok (.getfield 19, 3) := by decide +kernel
theorem dX7_canGetNumber_4 : decode cX7_canGetNumber 4 = .ok (.iload_n 1, 1) := by decide +kernel
theorem dX7_canGetNumber_5 : decode cX7_canGetNumber 5 = .ok (.invokevirtual 272, 3) := by decide +kernel
theorem dX7_canGetNumber_8 : decode cX7_canGetNumber 8 = .ok (.ifCond .eq 23, 3) := by decide +kernel
theorem dX7_canGetNumber_11 : decode cX7_canGetNumber 11 = .ok (.aload_n 0, 1) := by decide +kernel
theorem dX7_canGetNumber_12 : decode cX7_canGetNumber 12 = .ok (.getfield 19, 3) := by decide +kernel
theorem dX7_canGetNumber_15 : decode cX7_canGetNumber 15 = .ok (.iload_n 1, 1) := by decide +kernel
theorem dX7_canGetNumber_16 : decode cX7_canGetNumber 16 = .ok (.invokevirtual 181, 3) := by decide +kernel
theorem dX7_canGetNumber_19 : decode cX7_canGetNumber 19 = .ok (.iconst (-1), 1) := by decide +kernel
theorem dX7_canGetNumber_20 : decode cX7_canGetNumber 20 = .ok (.if_icmp .ne 11, 3) := by decide +kernel
theorem dX7_canGetNumber_23 : decode cX7_canGetNumber 23 = .ok (.aload_n 0, 1) := by decide +kernel
theorem dX7_canGetNumber_24 : decode cX7_canGetNumber 24 = .ok (.iload_n 1, 1) := by decide +kernel
theorem dX7_canGetNumber_25 : decode cX7_canGetNumber 25 = .ok (.invokevirtual 285, 3) := by decide +kernel
theorem dX7_canGetNumber_28 : decode cX7_canGetNumber 28 = .ok (.ifCond .ne 5, 3) := by decide +kernel
theorem dX7_canGetNumber_31 : decode cX7_canGetNumber 31 = .ok (.iconst 0, 1) := by decide +kernel
theorem dX7_canGetNumber_32 : decode cX7_canGetNumber 32 = .ok (.ireturn, 1) := by decide +kernel
theorem dX7_canGetNumber_33 : decode cX7_canGetNumber 33 = .ok (.aload_n 0, 1) := by decide +kernel
theorem dX7_canGetNumber_34 : decode cX7_canGetNumber 34 = .ok (.iload_n 1, 1) := by decide +kernel
theorem dX7_canGetNumber_35 : decode cX7_canGetNumber 35 = .ok (.invokevirtual 121, 3) := by decide +kernel
theorem dX7_canGetNumber_38 : decode cX7_canGetNumber 38 = .ok (.aload_n 0, 1) := by decide +kernel
theorem dX7_canGetNumber_39 : decode cX7_canGetNumber 39 = .ok (.getfield 33, 3) := by decide +kernel
theorem dX7_canGetNumber_42 : decode cX7_canGetNumber 42 = .ok (.invokevirtual 187, 3) := by decide +kernel
theorem dX7_canGetNumber_45 : decode cX7_canGetNumber 45 = .ok (.iconst 1, 1) := by decide +kernel
theorem dX7_canGetNumber_46 : decode cX7_canGetNumber 46 = .ok (.if_icmp .ne 7, 3) := by decide +kernel
theorem dX7_canGetNumber_49 : decode cX7_canGetNumber 49 = .ok (.iconst 1, 1) := by decide +kernel
theorem dX7_canGetNumber_50 : decode cX7_canGetNumber 50 = .ok (.goto 4, 3) := by decide +kernel
theorem dX7_canGetNumber_53 : decode cX7_canGetNumber 53 = .ok (.iconst 0, 1) := by decide +kernel
theorem dX7_canGetNumber_54 : decode cX7_canGetNumber 54 = .ok (.ireturn, 1) := by decide +kernel
set_option maxRecDepth 20000 in
theorem ggX7_isSeenLongEnough_X7_gatherLooks : GoodIn wsX7_isSeenLongEnough wsX7_gatherLooks := goodIn_r _ [14, 1, 2, 15, 16, 17, 18, 19, 20, 21, 22, 23, 24, 25, 26, 27, 28, 29, 30, 31, 32, 33, 34, 35, 36, 37, 38, 39, 53, 54, 55, 56, 57, 58, 59, 60, 61, 62, 63, 64, 65, 66, 67, 68, 69, 70, 71, 72, 73, 74, 75, 76, 77, 78, 79] (by decide +kernel) (by decide +kernel)
set_option maxRecDepth 20000 in
theorem gX7_isSeenLongEnough_X7_gatherLooks : GoodIn wsX7_isSeenLongEnough (wsV RX7 191 RX7 yX7_gatherLooks wsX7_gatherLooks) := goodIn_app (goodIn_of _ (by decide +kernel)) ggX7_isSeenLongEnough_X7_gatherLooks
set_option maxRecDepth 20000 in
theorem ggX7_isSeenLongEnough_X2_dotAt : GoodIn wsX7_isSeenLongEnough wsX2_dotAt := goodIn_r _ [43, 34, 44, 24, 25, 26, 27, 28, 59, 60, 79] (by decide +kernel) (by decide +kernel)
set_option maxRecDepth 20000 in
theorem gX7_isSeenLongEnough_X2_dotAt : GoodIn wsX7_isSeenLongEnough (wsV RX7 254 RX2 yX2_dotAt wsX2_dotAt) := goodIn_app (goodIn_of _ (by decide +kernel)) ggX7_isSeenLongEnough_X2_dotAt
set_option maxRecDepth 20000 in
theorem ggX7_isSeenLongEnough_X6_nightOf : GoodIn wsX7_isSeenLongEnough wsX6_nightOf := goodIn_r _ [49, 50, 51, 52, 24, 25, 26, 27, 28, 61, 62, 63, 64, 65, 66, 67, 68, 69, 70, 79] (by decide +kernel) (by decide +kernel)
set_option maxRecDepth 20000 in
theorem gX7_isSeenLongEnough_X6_nightOf : GoodIn wsX7_isSeenLongEnough (wsV RX7 95 RX6 yX6_nightOf wsX6_nightOf) := goodIn_app (goodIn_of _ (by decide +kernel)) ggX7_isSeenLongEnough_X6_nightOf
theorem dX7_isSeenLongEnough_0 : decode cX7_isSeenLongEnough 0 = .ok (.aload_n 0, 1) := by decide +kernel
theorem dX7_isSeenLongEnough_1 : decode cX7_isSeenLongEnough 1 = .ok (.iload_n 1, 1) := by decide +kernel
theorem dX7_isSeenLongEnough_2 : decode cX7_isSeenLongEnough 2 = .ok (.invokevirtual 191, 3) := by decide +kernel
theorem dX7_isSeenLongEnough_5 : decode cX7_isSeenLongEnough 5 = .ok (.sipush 1000, 3) := by decide +kernel
theorem dX7_isSeenLongEnough_8 : decode cX7_isSeenLongEnough 8 = .ok (.istore_n 2, 1) := by decide +kernel
theorem dX7_isSeenLongEnough_9 : decode cX7_isSeenLongEnough 9 = .ok (.iconst 0, 1) := by decide +kernel
theorem dX7_isSeenLongEnough_10 : decode cX7_isSeenLongEnough 10 = .ok (.istore_n 3, 1) := by decide +kernel
theorem dX7_isSeenLongEnough_11 : decode cX7_isSeenLongEnough 11 = .ok (.iconst 0, 1) := by decide +kernel
theorem dX7_isSeenLongEnough_12 : decode cX7_isSeenLongEnough 12 = .ok (.istore 4, 2) := by decide +kernel
theorem dX7_isSeenLongEnough_14 : decode cX7_isSeenLongEnough 14 = .ok (.iload 4, 2) := by decide +kernel
theorem dX7_isSeenLongEnough_16 : decode cX7_isSeenLongEnough 16 = .ok (.aload_n 0, 1) := by decide +kernel
theorem dX7_isSeenLongEnough_17 : decode cX7_isSeenLongEnough 17 = .ok (.getfield 26, 3) := by decide +kernel
theorem dX7_isSeenLongEnough_20 : decode cX7_isSeenLongEnough 20 = .ok (.getfield 237, 3) := by decide +kernel
theorem dX7_isSeenLongEnough_23 : decode cX7_isSeenLongEnough 23 = .ok (.if_icmp .ge 41, 3) := by decide +kernel
theorem dX7_isSeenLongEnough_26 : decode cX7_isSeenLongEnough 26 = .ok (.aload_n 0, 1) := by decide +kernel
theorem dX7_isSeenLongEnough_27 : decode cX7_isSeenLongEnough 27 = .ok (.getfield 10, 3) := by decide +kernel
theorem dX7_isSeenLongEnough_30 : decode cX7_isSeenLongEnough 30 = .ok (.aload_n 0, 1) := by decide +kernel
theorem dX7_isSeenLongEnough_31 : decode cX7_isSeenLongEnough 31 = .ok (.getfield 26, 3) := by decide +kernel
theorem dX7_isSeenLongEnough_34 : decode cX7_isSeenLongEnough 34 = .ok (.iload 4, 2) := by decide +kernel
theorem dX7_isSeenLongEnough_36 : decode cX7_isSeenLongEnough 36 = .ok (.invokevirtual 254, 3) := by decide +kernel
theorem dX7_isSeenLongEnough_39 : decode cX7_isSeenLongEnough 39 = .ok (.invokevirtual 95, 3) := by decide +kernel
theorem dX7_isSeenLongEnough_42 : decode cX7_isSeenLongEnough 42 = .ok (.istore 5, 2) := by decide +kernel
theorem dX7_isSeenLongEnough_44 : decode cX7_isSeenLongEnough 44 = .ok (.iload_n 2, 1) := by decide +kernel
theorem dX7_isSeenLongEnough_45 : decode cX7_isSeenLongEnough 45 = .ok (.iload 5, 2) := by decide +kernel
theorem dX7_isSeenLongEnough_47 : decode cX7_isSeenLongEnough 47 = .ok (.invokestatic 288, 3) := by decide +kernel
theorem dX7_isSeenLongEnough_50 : decode cX7_isSeenLongEnough 50 = .ok (.istore_n 2, 1) := by decide +kernel
theorem dX7_isSeenLongEnough_51 : decode cX7_isSeenLongEnough 51 = .ok (.iload_n 3, 1) := by decide +kernel
theorem dX7_isSeenLongEnough_52 : decode cX7_isSeenLongEnough 52 = .ok (.iload 5, 2) := by decide +kernel
theorem dX7_isSeenLongEnough_54 : decode cX7_isSeenLongEnough 54 = .ok (.invokestatic 293, 3) := by decide +kernel
theorem dX7_isSeenLongEnough_57 : decode cX7_isSeenLongEnough 57 = .ok (.istore_n 3, 1) := by decide +kernel
theorem dX7_isSeenLongEnough_58 : decode cX7_isSeenLongEnough 58 = .ok (.iinc 4 1, 3) := by decide +kernel
theorem dX7_isSeenLongEnough_61 : decode cX7_isSeenLongEnough 61 = .ok (.goto (-47), 3) := by decide +kernel
theorem dX7_isSeenLongEnough_64 : decode cX7_isSeenLongEnough 64 = .ok (.iconst 0, 1) := by decide +kernel
theorem dX7_isSeenLongEnough_65 : decode cX7_isSeenLongEnough 65 = .ok (.istore 4, 2) := by decide +kernel
theorem dX7_isSeenLongEnough_67 : decode cX7_isSeenLongEnough 67 = .ok (.iconst 0, 1) := by decide +kernel
theorem dX7_isSeenLongEnough_68 : decode cX7_isSeenLongEnough 68 = .ok (.istore 5, 2) := by decide +kernel
theorem dX7_isSeenLongEnough_70 : decode cX7_isSeenLongEnough 70 = .ok (.iload 5, 2) := by decide +kernel
theorem dX7_isSeenLongEnough_72 : decode cX7_isSeenLongEnough 72 = .ok (.aload_n 0, 1) := by decide +kernel
theorem dX7_isSeenLongEnough_73 : decode cX7_isSeenLongEnough 73 = .ok (.getfield 26, 3) := by decide +kernel
theorem dX7_isSeenLongEnough_76 : decode cX7_isSeenLongEnough 76 = .ok (.getfield 237, 3) := by decide +kernel
theorem dX7_isSeenLongEnough_79 : decode cX7_isSeenLongEnough 79 = .ok (.if_icmp .ge 51, 3) := by decide +kernel
theorem dX7_isSeenLongEnough_82 : decode cX7_isSeenLongEnough 82 = .ok (.aload_n 0, 1) := by decide +kernel
theorem dX7_isSeenLongEnough_83 : decode cX7_isSeenLongEnough 83 = .ok (.getfield 10, 3) := by decide +kernel
theorem dX7_isSeenLongEnough_86 : decode cX7_isSeenLongEnough 86 = .ok (.aload_n 0, 1) := by decide +kernel
theorem dX7_isSeenLongEnough_87 : decode cX7_isSeenLongEnough 87 = .ok (.getfield 26, 3) := by decide +kernel
theorem dX7_isSeenLongEnough_90 : decode cX7_isSeenLongEnough 90 = .ok (.iload 5, 2) := by decide +kernel
theorem dX7_isSeenLongEnough_92 : decode cX7_isSeenLongEnough 92 = .ok (.invokevirtual 254, 3) := by decide +kernel
theorem dX7_isSeenLongEnough_95 : decode cX7_isSeenLongEnough 95 = .ok (.invokevirtual 95, 3) := by decide +kernel
theorem dX7_isSeenLongEnough_98 : decode cX7_isSeenLongEnough 98 = .ok (.istore 6, 2) := by decide +kernel
theorem dX7_isSeenLongEnough_100 : decode cX7_isSeenLongEnough 100 = .ok (.iload 4, 2) := by decide +kernel
theorem dX7_isSeenLongEnough_102 : decode cX7_isSeenLongEnough 102 = .ok (.ifCond .ne 15, 3) := by decide +kernel
theorem dX7_isSeenLongEnough_105 : decode cX7_isSeenLongEnough 105 = .ok (.iload 6, 2) := by decide +kernel
theorem dX7_isSeenLongEnough_107 : decode cX7_isSeenLongEnough 107 = .ok (.iload_n 2, 1) := by decide +kernel
theorem dX7_isSeenLongEnough_108 : decode cX7_isSeenLongEnough 108 = .ok (.if_icmp .eq 13, 3) := by decide +kernel
theorem dX7_isSeenLongEnough_111 : decode cX7_isSeenLongEnough 111 = .ok (.iload 6, 2) := by decide +kernel
theorem dX7_isSeenLongEnough_113 : decode cX7_isSeenLongEnough 113 = .ok (.iload_n 3, 1) := by decide +kernel
theorem dX7_isSeenLongEnough_114 : decode cX7_isSeenLongEnough 114 = .ok (.if_icmp .eq 7, 3) := by decide +kernel
theorem dX7_isSeenLongEnough_117 : decode cX7_isSeenLongEnough 117 = .ok (.iconst 1, 1) := by decide +kernel
theorem dX7_isSeenLongEnough_118 : decode cX7_isSeenLongEnough 118 = .ok (.goto 4, 3) := by decide +kernel
theorem dX7_isSeenLongEnough_121 : decode cX7_isSeenLongEnough 121 = .ok (.iconst 0, 1) := by decide +kernel
theorem dX7_isSeenLongEnough_122 : decode cX7_isSeenLongEnough 122 = .ok (.istore 4, 2) := by decide +kernel
theorem dX7_isSeenLongEnough_124 : decode cX7_isSeenLongEnough 124 = .ok (.iinc 5 1, 3) := by decide +kernel
theorem dX7_isSeenLongEnough_127 : decode cX7_isSeenLongEnough 127 = .ok (.goto (-57), 3) := by decide +kernel
theorem dX7_isSeenLongEnough_130 : decode cX7_isSeenLongEnough 130 = .ok (.iload 4, 2) := by decide +kernel
theorem dX7_isSeenLongEnough_132 : decode cX7_isSeenLongEnough 132 = .ok (.ifCond .eq 15, 3) := by decide +kernel
theorem dX7_isSeenLongEnough_135 : decode cX7_isSeenLongEnough 135 = .ok (.iload_n 3, 1) := by decide +kernel
theorem dX7_isSeenLongEnough_136 : decode cX7_isSeenLongEnough 136 = .ok (.iload_n 2, 1) := by decide +kernel
theorem dX7_isSeenLongEnough_137 : decode cX7_isSeenLongEnough 137 = .ok (.isub, 1) := by decide +kernel
theorem dX7_isSeenLongEnough_138 : decode cX7_isSeenLongEnough 138 = .ok (.bipush 30, 2) := by decide +kernel
theorem dX7_isSeenLongEnough_140 : decode cX7_isSeenLongEnough 140 = .ok (.if_icmp .lt 7, 3) := by decide +kernel
theorem dX7_isSeenLongEnough_143 : decode cX7_isSeenLongEnough 143 = .ok (.iconst 1, 1) := by decide +kernel
theorem dX7_isSeenLongEnough_144 : decode cX7_isSeenLongEnough 144 = .ok (.goto 4, 3) := by decide +kernel
theorem dX7_isSeenLongEnough_147 : decode cX7_isSeenLongEnough 147 = .ok (.iconst 0, 1) := by decide +kernel
theorem dX7_isSeenLongEnough_148 : decode cX7_isSeenLongEnough 148 = .ok (.ireturn, 1) := by decide +kernel
set_option maxRecDepth 20000 in
theorem ggX7_countPlacesLeft_X2_dotAt : GoodIn wsX7_countPlacesLeft wsX2_dotAt := goodIn_r _ [8, 9, 10, 11, 12, 13, 14, 15, 71, 72, 73] (by decide +kernel) (by decide +kernel)
set_option maxRecDepth 20000 in
theorem gX7_countPlacesLeft_X2_dotAt : GoodIn wsX7_countPlacesLeft (wsV RX7 254 RX2 yX2_dotAt wsX2_dotAt) := goodIn_app (goodIn_of _ (by decide +kernel)) ggX7_countPlacesLeft_X2_dotAt
set_option maxRecDepth 20000 in
theorem ggX7_countPlacesLeft_X7_leastAOf : GoodIn wsX7_countPlacesLeft wsX7_leastAOf := goodIn_r _ [20, 3, 21, 22, 23, 24, 25, 26, 27, 28, 11, 12, 13, 14, 15, 29, 30, 31, 32, 33, 34, 35, 36, 37, 38, 39, 40, 41, 42, 43, 44, 45, 46, 19, 47, 48, 49, 50, 51, 52, 53, 54, 65, 66, 67, 68, 69, 70, 74, 75, 76, 77, 78, 79, 80, 81, 82, 83, 73] (by decide +kernel) (by decide +kernel)
set_option maxRecDepth 20000 in
theorem gX7_countPlacesLeft_X7_leastAOf : GoodIn wsX7_countPlacesLeft (wsV RX7 296 RX7 yX7_leastAOf wsX7_leastAOf) := goodIn_app (goodIn_of _ (by decide +kernel)) ggX7_countPlacesLeft_X7_leastAOf
set_option maxRecDepth 20000 in
theorem ggX7_countPlacesLeft_J9_floorMod_7cf53 : GoodIn wsX7_countPlacesLeft wsJ9_floorMod_7cf53 := goodIn_r _ [32] (by decide +kernel) (by decide +kernel)
set_option maxRecDepth 20000 in
theorem gX7_countPlacesLeft_J9_floorMod_7cf53 : GoodIn wsX7_countPlacesLeft (va_wsS RX7 301 yJ9_floorMod_7cf53 wsJ9_floorMod_7cf53) := goodIn_app (goodIn_of _ (by decide +kernel)) ggX7_countPlacesLeft_J9_floorMod_7cf53
set_option maxRecDepth 20000 in
theorem ggX7_countPlacesLeft_X6_errorOf : GoodIn wsX7_countPlacesLeft wsX6_errorOf := goodIn_r _ [36, 37, 38, 39, 28, 11, 12, 13, 14, 15, 74, 75, 76, 77, 78, 79, 80, 81, 82, 83, 73] (by decide +kernel) (by decide +kernel)
set_option maxRecDepth 20000 in
theorem gX7_countPlacesLeft_X6_errorOf : GoodIn wsX7_countPlacesLeft (wsV RX7 263 RX6 yX6_errorOf wsX6_errorOf) := goodIn_app (goodIn_of _ (by decide +kernel)) ggX7_countPlacesLeft_X6_errorOf
set_option maxRecDepth 20000 in
theorem ggX7_countPlacesLeft_X7_stretch : GoodIn wsX7_countPlacesLeft wsX7_stretch := goodIn_r _ [57] (by decide +kernel) (by decide +kernel)
set_option maxRecDepth 20000 in
theorem gX7_countPlacesLeft_X7_stretch : GoodIn wsX7_countPlacesLeft (va_wsS RX7 304 yX7_stretch wsX7_stretch) := goodIn_app (goodIn_of _ (by decide +kernel)) ggX7_countPlacesLeft_X7_stretch
set_option maxRecDepth 20000 in
theorem ggX7_countPlacesLeft_J13_bitCount_95d88 : GoodIn wsX7_countPlacesLeft wsJ13_bitCount_95d88 := goodIn_r _ [61, 62, 63, 64] (by decide +kernel) (by decide +kernel)
set_option maxRecDepth 20000 in
theorem gX7_countPlacesLeft_J13_bitCount_95d88 : GoodIn wsX7_countPlacesLeft (va_wsS RX7 308 yJ13_bitCount_95d88 wsJ13_bitCount_95d88) := goodIn_app (goodIn_of _ (by decide +kernel)) ggX7_countPlacesLeft_J13_bitCount_95d88
theorem dX7_countPlacesLeft_0 : decode cX7_countPlacesLeft 0 = .ok (.aload_n 0, 1) := by decide +kernel
theorem dX7_countPlacesLeft_1 : decode cX7_countPlacesLeft 1 = .ok (.aload_n 0, 1) := by decide +kernel
theorem dX7_countPlacesLeft_2 : decode cX7_countPlacesLeft 2 = .ok (.getfield 26, 3) := by decide +kernel
theorem dX7_countPlacesLeft_5 : decode cX7_countPlacesLeft 5 = .ok (.iconst 0, 1) := by decide +kernel
theorem dX7_countPlacesLeft_6 : decode cX7_countPlacesLeft 6 = .ok (.invokevirtual 254, 3) := by decide +kernel
theorem dX7_countPlacesLeft_9 : decode cX7_countPlacesLeft 9 = .ok (.iload_n 1, 1) := by decide +kernel
theorem dX7_countPlacesLeft_10 : decode cX7_countPlacesLeft 10 = .ok (.invokevirtual 296, 3) := by decide +kernel
theorem dX7_countPlacesLeft_13 : decode cX7_countPlacesLeft 13 = .ok (.istore_n 2, 1) := by decide +kernel
theorem dX7_countPlacesLeft_14 : decode cX7_countPlacesLeft 14 = .ok (.ldc2_w 299, 3) := by decide +kernel
theorem dX7_countPlacesLeft_17 : decode cX7_countPlacesLeft 17 = .ok (.lstore_n 3, 1) := by decide +kernel
theorem dX7_countPlacesLeft_18 : decode cX7_countPlacesLeft 18 = .ok (.iconst 0, 1) := by decide +kernel
theorem dX7_countPlacesLeft_19 : decode cX7_countPlacesLeft 19 = .ok (.istore 5, 2) := by decide +kernel
theorem dX7_countPlacesLeft_21 : decode cX7_countPlacesLeft 21 = .ok (.iload 5, 2) := by decide +kernel
theorem dX7_countPlacesLeft_23 : decode cX7_countPlacesLeft 23 = .ok (.aload_n 0, 1) := by decide +kernel
theorem dX7_countPlacesLeft_24 : decode cX7_countPlacesLeft 24 = .ok (.getfield 26, 3) := by decide +kernel
theorem dX7_countPlacesLeft_27 : decode cX7_countPlacesLeft 27 = .ok (.getfield 237, 3) := by decide +kernel
theorem dX7_countPlacesLeft_30 : decode cX7_countPlacesLeft 30 = .ok (.if_icmp .ge 58, 3) := by decide +kernel
theorem dX7_countPlacesLeft_33 : decode cX7_countPlacesLeft 33 = .ok (.aload_n 0, 1) := by decide +kernel
theorem dX7_countPlacesLeft_34 : decode cX7_countPlacesLeft 34 = .ok (.getfield 26, 3) := by decide +kernel
theorem dX7_countPlacesLeft_37 : decode cX7_countPlacesLeft 37 = .ok (.iload 5, 2) := by decide +kernel
theorem dX7_countPlacesLeft_39 : decode cX7_countPlacesLeft 39 = .ok (.invokevirtual 254, 3) := by decide +kernel
theorem dX7_countPlacesLeft_42 : decode cX7_countPlacesLeft 42 = .ok (.istore 6, 2) := by decide +kernel
theorem dX7_countPlacesLeft_44 : decode cX7_countPlacesLeft 44 = .ok (.aload_n 0, 1) := by decide +kernel
theorem dX7_countPlacesLeft_45 : decode cX7_countPlacesLeft 45 = .ok (.iload 6, 2) := by decide +kernel
theorem dX7_countPlacesLeft_47 : decode cX7_countPlacesLeft 47 = .ok (.iload_n 1, 1) := by decide +kernel
theorem dX7_countPlacesLeft_48 : decode cX7_countPlacesLeft 48 = .ok (.invokevirtual 296, 3) := by decide +kernel
theorem dX7_countPlacesLeft_51 : decode cX7_countPlacesLeft 51 = .ok (.iload_n 2, 1) := by decide +kernel
theorem dX7_countPlacesLeft_52 : decode cX7_countPlacesLeft 52 = .ok (.isub, 1) := by decide +kernel
theorem dX7_countPlacesLeft_53 : decode cX7_countPlacesLeft 53 = .ok (.sipush 3600, 3) := by decide +kernel
theorem dX7_countPlacesLeft_56 : decode cX7_countPlacesLeft 56 = .ok (.invokestatic 301, 3) := by decide +kernel
theorem dX7_countPlacesLeft_59 : decode cX7_countPlacesLeft 59 = .ok (.istore 7, 2) := by decide +kernel
theorem dX7_countPlacesLeft_61 : decode cX7_countPlacesLeft 61 = .ok (.lload_n 3, 1) := by decide +kernel
theorem dX7_countPlacesLeft_62 : decode cX7_countPlacesLeft 62 = .ok (.iload 7, 2) := by decide +kernel
theorem dX7_countPlacesLeft_64 : decode cX7_countPlacesLeft 64 = .ok (.iconst 2, 1) := by decide +kernel
theorem dX7_countPlacesLeft_65 : decode cX7_countPlacesLeft 65 = .ok (.aload_n 0, 1) := by decide +kernel
theorem dX7_countPlacesLeft_66 : decode cX7_countPlacesLeft 66 = .ok (.getfield 10, 3) := by decide +kernel
theorem dX7_countPlacesLeft_69 : decode cX7_countPlacesLeft 69 = .ok (.iload 6, 2) := by decide +kernel
theorem dX7_countPlacesLeft_71 : decode cX7_countPlacesLeft 71 = .ok (.invokevirtual 263, 3) := by decide +kernel
theorem dX7_countPlacesLeft_74 : decode cX7_countPlacesLeft 74 = .ok (.imul, 1) := by decide +kernel
theorem dX7_countPlacesLeft_75 : decode cX7_countPlacesLeft 75 = .ok (.iconst 1, 1) := by decide +kernel
theorem dX7_countPlacesLeft_76 : decode cX7_countPlacesLeft 76 = .ok (.iadd, 1) := by decide +kernel
theorem dX7_countPlacesLeft_77 : decode cX7_countPlacesLeft 77 = .ok (.invokestatic 304, 3) := by decide +kernel
theorem dX7_countPlacesLeft_80 : decode cX7_countPlacesLeft 80 = .ok (.land, 1) := by decide +kernel
theorem dX7_countPlacesLeft_81 : decode cX7_countPlacesLeft 81 = .ok (.lstore_n 3, 1) := by decide +kernel
theorem dX7_countPlacesLeft_82 : decode cX7_countPlacesLeft 82 = .ok (.iinc 5 1, 3) := by decide +kernel
theorem dX7_countPlacesLeft_85 : decode cX7_countPlacesLeft 85 = .ok (.goto (-64), 3) := by decide +kernel
theorem dX7_countPlacesLeft_88 : decode cX7_countPlacesLeft 88 = .ok (.lload_n 3, 1) := by decide +kernel
theorem dX7_countPlacesLeft_89 : decode cX7_countPlacesLeft 89 = .ok (.invokestatic 308, 3) := by decide +kernel
theorem dX7_countPlacesLeft_92 : decode cX7_countPlacesLeft 92 = .ok (.ireturn, 1) := by decide +kernel
set_option maxRecDepth 20000 in
theorem ggX7_leastAOf_X6_truePlaceOf : GoodIn wsX7_leastAOf wsX6_truePlaceOf := goodIn_r _ [6, 7, 8, 9, 10, 11, 12, 13, 14, 15, 16, 17, 18, 48, 49, 50, 51, 52, 53, 54, 55, 56, 57, 58] (by decide +kernel) (by decide +kernel)
set_option maxRecDepth 20000 in
theorem gX7_leastAOf_X6_truePlaceOf : GoodIn wsX7_leastAOf (wsV RX7 98 RX6 yX6_truePlaceOf wsX6_truePlaceOf) := goodIn_app (goodIn_of _ (by decide +kernel)) ggX7_leastAOf_X6_truePlaceOf
set_option maxRecDepth 20000 in
theorem ggX7_leastAOf_X6_errorOf : GoodIn wsX7_leastAOf wsX6_errorOf := goodIn_r _ [22, 23, 24, 25, 9, 10, 11, 12, 13, 14, 48, 49, 50, 51, 52, 53, 54, 55, 56, 57, 58] (by decide +kernel) (by decide +kernel)
set_option maxRecDepth 20000 in
theorem gX7_leastAOf_X6_errorOf : GoodIn wsX7_leastAOf (wsV RX7 263 RX6 yX6_errorOf wsX6_errorOf) := goodIn_app (goodIn_of _ (by decide +kernel)) ggX7_leastAOf_X6_errorOf
set_option maxRecDepth 20000 in
theorem ggX7_leastAOf_X6_nightOf : GoodIn wsX7_leastAOf wsX6_nightOf := goodIn_r _ [29, 30, 25, 9, 10, 11, 12, 13, 14, 48, 49, 50, 51, 52, 53, 54, 55, 56, 57, 58] (by decide +kernel) (by decide +kernel)
set_option maxRecDepth 20000 in
theorem gX7_leastAOf_X6_nightOf : GoodIn wsX7_leastAOf (wsV RX7 95 RX6 yX6_nightOf wsX6_nightOf) := goodIn_app (goodIn_of _ (by decide +kernel)) ggX7_leastAOf_X6_nightOf
set_option maxRecDepth 20000 in
theorem ggX7_leastAOf_X7_drift : GoodIn wsX7_leastAOf wsX7_drift := goodIn_r _ [34, 35, 36, 33, 37, 38, 39, 40] (by decide +kernel) (by decide +kernel)
set_option maxRecDepth 20000 in
theorem gX7_leastAOf_X7_drift : GoodIn wsX7_leastAOf (va_wsS RX7 314 yX7_drift wsX7_drift) := goodIn_app (goodIn_of _ (by decide +kernel)) ggX7_leastAOf_X7_drift
set_option maxRecDepth 20000 in
theorem ggX7_leastAOf_J9_floorMod_7cf53 : GoodIn wsX7_leastAOf wsJ9_floorMod_7cf53 := goodIn_r _ [18] (by decide +kernel) (by decide +kernel)
set_option maxRecDepth 20000 in
theorem gX7_leastAOf_J9_floorMod_7cf53 : GoodIn wsX7_leastAOf (va_wsS RX7 301 yJ9_floorMod_7cf53 wsJ9_floorMod_7cf53) := goodIn_app (goodIn_of _ (by decide +kernel)) ggX7_leastAOf_J9_floorMod_7cf53
theorem dX7_leastAOf_0 : decode cX7_leastAOf 0 = .ok (.aload_n 0, 1) := by decide +kernel
theorem dX7_leastAOf_1 : decode cX7_leastAOf 1 = .ok (.getfield 10, 3) := by decide +kernel
theorem dX7_leastAOf_4 : decode cX7_leastAOf 4 = .ok (.iload_n 1, 1) := by decide +kernel
theorem dX7_leastAOf_5 : decode cX7_leastAOf 5 = .ok (.invokevirtual 98, 3) := by decide +kernel
theorem dX7_leastAOf_8 : decode cX7_leastAOf 8 = .ok (.aload_n 0, 1) := by decide +kernel
theorem dX7_leastAOf_9 : decode cX7_leastAOf 9 = .ok (.getfield 10, 3) := by decide +kernel
theorem dX7_leastAOf_12 : decode cX7_leastAOf 12 = .ok (.iload_n 1, 1) := by decide +kernel
theorem dX7_leastAOf_13 : decode cX7_leastAOf 13 = .ok (.invokevirtual 263, 3) := by decide +kernel
theorem dX7_leastAOf_16 : decode cX7_leastAOf 16 = .ok (.isub, 1) := by decide +kernel
theorem dX7_leastAOf_17 : decode cX7_leastAOf 17 = .ok (.iload_n 2, 1) := by decide +kernel
theorem dX7_leastAOf_18 : decode cX7_leastAOf 18 = .ok (.aload_n 0, 1) := by decide +kernel
theorem dX7_leastAOf_19 : decode cX7_leastAOf 19 = .ok (.getfield 10, 3) := by decide +kernel
theorem dX7_leastAOf_22 : decode cX7_leastAOf 22 = .ok (.iload_n 1, 1) := by decide +kernel
theorem dX7_leastAOf_23 : decode cX7_leastAOf 23 = .ok (.invokevirtual 95, 3) := by decide +kernel
theorem dX7_leastAOf_26 : decode cX7_leastAOf 26 = .ok (.invokestatic 314, 3) := by decide +kernel
theorem dX7_leastAOf_29 : decode cX7_leastAOf 29 = .ok (.isub, 1) := by decide +kernel
theorem dX7_leastAOf_30 : decode cX7_leastAOf 30 = .ok (.istore_n 3, 1) := by decide +kernel
theorem dX7_leastAOf_31 : decode cX7_leastAOf 31 = .ok (.iload_n 3, 1) := by decide +kernel
theorem dX7_leastAOf_32 : decode cX7_leastAOf 32 = .ok (.sipush 3600, 3) := by decide +kernel
theorem dX7_leastAOf_35 : decode cX7_leastAOf 35 = .ok (.invokestatic 301, 3) := by decide +kernel
theorem dX7_leastAOf_38 : decode cX7_leastAOf 38 = .ok (.ireturn, 1) := by decide +kernel
set_option maxRecDepth 20000 in
theorem ggX7_faultOf_X7_lightRange : GoodIn wsX7_faultOf wsX7_lightRange := goodIn_r _ [5, 6, 7, 8, 9, 10, 11, 12, 13, 14, 15, 16, 17, 18, 19, 20, 21, 22, 23, 24, 25, 26, 27, 28, 29, 30, 31, 32, 33, 34, 35, 36, 37, 38, 39, 40, 41, 42, 43, 44, 45, 46, 47, 48, 49, 50, 51, 52, 53, 54, 55, 56, 57, 58] (by decide +kernel) (by decide +kernel)
set_option maxRecDepth 20000 in
theorem gX7_faultOf_X7_lightRange : GoodIn wsX7_faultOf (wsV RX7 317 RX7 yX7_lightRange wsX7_lightRange) := goodIn_app (goodIn_of _ (by decide +kernel)) ggX7_faultOf_X7_lightRange
theorem dX7_faultOf_0 : decode cX7_faultOf 0 = .ok (.iconst 0, 1) := by decide +kernel
theorem dX7_faultOf_1 : decode cX7_faultOf 1 = .ok (.istore_n 2, 1) := by decide +kernel
theorem dX7_faultOf_2 : decode cX7_faultOf 2 = .ok (.iconst 0, 1) := by decide +kernel
theorem dX7_faultOf_3 : decode cX7_faultOf 3 = .ok (.istore_n 3, 1) := by decide +kernel
theorem dX7_faultOf_4 : decode cX7_faultOf 4 = .ok (.iload_n 3, 1) := by decide +kernel
theorem dX7_faultOf_5 : decode cX7_faultOf 5 = .ok (.iload_n 1, 1) := by decide +kernel
theorem dX7_faultOf_6 : decode cX7_faultOf 6 = .ok (.if_icmp .ge 18, 3) := by decide +kernel
theorem dX7_faultOf_9 : decode cX7_faultOf 9 = .ok (.iload_n 2, 1) := by decide +kernel
theorem dX7_faultOf_10 : decode cX7_faultOf 10 = .ok (.aload_n 0, 1) := by decide +kernel
theorem dX7_faultOf_11 : decode cX7_faultOf 11 = .ok (.iload_n 1, 1) := by decide +kernel
theorem dX7_faultOf_12 : decode cX7_faultOf 12 = .ok (.iload_n 3, 1) := by decide +kernel
theorem dX7_faultOf_13 : decode cX7_faultOf 13 = .ok (.invokevirtual 317, 3) := by decide +kernel
theorem dX7_faultOf_16 : decode cX7_faultOf 16 = .ok (.iadd, 1) := by decide +kernel
theorem dX7_faultOf_17 : decode cX7_faultOf 17 = .ok (.istore_n 2, 1) := by decide +kernel
theorem dX7_faultOf_18 : decode cX7_faultOf 18 = .ok (.iinc 3 1, 3) := by decide +kernel
theorem dX7_faultOf_21 : decode cX7_faultOf 21 = .ok (.goto (-17), 3) := by decide +kernel
theorem dX7_faultOf_24 : decode cX7_faultOf 24 = .ok (.iload_n 2, 1) := by decide +kernel
theorem dX7_faultOf_25 : decode cX7_faultOf 25 = .ok (.ireturn, 1) := by decide +kernel
set_option maxRecDepth 20000 in
theorem ggX7_lightRange_X2_dotAt : GoodIn wsX7_lightRange wsX2_dotAt := goodIn_r _ [14, 15, 16, 17, 18, 19, 20, 21, 41, 42, 43] (by decide +kernel) (by decide +kernel)
set_option maxRecDepth 20000 in
theorem gX7_lightRange_X2_dotAt : GoodIn wsX7_lightRange (wsV RX7 254 RX2 yX2_dotAt wsX2_dotAt) := goodIn_app (goodIn_of _ (by decide +kernel)) ggX7_lightRange_X2_dotAt
set_option maxRecDepth 20000 in
theorem ggX7_lightRange_X6_nightOf : GoodIn wsX7_lightRange wsX6_nightOf := goodIn_r _ [26, 27, 28, 29, 17, 18, 19, 20, 21, 44, 45, 46, 47, 48, 49, 50, 51, 52, 53, 43] (by decide +kernel) (by decide +kernel)
set_option maxRecDepth 20000 in
theorem gX7_lightRange_X6_nightOf : GoodIn wsX7_lightRange (wsV RX7 95 RX6 yX6_nightOf wsX6_nightOf) := goodIn_app (goodIn_of _ (by decide +kernel)) ggX7_lightRange_X6_nightOf
set_option maxRecDepth 20000 in
theorem ggX7_lightRange_X6_lightOf : GoodIn wsX7_lightRange wsX6_lightOf := goodIn_r _ [33, 34, 29, 17, 18, 19, 20, 21, 44, 45, 46, 47, 48, 49, 50, 51, 52, 53, 43] (by decide +kernel) (by decide +kernel)
set_option maxRecDepth 20000 in
theorem gX7_lightRange_X6_lightOf : GoodIn wsX7_lightRange (wsV RX7 101 RX6 yX6_lightOf wsX6_lightOf) := goodIn_app (goodIn_of _ (by decide +kernel)) ggX7_lightRange_X6_lightOf
theorem dX7_lightRange_0 : decode cX7_lightRange 0 = .ok (.bipush 99, 2) := by decide +kernel
theorem dX7_lightRange_2 : decode cX7_lightRange 2 = .ok (.istore_n 3, 1) := by decide +kernel
theorem dX7_lightRange_3 : decode cX7_lightRange 3 = .ok (.iconst 0, 1) := by decide +kernel
theorem dX7_lightRange_4 : decode cX7_lightRange 4 = .ok (.istore 4, 2) := by decide +kernel
theorem dX7_lightRange_6 : decode cX7_lightRange 6 = .ok (.iconst 0, 1) := by decide +kernel
theorem dX7_lightRange_7 : decode cX7_lightRange 7 = .ok (.istore 5, 2) := by decide +kernel
theorem dX7_lightRange_9 : decode cX7_lightRange 9 = .ok (.iload 5, 2) := by decide +kernel
theorem dX7_lightRange_11 : decode cX7_lightRange 11 = .ok (.aload_n 0, 1) := by decide +kernel
theorem dX7_lightRange_12 : decode cX7_lightRange 12 = .ok (.getfield 26, 3) := by decide +kernel
theorem dX7_lightRange_15 : decode cX7_lightRange 15 = .ok (.getfield 237, 3) := by decide +kernel
theorem dX7_lightRange_18 : decode cX7_lightRange 18 = .ok (.if_icmp .ge 69, 3) := by decide +kernel
theorem dX7_lightRange_21 : decode cX7_lightRange 21 = .ok (.aload_n 0, 1) := by decide +kernel
theorem dX7_lightRange_22 : decode cX7_lightRange 22 = .ok (.getfield 26, 3) := by decide +kernel
theorem dX7_lightRange_25 : decode cX7_lightRange 25 = .ok (.iload 5, 2) := by decide +kernel
theorem dX7_lightRange_27 : decode cX7_lightRange 27 = .ok (.invokevirtual 254, 3) := by decide +kernel
theorem dX7_lightRange_30 : decode cX7_lightRange 30 = .ok (.istore 6, 2) := by decide +kernel
theorem dX7_lightRange_32 : decode cX7_lightRange 32 = .ok (.iload_n 1, 1) := by decide +kernel
theorem dX7_lightRange_33 : decode cX7_lightRange 33 = .ok (.ifCond .le 48, 3) := by decide +kernel
theorem dX7_lightRange_36 : decode cX7_lightRange 36 = .ok (.aload_n 0, 1) := by decide +kernel
theorem dX7_lightRange_37 : decode cX7_lightRange 37 = .ok (.getfield 10, 3) := by decide +kernel
theorem dX7_lightRange_40 : decode cX7_lightRange 40 = .ok (.iload 6, 2) := by decide +kernel
theorem dX7_lightRange_42 : decode cX7_lightRange 42 = .ok (.invokevirtual 95, 3) := by decide +kernel
theorem dX7_lightRange_45 : decode cX7_lightRange 45 = .ok (.iload_n 1, 1) := by decide +kernel
theorem dX7_lightRange_46 : decode cX7_lightRange 46 = .ok (.irem, 1) := by decide +kernel
theorem dX7_lightRange_47 : decode cX7_lightRange 47 = .ok (.iload_n 2, 1) := by decide +kernel
theorem dX7_lightRange_48 : decode cX7_lightRange 48 = .ok (.if_icmp .ne 33, 3) := by decide +kernel
theorem dX7_lightRange_51 : decode cX7_lightRange 51 = .ok (.iload_n 3, 1) := by decide +kernel
theorem dX7_lightRange_52 : decode cX7_lightRange 52 = .ok (.aload_n 0, 1) := by decide +kernel
theorem dX7_lightRange_53 : decode cX7_lightRange 53 = .ok (.getfield 10, 3) := by decide +kernel
theorem dX7_lightRange_56 : decode cX7_lightRange 56 = .ok (.iload 6, 2) := by decide +kernel
theorem dX7_lightRange_58 : decode cX7_lightRange 58 = .ok (.invokevirtual 101, 3) := by decide +kernel
theorem dX7_lightRange_61 : decode cX7_lightRange 61 = .ok (.invokestatic 288, 3) := by decide +kernel
theorem dX7_lightRange_64 : decode cX7_lightRange 64 = .ok (.istore_n 3, 1) := by decide +kernel
theorem dX7_lightRange_65 : decode cX7_lightRange 65 = .ok (.iload 4, 2) := by decide +kernel
theorem dX7_lightRange_67 : decode cX7_lightRange 67 = .ok (.aload_n 0, 1) := by decide +kernel
theorem dX7_lightRange_68 : decode cX7_lightRange 68 = .ok (.getfield 10, 3) := by decide +kernel
theorem dX7_lightRange_71 : decode cX7_lightRange 71 = .ok (.iload 6, 2) := by decide +kernel
theorem dX7_lightRange_73 : decode cX7_lightRange 73 = .ok (.invokevirtual 101, 3) := by decide +kernel
theorem dX7_lightRange_76 : decode cX7_lightRange 76 = .ok (.invokestatic 293, 3) := by decide +kernel
theorem dX7_lightRange_79 : decode cX7_lightRange 79 = .ok (.istore 4, 2) := by decide +kernel
theorem dX7_lightRange_81 : decode cX7_lightRange 81 = .ok (.iinc 5 1, 3) := by decide +kernel
theorem dX7_lightRange_84 : decode cX7_lightRange 84 = .ok (.goto (-75), 3) := by decide +kernel
theorem dX7_lightRange_87 : decode cX7_lightRange 87 = .ok (.iconst 0, 1) := by decide +kernel
theorem dX7_lightRange_88 : decode cX7_lightRange 88 = .ok (.iload 4, 2) := by decide +kernel
theorem dX7_lightRange_90 : decode cX7_lightRange 90 = .ok (.iload_n 3, 1) := by decide +kernel
theorem dX7_lightRange_91 : decode cX7_lightRange 91 = .ok (.isub, 1) := by decide +kernel
theorem dX7_lightRange_92 : decode cX7_lightRange 92 = .ok (.invokestatic 293, 3) := by decide +kernel
theorem dX7_lightRange_95 : decode cX7_lightRange 95 = .ok (.ireturn, 1) := by decide +kernel
theorem dX7_bOf_0 : decode cX7_bOf 0 = .ok (.iload_n 0, 1) := by decide +kernel
theorem dX7_bOf_1 : decode cX7_bOf 1 = .ok (.iconst 5, 1) := by decide +kernel
theorem dX7_bOf_2 : decode cX7_bOf 2 = .ok (.idiv, 1) := by decide +kernel
theorem dX7_bOf_3 : decode cX7_bOf 3 = .ok (.bipush 40, 2) := by decide +kernel
theorem dX7_bOf_5 : decode cX7_bOf 5 = .ok (.isub, 1) := by decide +kernel
theorem dX7_bOf_6 : decode cX7_bOf 6 = .ok (.ireturn, 1) := by decide +kernel
theorem dX7_cOf_0 : decode cX7_cOf 0 = .ok (.iload_n 0, 1) := by decide +kernel
theorem dX7_cOf_1 : decode cX7_cOf 1 = .ok (.iconst 5, 1) := by decide +kernel
theorem dX7_cOf_2 : decode cX7_cOf 2 = .ok (.irem, 1) := by decide +kernel
theorem dX7_cOf_3 : decode cX7_cOf 3 = .ok (.iconst 2, 1) := by decide +kernel
theorem dX7_cOf_4 : decode cX7_cOf 4 = .ok (.isub, 1) := by decide +kernel
theorem dX7_cOf_5 : decode cX7_cOf 5 = .ok (.ireturn, 1) := by decide +kernel
set_option maxRecDepth 20000 in
theorem ggX7_drift_X7_bOf : GoodIn wsX7_drift wsX7_bOf := goodIn_r _ [4] (by decide +kernel) (by decide +kernel)
set_option maxRecDepth 20000 in
theorem gX7_drift_X7_bOf : GoodIn wsX7_drift (va_wsS RX7 197 yX7_bOf wsX7_bOf) := goodIn_app (goodIn_of _ (by decide +kernel)) ggX7_drift_X7_bOf
set_option maxRecDepth 20000 in
theorem ggX7_drift_X7_cOf : GoodIn wsX7_drift wsX7_cOf := goodIn_r _ [7] (by decide +kernel) (by decide +kernel)
set_option maxRecDepth 20000 in
theorem gX7_drift_X7_cOf : GoodIn wsX7_drift (va_wsS RX7 200 yX7_cOf wsX7_cOf) := goodIn_app (goodIn_of _ (by decide +kernel)) ggX7_drift_X7_cOf
theorem dX7_drift_0 : decode cX7_drift 0 = .ok (.iload_n 0, 1) := by decide +kernel
theorem dX7_drift_1 : decode cX7_drift 1 = .ok (.invokestatic 197, 3) := by decide +kernel
theorem dX7_drift_4 : decode cX7_drift 4 = .ok (.iload_n 1, 1) := by decide +kernel
theorem dX7_drift_5 : decode cX7_drift 5 = .ok (.imul, 1) := by decide +kernel
theorem dX7_drift_6 : decode cX7_drift 6 = .ok (.iload_n 0, 1) := by decide +kernel
theorem dX7_drift_7 : decode cX7_drift 7 = .ok (.invokestatic 200, 3) := by decide +kernel
theorem dX7_drift_10 : decode cX7_drift 10 = .ok (.iload_n 1, 1) := by decide +kernel
theorem dX7_drift_11 : decode cX7_drift 11 = .ok (.iload_n 1, 1) := by decide +kernel
theorem dX7_drift_12 : decode cX7_drift 12 = .ok (.iconst 1, 1) := by decide +kernel
theorem dX7_drift_13 : decode cX7_drift 13 = .ok (.isub, 1) := by decide +kernel
theorem dX7_drift_14 : decode cX7_drift 14 = .ok (.imul, 1) := by decide +kernel
theorem dX7_drift_15 : decode cX7_drift 15 = .ok (.iconst 2, 1) := by decide +kernel
theorem dX7_drift_16 : decode cX7_drift 16 = .ok (.idiv, 1) := by decide +kernel
theorem dX7_drift_17 : decode cX7_drift 17 = .ok (.imul, 1) := by decide +kernel
theorem dX7_drift_18 : decode cX7_drift 18 = .ok (.iadd, 1) := by decide +kernel
theorem dX7_drift_19 : decode cX7_drift 19 = .ok (.ireturn, 1) := by decide +kernel
theorem dX7_stretch_0 : decode cX7_stretch 0 = .ok (.lconst 1, 1) := by decide +kernel
theorem dX7_stretch_1 : decode cX7_stretch 1 = .ok (.iload_n 1, 1) := by decide +kernel
theorem dX7_stretch_2 : decode cX7_stretch 2 = .ok (.lshl, 1) := by decide +kernel
theorem dX7_stretch_3 : decode cX7_stretch 3 = .ok (.lconst 1, 1) := by decide +kernel
theorem dX7_stretch_4 : decode cX7_stretch 4 = .ok (.lsub, 1) := by decide +kernel
theorem dX7_stretch_5 : decode cX7_stretch 5 = .ok (.lstore_n 2, 1) := by decide +kernel
theorem dX7_stretch_6 : decode cX7_stretch 6 = .ok (.sipush 3600, 3) := by decide +kernel
theorem dX7_stretch_9 : decode cX7_stretch 9 = .ok (.iload_n 0, 1) := by decide +kernel
theorem dX7_stretch_10 : decode cX7_stretch 10 = .ok (.isub, 1) := by decide +kernel
theorem dX7_stretch_11 : decode cX7_stretch 11 = .ok (.istore 4, 2) := by decide +kernel
theorem dX7_stretch_13 : decode cX7_stretch 13 = .ok (.iload_n 0, 1) := by decide +kernel
theorem dX7_stretch_14 : decode cX7_stretch 14 = .ok (.bipush 19, 2) := by decide +kernel
theorem dX7_stretch_16 : decode cX7_stretch 16 = .ok (.if_icmp .ge 7, 3) := by decide +kernel
theorem dX7_stretch_19 : decode cX7_stretch 19 = .ok (.lload_n 2, 1) := by decide +kernel
theorem dX7_stretch_20 : decode cX7_stretch 20 = .ok (.iload_n 0, 1) := by decide +kernel
theorem dX7_stretch_21 : decode cX7_stretch 21 = .ok (.lshl, 1) := by decide +kernel
theorem dX7_stretch_22 : decode cX7_stretch 22 = .ok (.lreturn, 1) := by decide +kernel
theorem dX7_stretch_23 : decode cX7_stretch 23 = .ok (.iload 4, 2) := by decide +kernel
theorem dX7_stretch_25 : decode cX7_stretch 25 = .ok (.iload_n 1, 1) := by decide +kernel
theorem dX7_stretch_26 : decode cX7_stretch 26 = .ok (.if_icmp .ge 10, 3) := by decide +kernel
theorem dX7_stretch_29 : decode cX7_stretch 29 = .ok (.lload_n 2, 1) := by decide +kernel
theorem dX7_stretch_30 : decode cX7_stretch 30 = .ok (.iload 4, 2) := by decide +kernel
theorem dX7_stretch_32 : decode cX7_stretch 32 = .ok (.lshr, 1) := by decide +kernel
theorem dX7_stretch_33 : decode cX7_stretch 33 = .ok (.goto 4, 3) := by decide +kernel
theorem dX7_stretch_36 : decode cX7_stretch 36 = .ok (.lconst 0, 1) := by decide +kernel
theorem dX7_stretch_37 : decode cX7_stretch 37 = .ok (.lreturn, 1) := by decide +kernel
theorem dX7_greatestDivisor_0 : decode cX7_greatestDivisor 0 = .ok (.iload_n 0, 1) := by decide +kernel
theorem dX7_greatestDivisor_1 : decode cX7_greatestDivisor 1 = .ok (.istore_n 2, 1) := by decide +kernel
theorem dX7_greatestDivisor_2 : decode cX7_greatestDivisor 2 = .ok (.iload_n 1, 1) := by decide +kernel
theorem dX7_greatestDivisor_3 : decode cX7_greatestDivisor 3 = .ok (.istore_n 3, 1) := by decide +kernel
theorem dX7_greatestDivisor_4 : decode cX7_greatestDivisor 4 = .ok (.iconst 0, 1) := by decide +kernel
theorem dX7_greatestDivisor_5 : decode cX7_greatestDivisor 5 = .ok (.istore 4, 2) := by decide +kernel
theorem dX7_greatestDivisor_7 : decode cX7_greatestDivisor 7 = .ok (.iload 4, 2) := by decide +kernel
theorem dX7_greatestDivisor_9 : decode cX7_greatestDivisor 9 = .ok (.bipush 64, 2) := by decide +kernel
theorem dX7_greatestDivisor_11 : decode cX7_greatestDivisor 11 = .ok (.if_icmp .ge 23, 3) := by decide +kernel
theorem dX7_greatestDivisor_14 : decode cX7_greatestDivisor 14 = .ok (.iload_n 3, 1) := by decide +kernel
theorem dX7_greatestDivisor_15 : decode cX7_greatestDivisor 15 = .ok (.ifCond .eq 19, 3) := by decide +kernel
theorem dX7_greatestDivisor_18 : decode cX7_greatestDivisor 18 = .ok (.iload_n 2, 1) := by decide +kernel
theorem dX7_greatestDivisor_19 : decode cX7_greatestDivisor 19 = .ok (.iload_n 3, 1) := by decide +kernel
theorem dX7_greatestDivisor_20 : decode cX7_greatestDivisor 20 = .ok (.irem, 1) := by decide +kernel
theorem dX7_greatestDivisor_21 : decode cX7_greatestDivisor 21 = .ok (.istore 5, 2) := by decide +kernel
theorem dX7_greatestDivisor_23 : decode cX7_greatestDivisor 23 = .ok (.iload_n 3, 1) := by decide +kernel
theorem dX7_greatestDivisor_24 : decode cX7_greatestDivisor 24 = .ok (.istore_n 2, 1) := by decide +kernel
theorem dX7_greatestDivisor_25 : decode cX7_greatestDivisor 25 = .ok (.iload 5, 2) := by decide +kernel
theorem dX7_greatestDivisor_27 : decode cX7_greatestDivisor 27 = .ok (.istore_n 3, 1) := by decide +kernel
theorem dX7_greatestDivisor_28 : decode cX7_greatestDivisor 28 = .ok (.iinc 4 1, 3) := by decide +kernel
theorem dX7_greatestDivisor_31 : decode cX7_greatestDivisor 31 = .ok (.goto (-24), 3) := by decide +kernel
theorem dX7_greatestDivisor_34 : decode cX7_greatestDivisor 34 = .ok (.iload_n 2, 1) := by decide +kernel
theorem dX7_greatestDivisor_35 : decode cX7_greatestDivisor 35 = .ok (.ireturn, 1) := by decide +kernel
