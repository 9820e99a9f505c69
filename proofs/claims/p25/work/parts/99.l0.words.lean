theorem goodIn_x {big ws : List Cond} {c : Cond} (n : Nat) (hc : c ∈ big) (hw : goodWord c = true) (e : ws[n]? = some c) (h1 : GoodIn big (ws.take n)) (h2 : GoodIn big (ws.drop (n + 1))) : GoodIn big ws := fun w h => by
  obtain ⟨hlt, he⟩ := List.getElem?_eq_some_iff.mp e
  rw [← List.take_append_drop n ws, List.drop_eq_getElem_cons hlt, he] at h
  rcases List.mem_append.mp h with h | h
  · exact h1 w h
  · exact goodIn_c hc hw h2 w h
set_option maxRecDepth 100000 in
theorem gw_wsL_desk_r1 : GoodIn lw_tbl wsL_desk_r1 := (goodIn_p wsL_desk_r1 [47, 50] (by decide +kernel) (by decide +kernel))
set_option maxRecDepth 100000 in
theorem gw_wsL_desk_r2 : GoodIn lw_tbl wsL_desk_r2 := (goodIn_p wsL_desk_r2 [55] (by decide +kernel) (by decide +kernel))
set_option maxRecDepth 100000 in
theorem gw_wsL_desk_r3 : GoodIn lw_tbl wsL_desk_r3 := (goodIn_p wsL_desk_r3 [61, 106, 113] (by decide +kernel) (by decide +kernel))
set_option maxRecDepth 100000 in
theorem gw_wsL_desk_r4 : GoodIn lw_tbl wsL_desk_r4 := (goodIn_p wsL_desk_r4 [145, 161, 179, 205] (by decide +kernel) (by decide +kernel))
set_option maxRecDepth 100000 in
theorem gw_wsL_desk_r5 : GoodIn lw_tbl wsL_desk_r5 := (goodIn_p wsL_desk_r5 [234, 241, 244] (by decide +kernel) (by decide +kernel))
set_option maxRecDepth 100000 in
theorem gw_wsL_desk_r6 : GoodIn lw_tbl wsL_desk_r6 := (goodIn_p wsL_desk_r6 [332, 336, 341, 344, 365, 368] (by decide +kernel) (by decide +kernel))
set_option maxRecDepth 100000 in
theorem gw_wsL_desk_r7 : GoodIn lw_tbl wsL_desk_r7 := (goodIn_x 10 (c := Cond.code yL_links cL_links 13 (some .boolean)) (List.mem_of_getElem? (i := 381) rfl) (by decide +kernel) rfl (goodIn_p (wsL_desk_r7.take 10) [373, 378] (by decide +kernel) (by decide +kernel)) (goodIn_p (wsL_desk_r7.drop 11) [384, 394] (by decide +kernel) (by decide +kernel)))
set_option maxRecDepth 100000 in
theorem gw_wsL_desk_r8 : GoodIn lw_tbl wsL_desk_r8 := (goodIn_p wsL_desk_r8 [398, 402, 408, 412, 417] (by decide +kernel) (by decide +kernel))
set_option maxRecDepth 100000 in
theorem gw_wsL_desk_r9 : GoodIn lw_tbl wsL_desk_r9 := (goodIn_p wsL_desk_r9 [421, 425, 430, 434, 438, 442] (by decide +kernel) (by decide +kernel))
set_option maxRecDepth 100000 in
theorem gw_wsL_desk_r10 : GoodIn lw_tbl wsL_desk_r10 := (goodIn_p wsL_desk_r10 [447, 452, 457, 460, 464] (by decide +kernel) (by decide +kernel))
set_option maxRecDepth 100000 in
theorem gw_wsL_desk_r11 : GoodIn lw_tbl wsL_desk_r11 := (goodIn_p wsL_desk_r11 [468, 471, 474, 477, 483, 486, 489] (by decide +kernel) (by decide +kernel))
set_option maxRecDepth 100000 in
theorem gw_wsL_desk_r12 : GoodIn lw_tbl wsL_desk_r12 := (goodIn_p wsL_desk_r12 [492, 497, 501, 505, 509, 513] (by decide +kernel) (by decide +kernel))
set_option maxRecDepth 100000 in
theorem gw_wsL_desk_r13 : GoodIn lw_tbl wsL_desk_r13 := (goodIn_p wsL_desk_r13 [519, 523, 527, 531, 536] (by decide +kernel) (by decide +kernel))
set_option maxRecDepth 100000 in
theorem gw_wsL_desk_r14 : GoodIn lw_tbl wsL_desk_r14 := (goodIn_p wsL_desk_r14 [540, 544, 548, 552, 557, 561] (by decide +kernel) (by decide +kernel))
set_option maxRecDepth 100000 in
theorem gw_wsL_desk_r15 : GoodIn lw_tbl wsL_desk_r15 := (goodIn_p wsL_desk_r15 [565, 569, 573, 578, 582, 586] (by decide +kernel) (by decide +kernel))
set_option maxRecDepth 100000 in
theorem gw_wsL_desk_r16 : GoodIn lw_tbl wsL_desk_r16 := (goodIn_p wsL_desk_r16 [590, 597, 601, 605, 609] (by decide +kernel) (by decide +kernel))
set_option maxRecDepth 100000 in
theorem gw_wsL_desk_r17 : GoodIn lw_tbl wsL_desk_r17 := (goodIn_p wsL_desk_r17 [613, 618, 621, 624, 627, 630, 633, 636] (by decide +kernel) (by decide +kernel))
set_option maxRecDepth 100000 in
theorem gw_wsL_desk_r18 : GoodIn lw_tbl wsL_desk_r18 := (goodIn_x 11 (c := Cond.code yL_joins cL_joins 18 (some .boolean)) (List.mem_of_getElem? (i := 650) rfl) (by decide +kernel) rfl (goodIn_p (wsL_desk_r18.take 11) [639, 643, 647] (by decide +kernel) (by decide +kernel)) (goodIn_p (wsL_desk_r18.drop 12) [653, 657, 661] (by decide +kernel) (by decide +kernel)))
set_option maxRecDepth 100000 in
theorem gw_wsL_desk_r19 : GoodIn lw_tbl wsL_desk_r19 := (goodIn_x 15 (c := Cond.code yL_numbers cL_numbers 13 (some .boolean)) (List.mem_of_getElem? (i := 678) rfl) (by decide +kernel) rfl (goodIn_p (wsL_desk_r19.take 15) [665, 669, 672, 675] (by decide +kernel) (by decide +kernel)) (goodIn_p (wsL_desk_r19.drop 16) [682, 686] (by decide +kernel) (by decide +kernel)))
set_option maxRecDepth 100000 in
theorem gw_wsL_desk_r20 : GoodIn lw_tbl wsL_desk_r20 := (goodIn_p wsL_desk_r20 [689, 693, 697, 702, 705] (by decide +kernel) (by decide +kernel))
set_option maxRecDepth 100000 in
theorem gw_wsL_desk_r21 : GoodIn lw_tbl wsL_desk_r21 := (goodIn_p wsL_desk_r21 [713, 717, 721, 724, 727, 730, 734] (by decide +kernel) (by decide +kernel))
set_option maxRecDepth 100000 in
theorem gw_wsL_desk_r22 : GoodIn lw_tbl wsL_desk_r22 := (goodIn_p wsL_desk_r22 [738, 742, 745, 749, 753] (by decide +kernel) (by decide +kernel))
set_option maxRecDepth 100000 in
theorem gw_wsL_desk_r23 : GoodIn lw_tbl wsL_desk_r23 := (goodIn_p wsL_desk_r23 [759, 762, 770, 766, 777, 781] (by decide +kernel) (by decide +kernel))
set_option maxRecDepth 100000 in
theorem gw_wsL_desk_r24 : GoodIn lw_tbl wsL_desk_r24 := (goodIn_x 21 (c := Cond.code yL_isBody cL_isBody 20 (some .boolean)) (List.mem_of_getElem? (i := 806) rfl) (by decide +kernel) rfl (goodIn_p (wsL_desk_r24.take 21) [785, 788, 791, 795, 799, 803] (by decide +kernel) (by decide +kernel)) (goodIn_p (wsL_desk_r24.drop 22) [] (by decide +kernel) (by decide +kernel)))
set_option maxRecDepth 100000 in
theorem gw_wsL_desk_r25 : GoodIn lw_tbl wsL_desk_r25 := (goodIn_p wsL_desk_r25 [810, 815, 819, 823, 827] (by decide +kernel) (by decide +kernel))
set_option maxRecDepth 100000 in
theorem gw_wsL_desk_r26 : GoodIn lw_tbl wsL_desk_r26 := (goodIn_p wsL_desk_r26 [834] (by decide +kernel) (by decide +kernel))
theorem gx_0 : GoodIn lw_tbl (wsX70) := goodIn_of _ (by decide +kernel)
theorem gx_1 : GoodIn lw_tbl (wsX60) := goodIn_of _ (by decide +kernel)
theorem gx_2 : GoodIn lw_tbl (wsX00) := goodIn_of _ (by decide +kernel)
theorem gx_3 : GoodIn lw_tbl (wsX20) := goodIn_of _ (by decide +kernel)
theorem gx_4 : GoodIn lw_tbl (wsX30) := goodIn_of _ (by decide +kernel)
theorem gx_5 : GoodIn lw_tbl (wsX40) := goodIn_of _ (by decide +kernel)
theorem gx_6 : GoodIn lw_tbl (wsX10) := goodIn_of _ (by decide +kernel)
theorem gx_7 : GoodIn lw_tbl (wsX50) := goodIn_of _ (by decide +kernel)
theorem gx_8 : GoodIn lw_tbl ((vx_atS RX7 63 "java/lang/IllegalStateException" ["java/lang/RuntimeException", "java/lang/Exception"]).filter goodWord) := goodIn_of _ (by decide +kernel)
theorem gx_9 : GoodIn lw_tbl ((vx_atS RX7 210 "java/lang/IllegalArgumentException" ["java/lang/RuntimeException", "java/lang/Exception"]).filter goodWord) := goodIn_of _ (by decide +kernel)
theorem gx_10 : GoodIn lw_tbl ((vx_atS RX7 245 "java/lang/IndexOutOfBoundsException" ["java/lang/RuntimeException", "java/lang/Exception"]).filter goodWord) := goodIn_of _ (by decide +kernel)
set_option maxRecDepth 100000 in
theorem ggT_L_desk : GoodIn lw_tbl wsL_desk := goodIn_c (List.mem_of_getElem? (i := 42) rfl) (by decide +kernel) (goodIn_app (goodIn_app (goodIn_app (goodIn_app (goodIn_app (goodIn_app (goodIn_app (goodIn_app (goodIn_app (goodIn_app (goodIn_app (goodIn_app gw_wsL_desk_r1 (goodIn_app gw_wsL_desk_r2 (goodIn_app gw_wsL_desk_r3 (goodIn_app gw_wsL_desk_r4 (goodIn_app gw_wsL_desk_r5 (goodIn_app gw_wsL_desk_r6 (goodIn_app gw_wsL_desk_r7 (goodIn_app gw_wsL_desk_r8 (goodIn_app gw_wsL_desk_r9 (goodIn_app gw_wsL_desk_r10 (goodIn_app gw_wsL_desk_r11 (goodIn_app gw_wsL_desk_r12 (goodIn_app gw_wsL_desk_r13 (goodIn_app gw_wsL_desk_r14 (goodIn_app gw_wsL_desk_r15 (goodIn_app gw_wsL_desk_r16 (goodIn_app gw_wsL_desk_r17 (goodIn_app gw_wsL_desk_r18 (goodIn_app gw_wsL_desk_r19 (goodIn_app gw_wsL_desk_r20 (goodIn_app gw_wsL_desk_r21 (goodIn_app gw_wsL_desk_r22 (goodIn_app gw_wsL_desk_r23 (goodIn_app gw_wsL_desk_r24 (goodIn_app gw_wsL_desk_r25 gw_wsL_desk_r26))))))))))))))))))))))))) gx_0) gx_1) gx_2) gx_3) gx_4) gx_5) gx_6) gx_7) gx_8) gx_9) gx_10)
theorem gT_L_desk : GoodIn lw_tbl (va_wsS RL 177 yL_desk wsL_desk) := goodIn_app (goodIn_of _ (by decide +kernel)) ggT_L_desk
theorem tw_X0 : ∀ w ∈ wsX00, w ∈ lw_tbl := (by decide +kernel)
theorem lt_ins0 : Cond.instantiable RX0 8 ∈ lw_tbl := (by decide +kernel)
theorem tw_X1 : ∀ w ∈ wsX10, w ∈ lw_tbl := (by decide +kernel)
theorem lt_ins1 : Cond.instantiable RX1 1 ∈ lw_tbl := (by decide +kernel)
theorem tw_X2 : ∀ w ∈ wsX20, w ∈ lw_tbl := (by decide +kernel)
theorem lt_ins2 : Cond.instantiable RX2 2 ∈ lw_tbl := (by decide +kernel)
theorem tw_X3 : ∀ w ∈ wsX30, w ∈ lw_tbl := (by decide +kernel)
theorem lt_ins3 : Cond.instantiable RX3 3 ∈ lw_tbl := (by decide +kernel)
theorem tw_X4 : ∀ w ∈ wsX40, w ∈ lw_tbl := (by decide +kernel)
theorem lt_ins4 : Cond.instantiable RX4 5 ∈ lw_tbl := (by decide +kernel)
theorem tw_X5 : ∀ w ∈ wsX50, w ∈ lw_tbl := (by decide +kernel)
theorem lt_ins5 : Cond.instantiable RX5 1 ∈ lw_tbl := (by decide +kernel)
theorem tw_X6 : ∀ w ∈ wsX60, w ∈ lw_tbl := (by decide +kernel)
theorem lt_ins6 : Cond.instantiable RX6 10 ∈ lw_tbl := (by decide +kernel)
theorem tw_X7 : ∀ w ∈ wsX70, w ∈ lw_tbl := (by decide +kernel)
theorem lt_ins7 : Cond.instantiable RX7 6 ∈ lw_tbl := (by decide +kernel)
theorem lt_arI : Cond.arrayClass .int ∈ lw_tbl := (by decide +kernel)
