/-! the room that the Statement prints is too small: each run makes more than it says -/
theorem gT_X7_init : GoodIn lw_tbl wsX7_init := goodIn_p _ [82, 85, 90, 96, 141, 148, 180, 196, 214, 240] (by decide +kernel) (by decide +kernel)
theorem gT_X8_init : GoodIn lw_tbl wsX8_init := goodIn_p _ [871, 85] (by decide +kernel) (by decide +kernel)
theorem tw_X0 : ∀ w ∈ wsX00, w ∈ lw_tbl := by decide +kernel
theorem tw_X1 : ∀ w ∈ wsX10, w ∈ lw_tbl := by decide +kernel
theorem tw_X2 : ∀ w ∈ wsX20, w ∈ lw_tbl := by decide +kernel
theorem tw_X3 : ∀ w ∈ wsX30, w ∈ lw_tbl := by decide +kernel
theorem tw_X4 : ∀ w ∈ wsX40, w ∈ lw_tbl := by decide +kernel
theorem tw_X5 : ∀ w ∈ wsX50, w ∈ lw_tbl := by decide +kernel
theorem tw_X6 : ∀ w ∈ wsX60, w ∈ lw_tbl := by decide +kernel
theorem tw_X7 : ∀ w ∈ wsX70, w ∈ lw_tbl := by decide +kernel
theorem tw_X8 : ∀ w ∈ wsX80, w ∈ lw_tbl := by decide +kernel
theorem lt_cl8 : Cond.classLink RL 8 RX7 ∈ lw_tbl := by decide +kernel
theorem lt_cl87 : Cond.classLink RL 87 RX8 ∈ lw_tbl := by decide +kernel
theorem lt_ml86 : Cond.methodLink RL 86 yX7_init ∈ lw_tbl := by decide +kernel
theorem lt_ml89 : Cond.methodLink RL 89 yX8_init ∈ lw_tbl := by decide +kernel
theorem lt_im7 : Cond.instanceMethod yX7_init ∈ lw_tbl := by decide +kernel
theorem lt_im8 : Cond.instanceMethod yX8_init ∈ lw_tbl := by decide +kernel
theorem lt_arI : Cond.arrayClass .int ∈ lw_tbl := by decide +kernel
theorem lt_arZ : Cond.arrayClass .boolean ∈ lw_tbl := by decide +kernel
theorem lt_arJ : Cond.arrayClass .long ∈ lw_tbl := by decide +kernel
theorem lt_ins0 : Cond.instantiable RX0 8 ∈ lw_tbl := by decide +kernel
theorem lt_ins1 : Cond.instantiable RX1 1 ∈ lw_tbl := by decide +kernel
theorem lt_ins2 : Cond.instantiable RX2 2 ∈ lw_tbl := by decide +kernel
theorem lt_ins3 : Cond.instantiable RX3 3 ∈ lw_tbl := by decide +kernel
theorem lt_ins4 : Cond.instantiable RX4 5 ∈ lw_tbl := by decide +kernel
theorem lt_ins5 : Cond.instantiable RX5 1 ∈ lw_tbl := by decide +kernel
theorem lt_ins6 : Cond.instantiable RX6 10 ∈ lw_tbl := by decide +kernel
theorem lt_ini7 : Cond.initialized RX7 ∈ lw_tbl := by decide +kernel
theorem lt_ins7 : Cond.instantiable RX7 6 ∈ lw_tbl := by decide +kernel
theorem lt_ini8 : Cond.initialized RX8 ∈ lw_tbl := by decide +kernel
theorem lt_ins8 : Cond.instantiable RX8 32 ∈ lw_tbl := by decide +kernel
theorem dT_0 : decode code 0 = .ok (.new 8, 3) := by decide +kernel
theorem dT_3 : decode code 3 = .ok (.dup, 1) := by decide +kernel
theorem dT_4 : decode code 4 = .ok (.invokespecial 86, 3) := by decide +kernel
theorem dT_7 : decode code 7 = .ok (.astore_n 1, 1) := by decide +kernel
theorem dT_8 : decode code 8 = .ok (.new 87, 3) := by decide +kernel
theorem dT_11 : decode code 11 = .ok (.dup, 1) := by decide +kernel
theorem dT_12 : decode code 12 = .ok (.invokespecial 89, 3) := by decide +kernel
theorem dT_15 : decode code 15 = .ok (.astore_n 2, 1) := by decide +kernel
theorem dT_16 : decode code 16 = .ok (.iconst 1, 1) := by decide +kernel
theorem dT_17 : decode code 17 = .ok (.newarray .long, 2) := by decide +kernel
theorem dT_19 : decode code 19 = .ok (.astore_n 3, 1) := by decide +kernel
theorem dT_20 : decode code 20 = .ok (.iconst 0, 1) := by decide +kernel
theorem dT_21 : decode code 21 = .ok (.istore 4, 2) := by decide +kernel
theorem dT_23 : decode code 23 = .ok (.iload 4, 2) := by decide +kernel
theorem dT_25 : decode code 25 = .ok (.aload_n 0, 1) := by decide +kernel
theorem dT_26 : decode code 26 = .ok (.arraylength, 1) := by decide +kernel
theorem dT_27 : decode code 27 = .ok (.iconst 5, 1) := by decide +kernel
theorem dT_28 : decode code 28 = .ok (.isub, 1) := by decide +kernel
theorem dT_29 : decode code 29 = .ok (.if_icmp .gt 1021, 3) := by decide +kernel
theorem dT_1050 : decode code 1050 = .ok (.iconst 1, 1) := by decide +kernel
theorem dT_1051 : decode code 1051 = .ok (.ireturn, 1) := by decide +kernel

