theorem dL_draw_0 : decode cL_draw 0 = .ok (.iload_n 1, 1) := by decide +kernel
theorem dL_draw_1 : decode cL_draw 1 = .ok (.aload_n 0, 1) := by decide +kernel
theorem dL_draw_2 : decode cL_draw 2 = .ok (.arraylength, 1) := by decide +kernel
theorem dL_draw_3 : decode cL_draw 3 = .ok (.if_icmp .ge 9, 3) := by decide +kernel
theorem dL_draw_6 : decode cL_draw 6 = .ok (.aload_n 0, 1) := by decide +kernel
theorem dL_draw_7 : decode cL_draw 7 = .ok (.iload_n 1, 1) := by decide +kernel
theorem dL_draw_8 : decode cL_draw 8 = .ok (.iaload, 1) := by decide +kernel
theorem dL_draw_9 : decode cL_draw 9 = .ok (.goto 14, 3) := by decide +kernel
theorem dL_draw_12 : decode cL_draw 12 = .ok (.ldc 7, 2) := by decide +kernel
theorem dL_draw_14 : decode cL_draw 14 = .ok (.iload_n 1, 1) := by decide +kernel
theorem dL_draw_15 : decode cL_draw 15 = .ok (.sipush 1193, 3) := by decide +kernel
theorem dL_draw_18 : decode cL_draw 18 = .ok (.iadd, 1) := by decide +kernel
theorem dL_draw_19 : decode cL_draw 19 = .ok (.imul, 1) := by decide +kernel
theorem dL_draw_20 : decode cL_draw 20 = .ok (.ldc 8, 2) := by decide +kernel
theorem dL_draw_22 : decode cL_draw 22 = .ok (.iadd, 1) := by decide +kernel
theorem dL_draw_23 : decode cL_draw 23 = .ok (.istore_n 3, 1) := by decide +kernel
theorem dL_draw_24 : decode cL_draw 24 = .ok (.iload_n 3, 1) := by decide +kernel
theorem dL_draw_25 : decode cL_draw 25 = .ok (.ldc 9, 2) := by decide +kernel
theorem dL_draw_27 : decode cL_draw 27 = .ok (.iand, 1) := by decide +kernel
theorem dL_draw_28 : decode cL_draw 28 = .ok (.iload_n 2, 1) := by decide +kernel
theorem dL_draw_29 : decode cL_draw 29 = .ok (.irem, 1) := by decide +kernel
theorem dL_draw_30 : decode cL_draw 30 = .ok (.ireturn, 1) := by decide +kernel
theorem dL_asks_0 : decode cL_asks 0 = .ok (.iload_n 1, 1) := by decide +kernel
theorem dL_asks_1 : decode cL_asks 1 = .ok (.ifCond .ne 11, 3) := by decide +kernel
theorem dL_asks_4 : decode cL_asks 4 = .ok (.aload_n 0, 1) := by decide +kernel
theorem dL_asks_5 : decode cL_asks 5 = .ok (.iload_n 2, 1) := by decide +kernel
theorem dL_asks_6 : decode cL_asks 6 = .ok (.invokevirtual 10, 3) := by decide +kernel
theorem dL_asks_9 : decode cL_asks 9 = .ok (.goto 78, 3) := by decide +kernel
theorem dL_asks_12 : decode cL_asks 12 = .ok (.iload_n 1, 1) := by decide +kernel
theorem dL_asks_13 : decode cL_asks 13 = .ok (.iconst 1, 1) := by decide +kernel
theorem dL_asks_14 : decode cL_asks 14 = .ok (.if_icmp .ne 12, 3) := by decide +kernel
theorem dL_asks_17 : decode cL_asks 17 = .ok (.aload_n 0, 1) := by decide +kernel
theorem dL_asks_18 : decode cL_asks 18 = .ok (.iload_n 2, 1) := by decide +kernel
theorem dL_asks_19 : decode cL_asks 19 = .ok (.iload_n 3, 1) := by decide +kernel
theorem dL_asks_20 : decode cL_asks 20 = .ok (.invokevirtual 16, 3) := by decide +kernel
theorem dL_asks_23 : decode cL_asks 23 = .ok (.goto 64, 3) := by decide +kernel
theorem dL_asks_26 : decode cL_asks 26 = .ok (.iload_n 1, 1) := by decide +kernel
theorem dL_asks_27 : decode cL_asks 27 = .ok (.iconst 2, 1) := by decide +kernel
theorem dL_asks_28 : decode cL_asks 28 = .ok (.if_icmp .ne 12, 3) := by decide +kernel
theorem dL_asks_31 : decode cL_asks 31 = .ok (.aload_n 0, 1) := by decide +kernel
theorem dL_asks_32 : decode cL_asks 32 = .ok (.iload_n 2, 1) := by decide +kernel
theorem dL_asks_33 : decode cL_asks 33 = .ok (.iload_n 3, 1) := by decide +kernel
theorem dL_asks_34 : decode cL_asks 34 = .ok (.invokevirtual 20, 3) := by decide +kernel
theorem dL_asks_37 : decode cL_asks 37 = .ok (.goto 50, 3) := by decide +kernel
theorem dL_asks_40 : decode cL_asks 40 = .ok (.iload_n 1, 1) := by decide +kernel
theorem dL_asks_41 : decode cL_asks 41 = .ok (.iconst 3, 1) := by decide +kernel
theorem dL_asks_42 : decode cL_asks 42 = .ok (.if_icmp .ne 12, 3) := by decide +kernel
theorem dL_asks_45 : decode cL_asks 45 = .ok (.aload_n 0, 1) := by decide +kernel
theorem dL_asks_46 : decode cL_asks 46 = .ok (.iload_n 2, 1) := by decide +kernel
theorem dL_asks_47 : decode cL_asks 47 = .ok (.iload_n 3, 1) := by decide +kernel
theorem dL_asks_48 : decode cL_asks 48 = .ok (.invokevirtual 23, 3) := by decide +kernel
theorem dL_asks_51 : decode cL_asks 51 = .ok (.goto 36, 3) := by decide +kernel
theorem dL_asks_54 : decode cL_asks 54 = .ok (.iload_n 1, 1) := by decide +kernel
theorem dL_asks_55 : decode cL_asks 55 = .ok (.iconst 4, 1) := by decide +kernel
theorem dL_asks_56 : decode cL_asks 56 = .ok (.if_icmp .ne 11, 3) := by decide +kernel
theorem dL_asks_59 : decode cL_asks 59 = .ok (.aload_n 0, 1) := by decide +kernel
theorem dL_asks_60 : decode cL_asks 60 = .ok (.iload_n 2, 1) := by decide +kernel
theorem dL_asks_61 : decode cL_asks 61 = .ok (.invokevirtual 26, 3) := by decide +kernel
theorem dL_asks_64 : decode cL_asks 64 = .ok (.goto 23, 3) := by decide +kernel
theorem dL_asks_67 : decode cL_asks 67 = .ok (.iload_n 1, 1) := by decide +kernel
theorem dL_asks_68 : decode cL_asks 68 = .ok (.iconst 5, 1) := by decide +kernel
theorem dL_asks_69 : decode cL_asks 69 = .ok (.if_icmp .ne 11, 3) := by decide +kernel
theorem dL_asks_72 : decode cL_asks 72 = .ok (.aload_n 0, 1) := by decide +kernel
theorem dL_asks_73 : decode cL_asks 73 = .ok (.iload_n 2, 1) := by decide +kernel
theorem dL_asks_74 : decode cL_asks 74 = .ok (.invokevirtual 29, 3) := by decide +kernel
theorem dL_asks_77 : decode cL_asks 77 = .ok (.goto 10, 3) := by decide +kernel
theorem dL_asks_80 : decode cL_asks 80 = .ok (.aload_n 0, 1) := by decide +kernel
theorem dL_asks_81 : decode cL_asks 81 = .ok (.iload_n 2, 1) := by decide +kernel
theorem dL_asks_82 : decode cL_asks 82 = .ok (.iload_n 3, 1) := by decide +kernel
theorem dL_asks_83 : decode cL_asks 83 = .ok (.iconst 0, 1) := by decide +kernel
theorem dL_asks_84 : decode cL_asks 84 = .ok (.invokevirtual 32, 3) := by decide +kernel
theorem dL_asks_87 : decode cL_asks 87 = .ok (.ireturn, 1) := by decide +kernel
theorem dL_asks_88 : decode cL_asks 88 = .ok (.astore 4, 2) := by decide +kernel
theorem dL_asks_90 : decode cL_asks 90 = .ok (.ldc 38, 2) := by decide +kernel
theorem dL_asks_92 : decode cL_asks 92 = .ok (.ireturn, 1) := by decide +kernel
theorem dL_asks_93 : decode cL_asks 93 = .ok (.astore 4, 2) := by decide +kernel
theorem dL_asks_95 : decode cL_asks 95 = .ok (.ldc 41, 2) := by decide +kernel
theorem dL_asks_97 : decode cL_asks 97 = .ok (.ireturn, 1) := by decide +kernel
theorem dL_owner_0 : decode cL_owner 0 = .ok (.aload_n 0, 1) := by decide +kernel
theorem dL_owner_1 : decode cL_owner 1 = .ok (.iload_n 1, 1) := by decide +kernel
theorem dL_owner_2 : decode cL_owner 2 = .ok (.iaload, 1) := by decide +kernel
theorem dL_owner_3 : decode cL_owner 3 = .ok (.ldc 42, 2) := by decide +kernel
theorem dL_owner_5 : decode cL_owner 5 = .ok (.idiv, 1) := by decide +kernel
theorem dL_owner_6 : decode cL_owner 6 = .ok (.iconst 1, 1) := by decide +kernel
theorem dL_owner_7 : decode cL_owner 7 = .ok (.isub, 1) := by decide +kernel
theorem dL_owner_8 : decode cL_owner 8 = .ok (.ireturn, 1) := by decide +kernel
theorem dL_lightOf_0 : decode cL_lightOf 0 = .ok (.aload_n 0, 1) := by decide +kernel
theorem dL_lightOf_1 : decode cL_lightOf 1 = .ok (.iload_n 1, 1) := by decide +kernel
theorem dL_lightOf_2 : decode cL_lightOf 2 = .ok (.iaload, 1) := by decide +kernel
theorem dL_lightOf_3 : decode cL_lightOf 3 = .ok (.ldc 43, 2) := by decide +kernel
theorem dL_lightOf_5 : decode cL_lightOf 5 = .ok (.idiv, 1) := by decide +kernel
theorem dL_lightOf_6 : decode cL_lightOf 6 = .ok (.bipush 100, 2) := by decide +kernel
theorem dL_lightOf_8 : decode cL_lightOf 8 = .ok (.irem, 1) := by decide +kernel
theorem dL_lightOf_9 : decode cL_lightOf 9 = .ok (.ireturn, 1) := by decide +kernel
theorem dL_plateOf_0 : decode cL_plateOf 0 = .ok (.aload_n 0, 1) := by decide +kernel
theorem dL_plateOf_1 : decode cL_plateOf 1 = .ok (.iload_n 1, 1) := by decide +kernel
theorem dL_plateOf_2 : decode cL_plateOf 2 = .ok (.iaload, 1) := by decide +kernel
theorem dL_plateOf_3 : decode cL_plateOf 3 = .ok (.sipush 3600, 3) := by decide +kernel
theorem dL_plateOf_6 : decode cL_plateOf 6 = .ok (.idiv, 1) := by decide +kernel
theorem dL_plateOf_7 : decode cL_plateOf 7 = .ok (.bipush 30, 2) := by decide +kernel
theorem dL_plateOf_9 : decode cL_plateOf 9 = .ok (.irem, 1) := by decide +kernel
theorem dL_plateOf_10 : decode cL_plateOf 10 = .ok (.ireturn, 1) := by decide +kernel
theorem dL_placeOf_0 : decode cL_placeOf 0 = .ok (.aload_n 0, 1) := by decide +kernel
theorem dL_placeOf_1 : decode cL_placeOf 1 = .ok (.iload_n 2, 1) := by decide +kernel
theorem dL_placeOf_2 : decode cL_placeOf 2 = .ok (.iaload, 1) := by decide +kernel
theorem dL_placeOf_3 : decode cL_placeOf 3 = .ok (.sipush 3600, 3) := by decide +kernel
theorem dL_placeOf_6 : decode cL_placeOf 6 = .ok (.irem, 1) := by decide +kernel
theorem dL_placeOf_7 : decode cL_placeOf 7 = .ok (.istore_n 3, 1) := by decide +kernel
theorem dL_placeOf_8 : decode cL_placeOf 8 = .ok (.iload_n 3, 1) := by decide +kernel
theorem dL_placeOf_9 : decode cL_placeOf 9 = .ok (.aload_n 1, 1) := by decide +kernel
theorem dL_placeOf_10 : decode cL_placeOf 10 = .ok (.iload_n 3, 1) := by decide +kernel
theorem dL_placeOf_11 : decode cL_placeOf 11 = .ok (.sipush 400, 3) := by decide +kernel
theorem dL_placeOf_14 : decode cL_placeOf 14 = .ok (.idiv, 1) := by decide +kernel
theorem dL_placeOf_15 : decode cL_placeOf 15 = .ok (.iaload, 1) := by decide +kernel
theorem dL_placeOf_16 : decode cL_placeOf 16 = .ok (.iadd, 1) := by decide +kernel
theorem dL_placeOf_17 : decode cL_placeOf 17 = .ok (.sipush 3600, 3) := by decide +kernel
theorem dL_placeOf_20 : decode cL_placeOf 20 = .ok (.iadd, 1) := by decide +kernel
theorem dL_placeOf_21 : decode cL_placeOf 21 = .ok (.sipush 3600, 3) := by decide +kernel
theorem dL_placeOf_24 : decode cL_placeOf 24 = .ok (.irem, 1) := by decide +kernel
theorem dL_placeOf_25 : decode cL_placeOf 25 = .ok (.ireturn, 1) := by decide +kernel
theorem dL_nightOf_0 : decode cL_nightOf 0 = .ok (.aload_n 1, 1) := by decide +kernel
theorem dL_nightOf_1 : decode cL_nightOf 1 = .ok (.aload_n 0, 1) := by decide +kernel
theorem dL_nightOf_2 : decode cL_nightOf 2 = .ok (.iload_n 2, 1) := by decide +kernel
theorem dL_nightOf_3 : decode cL_nightOf 3 = .ok (.invokestatic 44, 3) := by decide +kernel
theorem dL_nightOf_6 : decode cL_nightOf 6 = .ok (.iaload, 1) := by decide +kernel
theorem dL_nightOf_7 : decode cL_nightOf 7 = .ok (.bipush 10, 2) := by decide +kernel
theorem dL_nightOf_9 : decode cL_nightOf 9 = .ok (.idiv, 1) := by decide +kernel
theorem dL_nightOf_10 : decode cL_nightOf 10 = .ok (.ireturn, 1) := by decide +kernel
theorem dL_isBelow_0 : decode cL_isBelow 0 = .ok (.iload_n 1, 1) := by decide +kernel
theorem dL_isBelow_1 : decode cL_isBelow 1 = .ok (.istore_n 3, 1) := by decide +kernel
theorem dL_isBelow_2 : decode cL_isBelow 2 = .ok (.iload_n 3, 1) := by decide +kernel
theorem dL_isBelow_3 : decode cL_isBelow 3 = .ok (.ifCond .lt 22, 3) := by decide +kernel
theorem dL_isBelow_6 : decode cL_isBelow 6 = .ok (.iload_n 3, 1) := by decide +kernel
theorem dL_isBelow_7 : decode cL_isBelow 7 = .ok (.iload_n 2, 1) := by decide +kernel
theorem dL_isBelow_8 : decode cL_isBelow 8 = .ok (.if_icmp .eq 17, 3) := by decide +kernel
theorem dL_isBelow_11 : decode cL_isBelow 11 = .ok (.aload_n 0, 1) := by decide +kernel
theorem dL_isBelow_12 : decode cL_isBelow 12 = .ok (.iconst 5, 1) := by decide +kernel
theorem dL_isBelow_13 : decode cL_isBelow 13 = .ok (.iload_n 3, 1) := by decide +kernel
theorem dL_isBelow_14 : decode cL_isBelow 14 = .ok (.bipush 12, 2) := by decide +kernel
theorem dL_isBelow_16 : decode cL_isBelow 16 = .ok (.irem, 1) := by decide +kernel
theorem dL_isBelow_17 : decode cL_isBelow 17 = .ok (.imul, 1) := by decide +kernel
theorem dL_isBelow_18 : decode cL_isBelow 18 = .ok (.iaload, 1) := by decide +kernel
theorem dL_isBelow_19 : decode cL_isBelow 19 = .ok (.iconst 1, 1) := by decide +kernel
theorem dL_isBelow_20 : decode cL_isBelow 20 = .ok (.isub, 1) := by decide +kernel
theorem dL_isBelow_21 : decode cL_isBelow 21 = .ok (.istore_n 3, 1) := by decide +kernel
theorem dL_isBelow_22 : decode cL_isBelow 22 = .ok (.goto (-20), 3) := by decide +kernel
theorem dL_isBelow_25 : decode cL_isBelow 25 = .ok (.iload_n 3, 1) := by decide +kernel
theorem dL_isBelow_26 : decode cL_isBelow 26 = .ok (.iload_n 2, 1) := by decide +kernel
theorem dL_isBelow_27 : decode cL_isBelow 27 = .ok (.if_icmp .ne 7, 3) := by decide +kernel
theorem dL_isBelow_30 : decode cL_isBelow 30 = .ok (.iconst 1, 1) := by decide +kernel
theorem dL_isBelow_31 : decode cL_isBelow 31 = .ok (.goto 4, 3) := by decide +kernel
theorem dL_isBelow_34 : decode cL_isBelow 34 = .ok (.iconst 0, 1) := by decide +kernel
theorem dL_isBelow_35 : decode cL_isBelow 35 = .ok (.ireturn, 1) := by decide +kernel
theorem dL_isLook_0 : decode cL_isLook 0 = .ok (.aload_n 0, 1) := by decide +kernel
theorem dL_isLook_1 : decode cL_isLook 1 = .ok (.iload_n 2, 1) := by decide +kernel
theorem dL_isLook_2 : decode cL_isLook 2 = .ok (.invokestatic 50, 3) := by decide +kernel
theorem dL_isLook_5 : decode cL_isLook 5 = .ok (.ifCond .lt 20, 3) := by decide +kernel
theorem dL_isLook_8 : decode cL_isLook 8 = .ok (.aload_n 1, 1) := by decide +kernel
theorem dL_isLook_9 : decode cL_isLook 9 = .ok (.aload_n 0, 1) := by decide +kernel
theorem dL_isLook_10 : decode cL_isLook 10 = .ok (.iload_n 2, 1) := by decide +kernel
theorem dL_isLook_11 : decode cL_isLook 11 = .ok (.invokestatic 50, 3) := by decide +kernel
theorem dL_isLook_14 : decode cL_isLook 14 = .ok (.iload_n 3, 1) := by decide +kernel
theorem dL_isLook_15 : decode cL_isLook 15 = .ok (.invokestatic 53, 3) := by decide +kernel
theorem dL_isLook_18 : decode cL_isLook 18 = .ok (.ifCond .eq 7, 3) := by decide +kernel
theorem dL_isLook_21 : decode cL_isLook 21 = .ok (.iconst 1, 1) := by decide +kernel
theorem dL_isLook_22 : decode cL_isLook 22 = .ok (.goto 4, 3) := by decide +kernel
theorem dL_isLook_25 : decode cL_isLook 25 = .ok (.iconst 0, 1) := by decide +kernel
theorem dL_isLook_26 : decode cL_isLook 26 = .ok (.ireturn, 1) := by decide +kernel
theorem dL_looks_0 : decode cL_looks 0 = .ok (.iconst 0, 1) := by decide +kernel
theorem dL_looks_1 : decode cL_looks 1 = .ok (.istore 4, 2) := by decide +kernel
theorem dL_looks_3 : decode cL_looks 3 = .ok (.iconst 0, 1) := by decide +kernel
theorem dL_looks_4 : decode cL_looks 4 = .ok (.istore 5, 2) := by decide +kernel
theorem dL_looks_6 : decode cL_looks 6 = .ok (.iload 5, 2) := by decide +kernel
theorem dL_looks_8 : decode cL_looks 8 = .ok (.aload_n 2, 1) := by decide +kernel
theorem dL_looks_9 : decode cL_looks 9 = .ok (.iconst 2, 1) := by decide +kernel
theorem dL_looks_10 : decode cL_looks 10 = .ok (.iaload, 1) := by decide +kernel
theorem dL_looks_11 : decode cL_looks 11 = .ok (.if_icmp .ge 30, 3) := by decide +kernel
theorem dL_looks_14 : decode cL_looks 14 = .ok (.iload 4, 2) := by decide +kernel
theorem dL_looks_16 : decode cL_looks 16 = .ok (.aload_n 0, 1) := by decide +kernel
theorem dL_looks_17 : decode cL_looks 17 = .ok (.aload_n 1, 1) := by decide +kernel
theorem dL_looks_18 : decode cL_looks 18 = .ok (.iload 5, 2) := by decide +kernel
theorem dL_looks_20 : decode cL_looks 20 = .ok (.iload_n 3, 1) := by decide +kernel
theorem dL_looks_21 : decode cL_looks 21 = .ok (.invokestatic 57, 3) := by decide +kernel
theorem dL_looks_24 : decode cL_looks 24 = .ok (.ifCond .eq 7, 3) := by decide +kernel
theorem dL_looks_27 : decode cL_looks 27 = .ok (.iconst 1, 1) := by decide +kernel
theorem dL_looks_28 : decode cL_looks 28 = .ok (.goto 4, 3) := by decide +kernel
theorem dL_looks_31 : decode cL_looks 31 = .ok (.iconst 0, 1) := by decide +kernel
theorem dL_looks_32 : decode cL_looks 32 = .ok (.iadd, 1) := by decide +kernel
theorem dL_looks_33 : decode cL_looks 33 = .ok (.istore 4, 2) := by decide +kernel
theorem dL_looks_35 : decode cL_looks 35 = .ok (.iinc 5 1, 3) := by decide +kernel
theorem dL_looks_38 : decode cL_looks 38 = .ok (.goto (-32), 3) := by decide +kernel
theorem dL_looks_41 : decode cL_looks 41 = .ok (.iload 4, 2) := by decide +kernel
theorem dL_looks_43 : decode cL_looks 43 = .ok (.ireturn, 1) := by decide +kernel
theorem dL_firstOf_0 : decode cL_firstOf 0 = .ok (.iconst (-1), 1) := by decide +kernel
theorem dL_firstOf_1 : decode cL_firstOf 1 = .ok (.istore 5, 2) := by decide +kernel
theorem dL_firstOf_3 : decode cL_firstOf 3 = .ok (.iconst 0, 1) := by decide +kernel
theorem dL_firstOf_4 : decode cL_firstOf 4 = .ok (.istore 6, 2) := by decide +kernel
theorem dL_firstOf_6 : decode cL_firstOf 6 = .ok (.iload 6, 2) := by decide +kernel
theorem dL_firstOf_8 : decode cL_firstOf 8 = .ok (.aload_n 3, 1) := by decide +kernel
theorem dL_firstOf_9 : decode cL_firstOf 9 = .ok (.iconst 2, 1) := by decide +kernel
theorem dL_firstOf_10 : decode cL_firstOf 10 = .ok (.iaload, 1) := by decide +kernel
theorem dL_firstOf_11 : decode cL_firstOf 11 = .ok (.if_icmp .ge 52, 3) := by decide +kernel
theorem dL_firstOf_14 : decode cL_firstOf 14 = .ok (.aload_n 0, 1) := by decide +kernel
theorem dL_firstOf_15 : decode cL_firstOf 15 = .ok (.aload_n 2, 1) := by decide +kernel
theorem dL_firstOf_16 : decode cL_firstOf 16 = .ok (.iload 6, 2) := by decide +kernel
theorem dL_firstOf_18 : decode cL_firstOf 18 = .ok (.iload 4, 2) := by decide +kernel
theorem dL_firstOf_20 : decode cL_firstOf 20 = .ok (.invokestatic 57, 3) := by decide +kernel
theorem dL_firstOf_23 : decode cL_firstOf 23 = .ok (.ifCond .eq 30, 3) := by decide +kernel
theorem dL_firstOf_26 : decode cL_firstOf 26 = .ok (.iload 5, 2) := by decide +kernel
theorem dL_firstOf_28 : decode cL_firstOf 28 = .ok (.ifCond .lt 20, 3) := by decide +kernel
theorem dL_firstOf_31 : decode cL_firstOf 31 = .ok (.aload_n 0, 1) := by decide +kernel
theorem dL_firstOf_32 : decode cL_firstOf 32 = .ok (.aload_n 1, 1) := by decide +kernel
theorem dL_firstOf_33 : decode cL_firstOf 33 = .ok (.iload 6, 2) := by decide +kernel
theorem dL_firstOf_35 : decode cL_firstOf 35 = .ok (.invokestatic 61, 3) := by decide +kernel
theorem dL_firstOf_38 : decode cL_firstOf 38 = .ok (.aload_n 0, 1) := by decide +kernel
theorem dL_firstOf_39 : decode cL_firstOf 39 = .ok (.aload_n 1, 1) := by decide +kernel
theorem dL_firstOf_40 : decode cL_firstOf 40 = .ok (.iload 5, 2) := by decide +kernel
theorem dL_firstOf_42 : decode cL_firstOf 42 = .ok (.invokestatic 61, 3) := by decide +kernel
theorem dL_firstOf_45 : decode cL_firstOf 45 = .ok (.if_icmp .ge 8, 3) := by decide +kernel
theorem dL_firstOf_48 : decode cL_firstOf 48 = .ok (.iload 6, 2) := by decide +kernel
theorem dL_firstOf_50 : decode cL_firstOf 50 = .ok (.goto 5, 3) := by decide +kernel
theorem dL_firstOf_53 : decode cL_firstOf 53 = .ok (.iload 5, 2) := by decide +kernel
theorem dL_firstOf_55 : decode cL_firstOf 55 = .ok (.istore 5, 2) := by decide +kernel
theorem dL_firstOf_57 : decode cL_firstOf 57 = .ok (.iinc 6 1, 3) := by decide +kernel
theorem dL_firstOf_60 : decode cL_firstOf 60 = .ok (.goto (-54), 3) := by decide +kernel
theorem dL_firstOf_63 : decode cL_firstOf 63 = .ok (.iload 5, 2) := by decide +kernel
theorem dL_firstOf_65 : decode cL_firstOf 65 = .ok (.ireturn, 1) := by decide +kernel
theorem dL_placeBy_0 : decode cL_placeBy 0 = .ok (.iload_n 0, 1) := by decide +kernel
theorem dL_placeBy_1 : decode cL_placeBy 1 = .ok (.iload_n 1, 1) := by decide +kernel
theorem dL_placeBy_2 : decode cL_placeBy 2 = .ok (.iload_n 3, 1) := by decide +kernel
theorem dL_placeBy_3 : decode cL_placeBy 3 = .ok (.imul, 1) := by decide +kernel
theorem dL_placeBy_4 : decode cL_placeBy 4 = .ok (.iadd, 1) := by decide +kernel
theorem dL_placeBy_5 : decode cL_placeBy 5 = .ok (.iload_n 2, 1) := by decide +kernel
theorem dL_placeBy_6 : decode cL_placeBy 6 = .ok (.iload_n 3, 1) := by decide +kernel
theorem dL_placeBy_7 : decode cL_placeBy 7 = .ok (.iload_n 3, 1) := by decide +kernel
theorem dL_placeBy_8 : decode cL_placeBy 8 = .ok (.iconst 1, 1) := by decide +kernel
theorem dL_placeBy_9 : decode cL_placeBy 9 = .ok (.isub, 1) := by decide +kernel
theorem dL_placeBy_10 : decode cL_placeBy 10 = .ok (.imul, 1) := by decide +kernel
theorem dL_placeBy_11 : decode cL_placeBy 11 = .ok (.iconst 2, 1) := by decide +kernel
theorem dL_placeBy_12 : decode cL_placeBy 12 = .ok (.idiv, 1) := by decide +kernel
theorem dL_placeBy_13 : decode cL_placeBy 13 = .ok (.imul, 1) := by decide +kernel
theorem dL_placeBy_14 : decode cL_placeBy 14 = .ok (.iadd, 1) := by decide +kernel
theorem dL_placeBy_15 : decode cL_placeBy 15 = .ok (.sipush 3600, 3) := by decide +kernel
theorem dL_placeBy_18 : decode cL_placeBy 18 = .ok (.irem, 1) := by decide +kernel
theorem dL_placeBy_19 : decode cL_placeBy 19 = .ok (.sipush 3600, 3) := by decide +kernel
theorem dL_placeBy_22 : decode cL_placeBy 22 = .ok (.iadd, 1) := by decide +kernel
theorem dL_placeBy_23 : decode cL_placeBy 23 = .ok (.sipush 3600, 3) := by decide +kernel
theorem dL_placeBy_26 : decode cL_placeBy 26 = .ok (.irem, 1) := by decide +kernel
theorem dL_placeBy_27 : decode cL_placeBy 27 = .ok (.ireturn, 1) := by decide +kernel
theorem dL_isNear_0 : decode cL_isNear 0 = .ok (.iload_n 0, 1) := by decide +kernel
theorem dL_isNear_1 : decode cL_isNear 1 = .ok (.iload_n 1, 1) := by decide +kernel
theorem dL_isNear_2 : decode cL_isNear 2 = .ok (.if_icmp .ge 9, 3) := by decide +kernel
theorem dL_isNear_5 : decode cL_isNear 5 = .ok (.iload_n 1, 1) := by decide +kernel
theorem dL_isNear_6 : decode cL_isNear 6 = .ok (.iload_n 0, 1) := by decide +kernel
theorem dL_isNear_7 : decode cL_isNear 7 = .ok (.isub, 1) := by decide +kernel
theorem dL_isNear_8 : decode cL_isNear 8 = .ok (.goto 6, 3) := by decide +kernel
theorem dL_isNear_11 : decode cL_isNear 11 = .ok (.iload_n 0, 1) := by decide +kernel
theorem dL_isNear_12 : decode cL_isNear 12 = .ok (.iload_n 1, 1) := by decide +kernel
theorem dL_isNear_13 : decode cL_isNear 13 = .ok (.isub, 1) := by decide +kernel
theorem dL_isNear_14 : decode cL_isNear 14 = .ok (.istore_n 3, 1) := by decide +kernel
theorem dL_isNear_15 : decode cL_isNear 15 = .ok (.iload_n 3, 1) := by decide +kernel
theorem dL_isNear_16 : decode cL_isNear 16 = .ok (.iload_n 2, 1) := by decide +kernel
theorem dL_isNear_17 : decode cL_isNear 17 = .ok (.if_icmp .le 12, 3) := by decide +kernel
theorem dL_isNear_20 : decode cL_isNear 20 = .ok (.sipush 3600, 3) := by decide +kernel
theorem dL_isNear_23 : decode cL_isNear 23 = .ok (.iload_n 3, 1) := by decide +kernel
theorem dL_isNear_24 : decode cL_isNear 24 = .ok (.isub, 1) := by decide +kernel
theorem dL_isNear_25 : decode cL_isNear 25 = .ok (.iload_n 2, 1) := by decide +kernel
theorem dL_isNear_26 : decode cL_isNear 26 = .ok (.if_icmp .gt 7, 3) := by decide +kernel
theorem dL_isNear_29 : decode cL_isNear 29 = .ok (.iconst 1, 1) := by decide +kernel
theorem dL_isNear_30 : decode cL_isNear 30 = .ok (.goto 4, 3) := by decide +kernel
theorem dL_isNear_33 : decode cL_isNear 33 = .ok (.iconst 0, 1) := by decide +kernel
theorem dL_isNear_34 : decode cL_isNear 34 = .ok (.ireturn, 1) := by decide +kernel
theorem dL_orbits_0 : decode cL_orbits 0 = .ok (.bipush 60, 2) := by decide +kernel
theorem dL_orbits_2 : decode cL_orbits 2 = .ok (.newarray .int, 2) := by decide +kernel
theorem dL_orbits_4 : decode cL_orbits 4 = .ok (.astore 8, 2) := by decide +kernel
theorem dL_orbits_6 : decode cL_orbits 6 = .ok (.bipush 60, 2) := by decide +kernel
theorem dL_orbits_8 : decode cL_orbits 8 = .ok (.newarray .int, 2) := by decide +kernel
theorem dL_orbits_10 : decode cL_orbits 10 = .ok (.astore 9, 2) := by decide +kernel
theorem dL_orbits_12 : decode cL_orbits 12 = .ok (.bipush 60, 2) := by decide +kernel
theorem dL_orbits_14 : decode cL_orbits 14 = .ok (.newarray .int, 2) := by decide +kernel
theorem dL_orbits_16 : decode cL_orbits 16 = .ok (.astore 10, 2) := by decide +kernel
theorem dL_orbits_18 : decode cL_orbits 18 = .ok (.iconst 0, 1) := by decide +kernel
theorem dL_orbits_19 : decode cL_orbits 19 = .ok (.istore 11, 2) := by decide +kernel
theorem dL_orbits_21 : decode cL_orbits 21 = .ok (.iconst 0, 1) := by decide +kernel
theorem dL_orbits_22 : decode cL_orbits 22 = .ok (.istore 12, 2) := by decide +kernel
theorem dL_orbits_24 : decode cL_orbits 24 = .ok (.iload 12, 2) := by decide +kernel
theorem dL_orbits_26 : decode cL_orbits 26 = .ok (.aload 4, 2) := by decide +kernel
theorem dL_orbits_28 : decode cL_orbits 28 = .ok (.iconst 2, 1) := by decide +kernel
theorem dL_orbits_29 : decode cL_orbits 29 = .ok (.iaload, 1) := by decide +kernel
theorem dL_orbits_30 : decode cL_orbits 30 = .ok (.if_icmp .ge 88, 3) := by decide +kernel
theorem dL_orbits_33 : decode cL_orbits 33 = .ok (.aload_n 0, 1) := by decide +kernel
theorem dL_orbits_34 : decode cL_orbits 34 = .ok (.aload_n 3, 1) := by decide +kernel
theorem dL_orbits_35 : decode cL_orbits 35 = .ok (.iload 12, 2) := by decide +kernel
theorem dL_orbits_37 : decode cL_orbits 37 = .ok (.iload 5, 2) := by decide +kernel
theorem dL_orbits_39 : decode cL_orbits 39 = .ok (.invokestatic 57, 3) := by decide +kernel
theorem dL_orbits_42 : decode cL_orbits 42 = .ok (.ifCond .ne 27, 3) := by decide +kernel
theorem dL_orbits_45 : decode cL_orbits 45 = .ok (.iload 6, 2) := by decide +kernel
theorem dL_orbits_47 : decode cL_orbits 47 = .ok (.ifCond .lt 15, 3) := by decide +kernel
theorem dL_orbits_50 : decode cL_orbits 50 = .ok (.aload_n 0, 1) := by decide +kernel
theorem dL_orbits_51 : decode cL_orbits 51 = .ok (.aload_n 3, 1) := by decide +kernel
theorem dL_orbits_52 : decode cL_orbits 52 = .ok (.iload 12, 2) := by decide +kernel
theorem dL_orbits_54 : decode cL_orbits 54 = .ok (.iload 6, 2) := by decide +kernel
theorem dL_orbits_56 : decode cL_orbits 56 = .ok (.invokestatic 57, 3) := by decide +kernel
theorem dL_orbits_59 : decode cL_orbits 59 = .ok (.ifCond .ne 10, 3) := by decide +kernel
theorem dL_orbits_62 : decode cL_orbits 62 = .ok (.iload 12, 2) := by decide +kernel
theorem dL_orbits_64 : decode cL_orbits 64 = .ok (.iload 7, 2) := by decide +kernel
theorem dL_orbits_66 : decode cL_orbits 66 = .ok (.if_icmp .ne 46, 3) := by decide +kernel
theorem dL_orbits_69 : decode cL_orbits 69 = .ok (.aload 8, 2) := by decide +kernel
theorem dL_orbits_71 : decode cL_orbits 71 = .ok (.iload 11, 2) := by decide +kernel
theorem dL_orbits_73 : decode cL_orbits 73 = .ok (.aload_n 0, 1) := by decide +kernel
theorem dL_orbits_74 : decode cL_orbits 74 = .ok (.aload_n 1, 1) := by decide +kernel
theorem dL_orbits_75 : decode cL_orbits 75 = .ok (.iload 12, 2) := by decide +kernel
theorem dL_orbits_77 : decode cL_orbits 77 = .ok (.invokestatic 61, 3) := by decide +kernel
theorem dL_orbits_80 : decode cL_orbits 80 = .ok (.iastore, 1) := by decide +kernel
theorem dL_orbits_81 : decode cL_orbits 81 = .ok (.aload 9, 2) := by decide +kernel
theorem dL_orbits_83 : decode cL_orbits 83 = .ok (.iload 11, 2) := by decide +kernel
theorem dL_orbits_85 : decode cL_orbits 85 = .ok (.aload_n 0, 1) := by decide +kernel
theorem dL_orbits_86 : decode cL_orbits 86 = .ok (.aload_n 2, 1) := by decide +kernel
theorem dL_orbits_87 : decode cL_orbits 87 = .ok (.iload 12, 2) := by decide +kernel
theorem dL_orbits_89 : decode cL_orbits 89 = .ok (.invokestatic 65, 3) := by decide +kernel
theorem dL_orbits_92 : decode cL_orbits 92 = .ok (.iastore, 1) := by decide +kernel
theorem dL_orbits_93 : decode cL_orbits 93 = .ok (.aload 10, 2) := by decide +kernel
theorem dL_orbits_95 : decode cL_orbits 95 = .ok (.iload 11, 2) := by decide +kernel
theorem dL_orbits_97 : decode cL_orbits 97 = .ok (.aload_n 1, 1) := by decide +kernel
theorem dL_orbits_98 : decode cL_orbits 98 = .ok (.aload_n 0, 1) := by decide +kernel
theorem dL_orbits_99 : decode cL_orbits 99 = .ok (.iload 12, 2) := by decide +kernel
theorem dL_orbits_101 : decode cL_orbits 101 = .ok (.invokestatic 44, 3) := by decide +kernel
theorem dL_orbits_104 : decode cL_orbits 104 = .ok (.iaload, 1) := by decide +kernel
theorem dL_orbits_105 : decode cL_orbits 105 = .ok (.bipush 10, 2) := by decide +kernel
theorem dL_orbits_107 : decode cL_orbits 107 = .ok (.irem, 1) := by decide +kernel
theorem dL_orbits_108 : decode cL_orbits 108 = .ok (.iastore, 1) := by decide +kernel
theorem dL_orbits_109 : decode cL_orbits 109 = .ok (.iinc 11 1, 3) := by decide +kernel
theorem dL_orbits_112 : decode cL_orbits 112 = .ok (.iinc 12 1, 3) := by decide +kernel
theorem dL_orbits_115 : decode cL_orbits 115 = .ok (.goto (-91), 3) := by decide +kernel
theorem dL_orbits_118 : decode cL_orbits 118 = .ok (.iconst 0, 1) := by decide +kernel
theorem dL_orbits_119 : decode cL_orbits 119 = .ok (.istore 12, 2) := by decide +kernel
theorem dL_orbits_121 : decode cL_orbits 121 = .ok (.iconst 0, 1) := by decide +kernel
theorem dL_orbits_122 : decode cL_orbits 122 = .ok (.istore 13, 2) := by decide +kernel
theorem dL_orbits_124 : decode cL_orbits 124 = .ok (.iload 13, 2) := by decide +kernel
theorem dL_orbits_126 : decode cL_orbits 126 = .ok (.sipush 405, 3) := by decide +kernel
theorem dL_orbits_129 : decode cL_orbits 129 = .ok (.if_icmp .ge 143, 3) := by decide +kernel
theorem dL_orbits_132 : decode cL_orbits 132 = .ok (.aload 9, 2) := by decide +kernel
theorem dL_orbits_134 : decode cL_orbits 134 = .ok (.iconst 0, 1) := by decide +kernel
theorem dL_orbits_135 : decode cL_orbits 135 = .ok (.iaload, 1) := by decide +kernel
theorem dL_orbits_136 : decode cL_orbits 136 = .ok (.iconst 0, 1) := by decide +kernel
theorem dL_orbits_137 : decode cL_orbits 137 = .ok (.iload 13, 2) := by decide +kernel
theorem dL_orbits_139 : decode cL_orbits 139 = .ok (.bipush 81, 2) := by decide +kernel
theorem dL_orbits_141 : decode cL_orbits 141 = .ok (.irem, 1) := by decide +kernel
theorem dL_orbits_142 : decode cL_orbits 142 = .ok (.bipush 40, 2) := by decide +kernel
theorem dL_orbits_144 : decode cL_orbits 144 = .ok (.isub, 1) := by decide +kernel
theorem dL_orbits_145 : decode cL_orbits 145 = .ok (.iload 13, 2) := by decide +kernel
theorem dL_orbits_147 : decode cL_orbits 147 = .ok (.bipush 81, 2) := by decide +kernel
theorem dL_orbits_149 : decode cL_orbits 149 = .ok (.idiv, 1) := by decide +kernel
theorem dL_orbits_150 : decode cL_orbits 150 = .ok (.iconst 2, 1) := by decide +kernel
theorem dL_orbits_151 : decode cL_orbits 151 = .ok (.isub, 1) := by decide +kernel
theorem dL_orbits_152 : decode cL_orbits 152 = .ok (.aload 8, 2) := by decide +kernel
theorem dL_orbits_154 : decode cL_orbits 154 = .ok (.iconst 0, 1) := by decide +kernel
theorem dL_orbits_155 : decode cL_orbits 155 = .ok (.iaload, 1) := by decide +kernel
theorem dL_orbits_156 : decode cL_orbits 156 = .ok (.invokestatic 68, 3) := by decide +kernel
theorem dL_orbits_159 : decode cL_orbits 159 = .ok (.isub, 1) := by decide +kernel
theorem dL_orbits_160 : decode cL_orbits 160 = .ok (.istore 14, 2) := by decide +kernel
theorem dL_orbits_162 : decode cL_orbits 162 = .ok (.aload 10, 2) := by decide +kernel
theorem dL_orbits_164 : decode cL_orbits 164 = .ok (.iconst 0, 1) := by decide +kernel
theorem dL_orbits_165 : decode cL_orbits 165 = .ok (.iaload, 1) := by decide +kernel
theorem dL_orbits_166 : decode cL_orbits 166 = .ok (.ineg, 1) := by decide +kernel
theorem dL_orbits_167 : decode cL_orbits 167 = .ok (.istore 15, 2) := by decide +kernel
theorem dL_orbits_169 : decode cL_orbits 169 = .ok (.iload 15, 2) := by decide +kernel
theorem dL_orbits_171 : decode cL_orbits 171 = .ok (.aload 10, 2) := by decide +kernel
theorem dL_orbits_173 : decode cL_orbits 173 = .ok (.iconst 0, 1) := by decide +kernel
theorem dL_orbits_174 : decode cL_orbits 174 = .ok (.iaload, 1) := by decide +kernel
theorem dL_orbits_175 : decode cL_orbits 175 = .ok (.if_icmp .gt 91, 3) := by decide +kernel
theorem dL_orbits_178 : decode cL_orbits 178 = .ok (.iconst 1, 1) := by decide +kernel
theorem dL_orbits_179 : decode cL_orbits 179 = .ok (.istore 16, 2) := by decide +kernel
theorem dL_orbits_181 : decode cL_orbits 181 = .ok (.iconst 1, 1) := by decide +kernel
theorem dL_orbits_182 : decode cL_orbits 182 = .ok (.istore 17, 2) := by decide +kernel
theorem dL_orbits_184 : decode cL_orbits 184 = .ok (.iload 17, 2) := by decide +kernel
theorem dL_orbits_186 : decode cL_orbits 186 = .ok (.iload 11, 2) := by decide +kernel
theorem dL_orbits_188 : decode cL_orbits 188 = .ok (.if_icmp .ge 57, 3) := by decide +kernel
theorem dL_orbits_191 : decode cL_orbits 191 = .ok (.iload 16, 2) := by decide +kernel
theorem dL_orbits_193 : decode cL_orbits 193 = .ok (.ifCond .eq 52, 3) := by decide +kernel
theorem dL_orbits_196 : decode cL_orbits 196 = .ok (.iload 14, 2) := by decide +kernel
theorem dL_orbits_198 : decode cL_orbits 198 = .ok (.iload 15, 2) := by decide +kernel
theorem dL_orbits_200 : decode cL_orbits 200 = .ok (.iadd, 1) := by decide +kernel
theorem dL_orbits_201 : decode cL_orbits 201 = .ok (.iload 13, 2) := by decide +kernel
theorem dL_orbits_203 : decode cL_orbits 203 = .ok (.bipush 81, 2) := by decide +kernel
theorem dL_orbits_205 : decode cL_orbits 205 = .ok (.irem, 1) := by decide +kernel
theorem dL_orbits_206 : decode cL_orbits 206 = .ok (.bipush 40, 2) := by decide +kernel
theorem dL_orbits_208 : decode cL_orbits 208 = .ok (.isub, 1) := by decide +kernel
theorem dL_orbits_209 : decode cL_orbits 209 = .ok (.iload 13, 2) := by decide +kernel
theorem dL_orbits_211 : decode cL_orbits 211 = .ok (.bipush 81, 2) := by decide +kernel
theorem dL_orbits_213 : decode cL_orbits 213 = .ok (.idiv, 1) := by decide +kernel
theorem dL_orbits_214 : decode cL_orbits 214 = .ok (.iconst 2, 1) := by decide +kernel
theorem dL_orbits_215 : decode cL_orbits 215 = .ok (.isub, 1) := by decide +kernel
theorem dL_orbits_216 : decode cL_orbits 216 = .ok (.aload 8, 2) := by decide +kernel
theorem dL_orbits_218 : decode cL_orbits 218 = .ok (.iload 17, 2) := by decide +kernel
theorem dL_orbits_220 : decode cL_orbits 220 = .ok (.iaload, 1) := by decide +kernel
theorem dL_orbits_221 : decode cL_orbits 221 = .ok (.invokestatic 68, 3) := by decide +kernel
theorem dL_orbits_224 : decode cL_orbits 224 = .ok (.aload 9, 2) := by decide +kernel
theorem dL_orbits_226 : decode cL_orbits 226 = .ok (.iload 17, 2) := by decide +kernel
theorem dL_orbits_228 : decode cL_orbits 228 = .ok (.iaload, 1) := by decide +kernel
theorem dL_orbits_229 : decode cL_orbits 229 = .ok (.aload 10, 2) := by decide +kernel
theorem dL_orbits_231 : decode cL_orbits 231 = .ok (.iload 17, 2) := by decide +kernel
theorem dL_orbits_233 : decode cL_orbits 233 = .ok (.iaload, 1) := by decide +kernel
theorem dL_orbits_234 : decode cL_orbits 234 = .ok (.invokestatic 72, 3) := by decide +kernel
theorem dL_orbits_237 : decode cL_orbits 237 = .ok (.istore 16, 2) := by decide +kernel
theorem dL_orbits_239 : decode cL_orbits 239 = .ok (.iinc 17 1, 3) := by decide +kernel
theorem dL_orbits_242 : decode cL_orbits 242 = .ok (.goto (-58), 3) := by decide +kernel
theorem dL_orbits_245 : decode cL_orbits 245 = .ok (.iload 12, 2) := by decide +kernel
theorem dL_orbits_247 : decode cL_orbits 247 = .ok (.iload 16, 2) := by decide +kernel
theorem dL_orbits_249 : decode cL_orbits 249 = .ok (.ifCond .eq 7, 3) := by decide +kernel
theorem dL_orbits_252 : decode cL_orbits 252 = .ok (.iconst 1, 1) := by decide +kernel
theorem dL_orbits_253 : decode cL_orbits 253 = .ok (.goto 4, 3) := by decide +kernel
theorem dL_orbits_256 : decode cL_orbits 256 = .ok (.iconst 0, 1) := by decide +kernel
theorem dL_orbits_257 : decode cL_orbits 257 = .ok (.iadd, 1) := by decide +kernel
theorem dL_orbits_258 : decode cL_orbits 258 = .ok (.istore 12, 2) := by decide +kernel
theorem dL_orbits_260 : decode cL_orbits 260 = .ok (.iinc 15 1, 3) := by decide +kernel
theorem dL_orbits_263 : decode cL_orbits 263 = .ok (.goto (-94), 3) := by decide +kernel
theorem dL_orbits_266 : decode cL_orbits 266 = .ok (.iinc 13 1, 3) := by decide +kernel
theorem dL_orbits_269 : decode cL_orbits 269 = .ok (.goto (-145), 3) := by decide +kernel
theorem dL_orbits_272 : decode cL_orbits 272 = .ok (.iload 12, 2) := by decide +kernel
theorem dL_orbits_274 : decode cL_orbits 274 = .ok (.ireturn, 1) := by decide +kernel
theorem dL_share_0 : decode cL_share 0 = .ok (.iconst 0, 1) := by decide +kernel
theorem dL_share_1 : decode cL_share 1 = .ok (.istore 5, 2) := by decide +kernel
theorem dL_share_3 : decode cL_share 3 = .ok (.iconst 0, 1) := by decide +kernel
theorem dL_share_4 : decode cL_share 4 = .ok (.istore 6, 2) := by decide +kernel
theorem dL_share_6 : decode cL_share 6 = .ok (.iload 6, 2) := by decide +kernel
theorem dL_share_8 : decode cL_share 8 = .ok (.aload_n 2, 1) := by decide +kernel
theorem dL_share_9 : decode cL_share 9 = .ok (.iconst 2, 1) := by decide +kernel
theorem dL_share_10 : decode cL_share 10 = .ok (.iaload, 1) := by decide +kernel
theorem dL_share_11 : decode cL_share 11 = .ok (.aload_n 2, 1) := by decide +kernel
theorem dL_share_12 : decode cL_share 12 = .ok (.iconst 2, 1) := by decide +kernel
theorem dL_share_13 : decode cL_share 13 = .ok (.iaload, 1) := by decide +kernel
theorem dL_share_14 : decode cL_share 14 = .ok (.imul, 1) := by decide +kernel
theorem dL_share_15 : decode cL_share 15 = .ok (.if_icmp .ge 75, 3) := by decide +kernel
theorem dL_share_18 : decode cL_share 18 = .ok (.iload 6, 2) := by decide +kernel
theorem dL_share_20 : decode cL_share 20 = .ok (.aload_n 2, 1) := by decide +kernel
theorem dL_share_21 : decode cL_share 21 = .ok (.iconst 2, 1) := by decide +kernel
theorem dL_share_22 : decode cL_share 22 = .ok (.iaload, 1) := by decide +kernel
theorem dL_share_23 : decode cL_share 23 = .ok (.idiv, 1) := by decide +kernel
theorem dL_share_24 : decode cL_share 24 = .ok (.istore 7, 2) := by decide +kernel
theorem dL_share_26 : decode cL_share 26 = .ok (.iload 6, 2) := by decide +kernel
theorem dL_share_28 : decode cL_share 28 = .ok (.aload_n 2, 1) := by decide +kernel
theorem dL_share_29 : decode cL_share 29 = .ok (.iconst 2, 1) := by decide +kernel
theorem dL_share_30 : decode cL_share 30 = .ok (.iaload, 1) := by decide +kernel
theorem dL_share_31 : decode cL_share 31 = .ok (.irem, 1) := by decide +kernel
theorem dL_share_32 : decode cL_share 32 = .ok (.istore 8, 2) := by decide +kernel
theorem dL_share_34 : decode cL_share 34 = .ok (.iload 5, 2) := by decide +kernel
theorem dL_share_36 : decode cL_share 36 = .ok (.ifCond .ne 41, 3) := by decide +kernel
theorem dL_share_39 : decode cL_share 39 = .ok (.aload_n 0, 1) := by decide +kernel
theorem dL_share_40 : decode cL_share 40 = .ok (.iload 7, 2) := by decide +kernel
theorem dL_share_42 : decode cL_share 42 = .ok (.invokestatic 44, 3) := by decide +kernel
theorem dL_share_45 : decode cL_share 45 = .ok (.aload_n 0, 1) := by decide +kernel
theorem dL_share_46 : decode cL_share 46 = .ok (.iload 8, 2) := by decide +kernel
theorem dL_share_48 : decode cL_share 48 = .ok (.invokestatic 44, 3) := by decide +kernel
theorem dL_share_51 : decode cL_share 51 = .ok (.if_icmp .ne 30, 3) := by decide +kernel
theorem dL_share_54 : decode cL_share 54 = .ok (.aload_n 0, 1) := by decide +kernel
theorem dL_share_55 : decode cL_share 55 = .ok (.aload_n 1, 1) := by decide +kernel
theorem dL_share_56 : decode cL_share 56 = .ok (.iload 7, 2) := by decide +kernel
theorem dL_share_58 : decode cL_share 58 = .ok (.iload_n 3, 1) := by decide +kernel
theorem dL_share_59 : decode cL_share 59 = .ok (.invokestatic 57, 3) := by decide +kernel
theorem dL_share_62 : decode cL_share 62 = .ok (.ifCond .eq 19, 3) := by decide +kernel
theorem dL_share_65 : decode cL_share 65 = .ok (.aload_n 0, 1) := by decide +kernel
theorem dL_share_66 : decode cL_share 66 = .ok (.aload_n 1, 1) := by decide +kernel
theorem dL_share_67 : decode cL_share 67 = .ok (.iload 8, 2) := by decide +kernel
theorem dL_share_69 : decode cL_share 69 = .ok (.iload 4, 2) := by decide +kernel
theorem dL_share_71 : decode cL_share 71 = .ok (.invokestatic 57, 3) := by decide +kernel
theorem dL_share_74 : decode cL_share 74 = .ok (.ifCond .eq 7, 3) := by decide +kernel
theorem dL_share_77 : decode cL_share 77 = .ok (.iconst 1, 1) := by decide +kernel
theorem dL_share_78 : decode cL_share 78 = .ok (.goto 4, 3) := by decide +kernel
theorem dL_share_81 : decode cL_share 81 = .ok (.iconst 0, 1) := by decide +kernel
theorem dL_share_82 : decode cL_share 82 = .ok (.istore 5, 2) := by decide +kernel
theorem dL_share_84 : decode cL_share 84 = .ok (.iinc 6 1, 3) := by decide +kernel
theorem dL_share_87 : decode cL_share 87 = .ok (.goto (-81), 3) := by decide +kernel
theorem dL_share_90 : decode cL_share 90 = .ok (.iload 5, 2) := by decide +kernel
theorem dL_share_92 : decode cL_share 92 = .ok (.ireturn, 1) := by decide +kernel
theorem dL_latest_0 : decode cL_latest 0 = .ok (.iconst (-1), 1) := by decide +kernel
theorem dL_latest_1 : decode cL_latest 1 = .ok (.istore_n 3, 1) := by decide +kernel
theorem dL_latest_2 : decode cL_latest 2 = .ok (.iconst 0, 1) := by decide +kernel
theorem dL_latest_3 : decode cL_latest 3 = .ok (.istore 4, 2) := by decide +kernel
theorem dL_latest_5 : decode cL_latest 5 = .ok (.iload 4, 2) := by decide +kernel
theorem dL_latest_7 : decode cL_latest 7 = .ok (.aload_n 1, 1) := by decide +kernel
theorem dL_latest_8 : decode cL_latest 8 = .ok (.iconst 3, 1) := by decide +kernel
theorem dL_latest_9 : decode cL_latest 9 = .ok (.iaload, 1) := by decide +kernel
theorem dL_latest_10 : decode cL_latest 10 = .ok (.if_icmp .ge 50, 3) := by decide +kernel
theorem dL_latest_13 : decode cL_latest 13 = .ok (.aload_n 0, 1) := by decide +kernel
theorem dL_latest_14 : decode cL_latest 14 = .ok (.iconst 5, 1) := by decide +kernel
theorem dL_latest_15 : decode cL_latest 15 = .ok (.iload 4, 2) := by decide +kernel
theorem dL_latest_17 : decode cL_latest 17 = .ok (.imul, 1) := by decide +kernel
theorem dL_latest_18 : decode cL_latest 18 = .ok (.iaload, 1) := by decide +kernel
theorem dL_latest_19 : decode cL_latest 19 = .ok (.iconst 1, 1) := by decide +kernel
theorem dL_latest_20 : decode cL_latest 20 = .ok (.isub, 1) := by decide +kernel
theorem dL_latest_21 : decode cL_latest 21 = .ok (.iload_n 2, 1) := by decide +kernel
theorem dL_latest_22 : decode cL_latest 22 = .ok (.if_icmp .ne 30, 3) := by decide +kernel
theorem dL_latest_25 : decode cL_latest 25 = .ok (.iload_n 3, 1) := by decide +kernel
theorem dL_latest_26 : decode cL_latest 26 = .ok (.ifCond .lt 21, 3) := by decide +kernel
theorem dL_latest_29 : decode cL_latest 29 = .ok (.aload_n 0, 1) := by decide +kernel
theorem dL_latest_30 : decode cL_latest 30 = .ok (.iconst 5, 1) := by decide +kernel
theorem dL_latest_31 : decode cL_latest 31 = .ok (.iload 4, 2) := by decide +kernel
theorem dL_latest_33 : decode cL_latest 33 = .ok (.imul, 1) := by decide +kernel
theorem dL_latest_34 : decode cL_latest 34 = .ok (.iconst 1, 1) := by decide +kernel
theorem dL_latest_35 : decode cL_latest 35 = .ok (.iadd, 1) := by decide +kernel
theorem dL_latest_36 : decode cL_latest 36 = .ok (.iaload, 1) := by decide +kernel
theorem dL_latest_37 : decode cL_latest 37 = .ok (.aload_n 0, 1) := by decide +kernel
theorem dL_latest_38 : decode cL_latest 38 = .ok (.iconst 5, 1) := by decide +kernel
theorem dL_latest_39 : decode cL_latest 39 = .ok (.iload_n 3, 1) := by decide +kernel
theorem dL_latest_40 : decode cL_latest 40 = .ok (.imul, 1) := by decide +kernel
theorem dL_latest_41 : decode cL_latest 41 = .ok (.iconst 1, 1) := by decide +kernel
theorem dL_latest_42 : decode cL_latest 42 = .ok (.iadd, 1) := by decide +kernel
theorem dL_latest_43 : decode cL_latest 43 = .ok (.iaload, 1) := by decide +kernel
theorem dL_latest_44 : decode cL_latest 44 = .ok (.if_icmp .le 8, 3) := by decide +kernel
theorem dL_latest_47 : decode cL_latest 47 = .ok (.iload 4, 2) := by decide +kernel
theorem dL_latest_49 : decode cL_latest 49 = .ok (.goto 4, 3) := by decide +kernel
theorem dL_latest_52 : decode cL_latest 52 = .ok (.iload_n 3, 1) := by decide +kernel
theorem dL_latest_53 : decode cL_latest 53 = .ok (.istore_n 3, 1) := by decide +kernel
theorem dL_latest_54 : decode cL_latest 54 = .ok (.iinc 4 1, 3) := by decide +kernel
theorem dL_latest_57 : decode cL_latest 57 = .ok (.goto (-52), 3) := by decide +kernel
theorem dL_latest_60 : decode cL_latest 60 = .ok (.iload_n 3, 1) := by decide +kernel
theorem dL_latest_61 : decode cL_latest 61 = .ok (.ireturn, 1) := by decide +kernel
theorem dL_isBody_0 : decode cL_isBody 0 = .ok (.iconst 0, 1) := by decide +kernel
theorem dL_isBody_1 : decode cL_isBody 1 = .ok (.istore 8, 2) := by decide +kernel
theorem dL_isBody_3 : decode cL_isBody 3 = .ok (.iconst 0, 1) := by decide +kernel
theorem dL_isBody_4 : decode cL_isBody 4 = .ok (.istore 9, 2) := by decide +kernel
theorem dL_isBody_6 : decode cL_isBody 6 = .ok (.iconst 0, 1) := by decide +kernel
theorem dL_isBody_7 : decode cL_isBody 7 = .ok (.istore 10, 2) := by decide +kernel
theorem dL_isBody_9 : decode cL_isBody 9 = .ok (.iload 10, 2) := by decide +kernel
theorem dL_isBody_11 : decode cL_isBody 11 = .ok (.aload 7, 2) := by decide +kernel
theorem dL_isBody_13 : decode cL_isBody 13 = .ok (.iconst 2, 1) := by decide +kernel
theorem dL_isBody_14 : decode cL_isBody 14 = .ok (.iaload, 1) := by decide +kernel
theorem dL_isBody_15 : decode cL_isBody 15 = .ok (.if_icmp .ge 29, 3) := by decide +kernel
theorem dL_isBody_18 : decode cL_isBody 18 = .ok (.iload 8, 2) := by decide +kernel
theorem dL_isBody_20 : decode cL_isBody 20 = .ok (.aload_n 3, 1) := by decide +kernel
theorem dL_isBody_21 : decode cL_isBody 21 = .ok (.iload 10, 2) := by decide +kernel
theorem dL_isBody_23 : decode cL_isBody 23 = .ok (.invokestatic 50, 3) := by decide +kernel
theorem dL_isBody_26 : decode cL_isBody 26 = .ok (.iload_n 2, 1) := by decide +kernel
theorem dL_isBody_27 : decode cL_isBody 27 = .ok (.if_icmp .ne 7, 3) := by decide +kernel
theorem dL_isBody_30 : decode cL_isBody 30 = .ok (.iconst 1, 1) := by decide +kernel
theorem dL_isBody_31 : decode cL_isBody 31 = .ok (.goto 4, 3) := by decide +kernel
theorem dL_isBody_34 : decode cL_isBody 34 = .ok (.iconst 0, 1) := by decide +kernel
theorem dL_isBody_35 : decode cL_isBody 35 = .ok (.iadd, 1) := by decide +kernel
theorem dL_isBody_36 : decode cL_isBody 36 = .ok (.istore 8, 2) := by decide +kernel
theorem dL_isBody_38 : decode cL_isBody 38 = .ok (.iinc 10 1, 3) := by decide +kernel
theorem dL_isBody_41 : decode cL_isBody 41 = .ok (.goto (-32), 3) := by decide +kernel
theorem dL_isBody_44 : decode cL_isBody 44 = .ok (.iconst 0, 1) := by decide +kernel
theorem dL_isBody_45 : decode cL_isBody 45 = .ok (.istore 10, 2) := by decide +kernel
theorem dL_isBody_47 : decode cL_isBody 47 = .ok (.iload 10, 2) := by decide +kernel
theorem dL_isBody_49 : decode cL_isBody 49 = .ok (.aload 7, 2) := by decide +kernel
theorem dL_isBody_51 : decode cL_isBody 51 = .ok (.iconst 3, 1) := by decide +kernel
theorem dL_isBody_52 : decode cL_isBody 52 = .ok (.iaload, 1) := by decide +kernel
theorem dL_isBody_53 : decode cL_isBody 53 = .ok (.if_icmp .ge 32, 3) := by decide +kernel
theorem dL_isBody_56 : decode cL_isBody 56 = .ok (.iload 9, 2) := by decide +kernel
theorem dL_isBody_58 : decode cL_isBody 58 = .ok (.aload 6, 2) := by decide +kernel
theorem dL_isBody_60 : decode cL_isBody 60 = .ok (.iconst 5, 1) := by decide +kernel
theorem dL_isBody_61 : decode cL_isBody 61 = .ok (.iload 10, 2) := by decide +kernel
theorem dL_isBody_63 : decode cL_isBody 63 = .ok (.imul, 1) := by decide +kernel
theorem dL_isBody_64 : decode cL_isBody 64 = .ok (.iaload, 1) := by decide +kernel
theorem dL_isBody_65 : decode cL_isBody 65 = .ok (.iconst 1, 1) := by decide +kernel
theorem dL_isBody_66 : decode cL_isBody 66 = .ok (.isub, 1) := by decide +kernel
theorem dL_isBody_67 : decode cL_isBody 67 = .ok (.iload_n 2, 1) := by decide +kernel
theorem dL_isBody_68 : decode cL_isBody 68 = .ok (.if_icmp .ne 7, 3) := by decide +kernel
theorem dL_isBody_71 : decode cL_isBody 71 = .ok (.iconst 1, 1) := by decide +kernel
theorem dL_isBody_72 : decode cL_isBody 72 = .ok (.goto 4, 3) := by decide +kernel
theorem dL_isBody_75 : decode cL_isBody 75 = .ok (.iconst 0, 1) := by decide +kernel
theorem dL_isBody_76 : decode cL_isBody 76 = .ok (.iadd, 1) := by decide +kernel
theorem dL_isBody_77 : decode cL_isBody 77 = .ok (.istore 9, 2) := by decide +kernel
theorem dL_isBody_79 : decode cL_isBody 79 = .ok (.iinc 10 1, 3) := by decide +kernel
theorem dL_isBody_82 : decode cL_isBody 82 = .ok (.goto (-35), 3) := by decide +kernel
theorem dL_isBody_85 : decode cL_isBody 85 = .ok (.aload_n 3, 1) := by decide +kernel
theorem dL_isBody_86 : decode cL_isBody 86 = .ok (.aload 4, 2) := by decide +kernel
theorem dL_isBody_88 : decode cL_isBody 88 = .ok (.aload 6, 2) := by decide +kernel
theorem dL_isBody_90 : decode cL_isBody 90 = .ok (.aload 7, 2) := by decide +kernel
theorem dL_isBody_92 : decode cL_isBody 92 = .ok (.iload_n 2, 1) := by decide +kernel
theorem dL_isBody_93 : decode cL_isBody 93 = .ok (.invokestatic 76, 3) := by decide +kernel
theorem dL_isBody_96 : decode cL_isBody 96 = .ok (.istore 10, 2) := by decide +kernel
theorem dL_isBody_98 : decode cL_isBody 98 = .ok (.aload_n 0, 1) := by decide +kernel
theorem dL_isBody_99 : decode cL_isBody 99 = .ok (.iload_n 2, 1) := by decide +kernel
theorem dL_isBody_100 : decode cL_isBody 100 = .ok (.invokevirtual 80, 3) := by decide +kernel
theorem dL_isBody_103 : decode cL_isBody 103 = .ok (.istore 11, 2) := by decide +kernel
theorem dL_isBody_105 : decode cL_isBody 105 = .ok (.iload_n 1, 1) := by decide +kernel
theorem dL_isBody_106 : decode cL_isBody 106 = .ok (.sipush 1000, 3) := by decide +kernel
theorem dL_isBody_109 : decode cL_isBody 109 = .ok (.irem, 1) := by decide +kernel
theorem dL_isBody_110 : decode cL_isBody 110 = .ok (.istore 12, 2) := by decide +kernel
theorem dL_isBody_112 : decode cL_isBody 112 = .ok (.aload_n 0, 1) := by decide +kernel
theorem dL_isBody_113 : decode cL_isBody 113 = .ok (.iload_n 2, 1) := by decide +kernel
theorem dL_isBody_114 : decode cL_isBody 114 = .ok (.iload 12, 2) := by decide +kernel
theorem dL_isBody_116 : decode cL_isBody 116 = .ok (.invokevirtual 83, 3) := by decide +kernel
theorem dL_isBody_119 : decode cL_isBody 119 = .ok (.istore 13, 2) := by decide +kernel
theorem dL_isBody_121 : decode cL_isBody 121 = .ok (.aload_n 0, 1) := by decide +kernel
theorem dL_isBody_122 : decode cL_isBody 122 = .ok (.iload_n 2, 1) := by decide +kernel
theorem dL_isBody_123 : decode cL_isBody 123 = .ok (.iconst 0, 1) := by decide +kernel
theorem dL_isBody_124 : decode cL_isBody 124 = .ok (.invokevirtual 86, 3) := by decide +kernel
theorem dL_isBody_127 : decode cL_isBody 127 = .ok (.aload_n 3, 1) := by decide +kernel
theorem dL_isBody_128 : decode cL_isBody 128 = .ok (.aload 6, 2) := by decide +kernel
theorem dL_isBody_130 : decode cL_isBody 130 = .ok (.aload 7, 2) := by decide +kernel
theorem dL_isBody_132 : decode cL_isBody 132 = .ok (.iload_n 2, 1) := by decide +kernel
theorem dL_isBody_133 : decode cL_isBody 133 = .ok (.invokestatic 89, 3) := by decide +kernel
theorem dL_isBody_136 : decode cL_isBody 136 = .ok (.if_icmp .ne 167, 3) := by decide +kernel
theorem dL_isBody_139 : decode cL_isBody 139 = .ok (.aload_n 0, 1) := by decide +kernel
theorem dL_isBody_140 : decode cL_isBody 140 = .ok (.iload_n 2, 1) := by decide +kernel
theorem dL_isBody_141 : decode cL_isBody 141 = .ok (.iconst 1, 1) := by decide +kernel
theorem dL_isBody_142 : decode cL_isBody 142 = .ok (.invokevirtual 86, 3) := by decide +kernel
theorem dL_isBody_145 : decode cL_isBody 145 = .ok (.iload 8, 2) := by decide +kernel
theorem dL_isBody_147 : decode cL_isBody 147 = .ok (.if_icmp .ne 156, 3) := by decide +kernel
theorem dL_isBody_150 : decode cL_isBody 150 = .ok (.aload_n 0, 1) := by decide +kernel
theorem dL_isBody_151 : decode cL_isBody 151 = .ok (.iload_n 2, 1) := by decide +kernel
theorem dL_isBody_152 : decode cL_isBody 152 = .ok (.iconst 2, 1) := by decide +kernel
theorem dL_isBody_153 : decode cL_isBody 153 = .ok (.invokevirtual 86, 3) := by decide +kernel
theorem dL_isBody_156 : decode cL_isBody 156 = .ok (.aload 6, 2) := by decide +kernel
theorem dL_isBody_158 : decode cL_isBody 158 = .ok (.iconst 5, 1) := by decide +kernel
theorem dL_isBody_159 : decode cL_isBody 159 = .ok (.iload_n 2, 1) := by decide +kernel
theorem dL_isBody_160 : decode cL_isBody 160 = .ok (.imul, 1) := by decide +kernel
theorem dL_isBody_161 : decode cL_isBody 161 = .ok (.iaload, 1) := by decide +kernel
theorem dL_isBody_162 : decode cL_isBody 162 = .ok (.iconst 1, 1) := by decide +kernel
theorem dL_isBody_163 : decode cL_isBody 163 = .ok (.isub, 1) := by decide +kernel
theorem dL_isBody_164 : decode cL_isBody 164 = .ok (.if_icmp .ne 139, 3) := by decide +kernel
theorem dL_isBody_167 : decode cL_isBody 167 = .ok (.aload_n 0, 1) := by decide +kernel
theorem dL_isBody_168 : decode cL_isBody 168 = .ok (.iload_n 2, 1) := by decide +kernel
theorem dL_isBody_169 : decode cL_isBody 169 = .ok (.iconst 4, 1) := by decide +kernel
theorem dL_isBody_170 : decode cL_isBody 170 = .ok (.invokevirtual 86, 3) := by decide +kernel
theorem dL_isBody_173 : decode cL_isBody 173 = .ok (.iload 10, 2) := by decide +kernel
theorem dL_isBody_175 : decode cL_isBody 175 = .ok (.if_icmp .ne 128, 3) := by decide +kernel
theorem dL_isBody_178 : decode cL_isBody 178 = .ok (.aload_n 0, 1) := by decide +kernel
theorem dL_isBody_179 : decode cL_isBody 179 = .ok (.iload_n 2, 1) := by decide +kernel
theorem dL_isBody_180 : decode cL_isBody 180 = .ok (.iconst 5, 1) := by decide +kernel
theorem dL_isBody_181 : decode cL_isBody 181 = .ok (.invokevirtual 86, 3) := by decide +kernel
theorem dL_isBody_184 : decode cL_isBody 184 = .ok (.aload 6, 2) := by decide +kernel
theorem dL_isBody_186 : decode cL_isBody 186 = .ok (.iconst 5, 1) := by decide +kernel
theorem dL_isBody_187 : decode cL_isBody 187 = .ok (.iload_n 2, 1) := by decide +kernel
theorem dL_isBody_188 : decode cL_isBody 188 = .ok (.imul, 1) := by decide +kernel
theorem dL_isBody_189 : decode cL_isBody 189 = .ok (.iconst 2, 1) := by decide +kernel
theorem dL_isBody_190 : decode cL_isBody 190 = .ok (.iadd, 1) := by decide +kernel
theorem dL_isBody_191 : decode cL_isBody 191 = .ok (.iaload, 1) := by decide +kernel
theorem dL_isBody_192 : decode cL_isBody 192 = .ok (.ifCond .le 14, 3) := by decide +kernel
theorem dL_isBody_195 : decode cL_isBody 195 = .ok (.aload 6, 2) := by decide +kernel
theorem dL_isBody_197 : decode cL_isBody 197 = .ok (.iconst 5, 1) := by decide +kernel
theorem dL_isBody_198 : decode cL_isBody 198 = .ok (.iload_n 2, 1) := by decide +kernel
theorem dL_isBody_199 : decode cL_isBody 199 = .ok (.imul, 1) := by decide +kernel
theorem dL_isBody_200 : decode cL_isBody 200 = .ok (.iconst 2, 1) := by decide +kernel
theorem dL_isBody_201 : decode cL_isBody 201 = .ok (.iadd, 1) := by decide +kernel
theorem dL_isBody_202 : decode cL_isBody 202 = .ok (.iaload, 1) := by decide +kernel
theorem dL_isBody_203 : decode cL_isBody 203 = .ok (.goto 4, 3) := by decide +kernel
theorem dL_isBody_206 : decode cL_isBody 206 = .ok (.iconst (-1), 1) := by decide +kernel
theorem dL_isBody_207 : decode cL_isBody 207 = .ok (.if_icmp .ne 96, 3) := by decide +kernel
theorem dL_isBody_210 : decode cL_isBody 210 = .ok (.aload_n 0, 1) := by decide +kernel
theorem dL_isBody_211 : decode cL_isBody 211 = .ok (.iload_n 2, 1) := by decide +kernel
theorem dL_isBody_212 : decode cL_isBody 212 = .ok (.bipush 6, 2) := by decide +kernel
theorem dL_isBody_214 : decode cL_isBody 214 = .ok (.invokevirtual 86, 3) := by decide +kernel
theorem dL_isBody_217 : decode cL_isBody 217 = .ok (.iload 9, 2) := by decide +kernel
theorem dL_isBody_219 : decode cL_isBody 219 = .ok (.if_icmp .ne 84, 3) := by decide +kernel
theorem dL_isBody_222 : decode cL_isBody 222 = .ok (.iload 11, 2) := by decide +kernel
theorem dL_isBody_224 : decode cL_isBody 224 = .ok (.aload_n 3, 1) := by decide +kernel
theorem dL_isBody_225 : decode cL_isBody 225 = .ok (.aload 4, 2) := by decide +kernel
theorem dL_isBody_227 : decode cL_isBody 227 = .ok (.aload 5, 2) := by decide +kernel
theorem dL_isBody_229 : decode cL_isBody 229 = .ok (.aload 6, 2) := by decide +kernel
theorem dL_isBody_231 : decode cL_isBody 231 = .ok (.aload 7, 2) := by decide +kernel
theorem dL_isBody_233 : decode cL_isBody 233 = .ok (.iload_n 2, 1) := by decide +kernel
theorem dL_isBody_234 : decode cL_isBody 234 = .ok (.iconst (-1), 1) := by decide +kernel
theorem dL_isBody_235 : decode cL_isBody 235 = .ok (.iconst (-1), 1) := by decide +kernel
theorem dL_isBody_236 : decode cL_isBody 236 = .ok (.invokestatic 93, 3) := by decide +kernel
theorem dL_isBody_239 : decode cL_isBody 239 = .ok (.if_icmp .ne 64, 3) := by decide +kernel
theorem dL_isBody_242 : decode cL_isBody 242 = .ok (.iload 13, 2) := by decide +kernel
theorem dL_isBody_244 : decode cL_isBody 244 = .ok (.iload 11, 2) := by decide +kernel
theorem dL_isBody_246 : decode cL_isBody 246 = .ok (.if_icmp .gt 57, 3) := by decide +kernel
theorem dL_isBody_249 : decode cL_isBody 249 = .ok (.iload 13, 2) := by decide +kernel
theorem dL_isBody_251 : decode cL_isBody 251 = .ok (.ifCond .le 7, 3) := by decide +kernel
theorem dL_isBody_254 : decode cL_isBody 254 = .ok (.iconst 1, 1) := by decide +kernel
theorem dL_isBody_255 : decode cL_isBody 255 = .ok (.goto 4, 3) := by decide +kernel
theorem dL_isBody_258 : decode cL_isBody 258 = .ok (.iconst 0, 1) := by decide +kernel
theorem dL_isBody_259 : decode cL_isBody 259 = .ok (.iload 11, 2) := by decide +kernel
theorem dL_isBody_261 : decode cL_isBody 261 = .ok (.ifCond .le 7, 3) := by decide +kernel
theorem dL_isBody_264 : decode cL_isBody 264 = .ok (.iconst 1, 1) := by decide +kernel
theorem dL_isBody_265 : decode cL_isBody 265 = .ok (.goto 4, 3) := by decide +kernel
theorem dL_isBody_268 : decode cL_isBody 268 = .ok (.iconst 0, 1) := by decide +kernel
theorem dL_isBody_269 : decode cL_isBody 269 = .ok (.if_icmp .ne 34, 3) := by decide +kernel
theorem dL_isBody_272 : decode cL_isBody 272 = .ok (.aload_n 0, 1) := by decide +kernel
theorem dL_isBody_273 : decode cL_isBody 273 = .ok (.iload_n 2, 1) := by decide +kernel
theorem dL_isBody_274 : decode cL_isBody 274 = .ok (.iload 12, 2) := by decide +kernel
theorem dL_isBody_276 : decode cL_isBody 276 = .ok (.iload 13, 2) := by decide +kernel
theorem dL_isBody_278 : decode cL_isBody 278 = .ok (.invokevirtual 96, 3) := by decide +kernel
theorem dL_isBody_281 : decode cL_isBody 281 = .ok (.iconst (-1), 1) := by decide +kernel
theorem dL_isBody_282 : decode cL_isBody 282 = .ok (.if_icmp .ne 21, 3) := by decide +kernel
theorem dL_isBody_285 : decode cL_isBody 285 = .ok (.aload_n 0, 1) := by decide +kernel
theorem dL_isBody_286 : decode cL_isBody 286 = .ok (.bipush 6, 2) := by decide +kernel
theorem dL_isBody_288 : decode cL_isBody 288 = .ok (.iload_n 2, 1) := by decide +kernel
theorem dL_isBody_289 : decode cL_isBody 289 = .ok (.iload 11, 2) := by decide +kernel
theorem dL_isBody_291 : decode cL_isBody 291 = .ok (.invokestatic 99, 3) := by decide +kernel
theorem dL_isBody_294 : decode cL_isBody 294 = .ok (.ldc 38, 2) := by decide +kernel
theorem dL_isBody_296 : decode cL_isBody 296 = .ok (.if_icmp .ne 7, 3) := by decide +kernel
theorem dL_isBody_299 : decode cL_isBody 299 = .ok (.iconst 1, 1) := by decide +kernel
theorem dL_isBody_300 : decode cL_isBody 300 = .ok (.goto 4, 3) := by decide +kernel
theorem dL_isBody_303 : decode cL_isBody 303 = .ok (.iconst 0, 1) := by decide +kernel
theorem dL_isBody_304 : decode cL_isBody 304 = .ok (.istore 14, 2) := by decide +kernel
theorem dL_isBody_306 : decode cL_isBody 306 = .ok (.iconst 1, 1) := by decide +kernel
theorem dL_isBody_307 : decode cL_isBody 307 = .ok (.istore 15, 2) := by decide +kernel
theorem dL_isBody_309 : decode cL_isBody 309 = .ok (.iload 15, 2) := by decide +kernel
theorem dL_isBody_311 : decode cL_isBody 311 = .ok (.iload 13, 2) := by decide +kernel
theorem dL_isBody_313 : decode cL_isBody 313 = .ok (.if_icmp .ge 50, 3) := by decide +kernel
theorem dL_isBody_316 : decode cL_isBody 316 = .ok (.iload 15, 2) := by decide +kernel
theorem dL_isBody_318 : decode cL_isBody 318 = .ok (.iconst 4, 1) := by decide +kernel
theorem dL_isBody_319 : decode cL_isBody 319 = .ok (.if_icmp .ge 44, 3) := by decide +kernel
theorem dL_isBody_322 : decode cL_isBody 322 = .ok (.iload 14, 2) := by decide +kernel
theorem dL_isBody_324 : decode cL_isBody 324 = .ok (.ifCond .eq 39, 3) := by decide +kernel
theorem dL_isBody_327 : decode cL_isBody 327 = .ok (.aload_n 0, 1) := by decide +kernel
theorem dL_isBody_328 : decode cL_isBody 328 = .ok (.iload_n 2, 1) := by decide +kernel
theorem dL_isBody_329 : decode cL_isBody 329 = .ok (.iload 12, 2) := by decide +kernel
theorem dL_isBody_331 : decode cL_isBody 331 = .ok (.iload 15, 2) := by decide +kernel
theorem dL_isBody_333 : decode cL_isBody 333 = .ok (.iconst 1, 1) := by decide +kernel
theorem dL_isBody_334 : decode cL_isBody 334 = .ok (.isub, 1) := by decide +kernel
theorem dL_isBody_335 : decode cL_isBody 335 = .ok (.invokevirtual 96, 3) := by decide +kernel
theorem dL_isBody_338 : decode cL_isBody 338 = .ok (.aload_n 0, 1) := by decide +kernel
theorem dL_isBody_339 : decode cL_isBody 339 = .ok (.iload_n 2, 1) := by decide +kernel
theorem dL_isBody_340 : decode cL_isBody 340 = .ok (.iload 12, 2) := by decide +kernel
theorem dL_isBody_342 : decode cL_isBody 342 = .ok (.iload 15, 2) := by decide +kernel
theorem dL_isBody_344 : decode cL_isBody 344 = .ok (.invokevirtual 96, 3) := by decide +kernel
theorem dL_isBody_347 : decode cL_isBody 347 = .ok (.if_icmp .ge 7, 3) := by decide +kernel
theorem dL_isBody_350 : decode cL_isBody 350 = .ok (.iconst 1, 1) := by decide +kernel
theorem dL_isBody_351 : decode cL_isBody 351 = .ok (.goto 4, 3) := by decide +kernel
theorem dL_isBody_354 : decode cL_isBody 354 = .ok (.iconst 0, 1) := by decide +kernel
theorem dL_isBody_355 : decode cL_isBody 355 = .ok (.istore 14, 2) := by decide +kernel
theorem dL_isBody_357 : decode cL_isBody 357 = .ok (.iinc 15 1, 3) := by decide +kernel
theorem dL_isBody_360 : decode cL_isBody 360 = .ok (.goto (-51), 3) := by decide +kernel
theorem dL_isBody_363 : decode cL_isBody 363 = .ok (.iload 11, 2) := by decide +kernel
theorem dL_isBody_365 : decode cL_isBody 365 = .ok (.ifCond .le 292, 3) := by decide +kernel
theorem dL_isBody_368 : decode cL_isBody 368 = .ok (.iload 14, 2) := by decide +kernel
theorem dL_isBody_370 : decode cL_isBody 370 = .ok (.ifCond .eq 287, 3) := by decide +kernel
theorem dL_isBody_373 : decode cL_isBody 373 = .ok (.iload_n 1, 1) := by decide +kernel
theorem dL_isBody_374 : decode cL_isBody 374 = .ok (.sipush 1000, 3) := by decide +kernel
theorem dL_isBody_377 : decode cL_isBody 377 = .ok (.idiv, 1) := by decide +kernel
theorem dL_isBody_378 : decode cL_isBody 378 = .ok (.iload 11, 2) := by decide +kernel
theorem dL_isBody_380 : decode cL_isBody 380 = .ok (.irem, 1) := by decide +kernel
theorem dL_isBody_381 : decode cL_isBody 381 = .ok (.istore 15, 2) := by decide +kernel
theorem dL_isBody_383 : decode cL_isBody 383 = .ok (.aload_n 0, 1) := by decide +kernel
theorem dL_isBody_384 : decode cL_isBody 384 = .ok (.iload_n 2, 1) := by decide +kernel
theorem dL_isBody_385 : decode cL_isBody 385 = .ok (.iload 15, 2) := by decide +kernel
theorem dL_isBody_387 : decode cL_isBody 387 = .ok (.iconst 0, 1) := by decide +kernel
theorem dL_isBody_388 : decode cL_isBody 388 = .ok (.invokevirtual 32, 3) := by decide +kernel
theorem dL_isBody_391 : decode cL_isBody 391 = .ok (.istore 16, 2) := by decide +kernel
theorem dL_isBody_393 : decode cL_isBody 393 = .ok (.aload_n 0, 1) := by decide +kernel
theorem dL_isBody_394 : decode cL_isBody 394 = .ok (.iload_n 2, 1) := by decide +kernel
theorem dL_isBody_395 : decode cL_isBody 395 = .ok (.iload 15, 2) := by decide +kernel
theorem dL_isBody_397 : decode cL_isBody 397 = .ok (.iconst 1, 1) := by decide +kernel
theorem dL_isBody_398 : decode cL_isBody 398 = .ok (.invokevirtual 32, 3) := by decide +kernel
theorem dL_isBody_401 : decode cL_isBody 401 = .ok (.istore 17, 2) := by decide +kernel
theorem dL_isBody_403 : decode cL_isBody 403 = .ok (.aload_n 0, 1) := by decide +kernel
theorem dL_isBody_404 : decode cL_isBody 404 = .ok (.iload_n 2, 1) := by decide +kernel
theorem dL_isBody_405 : decode cL_isBody 405 = .ok (.iload 15, 2) := by decide +kernel
theorem dL_isBody_407 : decode cL_isBody 407 = .ok (.iconst 2, 1) := by decide +kernel
theorem dL_isBody_408 : decode cL_isBody 408 = .ok (.invokevirtual 32, 3) := by decide +kernel
theorem dL_isBody_411 : decode cL_isBody 411 = .ok (.istore 18, 2) := by decide +kernel
theorem dL_isBody_413 : decode cL_isBody 413 = .ok (.iconst 0, 1) := by decide +kernel
theorem dL_isBody_414 : decode cL_isBody 414 = .ok (.istore 19, 2) := by decide +kernel
theorem dL_isBody_416 : decode cL_isBody 416 = .ok (.iload 19, 2) := by decide +kernel
theorem dL_isBody_418 : decode cL_isBody 418 = .ok (.aload 7, 2) := by decide +kernel
theorem dL_isBody_420 : decode cL_isBody 420 = .ok (.iconst 2, 1) := by decide +kernel
theorem dL_isBody_421 : decode cL_isBody 421 = .ok (.iaload, 1) := by decide +kernel
theorem dL_isBody_422 : decode cL_isBody 422 = .ok (.if_icmp .ge 76, 3) := by decide +kernel
theorem dL_isBody_425 : decode cL_isBody 425 = .ok (.iload 14, 2) := by decide +kernel
theorem dL_isBody_427 : decode cL_isBody 427 = .ok (.ifCond .eq 71, 3) := by decide +kernel
theorem dL_isBody_430 : decode cL_isBody 430 = .ok (.aload_n 3, 1) := by decide +kernel
theorem dL_isBody_431 : decode cL_isBody 431 = .ok (.aload 6, 2) := by decide +kernel
theorem dL_isBody_433 : decode cL_isBody 433 = .ok (.iload 19, 2) := by decide +kernel
theorem dL_isBody_435 : decode cL_isBody 435 = .ok (.iload_n 2, 1) := by decide +kernel
theorem dL_isBody_436 : decode cL_isBody 436 = .ok (.invokestatic 57, 3) := by decide +kernel
theorem dL_isBody_439 : decode cL_isBody 439 = .ok (.ifCond .eq 46, 3) := by decide +kernel
theorem dL_isBody_442 : decode cL_isBody 442 = .ok (.iload 16, 2) := by decide +kernel
theorem dL_isBody_444 : decode cL_isBody 444 = .ok (.iload 17, 2) := by decide +kernel
theorem dL_isBody_446 : decode cL_isBody 446 = .ok (.iload 18, 2) := by decide +kernel
theorem dL_isBody_448 : decode cL_isBody 448 = .ok (.aload_n 3, 1) := by decide +kernel
theorem dL_isBody_449 : decode cL_isBody 449 = .ok (.aload 4, 2) := by decide +kernel
theorem dL_isBody_451 : decode cL_isBody 451 = .ok (.iload 19, 2) := by decide +kernel
theorem dL_isBody_453 : decode cL_isBody 453 = .ok (.invokestatic 61, 3) := by decide +kernel
theorem dL_isBody_456 : decode cL_isBody 456 = .ok (.invokestatic 68, 3) := by decide +kernel
theorem dL_isBody_459 : decode cL_isBody 459 = .ok (.aload_n 3, 1) := by decide +kernel
theorem dL_isBody_460 : decode cL_isBody 460 = .ok (.aload 5, 2) := by decide +kernel
theorem dL_isBody_462 : decode cL_isBody 462 = .ok (.iload 19, 2) := by decide +kernel
theorem dL_isBody_464 : decode cL_isBody 464 = .ok (.invokestatic 65, 3) := by decide +kernel
theorem dL_isBody_467 : decode cL_isBody 467 = .ok (.aload 4, 2) := by decide +kernel
theorem dL_isBody_469 : decode cL_isBody 469 = .ok (.aload_n 3, 1) := by decide +kernel
theorem dL_isBody_470 : decode cL_isBody 470 = .ok (.iload 19, 2) := by decide +kernel
theorem dL_isBody_472 : decode cL_isBody 472 = .ok (.invokestatic 44, 3) := by decide +kernel
theorem dL_isBody_475 : decode cL_isBody 475 = .ok (.iaload, 1) := by decide +kernel
theorem dL_isBody_476 : decode cL_isBody 476 = .ok (.bipush 10, 2) := by decide +kernel
theorem dL_isBody_478 : decode cL_isBody 478 = .ok (.irem, 1) := by decide +kernel
theorem dL_isBody_479 : decode cL_isBody 479 = .ok (.invokestatic 72, 3) := by decide +kernel
theorem dL_isBody_482 : decode cL_isBody 482 = .ok (.ifCond .eq 7, 3) := by decide +kernel
theorem dL_isBody_485 : decode cL_isBody 485 = .ok (.iconst 1, 1) := by decide +kernel
theorem dL_isBody_486 : decode cL_isBody 486 = .ok (.goto 4, 3) := by decide +kernel
theorem dL_isBody_489 : decode cL_isBody 489 = .ok (.iconst 0, 1) := by decide +kernel
theorem dL_isBody_490 : decode cL_isBody 490 = .ok (.istore 14, 2) := by decide +kernel
theorem dL_isBody_492 : decode cL_isBody 492 = .ok (.iinc 19 1, 3) := by decide +kernel
theorem dL_isBody_495 : decode cL_isBody 495 = .ok (.goto (-79), 3) := by decide +kernel
theorem dL_isBody_498 : decode cL_isBody 498 = .ok (.iload 14, 2) := by decide +kernel
theorem dL_isBody_500 : decode cL_isBody 500 = .ok (.ifCond .eq 154, 3) := by decide +kernel
theorem dL_isBody_503 : decode cL_isBody 503 = .ok (.iload 17, 2) := by decide +kernel
theorem dL_isBody_505 : decode cL_isBody 505 = .ok (.bipush (-41), 2) := by decide +kernel
theorem dL_isBody_507 : decode cL_isBody 507 = .ok (.if_icmp .le 147, 3) := by decide +kernel
theorem dL_isBody_510 : decode cL_isBody 510 = .ok (.iload 17, 2) := by decide +kernel
theorem dL_isBody_512 : decode cL_isBody 512 = .ok (.bipush 41, 2) := by decide +kernel
theorem dL_isBody_514 : decode cL_isBody 514 = .ok (.if_icmp .ge 140, 3) := by decide +kernel
theorem dL_isBody_517 : decode cL_isBody 517 = .ok (.iload 18, 2) := by decide +kernel
theorem dL_isBody_519 : decode cL_isBody 519 = .ok (.bipush (-3), 2) := by decide +kernel
theorem dL_isBody_521 : decode cL_isBody 521 = .ok (.if_icmp .le 133, 3) := by decide +kernel
theorem dL_isBody_524 : decode cL_isBody 524 = .ok (.iload 18, 2) := by decide +kernel
theorem dL_isBody_526 : decode cL_isBody 526 = .ok (.iconst 3, 1) := by decide +kernel
theorem dL_isBody_527 : decode cL_isBody 527 = .ok (.if_icmp .ge 127, 3) := by decide +kernel
theorem dL_isBody_530 : decode cL_isBody 530 = .ok (.iload 16, 2) := by decide +kernel
theorem dL_isBody_532 : decode cL_isBody 532 = .ok (.ifCond .lt 122, 3) := by decide +kernel
theorem dL_isBody_535 : decode cL_isBody 535 = .ok (.iload 16, 2) := by decide +kernel
theorem dL_isBody_537 : decode cL_isBody 537 = .ok (.sipush 3600, 3) := by decide +kernel
theorem dL_isBody_540 : decode cL_isBody 540 = .ok (.if_icmp .ge 114, 3) := by decide +kernel
theorem dL_isBody_543 : decode cL_isBody 543 = .ok (.iload 15, 2) := by decide +kernel
theorem dL_isBody_545 : decode cL_isBody 545 = .ok (.ifCond .eq 58, 3) := by decide +kernel
theorem dL_isBody_548 : decode cL_isBody 548 = .ok (.sipush 405, 3) := by decide +kernel
theorem dL_isBody_551 : decode cL_isBody 551 = .ok (.aload_n 0, 1) := by decide +kernel
theorem dL_isBody_552 : decode cL_isBody 552 = .ok (.iload_n 2, 1) := by decide +kernel
theorem dL_isBody_553 : decode cL_isBody 553 = .ok (.iload 15, 2) := by decide +kernel
theorem dL_isBody_555 : decode cL_isBody 555 = .ok (.iconst 1, 1) := by decide +kernel
theorem dL_isBody_556 : decode cL_isBody 556 = .ok (.isub, 1) := by decide +kernel
theorem dL_isBody_557 : decode cL_isBody 557 = .ok (.iconst 0, 1) := by decide +kernel
theorem dL_isBody_558 : decode cL_isBody 558 = .ok (.invokevirtual 32, 3) := by decide +kernel
theorem dL_isBody_561 : decode cL_isBody 561 = .ok (.imul, 1) := by decide +kernel
theorem dL_isBody_562 : decode cL_isBody 562 = .ok (.iconst 5, 1) := by decide +kernel
theorem dL_isBody_563 : decode cL_isBody 563 = .ok (.aload_n 0, 1) := by decide +kernel
theorem dL_isBody_564 : decode cL_isBody 564 = .ok (.iload_n 2, 1) := by decide +kernel
theorem dL_isBody_565 : decode cL_isBody 565 = .ok (.iload 15, 2) := by decide +kernel
theorem dL_isBody_567 : decode cL_isBody 567 = .ok (.iconst 1, 1) := by decide +kernel
theorem dL_isBody_568 : decode cL_isBody 568 = .ok (.isub, 1) := by decide +kernel
theorem dL_isBody_569 : decode cL_isBody 569 = .ok (.iconst 1, 1) := by decide +kernel
theorem dL_isBody_570 : decode cL_isBody 570 = .ok (.invokevirtual 32, 3) := by decide +kernel
theorem dL_isBody_573 : decode cL_isBody 573 = .ok (.imul, 1) := by decide +kernel
theorem dL_isBody_574 : decode cL_isBody 574 = .ok (.iadd, 1) := by decide +kernel
theorem dL_isBody_575 : decode cL_isBody 575 = .ok (.aload_n 0, 1) := by decide +kernel
theorem dL_isBody_576 : decode cL_isBody 576 = .ok (.iload_n 2, 1) := by decide +kernel
theorem dL_isBody_577 : decode cL_isBody 577 = .ok (.iload 15, 2) := by decide +kernel
theorem dL_isBody_579 : decode cL_isBody 579 = .ok (.iconst 1, 1) := by decide +kernel
theorem dL_isBody_580 : decode cL_isBody 580 = .ok (.isub, 1) := by decide +kernel
theorem dL_isBody_581 : decode cL_isBody 581 = .ok (.iconst 2, 1) := by decide +kernel
theorem dL_isBody_582 : decode cL_isBody 582 = .ok (.invokevirtual 32, 3) := by decide +kernel
theorem dL_isBody_585 : decode cL_isBody 585 = .ok (.iadd, 1) := by decide +kernel
theorem dL_isBody_586 : decode cL_isBody 586 = .ok (.sipush 405, 3) := by decide +kernel
theorem dL_isBody_589 : decode cL_isBody 589 = .ok (.iload 16, 2) := by decide +kernel
theorem dL_isBody_591 : decode cL_isBody 591 = .ok (.imul, 1) := by decide +kernel
theorem dL_isBody_592 : decode cL_isBody 592 = .ok (.iconst 5, 1) := by decide +kernel
theorem dL_isBody_593 : decode cL_isBody 593 = .ok (.iload 17, 2) := by decide +kernel
theorem dL_isBody_595 : decode cL_isBody 595 = .ok (.imul, 1) := by decide +kernel
theorem dL_isBody_596 : decode cL_isBody 596 = .ok (.iadd, 1) := by decide +kernel
theorem dL_isBody_597 : decode cL_isBody 597 = .ok (.iload 18, 2) := by decide +kernel
theorem dL_isBody_599 : decode cL_isBody 599 = .ok (.iadd, 1) := by decide +kernel
theorem dL_isBody_600 : decode cL_isBody 600 = .ok (.if_icmp .ge 54, 3) := by decide +kernel
theorem dL_isBody_603 : decode cL_isBody 603 = .ok (.aload_n 0, 1) := by decide +kernel
theorem dL_isBody_604 : decode cL_isBody 604 = .ok (.iload_n 2, 1) := by decide +kernel
theorem dL_isBody_605 : decode cL_isBody 605 = .ok (.iload 12, 2) := by decide +kernel
theorem dL_isBody_607 : decode cL_isBody 607 = .ok (.iconst 0, 1) := by decide +kernel
theorem dL_isBody_608 : decode cL_isBody 608 = .ok (.invokevirtual 96, 3) := by decide +kernel
theorem dL_isBody_611 : decode cL_isBody 611 = .ok (.iload 16, 2) := by decide +kernel
theorem dL_isBody_613 : decode cL_isBody 613 = .ok (.iload 17, 2) := by decide +kernel
theorem dL_isBody_615 : decode cL_isBody 615 = .ok (.iload 18, 2) := by decide +kernel
theorem dL_isBody_617 : decode cL_isBody 617 = .ok (.iload 12, 2) := by decide +kernel
theorem dL_isBody_619 : decode cL_isBody 619 = .ok (.invokestatic 68, 3) := by decide +kernel
theorem dL_isBody_622 : decode cL_isBody 622 = .ok (.if_icmp .gt 32, 3) := by decide +kernel
theorem dL_isBody_625 : decode cL_isBody 625 = .ok (.aload_n 0, 1) := by decide +kernel
theorem dL_isBody_626 : decode cL_isBody 626 = .ok (.iload_n 2, 1) := by decide +kernel
theorem dL_isBody_627 : decode cL_isBody 627 = .ok (.iload 12, 2) := by decide +kernel
theorem dL_isBody_629 : decode cL_isBody 629 = .ok (.iload 13, 2) := by decide +kernel
theorem dL_isBody_631 : decode cL_isBody 631 = .ok (.iconst 1, 1) := by decide +kernel
theorem dL_isBody_632 : decode cL_isBody 632 = .ok (.isub, 1) := by decide +kernel
theorem dL_isBody_633 : decode cL_isBody 633 = .ok (.invokevirtual 96, 3) := by decide +kernel
theorem dL_isBody_636 : decode cL_isBody 636 = .ok (.iload 16, 2) := by decide +kernel
theorem dL_isBody_638 : decode cL_isBody 638 = .ok (.iload 17, 2) := by decide +kernel
theorem dL_isBody_640 : decode cL_isBody 640 = .ok (.iload 18, 2) := by decide +kernel
theorem dL_isBody_642 : decode cL_isBody 642 = .ok (.iload 12, 2) := by decide +kernel
theorem dL_isBody_644 : decode cL_isBody 644 = .ok (.invokestatic 68, 3) := by decide +kernel
theorem dL_isBody_647 : decode cL_isBody 647 = .ok (.if_icmp .lt 7, 3) := by decide +kernel
theorem dL_isBody_650 : decode cL_isBody 650 = .ok (.iconst 1, 1) := by decide +kernel
theorem dL_isBody_651 : decode cL_isBody 651 = .ok (.goto 4, 3) := by decide +kernel
theorem dL_isBody_654 : decode cL_isBody 654 = .ok (.iconst 0, 1) := by decide +kernel
theorem dL_isBody_655 : decode cL_isBody 655 = .ok (.istore 14, 2) := by decide +kernel
theorem dL_isBody_657 : decode cL_isBody 657 = .ok (.iload 14, 2) := by decide +kernel
theorem dL_isBody_659 : decode cL_isBody 659 = .ok (.ifCond .eq 23, 3) := by decide +kernel
theorem dL_isBody_662 : decode cL_isBody 662 = .ok (.iload_n 1, 1) := by decide +kernel
theorem dL_isBody_663 : decode cL_isBody 663 = .ok (.iconst 3, 1) := by decide +kernel
theorem dL_isBody_664 : decode cL_isBody 664 = .ok (.irem, 1) := by decide +kernel
theorem dL_isBody_665 : decode cL_isBody 665 = .ok (.ifCond .gt 13, 3) := by decide +kernel
theorem dL_isBody_668 : decode cL_isBody 668 = .ok (.aload_n 0, 1) := by decide +kernel
theorem dL_isBody_669 : decode cL_isBody 669 = .ok (.iload_n 2, 1) := by decide +kernel
theorem dL_isBody_670 : decode cL_isBody 670 = .ok (.invokevirtual 103, 3) := by decide +kernel
theorem dL_isBody_673 : decode cL_isBody 673 = .ok (.iload 11, 2) := by decide +kernel
theorem dL_isBody_675 : decode cL_isBody 675 = .ok (.if_icmp .ne 7, 3) := by decide +kernel
theorem dL_isBody_678 : decode cL_isBody 678 = .ok (.iconst 1, 1) := by decide +kernel
theorem dL_isBody_679 : decode cL_isBody 679 = .ok (.goto 4, 3) := by decide +kernel
theorem dL_isBody_682 : decode cL_isBody 682 = .ok (.iconst 0, 1) := by decide +kernel
theorem dL_isBody_683 : decode cL_isBody 683 = .ok (.ireturn, 1) := by decide +kernel
theorem dL_isChance_0 : decode cL_isChance 0 = .ok (.iconst 1, 1) := by decide +kernel
theorem dL_isChance_1 : decode cL_isChance 1 = .ok (.iload_n 1, 1) := by decide +kernel
theorem dL_isChance_2 : decode cL_isChance 2 = .ok (.bipush 60, 2) := by decide +kernel
theorem dL_isChance_4 : decode cL_isChance 4 = .ok (.irem, 1) := by decide +kernel
theorem dL_isChance_5 : decode cL_isChance 5 = .ok (.iadd, 1) := by decide +kernel
theorem dL_isChance_6 : decode cL_isChance 6 = .ok (.istore_n 3, 1) := by decide +kernel
theorem dL_isChance_7 : decode cL_isChance 7 = .ok (.iload_n 1, 1) := by decide +kernel
theorem dL_isChance_8 : decode cL_isChance 8 = .ok (.bipush 60, 2) := by decide +kernel
theorem dL_isChance_10 : decode cL_isChance 10 = .ok (.idiv, 1) := by decide +kernel
