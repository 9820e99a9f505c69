set_option maxRecDepth 20000 in
theorem ggX0_init_X5_init : GoodIn wsX0_init wsX5_init := goodIn_r _ [14, 15, 2, 3, 16, 17, 22] (by decide +kernel) (by decide +kernel)
set_option maxRecDepth 20000 in
theorem gX0_init_X5_init : GoodIn wsX0_init (wsX5_init) := ggX0_init_X5_init
set_option maxRecDepth 20000 in
theorem ggX0_init_X5_fill : GoodIn wsX0_init wsX5_fill := goodIn_r _ [21, 17, 22] (by decide +kernel) (by decide +kernel)
set_option maxRecDepth 20000 in
theorem gX0_init_X5_fill : GoodIn wsX0_init (wsV RX0 32 RX5 yX5_fill wsX5_fill) := goodIn_app (goodIn_of _ (by decide +kernel)) ggX0_init_X5_fill
theorem dX0_init_0 : decode cX0_init 0 = .ok (.aload_n 0, 1) := by decide +kernel
theorem dX0_init_1 : decode cX0_init 1 = .ok (.invokespecial 3, 3) := by decide +kernel
theorem dX0_init_4 : decode cX0_init 4 = .ok (.aload_n 0, 1) := by decide +kernel
theorem dX0_init_5 : decode cX0_init 5 = .ok (.new 9, 3) := by decide +kernel
theorem dX0_init_8 : decode cX0_init 8 = .ok (.dup, 1) := by decide +kernel
theorem dX0_init_9 : decode cX0_init 9 = .ok (.bipush 60, 2) := by decide +kernel
theorem dX0_init_11 : decode cX0_init 11 = .ok (.invokespecial 11, 3) := by decide +kernel
theorem dX0_init_14 : decode cX0_init 14 = .ok (.putfield 14, 3) := by decide +kernel
theorem dX0_init_17 : decode cX0_init 17 = .ok (.aload_n 0, 1) := by decide +kernel
theorem dX0_init_18 : decode cX0_init 18 = .ok (.new 9, 3) := by decide +kernel
theorem dX0_init_21 : decode cX0_init 21 = .ok (.dup, 1) := by decide +kernel
theorem dX0_init_22 : decode cX0_init 22 = .ok (.bipush 20, 2) := by decide +kernel
theorem dX0_init_24 : decode cX0_init 24 = .ok (.invokespecial 11, 3) := by decide +kernel
theorem dX0_init_27 : decode cX0_init 27 = .ok (.putfield 20, 3) := by decide +kernel
theorem dX0_init_30 : decode cX0_init 30 = .ok (.aload_n 0, 1) := by decide +kernel
theorem dX0_init_31 : decode cX0_init 31 = .ok (.new 9, 3) := by decide +kernel
theorem dX0_init_34 : decode cX0_init 34 = .ok (.dup, 1) := by decide +kernel
theorem dX0_init_35 : decode cX0_init 35 = .ok (.bipush 20, 2) := by decide +kernel
theorem dX0_init_37 : decode cX0_init 37 = .ok (.invokespecial 11, 3) := by decide +kernel
theorem dX0_init_40 : decode cX0_init 40 = .ok (.putfield 23, 3) := by decide +kernel
theorem dX0_init_43 : decode cX0_init 43 = .ok (.aload_n 0, 1) := by decide +kernel
theorem dX0_init_44 : decode cX0_init 44 = .ok (.new 9, 3) := by decide +kernel
theorem dX0_init_47 : decode cX0_init 47 = .ok (.dup, 1) := by decide +kernel
theorem dX0_init_48 : decode cX0_init 48 = .ok (.bipush 20, 2) := by decide +kernel
theorem dX0_init_50 : decode cX0_init 50 = .ok (.invokespecial 11, 3) := by decide +kernel
theorem dX0_init_53 : decode cX0_init 53 = .ok (.putfield 26, 3) := by decide +kernel
theorem dX0_init_56 : decode cX0_init 56 = .ok (.aload_n 0, 1) := by decide +kernel
theorem dX0_init_57 : decode cX0_init 57 = .ok (.new 9, 3) := by decide +kernel
theorem dX0_init_60 : decode cX0_init 60 = .ok (.dup, 1) := by decide +kernel
theorem dX0_init_61 : decode cX0_init 61 = .ok (.bipush 20, 2) := by decide +kernel
theorem dX0_init_63 : decode cX0_init 63 = .ok (.invokespecial 11, 3) := by decide +kernel
theorem dX0_init_66 : decode cX0_init 66 = .ok (.putfield 29, 3) := by decide +kernel
theorem dX0_init_69 : decode cX0_init 69 = .ok (.aload_n 0, 1) := by decide +kernel
theorem dX0_init_70 : decode cX0_init 70 = .ok (.getfield 14, 3) := by decide +kernel
theorem dX0_init_73 : decode cX0_init 73 = .ok (.iconst (-1), 1) := by decide +kernel
theorem dX0_init_74 : decode cX0_init 74 = .ok (.invokevirtual 32, 3) := by decide +kernel
theorem dX0_init_77 : decode cX0_init 77 = .ok (.aload_n 0, 1) := by decide +kernel
theorem dX0_init_78 : decode cX0_init 78 = .ok (.getfield 20, 3) := by decide +kernel
theorem dX0_init_81 : decode cX0_init 81 = .ok (.iconst (-1), 1) := by decide +kernel
theorem dX0_init_82 : decode cX0_init 82 = .ok (.invokevirtual 32, 3) := by decide +kernel
theorem dX0_init_85 : decode cX0_init 85 = .ok (.aload_n 0, 1) := by decide +kernel
theorem dX0_init_86 : decode cX0_init 86 = .ok (.getfield 26, 3) := by decide +kernel
theorem dX0_init_89 : decode cX0_init 89 = .ok (.iconst (-1), 1) := by decide +kernel
theorem dX0_init_90 : decode cX0_init 90 = .ok (.invokevirtual 32, 3) := by decide +kernel
theorem dX0_init_93 : decode cX0_init 93 = .ok (.return_, 1) := by decide +kernel
set_option maxRecDepth 20000 in
theorem ggX0_addBody_X0_own : GoodIn wsX0_addBody wsX0_own := goodIn_r _ [6, 7, 8, 9, 10, 11, 12, 13, 14, 15, 16, 17, 18, 19, 20, 21, 22] (by decide +kernel) (by decide +kernel)
set_option maxRecDepth 20000 in
theorem gX0_addBody_X0_own : GoodIn wsX0_addBody (wsV RX0 39 RX0 yX0_own wsX0_own) := goodIn_app (goodIn_of _ (by decide +kernel)) ggX0_addBody_X0_own
theorem dX0_addBody_0 : decode cX0_addBody 0 = .ok (.aload_n 0, 1) := by decide +kernel
theorem dX0_addBody_1 : decode cX0_addBody 1 = .ok (.aload_n 0, 1) := by decide +kernel
theorem dX0_addBody_2 : decode cX0_addBody 2 = .ok (.getfield 35, 3) := by decide +kernel
theorem dX0_addBody_5 : decode cX0_addBody 5 = .ok (.iload_n 1, 1) := by decide +kernel
theorem dX0_addBody_6 : decode cX0_addBody 6 = .ok (.invokevirtual 39, 3) := by decide +kernel
theorem dX0_addBody_9 : decode cX0_addBody 9 = .ok (.aload_n 0, 1) := by decide +kernel
theorem dX0_addBody_10 : decode cX0_addBody 10 = .ok (.dup, 1) := by decide +kernel
theorem dX0_addBody_11 : decode cX0_addBody 11 = .ok (.getfield 35, 3) := by decide +kernel
theorem dX0_addBody_14 : decode cX0_addBody 14 = .ok (.iconst 1, 1) := by decide +kernel
theorem dX0_addBody_15 : decode cX0_addBody 15 = .ok (.iadd, 1) := by decide +kernel
theorem dX0_addBody_16 : decode cX0_addBody 16 = .ok (.putfield 35, 3) := by decide +kernel
theorem dX0_addBody_19 : decode cX0_addBody 19 = .ok (.aload_n 0, 1) := by decide +kernel
theorem dX0_addBody_20 : decode cX0_addBody 20 = .ok (.getfield 35, 3) := by decide +kernel
theorem dX0_addBody_23 : decode cX0_addBody 23 = .ok (.iconst 1, 1) := by decide +kernel
theorem dX0_addBody_24 : decode cX0_addBody 24 = .ok (.isub, 1) := by decide +kernel
theorem dX0_addBody_25 : decode cX0_addBody 25 = .ok (.ireturn, 1) := by decide +kernel
set_option maxRecDepth 20000 in
theorem ggX0_own_X5_put : GoodIn wsX0_own wsX5_put := goodIn_r _ [6, 7, 16] (by decide +kernel) (by decide +kernel)
set_option maxRecDepth 20000 in
theorem gX0_own_X5_put : GoodIn wsX0_own (wsV RX0 43 RX5 yX5_put wsX5_put) := goodIn_app (goodIn_of _ (by decide +kernel)) ggX0_own_X5_put
theorem dX0_own_0 : decode cX0_own 0 = .ok (.aload_n 0, 1) := by decide +kernel
theorem dX0_own_1 : decode cX0_own 1 = .ok (.getfield 14, 3) := by decide +kernel
theorem dX0_own_4 : decode cX0_own 4 = .ok (.iload_n 2, 1) := by decide +kernel
theorem dX0_own_5 : decode cX0_own 5 = .ok (.iload_n 1, 1) := by decide +kernel
theorem dX0_own_6 : decode cX0_own 6 = .ok (.invokevirtual 43, 3) := by decide +kernel
theorem dX0_own_9 : decode cX0_own 9 = .ok (.return_, 1) := by decide +kernel
set_option maxRecDepth 20000 in
theorem ggX0_ownerOf_X5_at : GoodIn wsX0_ownerOf wsX5_at := goodIn_r _ [6, 7, 16] (by decide +kernel) (by decide +kernel)
set_option maxRecDepth 20000 in
theorem gX0_ownerOf_X5_at : GoodIn wsX0_ownerOf (wsV RX0 46 RX5 yX5_at wsX5_at) := goodIn_app (goodIn_of _ (by decide +kernel)) ggX0_ownerOf_X5_at
theorem dX0_ownerOf_0 : decode cX0_ownerOf 0 = .ok (.aload_n 0, 1) := by decide +kernel
theorem dX0_ownerOf_1 : decode cX0_ownerOf 1 = .ok (.getfield 14, 3) := by decide +kernel
theorem dX0_ownerOf_4 : decode cX0_ownerOf 4 = .ok (.iload_n 1, 1) := by decide +kernel
theorem dX0_ownerOf_5 : decode cX0_ownerOf 5 = .ok (.invokevirtual 46, 3) := by decide +kernel
theorem dX0_ownerOf_8 : decode cX0_ownerOf 8 = .ok (.ireturn, 1) := by decide +kernel
set_option maxRecDepth 20000 in
theorem ggX0_isUnlinked_X5_at : GoodIn wsX0_isUnlinked wsX5_at := goodIn_r _ [6, 7, 16] (by decide +kernel) (by decide +kernel)
set_option maxRecDepth 20000 in
theorem gX0_isUnlinked_X5_at : GoodIn wsX0_isUnlinked (wsV RX0 46 RX5 yX5_at wsX5_at) := goodIn_app (goodIn_of _ (by decide +kernel)) ggX0_isUnlinked_X5_at
theorem dX0_isUnlinked_0 : decode cX0_isUnlinked 0 = .ok (.aload_n 0, 1) := by decide +kernel
theorem dX0_isUnlinked_1 : decode cX0_isUnlinked 1 = .ok (.getfield 14, 3) := by decide +kernel
theorem dX0_isUnlinked_4 : decode cX0_isUnlinked 4 = .ok (.iload_n 1, 1) := by decide +kernel
theorem dX0_isUnlinked_5 : decode cX0_isUnlinked 5 = .ok (.invokevirtual 46, 3) := by decide +kernel
theorem dX0_isUnlinked_8 : decode cX0_isUnlinked 8 = .ok (.iconst (-1), 1) := by decide +kernel
theorem dX0_isUnlinked_9 : decode cX0_isUnlinked 9 = .ok (.if_icmp .ne 7, 3) := by decide +kernel
theorem dX0_isUnlinked_12 : decode cX0_isUnlinked 12 = .ok (.iconst 1, 1) := by decide +kernel
theorem dX0_isUnlinked_13 : decode cX0_isUnlinked 13 = .ok (.goto 4, 3) := by decide +kernel
theorem dX0_isUnlinked_16 : decode cX0_isUnlinked 16 = .ok (.iconst 0, 1) := by decide +kernel
theorem dX0_isUnlinked_17 : decode cX0_isUnlinked 17 = .ok (.ireturn, 1) := by decide +kernel
set_option maxRecDepth 20000 in
theorem ggX0_countOwnDots_X5_at : GoodIn wsX0_countOwnDots wsX5_at := goodIn_r _ [6, 7, 16] (by decide +kernel) (by decide +kernel)
set_option maxRecDepth 20000 in
theorem gX0_countOwnDots_X5_at : GoodIn wsX0_countOwnDots (wsV RX0 46 RX5 yX5_at wsX5_at) := goodIn_app (goodIn_of _ (by decide +kernel)) ggX0_countOwnDots_X5_at
theorem dX0_countOwnDots_0 : decode cX0_countOwnDots 0 = .ok (.iconst 0, 1) := by decide +kernel
theorem dX0_countOwnDots_1 : decode cX0_countOwnDots 1 = .ok (.istore_n 2, 1) := by decide +kernel
theorem dX0_countOwnDots_2 : decode cX0_countOwnDots 2 = .ok (.iconst 0, 1) := by decide +kernel
theorem dX0_countOwnDots_3 : decode cX0_countOwnDots 3 = .ok (.istore_n 3, 1) := by decide +kernel
theorem dX0_countOwnDots_4 : decode cX0_countOwnDots 4 = .ok (.iload_n 3, 1) := by decide +kernel
theorem dX0_countOwnDots_5 : decode cX0_countOwnDots 5 = .ok (.bipush 60, 2) := by decide +kernel
theorem dX0_countOwnDots_7 : decode cX0_countOwnDots 7 = .ok (.if_icmp .ge 24, 3) := by decide +kernel
theorem dX0_countOwnDots_10 : decode cX0_countOwnDots 10 = .ok (.aload_n 0, 1) := by decide +kernel
theorem dX0_countOwnDots_11 : decode cX0_countOwnDots 11 = .ok (.getfield 14, 3) := by decide +kernel
theorem dX0_countOwnDots_14 : decode cX0_countOwnDots 14 = .ok (.iload_n 3, 1) := by decide +kernel
theorem dX0_countOwnDots_15 : decode cX0_countOwnDots 15 = .ok (.invokevirtual 46, 3) := by decide +kernel
theorem dX0_countOwnDots_18 : decode cX0_countOwnDots 18 = .ok (.iload_n 1, 1) := by decide +kernel
theorem dX0_countOwnDots_19 : decode cX0_countOwnDots 19 = .ok (.if_icmp .ne 6, 3) := by decide +kernel
theorem dX0_countOwnDots_22 : decode cX0_countOwnDots 22 = .ok (.iinc 2 1, 3) := by decide +kernel
theorem dX0_countOwnDots_25 : decode cX0_countOwnDots 25 = .ok (.iinc 3 1, 3) := by decide +kernel
theorem dX0_countOwnDots_28 : decode cX0_countOwnDots 28 = .ok (.goto (-24), 3) := by decide +kernel
theorem dX0_countOwnDots_31 : decode cX0_countOwnDots 31 = .ok (.iload_n 2, 1) := by decide +kernel
theorem dX0_countOwnDots_32 : decode cX0_countOwnDots 32 = .ok (.ireturn, 1) := by decide +kernel
set_option maxRecDepth 20000 in
theorem ggX0_isLook_X5_at : GoodIn wsX0_isLook wsX5_at := goodIn_r _ [7, 8, 17] (by decide +kernel) (by decide +kernel)
set_option maxRecDepth 20000 in
theorem gX0_isLook_X5_at : GoodIn wsX0_isLook (wsV RX0 46 RX5 yX5_at wsX5_at) := goodIn_app (goodIn_of _ (by decide +kernel)) ggX0_isLook_X5_at
theorem dX0_isLook_0 : decode cX0_isLook 0 = .ok (.aload_n 0, 1) := by decide +kernel
theorem dX0_isLook_1 : decode cX0_isLook 1 = .ok (.getfield 14, 3) := by decide +kernel
theorem dX0_isLook_4 : decode cX0_isLook 4 = .ok (.iload_n 1, 1) := by decide +kernel
theorem dX0_isLook_5 : decode cX0_isLook 5 = .ok (.invokevirtual 46, 3) := by decide +kernel
theorem dX0_isLook_8 : decode cX0_isLook 8 = .ok (.istore_n 3, 1) := by decide +kernel
theorem dX0_isLook_9 : decode cX0_isLook 9 = .ok (.iconst 0, 1) := by decide +kernel
theorem dX0_isLook_10 : decode cX0_isLook 10 = .ok (.istore 4, 2) := by decide +kernel
theorem dX0_isLook_12 : decode cX0_isLook 12 = .ok (.iload 4, 2) := by decide +kernel
theorem dX0_isLook_14 : decode cX0_isLook 14 = .ok (.bipush 20, 2) := by decide +kernel
theorem dX0_isLook_16 : decode cX0_isLook 16 = .ok (.if_icmp .ge 28, 3) := by decide +kernel
theorem dX0_isLook_19 : decode cX0_isLook 19 = .ok (.iload_n 3, 1) := by decide +kernel
theorem dX0_isLook_20 : decode cX0_isLook 20 = .ok (.iconst (-1), 1) := by decide +kernel
theorem dX0_isLook_21 : decode cX0_isLook 21 = .ok (.if_icmp .eq 23, 3) := by decide +kernel
theorem dX0_isLook_24 : decode cX0_isLook 24 = .ok (.iload_n 3, 1) := by decide +kernel
theorem dX0_isLook_25 : decode cX0_isLook 25 = .ok (.iload_n 2, 1) := by decide +kernel
theorem dX0_isLook_26 : decode cX0_isLook 26 = .ok (.if_icmp .eq 18, 3) := by decide +kernel
theorem dX0_isLook_29 : decode cX0_isLook 29 = .ok (.aload_n 0, 1) := by decide +kernel
theorem dX0_isLook_30 : decode cX0_isLook 30 = .ok (.getfield 20, 3) := by decide +kernel
theorem dX0_isLook_33 : decode cX0_isLook 33 = .ok (.iload_n 3, 1) := by decide +kernel
theorem dX0_isLook_34 : decode cX0_isLook 34 = .ok (.invokevirtual 46, 3) := by decide +kernel
theorem dX0_isLook_37 : decode cX0_isLook 37 = .ok (.istore_n 3, 1) := by decide +kernel
theorem dX0_isLook_38 : decode cX0_isLook 38 = .ok (.iinc 4 1, 3) := by decide +kernel
theorem dX0_isLook_41 : decode cX0_isLook 41 = .ok (.goto (-29), 3) := by decide +kernel
theorem dX0_isLook_44 : decode cX0_isLook 44 = .ok (.iload_n 3, 1) := by decide +kernel
theorem dX0_isLook_45 : decode cX0_isLook 45 = .ok (.iload_n 2, 1) := by decide +kernel
theorem dX0_isLook_46 : decode cX0_isLook 46 = .ok (.if_icmp .ne 7, 3) := by decide +kernel
theorem dX0_isLook_49 : decode cX0_isLook 49 = .ok (.iconst 1, 1) := by decide +kernel
theorem dX0_isLook_50 : decode cX0_isLook 50 = .ok (.goto 4, 3) := by decide +kernel
theorem dX0_isLook_53 : decode cX0_isLook 53 = .ok (.iconst 0, 1) := by decide +kernel
theorem dX0_isLook_54 : decode cX0_isLook 54 = .ok (.ireturn, 1) := by decide +kernel
set_option maxRecDepth 20000 in
theorem ggX0_hostOf_X5_at : GoodIn wsX0_hostOf wsX5_at := goodIn_r _ [6, 7, 16] (by decide +kernel) (by decide +kernel)
set_option maxRecDepth 20000 in
theorem gX0_hostOf_X5_at : GoodIn wsX0_hostOf (wsV RX0 46 RX5 yX5_at wsX5_at) := goodIn_app (goodIn_of _ (by decide +kernel)) ggX0_hostOf_X5_at
theorem dX0_hostOf_0 : decode cX0_hostOf 0 = .ok (.aload_n 0, 1) := by decide +kernel
theorem dX0_hostOf_1 : decode cX0_hostOf 1 = .ok (.getfield 20, 3) := by decide +kernel
theorem dX0_hostOf_4 : decode cX0_hostOf 4 = .ok (.iload_n 1, 1) := by decide +kernel
theorem dX0_hostOf_5 : decode cX0_hostOf 5 = .ok (.invokevirtual 46, 3) := by decide +kernel
theorem dX0_hostOf_8 : decode cX0_hostOf 8 = .ok (.ireturn, 1) := by decide +kernel
set_option maxRecDepth 20000 in
theorem ggX0_isFree_X5_at : GoodIn wsX0_isFree wsX5_at := goodIn_r _ [6, 7, 16] (by decide +kernel) (by decide +kernel)
set_option maxRecDepth 20000 in
theorem gX0_isFree_X5_at : GoodIn wsX0_isFree (wsV RX0 46 RX5 yX5_at wsX5_at) := goodIn_app (goodIn_of _ (by decide +kernel)) ggX0_isFree_X5_at
theorem dX0_isFree_0 : decode cX0_isFree 0 = .ok (.aload_n 0, 1) := by decide +kernel
theorem dX0_isFree_1 : decode cX0_isFree 1 = .ok (.getfield 20, 3) := by decide +kernel
theorem dX0_isFree_4 : decode cX0_isFree 4 = .ok (.iload_n 1, 1) := by decide +kernel
theorem dX0_isFree_5 : decode cX0_isFree 5 = .ok (.invokevirtual 46, 3) := by decide +kernel
theorem dX0_isFree_8 : decode cX0_isFree 8 = .ok (.iconst (-1), 1) := by decide +kernel
theorem dX0_isFree_9 : decode cX0_isFree 9 = .ok (.if_icmp .ne 7, 3) := by decide +kernel
theorem dX0_isFree_12 : decode cX0_isFree 12 = .ok (.iconst 1, 1) := by decide +kernel
theorem dX0_isFree_13 : decode cX0_isFree 13 = .ok (.goto 4, 3) := by decide +kernel
theorem dX0_isFree_16 : decode cX0_isFree 16 = .ok (.iconst 0, 1) := by decide +kernel
theorem dX0_isFree_17 : decode cX0_isFree 17 = .ok (.ireturn, 1) := by decide +kernel
set_option maxRecDepth 20000 in
theorem ggX0_attach_X5_put : GoodIn wsX0_attach wsX5_put := goodIn_r _ [8, 9, 18] (by decide +kernel) (by decide +kernel)
set_option maxRecDepth 20000 in
theorem gX0_attach_X5_put : GoodIn wsX0_attach (wsV RX0 43 RX5 yX5_put wsX5_put) := goodIn_app (goodIn_of _ (by decide +kernel)) ggX0_attach_X5_put
theorem dX0_attach_0 : decode cX0_attach 0 = .ok (.aload_n 0, 1) := by decide +kernel
theorem dX0_attach_1 : decode cX0_attach 1 = .ok (.getfield 20, 3) := by decide +kernel
theorem dX0_attach_4 : decode cX0_attach 4 = .ok (.iload_n 1, 1) := by decide +kernel
theorem dX0_attach_5 : decode cX0_attach 5 = .ok (.iload_n 2, 1) := by decide +kernel
theorem dX0_attach_6 : decode cX0_attach 6 = .ok (.invokevirtual 43, 3) := by decide +kernel
theorem dX0_attach_9 : decode cX0_attach 9 = .ok (.aload_n 0, 1) := by decide +kernel
theorem dX0_attach_10 : decode cX0_attach 10 = .ok (.dup, 1) := by decide +kernel
theorem dX0_attach_11 : decode cX0_attach 11 = .ok (.getfield 50, 3) := by decide +kernel
theorem dX0_attach_14 : decode cX0_attach 14 = .ok (.iconst 1, 1) := by decide +kernel
theorem dX0_attach_15 : decode cX0_attach 15 = .ok (.iadd, 1) := by decide +kernel
theorem dX0_attach_16 : decode cX0_attach 16 = .ok (.putfield 50, 3) := by decide +kernel
theorem dX0_attach_19 : decode cX0_attach 19 = .ok (.aload_n 0, 1) := by decide +kernel
theorem dX0_attach_20 : decode cX0_attach 20 = .ok (.getfield 23, 3) := by decide +kernel
theorem dX0_attach_23 : decode cX0_attach 23 = .ok (.iload_n 1, 1) := by decide +kernel
theorem dX0_attach_24 : decode cX0_attach 24 = .ok (.aload_n 0, 1) := by decide +kernel
theorem dX0_attach_25 : decode cX0_attach 25 = .ok (.getfield 50, 3) := by decide +kernel
theorem dX0_attach_28 : decode cX0_attach 28 = .ok (.invokevirtual 43, 3) := by decide +kernel
theorem dX0_attach_31 : decode cX0_attach 31 = .ok (.return_, 1) := by decide +kernel
set_option maxRecDepth 20000 in
theorem ggX0_free_X5_put : GoodIn wsX0_free wsX5_put := goodIn_r _ [6, 7, 16] (by decide +kernel) (by decide +kernel)
set_option maxRecDepth 20000 in
theorem gX0_free_X5_put : GoodIn wsX0_free (wsV RX0 43 RX5 yX5_put wsX5_put) := goodIn_app (goodIn_of _ (by decide +kernel)) ggX0_free_X5_put
theorem dX0_free_0 : decode cX0_free 0 = .ok (.aload_n 0, 1) := by decide +kernel
theorem dX0_free_1 : decode cX0_free 1 = .ok (.getfield 20, 3) := by decide +kernel
theorem dX0_free_4 : decode cX0_free 4 = .ok (.iload_n 1, 1) := by decide +kernel
theorem dX0_free_5 : decode cX0_free 5 = .ok (.iconst (-1), 1) := by decide +kernel
theorem dX0_free_6 : decode cX0_free 6 = .ok (.invokevirtual 43, 3) := by decide +kernel
theorem dX0_free_9 : decode cX0_free 9 = .ok (.return_, 1) := by decide +kernel
set_option maxRecDepth 20000 in
theorem ggX0_countJoinedTo_X5_at : GoodIn wsX0_countJoinedTo wsX5_at := goodIn_r _ [7, 8, 17] (by decide +kernel) (by decide +kernel)
set_option maxRecDepth 20000 in
theorem gX0_countJoinedTo_X5_at : GoodIn wsX0_countJoinedTo (wsV RX0 46 RX5 yX5_at wsX5_at) := goodIn_app (goodIn_of _ (by decide +kernel)) ggX0_countJoinedTo_X5_at
theorem dX0_countJoinedTo_0 : decode cX0_countJoinedTo 0 = .ok (.iconst 0, 1) := by decide +kernel
theorem dX0_countJoinedTo_1 : decode cX0_countJoinedTo 1 = .ok (.istore_n 2, 1) := by decide +kernel
theorem dX0_countJoinedTo_2 : decode cX0_countJoinedTo 2 = .ok (.iconst 0, 1) := by decide +kernel
theorem dX0_countJoinedTo_3 : decode cX0_countJoinedTo 3 = .ok (.istore_n 3, 1) := by decide +kernel
theorem dX0_countJoinedTo_4 : decode cX0_countJoinedTo 4 = .ok (.iload_n 3, 1) := by decide +kernel
theorem dX0_countJoinedTo_5 : decode cX0_countJoinedTo 5 = .ok (.aload_n 0, 1) := by decide +kernel
theorem dX0_countJoinedTo_6 : decode cX0_countJoinedTo 6 = .ok (.getfield 35, 3) := by decide +kernel
theorem dX0_countJoinedTo_9 : decode cX0_countJoinedTo 9 = .ok (.if_icmp .ge 24, 3) := by decide +kernel
theorem dX0_countJoinedTo_12 : decode cX0_countJoinedTo 12 = .ok (.aload_n 0, 1) := by decide +kernel
theorem dX0_countJoinedTo_13 : decode cX0_countJoinedTo 13 = .ok (.getfield 20, 3) := by decide +kernel
theorem dX0_countJoinedTo_16 : decode cX0_countJoinedTo 16 = .ok (.iload_n 3, 1) := by decide +kernel
theorem dX0_countJoinedTo_17 : decode cX0_countJoinedTo 17 = .ok (.invokevirtual 46, 3) := by decide +kernel
theorem dX0_countJoinedTo_20 : decode cX0_countJoinedTo 20 = .ok (.iload_n 1, 1) := by decide +kernel
theorem dX0_countJoinedTo_21 : decode cX0_countJoinedTo 21 = .ok (.if_icmp .ne 6, 3) := by decide +kernel
theorem dX0_countJoinedTo_24 : decode cX0_countJoinedTo 24 = .ok (.iinc 2 1, 3) := by decide +kernel
theorem dX0_countJoinedTo_27 : decode cX0_countJoinedTo 27 = .ok (.iinc 3 1, 3) := by decide +kernel
theorem dX0_countJoinedTo_30 : decode cX0_countJoinedTo 30 = .ok (.goto (-26), 3) := by decide +kernel
theorem dX0_countJoinedTo_33 : decode cX0_countJoinedTo 33 = .ok (.iload_n 2, 1) := by decide +kernel
theorem dX0_countJoinedTo_34 : decode cX0_countJoinedTo 34 = .ok (.ireturn, 1) := by decide +kernel
set_option maxRecDepth 20000 in
theorem ggX0_latestJoinedTo_X5_at : GoodIn wsX0_latestJoinedTo wsX5_at := goodIn_r _ [8, 9, 18] (by decide +kernel) (by decide +kernel)
set_option maxRecDepth 20000 in
theorem gX0_latestJoinedTo_X5_at : GoodIn wsX0_latestJoinedTo (wsV RX0 46 RX5 yX5_at wsX5_at) := goodIn_app (goodIn_of _ (by decide +kernel)) ggX0_latestJoinedTo_X5_at
theorem dX0_latestJoinedTo_0 : decode cX0_latestJoinedTo 0 = .ok (.iconst (-1), 1) := by decide +kernel
theorem dX0_latestJoinedTo_1 : decode cX0_latestJoinedTo 1 = .ok (.istore_n 2, 1) := by decide +kernel
theorem dX0_latestJoinedTo_2 : decode cX0_latestJoinedTo 2 = .ok (.iconst 0, 1) := by decide +kernel
theorem dX0_latestJoinedTo_3 : decode cX0_latestJoinedTo 3 = .ok (.istore_n 3, 1) := by decide +kernel
theorem dX0_latestJoinedTo_4 : decode cX0_latestJoinedTo 4 = .ok (.iload_n 3, 1) := by decide +kernel
theorem dX0_latestJoinedTo_5 : decode cX0_latestJoinedTo 5 = .ok (.aload_n 0, 1) := by decide +kernel
theorem dX0_latestJoinedTo_6 : decode cX0_latestJoinedTo 6 = .ok (.getfield 35, 3) := by decide +kernel
theorem dX0_latestJoinedTo_9 : decode cX0_latestJoinedTo 9 = .ok (.if_icmp .ge 59, 3) := by decide +kernel
theorem dX0_latestJoinedTo_12 : decode cX0_latestJoinedTo 12 = .ok (.iload_n 2, 1) := by decide +kernel
theorem dX0_latestJoinedTo_13 : decode cX0_latestJoinedTo 13 = .ok (.iconst (-1), 1) := by decide +kernel
theorem dX0_latestJoinedTo_14 : decode cX0_latestJoinedTo 14 = .ok (.if_icmp .eq 22, 3) := by decide +kernel
theorem dX0_latestJoinedTo_17 : decode cX0_latestJoinedTo 17 = .ok (.aload_n 0, 1) := by decide +kernel
theorem dX0_latestJoinedTo_18 : decode cX0_latestJoinedTo 18 = .ok (.getfield 23, 3) := by decide +kernel
theorem dX0_latestJoinedTo_21 : decode cX0_latestJoinedTo 21 = .ok (.iload_n 3, 1) := by decide +kernel
theorem dX0_latestJoinedTo_22 : decode cX0_latestJoinedTo 22 = .ok (.invokevirtual 46, 3) := by decide +kernel
theorem dX0_latestJoinedTo_25 : decode cX0_latestJoinedTo 25 = .ok (.aload_n 0, 1) := by decide +kernel
theorem dX0_latestJoinedTo_26 : decode cX0_latestJoinedTo 26 = .ok (.getfield 23, 3) := by decide +kernel
theorem dX0_latestJoinedTo_29 : decode cX0_latestJoinedTo 29 = .ok (.iload_n 2, 1) := by decide +kernel
theorem dX0_latestJoinedTo_30 : decode cX0_latestJoinedTo 30 = .ok (.invokevirtual 46, 3) := by decide +kernel
theorem dX0_latestJoinedTo_33 : decode cX0_latestJoinedTo 33 = .ok (.if_icmp .le 7, 3) := by decide +kernel
theorem dX0_latestJoinedTo_36 : decode cX0_latestJoinedTo 36 = .ok (.iconst 1, 1) := by decide +kernel
theorem dX0_latestJoinedTo_37 : decode cX0_latestJoinedTo 37 = .ok (.goto 4, 3) := by decide +kernel
theorem dX0_latestJoinedTo_40 : decode cX0_latestJoinedTo 40 = .ok (.iconst 0, 1) := by decide +kernel
theorem dX0_latestJoinedTo_41 : decode cX0_latestJoinedTo 41 = .ok (.istore 4, 2) := by decide +kernel
theorem dX0_latestJoinedTo_43 : decode cX0_latestJoinedTo 43 = .ok (.aload_n 0, 1) := by decide +kernel
theorem dX0_latestJoinedTo_44 : decode cX0_latestJoinedTo 44 = .ok (.getfield 20, 3) := by decide +kernel
theorem dX0_latestJoinedTo_47 : decode cX0_latestJoinedTo 47 = .ok (.iload_n 3, 1) := by decide +kernel
theorem dX0_latestJoinedTo_48 : decode cX0_latestJoinedTo 48 = .ok (.invokevirtual 46, 3) := by decide +kernel
theorem dX0_latestJoinedTo_51 : decode cX0_latestJoinedTo 51 = .ok (.iload_n 1, 1) := by decide +kernel
theorem dX0_latestJoinedTo_52 : decode cX0_latestJoinedTo 52 = .ok (.if_icmp .ne 10, 3) := by decide +kernel
theorem dX0_latestJoinedTo_55 : decode cX0_latestJoinedTo 55 = .ok (.iload 4, 2) := by decide +kernel
theorem dX0_latestJoinedTo_57 : decode cX0_latestJoinedTo 57 = .ok (.ifCond .eq 5, 3) := by decide +kernel
theorem dX0_latestJoinedTo_60 : decode cX0_latestJoinedTo 60 = .ok (.iload_n 3, 1) := by decide +kernel
theorem dX0_latestJoinedTo_61 : decode cX0_latestJoinedTo 61 = .ok (.istore_n 2, 1) := by decide +kernel
theorem dX0_latestJoinedTo_62 : decode cX0_latestJoinedTo 62 = .ok (.iinc 3 1, 3) := by decide +kernel
theorem dX0_latestJoinedTo_65 : decode cX0_latestJoinedTo 65 = .ok (.goto (-61), 3) := by decide +kernel
theorem dX0_latestJoinedTo_68 : decode cX0_latestJoinedTo 68 = .ok (.iload_n 2, 1) := by decide +kernel
theorem dX0_latestJoinedTo_69 : decode cX0_latestJoinedTo 69 = .ok (.ireturn, 1) := by decide +kernel
set_option maxRecDepth 20000 in
theorem ggX0_giveNumber_X5_put : GoodIn wsX0_giveNumber wsX5_put := goodIn_r _ [8, 9, 18] (by decide +kernel) (by decide +kernel)
set_option maxRecDepth 20000 in
theorem gX0_giveNumber_X5_put : GoodIn wsX0_giveNumber (wsV RX0 43 RX5 yX5_put wsX5_put) := goodIn_app (goodIn_of _ (by decide +kernel)) ggX0_giveNumber_X5_put
theorem dX0_giveNumber_0 : decode cX0_giveNumber 0 = .ok (.aload_n 0, 1) := by decide +kernel
theorem dX0_giveNumber_1 : decode cX0_giveNumber 1 = .ok (.dup, 1) := by decide +kernel
theorem dX0_giveNumber_2 : decode cX0_giveNumber 2 = .ok (.getfield 53, 3) := by decide +kernel
theorem dX0_giveNumber_5 : decode cX0_giveNumber 5 = .ok (.iconst 1, 1) := by decide +kernel
theorem dX0_giveNumber_6 : decode cX0_giveNumber 6 = .ok (.iadd, 1) := by decide +kernel
theorem dX0_giveNumber_7 : decode cX0_giveNumber 7 = .ok (.putfield 53, 3) := by decide +kernel
theorem dX0_giveNumber_10 : decode cX0_giveNumber 10 = .ok (.aload_n 0, 1) := by decide +kernel
theorem dX0_giveNumber_11 : decode cX0_giveNumber 11 = .ok (.getfield 26, 3) := by decide +kernel
theorem dX0_giveNumber_14 : decode cX0_giveNumber 14 = .ok (.iload_n 1, 1) := by decide +kernel
theorem dX0_giveNumber_15 : decode cX0_giveNumber 15 = .ok (.aload_n 0, 1) := by decide +kernel
theorem dX0_giveNumber_16 : decode cX0_giveNumber 16 = .ok (.getfield 53, 3) := by decide +kernel
theorem dX0_giveNumber_19 : decode cX0_giveNumber 19 = .ok (.invokevirtual 43, 3) := by decide +kernel
theorem dX0_giveNumber_22 : decode cX0_giveNumber 22 = .ok (.aload_n 0, 1) := by decide +kernel
theorem dX0_giveNumber_23 : decode cX0_giveNumber 23 = .ok (.getfield 29, 3) := by decide +kernel
theorem dX0_giveNumber_26 : decode cX0_giveNumber 26 = .ok (.iload_n 1, 1) := by decide +kernel
theorem dX0_giveNumber_27 : decode cX0_giveNumber 27 = .ok (.iload_n 2, 1) := by decide +kernel
theorem dX0_giveNumber_28 : decode cX0_giveNumber 28 = .ok (.invokevirtual 43, 3) := by decide +kernel
theorem dX0_giveNumber_31 : decode cX0_giveNumber 31 = .ok (.aload_n 0, 1) := by decide +kernel
theorem dX0_giveNumber_32 : decode cX0_giveNumber 32 = .ok (.getfield 53, 3) := by decide +kernel
theorem dX0_giveNumber_35 : decode cX0_giveNumber 35 = .ok (.ireturn, 1) := by decide +kernel
set_option maxRecDepth 20000 in
theorem ggX0_numberOf_X5_at : GoodIn wsX0_numberOf wsX5_at := goodIn_r _ [6, 7, 16] (by decide +kernel) (by decide +kernel)
set_option maxRecDepth 20000 in
theorem gX0_numberOf_X5_at : GoodIn wsX0_numberOf (wsV RX0 46 RX5 yX5_at wsX5_at) := goodIn_app (goodIn_of _ (by decide +kernel)) ggX0_numberOf_X5_at
theorem dX0_numberOf_0 : decode cX0_numberOf 0 = .ok (.aload_n 0, 1) := by decide +kernel
theorem dX0_numberOf_1 : decode cX0_numberOf 1 = .ok (.getfield 26, 3) := by decide +kernel
theorem dX0_numberOf_4 : decode cX0_numberOf 4 = .ok (.iload_n 1, 1) := by decide +kernel
theorem dX0_numberOf_5 : decode cX0_numberOf 5 = .ok (.invokevirtual 46, 3) := by decide +kernel
theorem dX0_numberOf_8 : decode cX0_numberOf 8 = .ok (.ireturn, 1) := by decide +kernel
set_option maxRecDepth 20000 in
theorem ggX0_withNumber_X5_at : GoodIn wsX0_withNumber wsX5_at := goodIn_r _ [7, 8, 17] (by decide +kernel) (by decide +kernel)
set_option maxRecDepth 20000 in
theorem gX0_withNumber_X5_at : GoodIn wsX0_withNumber (wsV RX0 46 RX5 yX5_at wsX5_at) := goodIn_app (goodIn_of _ (by decide +kernel)) ggX0_withNumber_X5_at
theorem dX0_withNumber_0 : decode cX0_withNumber 0 = .ok (.iconst 0, 1) := by decide +kernel
theorem dX0_withNumber_1 : decode cX0_withNumber 1 = .ok (.istore_n 2, 1) := by decide +kernel
theorem dX0_withNumber_2 : decode cX0_withNumber 2 = .ok (.iload_n 2, 1) := by decide +kernel
theorem dX0_withNumber_3 : decode cX0_withNumber 3 = .ok (.aload_n 0, 1) := by decide +kernel
theorem dX0_withNumber_4 : decode cX0_withNumber 4 = .ok (.getfield 35, 3) := by decide +kernel
theorem dX0_withNumber_7 : decode cX0_withNumber 7 = .ok (.if_icmp .ge 23, 3) := by decide +kernel
theorem dX0_withNumber_10 : decode cX0_withNumber 10 = .ok (.aload_n 0, 1) := by decide +kernel
theorem dX0_withNumber_11 : decode cX0_withNumber 11 = .ok (.getfield 26, 3) := by decide +kernel
theorem dX0_withNumber_14 : decode cX0_withNumber 14 = .ok (.iload_n 2, 1) := by decide +kernel
theorem dX0_withNumber_15 : decode cX0_withNumber 15 = .ok (.invokevirtual 46, 3) := by decide +kernel
theorem dX0_withNumber_18 : decode cX0_withNumber 18 = .ok (.iload_n 1, 1) := by decide +kernel
theorem dX0_withNumber_19 : decode cX0_withNumber 19 = .ok (.if_icmp .ne 5, 3) := by decide +kernel
theorem dX0_withNumber_22 : decode cX0_withNumber 22 = .ok (.iload_n 2, 1) := by decide +kernel
theorem dX0_withNumber_23 : decode cX0_withNumber 23 = .ok (.ireturn, 1) := by decide +kernel
theorem dX0_withNumber_24 : decode cX0_withNumber 24 = .ok (.iinc 2 1, 3) := by decide +kernel
theorem dX0_withNumber_27 : decode cX0_withNumber 27 = .ok (.goto (-25), 3) := by decide +kernel
theorem dX0_withNumber_30 : decode cX0_withNumber 30 = .ok (.iconst (-1), 1) := by decide +kernel
theorem dX0_withNumber_31 : decode cX0_withNumber 31 = .ok (.ireturn, 1) := by decide +kernel
set_option maxRecDepth 20000 in
theorem ggX0_properCourseOf_X5_at : GoodIn wsX0_properCourseOf wsX5_at := goodIn_r _ [6, 7, 16] (by decide +kernel) (by decide +kernel)
set_option maxRecDepth 20000 in
theorem gX0_properCourseOf_X5_at : GoodIn wsX0_properCourseOf (wsV RX0 46 RX5 yX5_at wsX5_at) := goodIn_app (goodIn_of _ (by decide +kernel)) ggX0_properCourseOf_X5_at
theorem dX0_properCourseOf_0 : decode cX0_properCourseOf 0 = .ok (.aload_n 0, 1) := by decide +kernel
theorem dX0_properCourseOf_1 : decode cX0_properCourseOf 1 = .ok (.getfield 29, 3) := by decide +kernel
theorem dX0_properCourseOf_4 : decode cX0_properCourseOf 4 = .ok (.iload_n 1, 1) := by decide +kernel
theorem dX0_properCourseOf_5 : decode cX0_properCourseOf 5 = .ok (.invokevirtual 46, 3) := by decide +kernel
theorem dX0_properCourseOf_8 : decode cX0_properCourseOf 8 = .ok (.ireturn, 1) := by decide +kernel
set_option maxRecDepth 20000 in
theorem ggX1_init_X5_init : GoodIn wsX1_init wsX5_init := goodIn_r _ [10, 11, 2, 3, 12, 13, 14] (by decide +kernel) (by decide +kernel)
set_option maxRecDepth 20000 in
theorem gX1_init_X5_init : GoodIn wsX1_init (wsX5_init) := ggX1_init_X5_init
theorem dX1_init_0 : decode cX1_init 0 = .ok (.aload_n 0, 1) := by decide +kernel
theorem dX1_init_1 : decode cX1_init 1 = .ok (.invokespecial 3, 3) := by decide +kernel
theorem dX1_init_4 : decode cX1_init 4 = .ok (.aload_n 0, 1) := by decide +kernel
theorem dX1_init_5 : decode cX1_init 5 = .ok (.new 9, 3) := by decide +kernel
theorem dX1_init_8 : decode cX1_init 8 = .ok (.dup, 1) := by decide +kernel
theorem dX1_init_9 : decode cX1_init 9 = .ok (.bipush 20, 2) := by decide +kernel
theorem dX1_init_11 : decode cX1_init 11 = .ok (.invokespecial 11, 3) := by decide +kernel
theorem dX1_init_14 : decode cX1_init 14 = .ok (.putfield 14, 3) := by decide +kernel
theorem dX1_init_17 : decode cX1_init 17 = .ok (.return_, 1) := by decide +kernel
set_option maxRecDepth 20000 in
theorem ggX1_lowestNumberWith_X5_at : GoodIn wsX1_lowestNumberWith wsX5_at := goodIn_r _ [6, 7, 9] (by decide +kernel) (by decide +kernel)
set_option maxRecDepth 20000 in
theorem gX1_lowestNumberWith_X5_at : GoodIn wsX1_lowestNumberWith (wsV RX1 20 RX5 yX5_at wsX5_at) := goodIn_app (goodIn_of _ (by decide +kernel)) ggX1_lowestNumberWith_X5_at
theorem dX1_lowestNumberWith_0 : decode cX1_lowestNumberWith 0 = .ok (.aload_n 0, 1) := by decide +kernel
theorem dX1_lowestNumberWith_1 : decode cX1_lowestNumberWith 1 = .ok (.getfield 14, 3) := by decide +kernel
theorem dX1_lowestNumberWith_4 : decode cX1_lowestNumberWith 4 = .ok (.iload_n 1, 1) := by decide +kernel
theorem dX1_lowestNumberWith_5 : decode cX1_lowestNumberWith 5 = .ok (.invokevirtual 20, 3) := by decide +kernel
theorem dX1_lowestNumberWith_8 : decode cX1_lowestNumberWith 8 = .ok (.ireturn, 1) := by decide +kernel
set_option maxRecDepth 20000 in
theorem ggX1_findFamilies_X0_numberOf : GoodIn wsX1_findFamilies wsX0_numberOf := goodIn_r _ [6, 7, 8, 9, 10, 11, 12, 13, 44, 45, 46, 47, 48, 49, 50, 51, 53] (by decide +kernel) (by decide +kernel)
set_option maxRecDepth 20000 in
theorem gX1_findFamilies_X0_numberOf : GoodIn wsX1_findFamilies (wsV RX1 30 RX0 yX0_numberOf wsX0_numberOf) := goodIn_app (goodIn_of _ (by decide +kernel)) ggX1_findFamilies_X0_numberOf
set_option maxRecDepth 20000 in
theorem ggX1_findFamilies_X5_put : GoodIn wsX1_findFamilies wsX5_put := goodIn_r _ [17, 13, 53] (by decide +kernel) (by decide +kernel)
set_option maxRecDepth 20000 in
theorem gX1_findFamilies_X5_put : GoodIn wsX1_findFamilies (wsV RX1 33 RX5 yX5_put wsX5_put) := goodIn_app (goodIn_of _ (by decide +kernel)) ggX1_findFamilies_X5_put
set_option maxRecDepth 20000 in
theorem ggX1_findFamilies_X1_spreadLowest : GoodIn wsX1_findFamilies wsX1_spreadLowest := goodIn_r _ [22, 1, 23, 24, 25, 26, 27, 28, 21, 29, 30, 31, 32, 2, 3, 4, 5, 6, 7, 8, 9, 10, 11, 12, 13, 33, 34, 35, 36, 37, 38, 39, 40, 41, 42, 43, 14, 15, 16, 17, 44, 45, 46, 47, 48, 49, 50, 51, 52, 53] (by decide +kernel) (by decide +kernel)
set_option maxRecDepth 20000 in
theorem gX1_findFamilies_X1_spreadLowest : GoodIn wsX1_findFamilies (wsV RX1 37 RX1 yX1_spreadLowest wsX1_spreadLowest) := goodIn_app (goodIn_of _ (by decide +kernel)) ggX1_findFamilies_X1_spreadLowest
theorem dX1_findFamilies_0 : decode cX1_findFamilies 0 = .ok (.iconst 0, 1) := by decide +kernel
theorem dX1_findFamilies_1 : decode cX1_findFamilies 1 = .ok (.istore_n 3, 1) := by decide +kernel
theorem dX1_findFamilies_2 : decode cX1_findFamilies 2 = .ok (.iload_n 3, 1) := by decide +kernel
theorem dX1_findFamilies_3 : decode cX1_findFamilies 3 = .ok (.aload_n 1, 1) := by decide +kernel
theorem dX1_findFamilies_4 : decode cX1_findFamilies 4 = .ok (.getfield 24, 3) := by decide +kernel
theorem dX1_findFamilies_7 : decode cX1_findFamilies 7 = .ok (.if_icmp .ge 22, 3) := by decide +kernel
theorem dX1_findFamilies_10 : decode cX1_findFamilies 10 = .ok (.aload_n 0, 1) := by decide +kernel
theorem dX1_findFamilies_11 : decode cX1_findFamilies 11 = .ok (.getfield 14, 3) := by decide +kernel
theorem dX1_findFamilies_14 : decode cX1_findFamilies 14 = .ok (.iload_n 3, 1) := by decide +kernel
theorem dX1_findFamilies_15 : decode cX1_findFamilies 15 = .ok (.aload_n 1, 1) := by decide +kernel
theorem dX1_findFamilies_16 : decode cX1_findFamilies 16 = .ok (.iload_n 3, 1) := by decide +kernel
theorem dX1_findFamilies_17 : decode cX1_findFamilies 17 = .ok (.invokevirtual 30, 3) := by decide +kernel
theorem dX1_findFamilies_20 : decode cX1_findFamilies 20 = .ok (.invokevirtual 33, 3) := by decide +kernel
theorem dX1_findFamilies_23 : decode cX1_findFamilies 23 = .ok (.iinc 3 1, 3) := by decide +kernel
theorem dX1_findFamilies_26 : decode cX1_findFamilies 26 = .ok (.goto (-24), 3) := by decide +kernel
theorem dX1_findFamilies_29 : decode cX1_findFamilies 29 = .ok (.iconst 0, 1) := by decide +kernel
theorem dX1_findFamilies_30 : decode cX1_findFamilies 30 = .ok (.istore_n 3, 1) := by decide +kernel
theorem dX1_findFamilies_31 : decode cX1_findFamilies 31 = .ok (.iload_n 3, 1) := by decide +kernel
theorem dX1_findFamilies_32 : decode cX1_findFamilies 32 = .ok (.aload_n 1, 1) := by decide +kernel
theorem dX1_findFamilies_33 : decode cX1_findFamilies 33 = .ok (.getfield 24, 3) := by decide +kernel
theorem dX1_findFamilies_36 : decode cX1_findFamilies 36 = .ok (.if_icmp .ge 15, 3) := by decide +kernel
theorem dX1_findFamilies_39 : decode cX1_findFamilies 39 = .ok (.aload_n 0, 1) := by decide +kernel
theorem dX1_findFamilies_40 : decode cX1_findFamilies 40 = .ok (.aload_n 1, 1) := by decide +kernel
theorem dX1_findFamilies_41 : decode cX1_findFamilies 41 = .ok (.iload_n 2, 1) := by decide +kernel
theorem dX1_findFamilies_42 : decode cX1_findFamilies 42 = .ok (.invokevirtual 37, 3) := by decide +kernel
theorem dX1_findFamilies_45 : decode cX1_findFamilies 45 = .ok (.iinc 3 1, 3) := by decide +kernel
theorem dX1_findFamilies_48 : decode cX1_findFamilies 48 = .ok (.goto (-17), 3) := by decide +kernel
theorem dX1_findFamilies_51 : decode cX1_findFamilies 51 = .ok (.return_, 1) := by decide +kernel
set_option maxRecDepth 20000 in
theorem ggX1_spreadLowest_X1_areAkin : GoodIn wsX1_spreadLowest wsX1_areAkin := goodIn_r _ [9, 10, 11, 4, 12, 13, 14, 15, 16, 17, 18, 19, 20, 21, 22, 23, 24, 25, 26, 27, 28, 29, 30, 31, 32, 33, 34, 40, 41, 42, 43, 44, 45, 46, 47, 49] (by decide +kernel) (by decide +kernel)
set_option maxRecDepth 20000 in
theorem gX1_spreadLowest_X1_areAkin : GoodIn wsX1_spreadLowest (va_wsS RX1 41 yX1_areAkin wsX1_areAkin) := goodIn_app (goodIn_of _ (by decide +kernel)) ggX1_spreadLowest_X1_areAkin
set_option maxRecDepth 20000 in
theorem ggX1_spreadLowest_X5_at : GoodIn wsX1_spreadLowest wsX5_at := goodIn_r _ [23, 24, 49] (by decide +kernel) (by decide +kernel)
set_option maxRecDepth 20000 in
theorem gX1_spreadLowest_X5_at : GoodIn wsX1_spreadLowest (wsV RX1 20 RX5 yX5_at wsX5_at) := goodIn_app (goodIn_of _ (by decide +kernel)) ggX1_spreadLowest_X5_at
set_option maxRecDepth 20000 in
theorem ggX1_spreadLowest_X5_put : GoodIn wsX1_spreadLowest wsX5_put := goodIn_r _ [39, 24, 49] (by decide +kernel) (by decide +kernel)
set_option maxRecDepth 20000 in
theorem gX1_spreadLowest_X5_put : GoodIn wsX1_spreadLowest (wsV RX1 33 RX5 yX5_put wsX5_put) := goodIn_app (goodIn_of _ (by decide +kernel)) ggX1_spreadLowest_X5_put
theorem dX1_spreadLowest_0 : decode cX1_spreadLowest 0 = .ok (.iconst 0, 1) := by decide +kernel
theorem dX1_spreadLowest_1 : decode cX1_spreadLowest 1 = .ok (.istore_n 3, 1) := by decide +kernel
theorem dX1_spreadLowest_2 : decode cX1_spreadLowest 2 = .ok (.iload_n 3, 1) := by decide +kernel
theorem dX1_spreadLowest_3 : decode cX1_spreadLowest 3 = .ok (.aload_n 1, 1) := by decide +kernel
theorem dX1_spreadLowest_4 : decode cX1_spreadLowest 4 = .ok (.getfield 24, 3) := by decide +kernel
theorem dX1_spreadLowest_7 : decode cX1_spreadLowest 7 = .ok (.if_icmp .ge 78, 3) := by decide +kernel
theorem dX1_spreadLowest_10 : decode cX1_spreadLowest 10 = .ok (.iconst 0, 1) := by decide +kernel
theorem dX1_spreadLowest_11 : decode cX1_spreadLowest 11 = .ok (.istore 4, 2) := by decide +kernel
theorem dX1_spreadLowest_13 : decode cX1_spreadLowest 13 = .ok (.iload 4, 2) := by decide +kernel
theorem dX1_spreadLowest_15 : decode cX1_spreadLowest 15 = .ok (.iload_n 3, 1) := by decide +kernel
theorem dX1_spreadLowest_16 : decode cX1_spreadLowest 16 = .ok (.if_icmp .ge 63, 3) := by decide +kernel
theorem dX1_spreadLowest_19 : decode cX1_spreadLowest 19 = .ok (.aload_n 1, 1) := by decide +kernel
theorem dX1_spreadLowest_20 : decode cX1_spreadLowest 20 = .ok (.iload_n 3, 1) := by decide +kernel
theorem dX1_spreadLowest_21 : decode cX1_spreadLowest 21 = .ok (.iload 4, 2) := by decide +kernel
theorem dX1_spreadLowest_23 : decode cX1_spreadLowest 23 = .ok (.iload_n 2, 1) := by decide +kernel
theorem dX1_spreadLowest_24 : decode cX1_spreadLowest 24 = .ok (.invokestatic 41, 3) := by decide +kernel
theorem dX1_spreadLowest_27 : decode cX1_spreadLowest 27 = .ok (.ifCond .eq 46, 3) := by decide +kernel
theorem dX1_spreadLowest_30 : decode cX1_spreadLowest 30 = .ok (.aload_n 0, 1) := by decide +kernel
theorem dX1_spreadLowest_31 : decode cX1_spreadLowest 31 = .ok (.getfield 14, 3) := by decide +kernel
theorem dX1_spreadLowest_34 : decode cX1_spreadLowest 34 = .ok (.iload_n 3, 1) := by decide +kernel
theorem dX1_spreadLowest_35 : decode cX1_spreadLowest 35 = .ok (.invokevirtual 20, 3) := by decide +kernel
theorem dX1_spreadLowest_38 : decode cX1_spreadLowest 38 = .ok (.aload_n 0, 1) := by decide +kernel
theorem dX1_spreadLowest_39 : decode cX1_spreadLowest 39 = .ok (.getfield 14, 3) := by decide +kernel
theorem dX1_spreadLowest_42 : decode cX1_spreadLowest 42 = .ok (.iload 4, 2) := by decide +kernel
theorem dX1_spreadLowest_44 : decode cX1_spreadLowest 44 = .ok (.invokevirtual 20, 3) := by decide +kernel
theorem dX1_spreadLowest_47 : decode cX1_spreadLowest 47 = .ok (.invokestatic 45, 3) := by decide +kernel
theorem dX1_spreadLowest_50 : decode cX1_spreadLowest 50 = .ok (.istore 5, 2) := by decide +kernel
theorem dX1_spreadLowest_52 : decode cX1_spreadLowest 52 = .ok (.aload_n 0, 1) := by decide +kernel
theorem dX1_spreadLowest_53 : decode cX1_spreadLowest 53 = .ok (.getfield 14, 3) := by decide +kernel
theorem dX1_spreadLowest_56 : decode cX1_spreadLowest 56 = .ok (.iload_n 3, 1) := by decide +kernel
theorem dX1_spreadLowest_57 : decode cX1_spreadLowest 57 = .ok (.iload 5, 2) := by decide +kernel
theorem dX1_spreadLowest_59 : decode cX1_spreadLowest 59 = .ok (.invokevirtual 33, 3) := by decide +kernel
theorem dX1_spreadLowest_62 : decode cX1_spreadLowest 62 = .ok (.aload_n 0, 1) := by decide +kernel
theorem dX1_spreadLowest_63 : decode cX1_spreadLowest 63 = .ok (.getfield 14, 3) := by decide +kernel
theorem dX1_spreadLowest_66 : decode cX1_spreadLowest 66 = .ok (.iload 4, 2) := by decide +kernel
theorem dX1_spreadLowest_68 : decode cX1_spreadLowest 68 = .ok (.iload 5, 2) := by decide +kernel
theorem dX1_spreadLowest_70 : decode cX1_spreadLowest 70 = .ok (.invokevirtual 33, 3) := by decide +kernel
theorem dX1_spreadLowest_73 : decode cX1_spreadLowest 73 = .ok (.iinc 4 1, 3) := by decide +kernel
theorem dX1_spreadLowest_76 : decode cX1_spreadLowest 76 = .ok (.goto (-63), 3) := by decide +kernel
theorem dX1_spreadLowest_79 : decode cX1_spreadLowest 79 = .ok (.iinc 3 1, 3) := by decide +kernel
theorem dX1_spreadLowest_82 : decode cX1_spreadLowest 82 = .ok (.goto (-80), 3) := by decide +kernel
theorem dX1_spreadLowest_85 : decode cX1_spreadLowest 85 = .ok (.return_, 1) := by decide +kernel
set_option maxRecDepth 20000 in
theorem ggX1_areAkin_X0_numberOf : GoodIn wsX1_areAkin wsX0_numberOf := goodIn_r _ [9, 10, 11, 12, 13, 14, 15, 16, 27, 28, 29, 30, 31, 32, 33, 34, 35] (by decide +kernel) (by decide +kernel)
set_option maxRecDepth 20000 in
theorem gX1_areAkin_X0_numberOf : GoodIn wsX1_areAkin (wsV RX1 30 RX0 yX0_numberOf wsX0_numberOf) := goodIn_app (goodIn_of _ (by decide +kernel)) ggX1_areAkin_X0_numberOf
set_option maxRecDepth 20000 in
theorem ggX1_areAkin_X0_properCourseOf : GoodIn wsX1_areAkin wsX0_properCourseOf := goodIn_r _ [20, 21, 11, 12, 13, 14, 15, 16, 27, 28, 29, 30, 31, 32, 33, 34, 35] (by decide +kernel) (by decide +kernel)
set_option maxRecDepth 20000 in
theorem gX1_areAkin_X0_properCourseOf : GoodIn wsX1_areAkin (wsV RX1 51 RX0 yX0_properCourseOf wsX0_properCourseOf) := goodIn_app (goodIn_of _ (by decide +kernel)) ggX1_areAkin_X0_properCourseOf
set_option maxRecDepth 20000 in
theorem ggX1_areAkin_X7_bOf : GoodIn wsX1_areAkin wsX7_bOf := goodIn_r _ [24] (by decide +kernel) (by decide +kernel)
set_option maxRecDepth 20000 in
theorem gX1_areAkin_X7_bOf_n54 : GoodIn wsX1_areAkin (wsX7_bOf) := ggX1_areAkin_X7_bOf
set_option maxRecDepth 20000 in
theorem ggX1_areAkin_X7_cOf : GoodIn wsX1_areAkin wsX7_cOf := goodIn_r _ [26] (by decide +kernel) (by decide +kernel)
set_option maxRecDepth 20000 in
theorem gX1_areAkin_X7_cOf_n60 : GoodIn wsX1_areAkin (wsX7_cOf) := ggX1_areAkin_X7_cOf
theorem dX1_areAkin_0 : decode cX1_areAkin 0 = .ok (.aload_n 0, 1) := by decide +kernel
theorem dX1_areAkin_1 : decode cX1_areAkin 1 = .ok (.iload_n 1, 1) := by decide +kernel
theorem dX1_areAkin_2 : decode cX1_areAkin 2 = .ok (.invokevirtual 30, 3) := by decide +kernel
theorem dX1_areAkin_5 : decode cX1_areAkin 5 = .ok (.iconst (-1), 1) := by decide +kernel
theorem dX1_areAkin_6 : decode cX1_areAkin 6 = .ok (.if_icmp .eq 12, 3) := by decide +kernel
theorem dX1_areAkin_9 : decode cX1_areAkin 9 = .ok (.aload_n 0, 1) := by decide +kernel
theorem dX1_areAkin_10 : decode cX1_areAkin 10 = .ok (.iload_n 2, 1) := by decide +kernel
theorem dX1_areAkin_11 : decode cX1_areAkin 11 = .ok (.invokevirtual 30, 3) := by decide +kernel
theorem dX1_areAkin_14 : decode cX1_areAkin 14 = .ok (.iconst (-1), 1) := by decide +kernel
theorem dX1_areAkin_15 : decode cX1_areAkin 15 = .ok (.if_icmp .ne 5, 3) := by decide +kernel
theorem dX1_areAkin_18 : decode cX1_areAkin 18 = .ok (.iconst 0, 1) := by decide +kernel
theorem dX1_areAkin_19 : decode cX1_areAkin 19 = .ok (.ireturn, 1) := by decide +kernel
theorem dX1_areAkin_20 : decode cX1_areAkin 20 = .ok (.aload_n 0, 1) := by decide +kernel
theorem dX1_areAkin_21 : decode cX1_areAkin 21 = .ok (.iload_n 1, 1) := by decide +kernel
theorem dX1_areAkin_22 : decode cX1_areAkin 22 = .ok (.invokevirtual 51, 3) := by decide +kernel
theorem dX1_areAkin_25 : decode cX1_areAkin 25 = .ok (.istore 4, 2) := by decide +kernel
theorem dX1_areAkin_27 : decode cX1_areAkin 27 = .ok (.aload_n 0, 1) := by decide +kernel
theorem dX1_areAkin_28 : decode cX1_areAkin 28 = .ok (.iload_n 2, 1) := by decide +kernel
theorem dX1_areAkin_29 : decode cX1_areAkin 29 = .ok (.invokevirtual 51, 3) := by decide +kernel
theorem dX1_areAkin_32 : decode cX1_areAkin 32 = .ok (.istore 5, 2) := by decide +kernel
theorem dX1_areAkin_34 : decode cX1_areAkin 34 = .ok (.iload 4, 2) := by decide +kernel
theorem dX1_areAkin_36 : decode cX1_areAkin 36 = .ok (.invokestatic 54, 3) := by decide +kernel
theorem dX1_areAkin_39 : decode cX1_areAkin 39 = .ok (.iload 5, 2) := by decide +kernel
theorem dX1_areAkin_41 : decode cX1_areAkin 41 = .ok (.invokestatic 54, 3) := by decide +kernel
theorem dX1_areAkin_44 : decode cX1_areAkin 44 = .ok (.isub, 1) := by decide +kernel
theorem dX1_areAkin_45 : decode cX1_areAkin 45 = .ok (.invokestatic 57, 3) := by decide +kernel
theorem dX1_areAkin_48 : decode cX1_areAkin 48 = .ok (.istore 6, 2) := by decide +kernel
theorem dX1_areAkin_50 : decode cX1_areAkin 50 = .ok (.iload 4, 2) := by decide +kernel
theorem dX1_areAkin_52 : decode cX1_areAkin 52 = .ok (.invokestatic 60, 3) := by decide +kernel
theorem dX1_areAkin_55 : decode cX1_areAkin 55 = .ok (.iload 5, 2) := by decide +kernel
theorem dX1_areAkin_57 : decode cX1_areAkin 57 = .ok (.invokestatic 60, 3) := by decide +kernel
theorem dX1_areAkin_60 : decode cX1_areAkin 60 = .ok (.isub, 1) := by decide +kernel
theorem dX1_areAkin_61 : decode cX1_areAkin 61 = .ok (.invokestatic 57, 3) := by decide +kernel
theorem dX1_areAkin_64 : decode cX1_areAkin 64 = .ok (.istore 7, 2) := by decide +kernel
theorem dX1_areAkin_66 : decode cX1_areAkin 66 = .ok (.iload 6, 2) := by decide +kernel
theorem dX1_areAkin_68 : decode cX1_areAkin 68 = .ok (.iconst 5, 1) := by decide +kernel
theorem dX1_areAkin_69 : decode cX1_areAkin 69 = .ok (.iload 7, 2) := by decide +kernel
theorem dX1_areAkin_71 : decode cX1_areAkin 71 = .ok (.imul, 1) := by decide +kernel
theorem dX1_areAkin_72 : decode cX1_areAkin 72 = .ok (.iadd, 1) := by decide +kernel
theorem dX1_areAkin_73 : decode cX1_areAkin 73 = .ok (.iload_n 3, 1) := by decide +kernel
theorem dX1_areAkin_74 : decode cX1_areAkin 74 = .ok (.if_icmp .gt 7, 3) := by decide +kernel
theorem dX1_areAkin_77 : decode cX1_areAkin 77 = .ok (.iconst 1, 1) := by decide +kernel
theorem dX1_areAkin_78 : decode cX1_areAkin 78 = .ok (.goto 4, 3) := by decide +kernel
theorem dX1_areAkin_81 : decode cX1_areAkin 81 = .ok (.iconst 0, 1) := by decide +kernel
theorem dX1_areAkin_82 : decode cX1_areAkin 82 = .ok (.ireturn, 1) := by decide +kernel
set_option maxRecDepth 20000 in
theorem ggX2_init_X5_init : GoodIn wsX2_init wsX5_init := goodIn_r _ [10, 11, 2, 3, 12, 13, 14] (by decide +kernel) (by decide +kernel)
set_option maxRecDepth 20000 in
theorem gX2_init_X5_init : GoodIn wsX2_init (wsX5_init) := ggX2_init_X5_init
theorem dX2_init_0 : decode cX2_init 0 = .ok (.aload_n 0, 1) := by decide +kernel
theorem dX2_init_1 : decode cX2_init 1 = .ok (.invokespecial 3, 3) := by decide +kernel
theorem dX2_init_4 : decode cX2_init 4 = .ok (.aload_n 0, 1) := by decide +kernel
theorem dX2_init_5 : decode cX2_init 5 = .ok (.new 9, 3) := by decide +kernel
theorem dX2_init_8 : decode cX2_init 8 = .ok (.dup, 1) := by decide +kernel
theorem dX2_init_9 : decode cX2_init 9 = .ok (.bipush 60, 2) := by decide +kernel
theorem dX2_init_11 : decode cX2_init 11 = .ok (.invokespecial 11, 3) := by decide +kernel
theorem dX2_init_14 : decode cX2_init 14 = .ok (.putfield 14, 3) := by decide +kernel
theorem dX2_init_17 : decode cX2_init 17 = .ok (.return_, 1) := by decide +kernel
set_option maxRecDepth 20000 in
theorem ggX2_add_X5_put : GoodIn wsX2_add wsX5_put := goodIn_r _ [7, 8, 11] (by decide +kernel) (by decide +kernel)
set_option maxRecDepth 20000 in
theorem gX2_add_X5_put : GoodIn wsX2_add (wsV RX2 24 RX5 yX5_put wsX5_put) := goodIn_app (goodIn_of _ (by decide +kernel)) ggX2_add_X5_put
theorem dX2_add_0 : decode cX2_add 0 = .ok (.aload_n 0, 1) := by decide +kernel
theorem dX2_add_1 : decode cX2_add 1 = .ok (.getfield 14, 3) := by decide +kernel
theorem dX2_add_4 : decode cX2_add 4 = .ok (.aload_n 0, 1) := by decide +kernel
theorem dX2_add_5 : decode cX2_add 5 = .ok (.getfield 20, 3) := by decide +kernel
theorem dX2_add_8 : decode cX2_add 8 = .ok (.iload_n 1, 1) := by decide +kernel
theorem dX2_add_9 : decode cX2_add 9 = .ok (.invokevirtual 24, 3) := by decide +kernel
theorem dX2_add_12 : decode cX2_add 12 = .ok (.aload_n 0, 1) := by decide +kernel
theorem dX2_add_13 : decode cX2_add 13 = .ok (.dup, 1) := by decide +kernel
theorem dX2_add_14 : decode cX2_add 14 = .ok (.getfield 20, 3) := by decide +kernel
theorem dX2_add_17 : decode cX2_add 17 = .ok (.iconst 1, 1) := by decide +kernel
theorem dX2_add_18 : decode cX2_add 18 = .ok (.iadd, 1) := by decide +kernel
theorem dX2_add_19 : decode cX2_add 19 = .ok (.putfield 20, 3) := by decide +kernel
theorem dX2_add_22 : decode cX2_add 22 = .ok (.return_, 1) := by decide +kernel
set_option maxRecDepth 20000 in
theorem ggX2_dotAt_X5_at : GoodIn wsX2_dotAt wsX5_at := goodIn_r _ [6, 7, 10] (by decide +kernel) (by decide +kernel)
set_option maxRecDepth 20000 in
theorem gX2_dotAt_X5_at : GoodIn wsX2_dotAt (wsV RX2 28 RX5 yX5_at wsX5_at) := goodIn_app (goodIn_of _ (by decide +kernel)) ggX2_dotAt_X5_at
theorem dX2_dotAt_0 : decode cX2_dotAt 0 = .ok (.aload_n 0, 1) := by decide +kernel
theorem dX2_dotAt_1 : decode cX2_dotAt 1 = .ok (.getfield 14, 3) := by decide +kernel
theorem dX2_dotAt_4 : decode cX2_dotAt 4 = .ok (.iload_n 1, 1) := by decide +kernel
theorem dX2_dotAt_5 : decode cX2_dotAt 5 = .ok (.invokevirtual 28, 3) := by decide +kernel
theorem dX2_dotAt_8 : decode cX2_dotAt 8 = .ok (.ireturn, 1) := by decide +kernel
set_option maxRecDepth 20000 in
theorem ggX3_init_X5_init : GoodIn wsX3_init wsX5_init := goodIn_r _ [12, 13, 2, 3, 14, 15, 16] (by decide +kernel) (by decide +kernel)
set_option maxRecDepth 20000 in
theorem gX3_init_X5_init : GoodIn wsX3_init (wsX5_init) := ggX3_init_X5_init
theorem dX3_init_0 : decode cX3_init 0 = .ok (.aload_n 0, 1) := by decide +kernel
theorem dX3_init_1 : decode cX3_init 1 = .ok (.invokespecial 3, 3) := by decide +kernel
theorem dX3_init_4 : decode cX3_init 4 = .ok (.aload_n 0, 1) := by decide +kernel
theorem dX3_init_5 : decode cX3_init 5 = .ok (.new 9, 3) := by decide +kernel
theorem dX3_init_8 : decode cX3_init 8 = .ok (.dup, 1) := by decide +kernel
theorem dX3_init_9 : decode cX3_init 9 = .ok (.sipush 405, 3) := by decide +kernel
theorem dX3_init_12 : decode cX3_init 12 = .ok (.invokespecial 11, 3) := by decide +kernel
theorem dX3_init_15 : decode cX3_init 15 = .ok (.putfield 14, 3) := by decide +kernel
theorem dX3_init_18 : decode cX3_init 18 = .ok (.aload_n 0, 1) := by decide +kernel
theorem dX3_init_19 : decode cX3_init 19 = .ok (.new 9, 3) := by decide +kernel
theorem dX3_init_22 : decode cX3_init 22 = .ok (.dup, 1) := by decide +kernel
theorem dX3_init_23 : decode cX3_init 23 = .ok (.sipush 405, 3) := by decide +kernel
theorem dX3_init_26 : decode cX3_init 26 = .ok (.invokespecial 11, 3) := by decide +kernel
theorem dX3_init_29 : decode cX3_init 29 = .ok (.putfield 20, 3) := by decide +kernel
theorem dX3_init_32 : decode cX3_init 32 = .ok (.aload_n 0, 1) := by decide +kernel
theorem dX3_init_33 : decode cX3_init 33 = .ok (.new 9, 3) := by decide +kernel
theorem dX3_init_36 : decode cX3_init 36 = .ok (.dup, 1) := by decide +kernel
theorem dX3_init_37 : decode cX3_init 37 = .ok (.sipush 3600, 3) := by decide +kernel
theorem dX3_init_40 : decode cX3_init 40 = .ok (.invokespecial 11, 3) := by decide +kernel
theorem dX3_init_43 : decode cX3_init 43 = .ok (.putfield 23, 3) := by decide +kernel
theorem dX3_init_46 : decode cX3_init 46 = .ok (.return_, 1) := by decide +kernel
set_option maxRecDepth 20000 in
theorem ggX3_takeAll_X5_fill : GoodIn wsX3_takeAll wsX5_fill := goodIn_r _ [7, 8, 12] (by decide +kernel) (by decide +kernel)
set_option maxRecDepth 20000 in
theorem gX3_takeAll_X5_fill : GoodIn wsX3_takeAll (wsV RX3 26 RX5 yX5_fill wsX5_fill) := goodIn_app (goodIn_of _ (by decide +kernel)) ggX3_takeAll_X5_fill
theorem dX3_takeAll_0 : decode cX3_takeAll 0 = .ok (.aload_n 0, 1) := by decide +kernel
theorem dX3_takeAll_1 : decode cX3_takeAll 1 = .ok (.getfield 14, 3) := by decide +kernel
theorem dX3_takeAll_4 : decode cX3_takeAll 4 = .ok (.iconst 0, 1) := by decide +kernel
theorem dX3_takeAll_5 : decode cX3_takeAll 5 = .ok (.invokevirtual 26, 3) := by decide +kernel
theorem dX3_takeAll_8 : decode cX3_takeAll 8 = .ok (.aload_n 0, 1) := by decide +kernel
theorem dX3_takeAll_9 : decode cX3_takeAll 9 = .ok (.getfield 20, 3) := by decide +kernel
theorem dX3_takeAll_12 : decode cX3_takeAll 12 = .ok (.sipush 3600, 3) := by decide +kernel
theorem dX3_takeAll_15 : decode cX3_takeAll 15 = .ok (.invokevirtual 26, 3) := by decide +kernel
theorem dX3_takeAll_18 : decode cX3_takeAll 18 = .ok (.return_, 1) := by decide +kernel
set_option maxRecDepth 20000 in
theorem ggX3_keepNear_X7_drift : GoodIn wsX3_keepNear wsX7_drift := goodIn_r _ [5, 6, 7, 4, 8, 9, 10, 11] (by decide +kernel) (by decide +kernel)
set_option maxRecDepth 20000 in
theorem gX3_keepNear_X7_drift_n29 : GoodIn wsX3_keepNear (wsX7_drift) := ggX3_keepNear_X7_drift
set_option maxRecDepth 20000 in
theorem ggX3_keepNear_J9_floorMod_7cf53 : GoodIn wsX3_keepNear wsJ9_floorMod_7cf53 := goodIn_r _ [15] (by decide +kernel) (by decide +kernel)
set_option maxRecDepth 20000 in
theorem gX3_keepNear_J9_floorMod_7cf53 : GoodIn wsX3_keepNear (va_wsS RX3 33 yJ9_floorMod_7cf53 wsJ9_floorMod_7cf53) := goodIn_app (goodIn_of _ (by decide +kernel)) ggX3_keepNear_J9_floorMod_7cf53
set_option maxRecDepth 20000 in
theorem ggX3_keepNear_X5_at : GoodIn wsX3_keepNear wsX5_at := goodIn_r _ [20, 21, 44] (by decide +kernel) (by decide +kernel)
set_option maxRecDepth 20000 in
theorem gX3_keepNear_X5_at : GoodIn wsX3_keepNear (wsV RX3 38 RX5 yX5_at wsX5_at) := goodIn_app (goodIn_of _ (by decide +kernel)) ggX3_keepNear_X5_at
set_option maxRecDepth 20000 in
theorem ggX3_keepNear_X3_behind : GoodIn wsX3_keepNear wsX3_behind := goodIn_r _ [26, 2, 16, 17, 18, 19, 20, 21, 12, 13, 14, 15, 41, 42, 43, 44] (by decide +kernel) (by decide +kernel)
set_option maxRecDepth 20000 in
theorem gX3_keepNear_X3_behind : GoodIn wsX3_keepNear (wsV RX3 42 RX3 yX3_behind wsX3_behind) := goodIn_app (goodIn_of _ (by decide +kernel)) ggX3_keepNear_X3_behind
set_option maxRecDepth 20000 in
theorem ggX3_keepNear_X3_sharedWidth : GoodIn wsX3_keepNear wsX3_sharedWidth := goodIn_r _ [29, 30, 31, 32, 33, 34, 35, 36] (by decide +kernel) (by decide +kernel)
set_option maxRecDepth 20000 in
theorem gX3_keepNear_X3_sharedWidth : GoodIn wsX3_keepNear (va_wsS RX3 45 yX3_sharedWidth wsX3_sharedWidth) := goodIn_app (goodIn_of _ (by decide +kernel)) ggX3_keepNear_X3_sharedWidth
set_option maxRecDepth 20000 in
theorem ggX3_keepNear_X5_put : GoodIn wsX3_keepNear wsX5_put := goodIn_r _ [40, 21, 44] (by decide +kernel) (by decide +kernel)
set_option maxRecDepth 20000 in
theorem gX3_keepNear_X5_put : GoodIn wsX3_keepNear (wsV RX3 49 RX5 yX5_put wsX5_put) := goodIn_app (goodIn_of _ (by decide +kernel)) ggX3_keepNear_X5_put
theorem dX3_keepNear_0 : decode cX3_keepNear 0 = .ok (.iconst 2, 1) := by decide +kernel
theorem dX3_keepNear_1 : decode cX3_keepNear 1 = .ok (.iload_n 3, 1) := by decide +kernel
theorem dX3_keepNear_2 : decode cX3_keepNear 2 = .ok (.imul, 1) := by decide +kernel
theorem dX3_keepNear_3 : decode cX3_keepNear 3 = .ok (.iconst 1, 1) := by decide +kernel
theorem dX3_keepNear_4 : decode cX3_keepNear 4 = .ok (.iadd, 1) := by decide +kernel
theorem dX3_keepNear_5 : decode cX3_keepNear 5 = .ok (.istore 4, 2) := by decide +kernel
theorem dX3_keepNear_7 : decode cX3_keepNear 7 = .ok (.iconst 0, 1) := by decide +kernel
theorem dX3_keepNear_8 : decode cX3_keepNear 8 = .ok (.istore 5, 2) := by decide +kernel
theorem dX3_keepNear_10 : decode cX3_keepNear 10 = .ok (.iload 5, 2) := by decide +kernel
theorem dX3_keepNear_12 : decode cX3_keepNear 12 = .ok (.sipush 405, 3) := by decide +kernel
theorem dX3_keepNear_15 : decode cX3_keepNear 15 = .ok (.if_icmp .ge 92, 3) := by decide +kernel
theorem dX3_keepNear_18 : decode cX3_keepNear 18 = .ok (.iload_n 2, 1) := by decide +kernel
theorem dX3_keepNear_19 : decode cX3_keepNear 19 = .ok (.iload_n 3, 1) := by decide +kernel
theorem dX3_keepNear_20 : decode cX3_keepNear 20 = .ok (.isub, 1) := by decide +kernel
theorem dX3_keepNear_21 : decode cX3_keepNear 21 = .ok (.iload 5, 2) := by decide +kernel
theorem dX3_keepNear_23 : decode cX3_keepNear 23 = .ok (.iload_n 1, 1) := by decide +kernel
theorem dX3_keepNear_24 : decode cX3_keepNear 24 = .ok (.invokestatic 29, 3) := by decide +kernel
theorem dX3_keepNear_27 : decode cX3_keepNear 27 = .ok (.isub, 1) := by decide +kernel
theorem dX3_keepNear_28 : decode cX3_keepNear 28 = .ok (.sipush 3600, 3) := by decide +kernel
theorem dX3_keepNear_31 : decode cX3_keepNear 31 = .ok (.invokestatic 33, 3) := by decide +kernel
theorem dX3_keepNear_34 : decode cX3_keepNear 34 = .ok (.istore 6, 2) := by decide +kernel
theorem dX3_keepNear_36 : decode cX3_keepNear 36 = .ok (.aload_n 0, 1) := by decide +kernel
theorem dX3_keepNear_37 : decode cX3_keepNear 37 = .ok (.getfield 20, 3) := by decide +kernel
theorem dX3_keepNear_40 : decode cX3_keepNear 40 = .ok (.iload 5, 2) := by decide +kernel
theorem dX3_keepNear_42 : decode cX3_keepNear 42 = .ok (.invokevirtual 38, 3) := by decide +kernel
theorem dX3_keepNear_45 : decode cX3_keepNear 45 = .ok (.istore 7, 2) := by decide +kernel
theorem dX3_keepNear_47 : decode cX3_keepNear 47 = .ok (.aload_n 0, 1) := by decide +kernel
theorem dX3_keepNear_48 : decode cX3_keepNear 48 = .ok (.iload 5, 2) := by decide +kernel
theorem dX3_keepNear_50 : decode cX3_keepNear 50 = .ok (.iload 6, 2) := by decide +kernel
theorem dX3_keepNear_52 : decode cX3_keepNear 52 = .ok (.invokevirtual 42, 3) := by decide +kernel
theorem dX3_keepNear_55 : decode cX3_keepNear 55 = .ok (.istore 8, 2) := by decide +kernel
theorem dX3_keepNear_57 : decode cX3_keepNear 57 = .ok (.aload_n 0, 1) := by decide +kernel
theorem dX3_keepNear_58 : decode cX3_keepNear 58 = .ok (.getfield 20, 3) := by decide +kernel
theorem dX3_keepNear_61 : decode cX3_keepNear 61 = .ok (.iload 5, 2) := by decide +kernel
theorem dX3_keepNear_63 : decode cX3_keepNear 63 = .ok (.iload 7, 2) := by decide +kernel
theorem dX3_keepNear_65 : decode cX3_keepNear 65 = .ok (.iload 8, 2) := by decide +kernel
theorem dX3_keepNear_67 : decode cX3_keepNear 67 = .ok (.iload 4, 2) := by decide +kernel
theorem dX3_keepNear_69 : decode cX3_keepNear 69 = .ok (.invokestatic 45, 3) := by decide +kernel
theorem dX3_keepNear_72 : decode cX3_keepNear 72 = .ok (.invokevirtual 49, 3) := by decide +kernel
theorem dX3_keepNear_75 : decode cX3_keepNear 75 = .ok (.iload 7, 2) := by decide +kernel
theorem dX3_keepNear_77 : decode cX3_keepNear 77 = .ok (.sipush 3600, 3) := by decide +kernel
theorem dX3_keepNear_80 : decode cX3_keepNear 80 = .ok (.if_icmp .eq 10, 3) := by decide +kernel
theorem dX3_keepNear_83 : decode cX3_keepNear 83 = .ok (.iload 8, 2) := by decide +kernel
theorem dX3_keepNear_85 : decode cX3_keepNear 85 = .ok (.iload 7, 2) := by decide +kernel
theorem dX3_keepNear_87 : decode cX3_keepNear 87 = .ok (.if_icmp .ge 14, 3) := by decide +kernel
theorem dX3_keepNear_90 : decode cX3_keepNear 90 = .ok (.aload_n 0, 1) := by decide +kernel
theorem dX3_keepNear_91 : decode cX3_keepNear 91 = .ok (.getfield 14, 3) := by decide +kernel
theorem dX3_keepNear_94 : decode cX3_keepNear 94 = .ok (.iload 5, 2) := by decide +kernel
theorem dX3_keepNear_96 : decode cX3_keepNear 96 = .ok (.iload 6, 2) := by decide +kernel
theorem dX3_keepNear_98 : decode cX3_keepNear 98 = .ok (.invokevirtual 49, 3) := by decide +kernel
theorem dX3_keepNear_101 : decode cX3_keepNear 101 = .ok (.iinc 5 1, 3) := by decide +kernel
theorem dX3_keepNear_104 : decode cX3_keepNear 104 = .ok (.goto (-94), 3) := by decide +kernel
theorem dX3_keepNear_107 : decode cX3_keepNear 107 = .ok (.return_, 1) := by decide +kernel
set_option maxRecDepth 20000 in
theorem ggX3_hasNear_X7_drift : GoodIn wsX3_hasNear wsX7_drift := goodIn_r _ [4, 5, 6, 3, 7, 8, 9, 10] (by decide +kernel) (by decide +kernel)
set_option maxRecDepth 20000 in
theorem gX3_hasNear_X7_drift_n29 : GoodIn wsX3_hasNear (wsX7_drift) := ggX3_hasNear_X7_drift
set_option maxRecDepth 20000 in
theorem ggX3_hasNear_J9_floorMod_7cf53 : GoodIn wsX3_hasNear wsJ9_floorMod_7cf53 := goodIn_r _ [14] (by decide +kernel) (by decide +kernel)
set_option maxRecDepth 20000 in
theorem gX3_hasNear_J9_floorMod_7cf53 : GoodIn wsX3_hasNear (va_wsS RX3 33 yJ9_floorMod_7cf53 wsJ9_floorMod_7cf53) := goodIn_app (goodIn_of _ (by decide +kernel)) ggX3_hasNear_J9_floorMod_7cf53
set_option maxRecDepth 20000 in
theorem ggX3_hasNear_X5_at : GoodIn wsX3_hasNear wsX5_at := goodIn_r _ [19, 20, 40] (by decide +kernel) (by decide +kernel)
set_option maxRecDepth 20000 in
theorem gX3_hasNear_X5_at : GoodIn wsX3_hasNear (wsV RX3 38 RX5 yX5_at wsX5_at) := goodIn_app (goodIn_of _ (by decide +kernel)) ggX3_hasNear_X5_at
set_option maxRecDepth 20000 in
theorem ggX3_hasNear_X3_behind : GoodIn wsX3_hasNear wsX3_behind := goodIn_r _ [25, 26, 15, 16, 17, 18, 19, 20, 11, 12, 13, 14, 37, 38, 39, 40] (by decide +kernel) (by decide +kernel)
set_option maxRecDepth 20000 in
theorem gX3_hasNear_X3_behind : GoodIn wsX3_hasNear (wsV RX3 42 RX3 yX3_behind wsX3_behind) := goodIn_app (goodIn_of _ (by decide +kernel)) ggX3_hasNear_X3_behind
set_option maxRecDepth 20000 in
theorem ggX3_hasNear_X3_sharedWidth : GoodIn wsX3_hasNear wsX3_sharedWidth := goodIn_r _ [29, 30, 31, 32, 33, 34, 35, 36] (by decide +kernel) (by decide +kernel)
set_option maxRecDepth 20000 in
theorem gX3_hasNear_X3_sharedWidth : GoodIn wsX3_hasNear (va_wsS RX3 45 yX3_sharedWidth wsX3_sharedWidth) := goodIn_app (goodIn_of _ (by decide +kernel)) ggX3_hasNear_X3_sharedWidth
theorem dX3_hasNear_0 : decode cX3_hasNear 0 = .ok (.iconst 2, 1) := by decide +kernel
theorem dX3_hasNear_1 : decode cX3_hasNear 1 = .ok (.iload_n 3, 1) := by decide +kernel
theorem dX3_hasNear_2 : decode cX3_hasNear 2 = .ok (.imul, 1) := by decide +kernel
theorem dX3_hasNear_3 : decode cX3_hasNear 3 = .ok (.iconst 1, 1) := by decide +kernel
theorem dX3_hasNear_4 : decode cX3_hasNear 4 = .ok (.iadd, 1) := by decide +kernel
theorem dX3_hasNear_5 : decode cX3_hasNear 5 = .ok (.istore 4, 2) := by decide +kernel
theorem dX3_hasNear_7 : decode cX3_hasNear 7 = .ok (.iconst 0, 1) := by decide +kernel
theorem dX3_hasNear_8 : decode cX3_hasNear 8 = .ok (.istore 5, 2) := by decide +kernel
theorem dX3_hasNear_10 : decode cX3_hasNear 10 = .ok (.iload 5, 2) := by decide +kernel
theorem dX3_hasNear_12 : decode cX3_hasNear 12 = .ok (.sipush 405, 3) := by decide +kernel
theorem dX3_hasNear_15 : decode cX3_hasNear 15 = .ok (.if_icmp .ge 54, 3) := by decide +kernel
theorem dX3_hasNear_18 : decode cX3_hasNear 18 = .ok (.iload_n 2, 1) := by decide +kernel
theorem dX3_hasNear_19 : decode cX3_hasNear 19 = .ok (.iload_n 3, 1) := by decide +kernel
theorem dX3_hasNear_20 : decode cX3_hasNear 20 = .ok (.isub, 1) := by decide +kernel
theorem dX3_hasNear_21 : decode cX3_hasNear 21 = .ok (.iload 5, 2) := by decide +kernel
theorem dX3_hasNear_23 : decode cX3_hasNear 23 = .ok (.iload_n 1, 1) := by decide +kernel
theorem dX3_hasNear_24 : decode cX3_hasNear 24 = .ok (.invokestatic 29, 3) := by decide +kernel
theorem dX3_hasNear_27 : decode cX3_hasNear 27 = .ok (.isub, 1) := by decide +kernel
theorem dX3_hasNear_28 : decode cX3_hasNear 28 = .ok (.sipush 3600, 3) := by decide +kernel
theorem dX3_hasNear_31 : decode cX3_hasNear 31 = .ok (.invokestatic 33, 3) := by decide +kernel
theorem dX3_hasNear_34 : decode cX3_hasNear 34 = .ok (.istore 6, 2) := by decide +kernel
theorem dX3_hasNear_36 : decode cX3_hasNear 36 = .ok (.aload_n 0, 1) := by decide +kernel
theorem dX3_hasNear_37 : decode cX3_hasNear 37 = .ok (.getfield 20, 3) := by decide +kernel
theorem dX3_hasNear_40 : decode cX3_hasNear 40 = .ok (.iload 5, 2) := by decide +kernel
theorem dX3_hasNear_42 : decode cX3_hasNear 42 = .ok (.invokevirtual 38, 3) := by decide +kernel
theorem dX3_hasNear_45 : decode cX3_hasNear 45 = .ok (.aload_n 0, 1) := by decide +kernel
theorem dX3_hasNear_46 : decode cX3_hasNear 46 = .ok (.iload 5, 2) := by decide +kernel
theorem dX3_hasNear_48 : decode cX3_hasNear 48 = .ok (.iload 6, 2) := by decide +kernel
theorem dX3_hasNear_50 : decode cX3_hasNear 50 = .ok (.invokevirtual 42, 3) := by decide +kernel
theorem dX3_hasNear_53 : decode cX3_hasNear 53 = .ok (.iload 4, 2) := by decide +kernel
theorem dX3_hasNear_55 : decode cX3_hasNear 55 = .ok (.invokestatic 45, 3) := by decide +kernel
theorem dX3_hasNear_58 : decode cX3_hasNear 58 = .ok (.ifCond .le 5, 3) := by decide +kernel
theorem dX3_hasNear_61 : decode cX3_hasNear 61 = .ok (.iconst 1, 1) := by decide +kernel
theorem dX3_hasNear_62 : decode cX3_hasNear 62 = .ok (.ireturn, 1) := by decide +kernel
theorem dX3_hasNear_63 : decode cX3_hasNear 63 = .ok (.iinc 5 1, 3) := by decide +kernel
theorem dX3_hasNear_66 : decode cX3_hasNear 66 = .ok (.goto (-56), 3) := by decide +kernel
theorem dX3_hasNear_69 : decode cX3_hasNear 69 = .ok (.iconst 0, 1) := by decide +kernel
theorem dX3_hasNear_70 : decode cX3_hasNear 70 = .ok (.ireturn, 1) := by decide +kernel
set_option maxRecDepth 20000 in
theorem ggX3_behind_X5_at : GoodIn wsX3_behind wsX5_at := goodIn_r _ [6, 7, 15] (by decide +kernel) (by decide +kernel)
set_option maxRecDepth 20000 in
theorem gX3_behind_X5_at : GoodIn wsX3_behind (wsV RX3 38 RX5 yX5_at wsX5_at) := goodIn_app (goodIn_of _ (by decide +kernel)) ggX3_behind_X5_at
set_option maxRecDepth 20000 in
theorem ggX3_behind_J9_floorMod_7cf53 : GoodIn wsX3_behind wsJ9_floorMod_7cf53 := goodIn_r _ [11] (by decide +kernel) (by decide +kernel)
set_option maxRecDepth 20000 in
theorem gX3_behind_J9_floorMod_7cf53 : GoodIn wsX3_behind (va_wsS RX3 33 yJ9_floorMod_7cf53 wsJ9_floorMod_7cf53) := goodIn_app (goodIn_of _ (by decide +kernel)) ggX3_behind_J9_floorMod_7cf53
theorem dX3_behind_0 : decode cX3_behind 0 = .ok (.iload_n 2, 1) := by decide +kernel
theorem dX3_behind_1 : decode cX3_behind 1 = .ok (.aload_n 0, 1) := by decide +kernel
theorem dX3_behind_2 : decode cX3_behind 2 = .ok (.getfield 14, 3) := by decide +kernel
theorem dX3_behind_5 : decode cX3_behind 5 = .ok (.iload_n 1, 1) := by decide +kernel
theorem dX3_behind_6 : decode cX3_behind 6 = .ok (.invokevirtual 38, 3) := by decide +kernel
theorem dX3_behind_9 : decode cX3_behind 9 = .ok (.isub, 1) := by decide +kernel
theorem dX3_behind_10 : decode cX3_behind 10 = .ok (.sipush 3600, 3) := by decide +kernel
theorem dX3_behind_13 : decode cX3_behind 13 = .ok (.invokestatic 33, 3) := by decide +kernel
theorem dX3_behind_16 : decode cX3_behind 16 = .ok (.ireturn, 1) := by decide +kernel
theorem dX3_sharedWidth_0 : decode cX3_sharedWidth 0 = .ok (.iload_n 0, 1) := by decide +kernel
theorem dX3_sharedWidth_1 : decode cX3_sharedWidth 1 = .ok (.sipush 3600, 3) := by decide +kernel
theorem dX3_sharedWidth_4 : decode cX3_sharedWidth 4 = .ok (.if_icmp .ne 5, 3) := by decide +kernel
theorem dX3_sharedWidth_7 : decode cX3_sharedWidth 7 = .ok (.iload_n 2, 1) := by decide +kernel
theorem dX3_sharedWidth_8 : decode cX3_sharedWidth 8 = .ok (.ireturn, 1) := by decide +kernel
theorem dX3_sharedWidth_9 : decode cX3_sharedWidth 9 = .ok (.iload_n 1, 1) := by decide +kernel
theorem dX3_sharedWidth_10 : decode cX3_sharedWidth 10 = .ok (.iload_n 0, 1) := by decide +kernel
theorem dX3_sharedWidth_11 : decode cX3_sharedWidth 11 = .ok (.if_icmp .ge 11, 3) := by decide +kernel
theorem dX3_sharedWidth_14 : decode cX3_sharedWidth 14 = .ok (.iload_n 0, 1) := by decide +kernel
theorem dX3_sharedWidth_15 : decode cX3_sharedWidth 15 = .ok (.iload_n 1, 1) := by decide +kernel
theorem dX3_sharedWidth_16 : decode cX3_sharedWidth 16 = .ok (.isub, 1) := by decide +kernel
theorem dX3_sharedWidth_17 : decode cX3_sharedWidth 17 = .ok (.iload_n 2, 1) := by decide +kernel
theorem dX3_sharedWidth_18 : decode cX3_sharedWidth 18 = .ok (.invokestatic 53, 3) := by decide +kernel
theorem dX3_sharedWidth_21 : decode cX3_sharedWidth 21 = .ok (.ireturn, 1) := by decide +kernel
theorem dX3_sharedWidth_22 : decode cX3_sharedWidth 22 = .ok (.sipush 3600, 3) := by decide +kernel
theorem dX3_sharedWidth_25 : decode cX3_sharedWidth 25 = .ok (.iload_n 1, 1) := by decide +kernel
theorem dX3_sharedWidth_26 : decode cX3_sharedWidth 26 = .ok (.isub, 1) := by decide +kernel
theorem dX3_sharedWidth_27 : decode cX3_sharedWidth 27 = .ok (.istore_n 3, 1) := by decide +kernel
theorem dX3_sharedWidth_28 : decode cX3_sharedWidth 28 = .ok (.iconst 0, 1) := by decide +kernel
theorem dX3_sharedWidth_29 : decode cX3_sharedWidth 29 = .ok (.iload_n 0, 1) := by decide +kernel
theorem dX3_sharedWidth_30 : decode cX3_sharedWidth 30 = .ok (.iload_n 2, 1) := by decide +kernel
theorem dX3_sharedWidth_31 : decode cX3_sharedWidth 31 = .ok (.iload_n 3, 1) := by decide +kernel
theorem dX3_sharedWidth_32 : decode cX3_sharedWidth 32 = .ok (.isub, 1) := by decide +kernel
theorem dX3_sharedWidth_33 : decode cX3_sharedWidth 33 = .ok (.invokestatic 53, 3) := by decide +kernel
theorem dX3_sharedWidth_36 : decode cX3_sharedWidth 36 = .ok (.invokestatic 56, 3) := by decide +kernel
theorem dX3_sharedWidth_39 : decode cX3_sharedWidth 39 = .ok (.ireturn, 1) := by decide +kernel
set_option maxRecDepth 20000 in
theorem ggX3_startOf_X5_at : GoodIn wsX3_startOf wsX5_at := goodIn_r _ [6, 7, 11] (by decide +kernel) (by decide +kernel)
set_option maxRecDepth 20000 in
theorem gX3_startOf_X5_at : GoodIn wsX3_startOf (wsV RX3 38 RX5 yX5_at wsX5_at) := goodIn_app (goodIn_of _ (by decide +kernel)) ggX3_startOf_X5_at
theorem dX3_startOf_0 : decode cX3_startOf 0 = .ok (.aload_n 0, 1) := by decide +kernel
theorem dX3_startOf_1 : decode cX3_startOf 1 = .ok (.getfield 14, 3) := by decide +kernel
theorem dX3_startOf_4 : decode cX3_startOf 4 = .ok (.iload_n 1, 1) := by decide +kernel
theorem dX3_startOf_5 : decode cX3_startOf 5 = .ok (.invokevirtual 38, 3) := by decide +kernel
theorem dX3_startOf_8 : decode cX3_startOf 8 = .ok (.ireturn, 1) := by decide +kernel
set_option maxRecDepth 20000 in
theorem ggX3_widthOf_X5_at : GoodIn wsX3_widthOf wsX5_at := goodIn_r _ [6, 7, 11] (by decide +kernel) (by decide +kernel)
set_option maxRecDepth 20000 in
theorem gX3_widthOf_X5_at : GoodIn wsX3_widthOf (wsV RX3 38 RX5 yX5_at wsX5_at) := goodIn_app (goodIn_of _ (by decide +kernel)) ggX3_widthOf_X5_at
theorem dX3_widthOf_0 : decode cX3_widthOf 0 = .ok (.aload_n 0, 1) := by decide +kernel
theorem dX3_widthOf_1 : decode cX3_widthOf 1 = .ok (.getfield 20, 3) := by decide +kernel
theorem dX3_widthOf_4 : decode cX3_widthOf 4 = .ok (.iload_n 1, 1) := by decide +kernel
theorem dX3_widthOf_5 : decode cX3_widthOf 5 = .ok (.invokevirtual 38, 3) := by decide +kernel
theorem dX3_widthOf_8 : decode cX3_widthOf 8 = .ok (.ireturn, 1) := by decide +kernel
set_option maxRecDepth 20000 in
theorem ggX3_countOrbits_X5_at : GoodIn wsX3_countOrbits wsX5_at := goodIn_r _ [6, 7, 11] (by decide +kernel) (by decide +kernel)
set_option maxRecDepth 20000 in
theorem gX3_countOrbits_X5_at : GoodIn wsX3_countOrbits (wsV RX3 38 RX5 yX5_at wsX5_at) := goodIn_app (goodIn_of _ (by decide +kernel)) ggX3_countOrbits_X5_at
theorem dX3_countOrbits_0 : decode cX3_countOrbits 0 = .ok (.iconst 0, 1) := by decide +kernel
theorem dX3_countOrbits_1 : decode cX3_countOrbits 1 = .ok (.istore_n 1, 1) := by decide +kernel
theorem dX3_countOrbits_2 : decode cX3_countOrbits 2 = .ok (.iconst 0, 1) := by decide +kernel
theorem dX3_countOrbits_3 : decode cX3_countOrbits 3 = .ok (.istore_n 2, 1) := by decide +kernel
theorem dX3_countOrbits_4 : decode cX3_countOrbits 4 = .ok (.iload_n 2, 1) := by decide +kernel
theorem dX3_countOrbits_5 : decode cX3_countOrbits 5 = .ok (.sipush 405, 3) := by decide +kernel
theorem dX3_countOrbits_8 : decode cX3_countOrbits 8 = .ok (.if_icmp .ge 20, 3) := by decide +kernel
theorem dX3_countOrbits_11 : decode cX3_countOrbits 11 = .ok (.iload_n 1, 1) := by decide +kernel
theorem dX3_countOrbits_12 : decode cX3_countOrbits 12 = .ok (.aload_n 0, 1) := by decide +kernel
theorem dX3_countOrbits_13 : decode cX3_countOrbits 13 = .ok (.getfield 20, 3) := by decide +kernel
theorem dX3_countOrbits_16 : decode cX3_countOrbits 16 = .ok (.iload_n 2, 1) := by decide +kernel
theorem dX3_countOrbits_17 : decode cX3_countOrbits 17 = .ok (.invokevirtual 38, 3) := by decide +kernel
theorem dX3_countOrbits_20 : decode cX3_countOrbits 20 = .ok (.iadd, 1) := by decide +kernel
theorem dX3_countOrbits_21 : decode cX3_countOrbits 21 = .ok (.istore_n 1, 1) := by decide +kernel
theorem dX3_countOrbits_22 : decode cX3_countOrbits 22 = .ok (.iinc 2 1, 3) := by decide +kernel
theorem dX3_countOrbits_25 : decode cX3_countOrbits 25 = .ok (.goto (-21), 3) := by decide +kernel
theorem dX3_countOrbits_28 : decode cX3_countOrbits 28 = .ok (.iload_n 1, 1) := by decide +kernel
theorem dX3_countOrbits_29 : decode cX3_countOrbits 29 = .ok (.ireturn, 1) := by decide +kernel
set_option maxRecDepth 20000 in
theorem ggX3_orbitAt_X3_tallyPlaces : GoodIn wsX3_orbitAt wsX3_tallyPlaces := goodIn_r _ [6, 1, 7, 8, 9, 10, 11, 12, 13, 14, 15, 16, 17, 18, 19, 20, 21, 22, 23, 24, 25, 26, 27, 28, 29, 30, 31, 32, 33, 34, 35, 44, 45, 46, 47] (by decide +kernel) (by decide +kernel)
set_option maxRecDepth 20000 in
theorem gX3_orbitAt_X3_tallyPlaces : GoodIn wsX3_orbitAt (wsV RX3 59 RX3 yX3_tallyPlaces wsX3_tallyPlaces) := goodIn_app (goodIn_of _ (by decide +kernel)) ggX3_orbitAt_X3_tallyPlaces
set_option maxRecDepth 20000 in
theorem ggX3_orbitAt_X5_at : GoodIn wsX3_orbitAt wsX5_at := goodIn_r _ [18, 14, 47] (by decide +kernel) (by decide +kernel)
set_option maxRecDepth 20000 in
theorem gX3_orbitAt_X5_at : GoodIn wsX3_orbitAt (wsV RX3 38 RX5 yX5_at wsX5_at) := goodIn_app (goodIn_of _ (by decide +kernel)) ggX3_orbitAt_X5_at
set_option maxRecDepth 20000 in
theorem ggX3_orbitAt_X3_courseWith : GoodIn wsX3_orbitAt wsX3_courseWith := goodIn_r _ [39, 8, 40, 41, 42, 5, 43, 7, 15, 16, 17, 12, 18, 14, 28, 29, 30, 31, 44, 45, 46, 47] (by decide +kernel) (by decide +kernel)
set_option maxRecDepth 20000 in
theorem gX3_orbitAt_X3_courseWith : GoodIn wsX3_orbitAt (wsV RX3 62 RX3 yX3_courseWith wsX3_courseWith) := goodIn_app (goodIn_of _ (by decide +kernel)) ggX3_orbitAt_X3_courseWith
theorem dX3_orbitAt_0 : decode cX3_orbitAt 0 = .ok (.aload_n 0, 1) := by decide +kernel
theorem dX3_orbitAt_1 : decode cX3_orbitAt 1 = .ok (.iconst 0, 1) := by decide +kernel
theorem dX3_orbitAt_2 : decode cX3_orbitAt 2 = .ok (.invokevirtual 59, 3) := by decide +kernel
theorem dX3_orbitAt_5 : decode cX3_orbitAt 5 = .ok (.iload_n 1, 1) := by decide +kernel
theorem dX3_orbitAt_6 : decode cX3_orbitAt 6 = .ok (.istore_n 2, 1) := by decide +kernel
theorem dX3_orbitAt_7 : decode cX3_orbitAt 7 = .ok (.iconst 0, 1) := by decide +kernel
theorem dX3_orbitAt_8 : decode cX3_orbitAt 8 = .ok (.istore_n 3, 1) := by decide +kernel
theorem dX3_orbitAt_9 : decode cX3_orbitAt 9 = .ok (.iload_n 3, 1) := by decide +kernel
theorem dX3_orbitAt_10 : decode cX3_orbitAt 10 = .ok (.sipush 3600, 3) := by decide +kernel
theorem dX3_orbitAt_13 : decode cX3_orbitAt 13 = .ok (.if_icmp .ge 45, 3) := by decide +kernel
theorem dX3_orbitAt_16 : decode cX3_orbitAt 16 = .ok (.iload_n 2, 1) := by decide +kernel
theorem dX3_orbitAt_17 : decode cX3_orbitAt 17 = .ok (.aload_n 0, 1) := by decide +kernel
theorem dX3_orbitAt_18 : decode cX3_orbitAt 18 = .ok (.getfield 23, 3) := by decide +kernel
theorem dX3_orbitAt_21 : decode cX3_orbitAt 21 = .ok (.iload_n 3, 1) := by decide +kernel
theorem dX3_orbitAt_22 : decode cX3_orbitAt 22 = .ok (.invokevirtual 38, 3) := by decide +kernel
theorem dX3_orbitAt_25 : decode cX3_orbitAt 25 = .ok (.if_icmp .ge 16, 3) := by decide +kernel
theorem dX3_orbitAt_28 : decode cX3_orbitAt 28 = .ok (.iload_n 3, 1) := by decide +kernel
theorem dX3_orbitAt_29 : decode cX3_orbitAt 29 = .ok (.sipush 405, 3) := by decide +kernel
theorem dX3_orbitAt_32 : decode cX3_orbitAt 32 = .ok (.imul, 1) := by decide +kernel
theorem dX3_orbitAt_33 : decode cX3_orbitAt 33 = .ok (.aload_n 0, 1) := by decide +kernel
theorem dX3_orbitAt_34 : decode cX3_orbitAt 34 = .ok (.iload_n 3, 1) := by decide +kernel
theorem dX3_orbitAt_35 : decode cX3_orbitAt 35 = .ok (.iload_n 2, 1) := by decide +kernel
theorem dX3_orbitAt_36 : decode cX3_orbitAt 36 = .ok (.invokevirtual 62, 3) := by decide +kernel
theorem dX3_orbitAt_39 : decode cX3_orbitAt 39 = .ok (.iadd, 1) := by decide +kernel
theorem dX3_orbitAt_40 : decode cX3_orbitAt 40 = .ok (.ireturn, 1) := by decide +kernel
theorem dX3_orbitAt_41 : decode cX3_orbitAt 41 = .ok (.iload_n 2, 1) := by decide +kernel
theorem dX3_orbitAt_42 : decode cX3_orbitAt 42 = .ok (.aload_n 0, 1) := by decide +kernel
theorem dX3_orbitAt_43 : decode cX3_orbitAt 43 = .ok (.getfield 23, 3) := by decide +kernel
theorem dX3_orbitAt_46 : decode cX3_orbitAt 46 = .ok (.iload_n 3, 1) := by decide +kernel
theorem dX3_orbitAt_47 : decode cX3_orbitAt 47 = .ok (.invokevirtual 38, 3) := by decide +kernel
theorem dX3_orbitAt_50 : decode cX3_orbitAt 50 = .ok (.isub, 1) := by decide +kernel
theorem dX3_orbitAt_51 : decode cX3_orbitAt 51 = .ok (.istore_n 2, 1) := by decide +kernel
theorem dX3_orbitAt_52 : decode cX3_orbitAt 52 = .ok (.iinc 3 1, 3) := by decide +kernel
theorem dX3_orbitAt_55 : decode cX3_orbitAt 55 = .ok (.goto (-46), 3) := by decide +kernel
theorem dX3_orbitAt_58 : decode cX3_orbitAt 58 = .ok (.iconst 0, 1) := by decide +kernel
theorem dX3_orbitAt_59 : decode cX3_orbitAt 59 = .ok (.ireturn, 1) := by decide +kernel
set_option maxRecDepth 20000 in
theorem ggX3_courseWith_X3_behind : GoodIn wsX3_courseWith wsX3_behind := goodIn_r _ [6, 7, 8, 9, 10, 11, 12, 13, 14, 15, 16, 17, 18, 19, 20, 21] (by decide +kernel) (by decide +kernel)
set_option maxRecDepth 20000 in
theorem gX3_courseWith_X3_behind : GoodIn wsX3_courseWith (wsV RX3 42 RX3 yX3_behind wsX3_behind) := goodIn_app (goodIn_of _ (by decide +kernel)) ggX3_courseWith_X3_behind
set_option maxRecDepth 20000 in
theorem ggX3_courseWith_X5_at : GoodIn wsX3_courseWith wsX5_at := goodIn_r _ [12, 13, 21] (by decide +kernel) (by decide +kernel)
set_option maxRecDepth 20000 in
theorem gX3_courseWith_X5_at : GoodIn wsX3_courseWith (wsV RX3 38 RX5 yX5_at wsX5_at) := goodIn_app (goodIn_of _ (by decide +kernel)) ggX3_courseWith_X5_at
theorem dX3_courseWith_0 : decode cX3_courseWith 0 = .ok (.iload_n 2, 1) := by decide +kernel
theorem dX3_courseWith_1 : decode cX3_courseWith 1 = .ok (.istore_n 3, 1) := by decide +kernel
theorem dX3_courseWith_2 : decode cX3_courseWith 2 = .ok (.iconst 0, 1) := by decide +kernel
theorem dX3_courseWith_3 : decode cX3_courseWith 3 = .ok (.istore 4, 2) := by decide +kernel
theorem dX3_courseWith_5 : decode cX3_courseWith 5 = .ok (.iload 4, 2) := by decide +kernel
theorem dX3_courseWith_7 : decode cX3_courseWith 7 = .ok (.sipush 405, 3) := by decide +kernel
theorem dX3_courseWith_10 : decode cX3_courseWith 10 = .ok (.if_icmp .ge 38, 3) := by decide +kernel
theorem dX3_courseWith_13 : decode cX3_courseWith 13 = .ok (.aload_n 0, 1) := by decide +kernel
theorem dX3_courseWith_14 : decode cX3_courseWith 14 = .ok (.iload 4, 2) := by decide +kernel
theorem dX3_courseWith_16 : decode cX3_courseWith 16 = .ok (.iload_n 1, 1) := by decide +kernel
theorem dX3_courseWith_17 : decode cX3_courseWith 17 = .ok (.invokevirtual 42, 3) := by decide +kernel
theorem dX3_courseWith_20 : decode cX3_courseWith 20 = .ok (.aload_n 0, 1) := by decide +kernel
theorem dX3_courseWith_21 : decode cX3_courseWith 21 = .ok (.getfield 20, 3) := by decide +kernel
theorem dX3_courseWith_24 : decode cX3_courseWith 24 = .ok (.iload 4, 2) := by decide +kernel
theorem dX3_courseWith_26 : decode cX3_courseWith 26 = .ok (.invokevirtual 38, 3) := by decide +kernel
theorem dX3_courseWith_29 : decode cX3_courseWith 29 = .ok (.if_icmp .ge 13, 3) := by decide +kernel
theorem dX3_courseWith_32 : decode cX3_courseWith 32 = .ok (.iload_n 3, 1) := by decide +kernel
theorem dX3_courseWith_33 : decode cX3_courseWith 33 = .ok (.ifCond .ne 6, 3) := by decide +kernel
theorem dX3_courseWith_36 : decode cX3_courseWith 36 = .ok (.iload 4, 2) := by decide +kernel
theorem dX3_courseWith_38 : decode cX3_courseWith 38 = .ok (.ireturn, 1) := by decide +kernel
theorem dX3_courseWith_39 : decode cX3_courseWith 39 = .ok (.iinc 3 (-1), 3) := by decide +kernel
theorem dX3_courseWith_42 : decode cX3_courseWith 42 = .ok (.iinc 4 1, 3) := by decide +kernel
theorem dX3_courseWith_45 : decode cX3_courseWith 45 = .ok (.goto (-40), 3) := by decide +kernel
theorem dX3_courseWith_48 : decode cX3_courseWith 48 = .ok (.iconst 0, 1) := by decide +kernel
theorem dX3_courseWith_49 : decode cX3_courseWith 49 = .ok (.ireturn, 1) := by decide +kernel
set_option maxRecDepth 20000 in
theorem ggX3_countPlaces_X3_tallyPlaces : GoodIn wsX3_countPlaces wsX3_tallyPlaces := goodIn_r _ [6, 1, 7, 8, 9, 10, 11, 12, 13, 14, 15, 16, 17, 18, 19, 20, 21, 22, 23, 24, 25, 26, 27, 28, 29, 30, 31, 32, 33, 34, 35, 36, 37, 38, 39] (by decide +kernel) (by decide +kernel)
set_option maxRecDepth 20000 in
theorem gX3_countPlaces_X3_tallyPlaces : GoodIn wsX3_countPlaces (wsV RX3 59 RX3 yX3_tallyPlaces wsX3_tallyPlaces) := goodIn_app (goodIn_of _ (by decide +kernel)) ggX3_countPlaces_X3_tallyPlaces
set_option maxRecDepth 20000 in
theorem ggX3_countPlaces_X5_at : GoodIn wsX3_countPlaces wsX5_at := goodIn_r _ [18, 14, 39] (by decide +kernel) (by decide +kernel)
set_option maxRecDepth 20000 in
theorem gX3_countPlaces_X5_at : GoodIn wsX3_countPlaces (wsV RX3 38 RX5 yX5_at wsX5_at) := goodIn_app (goodIn_of _ (by decide +kernel)) ggX3_countPlaces_X5_at
theorem dX3_countPlaces_0 : decode cX3_countPlaces 0 = .ok (.aload_n 0, 1) := by decide +kernel
theorem dX3_countPlaces_1 : decode cX3_countPlaces 1 = .ok (.iload_n 1, 1) := by decide +kernel
theorem dX3_countPlaces_2 : decode cX3_countPlaces 2 = .ok (.invokevirtual 59, 3) := by decide +kernel
theorem dX3_countPlaces_5 : decode cX3_countPlaces 5 = .ok (.iconst 0, 1) := by decide +kernel
theorem dX3_countPlaces_6 : decode cX3_countPlaces 6 = .ok (.istore_n 2, 1) := by decide +kernel
theorem dX3_countPlaces_7 : decode cX3_countPlaces 7 = .ok (.iconst 0, 1) := by decide +kernel
theorem dX3_countPlaces_8 : decode cX3_countPlaces 8 = .ok (.istore_n 3, 1) := by decide +kernel
theorem dX3_countPlaces_9 : decode cX3_countPlaces 9 = .ok (.iload_n 3, 1) := by decide +kernel
theorem dX3_countPlaces_10 : decode cX3_countPlaces 10 = .ok (.sipush 3600, 3) := by decide +kernel
theorem dX3_countPlaces_13 : decode cX3_countPlaces 13 = .ok (.if_icmp .ge 23, 3) := by decide +kernel
theorem dX3_countPlaces_16 : decode cX3_countPlaces 16 = .ok (.aload_n 0, 1) := by decide +kernel
theorem dX3_countPlaces_17 : decode cX3_countPlaces 17 = .ok (.getfield 23, 3) := by decide +kernel
theorem dX3_countPlaces_20 : decode cX3_countPlaces 20 = .ok (.iload_n 3, 1) := by decide +kernel
theorem dX3_countPlaces_21 : decode cX3_countPlaces 21 = .ok (.invokevirtual 38, 3) := by decide +kernel
theorem dX3_countPlaces_24 : decode cX3_countPlaces 24 = .ok (.ifCond .le 6, 3) := by decide +kernel
theorem dX3_countPlaces_27 : decode cX3_countPlaces 27 = .ok (.iinc 2 1, 3) := by decide +kernel
theorem dX3_countPlaces_30 : decode cX3_countPlaces 30 = .ok (.iinc 3 1, 3) := by decide +kernel
theorem dX3_countPlaces_33 : decode cX3_countPlaces 33 = .ok (.goto (-24), 3) := by decide +kernel
theorem dX3_countPlaces_36 : decode cX3_countPlaces 36 = .ok (.iload_n 2, 1) := by decide +kernel
theorem dX3_countPlaces_37 : decode cX3_countPlaces 37 = .ok (.ireturn, 1) := by decide +kernel
set_option maxRecDepth 20000 in
theorem ggX3_placeAt_X3_tallyPlaces : GoodIn wsX3_placeAt wsX3_tallyPlaces := goodIn_r _ [6, 1, 7, 8, 9, 10, 11, 12, 13, 14, 15, 16, 17, 18, 19, 20, 21, 22, 23, 24, 25, 26, 27, 28, 29, 30, 31, 32, 33, 34, 35, 36, 37, 38, 39] (by decide +kernel) (by decide +kernel)
set_option maxRecDepth 20000 in
theorem gX3_placeAt_X3_tallyPlaces : GoodIn wsX3_placeAt (wsV RX3 59 RX3 yX3_tallyPlaces wsX3_tallyPlaces) := goodIn_app (goodIn_of _ (by decide +kernel)) ggX3_placeAt_X3_tallyPlaces
set_option maxRecDepth 20000 in
theorem ggX3_placeAt_X5_at : GoodIn wsX3_placeAt wsX5_at := goodIn_r _ [18, 14, 39] (by decide +kernel) (by decide +kernel)
set_option maxRecDepth 20000 in
theorem gX3_placeAt_X5_at : GoodIn wsX3_placeAt (wsV RX3 38 RX5 yX5_at wsX5_at) := goodIn_app (goodIn_of _ (by decide +kernel)) ggX3_placeAt_X5_at
theorem dX3_placeAt_0 : decode cX3_placeAt 0 = .ok (.aload_n 0, 1) := by decide +kernel
theorem dX3_placeAt_1 : decode cX3_placeAt 1 = .ok (.iload_n 1, 1) := by decide +kernel
theorem dX3_placeAt_2 : decode cX3_placeAt 2 = .ok (.invokevirtual 59, 3) := by decide +kernel
theorem dX3_placeAt_5 : decode cX3_placeAt 5 = .ok (.iload_n 2, 1) := by decide +kernel
theorem dX3_placeAt_6 : decode cX3_placeAt 6 = .ok (.istore_n 3, 1) := by decide +kernel
theorem dX3_placeAt_7 : decode cX3_placeAt 7 = .ok (.iconst 0, 1) := by decide +kernel
theorem dX3_placeAt_8 : decode cX3_placeAt 8 = .ok (.istore 4, 2) := by decide +kernel
theorem dX3_placeAt_10 : decode cX3_placeAt 10 = .ok (.iload 4, 2) := by decide +kernel
theorem dX3_placeAt_12 : decode cX3_placeAt 12 = .ok (.sipush 3600, 3) := by decide +kernel
theorem dX3_placeAt_15 : decode cX3_placeAt 15 = .ok (.if_icmp .ge 31, 3) := by decide +kernel
theorem dX3_placeAt_18 : decode cX3_placeAt 18 = .ok (.aload_n 0, 1) := by decide +kernel
theorem dX3_placeAt_19 : decode cX3_placeAt 19 = .ok (.getfield 23, 3) := by decide +kernel
theorem dX3_placeAt_22 : decode cX3_placeAt 22 = .ok (.iload 4, 2) := by decide +kernel
theorem dX3_placeAt_24 : decode cX3_placeAt 24 = .ok (.invokevirtual 38, 3) := by decide +kernel
theorem dX3_placeAt_27 : decode cX3_placeAt 27 = .ok (.ifCond .le 13, 3) := by decide +kernel
theorem dX3_placeAt_30 : decode cX3_placeAt 30 = .ok (.iload_n 3, 1) := by decide +kernel
theorem dX3_placeAt_31 : decode cX3_placeAt 31 = .ok (.ifCond .ne 6, 3) := by decide +kernel
theorem dX3_placeAt_34 : decode cX3_placeAt 34 = .ok (.iload 4, 2) := by decide +kernel
theorem dX3_placeAt_36 : decode cX3_placeAt 36 = .ok (.ireturn, 1) := by decide +kernel
theorem dX3_placeAt_37 : decode cX3_placeAt 37 = .ok (.iinc 3 (-1), 3) := by decide +kernel
theorem dX3_placeAt_40 : decode cX3_placeAt 40 = .ok (.iinc 4 1, 3) := by decide +kernel
theorem dX3_placeAt_43 : decode cX3_placeAt 43 = .ok (.goto (-33), 3) := by decide +kernel
theorem dX3_placeAt_46 : decode cX3_placeAt 46 = .ok (.iconst (-1), 1) := by decide +kernel
theorem dX3_placeAt_47 : decode cX3_placeAt 47 = .ok (.ireturn, 1) := by decide +kernel
set_option maxRecDepth 20000 in
theorem ggX3_tallyPlaces_X5_fill : GoodIn wsX3_tallyPlaces wsX5_fill := goodIn_r _ [8, 9, 34] (by decide +kernel) (by decide +kernel)
set_option maxRecDepth 20000 in
theorem gX3_tallyPlaces_X5_fill : GoodIn wsX3_tallyPlaces (wsV RX3 26 RX5 yX5_fill wsX5_fill) := goodIn_app (goodIn_of _ (by decide +kernel)) ggX3_tallyPlaces_X5_fill
set_option maxRecDepth 20000 in
theorem ggX3_tallyPlaces_X5_at : GoodIn wsX3_tallyPlaces wsX5_at := goodIn_r _ [13, 9, 34] (by decide +kernel) (by decide +kernel)
set_option maxRecDepth 20000 in
theorem gX3_tallyPlaces_X5_at : GoodIn wsX3_tallyPlaces (wsV RX3 38 RX5 yX5_at wsX5_at) := goodIn_app (goodIn_of _ (by decide +kernel)) ggX3_tallyPlaces_X5_at
set_option maxRecDepth 20000 in
theorem ggX3_tallyPlaces_X7_drift : GoodIn wsX3_tallyPlaces wsX7_drift := goodIn_r _ [16, 17, 18, 15, 19, 20, 21, 22] (by decide +kernel) (by decide +kernel)
set_option maxRecDepth 20000 in
theorem gX3_tallyPlaces_X7_drift_n29 : GoodIn wsX3_tallyPlaces (wsX7_drift) := ggX3_tallyPlaces_X7_drift
set_option maxRecDepth 20000 in
theorem ggX3_tallyPlaces_J9_floorMod_7cf53 : GoodIn wsX3_tallyPlaces wsJ9_floorMod_7cf53 := goodIn_r _ [26] (by decide +kernel) (by decide +kernel)
set_option maxRecDepth 20000 in
theorem gX3_tallyPlaces_J9_floorMod_7cf53 : GoodIn wsX3_tallyPlaces (va_wsS RX3 33 yJ9_floorMod_7cf53 wsJ9_floorMod_7cf53) := goodIn_app (goodIn_of _ (by decide +kernel)) ggX3_tallyPlaces_J9_floorMod_7cf53
set_option maxRecDepth 20000 in
theorem ggX3_tallyPlaces_X5_put : GoodIn wsX3_tallyPlaces wsX5_put := goodIn_r _ [30, 9, 34] (by decide +kernel) (by decide +kernel)
set_option maxRecDepth 20000 in
theorem gX3_tallyPlaces_X5_put : GoodIn wsX3_tallyPlaces (wsV RX3 49 RX5 yX5_put wsX5_put) := goodIn_app (goodIn_of _ (by decide +kernel)) ggX3_tallyPlaces_X5_put
theorem dX3_tallyPlaces_0 : decode cX3_tallyPlaces 0 = .ok (.aload_n 0, 1) := by decide +kernel
theorem dX3_tallyPlaces_1 : decode cX3_tallyPlaces 1 = .ok (.getfield 23, 3) := by decide +kernel
theorem dX3_tallyPlaces_4 : decode cX3_tallyPlaces 4 = .ok (.iconst 0, 1) := by decide +kernel
theorem dX3_tallyPlaces_5 : decode cX3_tallyPlaces 5 = .ok (.invokevirtual 26, 3) := by decide +kernel
theorem dX3_tallyPlaces_8 : decode cX3_tallyPlaces 8 = .ok (.iconst 0, 1) := by decide +kernel
theorem dX3_tallyPlaces_9 : decode cX3_tallyPlaces 9 = .ok (.istore_n 2, 1) := by decide +kernel
theorem dX3_tallyPlaces_10 : decode cX3_tallyPlaces 10 = .ok (.iload_n 2, 1) := by decide +kernel
theorem dX3_tallyPlaces_11 : decode cX3_tallyPlaces 11 = .ok (.sipush 405, 3) := by decide +kernel
theorem dX3_tallyPlaces_14 : decode cX3_tallyPlaces 14 = .ok (.if_icmp .ge 78, 3) := by decide +kernel
theorem dX3_tallyPlaces_17 : decode cX3_tallyPlaces 17 = .ok (.aload_n 0, 1) := by decide +kernel
theorem dX3_tallyPlaces_18 : decode cX3_tallyPlaces 18 = .ok (.getfield 14, 3) := by decide +kernel
theorem dX3_tallyPlaces_21 : decode cX3_tallyPlaces 21 = .ok (.iload_n 2, 1) := by decide +kernel
theorem dX3_tallyPlaces_22 : decode cX3_tallyPlaces 22 = .ok (.invokevirtual 38, 3) := by decide +kernel
theorem dX3_tallyPlaces_25 : decode cX3_tallyPlaces 25 = .ok (.iload_n 2, 1) := by decide +kernel
theorem dX3_tallyPlaces_26 : decode cX3_tallyPlaces 26 = .ok (.iload_n 1, 1) := by decide +kernel
theorem dX3_tallyPlaces_27 : decode cX3_tallyPlaces 27 = .ok (.invokestatic 29, 3) := by decide +kernel
theorem dX3_tallyPlaces_30 : decode cX3_tallyPlaces 30 = .ok (.iadd, 1) := by decide +kernel
theorem dX3_tallyPlaces_31 : decode cX3_tallyPlaces 31 = .ok (.istore_n 3, 1) := by decide +kernel
theorem dX3_tallyPlaces_32 : decode cX3_tallyPlaces 32 = .ok (.iconst 0, 1) := by decide +kernel
theorem dX3_tallyPlaces_33 : decode cX3_tallyPlaces 33 = .ok (.istore 4, 2) := by decide +kernel
theorem dX3_tallyPlaces_35 : decode cX3_tallyPlaces 35 = .ok (.iload 4, 2) := by decide +kernel
theorem dX3_tallyPlaces_37 : decode cX3_tallyPlaces 37 = .ok (.aload_n 0, 1) := by decide +kernel
theorem dX3_tallyPlaces_38 : decode cX3_tallyPlaces 38 = .ok (.getfield 20, 3) := by decide +kernel
theorem dX3_tallyPlaces_41 : decode cX3_tallyPlaces 41 = .ok (.iload_n 2, 1) := by decide +kernel
theorem dX3_tallyPlaces_42 : decode cX3_tallyPlaces 42 = .ok (.invokevirtual 38, 3) := by decide +kernel
theorem dX3_tallyPlaces_45 : decode cX3_tallyPlaces 45 = .ok (.if_icmp .ge 41, 3) := by decide +kernel
theorem dX3_tallyPlaces_48 : decode cX3_tallyPlaces 48 = .ok (.iload_n 3, 1) := by decide +kernel
theorem dX3_tallyPlaces_49 : decode cX3_tallyPlaces 49 = .ok (.iload 4, 2) := by decide +kernel
theorem dX3_tallyPlaces_51 : decode cX3_tallyPlaces 51 = .ok (.iadd, 1) := by decide +kernel
theorem dX3_tallyPlaces_52 : decode cX3_tallyPlaces 52 = .ok (.sipush 3600, 3) := by decide +kernel
theorem dX3_tallyPlaces_55 : decode cX3_tallyPlaces 55 = .ok (.invokestatic 33, 3) := by decide +kernel
theorem dX3_tallyPlaces_58 : decode cX3_tallyPlaces 58 = .ok (.istore 5, 2) := by decide +kernel
theorem dX3_tallyPlaces_60 : decode cX3_tallyPlaces 60 = .ok (.aload_n 0, 1) := by decide +kernel
theorem dX3_tallyPlaces_61 : decode cX3_tallyPlaces 61 = .ok (.getfield 23, 3) := by decide +kernel
theorem dX3_tallyPlaces_64 : decode cX3_tallyPlaces 64 = .ok (.iload 5, 2) := by decide +kernel
theorem dX3_tallyPlaces_66 : decode cX3_tallyPlaces 66 = .ok (.aload_n 0, 1) := by decide +kernel
theorem dX3_tallyPlaces_67 : decode cX3_tallyPlaces 67 = .ok (.getfield 23, 3) := by decide +kernel
theorem dX3_tallyPlaces_70 : decode cX3_tallyPlaces 70 = .ok (.iload 5, 2) := by decide +kernel
theorem dX3_tallyPlaces_72 : decode cX3_tallyPlaces 72 = .ok (.invokevirtual 38, 3) := by decide +kernel
theorem dX3_tallyPlaces_75 : decode cX3_tallyPlaces 75 = .ok (.iconst 1, 1) := by decide +kernel
theorem dX3_tallyPlaces_76 : decode cX3_tallyPlaces 76 = .ok (.iadd, 1) := by decide +kernel
theorem dX3_tallyPlaces_77 : decode cX3_tallyPlaces 77 = .ok (.invokevirtual 49, 3) := by decide +kernel
theorem dX3_tallyPlaces_80 : decode cX3_tallyPlaces 80 = .ok (.iinc 4 1, 3) := by decide +kernel
theorem dX3_tallyPlaces_83 : decode cX3_tallyPlaces 83 = .ok (.goto (-48), 3) := by decide +kernel
theorem dX3_tallyPlaces_86 : decode cX3_tallyPlaces 86 = .ok (.iinc 2 1, 3) := by decide +kernel
theorem dX3_tallyPlaces_89 : decode cX3_tallyPlaces 89 = .ok (.goto (-79), 3) := by decide +kernel
theorem dX3_tallyPlaces_92 : decode cX3_tallyPlaces 92 = .ok (.return_, 1) := by decide +kernel
set_option maxRecDepth 20000 in
theorem ggX4_init_X5_init : GoodIn wsX4_init wsX5_init := goodIn_r _ [12, 13, 2, 3, 14, 15, 16] (by decide +kernel) (by decide +kernel)
set_option maxRecDepth 20000 in
theorem gX4_init_X5_init : GoodIn wsX4_init (wsX5_init) := ggX4_init_X5_init
theorem dX4_init_0 : decode cX4_init 0 = .ok (.aload_n 0, 1) := by decide +kernel
theorem dX4_init_1 : decode cX4_init 1 = .ok (.invokespecial 3, 3) := by decide +kernel
theorem dX4_init_4 : decode cX4_init 4 = .ok (.aload_n 0, 1) := by decide +kernel
theorem dX4_init_5 : decode cX4_init 5 = .ok (.new 9, 3) := by decide +kernel
theorem dX4_init_8 : decode cX4_init 8 = .ok (.dup, 1) := by decide +kernel
theorem dX4_init_9 : decode cX4_init 9 = .ok (.sipush 3600, 3) := by decide +kernel
theorem dX4_init_12 : decode cX4_init 12 = .ok (.invokespecial 11, 3) := by decide +kernel
theorem dX4_init_15 : decode cX4_init 15 = .ok (.putfield 14, 3) := by decide +kernel
theorem dX4_init_18 : decode cX4_init 18 = .ok (.aload_n 0, 1) := by decide +kernel
theorem dX4_init_19 : decode cX4_init 19 = .ok (.new 9, 3) := by decide +kernel
theorem dX4_init_22 : decode cX4_init 22 = .ok (.dup, 1) := by decide +kernel
theorem dX4_init_23 : decode cX4_init 23 = .ok (.sipush 405, 3) := by decide +kernel
theorem dX4_init_26 : decode cX4_init 26 = .ok (.invokespecial 11, 3) := by decide +kernel
theorem dX4_init_29 : decode cX4_init 29 = .ok (.putfield 20, 3) := by decide +kernel
theorem dX4_init_32 : decode cX4_init 32 = .ok (.aload_n 0, 1) := by decide +kernel
theorem dX4_init_33 : decode cX4_init 33 = .ok (.new 9, 3) := by decide +kernel
theorem dX4_init_36 : decode cX4_init 36 = .ok (.dup, 1) := by decide +kernel
theorem dX4_init_37 : decode cX4_init 37 = .ok (.sipush 3600, 3) := by decide +kernel
theorem dX4_init_40 : decode cX4_init 40 = .ok (.invokespecial 11, 3) := by decide +kernel
theorem dX4_init_43 : decode cX4_init 43 = .ok (.putfield 23, 3) := by decide +kernel
theorem dX4_init_46 : decode cX4_init 46 = .ok (.return_, 1) := by decide +kernel
set_option maxRecDepth 20000 in
theorem ggX4_countPaths_X5_fill : GoodIn wsX4_countPaths wsX5_fill := goodIn_r _ [10, 11, 67] (by decide +kernel) (by decide +kernel)
set_option maxRecDepth 20000 in
theorem gX4_countPaths_X5_fill : GoodIn wsX4_countPaths (wsV RX4 33 RX5 yX5_fill wsX5_fill) := goodIn_app (goodIn_of _ (by decide +kernel)) ggX4_countPaths_X5_fill
set_option maxRecDepth 20000 in
theorem ggX4_countPaths_X4_makeGroups : GoodIn wsX4_countPaths wsX4_makeGroups := goodIn_r _ [16, 4, 5, 6, 7, 8, 9, 10, 11, 17, 18, 15, 19, 20, 21, 22, 23, 24, 25, 26, 27, 28, 29, 30, 31, 32, 33, 34, 35, 36, 37, 38, 39, 40, 62, 63, 64, 65, 66, 67] (by decide +kernel) (by decide +kernel)
set_option maxRecDepth 20000 in
theorem gX4_countPaths_X4_makeGroups : GoodIn wsX4_countPaths (wsV RX4 36 RX4 yX4_makeGroups wsX4_makeGroups) := goodIn_app (goodIn_of _ (by decide +kernel)) ggX4_countPaths_X4_makeGroups
set_option maxRecDepth 20000 in
theorem ggX4_countPaths_X5_at : GoodIn wsX4_countPaths wsX5_at := goodIn_r _ [36, 11, 67] (by decide +kernel) (by decide +kernel)
set_option maxRecDepth 20000 in
theorem gX4_countPaths_X5_at : GoodIn wsX4_countPaths (wsV RX4 40 RX5 yX5_at wsX5_at) := goodIn_app (goodIn_of _ (by decide +kernel)) ggX4_countPaths_X5_at
set_option maxRecDepth 20000 in
theorem ggX4_countPaths_X3_widthOf : GoodIn wsX4_countPaths wsX3_widthOf := goodIn_r _ [45, 46, 47, 34, 35, 9, 36, 11, 68, 69, 70, 67] (by decide +kernel) (by decide +kernel)
set_option maxRecDepth 20000 in
theorem gX4_countPaths_X3_widthOf : GoodIn wsX4_countPaths (wsV RX4 44 RX3 yX3_widthOf wsX3_widthOf) := goodIn_app (goodIn_of _ (by decide +kernel)) ggX4_countPaths_X3_widthOf
set_option maxRecDepth 20000 in
theorem ggX4_countPaths_X4_countCourse : GoodIn wsX4_countPaths wsX4_countCourse := goodIn_r _ [51, 3, 1, 2, 52, 53, 54, 44, 55, 56, 47, 34, 35, 9, 36, 11, 57, 58, 15, 59, 20, 21, 22, 23, 24, 25, 26, 27, 28, 29, 30, 31, 32, 60, 61, 41, 42, 43, 45, 46, 33, 37, 38, 39, 40, 62, 63, 64, 65, 66, 68, 69, 70, 67] (by decide +kernel) (by decide +kernel)
set_option maxRecDepth 20000 in
theorem gX4_countPaths_X4_countCourse : GoodIn wsX4_countPaths (wsV RX4 49 RX4 yX4_countCourse wsX4_countCourse) := goodIn_app (goodIn_of _ (by decide +kernel)) ggX4_countPaths_X4_countCourse
theorem dX4_countPaths_0 : decode cX4_countPaths 0 = .ok (.aload_n 0, 1) := by decide +kernel
theorem dX4_countPaths_1 : decode cX4_countPaths 1 = .ok (.iconst 0, 1) := by decide +kernel
theorem dX4_countPaths_2 : decode cX4_countPaths 2 = .ok (.putfield 26, 3) := by decide +kernel
theorem dX4_countPaths_5 : decode cX4_countPaths 5 = .ok (.aload_n 0, 1) := by decide +kernel
theorem dX4_countPaths_6 : decode cX4_countPaths 6 = .ok (.iconst 0, 1) := by decide +kernel
theorem dX4_countPaths_7 : decode cX4_countPaths 7 = .ok (.putfield 30, 3) := by decide +kernel
theorem dX4_countPaths_10 : decode cX4_countPaths 10 = .ok (.aload_n 0, 1) := by decide +kernel
theorem dX4_countPaths_11 : decode cX4_countPaths 11 = .ok (.getfield 23, 3) := by decide +kernel
theorem dX4_countPaths_14 : decode cX4_countPaths 14 = .ok (.iconst (-1), 1) := by decide +kernel
theorem dX4_countPaths_15 : decode cX4_countPaths 15 = .ok (.invokevirtual 33, 3) := by decide +kernel
theorem dX4_countPaths_18 : decode cX4_countPaths 18 = .ok (.aload_n 0, 1) := by decide +kernel
theorem dX4_countPaths_19 : decode cX4_countPaths 19 = .ok (.iload_n 2, 1) := by decide +kernel
theorem dX4_countPaths_20 : decode cX4_countPaths 20 = .ok (.iload_n 3, 1) := by decide +kernel
theorem dX4_countPaths_21 : decode cX4_countPaths 21 = .ok (.invokevirtual 36, 3) := by decide +kernel
theorem dX4_countPaths_24 : decode cX4_countPaths 24 = .ok (.iconst 0, 1) := by decide +kernel
theorem dX4_countPaths_25 : decode cX4_countPaths 25 = .ok (.istore 4, 2) := by decide +kernel
theorem dX4_countPaths_27 : decode cX4_countPaths 27 = .ok (.iload 4, 2) := by decide +kernel
theorem dX4_countPaths_29 : decode cX4_countPaths 29 = .ok (.sipush 3600, 3) := by decide +kernel
theorem dX4_countPaths_32 : decode cX4_countPaths 32 = .ok (.if_icmp .ge 74, 3) := by decide +kernel
theorem dX4_countPaths_35 : decode cX4_countPaths 35 = .ok (.aload_n 0, 1) := by decide +kernel
theorem dX4_countPaths_36 : decode cX4_countPaths 36 = .ok (.getfield 14, 3) := by decide +kernel
theorem dX4_countPaths_39 : decode cX4_countPaths 39 = .ok (.iload 4, 2) := by decide +kernel
theorem dX4_countPaths_41 : decode cX4_countPaths 41 = .ok (.invokevirtual 40, 3) := by decide +kernel
theorem dX4_countPaths_44 : decode cX4_countPaths 44 = .ok (.istore 5, 2) := by decide +kernel
theorem dX4_countPaths_46 : decode cX4_countPaths 46 = .ok (.iconst 0, 1) := by decide +kernel
theorem dX4_countPaths_47 : decode cX4_countPaths 47 = .ok (.istore 6, 2) := by decide +kernel
theorem dX4_countPaths_49 : decode cX4_countPaths 49 = .ok (.iload 6, 2) := by decide +kernel
theorem dX4_countPaths_51 : decode cX4_countPaths 51 = .ok (.sipush 405, 3) := by decide +kernel
theorem dX4_countPaths_54 : decode cX4_countPaths 54 = .ok (.if_icmp .ge 46, 3) := by decide +kernel
theorem dX4_countPaths_57 : decode cX4_countPaths 57 = .ok (.iload 5, 2) := by decide +kernel
theorem dX4_countPaths_59 : decode cX4_countPaths 59 = .ok (.iconst (-1), 1) := by decide +kernel
theorem dX4_countPaths_60 : decode cX4_countPaths 60 = .ok (.if_icmp .eq 40, 3) := by decide +kernel
theorem dX4_countPaths_63 : decode cX4_countPaths 63 = .ok (.aload_n 1, 1) := by decide +kernel
theorem dX4_countPaths_64 : decode cX4_countPaths 64 = .ok (.iload 5, 2) := by decide +kernel
theorem dX4_countPaths_66 : decode cX4_countPaths 66 = .ok (.invokevirtual 44, 3) := by decide +kernel
theorem dX4_countPaths_69 : decode cX4_countPaths 69 = .ok (.ifCond .le 14, 3) := by decide +kernel
theorem dX4_countPaths_72 : decode cX4_countPaths 72 = .ok (.aload_n 0, 1) := by decide +kernel
theorem dX4_countPaths_73 : decode cX4_countPaths 73 = .ok (.aload_n 1, 1) := by decide +kernel
theorem dX4_countPaths_74 : decode cX4_countPaths 74 = .ok (.iload 5, 2) := by decide +kernel
theorem dX4_countPaths_76 : decode cX4_countPaths 76 = .ok (.iload 4, 2) := by decide +kernel
theorem dX4_countPaths_78 : decode cX4_countPaths 78 = .ok (.iload_n 2, 1) := by decide +kernel
theorem dX4_countPaths_79 : decode cX4_countPaths 79 = .ok (.iload_n 3, 1) := by decide +kernel
theorem dX4_countPaths_80 : decode cX4_countPaths 80 = .ok (.invokevirtual 49, 3) := by decide +kernel
theorem dX4_countPaths_83 : decode cX4_countPaths 83 = .ok (.aload_n 0, 1) := by decide +kernel
theorem dX4_countPaths_84 : decode cX4_countPaths 84 = .ok (.getfield 20, 3) := by decide +kernel
theorem dX4_countPaths_87 : decode cX4_countPaths 87 = .ok (.iload 5, 2) := by decide +kernel
theorem dX4_countPaths_89 : decode cX4_countPaths 89 = .ok (.invokevirtual 40, 3) := by decide +kernel
theorem dX4_countPaths_92 : decode cX4_countPaths 92 = .ok (.istore 5, 2) := by decide +kernel
theorem dX4_countPaths_94 : decode cX4_countPaths 94 = .ok (.iinc 6 1, 3) := by decide +kernel
theorem dX4_countPaths_97 : decode cX4_countPaths 97 = .ok (.goto (-48), 3) := by decide +kernel
theorem dX4_countPaths_100 : decode cX4_countPaths 100 = .ok (.iinc 4 1, 3) := by decide +kernel
theorem dX4_countPaths_103 : decode cX4_countPaths 103 = .ok (.goto (-76), 3) := by decide +kernel
theorem dX4_countPaths_106 : decode cX4_countPaths 106 = .ok (.return_, 1) := by decide +kernel
set_option maxRecDepth 20000 in
theorem ggX4_makeGroups_X5_fill : GoodIn wsX4_makeGroups wsX5_fill := goodIn_r _ [7, 8, 39] (by decide +kernel) (by decide +kernel)
set_option maxRecDepth 20000 in
theorem gX4_makeGroups_X5_fill : GoodIn wsX4_makeGroups (wsV RX4 33 RX5 yX5_fill wsX5_fill) := goodIn_app (goodIn_of _ (by decide +kernel)) ggX4_makeGroups_X5_fill
set_option maxRecDepth 20000 in
theorem ggX4_makeGroups_X4_groupOf : GoodIn wsX4_makeGroups wsX4_groupOf := goodIn_r _ [12, 13, 14, 15, 16, 17, 18, 19, 20, 21, 22, 23, 24, 25] (by decide +kernel) (by decide +kernel)
set_option maxRecDepth 20000 in
theorem gX4_makeGroups_X4_groupOf : GoodIn wsX4_makeGroups (va_wsS RX4 53 yX4_groupOf wsX4_groupOf) := goodIn_app (goodIn_of _ (by decide +kernel)) ggX4_makeGroups_X4_groupOf
set_option maxRecDepth 20000 in
theorem ggX4_makeGroups_X5_at : GoodIn wsX4_makeGroups wsX5_at := goodIn_r _ [29, 8, 39] (by decide +kernel) (by decide +kernel)
set_option maxRecDepth 20000 in
theorem gX4_makeGroups_X5_at : GoodIn wsX4_makeGroups (wsV RX4 40 RX5 yX5_at wsX5_at) := goodIn_app (goodIn_of _ (by decide +kernel)) ggX4_makeGroups_X5_at
set_option maxRecDepth 20000 in
theorem ggX4_makeGroups_X5_put : GoodIn wsX4_makeGroups wsX5_put := goodIn_r _ [33, 8, 39] (by decide +kernel) (by decide +kernel)
set_option maxRecDepth 20000 in
theorem gX4_makeGroups_X5_put : GoodIn wsX4_makeGroups (wsV RX4 57 RX5 yX5_put wsX5_put) := goodIn_app (goodIn_of _ (by decide +kernel)) ggX4_makeGroups_X5_put
theorem dX4_makeGroups_0 : decode cX4_makeGroups 0 = .ok (.aload_n 0, 1) := by decide +kernel
theorem dX4_makeGroups_1 : decode cX4_makeGroups 1 = .ok (.getfield 14, 3) := by decide +kernel
theorem dX4_makeGroups_4 : decode cX4_makeGroups 4 = .ok (.iconst (-1), 1) := by decide +kernel
theorem dX4_makeGroups_5 : decode cX4_makeGroups 5 = .ok (.invokevirtual 33, 3) := by decide +kernel
theorem dX4_makeGroups_8 : decode cX4_makeGroups 8 = .ok (.iconst 0, 1) := by decide +kernel
theorem dX4_makeGroups_9 : decode cX4_makeGroups 9 = .ok (.istore_n 3, 1) := by decide +kernel
theorem dX4_makeGroups_10 : decode cX4_makeGroups 10 = .ok (.iload_n 3, 1) := by decide +kernel
theorem dX4_makeGroups_11 : decode cX4_makeGroups 11 = .ok (.sipush 405, 3) := by decide +kernel
theorem dX4_makeGroups_14 : decode cX4_makeGroups 14 = .ok (.if_icmp .ge 44, 3) := by decide +kernel
theorem dX4_makeGroups_17 : decode cX4_makeGroups 17 = .ok (.iload_n 3, 1) := by decide +kernel
theorem dX4_makeGroups_18 : decode cX4_makeGroups 18 = .ok (.iload_n 1, 1) := by decide +kernel
theorem dX4_makeGroups_19 : decode cX4_makeGroups 19 = .ok (.iload_n 2, 1) := by decide +kernel
theorem dX4_makeGroups_20 : decode cX4_makeGroups 20 = .ok (.invokestatic 53, 3) := by decide +kernel
theorem dX4_makeGroups_23 : decode cX4_makeGroups 23 = .ok (.istore 4, 2) := by decide +kernel
theorem dX4_makeGroups_25 : decode cX4_makeGroups 25 = .ok (.aload_n 0, 1) := by decide +kernel
theorem dX4_makeGroups_26 : decode cX4_makeGroups 26 = .ok (.getfield 20, 3) := by decide +kernel
theorem dX4_makeGroups_29 : decode cX4_makeGroups 29 = .ok (.iload_n 3, 1) := by decide +kernel
theorem dX4_makeGroups_30 : decode cX4_makeGroups 30 = .ok (.aload_n 0, 1) := by decide +kernel
theorem dX4_makeGroups_31 : decode cX4_makeGroups 31 = .ok (.getfield 14, 3) := by decide +kernel
theorem dX4_makeGroups_34 : decode cX4_makeGroups 34 = .ok (.iload 4, 2) := by decide +kernel
theorem dX4_makeGroups_36 : decode cX4_makeGroups 36 = .ok (.invokevirtual 40, 3) := by decide +kernel
theorem dX4_makeGroups_39 : decode cX4_makeGroups 39 = .ok (.invokevirtual 57, 3) := by decide +kernel
theorem dX4_makeGroups_42 : decode cX4_makeGroups 42 = .ok (.aload_n 0, 1) := by decide +kernel
theorem dX4_makeGroups_43 : decode cX4_makeGroups 43 = .ok (.getfield 14, 3) := by decide +kernel
theorem dX4_makeGroups_46 : decode cX4_makeGroups 46 = .ok (.iload 4, 2) := by decide +kernel
theorem dX4_makeGroups_48 : decode cX4_makeGroups 48 = .ok (.iload_n 3, 1) := by decide +kernel
theorem dX4_makeGroups_49 : decode cX4_makeGroups 49 = .ok (.invokevirtual 57, 3) := by decide +kernel
theorem dX4_makeGroups_52 : decode cX4_makeGroups 52 = .ok (.iinc 3 1, 3) := by decide +kernel
theorem dX4_makeGroups_55 : decode cX4_makeGroups 55 = .ok (.goto (-45), 3) := by decide +kernel
theorem dX4_makeGroups_58 : decode cX4_makeGroups 58 = .ok (.return_, 1) := by decide +kernel
set_option maxRecDepth 20000 in
theorem ggX4_groupOf_X7_drift : GoodIn wsX4_groupOf wsX7_drift := goodIn_r _ [3, 4, 5, 2, 6, 7, 8, 9] (by decide +kernel) (by decide +kernel)
set_option maxRecDepth 20000 in
theorem gX4_groupOf_X7_drift_n60 : GoodIn wsX4_groupOf (wsX7_drift) := ggX4_groupOf_X7_drift
set_option maxRecDepth 20000 in
theorem ggX4_groupOf_J9_floorMod_7cf53 : GoodIn wsX4_groupOf wsJ9_floorMod_7cf53 := goodIn_r _ [13] (by decide +kernel) (by decide +kernel)
set_option maxRecDepth 20000 in
theorem gX4_groupOf_J9_floorMod_7cf53 : GoodIn wsX4_groupOf (va_wsS RX4 64 yJ9_floorMod_7cf53 wsJ9_floorMod_7cf53) := goodIn_app (goodIn_of _ (by decide +kernel)) ggX4_groupOf_J9_floorMod_7cf53
theorem dX4_groupOf_0 : decode cX4_groupOf 0 = .ok (.iload_n 2, 1) := by decide +kernel
theorem dX4_groupOf_1 : decode cX4_groupOf 1 = .ok (.iconst 2, 1) := by decide +kernel
theorem dX4_groupOf_2 : decode cX4_groupOf 2 = .ok (.if_icmp .le 5, 3) := by decide +kernel
theorem dX4_groupOf_5 : decode cX4_groupOf 5 = .ok (.iload_n 0, 1) := by decide +kernel
theorem dX4_groupOf_6 : decode cX4_groupOf 6 = .ok (.ireturn, 1) := by decide +kernel
theorem dX4_groupOf_7 : decode cX4_groupOf 7 = .ok (.iload_n 0, 1) := by decide +kernel
theorem dX4_groupOf_8 : decode cX4_groupOf 8 = .ok (.iload_n 1, 1) := by decide +kernel
theorem dX4_groupOf_9 : decode cX4_groupOf 9 = .ok (.iload_n 2, 1) := by decide +kernel
theorem dX4_groupOf_10 : decode cX4_groupOf 10 = .ok (.iadd, 1) := by decide +kernel
theorem dX4_groupOf_11 : decode cX4_groupOf 11 = .ok (.iconst 1, 1) := by decide +kernel
theorem dX4_groupOf_12 : decode cX4_groupOf 12 = .ok (.isub, 1) := by decide +kernel
theorem dX4_groupOf_13 : decode cX4_groupOf 13 = .ok (.invokestatic 60, 3) := by decide +kernel
theorem dX4_groupOf_16 : decode cX4_groupOf 16 = .ok (.iload_n 0, 1) := by decide +kernel
theorem dX4_groupOf_17 : decode cX4_groupOf 17 = .ok (.iload_n 1, 1) := by decide +kernel
theorem dX4_groupOf_18 : decode cX4_groupOf 18 = .ok (.invokestatic 60, 3) := by decide +kernel
theorem dX4_groupOf_21 : decode cX4_groupOf 21 = .ok (.isub, 1) := by decide +kernel
theorem dX4_groupOf_22 : decode cX4_groupOf 22 = .ok (.sipush 3600, 3) := by decide +kernel
theorem dX4_groupOf_25 : decode cX4_groupOf 25 = .ok (.invokestatic 64, 3) := by decide +kernel
theorem dX4_groupOf_28 : decode cX4_groupOf 28 = .ok (.ireturn, 1) := by decide +kernel
set_option maxRecDepth 20000 in
theorem ggX4_countCourse_X3_startOf : GoodIn wsX4_countCourse wsX3_startOf := goodIn_r _ [8, 9, 10, 11, 12, 13, 14, 15, 50, 51, 52, 53] (by decide +kernel) (by decide +kernel)
set_option maxRecDepth 20000 in
theorem gX4_countCourse_X3_startOf : GoodIn wsX4_countCourse (wsV RX4 69 RX3 yX3_startOf wsX3_startOf) := goodIn_app (goodIn_of _ (by decide +kernel)) ggX4_countCourse_X3_startOf
set_option maxRecDepth 20000 in
theorem ggX4_countCourse_X4_nearBitsOf : GoodIn wsX4_countCourse wsX4_nearBitsOf := goodIn_r _ [19, 20, 21, 22, 23, 24, 25, 26, 27, 28, 29, 30, 31, 32, 33, 34] (by decide +kernel) (by decide +kernel)
set_option maxRecDepth 20000 in
theorem gX4_countCourse_X4_nearBitsOf : GoodIn wsX4_countCourse (va_wsS RX4 72 yX4_nearBitsOf wsX4_nearBitsOf) := goodIn_app (goodIn_of _ (by decide +kernel)) ggX4_countCourse_X4_nearBitsOf
set_option maxRecDepth 20000 in
theorem ggX4_countCourse_X7_drift : GoodIn wsX4_countCourse wsX7_drift := goodIn_r _ [22, 23, 24, 21, 25, 26, 27, 28] (by decide +kernel) (by decide +kernel)
set_option maxRecDepth 20000 in
theorem gX4_countCourse_X7_drift_n60 : GoodIn wsX4_countCourse (wsX7_drift) := ggX4_countCourse_X7_drift
set_option maxRecDepth 20000 in
theorem ggX4_countCourse_X3_widthOf : GoodIn wsX4_countCourse wsX3_widthOf := goodIn_r _ [38, 39, 10, 11, 12, 13, 14, 15, 50, 51, 52, 53] (by decide +kernel) (by decide +kernel)
set_option maxRecDepth 20000 in
theorem gX4_countCourse_X3_widthOf : GoodIn wsX4_countCourse (wsV RX4 44 RX3 yX3_widthOf wsX3_widthOf) := goodIn_app (goodIn_of _ (by decide +kernel)) ggX4_countCourse_X3_widthOf
set_option maxRecDepth 20000 in
theorem ggX4_countCourse_J9_floorMod_7cf53 : GoodIn wsX4_countCourse wsJ9_floorMod_7cf53 := goodIn_r _ [32] (by decide +kernel) (by decide +kernel)
set_option maxRecDepth 20000 in
theorem gX4_countCourse_J9_floorMod_7cf53 : GoodIn wsX4_countCourse (va_wsS RX4 64 yJ9_floorMod_7cf53 wsJ9_floorMod_7cf53) := goodIn_app (goodIn_of _ (by decide +kernel)) ggX4_countCourse_J9_floorMod_7cf53
set_option maxRecDepth 20000 in
theorem ggX4_countCourse_X5_at : GoodIn wsX4_countCourse wsX5_at := goodIn_r _ [14, 15, 53] (by decide +kernel) (by decide +kernel)
set_option maxRecDepth 20000 in
theorem gX4_countCourse_X5_at : GoodIn wsX4_countCourse (wsV RX4 40 RX5 yX5_at wsX5_at) := goodIn_app (goodIn_of _ (by decide +kernel)) ggX4_countCourse_X5_at
set_option maxRecDepth 20000 in
theorem ggX4_countCourse_X5_put : GoodIn wsX4_countCourse wsX5_put := goodIn_r _ [44, 15, 53] (by decide +kernel) (by decide +kernel)
set_option maxRecDepth 20000 in
theorem gX4_countCourse_X5_put : GoodIn wsX4_countCourse (wsV RX4 57 RX5 yX5_put wsX5_put) := goodIn_app (goodIn_of _ (by decide +kernel)) ggX4_countCourse_X5_put
theorem dX4_countCourse_0 : decode cX4_countCourse 0 = .ok (.iload_n 2, 1) := by decide +kernel
theorem dX4_countCourse_1 : decode cX4_countCourse 1 = .ok (.aload_n 1, 1) := by decide +kernel
theorem dX4_countCourse_2 : decode cX4_countCourse 2 = .ok (.iload_n 2, 1) := by decide +kernel
theorem dX4_countCourse_3 : decode cX4_countCourse 3 = .ok (.invokevirtual 69, 3) := by decide +kernel
theorem dX4_countCourse_6 : decode cX4_countCourse 6 = .ok (.iload 4, 2) := by decide +kernel
theorem dX4_countCourse_8 : decode cX4_countCourse 8 = .ok (.iload 5, 2) := by decide +kernel
theorem dX4_countCourse_10 : decode cX4_countCourse 10 = .ok (.invokestatic 72, 3) := by decide +kernel
theorem dX4_countCourse_13 : decode cX4_countCourse 13 = .ok (.lstore 6, 2) := by decide +kernel
theorem dX4_countCourse_15 : decode cX4_countCourse 15 = .ok (.aload_n 1, 1) := by decide +kernel
theorem dX4_countCourse_16 : decode cX4_countCourse 16 = .ok (.iload_n 2, 1) := by decide +kernel
theorem dX4_countCourse_17 : decode cX4_countCourse 17 = .ok (.invokevirtual 69, 3) := by decide +kernel
theorem dX4_countCourse_20 : decode cX4_countCourse 20 = .ok (.iload_n 2, 1) := by decide +kernel
theorem dX4_countCourse_21 : decode cX4_countCourse 21 = .ok (.iload 4, 2) := by decide +kernel
theorem dX4_countCourse_23 : decode cX4_countCourse 23 = .ok (.invokestatic 60, 3) := by decide +kernel
theorem dX4_countCourse_26 : decode cX4_countCourse 26 = .ok (.iadd, 1) := by decide +kernel
theorem dX4_countCourse_27 : decode cX4_countCourse 27 = .ok (.istore 8, 2) := by decide +kernel
theorem dX4_countCourse_29 : decode cX4_countCourse 29 = .ok (.iconst 0, 1) := by decide +kernel
theorem dX4_countCourse_30 : decode cX4_countCourse 30 = .ok (.istore 9, 2) := by decide +kernel
theorem dX4_countCourse_32 : decode cX4_countCourse 32 = .ok (.iload 9, 2) := by decide +kernel
theorem dX4_countCourse_34 : decode cX4_countCourse 34 = .ok (.aload_n 1, 1) := by decide +kernel
theorem dX4_countCourse_35 : decode cX4_countCourse 35 = .ok (.iload_n 2, 1) := by decide +kernel
theorem dX4_countCourse_36 : decode cX4_countCourse 36 = .ok (.invokevirtual 44, 3) := by decide +kernel
theorem dX4_countCourse_39 : decode cX4_countCourse 39 = .ok (.if_icmp .ge 72, 3) := by decide +kernel
theorem dX4_countCourse_42 : decode cX4_countCourse 42 = .ok (.iload 8, 2) := by decide +kernel
theorem dX4_countCourse_44 : decode cX4_countCourse 44 = .ok (.iload 9, 2) := by decide +kernel
theorem dX4_countCourse_46 : decode cX4_countCourse 46 = .ok (.iadd, 1) := by decide +kernel
theorem dX4_countCourse_47 : decode cX4_countCourse 47 = .ok (.sipush 3600, 3) := by decide +kernel
theorem dX4_countCourse_50 : decode cX4_countCourse 50 = .ok (.invokestatic 64, 3) := by decide +kernel
theorem dX4_countCourse_53 : decode cX4_countCourse 53 = .ok (.istore 10, 2) := by decide +kernel
theorem dX4_countCourse_55 : decode cX4_countCourse 55 = .ok (.aload_n 0, 1) := by decide +kernel
theorem dX4_countCourse_56 : decode cX4_countCourse 56 = .ok (.getfield 23, 3) := by decide +kernel
theorem dX4_countCourse_59 : decode cX4_countCourse 59 = .ok (.iload 10, 2) := by decide +kernel
theorem dX4_countCourse_61 : decode cX4_countCourse 61 = .ok (.invokevirtual 40, 3) := by decide +kernel
theorem dX4_countCourse_64 : decode cX4_countCourse 64 = .ok (.iload_n 3, 1) := by decide +kernel
theorem dX4_countCourse_65 : decode cX4_countCourse 65 = .ok (.if_icmp .eq 40, 3) := by decide +kernel
theorem dX4_countCourse_68 : decode cX4_countCourse 68 = .ok (.aload_n 0, 1) := by decide +kernel
theorem dX4_countCourse_69 : decode cX4_countCourse 69 = .ok (.getfield 23, 3) := by decide +kernel
theorem dX4_countCourse_72 : decode cX4_countCourse 72 = .ok (.iload 10, 2) := by decide +kernel
theorem dX4_countCourse_74 : decode cX4_countCourse 74 = .ok (.iload_n 3, 1) := by decide +kernel
theorem dX4_countCourse_75 : decode cX4_countCourse 75 = .ok (.invokevirtual 57, 3) := by decide +kernel
theorem dX4_countCourse_78 : decode cX4_countCourse 78 = .ok (.aload_n 0, 1) := by decide +kernel
theorem dX4_countCourse_79 : decode cX4_countCourse 79 = .ok (.dup, 1) := by decide +kernel
theorem dX4_countCourse_80 : decode cX4_countCourse 80 = .ok (.getfield 26, 3) := by decide +kernel
theorem dX4_countCourse_83 : decode cX4_countCourse 83 = .ok (.iconst 1, 1) := by decide +kernel
theorem dX4_countCourse_84 : decode cX4_countCourse 84 = .ok (.iadd, 1) := by decide +kernel
theorem dX4_countCourse_85 : decode cX4_countCourse 85 = .ok (.putfield 26, 3) := by decide +kernel
theorem dX4_countCourse_88 : decode cX4_countCourse 88 = .ok (.aload_n 0, 1) := by decide +kernel
theorem dX4_countCourse_89 : decode cX4_countCourse 89 = .ok (.dup, 1) := by decide +kernel
theorem dX4_countCourse_90 : decode cX4_countCourse 90 = .ok (.getfield 30, 3) := by decide +kernel
theorem dX4_countCourse_93 : decode cX4_countCourse 93 = .ok (.lload 6, 2) := by decide +kernel
theorem dX4_countCourse_95 : decode cX4_countCourse 95 = .ok (.iload 9, 2) := by decide +kernel
theorem dX4_countCourse_97 : decode cX4_countCourse 97 = .ok (.lshr, 1) := by decide +kernel
theorem dX4_countCourse_98 : decode cX4_countCourse 98 = .ok (.lconst 1, 1) := by decide +kernel
theorem dX4_countCourse_99 : decode cX4_countCourse 99 = .ok (.land, 1) := by decide +kernel
theorem dX4_countCourse_100 : decode cX4_countCourse 100 = .ok (.l2i, 1) := by decide +kernel
theorem dX4_countCourse_101 : decode cX4_countCourse 101 = .ok (.iadd, 1) := by decide +kernel
theorem dX4_countCourse_102 : decode cX4_countCourse 102 = .ok (.putfield 30, 3) := by decide +kernel
theorem dX4_countCourse_105 : decode cX4_countCourse 105 = .ok (.iinc 9 1, 3) := by decide +kernel
theorem dX4_countCourse_108 : decode cX4_countCourse 108 = .ok (.goto (-76), 3) := by decide +kernel
theorem dX4_countCourse_111 : decode cX4_countCourse 111 = .ok (.return_, 1) := by decide +kernel
set_option maxRecDepth 20000 in
theorem ggX4_nearBitsOf_X7_drift : GoodIn wsX4_nearBitsOf wsX7_drift := goodIn_r _ [3, 4, 5, 2, 6, 7, 8, 9] (by decide +kernel) (by decide +kernel)
set_option maxRecDepth 20000 in
theorem gX4_nearBitsOf_X7_drift_n60 : GoodIn wsX4_nearBitsOf (wsX7_drift) := ggX4_nearBitsOf_X7_drift
set_option maxRecDepth 20000 in
theorem ggX4_nearBitsOf_J9_floorMod_7cf53 : GoodIn wsX4_nearBitsOf wsJ9_floorMod_7cf53 := goodIn_r _ [13] (by decide +kernel) (by decide +kernel)
set_option maxRecDepth 20000 in
theorem gX4_nearBitsOf_J9_floorMod_7cf53 : GoodIn wsX4_nearBitsOf (va_wsS RX4 64 yJ9_floorMod_7cf53 wsJ9_floorMod_7cf53) := goodIn_app (goodIn_of _ (by decide +kernel)) ggX4_nearBitsOf_J9_floorMod_7cf53
set_option maxRecDepth 20000 in
theorem ggX4_nearBitsOf_X7_stretch : GoodIn wsX4_nearBitsOf wsX7_stretch := goodIn_r _ [15] (by decide +kernel) (by decide +kernel)
set_option maxRecDepth 20000 in
theorem gX4_nearBitsOf_X7_stretch_n76 : GoodIn wsX4_nearBitsOf (wsX7_stretch) := ggX4_nearBitsOf_X7_stretch
theorem dX4_nearBitsOf_0 : decode cX4_nearBitsOf 0 = .ok (.lconst 0, 1) := by decide +kernel
theorem dX4_nearBitsOf_1 : decode cX4_nearBitsOf 1 = .ok (.lstore 4, 2) := by decide +kernel
theorem dX4_nearBitsOf_3 : decode cX4_nearBitsOf 3 = .ok (.iload_n 2, 1) := by decide +kernel
theorem dX4_nearBitsOf_4 : decode cX4_nearBitsOf 4 = .ok (.istore 6, 2) := by decide +kernel
theorem dX4_nearBitsOf_6 : decode cX4_nearBitsOf 6 = .ok (.iload 6, 2) := by decide +kernel
theorem dX4_nearBitsOf_8 : decode cX4_nearBitsOf 8 = .ok (.iload_n 2, 1) := by decide +kernel
theorem dX4_nearBitsOf_9 : decode cX4_nearBitsOf 9 = .ok (.iload_n 3, 1) := by decide +kernel
theorem dX4_nearBitsOf_10 : decode cX4_nearBitsOf 10 = .ok (.iadd, 1) := by decide +kernel
theorem dX4_nearBitsOf_11 : decode cX4_nearBitsOf 11 = .ok (.if_icmp .ge 48, 3) := by decide +kernel
theorem dX4_nearBitsOf_14 : decode cX4_nearBitsOf 14 = .ok (.bipush 10, 2) := by decide +kernel
theorem dX4_nearBitsOf_16 : decode cX4_nearBitsOf 16 = .ok (.iload 6, 2) := by decide +kernel
theorem dX4_nearBitsOf_18 : decode cX4_nearBitsOf 18 = .ok (.imul, 1) := by decide +kernel
theorem dX4_nearBitsOf_19 : decode cX4_nearBitsOf 19 = .ok (.iconst 2, 1) := by decide +kernel
theorem dX4_nearBitsOf_20 : decode cX4_nearBitsOf 20 = .ok (.isub, 1) := by decide +kernel
theorem dX4_nearBitsOf_21 : decode cX4_nearBitsOf 21 = .ok (.iload_n 0, 1) := by decide +kernel
theorem dX4_nearBitsOf_22 : decode cX4_nearBitsOf 22 = .ok (.iload 6, 2) := by decide +kernel
theorem dX4_nearBitsOf_24 : decode cX4_nearBitsOf 24 = .ok (.invokestatic 60, 3) := by decide +kernel
theorem dX4_nearBitsOf_27 : decode cX4_nearBitsOf 27 = .ok (.isub, 1) := by decide +kernel
theorem dX4_nearBitsOf_28 : decode cX4_nearBitsOf 28 = .ok (.istore 7, 2) := by decide +kernel
theorem dX4_nearBitsOf_30 : decode cX4_nearBitsOf 30 = .ok (.iload 7, 2) := by decide +kernel
theorem dX4_nearBitsOf_32 : decode cX4_nearBitsOf 32 = .ok (.iload_n 1, 1) := by decide +kernel
theorem dX4_nearBitsOf_33 : decode cX4_nearBitsOf 33 = .ok (.isub, 1) := by decide +kernel
theorem dX4_nearBitsOf_34 : decode cX4_nearBitsOf 34 = .ok (.sipush 3600, 3) := by decide +kernel
theorem dX4_nearBitsOf_37 : decode cX4_nearBitsOf 37 = .ok (.invokestatic 64, 3) := by decide +kernel
theorem dX4_nearBitsOf_40 : decode cX4_nearBitsOf 40 = .ok (.istore 8, 2) := by decide +kernel
theorem dX4_nearBitsOf_42 : decode cX4_nearBitsOf 42 = .ok (.lload 4, 2) := by decide +kernel
theorem dX4_nearBitsOf_44 : decode cX4_nearBitsOf 44 = .ok (.iload 8, 2) := by decide +kernel
theorem dX4_nearBitsOf_46 : decode cX4_nearBitsOf 46 = .ok (.iconst 5, 1) := by decide +kernel
theorem dX4_nearBitsOf_47 : decode cX4_nearBitsOf 47 = .ok (.invokestatic 76, 3) := by decide +kernel
theorem dX4_nearBitsOf_50 : decode cX4_nearBitsOf 50 = .ok (.lor, 1) := by decide +kernel
theorem dX4_nearBitsOf_51 : decode cX4_nearBitsOf 51 = .ok (.lstore 4, 2) := by decide +kernel
theorem dX4_nearBitsOf_53 : decode cX4_nearBitsOf 53 = .ok (.iinc 6 1, 3) := by decide +kernel
theorem dX4_nearBitsOf_56 : decode cX4_nearBitsOf 56 = .ok (.goto (-50), 3) := by decide +kernel
theorem dX4_nearBitsOf_59 : decode cX4_nearBitsOf 59 = .ok (.lload 4, 2) := by decide +kernel
theorem dX4_nearBitsOf_61 : decode cX4_nearBitsOf 61 = .ok (.lreturn, 1) := by decide +kernel
theorem dX5_init_0 : decode cX5_init 0 = .ok (.aload_n 0, 1) := by decide +kernel
theorem dX5_init_1 : decode cX5_init 1 = .ok (.invokespecial 1, 3) := by decide +kernel
theorem dX5_init_4 : decode cX5_init 4 = .ok (.aload_n 0, 1) := by decide +kernel
theorem dX5_init_5 : decode cX5_init 5 = .ok (.iload_n 1, 1) := by decide +kernel
theorem dX5_init_6 : decode cX5_init 6 = .ok (.ifCond .le 7, 3) := by decide +kernel
theorem dX5_init_9 : decode cX5_init 9 = .ok (.iload_n 1, 1) := by decide +kernel
theorem dX5_init_10 : decode cX5_init 10 = .ok (.goto 4, 3) := by decide +kernel
theorem dX5_init_13 : decode cX5_init 13 = .ok (.iconst 0, 1) := by decide +kernel
theorem dX5_init_14 : decode cX5_init 14 = .ok (.newarray .int, 2) := by decide +kernel
theorem dX5_init_16 : decode cX5_init 16 = .ok (.putfield 7, 3) := by decide +kernel
theorem dX5_init_19 : decode cX5_init 19 = .ok (.return_, 1) := by decide +kernel
theorem dX5_at_0 : decode cX5_at 0 = .ok (.iload_n 1, 1) := by decide +kernel
theorem dX5_at_1 : decode cX5_at 1 = .ok (.ifCond .lt 21, 3) := by decide +kernel
theorem dX5_at_4 : decode cX5_at 4 = .ok (.iload_n 1, 1) := by decide +kernel
theorem dX5_at_5 : decode cX5_at 5 = .ok (.aload_n 0, 1) := by decide +kernel
theorem dX5_at_6 : decode cX5_at 6 = .ok (.getfield 7, 3) := by decide +kernel
theorem dX5_at_9 : decode cX5_at 9 = .ok (.arraylength, 1) := by decide +kernel
theorem dX5_at_10 : decode cX5_at 10 = .ok (.if_icmp .ge 12, 3) := by decide +kernel
theorem dX5_at_13 : decode cX5_at 13 = .ok (.aload_n 0, 1) := by decide +kernel
theorem dX5_at_14 : decode cX5_at 14 = .ok (.getfield 7, 3) := by decide +kernel
theorem dX5_at_17 : decode cX5_at 17 = .ok (.iload_n 1, 1) := by decide +kernel
theorem dX5_at_18 : decode cX5_at 18 = .ok (.iaload, 1) := by decide +kernel
theorem dX5_at_19 : decode cX5_at 19 = .ok (.goto 4, 3) := by decide +kernel
theorem dX5_at_22 : decode cX5_at 22 = .ok (.iconst 0, 1) := by decide +kernel
theorem dX5_at_23 : decode cX5_at 23 = .ok (.ireturn, 1) := by decide +kernel
theorem dX5_put_0 : decode cX5_put 0 = .ok (.iload_n 1, 1) := by decide +kernel
theorem dX5_put_1 : decode cX5_put 1 = .ok (.ifCond .lt 19, 3) := by decide +kernel
theorem dX5_put_4 : decode cX5_put 4 = .ok (.iload_n 1, 1) := by decide +kernel
theorem dX5_put_5 : decode cX5_put 5 = .ok (.aload_n 0, 1) := by decide +kernel
theorem dX5_put_6 : decode cX5_put 6 = .ok (.getfield 7, 3) := by decide +kernel
theorem dX5_put_9 : decode cX5_put 9 = .ok (.arraylength, 1) := by decide +kernel
theorem dX5_put_10 : decode cX5_put 10 = .ok (.if_icmp .ge 10, 3) := by decide +kernel
theorem dX5_put_13 : decode cX5_put 13 = .ok (.aload_n 0, 1) := by decide +kernel
theorem dX5_put_14 : decode cX5_put 14 = .ok (.getfield 7, 3) := by decide +kernel
theorem dX5_put_17 : decode cX5_put 17 = .ok (.iload_n 1, 1) := by decide +kernel
theorem dX5_put_18 : decode cX5_put 18 = .ok (.iload_n 2, 1) := by decide +kernel
theorem dX5_put_19 : decode cX5_put 19 = .ok (.iastore, 1) := by decide +kernel
theorem dX5_put_20 : decode cX5_put 20 = .ok (.return_, 1) := by decide +kernel
theorem dX5_fill_0 : decode cX5_fill 0 = .ok (.iconst 0, 1) := by decide +kernel
theorem dX5_fill_1 : decode cX5_fill 1 = .ok (.istore_n 2, 1) := by decide +kernel
theorem dX5_fill_2 : decode cX5_fill 2 = .ok (.iload_n 2, 1) := by decide +kernel
theorem dX5_fill_3 : decode cX5_fill 3 = .ok (.aload_n 0, 1) := by decide +kernel
theorem dX5_fill_4 : decode cX5_fill 4 = .ok (.getfield 7, 3) := by decide +kernel
theorem dX5_fill_7 : decode cX5_fill 7 = .ok (.arraylength, 1) := by decide +kernel
theorem dX5_fill_8 : decode cX5_fill 8 = .ok (.if_icmp .ge 16, 3) := by decide +kernel
theorem dX5_fill_11 : decode cX5_fill 11 = .ok (.aload_n 0, 1) := by decide +kernel
theorem dX5_fill_12 : decode cX5_fill 12 = .ok (.getfield 7, 3) := by decide +kernel
theorem dX5_fill_15 : decode cX5_fill 15 = .ok (.iload_n 2, 1) := by decide +kernel
theorem dX5_fill_16 : decode cX5_fill 16 = .ok (.iload_n 1, 1) := by decide +kernel
theorem dX5_fill_17 : decode cX5_fill 17 = .ok (.iastore, 1) := by decide +kernel
theorem dX5_fill_18 : decode cX5_fill 18 = .ok (.iinc 2 1, 3) := by decide +kernel
theorem dX5_fill_21 : decode cX5_fill 21 = .ok (.goto (-19), 3) := by decide +kernel
theorem dX5_fill_24 : decode cX5_fill 24 = .ok (.return_, 1) := by decide +kernel
set_option maxRecDepth 20000 in
theorem ggX6_init_X5_init : GoodIn wsX6_init wsX5_init := goodIn_r _ [16, 17, 2, 3, 18, 19, 20] (by decide +kernel) (by decide +kernel)
set_option maxRecDepth 20000 in
theorem gX6_init_X5_init : GoodIn wsX6_init (wsX5_init) := ggX6_init_X5_init
theorem dX6_init_0 : decode cX6_init 0 = .ok (.aload_n 0, 1) := by decide +kernel
theorem dX6_init_1 : decode cX6_init 1 = .ok (.invokespecial 3, 3) := by decide +kernel
theorem dX6_init_4 : decode cX6_init 4 = .ok (.aload_n 0, 1) := by decide +kernel
theorem dX6_init_5 : decode cX6_init 5 = .ok (.new 9, 3) := by decide +kernel
theorem dX6_init_8 : decode cX6_init 8 = .ok (.dup, 1) := by decide +kernel
theorem dX6_init_9 : decode cX6_init 9 = .ok (.bipush 6, 2) := by decide +kernel
theorem dX6_init_11 : decode cX6_init 11 = .ok (.invokespecial 11, 3) := by decide +kernel
theorem dX6_init_14 : decode cX6_init 14 = .ok (.putfield 14, 3) := by decide +kernel
theorem dX6_init_17 : decode cX6_init 17 = .ok (.aload_n 0, 1) := by decide +kernel
theorem dX6_init_18 : decode cX6_init 18 = .ok (.new 9, 3) := by decide +kernel
theorem dX6_init_21 : decode cX6_init 21 = .ok (.dup, 1) := by decide +kernel
theorem dX6_init_22 : decode cX6_init 22 = .ok (.bipush 30, 2) := by decide +kernel
theorem dX6_init_24 : decode cX6_init 24 = .ok (.invokespecial 11, 3) := by decide +kernel
theorem dX6_init_27 : decode cX6_init 27 = .ok (.putfield 20, 3) := by decide +kernel
theorem dX6_init_30 : decode cX6_init 30 = .ok (.aload_n 0, 1) := by decide +kernel
theorem dX6_init_31 : decode cX6_init 31 = .ok (.new 9, 3) := by decide +kernel
theorem dX6_init_34 : decode cX6_init 34 = .ok (.dup, 1) := by decide +kernel
theorem dX6_init_35 : decode cX6_init 35 = .ok (.bipush 30, 2) := by decide +kernel
theorem dX6_init_37 : decode cX6_init 37 = .ok (.invokespecial 11, 3) := by decide +kernel
theorem dX6_init_40 : decode cX6_init 40 = .ok (.putfield 23, 3) := by decide +kernel
theorem dX6_init_43 : decode cX6_init 43 = .ok (.aload_n 0, 1) := by decide +kernel
theorem dX6_init_44 : decode cX6_init 44 = .ok (.new 9, 3) := by decide +kernel
theorem dX6_init_47 : decode cX6_init 47 = .ok (.dup, 1) := by decide +kernel
theorem dX6_init_48 : decode cX6_init 48 = .ok (.bipush 60, 2) := by decide +kernel
theorem dX6_init_50 : decode cX6_init 50 = .ok (.invokespecial 11, 3) := by decide +kernel
theorem dX6_init_53 : decode cX6_init 53 = .ok (.putfield 26, 3) := by decide +kernel
theorem dX6_init_56 : decode cX6_init 56 = .ok (.aload_n 0, 1) := by decide +kernel
theorem dX6_init_57 : decode cX6_init 57 = .ok (.new 9, 3) := by decide +kernel
theorem dX6_init_60 : decode cX6_init 60 = .ok (.dup, 1) := by decide +kernel
theorem dX6_init_61 : decode cX6_init 61 = .ok (.bipush 60, 2) := by decide +kernel
theorem dX6_init_63 : decode cX6_init 63 = .ok (.invokespecial 11, 3) := by decide +kernel
theorem dX6_init_66 : decode cX6_init 66 = .ok (.putfield 29, 3) := by decide +kernel
theorem dX6_init_69 : decode cX6_init 69 = .ok (.aload_n 0, 1) := by decide +kernel
theorem dX6_init_70 : decode cX6_init 70 = .ok (.new 9, 3) := by decide +kernel
theorem dX6_init_73 : decode cX6_init 73 = .ok (.dup, 1) := by decide +kernel
theorem dX6_init_74 : decode cX6_init 74 = .ok (.bipush 60, 2) := by decide +kernel
theorem dX6_init_76 : decode cX6_init 76 = .ok (.invokespecial 11, 3) := by decide +kernel
theorem dX6_init_79 : decode cX6_init 79 = .ok (.putfield 32, 3) := by decide +kernel
theorem dX6_init_82 : decode cX6_init 82 = .ok (.aload_n 0, 1) := by decide +kernel
theorem dX6_init_83 : decode cX6_init 83 = .ok (.new 9, 3) := by decide +kernel
theorem dX6_init_86 : decode cX6_init 86 = .ok (.dup, 1) := by decide +kernel
theorem dX6_init_87 : decode cX6_init 87 = .ok (.bipush 9, 2) := by decide +kernel
theorem dX6_init_89 : decode cX6_init 89 = .ok (.invokespecial 11, 3) := by decide +kernel
theorem dX6_init_92 : decode cX6_init 92 = .ok (.putfield 35, 3) := by decide +kernel
theorem dX6_init_95 : decode cX6_init 95 = .ok (.return_, 1) := by decide +kernel
set_option maxRecDepth 20000 in
theorem ggX6_addObservatory_X5_put : GoodIn wsX6_addObservatory wsX5_put := goodIn_r _ [7, 8, 19] (by decide +kernel) (by decide +kernel)
set_option maxRecDepth 20000 in
theorem gX6_addObservatory_X5_put : GoodIn wsX6_addObservatory (wsV RX6 42 RX5 yX5_put wsX5_put) := goodIn_app (goodIn_of _ (by decide +kernel)) ggX6_addObservatory_X5_put
theorem dX6_addObservatory_0 : decode cX6_addObservatory 0 = .ok (.aload_n 0, 1) := by decide +kernel
theorem dX6_addObservatory_1 : decode cX6_addObservatory 1 = .ok (.getfield 14, 3) := by decide +kernel
theorem dX6_addObservatory_4 : decode cX6_addObservatory 4 = .ok (.aload_n 0, 1) := by decide +kernel
theorem dX6_addObservatory_5 : decode cX6_addObservatory 5 = .ok (.getfield 38, 3) := by decide +kernel
theorem dX6_addObservatory_8 : decode cX6_addObservatory 8 = .ok (.iload_n 1, 1) := by decide +kernel
theorem dX6_addObservatory_9 : decode cX6_addObservatory 9 = .ok (.invokevirtual 42, 3) := by decide +kernel
theorem dX6_addObservatory_12 : decode cX6_addObservatory 12 = .ok (.aload_n 0, 1) := by decide +kernel
theorem dX6_addObservatory_13 : decode cX6_addObservatory 13 = .ok (.dup, 1) := by decide +kernel
theorem dX6_addObservatory_14 : decode cX6_addObservatory 14 = .ok (.getfield 38, 3) := by decide +kernel
theorem dX6_addObservatory_17 : decode cX6_addObservatory 17 = .ok (.iconst 1, 1) := by decide +kernel
theorem dX6_addObservatory_18 : decode cX6_addObservatory 18 = .ok (.iadd, 1) := by decide +kernel
theorem dX6_addObservatory_19 : decode cX6_addObservatory 19 = .ok (.putfield 38, 3) := by decide +kernel
theorem dX6_addObservatory_22 : decode cX6_addObservatory 22 = .ok (.aload_n 0, 1) := by decide +kernel
theorem dX6_addObservatory_23 : decode cX6_addObservatory 23 = .ok (.getfield 38, 3) := by decide +kernel
theorem dX6_addObservatory_26 : decode cX6_addObservatory 26 = .ok (.iconst 1, 1) := by decide +kernel
theorem dX6_addObservatory_27 : decode cX6_addObservatory 27 = .ok (.isub, 1) := by decide +kernel
theorem dX6_addObservatory_28 : decode cX6_addObservatory 28 = .ok (.ireturn, 1) := by decide +kernel
set_option maxRecDepth 20000 in
theorem ggX6_addPlate_X5_put : GoodIn wsX6_addPlate wsX5_put := goodIn_r _ [8, 9, 20] (by decide +kernel) (by decide +kernel)
set_option maxRecDepth 20000 in
theorem gX6_addPlate_X5_put : GoodIn wsX6_addPlate (wsV RX6 42 RX5 yX5_put wsX5_put) := goodIn_app (goodIn_of _ (by decide +kernel)) ggX6_addPlate_X5_put
theorem dX6_addPlate_0 : decode cX6_addPlate 0 = .ok (.aload_n 0, 1) := by decide +kernel
theorem dX6_addPlate_1 : decode cX6_addPlate 1 = .ok (.getfield 20, 3) := by decide +kernel
theorem dX6_addPlate_4 : decode cX6_addPlate 4 = .ok (.aload_n 0, 1) := by decide +kernel
theorem dX6_addPlate_5 : decode cX6_addPlate 5 = .ok (.getfield 46, 3) := by decide +kernel
theorem dX6_addPlate_8 : decode cX6_addPlate 8 = .ok (.iload_n 1, 1) := by decide +kernel
theorem dX6_addPlate_9 : decode cX6_addPlate 9 = .ok (.invokevirtual 42, 3) := by decide +kernel
theorem dX6_addPlate_12 : decode cX6_addPlate 12 = .ok (.aload_n 0, 1) := by decide +kernel
theorem dX6_addPlate_13 : decode cX6_addPlate 13 = .ok (.getfield 23, 3) := by decide +kernel
theorem dX6_addPlate_16 : decode cX6_addPlate 16 = .ok (.aload_n 0, 1) := by decide +kernel
theorem dX6_addPlate_17 : decode cX6_addPlate 17 = .ok (.getfield 46, 3) := by decide +kernel
theorem dX6_addPlate_20 : decode cX6_addPlate 20 = .ok (.iload_n 2, 1) := by decide +kernel
theorem dX6_addPlate_21 : decode cX6_addPlate 21 = .ok (.invokevirtual 42, 3) := by decide +kernel
theorem dX6_addPlate_24 : decode cX6_addPlate 24 = .ok (.aload_n 0, 1) := by decide +kernel
theorem dX6_addPlate_25 : decode cX6_addPlate 25 = .ok (.dup, 1) := by decide +kernel
theorem dX6_addPlate_26 : decode cX6_addPlate 26 = .ok (.getfield 46, 3) := by decide +kernel
theorem dX6_addPlate_29 : decode cX6_addPlate 29 = .ok (.iconst 1, 1) := by decide +kernel
theorem dX6_addPlate_30 : decode cX6_addPlate 30 = .ok (.iadd, 1) := by decide +kernel
theorem dX6_addPlate_31 : decode cX6_addPlate 31 = .ok (.putfield 46, 3) := by decide +kernel
theorem dX6_addPlate_34 : decode cX6_addPlate 34 = .ok (.aload_n 0, 1) := by decide +kernel
theorem dX6_addPlate_35 : decode cX6_addPlate 35 = .ok (.getfield 46, 3) := by decide +kernel
theorem dX6_addPlate_38 : decode cX6_addPlate 38 = .ok (.iconst 1, 1) := by decide +kernel
theorem dX6_addPlate_39 : decode cX6_addPlate 39 = .ok (.isub, 1) := by decide +kernel
theorem dX6_addPlate_40 : decode cX6_addPlate 40 = .ok (.ireturn, 1) := by decide +kernel
set_option maxRecDepth 20000 in
theorem ggX6_addDot_X5_put : GoodIn wsX6_addDot wsX5_put := goodIn_r _ [9, 10, 21] (by decide +kernel) (by decide +kernel)
set_option maxRecDepth 20000 in
theorem gX6_addDot_X5_put : GoodIn wsX6_addDot (wsV RX6 42 RX5 yX5_put wsX5_put) := goodIn_app (goodIn_of _ (by decide +kernel)) ggX6_addDot_X5_put
theorem dX6_addDot_0 : decode cX6_addDot 0 = .ok (.aload_n 0, 1) := by decide +kernel
theorem dX6_addDot_1 : decode cX6_addDot 1 = .ok (.getfield 26, 3) := by decide +kernel
theorem dX6_addDot_4 : decode cX6_addDot 4 = .ok (.aload_n 0, 1) := by decide +kernel
theorem dX6_addDot_5 : decode cX6_addDot 5 = .ok (.getfield 49, 3) := by decide +kernel
theorem dX6_addDot_8 : decode cX6_addDot 8 = .ok (.iload_n 1, 1) := by decide +kernel
theorem dX6_addDot_9 : decode cX6_addDot 9 = .ok (.invokevirtual 42, 3) := by decide +kernel
theorem dX6_addDot_12 : decode cX6_addDot 12 = .ok (.aload_n 0, 1) := by decide +kernel
theorem dX6_addDot_13 : decode cX6_addDot 13 = .ok (.getfield 29, 3) := by decide +kernel
theorem dX6_addDot_16 : decode cX6_addDot 16 = .ok (.aload_n 0, 1) := by decide +kernel
theorem dX6_addDot_17 : decode cX6_addDot 17 = .ok (.getfield 49, 3) := by decide +kernel
theorem dX6_addDot_20 : decode cX6_addDot 20 = .ok (.iload_n 2, 1) := by decide +kernel
theorem dX6_addDot_21 : decode cX6_addDot 21 = .ok (.invokevirtual 42, 3) := by decide +kernel
theorem dX6_addDot_24 : decode cX6_addDot 24 = .ok (.aload_n 0, 1) := by decide +kernel
theorem dX6_addDot_25 : decode cX6_addDot 25 = .ok (.getfield 32, 3) := by decide +kernel
theorem dX6_addDot_28 : decode cX6_addDot 28 = .ok (.aload_n 0, 1) := by decide +kernel
theorem dX6_addDot_29 : decode cX6_addDot 29 = .ok (.getfield 49, 3) := by decide +kernel
theorem dX6_addDot_32 : decode cX6_addDot 32 = .ok (.iload_n 3, 1) := by decide +kernel
theorem dX6_addDot_33 : decode cX6_addDot 33 = .ok (.invokevirtual 42, 3) := by decide +kernel
theorem dX6_addDot_36 : decode cX6_addDot 36 = .ok (.aload_n 0, 1) := by decide +kernel
theorem dX6_addDot_37 : decode cX6_addDot 37 = .ok (.dup, 1) := by decide +kernel
theorem dX6_addDot_38 : decode cX6_addDot 38 = .ok (.getfield 49, 3) := by decide +kernel
theorem dX6_addDot_41 : decode cX6_addDot 41 = .ok (.iconst 1, 1) := by decide +kernel
theorem dX6_addDot_42 : decode cX6_addDot 42 = .ok (.iadd, 1) := by decide +kernel
theorem dX6_addDot_43 : decode cX6_addDot 43 = .ok (.putfield 49, 3) := by decide +kernel
theorem dX6_addDot_46 : decode cX6_addDot 46 = .ok (.aload_n 0, 1) := by decide +kernel
theorem dX6_addDot_47 : decode cX6_addDot 47 = .ok (.getfield 49, 3) := by decide +kernel
theorem dX6_addDot_50 : decode cX6_addDot 50 = .ok (.iconst 1, 1) := by decide +kernel
theorem dX6_addDot_51 : decode cX6_addDot 51 = .ok (.isub, 1) := by decide +kernel
theorem dX6_addDot_52 : decode cX6_addDot 52 = .ok (.ireturn, 1) := by decide +kernel
set_option maxRecDepth 20000 in
theorem ggX6_replaceShift_X5_at : GoodIn wsX6_replaceShift wsX5_at := goodIn_r _ [6, 7, 22] (by decide +kernel) (by decide +kernel)
set_option maxRecDepth 20000 in
theorem gX6_replaceShift_X5_at : GoodIn wsX6_replaceShift (wsV RX6 52 RX5 yX5_at wsX5_at) := goodIn_app (goodIn_of _ (by decide +kernel)) ggX6_replaceShift_X5_at
set_option maxRecDepth 20000 in
theorem ggX6_replaceShift_X5_put : GoodIn wsX6_replaceShift wsX5_put := goodIn_r _ [11, 7, 22] (by decide +kernel) (by decide +kernel)
set_option maxRecDepth 20000 in
theorem gX6_replaceShift_X5_put : GoodIn wsX6_replaceShift (wsV RX6 42 RX5 yX5_put wsX5_put) := goodIn_app (goodIn_of _ (by decide +kernel)) ggX6_replaceShift_X5_put
theorem dX6_replaceShift_0 : decode cX6_replaceShift 0 = .ok (.aload_n 0, 1) := by decide +kernel
theorem dX6_replaceShift_1 : decode cX6_replaceShift 1 = .ok (.getfield 35, 3) := by decide +kernel
theorem dX6_replaceShift_4 : decode cX6_replaceShift 4 = .ok (.iload_n 1, 1) := by decide +kernel
theorem dX6_replaceShift_5 : decode cX6_replaceShift 5 = .ok (.invokevirtual 52, 3) := by decide +kernel
theorem dX6_replaceShift_8 : decode cX6_replaceShift 8 = .ok (.istore_n 3, 1) := by decide +kernel
theorem dX6_replaceShift_9 : decode cX6_replaceShift 9 = .ok (.aload_n 0, 1) := by decide +kernel
theorem dX6_replaceShift_10 : decode cX6_replaceShift 10 = .ok (.getfield 35, 3) := by decide +kernel
theorem dX6_replaceShift_13 : decode cX6_replaceShift 13 = .ok (.iload_n 1, 1) := by decide +kernel
theorem dX6_replaceShift_14 : decode cX6_replaceShift 14 = .ok (.iload_n 2, 1) := by decide +kernel
theorem dX6_replaceShift_15 : decode cX6_replaceShift 15 = .ok (.invokevirtual 42, 3) := by decide +kernel
theorem dX6_replaceShift_18 : decode cX6_replaceShift 18 = .ok (.iload_n 3, 1) := by decide +kernel
theorem dX6_replaceShift_19 : decode cX6_replaceShift 19 = .ok (.ireturn, 1) := by decide +kernel
set_option maxRecDepth 20000 in
theorem ggX6_plateOf_X5_at : GoodIn wsX6_plateOf wsX5_at := goodIn_r _ [6, 7, 18] (by decide +kernel) (by decide +kernel)
set_option maxRecDepth 20000 in
theorem gX6_plateOf_X5_at : GoodIn wsX6_plateOf (wsV RX6 52 RX5 yX5_at wsX5_at) := goodIn_app (goodIn_of _ (by decide +kernel)) ggX6_plateOf_X5_at
theorem dX6_plateOf_0 : decode cX6_plateOf 0 = .ok (.aload_n 0, 1) := by decide +kernel
theorem dX6_plateOf_1 : decode cX6_plateOf 1 = .ok (.getfield 26, 3) := by decide +kernel
theorem dX6_plateOf_4 : decode cX6_plateOf 4 = .ok (.iload_n 1, 1) := by decide +kernel
theorem dX6_plateOf_5 : decode cX6_plateOf 5 = .ok (.invokevirtual 52, 3) := by decide +kernel
theorem dX6_plateOf_8 : decode cX6_plateOf 8 = .ok (.ireturn, 1) := by decide +kernel
set_option maxRecDepth 20000 in
theorem ggX6_observatoryOf_X5_at : GoodIn wsX6_observatoryOf wsX5_at := goodIn_r _ [7, 8, 19] (by decide +kernel) (by decide +kernel)
set_option maxRecDepth 20000 in
theorem gX6_observatoryOf_X5_at : GoodIn wsX6_observatoryOf (wsV RX6 52 RX5 yX5_at wsX5_at) := goodIn_app (goodIn_of _ (by decide +kernel)) ggX6_observatoryOf_X5_at
theorem dX6_observatoryOf_0 : decode cX6_observatoryOf 0 = .ok (.aload_n 0, 1) := by decide +kernel
theorem dX6_observatoryOf_1 : decode cX6_observatoryOf 1 = .ok (.getfield 20, 3) := by decide +kernel
theorem dX6_observatoryOf_4 : decode cX6_observatoryOf 4 = .ok (.aload_n 0, 1) := by decide +kernel
theorem dX6_observatoryOf_5 : decode cX6_observatoryOf 5 = .ok (.getfield 26, 3) := by decide +kernel
theorem dX6_observatoryOf_8 : decode cX6_observatoryOf 8 = .ok (.iload_n 1, 1) := by decide +kernel
theorem dX6_observatoryOf_9 : decode cX6_observatoryOf 9 = .ok (.invokevirtual 52, 3) := by decide +kernel
theorem dX6_observatoryOf_12 : decode cX6_observatoryOf 12 = .ok (.invokevirtual 52, 3) := by decide +kernel
theorem dX6_observatoryOf_15 : decode cX6_observatoryOf 15 = .ok (.ireturn, 1) := by decide +kernel
set_option maxRecDepth 20000 in
theorem ggX6_errorOf_X5_at : GoodIn wsX6_errorOf wsX5_at := goodIn_r _ [8, 9, 20] (by decide +kernel) (by decide +kernel)
set_option maxRecDepth 20000 in
theorem gX6_errorOf_X5_at : GoodIn wsX6_errorOf (wsV RX6 52 RX5 yX5_at wsX5_at) := goodIn_app (goodIn_of _ (by decide +kernel)) ggX6_errorOf_X5_at
theorem dX6_errorOf_0 : decode cX6_errorOf 0 = .ok (.aload_n 0, 1) := by decide +kernel
theorem dX6_errorOf_1 : decode cX6_errorOf 1 = .ok (.getfield 14, 3) := by decide +kernel
theorem dX6_errorOf_4 : decode cX6_errorOf 4 = .ok (.aload_n 0, 1) := by decide +kernel
theorem dX6_errorOf_5 : decode cX6_errorOf 5 = .ok (.getfield 20, 3) := by decide +kernel
theorem dX6_errorOf_8 : decode cX6_errorOf 8 = .ok (.aload_n 0, 1) := by decide +kernel
theorem dX6_errorOf_9 : decode cX6_errorOf 9 = .ok (.getfield 26, 3) := by decide +kernel
theorem dX6_errorOf_12 : decode cX6_errorOf 12 = .ok (.iload_n 1, 1) := by decide +kernel
theorem dX6_errorOf_13 : decode cX6_errorOf 13 = .ok (.invokevirtual 52, 3) := by decide +kernel
theorem dX6_errorOf_16 : decode cX6_errorOf 16 = .ok (.invokevirtual 52, 3) := by decide +kernel
theorem dX6_errorOf_19 : decode cX6_errorOf 19 = .ok (.invokevirtual 52, 3) := by decide +kernel
theorem dX6_errorOf_22 : decode cX6_errorOf 22 = .ok (.ireturn, 1) := by decide +kernel
set_option maxRecDepth 20000 in
theorem ggX6_nightOf_X5_at : GoodIn wsX6_nightOf wsX5_at := goodIn_r _ [7, 8, 19] (by decide +kernel) (by decide +kernel)
set_option maxRecDepth 20000 in
theorem gX6_nightOf_X5_at : GoodIn wsX6_nightOf (wsV RX6 52 RX5 yX5_at wsX5_at) := goodIn_app (goodIn_of _ (by decide +kernel)) ggX6_nightOf_X5_at
theorem dX6_nightOf_0 : decode cX6_nightOf 0 = .ok (.aload_n 0, 1) := by decide +kernel
theorem dX6_nightOf_1 : decode cX6_nightOf 1 = .ok (.getfield 23, 3) := by decide +kernel
theorem dX6_nightOf_4 : decode cX6_nightOf 4 = .ok (.aload_n 0, 1) := by decide +kernel
theorem dX6_nightOf_5 : decode cX6_nightOf 5 = .ok (.getfield 26, 3) := by decide +kernel
theorem dX6_nightOf_8 : decode cX6_nightOf 8 = .ok (.iload_n 1, 1) := by decide +kernel
theorem dX6_nightOf_9 : decode cX6_nightOf 9 = .ok (.invokevirtual 52, 3) := by decide +kernel
theorem dX6_nightOf_12 : decode cX6_nightOf 12 = .ok (.invokevirtual 52, 3) := by decide +kernel
theorem dX6_nightOf_15 : decode cX6_nightOf 15 = .ok (.ireturn, 1) := by decide +kernel
set_option maxRecDepth 20000 in
theorem ggX6_lightOf_X5_at : GoodIn wsX6_lightOf wsX5_at := goodIn_r _ [6, 7, 18] (by decide +kernel) (by decide +kernel)
set_option maxRecDepth 20000 in
theorem gX6_lightOf_X5_at : GoodIn wsX6_lightOf (wsV RX6 52 RX5 yX5_at wsX5_at) := goodIn_app (goodIn_of _ (by decide +kernel)) ggX6_lightOf_X5_at
theorem dX6_lightOf_0 : decode cX6_lightOf 0 = .ok (.aload_n 0, 1) := by decide +kernel
theorem dX6_lightOf_1 : decode cX6_lightOf 1 = .ok (.getfield 32, 3) := by decide +kernel
theorem dX6_lightOf_4 : decode cX6_lightOf 4 = .ok (.iload_n 1, 1) := by decide +kernel
theorem dX6_lightOf_5 : decode cX6_lightOf 5 = .ok (.invokevirtual 52, 3) := by decide +kernel
theorem dX6_lightOf_8 : decode cX6_lightOf 8 = .ok (.ireturn, 1) := by decide +kernel
set_option maxRecDepth 20000 in
theorem ggX6_truePlaceOf_X5_at : GoodIn wsX6_truePlaceOf wsX5_at := goodIn_r _ [7, 8, 23] (by decide +kernel) (by decide +kernel)
set_option maxRecDepth 20000 in
theorem gX6_truePlaceOf_X5_at : GoodIn wsX6_truePlaceOf (wsV RX6 52 RX5 yX5_at wsX5_at) := goodIn_app (goodIn_of _ (by decide +kernel)) ggX6_truePlaceOf_X5_at
set_option maxRecDepth 20000 in
theorem ggX6_truePlaceOf_J9_floorMod_7cf53 : GoodIn wsX6_truePlaceOf wsJ9_floorMod_7cf53 := goodIn_r _ [12] (by decide +kernel) (by decide +kernel)
set_option maxRecDepth 20000 in
theorem gX6_truePlaceOf_J9_floorMod_7cf53 : GoodIn wsX6_truePlaceOf (va_wsS RX6 56 yJ9_floorMod_7cf53 wsJ9_floorMod_7cf53) := goodIn_app (goodIn_of _ (by decide +kernel)) ggX6_truePlaceOf_J9_floorMod_7cf53
theorem dX6_truePlaceOf_0 : decode cX6_truePlaceOf 0 = .ok (.aload_n 0, 1) := by decide +kernel
theorem dX6_truePlaceOf_1 : decode cX6_truePlaceOf 1 = .ok (.getfield 29, 3) := by decide +kernel
theorem dX6_truePlaceOf_4 : decode cX6_truePlaceOf 4 = .ok (.iload_n 1, 1) := by decide +kernel
theorem dX6_truePlaceOf_5 : decode cX6_truePlaceOf 5 = .ok (.invokevirtual 52, 3) := by decide +kernel
theorem dX6_truePlaceOf_8 : decode cX6_truePlaceOf 8 = .ok (.istore_n 2, 1) := by decide +kernel
theorem dX6_truePlaceOf_9 : decode cX6_truePlaceOf 9 = .ok (.iload_n 2, 1) := by decide +kernel
theorem dX6_truePlaceOf_10 : decode cX6_truePlaceOf 10 = .ok (.aload_n 0, 1) := by decide +kernel
theorem dX6_truePlaceOf_11 : decode cX6_truePlaceOf 11 = .ok (.getfield 35, 3) := by decide +kernel
theorem dX6_truePlaceOf_14 : decode cX6_truePlaceOf 14 = .ok (.iload_n 2, 1) := by decide +kernel
theorem dX6_truePlaceOf_15 : decode cX6_truePlaceOf 15 = .ok (.sipush 400, 3) := by decide +kernel
theorem dX6_truePlaceOf_18 : decode cX6_truePlaceOf 18 = .ok (.idiv, 1) := by decide +kernel
theorem dX6_truePlaceOf_19 : decode cX6_truePlaceOf 19 = .ok (.invokevirtual 52, 3) := by decide +kernel
theorem dX6_truePlaceOf_22 : decode cX6_truePlaceOf 22 = .ok (.iadd, 1) := by decide +kernel
theorem dX6_truePlaceOf_23 : decode cX6_truePlaceOf 23 = .ok (.sipush 3600, 3) := by decide +kernel
theorem dX6_truePlaceOf_26 : decode cX6_truePlaceOf 26 = .ok (.invokestatic 56, 3) := by decide +kernel
theorem dX6_truePlaceOf_29 : decode cX6_truePlaceOf 29 = .ok (.ireturn, 1) := by decide +kernel
theorem dJ13_bitCount_95d88_0 : decode cJ13_bitCount_95d88 0 = .ok (.lload_n 0, 1) := by decide +kernel
theorem dJ13_bitCount_95d88_1 : decode cJ13_bitCount_95d88 1 = .ok (.lload_n 0, 1) := by decide +kernel
theorem dJ13_bitCount_95d88_2 : decode cJ13_bitCount_95d88 2 = .ok (.iconst 1, 1) := by decide +kernel
theorem dJ13_bitCount_95d88_3 : decode cJ13_bitCount_95d88 3 = .ok (.lushr, 1) := by decide +kernel
theorem dJ13_bitCount_95d88_4 : decode cJ13_bitCount_95d88 4 = .ok (.ldc2_w 314, 3) := by decide +kernel
theorem dJ13_bitCount_95d88_7 : decode cJ13_bitCount_95d88 7 = .ok (.land, 1) := by decide +kernel
theorem dJ13_bitCount_95d88_8 : decode cJ13_bitCount_95d88 8 = .ok (.lsub, 1) := by decide +kernel
theorem dJ13_bitCount_95d88_9 : decode cJ13_bitCount_95d88 9 = .ok (.lstore_n 0, 1) := by decide +kernel
theorem dJ13_bitCount_95d88_10 : decode cJ13_bitCount_95d88 10 = .ok (.lload_n 0, 1) := by decide +kernel
theorem dJ13_bitCount_95d88_11 : decode cJ13_bitCount_95d88 11 = .ok (.ldc2_w 316, 3) := by decide +kernel
theorem dJ13_bitCount_95d88_14 : decode cJ13_bitCount_95d88 14 = .ok (.land, 1) := by decide +kernel
theorem dJ13_bitCount_95d88_15 : decode cJ13_bitCount_95d88 15 = .ok (.lload_n 0, 1) := by decide +kernel
theorem dJ13_bitCount_95d88_16 : decode cJ13_bitCount_95d88 16 = .ok (.iconst 2, 1) := by decide +kernel
theorem dJ13_bitCount_95d88_17 : decode cJ13_bitCount_95d88 17 = .ok (.lushr, 1) := by decide +kernel
theorem dJ13_bitCount_95d88_18 : decode cJ13_bitCount_95d88 18 = .ok (.ldc2_w 316, 3) := by decide +kernel
theorem dJ13_bitCount_95d88_21 : decode cJ13_bitCount_95d88 21 = .ok (.land, 1) := by decide +kernel
theorem dJ13_bitCount_95d88_22 : decode cJ13_bitCount_95d88 22 = .ok (.ladd, 1) := by decide +kernel
theorem dJ13_bitCount_95d88_23 : decode cJ13_bitCount_95d88 23 = .ok (.lstore_n 0, 1) := by decide +kernel
theorem dJ13_bitCount_95d88_24 : decode cJ13_bitCount_95d88 24 = .ok (.lload_n 0, 1) := by decide +kernel
theorem dJ13_bitCount_95d88_25 : decode cJ13_bitCount_95d88 25 = .ok (.lload_n 0, 1) := by decide +kernel
theorem dJ13_bitCount_95d88_26 : decode cJ13_bitCount_95d88 26 = .ok (.iconst 4, 1) := by decide +kernel
theorem dJ13_bitCount_95d88_27 : decode cJ13_bitCount_95d88 27 = .ok (.lushr, 1) := by decide +kernel
theorem dJ13_bitCount_95d88_28 : decode cJ13_bitCount_95d88 28 = .ok (.ladd, 1) := by decide +kernel
theorem dJ13_bitCount_95d88_29 : decode cJ13_bitCount_95d88 29 = .ok (.ldc2_w 318, 3) := by decide +kernel
theorem dJ13_bitCount_95d88_32 : decode cJ13_bitCount_95d88 32 = .ok (.land, 1) := by decide +kernel
theorem dJ13_bitCount_95d88_33 : decode cJ13_bitCount_95d88 33 = .ok (.lstore_n 0, 1) := by decide +kernel
theorem dJ13_bitCount_95d88_34 : decode cJ13_bitCount_95d88 34 = .ok (.lload_n 0, 1) := by decide +kernel
theorem dJ13_bitCount_95d88_35 : decode cJ13_bitCount_95d88 35 = .ok (.lload_n 0, 1) := by decide +kernel
theorem dJ13_bitCount_95d88_36 : decode cJ13_bitCount_95d88 36 = .ok (.bipush 8, 2) := by decide +kernel
theorem dJ13_bitCount_95d88_38 : decode cJ13_bitCount_95d88 38 = .ok (.lushr, 1) := by decide +kernel
theorem dJ13_bitCount_95d88_39 : decode cJ13_bitCount_95d88 39 = .ok (.ladd, 1) := by decide +kernel
theorem dJ13_bitCount_95d88_40 : decode cJ13_bitCount_95d88 40 = .ok (.lstore_n 0, 1) := by decide +kernel
theorem dJ13_bitCount_95d88_41 : decode cJ13_bitCount_95d88 41 = .ok (.lload_n 0, 1) := by decide +kernel
theorem dJ13_bitCount_95d88_42 : decode cJ13_bitCount_95d88 42 = .ok (.lload_n 0, 1) := by decide +kernel
theorem dJ13_bitCount_95d88_43 : decode cJ13_bitCount_95d88 43 = .ok (.bipush 16, 2) := by decide +kernel
theorem dJ13_bitCount_95d88_45 : decode cJ13_bitCount_95d88 45 = .ok (.lushr, 1) := by decide +kernel
theorem dJ13_bitCount_95d88_46 : decode cJ13_bitCount_95d88 46 = .ok (.ladd, 1) := by decide +kernel
theorem dJ13_bitCount_95d88_47 : decode cJ13_bitCount_95d88 47 = .ok (.lstore_n 0, 1) := by decide +kernel
theorem dJ13_bitCount_95d88_48 : decode cJ13_bitCount_95d88 48 = .ok (.lload_n 0, 1) := by decide +kernel
theorem dJ13_bitCount_95d88_49 : decode cJ13_bitCount_95d88 49 = .ok (.lload_n 0, 1) := by decide +kernel
theorem dJ13_bitCount_95d88_50 : decode cJ13_bitCount_95d88 50 = .ok (.bipush 32, 2) := by decide +kernel
theorem dJ13_bitCount_95d88_52 : decode cJ13_bitCount_95d88 52 = .ok (.lushr, 1) := by decide +kernel
theorem dJ13_bitCount_95d88_53 : decode cJ13_bitCount_95d88 53 = .ok (.ladd, 1) := by decide +kernel
theorem dJ13_bitCount_95d88_54 : decode cJ13_bitCount_95d88 54 = .ok (.lstore_n 0, 1) := by decide +kernel
theorem dJ13_bitCount_95d88_55 : decode cJ13_bitCount_95d88 55 = .ok (.lload_n 0, 1) := by decide +kernel
theorem dJ13_bitCount_95d88_56 : decode cJ13_bitCount_95d88 56 = .ok (.l2i, 1) := by decide +kernel
theorem dJ13_bitCount_95d88_57 : decode cJ13_bitCount_95d88 57 = .ok (.bipush 127, 2) := by decide +kernel
theorem dJ13_bitCount_95d88_59 : decode cJ13_bitCount_95d88 59 = .ok (.iand, 1) := by decide +kernel
theorem dJ13_bitCount_95d88_60 : decode cJ13_bitCount_95d88 60 = .ok (.ireturn, 1) := by decide +kernel
theorem dJ9_floorMod_7cf53_0 : decode cJ9_floorMod_7cf53 0 = .ok (.iload_n 0, 1) := by decide +kernel
theorem dJ9_floorMod_7cf53_1 : decode cJ9_floorMod_7cf53 1 = .ok (.iload_n 1, 1) := by decide +kernel
theorem dJ9_floorMod_7cf53_2 : decode cJ9_floorMod_7cf53 2 = .ok (.irem, 1) := by decide +kernel
theorem dJ9_floorMod_7cf53_3 : decode cJ9_floorMod_7cf53 3 = .ok (.istore_n 2, 1) := by decide +kernel
theorem dJ9_floorMod_7cf53_4 : decode cJ9_floorMod_7cf53 4 = .ok (.iload_n 0, 1) := by decide +kernel
theorem dJ9_floorMod_7cf53_5 : decode cJ9_floorMod_7cf53 5 = .ok (.iload_n 1, 1) := by decide +kernel
theorem dJ9_floorMod_7cf53_6 : decode cJ9_floorMod_7cf53 6 = .ok (.ixor, 1) := by decide +kernel
theorem dJ9_floorMod_7cf53_7 : decode cJ9_floorMod_7cf53 7 = .ok (.ifCond .ge 11, 3) := by decide +kernel
theorem dJ9_floorMod_7cf53_10 : decode cJ9_floorMod_7cf53 10 = .ok (.iload_n 2, 1) := by decide +kernel
theorem dJ9_floorMod_7cf53_11 : decode cJ9_floorMod_7cf53 11 = .ok (.ifCond .eq 7, 3) := by decide +kernel
theorem dJ9_floorMod_7cf53_14 : decode cJ9_floorMod_7cf53 14 = .ok (.iload_n 2, 1) := by decide +kernel
theorem dJ9_floorMod_7cf53_15 : decode cJ9_floorMod_7cf53 15 = .ok (.iload_n 1, 1) := by decide +kernel
theorem dJ9_floorMod_7cf53_16 : decode cJ9_floorMod_7cf53 16 = .ok (.iadd, 1) := by decide +kernel
theorem dJ9_floorMod_7cf53_17 : decode cJ9_floorMod_7cf53 17 = .ok (.ireturn, 1) := by decide +kernel
theorem dJ9_floorMod_7cf53_18 : decode cJ9_floorMod_7cf53 18 = .ok (.iload_n 2, 1) := by decide +kernel
theorem dJ9_floorMod_7cf53_19 : decode cJ9_floorMod_7cf53 19 = .ok (.ireturn, 1) := by decide +kernel
theorem dJ9_abs_0f7a4_0 : decode cJ9_abs_0f7a4 0 = .ok (.iload_n 0, 1) := by decide +kernel
theorem dJ9_abs_0f7a4_1 : decode cJ9_abs_0f7a4 1 = .ok (.ifCond .ge 8, 3) := by decide +kernel
theorem dJ9_abs_0f7a4_4 : decode cJ9_abs_0f7a4 4 = .ok (.iload_n 0, 1) := by decide +kernel
theorem dJ9_abs_0f7a4_5 : decode cJ9_abs_0f7a4 5 = .ok (.ineg, 1) := by decide +kernel
theorem dJ9_abs_0f7a4_6 : decode cJ9_abs_0f7a4 6 = .ok (.goto 4, 3) := by decide +kernel
theorem dJ9_abs_0f7a4_9 : decode cJ9_abs_0f7a4 9 = .ok (.iload_n 0, 1) := by decide +kernel
theorem dJ9_abs_0f7a4_10 : decode cJ9_abs_0f7a4 10 = .ok (.ireturn, 1) := by decide +kernel
theorem dJ9_max_7cf53_0 : decode cJ9_max_7cf53 0 = .ok (.iload_n 0, 1) := by decide +kernel
theorem dJ9_max_7cf53_1 : decode cJ9_max_7cf53 1 = .ok (.iload_n 1, 1) := by decide +kernel
theorem dJ9_max_7cf53_2 : decode cJ9_max_7cf53 2 = .ok (.if_icmp .lt 7, 3) := by decide +kernel
theorem dJ9_max_7cf53_5 : decode cJ9_max_7cf53 5 = .ok (.iload_n 0, 1) := by decide +kernel
theorem dJ9_max_7cf53_6 : decode cJ9_max_7cf53 6 = .ok (.goto 4, 3) := by decide +kernel
theorem dJ9_max_7cf53_9 : decode cJ9_max_7cf53 9 = .ok (.iload_n 1, 1) := by decide +kernel
theorem dJ9_max_7cf53_10 : decode cJ9_max_7cf53 10 = .ok (.ireturn, 1) := by decide +kernel
theorem dJ9_min_7cf53_0 : decode cJ9_min_7cf53 0 = .ok (.iload_n 0, 1) := by decide +kernel
theorem dJ9_min_7cf53_1 : decode cJ9_min_7cf53 1 = .ok (.iload_n 1, 1) := by decide +kernel
theorem dJ9_min_7cf53_2 : decode cJ9_min_7cf53 2 = .ok (.if_icmp .gt 7, 3) := by decide +kernel
theorem dJ9_min_7cf53_5 : decode cJ9_min_7cf53 5 = .ok (.iload_n 0, 1) := by decide +kernel
theorem dJ9_min_7cf53_6 : decode cJ9_min_7cf53 6 = .ok (.goto 4, 3) := by decide +kernel
theorem dJ9_min_7cf53_9 : decode cJ9_min_7cf53 9 = .ok (.iload_n 1, 1) := by decide +kernel
theorem dJ9_min_7cf53_10 : decode cJ9_min_7cf53 10 = .ok (.ireturn, 1) := by decide +kernel
