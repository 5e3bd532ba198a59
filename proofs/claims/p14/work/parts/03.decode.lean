theorem dX4_init_0 : decode cX4_init 0 = .ok (.aload_n 0, 1) := by decide +kernel
theorem dX4_init_1 : decode cX4_init 1 = .ok (.invokespecial 1, 3) := by decide +kernel
theorem dX4_init_4 : decode cX4_init 4 = .ok (.aload_n 0, 1) := by decide +kernel
theorem dX4_init_5 : decode cX4_init 5 = .ok (.ldc 7, 2) := by decide +kernel
theorem dX4_init_7 : decode cX4_init 7 = .ok (.newarray .byte, 2) := by decide +kernel
theorem dX4_init_9 : decode cX4_init 9 = .ok (.putfield 8, 3) := by decide +kernel
theorem dX4_init_12 : decode cX4_init 12 = .ok (.aload_n 0, 1) := by decide +kernel
theorem dX4_init_13 : decode cX4_init 13 = .ok (.sipush 400, 3) := by decide +kernel
theorem dX4_init_16 : decode cX4_init 16 = .ok (.newarray .int, 2) := by decide +kernel
theorem dX4_init_18 : decode cX4_init 18 = .ok (.putfield 14, 3) := by decide +kernel
theorem dX4_init_21 : decode cX4_init 21 = .ok (.aload_n 0, 1) := by decide +kernel
theorem dX4_init_22 : decode cX4_init 22 = .ok (.sipush 400, 3) := by decide +kernel
theorem dX4_init_25 : decode cX4_init 25 = .ok (.newarray .int, 2) := by decide +kernel
theorem dX4_init_27 : decode cX4_init 27 = .ok (.putfield 18, 3) := by decide +kernel
theorem dX4_init_30 : decode cX4_init 30 = .ok (.aload_n 0, 1) := by decide +kernel
theorem dX4_init_31 : decode cX4_init 31 = .ok (.bipush 40, 2) := by decide +kernel
theorem dX4_init_33 : decode cX4_init 33 = .ok (.newarray .int, 2) := by decide +kernel
theorem dX4_init_35 : decode cX4_init 35 = .ok (.putfield 21, 3) := by decide +kernel
theorem dX4_init_38 : decode cX4_init 38 = .ok (.aload_n 0, 1) := by decide +kernel
theorem dX4_init_39 : decode cX4_init 39 = .ok (.sipush 400, 3) := by decide +kernel
theorem dX4_init_42 : decode cX4_init 42 = .ok (.newarray .boolean, 2) := by decide +kernel
theorem dX4_init_44 : decode cX4_init 44 = .ok (.putfield 24, 3) := by decide +kernel
theorem dX4_init_47 : decode cX4_init 47 = .ok (.aload_n 0, 1) := by decide +kernel
theorem dX4_init_48 : decode cX4_init 48 = .ok (.sipush 400, 3) := by decide +kernel
theorem dX4_init_51 : decode cX4_init 51 = .ok (.newarray .boolean, 2) := by decide +kernel
theorem dX4_init_53 : decode cX4_init 53 = .ok (.putfield 28, 3) := by decide +kernel
theorem dX4_init_56 : decode cX4_init 56 = .ok (.aload_n 0, 1) := by decide +kernel
theorem dX4_init_57 : decode cX4_init 57 = .ok (.sipush 4096, 3) := by decide +kernel
theorem dX4_init_60 : decode cX4_init 60 = .ok (.newarray .byte, 2) := by decide +kernel
theorem dX4_init_62 : decode cX4_init 62 = .ok (.putfield 31, 3) := by decide +kernel
theorem dX4_init_65 : decode cX4_init 65 = .ok (.aload_n 0, 1) := by decide +kernel
theorem dX4_init_66 : decode cX4_init 66 = .ok (.bipush 64, 2) := by decide +kernel
theorem dX4_init_68 : decode cX4_init 68 = .ok (.newarray .int, 2) := by decide +kernel
theorem dX4_init_70 : decode cX4_init 70 = .ok (.putfield 34, 3) := by decide +kernel
theorem dX4_init_73 : decode cX4_init 73 = .ok (.aload_n 0, 1) := by decide +kernel
theorem dX4_init_74 : decode cX4_init 74 = .ok (.bipush 64, 2) := by decide +kernel
theorem dX4_init_76 : decode cX4_init 76 = .ok (.newarray .int, 2) := by decide +kernel
theorem dX4_init_78 : decode cX4_init 78 = .ok (.putfield 37, 3) := by decide +kernel
theorem dX4_init_81 : decode cX4_init 81 = .ok (.aload_n 0, 1) := by decide +kernel
theorem dX4_init_82 : decode cX4_init 82 = .ok (.bipush 64, 2) := by decide +kernel
theorem dX4_init_84 : decode cX4_init 84 = .ok (.newarray .int, 2) := by decide +kernel
theorem dX4_init_86 : decode cX4_init 86 = .ok (.putfield 40, 3) := by decide +kernel
theorem dX4_init_89 : decode cX4_init 89 = .ok (.aload_n 0, 1) := by decide +kernel
theorem dX4_init_90 : decode cX4_init 90 = .ok (.getfield 14, 3) := by decide +kernel
theorem dX4_init_93 : decode cX4_init 93 = .ok (.iconst 0, 1) := by decide +kernel
theorem dX4_init_94 : decode cX4_init 94 = .ok (.iconst (-1), 1) := by decide +kernel
theorem dX4_init_95 : decode cX4_init 95 = .ok (.iastore, 1) := by decide +kernel
theorem dX4_init_96 : decode cX4_init 96 = .ok (.aload_n 0, 1) := by decide +kernel
theorem dX4_init_97 : decode cX4_init 97 = .ok (.getfield 18, 3) := by decide +kernel
theorem dX4_init_100 : decode cX4_init 100 = .ok (.iconst 0, 1) := by decide +kernel
theorem dX4_init_101 : decode cX4_init 101 = .ok (.iconst (-1), 1) := by decide +kernel
theorem dX4_init_102 : decode cX4_init 102 = .ok (.iastore, 1) := by decide +kernel
theorem dX4_init_103 : decode cX4_init 103 = .ok (.aload_n 0, 1) := by decide +kernel
theorem dX4_init_104 : decode cX4_init 104 = .ok (.iconst 1, 1) := by decide +kernel
theorem dX4_init_105 : decode cX4_init 105 = .ok (.putfield 43, 3) := by decide +kernel
theorem dX4_init_108 : decode cX4_init 108 = .ok (.aload_n 0, 1) := by decide +kernel
theorem dX4_init_109 : decode cX4_init 109 = .ok (.iconst 1, 1) := by decide +kernel
theorem dX4_init_110 : decode cX4_init 110 = .ok (.putfield 47, 3) := by decide +kernel
theorem dX4_init_113 : decode cX4_init 113 = .ok (.return_, 1) := by decide +kernel
theorem dX4_isBranch_0 : decode cX4_isBranch 0 = .ok (.iload_n 1, 1) := by decide +kernel
theorem dX4_isBranch_1 : decode cX4_isBranch 1 = .ok (.ifCond .lt 15, 3) := by decide +kernel
theorem dX4_isBranch_4 : decode cX4_isBranch 4 = .ok (.iload_n 1, 1) := by decide +kernel
theorem dX4_isBranch_5 : decode cX4_isBranch 5 = .ok (.aload_n 0, 1) := by decide +kernel
theorem dX4_isBranch_6 : decode cX4_isBranch 6 = .ok (.getfield 47, 3) := by decide +kernel
theorem dX4_isBranch_9 : decode cX4_isBranch 9 = .ok (.if_icmp .ge 7, 3) := by decide +kernel
theorem dX4_isBranch_12 : decode cX4_isBranch 12 = .ok (.iconst 1, 1) := by decide +kernel
theorem dX4_isBranch_13 : decode cX4_isBranch 13 = .ok (.goto 4, 3) := by decide +kernel
theorem dX4_isBranch_16 : decode cX4_isBranch 16 = .ok (.iconst 0, 1) := by decide +kernel
theorem dX4_isBranch_17 : decode cX4_isBranch 17 = .ok (.ireturn, 1) := by decide +kernel
theorem dX4_isVersion_0 : decode cX4_isVersion 0 = .ok (.iload_n 1, 1) := by decide +kernel
theorem dX4_isVersion_1 : decode cX4_isVersion 1 = .ok (.ifCond .lt 15, 3) := by decide +kernel
theorem dX4_isVersion_4 : decode cX4_isVersion 4 = .ok (.iload_n 1, 1) := by decide +kernel
theorem dX4_isVersion_5 : decode cX4_isVersion 5 = .ok (.aload_n 0, 1) := by decide +kernel
theorem dX4_isVersion_6 : decode cX4_isVersion 6 = .ok (.getfield 43, 3) := by decide +kernel
theorem dX4_isVersion_9 : decode cX4_isVersion 9 = .ok (.if_icmp .ge 7, 3) := by decide +kernel
theorem dX4_isVersion_12 : decode cX4_isVersion 12 = .ok (.iconst 1, 1) := by decide +kernel
theorem dX4_isVersion_13 : decode cX4_isVersion 13 = .ok (.goto 4, 3) := by decide +kernel
theorem dX4_isVersion_16 : decode cX4_isVersion 16 = .ok (.iconst 0, 1) := by decide +kernel
theorem dX4_isVersion_17 : decode cX4_isVersion 17 = .ok (.ireturn, 1) := by decide +kernel
theorem dX4_isTriple_0 : decode cX4_isTriple 0 = .ok (.iload_n 0, 1) := by decide +kernel
theorem dX4_isTriple_1 : decode cX4_isTriple 1 = .ok (.ifCond .lt 14, 3) := by decide +kernel
theorem dX4_isTriple_4 : decode cX4_isTriple 4 = .ok (.iload_n 0, 1) := by decide +kernel
theorem dX4_isTriple_5 : decode cX4_isTriple 5 = .ok (.sipush 4096, 3) := by decide +kernel
theorem dX4_isTriple_8 : decode cX4_isTriple 8 = .ok (.if_icmp .ge 7, 3) := by decide +kernel
theorem dX4_isTriple_11 : decode cX4_isTriple 11 = .ok (.iconst 1, 1) := by decide +kernel
theorem dX4_isTriple_12 : decode cX4_isTriple 12 = .ok (.goto 4, 3) := by decide +kernel
theorem dX4_isTriple_15 : decode cX4_isTriple 15 = .ok (.iconst 0, 1) := by decide +kernel
theorem dX4_isTriple_16 : decode cX4_isTriple 16 = .ok (.ireturn, 1) := by decide +kernel
theorem dX4_has_0 : decode cX4_has 0 = .ok (.iload_n 1, 1) := by decide +kernel
theorem dX4_has_1 : decode cX4_has 1 = .ok (.ifCond .lt 23, 3) := by decide +kernel
theorem dX4_has_4 : decode cX4_has 4 = .ok (.aload_n 0, 1) := by decide +kernel
theorem dX4_has_5 : decode cX4_has 5 = .ok (.getfield 8, 3) := by decide +kernel
theorem dX4_has_8 : decode cX4_has 8 = .ok (.sipush 4096, 3) := by decide +kernel
theorem dX4_has_11 : decode cX4_has 11 = .ok (.iload_n 1, 1) := by decide +kernel
theorem dX4_has_12 : decode cX4_has 12 = .ok (.imul, 1) := by decide +kernel
theorem dX4_has_13 : decode cX4_has 13 = .ok (.iload_n 2, 1) := by decide +kernel
theorem dX4_has_14 : decode cX4_has 14 = .ok (.iadd, 1) := by decide +kernel
theorem dX4_has_15 : decode cX4_has 15 = .ok (.baload, 1) := by decide +kernel
theorem dX4_has_16 : decode cX4_has 16 = .ok (.iconst 1, 1) := by decide +kernel
theorem dX4_has_17 : decode cX4_has 17 = .ok (.if_icmp .ne 7, 3) := by decide +kernel
theorem dX4_has_20 : decode cX4_has 20 = .ok (.iconst 1, 1) := by decide +kernel
theorem dX4_has_21 : decode cX4_has 21 = .ok (.goto 4, 3) := by decide +kernel
theorem dX4_has_24 : decode cX4_has 24 = .ok (.iconst 0, 1) := by decide +kernel
theorem dX4_has_25 : decode cX4_has 25 = .ok (.ireturn, 1) := by decide +kernel
theorem dX4_grow_0 : decode cX4_grow 0 = .ok (.aload_n 0, 1) := by decide +kernel
theorem dX4_grow_1 : decode cX4_grow 1 = .ok (.getfield 14, 3) := by decide +kernel
theorem dX4_grow_4 : decode cX4_grow 4 = .ok (.aload_n 0, 1) := by decide +kernel
theorem dX4_grow_5 : decode cX4_grow 5 = .ok (.getfield 43, 3) := by decide +kernel
theorem dX4_grow_8 : decode cX4_grow 8 = .ok (.iload_n 1, 1) := by decide +kernel
theorem dX4_grow_9 : decode cX4_grow 9 = .ok (.iastore, 1) := by decide +kernel
theorem dX4_grow_10 : decode cX4_grow 10 = .ok (.aload_n 0, 1) := by decide +kernel
theorem dX4_grow_11 : decode cX4_grow 11 = .ok (.getfield 18, 3) := by decide +kernel
theorem dX4_grow_14 : decode cX4_grow 14 = .ok (.aload_n 0, 1) := by decide +kernel
theorem dX4_grow_15 : decode cX4_grow 15 = .ok (.getfield 43, 3) := by decide +kernel
theorem dX4_grow_18 : decode cX4_grow 18 = .ok (.iload_n 2, 1) := by decide +kernel
theorem dX4_grow_19 : decode cX4_grow 19 = .ok (.iastore, 1) := by decide +kernel
theorem dX4_grow_20 : decode cX4_grow 20 = .ok (.iconst 0, 1) := by decide +kernel
theorem dX4_grow_21 : decode cX4_grow 21 = .ok (.istore_n 3, 1) := by decide +kernel
theorem dX4_grow_22 : decode cX4_grow 22 = .ok (.iload_n 3, 1) := by decide +kernel
theorem dX4_grow_23 : decode cX4_grow 23 = .ok (.sipush 4096, 3) := by decide +kernel
theorem dX4_grow_26 : decode cX4_grow 26 = .ok (.if_icmp .ge 30, 3) := by decide +kernel
theorem dX4_grow_29 : decode cX4_grow 29 = .ok (.aload_n 0, 1) := by decide +kernel
theorem dX4_grow_30 : decode cX4_grow 30 = .ok (.getfield 8, 3) := by decide +kernel
theorem dX4_grow_33 : decode cX4_grow 33 = .ok (.sipush 4096, 3) := by decide +kernel
theorem dX4_grow_36 : decode cX4_grow 36 = .ok (.aload_n 0, 1) := by decide +kernel
theorem dX4_grow_37 : decode cX4_grow 37 = .ok (.getfield 43, 3) := by decide +kernel
theorem dX4_grow_40 : decode cX4_grow 40 = .ok (.imul, 1) := by decide +kernel
theorem dX4_grow_41 : decode cX4_grow 41 = .ok (.iload_n 3, 1) := by decide +kernel
theorem dX4_grow_42 : decode cX4_grow 42 = .ok (.iadd, 1) := by decide +kernel
theorem dX4_grow_43 : decode cX4_grow 43 = .ok (.aload_n 0, 1) := by decide +kernel
theorem dX4_grow_44 : decode cX4_grow 44 = .ok (.getfield 31, 3) := by decide +kernel
theorem dX4_grow_47 : decode cX4_grow 47 = .ok (.iload_n 3, 1) := by decide +kernel
theorem dX4_grow_48 : decode cX4_grow 48 = .ok (.baload, 1) := by decide +kernel
theorem dX4_grow_49 : decode cX4_grow 49 = .ok (.bastore, 1) := by decide +kernel
theorem dX4_grow_50 : decode cX4_grow 50 = .ok (.iinc 3 1, 3) := by decide +kernel
theorem dX4_grow_53 : decode cX4_grow 53 = .ok (.goto (-31), 3) := by decide +kernel
theorem dX4_grow_56 : decode cX4_grow 56 = .ok (.aload_n 0, 1) := by decide +kernel
theorem dX4_grow_57 : decode cX4_grow 57 = .ok (.dup, 1) := by decide +kernel
theorem dX4_grow_58 : decode cX4_grow 58 = .ok (.getfield 43, 3) := by decide +kernel
theorem dX4_grow_61 : decode cX4_grow 61 = .ok (.iconst 1, 1) := by decide +kernel
theorem dX4_grow_62 : decode cX4_grow 62 = .ok (.iadd, 1) := by decide +kernel
theorem dX4_grow_63 : decode cX4_grow 63 = .ok (.putfield 43, 3) := by decide +kernel
theorem dX4_grow_66 : decode cX4_grow 66 = .ok (.aload_n 0, 1) := by decide +kernel
theorem dX4_grow_67 : decode cX4_grow 67 = .ok (.getfield 43, 3) := by decide +kernel
theorem dX4_grow_70 : decode cX4_grow 70 = .ok (.iconst 1, 1) := by decide +kernel
theorem dX4_grow_71 : decode cX4_grow 71 = .ok (.isub, 1) := by decide +kernel
theorem dX4_grow_72 : decode cX4_grow 72 = .ok (.ireturn, 1) := by decide +kernel
set_option maxRecDepth 20000 in
theorem ggX4_take_X4_has : GoodIn wsX4_take wsX4_has := goodIn_r _ [6, 7, 8, 9, 10, 11, 12, 13, 14, 15, 16, 17, 18, 19, 20] (by decide +kernel) (by decide +kernel)
set_option maxRecDepth 20000 in
theorem gX4_take_X4_has : GoodIn wsX4_take (wsV RX4 50 RX4 yX4_has wsX4_has) := goodIn_app (goodIn_of _ (by decide +kernel)) ggX4_take_X4_has
theorem dX4_take_0 : decode cX4_take 0 = .ok (.iconst 0, 1) := by decide +kernel
theorem dX4_take_1 : decode cX4_take 1 = .ok (.istore_n 2, 1) := by decide +kernel
theorem dX4_take_2 : decode cX4_take 2 = .ok (.iload_n 2, 1) := by decide +kernel
theorem dX4_take_3 : decode cX4_take 3 = .ok (.sipush 4096, 3) := by decide +kernel
theorem dX4_take_6 : decode cX4_take 6 = .ok (.if_icmp .ge 30, 3) := by decide +kernel
theorem dX4_take_9 : decode cX4_take 9 = .ok (.aload_n 0, 1) := by decide +kernel
theorem dX4_take_10 : decode cX4_take 10 = .ok (.getfield 31, 3) := by decide +kernel
theorem dX4_take_13 : decode cX4_take 13 = .ok (.iload_n 2, 1) := by decide +kernel
theorem dX4_take_14 : decode cX4_take 14 = .ok (.aload_n 0, 1) := by decide +kernel
theorem dX4_take_15 : decode cX4_take 15 = .ok (.iload_n 1, 1) := by decide +kernel
theorem dX4_take_16 : decode cX4_take 16 = .ok (.iload_n 2, 1) := by decide +kernel
theorem dX4_take_17 : decode cX4_take 17 = .ok (.invokevirtual 50, 3) := by decide +kernel
theorem dX4_take_20 : decode cX4_take 20 = .ok (.ifCond .eq 7, 3) := by decide +kernel
theorem dX4_take_23 : decode cX4_take 23 = .ok (.iconst 1, 1) := by decide +kernel
theorem dX4_take_24 : decode cX4_take 24 = .ok (.goto 4, 3) := by decide +kernel
theorem dX4_take_27 : decode cX4_take 27 = .ok (.iconst 0, 1) := by decide +kernel
theorem dX4_take_28 : decode cX4_take 28 = .ok (.i2b, 1) := by decide +kernel
theorem dX4_take_29 : decode cX4_take 29 = .ok (.bastore, 1) := by decide +kernel
theorem dX4_take_30 : decode cX4_take 30 = .ok (.iinc 2 1, 3) := by decide +kernel
theorem dX4_take_33 : decode cX4_take 33 = .ok (.goto (-31), 3) := by decide +kernel
theorem dX4_take_36 : decode cX4_take 36 = .ok (.return_, 1) := by decide +kernel
set_option maxRecDepth 20000 in
theorem ggX4_branch_X4_isBranch : GoodIn wsX4_branch wsX4_isBranch := goodIn_r _ [8, 1, 25, 26, 27, 28, 29, 30, 31, 32, 33, 34, 35, 36, 37] (by decide +kernel) (by decide +kernel)
set_option maxRecDepth 20000 in
theorem gX4_branch_X4_isBranch : GoodIn wsX4_branch (wsV RX4 54 RX4 yX4_isBranch wsX4_isBranch) := goodIn_app (goodIn_of _ (by decide +kernel)) ggX4_branch_X4_isBranch
set_option maxRecDepth 20000 in
theorem ggX4_branch_X4_take : GoodIn wsX4_branch wsX4_take := goodIn_r _ [12, 13, 14, 15, 16, 7, 17, 18, 25, 26, 27, 28, 29, 30, 31, 32, 33, 34, 35, 36, 37] (by decide +kernel) (by decide +kernel)
set_option maxRecDepth 20000 in
theorem gX4_branch_X4_take : GoodIn wsX4_branch (wsV RX4 58 RX4 yX4_take wsX4_take) := goodIn_app (goodIn_of _ (by decide +kernel)) ggX4_branch_X4_take
set_option maxRecDepth 20000 in
theorem ggX4_branch_X4_grow : GoodIn wsX4_branch wsX4_grow := goodIn_r _ [22, 23, 2, 24, 18, 13, 25, 26, 27, 28, 29, 30, 31, 32, 33, 34, 35, 36, 37] (by decide +kernel) (by decide +kernel)
set_option maxRecDepth 20000 in
theorem gX4_branch_X4_grow : GoodIn wsX4_branch (wsV RX4 62 RX4 yX4_grow wsX4_grow) := goodIn_app (goodIn_of _ (by decide +kernel)) ggX4_branch_X4_grow
theorem dX4_branch_0 : decode cX4_branch 0 = .ok (.iload_n 1, 1) := by decide +kernel
theorem dX4_branch_1 : decode cX4_branch 1 = .ok (.iconst (-1), 1) := by decide +kernel
theorem dX4_branch_2 : decode cX4_branch 2 = .ok (.if_icmp .eq 13, 3) := by decide +kernel
theorem dX4_branch_5 : decode cX4_branch 5 = .ok (.aload_n 0, 1) := by decide +kernel
theorem dX4_branch_6 : decode cX4_branch 6 = .ok (.iload_n 1, 1) := by decide +kernel
theorem dX4_branch_7 : decode cX4_branch 7 = .ok (.invokevirtual 54, 3) := by decide +kernel
theorem dX4_branch_10 : decode cX4_branch 10 = .ok (.ifCond .ne 5, 3) := by decide +kernel
theorem dX4_branch_13 : decode cX4_branch 13 = .ok (.iconst (-1), 1) := by decide +kernel
theorem dX4_branch_14 : decode cX4_branch 14 = .ok (.ireturn, 1) := by decide +kernel
theorem dX4_branch_15 : decode cX4_branch 15 = .ok (.aload_n 0, 1) := by decide +kernel
theorem dX4_branch_16 : decode cX4_branch 16 = .ok (.getfield 47, 3) := by decide +kernel
theorem dX4_branch_19 : decode cX4_branch 19 = .ok (.bipush 40, 2) := by decide +kernel
theorem dX4_branch_21 : decode cX4_branch 21 = .ok (.if_icmp .eq 18, 3) := by decide +kernel
theorem dX4_branch_24 : decode cX4_branch 24 = .ok (.iload_n 1, 1) := by decide +kernel
theorem dX4_branch_25 : decode cX4_branch 25 = .ok (.iconst (-1), 1) := by decide +kernel
theorem dX4_branch_26 : decode cX4_branch 26 = .ok (.if_icmp .ne 16, 3) := by decide +kernel
theorem dX4_branch_29 : decode cX4_branch 29 = .ok (.aload_n 0, 1) := by decide +kernel
theorem dX4_branch_30 : decode cX4_branch 30 = .ok (.getfield 43, 3) := by decide +kernel
theorem dX4_branch_33 : decode cX4_branch 33 = .ok (.sipush 400, 3) := by decide +kernel
theorem dX4_branch_36 : decode cX4_branch 36 = .ok (.if_icmp .ne 6, 3) := by decide +kernel
theorem dX4_branch_39 : decode cX4_branch 39 = .ok (.bipush (-4), 2) := by decide +kernel
theorem dX4_branch_41 : decode cX4_branch 41 = .ok (.ireturn, 1) := by decide +kernel
theorem dX4_branch_42 : decode cX4_branch 42 = .ok (.iload_n 1, 1) := by decide +kernel
theorem dX4_branch_43 : decode cX4_branch 43 = .ok (.iconst (-1), 1) := by decide +kernel
theorem dX4_branch_44 : decode cX4_branch 44 = .ok (.if_icmp .ne 8, 3) := by decide +kernel
theorem dX4_branch_47 : decode cX4_branch 47 = .ok (.aload_n 0, 1) := by decide +kernel
theorem dX4_branch_48 : decode cX4_branch 48 = .ok (.iconst (-1), 1) := by decide +kernel
theorem dX4_branch_49 : decode cX4_branch 49 = .ok (.invokevirtual 58, 3) := by decide +kernel
theorem dX4_branch_52 : decode cX4_branch 52 = .ok (.aload_n 0, 1) := by decide +kernel
theorem dX4_branch_53 : decode cX4_branch 53 = .ok (.getfield 21, 3) := by decide +kernel
theorem dX4_branch_56 : decode cX4_branch 56 = .ok (.aload_n 0, 1) := by decide +kernel
theorem dX4_branch_57 : decode cX4_branch 57 = .ok (.getfield 47, 3) := by decide +kernel
theorem dX4_branch_60 : decode cX4_branch 60 = .ok (.iload_n 1, 1) := by decide +kernel
theorem dX4_branch_61 : decode cX4_branch 61 = .ok (.iconst (-1), 1) := by decide +kernel
theorem dX4_branch_62 : decode cX4_branch 62 = .ok (.if_icmp .ne 12, 3) := by decide +kernel
theorem dX4_branch_65 : decode cX4_branch 65 = .ok (.aload_n 0, 1) := by decide +kernel
theorem dX4_branch_66 : decode cX4_branch 66 = .ok (.iconst (-1), 1) := by decide +kernel
theorem dX4_branch_67 : decode cX4_branch 67 = .ok (.iconst (-1), 1) := by decide +kernel
theorem dX4_branch_68 : decode cX4_branch 68 = .ok (.invokevirtual 62, 3) := by decide +kernel
theorem dX4_branch_71 : decode cX4_branch 71 = .ok (.goto 9, 3) := by decide +kernel
theorem dX4_branch_74 : decode cX4_branch 74 = .ok (.aload_n 0, 1) := by decide +kernel
theorem dX4_branch_75 : decode cX4_branch 75 = .ok (.getfield 21, 3) := by decide +kernel
theorem dX4_branch_78 : decode cX4_branch 78 = .ok (.iload_n 1, 1) := by decide +kernel
theorem dX4_branch_79 : decode cX4_branch 79 = .ok (.iaload, 1) := by decide +kernel
theorem dX4_branch_80 : decode cX4_branch 80 = .ok (.iastore, 1) := by decide +kernel
theorem dX4_branch_81 : decode cX4_branch 81 = .ok (.aload_n 0, 1) := by decide +kernel
theorem dX4_branch_82 : decode cX4_branch 82 = .ok (.dup, 1) := by decide +kernel
theorem dX4_branch_83 : decode cX4_branch 83 = .ok (.getfield 47, 3) := by decide +kernel
theorem dX4_branch_86 : decode cX4_branch 86 = .ok (.iconst 1, 1) := by decide +kernel
theorem dX4_branch_87 : decode cX4_branch 87 = .ok (.iadd, 1) := by decide +kernel
theorem dX4_branch_88 : decode cX4_branch 88 = .ok (.putfield 47, 3) := by decide +kernel
theorem dX4_branch_91 : decode cX4_branch 91 = .ok (.aload_n 0, 1) := by decide +kernel
theorem dX4_branch_92 : decode cX4_branch 92 = .ok (.getfield 47, 3) := by decide +kernel
theorem dX4_branch_95 : decode cX4_branch 95 = .ok (.iconst 1, 1) := by decide +kernel
theorem dX4_branch_96 : decode cX4_branch 96 = .ok (.isub, 1) := by decide +kernel
theorem dX4_branch_97 : decode cX4_branch 97 = .ok (.ireturn, 1) := by decide +kernel
set_option maxRecDepth 20000 in
theorem ggX4_head_X4_isBranch : GoodIn wsX4_head wsX4_isBranch := goodIn_r _ [6, 7, 8, 9, 10, 11, 12, 13, 14, 15, 16, 17, 18, 19, 20] (by decide +kernel) (by decide +kernel)
set_option maxRecDepth 20000 in
theorem gX4_head_X4_isBranch : GoodIn wsX4_head (wsV RX4 54 RX4 yX4_isBranch wsX4_isBranch) := goodIn_app (goodIn_of _ (by decide +kernel)) ggX4_head_X4_isBranch
theorem dX4_head_0 : decode cX4_head 0 = .ok (.aload_n 0, 1) := by decide +kernel
theorem dX4_head_1 : decode cX4_head 1 = .ok (.iload_n 1, 1) := by decide +kernel
theorem dX4_head_2 : decode cX4_head 2 = .ok (.invokevirtual 54, 3) := by decide +kernel
theorem dX4_head_5 : decode cX4_head 5 = .ok (.ifCond .eq 12, 3) := by decide +kernel
theorem dX4_head_8 : decode cX4_head 8 = .ok (.aload_n 0, 1) := by decide +kernel
theorem dX4_head_9 : decode cX4_head 9 = .ok (.getfield 21, 3) := by decide +kernel
theorem dX4_head_12 : decode cX4_head 12 = .ok (.iload_n 1, 1) := by decide +kernel
theorem dX4_head_13 : decode cX4_head 13 = .ok (.iaload, 1) := by decide +kernel
theorem dX4_head_14 : decode cX4_head 14 = .ok (.goto 4, 3) := by decide +kernel
theorem dX4_head_17 : decode cX4_head 17 = .ok (.iconst (-1), 1) := by decide +kernel
theorem dX4_head_18 : decode cX4_head 18 = .ok (.ireturn, 1) := by decide +kernel
set_option maxRecDepth 20000 in
theorem ggX4_step_X4_grow : GoodIn wsX4_step wsX4_grow := goodIn_r _ [6, 7, 8, 9, 10, 11, 12, 13, 14, 15, 16, 17, 18, 19, 20, 21, 22, 23, 24] (by decide +kernel) (by decide +kernel)
set_option maxRecDepth 20000 in
theorem gX4_step_X4_grow : GoodIn wsX4_step (wsV RX4 62 RX4 yX4_grow wsX4_grow) := goodIn_app (goodIn_of _ (by decide +kernel)) ggX4_step_X4_grow
theorem dX4_step_0 : decode cX4_step 0 = .ok (.aload_n 0, 1) := by decide +kernel
theorem dX4_step_1 : decode cX4_step 1 = .ok (.getfield 21, 3) := by decide +kernel
theorem dX4_step_4 : decode cX4_step 4 = .ok (.iload_n 1, 1) := by decide +kernel
theorem dX4_step_5 : decode cX4_step 5 = .ok (.aload_n 0, 1) := by decide +kernel
theorem dX4_step_6 : decode cX4_step 6 = .ok (.aload_n 0, 1) := by decide +kernel
theorem dX4_step_7 : decode cX4_step 7 = .ok (.getfield 21, 3) := by decide +kernel
theorem dX4_step_10 : decode cX4_step 10 = .ok (.iload_n 1, 1) := by decide +kernel
theorem dX4_step_11 : decode cX4_step 11 = .ok (.iaload, 1) := by decide +kernel
theorem dX4_step_12 : decode cX4_step 12 = .ok (.iconst (-1), 1) := by decide +kernel
theorem dX4_step_13 : decode cX4_step 13 = .ok (.invokevirtual 62, 3) := by decide +kernel
theorem dX4_step_16 : decode cX4_step 16 = .ok (.iastore, 1) := by decide +kernel
theorem dX4_step_17 : decode cX4_step 17 = .ok (.aload_n 0, 1) := by decide +kernel
theorem dX4_step_18 : decode cX4_step 18 = .ok (.getfield 21, 3) := by decide +kernel
theorem dX4_step_21 : decode cX4_step 21 = .ok (.iload_n 1, 1) := by decide +kernel
theorem dX4_step_22 : decode cX4_step 22 = .ok (.iaload, 1) := by decide +kernel
theorem dX4_step_23 : decode cX4_step 23 = .ok (.ireturn, 1) := by decide +kernel
set_option maxRecDepth 20000 in
theorem ggX4_put_X4_isBranch : GoodIn wsX4_put wsX4_isBranch := goodIn_r _ [8, 9, 32, 33, 34, 35, 36, 37, 38, 39, 40, 41, 42, 43, 44] (by decide +kernel) (by decide +kernel)
set_option maxRecDepth 20000 in
theorem gX4_put_X4_isBranch : GoodIn wsX4_put (wsV RX4 54 RX4 yX4_isBranch wsX4_isBranch) := goodIn_app (goodIn_of _ (by decide +kernel)) ggX4_put_X4_isBranch
set_option maxRecDepth 20000 in
theorem ggX4_put_X4_isTriple : GoodIn wsX4_put wsX4_isTriple := goodIn_r _ [12] (by decide +kernel) (by decide +kernel)
set_option maxRecDepth 20000 in
theorem gX4_put_X4_isTriple : GoodIn wsX4_put (va_wsS RX4 66 yX4_isTriple wsX4_isTriple) := goodIn_app (goodIn_of _ (by decide +kernel)) ggX4_put_X4_isTriple
set_option maxRecDepth 20000 in
theorem ggX4_put_X4_has : GoodIn wsX4_put wsX4_has := goodIn_r _ [16, 17, 32, 33, 34, 35, 36, 37, 38, 39, 40, 41, 42, 43, 44] (by decide +kernel) (by decide +kernel)
set_option maxRecDepth 20000 in
theorem gX4_put_X4_has : GoodIn wsX4_put (wsV RX4 50 RX4 yX4_has wsX4_has) := goodIn_app (goodIn_of _ (by decide +kernel)) ggX4_put_X4_has
set_option maxRecDepth 20000 in
theorem ggX4_put_X4_take : GoodIn wsX4_put wsX4_take := goodIn_r _ [21, 3, 13, 14, 15, 7, 16, 17, 32, 33, 34, 35, 36, 37, 38, 39, 40, 41, 42, 43, 44] (by decide +kernel) (by decide +kernel)
set_option maxRecDepth 20000 in
theorem gX4_put_X4_take : GoodIn wsX4_put (wsV RX4 58 RX4 yX4_take wsX4_take) := goodIn_app (goodIn_of _ (by decide +kernel)) ggX4_put_X4_take
set_option maxRecDepth 20000 in
theorem ggX4_put_X4_step : GoodIn wsX4_put wsX4_step := goodIn_r _ [25, 1, 26, 27, 28, 7, 29, 30, 2, 31, 17, 3, 32, 33, 34, 35, 36, 37, 38, 39, 40, 41, 42, 43, 44] (by decide +kernel) (by decide +kernel)
set_option maxRecDepth 20000 in
theorem gX4_put_X4_step : GoodIn wsX4_put (wsV RX4 69 RX4 yX4_step wsX4_step) := goodIn_app (goodIn_of _ (by decide +kernel)) ggX4_put_X4_step
theorem dX4_put_0 : decode cX4_put 0 = .ok (.aload_n 0, 1) := by decide +kernel
theorem dX4_put_1 : decode cX4_put 1 = .ok (.iload_n 1, 1) := by decide +kernel
theorem dX4_put_2 : decode cX4_put 2 = .ok (.invokevirtual 54, 3) := by decide +kernel
theorem dX4_put_5 : decode cX4_put 5 = .ok (.ifCond .ne 5, 3) := by decide +kernel
theorem dX4_put_8 : decode cX4_put 8 = .ok (.iconst (-1), 1) := by decide +kernel
theorem dX4_put_9 : decode cX4_put 9 = .ok (.ireturn, 1) := by decide +kernel
theorem dX4_put_10 : decode cX4_put 10 = .ok (.iload_n 2, 1) := by decide +kernel
theorem dX4_put_11 : decode cX4_put 11 = .ok (.invokestatic 66, 3) := by decide +kernel
theorem dX4_put_14 : decode cX4_put 14 = .ok (.ifCond .ne 6, 3) := by decide +kernel
theorem dX4_put_17 : decode cX4_put 17 = .ok (.bipush (-2), 2) := by decide +kernel
theorem dX4_put_19 : decode cX4_put 19 = .ok (.ireturn, 1) := by decide +kernel
theorem dX4_put_20 : decode cX4_put 20 = .ok (.aload_n 0, 1) := by decide +kernel
theorem dX4_put_21 : decode cX4_put 21 = .ok (.aload_n 0, 1) := by decide +kernel
theorem dX4_put_22 : decode cX4_put 22 = .ok (.getfield 21, 3) := by decide +kernel
theorem dX4_put_25 : decode cX4_put 25 = .ok (.iload_n 1, 1) := by decide +kernel
theorem dX4_put_26 : decode cX4_put 26 = .ok (.iaload, 1) := by decide +kernel
theorem dX4_put_27 : decode cX4_put 27 = .ok (.iload_n 2, 1) := by decide +kernel
theorem dX4_put_28 : decode cX4_put 28 = .ok (.invokevirtual 50, 3) := by decide +kernel
theorem dX4_put_31 : decode cX4_put 31 = .ok (.iload_n 3, 1) := by decide +kernel
theorem dX4_put_32 : decode cX4_put 32 = .ok (.if_icmp .ne 6, 3) := by decide +kernel
theorem dX4_put_35 : decode cX4_put 35 = .ok (.bipush (-3), 2) := by decide +kernel
theorem dX4_put_37 : decode cX4_put 37 = .ok (.ireturn, 1) := by decide +kernel
theorem dX4_put_38 : decode cX4_put 38 = .ok (.aload_n 0, 1) := by decide +kernel
theorem dX4_put_39 : decode cX4_put 39 = .ok (.getfield 43, 3) := by decide +kernel
theorem dX4_put_42 : decode cX4_put 42 = .ok (.sipush 400, 3) := by decide +kernel
theorem dX4_put_45 : decode cX4_put 45 = .ok (.if_icmp .ne 6, 3) := by decide +kernel
theorem dX4_put_48 : decode cX4_put 48 = .ok (.bipush (-4), 2) := by decide +kernel
theorem dX4_put_50 : decode cX4_put 50 = .ok (.ireturn, 1) := by decide +kernel
theorem dX4_put_51 : decode cX4_put 51 = .ok (.aload_n 0, 1) := by decide +kernel
theorem dX4_put_52 : decode cX4_put 52 = .ok (.aload_n 0, 1) := by decide +kernel
theorem dX4_put_53 : decode cX4_put 53 = .ok (.getfield 21, 3) := by decide +kernel
theorem dX4_put_56 : decode cX4_put 56 = .ok (.iload_n 1, 1) := by decide +kernel
theorem dX4_put_57 : decode cX4_put 57 = .ok (.iaload, 1) := by decide +kernel
theorem dX4_put_58 : decode cX4_put 58 = .ok (.invokevirtual 58, 3) := by decide +kernel
theorem dX4_put_61 : decode cX4_put 61 = .ok (.aload_n 0, 1) := by decide +kernel
theorem dX4_put_62 : decode cX4_put 62 = .ok (.getfield 31, 3) := by decide +kernel
theorem dX4_put_65 : decode cX4_put 65 = .ok (.iload_n 2, 1) := by decide +kernel
theorem dX4_put_66 : decode cX4_put 66 = .ok (.iload_n 3, 1) := by decide +kernel
theorem dX4_put_67 : decode cX4_put 67 = .ok (.ifCond .eq 7, 3) := by decide +kernel
theorem dX4_put_70 : decode cX4_put 70 = .ok (.iconst 1, 1) := by decide +kernel
theorem dX4_put_71 : decode cX4_put 71 = .ok (.goto 4, 3) := by decide +kernel
theorem dX4_put_74 : decode cX4_put 74 = .ok (.iconst 0, 1) := by decide +kernel
theorem dX4_put_75 : decode cX4_put 75 = .ok (.i2b, 1) := by decide +kernel
theorem dX4_put_76 : decode cX4_put 76 = .ok (.bastore, 1) := by decide +kernel
theorem dX4_put_77 : decode cX4_put 77 = .ok (.aload_n 0, 1) := by decide +kernel
theorem dX4_put_78 : decode cX4_put 78 = .ok (.iload_n 1, 1) := by decide +kernel
theorem dX4_put_79 : decode cX4_put 79 = .ok (.invokevirtual 69, 3) := by decide +kernel
theorem dX4_put_82 : decode cX4_put 82 = .ok (.ireturn, 1) := by decide +kernel
theorem dX4_isBlank_0 : decode cX4_isBlank 0 = .ok (.iload_n 0, 1) := by decide +kernel
theorem dX4_isBlank_1 : decode cX4_isBlank 1 = .ok (.ifCond .lt 13, 3) := by decide +kernel
theorem dX4_isBlank_4 : decode cX4_isBlank 4 = .ok (.iload_n 0, 1) := by decide +kernel
theorem dX4_isBlank_5 : decode cX4_isBlank 5 = .ok (.bipush 8, 2) := by decide +kernel
theorem dX4_isBlank_7 : decode cX4_isBlank 7 = .ok (.if_icmp .ge 7, 3) := by decide +kernel
theorem dX4_isBlank_10 : decode cX4_isBlank 10 = .ok (.iconst 1, 1) := by decide +kernel
theorem dX4_isBlank_11 : decode cX4_isBlank 11 = .ok (.goto 4, 3) := by decide +kernel
theorem dX4_isBlank_14 : decode cX4_isBlank 14 = .ok (.iconst 0, 1) := by decide +kernel
theorem dX4_isBlank_15 : decode cX4_isBlank 15 = .ok (.ireturn, 1) := by decide +kernel
set_option maxRecDepth 20000 in
theorem ggX4_stands_X4_has : GoodIn wsX4_stands wsX4_has := goodIn_r _ [5, 6, 7, 8, 9, 10, 11, 12, 13, 14, 15, 16, 17, 18, 19] (by decide +kernel) (by decide +kernel)
set_option maxRecDepth 20000 in
theorem gX4_stands_X4_has : GoodIn wsX4_stands (wsV RX4 50 RX4 yX4_has wsX4_has) := goodIn_app (goodIn_of _ (by decide +kernel)) ggX4_stands_X4_has
theorem dX4_stands_0 : decode cX4_stands 0 = .ok (.iconst 0, 1) := by decide +kernel
theorem dX4_stands_1 : decode cX4_stands 1 = .ok (.istore_n 3, 1) := by decide +kernel
theorem dX4_stands_2 : decode cX4_stands 2 = .ok (.iconst 0, 1) := by decide +kernel
theorem dX4_stands_3 : decode cX4_stands 3 = .ok (.istore 4, 2) := by decide +kernel
theorem dX4_stands_5 : decode cX4_stands 5 = .ok (.iload 4, 2) := by decide +kernel
theorem dX4_stands_7 : decode cX4_stands 7 = .ok (.sipush 4096, 3) := by decide +kernel
theorem dX4_stands_10 : decode cX4_stands 10 = .ok (.if_icmp .ge 58, 3) := by decide +kernel
theorem dX4_stands_13 : decode cX4_stands 13 = .ok (.iload_n 3, 1) := by decide +kernel
theorem dX4_stands_14 : decode cX4_stands 14 = .ok (.ifCond .ne 54, 3) := by decide +kernel
theorem dX4_stands_17 : decode cX4_stands 17 = .ok (.aload_n 0, 1) := by decide +kernel
theorem dX4_stands_18 : decode cX4_stands 18 = .ok (.iload_n 1, 1) := by decide +kernel
theorem dX4_stands_19 : decode cX4_stands 19 = .ok (.iload 4, 2) := by decide +kernel
theorem dX4_stands_21 : decode cX4_stands 21 = .ok (.invokevirtual 50, 3) := by decide +kernel
theorem dX4_stands_24 : decode cX4_stands 24 = .ok (.ifCond .eq 36, 3) := by decide +kernel
theorem dX4_stands_27 : decode cX4_stands 27 = .ok (.iload 4, 2) := by decide +kernel
theorem dX4_stands_29 : decode cX4_stands 29 = .ok (.bipush 8, 2) := by decide +kernel
theorem dX4_stands_31 : decode cX4_stands 31 = .ok (.ishr, 1) := by decide +kernel
theorem dX4_stands_32 : decode cX4_stands 32 = .ok (.iload_n 2, 1) := by decide +kernel
theorem dX4_stands_33 : decode cX4_stands 33 = .ok (.if_icmp .eq 23, 3) := by decide +kernel
theorem dX4_stands_36 : decode cX4_stands 36 = .ok (.iload 4, 2) := by decide +kernel
theorem dX4_stands_38 : decode cX4_stands 38 = .ok (.iconst 4, 1) := by decide +kernel
theorem dX4_stands_39 : decode cX4_stands 39 = .ok (.ishr, 1) := by decide +kernel
theorem dX4_stands_40 : decode cX4_stands 40 = .ok (.bipush 15, 2) := by decide +kernel
theorem dX4_stands_42 : decode cX4_stands 42 = .ok (.iand, 1) := by decide +kernel
theorem dX4_stands_43 : decode cX4_stands 43 = .ok (.iload_n 2, 1) := by decide +kernel
theorem dX4_stands_44 : decode cX4_stands 44 = .ok (.if_icmp .eq 12, 3) := by decide +kernel
theorem dX4_stands_47 : decode cX4_stands 47 = .ok (.iload 4, 2) := by decide +kernel
theorem dX4_stands_49 : decode cX4_stands 49 = .ok (.bipush 15, 2) := by decide +kernel
theorem dX4_stands_51 : decode cX4_stands 51 = .ok (.iand, 1) := by decide +kernel
theorem dX4_stands_52 : decode cX4_stands 52 = .ok (.iload_n 2, 1) := by decide +kernel
theorem dX4_stands_53 : decode cX4_stands 53 = .ok (.if_icmp .ne 7, 3) := by decide +kernel
theorem dX4_stands_56 : decode cX4_stands 56 = .ok (.iconst 1, 1) := by decide +kernel
theorem dX4_stands_57 : decode cX4_stands 57 = .ok (.goto 4, 3) := by decide +kernel
theorem dX4_stands_60 : decode cX4_stands 60 = .ok (.iconst 0, 1) := by decide +kernel
theorem dX4_stands_61 : decode cX4_stands 61 = .ok (.istore_n 3, 1) := by decide +kernel
theorem dX4_stands_62 : decode cX4_stands 62 = .ok (.iinc 4 1, 3) := by decide +kernel
theorem dX4_stands_65 : decode cX4_stands 65 = .ok (.goto (-60), 3) := by decide +kernel
theorem dX4_stands_68 : decode cX4_stands 68 = .ok (.iload_n 3, 1) := by decide +kernel
theorem dX4_stands_69 : decode cX4_stands 69 = .ok (.ireturn, 1) := by decide +kernel
theorem dX4_turned_0 : decode cX4_turned 0 = .ok (.iload_n 0, 1) := by decide +kernel
theorem dX4_turned_1 : decode cX4_turned 1 = .ok (.iload_n 1, 1) := by decide +kernel
theorem dX4_turned_2 : decode cX4_turned 2 = .ok (.if_icmp .ne 7, 3) := by decide +kernel
theorem dX4_turned_5 : decode cX4_turned 5 = .ok (.iload_n 2, 1) := by decide +kernel
theorem dX4_turned_6 : decode cX4_turned 6 = .ok (.goto 4, 3) := by decide +kernel
theorem dX4_turned_9 : decode cX4_turned 9 = .ok (.iload_n 0, 1) := by decide +kernel
theorem dX4_turned_10 : decode cX4_turned 10 = .ok (.ireturn, 1) := by decide +kernel
set_option maxRecDepth 20000 in
theorem ggX4_blank_X4_isBranch : GoodIn wsX4_blank wsX4_isBranch := goodIn_r _ [8, 9, 39, 40, 41, 42, 43, 44, 45, 46, 47, 48, 49, 50, 51] (by decide +kernel) (by decide +kernel)
set_option maxRecDepth 20000 in
theorem gX4_blank_X4_isBranch : GoodIn wsX4_blank (wsV RX4 54 RX4 yX4_isBranch wsX4_isBranch) := goodIn_app (goodIn_of _ (by decide +kernel)) ggX4_blank_X4_isBranch
set_option maxRecDepth 20000 in
theorem ggX4_blank_X4_isBlank : GoodIn wsX4_blank wsX4_isBlank := goodIn_r _ [12] (by decide +kernel) (by decide +kernel)
set_option maxRecDepth 20000 in
theorem gX4_blank_X4_isBlank : GoodIn wsX4_blank (va_wsS RX4 73 yX4_isBlank wsX4_isBlank) := goodIn_app (goodIn_of _ (by decide +kernel)) ggX4_blank_X4_isBlank
set_option maxRecDepth 20000 in
theorem ggX4_blank_X4_stands : GoodIn wsX4_blank wsX4_stands := goodIn_r _ [16, 17, 18, 19, 7, 20, 21, 39, 40, 41, 42, 43, 44, 45, 46, 47, 48, 49, 50, 51] (by decide +kernel) (by decide +kernel)
set_option maxRecDepth 20000 in
theorem gX4_blank_X4_stands : GoodIn wsX4_blank (wsV RX4 76 RX4 yX4_stands wsX4_stands) := goodIn_app (goodIn_of _ (by decide +kernel)) ggX4_blank_X4_stands
set_option maxRecDepth 20000 in
theorem ggX4_blank_X4_take : GoodIn wsX4_blank wsX4_take := goodIn_r _ [25, 3, 17, 18, 19, 7, 20, 21, 39, 40, 41, 42, 43, 44, 45, 46, 47, 48, 49, 50, 51] (by decide +kernel) (by decide +kernel)
set_option maxRecDepth 20000 in
theorem gX4_blank_X4_take : GoodIn wsX4_blank (wsV RX4 58 RX4 yX4_take wsX4_take) := goodIn_app (goodIn_of _ (by decide +kernel)) ggX4_blank_X4_take
set_option maxRecDepth 20000 in
theorem ggX4_blank_X4_has : GoodIn wsX4_blank wsX4_has := goodIn_r _ [20, 21, 39, 40, 41, 42, 43, 44, 45, 46, 47, 48, 49, 50, 51] (by decide +kernel) (by decide +kernel)
set_option maxRecDepth 20000 in
theorem gX4_blank_X4_has : GoodIn wsX4_blank (wsV RX4 50 RX4 yX4_has wsX4_has) := goodIn_app (goodIn_of _ (by decide +kernel)) ggX4_blank_X4_has
set_option maxRecDepth 20000 in
theorem ggX4_blank_X4_turned : GoodIn wsX4_blank wsX4_turned := goodIn_r _ [28] (by decide +kernel) (by decide +kernel)
set_option maxRecDepth 20000 in
theorem gX4_blank_X4_turned : GoodIn wsX4_blank (va_wsS RX4 79 yX4_turned wsX4_turned) := goodIn_app (goodIn_of _ (by decide +kernel)) ggX4_blank_X4_turned
set_option maxRecDepth 20000 in
theorem ggX4_blank_X4_step : GoodIn wsX4_blank wsX4_step := goodIn_r _ [32, 1, 33, 34, 35, 7, 36, 37, 2, 38, 21, 3, 39, 40, 41, 42, 43, 44, 45, 46, 47, 48, 49, 50, 51] (by decide +kernel) (by decide +kernel)
set_option maxRecDepth 20000 in
theorem gX4_blank_X4_step : GoodIn wsX4_blank (wsV RX4 69 RX4 yX4_step wsX4_step) := goodIn_app (goodIn_of _ (by decide +kernel)) ggX4_blank_X4_step
theorem dX4_blank_0 : decode cX4_blank 0 = .ok (.aload_n 0, 1) := by decide +kernel
theorem dX4_blank_1 : decode cX4_blank 1 = .ok (.iload_n 1, 1) := by decide +kernel
theorem dX4_blank_2 : decode cX4_blank 2 = .ok (.invokevirtual 54, 3) := by decide +kernel
theorem dX4_blank_5 : decode cX4_blank 5 = .ok (.ifCond .ne 5, 3) := by decide +kernel
theorem dX4_blank_8 : decode cX4_blank 8 = .ok (.iconst (-1), 1) := by decide +kernel
theorem dX4_blank_9 : decode cX4_blank 9 = .ok (.ireturn, 1) := by decide +kernel
theorem dX4_blank_10 : decode cX4_blank 10 = .ok (.iload_n 2, 1) := by decide +kernel
theorem dX4_blank_11 : decode cX4_blank 11 = .ok (.invokestatic 73, 3) := by decide +kernel
theorem dX4_blank_14 : decode cX4_blank 14 = .ok (.ifCond .eq 10, 3) := by decide +kernel
theorem dX4_blank_17 : decode cX4_blank 17 = .ok (.iload_n 3, 1) := by decide +kernel
theorem dX4_blank_18 : decode cX4_blank 18 = .ok (.invokestatic 73, 3) := by decide +kernel
theorem dX4_blank_21 : decode cX4_blank 21 = .ok (.ifCond .ne 6, 3) := by decide +kernel
theorem dX4_blank_24 : decode cX4_blank 24 = .ok (.bipush (-2), 2) := by decide +kernel
theorem dX4_blank_26 : decode cX4_blank 26 = .ok (.ireturn, 1) := by decide +kernel
theorem dX4_blank_27 : decode cX4_blank 27 = .ok (.iload_n 2, 1) := by decide +kernel
theorem dX4_blank_28 : decode cX4_blank 28 = .ok (.iload_n 3, 1) := by decide +kernel
theorem dX4_blank_29 : decode cX4_blank 29 = .ok (.if_icmp .eq 31, 3) := by decide +kernel
theorem dX4_blank_32 : decode cX4_blank 32 = .ok (.aload_n 0, 1) := by decide +kernel
theorem dX4_blank_33 : decode cX4_blank 33 = .ok (.aload_n 0, 1) := by decide +kernel
theorem dX4_blank_34 : decode cX4_blank 34 = .ok (.getfield 21, 3) := by decide +kernel
theorem dX4_blank_37 : decode cX4_blank 37 = .ok (.iload_n 1, 1) := by decide +kernel
theorem dX4_blank_38 : decode cX4_blank 38 = .ok (.iaload, 1) := by decide +kernel
theorem dX4_blank_39 : decode cX4_blank 39 = .ok (.iload_n 2, 1) := by decide +kernel
theorem dX4_blank_40 : decode cX4_blank 40 = .ok (.invokevirtual 76, 3) := by decide +kernel
theorem dX4_blank_43 : decode cX4_blank 43 = .ok (.ifCond .eq 17, 3) := by decide +kernel
theorem dX4_blank_46 : decode cX4_blank 46 = .ok (.aload_n 0, 1) := by decide +kernel
theorem dX4_blank_47 : decode cX4_blank 47 = .ok (.aload_n 0, 1) := by decide +kernel
theorem dX4_blank_48 : decode cX4_blank 48 = .ok (.getfield 21, 3) := by decide +kernel
theorem dX4_blank_51 : decode cX4_blank 51 = .ok (.iload_n 1, 1) := by decide +kernel
theorem dX4_blank_52 : decode cX4_blank 52 = .ok (.iaload, 1) := by decide +kernel
theorem dX4_blank_53 : decode cX4_blank 53 = .ok (.iload_n 3, 1) := by decide +kernel
theorem dX4_blank_54 : decode cX4_blank 54 = .ok (.invokevirtual 76, 3) := by decide +kernel
theorem dX4_blank_57 : decode cX4_blank 57 = .ok (.ifCond .eq 6, 3) := by decide +kernel
theorem dX4_blank_60 : decode cX4_blank 60 = .ok (.bipush (-3), 2) := by decide +kernel
theorem dX4_blank_62 : decode cX4_blank 62 = .ok (.ireturn, 1) := by decide +kernel
theorem dX4_blank_63 : decode cX4_blank 63 = .ok (.aload_n 0, 1) := by decide +kernel
theorem dX4_blank_64 : decode cX4_blank 64 = .ok (.getfield 43, 3) := by decide +kernel
theorem dX4_blank_67 : decode cX4_blank 67 = .ok (.sipush 400, 3) := by decide +kernel
theorem dX4_blank_70 : decode cX4_blank 70 = .ok (.if_icmp .ne 6, 3) := by decide +kernel
theorem dX4_blank_73 : decode cX4_blank 73 = .ok (.bipush (-4), 2) := by decide +kernel
theorem dX4_blank_75 : decode cX4_blank 75 = .ok (.ireturn, 1) := by decide +kernel
theorem dX4_blank_76 : decode cX4_blank 76 = .ok (.aload_n 0, 1) := by decide +kernel
theorem dX4_blank_77 : decode cX4_blank 77 = .ok (.iconst (-1), 1) := by decide +kernel
theorem dX4_blank_78 : decode cX4_blank 78 = .ok (.invokevirtual 58, 3) := by decide +kernel
theorem dX4_blank_81 : decode cX4_blank 81 = .ok (.iconst 0, 1) := by decide +kernel
theorem dX4_blank_82 : decode cX4_blank 82 = .ok (.istore 4, 2) := by decide +kernel
theorem dX4_blank_84 : decode cX4_blank 84 = .ok (.iload 4, 2) := by decide +kernel
theorem dX4_blank_86 : decode cX4_blank 86 = .ok (.sipush 4096, 3) := by decide +kernel
theorem dX4_blank_89 : decode cX4_blank 89 = .ok (.if_icmp .ge 71, 3) := by decide +kernel
theorem dX4_blank_92 : decode cX4_blank 92 = .ok (.aload_n 0, 1) := by decide +kernel
theorem dX4_blank_93 : decode cX4_blank 93 = .ok (.aload_n 0, 1) := by decide +kernel
theorem dX4_blank_94 : decode cX4_blank 94 = .ok (.getfield 21, 3) := by decide +kernel
theorem dX4_blank_97 : decode cX4_blank 97 = .ok (.iload_n 1, 1) := by decide +kernel
theorem dX4_blank_98 : decode cX4_blank 98 = .ok (.iaload, 1) := by decide +kernel
theorem dX4_blank_99 : decode cX4_blank 99 = .ok (.iload 4, 2) := by decide +kernel
theorem dX4_blank_101 : decode cX4_blank 101 = .ok (.invokevirtual 50, 3) := by decide +kernel
theorem dX4_blank_104 : decode cX4_blank 104 = .ok (.ifCond .eq 50, 3) := by decide +kernel
theorem dX4_blank_107 : decode cX4_blank 107 = .ok (.aload_n 0, 1) := by decide +kernel
theorem dX4_blank_108 : decode cX4_blank 108 = .ok (.getfield 31, 3) := by decide +kernel
theorem dX4_blank_111 : decode cX4_blank 111 = .ok (.sipush 256, 3) := by decide +kernel
theorem dX4_blank_114 : decode cX4_blank 114 = .ok (.iload 4, 2) := by decide +kernel
theorem dX4_blank_116 : decode cX4_blank 116 = .ok (.bipush 8, 2) := by decide +kernel
theorem dX4_blank_118 : decode cX4_blank 118 = .ok (.ishr, 1) := by decide +kernel
theorem dX4_blank_119 : decode cX4_blank 119 = .ok (.iload_n 2, 1) := by decide +kernel
theorem dX4_blank_120 : decode cX4_blank 120 = .ok (.iload_n 3, 1) := by decide +kernel
theorem dX4_blank_121 : decode cX4_blank 121 = .ok (.invokestatic 79, 3) := by decide +kernel
theorem dX4_blank_124 : decode cX4_blank 124 = .ok (.imul, 1) := by decide +kernel
theorem dX4_blank_125 : decode cX4_blank 125 = .ok (.bipush 16, 2) := by decide +kernel
theorem dX4_blank_127 : decode cX4_blank 127 = .ok (.iload 4, 2) := by decide +kernel
theorem dX4_blank_129 : decode cX4_blank 129 = .ok (.iconst 4, 1) := by decide +kernel
theorem dX4_blank_130 : decode cX4_blank 130 = .ok (.ishr, 1) := by decide +kernel
theorem dX4_blank_131 : decode cX4_blank 131 = .ok (.bipush 15, 2) := by decide +kernel
theorem dX4_blank_133 : decode cX4_blank 133 = .ok (.iand, 1) := by decide +kernel
theorem dX4_blank_134 : decode cX4_blank 134 = .ok (.iload_n 2, 1) := by decide +kernel
theorem dX4_blank_135 : decode cX4_blank 135 = .ok (.iload_n 3, 1) := by decide +kernel
theorem dX4_blank_136 : decode cX4_blank 136 = .ok (.invokestatic 79, 3) := by decide +kernel
theorem dX4_blank_139 : decode cX4_blank 139 = .ok (.imul, 1) := by decide +kernel
theorem dX4_blank_140 : decode cX4_blank 140 = .ok (.iadd, 1) := by decide +kernel
theorem dX4_blank_141 : decode cX4_blank 141 = .ok (.iload 4, 2) := by decide +kernel
theorem dX4_blank_143 : decode cX4_blank 143 = .ok (.bipush 15, 2) := by decide +kernel
theorem dX4_blank_145 : decode cX4_blank 145 = .ok (.iand, 1) := by decide +kernel
theorem dX4_blank_146 : decode cX4_blank 146 = .ok (.iload_n 2, 1) := by decide +kernel
theorem dX4_blank_147 : decode cX4_blank 147 = .ok (.iload_n 3, 1) := by decide +kernel
theorem dX4_blank_148 : decode cX4_blank 148 = .ok (.invokestatic 79, 3) := by decide +kernel
theorem dX4_blank_151 : decode cX4_blank 151 = .ok (.iadd, 1) := by decide +kernel
theorem dX4_blank_152 : decode cX4_blank 152 = .ok (.iconst 1, 1) := by decide +kernel
theorem dX4_blank_153 : decode cX4_blank 153 = .ok (.bastore, 1) := by decide +kernel
theorem dX4_blank_154 : decode cX4_blank 154 = .ok (.iinc 4 1, 3) := by decide +kernel
theorem dX4_blank_157 : decode cX4_blank 157 = .ok (.goto (-73), 3) := by decide +kernel
theorem dX4_blank_160 : decode cX4_blank 160 = .ok (.aload_n 0, 1) := by decide +kernel
theorem dX4_blank_161 : decode cX4_blank 161 = .ok (.iload_n 1, 1) := by decide +kernel
theorem dX4_blank_162 : decode cX4_blank 162 = .ok (.invokevirtual 69, 3) := by decide +kernel
theorem dX4_blank_165 : decode cX4_blank 165 = .ok (.ireturn, 1) := by decide +kernel
theorem dX4_mark_0 : decode cX4_mark 0 = .ok (.iconst 0, 1) := by decide +kernel
theorem dX4_mark_1 : decode cX4_mark 1 = .ok (.istore_n 3, 1) := by decide +kernel
theorem dX4_mark_2 : decode cX4_mark 2 = .ok (.iload_n 3, 1) := by decide +kernel
theorem dX4_mark_3 : decode cX4_mark 3 = .ok (.aload_n 0, 1) := by decide +kernel
theorem dX4_mark_4 : decode cX4_mark 4 = .ok (.getfield 43, 3) := by decide +kernel
theorem dX4_mark_7 : decode cX4_mark 7 = .ok (.if_icmp .ge 22, 3) := by decide +kernel
theorem dX4_mark_10 : decode cX4_mark 10 = .ok (.aload_n 2, 1) := by decide +kernel
theorem dX4_mark_11 : decode cX4_mark 11 = .ok (.iload_n 3, 1) := by decide +kernel
theorem dX4_mark_12 : decode cX4_mark 12 = .ok (.iload_n 3, 1) := by decide +kernel
theorem dX4_mark_13 : decode cX4_mark 13 = .ok (.iload_n 1, 1) := by decide +kernel
theorem dX4_mark_14 : decode cX4_mark 14 = .ok (.if_icmp .ne 7, 3) := by decide +kernel
theorem dX4_mark_17 : decode cX4_mark 17 = .ok (.iconst 1, 1) := by decide +kernel
theorem dX4_mark_18 : decode cX4_mark 18 = .ok (.goto 4, 3) := by decide +kernel
theorem dX4_mark_21 : decode cX4_mark 21 = .ok (.iconst 0, 1) := by decide +kernel
theorem dX4_mark_22 : decode cX4_mark 22 = .ok (.bastore, 1) := by decide +kernel
theorem dX4_mark_23 : decode cX4_mark 23 = .ok (.iinc 3 1, 3) := by decide +kernel
theorem dX4_mark_26 : decode cX4_mark 26 = .ok (.goto (-24), 3) := by decide +kernel
theorem dX4_mark_29 : decode cX4_mark 29 = .ok (.iload_n 1, 1) := by decide +kernel
theorem dX4_mark_30 : decode cX4_mark 30 = .ok (.istore_n 3, 1) := by decide +kernel
theorem dX4_mark_31 : decode cX4_mark 31 = .ok (.iload_n 3, 1) := by decide +kernel
theorem dX4_mark_32 : decode cX4_mark 32 = .ok (.ifCond .lt 54, 3) := by decide +kernel
theorem dX4_mark_35 : decode cX4_mark 35 = .ok (.aload_n 2, 1) := by decide +kernel
theorem dX4_mark_36 : decode cX4_mark 36 = .ok (.iload_n 3, 1) := by decide +kernel
theorem dX4_mark_37 : decode cX4_mark 37 = .ok (.baload, 1) := by decide +kernel
theorem dX4_mark_38 : decode cX4_mark 38 = .ok (.ifCond .ne 6, 3) := by decide +kernel
theorem dX4_mark_41 : decode cX4_mark 41 = .ok (.goto 39, 3) := by decide +kernel
theorem dX4_mark_44 : decode cX4_mark 44 = .ok (.aload_n 0, 1) := by decide +kernel
theorem dX4_mark_45 : decode cX4_mark 45 = .ok (.getfield 14, 3) := by decide +kernel
theorem dX4_mark_48 : decode cX4_mark 48 = .ok (.iload_n 3, 1) := by decide +kernel
theorem dX4_mark_49 : decode cX4_mark 49 = .ok (.iaload, 1) := by decide +kernel
theorem dX4_mark_50 : decode cX4_mark 50 = .ok (.ifCond .lt 12, 3) := by decide +kernel
theorem dX4_mark_53 : decode cX4_mark 53 = .ok (.aload_n 2, 1) := by decide +kernel
theorem dX4_mark_54 : decode cX4_mark 54 = .ok (.aload_n 0, 1) := by decide +kernel
theorem dX4_mark_55 : decode cX4_mark 55 = .ok (.getfield 14, 3) := by decide +kernel
theorem dX4_mark_58 : decode cX4_mark 58 = .ok (.iload_n 3, 1) := by decide +kernel
theorem dX4_mark_59 : decode cX4_mark 59 = .ok (.iaload, 1) := by decide +kernel
theorem dX4_mark_60 : decode cX4_mark 60 = .ok (.iconst 1, 1) := by decide +kernel
theorem dX4_mark_61 : decode cX4_mark 61 = .ok (.bastore, 1) := by decide +kernel
theorem dX4_mark_62 : decode cX4_mark 62 = .ok (.aload_n 0, 1) := by decide +kernel
theorem dX4_mark_63 : decode cX4_mark 63 = .ok (.getfield 18, 3) := by decide +kernel
theorem dX4_mark_66 : decode cX4_mark 66 = .ok (.iload_n 3, 1) := by decide +kernel
theorem dX4_mark_67 : decode cX4_mark 67 = .ok (.iaload, 1) := by decide +kernel
theorem dX4_mark_68 : decode cX4_mark 68 = .ok (.ifCond .lt 12, 3) := by decide +kernel
theorem dX4_mark_71 : decode cX4_mark 71 = .ok (.aload_n 2, 1) := by decide +kernel
theorem dX4_mark_72 : decode cX4_mark 72 = .ok (.aload_n 0, 1) := by decide +kernel
theorem dX4_mark_73 : decode cX4_mark 73 = .ok (.getfield 18, 3) := by decide +kernel
theorem dX4_mark_76 : decode cX4_mark 76 = .ok (.iload_n 3, 1) := by decide +kernel
theorem dX4_mark_77 : decode cX4_mark 77 = .ok (.iaload, 1) := by decide +kernel
theorem dX4_mark_78 : decode cX4_mark 78 = .ok (.iconst 1, 1) := by decide +kernel
theorem dX4_mark_79 : decode cX4_mark 79 = .ok (.bastore, 1) := by decide +kernel
theorem dX4_mark_80 : decode cX4_mark 80 = .ok (.iinc 3 (-1), 3) := by decide +kernel
theorem dX4_mark_83 : decode cX4_mark 83 = .ok (.goto (-52), 3) := by decide +kernel
theorem dX4_mark_86 : decode cX4_mark 86 = .ok (.return_, 1) := by decide +kernel
set_option maxRecDepth 20000 in
theorem ggX4_common_X4_mark : GoodIn wsX4_common wsX4_mark := goodIn_r _ [8, 3, 9, 10, 11, 12, 13, 14, 15, 16, 17, 18, 19, 20, 21, 22, 23] (by decide +kernel) (by decide +kernel)
set_option maxRecDepth 20000 in
theorem gX4_common_X4_mark : GoodIn wsX4_common (wsV RX4 83 RX4 yX4_mark wsX4_mark) := goodIn_app (goodIn_of _ (by decide +kernel)) ggX4_common_X4_mark
theorem dX4_common_0 : decode cX4_common 0 = .ok (.aload_n 0, 1) := by decide +kernel
theorem dX4_common_1 : decode cX4_common 1 = .ok (.iload_n 1, 1) := by decide +kernel
theorem dX4_common_2 : decode cX4_common 2 = .ok (.aload_n 0, 1) := by decide +kernel
theorem dX4_common_3 : decode cX4_common 3 = .ok (.getfield 24, 3) := by decide +kernel
theorem dX4_common_6 : decode cX4_common 6 = .ok (.invokevirtual 83, 3) := by decide +kernel
theorem dX4_common_9 : decode cX4_common 9 = .ok (.aload_n 0, 1) := by decide +kernel
theorem dX4_common_10 : decode cX4_common 10 = .ok (.iload_n 2, 1) := by decide +kernel
theorem dX4_common_11 : decode cX4_common 11 = .ok (.aload_n 0, 1) := by decide +kernel
theorem dX4_common_12 : decode cX4_common 12 = .ok (.getfield 28, 3) := by decide +kernel
theorem dX4_common_15 : decode cX4_common 15 = .ok (.invokevirtual 83, 3) := by decide +kernel
theorem dX4_common_18 : decode cX4_common 18 = .ok (.aload_n 0, 1) := by decide +kernel
theorem dX4_common_19 : decode cX4_common 19 = .ok (.getfield 43, 3) := by decide +kernel
theorem dX4_common_22 : decode cX4_common 22 = .ok (.iconst 1, 1) := by decide +kernel
theorem dX4_common_23 : decode cX4_common 23 = .ok (.isub, 1) := by decide +kernel
theorem dX4_common_24 : decode cX4_common 24 = .ok (.istore_n 3, 1) := by decide +kernel
theorem dX4_common_25 : decode cX4_common 25 = .ok (.iload_n 3, 1) := by decide +kernel
theorem dX4_common_26 : decode cX4_common 26 = .ok (.ifCond .lt 27, 3) := by decide +kernel
theorem dX4_common_29 : decode cX4_common 29 = .ok (.aload_n 0, 1) := by decide +kernel
theorem dX4_common_30 : decode cX4_common 30 = .ok (.getfield 24, 3) := by decide +kernel
theorem dX4_common_33 : decode cX4_common 33 = .ok (.iload_n 3, 1) := by decide +kernel
theorem dX4_common_34 : decode cX4_common 34 = .ok (.baload, 1) := by decide +kernel
theorem dX4_common_35 : decode cX4_common 35 = .ok (.ifCond .eq 12, 3) := by decide +kernel
theorem dX4_common_38 : decode cX4_common 38 = .ok (.aload_n 0, 1) := by decide +kernel
theorem dX4_common_39 : decode cX4_common 39 = .ok (.getfield 28, 3) := by decide +kernel
theorem dX4_common_42 : decode cX4_common 42 = .ok (.iload_n 3, 1) := by decide +kernel
theorem dX4_common_43 : decode cX4_common 43 = .ok (.baload, 1) := by decide +kernel
theorem dX4_common_44 : decode cX4_common 44 = .ok (.ifCond .ne 9, 3) := by decide +kernel
theorem dX4_common_47 : decode cX4_common 47 = .ok (.iinc 3 (-1), 3) := by decide +kernel
theorem dX4_common_50 : decode cX4_common 50 = .ok (.goto (-25), 3) := by decide +kernel
theorem dX4_common_53 : decode cX4_common 53 = .ok (.iload_n 3, 1) := by decide +kernel
theorem dX4_common_54 : decode cX4_common 54 = .ok (.ireturn, 1) := by decide +kernel
set_option maxRecDepth 20000 in
theorem ggX4_base_X4_isBranch : GoodIn wsX4_base wsX4_isBranch := goodIn_r _ [6, 7, 21, 22, 23, 24, 25, 26, 27, 28, 29, 30, 31, 32, 33] (by decide +kernel) (by decide +kernel)
set_option maxRecDepth 20000 in
theorem gX4_base_X4_isBranch : GoodIn wsX4_base (wsV RX4 54 RX4 yX4_isBranch wsX4_isBranch) := goodIn_app (goodIn_of _ (by decide +kernel)) ggX4_base_X4_isBranch
set_option maxRecDepth 20000 in
theorem ggX4_base_X4_common : GoodIn wsX4_base wsX4_common := goodIn_r _ [11, 12, 13, 14, 15, 16, 17, 5, 18, 19, 20, 21, 22, 23, 24, 25, 26, 27, 28, 29, 30, 31, 32, 33] (by decide +kernel) (by decide +kernel)
set_option maxRecDepth 20000 in
theorem gX4_base_X4_common : GoodIn wsX4_base (wsV RX4 87 RX4 yX4_common wsX4_common) := goodIn_app (goodIn_of _ (by decide +kernel)) ggX4_base_X4_common
theorem dX4_base_0 : decode cX4_base 0 = .ok (.aload_n 0, 1) := by decide +kernel
theorem dX4_base_1 : decode cX4_base 1 = .ok (.iload_n 1, 1) := by decide +kernel
theorem dX4_base_2 : decode cX4_base 2 = .ok (.invokevirtual 54, 3) := by decide +kernel
theorem dX4_base_5 : decode cX4_base 5 = .ok (.ifCond .eq 11, 3) := by decide +kernel
theorem dX4_base_8 : decode cX4_base 8 = .ok (.aload_n 0, 1) := by decide +kernel
theorem dX4_base_9 : decode cX4_base 9 = .ok (.iload_n 2, 1) := by decide +kernel
theorem dX4_base_10 : decode cX4_base 10 = .ok (.invokevirtual 54, 3) := by decide +kernel
theorem dX4_base_13 : decode cX4_base 13 = .ok (.ifCond .ne 5, 3) := by decide +kernel
theorem dX4_base_16 : decode cX4_base 16 = .ok (.iconst (-1), 1) := by decide +kernel
theorem dX4_base_17 : decode cX4_base 17 = .ok (.ireturn, 1) := by decide +kernel
theorem dX4_base_18 : decode cX4_base 18 = .ok (.aload_n 0, 1) := by decide +kernel
theorem dX4_base_19 : decode cX4_base 19 = .ok (.aload_n 0, 1) := by decide +kernel
theorem dX4_base_20 : decode cX4_base 20 = .ok (.getfield 21, 3) := by decide +kernel
theorem dX4_base_23 : decode cX4_base 23 = .ok (.iload_n 1, 1) := by decide +kernel
theorem dX4_base_24 : decode cX4_base 24 = .ok (.iaload, 1) := by decide +kernel
theorem dX4_base_25 : decode cX4_base 25 = .ok (.aload_n 0, 1) := by decide +kernel
theorem dX4_base_26 : decode cX4_base 26 = .ok (.getfield 21, 3) := by decide +kernel
theorem dX4_base_29 : decode cX4_base 29 = .ok (.iload_n 2, 1) := by decide +kernel
theorem dX4_base_30 : decode cX4_base 30 = .ok (.iaload, 1) := by decide +kernel
theorem dX4_base_31 : decode cX4_base 31 = .ok (.invokevirtual 87, 3) := by decide +kernel
theorem dX4_base_34 : decode cX4_base 34 = .ok (.istore_n 3, 1) := by decide +kernel
theorem dX4_base_35 : decode cX4_base 35 = .ok (.iload_n 3, 1) := by decide +kernel
theorem dX4_base_36 : decode cX4_base 36 = .ok (.ifCond .ge 8, 3) := by decide +kernel
theorem dX4_base_39 : decode cX4_base 39 = .ok (.bipush (-3), 2) := by decide +kernel
theorem dX4_base_41 : decode cX4_base 41 = .ok (.goto 4, 3) := by decide +kernel
theorem dX4_base_44 : decode cX4_base 44 = .ok (.iload_n 3, 1) := by decide +kernel
theorem dX4_base_45 : decode cX4_base 45 = .ok (.ireturn, 1) := by decide +kernel
set_option maxRecDepth 20000 in
theorem ggX4_merge_X4_isBranch : GoodIn wsX4_merge wsX4_isBranch := goodIn_r _ [9, 10, 39, 40, 41, 42, 43, 44, 45, 46, 47, 48, 49, 50, 51] (by decide +kernel) (by decide +kernel)
set_option maxRecDepth 20000 in
theorem gX4_merge_X4_isBranch : GoodIn wsX4_merge (wsV RX4 54 RX4 yX4_isBranch wsX4_isBranch) := goodIn_app (goodIn_of _ (by decide +kernel)) ggX4_merge_X4_isBranch
set_option maxRecDepth 20000 in
theorem ggX4_merge_X4_common : GoodIn wsX4_merge wsX4_common := goodIn_r _ [14, 15, 16, 3, 17, 18, 19, 8, 20, 21, 22, 39, 40, 41, 42, 43, 44, 45, 46, 47, 48, 49, 50, 51] (by decide +kernel) (by decide +kernel)
set_option maxRecDepth 20000 in
theorem gX4_merge_X4_common : GoodIn wsX4_merge (wsV RX4 87 RX4 yX4_common wsX4_common) := goodIn_app (goodIn_of _ (by decide +kernel)) ggX4_merge_X4_common
set_option maxRecDepth 20000 in
theorem ggX4_merge_X4_has : GoodIn wsX4_merge wsX4_has := goodIn_r _ [26, 27, 39, 40, 41, 42, 43, 44, 45, 46, 47, 48, 49, 50, 51] (by decide +kernel) (by decide +kernel)
set_option maxRecDepth 20000 in
theorem gX4_merge_X4_has : GoodIn wsX4_merge (wsV RX4 50 RX4 yX4_has wsX4_has) := goodIn_app (goodIn_of _ (by decide +kernel)) ggX4_merge_X4_has
set_option maxRecDepth 20000 in
theorem ggX4_merge_X4_look : GoodIn wsX4_merge wsX4_look := goodIn_r _ [31, 2, 4, 32, 33, 34, 39, 40, 41, 42, 43, 44, 45, 46, 47, 48, 49, 50, 51] (by decide +kernel) (by decide +kernel)
set_option maxRecDepth 20000 in
theorem gX4_merge_X4_look : GoodIn wsX4_merge (wsV RX4 93 RX4 yX4_look wsX4_look) := goodIn_app (goodIn_of _ (by decide +kernel)) ggX4_merge_X4_look
set_option maxRecDepth 20000 in
theorem ggX4_merge_X4_grow : GoodIn wsX4_merge wsX4_grow := goodIn_r _ [38, 21, 3, 22, 27, 4, 39, 40, 41, 42, 43, 44, 45, 46, 47, 48, 49, 50, 51] (by decide +kernel) (by decide +kernel)
set_option maxRecDepth 20000 in
theorem gX4_merge_X4_grow : GoodIn wsX4_merge (wsV RX4 62 RX4 yX4_grow wsX4_grow) := goodIn_app (goodIn_of _ (by decide +kernel)) ggX4_merge_X4_grow
theorem dX4_merge_0 : decode cX4_merge 0 = .ok (.aload_n 0, 1) := by decide +kernel
theorem dX4_merge_1 : decode cX4_merge 1 = .ok (.iload_n 1, 1) := by decide +kernel
theorem dX4_merge_2 : decode cX4_merge 2 = .ok (.invokevirtual 54, 3) := by decide +kernel
theorem dX4_merge_5 : decode cX4_merge 5 = .ok (.ifCond .eq 11, 3) := by decide +kernel
theorem dX4_merge_8 : decode cX4_merge 8 = .ok (.aload_n 0, 1) := by decide +kernel
theorem dX4_merge_9 : decode cX4_merge 9 = .ok (.iload_n 2, 1) := by decide +kernel
theorem dX4_merge_10 : decode cX4_merge 10 = .ok (.invokevirtual 54, 3) := by decide +kernel
theorem dX4_merge_13 : decode cX4_merge 13 = .ok (.ifCond .ne 5, 3) := by decide +kernel
theorem dX4_merge_16 : decode cX4_merge 16 = .ok (.iconst (-1), 1) := by decide +kernel
theorem dX4_merge_17 : decode cX4_merge 17 = .ok (.ireturn, 1) := by decide +kernel
theorem dX4_merge_18 : decode cX4_merge 18 = .ok (.aload_n 0, 1) := by decide +kernel
theorem dX4_merge_19 : decode cX4_merge 19 = .ok (.getfield 21, 3) := by decide +kernel
theorem dX4_merge_22 : decode cX4_merge 22 = .ok (.iload_n 1, 1) := by decide +kernel
theorem dX4_merge_23 : decode cX4_merge 23 = .ok (.iaload, 1) := by decide +kernel
theorem dX4_merge_24 : decode cX4_merge 24 = .ok (.istore_n 3, 1) := by decide +kernel
theorem dX4_merge_25 : decode cX4_merge 25 = .ok (.aload_n 0, 1) := by decide +kernel
theorem dX4_merge_26 : decode cX4_merge 26 = .ok (.getfield 21, 3) := by decide +kernel
theorem dX4_merge_29 : decode cX4_merge 29 = .ok (.iload_n 2, 1) := by decide +kernel
theorem dX4_merge_30 : decode cX4_merge 30 = .ok (.iaload, 1) := by decide +kernel
theorem dX4_merge_31 : decode cX4_merge 31 = .ok (.istore 4, 2) := by decide +kernel
theorem dX4_merge_33 : decode cX4_merge 33 = .ok (.aload_n 0, 1) := by decide +kernel
theorem dX4_merge_34 : decode cX4_merge 34 = .ok (.iload_n 3, 1) := by decide +kernel
theorem dX4_merge_35 : decode cX4_merge 35 = .ok (.iload 4, 2) := by decide +kernel
theorem dX4_merge_37 : decode cX4_merge 37 = .ok (.invokevirtual 87, 3) := by decide +kernel
theorem dX4_merge_40 : decode cX4_merge 40 = .ok (.istore 5, 2) := by decide +kernel
theorem dX4_merge_42 : decode cX4_merge 42 = .ok (.iload 5, 2) := by decide +kernel
theorem dX4_merge_44 : decode cX4_merge 44 = .ok (.iload 4, 2) := by decide +kernel
theorem dX4_merge_46 : decode cX4_merge 46 = .ok (.if_icmp .eq 9, 3) := by decide +kernel
theorem dX4_merge_49 : decode cX4_merge 49 = .ok (.iload 5, 2) := by decide +kernel
theorem dX4_merge_51 : decode cX4_merge 51 = .ok (.iload_n 3, 1) := by decide +kernel
theorem dX4_merge_52 : decode cX4_merge 52 = .ok (.if_icmp .ne 24, 3) := by decide +kernel
theorem dX4_merge_55 : decode cX4_merge 55 = .ok (.aload_n 0, 1) := by decide +kernel
theorem dX4_merge_56 : decode cX4_merge 56 = .ok (.iconst 0, 1) := by decide +kernel
theorem dX4_merge_57 : decode cX4_merge 57 = .ok (.putfield 90, 3) := by decide +kernel
theorem dX4_merge_60 : decode cX4_merge 60 = .ok (.iload 5, 2) := by decide +kernel
theorem dX4_merge_62 : decode cX4_merge 62 = .ok (.iload_n 3, 1) := by decide +kernel
theorem dX4_merge_63 : decode cX4_merge 63 = .ok (.if_icmp .ne 11, 3) := by decide +kernel
theorem dX4_merge_66 : decode cX4_merge 66 = .ok (.aload_n 0, 1) := by decide +kernel
theorem dX4_merge_67 : decode cX4_merge 67 = .ok (.getfield 21, 3) := by decide +kernel
theorem dX4_merge_70 : decode cX4_merge 70 = .ok (.iload_n 1, 1) := by decide +kernel
theorem dX4_merge_71 : decode cX4_merge 71 = .ok (.iload 4, 2) := by decide +kernel
theorem dX4_merge_73 : decode cX4_merge 73 = .ok (.iastore, 1) := by decide +kernel
theorem dX4_merge_74 : decode cX4_merge 74 = .ok (.iconst 0, 1) := by decide +kernel
theorem dX4_merge_75 : decode cX4_merge 75 = .ok (.ireturn, 1) := by decide +kernel
theorem dX4_merge_76 : decode cX4_merge 76 = .ok (.aload_n 0, 1) := by decide +kernel
theorem dX4_merge_77 : decode cX4_merge 77 = .ok (.getfield 43, 3) := by decide +kernel
theorem dX4_merge_80 : decode cX4_merge 80 = .ok (.sipush 400, 3) := by decide +kernel
theorem dX4_merge_83 : decode cX4_merge 83 = .ok (.if_icmp .ne 6, 3) := by decide +kernel
theorem dX4_merge_86 : decode cX4_merge 86 = .ok (.bipush (-4), 2) := by decide +kernel
theorem dX4_merge_88 : decode cX4_merge 88 = .ok (.ireturn, 1) := by decide +kernel
theorem dX4_merge_89 : decode cX4_merge 89 = .ok (.iconst 0, 1) := by decide +kernel
theorem dX4_merge_90 : decode cX4_merge 90 = .ok (.istore 6, 2) := by decide +kernel
theorem dX4_merge_92 : decode cX4_merge 92 = .ok (.iload 6, 2) := by decide +kernel
theorem dX4_merge_94 : decode cX4_merge 94 = .ok (.sipush 4096, 3) := by decide +kernel
theorem dX4_merge_97 : decode cX4_merge 97 = .ok (.if_icmp .ge 72, 3) := by decide +kernel
theorem dX4_merge_100 : decode cX4_merge 100 = .ok (.aload_n 0, 1) := by decide +kernel
theorem dX4_merge_101 : decode cX4_merge 101 = .ok (.iload_n 3, 1) := by decide +kernel
theorem dX4_merge_102 : decode cX4_merge 102 = .ok (.iload 6, 2) := by decide +kernel
theorem dX4_merge_104 : decode cX4_merge 104 = .ok (.invokevirtual 50, 3) := by decide +kernel
theorem dX4_merge_107 : decode cX4_merge 107 = .ok (.istore 7, 2) := by decide +kernel
theorem dX4_merge_109 : decode cX4_merge 109 = .ok (.iload 7, 2) := by decide +kernel
theorem dX4_merge_111 : decode cX4_merge 111 = .ok (.aload_n 0, 1) := by decide +kernel
theorem dX4_merge_112 : decode cX4_merge 112 = .ok (.iload 4, 2) := by decide +kernel
theorem dX4_merge_114 : decode cX4_merge 114 = .ok (.iload 6, 2) := by decide +kernel
theorem dX4_merge_116 : decode cX4_merge 116 = .ok (.invokevirtual 50, 3) := by decide +kernel
theorem dX4_merge_119 : decode cX4_merge 119 = .ok (.if_icmp .ne 8, 3) := by decide +kernel
theorem dX4_merge_122 : decode cX4_merge 122 = .ok (.iload 7, 2) := by decide +kernel
theorem dX4_merge_124 : decode cX4_merge 124 = .ok (.goto 19, 3) := by decide +kernel
theorem dX4_merge_127 : decode cX4_merge 127 = .ok (.aload_n 0, 1) := by decide +kernel
theorem dX4_merge_128 : decode cX4_merge 128 = .ok (.iload 5, 2) := by decide +kernel
theorem dX4_merge_130 : decode cX4_merge 130 = .ok (.iload 6, 2) := by decide +kernel
theorem dX4_merge_132 : decode cX4_merge 132 = .ok (.invokevirtual 50, 3) := by decide +kernel
theorem dX4_merge_135 : decode cX4_merge 135 = .ok (.ifCond .ne 7, 3) := by decide +kernel
theorem dX4_merge_138 : decode cX4_merge 138 = .ok (.iconst 1, 1) := by decide +kernel
theorem dX4_merge_139 : decode cX4_merge 139 = .ok (.goto 4, 3) := by decide +kernel
theorem dX4_merge_142 : decode cX4_merge 142 = .ok (.iconst 0, 1) := by decide +kernel
theorem dX4_merge_143 : decode cX4_merge 143 = .ok (.istore 8, 2) := by decide +kernel
theorem dX4_merge_145 : decode cX4_merge 145 = .ok (.aload_n 0, 1) := by decide +kernel
theorem dX4_merge_146 : decode cX4_merge 146 = .ok (.getfield 31, 3) := by decide +kernel
theorem dX4_merge_149 : decode cX4_merge 149 = .ok (.iload 6, 2) := by decide +kernel
theorem dX4_merge_151 : decode cX4_merge 151 = .ok (.iload 8, 2) := by decide +kernel
theorem dX4_merge_153 : decode cX4_merge 153 = .ok (.ifCond .eq 7, 3) := by decide +kernel
theorem dX4_merge_156 : decode cX4_merge 156 = .ok (.iconst 1, 1) := by decide +kernel
theorem dX4_merge_157 : decode cX4_merge 157 = .ok (.goto 4, 3) := by decide +kernel
theorem dX4_merge_160 : decode cX4_merge 160 = .ok (.iconst 0, 1) := by decide +kernel
theorem dX4_merge_161 : decode cX4_merge 161 = .ok (.i2b, 1) := by decide +kernel
theorem dX4_merge_162 : decode cX4_merge 162 = .ok (.bastore, 1) := by decide +kernel
theorem dX4_merge_163 : decode cX4_merge 163 = .ok (.iinc 6 1, 3) := by decide +kernel
theorem dX4_merge_166 : decode cX4_merge 166 = .ok (.goto (-74), 3) := by decide +kernel
theorem dX4_merge_169 : decode cX4_merge 169 = .ok (.aload_n 0, 1) := by decide +kernel
theorem dX4_merge_170 : decode cX4_merge 170 = .ok (.invokevirtual 93, 3) := by decide +kernel
theorem dX4_merge_173 : decode cX4_merge 173 = .ok (.aload_n 0, 1) := by decide +kernel
theorem dX4_merge_174 : decode cX4_merge 174 = .ok (.getfield 90, 3) := by decide +kernel
theorem dX4_merge_177 : decode cX4_merge 177 = .ok (.ifCond .ne 16, 3) := by decide +kernel
theorem dX4_merge_180 : decode cX4_merge 180 = .ok (.aload_n 0, 1) := by decide +kernel
theorem dX4_merge_181 : decode cX4_merge 181 = .ok (.getfield 21, 3) := by decide +kernel
theorem dX4_merge_184 : decode cX4_merge 184 = .ok (.iload_n 1, 1) := by decide +kernel
theorem dX4_merge_185 : decode cX4_merge 185 = .ok (.aload_n 0, 1) := by decide +kernel
theorem dX4_merge_186 : decode cX4_merge 186 = .ok (.iload_n 3, 1) := by decide +kernel
theorem dX4_merge_187 : decode cX4_merge 187 = .ok (.iload 4, 2) := by decide +kernel
theorem dX4_merge_189 : decode cX4_merge 189 = .ok (.invokevirtual 62, 3) := by decide +kernel
theorem dX4_merge_192 : decode cX4_merge 192 = .ok (.iastore, 1) := by decide +kernel
theorem dX4_merge_193 : decode cX4_merge 193 = .ok (.aload_n 0, 1) := by decide +kernel
theorem dX4_merge_194 : decode cX4_merge 194 = .ok (.getfield 90, 3) := by decide +kernel
theorem dX4_merge_197 : decode cX4_merge 197 = .ok (.ireturn, 1) := by decide +kernel
theorem dX4_look_0 : decode cX4_look 0 = .ok (.aload_n 0, 1) := by decide +kernel
theorem dX4_look_1 : decode cX4_look 1 = .ok (.iconst 0, 1) := by decide +kernel
theorem dX4_look_2 : decode cX4_look 2 = .ok (.putfield 90, 3) := by decide +kernel
theorem dX4_look_5 : decode cX4_look 5 = .ok (.iconst 0, 1) := by decide +kernel
theorem dX4_look_6 : decode cX4_look 6 = .ok (.istore_n 1, 1) := by decide +kernel
theorem dX4_look_7 : decode cX4_look 7 = .ok (.iload_n 1, 1) := by decide +kernel
theorem dX4_look_8 : decode cX4_look 8 = .ok (.sipush 256, 3) := by decide +kernel
theorem dX4_look_11 : decode cX4_look 11 = .ok (.if_icmp .ge 129, 3) := by decide +kernel
theorem dX4_look_14 : decode cX4_look 14 = .ok (.iload_n 1, 1) := by decide +kernel
theorem dX4_look_15 : decode cX4_look 15 = .ok (.bipush 15, 2) := by decide +kernel
theorem dX4_look_17 : decode cX4_look 17 = .ok (.iand, 1) := by decide +kernel
theorem dX4_look_18 : decode cX4_look 18 = .ok (.bipush 12, 2) := by decide +kernel
theorem dX4_look_20 : decode cX4_look 20 = .ok (.if_icmp .ge 6, 3) := by decide +kernel
theorem dX4_look_23 : decode cX4_look 23 = .ok (.goto 111, 3) := by decide +kernel
theorem dX4_look_26 : decode cX4_look 26 = .ok (.iconst 0, 1) := by decide +kernel
theorem dX4_look_27 : decode cX4_look 27 = .ok (.istore_n 2, 1) := by decide +kernel
theorem dX4_look_28 : decode cX4_look 28 = .ok (.iconst 0, 1) := by decide +kernel
theorem dX4_look_29 : decode cX4_look 29 = .ok (.istore_n 3, 1) := by decide +kernel
theorem dX4_look_30 : decode cX4_look 30 = .ok (.iconst 0, 1) := by decide +kernel
theorem dX4_look_31 : decode cX4_look 31 = .ok (.istore 4, 2) := by decide +kernel
theorem dX4_look_33 : decode cX4_look 33 = .ok (.bipush 15, 2) := by decide +kernel
theorem dX4_look_35 : decode cX4_look 35 = .ok (.istore 5, 2) := by decide +kernel
theorem dX4_look_37 : decode cX4_look 37 = .ok (.iload 5, 2) := by decide +kernel
theorem dX4_look_39 : decode cX4_look 39 = .ok (.ifCond .lt 46, 3) := by decide +kernel
theorem dX4_look_42 : decode cX4_look 42 = .ok (.aload_n 0, 1) := by decide +kernel
theorem dX4_look_43 : decode cX4_look 43 = .ok (.getfield 31, 3) := by decide +kernel
theorem dX4_look_46 : decode cX4_look 46 = .ok (.bipush 16, 2) := by decide +kernel
theorem dX4_look_48 : decode cX4_look 48 = .ok (.iload_n 1, 1) := by decide +kernel
theorem dX4_look_49 : decode cX4_look 49 = .ok (.imul, 1) := by decide +kernel
theorem dX4_look_50 : decode cX4_look 50 = .ok (.iload 5, 2) := by decide +kernel
theorem dX4_look_52 : decode cX4_look 52 = .ok (.iadd, 1) := by decide +kernel
theorem dX4_look_53 : decode cX4_look 53 = .ok (.baload, 1) := by decide +kernel
theorem dX4_look_54 : decode cX4_look 54 = .ok (.ifCond .ne 6, 3) := by decide +kernel
theorem dX4_look_57 : decode cX4_look 57 = .ok (.goto 22, 3) := by decide +kernel
theorem dX4_look_60 : decode cX4_look 60 = .ok (.iinc 2 1, 3) := by decide +kernel
theorem dX4_look_63 : decode cX4_look 63 = .ok (.bipush 16, 2) := by decide +kernel
theorem dX4_look_65 : decode cX4_look 65 = .ok (.iload_n 1, 1) := by decide +kernel
theorem dX4_look_66 : decode cX4_look 66 = .ok (.imul, 1) := by decide +kernel
theorem dX4_look_67 : decode cX4_look 67 = .ok (.iload 5, 2) := by decide +kernel
theorem dX4_look_69 : decode cX4_look 69 = .ok (.iadd, 1) := by decide +kernel
theorem dX4_look_70 : decode cX4_look 70 = .ok (.istore_n 3, 1) := by decide +kernel
theorem dX4_look_71 : decode cX4_look 71 = .ok (.iload_n 2, 1) := by decide +kernel
theorem dX4_look_72 : decode cX4_look 72 = .ok (.iconst 1, 1) := by decide +kernel
theorem dX4_look_73 : decode cX4_look 73 = .ok (.if_icmp .ne 6, 3) := by decide +kernel
theorem dX4_look_76 : decode cX4_look 76 = .ok (.iload_n 3, 1) := by decide +kernel
theorem dX4_look_77 : decode cX4_look 77 = .ok (.istore 4, 2) := by decide +kernel
theorem dX4_look_79 : decode cX4_look 79 = .ok (.iinc 5 (-1), 3) := by decide +kernel
theorem dX4_look_82 : decode cX4_look 82 = .ok (.goto (-45), 3) := by decide +kernel
theorem dX4_look_85 : decode cX4_look 85 = .ok (.iload_n 2, 1) := by decide +kernel
theorem dX4_look_86 : decode cX4_look 86 = .ok (.iconst 2, 1) := by decide +kernel
theorem dX4_look_87 : decode cX4_look 87 = .ok (.if_icmp .ge 6, 3) := by decide +kernel
theorem dX4_look_90 : decode cX4_look 90 = .ok (.goto 44, 3) := by decide +kernel
theorem dX4_look_93 : decode cX4_look 93 = .ok (.aload_n 0, 1) := by decide +kernel
theorem dX4_look_94 : decode cX4_look 94 = .ok (.getfield 34, 3) := by decide +kernel
theorem dX4_look_97 : decode cX4_look 97 = .ok (.aload_n 0, 1) := by decide +kernel
theorem dX4_look_98 : decode cX4_look 98 = .ok (.getfield 90, 3) := by decide +kernel
theorem dX4_look_101 : decode cX4_look 101 = .ok (.iload_n 1, 1) := by decide +kernel
theorem dX4_look_102 : decode cX4_look 102 = .ok (.iastore, 1) := by decide +kernel
theorem dX4_look_103 : decode cX4_look 103 = .ok (.aload_n 0, 1) := by decide +kernel
theorem dX4_look_104 : decode cX4_look 104 = .ok (.getfield 37, 3) := by decide +kernel
theorem dX4_look_107 : decode cX4_look 107 = .ok (.aload_n 0, 1) := by decide +kernel
theorem dX4_look_108 : decode cX4_look 108 = .ok (.getfield 90, 3) := by decide +kernel
theorem dX4_look_111 : decode cX4_look 111 = .ok (.iload_n 3, 1) := by decide +kernel
theorem dX4_look_112 : decode cX4_look 112 = .ok (.iastore, 1) := by decide +kernel
theorem dX4_look_113 : decode cX4_look 113 = .ok (.aload_n 0, 1) := by decide +kernel
theorem dX4_look_114 : decode cX4_look 114 = .ok (.getfield 40, 3) := by decide +kernel
theorem dX4_look_117 : decode cX4_look 117 = .ok (.aload_n 0, 1) := by decide +kernel
theorem dX4_look_118 : decode cX4_look 118 = .ok (.getfield 90, 3) := by decide +kernel
theorem dX4_look_121 : decode cX4_look 121 = .ok (.iload 4, 2) := by decide +kernel
theorem dX4_look_123 : decode cX4_look 123 = .ok (.iastore, 1) := by decide +kernel
theorem dX4_look_124 : decode cX4_look 124 = .ok (.aload_n 0, 1) := by decide +kernel
theorem dX4_look_125 : decode cX4_look 125 = .ok (.dup, 1) := by decide +kernel
theorem dX4_look_126 : decode cX4_look 126 = .ok (.getfield 90, 3) := by decide +kernel
theorem dX4_look_129 : decode cX4_look 129 = .ok (.iconst 1, 1) := by decide +kernel
theorem dX4_look_130 : decode cX4_look 130 = .ok (.iadd, 1) := by decide +kernel
theorem dX4_look_131 : decode cX4_look 131 = .ok (.putfield 90, 3) := by decide +kernel
theorem dX4_look_134 : decode cX4_look 134 = .ok (.iinc 1 1, 3) := by decide +kernel
theorem dX4_look_137 : decode cX4_look 137 = .ok (.goto (-130), 3) := by decide +kernel
theorem dX4_look_140 : decode cX4_look 140 = .ok (.return_, 1) := by decide +kernel
theorem dX4_conflict_0 : decode cX4_conflict 0 = .ok (.iload_n 1, 1) := by decide +kernel
theorem dX4_conflict_1 : decode cX4_conflict 1 = .ok (.ifCond .lt 11, 3) := by decide +kernel
theorem dX4_conflict_4 : decode cX4_conflict 4 = .ok (.iload_n 1, 1) := by decide +kernel
theorem dX4_conflict_5 : decode cX4_conflict 5 = .ok (.aload_n 0, 1) := by decide +kernel
theorem dX4_conflict_6 : decode cX4_conflict 6 = .ok (.getfield 90, 3) := by decide +kernel
theorem dX4_conflict_9 : decode cX4_conflict 9 = .ok (.if_icmp .lt 6, 3) := by decide +kernel
theorem dX4_conflict_12 : decode cX4_conflict 12 = .ok (.bipush (-2), 2) := by decide +kernel
theorem dX4_conflict_14 : decode cX4_conflict 14 = .ok (.ireturn, 1) := by decide +kernel
theorem dX4_conflict_15 : decode cX4_conflict 15 = .ok (.iload_n 2, 1) := by decide +kernel
theorem dX4_conflict_16 : decode cX4_conflict 16 = .ok (.tableswitch 49 0 2 #[28, 35, 42], 28) := by decide +kernel
theorem dX4_conflict_44 : decode cX4_conflict 44 = .ok (.aload_n 0, 1) := by decide +kernel
theorem dX4_conflict_45 : decode cX4_conflict 45 = .ok (.getfield 34, 3) := by decide +kernel
theorem dX4_conflict_48 : decode cX4_conflict 48 = .ok (.iload_n 1, 1) := by decide +kernel
theorem dX4_conflict_49 : decode cX4_conflict 49 = .ok (.iaload, 1) := by decide +kernel
theorem dX4_conflict_50 : decode cX4_conflict 50 = .ok (.ireturn, 1) := by decide +kernel
theorem dX4_conflict_51 : decode cX4_conflict 51 = .ok (.aload_n 0, 1) := by decide +kernel
theorem dX4_conflict_52 : decode cX4_conflict 52 = .ok (.getfield 37, 3) := by decide +kernel
theorem dX4_conflict_55 : decode cX4_conflict 55 = .ok (.iload_n 1, 1) := by decide +kernel
theorem dX4_conflict_56 : decode cX4_conflict 56 = .ok (.iaload, 1) := by decide +kernel
theorem dX4_conflict_57 : decode cX4_conflict 57 = .ok (.ireturn, 1) := by decide +kernel
theorem dX4_conflict_58 : decode cX4_conflict 58 = .ok (.aload_n 0, 1) := by decide +kernel
theorem dX4_conflict_59 : decode cX4_conflict 59 = .ok (.getfield 40, 3) := by decide +kernel
theorem dX4_conflict_62 : decode cX4_conflict 62 = .ok (.iload_n 1, 1) := by decide +kernel
theorem dX4_conflict_63 : decode cX4_conflict 63 = .ok (.iaload, 1) := by decide +kernel
theorem dX4_conflict_64 : decode cX4_conflict 64 = .ok (.ireturn, 1) := by decide +kernel
theorem dX4_conflict_65 : decode cX4_conflict 65 = .ok (.bipush (-2), 2) := by decide +kernel
theorem dX4_conflict_67 : decode cX4_conflict 67 = .ok (.ireturn, 1) := by decide +kernel
set_option maxRecDepth 20000 in
theorem ggX4_patch_X4_isVersion : GoodIn wsX4_patch wsX4_isVersion := goodIn_r _ [5, 6, 12, 13, 14, 15, 16, 17, 18, 19, 20, 21, 22, 23, 24] (by decide +kernel) (by decide +kernel)
set_option maxRecDepth 20000 in
theorem gX4_patch_X4_isVersion : GoodIn wsX4_patch (wsV RX4 96 RX4 yX4_isVersion wsX4_isVersion) := goodIn_app (goodIn_of _ (by decide +kernel)) ggX4_patch_X4_isVersion
set_option maxRecDepth 20000 in
theorem ggX4_patch_X4_has : GoodIn wsX4_patch wsX4_has := goodIn_r _ [10, 11, 12, 13, 14, 15, 16, 17, 18, 19, 20, 21, 22, 23, 24] (by decide +kernel) (by decide +kernel)
set_option maxRecDepth 20000 in
theorem gX4_patch_X4_has : GoodIn wsX4_patch (wsV RX4 50 RX4 yX4_has wsX4_has) := goodIn_app (goodIn_of _ (by decide +kernel)) ggX4_patch_X4_has
theorem dX4_patch_0 : decode cX4_patch 0 = .ok (.aload_n 0, 1) := by decide +kernel
theorem dX4_patch_1 : decode cX4_patch 1 = .ok (.iload_n 1, 1) := by decide +kernel
theorem dX4_patch_2 : decode cX4_patch 2 = .ok (.invokevirtual 96, 3) := by decide +kernel
theorem dX4_patch_5 : decode cX4_patch 5 = .ok (.ifCond .eq 11, 3) := by decide +kernel
theorem dX4_patch_8 : decode cX4_patch 8 = .ok (.aload_n 0, 1) := by decide +kernel
theorem dX4_patch_9 : decode cX4_patch 9 = .ok (.iload_n 2, 1) := by decide +kernel
theorem dX4_patch_10 : decode cX4_patch 10 = .ok (.invokevirtual 96, 3) := by decide +kernel
theorem dX4_patch_13 : decode cX4_patch 13 = .ok (.ifCond .ne 5, 3) := by decide +kernel
theorem dX4_patch_16 : decode cX4_patch 16 = .ok (.iconst (-1), 1) := by decide +kernel
theorem dX4_patch_17 : decode cX4_patch 17 = .ok (.ireturn, 1) := by decide +kernel
theorem dX4_patch_18 : decode cX4_patch 18 = .ok (.iload_n 3, 1) := by decide +kernel
theorem dX4_patch_19 : decode cX4_patch 19 = .ok (.istore 4, 2) := by decide +kernel
theorem dX4_patch_21 : decode cX4_patch 21 = .ok (.iconst 0, 1) := by decide +kernel
theorem dX4_patch_22 : decode cX4_patch 22 = .ok (.istore 5, 2) := by decide +kernel
theorem dX4_patch_24 : decode cX4_patch 24 = .ok (.iload 5, 2) := by decide +kernel
theorem dX4_patch_26 : decode cX4_patch 26 = .ok (.sipush 4096, 3) := by decide +kernel
theorem dX4_patch_29 : decode cX4_patch 29 = .ok (.if_icmp .ge 62, 3) := by decide +kernel
theorem dX4_patch_32 : decode cX4_patch 32 = .ok (.iload_n 3, 1) := by decide +kernel
theorem dX4_patch_33 : decode cX4_patch 33 = .ok (.ifCond .lt 58, 3) := by decide +kernel
theorem dX4_patch_36 : decode cX4_patch 36 = .ok (.aload_n 0, 1) := by decide +kernel
theorem dX4_patch_37 : decode cX4_patch 37 = .ok (.iload_n 1, 1) := by decide +kernel
theorem dX4_patch_38 : decode cX4_patch 38 = .ok (.iload 5, 2) := by decide +kernel
theorem dX4_patch_40 : decode cX4_patch 40 = .ok (.invokevirtual 50, 3) := by decide +kernel
theorem dX4_patch_43 : decode cX4_patch 43 = .ok (.aload_n 0, 1) := by decide +kernel
theorem dX4_patch_44 : decode cX4_patch 44 = .ok (.iload_n 2, 1) := by decide +kernel
theorem dX4_patch_45 : decode cX4_patch 45 = .ok (.iload 5, 2) := by decide +kernel
theorem dX4_patch_47 : decode cX4_patch 47 = .ok (.invokevirtual 50, 3) := by decide +kernel
theorem dX4_patch_50 : decode cX4_patch 50 = .ok (.if_icmp .ne 6, 3) := by decide +kernel
theorem dX4_patch_53 : decode cX4_patch 53 = .ok (.goto 32, 3) := by decide +kernel
theorem dX4_patch_56 : decode cX4_patch 56 = .ok (.iload 4, 2) := by decide +kernel
theorem dX4_patch_58 : decode cX4_patch 58 = .ok (.ifCond .ne 24, 3) := by decide +kernel
theorem dX4_patch_61 : decode cX4_patch 61 = .ok (.aload_n 0, 1) := by decide +kernel
theorem dX4_patch_62 : decode cX4_patch 62 = .ok (.iload_n 2, 1) := by decide +kernel
theorem dX4_patch_63 : decode cX4_patch 63 = .ok (.iload 5, 2) := by decide +kernel
theorem dX4_patch_65 : decode cX4_patch 65 = .ok (.invokevirtual 50, 3) := by decide +kernel
theorem dX4_patch_68 : decode cX4_patch 68 = .ok (.ifCond .eq 8, 3) := by decide +kernel
theorem dX4_patch_71 : decode cX4_patch 71 = .ok (.iload 5, 2) := by decide +kernel
theorem dX4_patch_73 : decode cX4_patch 73 = .ok (.goto 8, 3) := by decide +kernel
theorem dX4_patch_76 : decode cX4_patch 76 = .ok (.bipush (-10), 2) := by decide +kernel
theorem dX4_patch_78 : decode cX4_patch 78 = .ok (.iload 5, 2) := by decide +kernel
theorem dX4_patch_80 : decode cX4_patch 80 = .ok (.isub, 1) := by decide +kernel
theorem dX4_patch_81 : decode cX4_patch 81 = .ok (.ireturn, 1) := by decide +kernel
theorem dX4_patch_82 : decode cX4_patch 82 = .ok (.iinc 4 (-1), 3) := by decide +kernel
theorem dX4_patch_85 : decode cX4_patch 85 = .ok (.iinc 5 1, 3) := by decide +kernel
theorem dX4_patch_88 : decode cX4_patch 88 = .ok (.goto (-64), 3) := by decide +kernel
theorem dX4_patch_91 : decode cX4_patch 91 = .ok (.bipush (-2), 2) := by decide +kernel
theorem dX4_patch_93 : decode cX4_patch 93 = .ok (.ireturn, 1) := by decide +kernel
set_option maxRecDepth 20000 in
theorem ggX4_isPatch_X4_isVersion : GoodIn wsX4_isPatch wsX4_isVersion := goodIn_r _ [5, 6, 7, 8, 9, 10, 11, 12, 13, 14, 15, 16, 17, 18, 19] (by decide +kernel) (by decide +kernel)
set_option maxRecDepth 20000 in
theorem gX4_isPatch_X4_isVersion : GoodIn wsX4_isPatch (wsV RX4 96 RX4 yX4_isVersion wsX4_isVersion) := goodIn_app (goodIn_of _ (by decide +kernel)) ggX4_isPatch_X4_isVersion
theorem dX4_isPatch_0 : decode cX4_isPatch 0 = .ok (.aload_n 0, 1) := by decide +kernel
theorem dX4_isPatch_1 : decode cX4_isPatch 1 = .ok (.iload_n 1, 1) := by decide +kernel
theorem dX4_isPatch_2 : decode cX4_isPatch 2 = .ok (.ifCond .ge 9, 3) := by decide +kernel
theorem dX4_isPatch_5 : decode cX4_isPatch 5 = .ok (.iconst (-1), 1) := by decide +kernel
theorem dX4_isPatch_6 : decode cX4_isPatch 6 = .ok (.iload_n 1, 1) := by decide +kernel
theorem dX4_isPatch_7 : decode cX4_isPatch 7 = .ok (.isub, 1) := by decide +kernel
theorem dX4_isPatch_8 : decode cX4_isPatch 8 = .ok (.goto 4, 3) := by decide +kernel
theorem dX4_isPatch_11 : decode cX4_isPatch 11 = .ok (.iload_n 1, 1) := by decide +kernel
theorem dX4_isPatch_12 : decode cX4_isPatch 12 = .ok (.invokevirtual 96, 3) := by decide +kernel
theorem dX4_isPatch_15 : decode cX4_isPatch 15 = .ok (.ireturn, 1) := by decide +kernel
set_option maxRecDepth 20000 in
theorem ggX4_inverse_X4_isPatch : GoodIn wsX4_inverse wsX4_isPatch := goodIn_r _ [5, 6, 7, 8, 4, 9, 10, 11, 12, 13, 14, 15, 16, 17, 18, 19, 20, 21, 22, 23] (by decide +kernel) (by decide +kernel)
set_option maxRecDepth 20000 in
theorem gX4_inverse_X4_isPatch : GoodIn wsX4_inverse (wsV RX4 99 RX4 yX4_isPatch wsX4_isPatch) := goodIn_app (goodIn_of _ (by decide +kernel)) ggX4_inverse_X4_isPatch
theorem dX4_inverse_0 : decode cX4_inverse 0 = .ok (.aload_n 0, 1) := by decide +kernel
theorem dX4_inverse_1 : decode cX4_inverse 1 = .ok (.iload_n 1, 1) := by decide +kernel
theorem dX4_inverse_2 : decode cX4_inverse 2 = .ok (.invokevirtual 99, 3) := by decide +kernel
theorem dX4_inverse_5 : decode cX4_inverse 5 = .ok (.ifCond .eq 9, 3) := by decide +kernel
theorem dX4_inverse_8 : decode cX4_inverse 8 = .ok (.iconst (-1), 1) := by decide +kernel
theorem dX4_inverse_9 : decode cX4_inverse 9 = .ok (.iload_n 1, 1) := by decide +kernel
theorem dX4_inverse_10 : decode cX4_inverse 10 = .ok (.isub, 1) := by decide +kernel
theorem dX4_inverse_11 : decode cX4_inverse 11 = .ok (.goto 4, 3) := by decide +kernel
theorem dX4_inverse_14 : decode cX4_inverse 14 = .ok (.iconst (-1), 1) := by decide +kernel
theorem dX4_inverse_15 : decode cX4_inverse 15 = .ok (.ireturn, 1) := by decide +kernel
set_option maxRecDepth 20000 in
theorem ggX4_lay_X4_has : GoodIn wsX4_lay wsX4_has := goodIn_r _ [7, 8, 9, 10, 11, 12, 13, 14, 15, 16, 17, 18, 19, 20, 21] (by decide +kernel) (by decide +kernel)
set_option maxRecDepth 20000 in
theorem gX4_lay_X4_has : GoodIn wsX4_lay (wsV RX4 50 RX4 yX4_has wsX4_has) := goodIn_app (goodIn_of _ (by decide +kernel)) ggX4_lay_X4_has
theorem dX4_lay_0 : decode cX4_lay 0 = .ok (.iload_n 2, 1) := by decide +kernel
theorem dX4_lay_1 : decode cX4_lay 1 = .ok (.ifCond .ge 9, 3) := by decide +kernel
theorem dX4_lay_4 : decode cX4_lay 4 = .ok (.iconst (-1), 1) := by decide +kernel
theorem dX4_lay_5 : decode cX4_lay 5 = .ok (.iload_n 2, 1) := by decide +kernel
theorem dX4_lay_6 : decode cX4_lay 6 = .ok (.isub, 1) := by decide +kernel
theorem dX4_lay_7 : decode cX4_lay 7 = .ok (.goto 4, 3) := by decide +kernel
theorem dX4_lay_10 : decode cX4_lay 10 = .ok (.iload_n 2, 1) := by decide +kernel
theorem dX4_lay_11 : decode cX4_lay 11 = .ok (.istore_n 3, 1) := by decide +kernel
theorem dX4_lay_12 : decode cX4_lay 12 = .ok (.iconst 1, 1) := by decide +kernel
theorem dX4_lay_13 : decode cX4_lay 13 = .ok (.istore 4, 2) := by decide +kernel
theorem dX4_lay_15 : decode cX4_lay 15 = .ok (.iconst 0, 1) := by decide +kernel
theorem dX4_lay_16 : decode cX4_lay 16 = .ok (.istore 5, 2) := by decide +kernel
theorem dX4_lay_18 : decode cX4_lay 18 = .ok (.iconst 0, 1) := by decide +kernel
theorem dX4_lay_19 : decode cX4_lay 19 = .ok (.istore 6, 2) := by decide +kernel
theorem dX4_lay_21 : decode cX4_lay 21 = .ok (.iload 6, 2) := by decide +kernel
theorem dX4_lay_23 : decode cX4_lay 23 = .ok (.sipush 4096, 3) := by decide +kernel
theorem dX4_lay_26 : decode cX4_lay 26 = .ok (.if_icmp .ge 181, 3) := by decide +kernel
theorem dX4_lay_29 : decode cX4_lay 29 = .ok (.aload_n 0, 1) := by decide +kernel
theorem dX4_lay_30 : decode cX4_lay 30 = .ok (.iload_n 3, 1) := by decide +kernel
theorem dX4_lay_31 : decode cX4_lay 31 = .ok (.iload 6, 2) := by decide +kernel
theorem dX4_lay_33 : decode cX4_lay 33 = .ok (.invokevirtual 50, 3) := by decide +kernel
theorem dX4_lay_36 : decode cX4_lay 36 = .ok (.istore 7, 2) := by decide +kernel
theorem dX4_lay_38 : decode cX4_lay 38 = .ok (.aload_n 0, 1) := by decide +kernel
theorem dX4_lay_39 : decode cX4_lay 39 = .ok (.aload_n 0, 1) := by decide +kernel
theorem dX4_lay_40 : decode cX4_lay 40 = .ok (.getfield 14, 3) := by decide +kernel
theorem dX4_lay_43 : decode cX4_lay 43 = .ok (.iload_n 3, 1) := by decide +kernel
theorem dX4_lay_44 : decode cX4_lay 44 = .ok (.iaload, 1) := by decide +kernel
theorem dX4_lay_45 : decode cX4_lay 45 = .ok (.iload 6, 2) := by decide +kernel
theorem dX4_lay_47 : decode cX4_lay 47 = .ok (.invokevirtual 50, 3) := by decide +kernel
theorem dX4_lay_50 : decode cX4_lay 50 = .ok (.istore 8, 2) := by decide +kernel
theorem dX4_lay_52 : decode cX4_lay 52 = .ok (.aload_n 0, 1) := by decide +kernel
theorem dX4_lay_53 : decode cX4_lay 53 = .ok (.iload_n 1, 1) := by decide +kernel
theorem dX4_lay_54 : decode cX4_lay 54 = .ok (.iload 6, 2) := by decide +kernel
theorem dX4_lay_56 : decode cX4_lay 56 = .ok (.invokevirtual 50, 3) := by decide +kernel
theorem dX4_lay_59 : decode cX4_lay 59 = .ok (.istore 9, 2) := by decide +kernel
theorem dX4_lay_61 : decode cX4_lay 61 = .ok (.iload_n 2, 1) := by decide +kernel
theorem dX4_lay_62 : decode cX4_lay 62 = .ok (.ifCond .ge 21, 3) := by decide +kernel
theorem dX4_lay_65 : decode cX4_lay 65 = .ok (.iload 8, 2) := by decide +kernel
theorem dX4_lay_67 : decode cX4_lay 67 = .ok (.ifCond .eq 12, 3) := by decide +kernel
theorem dX4_lay_70 : decode cX4_lay 70 = .ok (.iload 7, 2) := by decide +kernel
theorem dX4_lay_72 : decode cX4_lay 72 = .ok (.ifCond .ne 7, 3) := by decide +kernel
theorem dX4_lay_75 : decode cX4_lay 75 = .ok (.iconst 1, 1) := by decide +kernel
theorem dX4_lay_76 : decode cX4_lay 76 = .ok (.goto 22, 3) := by decide +kernel
theorem dX4_lay_79 : decode cX4_lay 79 = .ok (.iconst 0, 1) := by decide +kernel
theorem dX4_lay_80 : decode cX4_lay 80 = .ok (.goto 18, 3) := by decide +kernel
theorem dX4_lay_83 : decode cX4_lay 83 = .ok (.iload 7, 2) := by decide +kernel
theorem dX4_lay_85 : decode cX4_lay 85 = .ok (.ifCond .eq 12, 3) := by decide +kernel
theorem dX4_lay_88 : decode cX4_lay 88 = .ok (.iload 8, 2) := by decide +kernel
theorem dX4_lay_90 : decode cX4_lay 90 = .ok (.ifCond .ne 7, 3) := by decide +kernel
theorem dX4_lay_93 : decode cX4_lay 93 = .ok (.iconst 1, 1) := by decide +kernel
theorem dX4_lay_94 : decode cX4_lay 94 = .ok (.goto 4, 3) := by decide +kernel
theorem dX4_lay_97 : decode cX4_lay 97 = .ok (.iconst 0, 1) := by decide +kernel
theorem dX4_lay_98 : decode cX4_lay 98 = .ok (.istore 10, 2) := by decide +kernel
theorem dX4_lay_100 : decode cX4_lay 100 = .ok (.iload 7, 2) := by decide +kernel
theorem dX4_lay_102 : decode cX4_lay 102 = .ok (.iload 8, 2) := by decide +kernel
theorem dX4_lay_104 : decode cX4_lay 104 = .ok (.if_icmp .eq 12, 3) := by decide +kernel
theorem dX4_lay_107 : decode cX4_lay 107 = .ok (.iload 10, 2) := by decide +kernel
theorem dX4_lay_109 : decode cX4_lay 109 = .ok (.ifCond .ne 7, 3) := by decide +kernel
theorem dX4_lay_112 : decode cX4_lay 112 = .ok (.iconst 1, 1) := by decide +kernel
theorem dX4_lay_113 : decode cX4_lay 113 = .ok (.goto 4, 3) := by decide +kernel
theorem dX4_lay_116 : decode cX4_lay 116 = .ok (.iconst 0, 1) := by decide +kernel
theorem dX4_lay_117 : decode cX4_lay 117 = .ok (.istore 11, 2) := by decide +kernel
theorem dX4_lay_119 : decode cX4_lay 119 = .ok (.iload 4, 2) := by decide +kernel
theorem dX4_lay_121 : decode cX4_lay 121 = .ok (.ifCond .eq 17, 3) := by decide +kernel
theorem dX4_lay_124 : decode cX4_lay 124 = .ok (.iload 11, 2) := by decide +kernel
theorem dX4_lay_126 : decode cX4_lay 126 = .ok (.ifCond .eq 8, 3) := by decide +kernel
theorem dX4_lay_129 : decode cX4_lay 129 = .ok (.iload 9, 2) := by decide +kernel
theorem dX4_lay_131 : decode cX4_lay 131 = .ok (.ifCond .eq 7, 3) := by decide +kernel
theorem dX4_lay_134 : decode cX4_lay 134 = .ok (.iconst 1, 1) := by decide +kernel
theorem dX4_lay_135 : decode cX4_lay 135 = .ok (.goto 4, 3) := by decide +kernel
theorem dX4_lay_138 : decode cX4_lay 138 = .ok (.iconst 0, 1) := by decide +kernel
theorem dX4_lay_139 : decode cX4_lay 139 = .ok (.istore 4, 2) := by decide +kernel
theorem dX4_lay_141 : decode cX4_lay 141 = .ok (.iload 5, 2) := by decide +kernel
theorem dX4_lay_143 : decode cX4_lay 143 = .ok (.ifCond .ne 23, 3) := by decide +kernel
theorem dX4_lay_146 : decode cX4_lay 146 = .ok (.iload 10, 2) := by decide +kernel
theorem dX4_lay_148 : decode cX4_lay 148 = .ok (.ifCond .eq 8, 3) := by decide +kernel
theorem dX4_lay_151 : decode cX4_lay 151 = .ok (.iload 9, 2) := by decide +kernel
theorem dX4_lay_153 : decode cX4_lay 153 = .ok (.ifCond .eq 13, 3) := by decide +kernel
theorem dX4_lay_156 : decode cX4_lay 156 = .ok (.iload 11, 2) := by decide +kernel
theorem dX4_lay_158 : decode cX4_lay 158 = .ok (.ifCond .eq 12, 3) := by decide +kernel
theorem dX4_lay_161 : decode cX4_lay 161 = .ok (.iload 9, 2) := by decide +kernel
theorem dX4_lay_163 : decode cX4_lay 163 = .ok (.ifCond .eq 7, 3) := by decide +kernel
theorem dX4_lay_166 : decode cX4_lay 166 = .ok (.iconst 1, 1) := by decide +kernel
theorem dX4_lay_167 : decode cX4_lay 167 = .ok (.goto 4, 3) := by decide +kernel
theorem dX4_lay_170 : decode cX4_lay 170 = .ok (.iconst 0, 1) := by decide +kernel
theorem dX4_lay_171 : decode cX4_lay 171 = .ok (.istore 5, 2) := by decide +kernel
theorem dX4_lay_173 : decode cX4_lay 173 = .ok (.aload_n 0, 1) := by decide +kernel
theorem dX4_lay_174 : decode cX4_lay 174 = .ok (.getfield 31, 3) := by decide +kernel
theorem dX4_lay_177 : decode cX4_lay 177 = .ok (.iload 6, 2) := by decide +kernel
theorem dX4_lay_179 : decode cX4_lay 179 = .ok (.iload 10, 2) := by decide +kernel
theorem dX4_lay_181 : decode cX4_lay 181 = .ok (.ifCond .ne 13, 3) := by decide +kernel
theorem dX4_lay_184 : decode cX4_lay 184 = .ok (.iload 9, 2) := by decide +kernel
theorem dX4_lay_186 : decode cX4_lay 186 = .ok (.ifCond .eq 12, 3) := by decide +kernel
theorem dX4_lay_189 : decode cX4_lay 189 = .ok (.iload 11, 2) := by decide +kernel
theorem dX4_lay_191 : decode cX4_lay 191 = .ok (.ifCond .ne 7, 3) := by decide +kernel
theorem dX4_lay_194 : decode cX4_lay 194 = .ok (.iconst 1, 1) := by decide +kernel
theorem dX4_lay_195 : decode cX4_lay 195 = .ok (.goto 4, 3) := by decide +kernel
theorem dX4_lay_198 : decode cX4_lay 198 = .ok (.iconst 0, 1) := by decide +kernel
theorem dX4_lay_199 : decode cX4_lay 199 = .ok (.i2b, 1) := by decide +kernel
theorem dX4_lay_200 : decode cX4_lay 200 = .ok (.bastore, 1) := by decide +kernel
theorem dX4_lay_201 : decode cX4_lay 201 = .ok (.iinc 6 1, 3) := by decide +kernel
theorem dX4_lay_204 : decode cX4_lay 204 = .ok (.goto (-183), 3) := by decide +kernel
theorem dX4_lay_207 : decode cX4_lay 207 = .ok (.iload 4, 2) := by decide +kernel
theorem dX4_lay_209 : decode cX4_lay 209 = .ok (.ifCond .eq 12, 3) := by decide +kernel
theorem dX4_lay_212 : decode cX4_lay 212 = .ok (.iload 5, 2) := by decide +kernel
theorem dX4_lay_214 : decode cX4_lay 214 = .ok (.ifCond .eq 7, 3) := by decide +kernel
theorem dX4_lay_217 : decode cX4_lay 217 = .ok (.iconst 1, 1) := by decide +kernel
theorem dX4_lay_218 : decode cX4_lay 218 = .ok (.goto 4, 3) := by decide +kernel
theorem dX4_lay_221 : decode cX4_lay 221 = .ok (.iconst 0, 1) := by decide +kernel
theorem dX4_lay_222 : decode cX4_lay 222 = .ok (.ireturn, 1) := by decide +kernel
set_option maxRecDepth 20000 in
theorem ggX4_laid_X4_lay : GoodIn wsX4_laid wsX4_lay := goodIn_r _ [7, 8, 9, 10, 11, 12, 6, 13, 14, 24, 25, 26, 27, 28, 29, 30, 31, 32, 33, 34, 35, 36] (by decide +kernel) (by decide +kernel)
set_option maxRecDepth 20000 in
theorem gX4_laid_X4_lay : GoodIn wsX4_laid (wsV RX4 102 RX4 yX4_lay wsX4_lay) := goodIn_app (goodIn_of _ (by decide +kernel)) ggX4_laid_X4_lay
set_option maxRecDepth 20000 in
theorem ggX4_laid_X4_step : GoodIn wsX4_laid wsX4_step := goodIn_r _ [18, 1, 19, 20, 21, 6, 22, 8, 2, 23, 14, 9, 24, 25, 26, 27, 28, 29, 30, 31, 32, 33, 34, 35, 36] (by decide +kernel) (by decide +kernel)
set_option maxRecDepth 20000 in
theorem gX4_laid_X4_step : GoodIn wsX4_laid (wsV RX4 69 RX4 yX4_step wsX4_step) := goodIn_app (goodIn_of _ (by decide +kernel)) ggX4_laid_X4_step
theorem dX4_laid_0 : decode cX4_laid 0 = .ok (.aload_n 0, 1) := by decide +kernel
theorem dX4_laid_1 : decode cX4_laid 1 = .ok (.aload_n 0, 1) := by decide +kernel
theorem dX4_laid_2 : decode cX4_laid 2 = .ok (.getfield 21, 3) := by decide +kernel
theorem dX4_laid_5 : decode cX4_laid 5 = .ok (.iload_n 1, 1) := by decide +kernel
theorem dX4_laid_6 : decode cX4_laid 6 = .ok (.iaload, 1) := by decide +kernel
theorem dX4_laid_7 : decode cX4_laid 7 = .ok (.iload_n 2, 1) := by decide +kernel
theorem dX4_laid_8 : decode cX4_laid 8 = .ok (.invokevirtual 102, 3) := by decide +kernel
theorem dX4_laid_11 : decode cX4_laid 11 = .ok (.ifCond .ne 5, 3) := by decide +kernel
theorem dX4_laid_14 : decode cX4_laid 14 = .ok (.iconst 0, 1) := by decide +kernel
theorem dX4_laid_15 : decode cX4_laid 15 = .ok (.ireturn, 1) := by decide +kernel
theorem dX4_laid_16 : decode cX4_laid 16 = .ok (.aload_n 0, 1) := by decide +kernel
theorem dX4_laid_17 : decode cX4_laid 17 = .ok (.getfield 43, 3) := by decide +kernel
theorem dX4_laid_20 : decode cX4_laid 20 = .ok (.sipush 400, 3) := by decide +kernel
theorem dX4_laid_23 : decode cX4_laid 23 = .ok (.if_icmp .ne 6, 3) := by decide +kernel
theorem dX4_laid_26 : decode cX4_laid 26 = .ok (.bipush (-4), 2) := by decide +kernel
theorem dX4_laid_28 : decode cX4_laid 28 = .ok (.ireturn, 1) := by decide +kernel
theorem dX4_laid_29 : decode cX4_laid 29 = .ok (.aload_n 0, 1) := by decide +kernel
theorem dX4_laid_30 : decode cX4_laid 30 = .ok (.iload_n 1, 1) := by decide +kernel
theorem dX4_laid_31 : decode cX4_laid 31 = .ok (.invokevirtual 69, 3) := by decide +kernel
theorem dX4_laid_34 : decode cX4_laid 34 = .ok (.pop, 1) := by decide +kernel
theorem dX4_laid_35 : decode cX4_laid 35 = .ok (.iconst 1, 1) := by decide +kernel
theorem dX4_laid_36 : decode cX4_laid 36 = .ok (.ireturn, 1) := by decide +kernel
set_option maxRecDepth 20000 in
theorem ggX4_apply_X4_isBranch : GoodIn wsX4_apply wsX4_isBranch := goodIn_r _ [5, 6, 41, 42, 43, 44, 45, 46, 47, 48, 49, 50, 51, 52, 53] (by decide +kernel) (by decide +kernel)
set_option maxRecDepth 20000 in
theorem gX4_apply_X4_isBranch : GoodIn wsX4_apply (wsV RX4 54 RX4 yX4_isBranch wsX4_isBranch) := goodIn_app (goodIn_of _ (by decide +kernel)) ggX4_apply_X4_isBranch
set_option maxRecDepth 20000 in
theorem ggX4_apply_X4_isPatch : GoodIn wsX4_apply wsX4_isPatch := goodIn_r _ [10, 11, 12, 13, 4, 14, 15, 41, 42, 43, 44, 45, 46, 47, 48, 49, 50, 51, 52, 53] (by decide +kernel) (by decide +kernel)
set_option maxRecDepth 20000 in
theorem gX4_apply_X4_isPatch : GoodIn wsX4_apply (wsV RX4 99 RX4 yX4_isPatch wsX4_isPatch) := goodIn_app (goodIn_of _ (by decide +kernel)) ggX4_apply_X4_isPatch
set_option maxRecDepth 20000 in
theorem ggX4_apply_X4_laid : GoodIn wsX4_apply wsX4_laid := goodIn_r _ [19, 20, 15, 21, 22, 23, 4, 24, 25, 26, 27, 28, 29, 30, 31, 32, 33, 34, 35, 36, 37, 38, 39, 40, 41, 42, 43, 44, 45, 46, 47, 48, 49, 50, 51, 52, 53] (by decide +kernel) (by decide +kernel)
set_option maxRecDepth 20000 in
theorem gX4_apply_X4_laid : GoodIn wsX4_apply (wsV RX4 105 RX4 yX4_laid wsX4_laid) := goodIn_app (goodIn_of _ (by decide +kernel)) ggX4_apply_X4_laid
theorem dX4_apply_0 : decode cX4_apply 0 = .ok (.aload_n 0, 1) := by decide +kernel
theorem dX4_apply_1 : decode cX4_apply 1 = .ok (.iload_n 1, 1) := by decide +kernel
theorem dX4_apply_2 : decode cX4_apply 2 = .ok (.invokevirtual 54, 3) := by decide +kernel
theorem dX4_apply_5 : decode cX4_apply 5 = .ok (.ifCond .eq 20, 3) := by decide +kernel
theorem dX4_apply_8 : decode cX4_apply 8 = .ok (.aload_n 0, 1) := by decide +kernel
theorem dX4_apply_9 : decode cX4_apply 9 = .ok (.iload_n 2, 1) := by decide +kernel
theorem dX4_apply_10 : decode cX4_apply 10 = .ok (.invokevirtual 99, 3) := by decide +kernel
theorem dX4_apply_13 : decode cX4_apply 13 = .ok (.ifCond .eq 12, 3) := by decide +kernel
theorem dX4_apply_16 : decode cX4_apply 16 = .ok (.aload_n 0, 1) := by decide +kernel
theorem dX4_apply_17 : decode cX4_apply 17 = .ok (.iload_n 1, 1) := by decide +kernel
theorem dX4_apply_18 : decode cX4_apply 18 = .ok (.iload_n 2, 1) := by decide +kernel
theorem dX4_apply_19 : decode cX4_apply 19 = .ok (.invokevirtual 105, 3) := by decide +kernel
theorem dX4_apply_22 : decode cX4_apply 22 = .ok (.goto 4, 3) := by decide +kernel
theorem dX4_apply_25 : decode cX4_apply 25 = .ok (.iconst (-1), 1) := by decide +kernel
theorem dX4_apply_26 : decode cX4_apply 26 = .ok (.ireturn, 1) := by decide +kernel
set_option maxRecDepth 20000 in
theorem ggX4_revert_X4_isBranch : GoodIn wsX4_revert wsX4_isBranch := goodIn_r _ [8, 9, 42, 43, 44, 45, 46, 47, 48, 49, 50, 51, 52, 53, 54] (by decide +kernel) (by decide +kernel)
set_option maxRecDepth 20000 in
theorem gX4_revert_X4_isBranch : GoodIn wsX4_revert (wsV RX4 54 RX4 yX4_isBranch wsX4_isBranch) := goodIn_app (goodIn_of _ (by decide +kernel)) ggX4_revert_X4_isBranch
set_option maxRecDepth 20000 in
theorem ggX4_revert_X4_isVersion : GoodIn wsX4_revert wsX4_isVersion := goodIn_r _ [13, 14, 42, 43, 44, 45, 46, 47, 48, 49, 50, 51, 52, 53, 54] (by decide +kernel) (by decide +kernel)
set_option maxRecDepth 20000 in
theorem gX4_revert_X4_isVersion : GoodIn wsX4_revert (wsV RX4 96 RX4 yX4_isVersion wsX4_isVersion) := goodIn_app (goodIn_of _ (by decide +kernel)) ggX4_revert_X4_isVersion
set_option maxRecDepth 20000 in
theorem ggX4_revert_X4_mark : GoodIn wsX4_revert wsX4_mark := goodIn_r _ [18, 14, 19, 3, 42, 43, 44, 45, 46, 47, 48, 49, 50, 51, 52, 53, 54] (by decide +kernel) (by decide +kernel)
set_option maxRecDepth 20000 in
theorem gX4_revert_X4_mark : GoodIn wsX4_revert (wsV RX4 83 RX4 yX4_mark wsX4_mark) := goodIn_app (goodIn_of _ (by decide +kernel)) ggX4_revert_X4_mark
set_option maxRecDepth 20000 in
theorem ggX4_revert_X4_laid : GoodIn wsX4_revert wsX4_laid := goodIn_r _ [23, 1, 14, 24, 25, 26, 7, 27, 19, 28, 29, 30, 31, 32, 33, 34, 35, 36, 37, 38, 39, 40, 41, 3, 42, 43, 44, 45, 46, 47, 48, 49, 50, 51, 52, 53, 54] (by decide +kernel) (by decide +kernel)
set_option maxRecDepth 20000 in
theorem gX4_revert_X4_laid : GoodIn wsX4_revert (wsV RX4 105 RX4 yX4_laid wsX4_laid) := goodIn_app (goodIn_of _ (by decide +kernel)) ggX4_revert_X4_laid
theorem dX4_revert_0 : decode cX4_revert 0 = .ok (.aload_n 0, 1) := by decide +kernel
theorem dX4_revert_1 : decode cX4_revert 1 = .ok (.iload_n 1, 1) := by decide +kernel
theorem dX4_revert_2 : decode cX4_revert 2 = .ok (.invokevirtual 54, 3) := by decide +kernel
theorem dX4_revert_5 : decode cX4_revert 5 = .ok (.ifCond .eq 11, 3) := by decide +kernel
theorem dX4_revert_8 : decode cX4_revert 8 = .ok (.aload_n 0, 1) := by decide +kernel
theorem dX4_revert_9 : decode cX4_revert 9 = .ok (.iload_n 2, 1) := by decide +kernel
theorem dX4_revert_10 : decode cX4_revert 10 = .ok (.invokevirtual 96, 3) := by decide +kernel
theorem dX4_revert_13 : decode cX4_revert 13 = .ok (.ifCond .ne 5, 3) := by decide +kernel
theorem dX4_revert_16 : decode cX4_revert 16 = .ok (.iconst (-1), 1) := by decide +kernel
theorem dX4_revert_17 : decode cX4_revert 17 = .ok (.ireturn, 1) := by decide +kernel
theorem dX4_revert_18 : decode cX4_revert 18 = .ok (.aload_n 0, 1) := by decide +kernel
theorem dX4_revert_19 : decode cX4_revert 19 = .ok (.aload_n 0, 1) := by decide +kernel
theorem dX4_revert_20 : decode cX4_revert 20 = .ok (.getfield 21, 3) := by decide +kernel
theorem dX4_revert_23 : decode cX4_revert 23 = .ok (.iload_n 1, 1) := by decide +kernel
theorem dX4_revert_24 : decode cX4_revert 24 = .ok (.iaload, 1) := by decide +kernel
theorem dX4_revert_25 : decode cX4_revert 25 = .ok (.aload_n 0, 1) := by decide +kernel
theorem dX4_revert_26 : decode cX4_revert 26 = .ok (.getfield 24, 3) := by decide +kernel
theorem dX4_revert_29 : decode cX4_revert 29 = .ok (.invokevirtual 83, 3) := by decide +kernel
theorem dX4_revert_32 : decode cX4_revert 32 = .ok (.aload_n 0, 1) := by decide +kernel
theorem dX4_revert_33 : decode cX4_revert 33 = .ok (.getfield 24, 3) := by decide +kernel
theorem dX4_revert_36 : decode cX4_revert 36 = .ok (.iload_n 2, 1) := by decide +kernel
theorem dX4_revert_37 : decode cX4_revert 37 = .ok (.baload, 1) := by decide +kernel
theorem dX4_revert_38 : decode cX4_revert 38 = .ok (.ifCond .eq 12, 3) := by decide +kernel
theorem dX4_revert_41 : decode cX4_revert 41 = .ok (.aload_n 0, 1) := by decide +kernel
theorem dX4_revert_42 : decode cX4_revert 42 = .ok (.getfield 18, 3) := by decide +kernel
theorem dX4_revert_45 : decode cX4_revert 45 = .ok (.iload_n 2, 1) := by decide +kernel
theorem dX4_revert_46 : decode cX4_revert 46 = .ok (.iaload, 1) := by decide +kernel
theorem dX4_revert_47 : decode cX4_revert 47 = .ok (.ifCond .lt 6, 3) := by decide +kernel
theorem dX4_revert_50 : decode cX4_revert 50 = .ok (.bipush (-3), 2) := by decide +kernel
theorem dX4_revert_52 : decode cX4_revert 52 = .ok (.ireturn, 1) := by decide +kernel
theorem dX4_revert_53 : decode cX4_revert 53 = .ok (.aload_n 0, 1) := by decide +kernel
theorem dX4_revert_54 : decode cX4_revert 54 = .ok (.iload_n 1, 1) := by decide +kernel
theorem dX4_revert_55 : decode cX4_revert 55 = .ok (.iconst (-1), 1) := by decide +kernel
theorem dX4_revert_56 : decode cX4_revert 56 = .ok (.iload_n 2, 1) := by decide +kernel
theorem dX4_revert_57 : decode cX4_revert 57 = .ok (.isub, 1) := by decide +kernel
theorem dX4_revert_58 : decode cX4_revert 58 = .ok (.invokevirtual 105, 3) := by decide +kernel
theorem dX4_revert_61 : decode cX4_revert 61 = .ok (.ireturn, 1) := by decide +kernel
set_option maxRecDepth 20000 in
theorem ggX4_history_X4_isTriple : GoodIn wsX4_history wsX4_isTriple := goodIn_r _ [7] (by decide +kernel) (by decide +kernel)
set_option maxRecDepth 20000 in
theorem gX4_history_X4_isTriple : GoodIn wsX4_history (va_wsS RX4 66 yX4_isTriple wsX4_isTriple) := goodIn_app (goodIn_of _ (by decide +kernel)) ggX4_history_X4_isTriple
set_option maxRecDepth 20000 in
theorem ggX4_history_X4_has : GoodIn wsX4_history wsX4_has := goodIn_r _ [11, 12, 13, 14, 15, 16, 17, 18, 19, 20, 21, 22, 23, 24, 25] (by decide +kernel) (by decide +kernel)
set_option maxRecDepth 20000 in
theorem gX4_history_X4_has : GoodIn wsX4_history (wsV RX4 50 RX4 yX4_has wsX4_has) := goodIn_app (goodIn_of _ (by decide +kernel)) ggX4_history_X4_has
theorem dX4_history_0 : decode cX4_history 0 = .ok (.iload_n 1, 1) := by decide +kernel
theorem dX4_history_1 : decode cX4_history 1 = .ok (.invokestatic 66, 3) := by decide +kernel
theorem dX4_history_4 : decode cX4_history 4 = .ok (.ifCond .eq 7, 3) := by decide +kernel
theorem dX4_history_7 : decode cX4_history 7 = .ok (.iload_n 2, 1) := by decide +kernel
theorem dX4_history_8 : decode cX4_history 8 = .ok (.ifCond .ge 6, 3) := by decide +kernel
theorem dX4_history_11 : decode cX4_history 11 = .ok (.bipush (-2), 2) := by decide +kernel
theorem dX4_history_13 : decode cX4_history 13 = .ok (.ireturn, 1) := by decide +kernel
theorem dX4_history_14 : decode cX4_history 14 = .ok (.iload_n 2, 1) := by decide +kernel
theorem dX4_history_15 : decode cX4_history 15 = .ok (.istore_n 3, 1) := by decide +kernel
theorem dX4_history_16 : decode cX4_history 16 = .ok (.iconst 0, 1) := by decide +kernel
theorem dX4_history_17 : decode cX4_history 17 = .ok (.istore 4, 2) := by decide +kernel
theorem dX4_history_19 : decode cX4_history 19 = .ok (.iload 4, 2) := by decide +kernel
theorem dX4_history_21 : decode cX4_history 21 = .ok (.aload_n 0, 1) := by decide +kernel
theorem dX4_history_22 : decode cX4_history 22 = .ok (.getfield 43, 3) := by decide +kernel
theorem dX4_history_25 : decode cX4_history 25 = .ok (.if_icmp .ge 54, 3) := by decide +kernel
theorem dX4_history_28 : decode cX4_history 28 = .ok (.aload_n 0, 1) := by decide +kernel
theorem dX4_history_29 : decode cX4_history 29 = .ok (.getfield 18, 3) := by decide +kernel
theorem dX4_history_32 : decode cX4_history 32 = .ok (.iload 4, 2) := by decide +kernel
theorem dX4_history_34 : decode cX4_history 34 = .ok (.iaload, 1) := by decide +kernel
theorem dX4_history_35 : decode cX4_history 35 = .ok (.ifCond .ge 38, 3) := by decide +kernel
theorem dX4_history_38 : decode cX4_history 38 = .ok (.aload_n 0, 1) := by decide +kernel
theorem dX4_history_39 : decode cX4_history 39 = .ok (.iload 4, 2) := by decide +kernel
theorem dX4_history_41 : decode cX4_history 41 = .ok (.iload_n 1, 1) := by decide +kernel
theorem dX4_history_42 : decode cX4_history 42 = .ok (.invokevirtual 50, 3) := by decide +kernel
theorem dX4_history_45 : decode cX4_history 45 = .ok (.aload_n 0, 1) := by decide +kernel
theorem dX4_history_46 : decode cX4_history 46 = .ok (.aload_n 0, 1) := by decide +kernel
theorem dX4_history_47 : decode cX4_history 47 = .ok (.getfield 14, 3) := by decide +kernel
theorem dX4_history_50 : decode cX4_history 50 = .ok (.iload 4, 2) := by decide +kernel
theorem dX4_history_52 : decode cX4_history 52 = .ok (.iaload, 1) := by decide +kernel
theorem dX4_history_53 : decode cX4_history 53 = .ok (.iload_n 1, 1) := by decide +kernel
theorem dX4_history_54 : decode cX4_history 54 = .ok (.invokevirtual 50, 3) := by decide +kernel
theorem dX4_history_57 : decode cX4_history 57 = .ok (.if_icmp .ne 6, 3) := by decide +kernel
theorem dX4_history_60 : decode cX4_history 60 = .ok (.goto 13, 3) := by decide +kernel
theorem dX4_history_63 : decode cX4_history 63 = .ok (.iload_n 3, 1) := by decide +kernel
theorem dX4_history_64 : decode cX4_history 64 = .ok (.ifCond .ne 6, 3) := by decide +kernel
theorem dX4_history_67 : decode cX4_history 67 = .ok (.iload 4, 2) := by decide +kernel
theorem dX4_history_69 : decode cX4_history 69 = .ok (.ireturn, 1) := by decide +kernel
theorem dX4_history_70 : decode cX4_history 70 = .ok (.iinc 3 (-1), 3) := by decide +kernel
theorem dX4_history_73 : decode cX4_history 73 = .ok (.iinc 4 1, 3) := by decide +kernel
theorem dX4_history_76 : decode cX4_history 76 = .ok (.goto (-57), 3) := by decide +kernel
theorem dX4_history_79 : decode cX4_history 79 = .ok (.bipush (-2), 2) := by decide +kernel
theorem dX4_history_81 : decode cX4_history 81 = .ok (.ireturn, 1) := by decide +kernel
set_option maxRecDepth 20000 in
theorem ggX4_report_X4_isBranch : GoodIn wsX4_report wsX4_isBranch := goodIn_r _ [6, 7, 13, 14, 15, 16, 17, 18, 19, 20, 21, 22, 23, 24, 25] (by decide +kernel) (by decide +kernel)
set_option maxRecDepth 20000 in
theorem gX4_report_X4_isBranch : GoodIn wsX4_report (wsV RX4 54 RX4 yX4_isBranch wsX4_isBranch) := goodIn_app (goodIn_of _ (by decide +kernel)) ggX4_report_X4_isBranch
set_option maxRecDepth 20000 in
theorem ggX4_report_X4_has : GoodIn wsX4_report wsX4_has := goodIn_r _ [11, 12, 13, 14, 15, 16, 17, 18, 19, 20, 21, 22, 23, 24, 25] (by decide +kernel) (by decide +kernel)
set_option maxRecDepth 20000 in
theorem gX4_report_X4_has : GoodIn wsX4_report (wsV RX4 50 RX4 yX4_has wsX4_has) := goodIn_app (goodIn_of _ (by decide +kernel)) ggX4_report_X4_has
theorem dX4_report_0 : decode cX4_report 0 = .ok (.aload_n 0, 1) := by decide +kernel
theorem dX4_report_1 : decode cX4_report 1 = .ok (.iload_n 1, 1) := by decide +kernel
theorem dX4_report_2 : decode cX4_report 2 = .ok (.invokevirtual 54, 3) := by decide +kernel
theorem dX4_report_5 : decode cX4_report 5 = .ok (.ifCond .ne 5, 3) := by decide +kernel
theorem dX4_report_8 : decode cX4_report 8 = .ok (.iconst (-1), 1) := by decide +kernel
theorem dX4_report_9 : decode cX4_report 9 = .ok (.ireturn, 1) := by decide +kernel
theorem dX4_report_10 : decode cX4_report 10 = .ok (.iconst 1, 1) := by decide +kernel
theorem dX4_report_11 : decode cX4_report 11 = .ok (.istore_n 2, 1) := by decide +kernel
theorem dX4_report_12 : decode cX4_report 12 = .ok (.iconst 0, 1) := by decide +kernel
theorem dX4_report_13 : decode cX4_report 13 = .ok (.istore_n 3, 1) := by decide +kernel
theorem dX4_report_14 : decode cX4_report 14 = .ok (.iload_n 3, 1) := by decide +kernel
theorem dX4_report_15 : decode cX4_report 15 = .ok (.sipush 256, 3) := by decide +kernel
theorem dX4_report_18 : decode cX4_report 18 = .ok (.if_icmp .ge 83, 3) := by decide +kernel
theorem dX4_report_21 : decode cX4_report 21 = .ok (.iconst 0, 1) := by decide +kernel
theorem dX4_report_22 : decode cX4_report 22 = .ok (.istore 4, 2) := by decide +kernel
theorem dX4_report_24 : decode cX4_report 24 = .ok (.iconst 0, 1) := by decide +kernel
theorem dX4_report_25 : decode cX4_report 25 = .ok (.istore 5, 2) := by decide +kernel
theorem dX4_report_27 : decode cX4_report 27 = .ok (.iload 5, 2) := by decide +kernel
theorem dX4_report_29 : decode cX4_report 29 = .ok (.bipush 16, 2) := by decide +kernel
theorem dX4_report_31 : decode cX4_report 31 = .ok (.if_icmp .ge 48, 3) := by decide +kernel
theorem dX4_report_34 : decode cX4_report 34 = .ok (.iload_n 3, 1) := by decide +kernel
theorem dX4_report_35 : decode cX4_report 35 = .ok (.bipush 15, 2) := by decide +kernel
theorem dX4_report_37 : decode cX4_report 37 = .ok (.iand, 1) := by decide +kernel
theorem dX4_report_38 : decode cX4_report 38 = .ok (.bipush 11, 2) := by decide +kernel
theorem dX4_report_40 : decode cX4_report 40 = .ok (.if_icmp .le 39, 3) := by decide +kernel
theorem dX4_report_43 : decode cX4_report 43 = .ok (.iload 4, 2) := by decide +kernel
theorem dX4_report_45 : decode cX4_report 45 = .ok (.aload_n 0, 1) := by decide +kernel
theorem dX4_report_46 : decode cX4_report 46 = .ok (.aload_n 0, 1) := by decide +kernel
theorem dX4_report_47 : decode cX4_report 47 = .ok (.getfield 21, 3) := by decide +kernel
theorem dX4_report_50 : decode cX4_report 50 = .ok (.iload_n 1, 1) := by decide +kernel
theorem dX4_report_51 : decode cX4_report 51 = .ok (.iaload, 1) := by decide +kernel
theorem dX4_report_52 : decode cX4_report 52 = .ok (.bipush 16, 2) := by decide +kernel
theorem dX4_report_54 : decode cX4_report 54 = .ok (.iload_n 3, 1) := by decide +kernel
theorem dX4_report_55 : decode cX4_report 55 = .ok (.imul, 1) := by decide +kernel
theorem dX4_report_56 : decode cX4_report 56 = .ok (.iload 5, 2) := by decide +kernel
theorem dX4_report_58 : decode cX4_report 58 = .ok (.iadd, 1) := by decide +kernel
theorem dX4_report_59 : decode cX4_report 59 = .ok (.invokevirtual 50, 3) := by decide +kernel
theorem dX4_report_62 : decode cX4_report 62 = .ok (.ifCond .eq 7, 3) := by decide +kernel
theorem dX4_report_65 : decode cX4_report 65 = .ok (.iconst 1, 1) := by decide +kernel
theorem dX4_report_66 : decode cX4_report 66 = .ok (.goto 4, 3) := by decide +kernel
theorem dX4_report_69 : decode cX4_report 69 = .ok (.iconst 0, 1) := by decide +kernel
theorem dX4_report_70 : decode cX4_report 70 = .ok (.iadd, 1) := by decide +kernel
theorem dX4_report_71 : decode cX4_report 71 = .ok (.istore 4, 2) := by decide +kernel
theorem dX4_report_73 : decode cX4_report 73 = .ok (.iinc 5 1, 3) := by decide +kernel
theorem dX4_report_76 : decode cX4_report 76 = .ok (.goto (-49), 3) := by decide +kernel
theorem dX4_report_79 : decode cX4_report 79 = .ok (.iload_n 2, 1) := by decide +kernel
theorem dX4_report_80 : decode cX4_report 80 = .ok (.ifCond .eq 13, 3) := by decide +kernel
theorem dX4_report_83 : decode cX4_report 83 = .ok (.iload 4, 2) := by decide +kernel
theorem dX4_report_85 : decode cX4_report 85 = .ok (.iconst 2, 1) := by decide +kernel
theorem dX4_report_86 : decode cX4_report 86 = .ok (.if_icmp .ge 7, 3) := by decide +kernel
theorem dX4_report_89 : decode cX4_report 89 = .ok (.iconst 1, 1) := by decide +kernel
theorem dX4_report_90 : decode cX4_report 90 = .ok (.goto 4, 3) := by decide +kernel
theorem dX4_report_93 : decode cX4_report 93 = .ok (.iconst 0, 1) := by decide +kernel
theorem dX4_report_94 : decode cX4_report 94 = .ok (.istore_n 2, 1) := by decide +kernel
theorem dX4_report_95 : decode cX4_report 95 = .ok (.iinc 3 1, 3) := by decide +kernel
theorem dX4_report_98 : decode cX4_report 98 = .ok (.goto (-84), 3) := by decide +kernel
theorem dX4_report_101 : decode cX4_report 101 = .ok (.iload_n 2, 1) := by decide +kernel
theorem dX4_report_102 : decode cX4_report 102 = .ok (.ifCond .eq 7, 3) := by decide +kernel
theorem dX4_report_105 : decode cX4_report 105 = .ok (.iconst 1, 1) := by decide +kernel
theorem dX4_report_106 : decode cX4_report 106 = .ok (.goto 4, 3) := by decide +kernel
theorem dX4_report_109 : decode cX4_report 109 = .ok (.iconst 0, 1) := by decide +kernel
theorem dX4_report_110 : decode cX4_report 110 = .ok (.ireturn, 1) := by decide +kernel
set_option maxRecDepth 20000 in
theorem ggX4_list_X4_isBranch : GoodIn wsX4_list wsX4_isBranch := goodIn_r _ [6, 7, 13, 14, 15, 16, 17, 18, 19, 20, 21, 22, 23, 24, 25] (by decide +kernel) (by decide +kernel)
set_option maxRecDepth 20000 in
theorem gX4_list_X4_isBranch : GoodIn wsX4_list (wsV RX4 54 RX4 yX4_isBranch wsX4_isBranch) := goodIn_app (goodIn_of _ (by decide +kernel)) ggX4_list_X4_isBranch
set_option maxRecDepth 20000 in
theorem ggX4_list_X4_has : GoodIn wsX4_list wsX4_has := goodIn_r _ [11, 12, 13, 14, 15, 16, 17, 18, 19, 20, 21, 22, 23, 24, 25] (by decide +kernel) (by decide +kernel)
set_option maxRecDepth 20000 in
theorem gX4_list_X4_has : GoodIn wsX4_list (wsV RX4 50 RX4 yX4_has wsX4_has) := goodIn_app (goodIn_of _ (by decide +kernel)) ggX4_list_X4_has
theorem dX4_list_0 : decode cX4_list 0 = .ok (.aload_n 0, 1) := by decide +kernel
theorem dX4_list_1 : decode cX4_list 1 = .ok (.iload_n 1, 1) := by decide +kernel
theorem dX4_list_2 : decode cX4_list 2 = .ok (.invokevirtual 54, 3) := by decide +kernel
theorem dX4_list_5 : decode cX4_list 5 = .ok (.ifCond .ne 5, 3) := by decide +kernel
theorem dX4_list_8 : decode cX4_list 8 = .ok (.iconst (-1), 1) := by decide +kernel
theorem dX4_list_9 : decode cX4_list 9 = .ok (.ireturn, 1) := by decide +kernel
theorem dX4_list_10 : decode cX4_list 10 = .ok (.iload_n 2, 1) := by decide +kernel
theorem dX4_list_11 : decode cX4_list 11 = .ok (.istore_n 3, 1) := by decide +kernel
theorem dX4_list_12 : decode cX4_list 12 = .ok (.iconst 0, 1) := by decide +kernel
theorem dX4_list_13 : decode cX4_list 13 = .ok (.istore 4, 2) := by decide +kernel
theorem dX4_list_15 : decode cX4_list 15 = .ok (.iload 4, 2) := by decide +kernel
theorem dX4_list_17 : decode cX4_list 17 = .ok (.sipush 4096, 3) := by decide +kernel
theorem dX4_list_20 : decode cX4_list 20 = .ok (.if_icmp .ge 41, 3) := by decide +kernel
theorem dX4_list_23 : decode cX4_list 23 = .ok (.iload_n 2, 1) := by decide +kernel
theorem dX4_list_24 : decode cX4_list 24 = .ok (.ifCond .lt 37, 3) := by decide +kernel
theorem dX4_list_27 : decode cX4_list 27 = .ok (.aload_n 0, 1) := by decide +kernel
theorem dX4_list_28 : decode cX4_list 28 = .ok (.aload_n 0, 1) := by decide +kernel
theorem dX4_list_29 : decode cX4_list 29 = .ok (.getfield 21, 3) := by decide +kernel
theorem dX4_list_32 : decode cX4_list 32 = .ok (.iload_n 1, 1) := by decide +kernel
theorem dX4_list_33 : decode cX4_list 33 = .ok (.iaload, 1) := by decide +kernel
theorem dX4_list_34 : decode cX4_list 34 = .ok (.iload 4, 2) := by decide +kernel
theorem dX4_list_36 : decode cX4_list 36 = .ok (.invokevirtual 50, 3) := by decide +kernel
theorem dX4_list_39 : decode cX4_list 39 = .ok (.ifCond .ne 6, 3) := by decide +kernel
theorem dX4_list_42 : decode cX4_list 42 = .ok (.goto 13, 3) := by decide +kernel
theorem dX4_list_45 : decode cX4_list 45 = .ok (.iload_n 3, 1) := by decide +kernel
theorem dX4_list_46 : decode cX4_list 46 = .ok (.ifCond .ne 6, 3) := by decide +kernel
theorem dX4_list_49 : decode cX4_list 49 = .ok (.iload 4, 2) := by decide +kernel
theorem dX4_list_51 : decode cX4_list 51 = .ok (.ireturn, 1) := by decide +kernel
theorem dX4_list_52 : decode cX4_list 52 = .ok (.iinc 3 (-1), 3) := by decide +kernel
theorem dX4_list_55 : decode cX4_list 55 = .ok (.iinc 4 1, 3) := by decide +kernel
theorem dX4_list_58 : decode cX4_list 58 = .ok (.goto (-43), 3) := by decide +kernel
theorem dX4_list_61 : decode cX4_list 61 = .ok (.bipush (-2), 2) := by decide +kernel
theorem dX4_list_63 : decode cX4_list 63 = .ok (.ireturn, 1) := by decide +kernel
theorem dX4_versions_0 : decode cX4_versions 0 = .ok (.aload_n 0, 1) := by decide +kernel
theorem dX4_versions_1 : decode cX4_versions 1 = .ok (.getfield 43, 3) := by decide +kernel
theorem dX4_versions_4 : decode cX4_versions 4 = .ok (.ireturn, 1) := by decide +kernel
theorem dX4_branches_0 : decode cX4_branches 0 = .ok (.aload_n 0, 1) := by decide +kernel
theorem dX4_branches_1 : decode cX4_branches 1 = .ok (.getfield 47, 3) := by decide +kernel
theorem dX4_branches_4 : decode cX4_branches 4 = .ok (.ireturn, 1) := by decide +kernel
theorem dJ13_bitCount_95d88_0 : decode cJ13_bitCount_95d88 0 = .ok (.lload_n 0, 1) := by decide +kernel
theorem dJ13_bitCount_95d88_1 : decode cJ13_bitCount_95d88 1 = .ok (.lload_n 0, 1) := by decide +kernel
theorem dJ13_bitCount_95d88_2 : decode cJ13_bitCount_95d88 2 = .ok (.iconst 1, 1) := by decide +kernel
theorem dJ13_bitCount_95d88_3 : decode cJ13_bitCount_95d88 3 = .ok (.lushr, 1) := by decide +kernel
theorem dJ13_bitCount_95d88_4 : decode cJ13_bitCount_95d88 4 = .ok (.ldc2_w 314, 3) := by decide +kernel
theorem dJ13_bitCount_95d88_7 : decode cJ13_bitCount_95d88 7 = .ok (.land, 1) := by decide +kernel
theorem dJ13_bitCount_95d88_8 : decode cJ13_bitCount_95d88 8 = .ok (.lsub, 1) := by decide +kernel
theorem dJ13_bitCount_95d88_9 : decode cJ13_bitCount_95d88 9 = .ok (.lstore_n 0, 1) := by decide +kernel
theorem dJ13_bitCount_95d88_10 : decode cJ13_bitCount_95d88 10 = .ok (.lload_n 0, 1) := by decide +kernel
theorem dJ13_bitCount_95d88_11 : decode cJ13_bitCount_95d88 11 = .ok (.ldc2_w 316, 3) := by decide +kernel
theorem dJ13_bitCount_95d88_14 : decode cJ13_bitCount_95d88 14 = .ok (.land, 1) := by decide +kernel
theorem dJ13_bitCount_95d88_15 : decode cJ13_bitCount_95d88 15 = .ok (.lload_n 0, 1) := by decide +kernel
theorem dJ13_bitCount_95d88_16 : decode cJ13_bitCount_95d88 16 = .ok (.iconst 2, 1) := by decide +kernel
theorem dJ13_bitCount_95d88_17 : decode cJ13_bitCount_95d88 17 = .ok (.lushr, 1) := by decide +kernel
theorem dJ13_bitCount_95d88_18 : decode cJ13_bitCount_95d88 18 = .ok (.ldc2_w 316, 3) := by decide +kernel
theorem dJ13_bitCount_95d88_21 : decode cJ13_bitCount_95d88 21 = .ok (.land, 1) := by decide +kernel
theorem dJ13_bitCount_95d88_22 : decode cJ13_bitCount_95d88 22 = .ok (.ladd, 1) := by decide +kernel
theorem dJ13_bitCount_95d88_23 : decode cJ13_bitCount_95d88 23 = .ok (.lstore_n 0, 1) := by decide +kernel
theorem dJ13_bitCount_95d88_24 : decode cJ13_bitCount_95d88 24 = .ok (.lload_n 0, 1) := by decide +kernel
theorem dJ13_bitCount_95d88_25 : decode cJ13_bitCount_95d88 25 = .ok (.lload_n 0, 1) := by decide +kernel
theorem dJ13_bitCount_95d88_26 : decode cJ13_bitCount_95d88 26 = .ok (.iconst 4, 1) := by decide +kernel
theorem dJ13_bitCount_95d88_27 : decode cJ13_bitCount_95d88 27 = .ok (.lushr, 1) := by decide +kernel
theorem dJ13_bitCount_95d88_28 : decode cJ13_bitCount_95d88 28 = .ok (.ladd, 1) := by decide +kernel
theorem dJ13_bitCount_95d88_29 : decode cJ13_bitCount_95d88 29 = .ok (.ldc2_w 318, 3) := by decide +kernel
theorem dJ13_bitCount_95d88_32 : decode cJ13_bitCount_95d88 32 = .ok (.land, 1) := by decide +kernel
theorem dJ13_bitCount_95d88_33 : decode cJ13_bitCount_95d88 33 = .ok (.lstore_n 0, 1) := by decide +kernel
theorem dJ13_bitCount_95d88_34 : decode cJ13_bitCount_95d88 34 = .ok (.lload_n 0, 1) := by decide +kernel
theorem dJ13_bitCount_95d88_35 : decode cJ13_bitCount_95d88 35 = .ok (.lload_n 0, 1) := by decide +kernel
theorem dJ13_bitCount_95d88_36 : decode cJ13_bitCount_95d88 36 = .ok (.bipush 8, 2) := by decide +kernel
theorem dJ13_bitCount_95d88_38 : decode cJ13_bitCount_95d88 38 = .ok (.lushr, 1) := by decide +kernel
theorem dJ13_bitCount_95d88_39 : decode cJ13_bitCount_95d88 39 = .ok (.ladd, 1) := by decide +kernel
theorem dJ13_bitCount_95d88_40 : decode cJ13_bitCount_95d88 40 = .ok (.lstore_n 0, 1) := by decide +kernel
theorem dJ13_bitCount_95d88_41 : decode cJ13_bitCount_95d88 41 = .ok (.lload_n 0, 1) := by decide +kernel
theorem dJ13_bitCount_95d88_42 : decode cJ13_bitCount_95d88 42 = .ok (.lload_n 0, 1) := by decide +kernel
theorem dJ13_bitCount_95d88_43 : decode cJ13_bitCount_95d88 43 = .ok (.bipush 16, 2) := by decide +kernel
theorem dJ13_bitCount_95d88_45 : decode cJ13_bitCount_95d88 45 = .ok (.lushr, 1) := by decide +kernel
theorem dJ13_bitCount_95d88_46 : decode cJ13_bitCount_95d88 46 = .ok (.ladd, 1) := by decide +kernel
theorem dJ13_bitCount_95d88_47 : decode cJ13_bitCount_95d88 47 = .ok (.lstore_n 0, 1) := by decide +kernel
theorem dJ13_bitCount_95d88_48 : decode cJ13_bitCount_95d88 48 = .ok (.lload_n 0, 1) := by decide +kernel
theorem dJ13_bitCount_95d88_49 : decode cJ13_bitCount_95d88 49 = .ok (.lload_n 0, 1) := by decide +kernel
theorem dJ13_bitCount_95d88_50 : decode cJ13_bitCount_95d88 50 = .ok (.bipush 32, 2) := by decide +kernel
theorem dJ13_bitCount_95d88_52 : decode cJ13_bitCount_95d88 52 = .ok (.lushr, 1) := by decide +kernel
theorem dJ13_bitCount_95d88_53 : decode cJ13_bitCount_95d88 53 = .ok (.ladd, 1) := by decide +kernel
theorem dJ13_bitCount_95d88_54 : decode cJ13_bitCount_95d88 54 = .ok (.lstore_n 0, 1) := by decide +kernel
theorem dJ13_bitCount_95d88_55 : decode cJ13_bitCount_95d88 55 = .ok (.lload_n 0, 1) := by decide +kernel
theorem dJ13_bitCount_95d88_56 : decode cJ13_bitCount_95d88 56 = .ok (.l2i, 1) := by decide +kernel
theorem dJ13_bitCount_95d88_57 : decode cJ13_bitCount_95d88 57 = .ok (.bipush 127, 2) := by decide +kernel
theorem dJ13_bitCount_95d88_59 : decode cJ13_bitCount_95d88 59 = .ok (.iand, 1) := by decide +kernel
theorem dJ13_bitCount_95d88_60 : decode cJ13_bitCount_95d88 60 = .ok (.ireturn, 1) := by decide +kernel
theorem dJ9_min_7cf53_0 : decode cJ9_min_7cf53 0 = .ok (.iload_n 0, 1) := by decide +kernel
theorem dJ9_min_7cf53_1 : decode cJ9_min_7cf53 1 = .ok (.iload_n 1, 1) := by decide +kernel
theorem dJ9_min_7cf53_2 : decode cJ9_min_7cf53 2 = .ok (.if_icmp .gt 7, 3) := by decide +kernel
theorem dJ9_min_7cf53_5 : decode cJ9_min_7cf53 5 = .ok (.iload_n 0, 1) := by decide +kernel
theorem dJ9_min_7cf53_6 : decode cJ9_min_7cf53 6 = .ok (.goto 4, 3) := by decide +kernel
theorem dJ9_min_7cf53_9 : decode cJ9_min_7cf53 9 = .ok (.iload_n 1, 1) := by decide +kernel
theorem dJ9_min_7cf53_10 : decode cJ9_min_7cf53 10 = .ok (.ireturn, 1) := by decide +kernel
