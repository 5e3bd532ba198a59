theorem dX0_init_0 : decode cX0_init 0 = .ok (.aload_n 0, 1) := by decide +kernel
theorem dX0_init_1 : decode cX0_init 1 = .ok (.invokespecial 1, 3) := by decide +kernel
theorem dX0_init_4 : decode cX0_init 4 = .ok (.aload_n 0, 1) := by decide +kernel
theorem dX0_init_5 : decode cX0_init 5 = .ok (.aload_n 1, 1) := by decide +kernel
theorem dX0_init_6 : decode cX0_init 6 = .ok (.putfield 7, 3) := by decide +kernel
theorem dX0_init_9 : decode cX0_init 9 = .ok (.return_, 1) := by decide +kernel
theorem dX1_init_0 : decode cX1_init 0 = .ok (.aload_n 0, 1) := by decide +kernel
theorem dX1_init_1 : decode cX1_init 1 = .ok (.invokespecial 3, 3) := by decide +kernel
theorem dX1_init_4 : decode cX1_init 4 = .ok (.aload_n 0, 1) := by decide +kernel
theorem dX1_init_5 : decode cX1_init 5 = .ok (.bipush 64, 2) := by decide +kernel
theorem dX1_init_7 : decode cX1_init 7 = .ok (.newarray .long, 2) := by decide +kernel
theorem dX1_init_9 : decode cX1_init 9 = .ok (.putfield 9, 3) := by decide +kernel
theorem dX1_init_12 : decode cX1_init 12 = .ok (.return_, 1) := by decide +kernel
set_option maxRecDepth 20000 in
theorem ggX1_has_X3_isTriple : GoodIn wsX1_has wsX3_isTriple := goodIn_r _ [4] (by decide +kernel) (by decide +kernel)
set_option maxRecDepth 20000 in
theorem gX1_has_X3_isTriple_n15 : GoodIn wsX1_has (wsX3_isTriple) := ggX1_has_X3_isTriple
theorem dX1_has_0 : decode cX1_has 0 = .ok (.iload_n 1, 1) := by decide +kernel
theorem dX1_has_1 : decode cX1_has 1 = .ok (.invokestatic 15, 3) := by decide +kernel
theorem dX1_has_4 : decode cX1_has 4 = .ok (.ifCond .eq 28, 3) := by decide +kernel
theorem dX1_has_7 : decode cX1_has 7 = .ok (.aload_n 0, 1) := by decide +kernel
theorem dX1_has_8 : decode cX1_has 8 = .ok (.getfield 9, 3) := by decide +kernel
theorem dX1_has_11 : decode cX1_has 11 = .ok (.iload_n 1, 1) := by decide +kernel
theorem dX1_has_12 : decode cX1_has 12 = .ok (.bipush 6, 2) := by decide +kernel
theorem dX1_has_14 : decode cX1_has 14 = .ok (.ishr, 1) := by decide +kernel
theorem dX1_has_15 : decode cX1_has 15 = .ok (.laload, 1) := by decide +kernel
theorem dX1_has_16 : decode cX1_has 16 = .ok (.iload_n 1, 1) := by decide +kernel
theorem dX1_has_17 : decode cX1_has 17 = .ok (.bipush 63, 2) := by decide +kernel
theorem dX1_has_19 : decode cX1_has 19 = .ok (.iand, 1) := by decide +kernel
theorem dX1_has_20 : decode cX1_has 20 = .ok (.lushr, 1) := by decide +kernel
theorem dX1_has_21 : decode cX1_has 21 = .ok (.lconst 1, 1) := by decide +kernel
theorem dX1_has_22 : decode cX1_has 22 = .ok (.land, 1) := by decide +kernel
theorem dX1_has_23 : decode cX1_has 23 = .ok (.lconst 0, 1) := by decide +kernel
theorem dX1_has_24 : decode cX1_has 24 = .ok (.lcmp, 1) := by decide +kernel
theorem dX1_has_25 : decode cX1_has 25 = .ok (.ifCond .eq 7, 3) := by decide +kernel
theorem dX1_has_28 : decode cX1_has 28 = .ok (.iconst 1, 1) := by decide +kernel
theorem dX1_has_29 : decode cX1_has 29 = .ok (.goto 4, 3) := by decide +kernel
theorem dX1_has_32 : decode cX1_has 32 = .ok (.iconst 0, 1) := by decide +kernel
theorem dX1_has_33 : decode cX1_has 33 = .ok (.ireturn, 1) := by decide +kernel
set_option maxRecDepth 20000 in
theorem ggX1_change_X3_isTriple : GoodIn wsX1_change wsX3_isTriple := goodIn_r _ [5] (by decide +kernel) (by decide +kernel)
set_option maxRecDepth 20000 in
theorem gX1_change_X3_isTriple_n15 : GoodIn wsX1_change (wsX3_isTriple) := ggX1_change_X3_isTriple
theorem dX1_change_0 : decode cX1_change 0 = .ok (.iload_n 1, 1) := by decide +kernel
theorem dX1_change_1 : decode cX1_change 1 = .ok (.invokestatic 15, 3) := by decide +kernel
theorem dX1_change_4 : decode cX1_change 4 = .ok (.ifCond .ne 4, 3) := by decide +kernel
theorem dX1_change_7 : decode cX1_change 7 = .ok (.return_, 1) := by decide +kernel
theorem dX1_change_8 : decode cX1_change 8 = .ok (.lconst 1, 1) := by decide +kernel
theorem dX1_change_9 : decode cX1_change 9 = .ok (.iload_n 1, 1) := by decide +kernel
theorem dX1_change_10 : decode cX1_change 10 = .ok (.bipush 63, 2) := by decide +kernel
theorem dX1_change_12 : decode cX1_change 12 = .ok (.iand, 1) := by decide +kernel
theorem dX1_change_13 : decode cX1_change 13 = .ok (.lshl, 1) := by decide +kernel
theorem dX1_change_14 : decode cX1_change 14 = .ok (.lstore_n 3, 1) := by decide +kernel
theorem dX1_change_15 : decode cX1_change 15 = .ok (.iload_n 2, 1) := by decide +kernel
theorem dX1_change_16 : decode cX1_change 16 = .ok (.ifCond .eq 19, 3) := by decide +kernel
theorem dX1_change_19 : decode cX1_change 19 = .ok (.aload_n 0, 1) := by decide +kernel
theorem dX1_change_20 : decode cX1_change 20 = .ok (.getfield 9, 3) := by decide +kernel
theorem dX1_change_23 : decode cX1_change 23 = .ok (.iload_n 1, 1) := by decide +kernel
theorem dX1_change_24 : decode cX1_change 24 = .ok (.bipush 6, 2) := by decide +kernel
theorem dX1_change_26 : decode cX1_change 26 = .ok (.ishr, 1) := by decide +kernel
theorem dX1_change_27 : decode cX1_change 27 = .ok (.dup2, 1) := by decide +kernel
theorem dX1_change_28 : decode cX1_change 28 = .ok (.laload, 1) := by decide +kernel
theorem dX1_change_29 : decode cX1_change 29 = .ok (.lload_n 3, 1) := by decide +kernel
theorem dX1_change_30 : decode cX1_change 30 = .ok (.lor, 1) := by decide +kernel
theorem dX1_change_31 : decode cX1_change 31 = .ok (.lastore, 1) := by decide +kernel
theorem dX1_change_32 : decode cX1_change 32 = .ok (.goto 20, 3) := by decide +kernel
theorem dX1_change_35 : decode cX1_change 35 = .ok (.aload_n 0, 1) := by decide +kernel
theorem dX1_change_36 : decode cX1_change 36 = .ok (.getfield 9, 3) := by decide +kernel
theorem dX1_change_39 : decode cX1_change 39 = .ok (.iload_n 1, 1) := by decide +kernel
theorem dX1_change_40 : decode cX1_change 40 = .ok (.bipush 6, 2) := by decide +kernel
theorem dX1_change_42 : decode cX1_change 42 = .ok (.ishr, 1) := by decide +kernel
theorem dX1_change_43 : decode cX1_change 43 = .ok (.dup2, 1) := by decide +kernel
theorem dX1_change_44 : decode cX1_change 44 = .ok (.laload, 1) := by decide +kernel
theorem dX1_change_45 : decode cX1_change 45 = .ok (.lload_n 3, 1) := by decide +kernel
theorem dX1_change_46 : decode cX1_change 46 = .ok (.ldc2_w 19, 3) := by decide +kernel
theorem dX1_change_49 : decode cX1_change 49 = .ok (.lxor, 1) := by decide +kernel
theorem dX1_change_50 : decode cX1_change 50 = .ok (.land, 1) := by decide +kernel
theorem dX1_change_51 : decode cX1_change 51 = .ok (.lastore, 1) := by decide +kernel
theorem dX1_change_52 : decode cX1_change 52 = .ok (.return_, 1) := by decide +kernel
theorem dX1_becomeCopy_0 : decode cX1_becomeCopy 0 = .ok (.aload_n 1, 1) := by decide +kernel
theorem dX1_becomeCopy_1 : decode cX1_becomeCopy 1 = .ok (.getfield 9, 3) := by decide +kernel
theorem dX1_becomeCopy_4 : decode cX1_becomeCopy 4 = .ok (.iconst 0, 1) := by decide +kernel
theorem dX1_becomeCopy_5 : decode cX1_becomeCopy 5 = .ok (.aload_n 0, 1) := by decide +kernel
theorem dX1_becomeCopy_6 : decode cX1_becomeCopy 6 = .ok (.getfield 9, 3) := by decide +kernel
theorem dX1_becomeCopy_9 : decode cX1_becomeCopy 9 = .ok (.iconst 0, 1) := by decide +kernel
theorem dX1_becomeCopy_10 : decode cX1_becomeCopy 10 = .ok (.bipush 64, 2) := by decide +kernel
theorem dX1_becomeCopy_12 : decode cX1_becomeCopy 12 = .ok (.invokestatic 21, 3) := by decide +kernel
theorem dX1_becomeCopy_15 : decode cX1_becomeCopy 15 = .ok (.return_, 1) := by decide +kernel
theorem dX1_becomeDifference_0 : decode cX1_becomeDifference 0 = .ok (.iconst 0, 1) := by decide +kernel
theorem dX1_becomeDifference_1 : decode cX1_becomeDifference 1 = .ok (.istore_n 3, 1) := by decide +kernel
theorem dX1_becomeDifference_2 : decode cX1_becomeDifference 2 = .ok (.iload_n 3, 1) := by decide +kernel
theorem dX1_becomeDifference_3 : decode cX1_becomeDifference 3 = .ok (.bipush 64, 2) := by decide +kernel
theorem dX1_becomeDifference_5 : decode cX1_becomeDifference 5 = .ok (.if_icmp .ge 28, 3) := by decide +kernel
theorem dX1_becomeDifference_8 : decode cX1_becomeDifference 8 = .ok (.aload_n 0, 1) := by decide +kernel
theorem dX1_becomeDifference_9 : decode cX1_becomeDifference 9 = .ok (.getfield 9, 3) := by decide +kernel
theorem dX1_becomeDifference_12 : decode cX1_becomeDifference 12 = .ok (.iload_n 3, 1) := by decide +kernel
theorem dX1_becomeDifference_13 : decode cX1_becomeDifference 13 = .ok (.aload_n 1, 1) := by decide +kernel
theorem dX1_becomeDifference_14 : decode cX1_becomeDifference 14 = .ok (.getfield 9, 3) := by decide +kernel
theorem dX1_becomeDifference_17 : decode cX1_becomeDifference 17 = .ok (.iload_n 3, 1) := by decide +kernel
theorem dX1_becomeDifference_18 : decode cX1_becomeDifference 18 = .ok (.laload, 1) := by decide +kernel
theorem dX1_becomeDifference_19 : decode cX1_becomeDifference 19 = .ok (.aload_n 2, 1) := by decide +kernel
theorem dX1_becomeDifference_20 : decode cX1_becomeDifference 20 = .ok (.getfield 9, 3) := by decide +kernel
theorem dX1_becomeDifference_23 : decode cX1_becomeDifference 23 = .ok (.iload_n 3, 1) := by decide +kernel
theorem dX1_becomeDifference_24 : decode cX1_becomeDifference 24 = .ok (.laload, 1) := by decide +kernel
theorem dX1_becomeDifference_25 : decode cX1_becomeDifference 25 = .ok (.lxor, 1) := by decide +kernel
theorem dX1_becomeDifference_26 : decode cX1_becomeDifference 26 = .ok (.lastore, 1) := by decide +kernel
theorem dX1_becomeDifference_27 : decode cX1_becomeDifference 27 = .ok (.iinc 3 1, 3) := by decide +kernel
theorem dX1_becomeDifference_30 : decode cX1_becomeDifference 30 = .ok (.goto (-28), 3) := by decide +kernel
theorem dX1_becomeDifference_33 : decode cX1_becomeDifference 33 = .ok (.return_, 1) := by decide +kernel
theorem dX1_becomeMerged_0 : decode cX1_becomeMerged 0 = .ok (.iconst 0, 1) := by decide +kernel
theorem dX1_becomeMerged_1 : decode cX1_becomeMerged 1 = .ok (.istore 4, 2) := by decide +kernel
theorem dX1_becomeMerged_3 : decode cX1_becomeMerged 3 = .ok (.iload 4, 2) := by decide +kernel
theorem dX1_becomeMerged_5 : decode cX1_becomeMerged 5 = .ok (.bipush 64, 2) := by decide +kernel
theorem dX1_becomeMerged_7 : decode cX1_becomeMerged 7 = .ok (.if_icmp .ge 63, 3) := by decide +kernel
theorem dX1_becomeMerged_10 : decode cX1_becomeMerged 10 = .ok (.aload_n 1, 1) := by decide +kernel
theorem dX1_becomeMerged_11 : decode cX1_becomeMerged 11 = .ok (.getfield 9, 3) := by decide +kernel
theorem dX1_becomeMerged_14 : decode cX1_becomeMerged 14 = .ok (.iload 4, 2) := by decide +kernel
theorem dX1_becomeMerged_16 : decode cX1_becomeMerged 16 = .ok (.laload, 1) := by decide +kernel
theorem dX1_becomeMerged_17 : decode cX1_becomeMerged 17 = .ok (.aload_n 2, 1) := by decide +kernel
theorem dX1_becomeMerged_18 : decode cX1_becomeMerged 18 = .ok (.getfield 9, 3) := by decide +kernel
theorem dX1_becomeMerged_21 : decode cX1_becomeMerged 21 = .ok (.iload 4, 2) := by decide +kernel
theorem dX1_becomeMerged_23 : decode cX1_becomeMerged 23 = .ok (.laload, 1) := by decide +kernel
theorem dX1_becomeMerged_24 : decode cX1_becomeMerged 24 = .ok (.lor, 1) := by decide +kernel
theorem dX1_becomeMerged_25 : decode cX1_becomeMerged 25 = .ok (.aload_n 3, 1) := by decide +kernel
theorem dX1_becomeMerged_26 : decode cX1_becomeMerged 26 = .ok (.getfield 9, 3) := by decide +kernel
theorem dX1_becomeMerged_29 : decode cX1_becomeMerged 29 = .ok (.iload 4, 2) := by decide +kernel
theorem dX1_becomeMerged_31 : decode cX1_becomeMerged 31 = .ok (.laload, 1) := by decide +kernel
theorem dX1_becomeMerged_32 : decode cX1_becomeMerged 32 = .ok (.ldc2_w 19, 3) := by decide +kernel
theorem dX1_becomeMerged_35 : decode cX1_becomeMerged 35 = .ok (.lxor, 1) := by decide +kernel
theorem dX1_becomeMerged_36 : decode cX1_becomeMerged 36 = .ok (.land, 1) := by decide +kernel
theorem dX1_becomeMerged_37 : decode cX1_becomeMerged 37 = .ok (.lstore 5, 2) := by decide +kernel
theorem dX1_becomeMerged_39 : decode cX1_becomeMerged 39 = .ok (.aload_n 0, 1) := by decide +kernel
theorem dX1_becomeMerged_40 : decode cX1_becomeMerged 40 = .ok (.getfield 9, 3) := by decide +kernel
theorem dX1_becomeMerged_43 : decode cX1_becomeMerged 43 = .ok (.iload 4, 2) := by decide +kernel
theorem dX1_becomeMerged_45 : decode cX1_becomeMerged 45 = .ok (.lload 5, 2) := by decide +kernel
theorem dX1_becomeMerged_47 : decode cX1_becomeMerged 47 = .ok (.aload_n 1, 1) := by decide +kernel
theorem dX1_becomeMerged_48 : decode cX1_becomeMerged 48 = .ok (.getfield 9, 3) := by decide +kernel
theorem dX1_becomeMerged_51 : decode cX1_becomeMerged 51 = .ok (.iload 4, 2) := by decide +kernel
theorem dX1_becomeMerged_53 : decode cX1_becomeMerged 53 = .ok (.laload, 1) := by decide +kernel
theorem dX1_becomeMerged_54 : decode cX1_becomeMerged 54 = .ok (.aload_n 2, 1) := by decide +kernel
theorem dX1_becomeMerged_55 : decode cX1_becomeMerged 55 = .ok (.getfield 9, 3) := by decide +kernel
theorem dX1_becomeMerged_58 : decode cX1_becomeMerged 58 = .ok (.iload 4, 2) := by decide +kernel
theorem dX1_becomeMerged_60 : decode cX1_becomeMerged 60 = .ok (.laload, 1) := by decide +kernel
theorem dX1_becomeMerged_61 : decode cX1_becomeMerged 61 = .ok (.land, 1) := by decide +kernel
theorem dX1_becomeMerged_62 : decode cX1_becomeMerged 62 = .ok (.lor, 1) := by decide +kernel
theorem dX1_becomeMerged_63 : decode cX1_becomeMerged 63 = .ok (.lastore, 1) := by decide +kernel
theorem dX1_becomeMerged_64 : decode cX1_becomeMerged 64 = .ok (.iinc 4 1, 3) := by decide +kernel
theorem dX1_becomeMerged_67 : decode cX1_becomeMerged 67 = .ok (.goto (-64), 3) := by decide +kernel
theorem dX1_becomeMerged_70 : decode cX1_becomeMerged 70 = .ok (.return_, 1) := by decide +kernel
theorem dX1_becomeLaid_0 : decode cX1_becomeLaid 0 = .ok (.iconst 0, 1) := by decide +kernel
theorem dX1_becomeLaid_1 : decode cX1_becomeLaid 1 = .ok (.istore 4, 2) := by decide +kernel
theorem dX1_becomeLaid_3 : decode cX1_becomeLaid 3 = .ok (.iload 4, 2) := by decide +kernel
theorem dX1_becomeLaid_5 : decode cX1_becomeLaid 5 = .ok (.bipush 64, 2) := by decide +kernel
theorem dX1_becomeLaid_7 : decode cX1_becomeLaid 7 = .ok (.if_icmp .ge 75, 3) := by decide +kernel
theorem dX1_becomeLaid_10 : decode cX1_becomeLaid 10 = .ok (.aload_n 2, 1) := by decide +kernel
theorem dX1_becomeLaid_11 : decode cX1_becomeLaid 11 = .ok (.getfield 9, 3) := by decide +kernel
theorem dX1_becomeLaid_14 : decode cX1_becomeLaid 14 = .ok (.iload 4, 2) := by decide +kernel
theorem dX1_becomeLaid_16 : decode cX1_becomeLaid 16 = .ok (.laload, 1) := by decide +kernel
theorem dX1_becomeLaid_17 : decode cX1_becomeLaid 17 = .ok (.aload_n 3, 1) := by decide +kernel
theorem dX1_becomeLaid_18 : decode cX1_becomeLaid 18 = .ok (.getfield 9, 3) := by decide +kernel
theorem dX1_becomeLaid_21 : decode cX1_becomeLaid 21 = .ok (.iload 4, 2) := by decide +kernel
theorem dX1_becomeLaid_23 : decode cX1_becomeLaid 23 = .ok (.laload, 1) := by decide +kernel
theorem dX1_becomeLaid_24 : decode cX1_becomeLaid 24 = .ok (.ldc2_w 19, 3) := by decide +kernel
theorem dX1_becomeLaid_27 : decode cX1_becomeLaid 27 = .ok (.lxor, 1) := by decide +kernel
theorem dX1_becomeLaid_28 : decode cX1_becomeLaid 28 = .ok (.land, 1) := by decide +kernel
theorem dX1_becomeLaid_29 : decode cX1_becomeLaid 29 = .ok (.lstore 5, 2) := by decide +kernel
theorem dX1_becomeLaid_31 : decode cX1_becomeLaid 31 = .ok (.aload_n 3, 1) := by decide +kernel
theorem dX1_becomeLaid_32 : decode cX1_becomeLaid 32 = .ok (.getfield 9, 3) := by decide +kernel
theorem dX1_becomeLaid_35 : decode cX1_becomeLaid 35 = .ok (.iload 4, 2) := by decide +kernel
theorem dX1_becomeLaid_37 : decode cX1_becomeLaid 37 = .ok (.laload, 1) := by decide +kernel
theorem dX1_becomeLaid_38 : decode cX1_becomeLaid 38 = .ok (.aload_n 2, 1) := by decide +kernel
theorem dX1_becomeLaid_39 : decode cX1_becomeLaid 39 = .ok (.getfield 9, 3) := by decide +kernel
theorem dX1_becomeLaid_42 : decode cX1_becomeLaid 42 = .ok (.iload 4, 2) := by decide +kernel
theorem dX1_becomeLaid_44 : decode cX1_becomeLaid 44 = .ok (.laload, 1) := by decide +kernel
theorem dX1_becomeLaid_45 : decode cX1_becomeLaid 45 = .ok (.ldc2_w 19, 3) := by decide +kernel
theorem dX1_becomeLaid_48 : decode cX1_becomeLaid 48 = .ok (.lxor, 1) := by decide +kernel
theorem dX1_becomeLaid_49 : decode cX1_becomeLaid 49 = .ok (.land, 1) := by decide +kernel
theorem dX1_becomeLaid_50 : decode cX1_becomeLaid 50 = .ok (.lstore 7, 2) := by decide +kernel
theorem dX1_becomeLaid_52 : decode cX1_becomeLaid 52 = .ok (.aload_n 0, 1) := by decide +kernel
theorem dX1_becomeLaid_53 : decode cX1_becomeLaid 53 = .ok (.getfield 9, 3) := by decide +kernel
theorem dX1_becomeLaid_56 : decode cX1_becomeLaid 56 = .ok (.iload 4, 2) := by decide +kernel
theorem dX1_becomeLaid_58 : decode cX1_becomeLaid 58 = .ok (.aload_n 1, 1) := by decide +kernel
theorem dX1_becomeLaid_59 : decode cX1_becomeLaid 59 = .ok (.getfield 9, 3) := by decide +kernel
theorem dX1_becomeLaid_62 : decode cX1_becomeLaid 62 = .ok (.iload 4, 2) := by decide +kernel
theorem dX1_becomeLaid_64 : decode cX1_becomeLaid 64 = .ok (.laload, 1) := by decide +kernel
theorem dX1_becomeLaid_65 : decode cX1_becomeLaid 65 = .ok (.lload 5, 2) := by decide +kernel
theorem dX1_becomeLaid_67 : decode cX1_becomeLaid 67 = .ok (.ldc2_w 19, 3) := by decide +kernel
theorem dX1_becomeLaid_70 : decode cX1_becomeLaid 70 = .ok (.lxor, 1) := by decide +kernel
theorem dX1_becomeLaid_71 : decode cX1_becomeLaid 71 = .ok (.land, 1) := by decide +kernel
theorem dX1_becomeLaid_72 : decode cX1_becomeLaid 72 = .ok (.lload 7, 2) := by decide +kernel
theorem dX1_becomeLaid_74 : decode cX1_becomeLaid 74 = .ok (.lor, 1) := by decide +kernel
theorem dX1_becomeLaid_75 : decode cX1_becomeLaid 75 = .ok (.lastore, 1) := by decide +kernel
theorem dX1_becomeLaid_76 : decode cX1_becomeLaid 76 = .ok (.iinc 4 1, 3) := by decide +kernel
theorem dX1_becomeLaid_79 : decode cX1_becomeLaid 79 = .ok (.goto (-76), 3) := by decide +kernel
theorem dX1_becomeLaid_82 : decode cX1_becomeLaid 82 = .ok (.return_, 1) := by decide +kernel
set_option maxRecDepth 20000 in
theorem ggX1_becomeRenamed_X1_has : GoodIn wsX1_becomeRenamed wsX1_has := goodIn_r _ [6, 1, 7, 8, 9, 27] (by decide +kernel) (by decide +kernel)
set_option maxRecDepth 20000 in
theorem gX1_becomeRenamed_X1_has : GoodIn wsX1_becomeRenamed (wsV RX1 27 RX1 yX1_has wsX1_has) := goodIn_app (goodIn_of _ (by decide +kernel)) ggX1_becomeRenamed_X1_has
set_option maxRecDepth 20000 in
theorem ggX1_becomeRenamed_X1_renamed : GoodIn wsX1_becomeRenamed wsX1_renamed := goodIn_r _ [12, 13, 14, 5, 15, 16, 17, 18, 19, 20, 21] (by decide +kernel) (by decide +kernel)
set_option maxRecDepth 20000 in
theorem gX1_becomeRenamed_X1_renamed : GoodIn wsX1_becomeRenamed (va_wsS RX1 30 yX1_renamed wsX1_renamed) := goodIn_app (goodIn_of _ (by decide +kernel)) ggX1_becomeRenamed_X1_renamed
set_option maxRecDepth 20000 in
theorem ggX1_becomeRenamed_X1_change : GoodIn wsX1_becomeRenamed wsX1_change := goodIn_r _ [25, 1, 26, 7, 8, 9, 27] (by decide +kernel) (by decide +kernel)
set_option maxRecDepth 20000 in
theorem gX1_becomeRenamed_X1_change : GoodIn wsX1_becomeRenamed (wsV RX1 34 RX1 yX1_change wsX1_change) := goodIn_app (goodIn_of _ (by decide +kernel)) ggX1_becomeRenamed_X1_change
theorem dX1_becomeRenamed_0 : decode cX1_becomeRenamed 0 = .ok (.iconst 0, 1) := by decide +kernel
theorem dX1_becomeRenamed_1 : decode cX1_becomeRenamed 1 = .ok (.istore 4, 2) := by decide +kernel
theorem dX1_becomeRenamed_3 : decode cX1_becomeRenamed 3 = .ok (.iload 4, 2) := by decide +kernel
theorem dX1_becomeRenamed_5 : decode cX1_becomeRenamed 5 = .ok (.bipush 64, 2) := by decide +kernel
theorem dX1_becomeRenamed_7 : decode cX1_becomeRenamed 7 = .ok (.if_icmp .ge 17, 3) := by decide +kernel
theorem dX1_becomeRenamed_10 : decode cX1_becomeRenamed 10 = .ok (.aload_n 0, 1) := by decide +kernel
theorem dX1_becomeRenamed_11 : decode cX1_becomeRenamed 11 = .ok (.getfield 9, 3) := by decide +kernel
theorem dX1_becomeRenamed_14 : decode cX1_becomeRenamed 14 = .ok (.iload 4, 2) := by decide +kernel
theorem dX1_becomeRenamed_16 : decode cX1_becomeRenamed 16 = .ok (.lconst 0, 1) := by decide +kernel
theorem dX1_becomeRenamed_17 : decode cX1_becomeRenamed 17 = .ok (.lastore, 1) := by decide +kernel
theorem dX1_becomeRenamed_18 : decode cX1_becomeRenamed 18 = .ok (.iinc 4 1, 3) := by decide +kernel
theorem dX1_becomeRenamed_21 : decode cX1_becomeRenamed 21 = .ok (.goto (-18), 3) := by decide +kernel
theorem dX1_becomeRenamed_24 : decode cX1_becomeRenamed 24 = .ok (.iconst 0, 1) := by decide +kernel
theorem dX1_becomeRenamed_25 : decode cX1_becomeRenamed 25 = .ok (.istore 4, 2) := by decide +kernel
theorem dX1_becomeRenamed_27 : decode cX1_becomeRenamed 27 = .ok (.iload 4, 2) := by decide +kernel
theorem dX1_becomeRenamed_29 : decode cX1_becomeRenamed 29 = .ok (.sipush 4096, 3) := by decide +kernel
theorem dX1_becomeRenamed_32 : decode cX1_becomeRenamed 32 = .ok (.if_icmp .ge 30, 3) := by decide +kernel
theorem dX1_becomeRenamed_35 : decode cX1_becomeRenamed 35 = .ok (.aload_n 1, 1) := by decide +kernel
theorem dX1_becomeRenamed_36 : decode cX1_becomeRenamed 36 = .ok (.iload 4, 2) := by decide +kernel
theorem dX1_becomeRenamed_38 : decode cX1_becomeRenamed 38 = .ok (.invokevirtual 27, 3) := by decide +kernel
theorem dX1_becomeRenamed_41 : decode cX1_becomeRenamed 41 = .ok (.ifCond .eq 15, 3) := by decide +kernel
theorem dX1_becomeRenamed_44 : decode cX1_becomeRenamed 44 = .ok (.aload_n 0, 1) := by decide +kernel
theorem dX1_becomeRenamed_45 : decode cX1_becomeRenamed 45 = .ok (.iload 4, 2) := by decide +kernel
theorem dX1_becomeRenamed_47 : decode cX1_becomeRenamed 47 = .ok (.iload_n 2, 1) := by decide +kernel
theorem dX1_becomeRenamed_48 : decode cX1_becomeRenamed 48 = .ok (.iload_n 3, 1) := by decide +kernel
theorem dX1_becomeRenamed_49 : decode cX1_becomeRenamed 49 = .ok (.invokestatic 30, 3) := by decide +kernel
theorem dX1_becomeRenamed_52 : decode cX1_becomeRenamed 52 = .ok (.iconst 1, 1) := by decide +kernel
theorem dX1_becomeRenamed_53 : decode cX1_becomeRenamed 53 = .ok (.invokevirtual 34, 3) := by decide +kernel
theorem dX1_becomeRenamed_56 : decode cX1_becomeRenamed 56 = .ok (.iinc 4 1, 3) := by decide +kernel
theorem dX1_becomeRenamed_59 : decode cX1_becomeRenamed 59 = .ok (.goto (-32), 3) := by decide +kernel
theorem dX1_becomeRenamed_62 : decode cX1_becomeRenamed 62 = .ok (.return_, 1) := by decide +kernel
set_option maxRecDepth 20000 in
theorem ggX1_renamed_X1_subject : GoodIn wsX1_renamed wsX1_subject := goodIn_r _ [4] (by decide +kernel) (by decide +kernel)
set_option maxRecDepth 20000 in
theorem gX1_renamed_X1_subject : GoodIn wsX1_renamed (va_wsS RX1 38 yX1_subject wsX1_subject) := goodIn_app (goodIn_of _ (by decide +kernel)) ggX1_renamed_X1_subject
set_option maxRecDepth 20000 in
theorem ggX1_renamed_X1_property : GoodIn wsX1_renamed wsX1_property := goodIn_r _ [7] (by decide +kernel) (by decide +kernel)
set_option maxRecDepth 20000 in
theorem gX1_renamed_X1_property : GoodIn wsX1_renamed (va_wsS RX1 42 yX1_property wsX1_property) := goodIn_app (goodIn_of _ (by decide +kernel)) ggX1_renamed_X1_property
set_option maxRecDepth 20000 in
theorem ggX1_renamed_X1_object : GoodIn wsX1_renamed wsX1_object := goodIn_r _ [10] (by decide +kernel) (by decide +kernel)
set_option maxRecDepth 20000 in
theorem gX1_renamed_X1_object : GoodIn wsX1_renamed (va_wsS RX1 45 yX1_object wsX1_object) := goodIn_app (goodIn_of _ (by decide +kernel)) ggX1_renamed_X1_object
theorem dX1_renamed_0 : decode cX1_renamed 0 = .ok (.iload_n 0, 1) := by decide +kernel
theorem dX1_renamed_1 : decode cX1_renamed 1 = .ok (.invokestatic 38, 3) := by decide +kernel
theorem dX1_renamed_4 : decode cX1_renamed 4 = .ok (.iload_n 1, 1) := by decide +kernel
theorem dX1_renamed_5 : decode cX1_renamed 5 = .ok (.if_icmp .ne 7, 3) := by decide +kernel
theorem dX1_renamed_8 : decode cX1_renamed 8 = .ok (.iload_n 2, 1) := by decide +kernel
theorem dX1_renamed_9 : decode cX1_renamed 9 = .ok (.goto 7, 3) := by decide +kernel
theorem dX1_renamed_12 : decode cX1_renamed 12 = .ok (.iload_n 0, 1) := by decide +kernel
theorem dX1_renamed_13 : decode cX1_renamed 13 = .ok (.invokestatic 38, 3) := by decide +kernel
theorem dX1_renamed_16 : decode cX1_renamed 16 = .ok (.istore_n 3, 1) := by decide +kernel
theorem dX1_renamed_17 : decode cX1_renamed 17 = .ok (.iload_n 0, 1) := by decide +kernel
theorem dX1_renamed_18 : decode cX1_renamed 18 = .ok (.invokestatic 42, 3) := by decide +kernel
theorem dX1_renamed_21 : decode cX1_renamed 21 = .ok (.iload_n 1, 1) := by decide +kernel
theorem dX1_renamed_22 : decode cX1_renamed 22 = .ok (.if_icmp .ne 7, 3) := by decide +kernel
theorem dX1_renamed_25 : decode cX1_renamed 25 = .ok (.iload_n 2, 1) := by decide +kernel
theorem dX1_renamed_26 : decode cX1_renamed 26 = .ok (.goto 7, 3) := by decide +kernel
theorem dX1_renamed_29 : decode cX1_renamed 29 = .ok (.iload_n 0, 1) := by decide +kernel
theorem dX1_renamed_30 : decode cX1_renamed 30 = .ok (.invokestatic 42, 3) := by decide +kernel
theorem dX1_renamed_33 : decode cX1_renamed 33 = .ok (.istore 4, 2) := by decide +kernel
theorem dX1_renamed_35 : decode cX1_renamed 35 = .ok (.iload_n 0, 1) := by decide +kernel
theorem dX1_renamed_36 : decode cX1_renamed 36 = .ok (.invokestatic 45, 3) := by decide +kernel
theorem dX1_renamed_39 : decode cX1_renamed 39 = .ok (.iload_n 1, 1) := by decide +kernel
theorem dX1_renamed_40 : decode cX1_renamed 40 = .ok (.if_icmp .ne 7, 3) := by decide +kernel
theorem dX1_renamed_43 : decode cX1_renamed 43 = .ok (.iload_n 2, 1) := by decide +kernel
theorem dX1_renamed_44 : decode cX1_renamed 44 = .ok (.goto 7, 3) := by decide +kernel
theorem dX1_renamed_47 : decode cX1_renamed 47 = .ok (.iload_n 0, 1) := by decide +kernel
theorem dX1_renamed_48 : decode cX1_renamed 48 = .ok (.invokestatic 45, 3) := by decide +kernel
theorem dX1_renamed_51 : decode cX1_renamed 51 = .ok (.istore 5, 2) := by decide +kernel
theorem dX1_renamed_53 : decode cX1_renamed 53 = .ok (.sipush 256, 3) := by decide +kernel
theorem dX1_renamed_56 : decode cX1_renamed 56 = .ok (.iload_n 3, 1) := by decide +kernel
theorem dX1_renamed_57 : decode cX1_renamed 57 = .ok (.imul, 1) := by decide +kernel
theorem dX1_renamed_58 : decode cX1_renamed 58 = .ok (.bipush 16, 2) := by decide +kernel
theorem dX1_renamed_60 : decode cX1_renamed 60 = .ok (.iload 4, 2) := by decide +kernel
theorem dX1_renamed_62 : decode cX1_renamed 62 = .ok (.imul, 1) := by decide +kernel
theorem dX1_renamed_63 : decode cX1_renamed 63 = .ok (.iadd, 1) := by decide +kernel
theorem dX1_renamed_64 : decode cX1_renamed 64 = .ok (.iload 5, 2) := by decide +kernel
theorem dX1_renamed_66 : decode cX1_renamed 66 = .ok (.iadd, 1) := by decide +kernel
theorem dX1_renamed_67 : decode cX1_renamed 67 = .ok (.ireturn, 1) := by decide +kernel
theorem dX1_subject_0 : decode cX1_subject 0 = .ok (.iload_n 0, 1) := by decide +kernel
theorem dX1_subject_1 : decode cX1_subject 1 = .ok (.bipush 8, 2) := by decide +kernel
theorem dX1_subject_3 : decode cX1_subject 3 = .ok (.ishr, 1) := by decide +kernel
theorem dX1_subject_4 : decode cX1_subject 4 = .ok (.ireturn, 1) := by decide +kernel
theorem dX1_property_0 : decode cX1_property 0 = .ok (.iload_n 0, 1) := by decide +kernel
theorem dX1_property_1 : decode cX1_property 1 = .ok (.iconst 4, 1) := by decide +kernel
theorem dX1_property_2 : decode cX1_property 2 = .ok (.ishr, 1) := by decide +kernel
theorem dX1_property_3 : decode cX1_property 3 = .ok (.bipush 15, 2) := by decide +kernel
theorem dX1_property_5 : decode cX1_property 5 = .ok (.iand, 1) := by decide +kernel
theorem dX1_property_6 : decode cX1_property 6 = .ok (.ireturn, 1) := by decide +kernel
theorem dX1_object_0 : decode cX1_object 0 = .ok (.iload_n 0, 1) := by decide +kernel
theorem dX1_object_1 : decode cX1_object 1 = .ok (.bipush 15, 2) := by decide +kernel
theorem dX1_object_3 : decode cX1_object 3 = .ok (.iand, 1) := by decide +kernel
theorem dX1_object_4 : decode cX1_object 4 = .ok (.ireturn, 1) := by decide +kernel
set_option maxRecDepth 20000 in
theorem ggX1_mentions_X1_has : GoodIn wsX1_mentions wsX1_has := goodIn_r _ [5, 6, 7, 8, 9, 19] (by decide +kernel) (by decide +kernel)
set_option maxRecDepth 20000 in
theorem gX1_mentions_X1_has : GoodIn wsX1_mentions (wsV RX1 27 RX1 yX1_has wsX1_has) := goodIn_app (goodIn_of _ (by decide +kernel)) ggX1_mentions_X1_has
set_option maxRecDepth 20000 in
theorem ggX1_mentions_X1_subject : GoodIn wsX1_mentions wsX1_subject := goodIn_r _ [12] (by decide +kernel) (by decide +kernel)
set_option maxRecDepth 20000 in
theorem gX1_mentions_X1_subject : GoodIn wsX1_mentions (va_wsS RX1 38 yX1_subject wsX1_subject) := goodIn_app (goodIn_of _ (by decide +kernel)) ggX1_mentions_X1_subject
set_option maxRecDepth 20000 in
theorem ggX1_mentions_X1_property : GoodIn wsX1_mentions wsX1_property := goodIn_r _ [15] (by decide +kernel) (by decide +kernel)
set_option maxRecDepth 20000 in
theorem gX1_mentions_X1_property : GoodIn wsX1_mentions (va_wsS RX1 42 yX1_property wsX1_property) := goodIn_app (goodIn_of _ (by decide +kernel)) ggX1_mentions_X1_property
set_option maxRecDepth 20000 in
theorem ggX1_mentions_X1_object : GoodIn wsX1_mentions wsX1_object := goodIn_r _ [18] (by decide +kernel) (by decide +kernel)
set_option maxRecDepth 20000 in
theorem gX1_mentions_X1_object : GoodIn wsX1_mentions (va_wsS RX1 45 yX1_object wsX1_object) := goodIn_app (goodIn_of _ (by decide +kernel)) ggX1_mentions_X1_object
theorem dX1_mentions_0 : decode cX1_mentions 0 = .ok (.iconst 0, 1) := by decide +kernel
theorem dX1_mentions_1 : decode cX1_mentions 1 = .ok (.istore_n 2, 1) := by decide +kernel
theorem dX1_mentions_2 : decode cX1_mentions 2 = .ok (.iload_n 2, 1) := by decide +kernel
theorem dX1_mentions_3 : decode cX1_mentions 3 = .ok (.sipush 4096, 3) := by decide +kernel
theorem dX1_mentions_6 : decode cX1_mentions 6 = .ok (.if_icmp .ge 43, 3) := by decide +kernel
theorem dX1_mentions_9 : decode cX1_mentions 9 = .ok (.aload_n 0, 1) := by decide +kernel
theorem dX1_mentions_10 : decode cX1_mentions 10 = .ok (.iload_n 2, 1) := by decide +kernel
theorem dX1_mentions_11 : decode cX1_mentions 11 = .ok (.invokevirtual 27, 3) := by decide +kernel
theorem dX1_mentions_14 : decode cX1_mentions 14 = .ok (.ifCond .eq 29, 3) := by decide +kernel
theorem dX1_mentions_17 : decode cX1_mentions 17 = .ok (.iload_n 2, 1) := by decide +kernel
theorem dX1_mentions_18 : decode cX1_mentions 18 = .ok (.invokestatic 38, 3) := by decide +kernel
theorem dX1_mentions_21 : decode cX1_mentions 21 = .ok (.iload_n 1, 1) := by decide +kernel
theorem dX1_mentions_22 : decode cX1_mentions 22 = .ok (.if_icmp .eq 19, 3) := by decide +kernel
theorem dX1_mentions_25 : decode cX1_mentions 25 = .ok (.iload_n 2, 1) := by decide +kernel
theorem dX1_mentions_26 : decode cX1_mentions 26 = .ok (.invokestatic 42, 3) := by decide +kernel
theorem dX1_mentions_29 : decode cX1_mentions 29 = .ok (.iload_n 1, 1) := by decide +kernel
theorem dX1_mentions_30 : decode cX1_mentions 30 = .ok (.if_icmp .eq 11, 3) := by decide +kernel
theorem dX1_mentions_33 : decode cX1_mentions 33 = .ok (.iload_n 2, 1) := by decide +kernel
theorem dX1_mentions_34 : decode cX1_mentions 34 = .ok (.invokestatic 45, 3) := by decide +kernel
theorem dX1_mentions_37 : decode cX1_mentions 37 = .ok (.iload_n 1, 1) := by decide +kernel
theorem dX1_mentions_38 : decode cX1_mentions 38 = .ok (.if_icmp .ne 5, 3) := by decide +kernel
theorem dX1_mentions_41 : decode cX1_mentions 41 = .ok (.iconst 1, 1) := by decide +kernel
theorem dX1_mentions_42 : decode cX1_mentions 42 = .ok (.ireturn, 1) := by decide +kernel
theorem dX1_mentions_43 : decode cX1_mentions 43 = .ok (.iinc 2 1, 3) := by decide +kernel
theorem dX1_mentions_46 : decode cX1_mentions 46 = .ok (.goto (-44), 3) := by decide +kernel
theorem dX1_mentions_49 : decode cX1_mentions 49 = .ok (.iconst 0, 1) := by decide +kernel
theorem dX1_mentions_50 : decode cX1_mentions 50 = .ok (.ireturn, 1) := by decide +kernel
theorem dX1_hasAllRemoved_0 : decode cX1_hasAllRemoved 0 = .ok (.iconst 0, 1) := by decide +kernel
theorem dX1_hasAllRemoved_1 : decode cX1_hasAllRemoved 1 = .ok (.istore_n 3, 1) := by decide +kernel
theorem dX1_hasAllRemoved_2 : decode cX1_hasAllRemoved 2 = .ok (.iload_n 3, 1) := by decide +kernel
theorem dX1_hasAllRemoved_3 : decode cX1_hasAllRemoved 3 = .ok (.bipush 64, 2) := by decide +kernel
theorem dX1_hasAllRemoved_5 : decode cX1_hasAllRemoved 5 = .ok (.if_icmp .ge 48, 3) := by decide +kernel
theorem dX1_hasAllRemoved_8 : decode cX1_hasAllRemoved 8 = .ok (.aload_n 1, 1) := by decide +kernel
theorem dX1_hasAllRemoved_9 : decode cX1_hasAllRemoved 9 = .ok (.getfield 9, 3) := by decide +kernel
theorem dX1_hasAllRemoved_12 : decode cX1_hasAllRemoved 12 = .ok (.iload_n 3, 1) := by decide +kernel
theorem dX1_hasAllRemoved_13 : decode cX1_hasAllRemoved 13 = .ok (.laload, 1) := by decide +kernel
theorem dX1_hasAllRemoved_14 : decode cX1_hasAllRemoved 14 = .ok (.aload_n 2, 1) := by decide +kernel
theorem dX1_hasAllRemoved_15 : decode cX1_hasAllRemoved 15 = .ok (.getfield 9, 3) := by decide +kernel
theorem dX1_hasAllRemoved_18 : decode cX1_hasAllRemoved 18 = .ok (.iload_n 3, 1) := by decide +kernel
theorem dX1_hasAllRemoved_19 : decode cX1_hasAllRemoved 19 = .ok (.laload, 1) := by decide +kernel
theorem dX1_hasAllRemoved_20 : decode cX1_hasAllRemoved 20 = .ok (.ldc2_w 19, 3) := by decide +kernel
theorem dX1_hasAllRemoved_23 : decode cX1_hasAllRemoved 23 = .ok (.lxor, 1) := by decide +kernel
theorem dX1_hasAllRemoved_24 : decode cX1_hasAllRemoved 24 = .ok (.land, 1) := by decide +kernel
theorem dX1_hasAllRemoved_25 : decode cX1_hasAllRemoved 25 = .ok (.lstore 4, 2) := by decide +kernel
theorem dX1_hasAllRemoved_27 : decode cX1_hasAllRemoved 27 = .ok (.lload 4, 2) := by decide +kernel
theorem dX1_hasAllRemoved_29 : decode cX1_hasAllRemoved 29 = .ok (.aload_n 0, 1) := by decide +kernel
theorem dX1_hasAllRemoved_30 : decode cX1_hasAllRemoved 30 = .ok (.getfield 9, 3) := by decide +kernel
theorem dX1_hasAllRemoved_33 : decode cX1_hasAllRemoved 33 = .ok (.iload_n 3, 1) := by decide +kernel
theorem dX1_hasAllRemoved_34 : decode cX1_hasAllRemoved 34 = .ok (.laload, 1) := by decide +kernel
theorem dX1_hasAllRemoved_35 : decode cX1_hasAllRemoved 35 = .ok (.ldc2_w 19, 3) := by decide +kernel
theorem dX1_hasAllRemoved_38 : decode cX1_hasAllRemoved 38 = .ok (.lxor, 1) := by decide +kernel
theorem dX1_hasAllRemoved_39 : decode cX1_hasAllRemoved 39 = .ok (.land, 1) := by decide +kernel
theorem dX1_hasAllRemoved_40 : decode cX1_hasAllRemoved 40 = .ok (.lconst 0, 1) := by decide +kernel
theorem dX1_hasAllRemoved_41 : decode cX1_hasAllRemoved 41 = .ok (.lcmp, 1) := by decide +kernel
theorem dX1_hasAllRemoved_42 : decode cX1_hasAllRemoved 42 = .ok (.ifCond .eq 5, 3) := by decide +kernel
theorem dX1_hasAllRemoved_45 : decode cX1_hasAllRemoved 45 = .ok (.iconst 0, 1) := by decide +kernel
theorem dX1_hasAllRemoved_46 : decode cX1_hasAllRemoved 46 = .ok (.ireturn, 1) := by decide +kernel
theorem dX1_hasAllRemoved_47 : decode cX1_hasAllRemoved 47 = .ok (.iinc 3 1, 3) := by decide +kernel
theorem dX1_hasAllRemoved_50 : decode cX1_hasAllRemoved 50 = .ok (.goto (-48), 3) := by decide +kernel
theorem dX1_hasAllRemoved_53 : decode cX1_hasAllRemoved 53 = .ok (.iconst 1, 1) := by decide +kernel
theorem dX1_hasAllRemoved_54 : decode cX1_hasAllRemoved 54 = .ok (.ireturn, 1) := by decide +kernel
theorem dX1_isSameAs_0 : decode cX1_isSameAs 0 = .ok (.iconst 0, 1) := by decide +kernel
theorem dX1_isSameAs_1 : decode cX1_isSameAs 1 = .ok (.istore_n 2, 1) := by decide +kernel
theorem dX1_isSameAs_2 : decode cX1_isSameAs 2 = .ok (.iload_n 2, 1) := by decide +kernel
theorem dX1_isSameAs_3 : decode cX1_isSameAs 3 = .ok (.bipush 64, 2) := by decide +kernel
theorem dX1_isSameAs_5 : decode cX1_isSameAs 5 = .ok (.if_icmp .ge 27, 3) := by decide +kernel
theorem dX1_isSameAs_8 : decode cX1_isSameAs 8 = .ok (.aload_n 0, 1) := by decide +kernel
theorem dX1_isSameAs_9 : decode cX1_isSameAs 9 = .ok (.getfield 9, 3) := by decide +kernel
theorem dX1_isSameAs_12 : decode cX1_isSameAs 12 = .ok (.iload_n 2, 1) := by decide +kernel
theorem dX1_isSameAs_13 : decode cX1_isSameAs 13 = .ok (.laload, 1) := by decide +kernel
theorem dX1_isSameAs_14 : decode cX1_isSameAs 14 = .ok (.aload_n 1, 1) := by decide +kernel
theorem dX1_isSameAs_15 : decode cX1_isSameAs 15 = .ok (.getfield 9, 3) := by decide +kernel
theorem dX1_isSameAs_18 : decode cX1_isSameAs 18 = .ok (.iload_n 2, 1) := by decide +kernel
theorem dX1_isSameAs_19 : decode cX1_isSameAs 19 = .ok (.laload, 1) := by decide +kernel
theorem dX1_isSameAs_20 : decode cX1_isSameAs 20 = .ok (.lcmp, 1) := by decide +kernel
theorem dX1_isSameAs_21 : decode cX1_isSameAs 21 = .ok (.ifCond .eq 5, 3) := by decide +kernel
theorem dX1_isSameAs_24 : decode cX1_isSameAs 24 = .ok (.iconst 0, 1) := by decide +kernel
theorem dX1_isSameAs_25 : decode cX1_isSameAs 25 = .ok (.ireturn, 1) := by decide +kernel
theorem dX1_isSameAs_26 : decode cX1_isSameAs 26 = .ok (.iinc 2 1, 3) := by decide +kernel
theorem dX1_isSameAs_29 : decode cX1_isSameAs 29 = .ok (.goto (-27), 3) := by decide +kernel
theorem dX1_isSameAs_32 : decode cX1_isSameAs 32 = .ok (.iconst 1, 1) := by decide +kernel
theorem dX1_isSameAs_33 : decode cX1_isSameAs 33 = .ok (.ireturn, 1) := by decide +kernel
set_option maxRecDepth 20000 in
theorem ggX1_tripleAt_J13_bitCount_95d88 : GoodIn wsX1_tripleAt wsJ13_bitCount_95d88 := goodIn_r _ [5, 6, 7, 8] (by decide +kernel) (by decide +kernel)
set_option maxRecDepth 20000 in
theorem gX1_tripleAt_J13_bitCount_95d88 : GoodIn wsX1_tripleAt (va_wsS RX1 48 yJ13_bitCount_95d88 wsJ13_bitCount_95d88) := goodIn_app (goodIn_of _ (by decide +kernel)) ggX1_tripleAt_J13_bitCount_95d88
set_option maxRecDepth 20000 in
theorem ggX1_tripleAt_X1_tripleInWord : GoodIn wsX1_tripleAt wsX1_tripleInWord := goodIn_r _ [13, 14, 15, 16, 12, 17, 1, 18, 19, 20, 21] (by decide +kernel) (by decide +kernel)
set_option maxRecDepth 20000 in
theorem gX1_tripleAt_X1_tripleInWord : GoodIn wsX1_tripleAt (wsV RX1 54 RX1 yX1_tripleInWord wsX1_tripleInWord) := goodIn_app (goodIn_of _ (by decide +kernel)) ggX1_tripleAt_X1_tripleInWord
theorem dX1_tripleAt_0 : decode cX1_tripleAt 0 = .ok (.iload_n 1, 1) := by decide +kernel
theorem dX1_tripleAt_1 : decode cX1_tripleAt 1 = .ok (.istore_n 2, 1) := by decide +kernel
theorem dX1_tripleAt_2 : decode cX1_tripleAt 2 = .ok (.iconst 0, 1) := by decide +kernel
theorem dX1_tripleAt_3 : decode cX1_tripleAt 3 = .ok (.istore_n 3, 1) := by decide +kernel
theorem dX1_tripleAt_4 : decode cX1_tripleAt 4 = .ok (.iload_n 3, 1) := by decide +kernel
theorem dX1_tripleAt_5 : decode cX1_tripleAt 5 = .ok (.bipush 64, 2) := by decide +kernel
theorem dX1_tripleAt_7 : decode cX1_tripleAt 7 = .ok (.if_icmp .ge 42, 3) := by decide +kernel
theorem dX1_tripleAt_10 : decode cX1_tripleAt 10 = .ok (.iload_n 2, 1) := by decide +kernel
theorem dX1_tripleAt_11 : decode cX1_tripleAt 11 = .ok (.ifCond .lt 38, 3) := by decide +kernel
theorem dX1_tripleAt_14 : decode cX1_tripleAt 14 = .ok (.aload_n 0, 1) := by decide +kernel
theorem dX1_tripleAt_15 : decode cX1_tripleAt 15 = .ok (.getfield 9, 3) := by decide +kernel
theorem dX1_tripleAt_18 : decode cX1_tripleAt 18 = .ok (.iload_n 3, 1) := by decide +kernel
theorem dX1_tripleAt_19 : decode cX1_tripleAt 19 = .ok (.laload, 1) := by decide +kernel
theorem dX1_tripleAt_20 : decode cX1_tripleAt 20 = .ok (.invokestatic 48, 3) := by decide +kernel
theorem dX1_tripleAt_23 : decode cX1_tripleAt 23 = .ok (.istore 4, 2) := by decide +kernel
theorem dX1_tripleAt_25 : decode cX1_tripleAt 25 = .ok (.iload_n 2, 1) := by decide +kernel
theorem dX1_tripleAt_26 : decode cX1_tripleAt 26 = .ok (.iload 4, 2) := by decide +kernel
theorem dX1_tripleAt_28 : decode cX1_tripleAt 28 = .ok (.if_icmp .ge 10, 3) := by decide +kernel
theorem dX1_tripleAt_31 : decode cX1_tripleAt 31 = .ok (.aload_n 0, 1) := by decide +kernel
theorem dX1_tripleAt_32 : decode cX1_tripleAt 32 = .ok (.iload_n 3, 1) := by decide +kernel
theorem dX1_tripleAt_33 : decode cX1_tripleAt 33 = .ok (.iload_n 2, 1) := by decide +kernel
theorem dX1_tripleAt_34 : decode cX1_tripleAt 34 = .ok (.invokevirtual 54, 3) := by decide +kernel
theorem dX1_tripleAt_37 : decode cX1_tripleAt 37 = .ok (.ireturn, 1) := by decide +kernel
theorem dX1_tripleAt_38 : decode cX1_tripleAt 38 = .ok (.iload_n 2, 1) := by decide +kernel
theorem dX1_tripleAt_39 : decode cX1_tripleAt 39 = .ok (.iload 4, 2) := by decide +kernel
theorem dX1_tripleAt_41 : decode cX1_tripleAt 41 = .ok (.isub, 1) := by decide +kernel
theorem dX1_tripleAt_42 : decode cX1_tripleAt 42 = .ok (.istore_n 2, 1) := by decide +kernel
theorem dX1_tripleAt_43 : decode cX1_tripleAt 43 = .ok (.iinc 3 1, 3) := by decide +kernel
theorem dX1_tripleAt_46 : decode cX1_tripleAt 46 = .ok (.goto (-42), 3) := by decide +kernel
theorem dX1_tripleAt_49 : decode cX1_tripleAt 49 = .ok (.iconst (-1), 1) := by decide +kernel
theorem dX1_tripleAt_50 : decode cX1_tripleAt 50 = .ok (.ireturn, 1) := by decide +kernel
set_option maxRecDepth 20000 in
theorem ggX1_tripleInWord_X1_has : GoodIn wsX1_tripleInWord wsX1_has := goodIn_r _ [5, 6, 7, 8, 9, 10] (by decide +kernel) (by decide +kernel)
set_option maxRecDepth 20000 in
theorem gX1_tripleInWord_X1_has : GoodIn wsX1_tripleInWord (wsV RX1 27 RX1 yX1_has wsX1_has) := goodIn_app (goodIn_of _ (by decide +kernel)) ggX1_tripleInWord_X1_has
theorem dX1_tripleInWord_0 : decode cX1_tripleInWord 0 = .ok (.iload_n 2, 1) := by decide +kernel
theorem dX1_tripleInWord_1 : decode cX1_tripleInWord 1 = .ok (.istore_n 3, 1) := by decide +kernel
theorem dX1_tripleInWord_2 : decode cX1_tripleInWord 2 = .ok (.bipush 64, 2) := by decide +kernel
theorem dX1_tripleInWord_4 : decode cX1_tripleInWord 4 = .ok (.iload_n 1, 1) := by decide +kernel
theorem dX1_tripleInWord_5 : decode cX1_tripleInWord 5 = .ok (.imul, 1) := by decide +kernel
theorem dX1_tripleInWord_6 : decode cX1_tripleInWord 6 = .ok (.istore 4, 2) := by decide +kernel
theorem dX1_tripleInWord_8 : decode cX1_tripleInWord 8 = .ok (.iload 4, 2) := by decide +kernel
theorem dX1_tripleInWord_10 : decode cX1_tripleInWord 10 = .ok (.bipush 64, 2) := by decide +kernel
theorem dX1_tripleInWord_12 : decode cX1_tripleInWord 12 = .ok (.iload_n 1, 1) := by decide +kernel
theorem dX1_tripleInWord_13 : decode cX1_tripleInWord 13 = .ok (.imul, 1) := by decide +kernel
theorem dX1_tripleInWord_14 : decode cX1_tripleInWord 14 = .ok (.bipush 64, 2) := by decide +kernel
theorem dX1_tripleInWord_16 : decode cX1_tripleInWord 16 = .ok (.iadd, 1) := by decide +kernel
theorem dX1_tripleInWord_17 : decode cX1_tripleInWord 17 = .ok (.if_icmp .ge 28, 3) := by decide +kernel
theorem dX1_tripleInWord_20 : decode cX1_tripleInWord 20 = .ok (.aload_n 0, 1) := by decide +kernel
theorem dX1_tripleInWord_21 : decode cX1_tripleInWord 21 = .ok (.iload 4, 2) := by decide +kernel
theorem dX1_tripleInWord_23 : decode cX1_tripleInWord 23 = .ok (.invokevirtual 27, 3) := by decide +kernel
theorem dX1_tripleInWord_26 : decode cX1_tripleInWord 26 = .ok (.ifCond .eq 13, 3) := by decide +kernel
theorem dX1_tripleInWord_29 : decode cX1_tripleInWord 29 = .ok (.iload_n 3, 1) := by decide +kernel
theorem dX1_tripleInWord_30 : decode cX1_tripleInWord 30 = .ok (.ifCond .ne 6, 3) := by decide +kernel
theorem dX1_tripleInWord_33 : decode cX1_tripleInWord 33 = .ok (.iload 4, 2) := by decide +kernel
theorem dX1_tripleInWord_35 : decode cX1_tripleInWord 35 = .ok (.ireturn, 1) := by decide +kernel
theorem dX1_tripleInWord_36 : decode cX1_tripleInWord 36 = .ok (.iinc 3 (-1), 3) := by decide +kernel
theorem dX1_tripleInWord_39 : decode cX1_tripleInWord 39 = .ok (.iinc 4 1, 3) := by decide +kernel
theorem dX1_tripleInWord_42 : decode cX1_tripleInWord 42 = .ok (.goto (-34), 3) := by decide +kernel
theorem dX1_tripleInWord_45 : decode cX1_tripleInWord 45 = .ok (.iconst (-1), 1) := by decide +kernel
theorem dX1_tripleInWord_46 : decode cX1_tripleInWord 46 = .ok (.ireturn, 1) := by decide +kernel
set_option maxRecDepth 20000 in
theorem ggX1_isCrowded_X1_has : GoodIn wsX1_isCrowded wsX1_has := goodIn_r _ [5, 6, 7, 8, 9, 10] (by decide +kernel) (by decide +kernel)
set_option maxRecDepth 20000 in
theorem gX1_isCrowded_X1_has : GoodIn wsX1_isCrowded (wsV RX1 27 RX1 yX1_has wsX1_has) := goodIn_app (goodIn_of _ (by decide +kernel)) ggX1_isCrowded_X1_has
theorem dX1_isCrowded_0 : decode cX1_isCrowded 0 = .ok (.iload_n 1, 1) := by decide +kernel
theorem dX1_isCrowded_1 : decode cX1_isCrowded 1 = .ok (.bipush 15, 2) := by decide +kernel
theorem dX1_isCrowded_3 : decode cX1_isCrowded 3 = .ok (.iand, 1) := by decide +kernel
theorem dX1_isCrowded_4 : decode cX1_isCrowded 4 = .ok (.bipush 12, 2) := by decide +kernel
theorem dX1_isCrowded_6 : decode cX1_isCrowded 6 = .ok (.if_icmp .ge 5, 3) := by decide +kernel
theorem dX1_isCrowded_9 : decode cX1_isCrowded 9 = .ok (.iconst 0, 1) := by decide +kernel
theorem dX1_isCrowded_10 : decode cX1_isCrowded 10 = .ok (.ireturn, 1) := by decide +kernel
theorem dX1_isCrowded_11 : decode cX1_isCrowded 11 = .ok (.iconst 0, 1) := by decide +kernel
theorem dX1_isCrowded_12 : decode cX1_isCrowded 12 = .ok (.istore_n 2, 1) := by decide +kernel
theorem dX1_isCrowded_13 : decode cX1_isCrowded 13 = .ok (.iconst 0, 1) := by decide +kernel
theorem dX1_isCrowded_14 : decode cX1_isCrowded 14 = .ok (.istore_n 3, 1) := by decide +kernel
theorem dX1_isCrowded_15 : decode cX1_isCrowded 15 = .ok (.iload_n 3, 1) := by decide +kernel
theorem dX1_isCrowded_16 : decode cX1_isCrowded 16 = .ok (.bipush 16, 2) := by decide +kernel
theorem dX1_isCrowded_18 : decode cX1_isCrowded 18 = .ok (.if_icmp .ge 25, 3) := by decide +kernel
theorem dX1_isCrowded_21 : decode cX1_isCrowded 21 = .ok (.aload_n 0, 1) := by decide +kernel
theorem dX1_isCrowded_22 : decode cX1_isCrowded 22 = .ok (.bipush 16, 2) := by decide +kernel
theorem dX1_isCrowded_24 : decode cX1_isCrowded 24 = .ok (.iload_n 1, 1) := by decide +kernel
theorem dX1_isCrowded_25 : decode cX1_isCrowded 25 = .ok (.imul, 1) := by decide +kernel
theorem dX1_isCrowded_26 : decode cX1_isCrowded 26 = .ok (.iload_n 3, 1) := by decide +kernel
theorem dX1_isCrowded_27 : decode cX1_isCrowded 27 = .ok (.iadd, 1) := by decide +kernel
theorem dX1_isCrowded_28 : decode cX1_isCrowded 28 = .ok (.invokevirtual 27, 3) := by decide +kernel
theorem dX1_isCrowded_31 : decode cX1_isCrowded 31 = .ok (.ifCond .eq 6, 3) := by decide +kernel
theorem dX1_isCrowded_34 : decode cX1_isCrowded 34 = .ok (.iinc 2 1, 3) := by decide +kernel
theorem dX1_isCrowded_37 : decode cX1_isCrowded 37 = .ok (.iinc 3 1, 3) := by decide +kernel
theorem dX1_isCrowded_40 : decode cX1_isCrowded 40 = .ok (.goto (-25), 3) := by decide +kernel
theorem dX1_isCrowded_43 : decode cX1_isCrowded 43 = .ok (.iload_n 2, 1) := by decide +kernel
theorem dX1_isCrowded_44 : decode cX1_isCrowded 44 = .ok (.iconst 2, 1) := by decide +kernel
theorem dX1_isCrowded_45 : decode cX1_isCrowded 45 = .ok (.if_icmp .lt 7, 3) := by decide +kernel
theorem dX1_isCrowded_48 : decode cX1_isCrowded 48 = .ok (.iconst 1, 1) := by decide +kernel
theorem dX1_isCrowded_49 : decode cX1_isCrowded 49 = .ok (.goto 4, 3) := by decide +kernel
theorem dX1_isCrowded_52 : decode cX1_isCrowded 52 = .ok (.iconst 0, 1) := by decide +kernel
theorem dX1_isCrowded_53 : decode cX1_isCrowded 53 = .ok (.ireturn, 1) := by decide +kernel
set_option maxRecDepth 20000 in
theorem ggX1_crowdedKeys_X1_isCrowded : GoodIn wsX1_crowdedKeys wsX1_isCrowded := goodIn_r _ [5, 6, 7, 8, 4, 9, 10, 11, 12, 13, 14] (by decide +kernel) (by decide +kernel)
set_option maxRecDepth 20000 in
theorem gX1_crowdedKeys_X1_isCrowded : GoodIn wsX1_crowdedKeys (wsV RX1 58 RX1 yX1_isCrowded wsX1_isCrowded) := goodIn_app (goodIn_of _ (by decide +kernel)) ggX1_crowdedKeys_X1_isCrowded
theorem dX1_crowdedKeys_0 : decode cX1_crowdedKeys 0 = .ok (.iconst 0, 1) := by decide +kernel
theorem dX1_crowdedKeys_1 : decode cX1_crowdedKeys 1 = .ok (.istore_n 1, 1) := by decide +kernel
theorem dX1_crowdedKeys_2 : decode cX1_crowdedKeys 2 = .ok (.iconst 0, 1) := by decide +kernel
theorem dX1_crowdedKeys_3 : decode cX1_crowdedKeys 3 = .ok (.istore_n 2, 1) := by decide +kernel
theorem dX1_crowdedKeys_4 : decode cX1_crowdedKeys 4 = .ok (.iload_n 2, 1) := by decide +kernel
theorem dX1_crowdedKeys_5 : decode cX1_crowdedKeys 5 = .ok (.sipush 256, 3) := by decide +kernel
theorem dX1_crowdedKeys_8 : decode cX1_crowdedKeys 8 = .ok (.if_icmp .ge 20, 3) := by decide +kernel
theorem dX1_crowdedKeys_11 : decode cX1_crowdedKeys 11 = .ok (.aload_n 0, 1) := by decide +kernel
theorem dX1_crowdedKeys_12 : decode cX1_crowdedKeys 12 = .ok (.iload_n 2, 1) := by decide +kernel
theorem dX1_crowdedKeys_13 : decode cX1_crowdedKeys 13 = .ok (.invokevirtual 58, 3) := by decide +kernel
theorem dX1_crowdedKeys_16 : decode cX1_crowdedKeys 16 = .ok (.ifCond .eq 6, 3) := by decide +kernel
theorem dX1_crowdedKeys_19 : decode cX1_crowdedKeys 19 = .ok (.iinc 1 1, 3) := by decide +kernel
theorem dX1_crowdedKeys_22 : decode cX1_crowdedKeys 22 = .ok (.iinc 2 1, 3) := by decide +kernel
theorem dX1_crowdedKeys_25 : decode cX1_crowdedKeys 25 = .ok (.goto (-21), 3) := by decide +kernel
theorem dX1_crowdedKeys_28 : decode cX1_crowdedKeys 28 = .ok (.iload_n 1, 1) := by decide +kernel
theorem dX1_crowdedKeys_29 : decode cX1_crowdedKeys 29 = .ok (.ireturn, 1) := by decide +kernel
set_option maxRecDepth 20000 in
theorem ggX1_crowdedKey_X1_isCrowded : GoodIn wsX1_crowdedKey wsX1_isCrowded := goodIn_r _ [5, 6, 7, 8, 4, 9, 10, 11, 12, 13, 14] (by decide +kernel) (by decide +kernel)
set_option maxRecDepth 20000 in
theorem gX1_crowdedKey_X1_isCrowded : GoodIn wsX1_crowdedKey (wsV RX1 58 RX1 yX1_isCrowded wsX1_isCrowded) := goodIn_app (goodIn_of _ (by decide +kernel)) ggX1_crowdedKey_X1_isCrowded
theorem dX1_crowdedKey_0 : decode cX1_crowdedKey 0 = .ok (.iconst 0, 1) := by decide +kernel
theorem dX1_crowdedKey_1 : decode cX1_crowdedKey 1 = .ok (.istore_n 2, 1) := by decide +kernel
theorem dX1_crowdedKey_2 : decode cX1_crowdedKey 2 = .ok (.iconst 0, 1) := by decide +kernel
theorem dX1_crowdedKey_3 : decode cX1_crowdedKey 3 = .ok (.istore_n 3, 1) := by decide +kernel
theorem dX1_crowdedKey_4 : decode cX1_crowdedKey 4 = .ok (.iload_n 3, 1) := by decide +kernel
theorem dX1_crowdedKey_5 : decode cX1_crowdedKey 5 = .ok (.sipush 256, 3) := by decide +kernel
theorem dX1_crowdedKey_8 : decode cX1_crowdedKey 8 = .ok (.if_icmp .ge 27, 3) := by decide +kernel
theorem dX1_crowdedKey_11 : decode cX1_crowdedKey 11 = .ok (.aload_n 0, 1) := by decide +kernel
theorem dX1_crowdedKey_12 : decode cX1_crowdedKey 12 = .ok (.iload_n 3, 1) := by decide +kernel
theorem dX1_crowdedKey_13 : decode cX1_crowdedKey 13 = .ok (.invokevirtual 58, 3) := by decide +kernel
theorem dX1_crowdedKey_16 : decode cX1_crowdedKey 16 = .ok (.ifCond .eq 13, 3) := by decide +kernel
theorem dX1_crowdedKey_19 : decode cX1_crowdedKey 19 = .ok (.iload_n 2, 1) := by decide +kernel
theorem dX1_crowdedKey_20 : decode cX1_crowdedKey 20 = .ok (.iload_n 1, 1) := by decide +kernel
theorem dX1_crowdedKey_21 : decode cX1_crowdedKey 21 = .ok (.if_icmp .ne 5, 3) := by decide +kernel
theorem dX1_crowdedKey_24 : decode cX1_crowdedKey 24 = .ok (.iload_n 3, 1) := by decide +kernel
theorem dX1_crowdedKey_25 : decode cX1_crowdedKey 25 = .ok (.ireturn, 1) := by decide +kernel
theorem dX1_crowdedKey_26 : decode cX1_crowdedKey 26 = .ok (.iinc 2 1, 3) := by decide +kernel
theorem dX1_crowdedKey_29 : decode cX1_crowdedKey 29 = .ok (.iinc 3 1, 3) := by decide +kernel
theorem dX1_crowdedKey_32 : decode cX1_crowdedKey 32 = .ok (.goto (-28), 3) := by decide +kernel
theorem dX1_crowdedKey_35 : decode cX1_crowdedKey 35 = .ok (.iconst (-1), 1) := by decide +kernel
theorem dX1_crowdedKey_36 : decode cX1_crowdedKey 36 = .ok (.ireturn, 1) := by decide +kernel
set_option maxRecDepth 20000 in
theorem ggX1_leastOfKey_X1_has : GoodIn wsX1_leastOfKey wsX1_has := goodIn_r _ [5, 6, 7, 8, 9, 10] (by decide +kernel) (by decide +kernel)
set_option maxRecDepth 20000 in
theorem gX1_leastOfKey_X1_has : GoodIn wsX1_leastOfKey (wsV RX1 27 RX1 yX1_has wsX1_has) := goodIn_app (goodIn_of _ (by decide +kernel)) ggX1_leastOfKey_X1_has
theorem dX1_leastOfKey_0 : decode cX1_leastOfKey 0 = .ok (.iconst 0, 1) := by decide +kernel
theorem dX1_leastOfKey_1 : decode cX1_leastOfKey 1 = .ok (.istore_n 2, 1) := by decide +kernel
theorem dX1_leastOfKey_2 : decode cX1_leastOfKey 2 = .ok (.iload_n 2, 1) := by decide +kernel
theorem dX1_leastOfKey_3 : decode cX1_leastOfKey 3 = .ok (.bipush 16, 2) := by decide +kernel
theorem dX1_leastOfKey_5 : decode cX1_leastOfKey 5 = .ok (.if_icmp .ge 29, 3) := by decide +kernel
theorem dX1_leastOfKey_8 : decode cX1_leastOfKey 8 = .ok (.aload_n 0, 1) := by decide +kernel
theorem dX1_leastOfKey_9 : decode cX1_leastOfKey 9 = .ok (.bipush 16, 2) := by decide +kernel
theorem dX1_leastOfKey_11 : decode cX1_leastOfKey 11 = .ok (.iload_n 1, 1) := by decide +kernel
theorem dX1_leastOfKey_12 : decode cX1_leastOfKey 12 = .ok (.imul, 1) := by decide +kernel
theorem dX1_leastOfKey_13 : decode cX1_leastOfKey 13 = .ok (.iload_n 2, 1) := by decide +kernel
theorem dX1_leastOfKey_14 : decode cX1_leastOfKey 14 = .ok (.iadd, 1) := by decide +kernel
theorem dX1_leastOfKey_15 : decode cX1_leastOfKey 15 = .ok (.invokevirtual 27, 3) := by decide +kernel
theorem dX1_leastOfKey_18 : decode cX1_leastOfKey 18 = .ok (.ifCond .eq 10, 3) := by decide +kernel
theorem dX1_leastOfKey_21 : decode cX1_leastOfKey 21 = .ok (.bipush 16, 2) := by decide +kernel
theorem dX1_leastOfKey_23 : decode cX1_leastOfKey 23 = .ok (.iload_n 1, 1) := by decide +kernel
theorem dX1_leastOfKey_24 : decode cX1_leastOfKey 24 = .ok (.imul, 1) := by decide +kernel
theorem dX1_leastOfKey_25 : decode cX1_leastOfKey 25 = .ok (.iload_n 2, 1) := by decide +kernel
theorem dX1_leastOfKey_26 : decode cX1_leastOfKey 26 = .ok (.iadd, 1) := by decide +kernel
theorem dX1_leastOfKey_27 : decode cX1_leastOfKey 27 = .ok (.ireturn, 1) := by decide +kernel
theorem dX1_leastOfKey_28 : decode cX1_leastOfKey 28 = .ok (.iinc 2 1, 3) := by decide +kernel
theorem dX1_leastOfKey_31 : decode cX1_leastOfKey 31 = .ok (.goto (-29), 3) := by decide +kernel
theorem dX1_leastOfKey_34 : decode cX1_leastOfKey 34 = .ok (.iconst (-1), 1) := by decide +kernel
theorem dX1_leastOfKey_35 : decode cX1_leastOfKey 35 = .ok (.ireturn, 1) := by decide +kernel
set_option maxRecDepth 20000 in
theorem ggX1_greatestOfKey_X1_has : GoodIn wsX1_greatestOfKey wsX1_has := goodIn_r _ [5, 6, 7, 8, 9, 10] (by decide +kernel) (by decide +kernel)
set_option maxRecDepth 20000 in
theorem gX1_greatestOfKey_X1_has : GoodIn wsX1_greatestOfKey (wsV RX1 27 RX1 yX1_has wsX1_has) := goodIn_app (goodIn_of _ (by decide +kernel)) ggX1_greatestOfKey_X1_has
theorem dX1_greatestOfKey_0 : decode cX1_greatestOfKey 0 = .ok (.bipush 15, 2) := by decide +kernel
theorem dX1_greatestOfKey_2 : decode cX1_greatestOfKey 2 = .ok (.istore_n 2, 1) := by decide +kernel
theorem dX1_greatestOfKey_3 : decode cX1_greatestOfKey 3 = .ok (.iload_n 2, 1) := by decide +kernel
theorem dX1_greatestOfKey_4 : decode cX1_greatestOfKey 4 = .ok (.ifCond .lt 29, 3) := by decide +kernel
theorem dX1_greatestOfKey_7 : decode cX1_greatestOfKey 7 = .ok (.aload_n 0, 1) := by decide +kernel
theorem dX1_greatestOfKey_8 : decode cX1_greatestOfKey 8 = .ok (.bipush 16, 2) := by decide +kernel
theorem dX1_greatestOfKey_10 : decode cX1_greatestOfKey 10 = .ok (.iload_n 1, 1) := by decide +kernel
theorem dX1_greatestOfKey_11 : decode cX1_greatestOfKey 11 = .ok (.imul, 1) := by decide +kernel
theorem dX1_greatestOfKey_12 : decode cX1_greatestOfKey 12 = .ok (.iload_n 2, 1) := by decide +kernel
theorem dX1_greatestOfKey_13 : decode cX1_greatestOfKey 13 = .ok (.iadd, 1) := by decide +kernel
theorem dX1_greatestOfKey_14 : decode cX1_greatestOfKey 14 = .ok (.invokevirtual 27, 3) := by decide +kernel
theorem dX1_greatestOfKey_17 : decode cX1_greatestOfKey 17 = .ok (.ifCond .eq 10, 3) := by decide +kernel
theorem dX1_greatestOfKey_20 : decode cX1_greatestOfKey 20 = .ok (.bipush 16, 2) := by decide +kernel
theorem dX1_greatestOfKey_22 : decode cX1_greatestOfKey 22 = .ok (.iload_n 1, 1) := by decide +kernel
theorem dX1_greatestOfKey_23 : decode cX1_greatestOfKey 23 = .ok (.imul, 1) := by decide +kernel
theorem dX1_greatestOfKey_24 : decode cX1_greatestOfKey 24 = .ok (.iload_n 2, 1) := by decide +kernel
theorem dX1_greatestOfKey_25 : decode cX1_greatestOfKey 25 = .ok (.iadd, 1) := by decide +kernel
theorem dX1_greatestOfKey_26 : decode cX1_greatestOfKey 26 = .ok (.ireturn, 1) := by decide +kernel
theorem dX1_greatestOfKey_27 : decode cX1_greatestOfKey 27 = .ok (.iinc 2 (-1), 3) := by decide +kernel
theorem dX1_greatestOfKey_30 : decode cX1_greatestOfKey 30 = .ok (.goto (-27), 3) := by decide +kernel
theorem dX1_greatestOfKey_33 : decode cX1_greatestOfKey 33 = .ok (.iconst (-1), 1) := by decide +kernel
theorem dX1_greatestOfKey_34 : decode cX1_greatestOfKey 34 = .ok (.ireturn, 1) := by decide +kernel
set_option maxRecDepth 20000 in
theorem ggX2_init_X1_init : GoodIn wsX2_init wsX1_init := goodIn_r _ [14, 15, 2, 3, 16, 17, 30] (by decide +kernel) (by decide +kernel)
set_option maxRecDepth 20000 in
theorem gX2_init_X1_init_n11 : GoodIn wsX2_init (wsX1_init) := ggX2_init_X1_init
set_option maxRecDepth 20000 in
theorem ggX2_init_X1_becomeCopy : GoodIn wsX2_init wsX1_becomeCopy := goodIn_r _ [20, 17, 21, 22, 23, 24, 30] (by decide +kernel) (by decide +kernel)
set_option maxRecDepth 20000 in
theorem gX2_init_X1_becomeCopy_n33 : GoodIn wsX2_init (wsX1_becomeCopy) := ggX2_init_X1_becomeCopy
set_option maxRecDepth 20000 in
theorem ggX2_init_X2_takeAncestors : GoodIn wsX2_init wsX2_takeAncestors := goodIn_r _ [29, 9, 31, 32, 33, 34, 35] (by decide +kernel) (by decide +kernel)
set_option maxRecDepth 20000 in
theorem gX2_init_X2_takeAncestors : GoodIn wsX2_init (wsV RX2 37 RX2 yX2_takeAncestors wsX2_takeAncestors) := goodIn_app (goodIn_of _ (by decide +kernel)) ggX2_init_X2_takeAncestors
theorem dX2_init_0 : decode cX2_init 0 = .ok (.aload_n 0, 1) := by decide +kernel
theorem dX2_init_1 : decode cX2_init 1 = .ok (.invokespecial 3, 3) := by decide +kernel
theorem dX2_init_4 : decode cX2_init 4 = .ok (.aload_n 0, 1) := by decide +kernel
theorem dX2_init_5 : decode cX2_init 5 = .ok (.new 9, 3) := by decide +kernel
theorem dX2_init_8 : decode cX2_init 8 = .ok (.dup, 1) := by decide +kernel
theorem dX2_init_9 : decode cX2_init 9 = .ok (.invokespecial 11, 3) := by decide +kernel
theorem dX2_init_12 : decode cX2_init 12 = .ok (.putfield 12, 3) := by decide +kernel
theorem dX2_init_15 : decode cX2_init 15 = .ok (.aload_n 0, 1) := by decide +kernel
theorem dX2_init_16 : decode cX2_init 16 = .ok (.sipush 400, 3) := by decide +kernel
theorem dX2_init_19 : decode cX2_init 19 = .ok (.newarray .boolean, 2) := by decide +kernel
theorem dX2_init_21 : decode cX2_init 21 = .ok (.putfield 18, 3) := by decide +kernel
theorem dX2_init_24 : decode cX2_init 24 = .ok (.aload_n 0, 1) := by decide +kernel
theorem dX2_init_25 : decode cX2_init 25 = .ok (.iload_n 1, 1) := by decide +kernel
theorem dX2_init_26 : decode cX2_init 26 = .ok (.putfield 22, 3) := by decide +kernel
theorem dX2_init_29 : decode cX2_init 29 = .ok (.aload_n 0, 1) := by decide +kernel
theorem dX2_init_30 : decode cX2_init 30 = .ok (.aload_n 2, 1) := by decide +kernel
theorem dX2_init_31 : decode cX2_init 31 = .ok (.putfield 26, 3) := by decide +kernel
theorem dX2_init_34 : decode cX2_init 34 = .ok (.aload_n 0, 1) := by decide +kernel
theorem dX2_init_35 : decode cX2_init 35 = .ok (.aload_n 3, 1) := by decide +kernel
theorem dX2_init_36 : decode cX2_init 36 = .ok (.putfield 30, 3) := by decide +kernel
theorem dX2_init_39 : decode cX2_init 39 = .ok (.aload_n 0, 1) := by decide +kernel
theorem dX2_init_40 : decode cX2_init 40 = .ok (.getfield 12, 3) := by decide +kernel
theorem dX2_init_43 : decode cX2_init 43 = .ok (.aload 4, 2) := by decide +kernel
theorem dX2_init_45 : decode cX2_init 45 = .ok (.invokevirtual 33, 3) := by decide +kernel
theorem dX2_init_48 : decode cX2_init 48 = .ok (.aload_n 0, 1) := by decide +kernel
theorem dX2_init_49 : decode cX2_init 49 = .ok (.aload_n 2, 1) := by decide +kernel
theorem dX2_init_50 : decode cX2_init 50 = .ok (.invokevirtual 37, 3) := by decide +kernel
theorem dX2_init_53 : decode cX2_init 53 = .ok (.aload_n 0, 1) := by decide +kernel
theorem dX2_init_54 : decode cX2_init 54 = .ok (.aload_n 3, 1) := by decide +kernel
theorem dX2_init_55 : decode cX2_init 55 = .ok (.invokevirtual 37, 3) := by decide +kernel
theorem dX2_init_58 : decode cX2_init 58 = .ok (.iload_n 1, 1) := by decide +kernel
theorem dX2_init_59 : decode cX2_init 59 = .ok (.ifCond .lt 17, 3) := by decide +kernel
theorem dX2_init_62 : decode cX2_init 62 = .ok (.iload_n 1, 1) := by decide +kernel
theorem dX2_init_63 : decode cX2_init 63 = .ok (.sipush 400, 3) := by decide +kernel
theorem dX2_init_66 : decode cX2_init 66 = .ok (.if_icmp .ge 10, 3) := by decide +kernel
theorem dX2_init_69 : decode cX2_init 69 = .ok (.aload_n 0, 1) := by decide +kernel
theorem dX2_init_70 : decode cX2_init 70 = .ok (.getfield 18, 3) := by decide +kernel
theorem dX2_init_73 : decode cX2_init 73 = .ok (.iload_n 1, 1) := by decide +kernel
theorem dX2_init_74 : decode cX2_init 74 = .ok (.iconst 1, 1) := by decide +kernel
theorem dX2_init_75 : decode cX2_init 75 = .ok (.bastore, 1) := by decide +kernel
theorem dX2_init_76 : decode cX2_init 76 = .ok (.return_, 1) := by decide +kernel
theorem dX2_takeAncestors_0 : decode cX2_takeAncestors 0 = .ok (.aload_n 1, 1) := by decide +kernel
theorem dX2_takeAncestors_1 : decode cX2_takeAncestors 1 = .ok (.ifnonnull 4, 3) := by decide +kernel
theorem dX2_takeAncestors_4 : decode cX2_takeAncestors 4 = .ok (.return_, 1) := by decide +kernel
theorem dX2_takeAncestors_5 : decode cX2_takeAncestors 5 = .ok (.iconst 0, 1) := by decide +kernel
theorem dX2_takeAncestors_6 : decode cX2_takeAncestors 6 = .ok (.istore_n 2, 1) := by decide +kernel
theorem dX2_takeAncestors_7 : decode cX2_takeAncestors 7 = .ok (.iload_n 2, 1) := by decide +kernel
theorem dX2_takeAncestors_8 : decode cX2_takeAncestors 8 = .ok (.sipush 400, 3) := by decide +kernel
theorem dX2_takeAncestors_11 : decode cX2_takeAncestors 11 = .ok (.if_icmp .ge 25, 3) := by decide +kernel
theorem dX2_takeAncestors_14 : decode cX2_takeAncestors 14 = .ok (.aload_n 1, 1) := by decide +kernel
theorem dX2_takeAncestors_15 : decode cX2_takeAncestors 15 = .ok (.getfield 18, 3) := by decide +kernel
theorem dX2_takeAncestors_18 : decode cX2_takeAncestors 18 = .ok (.iload_n 2, 1) := by decide +kernel
theorem dX2_takeAncestors_19 : decode cX2_takeAncestors 19 = .ok (.baload, 1) := by decide +kernel
theorem dX2_takeAncestors_20 : decode cX2_takeAncestors 20 = .ok (.ifCond .eq 10, 3) := by decide +kernel
theorem dX2_takeAncestors_23 : decode cX2_takeAncestors 23 = .ok (.aload_n 0, 1) := by decide +kernel
theorem dX2_takeAncestors_24 : decode cX2_takeAncestors 24 = .ok (.getfield 18, 3) := by decide +kernel
theorem dX2_takeAncestors_27 : decode cX2_takeAncestors 27 = .ok (.iload_n 2, 1) := by decide +kernel
theorem dX2_takeAncestors_28 : decode cX2_takeAncestors 28 = .ok (.iconst 1, 1) := by decide +kernel
theorem dX2_takeAncestors_29 : decode cX2_takeAncestors 29 = .ok (.bastore, 1) := by decide +kernel
theorem dX2_takeAncestors_30 : decode cX2_takeAncestors 30 = .ok (.iinc 2 1, 3) := by decide +kernel
theorem dX2_takeAncestors_33 : decode cX2_takeAncestors 33 = .ok (.goto (-26), 3) := by decide +kernel
theorem dX2_takeAncestors_36 : decode cX2_takeAncestors 36 = .ok (.return_, 1) := by decide +kernel
theorem dX2_hasAncestor_0 : decode cX2_hasAncestor 0 = .ok (.iload_n 1, 1) := by decide +kernel
theorem dX2_hasAncestor_1 : decode cX2_hasAncestor 1 = .ok (.ifCond .lt 23, 3) := by decide +kernel
theorem dX2_hasAncestor_4 : decode cX2_hasAncestor 4 = .ok (.iload_n 1, 1) := by decide +kernel
theorem dX2_hasAncestor_5 : decode cX2_hasAncestor 5 = .ok (.sipush 400, 3) := by decide +kernel
theorem dX2_hasAncestor_8 : decode cX2_hasAncestor 8 = .ok (.if_icmp .ge 16, 3) := by decide +kernel
theorem dX2_hasAncestor_11 : decode cX2_hasAncestor 11 = .ok (.aload_n 0, 1) := by decide +kernel
theorem dX2_hasAncestor_12 : decode cX2_hasAncestor 12 = .ok (.getfield 18, 3) := by decide +kernel
theorem dX2_hasAncestor_15 : decode cX2_hasAncestor 15 = .ok (.iload_n 1, 1) := by decide +kernel
theorem dX2_hasAncestor_16 : decode cX2_hasAncestor 16 = .ok (.baload, 1) := by decide +kernel
theorem dX2_hasAncestor_17 : decode cX2_hasAncestor 17 = .ok (.ifCond .eq 7, 3) := by decide +kernel
theorem dX2_hasAncestor_20 : decode cX2_hasAncestor 20 = .ok (.iconst 1, 1) := by decide +kernel
theorem dX2_hasAncestor_21 : decode cX2_hasAncestor 21 = .ok (.goto 4, 3) := by decide +kernel
theorem dX2_hasAncestor_24 : decode cX2_hasAncestor 24 = .ok (.iconst 0, 1) := by decide +kernel
theorem dX2_hasAncestor_25 : decode cX2_hasAncestor 25 = .ok (.ireturn, 1) := by decide +kernel
set_option maxRecDepth 20000 in
theorem ggX3_init_X1_init : GoodIn wsX3_init wsX1_init := goodIn_r _ [15, 16, 2, 3, 17, 18, 66] (by decide +kernel) (by decide +kernel)
set_option maxRecDepth 20000 in
theorem gX3_init_X1_init_n23 : GoodIn wsX3_init (wsX1_init) := ggX3_init_X1_init
set_option maxRecDepth 20000 in
theorem ggX3_init_X3_addVersion : GoodIn wsX3_init wsX3_addVersion := goodIn_r _ [23, 24, 4, 25, 26, 5, 27, 28, 29, 2, 3, 30, 9, 10, 31, 32, 33, 34, 35, 36, 14, 15, 16, 17, 18, 37, 38, 39, 40, 41, 42, 43, 44, 45, 46, 47, 59, 60, 61, 62, 63, 64, 65, 67, 68, 69, 70, 71, 66] (by decide +kernel) (by decide +kernel)
set_option maxRecDepth 20000 in
theorem gX3_init_X3_addVersion : GoodIn wsX3_init (wsV RX3 34 RX3 yX3_addVersion wsX3_addVersion) := goodIn_app (goodIn_of _ (by decide +kernel)) ggX3_init_X3_addVersion
set_option maxRecDepth 20000 in
theorem ggX3_init_X3_addBranch : GoodIn wsX3_init wsX3_addBranch := goodIn_r _ [51, 52, 7, 6, 53, 54, 55, 56, 57, 2, 3, 58, 59, 60, 61, 62, 63, 64, 65, 72] (by decide +kernel) (by decide +kernel)
set_option maxRecDepth 20000 in
theorem gX3_init_X3_addBranch : GoodIn wsX3_init (wsV RX3 38 RX3 yX3_addBranch wsX3_addBranch) := goodIn_app (goodIn_of _ (by decide +kernel)) ggX3_init_X3_addBranch
theorem dX3_init_0 : decode cX3_init 0 = .ok (.aload_n 0, 1) := by decide +kernel
theorem dX3_init_1 : decode cX3_init 1 = .ok (.invokespecial 1, 3) := by decide +kernel
theorem dX3_init_4 : decode cX3_init 4 = .ok (.aload_n 0, 1) := by decide +kernel
theorem dX3_init_5 : decode cX3_init 5 = .ok (.sipush 400, 3) := by decide +kernel
theorem dX3_init_8 : decode cX3_init 8 = .ok (.anewarray 9, 3) := by decide +kernel
theorem dX3_init_11 : decode cX3_init 11 = .ok (.putfield 11, 3) := by decide +kernel
theorem dX3_init_14 : decode cX3_init 14 = .ok (.aload_n 0, 1) := by decide +kernel
theorem dX3_init_15 : decode cX3_init 15 = .ok (.bipush 40, 2) := by decide +kernel
theorem dX3_init_17 : decode cX3_init 17 = .ok (.anewarray 15, 3) := by decide +kernel
theorem dX3_init_20 : decode cX3_init 20 = .ok (.putfield 17, 3) := by decide +kernel
theorem dX3_init_23 : decode cX3_init 23 = .ok (.aload_n 0, 1) := by decide +kernel
theorem dX3_init_24 : decode cX3_init 24 = .ok (.new 21, 3) := by decide +kernel
theorem dX3_init_27 : decode cX3_init 27 = .ok (.dup, 1) := by decide +kernel
theorem dX3_init_28 : decode cX3_init 28 = .ok (.invokespecial 23, 3) := by decide +kernel
theorem dX3_init_31 : decode cX3_init 31 = .ok (.putfield 24, 3) := by decide +kernel
theorem dX3_init_34 : decode cX3_init 34 = .ok (.aload_n 0, 1) := by decide +kernel
theorem dX3_init_35 : decode cX3_init 35 = .ok (.new 21, 3) := by decide +kernel
theorem dX3_init_38 : decode cX3_init 38 = .ok (.dup, 1) := by decide +kernel
theorem dX3_init_39 : decode cX3_init 39 = .ok (.invokespecial 23, 3) := by decide +kernel
theorem dX3_init_42 : decode cX3_init 42 = .ok (.putfield 28, 3) := by decide +kernel
theorem dX3_init_45 : decode cX3_init 45 = .ok (.aload_n 0, 1) := by decide +kernel
theorem dX3_init_46 : decode cX3_init 46 = .ok (.new 21, 3) := by decide +kernel
theorem dX3_init_49 : decode cX3_init 49 = .ok (.dup, 1) := by decide +kernel
theorem dX3_init_50 : decode cX3_init 50 = .ok (.invokespecial 23, 3) := by decide +kernel
theorem dX3_init_53 : decode cX3_init 53 = .ok (.putfield 31, 3) := by decide +kernel
theorem dX3_init_56 : decode cX3_init 56 = .ok (.aload_n 0, 1) := by decide +kernel
theorem dX3_init_57 : decode cX3_init 57 = .ok (.aload_n 0, 1) := by decide +kernel
theorem dX3_init_58 : decode cX3_init 58 = .ok (.aconst_null, 1) := by decide +kernel
theorem dX3_init_59 : decode cX3_init 59 = .ok (.aconst_null, 1) := by decide +kernel
theorem dX3_init_60 : decode cX3_init 60 = .ok (.aload_n 0, 1) := by decide +kernel
theorem dX3_init_61 : decode cX3_init 61 = .ok (.getfield 24, 3) := by decide +kernel
theorem dX3_init_64 : decode cX3_init 64 = .ok (.invokevirtual 34, 3) := by decide +kernel
theorem dX3_init_67 : decode cX3_init 67 = .ok (.invokevirtual 38, 3) := by decide +kernel
theorem dX3_init_70 : decode cX3_init 70 = .ok (.pop, 1) := by decide +kernel
theorem dX3_init_71 : decode cX3_init 71 = .ok (.return_, 1) := by decide +kernel
set_option maxRecDepth 20000 in
theorem ggX3_branch_X3_branchAt : GoodIn wsX3_branch wsX3_branchAt := goodIn_r _ [7, 1, 8, 59, 60, 61, 62, 63, 64, 65] (by decide +kernel) (by decide +kernel)
set_option maxRecDepth 20000 in
theorem gX3_branch_X3_branchAt : GoodIn wsX3_branch (wsV RX3 42 RX3 yX3_branchAt wsX3_branchAt) := goodIn_app (goodIn_of _ (by decide +kernel)) ggX3_branch_X3_branchAt
set_option maxRecDepth 20000 in
theorem ggX3_branch_X3_addVersion : GoodIn wsX3_branch wsX3_addVersion := goodIn_r _ [12, 13, 14, 15, 16, 17, 18, 19, 20, 21, 22, 23, 24, 25, 26, 27, 28, 29, 30, 31, 32, 33, 34, 35, 36, 37, 38, 39, 40, 41, 42, 43, 44, 45, 46, 47, 59, 60, 61, 62, 63, 64, 65, 67, 68, 69, 70, 71, 72] (by decide +kernel) (by decide +kernel)
set_option maxRecDepth 20000 in
theorem gX3_branch_X3_addVersion : GoodIn wsX3_branch (wsV RX3 34 RX3 yX3_addVersion wsX3_addVersion) := goodIn_app (goodIn_of _ (by decide +kernel)) ggX3_branch_X3_addVersion
set_option maxRecDepth 20000 in
theorem ggX3_branch_X3_addBranch : GoodIn wsX3_branch wsX3_addBranch := goodIn_r _ [51, 1, 8, 52, 53, 54, 55, 56, 57, 21, 22, 58, 59, 60, 61, 62, 63, 64, 65, 66] (by decide +kernel) (by decide +kernel)
set_option maxRecDepth 20000 in
theorem gX3_branch_X3_addBranch : GoodIn wsX3_branch (wsV RX3 38 RX3 yX3_addBranch wsX3_addBranch) := goodIn_app (goodIn_of _ (by decide +kernel)) ggX3_branch_X3_addBranch
theorem dX3_branch_0 : decode cX3_branch 0 = .ok (.aload_n 0, 1) := by decide +kernel
theorem dX3_branch_1 : decode cX3_branch 1 = .ok (.iload_n 1, 1) := by decide +kernel
theorem dX3_branch_2 : decode cX3_branch 2 = .ok (.invokevirtual 42, 3) := by decide +kernel
theorem dX3_branch_5 : decode cX3_branch 5 = .ok (.astore_n 2, 1) := by decide +kernel
theorem dX3_branch_6 : decode cX3_branch 6 = .ok (.aload_n 2, 1) := by decide +kernel
theorem dX3_branch_7 : decode cX3_branch 7 = .ok (.ifnonnull 10, 3) := by decide +kernel
theorem dX3_branch_10 : decode cX3_branch 10 = .ok (.iload_n 1, 1) := by decide +kernel
theorem dX3_branch_11 : decode cX3_branch 11 = .ok (.iconst (-1), 1) := by decide +kernel
theorem dX3_branch_12 : decode cX3_branch 12 = .ok (.if_icmp .eq 5, 3) := by decide +kernel
theorem dX3_branch_15 : decode cX3_branch 15 = .ok (.iconst (-1), 1) := by decide +kernel
theorem dX3_branch_16 : decode cX3_branch 16 = .ok (.ireturn, 1) := by decide +kernel
theorem dX3_branch_17 : decode cX3_branch 17 = .ok (.aload_n 0, 1) := by decide +kernel
theorem dX3_branch_18 : decode cX3_branch 18 = .ok (.getfield 46, 3) := by decide +kernel
theorem dX3_branch_21 : decode cX3_branch 21 = .ok (.bipush 40, 2) := by decide +kernel
theorem dX3_branch_23 : decode cX3_branch 23 = .ok (.if_icmp .lt 6, 3) := by decide +kernel
theorem dX3_branch_26 : decode cX3_branch 26 = .ok (.bipush (-4), 2) := by decide +kernel
theorem dX3_branch_28 : decode cX3_branch 28 = .ok (.ireturn, 1) := by decide +kernel
theorem dX3_branch_29 : decode cX3_branch 29 = .ok (.aload_n 0, 1) := by decide +kernel
theorem dX3_branch_30 : decode cX3_branch 30 = .ok (.aload_n 2, 1) := by decide +kernel
theorem dX3_branch_31 : decode cX3_branch 31 = .ok (.ifnonnull 16, 3) := by decide +kernel
theorem dX3_branch_34 : decode cX3_branch 34 = .ok (.aload_n 0, 1) := by decide +kernel
theorem dX3_branch_35 : decode cX3_branch 35 = .ok (.aconst_null, 1) := by decide +kernel
theorem dX3_branch_36 : decode cX3_branch 36 = .ok (.aconst_null, 1) := by decide +kernel
theorem dX3_branch_37 : decode cX3_branch 37 = .ok (.aload_n 0, 1) := by decide +kernel
theorem dX3_branch_38 : decode cX3_branch 38 = .ok (.getfield 24, 3) := by decide +kernel
theorem dX3_branch_41 : decode cX3_branch 41 = .ok (.invokevirtual 34, 3) := by decide +kernel
theorem dX3_branch_44 : decode cX3_branch 44 = .ok (.goto 7, 3) := by decide +kernel
theorem dX3_branch_47 : decode cX3_branch 47 = .ok (.aload_n 2, 1) := by decide +kernel
theorem dX3_branch_48 : decode cX3_branch 48 = .ok (.getfield 50, 3) := by decide +kernel
theorem dX3_branch_51 : decode cX3_branch 51 = .ok (.invokevirtual 38, 3) := by decide +kernel
theorem dX3_branch_54 : decode cX3_branch 54 = .ok (.ireturn, 1) := by decide +kernel
set_option maxRecDepth 20000 in
theorem ggX3_put_X3_branchAt : GoodIn wsX3_put wsX3_branchAt := goodIn_r _ [6, 7, 8, 68, 69, 70, 71, 72, 73, 74] (by decide +kernel) (by decide +kernel)
set_option maxRecDepth 20000 in
theorem gX3_put_X3_branchAt : GoodIn wsX3_put (wsV RX3 42 RX3 yX3_branchAt wsX3_branchAt) := goodIn_app (goodIn_of _ (by decide +kernel)) ggX3_put_X3_branchAt
set_option maxRecDepth 20000 in
theorem ggX3_put_X3_isTriple : GoodIn wsX3_put wsX3_isTriple := goodIn_r _ [11] (by decide +kernel) (by decide +kernel)
set_option maxRecDepth 20000 in
theorem gX3_put_X3_isTriple : GoodIn wsX3_put (va_wsS RX3 54 yX3_isTriple wsX3_isTriple) := goodIn_app (goodIn_of _ (by decide +kernel)) ggX3_put_X3_isTriple
set_option maxRecDepth 20000 in
theorem ggX3_put_X1_has : GoodIn wsX3_put wsX1_has := goodIn_r _ [15, 16, 10, 5, 11, 75] (by decide +kernel) (by decide +kernel)
set_option maxRecDepth 20000 in
theorem gX3_put_X1_has_n61 : GoodIn wsX3_put (wsX1_has) := ggX3_put_X1_has
set_option maxRecDepth 20000 in
theorem ggX3_put_X1_becomeCopy : GoodIn wsX3_put wsX1_becomeCopy := goodIn_r _ [19, 16, 20, 21, 22, 23, 75] (by decide +kernel) (by decide +kernel)
set_option maxRecDepth 20000 in
theorem gX3_put_X1_becomeCopy_n64 : GoodIn wsX3_put (wsX1_becomeCopy) := ggX3_put_X1_becomeCopy
set_option maxRecDepth 20000 in
theorem ggX3_put_X1_change : GoodIn wsX3_put wsX1_change := goodIn_r _ [26, 16, 27, 10, 5, 11, 75] (by decide +kernel) (by decide +kernel)
set_option maxRecDepth 20000 in
theorem gX3_put_X1_change_n68 : GoodIn wsX3_put (wsX1_change) := ggX3_put_X1_change
set_option maxRecDepth 20000 in
theorem ggX3_put_X3_advance : GoodIn wsX3_put wsX3_advance := goodIn_r _ [31, 32, 33, 34, 5, 35, 36, 37, 38, 39, 40, 41, 42, 43, 44, 45, 46, 47, 13, 48, 49, 50, 51, 52, 53, 54, 55, 56, 57, 16, 17, 18, 19, 20, 21, 22, 23, 58, 59, 60, 61, 62, 63, 64, 65, 66, 67, 68, 69, 70, 71, 72, 73, 74, 75] (by decide +kernel) (by decide +kernel)
set_option maxRecDepth 20000 in
theorem gX3_put_X3_advance : GoodIn wsX3_put (wsV RX3 72 RX3 yX3_advance wsX3_advance) := goodIn_app (goodIn_of _ (by decide +kernel)) ggX3_put_X3_advance
theorem dX3_put_0 : decode cX3_put 0 = .ok (.aload_n 0, 1) := by decide +kernel
theorem dX3_put_1 : decode cX3_put 1 = .ok (.iload_n 1, 1) := by decide +kernel
theorem dX3_put_2 : decode cX3_put 2 = .ok (.invokevirtual 42, 3) := by decide +kernel
theorem dX3_put_5 : decode cX3_put 5 = .ok (.astore 4, 2) := by decide +kernel
theorem dX3_put_7 : decode cX3_put 7 = .ok (.aload 4, 2) := by decide +kernel
theorem dX3_put_9 : decode cX3_put 9 = .ok (.ifnonnull 5, 3) := by decide +kernel
theorem dX3_put_12 : decode cX3_put 12 = .ok (.iconst (-1), 1) := by decide +kernel
theorem dX3_put_13 : decode cX3_put 13 = .ok (.ireturn, 1) := by decide +kernel
theorem dX3_put_14 : decode cX3_put 14 = .ok (.iload_n 2, 1) := by decide +kernel
theorem dX3_put_15 : decode cX3_put 15 = .ok (.invokestatic 54, 3) := by decide +kernel
theorem dX3_put_18 : decode cX3_put 18 = .ok (.ifCond .ne 6, 3) := by decide +kernel
theorem dX3_put_21 : decode cX3_put 21 = .ok (.bipush (-2), 2) := by decide +kernel
theorem dX3_put_23 : decode cX3_put 23 = .ok (.ireturn, 1) := by decide +kernel
theorem dX3_put_24 : decode cX3_put 24 = .ok (.aload 4, 2) := by decide +kernel
theorem dX3_put_26 : decode cX3_put 26 = .ok (.getfield 50, 3) := by decide +kernel
theorem dX3_put_29 : decode cX3_put 29 = .ok (.getfield 58, 3) := by decide +kernel
theorem dX3_put_32 : decode cX3_put 32 = .ok (.iload_n 2, 1) := by decide +kernel
theorem dX3_put_33 : decode cX3_put 33 = .ok (.invokevirtual 61, 3) := by decide +kernel
theorem dX3_put_36 : decode cX3_put 36 = .ok (.iload_n 3, 1) := by decide +kernel
theorem dX3_put_37 : decode cX3_put 37 = .ok (.if_icmp .ne 6, 3) := by decide +kernel
theorem dX3_put_40 : decode cX3_put 40 = .ok (.bipush (-3), 2) := by decide +kernel
theorem dX3_put_42 : decode cX3_put 42 = .ok (.ireturn, 1) := by decide +kernel
theorem dX3_put_43 : decode cX3_put 43 = .ok (.aload_n 0, 1) := by decide +kernel
theorem dX3_put_44 : decode cX3_put 44 = .ok (.getfield 31, 3) := by decide +kernel
theorem dX3_put_47 : decode cX3_put 47 = .ok (.aload 4, 2) := by decide +kernel
theorem dX3_put_49 : decode cX3_put 49 = .ok (.getfield 50, 3) := by decide +kernel
theorem dX3_put_52 : decode cX3_put 52 = .ok (.getfield 58, 3) := by decide +kernel
theorem dX3_put_55 : decode cX3_put 55 = .ok (.invokevirtual 64, 3) := by decide +kernel
theorem dX3_put_58 : decode cX3_put 58 = .ok (.aload_n 0, 1) := by decide +kernel
theorem dX3_put_59 : decode cX3_put 59 = .ok (.getfield 31, 3) := by decide +kernel
theorem dX3_put_62 : decode cX3_put 62 = .ok (.iload_n 2, 1) := by decide +kernel
theorem dX3_put_63 : decode cX3_put 63 = .ok (.iload_n 3, 1) := by decide +kernel
theorem dX3_put_64 : decode cX3_put 64 = .ok (.invokevirtual 68, 3) := by decide +kernel
theorem dX3_put_67 : decode cX3_put 67 = .ok (.aload_n 0, 1) := by decide +kernel
theorem dX3_put_68 : decode cX3_put 68 = .ok (.aload 4, 2) := by decide +kernel
theorem dX3_put_70 : decode cX3_put 70 = .ok (.aconst_null, 1) := by decide +kernel
theorem dX3_put_71 : decode cX3_put 71 = .ok (.aload_n 0, 1) := by decide +kernel
theorem dX3_put_72 : decode cX3_put 72 = .ok (.getfield 31, 3) := by decide +kernel
theorem dX3_put_75 : decode cX3_put 75 = .ok (.invokevirtual 72, 3) := by decide +kernel
theorem dX3_put_78 : decode cX3_put 78 = .ok (.ireturn, 1) := by decide +kernel
set_option maxRecDepth 20000 in
theorem ggX3_blank_X3_branchAt : GoodIn wsX3_blank wsX3_branchAt := goodIn_r _ [6, 7, 8, 90, 91, 92, 93, 94, 95, 96] (by decide +kernel) (by decide +kernel)
set_option maxRecDepth 20000 in
theorem gX3_blank_X3_branchAt : GoodIn wsX3_blank (wsV RX3 42 RX3 yX3_branchAt wsX3_branchAt) := goodIn_app (goodIn_of _ (by decide +kernel)) ggX3_blank_X3_branchAt
set_option maxRecDepth 20000 in
theorem ggX3_blank_X3_isBlank : GoodIn wsX3_blank wsX3_isBlank := goodIn_r _ [11] (by decide +kernel) (by decide +kernel)
set_option maxRecDepth 20000 in
theorem gX3_blank_X3_isBlank : GoodIn wsX3_blank (va_wsS RX3 76 yX3_isBlank wsX3_isBlank) := goodIn_app (goodIn_of _ (by decide +kernel)) ggX3_blank_X3_isBlank
set_option maxRecDepth 20000 in
theorem ggX3_blank_X1_mentions : GoodIn wsX3_blank wsX1_mentions := goodIn_r _ [15, 16, 17, 18, 13, 19, 20, 21, 5, 22, 23, 24, 25, 26, 27, 28, 29, 30, 31, 97] (by decide +kernel) (by decide +kernel)
set_option maxRecDepth 20000 in
theorem gX3_blank_X1_mentions_n79 : GoodIn wsX3_blank (wsX1_mentions) := ggX3_blank_X1_mentions
set_option maxRecDepth 20000 in
theorem ggX3_blank_X1_becomeRenamed : GoodIn wsX3_blank wsX1_becomeRenamed := goodIn_r _ [34, 20, 16, 17, 18, 13, 19, 21, 5, 22, 35, 36, 37, 23, 24, 25, 26, 27, 28, 29, 30, 31, 38, 39, 40, 41, 42, 97] (by decide +kernel) (by decide +kernel)
set_option maxRecDepth 20000 in
theorem gX3_blank_X1_becomeRenamed_n82 : GoodIn wsX3_blank (wsX1_becomeRenamed) := ggX3_blank_X1_becomeRenamed
set_option maxRecDepth 20000 in
theorem ggX3_blank_X3_advance : GoodIn wsX3_blank wsX3_advance := goodIn_r _ [46, 47, 48, 49, 5, 50, 51, 52, 53, 54, 55, 56, 57, 58, 59, 60, 61, 62, 13, 63, 64, 65, 66, 67, 68, 69, 70, 71, 72, 20, 73, 74, 75, 76, 77, 78, 79, 80, 81, 82, 83, 84, 85, 86, 87, 88, 89, 90, 91, 92, 93, 94, 95, 96, 97] (by decide +kernel) (by decide +kernel)
set_option maxRecDepth 20000 in
theorem gX3_blank_X3_advance : GoodIn wsX3_blank (wsV RX3 72 RX3 yX3_advance wsX3_advance) := goodIn_app (goodIn_of _ (by decide +kernel)) ggX3_blank_X3_advance
theorem dX3_blank_0 : decode cX3_blank 0 = .ok (.aload_n 0, 1) := by decide +kernel
theorem dX3_blank_1 : decode cX3_blank 1 = .ok (.iload_n 1, 1) := by decide +kernel
theorem dX3_blank_2 : decode cX3_blank 2 = .ok (.invokevirtual 42, 3) := by decide +kernel
theorem dX3_blank_5 : decode cX3_blank 5 = .ok (.astore 4, 2) := by decide +kernel
theorem dX3_blank_7 : decode cX3_blank 7 = .ok (.aload 4, 2) := by decide +kernel
theorem dX3_blank_9 : decode cX3_blank 9 = .ok (.ifnonnull 5, 3) := by decide +kernel
theorem dX3_blank_12 : decode cX3_blank 12 = .ok (.iconst (-1), 1) := by decide +kernel
theorem dX3_blank_13 : decode cX3_blank 13 = .ok (.ireturn, 1) := by decide +kernel
theorem dX3_blank_14 : decode cX3_blank 14 = .ok (.iload_n 2, 1) := by decide +kernel
theorem dX3_blank_15 : decode cX3_blank 15 = .ok (.invokestatic 76, 3) := by decide +kernel
theorem dX3_blank_18 : decode cX3_blank 18 = .ok (.ifCond .eq 10, 3) := by decide +kernel
theorem dX3_blank_21 : decode cX3_blank 21 = .ok (.iload_n 3, 1) := by decide +kernel
theorem dX3_blank_22 : decode cX3_blank 22 = .ok (.invokestatic 76, 3) := by decide +kernel
theorem dX3_blank_25 : decode cX3_blank 25 = .ok (.ifCond .ne 6, 3) := by decide +kernel
theorem dX3_blank_28 : decode cX3_blank 28 = .ok (.bipush (-2), 2) := by decide +kernel
theorem dX3_blank_30 : decode cX3_blank 30 = .ok (.ireturn, 1) := by decide +kernel
theorem dX3_blank_31 : decode cX3_blank 31 = .ok (.aload 4, 2) := by decide +kernel
theorem dX3_blank_33 : decode cX3_blank 33 = .ok (.getfield 50, 3) := by decide +kernel
theorem dX3_blank_36 : decode cX3_blank 36 = .ok (.getfield 58, 3) := by decide +kernel
theorem dX3_blank_39 : decode cX3_blank 39 = .ok (.astore 5, 2) := by decide +kernel
theorem dX3_blank_41 : decode cX3_blank 41 = .ok (.iload_n 2, 1) := by decide +kernel
theorem dX3_blank_42 : decode cX3_blank 42 = .ok (.iload_n 3, 1) := by decide +kernel
theorem dX3_blank_43 : decode cX3_blank 43 = .ok (.if_icmp .eq 21, 3) := by decide +kernel
theorem dX3_blank_46 : decode cX3_blank 46 = .ok (.aload 5, 2) := by decide +kernel
theorem dX3_blank_48 : decode cX3_blank 48 = .ok (.iload_n 2, 1) := by decide +kernel
theorem dX3_blank_49 : decode cX3_blank 49 = .ok (.invokevirtual 79, 3) := by decide +kernel
theorem dX3_blank_52 : decode cX3_blank 52 = .ok (.ifCond .eq 12, 3) := by decide +kernel
theorem dX3_blank_55 : decode cX3_blank 55 = .ok (.aload 5, 2) := by decide +kernel
theorem dX3_blank_57 : decode cX3_blank 57 = .ok (.iload_n 3, 1) := by decide +kernel
theorem dX3_blank_58 : decode cX3_blank 58 = .ok (.invokevirtual 79, 3) := by decide +kernel
theorem dX3_blank_61 : decode cX3_blank 61 = .ok (.ifCond .eq 6, 3) := by decide +kernel
theorem dX3_blank_64 : decode cX3_blank 64 = .ok (.bipush (-3), 2) := by decide +kernel
theorem dX3_blank_66 : decode cX3_blank 66 = .ok (.ireturn, 1) := by decide +kernel
theorem dX3_blank_67 : decode cX3_blank 67 = .ok (.aload_n 0, 1) := by decide +kernel
theorem dX3_blank_68 : decode cX3_blank 68 = .ok (.getfield 31, 3) := by decide +kernel
theorem dX3_blank_71 : decode cX3_blank 71 = .ok (.aload 5, 2) := by decide +kernel
theorem dX3_blank_73 : decode cX3_blank 73 = .ok (.iload_n 2, 1) := by decide +kernel
theorem dX3_blank_74 : decode cX3_blank 74 = .ok (.iload_n 3, 1) := by decide +kernel
theorem dX3_blank_75 : decode cX3_blank 75 = .ok (.invokevirtual 82, 3) := by decide +kernel
theorem dX3_blank_78 : decode cX3_blank 78 = .ok (.aload_n 0, 1) := by decide +kernel
theorem dX3_blank_79 : decode cX3_blank 79 = .ok (.aload 4, 2) := by decide +kernel
theorem dX3_blank_81 : decode cX3_blank 81 = .ok (.aconst_null, 1) := by decide +kernel
theorem dX3_blank_82 : decode cX3_blank 82 = .ok (.aload_n 0, 1) := by decide +kernel
theorem dX3_blank_83 : decode cX3_blank 83 = .ok (.getfield 31, 3) := by decide +kernel
theorem dX3_blank_86 : decode cX3_blank 86 = .ok (.invokevirtual 72, 3) := by decide +kernel
theorem dX3_blank_89 : decode cX3_blank 89 = .ok (.ireturn, 1) := by decide +kernel
set_option maxRecDepth 20000 in
theorem ggX3_head_X3_branchAt : GoodIn wsX3_head wsX3_branchAt := goodIn_r _ [5, 6, 7, 14, 15, 16, 17, 18, 19, 20] (by decide +kernel) (by decide +kernel)
set_option maxRecDepth 20000 in
theorem gX3_head_X3_branchAt : GoodIn wsX3_head (wsV RX3 42 RX3 yX3_branchAt wsX3_branchAt) := goodIn_app (goodIn_of _ (by decide +kernel)) ggX3_head_X3_branchAt
theorem dX3_head_0 : decode cX3_head 0 = .ok (.aload_n 0, 1) := by decide +kernel
theorem dX3_head_1 : decode cX3_head 1 = .ok (.iload_n 1, 1) := by decide +kernel
theorem dX3_head_2 : decode cX3_head 2 = .ok (.invokevirtual 42, 3) := by decide +kernel
theorem dX3_head_5 : decode cX3_head 5 = .ok (.astore_n 2, 1) := by decide +kernel
theorem dX3_head_6 : decode cX3_head 6 = .ok (.aload_n 2, 1) := by decide +kernel
theorem dX3_head_7 : decode cX3_head 7 = .ok (.ifnonnull 7, 3) := by decide +kernel
theorem dX3_head_10 : decode cX3_head 10 = .ok (.iconst (-1), 1) := by decide +kernel
theorem dX3_head_11 : decode cX3_head 11 = .ok (.goto 10, 3) := by decide +kernel
theorem dX3_head_14 : decode cX3_head 14 = .ok (.aload_n 2, 1) := by decide +kernel
theorem dX3_head_15 : decode cX3_head 15 = .ok (.getfield 50, 3) := by decide +kernel
theorem dX3_head_18 : decode cX3_head 18 = .ok (.getfield 86, 3) := by decide +kernel
theorem dX3_head_21 : decode cX3_head 21 = .ok (.ireturn, 1) := by decide +kernel
set_option maxRecDepth 20000 in
theorem ggX3_base_X3_branchAt : GoodIn wsX3_base wsX3_branchAt := goodIn_r _ [5, 6, 7, 33, 34, 35, 36, 37, 38, 39] (by decide +kernel) (by decide +kernel)
set_option maxRecDepth 20000 in
theorem gX3_base_X3_branchAt : GoodIn wsX3_base (wsV RX3 42 RX3 yX3_branchAt wsX3_branchAt) := goodIn_app (goodIn_of _ (by decide +kernel)) ggX3_base_X3_branchAt
set_option maxRecDepth 20000 in
theorem ggX3_base_X3_greatestCommon : GoodIn wsX3_base wsX3_greatestCommon := goodIn_r _ [11, 12, 13, 14, 15, 16, 17, 18, 19, 20, 21, 22, 23, 4, 24, 25, 26, 28, 29, 30, 31, 32, 33, 34, 35, 36, 37, 38, 39] (by decide +kernel) (by decide +kernel)
set_option maxRecDepth 20000 in
theorem gX3_base_X3_greatestCommon : GoodIn wsX3_base (wsV RX3 89 RX3 yX3_greatestCommon wsX3_greatestCommon) := goodIn_app (goodIn_of _ (by decide +kernel)) ggX3_base_X3_greatestCommon
theorem dX3_base_0 : decode cX3_base 0 = .ok (.aload_n 0, 1) := by decide +kernel
theorem dX3_base_1 : decode cX3_base 1 = .ok (.iload_n 1, 1) := by decide +kernel
theorem dX3_base_2 : decode cX3_base 2 = .ok (.invokevirtual 42, 3) := by decide +kernel
theorem dX3_base_5 : decode cX3_base 5 = .ok (.astore_n 3, 1) := by decide +kernel
theorem dX3_base_6 : decode cX3_base 6 = .ok (.aload_n 0, 1) := by decide +kernel
theorem dX3_base_7 : decode cX3_base 7 = .ok (.iload_n 2, 1) := by decide +kernel
theorem dX3_base_8 : decode cX3_base 8 = .ok (.invokevirtual 42, 3) := by decide +kernel
theorem dX3_base_11 : decode cX3_base 11 = .ok (.astore 4, 2) := by decide +kernel
theorem dX3_base_13 : decode cX3_base 13 = .ok (.aload_n 3, 1) := by decide +kernel
theorem dX3_base_14 : decode cX3_base 14 = .ok (.ifnull 8, 3) := by decide +kernel
theorem dX3_base_17 : decode cX3_base 17 = .ok (.aload 4, 2) := by decide +kernel
theorem dX3_base_19 : decode cX3_base 19 = .ok (.ifnonnull 5, 3) := by decide +kernel
theorem dX3_base_22 : decode cX3_base 22 = .ok (.iconst (-1), 1) := by decide +kernel
theorem dX3_base_23 : decode cX3_base 23 = .ok (.ireturn, 1) := by decide +kernel
theorem dX3_base_24 : decode cX3_base 24 = .ok (.aload_n 0, 1) := by decide +kernel
theorem dX3_base_25 : decode cX3_base 25 = .ok (.aload_n 3, 1) := by decide +kernel
theorem dX3_base_26 : decode cX3_base 26 = .ok (.getfield 50, 3) := by decide +kernel
theorem dX3_base_29 : decode cX3_base 29 = .ok (.aload 4, 2) := by decide +kernel
theorem dX3_base_31 : decode cX3_base 31 = .ok (.getfield 50, 3) := by decide +kernel
theorem dX3_base_34 : decode cX3_base 34 = .ok (.invokevirtual 89, 3) := by decide +kernel
theorem dX3_base_37 : decode cX3_base 37 = .ok (.astore 5, 2) := by decide +kernel
theorem dX3_base_39 : decode cX3_base 39 = .ok (.aload 5, 2) := by decide +kernel
theorem dX3_base_41 : decode cX3_base 41 = .ok (.ifnonnull 8, 3) := by decide +kernel
theorem dX3_base_44 : decode cX3_base 44 = .ok (.bipush (-3), 2) := by decide +kernel
theorem dX3_base_46 : decode cX3_base 46 = .ok (.goto 8, 3) := by decide +kernel
theorem dX3_base_49 : decode cX3_base 49 = .ok (.aload 5, 2) := by decide +kernel
theorem dX3_base_51 : decode cX3_base 51 = .ok (.getfield 86, 3) := by decide +kernel
theorem dX3_base_54 : decode cX3_base 54 = .ok (.ireturn, 1) := by decide +kernel
set_option maxRecDepth 20000 in
theorem ggX3_merge_X3_branchAt : GoodIn wsX3_merge wsX3_branchAt := goodIn_r _ [7, 8, 9, 99, 100, 101, 102, 103, 104, 105] (by decide +kernel) (by decide +kernel)
set_option maxRecDepth 20000 in
theorem gX3_merge_X3_branchAt : GoodIn wsX3_merge (wsV RX3 42 RX3 yX3_branchAt wsX3_branchAt) := goodIn_app (goodIn_of _ (by decide +kernel)) ggX3_merge_X3_branchAt
set_option maxRecDepth 20000 in
theorem ggX3_merge_X2_hasAncestor : GoodIn wsX3_merge wsX2_hasAncestor := goodIn_r _ [13, 14, 94, 95, 96, 97, 98] (by decide +kernel) (by decide +kernel)
set_option maxRecDepth 20000 in
theorem gX3_merge_X2_hasAncestor_n93 : GoodIn wsX3_merge (wsX2_hasAncestor) := ggX3_merge_X2_hasAncestor
set_option maxRecDepth 20000 in
theorem ggX3_merge_X1_becomeCopy : GoodIn wsX3_merge wsX1_becomeCopy := goodIn_r _ [18, 19, 20, 21, 22, 23, 106] (by decide +kernel) (by decide +kernel)
set_option maxRecDepth 20000 in
theorem gX3_merge_X1_becomeCopy_n64 : GoodIn wsX3_merge (wsX1_becomeCopy) := ggX3_merge_X1_becomeCopy
set_option maxRecDepth 20000 in
theorem ggX3_merge_X3_join : GoodIn wsX3_merge wsX3_join := goodIn_r _ [27, 2, 1, 28, 29, 30, 6, 31, 32, 33, 34, 35, 36, 37, 38, 39, 40, 10, 11, 12, 13, 14, 41, 42, 43, 44, 45, 46, 16, 47, 48, 19, 49, 50, 51, 52, 53, 54, 55, 56, 57, 58, 59, 60, 61, 62, 63, 64, 65, 66, 67, 68, 69, 70, 71, 72, 73, 74, 75, 76, 77, 78, 79, 80, 81, 82, 83, 84, 85, 86, 87, 88, 15, 17, 18, 20, 21, 22, 23, 89, 90, 91, 92, 93, 99, 100, 101, 102, 103, 104, 105, 94, 95, 96, 97, 98, 106] (by decide +kernel) (by decide +kernel)
set_option maxRecDepth 20000 in
theorem gX3_merge_X3_join : GoodIn wsX3_merge (wsV RX3 96 RX3 yX3_join wsX3_join) := goodIn_app (goodIn_of _ (by decide +kernel)) ggX3_merge_X3_join
theorem dX3_merge_0 : decode cX3_merge 0 = .ok (.aload_n 0, 1) := by decide +kernel
theorem dX3_merge_1 : decode cX3_merge 1 = .ok (.iload_n 1, 1) := by decide +kernel
theorem dX3_merge_2 : decode cX3_merge 2 = .ok (.invokevirtual 42, 3) := by decide +kernel
theorem dX3_merge_5 : decode cX3_merge 5 = .ok (.astore_n 3, 1) := by decide +kernel
theorem dX3_merge_6 : decode cX3_merge 6 = .ok (.aload_n 0, 1) := by decide +kernel
theorem dX3_merge_7 : decode cX3_merge 7 = .ok (.iload_n 2, 1) := by decide +kernel
theorem dX3_merge_8 : decode cX3_merge 8 = .ok (.invokevirtual 42, 3) := by decide +kernel
theorem dX3_merge_11 : decode cX3_merge 11 = .ok (.astore 4, 2) := by decide +kernel
theorem dX3_merge_13 : decode cX3_merge 13 = .ok (.aload_n 3, 1) := by decide +kernel
theorem dX3_merge_14 : decode cX3_merge 14 = .ok (.ifnull 8, 3) := by decide +kernel
theorem dX3_merge_17 : decode cX3_merge 17 = .ok (.aload 4, 2) := by decide +kernel
theorem dX3_merge_19 : decode cX3_merge 19 = .ok (.ifnonnull 5, 3) := by decide +kernel
theorem dX3_merge_22 : decode cX3_merge 22 = .ok (.iconst (-1), 1) := by decide +kernel
theorem dX3_merge_23 : decode cX3_merge 23 = .ok (.ireturn, 1) := by decide +kernel
theorem dX3_merge_24 : decode cX3_merge 24 = .ok (.aload_n 3, 1) := by decide +kernel
theorem dX3_merge_25 : decode cX3_merge 25 = .ok (.getfield 50, 3) := by decide +kernel
theorem dX3_merge_28 : decode cX3_merge 28 = .ok (.astore 5, 2) := by decide +kernel
theorem dX3_merge_30 : decode cX3_merge 30 = .ok (.aload 4, 2) := by decide +kernel
theorem dX3_merge_32 : decode cX3_merge 32 = .ok (.getfield 50, 3) := by decide +kernel
theorem dX3_merge_35 : decode cX3_merge 35 = .ok (.astore 6, 2) := by decide +kernel
theorem dX3_merge_37 : decode cX3_merge 37 = .ok (.aload 5, 2) := by decide +kernel
theorem dX3_merge_39 : decode cX3_merge 39 = .ok (.aload 6, 2) := by decide +kernel
theorem dX3_merge_41 : decode cX3_merge 41 = .ok (.getfield 86, 3) := by decide +kernel
theorem dX3_merge_44 : decode cX3_merge 44 = .ok (.invokevirtual 93, 3) := by decide +kernel
theorem dX3_merge_47 : decode cX3_merge 47 = .ok (.ifCond .eq 16, 3) := by decide +kernel
theorem dX3_merge_50 : decode cX3_merge 50 = .ok (.aload_n 0, 1) := by decide +kernel
theorem dX3_merge_51 : decode cX3_merge 51 = .ok (.getfield 28, 3) := by decide +kernel
theorem dX3_merge_54 : decode cX3_merge 54 = .ok (.aload_n 0, 1) := by decide +kernel
theorem dX3_merge_55 : decode cX3_merge 55 = .ok (.getfield 24, 3) := by decide +kernel
theorem dX3_merge_58 : decode cX3_merge 58 = .ok (.invokevirtual 64, 3) := by decide +kernel
theorem dX3_merge_61 : decode cX3_merge 61 = .ok (.iconst 0, 1) := by decide +kernel
theorem dX3_merge_62 : decode cX3_merge 62 = .ok (.ireturn, 1) := by decide +kernel
theorem dX3_merge_63 : decode cX3_merge 63 = .ok (.aload 6, 2) := by decide +kernel
theorem dX3_merge_65 : decode cX3_merge 65 = .ok (.aload 5, 2) := by decide +kernel
theorem dX3_merge_67 : decode cX3_merge 67 = .ok (.getfield 86, 3) := by decide +kernel
theorem dX3_merge_70 : decode cX3_merge 70 = .ok (.invokevirtual 93, 3) := by decide +kernel
theorem dX3_merge_73 : decode cX3_merge 73 = .ok (.ifCond .eq 22, 3) := by decide +kernel
theorem dX3_merge_76 : decode cX3_merge 76 = .ok (.aload_n 0, 1) := by decide +kernel
theorem dX3_merge_77 : decode cX3_merge 77 = .ok (.getfield 28, 3) := by decide +kernel
theorem dX3_merge_80 : decode cX3_merge 80 = .ok (.aload_n 0, 1) := by decide +kernel
theorem dX3_merge_81 : decode cX3_merge 81 = .ok (.getfield 24, 3) := by decide +kernel
theorem dX3_merge_84 : decode cX3_merge 84 = .ok (.invokevirtual 64, 3) := by decide +kernel
theorem dX3_merge_87 : decode cX3_merge 87 = .ok (.aload_n 3, 1) := by decide +kernel
theorem dX3_merge_88 : decode cX3_merge 88 = .ok (.aload 6, 2) := by decide +kernel
theorem dX3_merge_90 : decode cX3_merge 90 = .ok (.putfield 50, 3) := by decide +kernel
theorem dX3_merge_93 : decode cX3_merge 93 = .ok (.iconst 0, 1) := by decide +kernel
theorem dX3_merge_94 : decode cX3_merge 94 = .ok (.ireturn, 1) := by decide +kernel
theorem dX3_merge_95 : decode cX3_merge 95 = .ok (.aload_n 0, 1) := by decide +kernel
theorem dX3_merge_96 : decode cX3_merge 96 = .ok (.aload_n 3, 1) := by decide +kernel
theorem dX3_merge_97 : decode cX3_merge 97 = .ok (.aload 6, 2) := by decide +kernel
theorem dX3_merge_99 : decode cX3_merge 99 = .ok (.invokevirtual 96, 3) := by decide +kernel
theorem dX3_merge_102 : decode cX3_merge 102 = .ok (.ireturn, 1) := by decide +kernel
set_option maxRecDepth 20000 in
theorem ggX3_conflict_X1_crowdedKey : GoodIn wsX3_conflict wsX1_crowdedKey := goodIn_r _ [5, 6, 7, 8, 3, 9, 10, 11, 12, 13, 14, 15, 16, 17, 31] (by decide +kernel) (by decide +kernel)
set_option maxRecDepth 20000 in
theorem gX3_conflict_X1_crowdedKey_n100 : GoodIn wsX3_conflict (wsX1_crowdedKey) := ggX3_conflict_X1_crowdedKey
set_option maxRecDepth 20000 in
theorem ggX3_conflict_X1_leastOfKey : GoodIn wsX3_conflict wsX1_leastOfKey := goodIn_r _ [20, 10, 11, 12, 3, 13, 14, 15, 16, 17, 31] (by decide +kernel) (by decide +kernel)
set_option maxRecDepth 20000 in
theorem gX3_conflict_X1_leastOfKey_n104 : GoodIn wsX3_conflict (wsX1_leastOfKey) := ggX3_conflict_X1_leastOfKey
set_option maxRecDepth 20000 in
theorem ggX3_conflict_X1_greatestOfKey : GoodIn wsX3_conflict wsX1_greatestOfKey := goodIn_r _ [23, 10, 11, 12, 3, 13, 14, 15, 16, 17, 31] (by decide +kernel) (by decide +kernel)
set_option maxRecDepth 20000 in
theorem gX3_conflict_X1_greatestOfKey_n107 : GoodIn wsX3_conflict (wsX1_greatestOfKey) := ggX3_conflict_X1_greatestOfKey
theorem dX3_conflict_0 : decode cX3_conflict 0 = .ok (.aload_n 0, 1) := by decide +kernel
theorem dX3_conflict_1 : decode cX3_conflict 1 = .ok (.getfield 28, 3) := by decide +kernel
theorem dX3_conflict_4 : decode cX3_conflict 4 = .ok (.iload_n 1, 1) := by decide +kernel
theorem dX3_conflict_5 : decode cX3_conflict 5 = .ok (.invokevirtual 100, 3) := by decide +kernel
theorem dX3_conflict_8 : decode cX3_conflict 8 = .ok (.istore_n 3, 1) := by decide +kernel
theorem dX3_conflict_9 : decode cX3_conflict 9 = .ok (.iload_n 3, 1) := by decide +kernel
theorem dX3_conflict_10 : decode cX3_conflict 10 = .ok (.iconst (-1), 1) := by decide +kernel
theorem dX3_conflict_11 : decode cX3_conflict 11 = .ok (.if_icmp .ne 6, 3) := by decide +kernel
theorem dX3_conflict_14 : decode cX3_conflict 14 = .ok (.bipush (-2), 2) := by decide +kernel
theorem dX3_conflict_16 : decode cX3_conflict 16 = .ok (.ireturn, 1) := by decide +kernel
theorem dX3_conflict_17 : decode cX3_conflict 17 = .ok (.iload_n 2, 1) := by decide +kernel
theorem dX3_conflict_18 : decode cX3_conflict 18 = .ok (.tableswitch 46 0 2 #[26, 28, 37], 26) := by decide +kernel
theorem dX3_conflict_44 : decode cX3_conflict 44 = .ok (.iload_n 3, 1) := by decide +kernel
theorem dX3_conflict_45 : decode cX3_conflict 45 = .ok (.ireturn, 1) := by decide +kernel
theorem dX3_conflict_46 : decode cX3_conflict 46 = .ok (.aload_n 0, 1) := by decide +kernel
theorem dX3_conflict_47 : decode cX3_conflict 47 = .ok (.getfield 28, 3) := by decide +kernel
theorem dX3_conflict_50 : decode cX3_conflict 50 = .ok (.iload_n 3, 1) := by decide +kernel
theorem dX3_conflict_51 : decode cX3_conflict 51 = .ok (.invokevirtual 104, 3) := by decide +kernel
theorem dX3_conflict_54 : decode cX3_conflict 54 = .ok (.ireturn, 1) := by decide +kernel
theorem dX3_conflict_55 : decode cX3_conflict 55 = .ok (.aload_n 0, 1) := by decide +kernel
theorem dX3_conflict_56 : decode cX3_conflict 56 = .ok (.getfield 28, 3) := by decide +kernel
theorem dX3_conflict_59 : decode cX3_conflict 59 = .ok (.iload_n 3, 1) := by decide +kernel
theorem dX3_conflict_60 : decode cX3_conflict 60 = .ok (.invokevirtual 107, 3) := by decide +kernel
theorem dX3_conflict_63 : decode cX3_conflict 63 = .ok (.ireturn, 1) := by decide +kernel
theorem dX3_conflict_64 : decode cX3_conflict 64 = .ok (.bipush (-2), 2) := by decide +kernel
theorem dX3_conflict_66 : decode cX3_conflict 66 = .ok (.ireturn, 1) := by decide +kernel
set_option maxRecDepth 20000 in
theorem ggX3_patch_X3_versionAt : GoodIn wsX3_patch wsX3_versionAt := goodIn_r _ [6, 7, 8, 34, 35, 36, 37, 38, 39, 40] (by decide +kernel) (by decide +kernel)
set_option maxRecDepth 20000 in
theorem gX3_patch_X3_versionAt : GoodIn wsX3_patch (wsV RX3 110 RX3 yX3_versionAt wsX3_versionAt) := goodIn_app (goodIn_of _ (by decide +kernel)) ggX3_patch_X3_versionAt
set_option maxRecDepth 20000 in
theorem ggX3_patch_X1_becomeDifference : GoodIn wsX3_patch wsX1_becomeDifference := goodIn_r _ [12, 13, 46] (by decide +kernel) (by decide +kernel)
set_option maxRecDepth 20000 in
theorem gX3_patch_X1_becomeDifference_n114 : GoodIn wsX3_patch (wsX1_becomeDifference) := ggX3_patch_X1_becomeDifference
set_option maxRecDepth 20000 in
theorem ggX3_patch_X1_tripleAt : GoodIn wsX3_patch wsX1_tripleAt := goodIn_r _ [16, 13, 17, 18, 19, 20, 21, 22, 23, 24, 25, 26, 10, 27, 28, 29, 30, 31, 32, 5, 33, 46] (by decide +kernel) (by decide +kernel)
set_option maxRecDepth 20000 in
theorem gX3_patch_X1_tripleAt_n118 : GoodIn wsX3_patch (wsX1_tripleAt) := ggX3_patch_X1_tripleAt
set_option maxRecDepth 20000 in
theorem ggX3_patch_X1_has : GoodIn wsX3_patch wsX1_has := goodIn_r _ [31, 13, 32, 5, 33, 46] (by decide +kernel) (by decide +kernel)
set_option maxRecDepth 20000 in
theorem gX3_patch_X1_has_n61 : GoodIn wsX3_patch (wsX1_has) := ggX3_patch_X1_has
theorem dX3_patch_0 : decode cX3_patch 0 = .ok (.aload_n 0, 1) := by decide +kernel
theorem dX3_patch_1 : decode cX3_patch 1 = .ok (.iload_n 1, 1) := by decide +kernel
theorem dX3_patch_2 : decode cX3_patch 2 = .ok (.invokevirtual 110, 3) := by decide +kernel
theorem dX3_patch_5 : decode cX3_patch 5 = .ok (.astore 4, 2) := by decide +kernel
theorem dX3_patch_7 : decode cX3_patch 7 = .ok (.aload_n 0, 1) := by decide +kernel
theorem dX3_patch_8 : decode cX3_patch 8 = .ok (.iload_n 2, 1) := by decide +kernel
theorem dX3_patch_9 : decode cX3_patch 9 = .ok (.invokevirtual 110, 3) := by decide +kernel
theorem dX3_patch_12 : decode cX3_patch 12 = .ok (.astore 5, 2) := by decide +kernel
theorem dX3_patch_14 : decode cX3_patch 14 = .ok (.aload 4, 2) := by decide +kernel
theorem dX3_patch_16 : decode cX3_patch 16 = .ok (.ifnull 8, 3) := by decide +kernel
theorem dX3_patch_19 : decode cX3_patch 19 = .ok (.aload 5, 2) := by decide +kernel
theorem dX3_patch_21 : decode cX3_patch 21 = .ok (.ifnonnull 5, 3) := by decide +kernel
theorem dX3_patch_24 : decode cX3_patch 24 = .ok (.iconst (-1), 1) := by decide +kernel
theorem dX3_patch_25 : decode cX3_patch 25 = .ok (.ireturn, 1) := by decide +kernel
theorem dX3_patch_26 : decode cX3_patch 26 = .ok (.aload_n 0, 1) := by decide +kernel
theorem dX3_patch_27 : decode cX3_patch 27 = .ok (.getfield 31, 3) := by decide +kernel
theorem dX3_patch_30 : decode cX3_patch 30 = .ok (.aload 4, 2) := by decide +kernel
theorem dX3_patch_32 : decode cX3_patch 32 = .ok (.getfield 58, 3) := by decide +kernel
theorem dX3_patch_35 : decode cX3_patch 35 = .ok (.aload 5, 2) := by decide +kernel
theorem dX3_patch_37 : decode cX3_patch 37 = .ok (.getfield 58, 3) := by decide +kernel
theorem dX3_patch_40 : decode cX3_patch 40 = .ok (.invokevirtual 114, 3) := by decide +kernel
theorem dX3_patch_43 : decode cX3_patch 43 = .ok (.aload_n 0, 1) := by decide +kernel
theorem dX3_patch_44 : decode cX3_patch 44 = .ok (.getfield 31, 3) := by decide +kernel
theorem dX3_patch_47 : decode cX3_patch 47 = .ok (.iload_n 3, 1) := by decide +kernel
theorem dX3_patch_48 : decode cX3_patch 48 = .ok (.invokevirtual 118, 3) := by decide +kernel
theorem dX3_patch_51 : decode cX3_patch 51 = .ok (.istore 6, 2) := by decide +kernel
theorem dX3_patch_53 : decode cX3_patch 53 = .ok (.iload 6, 2) := by decide +kernel
theorem dX3_patch_55 : decode cX3_patch 55 = .ok (.iconst (-1), 1) := by decide +kernel
theorem dX3_patch_56 : decode cX3_patch 56 = .ok (.if_icmp .ne 6, 3) := by decide +kernel
theorem dX3_patch_59 : decode cX3_patch 59 = .ok (.bipush (-2), 2) := by decide +kernel
theorem dX3_patch_61 : decode cX3_patch 61 = .ok (.ireturn, 1) := by decide +kernel
theorem dX3_patch_62 : decode cX3_patch 62 = .ok (.aload 5, 2) := by decide +kernel
theorem dX3_patch_64 : decode cX3_patch 64 = .ok (.getfield 58, 3) := by decide +kernel
theorem dX3_patch_67 : decode cX3_patch 67 = .ok (.iload 6, 2) := by decide +kernel
theorem dX3_patch_69 : decode cX3_patch 69 = .ok (.invokevirtual 61, 3) := by decide +kernel
theorem dX3_patch_72 : decode cX3_patch 72 = .ok (.ifCond .eq 8, 3) := by decide +kernel
theorem dX3_patch_75 : decode cX3_patch 75 = .ok (.iload 6, 2) := by decide +kernel
theorem dX3_patch_77 : decode cX3_patch 77 = .ok (.goto 8, 3) := by decide +kernel
theorem dX3_patch_80 : decode cX3_patch 80 = .ok (.bipush (-10), 2) := by decide +kernel
theorem dX3_patch_82 : decode cX3_patch 82 = .ok (.iload 6, 2) := by decide +kernel
theorem dX3_patch_84 : decode cX3_patch 84 = .ok (.isub, 1) := by decide +kernel
theorem dX3_patch_85 : decode cX3_patch 85 = .ok (.ireturn, 1) := by decide +kernel
set_option maxRecDepth 20000 in
theorem ggX3_inverse_X3_changedBy : GoodIn wsX3_inverse wsX3_changedBy := goodIn_r _ [5, 6, 7, 4, 8, 9, 10, 11, 12, 13, 14, 15, 16, 17, 18, 19, 20, 21] (by decide +kernel) (by decide +kernel)
set_option maxRecDepth 20000 in
theorem gX3_inverse_X3_changedBy : GoodIn wsX3_inverse (wsV RX3 121 RX3 yX3_changedBy wsX3_changedBy) := goodIn_app (goodIn_of _ (by decide +kernel)) ggX3_inverse_X3_changedBy
set_option maxRecDepth 20000 in
theorem ggX3_inverse_X3_turnedRound : GoodIn wsX3_inverse wsX3_turnedRound := goodIn_r _ [8] (by decide +kernel) (by decide +kernel)
set_option maxRecDepth 20000 in
theorem gX3_inverse_X3_turnedRound : GoodIn wsX3_inverse (va_wsS RX3 124 yX3_turnedRound wsX3_turnedRound) := goodIn_app (goodIn_of _ (by decide +kernel)) ggX3_inverse_X3_turnedRound
theorem dX3_inverse_0 : decode cX3_inverse 0 = .ok (.aload_n 0, 1) := by decide +kernel
theorem dX3_inverse_1 : decode cX3_inverse 1 = .ok (.iload_n 1, 1) := by decide +kernel
theorem dX3_inverse_2 : decode cX3_inverse 2 = .ok (.invokevirtual 121, 3) := by decide +kernel
theorem dX3_inverse_5 : decode cX3_inverse 5 = .ok (.ifnonnull 7, 3) := by decide +kernel
theorem dX3_inverse_8 : decode cX3_inverse 8 = .ok (.iconst (-1), 1) := by decide +kernel
theorem dX3_inverse_9 : decode cX3_inverse 9 = .ok (.goto 7, 3) := by decide +kernel
theorem dX3_inverse_12 : decode cX3_inverse 12 = .ok (.iload_n 1, 1) := by decide +kernel
theorem dX3_inverse_13 : decode cX3_inverse 13 = .ok (.invokestatic 124, 3) := by decide +kernel
theorem dX3_inverse_16 : decode cX3_inverse 16 = .ok (.ireturn, 1) := by decide +kernel
set_option maxRecDepth 20000 in
theorem ggX3_apply_X3_branchAt : GoodIn wsX3_apply wsX3_branchAt := goodIn_r _ [5, 6, 7, 91, 92, 93, 94, 95, 96, 97] (by decide +kernel) (by decide +kernel)
set_option maxRecDepth 20000 in
theorem gX3_apply_X3_branchAt : GoodIn wsX3_apply (wsV RX3 42 RX3 yX3_branchAt wsX3_branchAt) := goodIn_app (goodIn_of _ (by decide +kernel)) ggX3_apply_X3_branchAt
set_option maxRecDepth 20000 in
theorem ggX3_apply_X3_changedBy : GoodIn wsX3_apply wsX3_changedBy := goodIn_r _ [11, 12, 13, 4, 14, 15, 16, 17, 18, 19, 20, 91, 92, 93, 94, 95, 96, 97] (by decide +kernel) (by decide +kernel)
set_option maxRecDepth 20000 in
theorem gX3_apply_X3_changedBy : GoodIn wsX3_apply (wsV RX3 121 RX3 yX3_changedBy wsX3_changedBy) := goodIn_app (goodIn_of _ (by decide +kernel)) ggX3_apply_X3_changedBy
set_option maxRecDepth 20000 in
theorem ggX3_apply_X3_setBefore : GoodIn wsX3_apply wsX3_setBefore := goodIn_r _ [24, 25, 86, 87, 88, 89, 90, 91, 92, 93, 94, 95, 96, 97] (by decide +kernel) (by decide +kernel)
set_option maxRecDepth 20000 in
theorem gX3_apply_X3_setBefore : GoodIn wsX3_apply (wsV RX3 127 RX3 yX3_setBefore wsX3_setBefore) := goodIn_app (goodIn_of _ (by decide +kernel)) ggX3_apply_X3_setBefore
set_option maxRecDepth 20000 in
theorem ggX3_apply_X3_lay : GoodIn wsX3_apply wsX3_lay := goodIn_r _ [29, 30, 31, 32, 33, 34, 35, 36, 37, 38, 39, 4, 40, 19, 41, 42, 43, 44, 45, 46, 47, 48, 49, 50, 51, 52, 53, 54, 55, 56, 57, 20, 58, 59, 60, 61, 62, 63, 64, 65, 66, 67, 68, 69, 70, 71, 72, 73, 74, 75, 76, 77, 78, 79, 80, 81, 82, 83, 84, 85, 98, 86, 87, 88, 89, 90, 91, 92, 93, 94, 95, 96, 97, 99] (by decide +kernel) (by decide +kernel)
set_option maxRecDepth 20000 in
theorem gX3_apply_X3_lay : GoodIn wsX3_apply (wsV RX3 131 RX3 yX3_lay wsX3_lay) := goodIn_app (goodIn_of _ (by decide +kernel)) ggX3_apply_X3_lay
theorem dX3_apply_0 : decode cX3_apply 0 = .ok (.aload_n 0, 1) := by decide +kernel
theorem dX3_apply_1 : decode cX3_apply 1 = .ok (.iload_n 1, 1) := by decide +kernel
theorem dX3_apply_2 : decode cX3_apply 2 = .ok (.invokevirtual 42, 3) := by decide +kernel
theorem dX3_apply_5 : decode cX3_apply 5 = .ok (.astore_n 3, 1) := by decide +kernel
theorem dX3_apply_6 : decode cX3_apply 6 = .ok (.aload_n 0, 1) := by decide +kernel
theorem dX3_apply_7 : decode cX3_apply 7 = .ok (.iload_n 2, 1) := by decide +kernel
theorem dX3_apply_8 : decode cX3_apply 8 = .ok (.invokevirtual 121, 3) := by decide +kernel
theorem dX3_apply_11 : decode cX3_apply 11 = .ok (.astore 4, 2) := by decide +kernel
theorem dX3_apply_13 : decode cX3_apply 13 = .ok (.aload_n 3, 1) := by decide +kernel
theorem dX3_apply_14 : decode cX3_apply 14 = .ok (.ifnull 8, 3) := by decide +kernel
theorem dX3_apply_17 : decode cX3_apply 17 = .ok (.aload 4, 2) := by decide +kernel
theorem dX3_apply_19 : decode cX3_apply 19 = .ok (.ifnonnull 5, 3) := by decide +kernel
theorem dX3_apply_22 : decode cX3_apply 22 = .ok (.iconst (-1), 1) := by decide +kernel
theorem dX3_apply_23 : decode cX3_apply 23 = .ok (.ireturn, 1) := by decide +kernel
theorem dX3_apply_24 : decode cX3_apply 24 = .ok (.iload_n 2, 1) := by decide +kernel
theorem dX3_apply_25 : decode cX3_apply 25 = .ok (.ifCond .lt 20, 3) := by decide +kernel
theorem dX3_apply_28 : decode cX3_apply 28 = .ok (.aload_n 0, 1) := by decide +kernel
theorem dX3_apply_29 : decode cX3_apply 29 = .ok (.aload_n 3, 1) := by decide +kernel
theorem dX3_apply_30 : decode cX3_apply 30 = .ok (.aload_n 0, 1) := by decide +kernel
theorem dX3_apply_31 : decode cX3_apply 31 = .ok (.aload 4, 2) := by decide +kernel
theorem dX3_apply_33 : decode cX3_apply 33 = .ok (.invokevirtual 127, 3) := by decide +kernel
theorem dX3_apply_36 : decode cX3_apply 36 = .ok (.aload 4, 2) := by decide +kernel
theorem dX3_apply_38 : decode cX3_apply 38 = .ok (.getfield 58, 3) := by decide +kernel
theorem dX3_apply_41 : decode cX3_apply 41 = .ok (.invokevirtual 131, 3) := by decide +kernel
theorem dX3_apply_44 : decode cX3_apply 44 = .ok (.ireturn, 1) := by decide +kernel
theorem dX3_apply_45 : decode cX3_apply 45 = .ok (.aload_n 0, 1) := by decide +kernel
theorem dX3_apply_46 : decode cX3_apply 46 = .ok (.aload_n 3, 1) := by decide +kernel
theorem dX3_apply_47 : decode cX3_apply 47 = .ok (.aload 4, 2) := by decide +kernel
theorem dX3_apply_49 : decode cX3_apply 49 = .ok (.getfield 58, 3) := by decide +kernel
theorem dX3_apply_52 : decode cX3_apply 52 = .ok (.aload_n 0, 1) := by decide +kernel
theorem dX3_apply_53 : decode cX3_apply 53 = .ok (.aload 4, 2) := by decide +kernel
theorem dX3_apply_55 : decode cX3_apply 55 = .ok (.invokevirtual 127, 3) := by decide +kernel
theorem dX3_apply_58 : decode cX3_apply 58 = .ok (.invokevirtual 131, 3) := by decide +kernel
theorem dX3_apply_61 : decode cX3_apply 61 = .ok (.ireturn, 1) := by decide +kernel
set_option maxRecDepth 20000 in
theorem ggX3_revert_X3_branchAt : GoodIn wsX3_revert wsX3_branchAt := goodIn_r _ [5, 6, 7, 88, 89, 90, 91, 92, 93, 94] (by decide +kernel) (by decide +kernel)
set_option maxRecDepth 20000 in
theorem gX3_revert_X3_branchAt : GoodIn wsX3_revert (wsV RX3 42 RX3 yX3_branchAt wsX3_branchAt) := goodIn_app (goodIn_of _ (by decide +kernel)) ggX3_revert_X3_branchAt
set_option maxRecDepth 20000 in
theorem ggX3_revert_X3_versionAt : GoodIn wsX3_revert wsX3_versionAt := goodIn_r _ [11, 12, 13, 88, 89, 90, 91, 92, 93, 94] (by decide +kernel) (by decide +kernel)
set_option maxRecDepth 20000 in
theorem gX3_revert_X3_versionAt : GoodIn wsX3_revert (wsV RX3 110 RX3 yX3_versionAt wsX3_versionAt) := goodIn_app (goodIn_of _ (by decide +kernel)) ggX3_revert_X3_versionAt
set_option maxRecDepth 20000 in
theorem ggX3_revert_X2_hasAncestor : GoodIn wsX3_revert wsX2_hasAncestor := goodIn_r _ [17, 18, 83, 84, 85, 86, 87] (by decide +kernel) (by decide +kernel)
set_option maxRecDepth 20000 in
theorem gX3_revert_X2_hasAncestor_n93 : GoodIn wsX3_revert (wsX2_hasAncestor) := ggX3_revert_X2_hasAncestor
set_option maxRecDepth 20000 in
theorem ggX3_revert_X3_setBefore : GoodIn wsX3_revert wsX3_setBefore := goodIn_r _ [22, 23, 83, 84, 85, 86, 87, 88, 89, 90, 91, 92, 93, 94] (by decide +kernel) (by decide +kernel)
set_option maxRecDepth 20000 in
theorem gX3_revert_X3_setBefore : GoodIn wsX3_revert (wsV RX3 127 RX3 yX3_setBefore wsX3_setBefore) := goodIn_app (goodIn_of _ (by decide +kernel)) ggX3_revert_X3_setBefore
set_option maxRecDepth 20000 in
theorem ggX3_revert_X3_lay : GoodIn wsX3_revert wsX3_lay := goodIn_r _ [27, 28, 29, 30, 31, 32, 33, 34, 35, 36, 37, 4, 38, 12, 39, 40, 41, 42, 43, 44, 45, 46, 47, 48, 49, 50, 51, 52, 53, 54, 15, 13, 55, 56, 57, 58, 59, 60, 61, 62, 63, 18, 64, 65, 66, 67, 68, 69, 70, 71, 72, 73, 74, 75, 76, 77, 78, 79, 80, 81, 82, 83, 84, 85, 86, 87, 88, 89, 90, 91, 92, 93, 94, 95] (by decide +kernel) (by decide +kernel)
set_option maxRecDepth 20000 in
theorem gX3_revert_X3_lay : GoodIn wsX3_revert (wsV RX3 131 RX3 yX3_lay wsX3_lay) := goodIn_app (goodIn_of _ (by decide +kernel)) ggX3_revert_X3_lay
theorem dX3_revert_0 : decode cX3_revert 0 = .ok (.aload_n 0, 1) := by decide +kernel
theorem dX3_revert_1 : decode cX3_revert 1 = .ok (.iload_n 1, 1) := by decide +kernel
theorem dX3_revert_2 : decode cX3_revert 2 = .ok (.invokevirtual 42, 3) := by decide +kernel
theorem dX3_revert_5 : decode cX3_revert 5 = .ok (.astore_n 3, 1) := by decide +kernel
theorem dX3_revert_6 : decode cX3_revert 6 = .ok (.aload_n 0, 1) := by decide +kernel
theorem dX3_revert_7 : decode cX3_revert 7 = .ok (.iload_n 2, 1) := by decide +kernel
theorem dX3_revert_8 : decode cX3_revert 8 = .ok (.invokevirtual 110, 3) := by decide +kernel
theorem dX3_revert_11 : decode cX3_revert 11 = .ok (.astore 4, 2) := by decide +kernel
theorem dX3_revert_13 : decode cX3_revert 13 = .ok (.aload_n 3, 1) := by decide +kernel
theorem dX3_revert_14 : decode cX3_revert 14 = .ok (.ifnull 8, 3) := by decide +kernel
theorem dX3_revert_17 : decode cX3_revert 17 = .ok (.aload 4, 2) := by decide +kernel
theorem dX3_revert_19 : decode cX3_revert 19 = .ok (.ifnonnull 5, 3) := by decide +kernel
theorem dX3_revert_22 : decode cX3_revert 22 = .ok (.iconst (-1), 1) := by decide +kernel
theorem dX3_revert_23 : decode cX3_revert 23 = .ok (.ireturn, 1) := by decide +kernel
theorem dX3_revert_24 : decode cX3_revert 24 = .ok (.aload_n 3, 1) := by decide +kernel
theorem dX3_revert_25 : decode cX3_revert 25 = .ok (.getfield 50, 3) := by decide +kernel
theorem dX3_revert_28 : decode cX3_revert 28 = .ok (.iload_n 2, 1) := by decide +kernel
theorem dX3_revert_29 : decode cX3_revert 29 = .ok (.invokevirtual 93, 3) := by decide +kernel
theorem dX3_revert_32 : decode cX3_revert 32 = .ok (.ifCond .eq 11, 3) := by decide +kernel
theorem dX3_revert_35 : decode cX3_revert 35 = .ok (.aload 4, 2) := by decide +kernel
theorem dX3_revert_37 : decode cX3_revert 37 = .ok (.getfield 135, 3) := by decide +kernel
theorem dX3_revert_40 : decode cX3_revert 40 = .ok (.ifnull 6, 3) := by decide +kernel
theorem dX3_revert_43 : decode cX3_revert 43 = .ok (.bipush (-3), 2) := by decide +kernel
theorem dX3_revert_45 : decode cX3_revert 45 = .ok (.ireturn, 1) := by decide +kernel
theorem dX3_revert_46 : decode cX3_revert 46 = .ok (.aload_n 0, 1) := by decide +kernel
theorem dX3_revert_47 : decode cX3_revert 47 = .ok (.aload_n 3, 1) := by decide +kernel
theorem dX3_revert_48 : decode cX3_revert 48 = .ok (.aload 4, 2) := by decide +kernel
theorem dX3_revert_50 : decode cX3_revert 50 = .ok (.getfield 58, 3) := by decide +kernel
theorem dX3_revert_53 : decode cX3_revert 53 = .ok (.aload_n 0, 1) := by decide +kernel
theorem dX3_revert_54 : decode cX3_revert 54 = .ok (.aload 4, 2) := by decide +kernel
theorem dX3_revert_56 : decode cX3_revert 56 = .ok (.invokevirtual 127, 3) := by decide +kernel
theorem dX3_revert_59 : decode cX3_revert 59 = .ok (.invokevirtual 131, 3) := by decide +kernel
theorem dX3_revert_62 : decode cX3_revert 62 = .ok (.ireturn, 1) := by decide +kernel
set_option maxRecDepth 20000 in
theorem ggX3_history_X3_isTriple : GoodIn wsX3_history wsX3_isTriple := goodIn_r _ [4] (by decide +kernel) (by decide +kernel)
set_option maxRecDepth 20000 in
theorem gX3_history_X3_isTriple : GoodIn wsX3_history (va_wsS RX3 54 yX3_isTriple wsX3_isTriple) := goodIn_app (goodIn_of _ (by decide +kernel)) ggX3_history_X3_isTriple
set_option maxRecDepth 20000 in
theorem ggX3_history_X3_versionAt : GoodIn wsX3_history wsX3_versionAt := goodIn_r _ [8, 9, 10, 30, 31, 32, 33, 34, 35, 36] (by decide +kernel) (by decide +kernel)
set_option maxRecDepth 20000 in
theorem gX3_history_X3_versionAt : GoodIn wsX3_history (wsV RX3 110 RX3 yX3_versionAt wsX3_versionAt) := goodIn_app (goodIn_of _ (by decide +kernel)) ggX3_history_X3_versionAt
set_option maxRecDepth 20000 in
theorem ggX3_history_X3_changes : GoodIn wsX3_history wsX3_changes := goodIn_r _ [14, 15, 16, 17, 18, 19, 2, 3, 4, 20, 21, 22, 23, 24, 25, 26, 27, 28, 29, 37, 30, 31, 32, 33, 34, 35, 36] (by decide +kernel) (by decide +kernel)
set_option maxRecDepth 20000 in
theorem gX3_history_X3_changes : GoodIn wsX3_history (wsV RX3 138 RX3 yX3_changes wsX3_changes) := goodIn_app (goodIn_of _ (by decide +kernel)) ggX3_history_X3_changes
theorem dX3_history_0 : decode cX3_history 0 = .ok (.iload_n 1, 1) := by decide +kernel
theorem dX3_history_1 : decode cX3_history 1 = .ok (.invokestatic 54, 3) := by decide +kernel
theorem dX3_history_4 : decode cX3_history 4 = .ok (.ifCond .eq 7, 3) := by decide +kernel
theorem dX3_history_7 : decode cX3_history 7 = .ok (.iload_n 2, 1) := by decide +kernel
theorem dX3_history_8 : decode cX3_history 8 = .ok (.ifCond .ge 6, 3) := by decide +kernel
theorem dX3_history_11 : decode cX3_history 11 = .ok (.bipush (-2), 2) := by decide +kernel
theorem dX3_history_13 : decode cX3_history 13 = .ok (.ireturn, 1) := by decide +kernel
theorem dX3_history_14 : decode cX3_history 14 = .ok (.iconst 0, 1) := by decide +kernel
theorem dX3_history_15 : decode cX3_history 15 = .ok (.istore_n 3, 1) := by decide +kernel
theorem dX3_history_16 : decode cX3_history 16 = .ok (.iconst 0, 1) := by decide +kernel
theorem dX3_history_17 : decode cX3_history 17 = .ok (.istore 4, 2) := by decide +kernel
theorem dX3_history_19 : decode cX3_history 19 = .ok (.iload 4, 2) := by decide +kernel
theorem dX3_history_21 : decode cX3_history 21 = .ok (.sipush 400, 3) := by decide +kernel
theorem dX3_history_24 : decode cX3_history 24 = .ok (.if_icmp .ge 51, 3) := by decide +kernel
theorem dX3_history_27 : decode cX3_history 27 = .ok (.aload_n 0, 1) := by decide +kernel
theorem dX3_history_28 : decode cX3_history 28 = .ok (.iload 4, 2) := by decide +kernel
theorem dX3_history_30 : decode cX3_history 30 = .ok (.invokevirtual 110, 3) := by decide +kernel
theorem dX3_history_33 : decode cX3_history 33 = .ok (.astore 5, 2) := by decide +kernel
theorem dX3_history_35 : decode cX3_history 35 = .ok (.aload 5, 2) := by decide +kernel
theorem dX3_history_37 : decode cX3_history 37 = .ok (.ifnull 32, 3) := by decide +kernel
theorem dX3_history_40 : decode cX3_history 40 = .ok (.aload 5, 2) := by decide +kernel
theorem dX3_history_42 : decode cX3_history 42 = .ok (.getfield 135, 3) := by decide +kernel
theorem dX3_history_45 : decode cX3_history 45 = .ok (.ifnonnull 24, 3) := by decide +kernel
theorem dX3_history_48 : decode cX3_history 48 = .ok (.aload_n 0, 1) := by decide +kernel
theorem dX3_history_49 : decode cX3_history 49 = .ok (.aload 5, 2) := by decide +kernel
theorem dX3_history_51 : decode cX3_history 51 = .ok (.iload_n 1, 1) := by decide +kernel
theorem dX3_history_52 : decode cX3_history 52 = .ok (.invokevirtual 138, 3) := by decide +kernel
theorem dX3_history_55 : decode cX3_history 55 = .ok (.ifCond .eq 14, 3) := by decide +kernel
theorem dX3_history_58 : decode cX3_history 58 = .ok (.iload_n 3, 1) := by decide +kernel
theorem dX3_history_59 : decode cX3_history 59 = .ok (.iload_n 2, 1) := by decide +kernel
theorem dX3_history_60 : decode cX3_history 60 = .ok (.if_icmp .ne 6, 3) := by decide +kernel
theorem dX3_history_63 : decode cX3_history 63 = .ok (.iload 4, 2) := by decide +kernel
theorem dX3_history_65 : decode cX3_history 65 = .ok (.ireturn, 1) := by decide +kernel
theorem dX3_history_66 : decode cX3_history 66 = .ok (.iinc 3 1, 3) := by decide +kernel
theorem dX3_history_69 : decode cX3_history 69 = .ok (.iinc 4 1, 3) := by decide +kernel
theorem dX3_history_72 : decode cX3_history 72 = .ok (.goto (-53), 3) := by decide +kernel
theorem dX3_history_75 : decode cX3_history 75 = .ok (.bipush (-2), 2) := by decide +kernel
theorem dX3_history_77 : decode cX3_history 77 = .ok (.ireturn, 1) := by decide +kernel
set_option maxRecDepth 20000 in
theorem ggX3_report_X3_branchAt : GoodIn wsX3_report wsX3_branchAt := goodIn_r _ [5, 6, 7, 29, 30, 31, 32, 33, 34, 35] (by decide +kernel) (by decide +kernel)
set_option maxRecDepth 20000 in
theorem gX3_report_X3_branchAt : GoodIn wsX3_report (wsV RX3 42 RX3 yX3_branchAt wsX3_branchAt) := goodIn_app (goodIn_of _ (by decide +kernel)) ggX3_report_X3_branchAt
set_option maxRecDepth 20000 in
theorem ggX3_report_X1_crowdedKeys : GoodIn wsX3_report wsX1_crowdedKeys := goodIn_r _ [11, 12, 13, 14, 9, 15, 16, 17, 18, 19, 20, 21, 4, 22, 36] (by decide +kernel) (by decide +kernel)
set_option maxRecDepth 20000 in
theorem gX3_report_X1_crowdedKeys_n142 : GoodIn wsX3_report (wsX1_crowdedKeys) := ggX3_report_X1_crowdedKeys
theorem dX3_report_0 : decode cX3_report 0 = .ok (.aload_n 0, 1) := by decide +kernel
theorem dX3_report_1 : decode cX3_report 1 = .ok (.iload_n 1, 1) := by decide +kernel
theorem dX3_report_2 : decode cX3_report 2 = .ok (.invokevirtual 42, 3) := by decide +kernel
theorem dX3_report_5 : decode cX3_report 5 = .ok (.astore_n 2, 1) := by decide +kernel
theorem dX3_report_6 : decode cX3_report 6 = .ok (.aload_n 2, 1) := by decide +kernel
theorem dX3_report_7 : decode cX3_report 7 = .ok (.ifnonnull 5, 3) := by decide +kernel
theorem dX3_report_10 : decode cX3_report 10 = .ok (.iconst (-1), 1) := by decide +kernel
theorem dX3_report_11 : decode cX3_report 11 = .ok (.ireturn, 1) := by decide +kernel
theorem dX3_report_12 : decode cX3_report 12 = .ok (.aload_n 2, 1) := by decide +kernel
theorem dX3_report_13 : decode cX3_report 13 = .ok (.getfield 50, 3) := by decide +kernel
theorem dX3_report_16 : decode cX3_report 16 = .ok (.getfield 58, 3) := by decide +kernel
theorem dX3_report_19 : decode cX3_report 19 = .ok (.invokevirtual 142, 3) := by decide +kernel
theorem dX3_report_22 : decode cX3_report 22 = .ok (.ifCond .ne 7, 3) := by decide +kernel
theorem dX3_report_25 : decode cX3_report 25 = .ok (.iconst 1, 1) := by decide +kernel
theorem dX3_report_26 : decode cX3_report 26 = .ok (.goto 4, 3) := by decide +kernel
theorem dX3_report_29 : decode cX3_report 29 = .ok (.iconst 0, 1) := by decide +kernel
theorem dX3_report_30 : decode cX3_report 30 = .ok (.ireturn, 1) := by decide +kernel
set_option maxRecDepth 20000 in
theorem ggX3_list_X3_branchAt : GoodIn wsX3_list wsX3_branchAt := goodIn_r _ [5, 6, 7, 36, 37, 38, 39, 40, 41, 42] (by decide +kernel) (by decide +kernel)
set_option maxRecDepth 20000 in
theorem gX3_list_X3_branchAt : GoodIn wsX3_list (wsV RX3 42 RX3 yX3_branchAt wsX3_branchAt) := goodIn_app (goodIn_of _ (by decide +kernel)) ggX3_list_X3_branchAt
set_option maxRecDepth 20000 in
theorem ggX3_list_X1_tripleAt : GoodIn wsX3_list wsX1_tripleAt := goodIn_r _ [11, 12, 13, 14, 15, 16, 17, 18, 19, 20, 21, 22, 9, 23, 24, 25, 26, 27, 28, 4, 29, 43] (by decide +kernel) (by decide +kernel)
set_option maxRecDepth 20000 in
theorem gX3_list_X1_tripleAt_n118 : GoodIn wsX3_list (wsX1_tripleAt) := ggX3_list_X1_tripleAt
theorem dX3_list_0 : decode cX3_list 0 = .ok (.aload_n 0, 1) := by decide +kernel
theorem dX3_list_1 : decode cX3_list 1 = .ok (.iload_n 1, 1) := by decide +kernel
theorem dX3_list_2 : decode cX3_list 2 = .ok (.invokevirtual 42, 3) := by decide +kernel
theorem dX3_list_5 : decode cX3_list 5 = .ok (.astore_n 3, 1) := by decide +kernel
theorem dX3_list_6 : decode cX3_list 6 = .ok (.aload_n 3, 1) := by decide +kernel
theorem dX3_list_7 : decode cX3_list 7 = .ok (.ifnonnull 5, 3) := by decide +kernel
theorem dX3_list_10 : decode cX3_list 10 = .ok (.iconst (-1), 1) := by decide +kernel
theorem dX3_list_11 : decode cX3_list 11 = .ok (.ireturn, 1) := by decide +kernel
theorem dX3_list_12 : decode cX3_list 12 = .ok (.aload_n 3, 1) := by decide +kernel
theorem dX3_list_13 : decode cX3_list 13 = .ok (.getfield 50, 3) := by decide +kernel
theorem dX3_list_16 : decode cX3_list 16 = .ok (.getfield 58, 3) := by decide +kernel
theorem dX3_list_19 : decode cX3_list 19 = .ok (.iload_n 2, 1) := by decide +kernel
theorem dX3_list_20 : decode cX3_list 20 = .ok (.invokevirtual 118, 3) := by decide +kernel
theorem dX3_list_23 : decode cX3_list 23 = .ok (.istore 4, 2) := by decide +kernel
theorem dX3_list_25 : decode cX3_list 25 = .ok (.iload 4, 2) := by decide +kernel
theorem dX3_list_27 : decode cX3_list 27 = .ok (.iconst (-1), 1) := by decide +kernel
theorem dX3_list_28 : decode cX3_list 28 = .ok (.if_icmp .ne 8, 3) := by decide +kernel
theorem dX3_list_31 : decode cX3_list 31 = .ok (.bipush (-2), 2) := by decide +kernel
theorem dX3_list_33 : decode cX3_list 33 = .ok (.goto 5, 3) := by decide +kernel
theorem dX3_list_36 : decode cX3_list 36 = .ok (.iload 4, 2) := by decide +kernel
theorem dX3_list_38 : decode cX3_list 38 = .ok (.ireturn, 1) := by decide +kernel
theorem dX3_versions_0 : decode cX3_versions 0 = .ok (.aload_n 0, 1) := by decide +kernel
theorem dX3_versions_1 : decode cX3_versions 1 = .ok (.getfield 146, 3) := by decide +kernel
theorem dX3_versions_4 : decode cX3_versions 4 = .ok (.ireturn, 1) := by decide +kernel
theorem dX3_branches_0 : decode cX3_branches 0 = .ok (.aload_n 0, 1) := by decide +kernel
theorem dX3_branches_1 : decode cX3_branches 1 = .ok (.getfield 46, 3) := by decide +kernel
theorem dX3_branches_4 : decode cX3_branches 4 = .ok (.ireturn, 1) := by decide +kernel
theorem dX3_isTriple_0 : decode cX3_isTriple 0 = .ok (.iload_n 0, 1) := by decide +kernel
theorem dX3_isTriple_1 : decode cX3_isTriple 1 = .ok (.ifCond .lt 14, 3) := by decide +kernel
theorem dX3_isTriple_4 : decode cX3_isTriple 4 = .ok (.iload_n 0, 1) := by decide +kernel
theorem dX3_isTriple_5 : decode cX3_isTriple 5 = .ok (.sipush 4096, 3) := by decide +kernel
theorem dX3_isTriple_8 : decode cX3_isTriple 8 = .ok (.if_icmp .ge 7, 3) := by decide +kernel
theorem dX3_isTriple_11 : decode cX3_isTriple 11 = .ok (.iconst 1, 1) := by decide +kernel
theorem dX3_isTriple_12 : decode cX3_isTriple 12 = .ok (.goto 4, 3) := by decide +kernel
theorem dX3_isTriple_15 : decode cX3_isTriple 15 = .ok (.iconst 0, 1) := by decide +kernel
theorem dX3_isTriple_16 : decode cX3_isTriple 16 = .ok (.ireturn, 1) := by decide +kernel
theorem dX3_isBlank_0 : decode cX3_isBlank 0 = .ok (.iload_n 0, 1) := by decide +kernel
theorem dX3_isBlank_1 : decode cX3_isBlank 1 = .ok (.ifCond .lt 13, 3) := by decide +kernel
theorem dX3_isBlank_4 : decode cX3_isBlank 4 = .ok (.iload_n 0, 1) := by decide +kernel
theorem dX3_isBlank_5 : decode cX3_isBlank 5 = .ok (.bipush 8, 2) := by decide +kernel
theorem dX3_isBlank_7 : decode cX3_isBlank 7 = .ok (.if_icmp .ge 7, 3) := by decide +kernel
theorem dX3_isBlank_10 : decode cX3_isBlank 10 = .ok (.iconst 1, 1) := by decide +kernel
theorem dX3_isBlank_11 : decode cX3_isBlank 11 = .ok (.goto 4, 3) := by decide +kernel
theorem dX3_isBlank_14 : decode cX3_isBlank 14 = .ok (.iconst 0, 1) := by decide +kernel
theorem dX3_isBlank_15 : decode cX3_isBlank 15 = .ok (.ireturn, 1) := by decide +kernel
theorem dX3_turnedRound_0 : decode cX3_turnedRound 0 = .ok (.iconst (-1), 1) := by decide +kernel
theorem dX3_turnedRound_1 : decode cX3_turnedRound 1 = .ok (.iload_n 0, 1) := by decide +kernel
theorem dX3_turnedRound_2 : decode cX3_turnedRound 2 = .ok (.isub, 1) := by decide +kernel
theorem dX3_turnedRound_3 : decode cX3_turnedRound 3 = .ok (.ireturn, 1) := by decide +kernel
theorem dX3_branchAt_0 : decode cX3_branchAt 0 = .ok (.iload_n 1, 1) := by decide +kernel
theorem dX3_branchAt_1 : decode cX3_branchAt 1 = .ok (.ifCond .lt 17, 3) := by decide +kernel
theorem dX3_branchAt_4 : decode cX3_branchAt 4 = .ok (.iload_n 1, 1) := by decide +kernel
theorem dX3_branchAt_5 : decode cX3_branchAt 5 = .ok (.aload_n 0, 1) := by decide +kernel
theorem dX3_branchAt_6 : decode cX3_branchAt 6 = .ok (.getfield 46, 3) := by decide +kernel
theorem dX3_branchAt_9 : decode cX3_branchAt 9 = .ok (.if_icmp .ge 9, 3) := by decide +kernel
theorem dX3_branchAt_12 : decode cX3_branchAt 12 = .ok (.iload_n 1, 1) := by decide +kernel
theorem dX3_branchAt_13 : decode cX3_branchAt 13 = .ok (.bipush 40, 2) := by decide +kernel
theorem dX3_branchAt_15 : decode cX3_branchAt 15 = .ok (.if_icmp .lt 5, 3) := by decide +kernel
theorem dX3_branchAt_18 : decode cX3_branchAt 18 = .ok (.aconst_null, 1) := by decide +kernel
theorem dX3_branchAt_19 : decode cX3_branchAt 19 = .ok (.areturn, 1) := by decide +kernel
theorem dX3_branchAt_20 : decode cX3_branchAt 20 = .ok (.aload_n 0, 1) := by decide +kernel
theorem dX3_branchAt_21 : decode cX3_branchAt 21 = .ok (.getfield 17, 3) := by decide +kernel
theorem dX3_branchAt_24 : decode cX3_branchAt 24 = .ok (.iload_n 1, 1) := by decide +kernel
theorem dX3_branchAt_25 : decode cX3_branchAt 25 = .ok (.aaload, 1) := by decide +kernel
theorem dX3_branchAt_26 : decode cX3_branchAt 26 = .ok (.areturn, 1) := by decide +kernel
theorem dX3_versionAt_0 : decode cX3_versionAt 0 = .ok (.iload_n 1, 1) := by decide +kernel
theorem dX3_versionAt_1 : decode cX3_versionAt 1 = .ok (.ifCond .lt 18, 3) := by decide +kernel
theorem dX3_versionAt_4 : decode cX3_versionAt 4 = .ok (.iload_n 1, 1) := by decide +kernel
theorem dX3_versionAt_5 : decode cX3_versionAt 5 = .ok (.aload_n 0, 1) := by decide +kernel
theorem dX3_versionAt_6 : decode cX3_versionAt 6 = .ok (.getfield 146, 3) := by decide +kernel
theorem dX3_versionAt_9 : decode cX3_versionAt 9 = .ok (.if_icmp .ge 10, 3) := by decide +kernel
theorem dX3_versionAt_12 : decode cX3_versionAt 12 = .ok (.iload_n 1, 1) := by decide +kernel
theorem dX3_versionAt_13 : decode cX3_versionAt 13 = .ok (.sipush 400, 3) := by decide +kernel
theorem dX3_versionAt_16 : decode cX3_versionAt 16 = .ok (.if_icmp .lt 5, 3) := by decide +kernel
theorem dX3_versionAt_19 : decode cX3_versionAt 19 = .ok (.aconst_null, 1) := by decide +kernel
theorem dX3_versionAt_20 : decode cX3_versionAt 20 = .ok (.areturn, 1) := by decide +kernel
theorem dX3_versionAt_21 : decode cX3_versionAt 21 = .ok (.aload_n 0, 1) := by decide +kernel
theorem dX3_versionAt_22 : decode cX3_versionAt 22 = .ok (.getfield 11, 3) := by decide +kernel
theorem dX3_versionAt_25 : decode cX3_versionAt 25 = .ok (.iload_n 1, 1) := by decide +kernel
theorem dX3_versionAt_26 : decode cX3_versionAt 26 = .ok (.aaload, 1) := by decide +kernel
theorem dX3_versionAt_27 : decode cX3_versionAt 27 = .ok (.areturn, 1) := by decide +kernel
set_option maxRecDepth 20000 in
theorem ggX3_changedBy_X3_turnedRound : GoodIn wsX3_changedBy wsX3_turnedRound := goodIn_r _ [4] (by decide +kernel) (by decide +kernel)
set_option maxRecDepth 20000 in
theorem gX3_changedBy_X3_turnedRound : GoodIn wsX3_changedBy (va_wsS RX3 124 yX3_turnedRound wsX3_turnedRound) := goodIn_app (goodIn_of _ (by decide +kernel)) ggX3_changedBy_X3_turnedRound
set_option maxRecDepth 20000 in
theorem ggX3_changedBy_X3_versionAt : GoodIn wsX3_changedBy wsX3_versionAt := goodIn_r _ [8, 9, 10, 11, 12, 13, 14, 15, 16, 17] (by decide +kernel) (by decide +kernel)
set_option maxRecDepth 20000 in
theorem gX3_changedBy_X3_versionAt : GoodIn wsX3_changedBy (wsV RX3 110 RX3 yX3_versionAt wsX3_versionAt) := goodIn_app (goodIn_of _ (by decide +kernel)) ggX3_changedBy_X3_versionAt
theorem dX3_changedBy_0 : decode cX3_changedBy 0 = .ok (.aload_n 0, 1) := by decide +kernel
theorem dX3_changedBy_1 : decode cX3_changedBy 1 = .ok (.iload_n 1, 1) := by decide +kernel
theorem dX3_changedBy_2 : decode cX3_changedBy 2 = .ok (.ifCond .lt 7, 3) := by decide +kernel
theorem dX3_changedBy_5 : decode cX3_changedBy 5 = .ok (.iload_n 1, 1) := by decide +kernel
theorem dX3_changedBy_6 : decode cX3_changedBy 6 = .ok (.goto 7, 3) := by decide +kernel
theorem dX3_changedBy_9 : decode cX3_changedBy 9 = .ok (.iload_n 1, 1) := by decide +kernel
theorem dX3_changedBy_10 : decode cX3_changedBy 10 = .ok (.invokestatic 124, 3) := by decide +kernel
theorem dX3_changedBy_13 : decode cX3_changedBy 13 = .ok (.invokevirtual 110, 3) := by decide +kernel
theorem dX3_changedBy_16 : decode cX3_changedBy 16 = .ok (.areturn, 1) := by decide +kernel
theorem dX3_setBefore_0 : decode cX3_setBefore 0 = .ok (.aload_n 1, 1) := by decide +kernel
theorem dX3_setBefore_1 : decode cX3_setBefore 1 = .ok (.getfield 149, 3) := by decide +kernel
theorem dX3_setBefore_4 : decode cX3_setBefore 4 = .ok (.ifnonnull 10, 3) := by decide +kernel
theorem dX3_setBefore_7 : decode cX3_setBefore 7 = .ok (.aload_n 0, 1) := by decide +kernel
theorem dX3_setBefore_8 : decode cX3_setBefore 8 = .ok (.getfield 24, 3) := by decide +kernel
theorem dX3_setBefore_11 : decode cX3_setBefore 11 = .ok (.goto 10, 3) := by decide +kernel
theorem dX3_setBefore_14 : decode cX3_setBefore 14 = .ok (.aload_n 1, 1) := by decide +kernel
theorem dX3_setBefore_15 : decode cX3_setBefore 15 = .ok (.getfield 149, 3) := by decide +kernel
theorem dX3_setBefore_18 : decode cX3_setBefore 18 = .ok (.getfield 58, 3) := by decide +kernel
theorem dX3_setBefore_21 : decode cX3_setBefore 21 = .ok (.areturn, 1) := by decide +kernel
set_option maxRecDepth 20000 in
theorem ggX3_changes_X1_has : GoodIn wsX3_changes wsX1_has := goodIn_r _ [4, 5, 6, 7, 8, 19] (by decide +kernel) (by decide +kernel)
set_option maxRecDepth 20000 in
theorem gX3_changes_X1_has_n61 : GoodIn wsX3_changes (wsX1_has) := ggX3_changes_X1_has
set_option maxRecDepth 20000 in
theorem ggX3_changes_X3_setBefore : GoodIn wsX3_changes wsX3_setBefore := goodIn_r _ [12, 13, 14, 15, 16, 17, 18, 20, 21, 22, 23, 24, 25, 26] (by decide +kernel) (by decide +kernel)
set_option maxRecDepth 20000 in
theorem gX3_changes_X3_setBefore : GoodIn wsX3_changes (wsV RX3 127 RX3 yX3_setBefore wsX3_setBefore) := goodIn_app (goodIn_of _ (by decide +kernel)) ggX3_changes_X3_setBefore
theorem dX3_changes_0 : decode cX3_changes 0 = .ok (.aload_n 1, 1) := by decide +kernel
theorem dX3_changes_1 : decode cX3_changes 1 = .ok (.getfield 58, 3) := by decide +kernel
theorem dX3_changes_4 : decode cX3_changes 4 = .ok (.iload_n 2, 1) := by decide +kernel
theorem dX3_changes_5 : decode cX3_changes 5 = .ok (.invokevirtual 61, 3) := by decide +kernel
theorem dX3_changes_8 : decode cX3_changes 8 = .ok (.aload_n 0, 1) := by decide +kernel
theorem dX3_changes_9 : decode cX3_changes 9 = .ok (.aload_n 1, 1) := by decide +kernel
theorem dX3_changes_10 : decode cX3_changes 10 = .ok (.invokevirtual 127, 3) := by decide +kernel
theorem dX3_changes_13 : decode cX3_changes 13 = .ok (.iload_n 2, 1) := by decide +kernel
theorem dX3_changes_14 : decode cX3_changes 14 = .ok (.invokevirtual 61, 3) := by decide +kernel
theorem dX3_changes_17 : decode cX3_changes 17 = .ok (.if_icmp .eq 7, 3) := by decide +kernel
theorem dX3_changes_20 : decode cX3_changes 20 = .ok (.iconst 1, 1) := by decide +kernel
theorem dX3_changes_21 : decode cX3_changes 21 = .ok (.goto 4, 3) := by decide +kernel
theorem dX3_changes_24 : decode cX3_changes 24 = .ok (.iconst 0, 1) := by decide +kernel
theorem dX3_changes_25 : decode cX3_changes 25 = .ok (.ireturn, 1) := by decide +kernel
theorem dX3_isFull_0 : decode cX3_isFull 0 = .ok (.aload_n 0, 1) := by decide +kernel
theorem dX3_isFull_1 : decode cX3_isFull 1 = .ok (.getfield 146, 3) := by decide +kernel
theorem dX3_isFull_4 : decode cX3_isFull 4 = .ok (.sipush 400, 3) := by decide +kernel
theorem dX3_isFull_7 : decode cX3_isFull 7 = .ok (.if_icmp .lt 7, 3) := by decide +kernel
theorem dX3_isFull_10 : decode cX3_isFull 10 = .ok (.iconst 1, 1) := by decide +kernel
theorem dX3_isFull_11 : decode cX3_isFull 11 = .ok (.goto 4, 3) := by decide +kernel
theorem dX3_isFull_14 : decode cX3_isFull 14 = .ok (.iconst 0, 1) := by decide +kernel
theorem dX3_isFull_15 : decode cX3_isFull 15 = .ok (.ireturn, 1) := by decide +kernel
set_option maxRecDepth 20000 in
theorem ggX3_addVersion_X2_init : GoodIn wsX3_addVersion wsX2_init := goodIn_r _ [7, 8, 9, 10, 11, 12, 13, 14, 15, 16, 17, 18, 19, 20, 21, 22, 23, 24, 25, 26, 27, 28, 29, 30, 31, 32, 33, 34, 4, 35, 48, 43, 44, 45, 46, 47] (by decide +kernel) (by decide +kernel)
set_option maxRecDepth 20000 in
theorem gX3_addVersion_X2_init_n152 : GoodIn wsX3_addVersion (wsX2_init) := ggX3_addVersion_X2_init
theorem dX3_addVersion_0 : decode cX3_addVersion 0 = .ok (.aload_n 0, 1) := by decide +kernel
theorem dX3_addVersion_1 : decode cX3_addVersion 1 = .ok (.getfield 146, 3) := by decide +kernel
theorem dX3_addVersion_4 : decode cX3_addVersion 4 = .ok (.ifCond .lt 13, 3) := by decide +kernel
theorem dX3_addVersion_7 : decode cX3_addVersion 7 = .ok (.aload_n 0, 1) := by decide +kernel
theorem dX3_addVersion_8 : decode cX3_addVersion 8 = .ok (.getfield 146, 3) := by decide +kernel
theorem dX3_addVersion_11 : decode cX3_addVersion 11 = .ok (.sipush 400, 3) := by decide +kernel
theorem dX3_addVersion_14 : decode cX3_addVersion 14 = .ok (.if_icmp .lt 5, 3) := by decide +kernel
theorem dX3_addVersion_17 : decode cX3_addVersion 17 = .ok (.aconst_null, 1) := by decide +kernel
theorem dX3_addVersion_18 : decode cX3_addVersion 18 = .ok (.areturn, 1) := by decide +kernel
theorem dX3_addVersion_19 : decode cX3_addVersion 19 = .ok (.new 9, 3) := by decide +kernel
theorem dX3_addVersion_22 : decode cX3_addVersion 22 = .ok (.dup, 1) := by decide +kernel
theorem dX3_addVersion_23 : decode cX3_addVersion 23 = .ok (.aload_n 0, 1) := by decide +kernel
theorem dX3_addVersion_24 : decode cX3_addVersion 24 = .ok (.getfield 146, 3) := by decide +kernel
theorem dX3_addVersion_27 : decode cX3_addVersion 27 = .ok (.aload_n 1, 1) := by decide +kernel
theorem dX3_addVersion_28 : decode cX3_addVersion 28 = .ok (.aload_n 2, 1) := by decide +kernel
theorem dX3_addVersion_29 : decode cX3_addVersion 29 = .ok (.aload_n 3, 1) := by decide +kernel
theorem dX3_addVersion_30 : decode cX3_addVersion 30 = .ok (.invokespecial 152, 3) := by decide +kernel
theorem dX3_addVersion_33 : decode cX3_addVersion 33 = .ok (.astore 4, 2) := by decide +kernel
theorem dX3_addVersion_35 : decode cX3_addVersion 35 = .ok (.aload_n 0, 1) := by decide +kernel
theorem dX3_addVersion_36 : decode cX3_addVersion 36 = .ok (.getfield 11, 3) := by decide +kernel
theorem dX3_addVersion_39 : decode cX3_addVersion 39 = .ok (.aload_n 0, 1) := by decide +kernel
theorem dX3_addVersion_40 : decode cX3_addVersion 40 = .ok (.getfield 146, 3) := by decide +kernel
theorem dX3_addVersion_43 : decode cX3_addVersion 43 = .ok (.aload 4, 2) := by decide +kernel
theorem dX3_addVersion_45 : decode cX3_addVersion 45 = .ok (.aastore, 1) := by decide +kernel
theorem dX3_addVersion_46 : decode cX3_addVersion 46 = .ok (.aload_n 0, 1) := by decide +kernel
theorem dX3_addVersion_47 : decode cX3_addVersion 47 = .ok (.dup, 1) := by decide +kernel
theorem dX3_addVersion_48 : decode cX3_addVersion 48 = .ok (.getfield 146, 3) := by decide +kernel
theorem dX3_addVersion_51 : decode cX3_addVersion 51 = .ok (.iconst 1, 1) := by decide +kernel
theorem dX3_addVersion_52 : decode cX3_addVersion 52 = .ok (.iadd, 1) := by decide +kernel
theorem dX3_addVersion_53 : decode cX3_addVersion 53 = .ok (.putfield 146, 3) := by decide +kernel
theorem dX3_addVersion_56 : decode cX3_addVersion 56 = .ok (.aload 4, 2) := by decide +kernel
theorem dX3_addVersion_58 : decode cX3_addVersion 58 = .ok (.areturn, 1) := by decide +kernel
set_option maxRecDepth 20000 in
theorem ggX3_addBranch_X0_init : GoodIn wsX3_addBranch wsX0_init := goodIn_r _ [7, 8, 9, 10, 11, 19] (by decide +kernel) (by decide +kernel)
set_option maxRecDepth 20000 in
theorem gX3_addBranch_X0_init_n155 : GoodIn wsX3_addBranch (wsX0_init) := ggX3_addBranch_X0_init
theorem dX3_addBranch_0 : decode cX3_addBranch 0 = .ok (.aload_n 1, 1) := by decide +kernel
theorem dX3_addBranch_1 : decode cX3_addBranch 1 = .ok (.ifnull 19, 3) := by decide +kernel
theorem dX3_addBranch_4 : decode cX3_addBranch 4 = .ok (.aload_n 0, 1) := by decide +kernel
theorem dX3_addBranch_5 : decode cX3_addBranch 5 = .ok (.getfield 46, 3) := by decide +kernel
theorem dX3_addBranch_8 : decode cX3_addBranch 8 = .ok (.ifCond .lt 12, 3) := by decide +kernel
theorem dX3_addBranch_11 : decode cX3_addBranch 11 = .ok (.aload_n 0, 1) := by decide +kernel
theorem dX3_addBranch_12 : decode cX3_addBranch 12 = .ok (.getfield 46, 3) := by decide +kernel
theorem dX3_addBranch_15 : decode cX3_addBranch 15 = .ok (.bipush 40, 2) := by decide +kernel
theorem dX3_addBranch_17 : decode cX3_addBranch 17 = .ok (.if_icmp .lt 6, 3) := by decide +kernel
theorem dX3_addBranch_20 : decode cX3_addBranch 20 = .ok (.bipush (-4), 2) := by decide +kernel
theorem dX3_addBranch_22 : decode cX3_addBranch 22 = .ok (.ireturn, 1) := by decide +kernel
theorem dX3_addBranch_23 : decode cX3_addBranch 23 = .ok (.aload_n 0, 1) := by decide +kernel
theorem dX3_addBranch_24 : decode cX3_addBranch 24 = .ok (.getfield 46, 3) := by decide +kernel
theorem dX3_addBranch_27 : decode cX3_addBranch 27 = .ok (.istore_n 2, 1) := by decide +kernel
theorem dX3_addBranch_28 : decode cX3_addBranch 28 = .ok (.aload_n 0, 1) := by decide +kernel
theorem dX3_addBranch_29 : decode cX3_addBranch 29 = .ok (.getfield 17, 3) := by decide +kernel
theorem dX3_addBranch_32 : decode cX3_addBranch 32 = .ok (.iload_n 2, 1) := by decide +kernel
theorem dX3_addBranch_33 : decode cX3_addBranch 33 = .ok (.new 15, 3) := by decide +kernel
theorem dX3_addBranch_36 : decode cX3_addBranch 36 = .ok (.dup, 1) := by decide +kernel
theorem dX3_addBranch_37 : decode cX3_addBranch 37 = .ok (.aload_n 1, 1) := by decide +kernel
theorem dX3_addBranch_38 : decode cX3_addBranch 38 = .ok (.invokespecial 155, 3) := by decide +kernel
theorem dX3_addBranch_41 : decode cX3_addBranch 41 = .ok (.aastore, 1) := by decide +kernel
theorem dX3_addBranch_42 : decode cX3_addBranch 42 = .ok (.aload_n 0, 1) := by decide +kernel
theorem dX3_addBranch_43 : decode cX3_addBranch 43 = .ok (.dup, 1) := by decide +kernel
theorem dX3_addBranch_44 : decode cX3_addBranch 44 = .ok (.getfield 46, 3) := by decide +kernel
theorem dX3_addBranch_47 : decode cX3_addBranch 47 = .ok (.iconst 1, 1) := by decide +kernel
theorem dX3_addBranch_48 : decode cX3_addBranch 48 = .ok (.iadd, 1) := by decide +kernel
theorem dX3_addBranch_49 : decode cX3_addBranch 49 = .ok (.putfield 46, 3) := by decide +kernel
theorem dX3_addBranch_52 : decode cX3_addBranch 52 = .ok (.iload_n 2, 1) := by decide +kernel
theorem dX3_addBranch_53 : decode cX3_addBranch 53 = .ok (.ireturn, 1) := by decide +kernel
set_option maxRecDepth 20000 in
theorem ggX3_advance_X3_addVersion : GoodIn wsX3_advance wsX3_addVersion := goodIn_r _ [5, 6, 7, 8, 9, 10, 11, 12, 13, 14, 15, 16, 17, 18, 19, 20, 21, 22, 23, 24, 25, 26, 27, 28, 29, 30, 31, 32, 33, 34, 35, 36, 37, 38, 39, 40, 47, 48, 49, 50, 51, 52, 53, 42, 43, 44, 45, 46, 54] (by decide +kernel) (by decide +kernel)
set_option maxRecDepth 20000 in
theorem gX3_advance_X3_addVersion : GoodIn wsX3_advance (wsV RX3 34 RX3 yX3_addVersion wsX3_addVersion) := goodIn_app (goodIn_of _ (by decide +kernel)) ggX3_advance_X3_addVersion
theorem dX3_advance_0 : decode cX3_advance 0 = .ok (.aload_n 0, 1) := by decide +kernel
theorem dX3_advance_1 : decode cX3_advance 1 = .ok (.aload_n 1, 1) := by decide +kernel
theorem dX3_advance_2 : decode cX3_advance 2 = .ok (.getfield 50, 3) := by decide +kernel
theorem dX3_advance_5 : decode cX3_advance 5 = .ok (.aload_n 2, 1) := by decide +kernel
theorem dX3_advance_6 : decode cX3_advance 6 = .ok (.aload_n 3, 1) := by decide +kernel
theorem dX3_advance_7 : decode cX3_advance 7 = .ok (.invokevirtual 34, 3) := by decide +kernel
theorem dX3_advance_10 : decode cX3_advance 10 = .ok (.astore 4, 2) := by decide +kernel
theorem dX3_advance_12 : decode cX3_advance 12 = .ok (.aload 4, 2) := by decide +kernel
theorem dX3_advance_14 : decode cX3_advance 14 = .ok (.ifnonnull 6, 3) := by decide +kernel
theorem dX3_advance_17 : decode cX3_advance 17 = .ok (.bipush (-4), 2) := by decide +kernel
theorem dX3_advance_19 : decode cX3_advance 19 = .ok (.ireturn, 1) := by decide +kernel
theorem dX3_advance_20 : decode cX3_advance 20 = .ok (.aload_n 1, 1) := by decide +kernel
theorem dX3_advance_21 : decode cX3_advance 21 = .ok (.aload 4, 2) := by decide +kernel
theorem dX3_advance_23 : decode cX3_advance 23 = .ok (.putfield 50, 3) := by decide +kernel
theorem dX3_advance_26 : decode cX3_advance 26 = .ok (.aload 4, 2) := by decide +kernel
theorem dX3_advance_28 : decode cX3_advance 28 = .ok (.getfield 86, 3) := by decide +kernel
theorem dX3_advance_31 : decode cX3_advance 31 = .ok (.ireturn, 1) := by decide +kernel
set_option maxRecDepth 20000 in
theorem ggX3_greatestCommon_X2_hasAncestor : GoodIn wsX3_greatestCommon wsX2_hasAncestor := goodIn_r _ [8, 9, 17, 18, 19, 20, 21] (by decide +kernel) (by decide +kernel)
set_option maxRecDepth 20000 in
theorem gX3_greatestCommon_X2_hasAncestor_n93 : GoodIn wsX3_greatestCommon (wsX2_hasAncestor) := ggX3_greatestCommon_X2_hasAncestor
set_option maxRecDepth 20000 in
theorem ggX3_greatestCommon_X3_versionAt : GoodIn wsX3_greatestCommon wsX3_versionAt := goodIn_r _ [14, 15, 16, 22, 23, 24, 25, 26, 27, 28] (by decide +kernel) (by decide +kernel)
set_option maxRecDepth 20000 in
theorem gX3_greatestCommon_X3_versionAt : GoodIn wsX3_greatestCommon (wsV RX3 110 RX3 yX3_versionAt wsX3_versionAt) := goodIn_app (goodIn_of _ (by decide +kernel)) ggX3_greatestCommon_X3_versionAt
theorem dX3_greatestCommon_0 : decode cX3_greatestCommon 0 = .ok (.aload_n 1, 1) := by decide +kernel
theorem dX3_greatestCommon_1 : decode cX3_greatestCommon 1 = .ok (.getfield 86, 3) := by decide +kernel
theorem dX3_greatestCommon_4 : decode cX3_greatestCommon 4 = .ok (.aload_n 2, 1) := by decide +kernel
theorem dX3_greatestCommon_5 : decode cX3_greatestCommon 5 = .ok (.getfield 86, 3) := by decide +kernel
theorem dX3_greatestCommon_8 : decode cX3_greatestCommon 8 = .ok (.invokestatic 158, 3) := by decide +kernel
theorem dX3_greatestCommon_11 : decode cX3_greatestCommon 11 = .ok (.istore_n 3, 1) := by decide +kernel
theorem dX3_greatestCommon_12 : decode cX3_greatestCommon 12 = .ok (.iload_n 3, 1) := by decide +kernel
theorem dX3_greatestCommon_13 : decode cX3_greatestCommon 13 = .ok (.ifCond .lt 31, 3) := by decide +kernel
theorem dX3_greatestCommon_16 : decode cX3_greatestCommon 16 = .ok (.aload_n 1, 1) := by decide +kernel
theorem dX3_greatestCommon_17 : decode cX3_greatestCommon 17 = .ok (.iload_n 3, 1) := by decide +kernel
theorem dX3_greatestCommon_18 : decode cX3_greatestCommon 18 = .ok (.invokevirtual 93, 3) := by decide +kernel
theorem dX3_greatestCommon_21 : decode cX3_greatestCommon 21 = .ok (.ifCond .eq 17, 3) := by decide +kernel
theorem dX3_greatestCommon_24 : decode cX3_greatestCommon 24 = .ok (.aload_n 2, 1) := by decide +kernel
theorem dX3_greatestCommon_25 : decode cX3_greatestCommon 25 = .ok (.iload_n 3, 1) := by decide +kernel
theorem dX3_greatestCommon_26 : decode cX3_greatestCommon 26 = .ok (.invokevirtual 93, 3) := by decide +kernel
theorem dX3_greatestCommon_29 : decode cX3_greatestCommon 29 = .ok (.ifCond .eq 9, 3) := by decide +kernel
theorem dX3_greatestCommon_32 : decode cX3_greatestCommon 32 = .ok (.aload_n 0, 1) := by decide +kernel
theorem dX3_greatestCommon_33 : decode cX3_greatestCommon 33 = .ok (.iload_n 3, 1) := by decide +kernel
theorem dX3_greatestCommon_34 : decode cX3_greatestCommon 34 = .ok (.invokevirtual 110, 3) := by decide +kernel
theorem dX3_greatestCommon_37 : decode cX3_greatestCommon 37 = .ok (.areturn, 1) := by decide +kernel
theorem dX3_greatestCommon_38 : decode cX3_greatestCommon 38 = .ok (.iinc 3 (-1), 3) := by decide +kernel
theorem dX3_greatestCommon_41 : decode cX3_greatestCommon 41 = .ok (.goto (-29), 3) := by decide +kernel
theorem dX3_greatestCommon_44 : decode cX3_greatestCommon 44 = .ok (.aconst_null, 1) := by decide +kernel
theorem dX3_greatestCommon_45 : decode cX3_greatestCommon 45 = .ok (.areturn, 1) := by decide +kernel
set_option maxRecDepth 20000 in
theorem ggX3_join_X3_isFull : GoodIn wsX3_join wsX3_isFull := goodIn_r _ [7, 8, 84, 85, 86, 87, 88, 89, 90] (by decide +kernel) (by decide +kernel)
set_option maxRecDepth 20000 in
theorem gX3_join_X3_isFull : GoodIn wsX3_join (wsV RX3 164 RX3 yX3_isFull wsX3_isFull) := goodIn_app (goodIn_of _ (by decide +kernel)) ggX3_join_X3_isFull
set_option maxRecDepth 20000 in
theorem ggX3_join_X3_greatestCommon : GoodIn wsX3_join wsX3_greatestCommon := goodIn_r _ [12, 13, 14, 15, 16, 17, 18, 19, 20, 21, 22, 23, 24, 6, 25, 8, 26, 91, 92, 93, 94, 95, 84, 85, 86, 87, 88, 89, 90] (by decide +kernel) (by decide +kernel)
set_option maxRecDepth 20000 in
theorem gX3_join_X3_greatestCommon : GoodIn wsX3_join (wsV RX3 89 RX3 yX3_greatestCommon wsX3_greatestCommon) := goodIn_app (goodIn_of _ (by decide +kernel)) ggX3_join_X3_greatestCommon
set_option maxRecDepth 20000 in
theorem ggX3_join_X1_becomeMerged : GoodIn wsX3_join wsX1_becomeMerged := goodIn_r _ [30, 31, 32, 96] (by decide +kernel) (by decide +kernel)
set_option maxRecDepth 20000 in
theorem gX3_join_X1_becomeMerged_n168 : GoodIn wsX3_join (wsX1_becomeMerged) := ggX3_join_X1_becomeMerged
set_option maxRecDepth 20000 in
theorem ggX3_join_X1_crowdedKeys : GoodIn wsX3_join wsX1_crowdedKeys := goodIn_r _ [35, 36, 37, 38, 28, 39, 40, 41, 42, 43, 31, 44, 6, 45, 96] (by decide +kernel) (by decide +kernel)
set_option maxRecDepth 20000 in
theorem gX3_join_X1_crowdedKeys_n142 : GoodIn wsX3_join (wsX1_crowdedKeys) := ggX3_join_X1_crowdedKeys
set_option maxRecDepth 20000 in
theorem ggX3_join_X3_advance : GoodIn wsX3_join wsX3_advance := goodIn_r _ [49, 50, 51, 52, 6, 53, 8, 54, 55, 18, 26, 56, 57, 58, 59, 60, 61, 62, 28, 63, 64, 21, 65, 66, 67, 68, 69, 70, 71, 31, 72, 73, 74, 75, 76, 77, 78, 79, 80, 81, 82, 83, 91, 92, 93, 94, 95, 84, 85, 86, 87, 88, 89, 90, 96] (by decide +kernel) (by decide +kernel)
set_option maxRecDepth 20000 in
theorem gX3_join_X3_advance : GoodIn wsX3_join (wsV RX3 72 RX3 yX3_advance wsX3_advance) := goodIn_app (goodIn_of _ (by decide +kernel)) ggX3_join_X3_advance
theorem dX3_join_0 : decode cX3_join 0 = .ok (.aload_n 0, 1) := by decide +kernel
theorem dX3_join_1 : decode cX3_join 1 = .ok (.invokevirtual 164, 3) := by decide +kernel
theorem dX3_join_4 : decode cX3_join 4 = .ok (.ifCond .eq 6, 3) := by decide +kernel
theorem dX3_join_7 : decode cX3_join 7 = .ok (.bipush (-4), 2) := by decide +kernel
theorem dX3_join_9 : decode cX3_join 9 = .ok (.ireturn, 1) := by decide +kernel
theorem dX3_join_10 : decode cX3_join 10 = .ok (.aload_n 0, 1) := by decide +kernel
theorem dX3_join_11 : decode cX3_join 11 = .ok (.aload_n 1, 1) := by decide +kernel
theorem dX3_join_12 : decode cX3_join 12 = .ok (.getfield 50, 3) := by decide +kernel
theorem dX3_join_15 : decode cX3_join 15 = .ok (.aload_n 2, 1) := by decide +kernel
theorem dX3_join_16 : decode cX3_join 16 = .ok (.invokevirtual 89, 3) := by decide +kernel
theorem dX3_join_19 : decode cX3_join 19 = .ok (.astore_n 3, 1) := by decide +kernel
theorem dX3_join_20 : decode cX3_join 20 = .ok (.aload_n 3, 1) := by decide +kernel
theorem dX3_join_21 : decode cX3_join 21 = .ok (.ifnonnull 10, 3) := by decide +kernel
theorem dX3_join_24 : decode cX3_join 24 = .ok (.aload_n 0, 1) := by decide +kernel
theorem dX3_join_25 : decode cX3_join 25 = .ok (.getfield 24, 3) := by decide +kernel
theorem dX3_join_28 : decode cX3_join 28 = .ok (.goto 7, 3) := by decide +kernel
theorem dX3_join_31 : decode cX3_join 31 = .ok (.aload_n 3, 1) := by decide +kernel
theorem dX3_join_32 : decode cX3_join 32 = .ok (.getfield 58, 3) := by decide +kernel
theorem dX3_join_35 : decode cX3_join 35 = .ok (.astore 4, 2) := by decide +kernel
theorem dX3_join_37 : decode cX3_join 37 = .ok (.aload_n 0, 1) := by decide +kernel
theorem dX3_join_38 : decode cX3_join 38 = .ok (.getfield 28, 3) := by decide +kernel
theorem dX3_join_41 : decode cX3_join 41 = .ok (.aload_n 1, 1) := by decide +kernel
theorem dX3_join_42 : decode cX3_join 42 = .ok (.getfield 50, 3) := by decide +kernel
theorem dX3_join_45 : decode cX3_join 45 = .ok (.getfield 58, 3) := by decide +kernel
theorem dX3_join_48 : decode cX3_join 48 = .ok (.aload_n 2, 1) := by decide +kernel
theorem dX3_join_49 : decode cX3_join 49 = .ok (.getfield 58, 3) := by decide +kernel
theorem dX3_join_52 : decode cX3_join 52 = .ok (.aload 4, 2) := by decide +kernel
theorem dX3_join_54 : decode cX3_join 54 = .ok (.invokevirtual 168, 3) := by decide +kernel
theorem dX3_join_57 : decode cX3_join 57 = .ok (.aload_n 0, 1) := by decide +kernel
theorem dX3_join_58 : decode cX3_join 58 = .ok (.getfield 28, 3) := by decide +kernel
theorem dX3_join_61 : decode cX3_join 61 = .ok (.invokevirtual 142, 3) := by decide +kernel
theorem dX3_join_64 : decode cX3_join 64 = .ok (.istore 5, 2) := by decide +kernel
theorem dX3_join_66 : decode cX3_join 66 = .ok (.iload 5, 2) := by decide +kernel
theorem dX3_join_68 : decode cX3_join 68 = .ok (.ifCond .ne 14, 3) := by decide +kernel
theorem dX3_join_71 : decode cX3_join 71 = .ok (.aload_n 0, 1) := by decide +kernel
theorem dX3_join_72 : decode cX3_join 72 = .ok (.aload_n 1, 1) := by decide +kernel
theorem dX3_join_73 : decode cX3_join 73 = .ok (.aload_n 2, 1) := by decide +kernel
theorem dX3_join_74 : decode cX3_join 74 = .ok (.aload_n 0, 1) := by decide +kernel
theorem dX3_join_75 : decode cX3_join 75 = .ok (.getfield 28, 3) := by decide +kernel
theorem dX3_join_78 : decode cX3_join 78 = .ok (.invokevirtual 72, 3) := by decide +kernel
theorem dX3_join_81 : decode cX3_join 81 = .ok (.pop, 1) := by decide +kernel
theorem dX3_join_82 : decode cX3_join 82 = .ok (.iload 5, 2) := by decide +kernel
theorem dX3_join_84 : decode cX3_join 84 = .ok (.ireturn, 1) := by decide +kernel
set_option maxRecDepth 20000 in
theorem ggX3_lay_X1_hasAllRemoved : GoodIn wsX3_lay wsX1_hasAllRemoved := goodIn_r _ [5, 6, 7, 73] (by decide +kernel) (by decide +kernel)
set_option maxRecDepth 20000 in
theorem gX3_lay_X1_hasAllRemoved_n172 : GoodIn wsX3_lay (wsX1_hasAllRemoved) := ggX3_lay_X1_hasAllRemoved
set_option maxRecDepth 20000 in
theorem ggX3_lay_X3_isFull : GoodIn wsX3_lay wsX3_isFull := goodIn_r _ [12, 13, 66, 67, 68, 69, 70, 71, 72] (by decide +kernel) (by decide +kernel)
set_option maxRecDepth 20000 in
theorem gX3_lay_X3_isFull : GoodIn wsX3_lay (wsV RX3 164 RX3 yX3_isFull wsX3_isFull) := goodIn_app (goodIn_of _ (by decide +kernel)) ggX3_lay_X3_isFull
set_option maxRecDepth 20000 in
theorem ggX3_lay_X1_becomeLaid : GoodIn wsX3_lay wsX1_becomeLaid := goodIn_r _ [16, 6, 7, 73] (by decide +kernel) (by decide +kernel)
set_option maxRecDepth 20000 in
theorem gX3_lay_X1_becomeLaid_n176 : GoodIn wsX3_lay (wsX1_becomeLaid) := ggX3_lay_X1_becomeLaid
set_option maxRecDepth 20000 in
theorem ggX3_lay_X1_isSameAs : GoodIn wsX3_lay wsX1_isSameAs := goodIn_r _ [19, 6, 73] (by decide +kernel) (by decide +kernel)
set_option maxRecDepth 20000 in
theorem gX3_lay_X1_isSameAs_n179 : GoodIn wsX3_lay (wsX1_isSameAs) := ggX3_lay_X1_isSameAs
set_option maxRecDepth 20000 in
theorem ggX3_lay_X3_advance : GoodIn wsX3_lay wsX3_advance := goodIn_r _ [23, 24, 25, 26, 11, 27, 13, 28, 29, 30, 31, 32, 33, 34, 35, 36, 37, 38, 3, 39, 40, 41, 42, 43, 44, 45, 46, 47, 48, 6, 49, 50, 51, 52, 53, 54, 55, 56, 57, 58, 59, 60, 61, 62, 63, 64, 65, 66, 67, 68, 69, 70, 71, 72, 73] (by decide +kernel) (by decide +kernel)
set_option maxRecDepth 20000 in
theorem gX3_lay_X3_advance : GoodIn wsX3_lay (wsV RX3 72 RX3 yX3_advance wsX3_advance) := goodIn_app (goodIn_of _ (by decide +kernel)) ggX3_lay_X3_advance
theorem dX3_lay_0 : decode cX3_lay 0 = .ok (.aload_n 1, 1) := by decide +kernel
theorem dX3_lay_1 : decode cX3_lay 1 = .ok (.getfield 50, 3) := by decide +kernel
theorem dX3_lay_4 : decode cX3_lay 4 = .ok (.getfield 58, 3) := by decide +kernel
theorem dX3_lay_7 : decode cX3_lay 7 = .ok (.astore 4, 2) := by decide +kernel
theorem dX3_lay_9 : decode cX3_lay 9 = .ok (.aload 4, 2) := by decide +kernel
theorem dX3_lay_11 : decode cX3_lay 11 = .ok (.aload_n 2, 1) := by decide +kernel
theorem dX3_lay_12 : decode cX3_lay 12 = .ok (.aload_n 3, 1) := by decide +kernel
theorem dX3_lay_13 : decode cX3_lay 13 = .ok (.invokevirtual 172, 3) := by decide +kernel
theorem dX3_lay_16 : decode cX3_lay 16 = .ok (.ifCond .ne 5, 3) := by decide +kernel
theorem dX3_lay_19 : decode cX3_lay 19 = .ok (.iconst 0, 1) := by decide +kernel
theorem dX3_lay_20 : decode cX3_lay 20 = .ok (.ireturn, 1) := by decide +kernel
theorem dX3_lay_21 : decode cX3_lay 21 = .ok (.aload_n 0, 1) := by decide +kernel
theorem dX3_lay_22 : decode cX3_lay 22 = .ok (.invokevirtual 164, 3) := by decide +kernel
theorem dX3_lay_25 : decode cX3_lay 25 = .ok (.ifCond .eq 6, 3) := by decide +kernel
theorem dX3_lay_28 : decode cX3_lay 28 = .ok (.bipush (-4), 2) := by decide +kernel
theorem dX3_lay_30 : decode cX3_lay 30 = .ok (.ireturn, 1) := by decide +kernel
theorem dX3_lay_31 : decode cX3_lay 31 = .ok (.aload_n 0, 1) := by decide +kernel
theorem dX3_lay_32 : decode cX3_lay 32 = .ok (.getfield 31, 3) := by decide +kernel
theorem dX3_lay_35 : decode cX3_lay 35 = .ok (.aload 4, 2) := by decide +kernel
theorem dX3_lay_37 : decode cX3_lay 37 = .ok (.aload_n 2, 1) := by decide +kernel
theorem dX3_lay_38 : decode cX3_lay 38 = .ok (.aload_n 3, 1) := by decide +kernel
theorem dX3_lay_39 : decode cX3_lay 39 = .ok (.invokevirtual 176, 3) := by decide +kernel
theorem dX3_lay_42 : decode cX3_lay 42 = .ok (.aload_n 0, 1) := by decide +kernel
theorem dX3_lay_43 : decode cX3_lay 43 = .ok (.getfield 31, 3) := by decide +kernel
theorem dX3_lay_46 : decode cX3_lay 46 = .ok (.aload 4, 2) := by decide +kernel
theorem dX3_lay_48 : decode cX3_lay 48 = .ok (.invokevirtual 179, 3) := by decide +kernel
theorem dX3_lay_51 : decode cX3_lay 51 = .ok (.ifCond .eq 5, 3) := by decide +kernel
theorem dX3_lay_54 : decode cX3_lay 54 = .ok (.iconst 0, 1) := by decide +kernel
theorem dX3_lay_55 : decode cX3_lay 55 = .ok (.ireturn, 1) := by decide +kernel
theorem dX3_lay_56 : decode cX3_lay 56 = .ok (.aload_n 0, 1) := by decide +kernel
theorem dX3_lay_57 : decode cX3_lay 57 = .ok (.aload_n 1, 1) := by decide +kernel
theorem dX3_lay_58 : decode cX3_lay 58 = .ok (.aconst_null, 1) := by decide +kernel
theorem dX3_lay_59 : decode cX3_lay 59 = .ok (.aload_n 0, 1) := by decide +kernel
theorem dX3_lay_60 : decode cX3_lay 60 = .ok (.getfield 31, 3) := by decide +kernel
theorem dX3_lay_63 : decode cX3_lay 63 = .ok (.invokevirtual 72, 3) := by decide +kernel
theorem dX3_lay_66 : decode cX3_lay 66 = .ok (.pop, 1) := by decide +kernel
theorem dX3_lay_67 : decode cX3_lay 67 = .ok (.iconst 1, 1) := by decide +kernel
theorem dX3_lay_68 : decode cX3_lay 68 = .ok (.ireturn, 1) := by decide +kernel
