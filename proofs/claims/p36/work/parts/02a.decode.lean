theorem dX0_init_0 : decode cX0_init 0 = .ok (.aload_n 0, 1) := by decide +kernel
theorem dX0_init_1 : decode cX0_init 1 = .ok (.invokespecial 3, 3) := by decide +kernel
theorem dX0_init_4 : decode cX0_init 4 = .ok (.aload_n 0, 1) := by decide +kernel
theorem dX0_init_5 : decode cX0_init 5 = .ok (.iconst 5, 1) := by decide +kernel
theorem dX0_init_6 : decode cX0_init 6 = .ok (.anewarray 9, 3) := by decide +kernel
theorem dX0_init_9 : decode cX0_init 9 = .ok (.putfield 11, 3) := by decide +kernel
theorem dX0_init_12 : decode cX0_init 12 = .ok (.aload_n 0, 1) := by decide +kernel
theorem dX0_init_13 : decode cX0_init 13 = .ok (.bipush 100, 2) := by decide +kernel
theorem dX0_init_15 : decode cX0_init 15 = .ok (.newarray .int, 2) := by decide +kernel
theorem dX0_init_17 : decode cX0_init 17 = .ok (.putfield 17, 3) := by decide +kernel
theorem dX0_init_20 : decode cX0_init 20 = .ok (.aload_n 0, 1) := by decide +kernel
theorem dX0_init_21 : decode cX0_init 21 = .ok (.bipush 100, 2) := by decide +kernel
theorem dX0_init_23 : decode cX0_init 23 = .ok (.newarray .int, 2) := by decide +kernel
theorem dX0_init_25 : decode cX0_init 25 = .ok (.putfield 21, 3) := by decide +kernel
theorem dX0_init_28 : decode cX0_init 28 = .ok (.iconst 0, 1) := by decide +kernel
theorem dX0_init_29 : decode cX0_init 29 = .ok (.istore_n 1, 1) := by decide +kernel
theorem dX0_init_30 : decode cX0_init 30 = .ok (.iload_n 1, 1) := by decide +kernel
theorem dX0_init_31 : decode cX0_init 31 = .ok (.iconst 5, 1) := by decide +kernel
theorem dX0_init_32 : decode cX0_init 32 = .ok (.if_icmp .ge 22, 3) := by decide +kernel
theorem dX0_init_35 : decode cX0_init 35 = .ok (.aload_n 0, 1) := by decide +kernel
theorem dX0_init_36 : decode cX0_init 36 = .ok (.getfield 11, 3) := by decide +kernel
theorem dX0_init_39 : decode cX0_init 39 = .ok (.iload_n 1, 1) := by decide +kernel
theorem dX0_init_40 : decode cX0_init 40 = .ok (.new 9, 3) := by decide +kernel
theorem dX0_init_43 : decode cX0_init 43 = .ok (.dup, 1) := by decide +kernel
theorem dX0_init_44 : decode cX0_init 44 = .ok (.invokespecial 24, 3) := by decide +kernel
theorem dX0_init_47 : decode cX0_init 47 = .ok (.aastore, 1) := by decide +kernel
theorem dX0_init_48 : decode cX0_init 48 = .ok (.iinc 1 1, 3) := by decide +kernel
theorem dX0_init_51 : decode cX0_init 51 = .ok (.goto (-21), 3) := by decide +kernel
theorem dX0_init_54 : decode cX0_init 54 = .ok (.aload_n 0, 1) := by decide +kernel
theorem dX0_init_55 : decode cX0_init 55 = .ok (.getfield 17, 3) := by decide +kernel
theorem dX0_init_58 : decode cX0_init 58 = .ok (.iconst (-1), 1) := by decide +kernel
theorem dX0_init_59 : decode cX0_init 59 = .ok (.invokestatic 25, 3) := by decide +kernel
theorem dX0_init_62 : decode cX0_init 62 = .ok (.aload_n 0, 1) := by decide +kernel
theorem dX0_init_63 : decode cX0_init 63 = .ok (.getfield 21, 3) := by decide +kernel
theorem dX0_init_66 : decode cX0_init 66 = .ok (.iconst (-1), 1) := by decide +kernel
theorem dX0_init_67 : decode cX0_init 67 = .ok (.invokestatic 25, 3) := by decide +kernel
theorem dX0_init_70 : decode cX0_init 70 = .ok (.return_, 1) := by decide +kernel
theorem dX0_markSites_0 : decode cX0_markSites 0 = .ok (.aload_n 0, 1) := by decide +kernel
theorem dX0_markSites_1 : decode cX0_markSites 1 = .ok (.getfield 17, 3) := by decide +kernel
theorem dX0_markSites_4 : decode cX0_markSites 4 = .ok (.iconst (-1), 1) := by decide +kernel
theorem dX0_markSites_5 : decode cX0_markSites 5 = .ok (.invokestatic 25, 3) := by decide +kernel
theorem dX0_markSites_8 : decode cX0_markSites 8 = .ok (.aload_n 0, 1) := by decide +kernel
theorem dX0_markSites_9 : decode cX0_markSites 9 = .ok (.getfield 21, 3) := by decide +kernel
theorem dX0_markSites_12 : decode cX0_markSites 12 = .ok (.iconst (-1), 1) := by decide +kernel
theorem dX0_markSites_13 : decode cX0_markSites 13 = .ok (.invokestatic 25, 3) := by decide +kernel
theorem dX0_markSites_16 : decode cX0_markSites 16 = .ok (.aload_n 0, 1) := by decide +kernel
theorem dX0_markSites_17 : decode cX0_markSites 17 = .ok (.iconst 0, 1) := by decide +kernel
theorem dX0_markSites_18 : decode cX0_markSites 18 = .ok (.putfield 31, 3) := by decide +kernel
theorem dX0_markSites_21 : decode cX0_markSites 21 = .ok (.iconst 0, 1) := by decide +kernel
theorem dX0_markSites_22 : decode cX0_markSites 22 = .ok (.istore_n 1, 1) := by decide +kernel
theorem dX0_markSites_23 : decode cX0_markSites 23 = .ok (.iload_n 1, 1) := by decide +kernel
theorem dX0_markSites_24 : decode cX0_markSites 24 = .ok (.aload_n 0, 1) := by decide +kernel
theorem dX0_markSites_25 : decode cX0_markSites 25 = .ok (.getfield 35, 3) := by decide +kernel
theorem dX0_markSites_28 : decode cX0_markSites 28 = .ok (.if_icmp .ge 56, 3) := by decide +kernel
theorem dX0_markSites_31 : decode cX0_markSites 31 = .ok (.aload_n 0, 1) := by decide +kernel
theorem dX0_markSites_32 : decode cX0_markSites 32 = .ok (.getfield 11, 3) := by decide +kernel
theorem dX0_markSites_35 : decode cX0_markSites 35 = .ok (.iload_n 1, 1) := by decide +kernel
theorem dX0_markSites_36 : decode cX0_markSites 36 = .ok (.aaload, 1) := by decide +kernel
theorem dX0_markSites_37 : decode cX0_markSites 37 = .ok (.astore_n 2, 1) := by decide +kernel
theorem dX0_markSites_38 : decode cX0_markSites 38 = .ok (.iconst 0, 1) := by decide +kernel
theorem dX0_markSites_39 : decode cX0_markSites 39 = .ok (.istore_n 3, 1) := by decide +kernel
theorem dX0_markSites_40 : decode cX0_markSites 40 = .ok (.iload_n 3, 1) := by decide +kernel
theorem dX0_markSites_41 : decode cX0_markSites 41 = .ok (.aload_n 2, 1) := by decide +kernel
theorem dX0_markSites_42 : decode cX0_markSites 42 = .ok (.invokevirtual 38, 3) := by decide +kernel
theorem dX0_markSites_45 : decode cX0_markSites 45 = .ok (.if_icmp .ge 20, 3) := by decide +kernel
theorem dX0_markSites_48 : decode cX0_markSites 48 = .ok (.aload_n 0, 1) := by decide +kernel
theorem dX0_markSites_49 : decode cX0_markSites 49 = .ok (.aload_n 2, 1) := by decide +kernel
theorem dX0_markSites_50 : decode cX0_markSites 50 = .ok (.iload_n 3, 1) := by decide +kernel
theorem dX0_markSites_51 : decode cX0_markSites 51 = .ok (.invokevirtual 42, 3) := by decide +kernel
theorem dX0_markSites_54 : decode cX0_markSites 54 = .ok (.iload_n 1, 1) := by decide +kernel
theorem dX0_markSites_55 : decode cX0_markSites 55 = .ok (.iload_n 3, 1) := by decide +kernel
theorem dX0_markSites_56 : decode cX0_markSites 56 = .ok (.invokevirtual 46, 3) := by decide +kernel
theorem dX0_markSites_59 : decode cX0_markSites 59 = .ok (.iinc 3 1, 3) := by decide +kernel
theorem dX0_markSites_62 : decode cX0_markSites 62 = .ok (.goto (-22), 3) := by decide +kernel
theorem dX0_markSites_65 : decode cX0_markSites 65 = .ok (.aload_n 0, 1) := by decide +kernel
theorem dX0_markSites_66 : decode cX0_markSites 66 = .ok (.dup, 1) := by decide +kernel
theorem dX0_markSites_67 : decode cX0_markSites 67 = .ok (.getfield 31, 3) := by decide +kernel
theorem dX0_markSites_70 : decode cX0_markSites 70 = .ok (.aload_n 2, 1) := by decide +kernel
theorem dX0_markSites_71 : decode cX0_markSites 71 = .ok (.invokevirtual 38, 3) := by decide +kernel
theorem dX0_markSites_74 : decode cX0_markSites 74 = .ok (.iadd, 1) := by decide +kernel
theorem dX0_markSites_75 : decode cX0_markSites 75 = .ok (.putfield 31, 3) := by decide +kernel
theorem dX0_markSites_78 : decode cX0_markSites 78 = .ok (.iinc 1 1, 3) := by decide +kernel
theorem dX0_markSites_81 : decode cX0_markSites 81 = .ok (.goto (-58), 3) := by decide +kernel
theorem dX0_markSites_84 : decode cX0_markSites 84 = .ok (.return_, 1) := by decide +kernel
theorem dX0_mark_0 : decode cX0_mark 0 = .ok (.iload_n 1, 1) := by decide +kernel
theorem dX0_mark_1 : decode cX0_mark 1 = .ok (.invokestatic 50, 3) := by decide +kernel
theorem dX0_mark_4 : decode cX0_mark 4 = .ok (.ifCond .eq 17, 3) := by decide +kernel
theorem dX0_mark_7 : decode cX0_mark 7 = .ok (.aload_n 0, 1) := by decide +kernel
theorem dX0_mark_8 : decode cX0_mark 8 = .ok (.getfield 17, 3) := by decide +kernel
theorem dX0_mark_11 : decode cX0_mark 11 = .ok (.iload_n 1, 1) := by decide +kernel
theorem dX0_mark_12 : decode cX0_mark 12 = .ok (.iload_n 2, 1) := by decide +kernel
theorem dX0_mark_13 : decode cX0_mark 13 = .ok (.iastore, 1) := by decide +kernel
theorem dX0_mark_14 : decode cX0_mark 14 = .ok (.aload_n 0, 1) := by decide +kernel
theorem dX0_mark_15 : decode cX0_mark 15 = .ok (.getfield 21, 3) := by decide +kernel
theorem dX0_mark_18 : decode cX0_mark 18 = .ok (.iload_n 1, 1) := by decide +kernel
theorem dX0_mark_19 : decode cX0_mark 19 = .ok (.iload_n 3, 1) := by decide +kernel
theorem dX0_mark_20 : decode cX0_mark 20 = .ok (.iastore, 1) := by decide +kernel
theorem dX0_mark_21 : decode cX0_mark 21 = .ok (.return_, 1) := by decide +kernel
theorem dX0_pathCount_0 : decode cX0_pathCount 0 = .ok (.aload_n 0, 1) := by decide +kernel
theorem dX0_pathCount_1 : decode cX0_pathCount 1 = .ok (.getfield 35, 3) := by decide +kernel
theorem dX0_pathCount_4 : decode cX0_pathCount 4 = .ok (.ireturn, 1) := by decide +kernel
theorem dX0_isFull_0 : decode cX0_isFull 0 = .ok (.aload_n 0, 1) := by decide +kernel
theorem dX0_isFull_1 : decode cX0_isFull 1 = .ok (.getfield 35, 3) := by decide +kernel
theorem dX0_isFull_4 : decode cX0_isFull 4 = .ok (.iconst 5, 1) := by decide +kernel
theorem dX0_isFull_5 : decode cX0_isFull 5 = .ok (.if_icmp .lt 7, 3) := by decide +kernel
theorem dX0_isFull_8 : decode cX0_isFull 8 = .ok (.iconst 1, 1) := by decide +kernel
theorem dX0_isFull_9 : decode cX0_isFull 9 = .ok (.goto 4, 3) := by decide +kernel
theorem dX0_isFull_12 : decode cX0_isFull 12 = .ok (.iconst 0, 1) := by decide +kernel
theorem dX0_isFull_13 : decode cX0_isFull 13 = .ok (.ireturn, 1) := by decide +kernel
theorem dX0_trail_0 : decode cX0_trail 0 = .ok (.aload_n 0, 1) := by decide +kernel
theorem dX0_trail_1 : decode cX0_trail 1 = .ok (.getfield 11, 3) := by decide +kernel
theorem dX0_trail_4 : decode cX0_trail 4 = .ok (.iload_n 1, 1) := by decide +kernel
theorem dX0_trail_5 : decode cX0_trail 5 = .ok (.aaload, 1) := by decide +kernel
theorem dX0_trail_6 : decode cX0_trail 6 = .ok (.areturn, 1) := by decide +kernel
theorem dX0_pathAt_0 : decode cX0_pathAt 0 = .ok (.iload_n 1, 1) := by decide +kernel
theorem dX0_pathAt_1 : decode cX0_pathAt 1 = .ok (.invokestatic 50, 3) := by decide +kernel
theorem dX0_pathAt_4 : decode cX0_pathAt 4 = .ok (.ifCond .eq 12, 3) := by decide +kernel
theorem dX0_pathAt_7 : decode cX0_pathAt 7 = .ok (.aload_n 0, 1) := by decide +kernel
theorem dX0_pathAt_8 : decode cX0_pathAt 8 = .ok (.getfield 17, 3) := by decide +kernel
theorem dX0_pathAt_11 : decode cX0_pathAt 11 = .ok (.iload_n 1, 1) := by decide +kernel
theorem dX0_pathAt_12 : decode cX0_pathAt 12 = .ok (.iaload, 1) := by decide +kernel
theorem dX0_pathAt_13 : decode cX0_pathAt 13 = .ok (.goto 4, 3) := by decide +kernel
theorem dX0_pathAt_16 : decode cX0_pathAt 16 = .ok (.iconst (-1), 1) := by decide +kernel
theorem dX0_pathAt_17 : decode cX0_pathAt 17 = .ok (.ireturn, 1) := by decide +kernel
theorem dX0_placeAt_0 : decode cX0_placeAt 0 = .ok (.iload_n 1, 1) := by decide +kernel
theorem dX0_placeAt_1 : decode cX0_placeAt 1 = .ok (.invokestatic 50, 3) := by decide +kernel
theorem dX0_placeAt_4 : decode cX0_placeAt 4 = .ok (.ifCond .eq 12, 3) := by decide +kernel
theorem dX0_placeAt_7 : decode cX0_placeAt 7 = .ok (.aload_n 0, 1) := by decide +kernel
theorem dX0_placeAt_8 : decode cX0_placeAt 8 = .ok (.getfield 21, 3) := by decide +kernel
theorem dX0_placeAt_11 : decode cX0_placeAt 11 = .ok (.iload_n 1, 1) := by decide +kernel
theorem dX0_placeAt_12 : decode cX0_placeAt 12 = .ok (.iaload, 1) := by decide +kernel
theorem dX0_placeAt_13 : decode cX0_placeAt 13 = .ok (.goto 4, 3) := by decide +kernel
theorem dX0_placeAt_16 : decode cX0_placeAt 16 = .ok (.iconst (-1), 1) := by decide +kernel
theorem dX0_placeAt_17 : decode cX0_placeAt 17 = .ok (.ireturn, 1) := by decide +kernel
theorem dX0_isFree_0 : decode cX0_isFree 0 = .ok (.iload_n 1, 1) := by decide +kernel
theorem dX0_isFree_1 : decode cX0_isFree 1 = .ok (.invokestatic 50, 3) := by decide +kernel
theorem dX0_isFree_4 : decode cX0_isFree 4 = .ok (.ifCond .eq 17, 3) := by decide +kernel
theorem dX0_isFree_7 : decode cX0_isFree 7 = .ok (.aload_n 0, 1) := by decide +kernel
theorem dX0_isFree_8 : decode cX0_isFree 8 = .ok (.getfield 17, 3) := by decide +kernel
theorem dX0_isFree_11 : decode cX0_isFree 11 = .ok (.iload_n 1, 1) := by decide +kernel
theorem dX0_isFree_12 : decode cX0_isFree 12 = .ok (.iaload, 1) := by decide +kernel
theorem dX0_isFree_13 : decode cX0_isFree 13 = .ok (.iconst (-1), 1) := by decide +kernel
theorem dX0_isFree_14 : decode cX0_isFree 14 = .ok (.if_icmp .ne 7, 3) := by decide +kernel
theorem dX0_isFree_17 : decode cX0_isFree 17 = .ok (.iconst 1, 1) := by decide +kernel
theorem dX0_isFree_18 : decode cX0_isFree 18 = .ok (.goto 4, 3) := by decide +kernel
theorem dX0_isFree_21 : decode cX0_isFree 21 = .ok (.iconst 0, 1) := by decide +kernel
theorem dX0_isFree_22 : decode cX0_isFree 22 = .ok (.ireturn, 1) := by decide +kernel
theorem dX0_takenSites_0 : decode cX0_takenSites 0 = .ok (.aload_n 0, 1) := by decide +kernel
theorem dX0_takenSites_1 : decode cX0_takenSites 1 = .ok (.getfield 31, 3) := by decide +kernel
theorem dX0_takenSites_4 : decode cX0_takenSites 4 = .ok (.ireturn, 1) := by decide +kernel
theorem dX0_stepsMade_0 : decode cX0_stepsMade 0 = .ok (.aload_n 0, 1) := by decide +kernel
theorem dX0_stepsMade_1 : decode cX0_stepsMade 1 = .ok (.getfield 56, 3) := by decide +kernel
theorem dX0_stepsMade_4 : decode cX0_stepsMade 4 = .ok (.ireturn, 1) := by decide +kernel
theorem dX0_refusals_0 : decode cX0_refusals 0 = .ok (.aload_n 0, 1) := by decide +kernel
theorem dX0_refusals_1 : decode cX0_refusals 1 = .ok (.getfield 59, 3) := by decide +kernel
theorem dX0_refusals_4 : decode cX0_refusals 4 = .ok (.ireturn, 1) := by decide +kernel
theorem dX0_turnsMade_0 : decode cX0_turnsMade 0 = .ok (.aload_n 0, 1) := by decide +kernel
theorem dX0_turnsMade_1 : decode cX0_turnsMade 1 = .ok (.getfield 62, 3) := by decide +kernel
theorem dX0_turnsMade_4 : decode cX0_turnsMade 4 = .ok (.ireturn, 1) := by decide +kernel
theorem dX0_add_0 : decode cX0_add 0 = .ok (.aload_n 0, 1) := by decide +kernel
theorem dX0_add_1 : decode cX0_add 1 = .ok (.getfield 35, 3) := by decide +kernel
theorem dX0_add_4 : decode cX0_add 4 = .ok (.istore_n 2, 1) := by decide +kernel
theorem dX0_add_5 : decode cX0_add 5 = .ok (.aload_n 0, 1) := by decide +kernel
theorem dX0_add_6 : decode cX0_add 6 = .ok (.getfield 11, 3) := by decide +kernel
theorem dX0_add_9 : decode cX0_add 9 = .ok (.iload_n 2, 1) := by decide +kernel
theorem dX0_add_10 : decode cX0_add 10 = .ok (.aaload, 1) := by decide +kernel
theorem dX0_add_11 : decode cX0_add 11 = .ok (.aload_n 1, 1) := by decide +kernel
theorem dX0_add_12 : decode cX0_add 12 = .ok (.iconst 0, 1) := by decide +kernel
theorem dX0_add_13 : decode cX0_add 13 = .ok (.invokevirtual 65, 3) := by decide +kernel
theorem dX0_add_16 : decode cX0_add 16 = .ok (.aload_n 0, 1) := by decide +kernel
theorem dX0_add_17 : decode cX0_add 17 = .ok (.dup, 1) := by decide +kernel
theorem dX0_add_18 : decode cX0_add 18 = .ok (.getfield 35, 3) := by decide +kernel
theorem dX0_add_21 : decode cX0_add 21 = .ok (.iconst 1, 1) := by decide +kernel
theorem dX0_add_22 : decode cX0_add 22 = .ok (.iadd, 1) := by decide +kernel
theorem dX0_add_23 : decode cX0_add 23 = .ok (.putfield 35, 3) := by decide +kernel
theorem dX0_add_26 : decode cX0_add 26 = .ok (.aload_n 0, 1) := by decide +kernel
theorem dX0_add_27 : decode cX0_add 27 = .ok (.invokevirtual 69, 3) := by decide +kernel
theorem dX0_add_30 : decode cX0_add 30 = .ok (.iload_n 2, 1) := by decide +kernel
theorem dX0_add_31 : decode cX0_add 31 = .ok (.ireturn, 1) := by decide +kernel
theorem dX0_lengthen_0 : decode cX0_lengthen 0 = .ok (.aload_n 0, 1) := by decide +kernel
theorem dX0_lengthen_1 : decode cX0_lengthen 1 = .ok (.getfield 11, 3) := by decide +kernel
theorem dX0_lengthen_4 : decode cX0_lengthen 4 = .ok (.iload_n 1, 1) := by decide +kernel
theorem dX0_lengthen_5 : decode cX0_lengthen 5 = .ok (.aaload, 1) := by decide +kernel
theorem dX0_lengthen_6 : decode cX0_lengthen 6 = .ok (.astore_n 3, 1) := by decide +kernel
theorem dX0_lengthen_7 : decode cX0_lengthen 7 = .ok (.aload_n 3, 1) := by decide +kernel
theorem dX0_lengthen_8 : decode cX0_lengthen 8 = .ok (.invokevirtual 72, 3) := by decide +kernel
theorem dX0_lengthen_11 : decode cX0_lengthen 11 = .ok (.iload_n 2, 1) := by decide +kernel
theorem dX0_lengthen_12 : decode cX0_lengthen 12 = .ok (.invokestatic 75, 3) := by decide +kernel
theorem dX0_lengthen_15 : decode cX0_lengthen 15 = .ok (.istore 4, 2) := by decide +kernel
theorem dX0_lengthen_17 : decode cX0_lengthen 17 = .ok (.aload_n 0, 1) := by decide +kernel
theorem dX0_lengthen_18 : decode cX0_lengthen 18 = .ok (.iload 4, 2) := by decide +kernel
theorem dX0_lengthen_20 : decode cX0_lengthen 20 = .ok (.iload_n 1, 1) := by decide +kernel
theorem dX0_lengthen_21 : decode cX0_lengthen 21 = .ok (.invokevirtual 79, 3) := by decide +kernel
theorem dX0_lengthen_24 : decode cX0_lengthen 24 = .ok (.istore 5, 2) := by decide +kernel
theorem dX0_lengthen_26 : decode cX0_lengthen 26 = .ok (.iload 5, 2) := by decide +kernel
theorem dX0_lengthen_28 : decode cX0_lengthen 28 = .ok (.ifCond .ne 13, 3) := by decide +kernel
theorem dX0_lengthen_31 : decode cX0_lengthen 31 = .ok (.aload_n 3, 1) := by decide +kernel
theorem dX0_lengthen_32 : decode cX0_lengthen 32 = .ok (.invokevirtual 82, 3) := by decide +kernel
theorem dX0_lengthen_35 : decode cX0_lengthen 35 = .ok (.ifCond .eq 6, 3) := by decide +kernel
theorem dX0_lengthen_38 : decode cX0_lengthen 38 = .ok (.iconst 4, 1) := by decide +kernel
theorem dX0_lengthen_39 : decode cX0_lengthen 39 = .ok (.istore 5, 2) := by decide +kernel
theorem dX0_lengthen_41 : decode cX0_lengthen 41 = .ok (.iload 5, 2) := by decide +kernel
theorem dX0_lengthen_43 : decode cX0_lengthen 43 = .ok (.ifCond .ne 13, 3) := by decide +kernel
theorem dX0_lengthen_46 : decode cX0_lengthen 46 = .ok (.aload_n 3, 1) := by decide +kernel
theorem dX0_lengthen_47 : decode cX0_lengthen 47 = .ok (.iload 4, 2) := by decide +kernel
theorem dX0_lengthen_49 : decode cX0_lengthen 49 = .ok (.invokevirtual 86, 3) := by decide +kernel
theorem dX0_lengthen_52 : decode cX0_lengthen 52 = .ok (.aload_n 0, 1) := by decide +kernel
theorem dX0_lengthen_53 : decode cX0_lengthen 53 = .ok (.invokevirtual 69, 3) := by decide +kernel
theorem dX0_lengthen_56 : decode cX0_lengthen 56 = .ok (.aload_n 0, 1) := by decide +kernel
theorem dX0_lengthen_57 : decode cX0_lengthen 57 = .ok (.iload 5, 2) := by decide +kernel
theorem dX0_lengthen_59 : decode cX0_lengthen 59 = .ok (.invokevirtual 90, 3) := by decide +kernel
theorem dX0_lengthen_62 : decode cX0_lengthen 62 = .ok (.iload 5, 2) := by decide +kernel
theorem dX0_lengthen_64 : decode cX0_lengthen 64 = .ok (.ireturn, 1) := by decide +kernel
theorem dX0_creep_0 : decode cX0_creep 0 = .ok (.aload_n 0, 1) := by decide +kernel
theorem dX0_creep_1 : decode cX0_creep 1 = .ok (.getfield 11, 3) := by decide +kernel
theorem dX0_creep_4 : decode cX0_creep 4 = .ok (.iload_n 1, 1) := by decide +kernel
theorem dX0_creep_5 : decode cX0_creep 5 = .ok (.aaload, 1) := by decide +kernel
theorem dX0_creep_6 : decode cX0_creep 6 = .ok (.astore_n 3, 1) := by decide +kernel
theorem dX0_creep_7 : decode cX0_creep 7 = .ok (.aload_n 3, 1) := by decide +kernel
theorem dX0_creep_8 : decode cX0_creep 8 = .ok (.invokevirtual 72, 3) := by decide +kernel
theorem dX0_creep_11 : decode cX0_creep 11 = .ok (.iload_n 2, 1) := by decide +kernel
theorem dX0_creep_12 : decode cX0_creep 12 = .ok (.invokestatic 75, 3) := by decide +kernel
theorem dX0_creep_15 : decode cX0_creep 15 = .ok (.istore 4, 2) := by decide +kernel
theorem dX0_creep_17 : decode cX0_creep 17 = .ok (.iload 4, 2) := by decide +kernel
theorem dX0_creep_19 : decode cX0_creep 19 = .ok (.aload_n 3, 1) := by decide +kernel
theorem dX0_creep_20 : decode cX0_creep 20 = .ok (.invokevirtual 93, 3) := by decide +kernel
theorem dX0_creep_23 : decode cX0_creep 23 = .ok (.if_icmp .ne 7, 3) := by decide +kernel
theorem dX0_creep_26 : decode cX0_creep 26 = .ok (.iconst 0, 1) := by decide +kernel
theorem dX0_creep_27 : decode cX0_creep 27 = .ok (.goto 10, 3) := by decide +kernel
theorem dX0_creep_30 : decode cX0_creep 30 = .ok (.aload_n 0, 1) := by decide +kernel
theorem dX0_creep_31 : decode cX0_creep 31 = .ok (.iload 4, 2) := by decide +kernel
theorem dX0_creep_33 : decode cX0_creep 33 = .ok (.iload_n 1, 1) := by decide +kernel
theorem dX0_creep_34 : decode cX0_creep 34 = .ok (.invokevirtual 79, 3) := by decide +kernel
theorem dX0_creep_37 : decode cX0_creep 37 = .ok (.istore 5, 2) := by decide +kernel
theorem dX0_creep_39 : decode cX0_creep 39 = .ok (.iload 5, 2) := by decide +kernel
theorem dX0_creep_41 : decode cX0_creep 41 = .ok (.ifCond .ne 13, 3) := by decide +kernel
theorem dX0_creep_44 : decode cX0_creep 44 = .ok (.aload_n 3, 1) := by decide +kernel
theorem dX0_creep_45 : decode cX0_creep 45 = .ok (.iload 4, 2) := by decide +kernel
theorem dX0_creep_47 : decode cX0_creep 47 = .ok (.invokevirtual 96, 3) := by decide +kernel
theorem dX0_creep_50 : decode cX0_creep 50 = .ok (.aload_n 0, 1) := by decide +kernel
theorem dX0_creep_51 : decode cX0_creep 51 = .ok (.invokevirtual 69, 3) := by decide +kernel
theorem dX0_creep_54 : decode cX0_creep 54 = .ok (.aload_n 0, 1) := by decide +kernel
theorem dX0_creep_55 : decode cX0_creep 55 = .ok (.iload 5, 2) := by decide +kernel
theorem dX0_creep_57 : decode cX0_creep 57 = .ok (.invokevirtual 90, 3) := by decide +kernel
theorem dX0_creep_60 : decode cX0_creep 60 = .ok (.iload 5, 2) := by decide +kernel
theorem dX0_creep_62 : decode cX0_creep 62 = .ok (.ireturn, 1) := by decide +kernel
theorem dX0_refusalAt_0 : decode cX0_refusalAt 0 = .ok (.iload_n 1, 1) := by decide +kernel
theorem dX0_refusalAt_1 : decode cX0_refusalAt 1 = .ok (.iconst (-1), 1) := by decide +kernel
theorem dX0_refusalAt_2 : decode cX0_refusalAt 2 = .ok (.if_icmp .ne 5, 3) := by decide +kernel
theorem dX0_refusalAt_5 : decode cX0_refusalAt 5 = .ok (.iconst 1, 1) := by decide +kernel
theorem dX0_refusalAt_6 : decode cX0_refusalAt 6 = .ok (.ireturn, 1) := by decide +kernel
theorem dX0_refusalAt_7 : decode cX0_refusalAt 7 = .ok (.aload_n 0, 1) := by decide +kernel
theorem dX0_refusalAt_8 : decode cX0_refusalAt 8 = .ok (.iload_n 1, 1) := by decide +kernel
theorem dX0_refusalAt_9 : decode cX0_refusalAt 9 = .ok (.invokevirtual 99, 3) := by decide +kernel
theorem dX0_refusalAt_12 : decode cX0_refusalAt 12 = .ok (.iload_n 2, 1) := by decide +kernel
theorem dX0_refusalAt_13 : decode cX0_refusalAt 13 = .ok (.if_icmp .ne 5, 3) := by decide +kernel
theorem dX0_refusalAt_16 : decode cX0_refusalAt 16 = .ok (.iconst 2, 1) := by decide +kernel
theorem dX0_refusalAt_17 : decode cX0_refusalAt 17 = .ok (.ireturn, 1) := by decide +kernel
theorem dX0_refusalAt_18 : decode cX0_refusalAt 18 = .ok (.aload_n 0, 1) := by decide +kernel
theorem dX0_refusalAt_19 : decode cX0_refusalAt 19 = .ok (.iload_n 1, 1) := by decide +kernel
theorem dX0_refusalAt_20 : decode cX0_refusalAt 20 = .ok (.invokevirtual 101, 3) := by decide +kernel
theorem dX0_refusalAt_23 : decode cX0_refusalAt 23 = .ok (.ifCond .eq 7, 3) := by decide +kernel
theorem dX0_refusalAt_26 : decode cX0_refusalAt 26 = .ok (.iconst 0, 1) := by decide +kernel
theorem dX0_refusalAt_27 : decode cX0_refusalAt 27 = .ok (.goto 4, 3) := by decide +kernel
theorem dX0_refusalAt_30 : decode cX0_refusalAt 30 = .ok (.iconst 3, 1) := by decide +kernel
theorem dX0_refusalAt_31 : decode cX0_refusalAt 31 = .ok (.ireturn, 1) := by decide +kernel
theorem dX0_noteStep_0 : decode cX0_noteStep 0 = .ok (.iload_n 1, 1) := by decide +kernel
theorem dX0_noteStep_1 : decode cX0_noteStep 1 = .ok (.ifCond .ne 16, 3) := by decide +kernel
theorem dX0_noteStep_4 : decode cX0_noteStep 4 = .ok (.aload_n 0, 1) := by decide +kernel
theorem dX0_noteStep_5 : decode cX0_noteStep 5 = .ok (.dup, 1) := by decide +kernel
theorem dX0_noteStep_6 : decode cX0_noteStep 6 = .ok (.getfield 56, 3) := by decide +kernel
theorem dX0_noteStep_9 : decode cX0_noteStep 9 = .ok (.iconst 1, 1) := by decide +kernel
theorem dX0_noteStep_10 : decode cX0_noteStep 10 = .ok (.iadd, 1) := by decide +kernel
theorem dX0_noteStep_11 : decode cX0_noteStep 11 = .ok (.putfield 56, 3) := by decide +kernel
theorem dX0_noteStep_14 : decode cX0_noteStep 14 = .ok (.goto 13, 3) := by decide +kernel
theorem dX0_noteStep_17 : decode cX0_noteStep 17 = .ok (.aload_n 0, 1) := by decide +kernel
theorem dX0_noteStep_18 : decode cX0_noteStep 18 = .ok (.dup, 1) := by decide +kernel
theorem dX0_noteStep_19 : decode cX0_noteStep 19 = .ok (.getfield 59, 3) := by decide +kernel
theorem dX0_noteStep_22 : decode cX0_noteStep 22 = .ok (.iconst 1, 1) := by decide +kernel
theorem dX0_noteStep_23 : decode cX0_noteStep 23 = .ok (.iadd, 1) := by decide +kernel
theorem dX0_noteStep_24 : decode cX0_noteStep 24 = .ok (.putfield 59, 3) := by decide +kernel
theorem dX0_noteStep_27 : decode cX0_noteStep 27 = .ok (.return_, 1) := by decide +kernel
theorem dX0_noteTurn_0 : decode cX0_noteTurn 0 = .ok (.iload_n 1, 1) := by decide +kernel
theorem dX0_noteTurn_1 : decode cX0_noteTurn 1 = .ok (.ifCond .ne 16, 3) := by decide +kernel
theorem dX0_noteTurn_4 : decode cX0_noteTurn 4 = .ok (.aload_n 0, 1) := by decide +kernel
theorem dX0_noteTurn_5 : decode cX0_noteTurn 5 = .ok (.dup, 1) := by decide +kernel
theorem dX0_noteTurn_6 : decode cX0_noteTurn 6 = .ok (.getfield 62, 3) := by decide +kernel
theorem dX0_noteTurn_9 : decode cX0_noteTurn 9 = .ok (.iconst 1, 1) := by decide +kernel
theorem dX0_noteTurn_10 : decode cX0_noteTurn 10 = .ok (.iadd, 1) := by decide +kernel
theorem dX0_noteTurn_11 : decode cX0_noteTurn 11 = .ok (.putfield 62, 3) := by decide +kernel
theorem dX0_noteTurn_14 : decode cX0_noteTurn 14 = .ok (.goto 13, 3) := by decide +kernel
theorem dX0_noteTurn_17 : decode cX0_noteTurn 17 = .ok (.aload_n 0, 1) := by decide +kernel
theorem dX0_noteTurn_18 : decode cX0_noteTurn 18 = .ok (.dup, 1) := by decide +kernel
theorem dX0_noteTurn_19 : decode cX0_noteTurn 19 = .ok (.getfield 59, 3) := by decide +kernel
theorem dX0_noteTurn_22 : decode cX0_noteTurn 22 = .ok (.iconst 1, 1) := by decide +kernel
theorem dX0_noteTurn_23 : decode cX0_noteTurn 23 = .ok (.iadd, 1) := by decide +kernel
theorem dX0_noteTurn_24 : decode cX0_noteTurn 24 = .ok (.putfield 59, 3) := by decide +kernel
theorem dX0_noteTurn_27 : decode cX0_noteTurn 27 = .ok (.return_, 1) := by decide +kernel
theorem dX0_shorten_0 : decode cX0_shorten 0 = .ok (.aload_n 0, 1) := by decide +kernel
theorem dX0_shorten_1 : decode cX0_shorten 1 = .ok (.getfield 11, 3) := by decide +kernel
theorem dX0_shorten_4 : decode cX0_shorten 4 = .ok (.iload_n 1, 1) := by decide +kernel
theorem dX0_shorten_5 : decode cX0_shorten 5 = .ok (.aaload, 1) := by decide +kernel
theorem dX0_shorten_6 : decode cX0_shorten 6 = .ok (.astore_n 2, 1) := by decide +kernel
theorem dX0_shorten_7 : decode cX0_shorten 7 = .ok (.aload_n 2, 1) := by decide +kernel
theorem dX0_shorten_8 : decode cX0_shorten 8 = .ok (.aload_n 2, 1) := by decide +kernel
theorem dX0_shorten_9 : decode cX0_shorten 9 = .ok (.invokevirtual 38, 3) := by decide +kernel
theorem dX0_shorten_12 : decode cX0_shorten 12 = .ok (.iconst 2, 1) := by decide +kernel
theorem dX0_shorten_13 : decode cX0_shorten 13 = .ok (.isub, 1) := by decide +kernel
theorem dX0_shorten_14 : decode cX0_shorten 14 = .ok (.invokevirtual 104, 3) := by decide +kernel
theorem dX0_shorten_17 : decode cX0_shorten 17 = .ok (.aload_n 0, 1) := by decide +kernel
theorem dX0_shorten_18 : decode cX0_shorten 18 = .ok (.invokevirtual 69, 3) := by decide +kernel
theorem dX0_shorten_21 : decode cX0_shorten 21 = .ok (.aload_n 2, 1) := by decide +kernel
theorem dX0_shorten_22 : decode cX0_shorten 22 = .ok (.invokevirtual 38, 3) := by decide +kernel
theorem dX0_shorten_25 : decode cX0_shorten 25 = .ok (.ireturn, 1) := by decide +kernel
theorem dX0_flip_0 : decode cX0_flip 0 = .ok (.aload_n 0, 1) := by decide +kernel
theorem dX0_flip_1 : decode cX0_flip 1 = .ok (.getfield 11, 3) := by decide +kernel
theorem dX0_flip_4 : decode cX0_flip 4 = .ok (.iload_n 1, 1) := by decide +kernel
theorem dX0_flip_5 : decode cX0_flip 5 = .ok (.aaload, 1) := by decide +kernel
theorem dX0_flip_6 : decode cX0_flip 6 = .ok (.invokevirtual 107, 3) := by decide +kernel
theorem dX0_flip_9 : decode cX0_flip 9 = .ok (.aload_n 0, 1) := by decide +kernel
theorem dX0_flip_10 : decode cX0_flip 10 = .ok (.invokevirtual 69, 3) := by decide +kernel
theorem dX0_flip_13 : decode cX0_flip 13 = .ok (.aload_n 0, 1) := by decide +kernel
theorem dX0_flip_14 : decode cX0_flip 14 = .ok (.getfield 11, 3) := by decide +kernel
theorem dX0_flip_17 : decode cX0_flip 17 = .ok (.iload_n 1, 1) := by decide +kernel
theorem dX0_flip_18 : decode cX0_flip 18 = .ok (.aaload, 1) := by decide +kernel
theorem dX0_flip_19 : decode cX0_flip 19 = .ok (.invokevirtual 72, 3) := by decide +kernel
theorem dX0_flip_22 : decode cX0_flip 22 = .ok (.ireturn, 1) := by decide +kernel
theorem dX0_weld_0 : decode cX0_weld 0 = .ok (.aload_n 0, 1) := by decide +kernel
theorem dX0_weld_1 : decode cX0_weld 1 = .ok (.getfield 11, 3) := by decide +kernel
theorem dX0_weld_4 : decode cX0_weld 4 = .ok (.iload_n 1, 1) := by decide +kernel
theorem dX0_weld_5 : decode cX0_weld 5 = .ok (.aaload, 1) := by decide +kernel
theorem dX0_weld_6 : decode cX0_weld 6 = .ok (.astore_n 3, 1) := by decide +kernel
theorem dX0_weld_7 : decode cX0_weld 7 = .ok (.aload_n 0, 1) := by decide +kernel
theorem dX0_weld_8 : decode cX0_weld 8 = .ok (.getfield 11, 3) := by decide +kernel
theorem dX0_weld_11 : decode cX0_weld 11 = .ok (.iload_n 2, 1) := by decide +kernel
theorem dX0_weld_12 : decode cX0_weld 12 = .ok (.aaload, 1) := by decide +kernel
theorem dX0_weld_13 : decode cX0_weld 13 = .ok (.astore 4, 2) := by decide +kernel
theorem dX0_weld_15 : decode cX0_weld 15 = .ok (.aload 4, 2) := by decide +kernel
theorem dX0_weld_17 : decode cX0_weld 17 = .ok (.invokevirtual 38, 3) := by decide +kernel
theorem dX0_weld_20 : decode cX0_weld 20 = .ok (.iconst 1, 1) := by decide +kernel
theorem dX0_weld_21 : decode cX0_weld 21 = .ok (.isub, 1) := by decide +kernel
theorem dX0_weld_22 : decode cX0_weld 22 = .ok (.istore 5, 2) := by decide +kernel
theorem dX0_weld_24 : decode cX0_weld 24 = .ok (.iload 5, 2) := by decide +kernel
theorem dX0_weld_26 : decode cX0_weld 26 = .ok (.ifCond .lt 20, 3) := by decide +kernel
theorem dX0_weld_29 : decode cX0_weld 29 = .ok (.aload_n 3, 1) := by decide +kernel
theorem dX0_weld_30 : decode cX0_weld 30 = .ok (.aload 4, 2) := by decide +kernel
theorem dX0_weld_32 : decode cX0_weld 32 = .ok (.iload 5, 2) := by decide +kernel
theorem dX0_weld_34 : decode cX0_weld 34 = .ok (.invokevirtual 42, 3) := by decide +kernel
theorem dX0_weld_37 : decode cX0_weld 37 = .ok (.invokevirtual 86, 3) := by decide +kernel
theorem dX0_weld_40 : decode cX0_weld 40 = .ok (.iinc 5 (-1), 3) := by decide +kernel
theorem dX0_weld_43 : decode cX0_weld 43 = .ok (.goto (-19), 3) := by decide +kernel
theorem dX0_weld_46 : decode cX0_weld 46 = .ok (.aload_n 0, 1) := by decide +kernel
theorem dX0_weld_47 : decode cX0_weld 47 = .ok (.iload_n 2, 1) := by decide +kernel
theorem dX0_weld_48 : decode cX0_weld 48 = .ok (.invokevirtual 110, 3) := by decide +kernel
theorem dX0_weld_51 : decode cX0_weld 51 = .ok (.aload_n 3, 1) := by decide +kernel
theorem dX0_weld_52 : decode cX0_weld 52 = .ok (.invokevirtual 38, 3) := by decide +kernel
theorem dX0_weld_55 : decode cX0_weld 55 = .ok (.ireturn, 1) := by decide +kernel
theorem dX0_cut_0 : decode cX0_cut 0 = .ok (.aload_n 0, 1) := by decide +kernel
theorem dX0_cut_1 : decode cX0_cut 1 = .ok (.getfield 35, 3) := by decide +kernel
theorem dX0_cut_4 : decode cX0_cut 4 = .ok (.istore_n 3, 1) := by decide +kernel
theorem dX0_cut_5 : decode cX0_cut 5 = .ok (.aload_n 0, 1) := by decide +kernel
theorem dX0_cut_6 : decode cX0_cut 6 = .ok (.getfield 11, 3) := by decide +kernel
theorem dX0_cut_9 : decode cX0_cut 9 = .ok (.iload_n 3, 1) := by decide +kernel
theorem dX0_cut_10 : decode cX0_cut 10 = .ok (.aaload, 1) := by decide +kernel
theorem dX0_cut_11 : decode cX0_cut 11 = .ok (.aload_n 0, 1) := by decide +kernel
theorem dX0_cut_12 : decode cX0_cut 12 = .ok (.getfield 11, 3) := by decide +kernel
theorem dX0_cut_15 : decode cX0_cut 15 = .ok (.iload_n 1, 1) := by decide +kernel
theorem dX0_cut_16 : decode cX0_cut 16 = .ok (.aaload, 1) := by decide +kernel
theorem dX0_cut_17 : decode cX0_cut 17 = .ok (.iload_n 2, 1) := by decide +kernel
theorem dX0_cut_18 : decode cX0_cut 18 = .ok (.iconst 1, 1) := by decide +kernel
theorem dX0_cut_19 : decode cX0_cut 19 = .ok (.iadd, 1) := by decide +kernel
theorem dX0_cut_20 : decode cX0_cut 20 = .ok (.invokevirtual 65, 3) := by decide +kernel
theorem dX0_cut_23 : decode cX0_cut 23 = .ok (.aload_n 0, 1) := by decide +kernel
theorem dX0_cut_24 : decode cX0_cut 24 = .ok (.getfield 11, 3) := by decide +kernel
theorem dX0_cut_27 : decode cX0_cut 27 = .ok (.iload_n 1, 1) := by decide +kernel
theorem dX0_cut_28 : decode cX0_cut 28 = .ok (.aaload, 1) := by decide +kernel
theorem dX0_cut_29 : decode cX0_cut 29 = .ok (.iload_n 2, 1) := by decide +kernel
theorem dX0_cut_30 : decode cX0_cut 30 = .ok (.invokevirtual 104, 3) := by decide +kernel
theorem dX0_cut_33 : decode cX0_cut 33 = .ok (.aload_n 0, 1) := by decide +kernel
theorem dX0_cut_34 : decode cX0_cut 34 = .ok (.dup, 1) := by decide +kernel
theorem dX0_cut_35 : decode cX0_cut 35 = .ok (.getfield 35, 3) := by decide +kernel
theorem dX0_cut_38 : decode cX0_cut 38 = .ok (.iconst 1, 1) := by decide +kernel
theorem dX0_cut_39 : decode cX0_cut 39 = .ok (.iadd, 1) := by decide +kernel
theorem dX0_cut_40 : decode cX0_cut 40 = .ok (.putfield 35, 3) := by decide +kernel
theorem dX0_cut_43 : decode cX0_cut 43 = .ok (.aload_n 0, 1) := by decide +kernel
theorem dX0_cut_44 : decode cX0_cut 44 = .ok (.invokevirtual 69, 3) := by decide +kernel
theorem dX0_cut_47 : decode cX0_cut 47 = .ok (.iload_n 3, 1) := by decide +kernel
theorem dX0_cut_48 : decode cX0_cut 48 = .ok (.ireturn, 1) := by decide +kernel
theorem dX0_drop_0 : decode cX0_drop 0 = .ok (.aload_n 0, 1) := by decide +kernel
theorem dX0_drop_1 : decode cX0_drop 1 = .ok (.getfield 11, 3) := by decide +kernel
theorem dX0_drop_4 : decode cX0_drop 4 = .ok (.iload_n 1, 1) := by decide +kernel
theorem dX0_drop_5 : decode cX0_drop 5 = .ok (.aaload, 1) := by decide +kernel
theorem dX0_drop_6 : decode cX0_drop 6 = .ok (.astore_n 2, 1) := by decide +kernel
theorem dX0_drop_7 : decode cX0_drop 7 = .ok (.iload_n 1, 1) := by decide +kernel
theorem dX0_drop_8 : decode cX0_drop 8 = .ok (.iconst 1, 1) := by decide +kernel
theorem dX0_drop_9 : decode cX0_drop 9 = .ok (.iadd, 1) := by decide +kernel
theorem dX0_drop_10 : decode cX0_drop 10 = .ok (.istore_n 3, 1) := by decide +kernel
theorem dX0_drop_11 : decode cX0_drop 11 = .ok (.iload_n 3, 1) := by decide +kernel
theorem dX0_drop_12 : decode cX0_drop 12 = .ok (.aload_n 0, 1) := by decide +kernel
theorem dX0_drop_13 : decode cX0_drop 13 = .ok (.getfield 35, 3) := by decide +kernel
theorem dX0_drop_16 : decode cX0_drop 16 = .ok (.if_icmp .ge 23, 3) := by decide +kernel
theorem dX0_drop_19 : decode cX0_drop 19 = .ok (.aload_n 0, 1) := by decide +kernel
theorem dX0_drop_20 : decode cX0_drop 20 = .ok (.getfield 11, 3) := by decide +kernel
theorem dX0_drop_23 : decode cX0_drop 23 = .ok (.iload_n 3, 1) := by decide +kernel
theorem dX0_drop_24 : decode cX0_drop 24 = .ok (.iconst 1, 1) := by decide +kernel
theorem dX0_drop_25 : decode cX0_drop 25 = .ok (.isub, 1) := by decide +kernel
theorem dX0_drop_26 : decode cX0_drop 26 = .ok (.aload_n 0, 1) := by decide +kernel
theorem dX0_drop_27 : decode cX0_drop 27 = .ok (.getfield 11, 3) := by decide +kernel
theorem dX0_drop_30 : decode cX0_drop 30 = .ok (.iload_n 3, 1) := by decide +kernel
theorem dX0_drop_31 : decode cX0_drop 31 = .ok (.aaload, 1) := by decide +kernel
theorem dX0_drop_32 : decode cX0_drop 32 = .ok (.aastore, 1) := by decide +kernel
theorem dX0_drop_33 : decode cX0_drop 33 = .ok (.iinc 3 1, 3) := by decide +kernel
theorem dX0_drop_36 : decode cX0_drop 36 = .ok (.goto (-25), 3) := by decide +kernel
theorem dX0_drop_39 : decode cX0_drop 39 = .ok (.aload_n 0, 1) := by decide +kernel
theorem dX0_drop_40 : decode cX0_drop 40 = .ok (.dup, 1) := by decide +kernel
theorem dX0_drop_41 : decode cX0_drop 41 = .ok (.getfield 35, 3) := by decide +kernel
theorem dX0_drop_44 : decode cX0_drop 44 = .ok (.iconst 1, 1) := by decide +kernel
theorem dX0_drop_45 : decode cX0_drop 45 = .ok (.isub, 1) := by decide +kernel
theorem dX0_drop_46 : decode cX0_drop 46 = .ok (.putfield 35, 3) := by decide +kernel
theorem dX0_drop_49 : decode cX0_drop 49 = .ok (.aload_n 0, 1) := by decide +kernel
theorem dX0_drop_50 : decode cX0_drop 50 = .ok (.getfield 11, 3) := by decide +kernel
theorem dX0_drop_53 : decode cX0_drop 53 = .ok (.aload_n 0, 1) := by decide +kernel
theorem dX0_drop_54 : decode cX0_drop 54 = .ok (.getfield 35, 3) := by decide +kernel
theorem dX0_drop_57 : decode cX0_drop 57 = .ok (.aload_n 2, 1) := by decide +kernel
theorem dX0_drop_58 : decode cX0_drop 58 = .ok (.aastore, 1) := by decide +kernel
theorem dX0_drop_59 : decode cX0_drop 59 = .ok (.aload_n 0, 1) := by decide +kernel
theorem dX0_drop_60 : decode cX0_drop 60 = .ok (.invokevirtual 69, 3) := by decide +kernel
theorem dX0_drop_63 : decode cX0_drop 63 = .ok (.return_, 1) := by decide +kernel
theorem dX0_freeDirections_0 : decode cX0_freeDirections 0 = .ok (.iconst 0, 1) := by decide +kernel
theorem dX0_freeDirections_1 : decode cX0_freeDirections 1 = .ok (.istore_n 2, 1) := by decide +kernel
theorem dX0_freeDirections_2 : decode cX0_freeDirections 2 = .ok (.iconst 0, 1) := by decide +kernel
theorem dX0_freeDirections_3 : decode cX0_freeDirections 3 = .ok (.istore_n 3, 1) := by decide +kernel
theorem dX0_freeDirections_4 : decode cX0_freeDirections 4 = .ok (.iload_n 3, 1) := by decide +kernel
theorem dX0_freeDirections_5 : decode cX0_freeDirections 5 = .ok (.iconst 4, 1) := by decide +kernel
theorem dX0_freeDirections_6 : decode cX0_freeDirections 6 = .ok (.if_icmp .ge 27, 3) := by decide +kernel
theorem dX0_freeDirections_9 : decode cX0_freeDirections 9 = .ok (.aload_n 0, 1) := by decide +kernel
theorem dX0_freeDirections_10 : decode cX0_freeDirections 10 = .ok (.iload_n 1, 1) := by decide +kernel
theorem dX0_freeDirections_11 : decode cX0_freeDirections 11 = .ok (.iload_n 3, 1) := by decide +kernel
theorem dX0_freeDirections_12 : decode cX0_freeDirections 12 = .ok (.invokestatic 75, 3) := by decide +kernel
theorem dX0_freeDirections_15 : decode cX0_freeDirections 15 = .ok (.invokevirtual 101, 3) := by decide +kernel
theorem dX0_freeDirections_18 : decode cX0_freeDirections 18 = .ok (.ifCond .eq 9, 3) := by decide +kernel
theorem dX0_freeDirections_21 : decode cX0_freeDirections 21 = .ok (.iload_n 2, 1) := by decide +kernel
theorem dX0_freeDirections_22 : decode cX0_freeDirections 22 = .ok (.iconst 1, 1) := by decide +kernel
theorem dX0_freeDirections_23 : decode cX0_freeDirections 23 = .ok (.iload_n 3, 1) := by decide +kernel
theorem dX0_freeDirections_24 : decode cX0_freeDirections 24 = .ok (.ishl, 1) := by decide +kernel
theorem dX0_freeDirections_25 : decode cX0_freeDirections 25 = .ok (.ior, 1) := by decide +kernel
theorem dX0_freeDirections_26 : decode cX0_freeDirections 26 = .ok (.istore_n 2, 1) := by decide +kernel
theorem dX0_freeDirections_27 : decode cX0_freeDirections 27 = .ok (.iinc 3 1, 3) := by decide +kernel
theorem dX0_freeDirections_30 : decode cX0_freeDirections 30 = .ok (.goto (-26), 3) := by decide +kernel
theorem dX0_freeDirections_33 : decode cX0_freeDirections 33 = .ok (.iload_n 2, 1) := by decide +kernel
theorem dX0_freeDirections_34 : decode cX0_freeDirections 34 = .ok (.ireturn, 1) := by decide +kernel
theorem dX0_contacts_0 : decode cX0_contacts 0 = .ok (.iconst 0, 1) := by decide +kernel
theorem dX0_contacts_1 : decode cX0_contacts 1 = .ok (.istore_n 2, 1) := by decide +kernel
theorem dX0_contacts_2 : decode cX0_contacts 2 = .ok (.aload_n 0, 1) := by decide +kernel
theorem dX0_contacts_3 : decode cX0_contacts 3 = .ok (.getfield 11, 3) := by decide +kernel
theorem dX0_contacts_6 : decode cX0_contacts 6 = .ok (.iload_n 1, 1) := by decide +kernel
theorem dX0_contacts_7 : decode cX0_contacts 7 = .ok (.aaload, 1) := by decide +kernel
theorem dX0_contacts_8 : decode cX0_contacts 8 = .ok (.astore_n 3, 1) := by decide +kernel
theorem dX0_contacts_9 : decode cX0_contacts 9 = .ok (.iconst 0, 1) := by decide +kernel
theorem dX0_contacts_10 : decode cX0_contacts 10 = .ok (.istore 4, 2) := by decide +kernel
theorem dX0_contacts_12 : decode cX0_contacts 12 = .ok (.iload 4, 2) := by decide +kernel
theorem dX0_contacts_14 : decode cX0_contacts 14 = .ok (.aload_n 3, 1) := by decide +kernel
theorem dX0_contacts_15 : decode cX0_contacts 15 = .ok (.invokevirtual 38, 3) := by decide +kernel
theorem dX0_contacts_18 : decode cX0_contacts 18 = .ok (.if_icmp .ge 66, 3) := by decide +kernel
theorem dX0_contacts_21 : decode cX0_contacts 21 = .ok (.iconst 1, 1) := by decide +kernel
theorem dX0_contacts_22 : decode cX0_contacts 22 = .ok (.istore 5, 2) := by decide +kernel
theorem dX0_contacts_24 : decode cX0_contacts 24 = .ok (.iload 5, 2) := by decide +kernel
theorem dX0_contacts_26 : decode cX0_contacts 26 = .ok (.iconst 2, 1) := by decide +kernel
theorem dX0_contacts_27 : decode cX0_contacts 27 = .ok (.if_icmp .gt 51, 3) := by decide +kernel
theorem dX0_contacts_30 : decode cX0_contacts 30 = .ok (.aload_n 3, 1) := by decide +kernel
theorem dX0_contacts_31 : decode cX0_contacts 31 = .ok (.iload 4, 2) := by decide +kernel
theorem dX0_contacts_33 : decode cX0_contacts 33 = .ok (.invokevirtual 42, 3) := by decide +kernel
theorem dX0_contacts_36 : decode cX0_contacts 36 = .ok (.iload 5, 2) := by decide +kernel
theorem dX0_contacts_38 : decode cX0_contacts 38 = .ok (.invokestatic 75, 3) := by decide +kernel
theorem dX0_contacts_41 : decode cX0_contacts 41 = .ok (.istore 6, 2) := by decide +kernel
theorem dX0_contacts_43 : decode cX0_contacts 43 = .ok (.aload_n 0, 1) := by decide +kernel
theorem dX0_contacts_44 : decode cX0_contacts 44 = .ok (.iload 6, 2) := by decide +kernel
theorem dX0_contacts_46 : decode cX0_contacts 46 = .ok (.invokevirtual 99, 3) := by decide +kernel
theorem dX0_contacts_49 : decode cX0_contacts 49 = .ok (.iload_n 1, 1) := by decide +kernel
theorem dX0_contacts_50 : decode cX0_contacts 50 = .ok (.if_icmp .ne 22, 3) := by decide +kernel
theorem dX0_contacts_53 : decode cX0_contacts 53 = .ok (.aload_n 0, 1) := by decide +kernel
theorem dX0_contacts_54 : decode cX0_contacts 54 = .ok (.iload 6, 2) := by decide +kernel
theorem dX0_contacts_56 : decode cX0_contacts 56 = .ok (.invokevirtual 113, 3) := by decide +kernel
theorem dX0_contacts_59 : decode cX0_contacts 59 = .ok (.iload 4, 2) := by decide +kernel
theorem dX0_contacts_61 : decode cX0_contacts 61 = .ok (.isub, 1) := by decide +kernel
theorem dX0_contacts_62 : decode cX0_contacts 62 = .ok (.invokestatic 115, 3) := by decide +kernel
theorem dX0_contacts_65 : decode cX0_contacts 65 = .ok (.iconst 1, 1) := by decide +kernel
theorem dX0_contacts_66 : decode cX0_contacts 66 = .ok (.if_icmp .le 6, 3) := by decide +kernel
theorem dX0_contacts_69 : decode cX0_contacts 69 = .ok (.iinc 2 1, 3) := by decide +kernel
theorem dX0_contacts_72 : decode cX0_contacts 72 = .ok (.iinc 5 1, 3) := by decide +kernel
theorem dX0_contacts_75 : decode cX0_contacts 75 = .ok (.goto (-51), 3) := by decide +kernel
theorem dX0_contacts_78 : decode cX0_contacts 78 = .ok (.iinc 4 1, 3) := by decide +kernel
theorem dX0_contacts_81 : decode cX0_contacts 81 = .ok (.goto (-69), 3) := by decide +kernel
theorem dX0_contacts_84 : decode cX0_contacts 84 = .ok (.iload_n 2, 1) := by decide +kernel
theorem dX0_contacts_85 : decode cX0_contacts 85 = .ok (.ireturn, 1) := by decide +kernel
theorem dX0_touchingPairs_0 : decode cX0_touchingPairs 0 = .ok (.iconst 0, 1) := by decide +kernel
theorem dX0_touchingPairs_1 : decode cX0_touchingPairs 1 = .ok (.istore_n 3, 1) := by decide +kernel
theorem dX0_touchingPairs_2 : decode cX0_touchingPairs 2 = .ok (.aload_n 0, 1) := by decide +kernel
theorem dX0_touchingPairs_3 : decode cX0_touchingPairs 3 = .ok (.getfield 11, 3) := by decide +kernel
theorem dX0_touchingPairs_6 : decode cX0_touchingPairs 6 = .ok (.iload_n 1, 1) := by decide +kernel
theorem dX0_touchingPairs_7 : decode cX0_touchingPairs 7 = .ok (.aaload, 1) := by decide +kernel
theorem dX0_touchingPairs_8 : decode cX0_touchingPairs 8 = .ok (.astore 4, 2) := by decide +kernel
theorem dX0_touchingPairs_10 : decode cX0_touchingPairs 10 = .ok (.iconst 0, 1) := by decide +kernel
theorem dX0_touchingPairs_11 : decode cX0_touchingPairs 11 = .ok (.istore 5, 2) := by decide +kernel
theorem dX0_touchingPairs_13 : decode cX0_touchingPairs 13 = .ok (.iload 5, 2) := by decide +kernel
theorem dX0_touchingPairs_15 : decode cX0_touchingPairs 15 = .ok (.aload 4, 2) := by decide +kernel
theorem dX0_touchingPairs_17 : decode cX0_touchingPairs 17 = .ok (.invokevirtual 38, 3) := by decide +kernel
theorem dX0_touchingPairs_20 : decode cX0_touchingPairs 20 = .ok (.if_icmp .ge 24, 3) := by decide +kernel
theorem dX0_touchingPairs_23 : decode cX0_touchingPairs 23 = .ok (.iload_n 3, 1) := by decide +kernel
theorem dX0_touchingPairs_24 : decode cX0_touchingPairs 24 = .ok (.aload_n 0, 1) := by decide +kernel
theorem dX0_touchingPairs_25 : decode cX0_touchingPairs 25 = .ok (.aload 4, 2) := by decide +kernel
theorem dX0_touchingPairs_27 : decode cX0_touchingPairs 27 = .ok (.iload 5, 2) := by decide +kernel
theorem dX0_touchingPairs_29 : decode cX0_touchingPairs 29 = .ok (.invokevirtual 42, 3) := by decide +kernel
theorem dX0_touchingPairs_32 : decode cX0_touchingPairs 32 = .ok (.iload_n 2, 1) := by decide +kernel
theorem dX0_touchingPairs_33 : decode cX0_touchingPairs 33 = .ok (.invokevirtual 120, 3) := by decide +kernel
theorem dX0_touchingPairs_36 : decode cX0_touchingPairs 36 = .ok (.iadd, 1) := by decide +kernel
theorem dX0_touchingPairs_37 : decode cX0_touchingPairs 37 = .ok (.istore_n 3, 1) := by decide +kernel
theorem dX0_touchingPairs_38 : decode cX0_touchingPairs 38 = .ok (.iinc 5 1, 3) := by decide +kernel
theorem dX0_touchingPairs_41 : decode cX0_touchingPairs 41 = .ok (.goto (-28), 3) := by decide +kernel
theorem dX0_touchingPairs_44 : decode cX0_touchingPairs 44 = .ok (.iload_n 3, 1) := by decide +kernel
theorem dX0_touchingPairs_45 : decode cX0_touchingPairs 45 = .ok (.ireturn, 1) := by decide +kernel
theorem dX0_freeBorder_0 : decode cX0_freeBorder 0 = .ok (.iconst 0, 1) := by decide +kernel
theorem dX0_freeBorder_1 : decode cX0_freeBorder 1 = .ok (.istore_n 2, 1) := by decide +kernel
theorem dX0_freeBorder_2 : decode cX0_freeBorder 2 = .ok (.iconst 0, 1) := by decide +kernel
theorem dX0_freeBorder_3 : decode cX0_freeBorder 3 = .ok (.istore_n 3, 1) := by decide +kernel
theorem dX0_freeBorder_4 : decode cX0_freeBorder 4 = .ok (.iload_n 3, 1) := by decide +kernel
theorem dX0_freeBorder_5 : decode cX0_freeBorder 5 = .ok (.bipush 100, 2) := by decide +kernel
theorem dX0_freeBorder_7 : decode cX0_freeBorder 7 = .ok (.if_icmp .ge 29, 3) := by decide +kernel
theorem dX0_freeBorder_10 : decode cX0_freeBorder 10 = .ok (.aload_n 0, 1) := by decide +kernel
theorem dX0_freeBorder_11 : decode cX0_freeBorder 11 = .ok (.iload_n 3, 1) := by decide +kernel
theorem dX0_freeBorder_12 : decode cX0_freeBorder 12 = .ok (.invokevirtual 101, 3) := by decide +kernel
theorem dX0_freeBorder_15 : decode cX0_freeBorder 15 = .ok (.ifCond .eq 15, 3) := by decide +kernel
theorem dX0_freeBorder_18 : decode cX0_freeBorder 18 = .ok (.aload_n 0, 1) := by decide +kernel
theorem dX0_freeBorder_19 : decode cX0_freeBorder 19 = .ok (.iload_n 3, 1) := by decide +kernel
theorem dX0_freeBorder_20 : decode cX0_freeBorder 20 = .ok (.iload_n 1, 1) := by decide +kernel
theorem dX0_freeBorder_21 : decode cX0_freeBorder 21 = .ok (.invokevirtual 120, 3) := by decide +kernel
theorem dX0_freeBorder_24 : decode cX0_freeBorder 24 = .ok (.ifCond .le 6, 3) := by decide +kernel
theorem dX0_freeBorder_27 : decode cX0_freeBorder 27 = .ok (.iinc 2 1, 3) := by decide +kernel
theorem dX0_freeBorder_30 : decode cX0_freeBorder 30 = .ok (.iinc 3 1, 3) := by decide +kernel
theorem dX0_freeBorder_33 : decode cX0_freeBorder 33 = .ok (.goto (-29), 3) := by decide +kernel
theorem dX0_freeBorder_36 : decode cX0_freeBorder 36 = .ok (.iload_n 2, 1) := by decide +kernel
theorem dX0_freeBorder_37 : decode cX0_freeBorder 37 = .ok (.ireturn, 1) := by decide +kernel
theorem dX0_neighboursIn_0 : decode cX0_neighboursIn 0 = .ok (.iconst 0, 1) := by decide +kernel
theorem dX0_neighboursIn_1 : decode cX0_neighboursIn 1 = .ok (.istore_n 3, 1) := by decide +kernel
theorem dX0_neighboursIn_2 : decode cX0_neighboursIn 2 = .ok (.iconst 0, 1) := by decide +kernel
theorem dX0_neighboursIn_3 : decode cX0_neighboursIn 3 = .ok (.istore 4, 2) := by decide +kernel
theorem dX0_neighboursIn_5 : decode cX0_neighboursIn 5 = .ok (.iload 4, 2) := by decide +kernel
theorem dX0_neighboursIn_7 : decode cX0_neighboursIn 7 = .ok (.iconst 4, 1) := by decide +kernel
theorem dX0_neighboursIn_8 : decode cX0_neighboursIn 8 = .ok (.if_icmp .ge 26, 3) := by decide +kernel
theorem dX0_neighboursIn_11 : decode cX0_neighboursIn 11 = .ok (.aload_n 0, 1) := by decide +kernel
theorem dX0_neighboursIn_12 : decode cX0_neighboursIn 12 = .ok (.iload_n 1, 1) := by decide +kernel
theorem dX0_neighboursIn_13 : decode cX0_neighboursIn 13 = .ok (.iload 4, 2) := by decide +kernel
theorem dX0_neighboursIn_15 : decode cX0_neighboursIn 15 = .ok (.invokestatic 75, 3) := by decide +kernel
theorem dX0_neighboursIn_18 : decode cX0_neighboursIn 18 = .ok (.invokevirtual 99, 3) := by decide +kernel
theorem dX0_neighboursIn_21 : decode cX0_neighboursIn 21 = .ok (.iload_n 2, 1) := by decide +kernel
theorem dX0_neighboursIn_22 : decode cX0_neighboursIn 22 = .ok (.if_icmp .ne 6, 3) := by decide +kernel
theorem dX0_neighboursIn_25 : decode cX0_neighboursIn 25 = .ok (.iinc 3 1, 3) := by decide +kernel
theorem dX0_neighboursIn_28 : decode cX0_neighboursIn 28 = .ok (.iinc 4 1, 3) := by decide +kernel
theorem dX0_neighboursIn_31 : decode cX0_neighboursIn 31 = .ok (.goto (-26), 3) := by decide +kernel
theorem dX0_neighboursIn_34 : decode cX0_neighboursIn 34 = .ok (.iload_n 3, 1) := by decide +kernel
theorem dX0_neighboursIn_35 : decode cX0_neighboursIn 35 = .ok (.ireturn, 1) := by decide +kernel
theorem dX1_init_0 : decode cX1_init 0 = .ok (.aload_n 0, 1) := by decide +kernel
theorem dX1_init_1 : decode cX1_init 1 = .ok (.invokespecial 3, 3) := by decide +kernel
theorem dX1_init_4 : decode cX1_init 4 = .ok (.aload_n 0, 1) := by decide +kernel
theorem dX1_init_5 : decode cX1_init 5 = .ok (.bipush 6, 2) := by decide +kernel
theorem dX1_init_7 : decode cX1_init 7 = .ok (.anewarray 9, 3) := by decide +kernel
theorem dX1_init_10 : decode cX1_init 10 = .ok (.putfield 11, 3) := by decide +kernel
theorem dX1_init_13 : decode cX1_init 13 = .ok (.iconst 0, 1) := by decide +kernel
theorem dX1_init_14 : decode cX1_init 14 = .ok (.istore_n 1, 1) := by decide +kernel
theorem dX1_init_15 : decode cX1_init 15 = .ok (.iload_n 1, 1) := by decide +kernel
theorem dX1_init_16 : decode cX1_init 16 = .ok (.bipush 6, 2) := by decide +kernel
theorem dX1_init_18 : decode cX1_init 18 = .ok (.if_icmp .ge 22, 3) := by decide +kernel
theorem dX1_init_21 : decode cX1_init 21 = .ok (.aload_n 0, 1) := by decide +kernel
theorem dX1_init_22 : decode cX1_init 22 = .ok (.getfield 11, 3) := by decide +kernel
theorem dX1_init_25 : decode cX1_init 25 = .ok (.iload_n 1, 1) := by decide +kernel
theorem dX1_init_26 : decode cX1_init 26 = .ok (.new 9, 3) := by decide +kernel
theorem dX1_init_29 : decode cX1_init 29 = .ok (.dup, 1) := by decide +kernel
theorem dX1_init_30 : decode cX1_init 30 = .ok (.invokespecial 17, 3) := by decide +kernel
theorem dX1_init_33 : decode cX1_init 33 = .ok (.aastore, 1) := by decide +kernel
theorem dX1_init_34 : decode cX1_init 34 = .ok (.iinc 1 1, 3) := by decide +kernel
theorem dX1_init_37 : decode cX1_init 37 = .ok (.goto (-22), 3) := by decide +kernel
theorem dX1_init_40 : decode cX1_init 40 = .ok (.return_, 1) := by decide +kernel
theorem dX1_size_0 : decode cX1_size 0 = .ok (.aload_n 0, 1) := by decide +kernel
theorem dX1_size_1 : decode cX1_size 1 = .ok (.getfield 18, 3) := by decide +kernel
theorem dX1_size_4 : decode cX1_size 4 = .ok (.ireturn, 1) := by decide +kernel
theorem dX1_save_0 : decode cX1_save 0 = .ok (.aload_n 0, 1) := by decide +kernel
theorem dX1_save_1 : decode cX1_save 1 = .ok (.getfield 18, 3) := by decide +kernel
theorem dX1_save_4 : decode cX1_save 4 = .ok (.bipush 6, 2) := by decide +kernel
theorem dX1_save_6 : decode cX1_save 6 = .ok (.if_icmp .ne 26, 3) := by decide +kernel
theorem dX1_save_9 : decode cX1_save 9 = .ok (.aload_n 0, 1) := by decide +kernel
theorem dX1_save_10 : decode cX1_save 10 = .ok (.aload_n 0, 1) := by decide +kernel
theorem dX1_save_11 : decode cX1_save 11 = .ok (.getfield 22, 3) := by decide +kernel
theorem dX1_save_14 : decode cX1_save 14 = .ok (.iconst 1, 1) := by decide +kernel
theorem dX1_save_15 : decode cX1_save 15 = .ok (.iadd, 1) := by decide +kernel
theorem dX1_save_16 : decode cX1_save 16 = .ok (.bipush 6, 2) := by decide +kernel
theorem dX1_save_18 : decode cX1_save 18 = .ok (.irem, 1) := by decide +kernel
theorem dX1_save_19 : decode cX1_save 19 = .ok (.putfield 22, 3) := by decide +kernel
theorem dX1_save_22 : decode cX1_save 22 = .ok (.aload_n 0, 1) := by decide +kernel
theorem dX1_save_23 : decode cX1_save 23 = .ok (.dup, 1) := by decide +kernel
theorem dX1_save_24 : decode cX1_save 24 = .ok (.getfield 18, 3) := by decide +kernel
theorem dX1_save_27 : decode cX1_save 27 = .ok (.iconst 1, 1) := by decide +kernel
theorem dX1_save_28 : decode cX1_save 28 = .ok (.isub, 1) := by decide +kernel
theorem dX1_save_29 : decode cX1_save 29 = .ok (.putfield 18, 3) := by decide +kernel
theorem dX1_save_32 : decode cX1_save 32 = .ok (.aload_n 0, 1) := by decide +kernel
theorem dX1_save_33 : decode cX1_save 33 = .ok (.getfield 11, 3) := by decide +kernel
theorem dX1_save_36 : decode cX1_save 36 = .ok (.aload_n 0, 1) := by decide +kernel
theorem dX1_save_37 : decode cX1_save 37 = .ok (.getfield 22, 3) := by decide +kernel
theorem dX1_save_40 : decode cX1_save 40 = .ok (.aload_n 0, 1) := by decide +kernel
theorem dX1_save_41 : decode cX1_save 41 = .ok (.getfield 18, 3) := by decide +kernel
theorem dX1_save_44 : decode cX1_save 44 = .ok (.iadd, 1) := by decide +kernel
theorem dX1_save_45 : decode cX1_save 45 = .ok (.bipush 6, 2) := by decide +kernel
theorem dX1_save_47 : decode cX1_save 47 = .ok (.irem, 1) := by decide +kernel
theorem dX1_save_48 : decode cX1_save 48 = .ok (.aaload, 1) := by decide +kernel
theorem dX1_save_49 : decode cX1_save 49 = .ok (.aload_n 1, 1) := by decide +kernel
theorem dX1_save_50 : decode cX1_save 50 = .ok (.invokevirtual 25, 3) := by decide +kernel
theorem dX1_save_53 : decode cX1_save 53 = .ok (.aload_n 0, 1) := by decide +kernel
theorem dX1_save_54 : decode cX1_save 54 = .ok (.dup, 1) := by decide +kernel
theorem dX1_save_55 : decode cX1_save 55 = .ok (.getfield 18, 3) := by decide +kernel
theorem dX1_save_58 : decode cX1_save 58 = .ok (.iconst 1, 1) := by decide +kernel
theorem dX1_save_59 : decode cX1_save 59 = .ok (.iadd, 1) := by decide +kernel
theorem dX1_save_60 : decode cX1_save 60 = .ok (.putfield 18, 3) := by decide +kernel
theorem dX1_save_63 : decode cX1_save 63 = .ok (.return_, 1) := by decide +kernel
theorem dX1_restoreLast_0 : decode cX1_restoreLast 0 = .ok (.aload_n 0, 1) := by decide +kernel
theorem dX1_restoreLast_1 : decode cX1_restoreLast 1 = .ok (.getfield 18, 3) := by decide +kernel
theorem dX1_restoreLast_4 : decode cX1_restoreLast 4 = .ok (.ifCond .le 34, 3) := by decide +kernel
theorem dX1_restoreLast_7 : decode cX1_restoreLast 7 = .ok (.aload_n 0, 1) := by decide +kernel
theorem dX1_restoreLast_8 : decode cX1_restoreLast 8 = .ok (.dup, 1) := by decide +kernel
theorem dX1_restoreLast_9 : decode cX1_restoreLast 9 = .ok (.getfield 18, 3) := by decide +kernel
theorem dX1_restoreLast_12 : decode cX1_restoreLast 12 = .ok (.iconst 1, 1) := by decide +kernel
theorem dX1_restoreLast_13 : decode cX1_restoreLast 13 = .ok (.isub, 1) := by decide +kernel
theorem dX1_restoreLast_14 : decode cX1_restoreLast 14 = .ok (.putfield 18, 3) := by decide +kernel
theorem dX1_restoreLast_17 : decode cX1_restoreLast 17 = .ok (.aload_n 0, 1) := by decide +kernel
theorem dX1_restoreLast_18 : decode cX1_restoreLast 18 = .ok (.getfield 11, 3) := by decide +kernel
theorem dX1_restoreLast_21 : decode cX1_restoreLast 21 = .ok (.aload_n 0, 1) := by decide +kernel
theorem dX1_restoreLast_22 : decode cX1_restoreLast 22 = .ok (.getfield 22, 3) := by decide +kernel
theorem dX1_restoreLast_25 : decode cX1_restoreLast 25 = .ok (.aload_n 0, 1) := by decide +kernel
theorem dX1_restoreLast_26 : decode cX1_restoreLast 26 = .ok (.getfield 18, 3) := by decide +kernel
theorem dX1_restoreLast_29 : decode cX1_restoreLast 29 = .ok (.iadd, 1) := by decide +kernel
theorem dX1_restoreLast_30 : decode cX1_restoreLast 30 = .ok (.bipush 6, 2) := by decide +kernel
theorem dX1_restoreLast_32 : decode cX1_restoreLast 32 = .ok (.irem, 1) := by decide +kernel
theorem dX1_restoreLast_33 : decode cX1_restoreLast 33 = .ok (.aaload, 1) := by decide +kernel
theorem dX1_restoreLast_34 : decode cX1_restoreLast 34 = .ok (.aload_n 1, 1) := by decide +kernel
theorem dX1_restoreLast_35 : decode cX1_restoreLast 35 = .ok (.invokevirtual 29, 3) := by decide +kernel
theorem dX1_restoreLast_38 : decode cX1_restoreLast 38 = .ok (.return_, 1) := by decide +kernel
theorem dX2_number_0 : decode cX2_number 0 = .ok (.iload_n 0, 1) := by decide +kernel
theorem dX2_number_1 : decode cX2_number 1 = .ok (.ifCond .lt 19, 3) := by decide +kernel
theorem dX2_number_4 : decode cX2_number 4 = .ok (.iload_n 0, 1) := by decide +kernel
theorem dX2_number_5 : decode cX2_number 5 = .ok (.bipush 10, 2) := by decide +kernel
theorem dX2_number_7 : decode cX2_number 7 = .ok (.if_icmp .ge 13, 3) := by decide +kernel
theorem dX2_number_10 : decode cX2_number 10 = .ok (.iload_n 1, 1) := by decide +kernel
theorem dX2_number_11 : decode cX2_number 11 = .ok (.ifCond .lt 9, 3) := by decide +kernel
theorem dX2_number_14 : decode cX2_number 14 = .ok (.iload_n 1, 1) := by decide +kernel
theorem dX2_number_15 : decode cX2_number 15 = .ok (.bipush 10, 2) := by decide +kernel
theorem dX2_number_17 : decode cX2_number 17 = .ok (.if_icmp .lt 5, 3) := by decide +kernel
theorem dX2_number_20 : decode cX2_number 20 = .ok (.iconst (-1), 1) := by decide +kernel
theorem dX2_number_21 : decode cX2_number 21 = .ok (.ireturn, 1) := by decide +kernel
theorem dX2_number_22 : decode cX2_number 22 = .ok (.bipush 10, 2) := by decide +kernel
theorem dX2_number_24 : decode cX2_number 24 = .ok (.iload_n 1, 1) := by decide +kernel
theorem dX2_number_25 : decode cX2_number 25 = .ok (.imul, 1) := by decide +kernel
theorem dX2_number_26 : decode cX2_number 26 = .ok (.iload_n 0, 1) := by decide +kernel
theorem dX2_number_27 : decode cX2_number 27 = .ok (.iadd, 1) := by decide +kernel
theorem dX2_number_28 : decode cX2_number 28 = .ok (.ireturn, 1) := by decide +kernel
theorem dX2_isSite_0 : decode cX2_isSite 0 = .ok (.iload_n 0, 1) := by decide +kernel
theorem dX2_isSite_1 : decode cX2_isSite 1 = .ok (.ifCond .lt 13, 3) := by decide +kernel
theorem dX2_isSite_4 : decode cX2_isSite 4 = .ok (.iload_n 0, 1) := by decide +kernel
theorem dX2_isSite_5 : decode cX2_isSite 5 = .ok (.bipush 100, 2) := by decide +kernel
theorem dX2_isSite_7 : decode cX2_isSite 7 = .ok (.if_icmp .ge 7, 3) := by decide +kernel
theorem dX2_isSite_10 : decode cX2_isSite 10 = .ok (.iconst 1, 1) := by decide +kernel
theorem dX2_isSite_11 : decode cX2_isSite 11 = .ok (.goto 4, 3) := by decide +kernel
theorem dX2_isSite_14 : decode cX2_isSite 14 = .ok (.iconst 0, 1) := by decide +kernel
theorem dX2_isSite_15 : decode cX2_isSite 15 = .ok (.ireturn, 1) := by decide +kernel
theorem dX2_column_0 : decode cX2_column 0 = .ok (.iload_n 0, 1) := by decide +kernel
theorem dX2_column_1 : decode cX2_column 1 = .ok (.bipush 10, 2) := by decide +kernel
theorem dX2_column_3 : decode cX2_column 3 = .ok (.irem, 1) := by decide +kernel
theorem dX2_column_4 : decode cX2_column 4 = .ok (.ireturn, 1) := by decide +kernel
theorem dX2_row_0 : decode cX2_row 0 = .ok (.iload_n 0, 1) := by decide +kernel
theorem dX2_row_1 : decode cX2_row 1 = .ok (.bipush 10, 2) := by decide +kernel
theorem dX2_row_3 : decode cX2_row 3 = .ok (.idiv, 1) := by decide +kernel
theorem dX2_row_4 : decode cX2_row 4 = .ok (.ireturn, 1) := by decide +kernel
theorem dX2_neighbour_0 : decode cX2_neighbour 0 = .ok (.iload_n 1, 1) := by decide +kernel
theorem dX2_neighbour_1 : decode cX2_neighbour 1 = .ok (.ifCond .lt 8, 3) := by decide +kernel
theorem dX2_neighbour_4 : decode cX2_neighbour 4 = .ok (.iload_n 1, 1) := by decide +kernel
theorem dX2_neighbour_5 : decode cX2_neighbour 5 = .ok (.iconst 4, 1) := by decide +kernel
theorem dX2_neighbour_6 : decode cX2_neighbour 6 = .ok (.if_icmp .lt 5, 3) := by decide +kernel
theorem dX2_neighbour_9 : decode cX2_neighbour 9 = .ok (.iconst (-1), 1) := by decide +kernel
theorem dX2_neighbour_10 : decode cX2_neighbour 10 = .ok (.ireturn, 1) := by decide +kernel
theorem dX2_neighbour_11 : decode cX2_neighbour 11 = .ok (.iload_n 0, 1) := by decide +kernel
theorem dX2_neighbour_12 : decode cX2_neighbour 12 = .ok (.invokestatic 9, 3) := by decide +kernel
theorem dX2_neighbour_15 : decode cX2_neighbour 15 = .ok (.getstatic 15, 3) := by decide +kernel
theorem dX2_neighbour_18 : decode cX2_neighbour 18 = .ok (.iload_n 1, 1) := by decide +kernel
theorem dX2_neighbour_19 : decode cX2_neighbour 19 = .ok (.iaload, 1) := by decide +kernel
theorem dX2_neighbour_20 : decode cX2_neighbour 20 = .ok (.iadd, 1) := by decide +kernel
theorem dX2_neighbour_21 : decode cX2_neighbour 21 = .ok (.iload_n 0, 1) := by decide +kernel
theorem dX2_neighbour_22 : decode cX2_neighbour 22 = .ok (.invokestatic 19, 3) := by decide +kernel
theorem dX2_neighbour_25 : decode cX2_neighbour 25 = .ok (.getstatic 22, 3) := by decide +kernel
theorem dX2_neighbour_28 : decode cX2_neighbour 28 = .ok (.iload_n 1, 1) := by decide +kernel
theorem dX2_neighbour_29 : decode cX2_neighbour 29 = .ok (.iaload, 1) := by decide +kernel
theorem dX2_neighbour_30 : decode cX2_neighbour 30 = .ok (.iadd, 1) := by decide +kernel
theorem dX2_neighbour_31 : decode cX2_neighbour 31 = .ok (.invokestatic 25, 3) := by decide +kernel
theorem dX2_neighbour_34 : decode cX2_neighbour 34 = .ok (.ireturn, 1) := by decide +kernel
theorem dX2_direction_0 : decode cX2_direction 0 = .ok (.iconst 0, 1) := by decide +kernel
theorem dX2_direction_1 : decode cX2_direction 1 = .ok (.istore_n 2, 1) := by decide +kernel
theorem dX2_direction_2 : decode cX2_direction 2 = .ok (.iload_n 2, 1) := by decide +kernel
theorem dX2_direction_3 : decode cX2_direction 3 = .ok (.iconst 3, 1) := by decide +kernel
theorem dX2_direction_4 : decode cX2_direction 4 = .ok (.if_icmp .ge 20, 3) := by decide +kernel
theorem dX2_direction_7 : decode cX2_direction 7 = .ok (.iload_n 0, 1) := by decide +kernel
theorem dX2_direction_8 : decode cX2_direction 8 = .ok (.iload_n 2, 1) := by decide +kernel
theorem dX2_direction_9 : decode cX2_direction 9 = .ok (.invokestatic 29, 3) := by decide +kernel
theorem dX2_direction_12 : decode cX2_direction 12 = .ok (.iload_n 1, 1) := by decide +kernel
theorem dX2_direction_13 : decode cX2_direction 13 = .ok (.if_icmp .ne 5, 3) := by decide +kernel
theorem dX2_direction_16 : decode cX2_direction 16 = .ok (.iload_n 2, 1) := by decide +kernel
theorem dX2_direction_17 : decode cX2_direction 17 = .ok (.ireturn, 1) := by decide +kernel
theorem dX2_direction_18 : decode cX2_direction 18 = .ok (.iinc 2 1, 3) := by decide +kernel
theorem dX2_direction_21 : decode cX2_direction 21 = .ok (.goto (-19), 3) := by decide +kernel
theorem dX2_direction_24 : decode cX2_direction 24 = .ok (.iconst 3, 1) := by decide +kernel
theorem dX2_direction_25 : decode cX2_direction 25 = .ok (.ireturn, 1) := by decide +kernel
theorem dX2_squaredDistance_0 : decode cX2_squaredDistance 0 = .ok (.iload_n 0, 1) := by decide +kernel
theorem dX2_squaredDistance_1 : decode cX2_squaredDistance 1 = .ok (.invokestatic 9, 3) := by decide +kernel
theorem dX2_squaredDistance_4 : decode cX2_squaredDistance 4 = .ok (.iload_n 1, 1) := by decide +kernel
theorem dX2_squaredDistance_5 : decode cX2_squaredDistance 5 = .ok (.invokestatic 9, 3) := by decide +kernel
theorem dX2_squaredDistance_8 : decode cX2_squaredDistance 8 = .ok (.isub, 1) := by decide +kernel
theorem dX2_squaredDistance_9 : decode cX2_squaredDistance 9 = .ok (.istore_n 2, 1) := by decide +kernel
theorem dX2_squaredDistance_10 : decode cX2_squaredDistance 10 = .ok (.iload_n 0, 1) := by decide +kernel
theorem dX2_squaredDistance_11 : decode cX2_squaredDistance 11 = .ok (.invokestatic 19, 3) := by decide +kernel
theorem dX2_squaredDistance_14 : decode cX2_squaredDistance 14 = .ok (.iload_n 1, 1) := by decide +kernel
theorem dX2_squaredDistance_15 : decode cX2_squaredDistance 15 = .ok (.invokestatic 19, 3) := by decide +kernel
theorem dX2_squaredDistance_18 : decode cX2_squaredDistance 18 = .ok (.isub, 1) := by decide +kernel
theorem dX2_squaredDistance_19 : decode cX2_squaredDistance 19 = .ok (.istore_n 3, 1) := by decide +kernel
theorem dX2_squaredDistance_20 : decode cX2_squaredDistance 20 = .ok (.iload_n 2, 1) := by decide +kernel
theorem dX2_squaredDistance_21 : decode cX2_squaredDistance 21 = .ok (.iload_n 2, 1) := by decide +kernel
theorem dX2_squaredDistance_22 : decode cX2_squaredDistance 22 = .ok (.imul, 1) := by decide +kernel
theorem dX2_squaredDistance_23 : decode cX2_squaredDistance 23 = .ok (.iload_n 3, 1) := by decide +kernel
theorem dX2_squaredDistance_24 : decode cX2_squaredDistance 24 = .ok (.iload_n 3, 1) := by decide +kernel
theorem dX2_squaredDistance_25 : decode cX2_squaredDistance 25 = .ok (.imul, 1) := by decide +kernel
theorem dX2_squaredDistance_26 : decode cX2_squaredDistance 26 = .ok (.iadd, 1) := by decide +kernel
theorem dX2_squaredDistance_27 : decode cX2_squaredDistance 27 = .ok (.ireturn, 1) := by decide +kernel
theorem dX2_areNeighbours_0 : decode cX2_areNeighbours 0 = .ok (.iload_n 0, 1) := by decide +kernel
theorem dX2_areNeighbours_1 : decode cX2_areNeighbours 1 = .ok (.iload_n 1, 1) := by decide +kernel
theorem dX2_areNeighbours_2 : decode cX2_areNeighbours 2 = .ok (.invokestatic 32, 3) := by decide +kernel
theorem dX2_areNeighbours_5 : decode cX2_areNeighbours 5 = .ok (.iconst 1, 1) := by decide +kernel
theorem dX2_areNeighbours_6 : decode cX2_areNeighbours 6 = .ok (.if_icmp .ne 7, 3) := by decide +kernel
theorem dX2_areNeighbours_9 : decode cX2_areNeighbours 9 = .ok (.iconst 1, 1) := by decide +kernel
theorem dX2_areNeighbours_10 : decode cX2_areNeighbours 10 = .ok (.goto 4, 3) := by decide +kernel
theorem dX2_areNeighbours_13 : decode cX2_areNeighbours 13 = .ok (.iconst 0, 1) := by decide +kernel
theorem dX2_areNeighbours_14 : decode cX2_areNeighbours 14 = .ok (.ireturn, 1) := by decide +kernel
theorem dX3_init_0 : decode cX3_init 0 = .ok (.aload_n 0, 1) := by decide +kernel
theorem dX3_init_1 : decode cX3_init 1 = .ok (.invokespecial 3, 3) := by decide +kernel
theorem dX3_init_4 : decode cX3_init 4 = .ok (.aload_n 0, 1) := by decide +kernel
theorem dX3_init_5 : decode cX3_init 5 = .ok (.bipush 70, 2) := by decide +kernel
theorem dX3_init_7 : decode cX3_init 7 = .ok (.newarray .char, 2) := by decide +kernel
theorem dX3_init_9 : decode cX3_init 9 = .ok (.putfield 9, 3) := by decide +kernel
theorem dX3_init_12 : decode cX3_init 12 = .ok (.return_, 1) := by decide +kernel
theorem dX3_length_0 : decode cX3_length 0 = .ok (.aload_n 0, 1) := by decide +kernel
theorem dX3_length_1 : decode cX3_length 1 = .ok (.getfield 15, 3) := by decide +kernel
theorem dX3_length_4 : decode cX3_length 4 = .ok (.ireturn, 1) := by decide +kernel
theorem dX4_init_0 : decode cX4_init 0 = .ok (.aload_n 0, 1) := by decide +kernel
theorem dX4_init_1 : decode cX4_init 1 = .ok (.invokespecial 3, 3) := by decide +kernel
theorem dX4_init_4 : decode cX4_init 4 = .ok (.aload_n 0, 1) := by decide +kernel
theorem dX4_init_5 : decode cX4_init 5 = .ok (.bipush 100, 2) := by decide +kernel
theorem dX4_init_7 : decode cX4_init 7 = .ok (.newarray .int, 2) := by decide +kernel
theorem dX4_init_9 : decode cX4_init 9 = .ok (.putfield 9, 3) := by decide +kernel
theorem dX4_init_12 : decode cX4_init 12 = .ok (.aload_n 0, 1) := by decide +kernel
theorem dX4_init_13 : decode cX4_init 13 = .ok (.bipush 100, 2) := by decide +kernel
theorem dX4_init_15 : decode cX4_init 15 = .ok (.newarray .int, 2) := by decide +kernel
theorem dX4_init_17 : decode cX4_init 17 = .ok (.putfield 15, 3) := by decide +kernel
theorem dX4_init_20 : decode cX4_init 20 = .ok (.aload_n 0, 1) := by decide +kernel
theorem dX4_init_21 : decode cX4_init 21 = .ok (.bipush 100, 2) := by decide +kernel
theorem dX4_init_23 : decode cX4_init 23 = .ok (.newarray .boolean, 2) := by decide +kernel
theorem dX4_init_25 : decode cX4_init 25 = .ok (.putfield 18, 3) := by decide +kernel
theorem dX4_init_28 : decode cX4_init 28 = .ok (.aload_n 0, 1) := by decide +kernel
theorem dX4_init_29 : decode cX4_init 29 = .ok (.bipush 100, 2) := by decide +kernel
theorem dX4_init_31 : decode cX4_init 31 = .ok (.newarray .int, 2) := by decide +kernel
theorem dX4_init_33 : decode cX4_init 33 = .ok (.putfield 22, 3) := by decide +kernel
theorem dX4_init_36 : decode cX4_init 36 = .ok (.return_, 1) := by decide +kernel
theorem dX5_init_0 : decode cX5_init 0 = .ok (.aload_n 0, 1) := by decide +kernel
theorem dX5_init_1 : decode cX5_init 1 = .ok (.invokespecial 3, 3) := by decide +kernel
theorem dX5_init_4 : decode cX5_init 4 = .ok (.aload_n 0, 1) := by decide +kernel
theorem dX5_init_5 : decode cX5_init 5 = .ok (.bipush 100, 2) := by decide +kernel
theorem dX5_init_7 : decode cX5_init 7 = .ok (.newarray .int, 2) := by decide +kernel
theorem dX5_init_9 : decode cX5_init 9 = .ok (.putfield 9, 3) := by decide +kernel
theorem dX5_init_12 : decode cX5_init 12 = .ok (.aload_n 0, 1) := by decide +kernel
theorem dX5_init_13 : decode cX5_init 13 = .ok (.iconst 5, 1) := by decide +kernel
theorem dX5_init_14 : decode cX5_init 14 = .ok (.newarray .int, 2) := by decide +kernel
theorem dX5_init_16 : decode cX5_init 16 = .ok (.putfield 15, 3) := by decide +kernel
theorem dX5_init_19 : decode cX5_init 19 = .ok (.return_, 1) := by decide +kernel
theorem dX5_take_0 : decode cX5_take 0 = .ok (.iconst 0, 1) := by decide +kernel
theorem dX5_take_1 : decode cX5_take 1 = .ok (.istore_n 2, 1) := by decide +kernel
theorem dX5_take_2 : decode cX5_take 2 = .ok (.aload_n 0, 1) := by decide +kernel
theorem dX5_take_3 : decode cX5_take 3 = .ok (.aload_n 1, 1) := by decide +kernel
theorem dX5_take_4 : decode cX5_take 4 = .ok (.getfield 18, 3) := by decide +kernel
theorem dX5_take_7 : decode cX5_take 7 = .ok (.putfield 24, 3) := by decide +kernel
theorem dX5_take_10 : decode cX5_take 10 = .ok (.iconst 0, 1) := by decide +kernel
theorem dX5_take_11 : decode cX5_take 11 = .ok (.istore_n 3, 1) := by decide +kernel
theorem dX5_take_12 : decode cX5_take 12 = .ok (.iload_n 3, 1) := by decide +kernel
theorem dX5_take_13 : decode cX5_take 13 = .ok (.aload_n 0, 1) := by decide +kernel
theorem dX5_take_14 : decode cX5_take 14 = .ok (.getfield 24, 3) := by decide +kernel
theorem dX5_take_17 : decode cX5_take 17 = .ok (.if_icmp .ge 69, 3) := by decide +kernel
theorem dX5_take_20 : decode cX5_take 20 = .ok (.aload_n 1, 1) := by decide +kernel
theorem dX5_take_21 : decode cX5_take 21 = .ok (.getfield 25, 3) := by decide +kernel
theorem dX5_take_24 : decode cX5_take 24 = .ok (.iload_n 3, 1) := by decide +kernel
theorem dX5_take_25 : decode cX5_take 25 = .ok (.aaload, 1) := by decide +kernel
theorem dX5_take_26 : decode cX5_take 26 = .ok (.astore 4, 2) := by decide +kernel
theorem dX5_take_28 : decode cX5_take 28 = .ok (.aload_n 0, 1) := by decide +kernel
theorem dX5_take_29 : decode cX5_take 29 = .ok (.getfield 15, 3) := by decide +kernel
theorem dX5_take_32 : decode cX5_take 32 = .ok (.iload_n 3, 1) := by decide +kernel
theorem dX5_take_33 : decode cX5_take 33 = .ok (.aload 4, 2) := by decide +kernel
theorem dX5_take_35 : decode cX5_take 35 = .ok (.invokevirtual 29, 3) := by decide +kernel
theorem dX5_take_38 : decode cX5_take 38 = .ok (.iastore, 1) := by decide +kernel
theorem dX5_take_39 : decode cX5_take 39 = .ok (.iconst 0, 1) := by decide +kernel
theorem dX5_take_40 : decode cX5_take 40 = .ok (.istore 5, 2) := by decide +kernel
theorem dX5_take_42 : decode cX5_take 42 = .ok (.iload 5, 2) := by decide +kernel
theorem dX5_take_44 : decode cX5_take 44 = .ok (.aload 4, 2) := by decide +kernel
theorem dX5_take_46 : decode cX5_take 46 = .ok (.invokevirtual 29, 3) := by decide +kernel
theorem dX5_take_49 : decode cX5_take 49 = .ok (.if_icmp .ge 31, 3) := by decide +kernel
theorem dX5_take_52 : decode cX5_take 52 = .ok (.iload_n 2, 1) := by decide +kernel
theorem dX5_take_53 : decode cX5_take 53 = .ok (.bipush 100, 2) := by decide +kernel
theorem dX5_take_55 : decode cX5_take 55 = .ok (.if_icmp .ge 25, 3) := by decide +kernel
theorem dX5_take_58 : decode cX5_take 58 = .ok (.aload_n 0, 1) := by decide +kernel
theorem dX5_take_59 : decode cX5_take 59 = .ok (.getfield 9, 3) := by decide +kernel
theorem dX5_take_62 : decode cX5_take 62 = .ok (.iload_n 2, 1) := by decide +kernel
theorem dX5_take_63 : decode cX5_take 63 = .ok (.aload 4, 2) := by decide +kernel
theorem dX5_take_65 : decode cX5_take 65 = .ok (.iload 5, 2) := by decide +kernel
theorem dX5_take_67 : decode cX5_take 67 = .ok (.invokevirtual 35, 3) := by decide +kernel
theorem dX5_take_70 : decode cX5_take 70 = .ok (.iastore, 1) := by decide +kernel
theorem dX5_take_71 : decode cX5_take 71 = .ok (.iinc 2 1, 3) := by decide +kernel
theorem dX5_take_74 : decode cX5_take 74 = .ok (.iinc 5 1, 3) := by decide +kernel
theorem dX5_take_77 : decode cX5_take 77 = .ok (.goto (-35), 3) := by decide +kernel
theorem dX5_take_80 : decode cX5_take 80 = .ok (.iinc 3 1, 3) := by decide +kernel
theorem dX5_take_83 : decode cX5_take 83 = .ok (.goto (-71), 3) := by decide +kernel
theorem dX5_take_86 : decode cX5_take 86 = .ok (.aload_n 0, 1) := by decide +kernel
theorem dX5_take_87 : decode cX5_take 87 = .ok (.aload_n 1, 1) := by decide +kernel
theorem dX5_take_88 : decode cX5_take 88 = .ok (.getfield 39, 3) := by decide +kernel
theorem dX5_take_91 : decode cX5_take 91 = .ok (.putfield 42, 3) := by decide +kernel
theorem dX5_take_94 : decode cX5_take 94 = .ok (.aload_n 0, 1) := by decide +kernel
theorem dX5_take_95 : decode cX5_take 95 = .ok (.aload_n 1, 1) := by decide +kernel
theorem dX5_take_96 : decode cX5_take 96 = .ok (.getfield 43, 3) := by decide +kernel
theorem dX5_take_99 : decode cX5_take 99 = .ok (.putfield 46, 3) := by decide +kernel
theorem dX5_take_102 : decode cX5_take 102 = .ok (.aload_n 0, 1) := by decide +kernel
theorem dX5_take_103 : decode cX5_take 103 = .ok (.aload_n 1, 1) := by decide +kernel
theorem dX5_take_104 : decode cX5_take 104 = .ok (.getfield 47, 3) := by decide +kernel
theorem dX5_take_107 : decode cX5_take 107 = .ok (.putfield 50, 3) := by decide +kernel
theorem dX5_take_110 : decode cX5_take 110 = .ok (.return_, 1) := by decide +kernel
theorem dX5_putInto_0 : decode cX5_putInto 0 = .ok (.iconst 0, 1) := by decide +kernel
theorem dX5_putInto_1 : decode cX5_putInto 1 = .ok (.istore_n 2, 1) := by decide +kernel
theorem dX5_putInto_2 : decode cX5_putInto 2 = .ok (.aload_n 1, 1) := by decide +kernel
theorem dX5_putInto_3 : decode cX5_putInto 3 = .ok (.aload_n 0, 1) := by decide +kernel
theorem dX5_putInto_4 : decode cX5_putInto 4 = .ok (.getfield 24, 3) := by decide +kernel
theorem dX5_putInto_7 : decode cX5_putInto 7 = .ok (.putfield 18, 3) := by decide +kernel
theorem dX5_putInto_10 : decode cX5_putInto 10 = .ok (.iconst 0, 1) := by decide +kernel
theorem dX5_putInto_11 : decode cX5_putInto 11 = .ok (.istore_n 3, 1) := by decide +kernel
theorem dX5_putInto_12 : decode cX5_putInto 12 = .ok (.iload_n 3, 1) := by decide +kernel
theorem dX5_putInto_13 : decode cX5_putInto 13 = .ok (.aload_n 0, 1) := by decide +kernel
theorem dX5_putInto_14 : decode cX5_putInto 14 = .ok (.getfield 24, 3) := by decide +kernel
theorem dX5_putInto_17 : decode cX5_putInto 17 = .ok (.if_icmp .ge 62, 3) := by decide +kernel
theorem dX5_putInto_20 : decode cX5_putInto 20 = .ok (.aload_n 1, 1) := by decide +kernel
theorem dX5_putInto_21 : decode cX5_putInto 21 = .ok (.getfield 25, 3) := by decide +kernel
theorem dX5_putInto_24 : decode cX5_putInto 24 = .ok (.iload_n 3, 1) := by decide +kernel
theorem dX5_putInto_25 : decode cX5_putInto 25 = .ok (.aaload, 1) := by decide +kernel
theorem dX5_putInto_26 : decode cX5_putInto 26 = .ok (.astore 4, 2) := by decide +kernel
theorem dX5_putInto_28 : decode cX5_putInto 28 = .ok (.aload 4, 2) := by decide +kernel
theorem dX5_putInto_30 : decode cX5_putInto 30 = .ok (.invokevirtual 51, 3) := by decide +kernel
theorem dX5_putInto_33 : decode cX5_putInto 33 = .ok (.iconst 0, 1) := by decide +kernel
theorem dX5_putInto_34 : decode cX5_putInto 34 = .ok (.istore 5, 2) := by decide +kernel
theorem dX5_putInto_36 : decode cX5_putInto 36 = .ok (.iload 5, 2) := by decide +kernel
theorem dX5_putInto_38 : decode cX5_putInto 38 = .ok (.aload_n 0, 1) := by decide +kernel
theorem dX5_putInto_39 : decode cX5_putInto 39 = .ok (.getfield 15, 3) := by decide +kernel
theorem dX5_putInto_42 : decode cX5_putInto 42 = .ok (.iload_n 3, 1) := by decide +kernel
theorem dX5_putInto_43 : decode cX5_putInto 43 = .ok (.iaload, 1) := by decide +kernel
theorem dX5_putInto_44 : decode cX5_putInto 44 = .ok (.if_icmp .ge 29, 3) := by decide +kernel
theorem dX5_putInto_47 : decode cX5_putInto 47 = .ok (.iload_n 2, 1) := by decide +kernel
theorem dX5_putInto_48 : decode cX5_putInto 48 = .ok (.bipush 100, 2) := by decide +kernel
theorem dX5_putInto_50 : decode cX5_putInto 50 = .ok (.if_icmp .ge 23, 3) := by decide +kernel
theorem dX5_putInto_53 : decode cX5_putInto 53 = .ok (.aload 4, 2) := by decide +kernel
theorem dX5_putInto_55 : decode cX5_putInto 55 = .ok (.aload_n 0, 1) := by decide +kernel
theorem dX5_putInto_56 : decode cX5_putInto 56 = .ok (.getfield 9, 3) := by decide +kernel
theorem dX5_putInto_59 : decode cX5_putInto 59 = .ok (.iload_n 2, 1) := by decide +kernel
theorem dX5_putInto_60 : decode cX5_putInto 60 = .ok (.iaload, 1) := by decide +kernel
theorem dX5_putInto_61 : decode cX5_putInto 61 = .ok (.invokevirtual 54, 3) := by decide +kernel
theorem dX5_putInto_64 : decode cX5_putInto 64 = .ok (.iinc 2 1, 3) := by decide +kernel
theorem dX5_putInto_67 : decode cX5_putInto 67 = .ok (.iinc 5 1, 3) := by decide +kernel
theorem dX5_putInto_70 : decode cX5_putInto 70 = .ok (.goto (-34), 3) := by decide +kernel
theorem dX5_putInto_73 : decode cX5_putInto 73 = .ok (.iinc 3 1, 3) := by decide +kernel
theorem dX5_putInto_76 : decode cX5_putInto 76 = .ok (.goto (-64), 3) := by decide +kernel
theorem dX5_putInto_79 : decode cX5_putInto 79 = .ok (.aload_n 1, 1) := by decide +kernel
theorem dX5_putInto_80 : decode cX5_putInto 80 = .ok (.aload_n 0, 1) := by decide +kernel
theorem dX5_putInto_81 : decode cX5_putInto 81 = .ok (.getfield 42, 3) := by decide +kernel
theorem dX5_putInto_84 : decode cX5_putInto 84 = .ok (.putfield 39, 3) := by decide +kernel
theorem dX5_putInto_87 : decode cX5_putInto 87 = .ok (.aload_n 1, 1) := by decide +kernel
theorem dX5_putInto_88 : decode cX5_putInto 88 = .ok (.aload_n 0, 1) := by decide +kernel
theorem dX5_putInto_89 : decode cX5_putInto 89 = .ok (.getfield 46, 3) := by decide +kernel
theorem dX5_putInto_92 : decode cX5_putInto 92 = .ok (.putfield 43, 3) := by decide +kernel
theorem dX5_putInto_95 : decode cX5_putInto 95 = .ok (.aload_n 1, 1) := by decide +kernel
theorem dX5_putInto_96 : decode cX5_putInto 96 = .ok (.aload_n 0, 1) := by decide +kernel
theorem dX5_putInto_97 : decode cX5_putInto 97 = .ok (.getfield 50, 3) := by decide +kernel
theorem dX5_putInto_100 : decode cX5_putInto 100 = .ok (.putfield 47, 3) := by decide +kernel
theorem dX5_putInto_103 : decode cX5_putInto 103 = .ok (.aload_n 1, 1) := by decide +kernel
theorem dX5_putInto_104 : decode cX5_putInto 104 = .ok (.invokevirtual 58, 3) := by decide +kernel
theorem dX5_putInto_107 : decode cX5_putInto 107 = .ok (.return_, 1) := by decide +kernel
theorem dX6_init_0 : decode cX6_init 0 = .ok (.aload_n 0, 1) := by decide +kernel
theorem dX6_init_1 : decode cX6_init 1 = .ok (.invokespecial 3, 3) := by decide +kernel
theorem dX6_init_4 : decode cX6_init 4 = .ok (.aload_n 0, 1) := by decide +kernel
theorem dX6_init_5 : decode cX6_init 5 = .ok (.bipush 100, 2) := by decide +kernel
theorem dX6_init_7 : decode cX6_init 7 = .ok (.newarray .boolean, 2) := by decide +kernel
theorem dX6_init_9 : decode cX6_init 9 = .ok (.putfield 9, 3) := by decide +kernel
theorem dX6_init_12 : decode cX6_init 12 = .ok (.return_, 1) := by decide +kernel
theorem dX7_init_0 : decode cX7_init 0 = .ok (.aload_n 0, 1) := by decide +kernel
theorem dX7_init_1 : decode cX7_init 1 = .ok (.invokespecial 3, 3) := by decide +kernel
theorem dX7_init_4 : decode cX7_init 4 = .ok (.aload_n 0, 1) := by decide +kernel
theorem dX7_init_5 : decode cX7_init 5 = .ok (.bipush 60, 2) := by decide +kernel
theorem dX7_init_7 : decode cX7_init 7 = .ok (.newarray .int, 2) := by decide +kernel
theorem dX7_init_9 : decode cX7_init 9 = .ok (.putfield 9, 3) := by decide +kernel
theorem dX7_init_12 : decode cX7_init 12 = .ok (.aload_n 0, 1) := by decide +kernel
theorem dX7_init_13 : decode cX7_init 13 = .ok (.bipush 60, 2) := by decide +kernel
theorem dX7_init_15 : decode cX7_init 15 = .ok (.newarray .int, 2) := by decide +kernel
theorem dX7_init_17 : decode cX7_init 17 = .ok (.putfield 15, 3) := by decide +kernel
theorem dX7_init_20 : decode cX7_init 20 = .ok (.aload_n 0, 1) := by decide +kernel
theorem dX7_init_21 : decode cX7_init 21 = .ok (.bipush 60, 2) := by decide +kernel
theorem dX7_init_23 : decode cX7_init 23 = .ok (.newarray .int, 2) := by decide +kernel
theorem dX7_init_25 : decode cX7_init 25 = .ok (.putfield 18, 3) := by decide +kernel
theorem dX7_init_28 : decode cX7_init 28 = .ok (.aload_n 0, 1) := by decide +kernel
theorem dX7_init_29 : decode cX7_init 29 = .ok (.bipush 60, 2) := by decide +kernel
theorem dX7_init_31 : decode cX7_init 31 = .ok (.newarray .int, 2) := by decide +kernel
theorem dX7_init_33 : decode cX7_init 33 = .ok (.putfield 21, 3) := by decide +kernel
theorem dX7_init_36 : decode cX7_init 36 = .ok (.return_, 1) := by decide +kernel
theorem dX8_init_0 : decode cX8_init 0 = .ok (.aload_n 0, 1) := by decide +kernel
theorem dX8_init_1 : decode cX8_init 1 = .ok (.invokespecial 3, 3) := by decide +kernel
theorem dX8_init_4 : decode cX8_init 4 = .ok (.aload_n 0, 1) := by decide +kernel
theorem dX8_init_5 : decode cX8_init 5 = .ok (.iconst 2, 1) := by decide +kernel
theorem dX8_init_6 : decode cX8_init 6 = .ok (.anewarray 9, 3) := by decide +kernel
theorem dX8_init_9 : decode cX8_init 9 = .ok (.putfield 11, 3) := by decide +kernel
theorem dX8_init_12 : decode cX8_init 12 = .ok (.aload_n 0, 1) := by decide +kernel
theorem dX8_init_13 : decode cX8_init 13 = .ok (.iconst 2, 1) := by decide +kernel
theorem dX8_init_14 : decode cX8_init 14 = .ok (.newarray .boolean, 2) := by decide +kernel
theorem dX8_init_16 : decode cX8_init 16 = .ok (.putfield 17, 3) := by decide +kernel
theorem dX8_init_19 : decode cX8_init 19 = .ok (.iconst 0, 1) := by decide +kernel
theorem dX8_init_20 : decode cX8_init 20 = .ok (.istore_n 1, 1) := by decide +kernel
theorem dX8_init_21 : decode cX8_init 21 = .ok (.iload_n 1, 1) := by decide +kernel
theorem dX8_init_22 : decode cX8_init 22 = .ok (.iconst 2, 1) := by decide +kernel
theorem dX8_init_23 : decode cX8_init 23 = .ok (.if_icmp .ge 22, 3) := by decide +kernel
theorem dX8_init_26 : decode cX8_init 26 = .ok (.aload_n 0, 1) := by decide +kernel
theorem dX8_init_27 : decode cX8_init 27 = .ok (.getfield 11, 3) := by decide +kernel
theorem dX8_init_30 : decode cX8_init 30 = .ok (.iload_n 1, 1) := by decide +kernel
theorem dX8_init_31 : decode cX8_init 31 = .ok (.new 9, 3) := by decide +kernel
theorem dX8_init_34 : decode cX8_init 34 = .ok (.dup, 1) := by decide +kernel
theorem dX8_init_35 : decode cX8_init 35 = .ok (.invokespecial 21, 3) := by decide +kernel
theorem dX8_init_38 : decode cX8_init 38 = .ok (.aastore, 1) := by decide +kernel
theorem dX8_init_39 : decode cX8_init 39 = .ok (.iinc 1 1, 3) := by decide +kernel
theorem dX8_init_42 : decode cX8_init 42 = .ok (.goto (-21), 3) := by decide +kernel
theorem dX8_init_45 : decode cX8_init 45 = .ok (.return_, 1) := by decide +kernel
theorem dX9_init_0 : decode cX9_init 0 = .ok (.aload_n 0, 1) := by decide +kernel
theorem dX9_init_1 : decode cX9_init 1 = .ok (.invokespecial 3, 3) := by decide +kernel
theorem dX9_init_4 : decode cX9_init 4 = .ok (.aload_n 0, 1) := by decide +kernel
theorem dX9_init_5 : decode cX9_init 5 = .ok (.bipush 60, 2) := by decide +kernel
theorem dX9_init_7 : decode cX9_init 7 = .ok (.newarray .int, 2) := by decide +kernel
theorem dX9_init_9 : decode cX9_init 9 = .ok (.putfield 9, 3) := by decide +kernel
theorem dX9_init_12 : decode cX9_init 12 = .ok (.return_, 1) := by decide +kernel
theorem dX9_length_0 : decode cX9_length 0 = .ok (.aload_n 0, 1) := by decide +kernel
theorem dX9_length_1 : decode cX9_length 1 = .ok (.getfield 15, 3) := by decide +kernel
theorem dX9_length_4 : decode cX9_length 4 = .ok (.ireturn, 1) := by decide +kernel
theorem dX9_isFull_0 : decode cX9_isFull 0 = .ok (.aload_n 0, 1) := by decide +kernel
theorem dX9_isFull_1 : decode cX9_isFull 1 = .ok (.getfield 15, 3) := by decide +kernel
theorem dX9_isFull_4 : decode cX9_isFull 4 = .ok (.bipush 60, 2) := by decide +kernel
theorem dX9_isFull_6 : decode cX9_isFull 6 = .ok (.if_icmp .lt 7, 3) := by decide +kernel
theorem dX9_isFull_9 : decode cX9_isFull 9 = .ok (.iconst 1, 1) := by decide +kernel
theorem dX9_isFull_10 : decode cX9_isFull 10 = .ok (.goto 4, 3) := by decide +kernel
theorem dX9_isFull_13 : decode cX9_isFull 13 = .ok (.iconst 0, 1) := by decide +kernel
theorem dX9_isFull_14 : decode cX9_isFull 14 = .ok (.ireturn, 1) := by decide +kernel
theorem dX9_has_0 : decode cX9_has 0 = .ok (.iload_n 1, 1) := by decide +kernel
theorem dX9_has_1 : decode cX9_has 1 = .ok (.ifCond .lt 15, 3) := by decide +kernel
theorem dX9_has_4 : decode cX9_has 4 = .ok (.iload_n 1, 1) := by decide +kernel
theorem dX9_has_5 : decode cX9_has 5 = .ok (.aload_n 0, 1) := by decide +kernel
theorem dX9_has_6 : decode cX9_has 6 = .ok (.getfield 15, 3) := by decide +kernel
theorem dX9_has_9 : decode cX9_has 9 = .ok (.if_icmp .ge 7, 3) := by decide +kernel
theorem dX9_has_12 : decode cX9_has 12 = .ok (.iconst 1, 1) := by decide +kernel
theorem dX9_has_13 : decode cX9_has 13 = .ok (.goto 4, 3) := by decide +kernel
theorem dX9_has_16 : decode cX9_has 16 = .ok (.iconst 0, 1) := by decide +kernel
theorem dX9_has_17 : decode cX9_has 17 = .ok (.ireturn, 1) := by decide +kernel
theorem dX9_at_0 : decode cX9_at 0 = .ok (.aload_n 0, 1) := by decide +kernel
theorem dX9_at_1 : decode cX9_at 1 = .ok (.iload_n 1, 1) := by decide +kernel
theorem dX9_at_2 : decode cX9_at 2 = .ok (.invokevirtual 19, 3) := by decide +kernel
theorem dX9_at_5 : decode cX9_at 5 = .ok (.ifCond .eq 12, 3) := by decide +kernel
theorem dX9_at_8 : decode cX9_at 8 = .ok (.aload_n 0, 1) := by decide +kernel
theorem dX9_at_9 : decode cX9_at 9 = .ok (.getfield 9, 3) := by decide +kernel
theorem dX9_at_12 : decode cX9_at 12 = .ok (.iload_n 1, 1) := by decide +kernel
theorem dX9_at_13 : decode cX9_at 13 = .ok (.iaload, 1) := by decide +kernel
theorem dX9_at_14 : decode cX9_at 14 = .ok (.goto 4, 3) := by decide +kernel
theorem dX9_at_17 : decode cX9_at 17 = .ok (.iconst (-1), 1) := by decide +kernel
theorem dX9_at_18 : decode cX9_at 18 = .ok (.ireturn, 1) := by decide +kernel
theorem dX9_tail_0 : decode cX9_tail 0 = .ok (.aload_n 0, 1) := by decide +kernel
theorem dX9_tail_1 : decode cX9_tail 1 = .ok (.iconst 0, 1) := by decide +kernel
theorem dX9_tail_2 : decode cX9_tail 2 = .ok (.invokevirtual 23, 3) := by decide +kernel
theorem dX9_tail_5 : decode cX9_tail 5 = .ok (.ireturn, 1) := by decide +kernel
theorem dX9_head_0 : decode cX9_head 0 = .ok (.aload_n 0, 1) := by decide +kernel
theorem dX9_head_1 : decode cX9_head 1 = .ok (.aload_n 0, 1) := by decide +kernel
theorem dX9_head_2 : decode cX9_head 2 = .ok (.getfield 15, 3) := by decide +kernel
theorem dX9_head_5 : decode cX9_head 5 = .ok (.iconst 1, 1) := by decide +kernel
theorem dX9_head_6 : decode cX9_head 6 = .ok (.isub, 1) := by decide +kernel
theorem dX9_head_7 : decode cX9_head 7 = .ok (.invokevirtual 23, 3) := by decide +kernel
theorem dX9_head_10 : decode cX9_head 10 = .ok (.ireturn, 1) := by decide +kernel
theorem dX9_clear_0 : decode cX9_clear 0 = .ok (.aload_n 0, 1) := by decide +kernel
theorem dX9_clear_1 : decode cX9_clear 1 = .ok (.iconst 0, 1) := by decide +kernel
theorem dX9_clear_2 : decode cX9_clear 2 = .ok (.putfield 15, 3) := by decide +kernel
theorem dX9_clear_5 : decode cX9_clear 5 = .ok (.return_, 1) := by decide +kernel
theorem dX9_begin_0 : decode cX9_begin 0 = .ok (.aload_n 0, 1) := by decide +kernel
theorem dX9_begin_1 : decode cX9_begin 1 = .ok (.invokevirtual 27, 3) := by decide +kernel
theorem dX9_begin_4 : decode cX9_begin 4 = .ok (.aload_n 0, 1) := by decide +kernel
theorem dX9_begin_5 : decode cX9_begin 5 = .ok (.iload_n 1, 1) := by decide +kernel
theorem dX9_begin_6 : decode cX9_begin 6 = .ok (.invokevirtual 30, 3) := by decide +kernel
theorem dX9_begin_9 : decode cX9_begin 9 = .ok (.return_, 1) := by decide +kernel
theorem dX9_push_0 : decode cX9_push 0 = .ok (.aload_n 0, 1) := by decide +kernel
theorem dX9_push_1 : decode cX9_push 1 = .ok (.invokevirtual 34, 3) := by decide +kernel
theorem dX9_push_4 : decode cX9_push 4 = .ok (.ifCond .ne 23, 3) := by decide +kernel
theorem dX9_push_7 : decode cX9_push 7 = .ok (.aload_n 0, 1) := by decide +kernel
theorem dX9_push_8 : decode cX9_push 8 = .ok (.getfield 9, 3) := by decide +kernel
theorem dX9_push_11 : decode cX9_push 11 = .ok (.aload_n 0, 1) := by decide +kernel
theorem dX9_push_12 : decode cX9_push 12 = .ok (.getfield 15, 3) := by decide +kernel
theorem dX9_push_15 : decode cX9_push 15 = .ok (.iload_n 1, 1) := by decide +kernel
theorem dX9_push_16 : decode cX9_push 16 = .ok (.iastore, 1) := by decide +kernel
theorem dX9_push_17 : decode cX9_push 17 = .ok (.aload_n 0, 1) := by decide +kernel
theorem dX9_push_18 : decode cX9_push 18 = .ok (.dup, 1) := by decide +kernel
theorem dX9_push_19 : decode cX9_push 19 = .ok (.getfield 15, 3) := by decide +kernel
theorem dX9_push_22 : decode cX9_push 22 = .ok (.iconst 1, 1) := by decide +kernel
theorem dX9_push_23 : decode cX9_push 23 = .ok (.iadd, 1) := by decide +kernel
theorem dX9_push_24 : decode cX9_push 24 = .ok (.putfield 15, 3) := by decide +kernel
theorem dX9_push_27 : decode cX9_push 27 = .ok (.return_, 1) := by decide +kernel
theorem dX9_put_0 : decode cX9_put 0 = .ok (.aload_n 0, 1) := by decide +kernel
theorem dX9_put_1 : decode cX9_put 1 = .ok (.iload_n 1, 1) := by decide +kernel
theorem dX9_put_2 : decode cX9_put 2 = .ok (.invokevirtual 19, 3) := by decide +kernel
theorem dX9_put_5 : decode cX9_put 5 = .ok (.ifCond .eq 10, 3) := by decide +kernel
theorem dX9_put_8 : decode cX9_put 8 = .ok (.aload_n 0, 1) := by decide +kernel
theorem dX9_put_9 : decode cX9_put 9 = .ok (.getfield 9, 3) := by decide +kernel
theorem dX9_put_12 : decode cX9_put 12 = .ok (.iload_n 1, 1) := by decide +kernel
theorem dX9_put_13 : decode cX9_put 13 = .ok (.iload_n 2, 1) := by decide +kernel
theorem dX9_put_14 : decode cX9_put 14 = .ok (.iastore, 1) := by decide +kernel
theorem dX9_put_15 : decode cX9_put 15 = .ok (.return_, 1) := by decide +kernel
theorem dX9_endAt_0 : decode cX9_endAt 0 = .ok (.aload_n 0, 1) := by decide +kernel
theorem dX9_endAt_1 : decode cX9_endAt 1 = .ok (.iload_n 1, 1) := by decide +kernel
theorem dX9_endAt_2 : decode cX9_endAt 2 = .ok (.invokevirtual 19, 3) := by decide +kernel
theorem dX9_endAt_5 : decode cX9_endAt 5 = .ok (.ifCond .eq 10, 3) := by decide +kernel
theorem dX9_endAt_8 : decode cX9_endAt 8 = .ok (.aload_n 0, 1) := by decide +kernel
theorem dX9_endAt_9 : decode cX9_endAt 9 = .ok (.iload_n 1, 1) := by decide +kernel
theorem dX9_endAt_10 : decode cX9_endAt 10 = .ok (.iconst 1, 1) := by decide +kernel
theorem dX9_endAt_11 : decode cX9_endAt 11 = .ok (.iadd, 1) := by decide +kernel
theorem dX9_endAt_12 : decode cX9_endAt 12 = .ok (.putfield 15, 3) := by decide +kernel
theorem dX9_endAt_15 : decode cX9_endAt 15 = .ok (.return_, 1) := by decide +kernel
theorem dX9_advanceTo_0 : decode cX9_advanceTo 0 = .ok (.iconst 1, 1) := by decide +kernel
theorem dX9_advanceTo_1 : decode cX9_advanceTo 1 = .ok (.istore_n 2, 1) := by decide +kernel
theorem dX9_advanceTo_2 : decode cX9_advanceTo 2 = .ok (.iload_n 2, 1) := by decide +kernel
theorem dX9_advanceTo_3 : decode cX9_advanceTo 3 = .ok (.aload_n 0, 1) := by decide +kernel
theorem dX9_advanceTo_4 : decode cX9_advanceTo 4 = .ok (.getfield 15, 3) := by decide +kernel
theorem dX9_advanceTo_7 : decode cX9_advanceTo 7 = .ok (.if_icmp .ge 23, 3) := by decide +kernel
theorem dX9_advanceTo_10 : decode cX9_advanceTo 10 = .ok (.aload_n 0, 1) := by decide +kernel
theorem dX9_advanceTo_11 : decode cX9_advanceTo 11 = .ok (.getfield 9, 3) := by decide +kernel
theorem dX9_advanceTo_14 : decode cX9_advanceTo 14 = .ok (.iload_n 2, 1) := by decide +kernel
theorem dX9_advanceTo_15 : decode cX9_advanceTo 15 = .ok (.iconst 1, 1) := by decide +kernel
theorem dX9_advanceTo_16 : decode cX9_advanceTo 16 = .ok (.isub, 1) := by decide +kernel
theorem dX9_advanceTo_17 : decode cX9_advanceTo 17 = .ok (.aload_n 0, 1) := by decide +kernel
theorem dX9_advanceTo_18 : decode cX9_advanceTo 18 = .ok (.getfield 9, 3) := by decide +kernel
theorem dX9_advanceTo_21 : decode cX9_advanceTo 21 = .ok (.iload_n 2, 1) := by decide +kernel
theorem dX9_advanceTo_22 : decode cX9_advanceTo 22 = .ok (.iaload, 1) := by decide +kernel
theorem dX9_advanceTo_23 : decode cX9_advanceTo 23 = .ok (.iastore, 1) := by decide +kernel
theorem dX9_advanceTo_24 : decode cX9_advanceTo 24 = .ok (.iinc 2 1, 3) := by decide +kernel
theorem dX9_advanceTo_27 : decode cX9_advanceTo 27 = .ok (.goto (-25), 3) := by decide +kernel
theorem dX9_advanceTo_30 : decode cX9_advanceTo 30 = .ok (.aload_n 0, 1) := by decide +kernel
theorem dX9_advanceTo_31 : decode cX9_advanceTo 31 = .ok (.aload_n 0, 1) := by decide +kernel
theorem dX9_advanceTo_32 : decode cX9_advanceTo 32 = .ok (.getfield 15, 3) := by decide +kernel
theorem dX9_advanceTo_35 : decode cX9_advanceTo 35 = .ok (.iconst 1, 1) := by decide +kernel
theorem dX9_advanceTo_36 : decode cX9_advanceTo 36 = .ok (.isub, 1) := by decide +kernel
theorem dX9_advanceTo_37 : decode cX9_advanceTo 37 = .ok (.iload_n 1, 1) := by decide +kernel
theorem dX9_advanceTo_38 : decode cX9_advanceTo 38 = .ok (.invokevirtual 38, 3) := by decide +kernel
theorem dX9_advanceTo_41 : decode cX9_advanceTo 41 = .ok (.return_, 1) := by decide +kernel
theorem dX9_copyFrom_0 : decode cX9_copyFrom 0 = .ok (.aload_n 0, 1) := by decide +kernel
theorem dX9_copyFrom_1 : decode cX9_copyFrom 1 = .ok (.invokevirtual 27, 3) := by decide +kernel
theorem dX9_copyFrom_4 : decode cX9_copyFrom 4 = .ok (.iload_n 2, 1) := by decide +kernel
theorem dX9_copyFrom_5 : decode cX9_copyFrom 5 = .ok (.istore_n 3, 1) := by decide +kernel
theorem dX9_copyFrom_6 : decode cX9_copyFrom 6 = .ok (.iload_n 3, 1) := by decide +kernel
theorem dX9_copyFrom_7 : decode cX9_copyFrom 7 = .ok (.aload_n 1, 1) := by decide +kernel
theorem dX9_copyFrom_8 : decode cX9_copyFrom 8 = .ok (.getfield 15, 3) := by decide +kernel
theorem dX9_copyFrom_11 : decode cX9_copyFrom 11 = .ok (.if_icmp .ge 18, 3) := by decide +kernel
theorem dX9_copyFrom_14 : decode cX9_copyFrom 14 = .ok (.aload_n 0, 1) := by decide +kernel
theorem dX9_copyFrom_15 : decode cX9_copyFrom 15 = .ok (.aload_n 1, 1) := by decide +kernel
theorem dX9_copyFrom_16 : decode cX9_copyFrom 16 = .ok (.iload_n 3, 1) := by decide +kernel
theorem dX9_copyFrom_17 : decode cX9_copyFrom 17 = .ok (.invokevirtual 23, 3) := by decide +kernel
theorem dX9_copyFrom_20 : decode cX9_copyFrom 20 = .ok (.invokevirtual 30, 3) := by decide +kernel
theorem dX9_copyFrom_23 : decode cX9_copyFrom 23 = .ok (.iinc 3 1, 3) := by decide +kernel
theorem dX9_copyFrom_26 : decode cX9_copyFrom 26 = .ok (.goto (-20), 3) := by decide +kernel
theorem dX9_copyFrom_29 : decode cX9_copyFrom 29 = .ok (.return_, 1) := by decide +kernel
theorem dX9_flip_0 : decode cX9_flip 0 = .ok (.iconst 0, 1) := by decide +kernel
theorem dX9_flip_1 : decode cX9_flip 1 = .ok (.istore_n 1, 1) := by decide +kernel
theorem dX9_flip_2 : decode cX9_flip 2 = .ok (.aload_n 0, 1) := by decide +kernel
theorem dX9_flip_3 : decode cX9_flip 3 = .ok (.getfield 15, 3) := by decide +kernel
theorem dX9_flip_6 : decode cX9_flip 6 = .ok (.iconst 1, 1) := by decide +kernel
theorem dX9_flip_7 : decode cX9_flip 7 = .ok (.isub, 1) := by decide +kernel
theorem dX9_flip_8 : decode cX9_flip 8 = .ok (.istore_n 2, 1) := by decide +kernel
theorem dX9_flip_9 : decode cX9_flip 9 = .ok (.iload_n 1, 1) := by decide +kernel
theorem dX9_flip_10 : decode cX9_flip 10 = .ok (.iload_n 2, 1) := by decide +kernel
theorem dX9_flip_11 : decode cX9_flip 11 = .ok (.if_icmp .ge 38, 3) := by decide +kernel
theorem dX9_flip_14 : decode cX9_flip 14 = .ok (.aload_n 0, 1) := by decide +kernel
theorem dX9_flip_15 : decode cX9_flip 15 = .ok (.getfield 9, 3) := by decide +kernel
theorem dX9_flip_18 : decode cX9_flip 18 = .ok (.iload_n 1, 1) := by decide +kernel
theorem dX9_flip_19 : decode cX9_flip 19 = .ok (.iaload, 1) := by decide +kernel
theorem dX9_flip_20 : decode cX9_flip 20 = .ok (.istore_n 3, 1) := by decide +kernel
theorem dX9_flip_21 : decode cX9_flip 21 = .ok (.aload_n 0, 1) := by decide +kernel
theorem dX9_flip_22 : decode cX9_flip 22 = .ok (.getfield 9, 3) := by decide +kernel
theorem dX9_flip_25 : decode cX9_flip 25 = .ok (.iload_n 1, 1) := by decide +kernel
theorem dX9_flip_26 : decode cX9_flip 26 = .ok (.aload_n 0, 1) := by decide +kernel
theorem dX9_flip_27 : decode cX9_flip 27 = .ok (.getfield 9, 3) := by decide +kernel
theorem dX9_flip_30 : decode cX9_flip 30 = .ok (.iload_n 2, 1) := by decide +kernel
theorem dX9_flip_31 : decode cX9_flip 31 = .ok (.iaload, 1) := by decide +kernel
theorem dX9_flip_32 : decode cX9_flip 32 = .ok (.iastore, 1) := by decide +kernel
theorem dX9_flip_33 : decode cX9_flip 33 = .ok (.aload_n 0, 1) := by decide +kernel
theorem dX9_flip_34 : decode cX9_flip 34 = .ok (.getfield 9, 3) := by decide +kernel
theorem dX9_flip_37 : decode cX9_flip 37 = .ok (.iload_n 2, 1) := by decide +kernel
theorem dX9_flip_38 : decode cX9_flip 38 = .ok (.iload_n 3, 1) := by decide +kernel
theorem dX9_flip_39 : decode cX9_flip 39 = .ok (.iastore, 1) := by decide +kernel
theorem dX9_flip_40 : decode cX9_flip 40 = .ok (.iinc 1 1, 3) := by decide +kernel
theorem dX9_flip_43 : decode cX9_flip 43 = .ok (.iinc 2 (-1), 3) := by decide +kernel
theorem dX9_flip_46 : decode cX9_flip 46 = .ok (.goto (-37), 3) := by decide +kernel
theorem dX9_flip_49 : decode cX9_flip 49 = .ok (.return_, 1) := by decide +kernel
theorem dX9_steps_0 : decode cX9_steps 0 = .ok (.aload_n 0, 1) := by decide +kernel
theorem dX9_steps_1 : decode cX9_steps 1 = .ok (.getfield 15, 3) := by decide +kernel
theorem dX9_steps_4 : decode cX9_steps 4 = .ok (.iconst 1, 1) := by decide +kernel
theorem dX9_steps_5 : decode cX9_steps 5 = .ok (.isub, 1) := by decide +kernel
theorem dX9_steps_6 : decode cX9_steps 6 = .ok (.ireturn, 1) := by decide +kernel
theorem dX9_stepAt_0 : decode cX9_stepAt 0 = .ok (.aload_n 0, 1) := by decide +kernel
theorem dX9_stepAt_1 : decode cX9_stepAt 1 = .ok (.iload_n 1, 1) := by decide +kernel
theorem dX9_stepAt_2 : decode cX9_stepAt 2 = .ok (.invokevirtual 23, 3) := by decide +kernel
theorem dX9_stepAt_5 : decode cX9_stepAt 5 = .ok (.aload_n 0, 1) := by decide +kernel
theorem dX9_stepAt_6 : decode cX9_stepAt 6 = .ok (.iload_n 1, 1) := by decide +kernel
theorem dX9_stepAt_7 : decode cX9_stepAt 7 = .ok (.iconst 1, 1) := by decide +kernel
theorem dX9_stepAt_8 : decode cX9_stepAt 8 = .ok (.iadd, 1) := by decide +kernel
theorem dX9_stepAt_9 : decode cX9_stepAt 9 = .ok (.invokevirtual 23, 3) := by decide +kernel
theorem dX9_stepAt_12 : decode cX9_stepAt 12 = .ok (.invokestatic 42, 3) := by decide +kernel
theorem dX9_stepAt_15 : decode cX9_stepAt 15 = .ok (.ireturn, 1) := by decide +kernel
theorem dX9_corners_0 : decode cX9_corners 0 = .ok (.iconst 0, 1) := by decide +kernel
theorem dX9_corners_1 : decode cX9_corners 1 = .ok (.istore_n 1, 1) := by decide +kernel
theorem dX9_corners_2 : decode cX9_corners 2 = .ok (.iconst 1, 1) := by decide +kernel
theorem dX9_corners_3 : decode cX9_corners 3 = .ok (.istore_n 2, 1) := by decide +kernel
theorem dX9_corners_4 : decode cX9_corners 4 = .ok (.iload_n 2, 1) := by decide +kernel
theorem dX9_corners_5 : decode cX9_corners 5 = .ok (.aload_n 0, 1) := by decide +kernel
theorem dX9_corners_6 : decode cX9_corners 6 = .ok (.invokevirtual 48, 3) := by decide +kernel
theorem dX9_corners_9 : decode cX9_corners 9 = .ok (.if_icmp .ge 27, 3) := by decide +kernel
theorem dX9_corners_12 : decode cX9_corners 12 = .ok (.aload_n 0, 1) := by decide +kernel
theorem dX9_corners_13 : decode cX9_corners 13 = .ok (.iload_n 2, 1) := by decide +kernel
theorem dX9_corners_14 : decode cX9_corners 14 = .ok (.invokevirtual 52, 3) := by decide +kernel
theorem dX9_corners_17 : decode cX9_corners 17 = .ok (.aload_n 0, 1) := by decide +kernel
theorem dX9_corners_18 : decode cX9_corners 18 = .ok (.iload_n 2, 1) := by decide +kernel
theorem dX9_corners_19 : decode cX9_corners 19 = .ok (.iconst 1, 1) := by decide +kernel
theorem dX9_corners_20 : decode cX9_corners 20 = .ok (.isub, 1) := by decide +kernel
theorem dX9_corners_21 : decode cX9_corners 21 = .ok (.invokevirtual 52, 3) := by decide +kernel
theorem dX9_corners_24 : decode cX9_corners 24 = .ok (.if_icmp .eq 6, 3) := by decide +kernel
theorem dX9_corners_27 : decode cX9_corners 27 = .ok (.iinc 1 1, 3) := by decide +kernel
theorem dX9_corners_30 : decode cX9_corners 30 = .ok (.iinc 2 1, 3) := by decide +kernel
theorem dX9_corners_33 : decode cX9_corners 33 = .ok (.goto (-29), 3) := by decide +kernel
theorem dX9_corners_36 : decode cX9_corners 36 = .ok (.iload_n 1, 1) := by decide +kernel
theorem dX9_corners_37 : decode cX9_corners 37 = .ok (.ireturn, 1) := by decide +kernel
theorem dX9_width_0 : decode cX9_width 0 = .ok (.bipush 10, 2) := by decide +kernel
theorem dX9_width_2 : decode cX9_width 2 = .ok (.istore_n 1, 1) := by decide +kernel
theorem dX9_width_3 : decode cX9_width 3 = .ok (.iconst 0, 1) := by decide +kernel
theorem dX9_width_4 : decode cX9_width 4 = .ok (.istore_n 2, 1) := by decide +kernel
theorem dX9_width_5 : decode cX9_width 5 = .ok (.iconst 0, 1) := by decide +kernel
theorem dX9_width_6 : decode cX9_width 6 = .ok (.istore_n 3, 1) := by decide +kernel
theorem dX9_width_7 : decode cX9_width 7 = .ok (.iload_n 3, 1) := by decide +kernel
theorem dX9_width_8 : decode cX9_width 8 = .ok (.aload_n 0, 1) := by decide +kernel
theorem dX9_width_9 : decode cX9_width 9 = .ok (.getfield 15, 3) := by decide +kernel
theorem dX9_width_12 : decode cX9_width 12 = .ok (.if_icmp .ge 37, 3) := by decide +kernel
theorem dX9_width_15 : decode cX9_width 15 = .ok (.iload_n 1, 1) := by decide +kernel
theorem dX9_width_16 : decode cX9_width 16 = .ok (.aload_n 0, 1) := by decide +kernel
theorem dX9_width_17 : decode cX9_width 17 = .ok (.getfield 9, 3) := by decide +kernel
theorem dX9_width_20 : decode cX9_width 20 = .ok (.iload_n 3, 1) := by decide +kernel
theorem dX9_width_21 : decode cX9_width 21 = .ok (.iaload, 1) := by decide +kernel
theorem dX9_width_22 : decode cX9_width 22 = .ok (.invokestatic 55, 3) := by decide +kernel
theorem dX9_width_25 : decode cX9_width 25 = .ok (.invokestatic 58, 3) := by decide +kernel
theorem dX9_width_28 : decode cX9_width 28 = .ok (.istore_n 1, 1) := by decide +kernel
theorem dX9_width_29 : decode cX9_width 29 = .ok (.iload_n 2, 1) := by decide +kernel
theorem dX9_width_30 : decode cX9_width 30 = .ok (.aload_n 0, 1) := by decide +kernel
theorem dX9_width_31 : decode cX9_width 31 = .ok (.getfield 9, 3) := by decide +kernel
theorem dX9_width_34 : decode cX9_width 34 = .ok (.iload_n 3, 1) := by decide +kernel
theorem dX9_width_35 : decode cX9_width 35 = .ok (.iaload, 1) := by decide +kernel
theorem dX9_width_36 : decode cX9_width 36 = .ok (.invokestatic 55, 3) := by decide +kernel
theorem dX9_width_39 : decode cX9_width 39 = .ok (.invokestatic 63, 3) := by decide +kernel
theorem dX9_width_42 : decode cX9_width 42 = .ok (.istore_n 2, 1) := by decide +kernel
theorem dX9_width_43 : decode cX9_width 43 = .ok (.iinc 3 1, 3) := by decide +kernel
theorem dX9_width_46 : decode cX9_width 46 = .ok (.goto (-39), 3) := by decide +kernel
theorem dX9_width_49 : decode cX9_width 49 = .ok (.iload_n 2, 1) := by decide +kernel
theorem dX9_width_50 : decode cX9_width 50 = .ok (.iload_n 1, 1) := by decide +kernel
theorem dX9_width_51 : decode cX9_width 51 = .ok (.isub, 1) := by decide +kernel
theorem dX9_width_52 : decode cX9_width 52 = .ok (.iconst 1, 1) := by decide +kernel
theorem dX9_width_53 : decode cX9_width 53 = .ok (.iadd, 1) := by decide +kernel
theorem dX9_width_54 : decode cX9_width 54 = .ok (.ireturn, 1) := by decide +kernel
theorem dX9_height_0 : decode cX9_height 0 = .ok (.bipush 10, 2) := by decide +kernel
theorem dX9_height_2 : decode cX9_height 2 = .ok (.istore_n 1, 1) := by decide +kernel
theorem dX9_height_3 : decode cX9_height 3 = .ok (.iconst 0, 1) := by decide +kernel
theorem dX9_height_4 : decode cX9_height 4 = .ok (.istore_n 2, 1) := by decide +kernel
theorem dX9_height_5 : decode cX9_height 5 = .ok (.iconst 0, 1) := by decide +kernel
theorem dX9_height_6 : decode cX9_height 6 = .ok (.istore_n 3, 1) := by decide +kernel
theorem dX9_height_7 : decode cX9_height 7 = .ok (.iload_n 3, 1) := by decide +kernel
theorem dX9_height_8 : decode cX9_height 8 = .ok (.aload_n 0, 1) := by decide +kernel
theorem dX9_height_9 : decode cX9_height 9 = .ok (.getfield 15, 3) := by decide +kernel
theorem dX9_height_12 : decode cX9_height 12 = .ok (.if_icmp .ge 37, 3) := by decide +kernel
theorem dX9_height_15 : decode cX9_height 15 = .ok (.iload_n 1, 1) := by decide +kernel
theorem dX9_height_16 : decode cX9_height 16 = .ok (.aload_n 0, 1) := by decide +kernel
theorem dX9_height_17 : decode cX9_height 17 = .ok (.getfield 9, 3) := by decide +kernel
theorem dX9_height_20 : decode cX9_height 20 = .ok (.iload_n 3, 1) := by decide +kernel
theorem dX9_height_21 : decode cX9_height 21 = .ok (.iaload, 1) := by decide +kernel
theorem dX9_height_22 : decode cX9_height 22 = .ok (.invokestatic 66, 3) := by decide +kernel
theorem dX9_height_25 : decode cX9_height 25 = .ok (.invokestatic 58, 3) := by decide +kernel
theorem dX9_height_28 : decode cX9_height 28 = .ok (.istore_n 1, 1) := by decide +kernel
theorem dX9_height_29 : decode cX9_height 29 = .ok (.iload_n 2, 1) := by decide +kernel
theorem dX9_height_30 : decode cX9_height 30 = .ok (.aload_n 0, 1) := by decide +kernel
theorem dX9_height_31 : decode cX9_height 31 = .ok (.getfield 9, 3) := by decide +kernel
theorem dX9_height_34 : decode cX9_height 34 = .ok (.iload_n 3, 1) := by decide +kernel
theorem dX9_height_35 : decode cX9_height 35 = .ok (.iaload, 1) := by decide +kernel
theorem dX9_height_36 : decode cX9_height 36 = .ok (.invokestatic 66, 3) := by decide +kernel
theorem dX9_height_39 : decode cX9_height 39 = .ok (.invokestatic 63, 3) := by decide +kernel
theorem dX9_height_42 : decode cX9_height 42 = .ok (.istore_n 2, 1) := by decide +kernel
theorem dX9_height_43 : decode cX9_height 43 = .ok (.iinc 3 1, 3) := by decide +kernel
theorem dX9_height_46 : decode cX9_height 46 = .ok (.goto (-39), 3) := by decide +kernel
theorem dX9_height_49 : decode cX9_height 49 = .ok (.iload_n 2, 1) := by decide +kernel
theorem dX9_height_50 : decode cX9_height 50 = .ok (.iload_n 1, 1) := by decide +kernel
theorem dX9_height_51 : decode cX9_height 51 = .ok (.isub, 1) := by decide +kernel
theorem dX9_height_52 : decode cX9_height 52 = .ok (.iconst 1, 1) := by decide +kernel
theorem dX9_height_53 : decode cX9_height 53 = .ok (.iadd, 1) := by decide +kernel
theorem dX9_height_54 : decode cX9_height 54 = .ok (.ireturn, 1) := by decide +kernel
theorem dX9_moment_0 : decode cX9_moment 0 = .ok (.iconst 0, 1) := by decide +kernel
theorem dX9_moment_1 : decode cX9_moment 1 = .ok (.istore_n 1, 1) := by decide +kernel
theorem dX9_moment_2 : decode cX9_moment 2 = .ok (.iconst 0, 1) := by decide +kernel
theorem dX9_moment_3 : decode cX9_moment 3 = .ok (.istore_n 2, 1) := by decide +kernel
theorem dX9_moment_4 : decode cX9_moment 4 = .ok (.iconst 0, 1) := by decide +kernel
theorem dX9_moment_5 : decode cX9_moment 5 = .ok (.istore_n 3, 1) := by decide +kernel
theorem dX9_moment_6 : decode cX9_moment 6 = .ok (.iconst 0, 1) := by decide +kernel
theorem dX9_moment_7 : decode cX9_moment 7 = .ok (.istore 4, 2) := by decide +kernel
theorem dX9_moment_9 : decode cX9_moment 9 = .ok (.iload 4, 2) := by decide +kernel
theorem dX9_moment_11 : decode cX9_moment 11 = .ok (.aload_n 0, 1) := by decide +kernel
theorem dX9_moment_12 : decode cX9_moment 12 = .ok (.getfield 15, 3) := by decide +kernel
theorem dX9_moment_15 : decode cX9_moment 15 = .ok (.if_icmp .ge 57, 3) := by decide +kernel
theorem dX9_moment_18 : decode cX9_moment 18 = .ok (.aload_n 0, 1) := by decide +kernel
theorem dX9_moment_19 : decode cX9_moment 19 = .ok (.getfield 9, 3) := by decide +kernel
theorem dX9_moment_22 : decode cX9_moment 22 = .ok (.iload 4, 2) := by decide +kernel
theorem dX9_moment_24 : decode cX9_moment 24 = .ok (.iaload, 1) := by decide +kernel
theorem dX9_moment_25 : decode cX9_moment 25 = .ok (.invokestatic 55, 3) := by decide +kernel
theorem dX9_moment_28 : decode cX9_moment 28 = .ok (.istore 5, 2) := by decide +kernel
theorem dX9_moment_30 : decode cX9_moment 30 = .ok (.aload_n 0, 1) := by decide +kernel
theorem dX9_moment_31 : decode cX9_moment 31 = .ok (.getfield 9, 3) := by decide +kernel
theorem dX9_moment_34 : decode cX9_moment 34 = .ok (.iload 4, 2) := by decide +kernel
theorem dX9_moment_36 : decode cX9_moment 36 = .ok (.iaload, 1) := by decide +kernel
theorem dX9_moment_37 : decode cX9_moment 37 = .ok (.invokestatic 66, 3) := by decide +kernel
theorem dX9_moment_40 : decode cX9_moment 40 = .ok (.istore 6, 2) := by decide +kernel
theorem dX9_moment_42 : decode cX9_moment 42 = .ok (.iload_n 1, 1) := by decide +kernel
theorem dX9_moment_43 : decode cX9_moment 43 = .ok (.iload 5, 2) := by decide +kernel
theorem dX9_moment_45 : decode cX9_moment 45 = .ok (.iadd, 1) := by decide +kernel
theorem dX9_moment_46 : decode cX9_moment 46 = .ok (.istore_n 1, 1) := by decide +kernel
theorem dX9_moment_47 : decode cX9_moment 47 = .ok (.iload_n 2, 1) := by decide +kernel
theorem dX9_moment_48 : decode cX9_moment 48 = .ok (.iload 6, 2) := by decide +kernel
theorem dX9_moment_50 : decode cX9_moment 50 = .ok (.iadd, 1) := by decide +kernel
theorem dX9_moment_51 : decode cX9_moment 51 = .ok (.istore_n 2, 1) := by decide +kernel
theorem dX9_moment_52 : decode cX9_moment 52 = .ok (.iload_n 3, 1) := by decide +kernel
theorem dX9_moment_53 : decode cX9_moment 53 = .ok (.iload 5, 2) := by decide +kernel
theorem dX9_moment_55 : decode cX9_moment 55 = .ok (.iload 5, 2) := by decide +kernel
theorem dX9_moment_57 : decode cX9_moment 57 = .ok (.imul, 1) := by decide +kernel
theorem dX9_moment_58 : decode cX9_moment 58 = .ok (.iload 6, 2) := by decide +kernel
theorem dX9_moment_60 : decode cX9_moment 60 = .ok (.iload 6, 2) := by decide +kernel
theorem dX9_moment_62 : decode cX9_moment 62 = .ok (.imul, 1) := by decide +kernel
theorem dX9_moment_63 : decode cX9_moment 63 = .ok (.iadd, 1) := by decide +kernel
theorem dX9_moment_64 : decode cX9_moment 64 = .ok (.iadd, 1) := by decide +kernel
theorem dX9_moment_65 : decode cX9_moment 65 = .ok (.istore_n 3, 1) := by decide +kernel
theorem dX9_moment_66 : decode cX9_moment 66 = .ok (.iinc 4 1, 3) := by decide +kernel
theorem dX9_moment_69 : decode cX9_moment 69 = .ok (.goto (-60), 3) := by decide +kernel
theorem dX9_moment_72 : decode cX9_moment 72 = .ok (.aload_n 0, 1) := by decide +kernel
theorem dX9_moment_73 : decode cX9_moment 73 = .ok (.getfield 15, 3) := by decide +kernel
theorem dX9_moment_76 : decode cX9_moment 76 = .ok (.iload_n 3, 1) := by decide +kernel
theorem dX9_moment_77 : decode cX9_moment 77 = .ok (.imul, 1) := by decide +kernel
theorem dX9_moment_78 : decode cX9_moment 78 = .ok (.iload_n 1, 1) := by decide +kernel
theorem dX9_moment_79 : decode cX9_moment 79 = .ok (.iload_n 1, 1) := by decide +kernel
theorem dX9_moment_80 : decode cX9_moment 80 = .ok (.imul, 1) := by decide +kernel
theorem dX9_moment_81 : decode cX9_moment 81 = .ok (.isub, 1) := by decide +kernel
theorem dX9_moment_82 : decode cX9_moment 82 = .ok (.iload_n 2, 1) := by decide +kernel
theorem dX9_moment_83 : decode cX9_moment 83 = .ok (.iload_n 2, 1) := by decide +kernel
theorem dX9_moment_84 : decode cX9_moment 84 = .ok (.imul, 1) := by decide +kernel
theorem dX9_moment_85 : decode cX9_moment 85 = .ok (.isub, 1) := by decide +kernel
theorem dX9_moment_86 : decode cX9_moment 86 = .ok (.ireturn, 1) := by decide +kernel
theorem dX10_init_0 : decode cX10_init 0 = .ok (.aload_n 0, 1) := by decide +kernel
theorem dX10_init_1 : decode cX10_init 1 = .ok (.invokespecial 3, 3) := by decide +kernel
theorem dX10_init_4 : decode cX10_init 4 = .ok (.aload_n 0, 1) := by decide +kernel
theorem dX10_init_5 : decode cX10_init 5 = .ok (.bipush 60, 2) := by decide +kernel
theorem dX10_init_7 : decode cX10_init 7 = .ok (.newarray .int, 2) := by decide +kernel
theorem dX10_init_9 : decode cX10_init 9 = .ok (.putfield 9, 3) := by decide +kernel
theorem dX10_init_12 : decode cX10_init 12 = .ok (.return_, 1) := by decide +kernel
theorem dX10_refusal_0 : decode cX10_refusal 0 = .ok (.aload_n 1, 1) := by decide +kernel
theorem dX10_refusal_1 : decode cX10_refusal 1 = .ok (.iload_n 2, 1) := by decide +kernel
theorem dX10_refusal_2 : decode cX10_refusal 2 = .ok (.invokevirtual 15, 3) := by decide +kernel
theorem dX10_refusal_5 : decode cX10_refusal 5 = .ok (.astore 5, 2) := by decide +kernel
theorem dX10_refusal_7 : decode cX10_refusal 7 = .ok (.aload_n 0, 1) := by decide +kernel
theorem dX10_refusal_8 : decode cX10_refusal 8 = .ok (.aload 5, 2) := by decide +kernel
theorem dX10_refusal_10 : decode cX10_refusal 10 = .ok (.iload_n 3, 1) := by decide +kernel
theorem dX10_refusal_11 : decode cX10_refusal 11 = .ok (.iload 4, 2) := by decide +kernel
theorem dX10_refusal_13 : decode cX10_refusal 13 = .ok (.invokevirtual 21, 3) := by decide +kernel
theorem dX10_refusal_16 : decode cX10_refusal 16 = .ok (.ifCond .ne 5, 3) := by decide +kernel
theorem dX10_refusal_19 : decode cX10_refusal 19 = .ok (.iconst 1, 1) := by decide +kernel
theorem dX10_refusal_20 : decode cX10_refusal 20 = .ok (.ireturn, 1) := by decide +kernel
theorem dX10_refusal_21 : decode cX10_refusal 21 = .ok (.iconst 0, 1) := by decide +kernel
theorem dX10_refusal_22 : decode cX10_refusal 22 = .ok (.istore 6, 2) := by decide +kernel
theorem dX10_refusal_24 : decode cX10_refusal 24 = .ok (.iload_n 3, 1) := by decide +kernel
theorem dX10_refusal_25 : decode cX10_refusal 25 = .ok (.iconst 1, 1) := by decide +kernel
theorem dX10_refusal_26 : decode cX10_refusal 26 = .ok (.iadd, 1) := by decide +kernel
theorem dX10_refusal_27 : decode cX10_refusal 27 = .ok (.istore 7, 2) := by decide +kernel
theorem dX10_refusal_29 : decode cX10_refusal 29 = .ok (.iload 7, 2) := by decide +kernel
theorem dX10_refusal_31 : decode cX10_refusal 31 = .ok (.aload 5, 2) := by decide +kernel
theorem dX10_refusal_33 : decode cX10_refusal 33 = .ok (.invokevirtual 25, 3) := by decide +kernel
theorem dX10_refusal_36 : decode cX10_refusal 36 = .ok (.if_icmp .ge 60, 3) := by decide +kernel
theorem dX10_refusal_39 : decode cX10_refusal 39 = .ok (.aload_n 1, 1) := by decide +kernel
theorem dX10_refusal_40 : decode cX10_refusal 40 = .ok (.aload_n 0, 1) := by decide +kernel
theorem dX10_refusal_41 : decode cX10_refusal 41 = .ok (.getfield 9, 3) := by decide +kernel
theorem dX10_refusal_44 : decode cX10_refusal 44 = .ok (.iload 7, 2) := by decide +kernel
theorem dX10_refusal_46 : decode cX10_refusal 46 = .ok (.iaload, 1) := by decide +kernel
theorem dX10_refusal_47 : decode cX10_refusal 47 = .ok (.invokevirtual 31, 3) := by decide +kernel
theorem dX10_refusal_50 : decode cX10_refusal 50 = .ok (.istore 8, 2) := by decide +kernel
theorem dX10_refusal_52 : decode cX10_refusal 52 = .ok (.iload 8, 2) := by decide +kernel
theorem dX10_refusal_54 : decode cX10_refusal 54 = .ok (.iload_n 2, 1) := by decide +kernel
theorem dX10_refusal_55 : decode cX10_refusal 55 = .ok (.if_icmp .ne 20, 3) := by decide +kernel
theorem dX10_refusal_58 : decode cX10_refusal 58 = .ok (.aload_n 1, 1) := by decide +kernel
theorem dX10_refusal_59 : decode cX10_refusal 59 = .ok (.aload_n 0, 1) := by decide +kernel
theorem dX10_refusal_60 : decode cX10_refusal 60 = .ok (.getfield 9, 3) := by decide +kernel
theorem dX10_refusal_63 : decode cX10_refusal 63 = .ok (.iload 7, 2) := by decide +kernel
theorem dX10_refusal_65 : decode cX10_refusal 65 = .ok (.iaload, 1) := by decide +kernel
theorem dX10_refusal_66 : decode cX10_refusal 66 = .ok (.invokevirtual 35, 3) := by decide +kernel
theorem dX10_refusal_69 : decode cX10_refusal 69 = .ok (.iload_n 3, 1) := by decide +kernel
theorem dX10_refusal_70 : decode cX10_refusal 70 = .ok (.if_icmp .gt 5, 3) := by decide +kernel
theorem dX10_refusal_73 : decode cX10_refusal 73 = .ok (.iconst 2, 1) := by decide +kernel
theorem dX10_refusal_74 : decode cX10_refusal 74 = .ok (.ireturn, 1) := by decide +kernel
theorem dX10_refusal_75 : decode cX10_refusal 75 = .ok (.iload 8, 2) := by decide +kernel
theorem dX10_refusal_77 : decode cX10_refusal 77 = .ok (.iconst (-1), 1) := by decide +kernel
theorem dX10_refusal_78 : decode cX10_refusal 78 = .ok (.if_icmp .eq 12, 3) := by decide +kernel
theorem dX10_refusal_81 : decode cX10_refusal 81 = .ok (.iload 8, 2) := by decide +kernel
theorem dX10_refusal_83 : decode cX10_refusal 83 = .ok (.iload_n 2, 1) := by decide +kernel
theorem dX10_refusal_84 : decode cX10_refusal 84 = .ok (.if_icmp .eq 6, 3) := by decide +kernel
theorem dX10_refusal_87 : decode cX10_refusal 87 = .ok (.iconst 3, 1) := by decide +kernel
theorem dX10_refusal_88 : decode cX10_refusal 88 = .ok (.istore 6, 2) := by decide +kernel
theorem dX10_refusal_90 : decode cX10_refusal 90 = .ok (.iinc 7 1, 3) := by decide +kernel
theorem dX10_refusal_93 : decode cX10_refusal 93 = .ok (.goto (-64), 3) := by decide +kernel
theorem dX10_refusal_96 : decode cX10_refusal 96 = .ok (.iload 6, 2) := by decide +kernel
theorem dX10_refusal_98 : decode cX10_refusal 98 = .ok (.ireturn, 1) := by decide +kernel
theorem dX10_land_0 : decode cX10_land 0 = .ok (.aload_n 1, 1) := by decide +kernel
theorem dX10_land_1 : decode cX10_land 1 = .ok (.iload_n 2, 1) := by decide +kernel
theorem dX10_land_2 : decode cX10_land 2 = .ok (.invokevirtual 38, 3) := by decide +kernel
theorem dX10_land_5 : decode cX10_land 5 = .ok (.istore 4, 2) := by decide +kernel
theorem dX10_land_7 : decode cX10_land 7 = .ok (.iload_n 2, 1) := by decide +kernel
theorem dX10_land_8 : decode cX10_land 8 = .ok (.iconst 1, 1) := by decide +kernel
theorem dX10_land_9 : decode cX10_land 9 = .ok (.iadd, 1) := by decide +kernel
theorem dX10_land_10 : decode cX10_land 10 = .ok (.istore 5, 2) := by decide +kernel
theorem dX10_land_12 : decode cX10_land 12 = .ok (.iload 5, 2) := by decide +kernel
theorem dX10_land_14 : decode cX10_land 14 = .ok (.aload_n 1, 1) := by decide +kernel
theorem dX10_land_15 : decode cX10_land 15 = .ok (.invokevirtual 25, 3) := by decide +kernel
theorem dX10_land_18 : decode cX10_land 18 = .ok (.if_icmp .ge 41, 3) := by decide +kernel
theorem dX10_land_21 : decode cX10_land 21 = .ok (.aload_n 0, 1) := by decide +kernel
theorem dX10_land_22 : decode cX10_land 22 = .ok (.getfield 9, 3) := by decide +kernel
theorem dX10_land_25 : decode cX10_land 25 = .ok (.iload 5, 2) := by decide +kernel
theorem dX10_land_27 : decode cX10_land 27 = .ok (.aload_n 1, 1) := by decide +kernel
theorem dX10_land_28 : decode cX10_land 28 = .ok (.iload 5, 2) := by decide +kernel
theorem dX10_land_30 : decode cX10_land 30 = .ok (.invokevirtual 38, 3) := by decide +kernel
theorem dX10_land_33 : decode cX10_land 33 = .ok (.iload 4, 2) := by decide +kernel
theorem dX10_land_35 : decode cX10_land 35 = .ok (.iload_n 3, 1) := by decide +kernel
theorem dX10_land_36 : decode cX10_land 36 = .ok (.invokestatic 41, 3) := by decide +kernel
theorem dX10_land_39 : decode cX10_land 39 = .ok (.iastore, 1) := by decide +kernel
theorem dX10_land_40 : decode cX10_land 40 = .ok (.aload_n 0, 1) := by decide +kernel
theorem dX10_land_41 : decode cX10_land 41 = .ok (.getfield 9, 3) := by decide +kernel
theorem dX10_land_44 : decode cX10_land 44 = .ok (.iload 5, 2) := by decide +kernel
theorem dX10_land_46 : decode cX10_land 46 = .ok (.iaload, 1) := by decide +kernel
theorem dX10_land_47 : decode cX10_land 47 = .ok (.iconst (-1), 1) := by decide +kernel
theorem dX10_land_48 : decode cX10_land 48 = .ok (.if_icmp .ne 5, 3) := by decide +kernel
theorem dX10_land_51 : decode cX10_land 51 = .ok (.iconst 0, 1) := by decide +kernel
theorem dX10_land_52 : decode cX10_land 52 = .ok (.ireturn, 1) := by decide +kernel
theorem dX10_land_53 : decode cX10_land 53 = .ok (.iinc 5 1, 3) := by decide +kernel
theorem dX10_land_56 : decode cX10_land 56 = .ok (.goto (-44), 3) := by decide +kernel
theorem dX10_land_59 : decode cX10_land 59 = .ok (.iconst 1, 1) := by decide +kernel
theorem dX10_land_60 : decode cX10_land 60 = .ok (.ireturn, 1) := by decide +kernel
theorem dX10_swung_0 : decode cX10_swung 0 = .ok (.iload_n 0, 1) := by decide +kernel
theorem dX10_swung_1 : decode cX10_swung 1 = .ok (.invokestatic 45, 3) := by decide +kernel
theorem dX10_swung_4 : decode cX10_swung 4 = .ok (.iload_n 1, 1) := by decide +kernel
theorem dX10_swung_5 : decode cX10_swung 5 = .ok (.invokestatic 45, 3) := by decide +kernel
theorem dX10_swung_8 : decode cX10_swung 8 = .ok (.isub, 1) := by decide +kernel
theorem dX10_swung_9 : decode cX10_swung 9 = .ok (.istore_n 3, 1) := by decide +kernel
theorem dX10_swung_10 : decode cX10_swung 10 = .ok (.iload_n 0, 1) := by decide +kernel
theorem dX10_swung_11 : decode cX10_swung 11 = .ok (.invokestatic 50, 3) := by decide +kernel
theorem dX10_swung_14 : decode cX10_swung 14 = .ok (.iload_n 1, 1) := by decide +kernel
theorem dX10_swung_15 : decode cX10_swung 15 = .ok (.invokestatic 50, 3) := by decide +kernel
theorem dX10_swung_18 : decode cX10_swung 18 = .ok (.isub, 1) := by decide +kernel
theorem dX10_swung_19 : decode cX10_swung 19 = .ok (.istore 4, 2) := by decide +kernel
theorem dX10_swung_21 : decode cX10_swung 21 = .ok (.iconst 0, 1) := by decide +kernel
theorem dX10_swung_22 : decode cX10_swung 22 = .ok (.istore 5, 2) := by decide +kernel
theorem dX10_swung_24 : decode cX10_swung 24 = .ok (.iload 5, 2) := by decide +kernel
theorem dX10_swung_26 : decode cX10_swung 26 = .ok (.iload_n 2, 1) := by decide +kernel
theorem dX10_swung_27 : decode cX10_swung 27 = .ok (.if_icmp .ge 20, 3) := by decide +kernel
theorem dX10_swung_30 : decode cX10_swung 30 = .ok (.iload_n 3, 1) := by decide +kernel
theorem dX10_swung_31 : decode cX10_swung 31 = .ok (.istore 6, 2) := by decide +kernel
theorem dX10_swung_33 : decode cX10_swung 33 = .ok (.iload 4, 2) := by decide +kernel
theorem dX10_swung_35 : decode cX10_swung 35 = .ok (.ineg, 1) := by decide +kernel
theorem dX10_swung_36 : decode cX10_swung 36 = .ok (.istore_n 3, 1) := by decide +kernel
theorem dX10_swung_37 : decode cX10_swung 37 = .ok (.iload 6, 2) := by decide +kernel
theorem dX10_swung_39 : decode cX10_swung 39 = .ok (.istore 4, 2) := by decide +kernel
theorem dX10_swung_41 : decode cX10_swung 41 = .ok (.iinc 5 1, 3) := by decide +kernel
theorem dX10_swung_44 : decode cX10_swung 44 = .ok (.goto (-20), 3) := by decide +kernel
theorem dX10_swung_47 : decode cX10_swung 47 = .ok (.iload_n 1, 1) := by decide +kernel
theorem dX10_swung_48 : decode cX10_swung 48 = .ok (.invokestatic 45, 3) := by decide +kernel
theorem dX10_swung_51 : decode cX10_swung 51 = .ok (.iload_n 3, 1) := by decide +kernel
theorem dX10_swung_52 : decode cX10_swung 52 = .ok (.iadd, 1) := by decide +kernel
theorem dX10_swung_53 : decode cX10_swung 53 = .ok (.iload_n 1, 1) := by decide +kernel
theorem dX10_swung_54 : decode cX10_swung 54 = .ok (.invokestatic 50, 3) := by decide +kernel
theorem dX10_swung_57 : decode cX10_swung 57 = .ok (.iload 4, 2) := by decide +kernel
theorem dX10_swung_59 : decode cX10_swung 59 = .ok (.iadd, 1) := by decide +kernel
theorem dX10_swung_60 : decode cX10_swung 60 = .ok (.invokestatic 53, 3) := by decide +kernel
theorem dX10_swung_63 : decode cX10_swung 63 = .ok (.ireturn, 1) := by decide +kernel
theorem dX10_moveSites_0 : decode cX10_moveSites 0 = .ok (.aload_n 1, 1) := by decide +kernel
theorem dX10_moveSites_1 : decode cX10_moveSites 1 = .ok (.iload_n 2, 1) := by decide +kernel
theorem dX10_moveSites_2 : decode cX10_moveSites 2 = .ok (.invokevirtual 15, 3) := by decide +kernel
theorem dX10_moveSites_5 : decode cX10_moveSites 5 = .ok (.astore 4, 2) := by decide +kernel
theorem dX10_moveSites_7 : decode cX10_moveSites 7 = .ok (.iload_n 3, 1) := by decide +kernel
theorem dX10_moveSites_8 : decode cX10_moveSites 8 = .ok (.iconst 1, 1) := by decide +kernel
theorem dX10_moveSites_9 : decode cX10_moveSites 9 = .ok (.iadd, 1) := by decide +kernel
theorem dX10_moveSites_10 : decode cX10_moveSites 10 = .ok (.istore 5, 2) := by decide +kernel
theorem dX10_moveSites_12 : decode cX10_moveSites 12 = .ok (.iload 5, 2) := by decide +kernel
theorem dX10_moveSites_14 : decode cX10_moveSites 14 = .ok (.aload 4, 2) := by decide +kernel
theorem dX10_moveSites_16 : decode cX10_moveSites 16 = .ok (.invokevirtual 25, 3) := by decide +kernel
theorem dX10_moveSites_19 : decode cX10_moveSites 19 = .ok (.if_icmp .ge 23, 3) := by decide +kernel
theorem dX10_moveSites_22 : decode cX10_moveSites 22 = .ok (.aload 4, 2) := by decide +kernel
theorem dX10_moveSites_24 : decode cX10_moveSites 24 = .ok (.iload 5, 2) := by decide +kernel
theorem dX10_moveSites_26 : decode cX10_moveSites 26 = .ok (.aload_n 0, 1) := by decide +kernel
theorem dX10_moveSites_27 : decode cX10_moveSites 27 = .ok (.getfield 9, 3) := by decide +kernel
theorem dX10_moveSites_30 : decode cX10_moveSites 30 = .ok (.iload 5, 2) := by decide +kernel
theorem dX10_moveSites_32 : decode cX10_moveSites 32 = .ok (.iaload, 1) := by decide +kernel
theorem dX10_moveSites_33 : decode cX10_moveSites 33 = .ok (.invokevirtual 57, 3) := by decide +kernel
theorem dX10_moveSites_36 : decode cX10_moveSites 36 = .ok (.iinc 5 1, 3) := by decide +kernel
theorem dX10_moveSites_39 : decode cX10_moveSites 39 = .ok (.goto (-27), 3) := by decide +kernel
theorem dX10_moveSites_42 : decode cX10_moveSites 42 = .ok (.aload_n 1, 1) := by decide +kernel
theorem dX10_moveSites_43 : decode cX10_moveSites 43 = .ok (.invokevirtual 61, 3) := by decide +kernel
theorem dX10_moveSites_46 : decode cX10_moveSites 46 = .ok (.return_, 1) := by decide +kernel
theorem dX11_init_0 : decode cX11_init 0 = .ok (.aload_n 0, 1) := by decide +kernel
theorem dX11_init_1 : decode cX11_init 1 = .ok (.invokespecial 3, 3) := by decide +kernel
theorem dX11_init_4 : decode cX11_init 4 = .ok (.aload_n 0, 1) := by decide +kernel
theorem dX11_init_5 : decode cX11_init 5 = .ok (.new 9, 3) := by decide +kernel
theorem dX11_init_8 : decode cX11_init 8 = .ok (.dup, 1) := by decide +kernel
theorem dX11_init_9 : decode cX11_init 9 = .ok (.invokespecial 11, 3) := by decide +kernel
theorem dX11_init_12 : decode cX11_init 12 = .ok (.putfield 12, 3) := by decide +kernel
theorem dX11_init_15 : decode cX11_init 15 = .ok (.aload_n 0, 1) := by decide +kernel
theorem dX11_init_16 : decode cX11_init 16 = .ok (.new 16, 3) := by decide +kernel
theorem dX11_init_19 : decode cX11_init 19 = .ok (.dup, 1) := by decide +kernel
theorem dX11_init_20 : decode cX11_init 20 = .ok (.invokespecial 18, 3) := by decide +kernel
theorem dX11_init_23 : decode cX11_init 23 = .ok (.putfield 19, 3) := by decide +kernel
theorem dX11_init_26 : decode cX11_init 26 = .ok (.aload_n 0, 1) := by decide +kernel
theorem dX11_init_27 : decode cX11_init 27 = .ok (.new 23, 3) := by decide +kernel
theorem dX11_init_30 : decode cX11_init 30 = .ok (.dup, 1) := by decide +kernel
theorem dX11_init_31 : decode cX11_init 31 = .ok (.invokespecial 25, 3) := by decide +kernel
theorem dX11_init_34 : decode cX11_init 34 = .ok (.putfield 26, 3) := by decide +kernel
theorem dX11_init_37 : decode cX11_init 37 = .ok (.aload_n 0, 1) := by decide +kernel
theorem dX11_init_38 : decode cX11_init 38 = .ok (.new 30, 3) := by decide +kernel
theorem dX11_init_41 : decode cX11_init 41 = .ok (.dup, 1) := by decide +kernel
theorem dX11_init_42 : decode cX11_init 42 = .ok (.invokespecial 32, 3) := by decide +kernel
theorem dX11_init_45 : decode cX11_init 45 = .ok (.putfield 33, 3) := by decide +kernel
theorem dX11_init_48 : decode cX11_init 48 = .ok (.aload_n 0, 1) := by decide +kernel
theorem dX11_init_49 : decode cX11_init 49 = .ok (.new 37, 3) := by decide +kernel
theorem dX11_init_52 : decode cX11_init 52 = .ok (.dup, 1) := by decide +kernel
theorem dX11_init_53 : decode cX11_init 53 = .ok (.invokespecial 39, 3) := by decide +kernel
theorem dX11_init_56 : decode cX11_init 56 = .ok (.putfield 40, 3) := by decide +kernel
theorem dX11_init_59 : decode cX11_init 59 = .ok (.aload_n 0, 1) := by decide +kernel
theorem dX11_init_60 : decode cX11_init 60 = .ok (.new 44, 3) := by decide +kernel
theorem dX11_init_63 : decode cX11_init 63 = .ok (.dup, 1) := by decide +kernel
theorem dX11_init_64 : decode cX11_init 64 = .ok (.invokespecial 46, 3) := by decide +kernel
theorem dX11_init_67 : decode cX11_init 67 = .ok (.putfield 47, 3) := by decide +kernel
theorem dX11_init_70 : decode cX11_init 70 = .ok (.aload_n 0, 1) := by decide +kernel
theorem dX11_init_71 : decode cX11_init 71 = .ok (.new 51, 3) := by decide +kernel
theorem dX11_init_74 : decode cX11_init 74 = .ok (.dup, 1) := by decide +kernel
theorem dX11_init_75 : decode cX11_init 75 = .ok (.invokespecial 53, 3) := by decide +kernel
theorem dX11_init_78 : decode cX11_init 78 = .ok (.putfield 54, 3) := by decide +kernel
theorem dX11_init_81 : decode cX11_init 81 = .ok (.aload_n 0, 1) := by decide +kernel
theorem dX11_init_82 : decode cX11_init 82 = .ok (.new 58, 3) := by decide +kernel
theorem dX11_init_85 : decode cX11_init 85 = .ok (.dup, 1) := by decide +kernel
theorem dX11_init_86 : decode cX11_init 86 = .ok (.invokespecial 60, 3) := by decide +kernel
theorem dX11_init_89 : decode cX11_init 89 = .ok (.putfield 61, 3) := by decide +kernel
theorem dX11_init_92 : decode cX11_init 92 = .ok (.aload_n 0, 1) := by decide +kernel
theorem dX11_init_93 : decode cX11_init 93 = .ok (.new 65, 3) := by decide +kernel
theorem dX11_init_96 : decode cX11_init 96 = .ok (.dup, 1) := by decide +kernel
theorem dX11_init_97 : decode cX11_init 97 = .ok (.invokespecial 67, 3) := by decide +kernel
theorem dX11_init_100 : decode cX11_init 100 = .ok (.putfield 68, 3) := by decide +kernel
theorem dX11_init_103 : decode cX11_init 103 = .ok (.aload_n 0, 1) := by decide +kernel
theorem dX11_init_104 : decode cX11_init 104 = .ok (.new 65, 3) := by decide +kernel
theorem dX11_init_107 : decode cX11_init 107 = .ok (.dup, 1) := by decide +kernel
theorem dX11_init_108 : decode cX11_init 108 = .ok (.invokespecial 67, 3) := by decide +kernel
theorem dX11_init_111 : decode cX11_init 111 = .ok (.putfield 72, 3) := by decide +kernel
theorem dX11_init_114 : decode cX11_init 114 = .ok (.return_, 1) := by decide +kernel
theorem dX11_start_0 : decode cX11_start 0 = .ok (.iload_n 1, 1) := by decide +kernel
theorem dX11_start_1 : decode cX11_start 1 = .ok (.iload_n 2, 1) := by decide +kernel
theorem dX11_start_2 : decode cX11_start 2 = .ok (.invokestatic 75, 3) := by decide +kernel
theorem dX11_start_5 : decode cX11_start 5 = .ok (.istore_n 3, 1) := by decide +kernel
theorem dX11_start_6 : decode cX11_start 6 = .ok (.aload_n 0, 1) := by decide +kernel
theorem dX11_start_7 : decode cX11_start 7 = .ok (.getfield 12, 3) := by decide +kernel
theorem dX11_start_10 : decode cX11_start 10 = .ok (.iload_n 3, 1) := by decide +kernel
theorem dX11_start_11 : decode cX11_start 11 = .ok (.invokevirtual 79, 3) := by decide +kernel
theorem dX11_start_14 : decode cX11_start 14 = .ok (.ifCond .eq 13, 3) := by decide +kernel
theorem dX11_start_17 : decode cX11_start 17 = .ok (.aload_n 0, 1) := by decide +kernel
theorem dX11_start_18 : decode cX11_start 18 = .ok (.getfield 12, 3) := by decide +kernel
theorem dX11_start_21 : decode cX11_start 21 = .ok (.invokevirtual 83, 3) := by decide +kernel
theorem dX11_start_24 : decode cX11_start 24 = .ok (.ifCond .eq 13, 3) := by decide +kernel
theorem dX11_start_27 : decode cX11_start 27 = .ok (.new 87, 3) := by decide +kernel
theorem dX11_start_30 : decode cX11_start 30 = .ok (.dup, 1) := by decide +kernel
theorem dX11_start_31 : decode cX11_start 31 = .ok (.ldc 89, 2) := by decide +kernel
theorem dX11_start_33 : decode cX11_start 33 = .ok (.invokespecial 91, 3) := by decide +kernel
theorem dX11_start_36 : decode cX11_start 36 = .ok (.athrow, 1) := by decide +kernel
theorem dX11_start_37 : decode cX11_start 37 = .ok (.aload_n 0, 1) := by decide +kernel
theorem dX11_start_38 : decode cX11_start 38 = .ok (.getfield 19, 3) := by decide +kernel
theorem dX11_start_41 : decode cX11_start 41 = .ok (.aload_n 0, 1) := by decide +kernel
theorem dX11_start_42 : decode cX11_start 42 = .ok (.getfield 12, 3) := by decide +kernel
theorem dX11_start_45 : decode cX11_start 45 = .ok (.invokevirtual 94, 3) := by decide +kernel
theorem dX11_start_48 : decode cX11_start 48 = .ok (.aload_n 0, 1) := by decide +kernel
theorem dX11_start_49 : decode cX11_start 49 = .ok (.getfield 40, 3) := by decide +kernel
theorem dX11_start_52 : decode cX11_start 52 = .ok (.iload_n 3, 1) := by decide +kernel
theorem dX11_start_53 : decode cX11_start 53 = .ok (.invokevirtual 98, 3) := by decide +kernel
theorem dX11_start_56 : decode cX11_start 56 = .ok (.aload_n 0, 1) := by decide +kernel
theorem dX11_start_57 : decode cX11_start 57 = .ok (.getfield 12, 3) := by decide +kernel
theorem dX11_start_60 : decode cX11_start 60 = .ok (.aload_n 0, 1) := by decide +kernel
theorem dX11_start_61 : decode cX11_start 61 = .ok (.getfield 40, 3) := by decide +kernel
theorem dX11_start_64 : decode cX11_start 64 = .ok (.invokevirtual 102, 3) := by decide +kernel
theorem dX11_start_67 : decode cX11_start 67 = .ok (.ireturn, 1) := by decide +kernel
theorem dX11_step_0 : decode cX11_step 0 = .ok (.aload_n 0, 1) := by decide +kernel
theorem dX11_step_1 : decode cX11_step 1 = .ok (.iload_n 1, 1) := by decide +kernel
theorem dX11_step_2 : decode cX11_step 2 = .ok (.invokevirtual 106, 3) := by decide +kernel
theorem dX11_step_5 : decode cX11_step 5 = .ok (.iload_n 2, 1) := by decide +kernel
theorem dX11_step_6 : decode cX11_step 6 = .ok (.invokestatic 109, 3) := by decide +kernel
theorem dX11_step_9 : decode cX11_step 9 = .ok (.aload_n 0, 1) := by decide +kernel
theorem dX11_step_10 : decode cX11_step 10 = .ok (.getfield 19, 3) := by decide +kernel
theorem dX11_step_13 : decode cX11_step 13 = .ok (.aload_n 0, 1) := by decide +kernel
theorem dX11_step_14 : decode cX11_step 14 = .ok (.getfield 12, 3) := by decide +kernel
theorem dX11_step_17 : decode cX11_step 17 = .ok (.invokevirtual 94, 3) := by decide +kernel
theorem dX11_step_20 : decode cX11_step 20 = .ok (.aload_n 0, 1) := by decide +kernel
theorem dX11_step_21 : decode cX11_step 21 = .ok (.getfield 12, 3) := by decide +kernel
theorem dX11_step_24 : decode cX11_step 24 = .ok (.iload_n 1, 1) := by decide +kernel
theorem dX11_step_25 : decode cX11_step 25 = .ok (.iload_n 2, 1) := by decide +kernel
theorem dX11_step_26 : decode cX11_step 26 = .ok (.invokevirtual 112, 3) := by decide +kernel
theorem dX11_step_29 : decode cX11_step 29 = .ok (.ireturn, 1) := by decide +kernel
theorem dX11_back_0 : decode cX11_back 0 = .ok (.aload_n 0, 1) := by decide +kernel
theorem dX11_back_1 : decode cX11_back 1 = .ok (.iload_n 1, 1) := by decide +kernel
theorem dX11_back_2 : decode cX11_back 2 = .ok (.invokevirtual 106, 3) := by decide +kernel
theorem dX11_back_5 : decode cX11_back 5 = .ok (.aload_n 0, 1) := by decide +kernel
theorem dX11_back_6 : decode cX11_back 6 = .ok (.getfield 12, 3) := by decide +kernel
theorem dX11_back_9 : decode cX11_back 9 = .ok (.iload_n 1, 1) := by decide +kernel
theorem dX11_back_10 : decode cX11_back 10 = .ok (.invokevirtual 115, 3) := by decide +kernel
theorem dX11_back_13 : decode cX11_back 13 = .ok (.invokevirtual 119, 3) := by decide +kernel
theorem dX11_back_16 : decode cX11_back 16 = .ok (.iconst 2, 1) := by decide +kernel
theorem dX11_back_17 : decode cX11_back 17 = .ok (.if_icmp .ge 13, 3) := by decide +kernel
theorem dX11_back_20 : decode cX11_back 20 = .ok (.new 87, 3) := by decide +kernel
theorem dX11_back_23 : decode cX11_back 23 = .ok (.dup, 1) := by decide +kernel
theorem dX11_back_24 : decode cX11_back 24 = .ok (.ldc 123, 2) := by decide +kernel
theorem dX11_back_26 : decode cX11_back 26 = .ok (.invokespecial 91, 3) := by decide +kernel
theorem dX11_back_29 : decode cX11_back 29 = .ok (.athrow, 1) := by decide +kernel
theorem dX11_back_30 : decode cX11_back 30 = .ok (.aload_n 0, 1) := by decide +kernel
theorem dX11_back_31 : decode cX11_back 31 = .ok (.getfield 19, 3) := by decide +kernel
theorem dX11_back_34 : decode cX11_back 34 = .ok (.aload_n 0, 1) := by decide +kernel
theorem dX11_back_35 : decode cX11_back 35 = .ok (.getfield 12, 3) := by decide +kernel
theorem dX11_back_38 : decode cX11_back 38 = .ok (.invokevirtual 94, 3) := by decide +kernel
theorem dX11_back_41 : decode cX11_back 41 = .ok (.aload_n 0, 1) := by decide +kernel
theorem dX11_back_42 : decode cX11_back 42 = .ok (.getfield 12, 3) := by decide +kernel
theorem dX11_back_45 : decode cX11_back 45 = .ok (.iload_n 1, 1) := by decide +kernel
theorem dX11_back_46 : decode cX11_back 46 = .ok (.invokevirtual 125, 3) := by decide +kernel
theorem dX11_back_49 : decode cX11_back 49 = .ok (.ireturn, 1) := by decide +kernel
theorem dX11_slither_0 : decode cX11_slither 0 = .ok (.aload_n 0, 1) := by decide +kernel
theorem dX11_slither_1 : decode cX11_slither 1 = .ok (.iload_n 1, 1) := by decide +kernel
theorem dX11_slither_2 : decode cX11_slither 2 = .ok (.invokevirtual 106, 3) := by decide +kernel
theorem dX11_slither_5 : decode cX11_slither 5 = .ok (.iload_n 2, 1) := by decide +kernel
theorem dX11_slither_6 : decode cX11_slither 6 = .ok (.invokestatic 109, 3) := by decide +kernel
theorem dX11_slither_9 : decode cX11_slither 9 = .ok (.aload_n 0, 1) := by decide +kernel
theorem dX11_slither_10 : decode cX11_slither 10 = .ok (.getfield 19, 3) := by decide +kernel
theorem dX11_slither_13 : decode cX11_slither 13 = .ok (.aload_n 0, 1) := by decide +kernel
theorem dX11_slither_14 : decode cX11_slither 14 = .ok (.getfield 12, 3) := by decide +kernel
theorem dX11_slither_17 : decode cX11_slither 17 = .ok (.invokevirtual 94, 3) := by decide +kernel
theorem dX11_slither_20 : decode cX11_slither 20 = .ok (.aload_n 0, 1) := by decide +kernel
theorem dX11_slither_21 : decode cX11_slither 21 = .ok (.getfield 12, 3) := by decide +kernel
theorem dX11_slither_24 : decode cX11_slither 24 = .ok (.iload_n 1, 1) := by decide +kernel
theorem dX11_slither_25 : decode cX11_slither 25 = .ok (.iload_n 2, 1) := by decide +kernel
theorem dX11_slither_26 : decode cX11_slither 26 = .ok (.invokevirtual 129, 3) := by decide +kernel
theorem dX11_slither_29 : decode cX11_slither 29 = .ok (.ireturn, 1) := by decide +kernel
theorem dX11_turn_0 : decode cX11_turn 0 = .ok (.aload_n 0, 1) := by decide +kernel
theorem dX11_turn_1 : decode cX11_turn 1 = .ok (.iload_n 1, 1) := by decide +kernel
theorem dX11_turn_2 : decode cX11_turn 2 = .ok (.iload_n 2, 1) := by decide +kernel
theorem dX11_turn_3 : decode cX11_turn 3 = .ok (.invokevirtual 132, 3) := by decide +kernel
theorem dX11_turn_6 : decode cX11_turn 6 = .ok (.iload_n 3, 1) := by decide +kernel
theorem dX11_turn_7 : decode cX11_turn 7 = .ok (.invokestatic 136, 3) := by decide +kernel
theorem dX11_turn_10 : decode cX11_turn 10 = .ok (.aload_n 0, 1) := by decide +kernel
theorem dX11_turn_11 : decode cX11_turn 11 = .ok (.getfield 19, 3) := by decide +kernel
theorem dX11_turn_14 : decode cX11_turn 14 = .ok (.aload_n 0, 1) := by decide +kernel
theorem dX11_turn_15 : decode cX11_turn 15 = .ok (.getfield 12, 3) := by decide +kernel
theorem dX11_turn_18 : decode cX11_turn 18 = .ok (.invokevirtual 94, 3) := by decide +kernel
theorem dX11_turn_21 : decode cX11_turn 21 = .ok (.aload_n 0, 1) := by decide +kernel
theorem dX11_turn_22 : decode cX11_turn 22 = .ok (.getfield 47, 3) := by decide +kernel
theorem dX11_turn_25 : decode cX11_turn 25 = .ok (.aload_n 0, 1) := by decide +kernel
theorem dX11_turn_26 : decode cX11_turn 26 = .ok (.getfield 12, 3) := by decide +kernel
theorem dX11_turn_29 : decode cX11_turn 29 = .ok (.iload_n 1, 1) := by decide +kernel
theorem dX11_turn_30 : decode cX11_turn 30 = .ok (.iload_n 2, 1) := by decide +kernel
theorem dX11_turn_31 : decode cX11_turn 31 = .ok (.iload_n 3, 1) := by decide +kernel
theorem dX11_turn_32 : decode cX11_turn 32 = .ok (.invokevirtual 139, 3) := by decide +kernel
theorem dX11_turn_35 : decode cX11_turn 35 = .ok (.istore 4, 2) := by decide +kernel
theorem dX11_turn_37 : decode cX11_turn 37 = .ok (.aload_n 0, 1) := by decide +kernel
theorem dX11_turn_38 : decode cX11_turn 38 = .ok (.getfield 12, 3) := by decide +kernel
theorem dX11_turn_41 : decode cX11_turn 41 = .ok (.iload 4, 2) := by decide +kernel
theorem dX11_turn_43 : decode cX11_turn 43 = .ok (.invokevirtual 143, 3) := by decide +kernel
theorem dX11_turn_46 : decode cX11_turn 46 = .ok (.iload 4, 2) := by decide +kernel
theorem dX11_turn_48 : decode cX11_turn 48 = .ok (.ifCond .ne 16, 3) := by decide +kernel
theorem dX11_turn_51 : decode cX11_turn 51 = .ok (.aload_n 0, 1) := by decide +kernel
theorem dX11_turn_52 : decode cX11_turn 52 = .ok (.getfield 47, 3) := by decide +kernel
theorem dX11_turn_55 : decode cX11_turn 55 = .ok (.aload_n 0, 1) := by decide +kernel
theorem dX11_turn_56 : decode cX11_turn 56 = .ok (.getfield 12, 3) := by decide +kernel
theorem dX11_turn_59 : decode cX11_turn 59 = .ok (.iload_n 1, 1) := by decide +kernel
theorem dX11_turn_60 : decode cX11_turn 60 = .ok (.iload_n 2, 1) := by decide +kernel
theorem dX11_turn_61 : decode cX11_turn 61 = .ok (.invokevirtual 146, 3) := by decide +kernel
theorem dX11_turn_64 : decode cX11_turn 64 = .ok (.iload 4, 2) := by decide +kernel
theorem dX11_turn_66 : decode cX11_turn 66 = .ok (.ireturn, 1) := by decide +kernel
theorem dX11_reverse_0 : decode cX11_reverse 0 = .ok (.aload_n 0, 1) := by decide +kernel
theorem dX11_reverse_1 : decode cX11_reverse 1 = .ok (.iload_n 1, 1) := by decide +kernel
theorem dX11_reverse_2 : decode cX11_reverse 2 = .ok (.invokevirtual 106, 3) := by decide +kernel
theorem dX11_reverse_5 : decode cX11_reverse 5 = .ok (.aload_n 0, 1) := by decide +kernel
theorem dX11_reverse_6 : decode cX11_reverse 6 = .ok (.getfield 19, 3) := by decide +kernel
theorem dX11_reverse_9 : decode cX11_reverse 9 = .ok (.aload_n 0, 1) := by decide +kernel
theorem dX11_reverse_10 : decode cX11_reverse 10 = .ok (.getfield 12, 3) := by decide +kernel
theorem dX11_reverse_13 : decode cX11_reverse 13 = .ok (.invokevirtual 94, 3) := by decide +kernel
theorem dX11_reverse_16 : decode cX11_reverse 16 = .ok (.aload_n 0, 1) := by decide +kernel
theorem dX11_reverse_17 : decode cX11_reverse 17 = .ok (.getfield 12, 3) := by decide +kernel
theorem dX11_reverse_20 : decode cX11_reverse 20 = .ok (.iload_n 1, 1) := by decide +kernel
theorem dX11_reverse_21 : decode cX11_reverse 21 = .ok (.invokevirtual 150, 3) := by decide +kernel
theorem dX11_reverse_24 : decode cX11_reverse 24 = .ok (.ireturn, 1) := by decide +kernel
theorem dX11_join_0 : decode cX11_join 0 = .ok (.aload_n 0, 1) := by decide +kernel
theorem dX11_join_1 : decode cX11_join 1 = .ok (.iload_n 1, 1) := by decide +kernel
theorem dX11_join_2 : decode cX11_join 2 = .ok (.iload_n 2, 1) := by decide +kernel
theorem dX11_join_3 : decode cX11_join 3 = .ok (.invokevirtual 153, 3) := by decide +kernel
theorem dX11_join_6 : decode cX11_join 6 = .ok (.aload_n 0, 1) := by decide +kernel
theorem dX11_join_7 : decode cX11_join 7 = .ok (.getfield 12, 3) := by decide +kernel
theorem dX11_join_10 : decode cX11_join 10 = .ok (.iload_n 1, 1) := by decide +kernel
theorem dX11_join_11 : decode cX11_join 11 = .ok (.invokevirtual 115, 3) := by decide +kernel
theorem dX11_join_14 : decode cX11_join 14 = .ok (.astore_n 3, 1) := by decide +kernel
theorem dX11_join_15 : decode cX11_join 15 = .ok (.aload_n 0, 1) := by decide +kernel
theorem dX11_join_16 : decode cX11_join 16 = .ok (.getfield 12, 3) := by decide +kernel
theorem dX11_join_19 : decode cX11_join 19 = .ok (.iload_n 2, 1) := by decide +kernel
theorem dX11_join_20 : decode cX11_join 20 = .ok (.invokevirtual 115, 3) := by decide +kernel
theorem dX11_join_23 : decode cX11_join 23 = .ok (.astore 4, 2) := by decide +kernel
theorem dX11_join_25 : decode cX11_join 25 = .ok (.aload_n 3, 1) := by decide +kernel
theorem dX11_join_26 : decode cX11_join 26 = .ok (.invokevirtual 156, 3) := by decide +kernel
theorem dX11_join_29 : decode cX11_join 29 = .ok (.aload 4, 2) := by decide +kernel
theorem dX11_join_31 : decode cX11_join 31 = .ok (.invokevirtual 156, 3) := by decide +kernel
theorem dX11_join_34 : decode cX11_join 34 = .ok (.invokestatic 159, 3) := by decide +kernel
theorem dX11_join_37 : decode cX11_join 37 = .ok (.ifCond .eq 18, 3) := by decide +kernel
theorem dX11_join_40 : decode cX11_join 40 = .ok (.aload_n 3, 1) := by decide +kernel
theorem dX11_join_41 : decode cX11_join 41 = .ok (.invokevirtual 119, 3) := by decide +kernel
theorem dX11_join_44 : decode cX11_join 44 = .ok (.aload 4, 2) := by decide +kernel
theorem dX11_join_46 : decode cX11_join 46 = .ok (.invokevirtual 119, 3) := by decide +kernel
theorem dX11_join_49 : decode cX11_join 49 = .ok (.iadd, 1) := by decide +kernel
theorem dX11_join_50 : decode cX11_join 50 = .ok (.bipush 60, 2) := by decide +kernel
theorem dX11_join_52 : decode cX11_join 52 = .ok (.if_icmp .le 13, 3) := by decide +kernel
theorem dX11_join_55 : decode cX11_join 55 = .ok (.new 87, 3) := by decide +kernel
theorem dX11_join_58 : decode cX11_join 58 = .ok (.dup, 1) := by decide +kernel
theorem dX11_join_59 : decode cX11_join 59 = .ok (.ldc 165, 2) := by decide +kernel
theorem dX11_join_61 : decode cX11_join 61 = .ok (.invokespecial 91, 3) := by decide +kernel
theorem dX11_join_64 : decode cX11_join 64 = .ok (.athrow, 1) := by decide +kernel
theorem dX11_join_65 : decode cX11_join 65 = .ok (.aload_n 0, 1) := by decide +kernel
theorem dX11_join_66 : decode cX11_join 66 = .ok (.getfield 19, 3) := by decide +kernel
theorem dX11_join_69 : decode cX11_join 69 = .ok (.aload_n 0, 1) := by decide +kernel
theorem dX11_join_70 : decode cX11_join 70 = .ok (.getfield 12, 3) := by decide +kernel
theorem dX11_join_73 : decode cX11_join 73 = .ok (.invokevirtual 94, 3) := by decide +kernel
theorem dX11_join_76 : decode cX11_join 76 = .ok (.aload_n 0, 1) := by decide +kernel
theorem dX11_join_77 : decode cX11_join 77 = .ok (.getfield 12, 3) := by decide +kernel
theorem dX11_join_80 : decode cX11_join 80 = .ok (.iload_n 1, 1) := by decide +kernel
theorem dX11_join_81 : decode cX11_join 81 = .ok (.iload_n 2, 1) := by decide +kernel
theorem dX11_join_82 : decode cX11_join 82 = .ok (.invokevirtual 167, 3) := by decide +kernel
theorem dX11_join_85 : decode cX11_join 85 = .ok (.ireturn, 1) := by decide +kernel
theorem dX11_split_0 : decode cX11_split 0 = .ok (.aload_n 0, 1) := by decide +kernel
theorem dX11_split_1 : decode cX11_split 1 = .ok (.iload_n 1, 1) := by decide +kernel
theorem dX11_split_2 : decode cX11_split 2 = .ok (.iload_n 2, 1) := by decide +kernel
theorem dX11_split_3 : decode cX11_split 3 = .ok (.invokevirtual 132, 3) := by decide +kernel
theorem dX11_split_6 : decode cX11_split 6 = .ok (.iload_n 2, 1) := by decide +kernel
theorem dX11_split_7 : decode cX11_split 7 = .ok (.aload_n 0, 1) := by decide +kernel
theorem dX11_split_8 : decode cX11_split 8 = .ok (.getfield 12, 3) := by decide +kernel
theorem dX11_split_11 : decode cX11_split 11 = .ok (.iload_n 1, 1) := by decide +kernel
theorem dX11_split_12 : decode cX11_split 12 = .ok (.invokevirtual 115, 3) := by decide +kernel
theorem dX11_split_15 : decode cX11_split 15 = .ok (.invokevirtual 119, 3) := by decide +kernel
theorem dX11_split_18 : decode cX11_split 18 = .ok (.iconst 1, 1) := by decide +kernel
theorem dX11_split_19 : decode cX11_split 19 = .ok (.isub, 1) := by decide +kernel
theorem dX11_split_20 : decode cX11_split 20 = .ok (.if_icmp .ne 13, 3) := by decide +kernel
theorem dX11_split_23 : decode cX11_split 23 = .ok (.new 170, 3) := by decide +kernel
theorem dX11_split_26 : decode cX11_split 26 = .ok (.dup, 1) := by decide +kernel
theorem dX11_split_27 : decode cX11_split 27 = .ok (.ldc 172, 2) := by decide +kernel
theorem dX11_split_29 : decode cX11_split 29 = .ok (.invokespecial 174, 3) := by decide +kernel
theorem dX11_split_32 : decode cX11_split 32 = .ok (.athrow, 1) := by decide +kernel
theorem dX11_split_33 : decode cX11_split 33 = .ok (.aload_n 0, 1) := by decide +kernel
theorem dX11_split_34 : decode cX11_split 34 = .ok (.getfield 12, 3) := by decide +kernel
theorem dX11_split_37 : decode cX11_split 37 = .ok (.invokevirtual 83, 3) := by decide +kernel
theorem dX11_split_40 : decode cX11_split 40 = .ok (.ifCond .eq 13, 3) := by decide +kernel
theorem dX11_split_43 : decode cX11_split 43 = .ok (.new 87, 3) := by decide +kernel
theorem dX11_split_46 : decode cX11_split 46 = .ok (.dup, 1) := by decide +kernel
theorem dX11_split_47 : decode cX11_split 47 = .ok (.ldc 175, 2) := by decide +kernel
theorem dX11_split_49 : decode cX11_split 49 = .ok (.invokespecial 91, 3) := by decide +kernel
theorem dX11_split_52 : decode cX11_split 52 = .ok (.athrow, 1) := by decide +kernel
theorem dX11_split_53 : decode cX11_split 53 = .ok (.aload_n 0, 1) := by decide +kernel
theorem dX11_split_54 : decode cX11_split 54 = .ok (.getfield 19, 3) := by decide +kernel
theorem dX11_split_57 : decode cX11_split 57 = .ok (.aload_n 0, 1) := by decide +kernel
theorem dX11_split_58 : decode cX11_split 58 = .ok (.getfield 12, 3) := by decide +kernel
theorem dX11_split_61 : decode cX11_split 61 = .ok (.invokevirtual 94, 3) := by decide +kernel
theorem dX11_split_64 : decode cX11_split 64 = .ok (.aload_n 0, 1) := by decide +kernel
theorem dX11_split_65 : decode cX11_split 65 = .ok (.getfield 12, 3) := by decide +kernel
theorem dX11_split_68 : decode cX11_split 68 = .ok (.iload_n 1, 1) := by decide +kernel
theorem dX11_split_69 : decode cX11_split 69 = .ok (.iload_n 2, 1) := by decide +kernel
theorem dX11_split_70 : decode cX11_split 70 = .ok (.invokevirtual 177, 3) := by decide +kernel
theorem dX11_split_73 : decode cX11_split 73 = .ok (.ireturn, 1) := by decide +kernel
theorem dX11_remove_0 : decode cX11_remove 0 = .ok (.aload_n 0, 1) := by decide +kernel
theorem dX11_remove_1 : decode cX11_remove 1 = .ok (.iload_n 1, 1) := by decide +kernel
theorem dX11_remove_2 : decode cX11_remove 2 = .ok (.invokevirtual 106, 3) := by decide +kernel
theorem dX11_remove_5 : decode cX11_remove 5 = .ok (.aload_n 0, 1) := by decide +kernel
theorem dX11_remove_6 : decode cX11_remove 6 = .ok (.getfield 19, 3) := by decide +kernel
theorem dX11_remove_9 : decode cX11_remove 9 = .ok (.aload_n 0, 1) := by decide +kernel
theorem dX11_remove_10 : decode cX11_remove 10 = .ok (.getfield 12, 3) := by decide +kernel
theorem dX11_remove_13 : decode cX11_remove 13 = .ok (.invokevirtual 94, 3) := by decide +kernel
theorem dX11_remove_16 : decode cX11_remove 16 = .ok (.aload_n 0, 1) := by decide +kernel
theorem dX11_remove_17 : decode cX11_remove 17 = .ok (.getfield 12, 3) := by decide +kernel
theorem dX11_remove_20 : decode cX11_remove 20 = .ok (.iload_n 1, 1) := by decide +kernel
theorem dX11_remove_21 : decode cX11_remove 21 = .ok (.invokevirtual 180, 3) := by decide +kernel
theorem dX11_remove_24 : decode cX11_remove 24 = .ok (.aload_n 0, 1) := by decide +kernel
theorem dX11_remove_25 : decode cX11_remove 25 = .ok (.getfield 12, 3) := by decide +kernel
theorem dX11_remove_28 : decode cX11_remove 28 = .ok (.invokevirtual 183, 3) := by decide +kernel
theorem dX11_remove_31 : decode cX11_remove 31 = .ok (.ireturn, 1) := by decide +kernel
theorem dX11_undo_0 : decode cX11_undo 0 = .ok (.aload_n 0, 1) := by decide +kernel
theorem dX11_undo_1 : decode cX11_undo 1 = .ok (.getfield 19, 3) := by decide +kernel
theorem dX11_undo_4 : decode cX11_undo 4 = .ok (.invokevirtual 221, 3) := by decide +kernel
theorem dX11_undo_7 : decode cX11_undo 7 = .ok (.ifCond .ne 13, 3) := by decide +kernel
theorem dX11_undo_10 : decode cX11_undo 10 = .ok (.new 87, 3) := by decide +kernel
theorem dX11_undo_13 : decode cX11_undo 13 = .ok (.dup, 1) := by decide +kernel
theorem dX11_undo_14 : decode cX11_undo 14 = .ok (.ldc 224, 2) := by decide +kernel
theorem dX11_undo_16 : decode cX11_undo 16 = .ok (.invokespecial 91, 3) := by decide +kernel
theorem dX11_undo_19 : decode cX11_undo 19 = .ok (.athrow, 1) := by decide +kernel
theorem dX11_undo_20 : decode cX11_undo 20 = .ok (.aload_n 0, 1) := by decide +kernel
theorem dX11_undo_21 : decode cX11_undo 21 = .ok (.getfield 19, 3) := by decide +kernel
theorem dX11_undo_24 : decode cX11_undo 24 = .ok (.aload_n 0, 1) := by decide +kernel
theorem dX11_undo_25 : decode cX11_undo 25 = .ok (.getfield 12, 3) := by decide +kernel
theorem dX11_undo_28 : decode cX11_undo 28 = .ok (.invokevirtual 226, 3) := by decide +kernel
theorem dX11_undo_31 : decode cX11_undo 31 = .ok (.aload_n 0, 1) := by decide +kernel
theorem dX11_undo_32 : decode cX11_undo 32 = .ok (.getfield 19, 3) := by decide +kernel
theorem dX11_undo_35 : decode cX11_undo 35 = .ok (.invokevirtual 221, 3) := by decide +kernel
theorem dX11_undo_38 : decode cX11_undo 38 = .ok (.ireturn, 1) := by decide +kernel
theorem dX11_site_0 : decode cX11_site 0 = .ok (.iload_n 1, 1) := by decide +kernel
theorem dX11_site_1 : decode cX11_site 1 = .ok (.iload_n 2, 1) := by decide +kernel
theorem dX11_site_2 : decode cX11_site 2 = .ok (.invokestatic 75, 3) := by decide +kernel
theorem dX11_site_5 : decode cX11_site 5 = .ok (.istore 4, 2) := by decide +kernel
theorem dX11_site_7 : decode cX11_site 7 = .ok (.iload_n 3, 1) := by decide +kernel
theorem dX11_site_8 : decode cX11_site 8 = .ok (.iconst 0, 1) := by decide +kernel
theorem dX11_site_9 : decode cX11_site 9 = .ok (.iconst 2, 1) := by decide +kernel
theorem dX11_site_10 : decode cX11_site 10 = .ok (.invokestatic 186, 3) := by decide +kernel
theorem dX11_site_13 : decode cX11_site 13 = .ok (.iload_n 3, 1) := by decide +kernel
theorem dX11_site_14 : decode cX11_site 14 = .ok (.lookupswitch 46 #[(0, 26), (1, 36)], 26) := by decide +kernel
theorem dX11_site_40 : decode cX11_site 40 = .ok (.aload_n 0, 1) := by decide +kernel
theorem dX11_site_41 : decode cX11_site 41 = .ok (.getfield 12, 3) := by decide +kernel
theorem dX11_site_44 : decode cX11_site 44 = .ok (.iload 4, 2) := by decide +kernel
theorem dX11_site_46 : decode cX11_site 46 = .ok (.invokevirtual 242, 3) := by decide +kernel
theorem dX11_site_49 : decode cX11_site 49 = .ok (.ireturn, 1) := by decide +kernel
theorem dX11_site_50 : decode cX11_site 50 = .ok (.aload_n 0, 1) := by decide +kernel
theorem dX11_site_51 : decode cX11_site 51 = .ok (.getfield 12, 3) := by decide +kernel
theorem dX11_site_54 : decode cX11_site 54 = .ok (.iload 4, 2) := by decide +kernel
theorem dX11_site_56 : decode cX11_site 56 = .ok (.invokevirtual 245, 3) := by decide +kernel
theorem dX11_site_59 : decode cX11_site 59 = .ok (.ireturn, 1) := by decide +kernel
theorem dX11_site_60 : decode cX11_site 60 = .ok (.aload_n 0, 1) := by decide +kernel
theorem dX11_site_61 : decode cX11_site 61 = .ok (.getfield 12, 3) := by decide +kernel
theorem dX11_site_64 : decode cX11_site 64 = .ok (.iload 4, 2) := by decide +kernel
theorem dX11_site_66 : decode cX11_site 66 = .ok (.invokevirtual 248, 3) := by decide +kernel
theorem dX11_site_69 : decode cX11_site 69 = .ok (.ireturn, 1) := by decide +kernel
theorem dX11_place_0 : decode cX11_place 0 = .ok (.aload_n 0, 1) := by decide +kernel
theorem dX11_place_1 : decode cX11_place 1 = .ok (.iload_n 1, 1) := by decide +kernel
theorem dX11_place_2 : decode cX11_place 2 = .ok (.invokevirtual 106, 3) := by decide +kernel
theorem dX11_place_5 : decode cX11_place 5 = .ok (.aload_n 0, 1) := by decide +kernel
theorem dX11_place_6 : decode cX11_place 6 = .ok (.getfield 12, 3) := by decide +kernel
theorem dX11_place_9 : decode cX11_place 9 = .ok (.iload_n 1, 1) := by decide +kernel
theorem dX11_place_10 : decode cX11_place 10 = .ok (.invokevirtual 115, 3) := by decide +kernel
theorem dX11_place_13 : decode cX11_place 13 = .ok (.iload_n 2, 1) := by decide +kernel
theorem dX11_place_14 : decode cX11_place 14 = .ok (.invokevirtual 251, 3) := by decide +kernel
theorem dX11_place_17 : decode cX11_place 17 = .ok (.ireturn, 1) := by decide +kernel
theorem dX11_path_0 : decode cX11_path 0 = .ok (.aload_n 0, 1) := by decide +kernel
theorem dX11_path_1 : decode cX11_path 1 = .ok (.iload_n 1, 1) := by decide +kernel
theorem dX11_path_2 : decode cX11_path 2 = .ok (.invokevirtual 106, 3) := by decide +kernel
theorem dX11_path_5 : decode cX11_path 5 = .ok (.iload_n 2, 1) := by decide +kernel
theorem dX11_path_6 : decode cX11_path 6 = .ok (.iconst 0, 1) := by decide +kernel
theorem dX11_path_7 : decode cX11_path 7 = .ok (.bipush 8, 2) := by decide +kernel
theorem dX11_path_9 : decode cX11_path 9 = .ok (.invokestatic 186, 3) := by decide +kernel
theorem dX11_path_12 : decode cX11_path 12 = .ok (.aload_n 0, 1) := by decide +kernel
theorem dX11_path_13 : decode cX11_path 13 = .ok (.getfield 12, 3) := by decide +kernel
theorem dX11_path_16 : decode cX11_path 16 = .ok (.iload_n 1, 1) := by decide +kernel
theorem dX11_path_17 : decode cX11_path 17 = .ok (.invokevirtual 115, 3) := by decide +kernel
theorem dX11_path_20 : decode cX11_path 20 = .ok (.astore_n 3, 1) := by decide +kernel
theorem dX11_path_21 : decode cX11_path 21 = .ok (.iload_n 2, 1) := by decide +kernel
theorem dX11_path_22 : decode cX11_path 22 = .ok (.tableswitch 104 0 7 #[46, 51, 56, 65, 70, 75, 87, 99], 46) := by decide +kernel
theorem dX11_path_68 : decode cX11_path 68 = .ok (.aload_n 3, 1) := by decide +kernel
theorem dX11_path_69 : decode cX11_path 69 = .ok (.invokevirtual 119, 3) := by decide +kernel
theorem dX11_path_72 : decode cX11_path 72 = .ok (.ireturn, 1) := by decide +kernel
theorem dX11_path_73 : decode cX11_path 73 = .ok (.aload_n 3, 1) := by decide +kernel
theorem dX11_path_74 : decode cX11_path 74 = .ok (.invokevirtual 254, 3) := by decide +kernel
theorem dX11_path_77 : decode cX11_path 77 = .ok (.ireturn, 1) := by decide +kernel
theorem dX11_path_78 : decode cX11_path 78 = .ok (.aload_n 0, 1) := by decide +kernel
theorem dX11_path_79 : decode cX11_path 79 = .ok (.getfield 12, 3) := by decide +kernel
theorem dX11_path_82 : decode cX11_path 82 = .ok (.iload_n 1, 1) := by decide +kernel
theorem dX11_path_83 : decode cX11_path 83 = .ok (.invokevirtual 257, 3) := by decide +kernel
theorem dX11_path_86 : decode cX11_path 86 = .ok (.ireturn, 1) := by decide +kernel
theorem dX11_path_87 : decode cX11_path 87 = .ok (.aload_n 3, 1) := by decide +kernel
theorem dX11_path_88 : decode cX11_path 88 = .ok (.invokevirtual 260, 3) := by decide +kernel
theorem dX11_path_91 : decode cX11_path 91 = .ok (.ireturn, 1) := by decide +kernel
theorem dX11_path_92 : decode cX11_path 92 = .ok (.aload_n 3, 1) := by decide +kernel
theorem dX11_path_93 : decode cX11_path 93 = .ok (.invokevirtual 263, 3) := by decide +kernel
theorem dX11_path_96 : decode cX11_path 96 = .ok (.ireturn, 1) := by decide +kernel
theorem dX11_path_97 : decode cX11_path 97 = .ok (.aload_n 3, 1) := by decide +kernel
theorem dX11_path_98 : decode cX11_path 98 = .ok (.invokevirtual 266, 3) := by decide +kernel
theorem dX11_path_101 : decode cX11_path 101 = .ok (.aload_n 3, 1) := by decide +kernel
theorem dX11_path_102 : decode cX11_path 102 = .ok (.invokevirtual 156, 3) := by decide +kernel
theorem dX11_path_105 : decode cX11_path 105 = .ok (.invokestatic 269, 3) := by decide +kernel
theorem dX11_path_108 : decode cX11_path 108 = .ok (.ireturn, 1) := by decide +kernel
theorem dX11_path_109 : decode cX11_path 109 = .ok (.aload_n 0, 1) := by decide +kernel
theorem dX11_path_110 : decode cX11_path 110 = .ok (.getfield 12, 3) := by decide +kernel
theorem dX11_path_113 : decode cX11_path 113 = .ok (.aload_n 3, 1) := by decide +kernel
theorem dX11_path_114 : decode cX11_path 114 = .ok (.invokevirtual 156, 3) := by decide +kernel
theorem dX11_path_117 : decode cX11_path 117 = .ok (.invokevirtual 248, 3) := by decide +kernel
theorem dX11_path_120 : decode cX11_path 120 = .ok (.ireturn, 1) := by decide +kernel
theorem dX11_path_121 : decode cX11_path 121 = .ok (.aload_n 3, 1) := by decide +kernel
theorem dX11_path_122 : decode cX11_path 122 = .ok (.invokevirtual 272, 3) := by decide +kernel
theorem dX11_path_125 : decode cX11_path 125 = .ok (.ireturn, 1) := by decide +kernel
theorem dX11_path_126 : decode cX11_path 126 = .ok (.aload_n 0, 1) := by decide +kernel
theorem dX11_path_127 : decode cX11_path 127 = .ok (.getfield 12, 3) := by decide +kernel
theorem dX11_path_130 : decode cX11_path 130 = .ok (.iload_n 1, 1) := by decide +kernel
theorem dX11_path_131 : decode cX11_path 131 = .ok (.invokevirtual 275, 3) := by decide +kernel
theorem dX11_path_134 : decode cX11_path 134 = .ok (.ireturn, 1) := by decide +kernel
theorem dX11_trapped_0 : decode cX11_trapped 0 = .ok (.iconst 0, 1) := by decide +kernel
theorem dX11_trapped_1 : decode cX11_trapped 1 = .ok (.istore_n 1, 1) := by decide +kernel
theorem dX11_trapped_2 : decode cX11_trapped 2 = .ok (.iconst 0, 1) := by decide +kernel
theorem dX11_trapped_3 : decode cX11_trapped 3 = .ok (.istore_n 2, 1) := by decide +kernel
theorem dX11_trapped_4 : decode cX11_trapped 4 = .ok (.iload_n 2, 1) := by decide +kernel
theorem dX11_trapped_5 : decode cX11_trapped 5 = .ok (.aload_n 0, 1) := by decide +kernel
theorem dX11_trapped_6 : decode cX11_trapped 6 = .ok (.getfield 12, 3) := by decide +kernel
theorem dX11_trapped_9 : decode cX11_trapped 9 = .ok (.invokevirtual 183, 3) := by decide +kernel
theorem dX11_trapped_12 : decode cX11_trapped 12 = .ok (.if_icmp .ge 36, 3) := by decide +kernel
theorem dX11_trapped_15 : decode cX11_trapped 15 = .ok (.aload_n 0, 1) := by decide +kernel
theorem dX11_trapped_16 : decode cX11_trapped 16 = .ok (.getfield 12, 3) := by decide +kernel
theorem dX11_trapped_19 : decode cX11_trapped 19 = .ok (.aload_n 0, 1) := by decide +kernel
theorem dX11_trapped_20 : decode cX11_trapped 20 = .ok (.getfield 12, 3) := by decide +kernel
theorem dX11_trapped_23 : decode cX11_trapped 23 = .ok (.iload_n 2, 1) := by decide +kernel
theorem dX11_trapped_24 : decode cX11_trapped 24 = .ok (.invokevirtual 115, 3) := by decide +kernel
theorem dX11_trapped_27 : decode cX11_trapped 27 = .ok (.invokevirtual 156, 3) := by decide +kernel
theorem dX11_trapped_30 : decode cX11_trapped 30 = .ok (.invokevirtual 248, 3) := by decide +kernel
theorem dX11_trapped_33 : decode cX11_trapped 33 = .ok (.ifCond .ne 9, 3) := by decide +kernel
theorem dX11_trapped_36 : decode cX11_trapped 36 = .ok (.iload_n 1, 1) := by decide +kernel
theorem dX11_trapped_37 : decode cX11_trapped 37 = .ok (.iconst 1, 1) := by decide +kernel
theorem dX11_trapped_38 : decode cX11_trapped 38 = .ok (.iload_n 2, 1) := by decide +kernel
theorem dX11_trapped_39 : decode cX11_trapped 39 = .ok (.ishl, 1) := by decide +kernel
theorem dX11_trapped_40 : decode cX11_trapped 40 = .ok (.ior, 1) := by decide +kernel
theorem dX11_trapped_41 : decode cX11_trapped 41 = .ok (.istore_n 1, 1) := by decide +kernel
theorem dX11_trapped_42 : decode cX11_trapped 42 = .ok (.iinc 2 1, 3) := by decide +kernel
theorem dX11_trapped_45 : decode cX11_trapped 45 = .ok (.goto (-41), 3) := by decide +kernel
theorem dX11_trapped_48 : decode cX11_trapped 48 = .ok (.iload_n 1, 1) := by decide +kernel
theorem dX11_trapped_49 : decode cX11_trapped 49 = .ok (.ireturn, 1) := by decide +kernel
theorem dX11_touching_0 : decode cX11_touching 0 = .ok (.aload_n 0, 1) := by decide +kernel
theorem dX11_touching_1 : decode cX11_touching 1 = .ok (.iload_n 1, 1) := by decide +kernel
theorem dX11_touching_2 : decode cX11_touching 2 = .ok (.iload_n 2, 1) := by decide +kernel
theorem dX11_touching_3 : decode cX11_touching 3 = .ok (.invokevirtual 153, 3) := by decide +kernel
theorem dX11_touching_6 : decode cX11_touching 6 = .ok (.aload_n 0, 1) := by decide +kernel
theorem dX11_touching_7 : decode cX11_touching 7 = .ok (.getfield 12, 3) := by decide +kernel
theorem dX11_touching_10 : decode cX11_touching 10 = .ok (.iload_n 1, 1) := by decide +kernel
theorem dX11_touching_11 : decode cX11_touching 11 = .ok (.iload_n 2, 1) := by decide +kernel
theorem dX11_touching_12 : decode cX11_touching 12 = .ok (.invokevirtual 278, 3) := by decide +kernel
theorem dX11_touching_15 : decode cX11_touching 15 = .ok (.ireturn, 1) := by decide +kernel
theorem dX11_ifTurned_0 : decode cX11_ifTurned 0 = .ok (.aload_n 0, 1) := by decide +kernel
theorem dX11_ifTurned_1 : decode cX11_ifTurned 1 = .ok (.iload_n 1, 1) := by decide +kernel
theorem dX11_ifTurned_2 : decode cX11_ifTurned 2 = .ok (.iload_n 2, 1) := by decide +kernel
theorem dX11_ifTurned_3 : decode cX11_ifTurned 3 = .ok (.invokevirtual 132, 3) := by decide +kernel
theorem dX11_ifTurned_6 : decode cX11_ifTurned 6 = .ok (.iload_n 3, 1) := by decide +kernel
theorem dX11_ifTurned_7 : decode cX11_ifTurned 7 = .ok (.invokestatic 136, 3) := by decide +kernel
theorem dX11_ifTurned_10 : decode cX11_ifTurned 10 = .ok (.aload_n 0, 1) := by decide +kernel
theorem dX11_ifTurned_11 : decode cX11_ifTurned 11 = .ok (.getfield 47, 3) := by decide +kernel
theorem dX11_ifTurned_14 : decode cX11_ifTurned 14 = .ok (.aload_n 0, 1) := by decide +kernel
theorem dX11_ifTurned_15 : decode cX11_ifTurned 15 = .ok (.getfield 12, 3) := by decide +kernel
theorem dX11_ifTurned_18 : decode cX11_ifTurned 18 = .ok (.iload_n 1, 1) := by decide +kernel
theorem dX11_ifTurned_19 : decode cX11_ifTurned 19 = .ok (.iload_n 2, 1) := by decide +kernel
theorem dX11_ifTurned_20 : decode cX11_ifTurned 20 = .ok (.iload_n 3, 1) := by decide +kernel
theorem dX11_ifTurned_21 : decode cX11_ifTurned 21 = .ok (.invokevirtual 139, 3) := by decide +kernel
theorem dX11_ifTurned_24 : decode cX11_ifTurned 24 = .ok (.ireturn, 1) := by decide +kernel
theorem dX11_count_0 : decode cX11_count 0 = .ok (.iload_n 1, 1) := by decide +kernel
theorem dX11_count_1 : decode cX11_count 1 = .ok (.iconst 0, 1) := by decide +kernel
theorem dX11_count_2 : decode cX11_count 2 = .ok (.bipush 6, 2) := by decide +kernel
theorem dX11_count_4 : decode cX11_count 4 = .ok (.invokestatic 186, 3) := by decide +kernel
theorem dX11_count_7 : decode cX11_count 7 = .ok (.iload_n 1, 1) := by decide +kernel
theorem dX11_count_8 : decode cX11_count 8 = .ok (.tableswitch 88 0 5 #[40, 48, 56, 64, 72, 80], 40) := by decide +kernel
theorem dX11_count_48 : decode cX11_count 48 = .ok (.aload_n 0, 1) := by decide +kernel
theorem dX11_count_49 : decode cX11_count 49 = .ok (.getfield 12, 3) := by decide +kernel
theorem dX11_count_52 : decode cX11_count 52 = .ok (.invokevirtual 183, 3) := by decide +kernel
theorem dX11_count_55 : decode cX11_count 55 = .ok (.ireturn, 1) := by decide +kernel
theorem dX11_count_56 : decode cX11_count 56 = .ok (.aload_n 0, 1) := by decide +kernel
theorem dX11_count_57 : decode cX11_count 57 = .ok (.getfield 12, 3) := by decide +kernel
theorem dX11_count_60 : decode cX11_count 60 = .ok (.invokevirtual 296, 3) := by decide +kernel
theorem dX11_count_63 : decode cX11_count 63 = .ok (.ireturn, 1) := by decide +kernel
theorem dX11_count_64 : decode cX11_count 64 = .ok (.aload_n 0, 1) := by decide +kernel
theorem dX11_count_65 : decode cX11_count 65 = .ok (.getfield 12, 3) := by decide +kernel
theorem dX11_count_68 : decode cX11_count 68 = .ok (.invokevirtual 323, 3) := by decide +kernel
theorem dX11_count_71 : decode cX11_count 71 = .ok (.ireturn, 1) := by decide +kernel
theorem dX11_count_72 : decode cX11_count 72 = .ok (.aload_n 0, 1) := by decide +kernel
theorem dX11_count_73 : decode cX11_count 73 = .ok (.getfield 12, 3) := by decide +kernel
theorem dX11_count_76 : decode cX11_count 76 = .ok (.invokevirtual 326, 3) := by decide +kernel
theorem dX11_count_79 : decode cX11_count 79 = .ok (.ireturn, 1) := by decide +kernel
theorem dX11_count_80 : decode cX11_count 80 = .ok (.aload_n 0, 1) := by decide +kernel
theorem dX11_count_81 : decode cX11_count 81 = .ok (.getfield 12, 3) := by decide +kernel
theorem dX11_count_84 : decode cX11_count 84 = .ok (.invokevirtual 329, 3) := by decide +kernel
theorem dX11_count_87 : decode cX11_count 87 = .ok (.ireturn, 1) := by decide +kernel
theorem dX11_count_88 : decode cX11_count 88 = .ok (.aload_n 0, 1) := by decide +kernel
theorem dX11_count_89 : decode cX11_count 89 = .ok (.getfield 19, 3) := by decide +kernel
theorem dX11_count_92 : decode cX11_count 92 = .ok (.invokevirtual 221, 3) := by decide +kernel
theorem dX11_count_95 : decode cX11_count 95 = .ok (.ireturn, 1) := by decide +kernel
theorem dX11_count_96 : decode cX11_count 96 = .ok (.aload_n 0, 1) := by decide +kernel
theorem dX11_count_97 : decode cX11_count 97 = .ok (.getfield 33, 3) := by decide +kernel
theorem dX11_count_100 : decode cX11_count 100 = .ok (.invokevirtual 196, 3) := by decide +kernel
theorem dX11_count_103 : decode cX11_count 103 = .ok (.ireturn, 1) := by decide +kernel
theorem dX11_spread_0 : decode cX11_spread 0 = .ok (.aload_n 0, 1) := by decide +kernel
theorem dX11_spread_1 : decode cX11_spread 1 = .ok (.iload_n 1, 1) := by decide +kernel
theorem dX11_spread_2 : decode cX11_spread 2 = .ok (.invokevirtual 106, 3) := by decide +kernel
theorem dX11_spread_5 : decode cX11_spread 5 = .ok (.aload_n 0, 1) := by decide +kernel
theorem dX11_spread_6 : decode cX11_spread 6 = .ok (.getfield 12, 3) := by decide +kernel
theorem dX11_spread_9 : decode cX11_spread 9 = .ok (.iload_n 1, 1) := by decide +kernel
theorem dX11_spread_10 : decode cX11_spread 10 = .ok (.invokevirtual 115, 3) := by decide +kernel
theorem dX11_spread_13 : decode cX11_spread 13 = .ok (.astore_n 2, 1) := by decide +kernel
theorem dX11_spread_14 : decode cX11_spread 14 = .ok (.aload_n 2, 1) := by decide +kernel
theorem dX11_spread_15 : decode cX11_spread 15 = .ok (.invokevirtual 119, 3) := by decide +kernel
theorem dX11_spread_18 : decode cX11_spread 18 = .ok (.i2d, 1) := by decide +kernel
theorem dX11_spread_19 : decode cX11_spread 19 = .ok (.dstore_n 3, 1) := by decide +kernel
theorem dX11_spread_20 : decode cX11_spread 20 = .ok (.aload_n 2, 1) := by decide +kernel
theorem dX11_spread_21 : decode cX11_spread 21 = .ok (.invokevirtual 272, 3) := by decide +kernel
theorem dX11_spread_24 : decode cX11_spread 24 = .ok (.i2d, 1) := by decide +kernel
theorem dX11_spread_25 : decode cX11_spread 25 = .ok (.dload_n 3, 1) := by decide +kernel
theorem dX11_spread_26 : decode cX11_spread 26 = .ok (.dload_n 3, 1) := by decide +kernel
theorem dX11_spread_27 : decode cX11_spread 27 = .ok (.dmul, 1) := by decide +kernel
theorem dX11_spread_28 : decode cX11_spread 28 = .ok (.ddiv, 1) := by decide +kernel
theorem dX11_spread_29 : decode cX11_spread 29 = .ok (.dreturn, 1) := by decide +kernel
theorem dX11_share_0 : decode cX11_share 0 = .ok (.aload_n 0, 1) := by decide +kernel
theorem dX11_share_1 : decode cX11_share 1 = .ok (.getfield 12, 3) := by decide +kernel
theorem dX11_share_4 : decode cX11_share 4 = .ok (.invokevirtual 296, 3) := by decide +kernel
theorem dX11_share_7 : decode cX11_share 7 = .ok (.i2f, 1) := by decide +kernel
theorem dX11_share_8 : decode cX11_share 8 = .ok (.ldc_w 332, 3) := by decide +kernel
theorem dX11_share_11 : decode cX11_share 11 = .ok (.fdiv, 1) := by decide +kernel
theorem dX11_share_12 : decode cX11_share 12 = .ok (.freturn, 1) := by decide +kernel
theorem dX11_checkedSite_0 : decode cX11_checkedSite 0 = .ok (.iload_n 0, 1) := by decide +kernel
theorem dX11_checkedSite_1 : decode cX11_checkedSite 1 = .ok (.iload_n 1, 1) := by decide +kernel
theorem dX11_checkedSite_2 : decode cX11_checkedSite 2 = .ok (.invokestatic 336, 3) := by decide +kernel
theorem dX11_checkedSite_5 : decode cX11_checkedSite 5 = .ok (.istore_n 2, 1) := by decide +kernel
theorem dX11_checkedSite_6 : decode cX11_checkedSite 6 = .ok (.iload_n 2, 1) := by decide +kernel
theorem dX11_checkedSite_7 : decode cX11_checkedSite 7 = .ok (.iconst (-1), 1) := by decide +kernel
theorem dX11_checkedSite_8 : decode cX11_checkedSite 8 = .ok (.if_icmp .ne 14, 3) := by decide +kernel
theorem dX11_checkedSite_11 : decode cX11_checkedSite 11 = .ok (.new 170, 3) := by decide +kernel
theorem dX11_checkedSite_14 : decode cX11_checkedSite 14 = .ok (.dup, 1) := by decide +kernel
theorem dX11_checkedSite_15 : decode cX11_checkedSite 15 = .ok (.ldc_w 339, 3) := by decide +kernel
theorem dX11_checkedSite_18 : decode cX11_checkedSite 18 = .ok (.invokespecial 174, 3) := by decide +kernel
theorem dX11_checkedSite_21 : decode cX11_checkedSite 21 = .ok (.athrow, 1) := by decide +kernel
theorem dX11_checkedSite_22 : decode cX11_checkedSite 22 = .ok (.iload_n 2, 1) := by decide +kernel
theorem dX11_checkedSite_23 : decode cX11_checkedSite 23 = .ok (.ireturn, 1) := by decide +kernel
theorem dX11_checkPath_0 : decode cX11_checkPath 0 = .ok (.iload_n 1, 1) := by decide +kernel
theorem dX11_checkPath_1 : decode cX11_checkPath 1 = .ok (.ifCond .lt 14, 3) := by decide +kernel
theorem dX11_checkPath_4 : decode cX11_checkPath 4 = .ok (.iload_n 1, 1) := by decide +kernel
theorem dX11_checkPath_5 : decode cX11_checkPath 5 = .ok (.aload_n 0, 1) := by decide +kernel
theorem dX11_checkPath_6 : decode cX11_checkPath 6 = .ok (.getfield 12, 3) := by decide +kernel
theorem dX11_checkPath_9 : decode cX11_checkPath 9 = .ok (.invokevirtual 183, 3) := by decide +kernel
theorem dX11_checkPath_12 : decode cX11_checkPath 12 = .ok (.if_icmp .lt 14, 3) := by decide +kernel
theorem dX11_checkPath_15 : decode cX11_checkPath 15 = .ok (.new 170, 3) := by decide +kernel
theorem dX11_checkPath_18 : decode cX11_checkPath 18 = .ok (.dup, 1) := by decide +kernel
theorem dX11_checkPath_19 : decode cX11_checkPath 19 = .ok (.ldc_w 341, 3) := by decide +kernel
theorem dX11_checkPath_22 : decode cX11_checkPath 22 = .ok (.invokespecial 174, 3) := by decide +kernel
theorem dX11_checkPath_25 : decode cX11_checkPath 25 = .ok (.athrow, 1) := by decide +kernel
theorem dX11_checkPath_26 : decode cX11_checkPath 26 = .ok (.return_, 1) := by decide +kernel
theorem dX11_checkPlace_0 : decode cX11_checkPlace 0 = .ok (.aload_n 0, 1) := by decide +kernel
theorem dX11_checkPlace_1 : decode cX11_checkPlace 1 = .ok (.iload_n 1, 1) := by decide +kernel
theorem dX11_checkPlace_2 : decode cX11_checkPlace 2 = .ok (.invokevirtual 106, 3) := by decide +kernel
theorem dX11_checkPlace_5 : decode cX11_checkPlace 5 = .ok (.aload_n 0, 1) := by decide +kernel
theorem dX11_checkPlace_6 : decode cX11_checkPlace 6 = .ok (.getfield 12, 3) := by decide +kernel
theorem dX11_checkPlace_9 : decode cX11_checkPlace 9 = .ok (.iload_n 1, 1) := by decide +kernel
theorem dX11_checkPlace_10 : decode cX11_checkPlace 10 = .ok (.invokevirtual 115, 3) := by decide +kernel
theorem dX11_checkPlace_13 : decode cX11_checkPlace 13 = .ok (.iload_n 2, 1) := by decide +kernel
theorem dX11_checkPlace_14 : decode cX11_checkPlace 14 = .ok (.invokevirtual 343, 3) := by decide +kernel
theorem dX11_checkPlace_17 : decode cX11_checkPlace 17 = .ok (.ifCond .ne 14, 3) := by decide +kernel
theorem dX11_checkPlace_20 : decode cX11_checkPlace 20 = .ok (.new 170, 3) := by decide +kernel
theorem dX11_checkPlace_23 : decode cX11_checkPlace 23 = .ok (.dup, 1) := by decide +kernel
theorem dX11_checkPlace_24 : decode cX11_checkPlace 24 = .ok (.ldc_w 346, 3) := by decide +kernel
theorem dX11_checkPlace_27 : decode cX11_checkPlace 27 = .ok (.invokespecial 174, 3) := by decide +kernel
theorem dX11_checkPlace_30 : decode cX11_checkPlace 30 = .ok (.athrow, 1) := by decide +kernel
theorem dX11_checkPlace_31 : decode cX11_checkPlace 31 = .ok (.return_, 1) := by decide +kernel
theorem dX11_checkTwoPaths_0 : decode cX11_checkTwoPaths 0 = .ok (.aload_n 0, 1) := by decide +kernel
theorem dX11_checkTwoPaths_1 : decode cX11_checkTwoPaths 1 = .ok (.iload_n 1, 1) := by decide +kernel
theorem dX11_checkTwoPaths_2 : decode cX11_checkTwoPaths 2 = .ok (.invokevirtual 106, 3) := by decide +kernel
theorem dX11_checkTwoPaths_5 : decode cX11_checkTwoPaths 5 = .ok (.aload_n 0, 1) := by decide +kernel
theorem dX11_checkTwoPaths_6 : decode cX11_checkTwoPaths 6 = .ok (.iload_n 2, 1) := by decide +kernel
theorem dX11_checkTwoPaths_7 : decode cX11_checkTwoPaths 7 = .ok (.invokevirtual 106, 3) := by decide +kernel
theorem dX11_checkTwoPaths_10 : decode cX11_checkTwoPaths 10 = .ok (.iload_n 1, 1) := by decide +kernel
theorem dX11_checkTwoPaths_11 : decode cX11_checkTwoPaths 11 = .ok (.iload_n 2, 1) := by decide +kernel
theorem dX11_checkTwoPaths_12 : decode cX11_checkTwoPaths 12 = .ok (.if_icmp .ne 14, 3) := by decide +kernel
theorem dX11_checkTwoPaths_15 : decode cX11_checkTwoPaths 15 = .ok (.new 206, 3) := by decide +kernel
theorem dX11_checkTwoPaths_18 : decode cX11_checkTwoPaths 18 = .ok (.dup, 1) := by decide +kernel
theorem dX11_checkTwoPaths_19 : decode cX11_checkTwoPaths 19 = .ok (.ldc_w 348, 3) := by decide +kernel
theorem dX11_checkTwoPaths_22 : decode cX11_checkTwoPaths 22 = .ok (.invokespecial 210, 3) := by decide +kernel
theorem dX11_checkTwoPaths_25 : decode cX11_checkTwoPaths 25 = .ok (.athrow, 1) := by decide +kernel
theorem dX11_checkTwoPaths_26 : decode cX11_checkTwoPaths 26 = .ok (.return_, 1) := by decide +kernel
theorem dX11_checkDirection_0 : decode cX11_checkDirection 0 = .ok (.iload_n 0, 1) := by decide +kernel
theorem dX11_checkDirection_1 : decode cX11_checkDirection 1 = .ok (.iconst 0, 1) := by decide +kernel
theorem dX11_checkDirection_2 : decode cX11_checkDirection 2 = .ok (.iconst 3, 1) := by decide +kernel
theorem dX11_checkDirection_3 : decode cX11_checkDirection 3 = .ok (.invokestatic 186, 3) := by decide +kernel
theorem dX11_checkDirection_6 : decode cX11_checkDirection 6 = .ok (.return_, 1) := by decide +kernel
theorem dX11_checkQuarters_0 : decode cX11_checkQuarters 0 = .ok (.iload_n 0, 1) := by decide +kernel
theorem dX11_checkQuarters_1 : decode cX11_checkQuarters 1 = .ok (.iconst 1, 1) := by decide +kernel
theorem dX11_checkQuarters_2 : decode cX11_checkQuarters 2 = .ok (.iconst 3, 1) := by decide +kernel
theorem dX11_checkQuarters_3 : decode cX11_checkQuarters 3 = .ok (.invokestatic 186, 3) := by decide +kernel
theorem dX11_checkQuarters_6 : decode cX11_checkQuarters 6 = .ok (.return_, 1) := by decide +kernel
theorem dX11_checkRange_0 : decode cX11_checkRange 0 = .ok (.iload_n 0, 1) := by decide +kernel
theorem dX11_checkRange_1 : decode cX11_checkRange 1 = .ok (.iload_n 1, 1) := by decide +kernel
theorem dX11_checkRange_2 : decode cX11_checkRange 2 = .ok (.if_icmp .lt 8, 3) := by decide +kernel
theorem dX11_checkRange_5 : decode cX11_checkRange 5 = .ok (.iload_n 0, 1) := by decide +kernel
theorem dX11_checkRange_6 : decode cX11_checkRange 6 = .ok (.iload_n 2, 1) := by decide +kernel
theorem dX11_checkRange_7 : decode cX11_checkRange 7 = .ok (.if_icmp .le 14, 3) := by decide +kernel
theorem dX11_checkRange_10 : decode cX11_checkRange 10 = .ok (.new 206, 3) := by decide +kernel
theorem dX11_checkRange_13 : decode cX11_checkRange 13 = .ok (.dup, 1) := by decide +kernel
theorem dX11_checkRange_14 : decode cX11_checkRange 14 = .ok (.ldc_w 350, 3) := by decide +kernel
theorem dX11_checkRange_17 : decode cX11_checkRange 17 = .ok (.invokespecial 210, 3) := by decide +kernel
theorem dX11_checkRange_20 : decode cX11_checkRange 20 = .ok (.athrow, 1) := by decide +kernel
theorem dX11_checkRange_21 : decode cX11_checkRange 21 = .ok (.return_, 1) := by decide +kernel
theorem dJ9_abs_0f7a4_0 : decode cJ9_abs_0f7a4 0 = .ok (.iload_n 0, 1) := by decide +kernel
theorem dJ9_abs_0f7a4_1 : decode cJ9_abs_0f7a4 1 = .ok (.ifCond .ge 8, 3) := by decide +kernel
theorem dJ9_abs_0f7a4_4 : decode cJ9_abs_0f7a4 4 = .ok (.iload_n 0, 1) := by decide +kernel
theorem dJ9_abs_0f7a4_5 : decode cJ9_abs_0f7a4 5 = .ok (.ineg, 1) := by decide +kernel
theorem dJ9_abs_0f7a4_6 : decode cJ9_abs_0f7a4 6 = .ok (.goto 4, 3) := by decide +kernel
theorem dJ9_abs_0f7a4_9 : decode cJ9_abs_0f7a4 9 = .ok (.iload_n 0, 1) := by decide +kernel
theorem dJ9_abs_0f7a4_10 : decode cJ9_abs_0f7a4 10 = .ok (.ireturn, 1) := by decide +kernel
theorem dJ9_max_7cf53_0 : decode cJ9_max_7cf53 0 = .ok (.iload_n 0, 1) := by decide +kernel
theorem dJ9_max_7cf53_1 : decode cJ9_max_7cf53 1 = .ok (.iload_n 1, 1) := by decide +kernel
theorem dJ9_max_7cf53_2 : decode cJ9_max_7cf53 2 = .ok (.if_icmp .lt 7, 3) := by decide +kernel
theorem dJ9_max_7cf53_5 : decode cJ9_max_7cf53 5 = .ok (.iload_n 0, 1) := by decide +kernel
theorem dJ9_max_7cf53_6 : decode cJ9_max_7cf53 6 = .ok (.goto 4, 3) := by decide +kernel
theorem dJ9_max_7cf53_9 : decode cJ9_max_7cf53 9 = .ok (.iload_n 1, 1) := by decide +kernel
theorem dJ9_max_7cf53_10 : decode cJ9_max_7cf53 10 = .ok (.ireturn, 1) := by decide +kernel
theorem dJ9_min_7cf53_0 : decode cJ9_min_7cf53 0 = .ok (.iload_n 0, 1) := by decide +kernel
theorem dJ9_min_7cf53_1 : decode cJ9_min_7cf53 1 = .ok (.iload_n 1, 1) := by decide +kernel
theorem dJ9_min_7cf53_2 : decode cJ9_min_7cf53 2 = .ok (.if_icmp .gt 7, 3) := by decide +kernel
theorem dJ9_min_7cf53_5 : decode cJ9_min_7cf53 5 = .ok (.iload_n 0, 1) := by decide +kernel
theorem dJ9_min_7cf53_6 : decode cJ9_min_7cf53 6 = .ok (.goto 4, 3) := by decide +kernel
theorem dJ9_min_7cf53_9 : decode cJ9_min_7cf53 9 = .ok (.iload_n 1, 1) := by decide +kernel
theorem dJ9_min_7cf53_10 : decode cJ9_min_7cf53 10 = .ok (.ireturn, 1) := by decide +kernel
theorem dJ7_fill_53178_0 : decode cJ7_fill_53178 0 = .ok (.iconst 0, 1) := by decide +kernel
theorem dJ7_fill_53178_1 : decode cJ7_fill_53178 1 = .ok (.istore_n 2, 1) := by decide +kernel
theorem dJ7_fill_53178_2 : decode cJ7_fill_53178 2 = .ok (.aload_n 0, 1) := by decide +kernel
theorem dJ7_fill_53178_3 : decode cJ7_fill_53178 3 = .ok (.arraylength, 1) := by decide +kernel
theorem dJ7_fill_53178_4 : decode cJ7_fill_53178 4 = .ok (.istore_n 3, 1) := by decide +kernel
theorem dJ7_fill_53178_5 : decode cJ7_fill_53178 5 = .ok (.iload_n 2, 1) := by decide +kernel
theorem dJ7_fill_53178_6 : decode cJ7_fill_53178 6 = .ok (.iload_n 3, 1) := by decide +kernel
theorem dJ7_fill_53178_7 : decode cJ7_fill_53178 7 = .ok (.if_icmp .ge 13, 3) := by decide +kernel
theorem dJ7_fill_53178_10 : decode cJ7_fill_53178 10 = .ok (.aload_n 0, 1) := by decide +kernel
theorem dJ7_fill_53178_11 : decode cJ7_fill_53178 11 = .ok (.iload_n 2, 1) := by decide +kernel
theorem dJ7_fill_53178_12 : decode cJ7_fill_53178 12 = .ok (.iload_n 1, 1) := by decide +kernel
theorem dJ7_fill_53178_13 : decode cJ7_fill_53178 13 = .ok (.iastore, 1) := by decide +kernel
theorem dJ7_fill_53178_14 : decode cJ7_fill_53178 14 = .ok (.iinc 2 1, 3) := by decide +kernel
theorem dJ7_fill_53178_17 : decode cJ7_fill_53178 17 = .ok (.goto (-12), 3) := by decide +kernel
theorem dJ7_fill_53178_20 : decode cJ7_fill_53178 20 = .ok (.return_, 1) := by decide +kernel
theorem dL_cell_0 : decode cL_cell 0 = .ok (.iload_n 1, 1) := by decide +kernel
theorem dL_cell_1 : decode cL_cell 1 = .ok (.aload_n 0, 1) := by decide +kernel
theorem dL_cell_2 : decode cL_cell 2 = .ok (.arraylength, 1) := by decide +kernel
theorem dL_cell_3 : decode cL_cell 3 = .ok (.if_icmp .ge 9, 3) := by decide +kernel
theorem dL_cell_6 : decode cL_cell 6 = .ok (.aload_n 0, 1) := by decide +kernel
theorem dL_cell_7 : decode cL_cell 7 = .ok (.iload_n 1, 1) := by decide +kernel
theorem dL_cell_8 : decode cL_cell 8 = .ok (.iaload, 1) := by decide +kernel
theorem dL_cell_9 : decode cL_cell 9 = .ok (.goto 13, 3) := by decide +kernel
theorem dL_cell_12 : decode cL_cell 12 = .ok (.ldc 7, 2) := by decide +kernel
theorem dL_cell_14 : decode cL_cell 14 = .ok (.iload_n 1, 1) := by decide +kernel
theorem dL_cell_15 : decode cL_cell 15 = .ok (.bipush 7, 2) := by decide +kernel
theorem dL_cell_17 : decode cL_cell 17 = .ok (.iadd, 1) := by decide +kernel
theorem dL_cell_18 : decode cL_cell 18 = .ok (.imul, 1) := by decide +kernel
theorem dL_cell_19 : decode cL_cell 19 = .ok (.ldc 8, 2) := by decide +kernel
theorem dL_cell_21 : decode cL_cell 21 = .ok (.iadd, 1) := by decide +kernel
theorem dL_cell_22 : decode cL_cell 22 = .ok (.ireturn, 1) := by decide +kernel
theorem dL_low_0 : decode cL_low 0 = .ok (.iload_n 0, 1) := by decide +kernel
theorem dL_low_1 : decode cL_low 1 = .ok (.ldc 9, 2) := by decide +kernel
theorem dL_low_3 : decode cL_low 3 = .ok (.iand, 1) := by decide +kernel
theorem dL_low_4 : decode cL_low 4 = .ok (.iload_n 1, 1) := by decide +kernel
theorem dL_low_5 : decode cL_low 5 = .ok (.irem, 1) := by decide +kernel
theorem dL_low_6 : decode cL_low 6 = .ok (.ireturn, 1) := by decide +kernel
theorem dL_start_0 : decode cL_start 0 = .ok (.aload_n 0, 1) := by decide +kernel
theorem dL_start_1 : decode cL_start 1 = .ok (.iload_n 1, 1) := by decide +kernel
theorem dL_start_2 : decode cL_start 2 = .ok (.iload_n 2, 1) := by decide +kernel
theorem dL_start_3 : decode cL_start 3 = .ok (.invokevirtual 10, 3) := by decide +kernel
theorem dL_start_6 : decode cL_start 6 = .ok (.ireturn, 1) := by decide +kernel
theorem dL_start_7 : decode cL_start 7 = .ok (.astore_n 3, 1) := by decide +kernel
theorem dL_start_8 : decode cL_start 8 = .ok (.bipush (-101), 2) := by decide +kernel
theorem dL_start_10 : decode cL_start 10 = .ok (.ireturn, 1) := by decide +kernel
theorem dL_start_11 : decode cL_start 11 = .ok (.astore_n 3, 1) := by decide +kernel
theorem dL_start_12 : decode cL_start 12 = .ok (.bipush (-103), 2) := by decide +kernel
theorem dL_start_14 : decode cL_start 14 = .ok (.ireturn, 1) := by decide +kernel
theorem dL_step_0 : decode cL_step 0 = .ok (.aload_n 0, 1) := by decide +kernel
theorem dL_step_1 : decode cL_step 1 = .ok (.iload_n 1, 1) := by decide +kernel
theorem dL_step_2 : decode cL_step 2 = .ok (.iload_n 2, 1) := by decide +kernel
theorem dL_step_3 : decode cL_step 3 = .ok (.invokevirtual 20, 3) := by decide +kernel
theorem dL_step_6 : decode cL_step 6 = .ok (.ireturn, 1) := by decide +kernel
theorem dL_step_7 : decode cL_step 7 = .ok (.astore_n 3, 1) := by decide +kernel
theorem dL_step_8 : decode cL_step 8 = .ok (.bipush (-101), 2) := by decide +kernel
theorem dL_step_10 : decode cL_step 10 = .ok (.ireturn, 1) := by decide +kernel
theorem dL_step_11 : decode cL_step 11 = .ok (.astore_n 3, 1) := by decide +kernel
theorem dL_step_12 : decode cL_step 12 = .ok (.bipush (-102), 2) := by decide +kernel
theorem dL_step_14 : decode cL_step 14 = .ok (.ireturn, 1) := by decide +kernel
theorem dL_back_0 : decode cL_back 0 = .ok (.aload_n 0, 1) := by decide +kernel
theorem dL_back_1 : decode cL_back 1 = .ok (.iload_n 1, 1) := by decide +kernel
theorem dL_back_2 : decode cL_back 2 = .ok (.invokevirtual 25, 3) := by decide +kernel
theorem dL_back_5 : decode cL_back 5 = .ok (.ireturn, 1) := by decide +kernel
theorem dL_back_6 : decode cL_back 6 = .ok (.astore_n 2, 1) := by decide +kernel
theorem dL_back_7 : decode cL_back 7 = .ok (.bipush (-101), 2) := by decide +kernel
theorem dL_back_9 : decode cL_back 9 = .ok (.ireturn, 1) := by decide +kernel
theorem dL_back_10 : decode cL_back 10 = .ok (.astore_n 2, 1) := by decide +kernel
theorem dL_back_11 : decode cL_back 11 = .ok (.bipush (-103), 2) := by decide +kernel
theorem dL_back_13 : decode cL_back 13 = .ok (.ireturn, 1) := by decide +kernel
theorem dL_slither_0 : decode cL_slither 0 = .ok (.aload_n 0, 1) := by decide +kernel
theorem dL_slither_1 : decode cL_slither 1 = .ok (.iload_n 1, 1) := by decide +kernel
theorem dL_slither_2 : decode cL_slither 2 = .ok (.iload_n 2, 1) := by decide +kernel
theorem dL_slither_3 : decode cL_slither 3 = .ok (.invokevirtual 29, 3) := by decide +kernel
theorem dL_slither_6 : decode cL_slither 6 = .ok (.ireturn, 1) := by decide +kernel
theorem dL_slither_7 : decode cL_slither 7 = .ok (.astore_n 3, 1) := by decide +kernel
theorem dL_slither_8 : decode cL_slither 8 = .ok (.bipush (-101), 2) := by decide +kernel
theorem dL_slither_10 : decode cL_slither 10 = .ok (.ireturn, 1) := by decide +kernel
theorem dL_slither_11 : decode cL_slither 11 = .ok (.astore_n 3, 1) := by decide +kernel
theorem dL_slither_12 : decode cL_slither 12 = .ok (.bipush (-102), 2) := by decide +kernel
theorem dL_slither_14 : decode cL_slither 14 = .ok (.ireturn, 1) := by decide +kernel
theorem dL_turn_0 : decode cL_turn 0 = .ok (.aload_n 0, 1) := by decide +kernel
theorem dL_turn_1 : decode cL_turn 1 = .ok (.iload_n 1, 1) := by decide +kernel
theorem dL_turn_2 : decode cL_turn 2 = .ok (.iload_n 2, 1) := by decide +kernel
theorem dL_turn_3 : decode cL_turn 3 = .ok (.iload_n 3, 1) := by decide +kernel
theorem dL_turn_4 : decode cL_turn 4 = .ok (.invokevirtual 32, 3) := by decide +kernel
theorem dL_turn_7 : decode cL_turn 7 = .ok (.ireturn, 1) := by decide +kernel
theorem dL_turn_8 : decode cL_turn 8 = .ok (.astore 4, 2) := by decide +kernel
theorem dL_turn_10 : decode cL_turn 10 = .ok (.bipush (-101), 2) := by decide +kernel
theorem dL_turn_12 : decode cL_turn 12 = .ok (.ireturn, 1) := by decide +kernel
theorem dL_turn_13 : decode cL_turn 13 = .ok (.astore 4, 2) := by decide +kernel
theorem dL_turn_15 : decode cL_turn 15 = .ok (.bipush (-102), 2) := by decide +kernel
theorem dL_turn_17 : decode cL_turn 17 = .ok (.ireturn, 1) := by decide +kernel
theorem dL_reverse_0 : decode cL_reverse 0 = .ok (.aload_n 0, 1) := by decide +kernel
theorem dL_reverse_1 : decode cL_reverse 1 = .ok (.iload_n 1, 1) := by decide +kernel
theorem dL_reverse_2 : decode cL_reverse 2 = .ok (.invokevirtual 36, 3) := by decide +kernel
theorem dL_reverse_5 : decode cL_reverse 5 = .ok (.ireturn, 1) := by decide +kernel
theorem dL_reverse_6 : decode cL_reverse 6 = .ok (.astore_n 2, 1) := by decide +kernel
theorem dL_reverse_7 : decode cL_reverse 7 = .ok (.bipush (-101), 2) := by decide +kernel
theorem dL_reverse_9 : decode cL_reverse 9 = .ok (.ireturn, 1) := by decide +kernel
theorem dL_join_0 : decode cL_join 0 = .ok (.aload_n 0, 1) := by decide +kernel
theorem dL_join_1 : decode cL_join 1 = .ok (.iload_n 1, 1) := by decide +kernel
theorem dL_join_2 : decode cL_join 2 = .ok (.iload_n 2, 1) := by decide +kernel
theorem dL_join_3 : decode cL_join 3 = .ok (.invokevirtual 39, 3) := by decide +kernel
theorem dL_join_6 : decode cL_join 6 = .ok (.ireturn, 1) := by decide +kernel
theorem dL_join_7 : decode cL_join 7 = .ok (.astore_n 3, 1) := by decide +kernel
theorem dL_join_8 : decode cL_join 8 = .ok (.bipush (-101), 2) := by decide +kernel
theorem dL_join_10 : decode cL_join 10 = .ok (.ireturn, 1) := by decide +kernel
theorem dL_join_11 : decode cL_join 11 = .ok (.astore_n 3, 1) := by decide +kernel
theorem dL_join_12 : decode cL_join 12 = .ok (.bipush (-102), 2) := by decide +kernel
theorem dL_join_14 : decode cL_join 14 = .ok (.ireturn, 1) := by decide +kernel
theorem dL_join_15 : decode cL_join 15 = .ok (.astore_n 3, 1) := by decide +kernel
theorem dL_join_16 : decode cL_join 16 = .ok (.bipush (-103), 2) := by decide +kernel
theorem dL_join_18 : decode cL_join 18 = .ok (.ireturn, 1) := by decide +kernel
theorem dL_split_0 : decode cL_split 0 = .ok (.aload_n 0, 1) := by decide +kernel
theorem dL_split_1 : decode cL_split 1 = .ok (.iload_n 1, 1) := by decide +kernel
theorem dL_split_2 : decode cL_split 2 = .ok (.iload_n 2, 1) := by decide +kernel
theorem dL_split_3 : decode cL_split 3 = .ok (.invokevirtual 42, 3) := by decide +kernel
theorem dL_split_6 : decode cL_split 6 = .ok (.ireturn, 1) := by decide +kernel
theorem dL_split_7 : decode cL_split 7 = .ok (.astore_n 3, 1) := by decide +kernel
theorem dL_split_8 : decode cL_split 8 = .ok (.bipush (-101), 2) := by decide +kernel
theorem dL_split_10 : decode cL_split 10 = .ok (.ireturn, 1) := by decide +kernel
theorem dL_split_11 : decode cL_split 11 = .ok (.astore_n 3, 1) := by decide +kernel
theorem dL_split_12 : decode cL_split 12 = .ok (.bipush (-103), 2) := by decide +kernel
theorem dL_split_14 : decode cL_split 14 = .ok (.ireturn, 1) := by decide +kernel
theorem dL_remove_0 : decode cL_remove 0 = .ok (.aload_n 0, 1) := by decide +kernel
theorem dL_remove_1 : decode cL_remove 1 = .ok (.iload_n 1, 1) := by decide +kernel
theorem dL_remove_2 : decode cL_remove 2 = .ok (.invokevirtual 45, 3) := by decide +kernel
theorem dL_remove_5 : decode cL_remove 5 = .ok (.ireturn, 1) := by decide +kernel
theorem dL_remove_6 : decode cL_remove 6 = .ok (.astore_n 2, 1) := by decide +kernel
theorem dL_remove_7 : decode cL_remove 7 = .ok (.bipush (-101), 2) := by decide +kernel
theorem dL_remove_9 : decode cL_remove 9 = .ok (.ireturn, 1) := by decide +kernel
theorem dL_undo_0 : decode cL_undo 0 = .ok (.aload_n 0, 1) := by decide +kernel
theorem dL_undo_1 : decode cL_undo 1 = .ok (.invokevirtual 48, 3) := by decide +kernel
theorem dL_undo_4 : decode cL_undo 4 = .ok (.ireturn, 1) := by decide +kernel
theorem dL_undo_5 : decode cL_undo 5 = .ok (.astore_n 1, 1) := by decide +kernel
theorem dL_undo_6 : decode cL_undo 6 = .ok (.bipush (-103), 2) := by decide +kernel
theorem dL_undo_8 : decode cL_undo 8 = .ok (.ireturn, 1) := by decide +kernel
theorem dL_site_0 : decode cL_site 0 = .ok (.aload_n 0, 1) := by decide +kernel
theorem dL_site_1 : decode cL_site 1 = .ok (.iload_n 1, 1) := by decide +kernel
theorem dL_site_2 : decode cL_site 2 = .ok (.iload_n 2, 1) := by decide +kernel
theorem dL_site_3 : decode cL_site 3 = .ok (.iload_n 3, 1) := by decide +kernel
theorem dL_site_4 : decode cL_site 4 = .ok (.invokevirtual 52, 3) := by decide +kernel
theorem dL_site_7 : decode cL_site 7 = .ok (.ireturn, 1) := by decide +kernel
theorem dL_site_8 : decode cL_site 8 = .ok (.astore 4, 2) := by decide +kernel
theorem dL_site_10 : decode cL_site 10 = .ok (.bipush (-101), 2) := by decide +kernel
theorem dL_site_12 : decode cL_site 12 = .ok (.ireturn, 1) := by decide +kernel
theorem dL_site_13 : decode cL_site 13 = .ok (.astore 4, 2) := by decide +kernel
theorem dL_site_15 : decode cL_site 15 = .ok (.bipush (-102), 2) := by decide +kernel
theorem dL_site_17 : decode cL_site 17 = .ok (.ireturn, 1) := by decide +kernel
theorem dL_place_0 : decode cL_place 0 = .ok (.aload_n 0, 1) := by decide +kernel
theorem dL_place_1 : decode cL_place 1 = .ok (.iload_n 1, 1) := by decide +kernel
theorem dL_place_2 : decode cL_place 2 = .ok (.iload_n 2, 1) := by decide +kernel
theorem dL_place_3 : decode cL_place 3 = .ok (.invokevirtual 55, 3) := by decide +kernel
theorem dL_place_6 : decode cL_place 6 = .ok (.ireturn, 1) := by decide +kernel
theorem dL_place_7 : decode cL_place 7 = .ok (.astore_n 3, 1) := by decide +kernel
theorem dL_place_8 : decode cL_place 8 = .ok (.bipush (-101), 2) := by decide +kernel
theorem dL_place_10 : decode cL_place 10 = .ok (.ireturn, 1) := by decide +kernel
theorem dL_path_0 : decode cL_path 0 = .ok (.aload_n 0, 1) := by decide +kernel
theorem dL_path_1 : decode cL_path 1 = .ok (.iload_n 1, 1) := by decide +kernel
theorem dL_path_2 : decode cL_path 2 = .ok (.iload_n 2, 1) := by decide +kernel
theorem dL_path_3 : decode cL_path 3 = .ok (.invokevirtual 58, 3) := by decide +kernel
theorem dL_path_6 : decode cL_path 6 = .ok (.ireturn, 1) := by decide +kernel
theorem dL_path_7 : decode cL_path 7 = .ok (.astore_n 3, 1) := by decide +kernel
theorem dL_path_8 : decode cL_path 8 = .ok (.bipush (-101), 2) := by decide +kernel
theorem dL_path_10 : decode cL_path 10 = .ok (.ireturn, 1) := by decide +kernel
theorem dL_path_11 : decode cL_path 11 = .ok (.astore_n 3, 1) := by decide +kernel
theorem dL_path_12 : decode cL_path 12 = .ok (.bipush (-102), 2) := by decide +kernel
theorem dL_path_14 : decode cL_path 14 = .ok (.ireturn, 1) := by decide +kernel
theorem dL_touching_0 : decode cL_touching 0 = .ok (.aload_n 0, 1) := by decide +kernel
theorem dL_touching_1 : decode cL_touching 1 = .ok (.iload_n 1, 1) := by decide +kernel
theorem dL_touching_2 : decode cL_touching 2 = .ok (.iload_n 2, 1) := by decide +kernel
theorem dL_touching_3 : decode cL_touching 3 = .ok (.invokevirtual 61, 3) := by decide +kernel
theorem dL_touching_6 : decode cL_touching 6 = .ok (.ireturn, 1) := by decide +kernel
theorem dL_touching_7 : decode cL_touching 7 = .ok (.astore_n 3, 1) := by decide +kernel
theorem dL_touching_8 : decode cL_touching 8 = .ok (.bipush (-101), 2) := by decide +kernel
theorem dL_touching_10 : decode cL_touching 10 = .ok (.ireturn, 1) := by decide +kernel
theorem dL_touching_11 : decode cL_touching 11 = .ok (.astore_n 3, 1) := by decide +kernel
theorem dL_touching_12 : decode cL_touching 12 = .ok (.bipush (-102), 2) := by decide +kernel
theorem dL_touching_14 : decode cL_touching 14 = .ok (.ireturn, 1) := by decide +kernel
theorem dL_count_0 : decode cL_count 0 = .ok (.aload_n 0, 1) := by decide +kernel
theorem dL_count_1 : decode cL_count 1 = .ok (.iload_n 1, 1) := by decide +kernel
theorem dL_count_2 : decode cL_count 2 = .ok (.invokevirtual 64, 3) := by decide +kernel
theorem dL_count_5 : decode cL_count 5 = .ok (.ireturn, 1) := by decide +kernel
theorem dL_count_6 : decode cL_count 6 = .ok (.astore_n 2, 1) := by decide +kernel
theorem dL_count_7 : decode cL_count 7 = .ok (.bipush (-102), 2) := by decide +kernel
theorem dL_count_9 : decode cL_count 9 = .ok (.ireturn, 1) := by decide +kernel
theorem dL_ifTurned_0 : decode cL_ifTurned 0 = .ok (.aload_n 0, 1) := by decide +kernel
theorem dL_ifTurned_1 : decode cL_ifTurned 1 = .ok (.iload_n 1, 1) := by decide +kernel
theorem dL_ifTurned_2 : decode cL_ifTurned 2 = .ok (.iload_n 2, 1) := by decide +kernel
theorem dL_ifTurned_3 : decode cL_ifTurned 3 = .ok (.iload_n 3, 1) := by decide +kernel
theorem dL_ifTurned_4 : decode cL_ifTurned 4 = .ok (.invokevirtual 67, 3) := by decide +kernel
theorem dL_ifTurned_7 : decode cL_ifTurned 7 = .ok (.ireturn, 1) := by decide +kernel
theorem dL_ifTurned_8 : decode cL_ifTurned 8 = .ok (.astore 4, 2) := by decide +kernel
theorem dL_ifTurned_10 : decode cL_ifTurned 10 = .ok (.bipush (-101), 2) := by decide +kernel
theorem dL_ifTurned_12 : decode cL_ifTurned 12 = .ok (.ireturn, 1) := by decide +kernel
theorem dL_ifTurned_13 : decode cL_ifTurned 13 = .ok (.astore 4, 2) := by decide +kernel
theorem dL_ifTurned_15 : decode cL_ifTurned 15 = .ok (.bipush (-102), 2) := by decide +kernel
theorem dL_ifTurned_17 : decode cL_ifTurned 17 = .ok (.ireturn, 1) := by decide +kernel
theorem dL_at_0 : decode cL_at 0 = .ok (.aload_n 2, 1) := by decide +kernel
theorem dL_at_1 : decode cL_at 1 = .ok (.bipush 12, 2) := by decide +kernel
theorem dL_at_3 : decode cL_at 3 = .ok (.iload_n 0, 1) := by decide +kernel
theorem dL_at_4 : decode cL_at 4 = .ok (.imul, 1) := by decide +kernel
theorem dL_at_5 : decode cL_at 5 = .ok (.iload_n 1, 1) := by decide +kernel
theorem dL_at_6 : decode cL_at 6 = .ok (.iconst 4, 1) := by decide +kernel
theorem dL_at_7 : decode cL_at 7 = .ok (.idiv, 1) := by decide +kernel
theorem dL_at_8 : decode cL_at 8 = .ok (.iadd, 1) := by decide +kernel
theorem dL_at_9 : decode cL_at 9 = .ok (.iaload, 1) := by decide +kernel
theorem dL_at_10 : decode cL_at 10 = .ok (.bipush 7, 2) := by decide +kernel
theorem dL_at_12 : decode cL_at 12 = .ok (.iload_n 1, 1) := by decide +kernel
theorem dL_at_13 : decode cL_at 13 = .ok (.iconst 4, 1) := by decide +kernel
theorem dL_at_14 : decode cL_at 14 = .ok (.irem, 1) := by decide +kernel
theorem dL_at_15 : decode cL_at 15 = .ok (.imul, 1) := by decide +kernel
theorem dL_at_16 : decode cL_at 16 = .ok (.ishr, 1) := by decide +kernel
theorem dL_at_17 : decode cL_at 17 = .ok (.bipush 127, 2) := by decide +kernel
theorem dL_at_19 : decode cL_at 19 = .ok (.iand, 1) := by decide +kernel
theorem dL_at_20 : decode cL_at 20 = .ok (.ireturn, 1) := by decide +kernel
theorem dL_puts_0 : decode cL_puts 0 = .ok (.bipush 12, 2) := by decide +kernel
theorem dL_puts_2 : decode cL_puts 2 = .ok (.iload_n 0, 1) := by decide +kernel
theorem dL_puts_3 : decode cL_puts 3 = .ok (.imul, 1) := by decide +kernel
theorem dL_puts_4 : decode cL_puts 4 = .ok (.iload_n 1, 1) := by decide +kernel
theorem dL_puts_5 : decode cL_puts 5 = .ok (.iconst 4, 1) := by decide +kernel
theorem dL_puts_6 : decode cL_puts 6 = .ok (.idiv, 1) := by decide +kernel
theorem dL_puts_7 : decode cL_puts 7 = .ok (.iadd, 1) := by decide +kernel
theorem dL_puts_8 : decode cL_puts 8 = .ok (.istore 4, 2) := by decide +kernel
theorem dL_puts_10 : decode cL_puts 10 = .ok (.aload_n 3, 1) := by decide +kernel
theorem dL_puts_11 : decode cL_puts 11 = .ok (.iload 4, 2) := by decide +kernel
theorem dL_puts_13 : decode cL_puts 13 = .ok (.aload_n 3, 1) := by decide +kernel
theorem dL_puts_14 : decode cL_puts 14 = .ok (.iload 4, 2) := by decide +kernel
theorem dL_puts_16 : decode cL_puts 16 = .ok (.iaload, 1) := by decide +kernel
theorem dL_puts_17 : decode cL_puts 17 = .ok (.bipush 127, 2) := by decide +kernel
theorem dL_puts_19 : decode cL_puts 19 = .ok (.bipush 7, 2) := by decide +kernel
theorem dL_puts_21 : decode cL_puts 21 = .ok (.iload_n 1, 1) := by decide +kernel
theorem dL_puts_22 : decode cL_puts 22 = .ok (.iconst 4, 1) := by decide +kernel
theorem dL_puts_23 : decode cL_puts 23 = .ok (.irem, 1) := by decide +kernel
theorem dL_puts_24 : decode cL_puts 24 = .ok (.imul, 1) := by decide +kernel
theorem dL_puts_25 : decode cL_puts 25 = .ok (.ishl, 1) := by decide +kernel
theorem dL_puts_26 : decode cL_puts 26 = .ok (.iconst (-1), 1) := by decide +kernel
theorem dL_puts_27 : decode cL_puts 27 = .ok (.ixor, 1) := by decide +kernel
theorem dL_puts_28 : decode cL_puts 28 = .ok (.iand, 1) := by decide +kernel
theorem dL_puts_29 : decode cL_puts 29 = .ok (.iload_n 2, 1) := by decide +kernel
theorem dL_puts_30 : decode cL_puts 30 = .ok (.bipush 7, 2) := by decide +kernel
theorem dL_puts_32 : decode cL_puts 32 = .ok (.iload_n 1, 1) := by decide +kernel
theorem dL_puts_33 : decode cL_puts 33 = .ok (.iconst 4, 1) := by decide +kernel
theorem dL_puts_34 : decode cL_puts 34 = .ok (.irem, 1) := by decide +kernel
theorem dL_puts_35 : decode cL_puts 35 = .ok (.imul, 1) := by decide +kernel
theorem dL_puts_36 : decode cL_puts 36 = .ok (.ishl, 1) := by decide +kernel
theorem dL_puts_37 : decode cL_puts 37 = .ok (.ior, 1) := by decide +kernel
theorem dL_puts_38 : decode cL_puts 38 = .ok (.iastore, 1) := by decide +kernel
theorem dL_puts_39 : decode cL_puts 39 = .ok (.return_, 1) := by decide +kernel
theorem dL_go_0 : decode cL_go 0 = .ok (.iload_n 1, 1) := by decide +kernel
theorem dL_go_1 : decode cL_go 1 = .ok (.ifCond .ne 18, 3) := by decide +kernel
theorem dL_go_4 : decode cL_go 4 = .ok (.iload_n 0, 1) := by decide +kernel
theorem dL_go_5 : decode cL_go 5 = .ok (.bipush 10, 2) := by decide +kernel
theorem dL_go_7 : decode cL_go 7 = .ok (.if_icmp .ge 7, 3) := by decide +kernel
theorem dL_go_10 : decode cL_go 10 = .ok (.iconst (-1), 1) := by decide +kernel
theorem dL_go_11 : decode cL_go 11 = .ok (.goto 7, 3) := by decide +kernel
theorem dL_go_14 : decode cL_go 14 = .ok (.iload_n 0, 1) := by decide +kernel
theorem dL_go_15 : decode cL_go 15 = .ok (.bipush 10, 2) := by decide +kernel
theorem dL_go_17 : decode cL_go 17 = .ok (.isub, 1) := by decide +kernel
theorem dL_go_18 : decode cL_go 18 = .ok (.ireturn, 1) := by decide +kernel
theorem dL_go_19 : decode cL_go 19 = .ok (.iload_n 1, 1) := by decide +kernel
theorem dL_go_20 : decode cL_go 20 = .ok (.iconst 1, 1) := by decide +kernel
theorem dL_go_21 : decode cL_go 21 = .ok (.if_icmp .ne 20, 3) := by decide +kernel
theorem dL_go_24 : decode cL_go 24 = .ok (.iload_n 0, 1) := by decide +kernel
theorem dL_go_25 : decode cL_go 25 = .ok (.bipush 10, 2) := by decide +kernel
theorem dL_go_27 : decode cL_go 27 = .ok (.irem, 1) := by decide +kernel
theorem dL_go_28 : decode cL_go 28 = .ok (.bipush 9, 2) := by decide +kernel
theorem dL_go_30 : decode cL_go 30 = .ok (.if_icmp .ne 7, 3) := by decide +kernel
theorem dL_go_33 : decode cL_go 33 = .ok (.iconst (-1), 1) := by decide +kernel
theorem dL_go_34 : decode cL_go 34 = .ok (.goto 6, 3) := by decide +kernel
theorem dL_go_37 : decode cL_go 37 = .ok (.iload_n 0, 1) := by decide +kernel
theorem dL_go_38 : decode cL_go 38 = .ok (.iconst 1, 1) := by decide +kernel
theorem dL_go_39 : decode cL_go 39 = .ok (.iadd, 1) := by decide +kernel
theorem dL_go_40 : decode cL_go 40 = .ok (.ireturn, 1) := by decide +kernel
theorem dL_go_41 : decode cL_go 41 = .ok (.iload_n 1, 1) := by decide +kernel
theorem dL_go_42 : decode cL_go 42 = .ok (.iconst 2, 1) := by decide +kernel
theorem dL_go_43 : decode cL_go 43 = .ok (.if_icmp .ne 20, 3) := by decide +kernel
theorem dL_go_46 : decode cL_go 46 = .ok (.iload_n 0, 1) := by decide +kernel
theorem dL_go_47 : decode cL_go 47 = .ok (.bipush 89, 2) := by decide +kernel
theorem dL_go_49 : decode cL_go 49 = .ok (.if_icmp .le 7, 3) := by decide +kernel
theorem dL_go_52 : decode cL_go 52 = .ok (.iconst (-1), 1) := by decide +kernel
theorem dL_go_53 : decode cL_go 53 = .ok (.goto 24, 3) := by decide +kernel
theorem dL_go_56 : decode cL_go 56 = .ok (.iload_n 0, 1) := by decide +kernel
theorem dL_go_57 : decode cL_go 57 = .ok (.bipush 10, 2) := by decide +kernel
theorem dL_go_59 : decode cL_go 59 = .ok (.iadd, 1) := by decide +kernel
theorem dL_go_60 : decode cL_go 60 = .ok (.goto 17, 3) := by decide +kernel
theorem dL_go_63 : decode cL_go 63 = .ok (.iload_n 0, 1) := by decide +kernel
theorem dL_go_64 : decode cL_go 64 = .ok (.bipush 10, 2) := by decide +kernel
theorem dL_go_66 : decode cL_go 66 = .ok (.irem, 1) := by decide +kernel
theorem dL_go_67 : decode cL_go 67 = .ok (.ifCond .ne 7, 3) := by decide +kernel
theorem dL_go_70 : decode cL_go 70 = .ok (.iconst (-1), 1) := by decide +kernel
theorem dL_go_71 : decode cL_go 71 = .ok (.goto 6, 3) := by decide +kernel
theorem dL_go_74 : decode cL_go 74 = .ok (.iload_n 0, 1) := by decide +kernel
theorem dL_go_75 : decode cL_go 75 = .ok (.iconst 1, 1) := by decide +kernel
theorem dL_go_76 : decode cL_go 76 = .ok (.isub, 1) := by decide +kernel
theorem dL_go_77 : decode cL_go 77 = .ok (.ireturn, 1) := by decide +kernel
theorem dL_whose_0 : decode cL_whose 0 = .ok (.iconst 0, 1) := by decide +kernel
theorem dL_whose_1 : decode cL_whose 1 = .ok (.istore_n 3, 1) := by decide +kernel
theorem dL_whose_2 : decode cL_whose 2 = .ok (.iload_n 3, 1) := by decide +kernel
theorem dL_whose_3 : decode cL_whose 3 = .ok (.aload_n 1, 1) := by decide +kernel
theorem dL_whose_4 : decode cL_whose 4 = .ok (.iconst 5, 1) := by decide +kernel
theorem dL_whose_5 : decode cL_whose 5 = .ok (.iaload, 1) := by decide +kernel
theorem dL_whose_6 : decode cL_whose 6 = .ok (.if_icmp .ge 45, 3) := by decide +kernel
theorem dL_whose_9 : decode cL_whose 9 = .ok (.iconst 0, 1) := by decide +kernel
theorem dL_whose_10 : decode cL_whose 10 = .ok (.istore 4, 2) := by decide +kernel
theorem dL_whose_12 : decode cL_whose 12 = .ok (.iload 4, 2) := by decide +kernel
theorem dL_whose_14 : decode cL_whose 14 = .ok (.aload_n 1, 1) := by decide +kernel
theorem dL_whose_15 : decode cL_whose 15 = .ok (.iload_n 3, 1) := by decide +kernel
theorem dL_whose_16 : decode cL_whose 16 = .ok (.iaload, 1) := by decide +kernel
theorem dL_whose_17 : decode cL_whose 17 = .ok (.if_icmp .ge 28, 3) := by decide +kernel
theorem dL_whose_20 : decode cL_whose 20 = .ok (.iload_n 3, 1) := by decide +kernel
theorem dL_whose_21 : decode cL_whose 21 = .ok (.iload 4, 2) := by decide +kernel
theorem dL_whose_23 : decode cL_whose 23 = .ok (.aload_n 2, 1) := by decide +kernel
theorem dL_whose_24 : decode cL_whose 24 = .ok (.invokestatic 70, 3) := by decide +kernel
theorem dL_whose_27 : decode cL_whose 27 = .ok (.iload_n 0, 1) := by decide +kernel
theorem dL_whose_28 : decode cL_whose 28 = .ok (.if_icmp .ne 11, 3) := by decide +kernel
theorem dL_whose_31 : decode cL_whose 31 = .ok (.bipush 100, 2) := by decide +kernel
theorem dL_whose_33 : decode cL_whose 33 = .ok (.iload_n 3, 1) := by decide +kernel
theorem dL_whose_34 : decode cL_whose 34 = .ok (.imul, 1) := by decide +kernel
theorem dL_whose_35 : decode cL_whose 35 = .ok (.iload 4, 2) := by decide +kernel
theorem dL_whose_37 : decode cL_whose 37 = .ok (.iadd, 1) := by decide +kernel
theorem dL_whose_38 : decode cL_whose 38 = .ok (.ireturn, 1) := by decide +kernel
theorem dL_whose_39 : decode cL_whose 39 = .ok (.iinc 4 1, 3) := by decide +kernel
theorem dL_whose_42 : decode cL_whose 42 = .ok (.goto (-30), 3) := by decide +kernel
theorem dL_whose_45 : decode cL_whose 45 = .ok (.iinc 3 1, 3) := by decide +kernel
theorem dL_whose_48 : decode cL_whose 48 = .ok (.goto (-46), 3) := by decide +kernel
theorem dL_whose_51 : decode cL_whose 51 = .ok (.iconst (-1), 1) := by decide +kernel
theorem dL_whose_52 : decode cL_whose 52 = .ok (.ireturn, 1) := by decide +kernel
theorem dL_why_0 : decode cL_why 0 = .ok (.iload_n 1, 1) := by decide +kernel
theorem dL_why_1 : decode cL_why 1 = .ok (.ifCond .ge 5, 3) := by decide +kernel
theorem dL_why_4 : decode cL_why 4 = .ok (.iconst 1, 1) := by decide +kernel
theorem dL_why_5 : decode cL_why 5 = .ok (.ireturn, 1) := by decide +kernel
theorem dL_why_6 : decode cL_why 6 = .ok (.iload_n 1, 1) := by decide +kernel
theorem dL_why_7 : decode cL_why 7 = .ok (.aload_n 3, 1) := by decide +kernel
theorem dL_why_8 : decode cL_why 8 = .ok (.aload 4, 2) := by decide +kernel
theorem dL_why_10 : decode cL_why 10 = .ok (.invokestatic 76, 3) := by decide +kernel
theorem dL_why_13 : decode cL_why 13 = .ok (.istore 5, 2) := by decide +kernel
theorem dL_why_15 : decode cL_why 15 = .ok (.iload 5, 2) := by decide +kernel
theorem dL_why_17 : decode cL_why 17 = .ok (.ifCond .lt 9, 3) := by decide +kernel
theorem dL_why_20 : decode cL_why 20 = .ok (.iload 5, 2) := by decide +kernel
theorem dL_why_22 : decode cL_why 22 = .ok (.iload_n 2, 1) := by decide +kernel
theorem dL_why_23 : decode cL_why 23 = .ok (.if_icmp .ne 7, 3) := by decide +kernel
theorem dL_why_26 : decode cL_why 26 = .ok (.iconst 0, 1) := by decide +kernel
theorem dL_why_27 : decode cL_why 27 = .ok (.goto 17, 3) := by decide +kernel
theorem dL_why_30 : decode cL_why 30 = .ok (.iload 5, 2) := by decide +kernel
theorem dL_why_32 : decode cL_why 32 = .ok (.bipush 100, 2) := by decide +kernel
theorem dL_why_34 : decode cL_why 34 = .ok (.idiv, 1) := by decide +kernel
theorem dL_why_35 : decode cL_why 35 = .ok (.iload_n 0, 1) := by decide +kernel
theorem dL_why_36 : decode cL_why 36 = .ok (.if_icmp .ne 7, 3) := by decide +kernel
theorem dL_why_39 : decode cL_why 39 = .ok (.iconst 2, 1) := by decide +kernel
theorem dL_why_40 : decode cL_why 40 = .ok (.goto 4, 3) := by decide +kernel
theorem dL_why_43 : decode cL_why 43 = .ok (.iconst 3, 1) := by decide +kernel
theorem dL_why_44 : decode cL_why 44 = .ok (.ireturn, 1) := by decide +kernel
theorem dL_turned_0 : decode cL_turned 0 = .ok (.iload_n 0, 1) := by decide +kernel
theorem dL_turned_1 : decode cL_turned 1 = .ok (.bipush 10, 2) := by decide +kernel
theorem dL_turned_3 : decode cL_turned 3 = .ok (.irem, 1) := by decide +kernel
theorem dL_turned_4 : decode cL_turned 4 = .ok (.iload_n 1, 1) := by decide +kernel
theorem dL_turned_5 : decode cL_turned 5 = .ok (.bipush 10, 2) := by decide +kernel
theorem dL_turned_7 : decode cL_turned 7 = .ok (.irem, 1) := by decide +kernel
theorem dL_turned_8 : decode cL_turned 8 = .ok (.isub, 1) := by decide +kernel
theorem dL_turned_9 : decode cL_turned 9 = .ok (.istore_n 3, 1) := by decide +kernel
theorem dL_turned_10 : decode cL_turned 10 = .ok (.iload_n 0, 1) := by decide +kernel
theorem dL_turned_11 : decode cL_turned 11 = .ok (.bipush 10, 2) := by decide +kernel
theorem dL_turned_13 : decode cL_turned 13 = .ok (.idiv, 1) := by decide +kernel
theorem dL_turned_14 : decode cL_turned 14 = .ok (.iload_n 1, 1) := by decide +kernel
theorem dL_turned_15 : decode cL_turned 15 = .ok (.bipush 10, 2) := by decide +kernel
theorem dL_turned_17 : decode cL_turned 17 = .ok (.idiv, 1) := by decide +kernel
theorem dL_turned_18 : decode cL_turned 18 = .ok (.isub, 1) := by decide +kernel
theorem dL_turned_19 : decode cL_turned 19 = .ok (.istore 4, 2) := by decide +kernel
theorem dL_turned_21 : decode cL_turned 21 = .ok (.iload_n 1, 1) := by decide +kernel
theorem dL_turned_22 : decode cL_turned 22 = .ok (.bipush 10, 2) := by decide +kernel
theorem dL_turned_24 : decode cL_turned 24 = .ok (.irem, 1) := by decide +kernel
theorem dL_turned_25 : decode cL_turned 25 = .ok (.iload_n 2, 1) := by decide +kernel
theorem dL_turned_26 : decode cL_turned 26 = .ok (.iconst 1, 1) := by decide +kernel
theorem dL_turned_27 : decode cL_turned 27 = .ok (.if_icmp .ne 9, 3) := by decide +kernel
theorem dL_turned_30 : decode cL_turned 30 = .ok (.iload 4, 2) := by decide +kernel
theorem dL_turned_32 : decode cL_turned 32 = .ok (.ineg, 1) := by decide +kernel
theorem dL_turned_33 : decode cL_turned 33 = .ok (.goto 15, 3) := by decide +kernel
theorem dL_turned_36 : decode cL_turned 36 = .ok (.iload_n 2, 1) := by decide +kernel
theorem dL_turned_37 : decode cL_turned 37 = .ok (.iconst 2, 1) := by decide +kernel
theorem dL_turned_38 : decode cL_turned 38 = .ok (.if_icmp .ne 8, 3) := by decide +kernel
theorem dL_turned_41 : decode cL_turned 41 = .ok (.iload_n 3, 1) := by decide +kernel
theorem dL_turned_42 : decode cL_turned 42 = .ok (.ineg, 1) := by decide +kernel
theorem dL_turned_43 : decode cL_turned 43 = .ok (.goto 5, 3) := by decide +kernel
theorem dL_turned_46 : decode cL_turned 46 = .ok (.iload 4, 2) := by decide +kernel
theorem dL_turned_48 : decode cL_turned 48 = .ok (.iadd, 1) := by decide +kernel
theorem dL_turned_49 : decode cL_turned 49 = .ok (.istore 5, 2) := by decide +kernel
theorem dL_turned_51 : decode cL_turned 51 = .ok (.iload_n 1, 1) := by decide +kernel
theorem dL_turned_52 : decode cL_turned 52 = .ok (.bipush 10, 2) := by decide +kernel
theorem dL_turned_54 : decode cL_turned 54 = .ok (.idiv, 1) := by decide +kernel
theorem dL_turned_55 : decode cL_turned 55 = .ok (.iload_n 2, 1) := by decide +kernel
theorem dL_turned_56 : decode cL_turned 56 = .ok (.iconst 1, 1) := by decide +kernel
theorem dL_turned_57 : decode cL_turned 57 = .ok (.if_icmp .ne 7, 3) := by decide +kernel
theorem dL_turned_60 : decode cL_turned 60 = .ok (.iload_n 3, 1) := by decide +kernel
theorem dL_turned_61 : decode cL_turned 61 = .ok (.goto 16, 3) := by decide +kernel
theorem dL_turned_64 : decode cL_turned 64 = .ok (.iload_n 2, 1) := by decide +kernel
theorem dL_turned_65 : decode cL_turned 65 = .ok (.iconst 2, 1) := by decide +kernel
theorem dL_turned_66 : decode cL_turned 66 = .ok (.if_icmp .ne 9, 3) := by decide +kernel
theorem dL_turned_69 : decode cL_turned 69 = .ok (.iload 4, 2) := by decide +kernel
theorem dL_turned_71 : decode cL_turned 71 = .ok (.ineg, 1) := by decide +kernel
theorem dL_turned_72 : decode cL_turned 72 = .ok (.goto 5, 3) := by decide +kernel
theorem dL_turned_75 : decode cL_turned 75 = .ok (.iload_n 3, 1) := by decide +kernel
theorem dL_turned_76 : decode cL_turned 76 = .ok (.ineg, 1) := by decide +kernel
theorem dL_turned_77 : decode cL_turned 77 = .ok (.iadd, 1) := by decide +kernel
theorem dL_turned_78 : decode cL_turned 78 = .ok (.istore 6, 2) := by decide +kernel
theorem dL_turned_80 : decode cL_turned 80 = .ok (.iload 5, 2) := by decide +kernel
theorem dL_turned_82 : decode cL_turned 82 = .ok (.ifCond .lt 22, 3) := by decide +kernel
theorem dL_turned_85 : decode cL_turned 85 = .ok (.iload 5, 2) := by decide +kernel
theorem dL_turned_87 : decode cL_turned 87 = .ok (.bipush 9, 2) := by decide +kernel
theorem dL_turned_89 : decode cL_turned 89 = .ok (.if_icmp .gt 15, 3) := by decide +kernel
theorem dL_turned_92 : decode cL_turned 92 = .ok (.iload 6, 2) := by decide +kernel
theorem dL_turned_94 : decode cL_turned 94 = .ok (.ifCond .lt 10, 3) := by decide +kernel
theorem dL_turned_97 : decode cL_turned 97 = .ok (.iload 6, 2) := by decide +kernel
theorem dL_turned_99 : decode cL_turned 99 = .ok (.bipush 9, 2) := by decide +kernel
theorem dL_turned_101 : decode cL_turned 101 = .ok (.if_icmp .le 7, 3) := by decide +kernel
theorem dL_turned_104 : decode cL_turned 104 = .ok (.iconst (-1), 1) := by decide +kernel
theorem dL_turned_105 : decode cL_turned 105 = .ok (.goto 11, 3) := by decide +kernel
theorem dL_turned_108 : decode cL_turned 108 = .ok (.bipush 10, 2) := by decide +kernel
theorem dL_turned_110 : decode cL_turned 110 = .ok (.iload 6, 2) := by decide +kernel
theorem dL_turned_112 : decode cL_turned 112 = .ok (.imul, 1) := by decide +kernel
theorem dL_turned_113 : decode cL_turned 113 = .ok (.iload 5, 2) := by decide +kernel
theorem dL_turned_115 : decode cL_turned 115 = .ok (.iadd, 1) := by decide +kernel
theorem dL_turned_116 : decode cL_turned 116 = .ok (.ireturn, 1) := by decide +kernel
theorem dL_whyNotTurned_0 : decode cL_whyNotTurned 0 = .ok (.iconst 0, 1) := by decide +kernel
theorem dL_whyNotTurned_1 : decode cL_whyNotTurned 1 = .ok (.istore 5, 2) := by decide +kernel
theorem dL_whyNotTurned_3 : decode cL_whyNotTurned 3 = .ok (.iconst 0, 1) := by decide +kernel
theorem dL_whyNotTurned_4 : decode cL_whyNotTurned 4 = .ok (.istore 6, 2) := by decide +kernel
theorem dL_whyNotTurned_6 : decode cL_whyNotTurned 6 = .ok (.iconst 0, 1) := by decide +kernel
theorem dL_whyNotTurned_7 : decode cL_whyNotTurned 7 = .ok (.istore 7, 2) := by decide +kernel
theorem dL_whyNotTurned_9 : decode cL_whyNotTurned 9 = .ok (.iload_n 1, 1) := by decide +kernel
theorem dL_whyNotTurned_10 : decode cL_whyNotTurned 10 = .ok (.iconst 1, 1) := by decide +kernel
theorem dL_whyNotTurned_11 : decode cL_whyNotTurned 11 = .ok (.iadd, 1) := by decide +kernel
theorem dL_whyNotTurned_12 : decode cL_whyNotTurned 12 = .ok (.istore 8, 2) := by decide +kernel
theorem dL_whyNotTurned_14 : decode cL_whyNotTurned 14 = .ok (.iload 8, 2) := by decide +kernel
theorem dL_whyNotTurned_16 : decode cL_whyNotTurned 16 = .ok (.aload_n 3, 1) := by decide +kernel
theorem dL_whyNotTurned_17 : decode cL_whyNotTurned 17 = .ok (.iload_n 0, 1) := by decide +kernel
theorem dL_whyNotTurned_18 : decode cL_whyNotTurned 18 = .ok (.iaload, 1) := by decide +kernel
theorem dL_whyNotTurned_19 : decode cL_whyNotTurned 19 = .ok (.if_icmp .ge 127, 3) := by decide +kernel
theorem dL_whyNotTurned_22 : decode cL_whyNotTurned 22 = .ok (.iload_n 0, 1) := by decide +kernel
theorem dL_whyNotTurned_23 : decode cL_whyNotTurned 23 = .ok (.iload 8, 2) := by decide +kernel
theorem dL_whyNotTurned_25 : decode cL_whyNotTurned 25 = .ok (.aload 4, 2) := by decide +kernel
theorem dL_whyNotTurned_27 : decode cL_whyNotTurned 27 = .ok (.invokestatic 70, 3) := by decide +kernel
theorem dL_whyNotTurned_30 : decode cL_whyNotTurned 30 = .ok (.iload_n 0, 1) := by decide +kernel
theorem dL_whyNotTurned_31 : decode cL_whyNotTurned 31 = .ok (.iload_n 1, 1) := by decide +kernel
theorem dL_whyNotTurned_32 : decode cL_whyNotTurned 32 = .ok (.aload 4, 2) := by decide +kernel
theorem dL_whyNotTurned_34 : decode cL_whyNotTurned 34 = .ok (.invokestatic 70, 3) := by decide +kernel
theorem dL_whyNotTurned_37 : decode cL_whyNotTurned 37 = .ok (.iload_n 2, 1) := by decide +kernel
theorem dL_whyNotTurned_38 : decode cL_whyNotTurned 38 = .ok (.invokestatic 80, 3) := by decide +kernel
theorem dL_whyNotTurned_41 : decode cL_whyNotTurned 41 = .ok (.istore 9, 2) := by decide +kernel
theorem dL_whyNotTurned_43 : decode cL_whyNotTurned 43 = .ok (.iload 9, 2) := by decide +kernel
theorem dL_whyNotTurned_45 : decode cL_whyNotTurned 45 = .ok (.ifCond .ge 7, 3) := by decide +kernel
theorem dL_whyNotTurned_48 : decode cL_whyNotTurned 48 = .ok (.iconst (-1), 1) := by decide +kernel
theorem dL_whyNotTurned_49 : decode cL_whyNotTurned 49 = .ok (.goto 11, 3) := by decide +kernel
theorem dL_whyNotTurned_52 : decode cL_whyNotTurned 52 = .ok (.iload 9, 2) := by decide +kernel
theorem dL_whyNotTurned_54 : decode cL_whyNotTurned 54 = .ok (.aload_n 3, 1) := by decide +kernel
theorem dL_whyNotTurned_55 : decode cL_whyNotTurned 55 = .ok (.aload 4, 2) := by decide +kernel
theorem dL_whyNotTurned_57 : decode cL_whyNotTurned 57 = .ok (.invokestatic 76, 3) := by decide +kernel
theorem dL_whyNotTurned_60 : decode cL_whyNotTurned 60 = .ok (.istore 10, 2) := by decide +kernel
theorem dL_whyNotTurned_62 : decode cL_whyNotTurned 62 = .ok (.iload 5, 2) := by decide +kernel
theorem dL_whyNotTurned_64 : decode cL_whyNotTurned 64 = .ok (.ifCond .ne 8, 3) := by decide +kernel
theorem dL_whyNotTurned_67 : decode cL_whyNotTurned 67 = .ok (.iload 9, 2) := by decide +kernel
theorem dL_whyNotTurned_69 : decode cL_whyNotTurned 69 = .ok (.ifCond .ge 7, 3) := by decide +kernel
theorem dL_whyNotTurned_72 : decode cL_whyNotTurned 72 = .ok (.iconst 1, 1) := by decide +kernel
theorem dL_whyNotTurned_73 : decode cL_whyNotTurned 73 = .ok (.goto 4, 3) := by decide +kernel
theorem dL_whyNotTurned_76 : decode cL_whyNotTurned 76 = .ok (.iconst 0, 1) := by decide +kernel
theorem dL_whyNotTurned_77 : decode cL_whyNotTurned 77 = .ok (.istore 5, 2) := by decide +kernel
theorem dL_whyNotTurned_79 : decode cL_whyNotTurned 79 = .ok (.iload 6, 2) := by decide +kernel
theorem dL_whyNotTurned_81 : decode cL_whyNotTurned 81 = .ok (.ifCond .ne 26, 3) := by decide +kernel
theorem dL_whyNotTurned_84 : decode cL_whyNotTurned 84 = .ok (.iload 10, 2) := by decide +kernel
theorem dL_whyNotTurned_86 : decode cL_whyNotTurned 86 = .ok (.ifCond .lt 25, 3) := by decide +kernel
theorem dL_whyNotTurned_89 : decode cL_whyNotTurned 89 = .ok (.iload 10, 2) := by decide +kernel
theorem dL_whyNotTurned_91 : decode cL_whyNotTurned 91 = .ok (.bipush 100, 2) := by decide +kernel
theorem dL_whyNotTurned_93 : decode cL_whyNotTurned 93 = .ok (.idiv, 1) := by decide +kernel
theorem dL_whyNotTurned_94 : decode cL_whyNotTurned 94 = .ok (.iload_n 0, 1) := by decide +kernel
theorem dL_whyNotTurned_95 : decode cL_whyNotTurned 95 = .ok (.if_icmp .ne 16, 3) := by decide +kernel
theorem dL_whyNotTurned_98 : decode cL_whyNotTurned 98 = .ok (.iload 10, 2) := by decide +kernel
theorem dL_whyNotTurned_100 : decode cL_whyNotTurned 100 = .ok (.bipush 100, 2) := by decide +kernel
theorem dL_whyNotTurned_102 : decode cL_whyNotTurned 102 = .ok (.irem, 1) := by decide +kernel
theorem dL_whyNotTurned_103 : decode cL_whyNotTurned 103 = .ok (.iload_n 1, 1) := by decide +kernel
theorem dL_whyNotTurned_104 : decode cL_whyNotTurned 104 = .ok (.if_icmp .gt 7, 3) := by decide +kernel
theorem dL_whyNotTurned_107 : decode cL_whyNotTurned 107 = .ok (.iconst 1, 1) := by decide +kernel
theorem dL_whyNotTurned_108 : decode cL_whyNotTurned 108 = .ok (.goto 4, 3) := by decide +kernel
theorem dL_whyNotTurned_111 : decode cL_whyNotTurned 111 = .ok (.iconst 0, 1) := by decide +kernel
theorem dL_whyNotTurned_112 : decode cL_whyNotTurned 112 = .ok (.istore 6, 2) := by decide +kernel
theorem dL_whyNotTurned_114 : decode cL_whyNotTurned 114 = .ok (.iload 7, 2) := by decide +kernel
theorem dL_whyNotTurned_116 : decode cL_whyNotTurned 116 = .ok (.ifCond .ne 17, 3) := by decide +kernel
theorem dL_whyNotTurned_119 : decode cL_whyNotTurned 119 = .ok (.iload 10, 2) := by decide +kernel
theorem dL_whyNotTurned_121 : decode cL_whyNotTurned 121 = .ok (.ifCond .lt 16, 3) := by decide +kernel
theorem dL_whyNotTurned_124 : decode cL_whyNotTurned 124 = .ok (.iload 10, 2) := by decide +kernel
theorem dL_whyNotTurned_126 : decode cL_whyNotTurned 126 = .ok (.bipush 100, 2) := by decide +kernel
theorem dL_whyNotTurned_128 : decode cL_whyNotTurned 128 = .ok (.idiv, 1) := by decide +kernel
theorem dL_whyNotTurned_129 : decode cL_whyNotTurned 129 = .ok (.iload_n 0, 1) := by decide +kernel
theorem dL_whyNotTurned_130 : decode cL_whyNotTurned 130 = .ok (.if_icmp .eq 7, 3) := by decide +kernel
theorem dL_whyNotTurned_133 : decode cL_whyNotTurned 133 = .ok (.iconst 1, 1) := by decide +kernel
theorem dL_whyNotTurned_134 : decode cL_whyNotTurned 134 = .ok (.goto 4, 3) := by decide +kernel
theorem dL_whyNotTurned_137 : decode cL_whyNotTurned 137 = .ok (.iconst 0, 1) := by decide +kernel
theorem dL_whyNotTurned_138 : decode cL_whyNotTurned 138 = .ok (.istore 7, 2) := by decide +kernel
theorem dL_whyNotTurned_140 : decode cL_whyNotTurned 140 = .ok (.iinc 8 1, 3) := by decide +kernel
theorem dL_whyNotTurned_143 : decode cL_whyNotTurned 143 = .ok (.goto (-129), 3) := by decide +kernel
theorem dL_whyNotTurned_146 : decode cL_whyNotTurned 146 = .ok (.iload 5, 2) := by decide +kernel
theorem dL_whyNotTurned_148 : decode cL_whyNotTurned 148 = .ok (.ifCond .eq 7, 3) := by decide +kernel
theorem dL_whyNotTurned_151 : decode cL_whyNotTurned 151 = .ok (.iconst 1, 1) := by decide +kernel
theorem dL_whyNotTurned_152 : decode cL_whyNotTurned 152 = .ok (.goto 22, 3) := by decide +kernel
theorem dL_whyNotTurned_155 : decode cL_whyNotTurned 155 = .ok (.iload 6, 2) := by decide +kernel
theorem dL_whyNotTurned_157 : decode cL_whyNotTurned 157 = .ok (.ifCond .eq 7, 3) := by decide +kernel
theorem dL_whyNotTurned_160 : decode cL_whyNotTurned 160 = .ok (.iconst 2, 1) := by decide +kernel
theorem dL_whyNotTurned_161 : decode cL_whyNotTurned 161 = .ok (.goto 13, 3) := by decide +kernel
theorem dL_whyNotTurned_164 : decode cL_whyNotTurned 164 = .ok (.iload 7, 2) := by decide +kernel
theorem dL_whyNotTurned_166 : decode cL_whyNotTurned 166 = .ok (.ifCond .eq 7, 3) := by decide +kernel
theorem dL_whyNotTurned_169 : decode cL_whyNotTurned 169 = .ok (.iconst 3, 1) := by decide +kernel
theorem dL_whyNotTurned_170 : decode cL_whyNotTurned 170 = .ok (.goto 4, 3) := by decide +kernel
theorem dL_whyNotTurned_173 : decode cL_whyNotTurned 173 = .ok (.iconst 0, 1) := by decide +kernel
theorem dL_whyNotTurned_174 : decode cL_whyNotTurned 174 = .ok (.ireturn, 1) := by decide +kernel
theorem dL_drops_0 : decode cL_drops 0 = .ok (.iload_n 0, 1) := by decide +kernel
theorem dL_drops_1 : decode cL_drops 1 = .ok (.istore_n 3, 1) := by decide +kernel
theorem dL_drops_2 : decode cL_drops 2 = .ok (.iload_n 3, 1) := by decide +kernel
theorem dL_drops_3 : decode cL_drops 3 = .ok (.iconst 4, 1) := by decide +kernel
theorem dL_drops_4 : decode cL_drops 4 = .ok (.if_icmp .ge 53, 3) := by decide +kernel
theorem dL_drops_7 : decode cL_drops 7 = .ok (.aload_n 1, 1) := by decide +kernel
theorem dL_drops_8 : decode cL_drops 8 = .ok (.iload_n 3, 1) := by decide +kernel
theorem dL_drops_9 : decode cL_drops 9 = .ok (.aload_n 1, 1) := by decide +kernel
theorem dL_drops_10 : decode cL_drops 10 = .ok (.iload_n 3, 1) := by decide +kernel
theorem dL_drops_11 : decode cL_drops 11 = .ok (.iconst 1, 1) := by decide +kernel
theorem dL_drops_12 : decode cL_drops 12 = .ok (.iadd, 1) := by decide +kernel
theorem dL_drops_13 : decode cL_drops 13 = .ok (.iaload, 1) := by decide +kernel
theorem dL_drops_14 : decode cL_drops 14 = .ok (.iastore, 1) := by decide +kernel
theorem dL_drops_15 : decode cL_drops 15 = .ok (.iconst 0, 1) := by decide +kernel
theorem dL_drops_16 : decode cL_drops 16 = .ok (.istore 4, 2) := by decide +kernel
theorem dL_drops_18 : decode cL_drops 18 = .ok (.iload 4, 2) := by decide +kernel
theorem dL_drops_20 : decode cL_drops 20 = .ok (.bipush 12, 2) := by decide +kernel
theorem dL_drops_22 : decode cL_drops 22 = .ok (.if_icmp .ge 29, 3) := by decide +kernel
theorem dL_drops_25 : decode cL_drops 25 = .ok (.aload_n 2, 1) := by decide +kernel
theorem dL_drops_26 : decode cL_drops 26 = .ok (.bipush 12, 2) := by decide +kernel
theorem dL_drops_28 : decode cL_drops 28 = .ok (.iload_n 3, 1) := by decide +kernel
theorem dL_drops_29 : decode cL_drops 29 = .ok (.imul, 1) := by decide +kernel
theorem dL_drops_30 : decode cL_drops 30 = .ok (.iload 4, 2) := by decide +kernel
theorem dL_drops_32 : decode cL_drops 32 = .ok (.iadd, 1) := by decide +kernel
theorem dL_drops_33 : decode cL_drops 33 = .ok (.aload_n 2, 1) := by decide +kernel
theorem dL_drops_34 : decode cL_drops 34 = .ok (.bipush 12, 2) := by decide +kernel
theorem dL_drops_36 : decode cL_drops 36 = .ok (.iload_n 3, 1) := by decide +kernel
theorem dL_drops_37 : decode cL_drops 37 = .ok (.iconst 1, 1) := by decide +kernel
theorem dL_drops_38 : decode cL_drops 38 = .ok (.iadd, 1) := by decide +kernel
theorem dL_drops_39 : decode cL_drops 39 = .ok (.imul, 1) := by decide +kernel
theorem dL_drops_40 : decode cL_drops 40 = .ok (.iload 4, 2) := by decide +kernel
theorem dL_drops_42 : decode cL_drops 42 = .ok (.iadd, 1) := by decide +kernel
theorem dL_drops_43 : decode cL_drops 43 = .ok (.iaload, 1) := by decide +kernel
theorem dL_drops_44 : decode cL_drops 44 = .ok (.iastore, 1) := by decide +kernel
theorem dL_drops_45 : decode cL_drops 45 = .ok (.iinc 4 1, 3) := by decide +kernel
theorem dL_drops_48 : decode cL_drops 48 = .ok (.goto (-30), 3) := by decide +kernel
theorem dL_drops_51 : decode cL_drops 51 = .ok (.iinc 3 1, 3) := by decide +kernel
theorem dL_drops_54 : decode cL_drops 54 = .ok (.goto (-52), 3) := by decide +kernel
theorem dL_drops_57 : decode cL_drops 57 = .ok (.aload_n 1, 1) := by decide +kernel
theorem dL_drops_58 : decode cL_drops 58 = .ok (.iconst 4, 1) := by decide +kernel
theorem dL_drops_59 : decode cL_drops 59 = .ok (.iconst 0, 1) := by decide +kernel
theorem dL_drops_60 : decode cL_drops 60 = .ok (.iastore, 1) := by decide +kernel
theorem dL_drops_61 : decode cL_drops 61 = .ok (.aload_n 1, 1) := by decide +kernel
theorem dL_drops_62 : decode cL_drops 62 = .ok (.iconst 5, 1) := by decide +kernel
theorem dL_drops_63 : decode cL_drops 63 = .ok (.dup2, 1) := by decide +kernel
theorem dL_drops_64 : decode cL_drops 64 = .ok (.iaload, 1) := by decide +kernel
theorem dL_drops_65 : decode cL_drops 65 = .ok (.iconst 1, 1) := by decide +kernel
theorem dL_drops_66 : decode cL_drops 66 = .ok (.isub, 1) := by decide +kernel
theorem dL_drops_67 : decode cL_drops 67 = .ok (.iastore, 1) := by decide +kernel
theorem dL_drops_68 : decode cL_drops 68 = .ok (.return_, 1) := by decide +kernel
theorem dL_told_0 : decode cL_told 0 = .ok (.ldc2_w 83, 3) := by decide +kernel
theorem dL_told_3 : decode cL_told 3 = .ok (.lstore_n 1, 1) := by decide +kernel
theorem dL_told_4 : decode cL_told 4 = .ok (.iconst 0, 1) := by decide +kernel
theorem dL_told_5 : decode cL_told 5 = .ok (.istore_n 3, 1) := by decide +kernel
theorem dL_told_6 : decode cL_told 6 = .ok (.iload_n 3, 1) := by decide +kernel
theorem dL_told_7 : decode cL_told 7 = .ok (.iconst 5, 1) := by decide +kernel
theorem dL_told_8 : decode cL_told 8 = .ok (.if_icmp .ge 22, 3) := by decide +kernel
theorem dL_told_11 : decode cL_told 11 = .ok (.ldc2_w 85, 3) := by decide +kernel
theorem dL_told_14 : decode cL_told 14 = .ok (.lload_n 1, 1) := by decide +kernel
theorem dL_told_15 : decode cL_told 15 = .ok (.lmul, 1) := by decide +kernel
theorem dL_told_16 : decode cL_told 16 = .ok (.aload_n 0, 1) := by decide +kernel
theorem dL_told_17 : decode cL_told 17 = .ok (.iload_n 3, 1) := by decide +kernel
theorem dL_told_18 : decode cL_told 18 = .ok (.invokestatic 87, 3) := by decide +kernel
theorem dL_told_21 : decode cL_told 21 = .ok (.i2l, 1) := by decide +kernel
theorem dL_told_22 : decode cL_told 22 = .ok (.ladd, 1) := by decide +kernel
theorem dL_told_23 : decode cL_told 23 = .ok (.lstore_n 1, 1) := by decide +kernel
theorem dL_told_24 : decode cL_told 24 = .ok (.iinc 3 1, 3) := by decide +kernel
theorem dL_told_27 : decode cL_told 27 = .ok (.goto (-21), 3) := by decide +kernel
theorem dL_told_30 : decode cL_told 30 = .ok (.iconst 0, 1) := by decide +kernel
theorem dL_told_31 : decode cL_told 31 = .ok (.istore_n 3, 1) := by decide +kernel
theorem dL_told_32 : decode cL_told 32 = .ok (.iload_n 3, 1) := by decide +kernel
theorem dL_told_33 : decode cL_told 33 = .ok (.bipush 100, 2) := by decide +kernel
theorem dL_told_35 : decode cL_told 35 = .ok (.if_icmp .ge 49, 3) := by decide +kernel
theorem dL_told_38 : decode cL_told 38 = .ok (.ldc2_w 85, 3) := by decide +kernel
theorem dL_told_41 : decode cL_told 41 = .ok (.lload_n 1, 1) := by decide +kernel
theorem dL_told_42 : decode cL_told 42 = .ok (.lmul, 1) := by decide +kernel
theorem dL_told_43 : decode cL_told 43 = .ok (.ldc2_w 90, 3) := by decide +kernel
theorem dL_told_46 : decode cL_told 46 = .ok (.aload_n 0, 1) := by decide +kernel
theorem dL_told_47 : decode cL_told 47 = .ok (.iload_n 3, 1) := by decide +kernel
theorem dL_told_48 : decode cL_told 48 = .ok (.bipush 10, 2) := by decide +kernel
theorem dL_told_50 : decode cL_told 50 = .ok (.irem, 1) := by decide +kernel
theorem dL_told_51 : decode cL_told 51 = .ok (.iload_n 3, 1) := by decide +kernel
theorem dL_told_52 : decode cL_told 52 = .ok (.bipush 10, 2) := by decide +kernel
theorem dL_told_54 : decode cL_told 54 = .ok (.idiv, 1) := by decide +kernel
theorem dL_told_55 : decode cL_told 55 = .ok (.iconst 0, 1) := by decide +kernel
theorem dL_told_56 : decode cL_told 56 = .ok (.invokestatic 92, 3) := by decide +kernel
theorem dL_told_59 : decode cL_told 59 = .ok (.i2l, 1) := by decide +kernel
theorem dL_told_60 : decode cL_told 60 = .ok (.lmul, 1) := by decide +kernel
theorem dL_told_61 : decode cL_told 61 = .ok (.ladd, 1) := by decide +kernel
theorem dL_told_62 : decode cL_told 62 = .ok (.aload_n 0, 1) := by decide +kernel
theorem dL_told_63 : decode cL_told 63 = .ok (.iload_n 3, 1) := by decide +kernel
theorem dL_told_64 : decode cL_told 64 = .ok (.bipush 10, 2) := by decide +kernel
theorem dL_told_66 : decode cL_told 66 = .ok (.irem, 1) := by decide +kernel
theorem dL_told_67 : decode cL_told 67 = .ok (.iload_n 3, 1) := by decide +kernel
theorem dL_told_68 : decode cL_told 68 = .ok (.bipush 10, 2) := by decide +kernel
theorem dL_told_70 : decode cL_told 70 = .ok (.idiv, 1) := by decide +kernel
theorem dL_told_71 : decode cL_told 71 = .ok (.iconst 1, 1) := by decide +kernel
theorem dL_told_72 : decode cL_told 72 = .ok (.invokestatic 92, 3) := by decide +kernel
theorem dL_told_75 : decode cL_told 75 = .ok (.i2l, 1) := by decide +kernel
theorem dL_told_76 : decode cL_told 76 = .ok (.ladd, 1) := by decide +kernel
theorem dL_told_77 : decode cL_told 77 = .ok (.lstore_n 1, 1) := by decide +kernel
theorem dL_told_78 : decode cL_told 78 = .ok (.iinc 3 1, 3) := by decide +kernel
theorem dL_told_81 : decode cL_told 81 = .ok (.goto (-49), 3) := by decide +kernel
theorem dL_told_84 : decode cL_told 84 = .ok (.lload_n 1, 1) := by decide +kernel
theorem dL_told_85 : decode cL_told 85 = .ok (.lreturn, 1) := by decide +kernel
theorem dL_call_0 : decode cL_call 0 = .ok (.iload_n 1, 1) := by decide +kernel
theorem dL_call_1 : decode cL_call 1 = .ok (.tableswitch 103 0 7 #[47, 54, 61, 67, 74, 83, 89, 96], 47) := by decide +kernel
theorem dL_call_48 : decode cL_call 48 = .ok (.aload_n 0, 1) := by decide +kernel
theorem dL_call_49 : decode cL_call 49 = .ok (.iload_n 2, 1) := by decide +kernel
theorem dL_call_50 : decode cL_call 50 = .ok (.iload_n 3, 1) := by decide +kernel
theorem dL_call_51 : decode cL_call 51 = .ok (.invokestatic 95, 3) := by decide +kernel
theorem dL_call_54 : decode cL_call 54 = .ok (.ireturn, 1) := by decide +kernel
theorem dL_call_55 : decode cL_call 55 = .ok (.aload_n 0, 1) := by decide +kernel
theorem dL_call_56 : decode cL_call 56 = .ok (.iload_n 2, 1) := by decide +kernel
theorem dL_call_57 : decode cL_call 57 = .ok (.iload_n 3, 1) := by decide +kernel
theorem dL_call_58 : decode cL_call 58 = .ok (.invokestatic 98, 3) := by decide +kernel
theorem dL_call_61 : decode cL_call 61 = .ok (.ireturn, 1) := by decide +kernel
theorem dL_call_62 : decode cL_call 62 = .ok (.aload_n 0, 1) := by decide +kernel
theorem dL_call_63 : decode cL_call 63 = .ok (.iload_n 2, 1) := by decide +kernel
theorem dL_call_64 : decode cL_call 64 = .ok (.invokestatic 100, 3) := by decide +kernel
theorem dL_call_67 : decode cL_call 67 = .ok (.ireturn, 1) := by decide +kernel
theorem dL_call_68 : decode cL_call 68 = .ok (.aload_n 0, 1) := by decide +kernel
theorem dL_call_69 : decode cL_call 69 = .ok (.iload_n 2, 1) := by decide +kernel
theorem dL_call_70 : decode cL_call 70 = .ok (.iload_n 3, 1) := by decide +kernel
theorem dL_call_71 : decode cL_call 71 = .ok (.invokestatic 102, 3) := by decide +kernel
theorem dL_call_74 : decode cL_call 74 = .ok (.ireturn, 1) := by decide +kernel
theorem dL_call_75 : decode cL_call 75 = .ok (.aload_n 0, 1) := by decide +kernel
theorem dL_call_76 : decode cL_call 76 = .ok (.iload_n 2, 1) := by decide +kernel
theorem dL_call_77 : decode cL_call 77 = .ok (.iload_n 3, 1) := by decide +kernel
theorem dL_call_78 : decode cL_call 78 = .ok (.iload 4, 2) := by decide +kernel
theorem dL_call_80 : decode cL_call 80 = .ok (.invokestatic 104, 3) := by decide +kernel
theorem dL_call_83 : decode cL_call 83 = .ok (.ireturn, 1) := by decide +kernel
theorem dL_call_84 : decode cL_call 84 = .ok (.aload_n 0, 1) := by decide +kernel
theorem dL_call_85 : decode cL_call 85 = .ok (.iload_n 2, 1) := by decide +kernel
theorem dL_call_86 : decode cL_call 86 = .ok (.invokestatic 106, 3) := by decide +kernel
theorem dL_call_89 : decode cL_call 89 = .ok (.ireturn, 1) := by decide +kernel
theorem dL_call_90 : decode cL_call 90 = .ok (.aload_n 0, 1) := by decide +kernel
theorem dL_call_91 : decode cL_call 91 = .ok (.iload_n 2, 1) := by decide +kernel
theorem dL_call_92 : decode cL_call 92 = .ok (.iload_n 3, 1) := by decide +kernel
theorem dL_call_93 : decode cL_call 93 = .ok (.invokestatic 108, 3) := by decide +kernel
theorem dL_call_96 : decode cL_call 96 = .ok (.ireturn, 1) := by decide +kernel
theorem dL_call_97 : decode cL_call 97 = .ok (.aload_n 0, 1) := by decide +kernel
theorem dL_call_98 : decode cL_call 98 = .ok (.iload_n 2, 1) := by decide +kernel
theorem dL_call_99 : decode cL_call 99 = .ok (.iload_n 3, 1) := by decide +kernel
theorem dL_call_100 : decode cL_call 100 = .ok (.invokestatic 110, 3) := by decide +kernel
theorem dL_call_103 : decode cL_call 103 = .ok (.ireturn, 1) := by decide +kernel
theorem dL_call_104 : decode cL_call 104 = .ok (.aload_n 0, 1) := by decide +kernel
theorem dL_call_105 : decode cL_call 105 = .ok (.iload_n 2, 1) := by decide +kernel
theorem dL_call_106 : decode cL_call 106 = .ok (.invokestatic 112, 3) := by decide +kernel
theorem dL_call_109 : decode cL_call 109 = .ok (.ireturn, 1) := by decide +kernel
theorem dL_stepped_0 : decode cL_stepped 0 = .ok (.iload_n 0, 1) := by decide +kernel
theorem dL_stepped_1 : decode cL_stepped 1 = .ok (.aload_n 3, 1) := by decide +kernel
theorem dL_stepped_2 : decode cL_stepped 2 = .ok (.iload_n 0, 1) := by decide +kernel
theorem dL_stepped_3 : decode cL_stepped 3 = .ok (.iaload, 1) := by decide +kernel
theorem dL_stepped_4 : decode cL_stepped 4 = .ok (.iconst 1, 1) := by decide +kernel
theorem dL_stepped_5 : decode cL_stepped 5 = .ok (.isub, 1) := by decide +kernel
theorem dL_stepped_6 : decode cL_stepped 6 = .ok (.aload 4, 2) := by decide +kernel
theorem dL_stepped_8 : decode cL_stepped 8 = .ok (.invokestatic 70, 3) := by decide +kernel
theorem dL_stepped_11 : decode cL_stepped 11 = .ok (.iload_n 1, 1) := by decide +kernel
theorem dL_stepped_12 : decode cL_stepped 12 = .ok (.invokestatic 114, 3) := by decide +kernel
theorem dL_stepped_15 : decode cL_stepped 15 = .ok (.istore 5, 2) := by decide +kernel
theorem dL_stepped_17 : decode cL_stepped 17 = .ok (.iload_n 0, 1) := by decide +kernel
theorem dL_stepped_18 : decode cL_stepped 18 = .ok (.iload 5, 2) := by decide +kernel
theorem dL_stepped_20 : decode cL_stepped 20 = .ok (.iload_n 2, 1) := by decide +kernel
theorem dL_stepped_21 : decode cL_stepped 21 = .ok (.ifCond .eq 10, 3) := by decide +kernel
theorem dL_stepped_24 : decode cL_stepped 24 = .ok (.bipush 100, 2) := by decide +kernel
theorem dL_stepped_26 : decode cL_stepped 26 = .ok (.iload_n 0, 1) := by decide +kernel
theorem dL_stepped_27 : decode cL_stepped 27 = .ok (.imul, 1) := by decide +kernel
theorem dL_stepped_28 : decode cL_stepped 28 = .ok (.goto 5, 3) := by decide +kernel
theorem dL_stepped_31 : decode cL_stepped 31 = .ok (.bipush (-5), 2) := by decide +kernel
theorem dL_stepped_33 : decode cL_stepped 33 = .ok (.aload_n 3, 1) := by decide +kernel
theorem dL_stepped_34 : decode cL_stepped 34 = .ok (.aload 4, 2) := by decide +kernel
theorem dL_stepped_36 : decode cL_stepped 36 = .ok (.invokestatic 117, 3) := by decide +kernel
theorem dL_stepped_39 : decode cL_stepped 39 = .ok (.istore 6, 2) := by decide +kernel
theorem dL_stepped_41 : decode cL_stepped 41 = .ok (.iload 6, 2) := by decide +kernel
theorem dL_stepped_43 : decode cL_stepped 43 = .ok (.ifCond .le 14, 3) := by decide +kernel
theorem dL_stepped_46 : decode cL_stepped 46 = .ok (.aload_n 3, 1) := by decide +kernel
theorem dL_stepped_47 : decode cL_stepped 47 = .ok (.bipush 7, 2) := by decide +kernel
theorem dL_stepped_49 : decode cL_stepped 49 = .ok (.dup2, 1) := by decide +kernel
theorem dL_stepped_50 : decode cL_stepped 50 = .ok (.iaload, 1) := by decide +kernel
theorem dL_stepped_51 : decode cL_stepped 51 = .ok (.iconst 1, 1) := by decide +kernel
theorem dL_stepped_52 : decode cL_stepped 52 = .ok (.iadd, 1) := by decide +kernel
theorem dL_stepped_53 : decode cL_stepped 53 = .ok (.iastore, 1) := by decide +kernel
theorem dL_stepped_54 : decode cL_stepped 54 = .ok (.iload 6, 2) := by decide +kernel
theorem dL_stepped_56 : decode cL_stepped 56 = .ok (.ireturn, 1) := by decide +kernel
theorem dL_stepped_57 : decode cL_stepped 57 = .ok (.iload_n 2, 1) := by decide +kernel
theorem dL_stepped_58 : decode cL_stepped 58 = .ok (.ifCond .eq 56, 3) := by decide +kernel
theorem dL_stepped_61 : decode cL_stepped 61 = .ok (.iconst 0, 1) := by decide +kernel
theorem dL_stepped_62 : decode cL_stepped 62 = .ok (.istore 7, 2) := by decide +kernel
theorem dL_stepped_64 : decode cL_stepped 64 = .ok (.iload 7, 2) := by decide +kernel
theorem dL_stepped_66 : decode cL_stepped 66 = .ok (.aload_n 3, 1) := by decide +kernel
theorem dL_stepped_67 : decode cL_stepped 67 = .ok (.iload_n 0, 1) := by decide +kernel
theorem dL_stepped_68 : decode cL_stepped 68 = .ok (.iaload, 1) := by decide +kernel
theorem dL_stepped_69 : decode cL_stepped 69 = .ok (.iconst 1, 1) := by decide +kernel
theorem dL_stepped_70 : decode cL_stepped 70 = .ok (.isub, 1) := by decide +kernel
theorem dL_stepped_71 : decode cL_stepped 71 = .ok (.if_icmp .ge 27, 3) := by decide +kernel
theorem dL_stepped_74 : decode cL_stepped 74 = .ok (.iload_n 0, 1) := by decide +kernel
theorem dL_stepped_75 : decode cL_stepped 75 = .ok (.iload 7, 2) := by decide +kernel
theorem dL_stepped_77 : decode cL_stepped 77 = .ok (.iload_n 0, 1) := by decide +kernel
theorem dL_stepped_78 : decode cL_stepped 78 = .ok (.iload 7, 2) := by decide +kernel
theorem dL_stepped_80 : decode cL_stepped 80 = .ok (.iconst 1, 1) := by decide +kernel
theorem dL_stepped_81 : decode cL_stepped 81 = .ok (.iadd, 1) := by decide +kernel
theorem dL_stepped_82 : decode cL_stepped 82 = .ok (.aload 4, 2) := by decide +kernel
theorem dL_stepped_84 : decode cL_stepped 84 = .ok (.invokestatic 70, 3) := by decide +kernel
theorem dL_stepped_87 : decode cL_stepped 87 = .ok (.aload 4, 2) := by decide +kernel
theorem dL_stepped_89 : decode cL_stepped 89 = .ok (.invokestatic 121, 3) := by decide +kernel
theorem dL_stepped_92 : decode cL_stepped 92 = .ok (.iinc 7 1, 3) := by decide +kernel
theorem dL_stepped_95 : decode cL_stepped 95 = .ok (.goto (-31), 3) := by decide +kernel
theorem dL_stepped_98 : decode cL_stepped 98 = .ok (.iload_n 0, 1) := by decide +kernel
theorem dL_stepped_99 : decode cL_stepped 99 = .ok (.aload_n 3, 1) := by decide +kernel
theorem dL_stepped_100 : decode cL_stepped 100 = .ok (.iload_n 0, 1) := by decide +kernel
theorem dL_stepped_101 : decode cL_stepped 101 = .ok (.iaload, 1) := by decide +kernel
theorem dL_stepped_102 : decode cL_stepped 102 = .ok (.iconst 1, 1) := by decide +kernel
theorem dL_stepped_103 : decode cL_stepped 103 = .ok (.isub, 1) := by decide +kernel
theorem dL_stepped_104 : decode cL_stepped 104 = .ok (.iload 5, 2) := by decide +kernel
theorem dL_stepped_106 : decode cL_stepped 106 = .ok (.aload 4, 2) := by decide +kernel
theorem dL_stepped_108 : decode cL_stepped 108 = .ok (.invokestatic 121, 3) := by decide +kernel
theorem dL_stepped_111 : decode cL_stepped 111 = .ok (.goto 21, 3) := by decide +kernel
theorem dL_stepped_114 : decode cL_stepped 114 = .ok (.iload_n 0, 1) := by decide +kernel
theorem dL_stepped_115 : decode cL_stepped 115 = .ok (.aload_n 3, 1) := by decide +kernel
theorem dL_stepped_116 : decode cL_stepped 116 = .ok (.iload_n 0, 1) := by decide +kernel
theorem dL_stepped_117 : decode cL_stepped 117 = .ok (.iaload, 1) := by decide +kernel
theorem dL_stepped_118 : decode cL_stepped 118 = .ok (.iload 5, 2) := by decide +kernel
theorem dL_stepped_120 : decode cL_stepped 120 = .ok (.aload 4, 2) := by decide +kernel
theorem dL_stepped_122 : decode cL_stepped 122 = .ok (.invokestatic 121, 3) := by decide +kernel
theorem dL_stepped_125 : decode cL_stepped 125 = .ok (.aload_n 3, 1) := by decide +kernel
theorem dL_stepped_126 : decode cL_stepped 126 = .ok (.iload_n 0, 1) := by decide +kernel
theorem dL_stepped_127 : decode cL_stepped 127 = .ok (.dup2, 1) := by decide +kernel
theorem dL_stepped_128 : decode cL_stepped 128 = .ok (.iaload, 1) := by decide +kernel
theorem dL_stepped_129 : decode cL_stepped 129 = .ok (.iconst 1, 1) := by decide +kernel
theorem dL_stepped_130 : decode cL_stepped 130 = .ok (.iadd, 1) := by decide +kernel
theorem dL_stepped_131 : decode cL_stepped 131 = .ok (.iastore, 1) := by decide +kernel
theorem dL_stepped_132 : decode cL_stepped 132 = .ok (.aload_n 3, 1) := by decide +kernel
theorem dL_stepped_133 : decode cL_stepped 133 = .ok (.bipush 6, 2) := by decide +kernel
theorem dL_stepped_135 : decode cL_stepped 135 = .ok (.dup2, 1) := by decide +kernel
theorem dL_stepped_136 : decode cL_stepped 136 = .ok (.iaload, 1) := by decide +kernel
theorem dL_stepped_137 : decode cL_stepped 137 = .ok (.iconst 1, 1) := by decide +kernel
theorem dL_stepped_138 : decode cL_stepped 138 = .ok (.iadd, 1) := by decide +kernel
theorem dL_stepped_139 : decode cL_stepped 139 = .ok (.iastore, 1) := by decide +kernel
theorem dL_stepped_140 : decode cL_stepped 140 = .ok (.iconst 0, 1) := by decide +kernel
theorem dL_stepped_141 : decode cL_stepped 141 = .ok (.ireturn, 1) := by decide +kernel
theorem dL_turns_0 : decode cL_turns 0 = .ok (.iload_n 0, 1) := by decide +kernel
theorem dL_turns_1 : decode cL_turns 1 = .ok (.iload_n 1, 1) := by decide +kernel
theorem dL_turns_2 : decode cL_turns 2 = .ok (.iload_n 2, 1) := by decide +kernel
theorem dL_turns_3 : decode cL_turns 3 = .ok (.aload_n 3, 1) := by decide +kernel
theorem dL_turns_4 : decode cL_turns 4 = .ok (.aload 4, 2) := by decide +kernel
theorem dL_turns_6 : decode cL_turns 6 = .ok (.invokestatic 125, 3) := by decide +kernel
theorem dL_turns_9 : decode cL_turns 9 = .ok (.istore 5, 2) := by decide +kernel
theorem dL_turns_11 : decode cL_turns 11 = .ok (.iload 5, 2) := by decide +kernel
theorem dL_turns_13 : decode cL_turns 13 = .ok (.ifCond .le 14, 3) := by decide +kernel
theorem dL_turns_16 : decode cL_turns 16 = .ok (.aload_n 3, 1) := by decide +kernel
theorem dL_turns_17 : decode cL_turns 17 = .ok (.bipush 7, 2) := by decide +kernel
theorem dL_turns_19 : decode cL_turns 19 = .ok (.dup2, 1) := by decide +kernel
theorem dL_turns_20 : decode cL_turns 20 = .ok (.iaload, 1) := by decide +kernel
theorem dL_turns_21 : decode cL_turns 21 = .ok (.iconst 1, 1) := by decide +kernel
theorem dL_turns_22 : decode cL_turns 22 = .ok (.iadd, 1) := by decide +kernel
theorem dL_turns_23 : decode cL_turns 23 = .ok (.iastore, 1) := by decide +kernel
theorem dL_turns_24 : decode cL_turns 24 = .ok (.iload 5, 2) := by decide +kernel
theorem dL_turns_26 : decode cL_turns 26 = .ok (.ireturn, 1) := by decide +kernel
theorem dL_turns_27 : decode cL_turns 27 = .ok (.iload_n 1, 1) := by decide +kernel
theorem dL_turns_28 : decode cL_turns 28 = .ok (.iconst 1, 1) := by decide +kernel
theorem dL_turns_29 : decode cL_turns 29 = .ok (.iadd, 1) := by decide +kernel
theorem dL_turns_30 : decode cL_turns 30 = .ok (.istore 6, 2) := by decide +kernel
theorem dL_turns_32 : decode cL_turns 32 = .ok (.iload 6, 2) := by decide +kernel
theorem dL_turns_34 : decode cL_turns 34 = .ok (.aload_n 3, 1) := by decide +kernel
theorem dL_turns_35 : decode cL_turns 35 = .ok (.iload_n 0, 1) := by decide +kernel
theorem dL_turns_36 : decode cL_turns 36 = .ok (.iaload, 1) := by decide +kernel
theorem dL_turns_37 : decode cL_turns 37 = .ok (.if_icmp .ge 36, 3) := by decide +kernel
theorem dL_turns_40 : decode cL_turns 40 = .ok (.iload_n 0, 1) := by decide +kernel
theorem dL_turns_41 : decode cL_turns 41 = .ok (.iload 6, 2) := by decide +kernel
theorem dL_turns_43 : decode cL_turns 43 = .ok (.iload_n 0, 1) := by decide +kernel
theorem dL_turns_44 : decode cL_turns 44 = .ok (.iload 6, 2) := by decide +kernel
theorem dL_turns_46 : decode cL_turns 46 = .ok (.aload 4, 2) := by decide +kernel
theorem dL_turns_48 : decode cL_turns 48 = .ok (.invokestatic 70, 3) := by decide +kernel
theorem dL_turns_51 : decode cL_turns 51 = .ok (.iload_n 0, 1) := by decide +kernel
theorem dL_turns_52 : decode cL_turns 52 = .ok (.iload_n 1, 1) := by decide +kernel
theorem dL_turns_53 : decode cL_turns 53 = .ok (.aload 4, 2) := by decide +kernel
theorem dL_turns_55 : decode cL_turns 55 = .ok (.invokestatic 70, 3) := by decide +kernel
theorem dL_turns_58 : decode cL_turns 58 = .ok (.iload_n 2, 1) := by decide +kernel
theorem dL_turns_59 : decode cL_turns 59 = .ok (.invokestatic 80, 3) := by decide +kernel
theorem dL_turns_62 : decode cL_turns 62 = .ok (.aload 4, 2) := by decide +kernel
theorem dL_turns_64 : decode cL_turns 64 = .ok (.invokestatic 121, 3) := by decide +kernel
theorem dL_turns_67 : decode cL_turns 67 = .ok (.iinc 6 1, 3) := by decide +kernel
theorem dL_turns_70 : decode cL_turns 70 = .ok (.goto (-38), 3) := by decide +kernel
theorem dL_turns_73 : decode cL_turns 73 = .ok (.aload_n 3, 1) := by decide +kernel
theorem dL_turns_74 : decode cL_turns 74 = .ok (.bipush 8, 2) := by decide +kernel
theorem dL_turns_76 : decode cL_turns 76 = .ok (.dup2, 1) := by decide +kernel
theorem dL_turns_77 : decode cL_turns 77 = .ok (.iaload, 1) := by decide +kernel
theorem dL_turns_78 : decode cL_turns 78 = .ok (.iconst 1, 1) := by decide +kernel
theorem dL_turns_79 : decode cL_turns 79 = .ok (.iadd, 1) := by decide +kernel
theorem dL_turns_80 : decode cL_turns 80 = .ok (.iastore, 1) := by decide +kernel
theorem dL_turns_81 : decode cL_turns 81 = .ok (.iconst 0, 1) := by decide +kernel
theorem dL_turns_82 : decode cL_turns 82 = .ok (.ireturn, 1) := by decide +kernel
theorem dL_joined_0 : decode cL_joined 0 = .ok (.iload_n 0, 1) := by decide +kernel
theorem dL_joined_1 : decode cL_joined 1 = .ok (.aload_n 2, 1) := by decide +kernel
theorem dL_joined_2 : decode cL_joined 2 = .ok (.iload_n 0, 1) := by decide +kernel
theorem dL_joined_3 : decode cL_joined 3 = .ok (.iaload, 1) := by decide +kernel
theorem dL_joined_4 : decode cL_joined 4 = .ok (.iconst 1, 1) := by decide +kernel
theorem dL_joined_5 : decode cL_joined 5 = .ok (.isub, 1) := by decide +kernel
theorem dL_joined_6 : decode cL_joined 6 = .ok (.aload_n 3, 1) := by decide +kernel
theorem dL_joined_7 : decode cL_joined 7 = .ok (.invokestatic 70, 3) := by decide +kernel
theorem dL_joined_10 : decode cL_joined 10 = .ok (.istore 4, 2) := by decide +kernel
theorem dL_joined_12 : decode cL_joined 12 = .ok (.iconst 0, 1) := by decide +kernel
theorem dL_joined_13 : decode cL_joined 13 = .ok (.istore 5, 2) := by decide +kernel
theorem dL_joined_15 : decode cL_joined 15 = .ok (.iconst 0, 1) := by decide +kernel
theorem dL_joined_16 : decode cL_joined 16 = .ok (.istore 6, 2) := by decide +kernel
theorem dL_joined_18 : decode cL_joined 18 = .ok (.iload 6, 2) := by decide +kernel
theorem dL_joined_20 : decode cL_joined 20 = .ok (.iconst 4, 1) := by decide +kernel
theorem dL_joined_21 : decode cL_joined 21 = .ok (.if_icmp .ge 41, 3) := by decide +kernel
theorem dL_joined_24 : decode cL_joined 24 = .ok (.iload 5, 2) := by decide +kernel
theorem dL_joined_26 : decode cL_joined 26 = .ok (.ifCond .ne 23, 3) := by decide +kernel
theorem dL_joined_29 : decode cL_joined 29 = .ok (.iload 4, 2) := by decide +kernel
theorem dL_joined_31 : decode cL_joined 31 = .ok (.iload 6, 2) := by decide +kernel
theorem dL_joined_33 : decode cL_joined 33 = .ok (.invokestatic 114, 3) := by decide +kernel
theorem dL_joined_36 : decode cL_joined 36 = .ok (.iload_n 1, 1) := by decide +kernel
theorem dL_joined_37 : decode cL_joined 37 = .ok (.aload_n 2, 1) := by decide +kernel
theorem dL_joined_38 : decode cL_joined 38 = .ok (.iload_n 1, 1) := by decide +kernel
theorem dL_joined_39 : decode cL_joined 39 = .ok (.iaload, 1) := by decide +kernel
theorem dL_joined_40 : decode cL_joined 40 = .ok (.iconst 1, 1) := by decide +kernel
theorem dL_joined_41 : decode cL_joined 41 = .ok (.isub, 1) := by decide +kernel
theorem dL_joined_42 : decode cL_joined 42 = .ok (.aload_n 3, 1) := by decide +kernel
theorem dL_joined_43 : decode cL_joined 43 = .ok (.invokestatic 70, 3) := by decide +kernel
theorem dL_joined_46 : decode cL_joined 46 = .ok (.if_icmp .ne 7, 3) := by decide +kernel
theorem dL_joined_49 : decode cL_joined 49 = .ok (.iconst 1, 1) := by decide +kernel
theorem dL_joined_50 : decode cL_joined 50 = .ok (.goto 4, 3) := by decide +kernel
theorem dL_joined_53 : decode cL_joined 53 = .ok (.iconst 0, 1) := by decide +kernel
theorem dL_joined_54 : decode cL_joined 54 = .ok (.istore 5, 2) := by decide +kernel
theorem dL_joined_56 : decode cL_joined 56 = .ok (.iinc 6 1, 3) := by decide +kernel
theorem dL_joined_59 : decode cL_joined 59 = .ok (.goto (-41), 3) := by decide +kernel
theorem dL_joined_62 : decode cL_joined 62 = .ok (.iload 5, 2) := by decide +kernel
theorem dL_joined_64 : decode cL_joined 64 = .ok (.ifCond .ne 6, 3) := by decide +kernel
theorem dL_joined_67 : decode cL_joined 67 = .ok (.bipush (-103), 2) := by decide +kernel
theorem dL_joined_69 : decode cL_joined 69 = .ok (.ireturn, 1) := by decide +kernel
theorem dL_joined_70 : decode cL_joined 70 = .ok (.aload_n 2, 1) := by decide +kernel
theorem dL_joined_71 : decode cL_joined 71 = .ok (.iload_n 1, 1) := by decide +kernel
theorem dL_joined_72 : decode cL_joined 72 = .ok (.iaload, 1) := by decide +kernel
theorem dL_joined_73 : decode cL_joined 73 = .ok (.iconst 1, 1) := by decide +kernel
theorem dL_joined_74 : decode cL_joined 74 = .ok (.isub, 1) := by decide +kernel
theorem dL_joined_75 : decode cL_joined 75 = .ok (.istore 6, 2) := by decide +kernel
theorem dL_joined_77 : decode cL_joined 77 = .ok (.iload 6, 2) := by decide +kernel
theorem dL_joined_79 : decode cL_joined 79 = .ok (.ifCond .lt 31, 3) := by decide +kernel
theorem dL_joined_82 : decode cL_joined 82 = .ok (.iload_n 0, 1) := by decide +kernel
theorem dL_joined_83 : decode cL_joined 83 = .ok (.aload_n 2, 1) := by decide +kernel
theorem dL_joined_84 : decode cL_joined 84 = .ok (.iload_n 0, 1) := by decide +kernel
theorem dL_joined_85 : decode cL_joined 85 = .ok (.iaload, 1) := by decide +kernel
theorem dL_joined_86 : decode cL_joined 86 = .ok (.iload_n 1, 1) := by decide +kernel
theorem dL_joined_87 : decode cL_joined 87 = .ok (.iload 6, 2) := by decide +kernel
theorem dL_joined_89 : decode cL_joined 89 = .ok (.aload_n 3, 1) := by decide +kernel
theorem dL_joined_90 : decode cL_joined 90 = .ok (.invokestatic 70, 3) := by decide +kernel
theorem dL_joined_93 : decode cL_joined 93 = .ok (.aload_n 3, 1) := by decide +kernel
theorem dL_joined_94 : decode cL_joined 94 = .ok (.invokestatic 121, 3) := by decide +kernel
theorem dL_joined_97 : decode cL_joined 97 = .ok (.aload_n 2, 1) := by decide +kernel
theorem dL_joined_98 : decode cL_joined 98 = .ok (.iload_n 0, 1) := by decide +kernel
theorem dL_joined_99 : decode cL_joined 99 = .ok (.dup2, 1) := by decide +kernel
theorem dL_joined_100 : decode cL_joined 100 = .ok (.iaload, 1) := by decide +kernel
theorem dL_joined_101 : decode cL_joined 101 = .ok (.iconst 1, 1) := by decide +kernel
theorem dL_joined_102 : decode cL_joined 102 = .ok (.iadd, 1) := by decide +kernel
theorem dL_joined_103 : decode cL_joined 103 = .ok (.iastore, 1) := by decide +kernel
theorem dL_joined_104 : decode cL_joined 104 = .ok (.iinc 6 (-1), 3) := by decide +kernel
theorem dL_joined_107 : decode cL_joined 107 = .ok (.goto (-30), 3) := by decide +kernel
theorem dL_joined_110 : decode cL_joined 110 = .ok (.aload_n 2, 1) := by decide +kernel
theorem dL_joined_111 : decode cL_joined 111 = .ok (.iload_n 0, 1) := by decide +kernel
theorem dL_joined_112 : decode cL_joined 112 = .ok (.iaload, 1) := by decide +kernel
theorem dL_joined_113 : decode cL_joined 113 = .ok (.istore 6, 2) := by decide +kernel
theorem dL_joined_115 : decode cL_joined 115 = .ok (.iload_n 1, 1) := by decide +kernel
theorem dL_joined_116 : decode cL_joined 116 = .ok (.aload_n 2, 1) := by decide +kernel
theorem dL_joined_117 : decode cL_joined 117 = .ok (.aload_n 3, 1) := by decide +kernel
theorem dL_joined_118 : decode cL_joined 118 = .ok (.invokestatic 128, 3) := by decide +kernel
theorem dL_joined_121 : decode cL_joined 121 = .ok (.iload 6, 2) := by decide +kernel
theorem dL_joined_123 : decode cL_joined 123 = .ok (.ireturn, 1) := by decide +kernel
theorem dL_due_0 : decode cL_due 0 = .ok (.iload_n 0, 1) := by decide +kernel
theorem dL_due_1 : decode cL_due 1 = .ok (.ifCond .ne 69, 3) := by decide +kernel
theorem dL_due_4 : decode cL_due 4 = .ok (.aload 4, 2) := by decide +kernel
theorem dL_due_6 : decode cL_due 6 = .ok (.iconst 5, 1) := by decide +kernel
theorem dL_due_7 : decode cL_due 7 = .ok (.iaload, 1) := by decide +kernel
theorem dL_due_8 : decode cL_due 8 = .ok (.iconst 5, 1) := by decide +kernel
theorem dL_due_9 : decode cL_due 9 = .ok (.if_icmp .eq 19, 3) := by decide +kernel
theorem dL_due_12 : decode cL_due 12 = .ok (.bipush 10, 2) := by decide +kernel
theorem dL_due_14 : decode cL_due 14 = .ok (.iload_n 2, 1) := by decide +kernel
theorem dL_due_15 : decode cL_due 15 = .ok (.imul, 1) := by decide +kernel
theorem dL_due_16 : decode cL_due 16 = .ok (.iload_n 1, 1) := by decide +kernel
theorem dL_due_17 : decode cL_due 17 = .ok (.iadd, 1) := by decide +kernel
theorem dL_due_18 : decode cL_due 18 = .ok (.aload 4, 2) := by decide +kernel
theorem dL_due_20 : decode cL_due 20 = .ok (.aload 5, 2) := by decide +kernel
theorem dL_due_22 : decode cL_due 22 = .ok (.invokestatic 76, 3) := by decide +kernel
theorem dL_due_25 : decode cL_due 25 = .ok (.ifCond .lt 6, 3) := by decide +kernel
theorem dL_due_28 : decode cL_due 28 = .ok (.bipush (-103), 2) := by decide +kernel
theorem dL_due_30 : decode cL_due 30 = .ok (.ireturn, 1) := by decide +kernel
theorem dL_due_31 : decode cL_due 31 = .ok (.aload 4, 2) := by decide +kernel
theorem dL_due_33 : decode cL_due 33 = .ok (.iconst 5, 1) := by decide +kernel
theorem dL_due_34 : decode cL_due 34 = .ok (.iaload, 1) := by decide +kernel
theorem dL_due_35 : decode cL_due 35 = .ok (.iconst 0, 1) := by decide +kernel
theorem dL_due_36 : decode cL_due 36 = .ok (.bipush 10, 2) := by decide +kernel
theorem dL_due_38 : decode cL_due 38 = .ok (.iload_n 2, 1) := by decide +kernel
theorem dL_due_39 : decode cL_due 39 = .ok (.imul, 1) := by decide +kernel
theorem dL_due_40 : decode cL_due 40 = .ok (.iload_n 1, 1) := by decide +kernel
theorem dL_due_41 : decode cL_due 41 = .ok (.iadd, 1) := by decide +kernel
theorem dL_due_42 : decode cL_due 42 = .ok (.aload 5, 2) := by decide +kernel
theorem dL_due_44 : decode cL_due 44 = .ok (.invokestatic 121, 3) := by decide +kernel
theorem dL_due_47 : decode cL_due 47 = .ok (.aload 4, 2) := by decide +kernel
theorem dL_due_49 : decode cL_due 49 = .ok (.aload 4, 2) := by decide +kernel
theorem dL_due_51 : decode cL_due 51 = .ok (.iconst 5, 1) := by decide +kernel
theorem dL_due_52 : decode cL_due 52 = .ok (.iaload, 1) := by decide +kernel
theorem dL_due_53 : decode cL_due 53 = .ok (.iconst 1, 1) := by decide +kernel
theorem dL_due_54 : decode cL_due 54 = .ok (.iastore, 1) := by decide +kernel
theorem dL_due_55 : decode cL_due 55 = .ok (.aload 4, 2) := by decide +kernel
theorem dL_due_57 : decode cL_due 57 = .ok (.iconst 5, 1) := by decide +kernel
theorem dL_due_58 : decode cL_due 58 = .ok (.dup2, 1) := by decide +kernel
theorem dL_due_59 : decode cL_due 59 = .ok (.iaload, 1) := by decide +kernel
theorem dL_due_60 : decode cL_due 60 = .ok (.iconst 1, 1) := by decide +kernel
theorem dL_due_61 : decode cL_due 61 = .ok (.iadd, 1) := by decide +kernel
theorem dL_due_62 : decode cL_due 62 = .ok (.iastore, 1) := by decide +kernel
theorem dL_due_63 : decode cL_due 63 = .ok (.aload 4, 2) := by decide +kernel
theorem dL_due_65 : decode cL_due 65 = .ok (.iconst 5, 1) := by decide +kernel
theorem dL_due_66 : decode cL_due 66 = .ok (.iaload, 1) := by decide +kernel
theorem dL_due_67 : decode cL_due 67 = .ok (.iconst 1, 1) := by decide +kernel
theorem dL_due_68 : decode cL_due 68 = .ok (.isub, 1) := by decide +kernel
theorem dL_due_69 : decode cL_due 69 = .ok (.ireturn, 1) := by decide +kernel
theorem dL_due_70 : decode cL_due 70 = .ok (.iload_n 1, 1) := by decide +kernel
theorem dL_due_71 : decode cL_due 71 = .ok (.aload 4, 2) := by decide +kernel
theorem dL_due_73 : decode cL_due 73 = .ok (.iconst 5, 1) := by decide +kernel
theorem dL_due_74 : decode cL_due 74 = .ok (.iaload, 1) := by decide +kernel
theorem dL_due_75 : decode cL_due 75 = .ok (.if_icmp .ge 17, 3) := by decide +kernel
theorem dL_due_78 : decode cL_due 78 = .ok (.iload_n 0, 1) := by decide +kernel
theorem dL_due_79 : decode cL_due 79 = .ok (.bipush 6, 2) := by decide +kernel
theorem dL_due_81 : decode cL_due 81 = .ok (.if_icmp .ne 14, 3) := by decide +kernel
theorem dL_due_84 : decode cL_due 84 = .ok (.iload_n 2, 1) := by decide +kernel
theorem dL_due_85 : decode cL_due 85 = .ok (.aload 4, 2) := by decide +kernel
theorem dL_due_87 : decode cL_due 87 = .ok (.iconst 5, 1) := by decide +kernel
theorem dL_due_88 : decode cL_due 88 = .ok (.iaload, 1) := by decide +kernel
theorem dL_due_89 : decode cL_due 89 = .ok (.if_icmp .lt 6, 3) := by decide +kernel
theorem dL_due_92 : decode cL_due 92 = .ok (.bipush (-101), 2) := by decide +kernel
theorem dL_due_94 : decode cL_due 94 = .ok (.ireturn, 1) := by decide +kernel
theorem dL_due_95 : decode cL_due 95 = .ok (.iload_n 0, 1) := by decide +kernel
theorem dL_due_96 : decode cL_due 96 = .ok (.tableswitch 322 1 7 #[44, 64, 44, 88, 112, 198, 218], 44) := by decide +kernel
theorem dL_due_140 : decode cL_due 140 = .ok (.iload_n 1, 1) := by decide +kernel
theorem dL_due_141 : decode cL_due 141 = .ok (.iload_n 2, 1) := by decide +kernel
theorem dL_due_142 : decode cL_due 142 = .ok (.iload_n 0, 1) := by decide +kernel
theorem dL_due_143 : decode cL_due 143 = .ok (.iconst 3, 1) := by decide +kernel
theorem dL_due_144 : decode cL_due 144 = .ok (.if_icmp .ne 7, 3) := by decide +kernel
theorem dL_due_147 : decode cL_due 147 = .ok (.iconst 1, 1) := by decide +kernel
theorem dL_due_148 : decode cL_due 148 = .ok (.goto 4, 3) := by decide +kernel
theorem dL_due_151 : decode cL_due 151 = .ok (.iconst 0, 1) := by decide +kernel
theorem dL_due_152 : decode cL_due 152 = .ok (.aload 4, 2) := by decide +kernel
theorem dL_due_154 : decode cL_due 154 = .ok (.aload 5, 2) := by decide +kernel
theorem dL_due_156 : decode cL_due 156 = .ok (.invokestatic 132, 3) := by decide +kernel
theorem dL_due_159 : decode cL_due 159 = .ok (.ireturn, 1) := by decide +kernel
theorem dL_due_160 : decode cL_due 160 = .ok (.aload 4, 2) := by decide +kernel
theorem dL_due_162 : decode cL_due 162 = .ok (.iload_n 1, 1) := by decide +kernel
theorem dL_due_163 : decode cL_due 163 = .ok (.iaload, 1) := by decide +kernel
theorem dL_due_164 : decode cL_due 164 = .ok (.iconst 1, 1) := by decide +kernel
theorem dL_due_165 : decode cL_due 165 = .ok (.if_icmp .ne 6, 3) := by decide +kernel
theorem dL_due_168 : decode cL_due 168 = .ok (.bipush (-103), 2) := by decide +kernel
theorem dL_due_170 : decode cL_due 170 = .ok (.ireturn, 1) := by decide +kernel
theorem dL_due_171 : decode cL_due 171 = .ok (.aload 4, 2) := by decide +kernel
theorem dL_due_173 : decode cL_due 173 = .ok (.iload_n 1, 1) := by decide +kernel
theorem dL_due_174 : decode cL_due 174 = .ok (.dup2, 1) := by decide +kernel
theorem dL_due_175 : decode cL_due 175 = .ok (.iaload, 1) := by decide +kernel
theorem dL_due_176 : decode cL_due 176 = .ok (.iconst 1, 1) := by decide +kernel
theorem dL_due_177 : decode cL_due 177 = .ok (.isub, 1) := by decide +kernel
theorem dL_due_178 : decode cL_due 178 = .ok (.iastore, 1) := by decide +kernel
theorem dL_due_179 : decode cL_due 179 = .ok (.aload 4, 2) := by decide +kernel
theorem dL_due_181 : decode cL_due 181 = .ok (.iload_n 1, 1) := by decide +kernel
theorem dL_due_182 : decode cL_due 182 = .ok (.iaload, 1) := by decide +kernel
theorem dL_due_183 : decode cL_due 183 = .ok (.ireturn, 1) := by decide +kernel
theorem dL_due_184 : decode cL_due 184 = .ok (.iload_n 2, 1) := by decide +kernel
theorem dL_due_185 : decode cL_due 185 = .ok (.aload 4, 2) := by decide +kernel
theorem dL_due_187 : decode cL_due 187 = .ok (.iload_n 1, 1) := by decide +kernel
theorem dL_due_188 : decode cL_due 188 = .ok (.iaload, 1) := by decide +kernel
theorem dL_due_189 : decode cL_due 189 = .ok (.if_icmp .lt 8, 3) := by decide +kernel
theorem dL_due_192 : decode cL_due 192 = .ok (.bipush (-101), 2) := by decide +kernel
theorem dL_due_194 : decode cL_due 194 = .ok (.goto 13, 3) := by decide +kernel
theorem dL_due_197 : decode cL_due 197 = .ok (.iload_n 1, 1) := by decide +kernel
theorem dL_due_198 : decode cL_due 198 = .ok (.iload_n 2, 1) := by decide +kernel
theorem dL_due_199 : decode cL_due 199 = .ok (.iload_n 3, 1) := by decide +kernel
theorem dL_due_200 : decode cL_due 200 = .ok (.aload 4, 2) := by decide +kernel
theorem dL_due_202 : decode cL_due 202 = .ok (.aload 5, 2) := by decide +kernel
theorem dL_due_204 : decode cL_due 204 = .ok (.invokestatic 136, 3) := by decide +kernel
theorem dL_due_207 : decode cL_due 207 = .ok (.ireturn, 1) := by decide +kernel
theorem dL_due_208 : decode cL_due 208 = .ok (.iconst 0, 1) := by decide +kernel
theorem dL_due_209 : decode cL_due 209 = .ok (.istore 6, 2) := by decide +kernel
theorem dL_due_211 : decode cL_due 211 = .ok (.iload 6, 2) := by decide +kernel
theorem dL_due_213 : decode cL_due 213 = .ok (.aload 4, 2) := by decide +kernel
theorem dL_due_215 : decode cL_due 215 = .ok (.iload_n 1, 1) := by decide +kernel
theorem dL_due_216 : decode cL_due 216 = .ok (.iaload, 1) := by decide +kernel
theorem dL_due_217 : decode cL_due 217 = .ok (.iconst 1, 1) := by decide +kernel
theorem dL_due_218 : decode cL_due 218 = .ok (.isub, 1) := by decide +kernel
theorem dL_due_219 : decode cL_due 219 = .ok (.iload 6, 2) := by decide +kernel
theorem dL_due_221 : decode cL_due 221 = .ok (.isub, 1) := by decide +kernel
theorem dL_due_222 : decode cL_due 222 = .ok (.if_icmp .ge 59, 3) := by decide +kernel
theorem dL_due_225 : decode cL_due 225 = .ok (.iload_n 1, 1) := by decide +kernel
theorem dL_due_226 : decode cL_due 226 = .ok (.iload 6, 2) := by decide +kernel
theorem dL_due_228 : decode cL_due 228 = .ok (.aload 5, 2) := by decide +kernel
theorem dL_due_230 : decode cL_due 230 = .ok (.invokestatic 70, 3) := by decide +kernel
theorem dL_due_233 : decode cL_due 233 = .ok (.istore 7, 2) := by decide +kernel
theorem dL_due_235 : decode cL_due 235 = .ok (.iload_n 1, 1) := by decide +kernel
theorem dL_due_236 : decode cL_due 236 = .ok (.iload 6, 2) := by decide +kernel
theorem dL_due_238 : decode cL_due 238 = .ok (.iload_n 1, 1) := by decide +kernel
theorem dL_due_239 : decode cL_due 239 = .ok (.aload 4, 2) := by decide +kernel
theorem dL_due_241 : decode cL_due 241 = .ok (.iload_n 1, 1) := by decide +kernel
theorem dL_due_242 : decode cL_due 242 = .ok (.iaload, 1) := by decide +kernel
theorem dL_due_243 : decode cL_due 243 = .ok (.iconst 1, 1) := by decide +kernel
theorem dL_due_244 : decode cL_due 244 = .ok (.isub, 1) := by decide +kernel
theorem dL_due_245 : decode cL_due 245 = .ok (.iload 6, 2) := by decide +kernel
theorem dL_due_247 : decode cL_due 247 = .ok (.isub, 1) := by decide +kernel
theorem dL_due_248 : decode cL_due 248 = .ok (.aload 5, 2) := by decide +kernel
theorem dL_due_250 : decode cL_due 250 = .ok (.invokestatic 70, 3) := by decide +kernel
theorem dL_due_253 : decode cL_due 253 = .ok (.aload 5, 2) := by decide +kernel
theorem dL_due_255 : decode cL_due 255 = .ok (.invokestatic 121, 3) := by decide +kernel
theorem dL_due_258 : decode cL_due 258 = .ok (.iload_n 1, 1) := by decide +kernel
theorem dL_due_259 : decode cL_due 259 = .ok (.aload 4, 2) := by decide +kernel
theorem dL_due_261 : decode cL_due 261 = .ok (.iload_n 1, 1) := by decide +kernel
theorem dL_due_262 : decode cL_due 262 = .ok (.iaload, 1) := by decide +kernel
theorem dL_due_263 : decode cL_due 263 = .ok (.iconst 1, 1) := by decide +kernel
theorem dL_due_264 : decode cL_due 264 = .ok (.isub, 1) := by decide +kernel
theorem dL_due_265 : decode cL_due 265 = .ok (.iload 6, 2) := by decide +kernel
theorem dL_due_267 : decode cL_due 267 = .ok (.isub, 1) := by decide +kernel
theorem dL_due_268 : decode cL_due 268 = .ok (.iload 7, 2) := by decide +kernel
theorem dL_due_270 : decode cL_due 270 = .ok (.aload 5, 2) := by decide +kernel
theorem dL_due_272 : decode cL_due 272 = .ok (.invokestatic 121, 3) := by decide +kernel
theorem dL_due_275 : decode cL_due 275 = .ok (.iinc 6 1, 3) := by decide +kernel
theorem dL_due_278 : decode cL_due 278 = .ok (.goto (-67), 3) := by decide +kernel
theorem dL_due_281 : decode cL_due 281 = .ok (.iload_n 1, 1) := by decide +kernel
theorem dL_due_282 : decode cL_due 282 = .ok (.aload 4, 2) := by decide +kernel
theorem dL_due_284 : decode cL_due 284 = .ok (.iload_n 1, 1) := by decide +kernel
theorem dL_due_285 : decode cL_due 285 = .ok (.iaload, 1) := by decide +kernel
theorem dL_due_286 : decode cL_due 286 = .ok (.iconst 1, 1) := by decide +kernel
theorem dL_due_287 : decode cL_due 287 = .ok (.isub, 1) := by decide +kernel
theorem dL_due_288 : decode cL_due 288 = .ok (.aload 5, 2) := by decide +kernel
theorem dL_due_290 : decode cL_due 290 = .ok (.invokestatic 70, 3) := by decide +kernel
theorem dL_due_293 : decode cL_due 293 = .ok (.ireturn, 1) := by decide +kernel
theorem dL_due_294 : decode cL_due 294 = .ok (.iload_n 1, 1) := by decide +kernel
theorem dL_due_295 : decode cL_due 295 = .ok (.iload_n 2, 1) := by decide +kernel
theorem dL_due_296 : decode cL_due 296 = .ok (.if_icmp .ne 8, 3) := by decide +kernel
theorem dL_due_299 : decode cL_due 299 = .ok (.bipush (-102), 2) := by decide +kernel
theorem dL_due_301 : decode cL_due 301 = .ok (.goto 12, 3) := by decide +kernel
theorem dL_due_304 : decode cL_due 304 = .ok (.iload_n 1, 1) := by decide +kernel
theorem dL_due_305 : decode cL_due 305 = .ok (.iload_n 2, 1) := by decide +kernel
theorem dL_due_306 : decode cL_due 306 = .ok (.aload 4, 2) := by decide +kernel
theorem dL_due_308 : decode cL_due 308 = .ok (.aload 5, 2) := by decide +kernel
theorem dL_due_310 : decode cL_due 310 = .ok (.invokestatic 139, 3) := by decide +kernel
theorem dL_due_313 : decode cL_due 313 = .ok (.ireturn, 1) := by decide +kernel
theorem dL_due_314 : decode cL_due 314 = .ok (.iload_n 2, 1) := by decide +kernel
theorem dL_due_315 : decode cL_due 315 = .ok (.aload 4, 2) := by decide +kernel
theorem dL_due_317 : decode cL_due 317 = .ok (.iload_n 1, 1) := by decide +kernel
theorem dL_due_318 : decode cL_due 318 = .ok (.iaload, 1) := by decide +kernel
theorem dL_due_319 : decode cL_due 319 = .ok (.iconst 1, 1) := by decide +kernel
theorem dL_due_320 : decode cL_due 320 = .ok (.isub, 1) := by decide +kernel
theorem dL_due_321 : decode cL_due 321 = .ok (.if_icmp .lt 6, 3) := by decide +kernel
theorem dL_due_324 : decode cL_due 324 = .ok (.bipush (-101), 2) := by decide +kernel
theorem dL_due_326 : decode cL_due 326 = .ok (.ireturn, 1) := by decide +kernel
theorem dL_due_327 : decode cL_due 327 = .ok (.aload 4, 2) := by decide +kernel
theorem dL_due_329 : decode cL_due 329 = .ok (.iconst 5, 1) := by decide +kernel
theorem dL_due_330 : decode cL_due 330 = .ok (.iaload, 1) := by decide +kernel
theorem dL_due_331 : decode cL_due 331 = .ok (.iconst 5, 1) := by decide +kernel
theorem dL_due_332 : decode cL_due 332 = .ok (.if_icmp .ne 6, 3) := by decide +kernel
theorem dL_due_335 : decode cL_due 335 = .ok (.bipush (-103), 2) := by decide +kernel
theorem dL_due_337 : decode cL_due 337 = .ok (.ireturn, 1) := by decide +kernel
theorem dL_due_338 : decode cL_due 338 = .ok (.iload_n 2, 1) := by decide +kernel
theorem dL_due_339 : decode cL_due 339 = .ok (.iconst 1, 1) := by decide +kernel
theorem dL_due_340 : decode cL_due 340 = .ok (.iadd, 1) := by decide +kernel
theorem dL_due_341 : decode cL_due 341 = .ok (.istore 6, 2) := by decide +kernel
theorem dL_due_343 : decode cL_due 343 = .ok (.iload 6, 2) := by decide +kernel
theorem dL_due_345 : decode cL_due 345 = .ok (.aload 4, 2) := by decide +kernel
theorem dL_due_347 : decode cL_due 347 = .ok (.iload_n 1, 1) := by decide +kernel
theorem dL_due_348 : decode cL_due 348 = .ok (.iaload, 1) := by decide +kernel
theorem dL_due_349 : decode cL_due 349 = .ok (.if_icmp .ge 32, 3) := by decide +kernel
theorem dL_due_352 : decode cL_due 352 = .ok (.aload 4, 2) := by decide +kernel
theorem dL_due_354 : decode cL_due 354 = .ok (.iconst 5, 1) := by decide +kernel
theorem dL_due_355 : decode cL_due 355 = .ok (.iaload, 1) := by decide +kernel
theorem dL_due_356 : decode cL_due 356 = .ok (.iload 6, 2) := by decide +kernel
theorem dL_due_358 : decode cL_due 358 = .ok (.iload_n 2, 1) := by decide +kernel
theorem dL_due_359 : decode cL_due 359 = .ok (.isub, 1) := by decide +kernel
theorem dL_due_360 : decode cL_due 360 = .ok (.iconst 1, 1) := by decide +kernel
theorem dL_due_361 : decode cL_due 361 = .ok (.isub, 1) := by decide +kernel
theorem dL_due_362 : decode cL_due 362 = .ok (.iload_n 1, 1) := by decide +kernel
theorem dL_due_363 : decode cL_due 363 = .ok (.iload 6, 2) := by decide +kernel
theorem dL_due_365 : decode cL_due 365 = .ok (.aload 5, 2) := by decide +kernel
theorem dL_due_367 : decode cL_due 367 = .ok (.invokestatic 70, 3) := by decide +kernel
theorem dL_due_370 : decode cL_due 370 = .ok (.aload 5, 2) := by decide +kernel
theorem dL_due_372 : decode cL_due 372 = .ok (.invokestatic 121, 3) := by decide +kernel
theorem dL_due_375 : decode cL_due 375 = .ok (.iinc 6 1, 3) := by decide +kernel
theorem dL_due_378 : decode cL_due 378 = .ok (.goto (-35), 3) := by decide +kernel
theorem dL_due_381 : decode cL_due 381 = .ok (.aload 4, 2) := by decide +kernel
theorem dL_due_383 : decode cL_due 383 = .ok (.aload 4, 2) := by decide +kernel
theorem dL_due_385 : decode cL_due 385 = .ok (.iconst 5, 1) := by decide +kernel
theorem dL_due_386 : decode cL_due 386 = .ok (.iaload, 1) := by decide +kernel
theorem dL_due_387 : decode cL_due 387 = .ok (.aload 4, 2) := by decide +kernel
theorem dL_due_389 : decode cL_due 389 = .ok (.iload_n 1, 1) := by decide +kernel
theorem dL_due_390 : decode cL_due 390 = .ok (.iaload, 1) := by decide +kernel
theorem dL_due_391 : decode cL_due 391 = .ok (.iload_n 2, 1) := by decide +kernel
theorem dL_due_392 : decode cL_due 392 = .ok (.isub, 1) := by decide +kernel
theorem dL_due_393 : decode cL_due 393 = .ok (.iconst 1, 1) := by decide +kernel
theorem dL_due_394 : decode cL_due 394 = .ok (.isub, 1) := by decide +kernel
theorem dL_due_395 : decode cL_due 395 = .ok (.iastore, 1) := by decide +kernel
theorem dL_due_396 : decode cL_due 396 = .ok (.aload 4, 2) := by decide +kernel
theorem dL_due_398 : decode cL_due 398 = .ok (.iload_n 1, 1) := by decide +kernel
theorem dL_due_399 : decode cL_due 399 = .ok (.iload_n 2, 1) := by decide +kernel
theorem dL_due_400 : decode cL_due 400 = .ok (.iconst 1, 1) := by decide +kernel
theorem dL_due_401 : decode cL_due 401 = .ok (.iadd, 1) := by decide +kernel
theorem dL_due_402 : decode cL_due 402 = .ok (.iastore, 1) := by decide +kernel
theorem dL_due_403 : decode cL_due 403 = .ok (.aload 4, 2) := by decide +kernel
theorem dL_due_405 : decode cL_due 405 = .ok (.iconst 5, 1) := by decide +kernel
theorem dL_due_406 : decode cL_due 406 = .ok (.dup2, 1) := by decide +kernel
theorem dL_due_407 : decode cL_due 407 = .ok (.iaload, 1) := by decide +kernel
theorem dL_due_408 : decode cL_due 408 = .ok (.iconst 1, 1) := by decide +kernel
theorem dL_due_409 : decode cL_due 409 = .ok (.iadd, 1) := by decide +kernel
theorem dL_due_410 : decode cL_due 410 = .ok (.iastore, 1) := by decide +kernel
theorem dL_due_411 : decode cL_due 411 = .ok (.aload 4, 2) := by decide +kernel
theorem dL_due_413 : decode cL_due 413 = .ok (.iconst 5, 1) := by decide +kernel
theorem dL_due_414 : decode cL_due 414 = .ok (.iaload, 1) := by decide +kernel
theorem dL_due_415 : decode cL_due 415 = .ok (.iconst 1, 1) := by decide +kernel
theorem dL_due_416 : decode cL_due 416 = .ok (.isub, 1) := by decide +kernel
theorem dL_due_417 : decode cL_due 417 = .ok (.ireturn, 1) := by decide +kernel
theorem dL_due_418 : decode cL_due 418 = .ok (.iload_n 1, 1) := by decide +kernel
theorem dL_due_419 : decode cL_due 419 = .ok (.aload 4, 2) := by decide +kernel
theorem dL_due_421 : decode cL_due 421 = .ok (.aload 5, 2) := by decide +kernel
theorem dL_due_423 : decode cL_due 423 = .ok (.invokestatic 128, 3) := by decide +kernel
theorem dL_due_426 : decode cL_due 426 = .ok (.aload 4, 2) := by decide +kernel
theorem dL_due_428 : decode cL_due 428 = .ok (.iconst 5, 1) := by decide +kernel
theorem dL_due_429 : decode cL_due 429 = .ok (.iaload, 1) := by decide +kernel
theorem dL_due_430 : decode cL_due 430 = .ok (.ireturn, 1) := by decide +kernel
theorem dL_isPath_0 : decode cL_isPath 0 = .ok (.iconst 0, 1) := by decide +kernel
theorem dL_isPath_1 : decode cL_isPath 1 = .ok (.istore 4, 2) := by decide +kernel
theorem dL_isPath_3 : decode cL_isPath 3 = .ok (.iconst 0, 1) := by decide +kernel
theorem dL_isPath_4 : decode cL_isPath 4 = .ok (.istore 5, 2) := by decide +kernel
theorem dL_isPath_6 : decode cL_isPath 6 = .ok (.bipush 9, 2) := by decide +kernel
theorem dL_isPath_8 : decode cL_isPath 8 = .ok (.istore 6, 2) := by decide +kernel
theorem dL_isPath_10 : decode cL_isPath 10 = .ok (.iconst 0, 1) := by decide +kernel
theorem dL_isPath_11 : decode cL_isPath 11 = .ok (.istore 7, 2) := by decide +kernel
theorem dL_isPath_13 : decode cL_isPath 13 = .ok (.bipush 9, 2) := by decide +kernel
theorem dL_isPath_15 : decode cL_isPath 15 = .ok (.istore 8, 2) := by decide +kernel
theorem dL_isPath_17 : decode cL_isPath 17 = .ok (.iconst 0, 1) := by decide +kernel
theorem dL_isPath_18 : decode cL_isPath 18 = .ok (.istore 9, 2) := by decide +kernel
theorem dL_isPath_20 : decode cL_isPath 20 = .ok (.iconst 0, 1) := by decide +kernel
theorem dL_isPath_21 : decode cL_isPath 21 = .ok (.istore 10, 2) := by decide +kernel
theorem dL_isPath_23 : decode cL_isPath 23 = .ok (.iconst 0, 1) := by decide +kernel
theorem dL_isPath_24 : decode cL_isPath 24 = .ok (.istore 11, 2) := by decide +kernel
theorem dL_isPath_26 : decode cL_isPath 26 = .ok (.iconst 0, 1) := by decide +kernel
theorem dL_isPath_27 : decode cL_isPath 27 = .ok (.istore 12, 2) := by decide +kernel
theorem dL_isPath_29 : decode cL_isPath 29 = .ok (.iload 12, 2) := by decide +kernel
theorem dL_isPath_31 : decode cL_isPath 31 = .ok (.aload_n 2, 1) := by decide +kernel
theorem dL_isPath_32 : decode cL_isPath 32 = .ok (.iload_n 1, 1) := by decide +kernel
theorem dL_isPath_33 : decode cL_isPath 33 = .ok (.iaload, 1) := by decide +kernel
theorem dL_isPath_34 : decode cL_isPath 34 = .ok (.if_icmp .ge 272, 3) := by decide +kernel
theorem dL_isPath_37 : decode cL_isPath 37 = .ok (.iload_n 1, 1) := by decide +kernel
theorem dL_isPath_38 : decode cL_isPath 38 = .ok (.iload 12, 2) := by decide +kernel
theorem dL_isPath_40 : decode cL_isPath 40 = .ok (.aload_n 3, 1) := by decide +kernel
theorem dL_isPath_41 : decode cL_isPath 41 = .ok (.invokestatic 70, 3) := by decide +kernel
theorem dL_isPath_44 : decode cL_isPath 44 = .ok (.istore 13, 2) := by decide +kernel
theorem dL_isPath_46 : decode cL_isPath 46 = .ok (.iload 13, 2) := by decide +kernel
theorem dL_isPath_48 : decode cL_isPath 48 = .ok (.bipush 10, 2) := by decide +kernel
theorem dL_isPath_50 : decode cL_isPath 50 = .ok (.irem, 1) := by decide +kernel
theorem dL_isPath_51 : decode cL_isPath 51 = .ok (.iload 6, 2) := by decide +kernel
theorem dL_isPath_53 : decode cL_isPath 53 = .ok (.if_icmp .ge 11, 3) := by decide +kernel
theorem dL_isPath_56 : decode cL_isPath 56 = .ok (.iload 13, 2) := by decide +kernel
theorem dL_isPath_58 : decode cL_isPath 58 = .ok (.bipush 10, 2) := by decide +kernel
theorem dL_isPath_60 : decode cL_isPath 60 = .ok (.irem, 1) := by decide +kernel
theorem dL_isPath_61 : decode cL_isPath 61 = .ok (.goto 5, 3) := by decide +kernel
theorem dL_isPath_64 : decode cL_isPath 64 = .ok (.iload 6, 2) := by decide +kernel
theorem dL_isPath_66 : decode cL_isPath 66 = .ok (.istore 6, 2) := by decide +kernel
theorem dL_isPath_68 : decode cL_isPath 68 = .ok (.iload 13, 2) := by decide +kernel
theorem dL_isPath_70 : decode cL_isPath 70 = .ok (.bipush 10, 2) := by decide +kernel
theorem dL_isPath_72 : decode cL_isPath 72 = .ok (.irem, 1) := by decide +kernel
theorem dL_isPath_73 : decode cL_isPath 73 = .ok (.iload 7, 2) := by decide +kernel
theorem dL_isPath_75 : decode cL_isPath 75 = .ok (.if_icmp .le 11, 3) := by decide +kernel
theorem dL_isPath_78 : decode cL_isPath 78 = .ok (.iload 13, 2) := by decide +kernel
theorem dL_isPath_80 : decode cL_isPath 80 = .ok (.bipush 10, 2) := by decide +kernel
theorem dL_isPath_82 : decode cL_isPath 82 = .ok (.irem, 1) := by decide +kernel
theorem dL_isPath_83 : decode cL_isPath 83 = .ok (.goto 5, 3) := by decide +kernel
theorem dL_isPath_86 : decode cL_isPath 86 = .ok (.iload 7, 2) := by decide +kernel
theorem dL_isPath_88 : decode cL_isPath 88 = .ok (.istore 7, 2) := by decide +kernel
theorem dL_isPath_90 : decode cL_isPath 90 = .ok (.iload 13, 2) := by decide +kernel
theorem dL_isPath_92 : decode cL_isPath 92 = .ok (.bipush 10, 2) := by decide +kernel
theorem dL_isPath_94 : decode cL_isPath 94 = .ok (.idiv, 1) := by decide +kernel
theorem dL_isPath_95 : decode cL_isPath 95 = .ok (.iload 8, 2) := by decide +kernel
theorem dL_isPath_97 : decode cL_isPath 97 = .ok (.if_icmp .ge 11, 3) := by decide +kernel
theorem dL_isPath_100 : decode cL_isPath 100 = .ok (.iload 13, 2) := by decide +kernel
theorem dL_isPath_102 : decode cL_isPath 102 = .ok (.bipush 10, 2) := by decide +kernel
theorem dL_isPath_104 : decode cL_isPath 104 = .ok (.idiv, 1) := by decide +kernel
theorem dL_isPath_105 : decode cL_isPath 105 = .ok (.goto 5, 3) := by decide +kernel
theorem dL_isPath_108 : decode cL_isPath 108 = .ok (.iload 8, 2) := by decide +kernel
theorem dL_isPath_110 : decode cL_isPath 110 = .ok (.istore 8, 2) := by decide +kernel
theorem dL_isPath_112 : decode cL_isPath 112 = .ok (.iload 13, 2) := by decide +kernel
theorem dL_isPath_114 : decode cL_isPath 114 = .ok (.bipush 10, 2) := by decide +kernel
theorem dL_isPath_116 : decode cL_isPath 116 = .ok (.idiv, 1) := by decide +kernel
theorem dL_isPath_117 : decode cL_isPath 117 = .ok (.iload 9, 2) := by decide +kernel
theorem dL_isPath_119 : decode cL_isPath 119 = .ok (.if_icmp .le 11, 3) := by decide +kernel
theorem dL_isPath_122 : decode cL_isPath 122 = .ok (.iload 13, 2) := by decide +kernel
theorem dL_isPath_124 : decode cL_isPath 124 = .ok (.bipush 10, 2) := by decide +kernel
theorem dL_isPath_126 : decode cL_isPath 126 = .ok (.idiv, 1) := by decide +kernel
theorem dL_isPath_127 : decode cL_isPath 127 = .ok (.goto 5, 3) := by decide +kernel
theorem dL_isPath_130 : decode cL_isPath 130 = .ok (.iload 9, 2) := by decide +kernel
theorem dL_isPath_132 : decode cL_isPath 132 = .ok (.istore 9, 2) := by decide +kernel
theorem dL_isPath_134 : decode cL_isPath 134 = .ok (.iload 4, 2) := by decide +kernel
theorem dL_isPath_136 : decode cL_isPath 136 = .ok (.iload 12, 2) := by decide +kernel
theorem dL_isPath_138 : decode cL_isPath 138 = .ok (.iconst 1, 1) := by decide +kernel
theorem dL_isPath_139 : decode cL_isPath 139 = .ok (.if_icmp .le 41, 3) := by decide +kernel
theorem dL_isPath_142 : decode cL_isPath 142 = .ok (.iload 13, 2) := by decide +kernel
theorem dL_isPath_144 : decode cL_isPath 144 = .ok (.iload_n 1, 1) := by decide +kernel
theorem dL_isPath_145 : decode cL_isPath 145 = .ok (.iload 12, 2) := by decide +kernel
theorem dL_isPath_147 : decode cL_isPath 147 = .ok (.iconst 1, 1) := by decide +kernel
theorem dL_isPath_148 : decode cL_isPath 148 = .ok (.isub, 1) := by decide +kernel
theorem dL_isPath_149 : decode cL_isPath 149 = .ok (.aload_n 3, 1) := by decide +kernel
theorem dL_isPath_150 : decode cL_isPath 150 = .ok (.invokestatic 70, 3) := by decide +kernel
theorem dL_isPath_153 : decode cL_isPath 153 = .ok (.isub, 1) := by decide +kernel
theorem dL_isPath_154 : decode cL_isPath 154 = .ok (.iload_n 1, 1) := by decide +kernel
theorem dL_isPath_155 : decode cL_isPath 155 = .ok (.iload 12, 2) := by decide +kernel
theorem dL_isPath_157 : decode cL_isPath 157 = .ok (.iconst 1, 1) := by decide +kernel
theorem dL_isPath_158 : decode cL_isPath 158 = .ok (.isub, 1) := by decide +kernel
theorem dL_isPath_159 : decode cL_isPath 159 = .ok (.aload_n 3, 1) := by decide +kernel
theorem dL_isPath_160 : decode cL_isPath 160 = .ok (.invokestatic 70, 3) := by decide +kernel
theorem dL_isPath_163 : decode cL_isPath 163 = .ok (.iload_n 1, 1) := by decide +kernel
theorem dL_isPath_164 : decode cL_isPath 164 = .ok (.iload 12, 2) := by decide +kernel
theorem dL_isPath_166 : decode cL_isPath 166 = .ok (.iconst 2, 1) := by decide +kernel
theorem dL_isPath_167 : decode cL_isPath 167 = .ok (.isub, 1) := by decide +kernel
theorem dL_isPath_168 : decode cL_isPath 168 = .ok (.aload_n 3, 1) := by decide +kernel
theorem dL_isPath_169 : decode cL_isPath 169 = .ok (.invokestatic 70, 3) := by decide +kernel
theorem dL_isPath_172 : decode cL_isPath 172 = .ok (.isub, 1) := by decide +kernel
theorem dL_isPath_173 : decode cL_isPath 173 = .ok (.if_icmp .eq 7, 3) := by decide +kernel
theorem dL_isPath_176 : decode cL_isPath 176 = .ok (.iconst 1, 1) := by decide +kernel
theorem dL_isPath_177 : decode cL_isPath 177 = .ok (.goto 4, 3) := by decide +kernel
theorem dL_isPath_180 : decode cL_isPath 180 = .ok (.iconst 0, 1) := by decide +kernel
theorem dL_isPath_181 : decode cL_isPath 181 = .ok (.iadd, 1) := by decide +kernel
theorem dL_isPath_182 : decode cL_isPath 182 = .ok (.istore 4, 2) := by decide +kernel
theorem dL_isPath_184 : decode cL_isPath 184 = .ok (.iconst 0, 1) := by decide +kernel
theorem dL_isPath_185 : decode cL_isPath 185 = .ok (.istore 14, 2) := by decide +kernel
theorem dL_isPath_187 : decode cL_isPath 187 = .ok (.iload 14, 2) := by decide +kernel
theorem dL_isPath_189 : decode cL_isPath 189 = .ok (.iload 12, 2) := by decide +kernel
theorem dL_isPath_191 : decode cL_isPath 191 = .ok (.if_icmp .ge 95, 3) := by decide +kernel
theorem dL_isPath_194 : decode cL_isPath 194 = .ok (.iload 13, 2) := by decide +kernel
theorem dL_isPath_196 : decode cL_isPath 196 = .ok (.bipush 10, 2) := by decide +kernel
theorem dL_isPath_198 : decode cL_isPath 198 = .ok (.irem, 1) := by decide +kernel
theorem dL_isPath_199 : decode cL_isPath 199 = .ok (.iload_n 1, 1) := by decide +kernel
theorem dL_isPath_200 : decode cL_isPath 200 = .ok (.iload 14, 2) := by decide +kernel
theorem dL_isPath_202 : decode cL_isPath 202 = .ok (.aload_n 3, 1) := by decide +kernel
theorem dL_isPath_203 : decode cL_isPath 203 = .ok (.invokestatic 70, 3) := by decide +kernel
theorem dL_isPath_206 : decode cL_isPath 206 = .ok (.bipush 10, 2) := by decide +kernel
theorem dL_isPath_208 : decode cL_isPath 208 = .ok (.irem, 1) := by decide +kernel
theorem dL_isPath_209 : decode cL_isPath 209 = .ok (.isub, 1) := by decide +kernel
theorem dL_isPath_210 : decode cL_isPath 210 = .ok (.istore 15, 2) := by decide +kernel
theorem dL_isPath_212 : decode cL_isPath 212 = .ok (.iload 13, 2) := by decide +kernel
theorem dL_isPath_214 : decode cL_isPath 214 = .ok (.bipush 10, 2) := by decide +kernel
theorem dL_isPath_216 : decode cL_isPath 216 = .ok (.idiv, 1) := by decide +kernel
theorem dL_isPath_217 : decode cL_isPath 217 = .ok (.iload_n 1, 1) := by decide +kernel
theorem dL_isPath_218 : decode cL_isPath 218 = .ok (.iload 14, 2) := by decide +kernel
theorem dL_isPath_220 : decode cL_isPath 220 = .ok (.aload_n 3, 1) := by decide +kernel
theorem dL_isPath_221 : decode cL_isPath 221 = .ok (.invokestatic 70, 3) := by decide +kernel
theorem dL_isPath_224 : decode cL_isPath 224 = .ok (.bipush 10, 2) := by decide +kernel
theorem dL_isPath_226 : decode cL_isPath 226 = .ok (.idiv, 1) := by decide +kernel
theorem dL_isPath_227 : decode cL_isPath 227 = .ok (.isub, 1) := by decide +kernel
theorem dL_isPath_228 : decode cL_isPath 228 = .ok (.istore 16, 2) := by decide +kernel
theorem dL_isPath_230 : decode cL_isPath 230 = .ok (.iload 5, 2) := by decide +kernel
theorem dL_isPath_232 : decode cL_isPath 232 = .ok (.iload 14, 2) := by decide +kernel
theorem dL_isPath_234 : decode cL_isPath 234 = .ok (.iload 12, 2) := by decide +kernel
theorem dL_isPath_236 : decode cL_isPath 236 = .ok (.iconst 1, 1) := by decide +kernel
theorem dL_isPath_237 : decode cL_isPath 237 = .ok (.isub, 1) := by decide +kernel
theorem dL_isPath_238 : decode cL_isPath 238 = .ok (.if_icmp .ge 22, 3) := by decide +kernel
theorem dL_isPath_241 : decode cL_isPath 241 = .ok (.iload 15, 2) := by decide +kernel
theorem dL_isPath_243 : decode cL_isPath 243 = .ok (.iload 15, 2) := by decide +kernel
theorem dL_isPath_245 : decode cL_isPath 245 = .ok (.imul, 1) := by decide +kernel
theorem dL_isPath_246 : decode cL_isPath 246 = .ok (.iload 16, 2) := by decide +kernel
theorem dL_isPath_248 : decode cL_isPath 248 = .ok (.iload 16, 2) := by decide +kernel
theorem dL_isPath_250 : decode cL_isPath 250 = .ok (.imul, 1) := by decide +kernel
theorem dL_isPath_251 : decode cL_isPath 251 = .ok (.iadd, 1) := by decide +kernel
theorem dL_isPath_252 : decode cL_isPath 252 = .ok (.iconst 1, 1) := by decide +kernel
theorem dL_isPath_253 : decode cL_isPath 253 = .ok (.if_icmp .ne 7, 3) := by decide +kernel
theorem dL_isPath_256 : decode cL_isPath 256 = .ok (.iconst 1, 1) := by decide +kernel
theorem dL_isPath_257 : decode cL_isPath 257 = .ok (.goto 4, 3) := by decide +kernel
theorem dL_isPath_260 : decode cL_isPath 260 = .ok (.iconst 0, 1) := by decide +kernel
theorem dL_isPath_261 : decode cL_isPath 261 = .ok (.iadd, 1) := by decide +kernel
theorem dL_isPath_262 : decode cL_isPath 262 = .ok (.istore 5, 2) := by decide +kernel
theorem dL_isPath_264 : decode cL_isPath 264 = .ok (.iload 10, 2) := by decide +kernel
theorem dL_isPath_266 : decode cL_isPath 266 = .ok (.iload 15, 2) := by decide +kernel
theorem dL_isPath_268 : decode cL_isPath 268 = .ok (.iload 15, 2) := by decide +kernel
theorem dL_isPath_270 : decode cL_isPath 270 = .ok (.imul, 1) := by decide +kernel
theorem dL_isPath_271 : decode cL_isPath 271 = .ok (.iload 16, 2) := by decide +kernel
theorem dL_isPath_273 : decode cL_isPath 273 = .ok (.iload 16, 2) := by decide +kernel
theorem dL_isPath_275 : decode cL_isPath 275 = .ok (.imul, 1) := by decide +kernel
theorem dL_isPath_276 : decode cL_isPath 276 = .ok (.iadd, 1) := by decide +kernel
theorem dL_isPath_277 : decode cL_isPath 277 = .ok (.iadd, 1) := by decide +kernel
theorem dL_isPath_278 : decode cL_isPath 278 = .ok (.istore 10, 2) := by decide +kernel
theorem dL_isPath_280 : decode cL_isPath 280 = .ok (.iinc 14 1, 3) := by decide +kernel
theorem dL_isPath_283 : decode cL_isPath 283 = .ok (.goto (-96), 3) := by decide +kernel
theorem dL_isPath_286 : decode cL_isPath 286 = .ok (.aload_n 0, 1) := by decide +kernel
theorem dL_isPath_287 : decode cL_isPath 287 = .ok (.iload_n 1, 1) := by decide +kernel
theorem dL_isPath_288 : decode cL_isPath 288 = .ok (.iload 12, 2) := by decide +kernel
theorem dL_isPath_290 : decode cL_isPath 290 = .ok (.invokestatic 143, 3) := by decide +kernel
theorem dL_isPath_293 : decode cL_isPath 293 = .ok (.iload 13, 2) := by decide +kernel
theorem dL_isPath_295 : decode cL_isPath 295 = .ok (.if_icmp .eq 5, 3) := by decide +kernel
theorem dL_isPath_298 : decode cL_isPath 298 = .ok (.iconst 0, 1) := by decide +kernel
theorem dL_isPath_299 : decode cL_isPath 299 = .ok (.ireturn, 1) := by decide +kernel
theorem dL_isPath_300 : decode cL_isPath 300 = .ok (.iinc 12 1, 3) := by decide +kernel
theorem dL_isPath_303 : decode cL_isPath 303 = .ok (.goto (-274), 3) := by decide +kernel
theorem dL_isPath_306 : decode cL_isPath 306 = .ok (.iconst 0, 1) := by decide +kernel
theorem dL_isPath_307 : decode cL_isPath 307 = .ok (.istore 12, 2) := by decide +kernel
theorem dL_isPath_309 : decode cL_isPath 309 = .ok (.iload 12, 2) := by decide +kernel
theorem dL_isPath_311 : decode cL_isPath 311 = .ok (.bipush 100, 2) := by decide +kernel
theorem dL_isPath_313 : decode cL_isPath 313 = .ok (.if_icmp .ge 106, 3) := by decide +kernel
theorem dL_isPath_316 : decode cL_isPath 316 = .ok (.iconst 0, 1) := by decide +kernel
theorem dL_isPath_317 : decode cL_isPath 317 = .ok (.istore 13, 2) := by decide +kernel
theorem dL_isPath_319 : decode cL_isPath 319 = .ok (.iconst 0, 1) := by decide +kernel
theorem dL_isPath_320 : decode cL_isPath 320 = .ok (.istore 14, 2) := by decide +kernel
theorem dL_isPath_322 : decode cL_isPath 322 = .ok (.iload 14, 2) := by decide +kernel
theorem dL_isPath_324 : decode cL_isPath 324 = .ok (.iconst 4, 1) := by decide +kernel
theorem dL_isPath_325 : decode cL_isPath 325 = .ok (.if_icmp .ge 63, 3) := by decide +kernel
theorem dL_isPath_328 : decode cL_isPath 328 = .ok (.iload 12, 2) := by decide +kernel
theorem dL_isPath_330 : decode cL_isPath 330 = .ok (.iload 14, 2) := by decide +kernel
theorem dL_isPath_332 : decode cL_isPath 332 = .ok (.invokestatic 114, 3) := by decide +kernel
theorem dL_isPath_335 : decode cL_isPath 335 = .ok (.ifCond .ge 7, 3) := by decide +kernel
theorem dL_isPath_338 : decode cL_isPath 338 = .ok (.iconst (-1), 1) := by decide +kernel
theorem dL_isPath_339 : decode cL_isPath 339 = .ok (.goto 15, 3) := by decide +kernel
theorem dL_isPath_342 : decode cL_isPath 342 = .ok (.iload 12, 2) := by decide +kernel
theorem dL_isPath_344 : decode cL_isPath 344 = .ok (.iload 14, 2) := by decide +kernel
theorem dL_isPath_346 : decode cL_isPath 346 = .ok (.invokestatic 114, 3) := by decide +kernel
theorem dL_isPath_349 : decode cL_isPath 349 = .ok (.aload_n 2, 1) := by decide +kernel
theorem dL_isPath_350 : decode cL_isPath 350 = .ok (.aload_n 3, 1) := by decide +kernel
theorem dL_isPath_351 : decode cL_isPath 351 = .ok (.invokestatic 76, 3) := by decide +kernel
theorem dL_isPath_354 : decode cL_isPath 354 = .ok (.istore 15, 2) := by decide +kernel
theorem dL_isPath_356 : decode cL_isPath 356 = .ok (.iload 13, 2) := by decide +kernel
theorem dL_isPath_358 : decode cL_isPath 358 = .ok (.ifCond .ne 17, 3) := by decide +kernel
theorem dL_isPath_361 : decode cL_isPath 361 = .ok (.iload 15, 2) := by decide +kernel
theorem dL_isPath_363 : decode cL_isPath 363 = .ok (.ifCond .lt 16, 3) := by decide +kernel
theorem dL_isPath_366 : decode cL_isPath 366 = .ok (.iload 15, 2) := by decide +kernel
theorem dL_isPath_368 : decode cL_isPath 368 = .ok (.bipush 100, 2) := by decide +kernel
theorem dL_isPath_370 : decode cL_isPath 370 = .ok (.idiv, 1) := by decide +kernel
theorem dL_isPath_371 : decode cL_isPath 371 = .ok (.iload_n 1, 1) := by decide +kernel
theorem dL_isPath_372 : decode cL_isPath 372 = .ok (.if_icmp .ne 7, 3) := by decide +kernel
theorem dL_isPath_375 : decode cL_isPath 375 = .ok (.iconst 1, 1) := by decide +kernel
theorem dL_isPath_376 : decode cL_isPath 376 = .ok (.goto 4, 3) := by decide +kernel
theorem dL_isPath_379 : decode cL_isPath 379 = .ok (.iconst 0, 1) := by decide +kernel
theorem dL_isPath_380 : decode cL_isPath 380 = .ok (.istore 13, 2) := by decide +kernel
theorem dL_isPath_382 : decode cL_isPath 382 = .ok (.iinc 14 1, 3) := by decide +kernel
theorem dL_isPath_385 : decode cL_isPath 385 = .ok (.goto (-63), 3) := by decide +kernel
theorem dL_isPath_388 : decode cL_isPath 388 = .ok (.iload 11, 2) := by decide +kernel
theorem dL_isPath_390 : decode cL_isPath 390 = .ok (.iload 13, 2) := by decide +kernel
theorem dL_isPath_392 : decode cL_isPath 392 = .ok (.ifCond .eq 17, 3) := by decide +kernel
theorem dL_isPath_395 : decode cL_isPath 395 = .ok (.iload 12, 2) := by decide +kernel
theorem dL_isPath_397 : decode cL_isPath 397 = .ok (.aload_n 2, 1) := by decide +kernel
theorem dL_isPath_398 : decode cL_isPath 398 = .ok (.aload_n 3, 1) := by decide +kernel
theorem dL_isPath_399 : decode cL_isPath 399 = .ok (.invokestatic 76, 3) := by decide +kernel
theorem dL_isPath_402 : decode cL_isPath 402 = .ok (.ifCond .ge 7, 3) := by decide +kernel
theorem dL_isPath_405 : decode cL_isPath 405 = .ok (.iconst 1, 1) := by decide +kernel
theorem dL_isPath_406 : decode cL_isPath 406 = .ok (.goto 4, 3) := by decide +kernel
theorem dL_isPath_409 : decode cL_isPath 409 = .ok (.iconst 0, 1) := by decide +kernel
theorem dL_isPath_410 : decode cL_isPath 410 = .ok (.iadd, 1) := by decide +kernel
theorem dL_isPath_411 : decode cL_isPath 411 = .ok (.istore 11, 2) := by decide +kernel
theorem dL_isPath_413 : decode cL_isPath 413 = .ok (.iinc 12 1, 3) := by decide +kernel
theorem dL_isPath_416 : decode cL_isPath 416 = .ok (.goto (-107), 3) := by decide +kernel
theorem dL_isPath_419 : decode cL_isPath 419 = .ok (.iload_n 1, 1) := by decide +kernel
theorem dL_isPath_420 : decode cL_isPath 420 = .ok (.aload_n 2, 1) := by decide +kernel
theorem dL_isPath_421 : decode cL_isPath 421 = .ok (.iload_n 1, 1) := by decide +kernel
theorem dL_isPath_422 : decode cL_isPath 422 = .ok (.iaload, 1) := by decide +kernel
theorem dL_isPath_423 : decode cL_isPath 423 = .ok (.iconst 1, 1) := by decide +kernel
theorem dL_isPath_424 : decode cL_isPath 424 = .ok (.isub, 1) := by decide +kernel
theorem dL_isPath_425 : decode cL_isPath 425 = .ok (.aload_n 3, 1) := by decide +kernel
theorem dL_isPath_426 : decode cL_isPath 426 = .ok (.invokestatic 70, 3) := by decide +kernel
theorem dL_isPath_429 : decode cL_isPath 429 = .ok (.istore 12, 2) := by decide +kernel
theorem dL_isPath_431 : decode cL_isPath 431 = .ok (.iload 12, 2) := by decide +kernel
theorem dL_isPath_433 : decode cL_isPath 433 = .ok (.bipush 10, 2) := by decide +kernel
theorem dL_isPath_435 : decode cL_isPath 435 = .ok (.irem, 1) := by decide +kernel
theorem dL_isPath_436 : decode cL_isPath 436 = .ok (.iload_n 1, 1) := by decide +kernel
theorem dL_isPath_437 : decode cL_isPath 437 = .ok (.iconst 0, 1) := by decide +kernel
theorem dL_isPath_438 : decode cL_isPath 438 = .ok (.aload_n 3, 1) := by decide +kernel
theorem dL_isPath_439 : decode cL_isPath 439 = .ok (.invokestatic 70, 3) := by decide +kernel
theorem dL_isPath_442 : decode cL_isPath 442 = .ok (.bipush 10, 2) := by decide +kernel
theorem dL_isPath_444 : decode cL_isPath 444 = .ok (.irem, 1) := by decide +kernel
theorem dL_isPath_445 : decode cL_isPath 445 = .ok (.isub, 1) := by decide +kernel
theorem dL_isPath_446 : decode cL_isPath 446 = .ok (.istore 13, 2) := by decide +kernel
theorem dL_isPath_448 : decode cL_isPath 448 = .ok (.iload 12, 2) := by decide +kernel
theorem dL_isPath_450 : decode cL_isPath 450 = .ok (.bipush 10, 2) := by decide +kernel
theorem dL_isPath_452 : decode cL_isPath 452 = .ok (.idiv, 1) := by decide +kernel
theorem dL_isPath_453 : decode cL_isPath 453 = .ok (.iload_n 1, 1) := by decide +kernel
theorem dL_isPath_454 : decode cL_isPath 454 = .ok (.iconst 0, 1) := by decide +kernel
theorem dL_isPath_455 : decode cL_isPath 455 = .ok (.aload_n 3, 1) := by decide +kernel
theorem dL_isPath_456 : decode cL_isPath 456 = .ok (.invokestatic 70, 3) := by decide +kernel
theorem dL_isPath_459 : decode cL_isPath 459 = .ok (.bipush 10, 2) := by decide +kernel
theorem dL_isPath_461 : decode cL_isPath 461 = .ok (.idiv, 1) := by decide +kernel
theorem dL_isPath_462 : decode cL_isPath 462 = .ok (.isub, 1) := by decide +kernel
theorem dL_isPath_463 : decode cL_isPath 463 = .ok (.istore 14, 2) := by decide +kernel
theorem dL_isPath_465 : decode cL_isPath 465 = .ok (.aload_n 0, 1) := by decide +kernel
theorem dL_isPath_466 : decode cL_isPath 466 = .ok (.iload_n 1, 1) := by decide +kernel
theorem dL_isPath_467 : decode cL_isPath 467 = .ok (.iconst 0, 1) := by decide +kernel
theorem dL_isPath_468 : decode cL_isPath 468 = .ok (.invokestatic 145, 3) := by decide +kernel
theorem dL_isPath_471 : decode cL_isPath 471 = .ok (.aload_n 2, 1) := by decide +kernel
theorem dL_isPath_472 : decode cL_isPath 472 = .ok (.iload_n 1, 1) := by decide +kernel
theorem dL_isPath_473 : decode cL_isPath 473 = .ok (.iaload, 1) := by decide +kernel
theorem dL_isPath_474 : decode cL_isPath 474 = .ok (.if_icmp .ne 105, 3) := by decide +kernel
theorem dL_isPath_477 : decode cL_isPath 477 = .ok (.aload_n 0, 1) := by decide +kernel
theorem dL_isPath_478 : decode cL_isPath 478 = .ok (.iload_n 1, 1) := by decide +kernel
theorem dL_isPath_479 : decode cL_isPath 479 = .ok (.iconst 1, 1) := by decide +kernel
theorem dL_isPath_480 : decode cL_isPath 480 = .ok (.invokestatic 145, 3) := by decide +kernel
theorem dL_isPath_483 : decode cL_isPath 483 = .ok (.iload 4, 2) := by decide +kernel
theorem dL_isPath_485 : decode cL_isPath 485 = .ok (.if_icmp .ne 94, 3) := by decide +kernel
theorem dL_isPath_488 : decode cL_isPath 488 = .ok (.aload_n 0, 1) := by decide +kernel
theorem dL_isPath_489 : decode cL_isPath 489 = .ok (.iload_n 1, 1) := by decide +kernel
theorem dL_isPath_490 : decode cL_isPath 490 = .ok (.iconst 2, 1) := by decide +kernel
theorem dL_isPath_491 : decode cL_isPath 491 = .ok (.invokestatic 145, 3) := by decide +kernel
theorem dL_isPath_494 : decode cL_isPath 494 = .ok (.iload 5, 2) := by decide +kernel
theorem dL_isPath_496 : decode cL_isPath 496 = .ok (.if_icmp .ne 83, 3) := by decide +kernel
theorem dL_isPath_499 : decode cL_isPath 499 = .ok (.aload_n 0, 1) := by decide +kernel
theorem dL_isPath_500 : decode cL_isPath 500 = .ok (.iload_n 1, 1) := by decide +kernel
theorem dL_isPath_501 : decode cL_isPath 501 = .ok (.iconst 3, 1) := by decide +kernel
theorem dL_isPath_502 : decode cL_isPath 502 = .ok (.invokestatic 145, 3) := by decide +kernel
theorem dL_isPath_505 : decode cL_isPath 505 = .ok (.iload 7, 2) := by decide +kernel
theorem dL_isPath_507 : decode cL_isPath 507 = .ok (.iload 6, 2) := by decide +kernel
theorem dL_isPath_509 : decode cL_isPath 509 = .ok (.isub, 1) := by decide +kernel
theorem dL_isPath_510 : decode cL_isPath 510 = .ok (.iconst 1, 1) := by decide +kernel
theorem dL_isPath_511 : decode cL_isPath 511 = .ok (.iadd, 1) := by decide +kernel
theorem dL_isPath_512 : decode cL_isPath 512 = .ok (.if_icmp .ne 67, 3) := by decide +kernel
theorem dL_isPath_515 : decode cL_isPath 515 = .ok (.aload_n 0, 1) := by decide +kernel
theorem dL_isPath_516 : decode cL_isPath 516 = .ok (.iload_n 1, 1) := by decide +kernel
theorem dL_isPath_517 : decode cL_isPath 517 = .ok (.iconst 4, 1) := by decide +kernel
theorem dL_isPath_518 : decode cL_isPath 518 = .ok (.invokestatic 145, 3) := by decide +kernel
theorem dL_isPath_521 : decode cL_isPath 521 = .ok (.iload 9, 2) := by decide +kernel
theorem dL_isPath_523 : decode cL_isPath 523 = .ok (.iload 8, 2) := by decide +kernel
theorem dL_isPath_525 : decode cL_isPath 525 = .ok (.isub, 1) := by decide +kernel
theorem dL_isPath_526 : decode cL_isPath 526 = .ok (.iconst 1, 1) := by decide +kernel
theorem dL_isPath_527 : decode cL_isPath 527 = .ok (.iadd, 1) := by decide +kernel
theorem dL_isPath_528 : decode cL_isPath 528 = .ok (.if_icmp .ne 51, 3) := by decide +kernel
theorem dL_isPath_531 : decode cL_isPath 531 = .ok (.aload_n 0, 1) := by decide +kernel
theorem dL_isPath_532 : decode cL_isPath 532 = .ok (.iload_n 1, 1) := by decide +kernel
theorem dL_isPath_533 : decode cL_isPath 533 = .ok (.iconst 5, 1) := by decide +kernel
theorem dL_isPath_534 : decode cL_isPath 534 = .ok (.invokestatic 145, 3) := by decide +kernel
theorem dL_isPath_537 : decode cL_isPath 537 = .ok (.iload 13, 2) := by decide +kernel
theorem dL_isPath_539 : decode cL_isPath 539 = .ok (.iload 13, 2) := by decide +kernel
theorem dL_isPath_541 : decode cL_isPath 541 = .ok (.imul, 1) := by decide +kernel
theorem dL_isPath_542 : decode cL_isPath 542 = .ok (.iload 14, 2) := by decide +kernel
theorem dL_isPath_544 : decode cL_isPath 544 = .ok (.iload 14, 2) := by decide +kernel
theorem dL_isPath_546 : decode cL_isPath 546 = .ok (.imul, 1) := by decide +kernel
theorem dL_isPath_547 : decode cL_isPath 547 = .ok (.iadd, 1) := by decide +kernel
theorem dL_isPath_548 : decode cL_isPath 548 = .ok (.if_icmp .ne 31, 3) := by decide +kernel
theorem dL_isPath_551 : decode cL_isPath 551 = .ok (.aload_n 0, 1) := by decide +kernel
theorem dL_isPath_552 : decode cL_isPath 552 = .ok (.iload_n 1, 1) := by decide +kernel
theorem dL_isPath_553 : decode cL_isPath 553 = .ok (.bipush 7, 2) := by decide +kernel
theorem dL_isPath_555 : decode cL_isPath 555 = .ok (.invokestatic 145, 3) := by decide +kernel
theorem dL_isPath_558 : decode cL_isPath 558 = .ok (.iload 10, 2) := by decide +kernel
theorem dL_isPath_560 : decode cL_isPath 560 = .ok (.if_icmp .ne 19, 3) := by decide +kernel
theorem dL_isPath_563 : decode cL_isPath 563 = .ok (.aload_n 0, 1) := by decide +kernel
theorem dL_isPath_564 : decode cL_isPath 564 = .ok (.iload_n 1, 1) := by decide +kernel
theorem dL_isPath_565 : decode cL_isPath 565 = .ok (.bipush 8, 2) := by decide +kernel
theorem dL_isPath_567 : decode cL_isPath 567 = .ok (.invokestatic 145, 3) := by decide +kernel
theorem dL_isPath_570 : decode cL_isPath 570 = .ok (.iload 11, 2) := by decide +kernel
theorem dL_isPath_572 : decode cL_isPath 572 = .ok (.if_icmp .ne 7, 3) := by decide +kernel
theorem dL_isPath_575 : decode cL_isPath 575 = .ok (.iconst 1, 1) := by decide +kernel
theorem dL_isPath_576 : decode cL_isPath 576 = .ok (.goto 4, 3) := by decide +kernel
theorem dL_isPath_579 : decode cL_isPath 579 = .ok (.iconst 0, 1) := by decide +kernel
theorem dL_isPath_580 : decode cL_isPath 580 = .ok (.istore 15, 2) := by decide +kernel
theorem dL_isPath_582 : decode cL_isPath 582 = .ok (.iload 15, 2) := by decide +kernel
theorem dL_isPath_584 : decode cL_isPath 584 = .ok (.ifCond .eq 76, 3) := by decide +kernel
theorem dL_isPath_587 : decode cL_isPath 587 = .ok (.aload_n 0, 1) := by decide +kernel
theorem dL_isPath_588 : decode cL_isPath 588 = .ok (.iload_n 1, 1) := by decide +kernel
theorem dL_isPath_589 : decode cL_isPath 589 = .ok (.bipush 6, 2) := by decide +kernel
theorem dL_isPath_591 : decode cL_isPath 591 = .ok (.invokestatic 145, 3) := by decide +kernel
theorem dL_isPath_594 : decode cL_isPath 594 = .ok (.aload_n 0, 1) := by decide +kernel
theorem dL_isPath_595 : decode cL_isPath 595 = .ok (.iload 12, 2) := by decide +kernel
theorem dL_isPath_597 : decode cL_isPath 597 = .ok (.bipush 10, 2) := by decide +kernel
theorem dL_isPath_599 : decode cL_isPath 599 = .ok (.irem, 1) := by decide +kernel
theorem dL_isPath_600 : decode cL_isPath 600 = .ok (.iload 12, 2) := by decide +kernel
theorem dL_isPath_602 : decode cL_isPath 602 = .ok (.bipush 10, 2) := by decide +kernel
theorem dL_isPath_604 : decode cL_isPath 604 = .ok (.idiv, 1) := by decide +kernel
theorem dL_isPath_605 : decode cL_isPath 605 = .ok (.iconst 2, 1) := by decide +kernel
theorem dL_isPath_606 : decode cL_isPath 606 = .ok (.invokestatic 92, 3) := by decide +kernel
theorem dL_isPath_609 : decode cL_isPath 609 = .ok (.if_icmp .ne 51, 3) := by decide +kernel
theorem dL_isPath_612 : decode cL_isPath 612 = .ok (.aload_n 0, 1) := by decide +kernel
theorem dL_isPath_613 : decode cL_isPath 613 = .ok (.iload_n 1, 1) := by decide +kernel
theorem dL_isPath_614 : decode cL_isPath 614 = .ok (.aload_n 2, 1) := by decide +kernel
theorem dL_isPath_615 : decode cL_isPath 615 = .ok (.iload_n 1, 1) := by decide +kernel
theorem dL_isPath_616 : decode cL_isPath 616 = .ok (.iaload, 1) := by decide +kernel
theorem dL_isPath_617 : decode cL_isPath 617 = .ok (.invokestatic 143, 3) := by decide +kernel
theorem dL_isPath_620 : decode cL_isPath 620 = .ok (.iconst (-1), 1) := by decide +kernel
theorem dL_isPath_621 : decode cL_isPath 621 = .ok (.if_icmp .ne 39, 3) := by decide +kernel
theorem dL_isPath_624 : decode cL_isPath 624 = .ok (.aload_n 0, 1) := by decide +kernel
theorem dL_isPath_625 : decode cL_isPath 625 = .ok (.iload_n 1, 1) := by decide +kernel
theorem dL_isPath_626 : decode cL_isPath 626 = .ok (.iconst (-1), 1) := by decide +kernel
theorem dL_isPath_627 : decode cL_isPath 627 = .ok (.invokestatic 143, 3) := by decide +kernel
theorem dL_isPath_630 : decode cL_isPath 630 = .ok (.iconst (-1), 1) := by decide +kernel
theorem dL_isPath_631 : decode cL_isPath 631 = .ok (.if_icmp .ne 29, 3) := by decide +kernel
theorem dL_isPath_634 : decode cL_isPath 634 = .ok (.aload_n 0, 1) := by decide +kernel
theorem dL_isPath_635 : decode cL_isPath 635 = .ok (.iload_n 1, 1) := by decide +kernel
theorem dL_isPath_636 : decode cL_isPath 636 = .ok (.invokevirtual 147, 3) := by decide +kernel
theorem dL_isPath_639 : decode cL_isPath 639 = .ok (.iload 10, 2) := by decide +kernel
theorem dL_isPath_641 : decode cL_isPath 641 = .ok (.i2d, 1) := by decide +kernel
theorem dL_isPath_642 : decode cL_isPath 642 = .ok (.aload_n 2, 1) := by decide +kernel
theorem dL_isPath_643 : decode cL_isPath 643 = .ok (.iload_n 1, 1) := by decide +kernel
theorem dL_isPath_644 : decode cL_isPath 644 = .ok (.iaload, 1) := by decide +kernel
theorem dL_isPath_645 : decode cL_isPath 645 = .ok (.i2d, 1) := by decide +kernel
theorem dL_isPath_646 : decode cL_isPath 646 = .ok (.aload_n 2, 1) := by decide +kernel
theorem dL_isPath_647 : decode cL_isPath 647 = .ok (.iload_n 1, 1) := by decide +kernel
theorem dL_isPath_648 : decode cL_isPath 648 = .ok (.iaload, 1) := by decide +kernel
theorem dL_isPath_649 : decode cL_isPath 649 = .ok (.i2d, 1) := by decide +kernel
theorem dL_isPath_650 : decode cL_isPath 650 = .ok (.dmul, 1) := by decide +kernel
theorem dL_isPath_651 : decode cL_isPath 651 = .ok (.ddiv, 1) := by decide +kernel
theorem dL_isPath_652 : decode cL_isPath 652 = .ok (.dcmp .l, 1) := by decide +kernel
theorem dL_isPath_653 : decode cL_isPath 653 = .ok (.ifCond .ne 7, 3) := by decide +kernel
theorem dL_isPath_656 : decode cL_isPath 656 = .ok (.iconst 1, 1) := by decide +kernel
theorem dL_isPath_657 : decode cL_isPath 657 = .ok (.goto 4, 3) := by decide +kernel
theorem dL_isPath_660 : decode cL_isPath 660 = .ok (.iconst 0, 1) := by decide +kernel
theorem dL_isPath_661 : decode cL_isPath 661 = .ok (.ireturn, 1) := by decide +kernel
theorem dL_isSo_0 : decode cL_isSo 0 = .ok (.iconst 0, 1) := by decide +kernel
theorem dL_isSo_1 : decode cL_isSo 1 = .ok (.istore 4, 2) := by decide +kernel
theorem dL_isSo_3 : decode cL_isSo 3 = .ok (.iconst 0, 1) := by decide +kernel
theorem dL_isSo_4 : decode cL_isSo 4 = .ok (.istore 5, 2) := by decide +kernel
theorem dL_isSo_6 : decode cL_isSo 6 = .ok (.iconst 0, 1) := by decide +kernel
theorem dL_isSo_7 : decode cL_isSo 7 = .ok (.istore 6, 2) := by decide +kernel
theorem dL_isSo_9 : decode cL_isSo 9 = .ok (.iload 6, 2) := by decide +kernel
theorem dL_isSo_11 : decode cL_isSo 11 = .ok (.aload_n 2, 1) := by decide +kernel
theorem dL_isSo_12 : decode cL_isSo 12 = .ok (.iconst 5, 1) := by decide +kernel
theorem dL_isSo_13 : decode cL_isSo 13 = .ok (.iaload, 1) := by decide +kernel
theorem dL_isSo_14 : decode cL_isSo 14 = .ok (.if_icmp .ge 100, 3) := by decide +kernel
theorem dL_isSo_17 : decode cL_isSo 17 = .ok (.iload 4, 2) := by decide +kernel
theorem dL_isSo_19 : decode cL_isSo 19 = .ok (.aload_n 2, 1) := by decide +kernel
theorem dL_isSo_20 : decode cL_isSo 20 = .ok (.iload 6, 2) := by decide +kernel
theorem dL_isSo_22 : decode cL_isSo 22 = .ok (.iaload, 1) := by decide +kernel
theorem dL_isSo_23 : decode cL_isSo 23 = .ok (.iadd, 1) := by decide +kernel
theorem dL_isSo_24 : decode cL_isSo 24 = .ok (.istore 4, 2) := by decide +kernel
theorem dL_isSo_26 : decode cL_isSo 26 = .ok (.iconst 0, 1) := by decide +kernel
theorem dL_isSo_27 : decode cL_isSo 27 = .ok (.istore 7, 2) := by decide +kernel
theorem dL_isSo_29 : decode cL_isSo 29 = .ok (.iconst 0, 1) := by decide +kernel
theorem dL_isSo_30 : decode cL_isSo 30 = .ok (.istore 8, 2) := by decide +kernel
theorem dL_isSo_32 : decode cL_isSo 32 = .ok (.iload 8, 2) := by decide +kernel
theorem dL_isSo_34 : decode cL_isSo 34 = .ok (.iconst 4, 1) := by decide +kernel
theorem dL_isSo_35 : decode cL_isSo 35 = .ok (.if_icmp .ge 55, 3) := by decide +kernel
theorem dL_isSo_38 : decode cL_isSo 38 = .ok (.iload 6, 2) := by decide +kernel
theorem dL_isSo_40 : decode cL_isSo 40 = .ok (.aload_n 2, 1) := by decide +kernel
theorem dL_isSo_41 : decode cL_isSo 41 = .ok (.iload 6, 2) := by decide +kernel
theorem dL_isSo_43 : decode cL_isSo 43 = .ok (.iaload, 1) := by decide +kernel
theorem dL_isSo_44 : decode cL_isSo 44 = .ok (.iconst 1, 1) := by decide +kernel
theorem dL_isSo_45 : decode cL_isSo 45 = .ok (.isub, 1) := by decide +kernel
theorem dL_isSo_46 : decode cL_isSo 46 = .ok (.aload_n 3, 1) := by decide +kernel
theorem dL_isSo_47 : decode cL_isSo 47 = .ok (.invokestatic 70, 3) := by decide +kernel
theorem dL_isSo_50 : decode cL_isSo 50 = .ok (.iload 8, 2) := by decide +kernel
theorem dL_isSo_52 : decode cL_isSo 52 = .ok (.invokestatic 114, 3) := by decide +kernel
theorem dL_isSo_55 : decode cL_isSo 55 = .ok (.istore 9, 2) := by decide +kernel
theorem dL_isSo_57 : decode cL_isSo 57 = .ok (.iload 7, 2) := by decide +kernel
theorem dL_isSo_59 : decode cL_isSo 59 = .ok (.ifCond .ne 18, 3) := by decide +kernel
theorem dL_isSo_62 : decode cL_isSo 62 = .ok (.iload 9, 2) := by decide +kernel
theorem dL_isSo_64 : decode cL_isSo 64 = .ok (.ifCond .lt 17, 3) := by decide +kernel
theorem dL_isSo_67 : decode cL_isSo 67 = .ok (.iload 9, 2) := by decide +kernel
theorem dL_isSo_69 : decode cL_isSo 69 = .ok (.aload_n 2, 1) := by decide +kernel
theorem dL_isSo_70 : decode cL_isSo 70 = .ok (.aload_n 3, 1) := by decide +kernel
theorem dL_isSo_71 : decode cL_isSo 71 = .ok (.invokestatic 76, 3) := by decide +kernel
theorem dL_isSo_74 : decode cL_isSo 74 = .ok (.ifCond .ge 7, 3) := by decide +kernel
theorem dL_isSo_77 : decode cL_isSo 77 = .ok (.iconst 1, 1) := by decide +kernel
theorem dL_isSo_78 : decode cL_isSo 78 = .ok (.goto 4, 3) := by decide +kernel
theorem dL_isSo_81 : decode cL_isSo 81 = .ok (.iconst 0, 1) := by decide +kernel
theorem dL_isSo_82 : decode cL_isSo 82 = .ok (.istore 7, 2) := by decide +kernel
theorem dL_isSo_84 : decode cL_isSo 84 = .ok (.iinc 8 1, 3) := by decide +kernel
theorem dL_isSo_87 : decode cL_isSo 87 = .ok (.goto (-55), 3) := by decide +kernel
theorem dL_isSo_90 : decode cL_isSo 90 = .ok (.iload 5, 2) := by decide +kernel
theorem dL_isSo_92 : decode cL_isSo 92 = .ok (.iload 7, 2) := by decide +kernel
theorem dL_isSo_94 : decode cL_isSo 94 = .ok (.ifCond .eq 7, 3) := by decide +kernel
theorem dL_isSo_97 : decode cL_isSo 97 = .ok (.iconst 0, 1) := by decide +kernel
theorem dL_isSo_98 : decode cL_isSo 98 = .ok (.goto 7, 3) := by decide +kernel
theorem dL_isSo_101 : decode cL_isSo 101 = .ok (.iconst 1, 1) := by decide +kernel
theorem dL_isSo_102 : decode cL_isSo 102 = .ok (.iload 6, 2) := by decide +kernel
theorem dL_isSo_104 : decode cL_isSo 104 = .ok (.ishl, 1) := by decide +kernel
theorem dL_isSo_105 : decode cL_isSo 105 = .ok (.ior, 1) := by decide +kernel
theorem dL_isSo_106 : decode cL_isSo 106 = .ok (.istore 5, 2) := by decide +kernel
theorem dL_isSo_108 : decode cL_isSo 108 = .ok (.iinc 6 1, 3) := by decide +kernel
theorem dL_isSo_111 : decode cL_isSo 111 = .ok (.goto (-102), 3) := by decide +kernel
theorem dL_isSo_114 : decode cL_isSo 114 = .ok (.iload_n 1, 1) := by decide +kernel
theorem dL_isSo_115 : decode cL_isSo 115 = .ok (.bipush 100, 2) := by decide +kernel
theorem dL_isSo_117 : decode cL_isSo 117 = .ok (.invokestatic 151, 3) := by decide +kernel
theorem dL_isSo_120 : decode cL_isSo 120 = .ok (.istore 6, 2) := by decide +kernel
theorem dL_isSo_122 : decode cL_isSo 122 = .ok (.iload 6, 2) := by decide +kernel
theorem dL_isSo_124 : decode cL_isSo 124 = .ok (.aload_n 2, 1) := by decide +kernel
theorem dL_isSo_125 : decode cL_isSo 125 = .ok (.aload_n 3, 1) := by decide +kernel
theorem dL_isSo_126 : decode cL_isSo 126 = .ok (.invokestatic 76, 3) := by decide +kernel
theorem dL_isSo_129 : decode cL_isSo 129 = .ok (.istore 7, 2) := by decide +kernel
theorem dL_isSo_131 : decode cL_isSo 131 = .ok (.iconst 0, 1) := by decide +kernel
theorem dL_isSo_132 : decode cL_isSo 132 = .ok (.istore 8, 2) := by decide +kernel
theorem dL_isSo_134 : decode cL_isSo 134 = .ok (.iconst 0, 1) := by decide +kernel
theorem dL_isSo_135 : decode cL_isSo 135 = .ok (.istore 9, 2) := by decide +kernel
theorem dL_isSo_137 : decode cL_isSo 137 = .ok (.iload 9, 2) := by decide +kernel
theorem dL_isSo_139 : decode cL_isSo 139 = .ok (.iconst 4, 1) := by decide +kernel
theorem dL_isSo_140 : decode cL_isSo 140 = .ok (.if_icmp .ge 47, 3) := by decide +kernel
theorem dL_isSo_143 : decode cL_isSo 143 = .ok (.iload 8, 2) := by decide +kernel
theorem dL_isSo_145 : decode cL_isSo 145 = .ok (.iload 6, 2) := by decide +kernel
theorem dL_isSo_147 : decode cL_isSo 147 = .ok (.iload 9, 2) := by decide +kernel
theorem dL_isSo_149 : decode cL_isSo 149 = .ok (.invokestatic 114, 3) := by decide +kernel
theorem dL_isSo_152 : decode cL_isSo 152 = .ok (.ifCond .lt 25, 3) := by decide +kernel
theorem dL_isSo_155 : decode cL_isSo 155 = .ok (.iload 6, 2) := by decide +kernel
theorem dL_isSo_157 : decode cL_isSo 157 = .ok (.iload 9, 2) := by decide +kernel
theorem dL_isSo_159 : decode cL_isSo 159 = .ok (.invokestatic 114, 3) := by decide +kernel
theorem dL_isSo_162 : decode cL_isSo 162 = .ok (.aload_n 2, 1) := by decide +kernel
theorem dL_isSo_163 : decode cL_isSo 163 = .ok (.aload_n 3, 1) := by decide +kernel
theorem dL_isSo_164 : decode cL_isSo 164 = .ok (.invokestatic 76, 3) := by decide +kernel
theorem dL_isSo_167 : decode cL_isSo 167 = .ok (.ifCond .ge 10, 3) := by decide +kernel
theorem dL_isSo_170 : decode cL_isSo 170 = .ok (.iconst 1, 1) := by decide +kernel
theorem dL_isSo_171 : decode cL_isSo 171 = .ok (.iload 9, 2) := by decide +kernel
theorem dL_isSo_173 : decode cL_isSo 173 = .ok (.ishl, 1) := by decide +kernel
theorem dL_isSo_174 : decode cL_isSo 174 = .ok (.goto 4, 3) := by decide +kernel
theorem dL_isSo_177 : decode cL_isSo 177 = .ok (.iconst 0, 1) := by decide +kernel
theorem dL_isSo_178 : decode cL_isSo 178 = .ok (.ior, 1) := by decide +kernel
theorem dL_isSo_179 : decode cL_isSo 179 = .ok (.istore 8, 2) := by decide +kernel
theorem dL_isSo_181 : decode cL_isSo 181 = .ok (.iinc 9 1, 3) := by decide +kernel
theorem dL_isSo_184 : decode cL_isSo 184 = .ok (.goto (-47), 3) := by decide +kernel
theorem dL_isSo_187 : decode cL_isSo 187 = .ok (.aload_n 0, 1) := by decide +kernel
theorem dL_isSo_188 : decode cL_isSo 188 = .ok (.iconst 0, 1) := by decide +kernel
theorem dL_isSo_189 : decode cL_isSo 189 = .ok (.invokestatic 87, 3) := by decide +kernel
theorem dL_isSo_192 : decode cL_isSo 192 = .ok (.aload_n 2, 1) := by decide +kernel
theorem dL_isSo_193 : decode cL_isSo 193 = .ok (.iconst 5, 1) := by decide +kernel
theorem dL_isSo_194 : decode cL_isSo 194 = .ok (.iaload, 1) := by decide +kernel
theorem dL_isSo_195 : decode cL_isSo 195 = .ok (.if_icmp .ne 160, 3) := by decide +kernel
theorem dL_isSo_198 : decode cL_isSo 198 = .ok (.aload_n 0, 1) := by decide +kernel
theorem dL_isSo_199 : decode cL_isSo 199 = .ok (.iconst 1, 1) := by decide +kernel
theorem dL_isSo_200 : decode cL_isSo 200 = .ok (.invokestatic 87, 3) := by decide +kernel
theorem dL_isSo_203 : decode cL_isSo 203 = .ok (.iload 4, 2) := by decide +kernel
theorem dL_isSo_205 : decode cL_isSo 205 = .ok (.if_icmp .ne 150, 3) := by decide +kernel
theorem dL_isSo_208 : decode cL_isSo 208 = .ok (.aload_n 0, 1) := by decide +kernel
theorem dL_isSo_209 : decode cL_isSo 209 = .ok (.iconst 2, 1) := by decide +kernel
theorem dL_isSo_210 : decode cL_isSo 210 = .ok (.invokestatic 87, 3) := by decide +kernel
theorem dL_isSo_213 : decode cL_isSo 213 = .ok (.aload_n 2, 1) := by decide +kernel
theorem dL_isSo_214 : decode cL_isSo 214 = .ok (.bipush 6, 2) := by decide +kernel
theorem dL_isSo_216 : decode cL_isSo 216 = .ok (.iaload, 1) := by decide +kernel
theorem dL_isSo_217 : decode cL_isSo 217 = .ok (.if_icmp .ne 138, 3) := by decide +kernel
theorem dL_isSo_220 : decode cL_isSo 220 = .ok (.aload_n 0, 1) := by decide +kernel
theorem dL_isSo_221 : decode cL_isSo 221 = .ok (.iconst 3, 1) := by decide +kernel
theorem dL_isSo_222 : decode cL_isSo 222 = .ok (.invokestatic 87, 3) := by decide +kernel
theorem dL_isSo_225 : decode cL_isSo 225 = .ok (.aload_n 2, 1) := by decide +kernel
theorem dL_isSo_226 : decode cL_isSo 226 = .ok (.bipush 7, 2) := by decide +kernel
theorem dL_isSo_228 : decode cL_isSo 228 = .ok (.iaload, 1) := by decide +kernel
theorem dL_isSo_229 : decode cL_isSo 229 = .ok (.if_icmp .ne 126, 3) := by decide +kernel
theorem dL_isSo_232 : decode cL_isSo 232 = .ok (.aload_n 0, 1) := by decide +kernel
theorem dL_isSo_233 : decode cL_isSo 233 = .ok (.iconst 4, 1) := by decide +kernel
theorem dL_isSo_234 : decode cL_isSo 234 = .ok (.invokestatic 87, 3) := by decide +kernel
theorem dL_isSo_237 : decode cL_isSo 237 = .ok (.aload_n 2, 1) := by decide +kernel
theorem dL_isSo_238 : decode cL_isSo 238 = .ok (.bipush 8, 2) := by decide +kernel
theorem dL_isSo_240 : decode cL_isSo 240 = .ok (.iaload, 1) := by decide +kernel
theorem dL_isSo_241 : decode cL_isSo 241 = .ok (.if_icmp .ne 114, 3) := by decide +kernel
theorem dL_isSo_244 : decode cL_isSo 244 = .ok (.aload_n 0, 1) := by decide +kernel
theorem dL_isSo_245 : decode cL_isSo 245 = .ok (.invokevirtual 154, 3) := by decide +kernel
theorem dL_isSo_248 : decode cL_isSo 248 = .ok (.iload 4, 2) := by decide +kernel
theorem dL_isSo_250 : decode cL_isSo 250 = .ok (.i2f, 1) := by decide +kernel
theorem dL_isSo_251 : decode cL_isSo 251 = .ok (.ldc 158, 2) := by decide +kernel
theorem dL_isSo_253 : decode cL_isSo 253 = .ok (.fdiv, 1) := by decide +kernel
theorem dL_isSo_254 : decode cL_isSo 254 = .ok (.fcmp .l, 1) := by decide +kernel
theorem dL_isSo_255 : decode cL_isSo 255 = .ok (.ifCond .ne 100, 3) := by decide +kernel
theorem dL_isSo_258 : decode cL_isSo 258 = .ok (.aload_n 0, 1) := by decide +kernel
theorem dL_isSo_259 : decode cL_isSo 259 = .ok (.invokevirtual 159, 3) := by decide +kernel
theorem dL_isSo_262 : decode cL_isSo 262 = .ok (.iload 5, 2) := by decide +kernel
theorem dL_isSo_264 : decode cL_isSo 264 = .ok (.if_icmp .ne 91, 3) := by decide +kernel
theorem dL_isSo_267 : decode cL_isSo 267 = .ok (.aload_n 0, 1) := by decide +kernel
theorem dL_isSo_268 : decode cL_isSo 268 = .ok (.iload 6, 2) := by decide +kernel
theorem dL_isSo_270 : decode cL_isSo 270 = .ok (.bipush 10, 2) := by decide +kernel
theorem dL_isSo_272 : decode cL_isSo 272 = .ok (.irem, 1) := by decide +kernel
theorem dL_isSo_273 : decode cL_isSo 273 = .ok (.iload 6, 2) := by decide +kernel
theorem dL_isSo_275 : decode cL_isSo 275 = .ok (.bipush 10, 2) := by decide +kernel
theorem dL_isSo_277 : decode cL_isSo 277 = .ok (.idiv, 1) := by decide +kernel
theorem dL_isSo_278 : decode cL_isSo 278 = .ok (.iconst 0, 1) := by decide +kernel
theorem dL_isSo_279 : decode cL_isSo 279 = .ok (.invokestatic 92, 3) := by decide +kernel
theorem dL_isSo_282 : decode cL_isSo 282 = .ok (.iload 7, 2) := by decide +kernel
theorem dL_isSo_284 : decode cL_isSo 284 = .ok (.ifCond .ge 7, 3) := by decide +kernel
theorem dL_isSo_287 : decode cL_isSo 287 = .ok (.iconst (-1), 1) := by decide +kernel
theorem dL_isSo_288 : decode cL_isSo 288 = .ok (.goto 8, 3) := by decide +kernel
theorem dL_isSo_291 : decode cL_isSo 291 = .ok (.iload 7, 2) := by decide +kernel
theorem dL_isSo_293 : decode cL_isSo 293 = .ok (.bipush 100, 2) := by decide +kernel
theorem dL_isSo_295 : decode cL_isSo 295 = .ok (.idiv, 1) := by decide +kernel
theorem dL_isSo_296 : decode cL_isSo 296 = .ok (.if_icmp .ne 59, 3) := by decide +kernel
theorem dL_isSo_299 : decode cL_isSo 299 = .ok (.aload_n 0, 1) := by decide +kernel
theorem dL_isSo_300 : decode cL_isSo 300 = .ok (.iload 6, 2) := by decide +kernel
theorem dL_isSo_302 : decode cL_isSo 302 = .ok (.bipush 10, 2) := by decide +kernel
theorem dL_isSo_304 : decode cL_isSo 304 = .ok (.irem, 1) := by decide +kernel
theorem dL_isSo_305 : decode cL_isSo 305 = .ok (.iload 6, 2) := by decide +kernel
theorem dL_isSo_307 : decode cL_isSo 307 = .ok (.bipush 10, 2) := by decide +kernel
theorem dL_isSo_309 : decode cL_isSo 309 = .ok (.idiv, 1) := by decide +kernel
theorem dL_isSo_310 : decode cL_isSo 310 = .ok (.iconst 1, 1) := by decide +kernel
theorem dL_isSo_311 : decode cL_isSo 311 = .ok (.invokestatic 92, 3) := by decide +kernel
theorem dL_isSo_314 : decode cL_isSo 314 = .ok (.iload 7, 2) := by decide +kernel
theorem dL_isSo_316 : decode cL_isSo 316 = .ok (.ifCond .ge 7, 3) := by decide +kernel
theorem dL_isSo_319 : decode cL_isSo 319 = .ok (.iconst (-1), 1) := by decide +kernel
theorem dL_isSo_320 : decode cL_isSo 320 = .ok (.goto 8, 3) := by decide +kernel
theorem dL_isSo_323 : decode cL_isSo 323 = .ok (.iload 7, 2) := by decide +kernel
theorem dL_isSo_325 : decode cL_isSo 325 = .ok (.bipush 100, 2) := by decide +kernel
theorem dL_isSo_327 : decode cL_isSo 327 = .ok (.irem, 1) := by decide +kernel
theorem dL_isSo_328 : decode cL_isSo 328 = .ok (.if_icmp .ne 27, 3) := by decide +kernel
theorem dL_isSo_331 : decode cL_isSo 331 = .ok (.aload_n 0, 1) := by decide +kernel
theorem dL_isSo_332 : decode cL_isSo 332 = .ok (.iload 6, 2) := by decide +kernel
theorem dL_isSo_334 : decode cL_isSo 334 = .ok (.bipush 10, 2) := by decide +kernel
theorem dL_isSo_336 : decode cL_isSo 336 = .ok (.irem, 1) := by decide +kernel
theorem dL_isSo_337 : decode cL_isSo 337 = .ok (.iload 6, 2) := by decide +kernel
theorem dL_isSo_339 : decode cL_isSo 339 = .ok (.bipush 10, 2) := by decide +kernel
theorem dL_isSo_341 : decode cL_isSo 341 = .ok (.idiv, 1) := by decide +kernel
theorem dL_isSo_342 : decode cL_isSo 342 = .ok (.iconst 2, 1) := by decide +kernel
theorem dL_isSo_343 : decode cL_isSo 343 = .ok (.invokestatic 92, 3) := by decide +kernel
theorem dL_isSo_346 : decode cL_isSo 346 = .ok (.iload 8, 2) := by decide +kernel
theorem dL_isSo_348 : decode cL_isSo 348 = .ok (.if_icmp .ne 7, 3) := by decide +kernel
theorem dL_isSo_351 : decode cL_isSo 351 = .ok (.iconst 1, 1) := by decide +kernel
theorem dL_isSo_352 : decode cL_isSo 352 = .ok (.goto 4, 3) := by decide +kernel
theorem dL_isSo_355 : decode cL_isSo 355 = .ok (.iconst 0, 1) := by decide +kernel
theorem dL_isSo_356 : decode cL_isSo 356 = .ok (.istore 9, 2) := by decide +kernel
theorem dL_isSo_358 : decode cL_isSo 358 = .ok (.iload 9, 2) := by decide +kernel
theorem dL_isSo_360 : decode cL_isSo 360 = .ok (.ifCond .eq 9, 3) := by decide +kernel
theorem dL_isSo_363 : decode cL_isSo 363 = .ok (.aload_n 2, 1) := by decide +kernel
theorem dL_isSo_364 : decode cL_isSo 364 = .ok (.iconst 5, 1) := by decide +kernel
theorem dL_isSo_365 : decode cL_isSo 365 = .ok (.iaload, 1) := by decide +kernel
theorem dL_isSo_366 : decode cL_isSo 366 = .ok (.ifCond .ne 6, 3) := by decide +kernel
theorem dL_isSo_369 : decode cL_isSo 369 = .ok (.iload 9, 2) := by decide +kernel
theorem dL_isSo_371 : decode cL_isSo 371 = .ok (.ireturn, 1) := by decide +kernel
theorem dL_isSo_372 : decode cL_isSo 372 = .ok (.iload_n 1, 1) := by decide +kernel
theorem dL_isSo_373 : decode cL_isSo 373 = .ok (.bipush 7, 2) := by decide +kernel
theorem dL_isSo_375 : decode cL_isSo 375 = .ok (.ishr, 1) := by decide +kernel
theorem dL_isSo_376 : decode cL_isSo 376 = .ok (.aload_n 2, 1) := by decide +kernel
theorem dL_isSo_377 : decode cL_isSo 377 = .ok (.iconst 5, 1) := by decide +kernel
theorem dL_isSo_378 : decode cL_isSo 378 = .ok (.iaload, 1) := by decide +kernel
theorem dL_isSo_379 : decode cL_isSo 379 = .ok (.invokestatic 151, 3) := by decide +kernel
theorem dL_isSo_382 : decode cL_isSo 382 = .ok (.istore 10, 2) := by decide +kernel
theorem dL_isSo_384 : decode cL_isSo 384 = .ok (.iload_n 1, 1) := by decide +kernel
theorem dL_isSo_385 : decode cL_isSo 385 = .ok (.bipush 10, 2) := by decide +kernel
theorem dL_isSo_387 : decode cL_isSo 387 = .ok (.ishr, 1) := by decide +kernel
theorem dL_isSo_388 : decode cL_isSo 388 = .ok (.aload_n 2, 1) := by decide +kernel
theorem dL_isSo_389 : decode cL_isSo 389 = .ok (.iconst 5, 1) := by decide +kernel
theorem dL_isSo_390 : decode cL_isSo 390 = .ok (.iaload, 1) := by decide +kernel
theorem dL_isSo_391 : decode cL_isSo 391 = .ok (.invokestatic 151, 3) := by decide +kernel
theorem dL_isSo_394 : decode cL_isSo 394 = .ok (.istore 11, 2) := by decide +kernel
theorem dL_isSo_396 : decode cL_isSo 396 = .ok (.iload_n 1, 1) := by decide +kernel
theorem dL_isSo_397 : decode cL_isSo 397 = .ok (.bipush 13, 2) := by decide +kernel
theorem dL_isSo_399 : decode cL_isSo 399 = .ok (.ishr, 1) := by decide +kernel
theorem dL_isSo_400 : decode cL_isSo 400 = .ok (.aload_n 2, 1) := by decide +kernel
theorem dL_isSo_401 : decode cL_isSo 401 = .ok (.iload 10, 2) := by decide +kernel
theorem dL_isSo_403 : decode cL_isSo 403 = .ok (.iaload, 1) := by decide +kernel
theorem dL_isSo_404 : decode cL_isSo 404 = .ok (.invokestatic 151, 3) := by decide +kernel
theorem dL_isSo_407 : decode cL_isSo 407 = .ok (.istore 12, 2) := by decide +kernel
theorem dL_isSo_409 : decode cL_isSo 409 = .ok (.iconst 1, 1) := by decide +kernel
theorem dL_isSo_410 : decode cL_isSo 410 = .ok (.iload_n 1, 1) := by decide +kernel
theorem dL_isSo_411 : decode cL_isSo 411 = .ok (.bipush 19, 2) := by decide +kernel
theorem dL_isSo_413 : decode cL_isSo 413 = .ok (.ishr, 1) := by decide +kernel
theorem dL_isSo_414 : decode cL_isSo 414 = .ok (.iconst 3, 1) := by decide +kernel
theorem dL_isSo_415 : decode cL_isSo 415 = .ok (.invokestatic 151, 3) := by decide +kernel
theorem dL_isSo_418 : decode cL_isSo 418 = .ok (.iadd, 1) := by decide +kernel
theorem dL_isSo_419 : decode cL_isSo 419 = .ok (.istore 13, 2) := by decide +kernel
theorem dL_isSo_421 : decode cL_isSo 421 = .ok (.iconst 0, 1) := by decide +kernel
theorem dL_isSo_422 : decode cL_isSo 422 = .ok (.istore 14, 2) := by decide +kernel
theorem dL_isSo_424 : decode cL_isSo 424 = .ok (.iconst 0, 1) := by decide +kernel
theorem dL_isSo_425 : decode cL_isSo 425 = .ok (.istore 15, 2) := by decide +kernel
theorem dL_isSo_427 : decode cL_isSo 427 = .ok (.iload 15, 2) := by decide +kernel
theorem dL_isSo_429 : decode cL_isSo 429 = .ok (.aload_n 2, 1) := by decide +kernel
theorem dL_isSo_430 : decode cL_isSo 430 = .ok (.iload 10, 2) := by decide +kernel
theorem dL_isSo_432 : decode cL_isSo 432 = .ok (.iaload, 1) := by decide +kernel
theorem dL_isSo_433 : decode cL_isSo 433 = .ok (.if_icmp .ge 89, 3) := by decide +kernel
theorem dL_isSo_436 : decode cL_isSo 436 = .ok (.iconst 0, 1) := by decide +kernel
theorem dL_isSo_437 : decode cL_isSo 437 = .ok (.istore 16, 2) := by decide +kernel
theorem dL_isSo_439 : decode cL_isSo 439 = .ok (.iload 16, 2) := by decide +kernel
theorem dL_isSo_441 : decode cL_isSo 441 = .ok (.iconst 4, 1) := by decide +kernel
theorem dL_isSo_442 : decode cL_isSo 442 = .ok (.if_icmp .ge 74, 3) := by decide +kernel
theorem dL_isSo_445 : decode cL_isSo 445 = .ok (.iload 10, 2) := by decide +kernel
theorem dL_isSo_447 : decode cL_isSo 447 = .ok (.iload 15, 2) := by decide +kernel
theorem dL_isSo_449 : decode cL_isSo 449 = .ok (.aload_n 3, 1) := by decide +kernel
theorem dL_isSo_450 : decode cL_isSo 450 = .ok (.invokestatic 70, 3) := by decide +kernel
theorem dL_isSo_453 : decode cL_isSo 453 = .ok (.iload 16, 2) := by decide +kernel
theorem dL_isSo_455 : decode cL_isSo 455 = .ok (.invokestatic 114, 3) := by decide +kernel
theorem dL_isSo_458 : decode cL_isSo 458 = .ok (.ifCond .ge 7, 3) := by decide +kernel
theorem dL_isSo_461 : decode cL_isSo 461 = .ok (.iconst (-1), 1) := by decide +kernel
theorem dL_isSo_462 : decode cL_isSo 462 = .ok (.goto 21, 3) := by decide +kernel
theorem dL_isSo_465 : decode cL_isSo 465 = .ok (.iload 10, 2) := by decide +kernel
theorem dL_isSo_467 : decode cL_isSo 467 = .ok (.iload 15, 2) := by decide +kernel
theorem dL_isSo_469 : decode cL_isSo 469 = .ok (.aload_n 3, 1) := by decide +kernel
theorem dL_isSo_470 : decode cL_isSo 470 = .ok (.invokestatic 70, 3) := by decide +kernel
theorem dL_isSo_473 : decode cL_isSo 473 = .ok (.iload 16, 2) := by decide +kernel
theorem dL_isSo_475 : decode cL_isSo 475 = .ok (.invokestatic 114, 3) := by decide +kernel
theorem dL_isSo_478 : decode cL_isSo 478 = .ok (.aload_n 2, 1) := by decide +kernel
theorem dL_isSo_479 : decode cL_isSo 479 = .ok (.aload_n 3, 1) := by decide +kernel
theorem dL_isSo_480 : decode cL_isSo 480 = .ok (.invokestatic 76, 3) := by decide +kernel
theorem dL_isSo_483 : decode cL_isSo 483 = .ok (.istore 17, 2) := by decide +kernel
theorem dL_isSo_485 : decode cL_isSo 485 = .ok (.iload 14, 2) := by decide +kernel
theorem dL_isSo_487 : decode cL_isSo 487 = .ok (.iload 17, 2) := by decide +kernel
theorem dL_isSo_489 : decode cL_isSo 489 = .ok (.ifCond .lt 17, 3) := by decide +kernel
theorem dL_isSo_492 : decode cL_isSo 492 = .ok (.iload 17, 2) := by decide +kernel
theorem dL_isSo_494 : decode cL_isSo 494 = .ok (.bipush 100, 2) := by decide +kernel
theorem dL_isSo_496 : decode cL_isSo 496 = .ok (.idiv, 1) := by decide +kernel
theorem dL_isSo_497 : decode cL_isSo 497 = .ok (.iload 11, 2) := by decide +kernel
theorem dL_isSo_499 : decode cL_isSo 499 = .ok (.if_icmp .ne 7, 3) := by decide +kernel
theorem dL_isSo_502 : decode cL_isSo 502 = .ok (.iconst 1, 1) := by decide +kernel
theorem dL_isSo_503 : decode cL_isSo 503 = .ok (.goto 4, 3) := by decide +kernel
theorem dL_isSo_506 : decode cL_isSo 506 = .ok (.iconst 0, 1) := by decide +kernel
theorem dL_isSo_507 : decode cL_isSo 507 = .ok (.iadd, 1) := by decide +kernel
theorem dL_isSo_508 : decode cL_isSo 508 = .ok (.istore 14, 2) := by decide +kernel
theorem dL_isSo_510 : decode cL_isSo 510 = .ok (.iinc 16 1, 3) := by decide +kernel
theorem dL_isSo_513 : decode cL_isSo 513 = .ok (.goto (-74), 3) := by decide +kernel
theorem dL_isSo_516 : decode cL_isSo 516 = .ok (.iinc 15 1, 3) := by decide +kernel
theorem dL_isSo_519 : decode cL_isSo 519 = .ok (.goto (-92), 3) := by decide +kernel
theorem dL_isSo_522 : decode cL_isSo 522 = .ok (.aload_n 0, 1) := by decide +kernel
theorem dL_isSo_523 : decode cL_isSo 523 = .ok (.iload 10, 2) := by decide +kernel
theorem dL_isSo_525 : decode cL_isSo 525 = .ok (.aload_n 2, 1) := by decide +kernel
theorem dL_isSo_526 : decode cL_isSo 526 = .ok (.aload_n 3, 1) := by decide +kernel
theorem dL_isSo_527 : decode cL_isSo 527 = .ok (.invokestatic 162, 3) := by decide +kernel
theorem dL_isSo_530 : decode cL_isSo 530 = .ok (.ifCond .eq 69, 3) := by decide +kernel
theorem dL_isSo_533 : decode cL_isSo 533 = .ok (.aload_n 0, 1) := by decide +kernel
theorem dL_isSo_534 : decode cL_isSo 534 = .ok (.iload 10, 2) := by decide +kernel
theorem dL_isSo_536 : decode cL_isSo 536 = .ok (.iload 11, 2) := by decide +kernel
theorem dL_isSo_538 : decode cL_isSo 538 = .ok (.invokestatic 166, 3) := by decide +kernel
theorem dL_isSo_541 : decode cL_isSo 541 = .ok (.iload 10, 2) := by decide +kernel
theorem dL_isSo_543 : decode cL_isSo 543 = .ok (.iload 11, 2) := by decide +kernel
theorem dL_isSo_545 : decode cL_isSo 545 = .ok (.if_icmp .ne 8, 3) := by decide +kernel
theorem dL_isSo_548 : decode cL_isSo 548 = .ok (.bipush (-102), 2) := by decide +kernel
theorem dL_isSo_550 : decode cL_isSo 550 = .ok (.goto 5, 3) := by decide +kernel
theorem dL_isSo_553 : decode cL_isSo 553 = .ok (.iload 14, 2) := by decide +kernel
theorem dL_isSo_555 : decode cL_isSo 555 = .ok (.if_icmp .ne 44, 3) := by decide +kernel
theorem dL_isSo_558 : decode cL_isSo 558 = .ok (.aload_n 0, 1) := by decide +kernel
theorem dL_isSo_559 : decode cL_isSo 559 = .ok (.iload 10, 2) := by decide +kernel
theorem dL_isSo_561 : decode cL_isSo 561 = .ok (.iload 12, 2) := by decide +kernel
theorem dL_isSo_563 : decode cL_isSo 563 = .ok (.iload 13, 2) := by decide +kernel
theorem dL_isSo_565 : decode cL_isSo 565 = .ok (.invokestatic 168, 3) := by decide +kernel
theorem dL_isSo_568 : decode cL_isSo 568 = .ok (.iload 10, 2) := by decide +kernel
theorem dL_isSo_570 : decode cL_isSo 570 = .ok (.iload 12, 2) := by decide +kernel
theorem dL_isSo_572 : decode cL_isSo 572 = .ok (.iload 13, 2) := by decide +kernel
theorem dL_isSo_574 : decode cL_isSo 574 = .ok (.aload_n 2, 1) := by decide +kernel
theorem dL_isSo_575 : decode cL_isSo 575 = .ok (.aload_n 3, 1) := by decide +kernel
theorem dL_isSo_576 : decode cL_isSo 576 = .ok (.invokestatic 125, 3) := by decide +kernel
theorem dL_isSo_579 : decode cL_isSo 579 = .ok (.if_icmp .ne 20, 3) := by decide +kernel
theorem dL_isSo_582 : decode cL_isSo 582 = .ok (.aload_n 0, 1) := by decide +kernel
theorem dL_isSo_583 : decode cL_isSo 583 = .ok (.aload_n 2, 1) := by decide +kernel
theorem dL_isSo_584 : decode cL_isSo 584 = .ok (.iconst 5, 1) := by decide +kernel
theorem dL_isSo_585 : decode cL_isSo 585 = .ok (.iaload, 1) := by decide +kernel
theorem dL_isSo_586 : decode cL_isSo 586 = .ok (.iconst 0, 1) := by decide +kernel
theorem dL_isSo_587 : decode cL_isSo 587 = .ok (.invokestatic 145, 3) := by decide +kernel
theorem dL_isSo_590 : decode cL_isSo 590 = .ok (.bipush (-101), 2) := by decide +kernel
theorem dL_isSo_592 : decode cL_isSo 592 = .ok (.if_icmp .ne 7, 3) := by decide +kernel
theorem dL_isSo_595 : decode cL_isSo 595 = .ok (.iconst 1, 1) := by decide +kernel
theorem dL_isSo_596 : decode cL_isSo 596 = .ok (.goto 4, 3) := by decide +kernel
theorem dL_isSo_599 : decode cL_isSo 599 = .ok (.iconst 0, 1) := by decide +kernel
theorem dL_isSo_600 : decode cL_isSo 600 = .ok (.ireturn, 1) := by decide +kernel
theorem dL_law_0 : decode cL_law 0 = .ok (.new 11, 3) := by decide +kernel
theorem dL_law_3 : decode cL_law 3 = .ok (.dup, 1) := by decide +kernel
theorem dL_law_4 : decode cL_law 4 = .ok (.invokespecial 170, 3) := by decide +kernel
theorem dL_law_7 : decode cL_law 7 = .ok (.astore_n 1, 1) := by decide +kernel
theorem dL_law_8 : decode cL_law 8 = .ok (.bipush 9, 2) := by decide +kernel
theorem dL_law_10 : decode cL_law 10 = .ok (.newarray .int, 2) := by decide +kernel
theorem dL_law_12 : decode cL_law 12 = .ok (.astore_n 2, 1) := by decide +kernel
theorem dL_law_13 : decode cL_law 13 = .ok (.bipush 60, 2) := by decide +kernel
theorem dL_law_15 : decode cL_law 15 = .ok (.newarray .int, 2) := by decide +kernel
theorem dL_law_17 : decode cL_law 17 = .ok (.astore_n 3, 1) := by decide +kernel
theorem dL_law_18 : decode cL_law 18 = .ok (.iconst 0, 1) := by decide +kernel
theorem dL_law_19 : decode cL_law 19 = .ok (.istore 4, 2) := by decide +kernel
theorem dL_law_21 : decode cL_law 21 = .ok (.iload 4, 2) := by decide +kernel
theorem dL_law_23 : decode cL_law 23 = .ok (.bipush 44, 2) := by decide +kernel
theorem dL_law_25 : decode cL_law 25 = .ok (.if_icmp .ge 429, 3) := by decide +kernel
theorem dL_law_28 : decode cL_law 28 = .ok (.aload_n 0, 1) := by decide +kernel
theorem dL_law_29 : decode cL_law 29 = .ok (.iconst 2, 1) := by decide +kernel
theorem dL_law_30 : decode cL_law 30 = .ok (.iload 4, 2) := by decide +kernel
theorem dL_law_32 : decode cL_law 32 = .ok (.imul, 1) := by decide +kernel
theorem dL_law_33 : decode cL_law 33 = .ok (.invokestatic 171, 3) := by decide +kernel
theorem dL_law_36 : decode cL_law 36 = .ok (.istore 5, 2) := by decide +kernel
theorem dL_law_38 : decode cL_law 38 = .ok (.aload_n 0, 1) := by decide +kernel
theorem dL_law_39 : decode cL_law 39 = .ok (.iconst 2, 1) := by decide +kernel
theorem dL_law_40 : decode cL_law 40 = .ok (.iload 4, 2) := by decide +kernel
theorem dL_law_42 : decode cL_law 42 = .ok (.imul, 1) := by decide +kernel
theorem dL_law_43 : decode cL_law 43 = .ok (.iconst 1, 1) := by decide +kernel
theorem dL_law_44 : decode cL_law 44 = .ok (.iadd, 1) := by decide +kernel
theorem dL_law_45 : decode cL_law 45 = .ok (.invokestatic 171, 3) := by decide +kernel
theorem dL_law_48 : decode cL_law 48 = .ok (.istore 6, 2) := by decide +kernel
theorem dL_law_50 : decode cL_law 50 = .ok (.iload 5, 2) := by decide +kernel
theorem dL_law_52 : decode cL_law 52 = .ok (.bipush 22, 2) := by decide +kernel
theorem dL_law_54 : decode cL_law 54 = .ok (.invokestatic 151, 3) := by decide +kernel
theorem dL_law_57 : decode cL_law 57 = .ok (.istore 7, 2) := by decide +kernel
theorem dL_law_59 : decode cL_law 59 = .ok (.iload 4, 2) := by decide +kernel
theorem dL_law_61 : decode cL_law 61 = .ok (.ifCond .eq 8, 3) := by decide +kernel
theorem dL_law_64 : decode cL_law 64 = .ok (.iload 7, 2) := by decide +kernel
theorem dL_law_66 : decode cL_law 66 = .ok (.ifCond .ne 7, 3) := by decide +kernel
theorem dL_law_69 : decode cL_law 69 = .ok (.iconst 0, 1) := by decide +kernel
theorem dL_law_70 : decode cL_law 70 = .ok (.goto 95, 3) := by decide +kernel
theorem dL_law_73 : decode cL_law 73 = .ok (.iload 7, 2) := by decide +kernel
theorem dL_law_75 : decode cL_law 75 = .ok (.bipush 11, 2) := by decide +kernel
theorem dL_law_77 : decode cL_law 77 = .ok (.if_icmp .ge 7, 3) := by decide +kernel
theorem dL_law_80 : decode cL_law 80 = .ok (.iconst 1, 1) := by decide +kernel
theorem dL_law_81 : decode cL_law 81 = .ok (.goto 84, 3) := by decide +kernel
theorem dL_law_84 : decode cL_law 84 = .ok (.iload 7, 2) := by decide +kernel
theorem dL_law_86 : decode cL_law 86 = .ok (.bipush 11, 2) := by decide +kernel
theorem dL_law_88 : decode cL_law 88 = .ok (.if_icmp .ne 7, 3) := by decide +kernel
theorem dL_law_91 : decode cL_law 91 = .ok (.iconst 2, 1) := by decide +kernel
theorem dL_law_92 : decode cL_law 92 = .ok (.goto 73, 3) := by decide +kernel
theorem dL_law_95 : decode cL_law 95 = .ok (.iload 7, 2) := by decide +kernel
theorem dL_law_97 : decode cL_law 97 = .ok (.bipush 15, 2) := by decide +kernel
theorem dL_law_99 : decode cL_law 99 = .ok (.if_icmp .ge 7, 3) := by decide +kernel
theorem dL_law_102 : decode cL_law 102 = .ok (.iconst 3, 1) := by decide +kernel
theorem dL_law_103 : decode cL_law 103 = .ok (.goto 62, 3) := by decide +kernel
theorem dL_law_106 : decode cL_law 106 = .ok (.iload 7, 2) := by decide +kernel
theorem dL_law_108 : decode cL_law 108 = .ok (.bipush 18, 2) := by decide +kernel
theorem dL_law_110 : decode cL_law 110 = .ok (.if_icmp .ge 7, 3) := by decide +kernel
theorem dL_law_113 : decode cL_law 113 = .ok (.iconst 4, 1) := by decide +kernel
theorem dL_law_114 : decode cL_law 114 = .ok (.goto 51, 3) := by decide +kernel
theorem dL_law_117 : decode cL_law 117 = .ok (.iload 7, 2) := by decide +kernel
theorem dL_law_119 : decode cL_law 119 = .ok (.bipush 18, 2) := by decide +kernel
theorem dL_law_121 : decode cL_law 121 = .ok (.if_icmp .ne 7, 3) := by decide +kernel
theorem dL_law_124 : decode cL_law 124 = .ok (.iconst 5, 1) := by decide +kernel
theorem dL_law_125 : decode cL_law 125 = .ok (.goto 40, 3) := by decide +kernel
theorem dL_law_128 : decode cL_law 128 = .ok (.iload 7, 2) := by decide +kernel
theorem dL_law_130 : decode cL_law 130 = .ok (.bipush 19, 2) := by decide +kernel
theorem dL_law_132 : decode cL_law 132 = .ok (.if_icmp .ne 8, 3) := by decide +kernel
theorem dL_law_135 : decode cL_law 135 = .ok (.bipush 6, 2) := by decide +kernel
theorem dL_law_137 : decode cL_law 137 = .ok (.goto 28, 3) := by decide +kernel
theorem dL_law_140 : decode cL_law 140 = .ok (.iload 7, 2) := by decide +kernel
theorem dL_law_142 : decode cL_law 142 = .ok (.bipush 20, 2) := by decide +kernel
theorem dL_law_144 : decode cL_law 144 = .ok (.if_icmp .ne 8, 3) := by decide +kernel
theorem dL_law_147 : decode cL_law 147 = .ok (.bipush 7, 2) := by decide +kernel
theorem dL_law_149 : decode cL_law 149 = .ok (.goto 16, 3) := by decide +kernel
theorem dL_law_152 : decode cL_law 152 = .ok (.iload 4, 2) := by decide +kernel
theorem dL_law_154 : decode cL_law 154 = .ok (.iconst 4, 1) := by decide +kernel
theorem dL_law_155 : decode cL_law 155 = .ok (.irem, 1) := by decide +kernel
theorem dL_law_156 : decode cL_law 156 = .ok (.ifCond .ne 8, 3) := by decide +kernel
theorem dL_law_159 : decode cL_law 159 = .ok (.bipush 8, 2) := by decide +kernel
theorem dL_law_161 : decode cL_law 161 = .ok (.goto 4, 3) := by decide +kernel
theorem dL_law_164 : decode cL_law 164 = .ok (.iconst 1, 1) := by decide +kernel
theorem dL_law_165 : decode cL_law 165 = .ok (.istore 7, 2) := by decide +kernel
theorem dL_law_167 : decode cL_law 167 = .ok (.iload 7, 2) := by decide +kernel
theorem dL_law_169 : decode cL_law 169 = .ok (.ifCond .ne 15, 3) := by decide +kernel
theorem dL_law_172 : decode cL_law 172 = .ok (.iconst 2, 1) := by decide +kernel
theorem dL_law_173 : decode cL_law 173 = .ok (.iload 6, 2) := by decide +kernel
theorem dL_law_175 : decode cL_law 175 = .ok (.bipush 6, 2) := by decide +kernel
theorem dL_law_177 : decode cL_law 177 = .ok (.invokestatic 151, 3) := by decide +kernel
theorem dL_law_180 : decode cL_law 180 = .ok (.iadd, 1) := by decide +kernel
theorem dL_law_181 : decode cL_law 181 = .ok (.goto 42, 3) := by decide +kernel
theorem dL_law_184 : decode cL_law 184 = .ok (.iload 6, 2) := by decide +kernel
theorem dL_law_186 : decode cL_law 186 = .ok (.iload 6, 2) := by decide +kernel
theorem dL_law_188 : decode cL_law 188 = .ok (.bipush 20, 2) := by decide +kernel
theorem dL_law_190 : decode cL_law 190 = .ok (.ishr, 1) := by decide +kernel
theorem dL_law_191 : decode cL_law 191 = .ok (.bipush 9, 2) := by decide +kernel
theorem dL_law_193 : decode cL_law 193 = .ok (.invokestatic 151, 3) := by decide +kernel
theorem dL_law_196 : decode cL_law 196 = .ok (.ifCond .ne 11, 3) := by decide +kernel
theorem dL_law_199 : decode cL_law 199 = .ok (.aload_n 2, 1) := by decide +kernel
theorem dL_law_200 : decode cL_law 200 = .ok (.iconst 5, 1) := by decide +kernel
theorem dL_law_201 : decode cL_law 201 = .ok (.iaload, 1) := by decide +kernel
theorem dL_law_202 : decode cL_law 202 = .ok (.iconst 1, 1) := by decide +kernel
theorem dL_law_203 : decode cL_law 203 = .ok (.iadd, 1) := by decide +kernel
theorem dL_law_204 : decode cL_law 204 = .ok (.goto 16, 3) := by decide +kernel
theorem dL_law_207 : decode cL_law 207 = .ok (.aload_n 2, 1) := by decide +kernel
theorem dL_law_208 : decode cL_law 208 = .ok (.iconst 5, 1) := by decide +kernel
theorem dL_law_209 : decode cL_law 209 = .ok (.iaload, 1) := by decide +kernel
theorem dL_law_210 : decode cL_law 210 = .ok (.ifCond .ne 7, 3) := by decide +kernel
theorem dL_law_213 : decode cL_law 213 = .ok (.iconst 1, 1) := by decide +kernel
theorem dL_law_214 : decode cL_law 214 = .ok (.goto 6, 3) := by decide +kernel
theorem dL_law_217 : decode cL_law 217 = .ok (.aload_n 2, 1) := by decide +kernel
theorem dL_law_218 : decode cL_law 218 = .ok (.iconst 5, 1) := by decide +kernel
theorem dL_law_219 : decode cL_law 219 = .ok (.iaload, 1) := by decide +kernel
theorem dL_law_220 : decode cL_law 220 = .ok (.invokestatic 151, 3) := by decide +kernel
theorem dL_law_223 : decode cL_law 223 = .ok (.istore 8, 2) := by decide +kernel
theorem dL_law_225 : decode cL_law 225 = .ok (.iload 7, 2) := by decide +kernel
theorem dL_law_227 : decode cL_law 227 = .ok (.ifCond .ne 17, 3) := by decide +kernel
theorem dL_law_230 : decode cL_law 230 = .ok (.iconst 2, 1) := by decide +kernel
theorem dL_law_231 : decode cL_law 231 = .ok (.iload 6, 2) := by decide +kernel
theorem dL_law_233 : decode cL_law 233 = .ok (.iconst 3, 1) := by decide +kernel
theorem dL_law_234 : decode cL_law 234 = .ok (.ishr, 1) := by decide +kernel
theorem dL_law_235 : decode cL_law 235 = .ok (.bipush 6, 2) := by decide +kernel
theorem dL_law_237 : decode cL_law 237 = .ok (.invokestatic 151, 3) := by decide +kernel
theorem dL_law_240 : decode cL_law 240 = .ok (.iadd, 1) := by decide +kernel
theorem dL_law_241 : decode cL_law 241 = .ok (.goto 73, 3) := by decide +kernel
theorem dL_law_244 : decode cL_law 244 = .ok (.iload 7, 2) := by decide +kernel
theorem dL_law_246 : decode cL_law 246 = .ok (.iconst 1, 1) := by decide +kernel
theorem dL_law_247 : decode cL_law 247 = .ok (.if_icmp .eq 9, 3) := by decide +kernel
theorem dL_law_250 : decode cL_law 250 = .ok (.iload 7, 2) := by decide +kernel
theorem dL_law_252 : decode cL_law 252 = .ok (.iconst 3, 1) := by decide +kernel
theorem dL_law_253 : decode cL_law 253 = .ok (.if_icmp .ne 14, 3) := by decide +kernel
theorem dL_law_256 : decode cL_law 256 = .ok (.iload 6, 2) := by decide +kernel
theorem dL_law_258 : decode cL_law 258 = .ok (.iconst 3, 1) := by decide +kernel
theorem dL_law_259 : decode cL_law 259 = .ok (.ishr, 1) := by decide +kernel
theorem dL_law_260 : decode cL_law 260 = .ok (.iconst 4, 1) := by decide +kernel
theorem dL_law_261 : decode cL_law 261 = .ok (.invokestatic 151, 3) := by decide +kernel
theorem dL_law_264 : decode cL_law 264 = .ok (.goto 50, 3) := by decide +kernel
theorem dL_law_267 : decode cL_law 267 = .ok (.iload 7, 2) := by decide +kernel
theorem dL_law_269 : decode cL_law 269 = .ok (.bipush 6, 2) := by decide +kernel
theorem dL_law_271 : decode cL_law 271 = .ok (.if_icmp .ne 18, 3) := by decide +kernel
theorem dL_law_274 : decode cL_law 274 = .ok (.iload 6, 2) := by decide +kernel
theorem dL_law_276 : decode cL_law 276 = .ok (.iconst 3, 1) := by decide +kernel
theorem dL_law_277 : decode cL_law 277 = .ok (.ishr, 1) := by decide +kernel
theorem dL_law_278 : decode cL_law 278 = .ok (.aload_n 2, 1) := by decide +kernel
theorem dL_law_279 : decode cL_law 279 = .ok (.iconst 5, 1) := by decide +kernel
theorem dL_law_280 : decode cL_law 280 = .ok (.iaload, 1) := by decide +kernel
theorem dL_law_281 : decode cL_law 281 = .ok (.iconst 1, 1) := by decide +kernel
theorem dL_law_282 : decode cL_law 282 = .ok (.iadd, 1) := by decide +kernel
theorem dL_law_283 : decode cL_law 283 = .ok (.invokestatic 151, 3) := by decide +kernel
theorem dL_law_286 : decode cL_law 286 = .ok (.goto 28, 3) := by decide +kernel
theorem dL_law_289 : decode cL_law 289 = .ok (.iload 6, 2) := by decide +kernel
theorem dL_law_291 : decode cL_law 291 = .ok (.iconst 3, 1) := by decide +kernel
theorem dL_law_292 : decode cL_law 292 = .ok (.ishr, 1) := by decide +kernel
theorem dL_law_293 : decode cL_law 293 = .ok (.iconst 1, 1) := by decide +kernel
theorem dL_law_294 : decode cL_law 294 = .ok (.iload 8, 2) := by decide +kernel
theorem dL_law_296 : decode cL_law 296 = .ok (.aload_n 2, 1) := by decide +kernel
theorem dL_law_297 : decode cL_law 297 = .ok (.iconst 5, 1) := by decide +kernel
theorem dL_law_298 : decode cL_law 298 = .ok (.iaload, 1) := by decide +kernel
theorem dL_law_299 : decode cL_law 299 = .ok (.if_icmp .ge 10, 3) := by decide +kernel
theorem dL_law_302 : decode cL_law 302 = .ok (.aload_n 2, 1) := by decide +kernel
theorem dL_law_303 : decode cL_law 303 = .ok (.iload 8, 2) := by decide +kernel
theorem dL_law_305 : decode cL_law 305 = .ok (.iaload, 1) := by decide +kernel
theorem dL_law_306 : decode cL_law 306 = .ok (.goto 4, 3) := by decide +kernel
theorem dL_law_309 : decode cL_law 309 = .ok (.iconst 3, 1) := by decide +kernel
theorem dL_law_310 : decode cL_law 310 = .ok (.iadd, 1) := by decide +kernel
theorem dL_law_311 : decode cL_law 311 = .ok (.invokestatic 151, 3) := by decide +kernel
theorem dL_law_314 : decode cL_law 314 = .ok (.istore 9, 2) := by decide +kernel
theorem dL_law_316 : decode cL_law 316 = .ok (.iconst 1, 1) := by decide +kernel
theorem dL_law_317 : decode cL_law 317 = .ok (.iload 6, 2) := by decide +kernel
theorem dL_law_319 : decode cL_law 319 = .ok (.bipush 9, 2) := by decide +kernel
theorem dL_law_321 : decode cL_law 321 = .ok (.ishr, 1) := by decide +kernel
theorem dL_law_322 : decode cL_law 322 = .ok (.iconst 3, 1) := by decide +kernel
theorem dL_law_323 : decode cL_law 323 = .ok (.invokestatic 151, 3) := by decide +kernel
theorem dL_law_326 : decode cL_law 326 = .ok (.iadd, 1) := by decide +kernel
theorem dL_law_327 : decode cL_law 327 = .ok (.istore 10, 2) := by decide +kernel
theorem dL_law_329 : decode cL_law 329 = .ok (.aload_n 1, 1) := by decide +kernel
theorem dL_law_330 : decode cL_law 330 = .ok (.invokestatic 175, 3) := by decide +kernel
theorem dL_law_333 : decode cL_law 333 = .ok (.lstore 11, 2) := by decide +kernel
theorem dL_law_335 : decode cL_law 335 = .ok (.aload_n 1, 1) := by decide +kernel
theorem dL_law_336 : decode cL_law 336 = .ok (.iload 7, 2) := by decide +kernel
theorem dL_law_338 : decode cL_law 338 = .ok (.iload 8, 2) := by decide +kernel
theorem dL_law_340 : decode cL_law 340 = .ok (.iload 9, 2) := by decide +kernel
theorem dL_law_342 : decode cL_law 342 = .ok (.iload 10, 2) := by decide +kernel
theorem dL_law_344 : decode cL_law 344 = .ok (.invokestatic 179, 3) := by decide +kernel
theorem dL_law_347 : decode cL_law 347 = .ok (.istore 13, 2) := by decide +kernel
theorem dL_law_349 : decode cL_law 349 = .ok (.iload 13, 2) := by decide +kernel
theorem dL_law_351 : decode cL_law 351 = .ok (.bipush (-100), 2) := by decide +kernel
theorem dL_law_353 : decode cL_law 353 = .ok (.if_icmp .ge 16, 3) := by decide +kernel
theorem dL_law_356 : decode cL_law 356 = .ok (.aload_n 1, 1) := by decide +kernel
theorem dL_law_357 : decode cL_law 357 = .ok (.invokestatic 175, 3) := by decide +kernel
theorem dL_law_360 : decode cL_law 360 = .ok (.lload 11, 2) := by decide +kernel
theorem dL_law_362 : decode cL_law 362 = .ok (.lcmp, 1) := by decide +kernel
theorem dL_law_363 : decode cL_law 363 = .ok (.ifCond .eq 52, 3) := by decide +kernel
theorem dL_law_366 : decode cL_law 366 = .ok (.goto 47, 3) := by decide +kernel
theorem dL_law_369 : decode cL_law 369 = .ok (.iload 5, 2) := by decide +kernel
theorem dL_law_371 : decode cL_law 371 = .ok (.bipush 24, 2) := by decide +kernel
theorem dL_law_373 : decode cL_law 373 = .ok (.ishr, 1) := by decide +kernel
theorem dL_law_374 : decode cL_law 374 = .ok (.iconst 3, 1) := by decide +kernel
theorem dL_law_375 : decode cL_law 375 = .ok (.iand, 1) := by decide +kernel
theorem dL_law_376 : decode cL_law 376 = .ok (.ifCond .ne 39, 3) := by decide +kernel
theorem dL_law_379 : decode cL_law 379 = .ok (.aload_n 1, 1) := by decide +kernel
theorem dL_law_380 : decode cL_law 380 = .ok (.invokestatic 183, 3) := by decide +kernel
theorem dL_law_383 : decode cL_law 383 = .ok (.ifCond .lt 30, 3) := by decide +kernel
theorem dL_law_386 : decode cL_law 386 = .ok (.aload_n 1, 1) := by decide +kernel
theorem dL_law_387 : decode cL_law 387 = .ok (.invokestatic 175, 3) := by decide +kernel
theorem dL_law_390 : decode cL_law 390 = .ok (.lload 11, 2) := by decide +kernel
theorem dL_law_392 : decode cL_law 392 = .ok (.lcmp, 1) := by decide +kernel
theorem dL_law_393 : decode cL_law 393 = .ok (.ifCond .ne 20, 3) := by decide +kernel
theorem dL_law_396 : decode cL_law 396 = .ok (.aload_n 1, 1) := by decide +kernel
theorem dL_law_397 : decode cL_law 397 = .ok (.iload 7, 2) := by decide +kernel
theorem dL_law_399 : decode cL_law 399 = .ok (.iload 8, 2) := by decide +kernel
theorem dL_law_401 : decode cL_law 401 = .ok (.iload 9, 2) := by decide +kernel
theorem dL_law_403 : decode cL_law 403 = .ok (.iload 10, 2) := by decide +kernel
theorem dL_law_405 : decode cL_law 405 = .ok (.invokestatic 179, 3) := by decide +kernel
theorem dL_law_408 : decode cL_law 408 = .ok (.iload 13, 2) := by decide +kernel
theorem dL_law_410 : decode cL_law 410 = .ok (.if_icmp .eq 5, 3) := by decide +kernel
theorem dL_law_413 : decode cL_law 413 = .ok (.iconst 0, 1) := by decide +kernel
theorem dL_law_414 : decode cL_law 414 = .ok (.ireturn, 1) := by decide +kernel
theorem dL_law_415 : decode cL_law 415 = .ok (.iload 13, 2) := by decide +kernel
theorem dL_law_417 : decode cL_law 417 = .ok (.iload 7, 2) := by decide +kernel
theorem dL_law_419 : decode cL_law 419 = .ok (.iload 8, 2) := by decide +kernel
theorem dL_law_421 : decode cL_law 421 = .ok (.iload 9, 2) := by decide +kernel
theorem dL_law_423 : decode cL_law 423 = .ok (.iload 10, 2) := by decide +kernel
theorem dL_law_425 : decode cL_law 425 = .ok (.aload_n 2, 1) := by decide +kernel
theorem dL_law_426 : decode cL_law 426 = .ok (.aload_n 3, 1) := by decide +kernel
theorem dL_law_427 : decode cL_law 427 = .ok (.invokestatic 186, 3) := by decide +kernel
theorem dL_law_430 : decode cL_law 430 = .ok (.if_icmp .ne 16, 3) := by decide +kernel
theorem dL_law_433 : decode cL_law 433 = .ok (.aload_n 1, 1) := by decide +kernel
theorem dL_law_434 : decode cL_law 434 = .ok (.iload 5, 2) := by decide +kernel
theorem dL_law_436 : decode cL_law 436 = .ok (.iconst 5, 1) := by decide +kernel
theorem dL_law_437 : decode cL_law 437 = .ok (.ishr, 1) := by decide +kernel
theorem dL_law_438 : decode cL_law 438 = .ok (.aload_n 2, 1) := by decide +kernel
theorem dL_law_439 : decode cL_law 439 = .ok (.aload_n 3, 1) := by decide +kernel
theorem dL_law_440 : decode cL_law 440 = .ok (.invokestatic 190, 3) := by decide +kernel
theorem dL_law_443 : decode cL_law 443 = .ok (.ifCond .ne 5, 3) := by decide +kernel
theorem dL_law_446 : decode cL_law 446 = .ok (.iconst 0, 1) := by decide +kernel
theorem dL_law_447 : decode cL_law 447 = .ok (.ireturn, 1) := by decide +kernel
theorem dL_law_448 : decode cL_law 448 = .ok (.iinc 4 1, 3) := by decide +kernel
theorem dL_law_451 : decode cL_law 451 = .ok (.goto (-430), 3) := by decide +kernel
theorem dL_law_454 : decode cL_law 454 = .ok (.iconst 1, 1) := by decide +kernel
theorem dL_law_455 : decode cL_law 455 = .ok (.ireturn, 1) := by decide +kernel
