theorem dX0_init_0 : decode cX0_init 0 = .ok (.aload_n 0, 1) := by decide +kernel
theorem dX0_init_1 : decode cX0_init 1 = .ok (.invokespecial 3, 3) := by decide +kernel
theorem dX0_init_4 : decode cX0_init 4 = .ok (.aload_n 0, 1) := by decide +kernel
theorem dX0_init_5 : decode cX0_init 5 = .ok (.iconst 5, 1) := by decide +kernel
theorem dX0_init_6 : decode cX0_init 6 = .ok (.anewarray 9, 3) := by decide +kernel
theorem dX0_init_9 : decode cX0_init 9 = .ok (.putfield 11, 3) := by decide +kernel
theorem dX0_init_12 : decode cX0_init 12 = .ok (.aload_n 0, 1) := by decide +kernel
theorem dX0_init_13 : decode cX0_init 13 = .ok (.bipush 100, 2) := by decide +kernel
theorem dX0_init_15 : decode cX0_init 15 = .ok (.newarray .int, 2) := by decide +kernel
theorem dX0_init_17 : decode cX0_init 17 = .ok (.putfield 17, 3) := by decide +kernel
theorem dX0_init_20 : decode cX0_init 20 = .ok (.aload_n 0, 1) := by decide +kernel
theorem dX0_init_21 : decode cX0_init 21 = .ok (.bipush 100, 2) := by decide +kernel
theorem dX0_init_23 : decode cX0_init 23 = .ok (.newarray .int, 2) := by decide +kernel
theorem dX0_init_25 : decode cX0_init 25 = .ok (.putfield 21, 3) := by decide +kernel
theorem dX0_init_28 : decode cX0_init 28 = .ok (.iconst 0, 1) := by decide +kernel
theorem dX0_init_29 : decode cX0_init 29 = .ok (.istore_n 1, 1) := by decide +kernel
theorem dX0_init_30 : decode cX0_init 30 = .ok (.iload_n 1, 1) := by decide +kernel
theorem dX0_init_31 : decode cX0_init 31 = .ok (.iconst 5, 1) := by decide +kernel
theorem dX0_init_32 : decode cX0_init 32 = .ok (.if_icmp .ge 22, 3) := by decide +kernel
theorem dX0_init_35 : decode cX0_init 35 = .ok (.aload_n 0, 1) := by decide +kernel
theorem dX0_init_36 : decode cX0_init 36 = .ok (.getfield 11, 3) := by decide +kernel
theorem dX0_init_39 : decode cX0_init 39 = .ok (.iload_n 1, 1) := by decide +kernel
theorem dX0_init_40 : decode cX0_init 40 = .ok (.new 9, 3) := by decide +kernel
theorem dX0_init_43 : decode cX0_init 43 = .ok (.dup, 1) := by decide +kernel
theorem dX0_init_44 : decode cX0_init 44 = .ok (.invokespecial 24, 3) := by decide +kernel
theorem dX0_init_47 : decode cX0_init 47 = .ok (.aastore, 1) := by decide +kernel
theorem dX0_init_48 : decode cX0_init 48 = .ok (.iinc 1 1, 3) := by decide +kernel
theorem dX0_init_51 : decode cX0_init 51 = .ok (.goto (-21), 3) := by decide +kernel
theorem dX0_init_54 : decode cX0_init 54 = .ok (.aload_n 0, 1) := by decide +kernel
theorem dX0_init_55 : decode cX0_init 55 = .ok (.getfield 17, 3) := by decide +kernel
theorem dX0_init_58 : decode cX0_init 58 = .ok (.iconst (-1), 1) := by decide +kernel
theorem dX0_init_59 : decode cX0_init 59 = .ok (.invokestatic 25, 3) := by decide +kernel
theorem dX0_init_62 : decode cX0_init 62 = .ok (.aload_n 0, 1) := by decide +kernel
theorem dX0_init_63 : decode cX0_init 63 = .ok (.getfield 21, 3) := by decide +kernel
theorem dX0_init_66 : decode cX0_init 66 = .ok (.iconst (-1), 1) := by decide +kernel
theorem dX0_init_67 : decode cX0_init 67 = .ok (.invokestatic 25, 3) := by decide +kernel
theorem dX0_init_70 : decode cX0_init 70 = .ok (.return_, 1) := by decide +kernel
theorem dX0_markSites_0 : decode cX0_markSites 0 = .ok (.aload_n 0, 1) := by decide +kernel
theorem dX0_markSites_1 : decode cX0_markSites 1 = .ok (.getfield 17, 3) := by decide +kernel
theorem dX0_markSites_4 : decode cX0_markSites 4 = .ok (.iconst (-1), 1) := by decide +kernel
theorem dX0_markSites_5 : decode cX0_markSites 5 = .ok (.invokestatic 25, 3) := by decide +kernel
theorem dX0_markSites_8 : decode cX0_markSites 8 = .ok (.aload_n 0, 1) := by decide +kernel
theorem dX0_markSites_9 : decode cX0_markSites 9 = .ok (.getfield 21, 3) := by decide +kernel
theorem dX0_markSites_12 : decode cX0_markSites 12 = .ok (.iconst (-1), 1) := by decide +kernel
theorem dX0_markSites_13 : decode cX0_markSites 13 = .ok (.invokestatic 25, 3) := by decide +kernel
theorem dX0_markSites_16 : decode cX0_markSites 16 = .ok (.aload_n 0, 1) := by decide +kernel
theorem dX0_markSites_17 : decode cX0_markSites 17 = .ok (.iconst 0, 1) := by decide +kernel
theorem dX0_markSites_18 : decode cX0_markSites 18 = .ok (.putfield 31, 3) := by decide +kernel
theorem dX0_markSites_21 : decode cX0_markSites 21 = .ok (.iconst 0, 1) := by decide +kernel
theorem dX0_markSites_22 : decode cX0_markSites 22 = .ok (.istore_n 1, 1) := by decide +kernel
theorem dX0_markSites_23 : decode cX0_markSites 23 = .ok (.iload_n 1, 1) := by decide +kernel
theorem dX0_markSites_24 : decode cX0_markSites 24 = .ok (.aload_n 0, 1) := by decide +kernel
theorem dX0_markSites_25 : decode cX0_markSites 25 = .ok (.getfield 35, 3) := by decide +kernel
theorem dX0_markSites_28 : decode cX0_markSites 28 = .ok (.if_icmp .ge 56, 3) := by decide +kernel
theorem dX0_markSites_31 : decode cX0_markSites 31 = .ok (.aload_n 0, 1) := by decide +kernel
theorem dX0_markSites_32 : decode cX0_markSites 32 = .ok (.getfield 11, 3) := by decide +kernel
theorem dX0_markSites_35 : decode cX0_markSites 35 = .ok (.iload_n 1, 1) := by decide +kernel
theorem dX0_markSites_36 : decode cX0_markSites 36 = .ok (.aaload, 1) := by decide +kernel
theorem dX0_markSites_37 : decode cX0_markSites 37 = .ok (.astore_n 2, 1) := by decide +kernel
theorem dX0_markSites_38 : decode cX0_markSites 38 = .ok (.iconst 0, 1) := by decide +kernel
theorem dX0_markSites_39 : decode cX0_markSites 39 = .ok (.istore_n 3, 1) := by decide +kernel
theorem dX0_markSites_40 : decode cX0_markSites 40 = .ok (.iload_n 3, 1) := by decide +kernel
theorem dX0_markSites_41 : decode cX0_markSites 41 = .ok (.aload_n 2, 1) := by decide +kernel
theorem dX0_markSites_42 : decode cX0_markSites 42 = .ok (.invokevirtual 38, 3) := by decide +kernel
theorem dX0_markSites_45 : decode cX0_markSites 45 = .ok (.if_icmp .ge 20, 3) := by decide +kernel
theorem dX0_markSites_48 : decode cX0_markSites 48 = .ok (.aload_n 0, 1) := by decide +kernel
theorem dX0_markSites_49 : decode cX0_markSites 49 = .ok (.aload_n 2, 1) := by decide +kernel
theorem dX0_markSites_50 : decode cX0_markSites 50 = .ok (.iload_n 3, 1) := by decide +kernel
theorem dX0_markSites_51 : decode cX0_markSites 51 = .ok (.invokevirtual 42, 3) := by decide +kernel
theorem dX0_markSites_54 : decode cX0_markSites 54 = .ok (.iload_n 1, 1) := by decide +kernel
theorem dX0_markSites_55 : decode cX0_markSites 55 = .ok (.iload_n 3, 1) := by decide +kernel
theorem dX0_markSites_56 : decode cX0_markSites 56 = .ok (.invokevirtual 46, 3) := by decide +kernel
theorem dX0_markSites_59 : decode cX0_markSites 59 = .ok (.iinc 3 1, 3) := by decide +kernel
theorem dX0_markSites_62 : decode cX0_markSites 62 = .ok (.goto (-22), 3) := by decide +kernel
theorem dX0_markSites_65 : decode cX0_markSites 65 = .ok (.aload_n 0, 1) := by decide +kernel
theorem dX0_markSites_66 : decode cX0_markSites 66 = .ok (.dup, 1) := by decide +kernel
theorem dX0_markSites_67 : decode cX0_markSites 67 = .ok (.getfield 31, 3) := by decide +kernel
theorem dX0_markSites_70 : decode cX0_markSites 70 = .ok (.aload_n 2, 1) := by decide +kernel
theorem dX0_markSites_71 : decode cX0_markSites 71 = .ok (.invokevirtual 38, 3) := by decide +kernel
theorem dX0_markSites_74 : decode cX0_markSites 74 = .ok (.iadd, 1) := by decide +kernel
theorem dX0_markSites_75 : decode cX0_markSites 75 = .ok (.putfield 31, 3) := by decide +kernel
theorem dX0_markSites_78 : decode cX0_markSites 78 = .ok (.iinc 1 1, 3) := by decide +kernel
theorem dX0_markSites_81 : decode cX0_markSites 81 = .ok (.goto (-58), 3) := by decide +kernel
theorem dX0_markSites_84 : decode cX0_markSites 84 = .ok (.return_, 1) := by decide +kernel
theorem dX0_mark_0 : decode cX0_mark 0 = .ok (.iload_n 1, 1) := by decide +kernel
theorem dX0_mark_1 : decode cX0_mark 1 = .ok (.invokestatic 50, 3) := by decide +kernel
theorem dX0_mark_4 : decode cX0_mark 4 = .ok (.ifCond .eq 17, 3) := by decide +kernel
theorem dX0_mark_7 : decode cX0_mark 7 = .ok (.aload_n 0, 1) := by decide +kernel
theorem dX0_mark_8 : decode cX0_mark 8 = .ok (.getfield 17, 3) := by decide +kernel
theorem dX0_mark_11 : decode cX0_mark 11 = .ok (.iload_n 1, 1) := by decide +kernel
theorem dX0_mark_12 : decode cX0_mark 12 = .ok (.iload_n 2, 1) := by decide +kernel
theorem dX0_mark_13 : decode cX0_mark 13 = .ok (.iastore, 1) := by decide +kernel
theorem dX0_mark_14 : decode cX0_mark 14 = .ok (.aload_n 0, 1) := by decide +kernel
theorem dX0_mark_15 : decode cX0_mark 15 = .ok (.getfield 21, 3) := by decide +kernel
theorem dX0_mark_18 : decode cX0_mark 18 = .ok (.iload_n 1, 1) := by decide +kernel
theorem dX0_mark_19 : decode cX0_mark 19 = .ok (.iload_n 3, 1) := by decide +kernel
theorem dX0_mark_20 : decode cX0_mark 20 = .ok (.iastore, 1) := by decide +kernel
theorem dX0_mark_21 : decode cX0_mark 21 = .ok (.return_, 1) := by decide +kernel
theorem dX0_pathCount_0 : decode cX0_pathCount 0 = .ok (.aload_n 0, 1) := by decide +kernel
theorem dX0_pathCount_1 : decode cX0_pathCount 1 = .ok (.getfield 35, 3) := by decide +kernel
theorem dX0_pathCount_4 : decode cX0_pathCount 4 = .ok (.ireturn, 1) := by decide +kernel
theorem dX0_isFull_0 : decode cX0_isFull 0 = .ok (.aload_n 0, 1) := by decide +kernel
theorem dX0_isFull_1 : decode cX0_isFull 1 = .ok (.getfield 35, 3) := by decide +kernel
theorem dX0_isFull_4 : decode cX0_isFull 4 = .ok (.iconst 5, 1) := by decide +kernel
theorem dX0_isFull_5 : decode cX0_isFull 5 = .ok (.if_icmp .lt 7, 3) := by decide +kernel
theorem dX0_isFull_8 : decode cX0_isFull 8 = .ok (.iconst 1, 1) := by decide +kernel
theorem dX0_isFull_9 : decode cX0_isFull 9 = .ok (.goto 4, 3) := by decide +kernel
theorem dX0_isFull_12 : decode cX0_isFull 12 = .ok (.iconst 0, 1) := by decide +kernel
theorem dX0_isFull_13 : decode cX0_isFull 13 = .ok (.ireturn, 1) := by decide +kernel
theorem dX0_trail_0 : decode cX0_trail 0 = .ok (.aload_n 0, 1) := by decide +kernel
theorem dX0_trail_1 : decode cX0_trail 1 = .ok (.getfield 11, 3) := by decide +kernel
theorem dX0_trail_4 : decode cX0_trail 4 = .ok (.iload_n 1, 1) := by decide +kernel
theorem dX0_trail_5 : decode cX0_trail 5 = .ok (.aaload, 1) := by decide +kernel
theorem dX0_trail_6 : decode cX0_trail 6 = .ok (.areturn, 1) := by decide +kernel
theorem dX0_pathAt_0 : decode cX0_pathAt 0 = .ok (.iload_n 1, 1) := by decide +kernel
theorem dX0_pathAt_1 : decode cX0_pathAt 1 = .ok (.invokestatic 50, 3) := by decide +kernel
theorem dX0_pathAt_4 : decode cX0_pathAt 4 = .ok (.ifCond .eq 12, 3) := by decide +kernel
theorem dX0_pathAt_7 : decode cX0_pathAt 7 = .ok (.aload_n 0, 1) := by decide +kernel
theorem dX0_pathAt_8 : decode cX0_pathAt 8 = .ok (.getfield 17, 3) := by decide +kernel
theorem dX0_pathAt_11 : decode cX0_pathAt 11 = .ok (.iload_n 1, 1) := by decide +kernel
theorem dX0_pathAt_12 : decode cX0_pathAt 12 = .ok (.iaload, 1) := by decide +kernel
theorem dX0_pathAt_13 : decode cX0_pathAt 13 = .ok (.goto 4, 3) := by decide +kernel
theorem dX0_pathAt_16 : decode cX0_pathAt 16 = .ok (.iconst (-1), 1) := by decide +kernel
theorem dX0_pathAt_17 : decode cX0_pathAt 17 = .ok (.ireturn, 1) := by decide +kernel
theorem dX0_placeAt_0 : decode cX0_placeAt 0 = .ok (.iload_n 1, 1) := by decide +kernel
theorem dX0_placeAt_1 : decode cX0_placeAt 1 = .ok (.invokestatic 50, 3) := by decide +kernel
theorem dX0_placeAt_4 : decode cX0_placeAt 4 = .ok (.ifCond .eq 12, 3) := by decide +kernel
theorem dX0_placeAt_7 : decode cX0_placeAt 7 = .ok (.aload_n 0, 1) := by decide +kernel
theorem dX0_placeAt_8 : decode cX0_placeAt 8 = .ok (.getfield 21, 3) := by decide +kernel
theorem dX0_placeAt_11 : decode cX0_placeAt 11 = .ok (.iload_n 1, 1) := by decide +kernel
theorem dX0_placeAt_12 : decode cX0_placeAt 12 = .ok (.iaload, 1) := by decide +kernel
theorem dX0_placeAt_13 : decode cX0_placeAt 13 = .ok (.goto 4, 3) := by decide +kernel
theorem dX0_placeAt_16 : decode cX0_placeAt 16 = .ok (.iconst (-1), 1) := by decide +kernel
theorem dX0_placeAt_17 : decode cX0_placeAt 17 = .ok (.ireturn, 1) := by decide +kernel
theorem dX0_isFree_0 : decode cX0_isFree 0 = .ok (.iload_n 1, 1) := by decide +kernel
theorem dX0_isFree_1 : decode cX0_isFree 1 = .ok (.invokestatic 50, 3) := by decide +kernel
theorem dX0_isFree_4 : decode cX0_isFree 4 = .ok (.ifCond .eq 17, 3) := by decide +kernel
theorem dX0_isFree_7 : decode cX0_isFree 7 = .ok (.aload_n 0, 1) := by decide +kernel
theorem dX0_isFree_8 : decode cX0_isFree 8 = .ok (.getfield 17, 3) := by decide +kernel
theorem dX0_isFree_11 : decode cX0_isFree 11 = .ok (.iload_n 1, 1) := by decide +kernel
theorem dX0_isFree_12 : decode cX0_isFree 12 = .ok (.iaload, 1) := by decide +kernel
theorem dX0_isFree_13 : decode cX0_isFree 13 = .ok (.iconst (-1), 1) := by decide +kernel
theorem dX0_isFree_14 : decode cX0_isFree 14 = .ok (.if_icmp .ne 7, 3) := by decide +kernel
theorem dX0_isFree_17 : decode cX0_isFree 17 = .ok (.iconst 1, 1) := by decide +kernel
theorem dX0_isFree_18 : decode cX0_isFree 18 = .ok (.goto 4, 3) := by decide +kernel
theorem dX0_isFree_21 : decode cX0_isFree 21 = .ok (.iconst 0, 1) := by decide +kernel
theorem dX0_isFree_22 : decode cX0_isFree 22 = .ok (.ireturn, 1) := by decide +kernel
theorem dX0_takenSites_0 : decode cX0_takenSites 0 = .ok (.aload_n 0, 1) := by decide +kernel
theorem dX0_takenSites_1 : decode cX0_takenSites 1 = .ok (.getfield 31, 3) := by decide +kernel
theorem dX0_takenSites_4 : decode cX0_takenSites 4 = .ok (.ireturn, 1) := by decide +kernel
theorem dX0_stepsMade_0 : decode cX0_stepsMade 0 = .ok (.aload_n 0, 1) := by decide +kernel
theorem dX0_stepsMade_1 : decode cX0_stepsMade 1 = .ok (.getfield 56, 3) := by decide +kernel
theorem dX0_stepsMade_4 : decode cX0_stepsMade 4 = .ok (.ireturn, 1) := by decide +kernel
theorem dX0_refusals_0 : decode cX0_refusals 0 = .ok (.aload_n 0, 1) := by decide +kernel
theorem dX0_refusals_1 : decode cX0_refusals 1 = .ok (.getfield 59, 3) := by decide +kernel
theorem dX0_refusals_4 : decode cX0_refusals 4 = .ok (.ireturn, 1) := by decide +kernel
theorem dX0_turnsMade_0 : decode cX0_turnsMade 0 = .ok (.aload_n 0, 1) := by decide +kernel
theorem dX0_turnsMade_1 : decode cX0_turnsMade 1 = .ok (.getfield 62, 3) := by decide +kernel
theorem dX0_turnsMade_4 : decode cX0_turnsMade 4 = .ok (.ireturn, 1) := by decide +kernel
theorem dX0_add_0 : decode cX0_add 0 = .ok (.aload_n 0, 1) := by decide +kernel
theorem dX0_add_1 : decode cX0_add 1 = .ok (.getfield 35, 3) := by decide +kernel
theorem dX0_add_4 : decode cX0_add 4 = .ok (.istore_n 2, 1) := by decide +kernel
theorem dX0_add_5 : decode cX0_add 5 = .ok (.aload_n 0, 1) := by decide +kernel
theorem dX0_add_6 : decode cX0_add 6 = .ok (.getfield 11, 3) := by decide +kernel
theorem dX0_add_9 : decode cX0_add 9 = .ok (.iload_n 2, 1) := by decide +kernel
theorem dX0_add_10 : decode cX0_add 10 = .ok (.aaload, 1) := by decide +kernel
theorem dX0_add_11 : decode cX0_add 11 = .ok (.aload_n 1, 1) := by decide +kernel
theorem dX0_add_12 : decode cX0_add 12 = .ok (.iconst 0, 1) := by decide +kernel
theorem dX0_add_13 : decode cX0_add 13 = .ok (.invokevirtual 65, 3) := by decide +kernel
theorem dX0_add_16 : decode cX0_add 16 = .ok (.aload_n 0, 1) := by decide +kernel
theorem dX0_add_17 : decode cX0_add 17 = .ok (.dup, 1) := by decide +kernel
theorem dX0_add_18 : decode cX0_add 18 = .ok (.getfield 35, 3) := by decide +kernel
theorem dX0_add_21 : decode cX0_add 21 = .ok (.iconst 1, 1) := by decide +kernel
theorem dX0_add_22 : decode cX0_add 22 = .ok (.iadd, 1) := by decide +kernel
theorem dX0_add_23 : decode cX0_add 23 = .ok (.putfield 35, 3) := by decide +kernel
theorem dX0_add_26 : decode cX0_add 26 = .ok (.aload_n 0, 1) := by decide +kernel
theorem dX0_add_27 : decode cX0_add 27 = .ok (.invokevirtual 69, 3) := by decide +kernel
theorem dX0_add_30 : decode cX0_add 30 = .ok (.iload_n 2, 1) := by decide +kernel
theorem dX0_add_31 : decode cX0_add 31 = .ok (.ireturn, 1) := by decide +kernel
theorem dX0_lengthen_0 : decode cX0_lengthen 0 = .ok (.aload_n 0, 1) := by decide +kernel
theorem dX0_lengthen_1 : decode cX0_lengthen 1 = .ok (.getfield 11, 3) := by decide +kernel
theorem dX0_lengthen_4 : decode cX0_lengthen 4 = .ok (.iload_n 1, 1) := by decide +kernel
theorem dX0_lengthen_5 : decode cX0_lengthen 5 = .ok (.aaload, 1) := by decide +kernel
theorem dX0_lengthen_6 : decode cX0_lengthen 6 = .ok (.astore_n 3, 1) := by decide +kernel
theorem dX0_lengthen_7 : decode cX0_lengthen 7 = .ok (.aload_n 3, 1) := by decide +kernel
theorem dX0_lengthen_8 : decode cX0_lengthen 8 = .ok (.invokevirtual 72, 3) := by decide +kernel
theorem dX0_lengthen_11 : decode cX0_lengthen 11 = .ok (.iload_n 2, 1) := by decide +kernel
theorem dX0_lengthen_12 : decode cX0_lengthen 12 = .ok (.invokestatic 75, 3) := by decide +kernel
theorem dX0_lengthen_15 : decode cX0_lengthen 15 = .ok (.istore 4, 2) := by decide +kernel
theorem dX0_lengthen_17 : decode cX0_lengthen 17 = .ok (.aload_n 0, 1) := by decide +kernel
theorem dX0_lengthen_18 : decode cX0_lengthen 18 = .ok (.iload 4, 2) := by decide +kernel
theorem dX0_lengthen_20 : decode cX0_lengthen 20 = .ok (.iload_n 1, 1) := by decide +kernel
theorem dX0_lengthen_21 : decode cX0_lengthen 21 = .ok (.invokevirtual 79, 3) := by decide +kernel
theorem dX0_lengthen_24 : decode cX0_lengthen 24 = .ok (.istore 5, 2) := by decide +kernel
theorem dX0_lengthen_26 : decode cX0_lengthen 26 = .ok (.iload 5, 2) := by decide +kernel
theorem dX0_lengthen_28 : decode cX0_lengthen 28 = .ok (.ifCond .ne 13, 3) := by decide +kernel
theorem dX0_lengthen_31 : decode cX0_lengthen 31 = .ok (.aload_n 3, 1) := by decide +kernel
theorem dX0_lengthen_32 : decode cX0_lengthen 32 = .ok (.invokevirtual 82, 3) := by decide +kernel
theorem dX0_lengthen_35 : decode cX0_lengthen 35 = .ok (.ifCond .eq 6, 3) := by decide +kernel
theorem dX0_lengthen_38 : decode cX0_lengthen 38 = .ok (.iconst 4, 1) := by decide +kernel
theorem dX0_lengthen_39 : decode cX0_lengthen 39 = .ok (.istore 5, 2) := by decide +kernel
theorem dX0_lengthen_41 : decode cX0_lengthen 41 = .ok (.iload 5, 2) := by decide +kernel
theorem dX0_lengthen_43 : decode cX0_lengthen 43 = .ok (.ifCond .ne 13, 3) := by decide +kernel
theorem dX0_lengthen_46 : decode cX0_lengthen 46 = .ok (.aload_n 3, 1) := by decide +kernel
theorem dX0_lengthen_47 : decode cX0_lengthen 47 = .ok (.iload 4, 2) := by decide +kernel
theorem dX0_lengthen_49 : decode cX0_lengthen 49 = .ok (.invokevirtual 86, 3) := by decide +kernel
theorem dX0_lengthen_52 : decode cX0_lengthen 52 = .ok (.aload_n 0, 1) := by decide +kernel
theorem dX0_lengthen_53 : decode cX0_lengthen 53 = .ok (.invokevirtual 69, 3) := by decide +kernel
theorem dX0_lengthen_56 : decode cX0_lengthen 56 = .ok (.aload_n 0, 1) := by decide +kernel
theorem dX0_lengthen_57 : decode cX0_lengthen 57 = .ok (.iload 5, 2) := by decide +kernel
theorem dX0_lengthen_59 : decode cX0_lengthen 59 = .ok (.invokevirtual 90, 3) := by decide +kernel
theorem dX0_lengthen_62 : decode cX0_lengthen 62 = .ok (.iload 5, 2) := by decide +kernel
theorem dX0_lengthen_64 : decode cX0_lengthen 64 = .ok (.ireturn, 1) := by decide +kernel
theorem dX0_creep_0 : decode cX0_creep 0 = .ok (.aload_n 0, 1) := by decide +kernel
theorem dX0_creep_1 : decode cX0_creep 1 = .ok (.getfield 11, 3) := by decide +kernel
theorem dX0_creep_4 : decode cX0_creep 4 = .ok (.iload_n 1, 1) := by decide +kernel
theorem dX0_creep_5 : decode cX0_creep 5 = .ok (.aaload, 1) := by decide +kernel
theorem dX0_creep_6 : decode cX0_creep 6 = .ok (.astore_n 3, 1) := by decide +kernel
theorem dX0_creep_7 : decode cX0_creep 7 = .ok (.aload_n 3, 1) := by decide +kernel
theorem dX0_creep_8 : decode cX0_creep 8 = .ok (.invokevirtual 72, 3) := by decide +kernel
theorem dX0_creep_11 : decode cX0_creep 11 = .ok (.iload_n 2, 1) := by decide +kernel
theorem dX0_creep_12 : decode cX0_creep 12 = .ok (.invokestatic 75, 3) := by decide +kernel
theorem dX0_creep_15 : decode cX0_creep 15 = .ok (.istore 4, 2) := by decide +kernel
theorem dX0_creep_17 : decode cX0_creep 17 = .ok (.iload 4, 2) := by decide +kernel
theorem dX0_creep_19 : decode cX0_creep 19 = .ok (.aload_n 3, 1) := by decide +kernel
theorem dX0_creep_20 : decode cX0_creep 20 = .ok (.invokevirtual 93, 3) := by decide +kernel
theorem dX0_creep_23 : decode cX0_creep 23 = .ok (.if_icmp .ne 7, 3) := by decide +kernel
theorem dX0_creep_26 : decode cX0_creep 26 = .ok (.iconst 0, 1) := by decide +kernel
theorem dX0_creep_27 : decode cX0_creep 27 = .ok (.goto 10, 3) := by decide +kernel
theorem dX0_creep_30 : decode cX0_creep 30 = .ok (.aload_n 0, 1) := by decide +kernel
theorem dX0_creep_31 : decode cX0_creep 31 = .ok (.iload 4, 2) := by decide +kernel
theorem dX0_creep_33 : decode cX0_creep 33 = .ok (.iload_n 1, 1) := by decide +kernel
theorem dX0_creep_34 : decode cX0_creep 34 = .ok (.invokevirtual 79, 3) := by decide +kernel
theorem dX0_creep_37 : decode cX0_creep 37 = .ok (.istore 5, 2) := by decide +kernel
theorem dX0_creep_39 : decode cX0_creep 39 = .ok (.iload 5, 2) := by decide +kernel
theorem dX0_creep_41 : decode cX0_creep 41 = .ok (.ifCond .ne 13, 3) := by decide +kernel
theorem dX0_creep_44 : decode cX0_creep 44 = .ok (.aload_n 3, 1) := by decide +kernel
theorem dX0_creep_45 : decode cX0_creep 45 = .ok (.iload 4, 2) := by decide +kernel
theorem dX0_creep_47 : decode cX0_creep 47 = .ok (.invokevirtual 96, 3) := by decide +kernel
theorem dX0_creep_50 : decode cX0_creep 50 = .ok (.aload_n 0, 1) := by decide +kernel
theorem dX0_creep_51 : decode cX0_creep 51 = .ok (.invokevirtual 69, 3) := by decide +kernel
theorem dX0_creep_54 : decode cX0_creep 54 = .ok (.aload_n 0, 1) := by decide +kernel
theorem dX0_creep_55 : decode cX0_creep 55 = .ok (.iload 5, 2) := by decide +kernel
theorem dX0_creep_57 : decode cX0_creep 57 = .ok (.invokevirtual 90, 3) := by decide +kernel
theorem dX0_creep_60 : decode cX0_creep 60 = .ok (.iload 5, 2) := by decide +kernel
theorem dX0_creep_62 : decode cX0_creep 62 = .ok (.ireturn, 1) := by decide +kernel
theorem dX0_refusalAt_0 : decode cX0_refusalAt 0 = .ok (.iload_n 1, 1) := by decide +kernel
theorem dX0_refusalAt_1 : decode cX0_refusalAt 1 = .ok (.iconst (-1), 1) := by decide +kernel
theorem dX0_refusalAt_2 : decode cX0_refusalAt 2 = .ok (.if_icmp .ne 5, 3) := by decide +kernel
theorem dX0_refusalAt_5 : decode cX0_refusalAt 5 = .ok (.iconst 1, 1) := by decide +kernel
theorem dX0_refusalAt_6 : decode cX0_refusalAt 6 = .ok (.ireturn, 1) := by decide +kernel
theorem dX0_refusalAt_7 : decode cX0_refusalAt 7 = .ok (.aload_n 0, 1) := by decide +kernel
theorem dX0_refusalAt_8 : decode cX0_refusalAt 8 = .ok (.iload_n 1, 1) := by decide +kernel
theorem dX0_refusalAt_9 : decode cX0_refusalAt 9 = .ok (.invokevirtual 99, 3) := by decide +kernel
theorem dX0_refusalAt_12 : decode cX0_refusalAt 12 = .ok (.iload_n 2, 1) := by decide +kernel
theorem dX0_refusalAt_13 : decode cX0_refusalAt 13 = .ok (.if_icmp .ne 5, 3) := by decide +kernel
theorem dX0_refusalAt_16 : decode cX0_refusalAt 16 = .ok (.iconst 2, 1) := by decide +kernel
theorem dX0_refusalAt_17 : decode cX0_refusalAt 17 = .ok (.ireturn, 1) := by decide +kernel
theorem dX0_refusalAt_18 : decode cX0_refusalAt 18 = .ok (.aload_n 0, 1) := by decide +kernel
theorem dX0_refusalAt_19 : decode cX0_refusalAt 19 = .ok (.iload_n 1, 1) := by decide +kernel
theorem dX0_refusalAt_20 : decode cX0_refusalAt 20 = .ok (.invokevirtual 101, 3) := by decide +kernel
theorem dX0_refusalAt_23 : decode cX0_refusalAt 23 = .ok (.ifCond .eq 7, 3) := by decide +kernel
theorem dX0_refusalAt_26 : decode cX0_refusalAt 26 = .ok (.iconst 0, 1) := by decide +kernel
theorem dX0_refusalAt_27 : decode cX0_refusalAt 27 = .ok (.goto 4, 3) := by decide +kernel
theorem dX0_refusalAt_30 : decode cX0_refusalAt 30 = .ok (.iconst 3, 1) := by decide +kernel
theorem dX0_refusalAt_31 : decode cX0_refusalAt 31 = .ok (.ireturn, 1) := by decide +kernel
theorem dX0_noteStep_0 : decode cX0_noteStep 0 = .ok (.iload_n 1, 1) := by decide +kernel
theorem dX0_noteStep_1 : decode cX0_noteStep 1 = .ok (.ifCond .ne 16, 3) := by decide +kernel
theorem dX0_noteStep_4 : decode cX0_noteStep 4 = .ok (.aload_n 0, 1) := by decide +kernel
theorem dX0_noteStep_5 : decode cX0_noteStep 5 = .ok (.dup, 1) := by decide +kernel
theorem dX0_noteStep_6 : decode cX0_noteStep 6 = .ok (.getfield 56, 3) := by decide +kernel
theorem dX0_noteStep_9 : decode cX0_noteStep 9 = .ok (.iconst 1, 1) := by decide +kernel
theorem dX0_noteStep_10 : decode cX0_noteStep 10 = .ok (.iadd, 1) := by decide +kernel
theorem dX0_noteStep_11 : decode cX0_noteStep 11 = .ok (.putfield 56, 3) := by decide +kernel
theorem dX0_noteStep_14 : decode cX0_noteStep 14 = .ok (.goto 13, 3) := by decide +kernel
theorem dX0_noteStep_17 : decode cX0_noteStep 17 = .ok (.aload_n 0, 1) := by decide +kernel
theorem dX0_noteStep_18 : decode cX0_noteStep 18 = .ok (.dup, 1) := by decide +kernel
theorem dX0_noteStep_19 : decode cX0_noteStep 19 = .ok (.getfield 59, 3) := by decide +kernel
theorem dX0_noteStep_22 : decode cX0_noteStep 22 = .ok (.iconst 1, 1) := by decide +kernel
theorem dX0_noteStep_23 : decode cX0_noteStep 23 = .ok (.iadd, 1) := by decide +kernel
theorem dX0_noteStep_24 : decode cX0_noteStep 24 = .ok (.putfield 59, 3) := by decide +kernel
theorem dX0_noteStep_27 : decode cX0_noteStep 27 = .ok (.return_, 1) := by decide +kernel
theorem dX0_noteTurn_0 : decode cX0_noteTurn 0 = .ok (.iload_n 1, 1) := by decide +kernel
theorem dX0_noteTurn_1 : decode cX0_noteTurn 1 = .ok (.ifCond .ne 16, 3) := by decide +kernel
theorem dX0_noteTurn_4 : decode cX0_noteTurn 4 = .ok (.aload_n 0, 1) := by decide +kernel
theorem dX0_noteTurn_5 : decode cX0_noteTurn 5 = .ok (.dup, 1) := by decide +kernel
theorem dX0_noteTurn_6 : decode cX0_noteTurn 6 = .ok (.getfield 62, 3) := by decide +kernel
theorem dX0_noteTurn_9 : decode cX0_noteTurn 9 = .ok (.iconst 1, 1) := by decide +kernel
theorem dX0_noteTurn_10 : decode cX0_noteTurn 10 = .ok (.iadd, 1) := by decide +kernel
theorem dX0_noteTurn_11 : decode cX0_noteTurn 11 = .ok (.putfield 62, 3) := by decide +kernel
theorem dX0_noteTurn_14 : decode cX0_noteTurn 14 = .ok (.goto 13, 3) := by decide +kernel
theorem dX0_noteTurn_17 : decode cX0_noteTurn 17 = .ok (.aload_n 0, 1) := by decide +kernel
theorem dX0_noteTurn_18 : decode cX0_noteTurn 18 = .ok (.dup, 1) := by decide +kernel
theorem dX0_noteTurn_19 : decode cX0_noteTurn 19 = .ok (.getfield 59, 3) := by decide +kernel
theorem dX0_noteTurn_22 : decode cX0_noteTurn 22 = .ok (.iconst 1, 1) := by decide +kernel
theorem dX0_noteTurn_23 : decode cX0_noteTurn 23 = .ok (.iadd, 1) := by decide +kernel
theorem dX0_noteTurn_24 : decode cX0_noteTurn 24 = .ok (.putfield 59, 3) := by decide +kernel
theorem dX0_noteTurn_27 : decode cX0_noteTurn 27 = .ok (.return_, 1) := by decide +kernel
theorem dX0_shorten_0 : decode cX0_shorten 0 = .ok (.aload_n 0, 1) := by decide +kernel
theorem dX0_shorten_1 : decode cX0_shorten 1 = .ok (.getfield 11, 3) := by decide +kernel
theorem dX0_shorten_4 : decode cX0_shorten 4 = .ok (.iload_n 1, 1) := by decide +kernel
theorem dX0_shorten_5 : decode cX0_shorten 5 = .ok (.aaload, 1) := by decide +kernel
theorem dX0_shorten_6 : decode cX0_shorten 6 = .ok (.astore_n 2, 1) := by decide +kernel
theorem dX0_shorten_7 : decode cX0_shorten 7 = .ok (.aload_n 2, 1) := by decide +kernel
theorem dX0_shorten_8 : decode cX0_shorten 8 = .ok (.aload_n 2, 1) := by decide +kernel
theorem dX0_shorten_9 : decode cX0_shorten 9 = .ok (.invokevirtual 38, 3) := by decide +kernel
theorem dX0_shorten_12 : decode cX0_shorten 12 = .ok (.iconst 2, 1) := by decide +kernel
theorem dX0_shorten_13 : decode cX0_shorten 13 = .ok (.isub, 1) := by decide +kernel
theorem dX0_shorten_14 : decode cX0_shorten 14 = .ok (.invokevirtual 104, 3) := by decide +kernel
theorem dX0_shorten_17 : decode cX0_shorten 17 = .ok (.aload_n 0, 1) := by decide +kernel
theorem dX0_shorten_18 : decode cX0_shorten 18 = .ok (.invokevirtual 69, 3) := by decide +kernel
theorem dX0_shorten_21 : decode cX0_shorten 21 = .ok (.aload_n 2, 1) := by decide +kernel
theorem dX0_shorten_22 : decode cX0_shorten 22 = .ok (.invokevirtual 38, 3) := by decide +kernel
theorem dX0_shorten_25 : decode cX0_shorten 25 = .ok (.ireturn, 1) := by decide +kernel
theorem dX0_flip_0 : decode cX0_flip 0 = .ok (.aload_n 0, 1) := by decide +kernel
theorem dX0_flip_1 : decode cX0_flip 1 = .ok (.getfield 11, 3) := by decide +kernel
theorem dX0_flip_4 : decode cX0_flip 4 = .ok (.iload_n 1, 1) := by decide +kernel
theorem dX0_flip_5 : decode cX0_flip 5 = .ok (.aaload, 1) := by decide +kernel
theorem dX0_flip_6 : decode cX0_flip 6 = .ok (.invokevirtual 107, 3) := by decide +kernel
theorem dX0_flip_9 : decode cX0_flip 9 = .ok (.aload_n 0, 1) := by decide +kernel
theorem dX0_flip_10 : decode cX0_flip 10 = .ok (.invokevirtual 69, 3) := by decide +kernel
theorem dX0_flip_13 : decode cX0_flip 13 = .ok (.aload_n 0, 1) := by decide +kernel
theorem dX0_flip_14 : decode cX0_flip 14 = .ok (.getfield 11, 3) := by decide +kernel
theorem dX0_flip_17 : decode cX0_flip 17 = .ok (.iload_n 1, 1) := by decide +kernel
theorem dX0_flip_18 : decode cX0_flip 18 = .ok (.aaload, 1) := by decide +kernel
theorem dX0_flip_19 : decode cX0_flip 19 = .ok (.invokevirtual 72, 3) := by decide +kernel
theorem dX0_flip_22 : decode cX0_flip 22 = .ok (.ireturn, 1) := by decide +kernel
theorem dX0_weld_0 : decode cX0_weld 0 = .ok (.aload_n 0, 1) := by decide +kernel
theorem dX0_weld_1 : decode cX0_weld 1 = .ok (.getfield 11, 3) := by decide +kernel
theorem dX0_weld_4 : decode cX0_weld 4 = .ok (.iload_n 1, 1) := by decide +kernel
theorem dX0_weld_5 : decode cX0_weld 5 = .ok (.aaload, 1) := by decide +kernel
theorem dX0_weld_6 : decode cX0_weld 6 = .ok (.astore_n 3, 1) := by decide +kernel
theorem dX0_weld_7 : decode cX0_weld 7 = .ok (.aload_n 0, 1) := by decide +kernel
theorem dX0_weld_8 : decode cX0_weld 8 = .ok (.getfield 11, 3) := by decide +kernel
theorem dX0_weld_11 : decode cX0_weld 11 = .ok (.iload_n 2, 1) := by decide +kernel
theorem dX0_weld_12 : decode cX0_weld 12 = .ok (.aaload, 1) := by decide +kernel
theorem dX0_weld_13 : decode cX0_weld 13 = .ok (.astore 4, 2) := by decide +kernel
theorem dX0_weld_15 : decode cX0_weld 15 = .ok (.aload 4, 2) := by decide +kernel
theorem dX0_weld_17 : decode cX0_weld 17 = .ok (.invokevirtual 38, 3) := by decide +kernel
theorem dX0_weld_20 : decode cX0_weld 20 = .ok (.iconst 1, 1) := by decide +kernel
theorem dX0_weld_21 : decode cX0_weld 21 = .ok (.isub, 1) := by decide +kernel
theorem dX0_weld_22 : decode cX0_weld 22 = .ok (.istore 5, 2) := by decide +kernel
theorem dX0_weld_24 : decode cX0_weld 24 = .ok (.iload 5, 2) := by decide +kernel
theorem dX0_weld_26 : decode cX0_weld 26 = .ok (.ifCond .lt 20, 3) := by decide +kernel
theorem dX0_weld_29 : decode cX0_weld 29 = .ok (.aload_n 3, 1) := by decide +kernel
theorem dX0_weld_30 : decode cX0_weld 30 = .ok (.aload 4, 2) := by decide +kernel
theorem dX0_weld_32 : decode cX0_weld 32 = .ok (.iload 5, 2) := by decide +kernel
theorem dX0_weld_34 : decode cX0_weld 34 = .ok (.invokevirtual 42, 3) := by decide +kernel
theorem dX0_weld_37 : decode cX0_weld 37 = .ok (.invokevirtual 86, 3) := by decide +kernel
theorem dX0_weld_40 : decode cX0_weld 40 = .ok (.iinc 5 (-1), 3) := by decide +kernel
theorem dX0_weld_43 : decode cX0_weld 43 = .ok (.goto (-19), 3) := by decide +kernel
theorem dX0_weld_46 : decode cX0_weld 46 = .ok (.aload_n 0, 1) := by decide +kernel
theorem dX0_weld_47 : decode cX0_weld 47 = .ok (.iload_n 2, 1) := by decide +kernel
theorem dX0_weld_48 : decode cX0_weld 48 = .ok (.invokevirtual 110, 3) := by decide +kernel
theorem dX0_weld_51 : decode cX0_weld 51 = .ok (.aload_n 3, 1) := by decide +kernel
theorem dX0_weld_52 : decode cX0_weld 52 = .ok (.invokevirtual 38, 3) := by decide +kernel
theorem dX0_weld_55 : decode cX0_weld 55 = .ok (.ireturn, 1) := by decide +kernel
theorem dX0_cut_0 : decode cX0_cut 0 = .ok (.aload_n 0, 1) := by decide +kernel
theorem dX0_cut_1 : decode cX0_cut 1 = .ok (.getfield 35, 3) := by decide +kernel
theorem dX0_cut_4 : decode cX0_cut 4 = .ok (.istore_n 3, 1) := by decide +kernel
theorem dX0_cut_5 : decode cX0_cut 5 = .ok (.aload_n 0, 1) := by decide +kernel
theorem dX0_cut_6 : decode cX0_cut 6 = .ok (.getfield 11, 3) := by decide +kernel
theorem dX0_cut_9 : decode cX0_cut 9 = .ok (.iload_n 3, 1) := by decide +kernel
theorem dX0_cut_10 : decode cX0_cut 10 = .ok (.aaload, 1) := by decide +kernel
theorem dX0_cut_11 : decode cX0_cut 11 = .ok (.aload_n 0, 1) := by decide +kernel
theorem dX0_cut_12 : decode cX0_cut 12 = .ok (.getfield 11, 3) := by decide +kernel
theorem dX0_cut_15 : decode cX0_cut 15 = .ok (.iload_n 1, 1) := by decide +kernel
theorem dX0_cut_16 : decode cX0_cut 16 = .ok (.aaload, 1) := by decide +kernel
theorem dX0_cut_17 : decode cX0_cut 17 = .ok (.iload_n 2, 1) := by decide +kernel
theorem dX0_cut_18 : decode cX0_cut 18 = .ok (.iconst 1, 1) := by decide +kernel
theorem dX0_cut_19 : decode cX0_cut 19 = .ok (.iadd, 1) := by decide +kernel
theorem dX0_cut_20 : decode cX0_cut 20 = .ok (.invokevirtual 65, 3) := by decide +kernel
theorem dX0_cut_23 : decode cX0_cut 23 = .ok (.aload_n 0, 1) := by decide +kernel
theorem dX0_cut_24 : decode cX0_cut 24 = .ok (.getfield 11, 3) := by decide +kernel
theorem dX0_cut_27 : decode cX0_cut 27 = .ok (.iload_n 1, 1) := by decide +kernel
theorem dX0_cut_28 : decode cX0_cut 28 = .ok (.aaload, 1) := by decide +kernel
theorem dX0_cut_29 : decode cX0_cut 29 = .ok (.iload_n 2, 1) := by decide +kernel
theorem dX0_cut_30 : decode cX0_cut 30 = .ok (.invokevirtual 104, 3) := by decide +kernel
theorem dX0_cut_33 : decode cX0_cut 33 = .ok (.aload_n 0, 1) := by decide +kernel
theorem dX0_cut_34 : decode cX0_cut 34 = .ok (.dup, 1) := by decide +kernel
theorem dX0_cut_35 : decode cX0_cut 35 = .ok (.getfield 35, 3) := by decide +kernel
theorem dX0_cut_38 : decode cX0_cut 38 = .ok (.iconst 1, 1) := by decide +kernel
theorem dX0_cut_39 : decode cX0_cut 39 = .ok (.iadd, 1) := by decide +kernel
theorem dX0_cut_40 : decode cX0_cut 40 = .ok (.putfield 35, 3) := by decide +kernel
theorem dX0_cut_43 : decode cX0_cut 43 = .ok (.aload_n 0, 1) := by decide +kernel
theorem dX0_cut_44 : decode cX0_cut 44 = .ok (.invokevirtual 69, 3) := by decide +kernel
theorem dX0_cut_47 : decode cX0_cut 47 = .ok (.iload_n 3, 1) := by decide +kernel
theorem dX0_cut_48 : decode cX0_cut 48 = .ok (.ireturn, 1) := by decide +kernel
theorem dX0_drop_0 : decode cX0_drop 0 = .ok (.aload_n 0, 1) := by decide +kernel
theorem dX0_drop_1 : decode cX0_drop 1 = .ok (.getfield 11, 3) := by decide +kernel
theorem dX0_drop_4 : decode cX0_drop 4 = .ok (.iload_n 1, 1) := by decide +kernel
theorem dX0_drop_5 : decode cX0_drop 5 = .ok (.aaload, 1) := by decide +kernel
theorem dX0_drop_6 : decode cX0_drop 6 = .ok (.astore_n 2, 1) := by decide +kernel
theorem dX0_drop_7 : decode cX0_drop 7 = .ok (.iload_n 1, 1) := by decide +kernel
theorem dX0_drop_8 : decode cX0_drop 8 = .ok (.iconst 1, 1) := by decide +kernel
theorem dX0_drop_9 : decode cX0_drop 9 = .ok (.iadd, 1) := by decide +kernel
theorem dX0_drop_10 : decode cX0_drop 10 = .ok (.istore_n 3, 1) := by decide +kernel
theorem dX0_drop_11 : decode cX0_drop 11 = .ok (.iload_n 3, 1) := by decide +kernel
theorem dX0_drop_12 : decode cX0_drop 12 = .ok (.aload_n 0, 1) := by decide +kernel
theorem dX0_drop_13 : decode cX0_drop 13 = .ok (.getfield 35, 3) := by decide +kernel
theorem dX0_drop_16 : decode cX0_drop 16 = .ok (.if_icmp .ge 23, 3) := by decide +kernel
theorem dX0_drop_19 : decode cX0_drop 19 = .ok (.aload_n 0, 1) := by decide +kernel
theorem dX0_drop_20 : decode cX0_drop 20 = .ok (.getfield 11, 3) := by decide +kernel
theorem dX0_drop_23 : decode cX0_drop 23 = .ok (.iload_n 3, 1) := by decide +kernel
theorem dX0_drop_24 : decode cX0_drop 24 = .ok (.iconst 1, 1) := by decide +kernel
theorem dX0_drop_25 : decode cX0_drop 25 = .ok (.isub, 1) := by decide +kernel
theorem dX0_drop_26 : decode cX0_drop 26 = .ok (.aload_n 0, 1) := by decide +kernel
theorem dX0_drop_27 : decode cX0_drop 27 = .ok (.getfield 11, 3) := by decide +kernel
theorem dX0_drop_30 : decode cX0_drop 30 = .ok (.iload_n 3, 1) := by decide +kernel
theorem dX0_drop_31 : decode cX0_drop 31 = .ok (.aaload, 1) := by decide +kernel
theorem dX0_drop_32 : decode cX0_drop 32 = .ok (.aastore, 1) := by decide +kernel
theorem dX0_drop_33 : decode cX0_drop 33 = .ok (.iinc 3 1, 3) := by decide +kernel
theorem dX0_drop_36 : decode cX0_drop 36 = .ok (.goto (-25), 3) := by decide +kernel
theorem dX0_drop_39 : decode cX0_drop 39 = .ok (.aload_n 0, 1) := by decide +kernel
theorem dX0_drop_40 : decode cX0_drop 40 = .ok (.dup, 1) := by decide +kernel
theorem dX0_drop_41 : decode cX0_drop 41 = .ok (.getfield 35, 3) := by decide +kernel
theorem dX0_drop_44 : decode cX0_drop 44 = .ok (.iconst 1, 1) := by decide +kernel
theorem dX0_drop_45 : decode cX0_drop 45 = .ok (.isub, 1) := by decide +kernel
theorem dX0_drop_46 : decode cX0_drop 46 = .ok (.putfield 35, 3) := by decide +kernel
theorem dX0_drop_49 : decode cX0_drop 49 = .ok (.aload_n 0, 1) := by decide +kernel
theorem dX0_drop_50 : decode cX0_drop 50 = .ok (.getfield 11, 3) := by decide +kernel
theorem dX0_drop_53 : decode cX0_drop 53 = .ok (.aload_n 0, 1) := by decide +kernel
theorem dX0_drop_54 : decode cX0_drop 54 = .ok (.getfield 35, 3) := by decide +kernel
theorem dX0_drop_57 : decode cX0_drop 57 = .ok (.aload_n 2, 1) := by decide +kernel
theorem dX0_drop_58 : decode cX0_drop 58 = .ok (.aastore, 1) := by decide +kernel
theorem dX0_drop_59 : decode cX0_drop 59 = .ok (.aload_n 0, 1) := by decide +kernel
theorem dX0_drop_60 : decode cX0_drop 60 = .ok (.invokevirtual 69, 3) := by decide +kernel
theorem dX0_drop_63 : decode cX0_drop 63 = .ok (.return_, 1) := by decide +kernel
theorem dX0_freeDirections_0 : decode cX0_freeDirections 0 = .ok (.iconst 0, 1) := by decide +kernel
theorem dX0_freeDirections_1 : decode cX0_freeDirections 1 = .ok (.istore_n 2, 1) := by decide +kernel
theorem dX0_freeDirections_2 : decode cX0_freeDirections 2 = .ok (.iconst 0, 1) := by decide +kernel
theorem dX0_freeDirections_3 : decode cX0_freeDirections 3 = .ok (.istore_n 3, 1) := by decide +kernel
theorem dX0_freeDirections_4 : decode cX0_freeDirections 4 = .ok (.iload_n 3, 1) := by decide +kernel
theorem dX0_freeDirections_5 : decode cX0_freeDirections 5 = .ok (.iconst 4, 1) := by decide +kernel
theorem dX0_freeDirections_6 : decode cX0_freeDirections 6 = .ok (.if_icmp .ge 27, 3) := by decide +kernel
theorem dX0_freeDirections_9 : decode cX0_freeDirections 9 = .ok (.aload_n 0, 1) := by decide +kernel
theorem dX0_freeDirections_10 : decode cX0_freeDirections 10 = .ok (.iload_n 1, 1) := by decide +kernel
theorem dX0_freeDirections_11 : decode cX0_freeDirections 11 = .ok (.iload_n 3, 1) := by decide +kernel
theorem dX0_freeDirections_12 : decode cX0_freeDirections 12 = .ok (.invokestatic 75, 3) := by decide +kernel
theorem dX0_freeDirections_15 : decode cX0_freeDirections 15 = .ok (.invokevirtual 101, 3) := by decide +kernel
theorem dX0_freeDirections_18 : decode cX0_freeDirections 18 = .ok (.ifCond .eq 9, 3) := by decide +kernel
theorem dX0_freeDirections_21 : decode cX0_freeDirections 21 = .ok (.iload_n 2, 1) := by decide +kernel
theorem dX0_freeDirections_22 : decode cX0_freeDirections 22 = .ok (.iconst 1, 1) := by decide +kernel
theorem dX0_freeDirections_23 : decode cX0_freeDirections 23 = .ok (.iload_n 3, 1) := by decide +kernel
theorem dX0_freeDirections_24 : decode cX0_freeDirections 24 = .ok (.ishl, 1) := by decide +kernel
theorem dX0_freeDirections_25 : decode cX0_freeDirections 25 = .ok (.ior, 1) := by decide +kernel
theorem dX0_freeDirections_26 : decode cX0_freeDirections 26 = .ok (.istore_n 2, 1) := by decide +kernel
theorem dX0_freeDirections_27 : decode cX0_freeDirections 27 = .ok (.iinc 3 1, 3) := by decide +kernel
theorem dX0_freeDirections_30 : decode cX0_freeDirections 30 = .ok (.goto (-26), 3) := by decide +kernel
theorem dX0_freeDirections_33 : decode cX0_freeDirections 33 = .ok (.iload_n 2, 1) := by decide +kernel
theorem dX0_freeDirections_34 : decode cX0_freeDirections 34 = .ok (.ireturn, 1) := by decide +kernel
theorem dX0_contacts_0 : decode cX0_contacts 0 = .ok (.iconst 0, 1) := by decide +kernel
theorem dX0_contacts_1 : decode cX0_contacts 1 = .ok (.istore_n 2, 1) := by decide +kernel
theorem dX0_contacts_2 : decode cX0_contacts 2 = .ok (.aload_n 0, 1) := by decide +kernel
theorem dX0_contacts_3 : decode cX0_contacts 3 = .ok (.getfield 11, 3) := by decide +kernel
theorem dX0_contacts_6 : decode cX0_contacts 6 = .ok (.iload_n 1, 1) := by decide +kernel
theorem dX0_contacts_7 : decode cX0_contacts 7 = .ok (.aaload, 1) := by decide +kernel
theorem dX0_contacts_8 : decode cX0_contacts 8 = .ok (.astore_n 3, 1) := by decide +kernel
theorem dX0_contacts_9 : decode cX0_contacts 9 = .ok (.iconst 0, 1) := by decide +kernel
theorem dX0_contacts_10 : decode cX0_contacts 10 = .ok (.istore 4, 2) := by decide +kernel
theorem dX0_contacts_12 : decode cX0_contacts 12 = .ok (.iload 4, 2) := by decide +kernel
theorem dX0_contacts_14 : decode cX0_contacts 14 = .ok (.aload_n 3, 1) := by decide +kernel
theorem dX0_contacts_15 : decode cX0_contacts 15 = .ok (.invokevirtual 38, 3) := by decide +kernel
theorem dX0_contacts_18 : decode cX0_contacts 18 = .ok (.if_icmp .ge 66, 3) := by decide +kernel
theorem dX0_contacts_21 : decode cX0_contacts 21 = .ok (.iconst 1, 1) := by decide +kernel
theorem dX0_contacts_22 : decode cX0_contacts 22 = .ok (.istore 5, 2) := by decide +kernel
theorem dX0_contacts_24 : decode cX0_contacts 24 = .ok (.iload 5, 2) := by decide +kernel
theorem dX0_contacts_26 : decode cX0_contacts 26 = .ok (.iconst 2, 1) := by decide +kernel
theorem dX0_contacts_27 : decode cX0_contacts 27 = .ok (.if_icmp .gt 51, 3) := by decide +kernel
theorem dX0_contacts_30 : decode cX0_contacts 30 = .ok (.aload_n 3, 1) := by decide +kernel
theorem dX0_contacts_31 : decode cX0_contacts 31 = .ok (.iload 4, 2) := by decide +kernel
theorem dX0_contacts_33 : decode cX0_contacts 33 = .ok (.invokevirtual 42, 3) := by decide +kernel
theorem dX0_contacts_36 : decode cX0_contacts 36 = .ok (.iload 5, 2) := by decide +kernel
theorem dX0_contacts_38 : decode cX0_contacts 38 = .ok (.invokestatic 75, 3) := by decide +kernel
theorem dX0_contacts_41 : decode cX0_contacts 41 = .ok (.istore 6, 2) := by decide +kernel
theorem dX0_contacts_43 : decode cX0_contacts 43 = .ok (.aload_n 0, 1) := by decide +kernel
theorem dX0_contacts_44 : decode cX0_contacts 44 = .ok (.iload 6, 2) := by decide +kernel
theorem dX0_contacts_46 : decode cX0_contacts 46 = .ok (.invokevirtual 99, 3) := by decide +kernel
theorem dX0_contacts_49 : decode cX0_contacts 49 = .ok (.iload_n 1, 1) := by decide +kernel
theorem dX0_contacts_50 : decode cX0_contacts 50 = .ok (.if_icmp .ne 22, 3) := by decide +kernel
theorem dX0_contacts_53 : decode cX0_contacts 53 = .ok (.aload_n 0, 1) := by decide +kernel
theorem dX0_contacts_54 : decode cX0_contacts 54 = .ok (.iload 6, 2) := by decide +kernel
theorem dX0_contacts_56 : decode cX0_contacts 56 = .ok (.invokevirtual 113, 3) := by decide +kernel
theorem dX0_contacts_59 : decode cX0_contacts 59 = .ok (.iload 4, 2) := by decide +kernel
theorem dX0_contacts_61 : decode cX0_contacts 61 = .ok (.isub, 1) := by decide +kernel
theorem dX0_contacts_62 : decode cX0_contacts 62 = .ok (.invokestatic 115, 3) := by decide +kernel
theorem dX0_contacts_65 : decode cX0_contacts 65 = .ok (.iconst 1, 1) := by decide +kernel
theorem dX0_contacts_66 : decode cX0_contacts 66 = .ok (.if_icmp .le 6, 3) := by decide +kernel
theorem dX0_contacts_69 : decode cX0_contacts 69 = .ok (.iinc 2 1, 3) := by decide +kernel
theorem dX0_contacts_72 : decode cX0_contacts 72 = .ok (.iinc 5 1, 3) := by decide +kernel
theorem dX0_contacts_75 : decode cX0_contacts 75 = .ok (.goto (-51), 3) := by decide +kernel
theorem dX0_contacts_78 : decode cX0_contacts 78 = .ok (.iinc 4 1, 3) := by decide +kernel
theorem dX0_contacts_81 : decode cX0_contacts 81 = .ok (.goto (-69), 3) := by decide +kernel
theorem dX0_contacts_84 : decode cX0_contacts 84 = .ok (.iload_n 2, 1) := by decide +kernel
theorem dX0_contacts_85 : decode cX0_contacts 85 = .ok (.ireturn, 1) := by decide +kernel
theorem dX0_touchingPairs_0 : decode cX0_touchingPairs 0 = .ok (.iconst 0, 1) := by decide +kernel
theorem dX0_touchingPairs_1 : decode cX0_touchingPairs 1 = .ok (.istore_n 3, 1) := by decide +kernel
theorem dX0_touchingPairs_2 : decode cX0_touchingPairs 2 = .ok (.aload_n 0, 1) := by decide +kernel
theorem dX0_touchingPairs_3 : decode cX0_touchingPairs 3 = .ok (.getfield 11, 3) := by decide +kernel
theorem dX0_touchingPairs_6 : decode cX0_touchingPairs 6 = .ok (.iload_n 1, 1) := by decide +kernel
theorem dX0_touchingPairs_7 : decode cX0_touchingPairs 7 = .ok (.aaload, 1) := by decide +kernel
theorem dX0_touchingPairs_8 : decode cX0_touchingPairs 8 = .ok (.astore 4, 2) := by decide +kernel
theorem dX0_touchingPairs_10 : decode cX0_touchingPairs 10 = .ok (.iconst 0, 1) := by decide +kernel
theorem dX0_touchingPairs_11 : decode cX0_touchingPairs 11 = .ok (.istore 5, 2) := by decide +kernel
theorem dX0_touchingPairs_13 : decode cX0_touchingPairs 13 = .ok (.iload 5, 2) := by decide +kernel
theorem dX0_touchingPairs_15 : decode cX0_touchingPairs 15 = .ok (.aload 4, 2) := by decide +kernel
theorem dX0_touchingPairs_17 : decode cX0_touchingPairs 17 = .ok (.invokevirtual 38, 3) := by decide +kernel
theorem dX0_touchingPairs_20 : decode cX0_touchingPairs 20 = .ok (.if_icmp .ge 24, 3) := by decide +kernel
theorem dX0_touchingPairs_23 : decode cX0_touchingPairs 23 = .ok (.iload_n 3, 1) := by decide +kernel
theorem dX0_touchingPairs_24 : decode cX0_touchingPairs 24 = .ok (.aload_n 0, 1) := by decide +kernel
theorem dX0_touchingPairs_25 : decode cX0_touchingPairs 25 = .ok (.aload 4, 2) := by decide +kernel
theorem dX0_touchingPairs_27 : decode cX0_touchingPairs 27 = .ok (.iload 5, 2) := by decide +kernel
theorem dX0_touchingPairs_29 : decode cX0_touchingPairs 29 = .ok (.invokevirtual 42, 3) := by decide +kernel
theorem dX0_touchingPairs_32 : decode cX0_touchingPairs 32 = .ok (.iload_n 2, 1) := by decide +kernel
theorem dX0_touchingPairs_33 : decode cX0_touchingPairs 33 = .ok (.invokevirtual 120, 3) := by decide +kernel
theorem dX0_touchingPairs_36 : decode cX0_touchingPairs 36 = .ok (.iadd, 1) := by decide +kernel
theorem dX0_touchingPairs_37 : decode cX0_touchingPairs 37 = .ok (.istore_n 3, 1) := by decide +kernel
theorem dX0_touchingPairs_38 : decode cX0_touchingPairs 38 = .ok (.iinc 5 1, 3) := by decide +kernel
theorem dX0_touchingPairs_41 : decode cX0_touchingPairs 41 = .ok (.goto (-28), 3) := by decide +kernel
theorem dX0_touchingPairs_44 : decode cX0_touchingPairs 44 = .ok (.iload_n 3, 1) := by decide +kernel
theorem dX0_touchingPairs_45 : decode cX0_touchingPairs 45 = .ok (.ireturn, 1) := by decide +kernel
theorem dX0_freeBorder_0 : decode cX0_freeBorder 0 = .ok (.iconst 0, 1) := by decide +kernel
theorem dX0_freeBorder_1 : decode cX0_freeBorder 1 = .ok (.istore_n 2, 1) := by decide +kernel
theorem dX0_freeBorder_2 : decode cX0_freeBorder 2 = .ok (.iconst 0, 1) := by decide +kernel
theorem dX0_freeBorder_3 : decode cX0_freeBorder 3 = .ok (.istore_n 3, 1) := by decide +kernel
theorem dX0_freeBorder_4 : decode cX0_freeBorder 4 = .ok (.iload_n 3, 1) := by decide +kernel
theorem dX0_freeBorder_5 : decode cX0_freeBorder 5 = .ok (.bipush 100, 2) := by decide +kernel
theorem dX0_freeBorder_7 : decode cX0_freeBorder 7 = .ok (.if_icmp .ge 29, 3) := by decide +kernel
theorem dX0_freeBorder_10 : decode cX0_freeBorder 10 = .ok (.aload_n 0, 1) := by decide +kernel
theorem dX0_freeBorder_11 : decode cX0_freeBorder 11 = .ok (.iload_n 3, 1) := by decide +kernel
theorem dX0_freeBorder_12 : decode cX0_freeBorder 12 = .ok (.invokevirtual 101, 3) := by decide +kernel
theorem dX0_freeBorder_15 : decode cX0_freeBorder 15 = .ok (.ifCond .eq 15, 3) := by decide +kernel
theorem dX0_freeBorder_18 : decode cX0_freeBorder 18 = .ok (.aload_n 0, 1) := by decide +kernel
theorem dX0_freeBorder_19 : decode cX0_freeBorder 19 = .ok (.iload_n 3, 1) := by decide +kernel
theorem dX0_freeBorder_20 : decode cX0_freeBorder 20 = .ok (.iload_n 1, 1) := by decide +kernel
theorem dX0_freeBorder_21 : decode cX0_freeBorder 21 = .ok (.invokevirtual 120, 3) := by decide +kernel
theorem dX0_freeBorder_24 : decode cX0_freeBorder 24 = .ok (.ifCond .le 6, 3) := by decide +kernel
theorem dX0_freeBorder_27 : decode cX0_freeBorder 27 = .ok (.iinc 2 1, 3) := by decide +kernel
theorem dX0_freeBorder_30 : decode cX0_freeBorder 30 = .ok (.iinc 3 1, 3) := by decide +kernel
theorem dX0_freeBorder_33 : decode cX0_freeBorder 33 = .ok (.goto (-29), 3) := by decide +kernel
theorem dX0_freeBorder_36 : decode cX0_freeBorder 36 = .ok (.iload_n 2, 1) := by decide +kernel
theorem dX0_freeBorder_37 : decode cX0_freeBorder 37 = .ok (.ireturn, 1) := by decide +kernel
theorem dX0_neighboursIn_0 : decode cX0_neighboursIn 0 = .ok (.iconst 0, 1) := by decide +kernel
theorem dX0_neighboursIn_1 : decode cX0_neighboursIn 1 = .ok (.istore_n 3, 1) := by decide +kernel
theorem dX0_neighboursIn_2 : decode cX0_neighboursIn 2 = .ok (.iconst 0, 1) := by decide +kernel
theorem dX0_neighboursIn_3 : decode cX0_neighboursIn 3 = .ok (.istore 4, 2) := by decide +kernel
theorem dX0_neighboursIn_5 : decode cX0_neighboursIn 5 = .ok (.iload 4, 2) := by decide +kernel
theorem dX0_neighboursIn_7 : decode cX0_neighboursIn 7 = .ok (.iconst 4, 1) := by decide +kernel
theorem dX0_neighboursIn_8 : decode cX0_neighboursIn 8 = .ok (.if_icmp .ge 26, 3) := by decide +kernel
theorem dX0_neighboursIn_11 : decode cX0_neighboursIn 11 = .ok (.aload_n 0, 1) := by decide +kernel
theorem dX0_neighboursIn_12 : decode cX0_neighboursIn 12 = .ok (.iload_n 1, 1) := by decide +kernel
theorem dX0_neighboursIn_13 : decode cX0_neighboursIn 13 = .ok (.iload 4, 2) := by decide +kernel
theorem dX0_neighboursIn_15 : decode cX0_neighboursIn 15 = .ok (.invokestatic 75, 3) := by decide +kernel
theorem dX0_neighboursIn_18 : decode cX0_neighboursIn 18 = .ok (.invokevirtual 99, 3) := by decide +kernel
theorem dX0_neighboursIn_21 : decode cX0_neighboursIn 21 = .ok (.iload_n 2, 1) := by decide +kernel
theorem dX0_neighboursIn_22 : decode cX0_neighboursIn 22 = .ok (.if_icmp .ne 6, 3) := by decide +kernel
theorem dX0_neighboursIn_25 : decode cX0_neighboursIn 25 = .ok (.iinc 3 1, 3) := by decide +kernel
theorem dX0_neighboursIn_28 : decode cX0_neighboursIn 28 = .ok (.iinc 4 1, 3) := by decide +kernel
theorem dX0_neighboursIn_31 : decode cX0_neighboursIn 31 = .ok (.goto (-26), 3) := by decide +kernel
theorem dX0_neighboursIn_34 : decode cX0_neighboursIn 34 = .ok (.iload_n 3, 1) := by decide +kernel
theorem dX0_neighboursIn_35 : decode cX0_neighboursIn 35 = .ok (.ireturn, 1) := by decide +kernel
theorem dX1_init_0 : decode cX1_init 0 = .ok (.aload_n 0, 1) := by decide +kernel
theorem dX1_init_1 : decode cX1_init 1 = .ok (.invokespecial 3, 3) := by decide +kernel
theorem dX1_init_4 : decode cX1_init 4 = .ok (.aload_n 0, 1) := by decide +kernel
theorem dX1_init_5 : decode cX1_init 5 = .ok (.bipush 6, 2) := by decide +kernel
theorem dX1_init_7 : decode cX1_init 7 = .ok (.anewarray 9, 3) := by decide +kernel
theorem dX1_init_10 : decode cX1_init 10 = .ok (.putfield 11, 3) := by decide +kernel
theorem dX1_init_13 : decode cX1_init 13 = .ok (.iconst 0, 1) := by decide +kernel
theorem dX1_init_14 : decode cX1_init 14 = .ok (.istore_n 1, 1) := by decide +kernel
theorem dX1_init_15 : decode cX1_init 15 = .ok (.iload_n 1, 1) := by decide +kernel
theorem dX1_init_16 : decode cX1_init 16 = .ok (.bipush 6, 2) := by decide +kernel
theorem dX1_init_18 : decode cX1_init 18 = .ok (.if_icmp .ge 22, 3) := by decide +kernel
theorem dX1_init_21 : decode cX1_init 21 = .ok (.aload_n 0, 1) := by decide +kernel
theorem dX1_init_22 : decode cX1_init 22 = .ok (.getfield 11, 3) := by decide +kernel
theorem dX1_init_25 : decode cX1_init 25 = .ok (.iload_n 1, 1) := by decide +kernel
theorem dX1_init_26 : decode cX1_init 26 = .ok (.new 9, 3) := by decide +kernel
theorem dX1_init_29 : decode cX1_init 29 = .ok (.dup, 1) := by decide +kernel
theorem dX1_init_30 : decode cX1_init 30 = .ok (.invokespecial 17, 3) := by decide +kernel
theorem dX1_init_33 : decode cX1_init 33 = .ok (.aastore, 1) := by decide +kernel
theorem dX1_init_34 : decode cX1_init 34 = .ok (.iinc 1 1, 3) := by decide +kernel
theorem dX1_init_37 : decode cX1_init 37 = .ok (.goto (-22), 3) := by decide +kernel
theorem dX1_init_40 : decode cX1_init 40 = .ok (.return_, 1) := by decide +kernel
theorem dX1_size_0 : decode cX1_size 0 = .ok (.aload_n 0, 1) := by decide +kernel
theorem dX1_size_1 : decode cX1_size 1 = .ok (.getfield 18, 3) := by decide +kernel
theorem dX1_size_4 : decode cX1_size 4 = .ok (.ireturn, 1) := by decide +kernel
theorem dX1_save_0 : decode cX1_save 0 = .ok (.aload_n 0, 1) := by decide +kernel
theorem dX1_save_1 : decode cX1_save 1 = .ok (.getfield 18, 3) := by decide +kernel
theorem dX1_save_4 : decode cX1_save 4 = .ok (.bipush 6, 2) := by decide +kernel
theorem dX1_save_6 : decode cX1_save 6 = .ok (.if_icmp .ne 26, 3) := by decide +kernel
theorem dX1_save_9 : decode cX1_save 9 = .ok (.aload_n 0, 1) := by decide +kernel
theorem dX1_save_10 : decode cX1_save 10 = .ok (.aload_n 0, 1) := by decide +kernel
theorem dX1_save_11 : decode cX1_save 11 = .ok (.getfield 22, 3) := by decide +kernel
theorem dX1_save_14 : decode cX1_save 14 = .ok (.iconst 1, 1) := by decide +kernel
theorem dX1_save_15 : decode cX1_save 15 = .ok (.iadd, 1) := by decide +kernel
theorem dX1_save_16 : decode cX1_save 16 = .ok (.bipush 6, 2) := by decide +kernel
theorem dX1_save_18 : decode cX1_save 18 = .ok (.irem, 1) := by decide +kernel
theorem dX1_save_19 : decode cX1_save 19 = .ok (.putfield 22, 3) := by decide +kernel
theorem dX1_save_22 : decode cX1_save 22 = .ok (.aload_n 0, 1) := by decide +kernel
theorem dX1_save_23 : decode cX1_save 23 = .ok (.dup, 1) := by decide +kernel
theorem dX1_save_24 : decode cX1_save 24 = .ok (.getfield 18, 3) := by decide +kernel
theorem dX1_save_27 : decode cX1_save 27 = .ok (.iconst 1, 1) := by decide +kernel
theorem dX1_save_28 : decode cX1_save 28 = .ok (.isub, 1) := by decide +kernel
theorem dX1_save_29 : decode cX1_save 29 = .ok (.putfield 18, 3) := by decide +kernel
theorem dX1_save_32 : decode cX1_save 32 = .ok (.aload_n 0, 1) := by decide +kernel
theorem dX1_save_33 : decode cX1_save 33 = .ok (.getfield 11, 3) := by decide +kernel
theorem dX1_save_36 : decode cX1_save 36 = .ok (.aload_n 0, 1) := by decide +kernel
theorem dX1_save_37 : decode cX1_save 37 = .ok (.getfield 22, 3) := by decide +kernel
theorem dX1_save_40 : decode cX1_save 40 = .ok (.aload_n 0, 1) := by decide +kernel
theorem dX1_save_41 : decode cX1_save 41 = .ok (.getfield 18, 3) := by decide +kernel
theorem dX1_save_44 : decode cX1_save 44 = .ok (.iadd, 1) := by decide +kernel
theorem dX1_save_45 : decode cX1_save 45 = .ok (.bipush 6, 2) := by decide +kernel
theorem dX1_save_47 : decode cX1_save 47 = .ok (.irem, 1) := by decide +kernel
theorem dX1_save_48 : decode cX1_save 48 = .ok (.aaload, 1) := by decide +kernel
theorem dX1_save_49 : decode cX1_save 49 = .ok (.aload_n 1, 1) := by decide +kernel
theorem dX1_save_50 : decode cX1_save 50 = .ok (.invokevirtual 25, 3) := by decide +kernel
theorem dX1_save_53 : decode cX1_save 53 = .ok (.aload_n 0, 1) := by decide +kernel
theorem dX1_save_54 : decode cX1_save 54 = .ok (.dup, 1) := by decide +kernel
theorem dX1_save_55 : decode cX1_save 55 = .ok (.getfield 18, 3) := by decide +kernel
theorem dX1_save_58 : decode cX1_save 58 = .ok (.iconst 1, 1) := by decide +kernel
theorem dX1_save_59 : decode cX1_save 59 = .ok (.iadd, 1) := by decide +kernel
theorem dX1_save_60 : decode cX1_save 60 = .ok (.putfield 18, 3) := by decide +kernel
theorem dX1_save_63 : decode cX1_save 63 = .ok (.return_, 1) := by decide +kernel
theorem dX1_restoreLast_0 : decode cX1_restoreLast 0 = .ok (.aload_n 0, 1) := by decide +kernel
theorem dX1_restoreLast_1 : decode cX1_restoreLast 1 = .ok (.getfield 18, 3) := by decide +kernel
theorem dX1_restoreLast_4 : decode cX1_restoreLast 4 = .ok (.ifCond .le 34, 3) := by decide +kernel
theorem dX1_restoreLast_7 : decode cX1_restoreLast 7 = .ok (.aload_n 0, 1) := by decide +kernel
theorem dX1_restoreLast_8 : decode cX1_restoreLast 8 = .ok (.dup, 1) := by decide +kernel
theorem dX1_restoreLast_9 : decode cX1_restoreLast 9 = .ok (.getfield 18, 3) := by decide +kernel
theorem dX1_restoreLast_12 : decode cX1_restoreLast 12 = .ok (.iconst 1, 1) := by decide +kernel
theorem dX1_restoreLast_13 : decode cX1_restoreLast 13 = .ok (.isub, 1) := by decide +kernel
theorem dX1_restoreLast_14 : decode cX1_restoreLast 14 = .ok (.putfield 18, 3) := by decide +kernel
theorem dX1_restoreLast_17 : decode cX1_restoreLast 17 = .ok (.aload_n 0, 1) := by decide +kernel
theorem dX1_restoreLast_18 : decode cX1_restoreLast 18 = .ok (.getfield 11, 3) := by decide +kernel
theorem dX1_restoreLast_21 : decode cX1_restoreLast 21 = .ok (.aload_n 0, 1) := by decide +kernel
theorem dX1_restoreLast_22 : decode cX1_restoreLast 22 = .ok (.getfield 22, 3) := by decide +kernel
theorem dX1_restoreLast_25 : decode cX1_restoreLast 25 = .ok (.aload_n 0, 1) := by decide +kernel
theorem dX1_restoreLast_26 : decode cX1_restoreLast 26 = .ok (.getfield 18, 3) := by decide +kernel
theorem dX1_restoreLast_29 : decode cX1_restoreLast 29 = .ok (.iadd, 1) := by decide +kernel
theorem dX1_restoreLast_30 : decode cX1_restoreLast 30 = .ok (.bipush 6, 2) := by decide +kernel
theorem dX1_restoreLast_32 : decode cX1_restoreLast 32 = .ok (.irem, 1) := by decide +kernel
theorem dX1_restoreLast_33 : decode cX1_restoreLast 33 = .ok (.aaload, 1) := by decide +kernel
theorem dX1_restoreLast_34 : decode cX1_restoreLast 34 = .ok (.aload_n 1, 1) := by decide +kernel
theorem dX1_restoreLast_35 : decode cX1_restoreLast 35 = .ok (.invokevirtual 29, 3) := by decide +kernel
theorem dX1_restoreLast_38 : decode cX1_restoreLast 38 = .ok (.return_, 1) := by decide +kernel
theorem dX2_number_0 : decode cX2_number 0 = .ok (.iload_n 0, 1) := by decide +kernel
theorem dX2_number_1 : decode cX2_number 1 = .ok (.ifCond .lt 19, 3) := by decide +kernel
theorem dX2_number_4 : decode cX2_number 4 = .ok (.iload_n 0, 1) := by decide +kernel
theorem dX2_number_5 : decode cX2_number 5 = .ok (.bipush 10, 2) := by decide +kernel
theorem dX2_number_7 : decode cX2_number 7 = .ok (.if_icmp .ge 13, 3) := by decide +kernel
theorem dX2_number_10 : decode cX2_number 10 = .ok (.iload_n 1, 1) := by decide +kernel
theorem dX2_number_11 : decode cX2_number 11 = .ok (.ifCond .lt 9, 3) := by decide +kernel
theorem dX2_number_14 : decode cX2_number 14 = .ok (.iload_n 1, 1) := by decide +kernel
theorem dX2_number_15 : decode cX2_number 15 = .ok (.bipush 10, 2) := by decide +kernel
theorem dX2_number_17 : decode cX2_number 17 = .ok (.if_icmp .lt 5, 3) := by decide +kernel
theorem dX2_number_20 : decode cX2_number 20 = .ok (.iconst (-1), 1) := by decide +kernel
theorem dX2_number_21 : decode cX2_number 21 = .ok (.ireturn, 1) := by decide +kernel
theorem dX2_number_22 : decode cX2_number 22 = .ok (.bipush 10, 2) := by decide +kernel
theorem dX2_number_24 : decode cX2_number 24 = .ok (.iload_n 1, 1) := by decide +kernel
theorem dX2_number_25 : decode cX2_number 25 = .ok (.imul, 1) := by decide +kernel
theorem dX2_number_26 : decode cX2_number 26 = .ok (.iload_n 0, 1) := by decide +kernel
theorem dX2_number_27 : decode cX2_number 27 = .ok (.iadd, 1) := by decide +kernel
theorem dX2_number_28 : decode cX2_number 28 = .ok (.ireturn, 1) := by decide +kernel
theorem dX2_isSite_0 : decode cX2_isSite 0 = .ok (.iload_n 0, 1) := by decide +kernel
theorem dX2_isSite_1 : decode cX2_isSite 1 = .ok (.ifCond .lt 13, 3) := by decide +kernel
theorem dX2_isSite_4 : decode cX2_isSite 4 = .ok (.iload_n 0, 1) := by decide +kernel
theorem dX2_isSite_5 : decode cX2_isSite 5 = .ok (.bipush 100, 2) := by decide +kernel
theorem dX2_isSite_7 : decode cX2_isSite 7 = .ok (.if_icmp .ge 7, 3) := by decide +kernel
theorem dX2_isSite_10 : decode cX2_isSite 10 = .ok (.iconst 1, 1) := by decide +kernel
theorem dX2_isSite_11 : decode cX2_isSite 11 = .ok (.goto 4, 3) := by decide +kernel
theorem dX2_isSite_14 : decode cX2_isSite 14 = .ok (.iconst 0, 1) := by decide +kernel
theorem dX2_isSite_15 : decode cX2_isSite 15 = .ok (.ireturn, 1) := by decide +kernel
theorem dX2_column_0 : decode cX2_column 0 = .ok (.iload_n 0, 1) := by decide +kernel
theorem dX2_column_1 : decode cX2_column 1 = .ok (.bipush 10, 2) := by decide +kernel
theorem dX2_column_3 : decode cX2_column 3 = .ok (.irem, 1) := by decide +kernel
theorem dX2_column_4 : decode cX2_column 4 = .ok (.ireturn, 1) := by decide +kernel
theorem dX2_row_0 : decode cX2_row 0 = .ok (.iload_n 0, 1) := by decide +kernel
theorem dX2_row_1 : decode cX2_row 1 = .ok (.bipush 10, 2) := by decide +kernel
theorem dX2_row_3 : decode cX2_row 3 = .ok (.idiv, 1) := by decide +kernel
theorem dX2_row_4 : decode cX2_row 4 = .ok (.ireturn, 1) := by decide +kernel
theorem dX2_neighbour_0 : decode cX2_neighbour 0 = .ok (.iload_n 1, 1) := by decide +kernel
theorem dX2_neighbour_1 : decode cX2_neighbour 1 = .ok (.ifCond .lt 8, 3) := by decide +kernel
theorem dX2_neighbour_4 : decode cX2_neighbour 4 = .ok (.iload_n 1, 1) := by decide +kernel
theorem dX2_neighbour_5 : decode cX2_neighbour 5 = .ok (.iconst 4, 1) := by decide +kernel
theorem dX2_neighbour_6 : decode cX2_neighbour 6 = .ok (.if_icmp .lt 5, 3) := by decide +kernel
theorem dX2_neighbour_9 : decode cX2_neighbour 9 = .ok (.iconst (-1), 1) := by decide +kernel
theorem dX2_neighbour_10 : decode cX2_neighbour 10 = .ok (.ireturn, 1) := by decide +kernel
theorem dX2_neighbour_11 : decode cX2_neighbour 11 = .ok (.iload_n 0, 1) := by decide +kernel
theorem dX2_neighbour_12 : decode cX2_neighbour 12 = .ok (.invokestatic 9, 3) := by decide +kernel
theorem dX2_neighbour_15 : decode cX2_neighbour 15 = .ok (.getstatic 15, 3) := by decide +kernel
theorem dX2_neighbour_18 : decode cX2_neighbour 18 = .ok (.iload_n 1, 1) := by decide +kernel
theorem dX2_neighbour_19 : decode cX2_neighbour 19 = .ok (.iaload, 1) := by decide +kernel
theorem dX2_neighbour_20 : decode cX2_neighbour 20 = .ok (.iadd, 1) := by decide +kernel
theorem dX2_neighbour_21 : decode cX2_neighbour 21 = .ok (.iload_n 0, 1) := by decide +kernel
theorem dX2_neighbour_22 : decode cX2_neighbour 22 = .ok (.invokestatic 19, 3) := by decide +kernel
theorem dX2_neighbour_25 : decode cX2_neighbour 25 = .ok (.getstatic 22, 3) := by decide +kernel
theorem dX2_neighbour_28 : decode cX2_neighbour 28 = .ok (.iload_n 1, 1) := by decide +kernel
theorem dX2_neighbour_29 : decode cX2_neighbour 29 = .ok (.iaload, 1) := by decide +kernel
theorem dX2_neighbour_30 : decode cX2_neighbour 30 = .ok (.iadd, 1) := by decide +kernel
theorem dX2_neighbour_31 : decode cX2_neighbour 31 = .ok (.invokestatic 25, 3) := by decide +kernel
theorem dX2_neighbour_34 : decode cX2_neighbour 34 = .ok (.ireturn, 1) := by decide +kernel
theorem dX2_direction_0 : decode cX2_direction 0 = .ok (.iconst 0, 1) := by decide +kernel
theorem dX2_direction_1 : decode cX2_direction 1 = .ok (.istore_n 2, 1) := by decide +kernel
theorem dX2_direction_2 : decode cX2_direction 2 = .ok (.iload_n 2, 1) := by decide +kernel
theorem dX2_direction_3 : decode cX2_direction 3 = .ok (.iconst 3, 1) := by decide +kernel
theorem dX2_direction_4 : decode cX2_direction 4 = .ok (.if_icmp .ge 20, 3) := by decide +kernel
theorem dX2_direction_7 : decode cX2_direction 7 = .ok (.iload_n 0, 1) := by decide +kernel
theorem dX2_direction_8 : decode cX2_direction 8 = .ok (.iload_n 2, 1) := by decide +kernel
theorem dX2_direction_9 : decode cX2_direction 9 = .ok (.invokestatic 29, 3) := by decide +kernel
theorem dX2_direction_12 : decode cX2_direction 12 = .ok (.iload_n 1, 1) := by decide +kernel
theorem dX2_direction_13 : decode cX2_direction 13 = .ok (.if_icmp .ne 5, 3) := by decide +kernel
theorem dX2_direction_16 : decode cX2_direction 16 = .ok (.iload_n 2, 1) := by decide +kernel
theorem dX2_direction_17 : decode cX2_direction 17 = .ok (.ireturn, 1) := by decide +kernel
theorem dX2_direction_18 : decode cX2_direction 18 = .ok (.iinc 2 1, 3) := by decide +kernel
theorem dX2_direction_21 : decode cX2_direction 21 = .ok (.goto (-19), 3) := by decide +kernel
theorem dX2_direction_24 : decode cX2_direction 24 = .ok (.iconst 3, 1) := by decide +kernel
theorem dX2_direction_25 : decode cX2_direction 25 = .ok (.ireturn, 1) := by decide +kernel
theorem dX2_squaredDistance_0 : decode cX2_squaredDistance 0 = .ok (.iload_n 0, 1) := by decide +kernel
theorem dX2_squaredDistance_1 : decode cX2_squaredDistance 1 = .ok (.invokestatic 9, 3) := by decide +kernel
theorem dX2_squaredDistance_4 : decode cX2_squaredDistance 4 = .ok (.iload_n 1, 1) := by decide +kernel
theorem dX2_squaredDistance_5 : decode cX2_squaredDistance 5 = .ok (.invokestatic 9, 3) := by decide +kernel
theorem dX2_squaredDistance_8 : decode cX2_squaredDistance 8 = .ok (.isub, 1) := by decide +kernel
theorem dX2_squaredDistance_9 : decode cX2_squaredDistance 9 = .ok (.istore_n 2, 1) := by decide +kernel
theorem dX2_squaredDistance_10 : decode cX2_squaredDistance 10 = .ok (.iload_n 0, 1) := by decide +kernel
theorem dX2_squaredDistance_11 : decode cX2_squaredDistance 11 = .ok (.invokestatic 19, 3) := by decide +kernel
theorem dX2_squaredDistance_14 : decode cX2_squaredDistance 14 = .ok (.iload_n 1, 1) := by decide +kernel
theorem dX2_squaredDistance_15 : decode cX2_squaredDistance 15 = .ok (.invokestatic 19, 3) := by decide +kernel
theorem dX2_squaredDistance_18 : decode cX2_squaredDistance 18 = .ok (.isub, 1) := by decide +kernel
theorem dX2_squaredDistance_19 : decode cX2_squaredDistance 19 = .ok (.istore_n 3, 1) := by decide +kernel
theorem dX2_squaredDistance_20 : decode cX2_squaredDistance 20 = .ok (.iload_n 2, 1) := by decide +kernel
theorem dX2_squaredDistance_21 : decode cX2_squaredDistance 21 = .ok (.iload_n 2, 1) := by decide +kernel
theorem dX2_squaredDistance_22 : decode cX2_squaredDistance 22 = .ok (.imul, 1) := by decide +kernel
theorem dX2_squaredDistance_23 : decode cX2_squaredDistance 23 = .ok (.iload_n 3, 1) := by decide +kernel
theorem dX2_squaredDistance_24 : decode cX2_squaredDistance 24 = .ok (.iload_n 3, 1) := by decide +kernel
theorem dX2_squaredDistance_25 : decode cX2_squaredDistance 25 = .ok (.imul, 1) := by decide +kernel
theorem dX2_squaredDistance_26 : decode cX2_squaredDistance 26 = .ok (.iadd, 1) := by decide +kernel
theorem dX2_squaredDistance_27 : decode cX2_squaredDistance 27 = .ok (.ireturn, 1) := by decide +kernel
theorem dX2_areNeighbours_0 : decode cX2_areNeighbours 0 = .ok (.iload_n 0, 1) := by decide +kernel
theorem dX2_areNeighbours_1 : decode cX2_areNeighbours 1 = .ok (.iload_n 1, 1) := by decide +kernel
theorem dX2_areNeighbours_2 : decode cX2_areNeighbours 2 = .ok (.invokestatic 32, 3) := by decide +kernel
theorem dX2_areNeighbours_5 : decode cX2_areNeighbours 5 = .ok (.iconst 1, 1) := by decide +kernel
theorem dX2_areNeighbours_6 : decode cX2_areNeighbours 6 = .ok (.if_icmp .ne 7, 3) := by decide +kernel
theorem dX2_areNeighbours_9 : decode cX2_areNeighbours 9 = .ok (.iconst 1, 1) := by decide +kernel
theorem dX2_areNeighbours_10 : decode cX2_areNeighbours 10 = .ok (.goto 4, 3) := by decide +kernel
theorem dX2_areNeighbours_13 : decode cX2_areNeighbours 13 = .ok (.iconst 0, 1) := by decide +kernel
theorem dX2_areNeighbours_14 : decode cX2_areNeighbours 14 = .ok (.ireturn, 1) := by decide +kernel
theorem dX3_init_0 : decode cX3_init 0 = .ok (.aload_n 0, 1) := by decide +kernel
theorem dX3_init_1 : decode cX3_init 1 = .ok (.invokespecial 3, 3) := by decide +kernel
theorem dX3_init_4 : decode cX3_init 4 = .ok (.aload_n 0, 1) := by decide +kernel
theorem dX3_init_5 : decode cX3_init 5 = .ok (.bipush 70, 2) := by decide +kernel
theorem dX3_init_7 : decode cX3_init 7 = .ok (.newarray .char, 2) := by decide +kernel
theorem dX3_init_9 : decode cX3_init 9 = .ok (.putfield 9, 3) := by decide +kernel
theorem dX3_init_12 : decode cX3_init 12 = .ok (.return_, 1) := by decide +kernel
theorem dX3_length_0 : decode cX3_length 0 = .ok (.aload_n 0, 1) := by decide +kernel
theorem dX3_length_1 : decode cX3_length 1 = .ok (.getfield 15, 3) := by decide +kernel
theorem dX3_length_4 : decode cX3_length 4 = .ok (.ireturn, 1) := by decide +kernel
theorem dX3_isFull_0 : decode cX3_isFull 0 = .ok (.aload_n 0, 1) := by decide +kernel
theorem dX3_isFull_1 : decode cX3_isFull 1 = .ok (.getfield 15, 3) := by decide +kernel
theorem dX3_isFull_4 : decode cX3_isFull 4 = .ok (.bipush 70, 2) := by decide +kernel
theorem dX3_isFull_6 : decode cX3_isFull 6 = .ok (.if_icmp .lt 7, 3) := by decide +kernel
theorem dX3_isFull_9 : decode cX3_isFull 9 = .ok (.iconst 1, 1) := by decide +kernel
theorem dX3_isFull_10 : decode cX3_isFull 10 = .ok (.goto 4, 3) := by decide +kernel
theorem dX3_isFull_13 : decode cX3_isFull 13 = .ok (.iconst 0, 1) := by decide +kernel
theorem dX3_isFull_14 : decode cX3_isFull 14 = .ok (.ireturn, 1) := by decide +kernel
theorem dX3_clear_0 : decode cX3_clear 0 = .ok (.aload_n 0, 1) := by decide +kernel
theorem dX3_clear_1 : decode cX3_clear 1 = .ok (.iconst 0, 1) := by decide +kernel
theorem dX3_clear_2 : decode cX3_clear 2 = .ok (.putfield 15, 3) := by decide +kernel
theorem dX3_clear_5 : decode cX3_clear 5 = .ok (.return_, 1) := by decide +kernel
theorem dX3_add_0 : decode cX3_add 0 = .ok (.aload_n 0, 1) := by decide +kernel
theorem dX3_add_1 : decode cX3_add 1 = .ok (.invokevirtual 19, 3) := by decide +kernel
theorem dX3_add_4 : decode cX3_add 4 = .ok (.ifCond .ne 23, 3) := by decide +kernel
theorem dX3_add_7 : decode cX3_add 7 = .ok (.aload_n 0, 1) := by decide +kernel
theorem dX3_add_8 : decode cX3_add 8 = .ok (.getfield 9, 3) := by decide +kernel
theorem dX3_add_11 : decode cX3_add 11 = .ok (.aload_n 0, 1) := by decide +kernel
theorem dX3_add_12 : decode cX3_add 12 = .ok (.getfield 15, 3) := by decide +kernel
theorem dX3_add_15 : decode cX3_add 15 = .ok (.iload_n 1, 1) := by decide +kernel
theorem dX3_add_16 : decode cX3_add 16 = .ok (.castore, 1) := by decide +kernel
theorem dX3_add_17 : decode cX3_add 17 = .ok (.aload_n 0, 1) := by decide +kernel
theorem dX3_add_18 : decode cX3_add 18 = .ok (.dup, 1) := by decide +kernel
theorem dX3_add_19 : decode cX3_add 19 = .ok (.getfield 15, 3) := by decide +kernel
theorem dX3_add_22 : decode cX3_add 22 = .ok (.iconst 1, 1) := by decide +kernel
theorem dX3_add_23 : decode cX3_add 23 = .ok (.iadd, 1) := by decide +kernel
theorem dX3_add_24 : decode cX3_add 24 = .ok (.putfield 15, 3) := by decide +kernel
theorem dX3_add_27 : decode cX3_add 27 = .ok (.return_, 1) := by decide +kernel
theorem dX3_errorIndex_0 : decode cX3_errorIndex 0 = .ok (.iconst 0, 1) := by decide +kernel
theorem dX3_errorIndex_1 : decode cX3_errorIndex 1 = .ok (.istore_n 1, 1) := by decide +kernel
theorem dX3_errorIndex_2 : decode cX3_errorIndex 2 = .ok (.iload_n 1, 1) := by decide +kernel
theorem dX3_errorIndex_3 : decode cX3_errorIndex 3 = .ok (.aload_n 0, 1) := by decide +kernel
theorem dX3_errorIndex_4 : decode cX3_errorIndex 4 = .ok (.getfield 15, 3) := by decide +kernel
theorem dX3_errorIndex_7 : decode cX3_errorIndex 7 = .ok (.if_icmp .ge 24, 3) := by decide +kernel
theorem dX3_errorIndex_10 : decode cX3_errorIndex 10 = .ok (.iload_n 1, 1) := by decide +kernel
theorem dX3_errorIndex_11 : decode cX3_errorIndex 11 = .ok (.aload_n 0, 1) := by decide +kernel
theorem dX3_errorIndex_12 : decode cX3_errorIndex 12 = .ok (.getfield 9, 3) := by decide +kernel
theorem dX3_errorIndex_15 : decode cX3_errorIndex 15 = .ok (.iload_n 1, 1) := by decide +kernel
theorem dX3_errorIndex_16 : decode cX3_errorIndex 16 = .ok (.caload, 1) := by decide +kernel
theorem dX3_errorIndex_17 : decode cX3_errorIndex 17 = .ok (.invokestatic 23, 3) := by decide +kernel
theorem dX3_errorIndex_20 : decode cX3_errorIndex 20 = .ok (.ifCond .ne 5, 3) := by decide +kernel
theorem dX3_errorIndex_23 : decode cX3_errorIndex 23 = .ok (.iload_n 1, 1) := by decide +kernel
theorem dX3_errorIndex_24 : decode cX3_errorIndex 24 = .ok (.ireturn, 1) := by decide +kernel
theorem dX3_errorIndex_25 : decode cX3_errorIndex 25 = .ok (.iinc 1 1, 3) := by decide +kernel
theorem dX3_errorIndex_28 : decode cX3_errorIndex 28 = .ok (.goto (-26), 3) := by decide +kernel
theorem dX3_errorIndex_31 : decode cX3_errorIndex 31 = .ok (.aload_n 0, 1) := by decide +kernel
theorem dX3_errorIndex_32 : decode cX3_errorIndex 32 = .ok (.getfield 15, 3) := by decide +kernel
theorem dX3_errorIndex_35 : decode cX3_errorIndex 35 = .ok (.ireturn, 1) := by decide +kernel
theorem dX3_isComplete_0 : decode cX3_isComplete 0 = .ok (.aload_n 0, 1) := by decide +kernel
theorem dX3_isComplete_1 : decode cX3_isComplete 1 = .ok (.getfield 15, 3) := by decide +kernel
theorem dX3_isComplete_4 : decode cX3_isComplete 4 = .ok (.iconst 4, 1) := by decide +kernel
theorem dX3_isComplete_5 : decode cX3_isComplete 5 = .ok (.if_icmp .lt 18, 3) := by decide +kernel
theorem dX3_isComplete_8 : decode cX3_isComplete 8 = .ok (.aload_n 0, 1) := by decide +kernel
theorem dX3_isComplete_9 : decode cX3_isComplete 9 = .ok (.invokevirtual 27, 3) := by decide +kernel
theorem dX3_isComplete_12 : decode cX3_isComplete 12 = .ok (.aload_n 0, 1) := by decide +kernel
theorem dX3_isComplete_13 : decode cX3_isComplete 13 = .ok (.getfield 15, 3) := by decide +kernel
theorem dX3_isComplete_16 : decode cX3_isComplete 16 = .ok (.if_icmp .ne 7, 3) := by decide +kernel
theorem dX3_isComplete_19 : decode cX3_isComplete 19 = .ok (.iconst 1, 1) := by decide +kernel
theorem dX3_isComplete_20 : decode cX3_isComplete 20 = .ok (.goto 4, 3) := by decide +kernel
theorem dX3_isComplete_23 : decode cX3_isComplete 23 = .ok (.iconst 0, 1) := by decide +kernel
theorem dX3_isComplete_24 : decode cX3_isComplete 24 = .ok (.ireturn, 1) := by decide +kernel
theorem dX3_fits_0 : decode cX3_fits 0 = .ok (.iload_n 0, 1) := by decide +kernel
theorem dX3_fits_1 : decode cX3_fits 1 = .ok (.tableswitch 73 0 3 #[31, 49, 31, 61], 31) := by decide +kernel
theorem dX3_fits_32 : decode cX3_fits 32 = .ok (.iload_n 1, 1) := by decide +kernel
theorem dX3_fits_33 : decode cX3_fits 33 = .ok (.bipush 48, 2) := by decide +kernel
theorem dX3_fits_35 : decode cX3_fits 35 = .ok (.if_icmp .lt 13, 3) := by decide +kernel
theorem dX3_fits_38 : decode cX3_fits 38 = .ok (.iload_n 1, 1) := by decide +kernel
theorem dX3_fits_39 : decode cX3_fits 39 = .ok (.bipush 57, 2) := by decide +kernel
theorem dX3_fits_41 : decode cX3_fits 41 = .ok (.if_icmp .gt 7, 3) := by decide +kernel
theorem dX3_fits_44 : decode cX3_fits 44 = .ok (.iconst 1, 1) := by decide +kernel
theorem dX3_fits_45 : decode cX3_fits 45 = .ok (.goto 4, 3) := by decide +kernel
theorem dX3_fits_48 : decode cX3_fits 48 = .ok (.iconst 0, 1) := by decide +kernel
theorem dX3_fits_49 : decode cX3_fits 49 = .ok (.ireturn, 1) := by decide +kernel
theorem dX3_fits_50 : decode cX3_fits 50 = .ok (.iload_n 1, 1) := by decide +kernel
theorem dX3_fits_51 : decode cX3_fits 51 = .ok (.bipush 44, 2) := by decide +kernel
theorem dX3_fits_53 : decode cX3_fits 53 = .ok (.if_icmp .ne 7, 3) := by decide +kernel
theorem dX3_fits_56 : decode cX3_fits 56 = .ok (.iconst 1, 1) := by decide +kernel
theorem dX3_fits_57 : decode cX3_fits 57 = .ok (.goto 4, 3) := by decide +kernel
theorem dX3_fits_60 : decode cX3_fits 60 = .ok (.iconst 0, 1) := by decide +kernel
theorem dX3_fits_61 : decode cX3_fits 61 = .ok (.ireturn, 1) := by decide +kernel
theorem dX3_fits_62 : decode cX3_fits 62 = .ok (.iload_n 1, 1) := by decide +kernel
theorem dX3_fits_63 : decode cX3_fits 63 = .ok (.bipush 58, 2) := by decide +kernel
theorem dX3_fits_65 : decode cX3_fits 65 = .ok (.if_icmp .ne 7, 3) := by decide +kernel
theorem dX3_fits_68 : decode cX3_fits 68 = .ok (.iconst 1, 1) := by decide +kernel
theorem dX3_fits_69 : decode cX3_fits 69 = .ok (.goto 4, 3) := by decide +kernel
theorem dX3_fits_72 : decode cX3_fits 72 = .ok (.iconst 0, 1) := by decide +kernel
theorem dX3_fits_73 : decode cX3_fits 73 = .ok (.ireturn, 1) := by decide +kernel
theorem dX3_fits_74 : decode cX3_fits 74 = .ok (.ldc 31, 2) := by decide +kernel
theorem dX3_fits_76 : decode cX3_fits 76 = .ok (.iload_n 1, 1) := by decide +kernel
theorem dX3_fits_77 : decode cX3_fits 77 = .ok (.invokevirtual 33, 3) := by decide +kernel
theorem dX3_fits_80 : decode cX3_fits 80 = .ok (.ifCond .lt 7, 3) := by decide +kernel
theorem dX3_fits_83 : decode cX3_fits 83 = .ok (.iconst 1, 1) := by decide +kernel
theorem dX3_fits_84 : decode cX3_fits 84 = .ok (.goto 4, 3) := by decide +kernel
theorem dX3_fits_87 : decode cX3_fits 87 = .ok (.iconst 0, 1) := by decide +kernel
theorem dX3_fits_88 : decode cX3_fits 88 = .ok (.ireturn, 1) := by decide +kernel
theorem dX3_layOut_0 : decode cX3_layOut 0 = .ok (.aload_n 0, 1) := by decide +kernel
theorem dX3_layOut_1 : decode cX3_layOut 1 = .ok (.getfield 9, 3) := by decide +kernel
theorem dX3_layOut_4 : decode cX3_layOut 4 = .ok (.iconst 0, 1) := by decide +kernel
theorem dX3_layOut_5 : decode cX3_layOut 5 = .ok (.caload, 1) := by decide +kernel
theorem dX3_layOut_6 : decode cX3_layOut 6 = .ok (.bipush 48, 2) := by decide +kernel
theorem dX3_layOut_8 : decode cX3_layOut 8 = .ok (.isub, 1) := by decide +kernel
theorem dX3_layOut_9 : decode cX3_layOut 9 = .ok (.aload_n 0, 1) := by decide +kernel
theorem dX3_layOut_10 : decode cX3_layOut 10 = .ok (.getfield 9, 3) := by decide +kernel
theorem dX3_layOut_13 : decode cX3_layOut 13 = .ok (.iconst 2, 1) := by decide +kernel
theorem dX3_layOut_14 : decode cX3_layOut 14 = .ok (.caload, 1) := by decide +kernel
theorem dX3_layOut_15 : decode cX3_layOut 15 = .ok (.bipush 48, 2) := by decide +kernel
theorem dX3_layOut_17 : decode cX3_layOut 17 = .ok (.isub, 1) := by decide +kernel
theorem dX3_layOut_18 : decode cX3_layOut 18 = .ok (.invokestatic 39, 3) := by decide +kernel
theorem dX3_layOut_21 : decode cX3_layOut 21 = .ok (.istore_n 3, 1) := by decide +kernel
theorem dX3_layOut_22 : decode cX3_layOut 22 = .ok (.aload_n 2, 1) := by decide +kernel
theorem dX3_layOut_23 : decode cX3_layOut 23 = .ok (.iload_n 3, 1) := by decide +kernel
theorem dX3_layOut_24 : decode cX3_layOut 24 = .ok (.invokevirtual 45, 3) := by decide +kernel
theorem dX3_layOut_27 : decode cX3_layOut 27 = .ok (.ifCond .ne 5, 3) := by decide +kernel
theorem dX3_layOut_30 : decode cX3_layOut 30 = .ok (.iconst 0, 1) := by decide +kernel
theorem dX3_layOut_31 : decode cX3_layOut 31 = .ok (.ireturn, 1) := by decide +kernel
theorem dX3_layOut_32 : decode cX3_layOut 32 = .ok (.aload_n 1, 1) := by decide +kernel
theorem dX3_layOut_33 : decode cX3_layOut 33 = .ok (.iload_n 3, 1) := by decide +kernel
theorem dX3_layOut_34 : decode cX3_layOut 34 = .ok (.invokevirtual 51, 3) := by decide +kernel
theorem dX3_layOut_37 : decode cX3_layOut 37 = .ok (.iconst 4, 1) := by decide +kernel
theorem dX3_layOut_38 : decode cX3_layOut 38 = .ok (.istore 4, 2) := by decide +kernel
theorem dX3_layOut_40 : decode cX3_layOut 40 = .ok (.iload 4, 2) := by decide +kernel
theorem dX3_layOut_42 : decode cX3_layOut 42 = .ok (.aload_n 0, 1) := by decide +kernel
theorem dX3_layOut_43 : decode cX3_layOut 43 = .ok (.getfield 15, 3) := by decide +kernel
theorem dX3_layOut_46 : decode cX3_layOut 46 = .ok (.if_icmp .ge 56, 3) := by decide +kernel
theorem dX3_layOut_49 : decode cX3_layOut 49 = .ok (.iload_n 3, 1) := by decide +kernel
theorem dX3_layOut_50 : decode cX3_layOut 50 = .ok (.ldc 31, 2) := by decide +kernel
theorem dX3_layOut_52 : decode cX3_layOut 52 = .ok (.aload_n 0, 1) := by decide +kernel
theorem dX3_layOut_53 : decode cX3_layOut 53 = .ok (.getfield 9, 3) := by decide +kernel
theorem dX3_layOut_56 : decode cX3_layOut 56 = .ok (.iload 4, 2) := by decide +kernel
theorem dX3_layOut_58 : decode cX3_layOut 58 = .ok (.caload, 1) := by decide +kernel
theorem dX3_layOut_59 : decode cX3_layOut 59 = .ok (.invokevirtual 33, 3) := by decide +kernel
theorem dX3_layOut_62 : decode cX3_layOut 62 = .ok (.invokestatic 57, 3) := by decide +kernel
theorem dX3_layOut_65 : decode cX3_layOut 65 = .ok (.istore_n 3, 1) := by decide +kernel
theorem dX3_layOut_66 : decode cX3_layOut 66 = .ok (.aload_n 2, 1) := by decide +kernel
theorem dX3_layOut_67 : decode cX3_layOut 67 = .ok (.iload_n 3, 1) := by decide +kernel
theorem dX3_layOut_68 : decode cX3_layOut 68 = .ok (.invokevirtual 45, 3) := by decide +kernel
theorem dX3_layOut_71 : decode cX3_layOut 71 = .ok (.ifCond .eq 18, 3) := by decide +kernel
theorem dX3_layOut_74 : decode cX3_layOut 74 = .ok (.aload_n 1, 1) := by decide +kernel
theorem dX3_layOut_75 : decode cX3_layOut 75 = .ok (.iload_n 3, 1) := by decide +kernel
theorem dX3_layOut_76 : decode cX3_layOut 76 = .ok (.invokevirtual 60, 3) := by decide +kernel
theorem dX3_layOut_79 : decode cX3_layOut 79 = .ok (.ifCond .ne 10, 3) := by decide +kernel
theorem dX3_layOut_82 : decode cX3_layOut 82 = .ok (.aload_n 1, 1) := by decide +kernel
theorem dX3_layOut_83 : decode cX3_layOut 83 = .ok (.invokevirtual 63, 3) := by decide +kernel
theorem dX3_layOut_86 : decode cX3_layOut 86 = .ok (.ifCond .eq 5, 3) := by decide +kernel
theorem dX3_layOut_89 : decode cX3_layOut 89 = .ok (.iconst 0, 1) := by decide +kernel
theorem dX3_layOut_90 : decode cX3_layOut 90 = .ok (.ireturn, 1) := by decide +kernel
theorem dX3_layOut_91 : decode cX3_layOut 91 = .ok (.aload_n 1, 1) := by decide +kernel
theorem dX3_layOut_92 : decode cX3_layOut 92 = .ok (.iload_n 3, 1) := by decide +kernel
theorem dX3_layOut_93 : decode cX3_layOut 93 = .ok (.invokevirtual 64, 3) := by decide +kernel
theorem dX3_layOut_96 : decode cX3_layOut 96 = .ok (.iinc 4 1, 3) := by decide +kernel
theorem dX3_layOut_99 : decode cX3_layOut 99 = .ok (.goto (-59), 3) := by decide +kernel
theorem dX3_layOut_102 : decode cX3_layOut 102 = .ok (.iconst 1, 1) := by decide +kernel
theorem dX3_layOut_103 : decode cX3_layOut 103 = .ok (.ireturn, 1) := by decide +kernel
theorem dX3_tell_0 : decode cX3_tell 0 = .ok (.aload_n 0, 1) := by decide +kernel
theorem dX3_tell_1 : decode cX3_tell 1 = .ok (.invokevirtual 67, 3) := by decide +kernel
theorem dX3_tell_4 : decode cX3_tell 4 = .ok (.aload_n 0, 1) := by decide +kernel
theorem dX3_tell_5 : decode cX3_tell 5 = .ok (.bipush 48, 2) := by decide +kernel
theorem dX3_tell_7 : decode cX3_tell 7 = .ok (.aload_n 1, 1) := by decide +kernel
theorem dX3_tell_8 : decode cX3_tell 8 = .ok (.invokevirtual 70, 3) := by decide +kernel
theorem dX3_tell_11 : decode cX3_tell 11 = .ok (.invokestatic 73, 3) := by decide +kernel
theorem dX3_tell_14 : decode cX3_tell 14 = .ok (.iadd, 1) := by decide +kernel
theorem dX3_tell_15 : decode cX3_tell 15 = .ok (.i2c, 1) := by decide +kernel
theorem dX3_tell_16 : decode cX3_tell 16 = .ok (.invokevirtual 76, 3) := by decide +kernel
theorem dX3_tell_19 : decode cX3_tell 19 = .ok (.aload_n 0, 1) := by decide +kernel
theorem dX3_tell_20 : decode cX3_tell 20 = .ok (.bipush 44, 2) := by decide +kernel
theorem dX3_tell_22 : decode cX3_tell 22 = .ok (.invokevirtual 76, 3) := by decide +kernel
theorem dX3_tell_25 : decode cX3_tell 25 = .ok (.aload_n 0, 1) := by decide +kernel
theorem dX3_tell_26 : decode cX3_tell 26 = .ok (.bipush 48, 2) := by decide +kernel
theorem dX3_tell_28 : decode cX3_tell 28 = .ok (.aload_n 1, 1) := by decide +kernel
theorem dX3_tell_29 : decode cX3_tell 29 = .ok (.invokevirtual 70, 3) := by decide +kernel
theorem dX3_tell_32 : decode cX3_tell 32 = .ok (.invokestatic 80, 3) := by decide +kernel
theorem dX3_tell_35 : decode cX3_tell 35 = .ok (.iadd, 1) := by decide +kernel
theorem dX3_tell_36 : decode cX3_tell 36 = .ok (.i2c, 1) := by decide +kernel
theorem dX3_tell_37 : decode cX3_tell 37 = .ok (.invokevirtual 76, 3) := by decide +kernel
theorem dX3_tell_40 : decode cX3_tell 40 = .ok (.aload_n 0, 1) := by decide +kernel
theorem dX3_tell_41 : decode cX3_tell 41 = .ok (.bipush 58, 2) := by decide +kernel
theorem dX3_tell_43 : decode cX3_tell 43 = .ok (.invokevirtual 76, 3) := by decide +kernel
theorem dX3_tell_46 : decode cX3_tell 46 = .ok (.iconst 0, 1) := by decide +kernel
theorem dX3_tell_47 : decode cX3_tell 47 = .ok (.istore_n 2, 1) := by decide +kernel
theorem dX3_tell_48 : decode cX3_tell 48 = .ok (.iload_n 2, 1) := by decide +kernel
theorem dX3_tell_49 : decode cX3_tell 49 = .ok (.aload_n 1, 1) := by decide +kernel
theorem dX3_tell_50 : decode cX3_tell 50 = .ok (.invokevirtual 83, 3) := by decide +kernel
theorem dX3_tell_53 : decode cX3_tell 53 = .ok (.if_icmp .ge 23, 3) := by decide +kernel
theorem dX3_tell_56 : decode cX3_tell 56 = .ok (.aload_n 0, 1) := by decide +kernel
theorem dX3_tell_57 : decode cX3_tell 57 = .ok (.ldc 31, 2) := by decide +kernel
theorem dX3_tell_59 : decode cX3_tell 59 = .ok (.aload_n 1, 1) := by decide +kernel
theorem dX3_tell_60 : decode cX3_tell 60 = .ok (.iload_n 2, 1) := by decide +kernel
theorem dX3_tell_61 : decode cX3_tell 61 = .ok (.invokevirtual 86, 3) := by decide +kernel
theorem dX3_tell_64 : decode cX3_tell 64 = .ok (.invokevirtual 89, 3) := by decide +kernel
theorem dX3_tell_67 : decode cX3_tell 67 = .ok (.invokevirtual 76, 3) := by decide +kernel
theorem dX3_tell_70 : decode cX3_tell 70 = .ok (.iinc 2 1, 3) := by decide +kernel
theorem dX3_tell_73 : decode cX3_tell 73 = .ok (.goto (-25), 3) := by decide +kernel
theorem dX3_tell_76 : decode cX3_tell 76 = .ok (.return_, 1) := by decide +kernel
theorem dX4_init_0 : decode cX4_init 0 = .ok (.aload_n 0, 1) := by decide +kernel
theorem dX4_init_1 : decode cX4_init 1 = .ok (.invokespecial 3, 3) := by decide +kernel
theorem dX4_init_4 : decode cX4_init 4 = .ok (.aload_n 0, 1) := by decide +kernel
theorem dX4_init_5 : decode cX4_init 5 = .ok (.bipush 100, 2) := by decide +kernel
theorem dX4_init_7 : decode cX4_init 7 = .ok (.newarray .int, 2) := by decide +kernel
theorem dX4_init_9 : decode cX4_init 9 = .ok (.putfield 9, 3) := by decide +kernel
theorem dX4_init_12 : decode cX4_init 12 = .ok (.aload_n 0, 1) := by decide +kernel
theorem dX4_init_13 : decode cX4_init 13 = .ok (.bipush 100, 2) := by decide +kernel
theorem dX4_init_15 : decode cX4_init 15 = .ok (.newarray .int, 2) := by decide +kernel
theorem dX4_init_17 : decode cX4_init 17 = .ok (.putfield 15, 3) := by decide +kernel
theorem dX4_init_20 : decode cX4_init 20 = .ok (.aload_n 0, 1) := by decide +kernel
theorem dX4_init_21 : decode cX4_init 21 = .ok (.bipush 100, 2) := by decide +kernel
theorem dX4_init_23 : decode cX4_init 23 = .ok (.newarray .boolean, 2) := by decide +kernel
theorem dX4_init_25 : decode cX4_init 25 = .ok (.putfield 18, 3) := by decide +kernel
theorem dX4_init_28 : decode cX4_init 28 = .ok (.aload_n 0, 1) := by decide +kernel
theorem dX4_init_29 : decode cX4_init 29 = .ok (.bipush 100, 2) := by decide +kernel
theorem dX4_init_31 : decode cX4_init 31 = .ok (.newarray .int, 2) := by decide +kernel
theorem dX4_init_33 : decode cX4_init 33 = .ok (.putfield 22, 3) := by decide +kernel
theorem dX4_init_36 : decode cX4_init 36 = .ok (.return_, 1) := by decide +kernel
theorem dX4_explore_0 : decode cX4_explore 0 = .ok (.aload_n 0, 1) := by decide +kernel
theorem dX4_explore_1 : decode cX4_explore 1 = .ok (.getfield 9, 3) := by decide +kernel
theorem dX4_explore_4 : decode cX4_explore 4 = .ok (.iconst (-1), 1) := by decide +kernel
theorem dX4_explore_5 : decode cX4_explore 5 = .ok (.invokestatic 25, 3) := by decide +kernel
theorem dX4_explore_8 : decode cX4_explore 8 = .ok (.aload_n 0, 1) := by decide +kernel
theorem dX4_explore_9 : decode cX4_explore 9 = .ok (.iconst 0, 1) := by decide +kernel
theorem dX4_explore_10 : decode cX4_explore 10 = .ok (.putfield 31, 3) := by decide +kernel
theorem dX4_explore_13 : decode cX4_explore 13 = .ok (.iconst 0, 1) := by decide +kernel
theorem dX4_explore_14 : decode cX4_explore 14 = .ok (.istore_n 2, 1) := by decide +kernel
theorem dX4_explore_15 : decode cX4_explore 15 = .ok (.iload_n 2, 1) := by decide +kernel
theorem dX4_explore_16 : decode cX4_explore 16 = .ok (.bipush 100, 2) := by decide +kernel
theorem dX4_explore_18 : decode cX4_explore 18 = .ok (.if_icmp .ge 53, 3) := by decide +kernel
theorem dX4_explore_21 : decode cX4_explore 21 = .ok (.aload_n 0, 1) := by decide +kernel
theorem dX4_explore_22 : decode cX4_explore 22 = .ok (.aload_n 1, 1) := by decide +kernel
theorem dX4_explore_23 : decode cX4_explore 23 = .ok (.iload_n 2, 1) := by decide +kernel
theorem dX4_explore_24 : decode cX4_explore 24 = .ok (.invokevirtual 35, 3) := by decide +kernel
theorem dX4_explore_27 : decode cX4_explore 27 = .ok (.ifCond .eq 38, 3) := by decide +kernel
theorem dX4_explore_30 : decode cX4_explore 30 = .ok (.aload_n 0, 1) := by decide +kernel
theorem dX4_explore_31 : decode cX4_explore 31 = .ok (.getfield 15, 3) := by decide +kernel
theorem dX4_explore_34 : decode cX4_explore 34 = .ok (.aload_n 0, 1) := by decide +kernel
theorem dX4_explore_35 : decode cX4_explore 35 = .ok (.getfield 31, 3) := by decide +kernel
theorem dX4_explore_38 : decode cX4_explore 38 = .ok (.aload_n 0, 1) := by decide +kernel
theorem dX4_explore_39 : decode cX4_explore 39 = .ok (.aload_n 1, 1) := by decide +kernel
theorem dX4_explore_40 : decode cX4_explore 40 = .ok (.iload_n 2, 1) := by decide +kernel
theorem dX4_explore_41 : decode cX4_explore 41 = .ok (.invokevirtual 39, 3) := by decide +kernel
theorem dX4_explore_44 : decode cX4_explore 44 = .ok (.iastore, 1) := by decide +kernel
theorem dX4_explore_45 : decode cX4_explore 45 = .ok (.aload_n 0, 1) := by decide +kernel
theorem dX4_explore_46 : decode cX4_explore 46 = .ok (.getfield 18, 3) := by decide +kernel
theorem dX4_explore_49 : decode cX4_explore 49 = .ok (.aload_n 0, 1) := by decide +kernel
theorem dX4_explore_50 : decode cX4_explore 50 = .ok (.getfield 31, 3) := by decide +kernel
theorem dX4_explore_53 : decode cX4_explore 53 = .ok (.iconst 0, 1) := by decide +kernel
theorem dX4_explore_54 : decode cX4_explore 54 = .ok (.bastore, 1) := by decide +kernel
theorem dX4_explore_55 : decode cX4_explore 55 = .ok (.aload_n 0, 1) := by decide +kernel
theorem dX4_explore_56 : decode cX4_explore 56 = .ok (.dup, 1) := by decide +kernel
theorem dX4_explore_57 : decode cX4_explore 57 = .ok (.getfield 31, 3) := by decide +kernel
theorem dX4_explore_60 : decode cX4_explore 60 = .ok (.iconst 1, 1) := by decide +kernel
theorem dX4_explore_61 : decode cX4_explore 61 = .ok (.iadd, 1) := by decide +kernel
theorem dX4_explore_62 : decode cX4_explore 62 = .ok (.putfield 31, 3) := by decide +kernel
theorem dX4_explore_65 : decode cX4_explore 65 = .ok (.iinc 2 1, 3) := by decide +kernel
theorem dX4_explore_68 : decode cX4_explore 68 = .ok (.goto (-53), 3) := by decide +kernel
theorem dX4_explore_71 : decode cX4_explore 71 = .ok (.return_, 1) := by decide +kernel
theorem dX4_flood_0 : decode cX4_flood 0 = .ok (.aload_n 0, 1) := by decide +kernel
theorem dX4_flood_1 : decode cX4_flood 1 = .ok (.getfield 9, 3) := by decide +kernel
theorem dX4_flood_4 : decode cX4_flood 4 = .ok (.iload_n 2, 1) := by decide +kernel
theorem dX4_flood_5 : decode cX4_flood 5 = .ok (.aload_n 0, 1) := by decide +kernel
theorem dX4_flood_6 : decode cX4_flood 6 = .ok (.getfield 31, 3) := by decide +kernel
theorem dX4_flood_9 : decode cX4_flood 9 = .ok (.iastore, 1) := by decide +kernel
theorem dX4_flood_10 : decode cX4_flood 10 = .ok (.aload_n 0, 1) := by decide +kernel
theorem dX4_flood_11 : decode cX4_flood 11 = .ok (.getfield 22, 3) := by decide +kernel
theorem dX4_flood_14 : decode cX4_flood 14 = .ok (.iconst 0, 1) := by decide +kernel
theorem dX4_flood_15 : decode cX4_flood 15 = .ok (.iload_n 2, 1) := by decide +kernel
theorem dX4_flood_16 : decode cX4_flood 16 = .ok (.iastore, 1) := by decide +kernel
theorem dX4_flood_17 : decode cX4_flood 17 = .ok (.iconst 1, 1) := by decide +kernel
theorem dX4_flood_18 : decode cX4_flood 18 = .ok (.istore_n 3, 1) := by decide +kernel
theorem dX4_flood_19 : decode cX4_flood 19 = .ok (.iconst 0, 1) := by decide +kernel
theorem dX4_flood_20 : decode cX4_flood 20 = .ok (.istore 4, 2) := by decide +kernel
theorem dX4_flood_22 : decode cX4_flood 22 = .ok (.iload 4, 2) := by decide +kernel
theorem dX4_flood_24 : decode cX4_flood 24 = .ok (.iload_n 3, 1) := by decide +kernel
theorem dX4_flood_25 : decode cX4_flood 25 = .ok (.if_icmp .ge 83, 3) := by decide +kernel
theorem dX4_flood_28 : decode cX4_flood 28 = .ok (.iload 4, 2) := by decide +kernel
theorem dX4_flood_30 : decode cX4_flood 30 = .ok (.bipush 100, 2) := by decide +kernel
theorem dX4_flood_32 : decode cX4_flood 32 = .ok (.if_icmp .ge 76, 3) := by decide +kernel
theorem dX4_flood_35 : decode cX4_flood 35 = .ok (.iconst 0, 1) := by decide +kernel
theorem dX4_flood_36 : decode cX4_flood 36 = .ok (.istore 5, 2) := by decide +kernel
theorem dX4_flood_38 : decode cX4_flood 38 = .ok (.iload 5, 2) := by decide +kernel
theorem dX4_flood_40 : decode cX4_flood 40 = .ok (.iconst 4, 1) := by decide +kernel
theorem dX4_flood_41 : decode cX4_flood 41 = .ok (.if_icmp .ge 61, 3) := by decide +kernel
theorem dX4_flood_44 : decode cX4_flood 44 = .ok (.aload_n 0, 1) := by decide +kernel
theorem dX4_flood_45 : decode cX4_flood 45 = .ok (.getfield 22, 3) := by decide +kernel
theorem dX4_flood_48 : decode cX4_flood 48 = .ok (.iload 4, 2) := by decide +kernel
theorem dX4_flood_50 : decode cX4_flood 50 = .ok (.iaload, 1) := by decide +kernel
theorem dX4_flood_51 : decode cX4_flood 51 = .ok (.iload 5, 2) := by decide +kernel
theorem dX4_flood_53 : decode cX4_flood 53 = .ok (.invokestatic 43, 3) := by decide +kernel
theorem dX4_flood_56 : decode cX4_flood 56 = .ok (.istore 6, 2) := by decide +kernel
theorem dX4_flood_58 : decode cX4_flood 58 = .ok (.aload_n 0, 1) := by decide +kernel
theorem dX4_flood_59 : decode cX4_flood 59 = .ok (.aload_n 1, 1) := by decide +kernel
theorem dX4_flood_60 : decode cX4_flood 60 = .ok (.iload 6, 2) := by decide +kernel
theorem dX4_flood_62 : decode cX4_flood 62 = .ok (.invokevirtual 35, 3) := by decide +kernel
theorem dX4_flood_65 : decode cX4_flood 65 = .ok (.ifCond .eq 31, 3) := by decide +kernel
theorem dX4_flood_68 : decode cX4_flood 68 = .ok (.iload_n 3, 1) := by decide +kernel
theorem dX4_flood_69 : decode cX4_flood 69 = .ok (.bipush 100, 2) := by decide +kernel
theorem dX4_flood_71 : decode cX4_flood 71 = .ok (.if_icmp .ge 25, 3) := by decide +kernel
theorem dX4_flood_74 : decode cX4_flood 74 = .ok (.aload_n 0, 1) := by decide +kernel
theorem dX4_flood_75 : decode cX4_flood 75 = .ok (.getfield 9, 3) := by decide +kernel
theorem dX4_flood_78 : decode cX4_flood 78 = .ok (.iload 6, 2) := by decide +kernel
theorem dX4_flood_80 : decode cX4_flood 80 = .ok (.aload_n 0, 1) := by decide +kernel
theorem dX4_flood_81 : decode cX4_flood 81 = .ok (.getfield 31, 3) := by decide +kernel
theorem dX4_flood_84 : decode cX4_flood 84 = .ok (.iastore, 1) := by decide +kernel
theorem dX4_flood_85 : decode cX4_flood 85 = .ok (.aload_n 0, 1) := by decide +kernel
theorem dX4_flood_86 : decode cX4_flood 86 = .ok (.getfield 22, 3) := by decide +kernel
theorem dX4_flood_89 : decode cX4_flood 89 = .ok (.iload_n 3, 1) := by decide +kernel
theorem dX4_flood_90 : decode cX4_flood 90 = .ok (.iload 6, 2) := by decide +kernel
theorem dX4_flood_92 : decode cX4_flood 92 = .ok (.iastore, 1) := by decide +kernel
theorem dX4_flood_93 : decode cX4_flood 93 = .ok (.iinc 3 1, 3) := by decide +kernel
theorem dX4_flood_96 : decode cX4_flood 96 = .ok (.iinc 5 1, 3) := by decide +kernel
theorem dX4_flood_99 : decode cX4_flood 99 = .ok (.goto (-61), 3) := by decide +kernel
theorem dX4_flood_102 : decode cX4_flood 102 = .ok (.iinc 4 1, 3) := by decide +kernel
theorem dX4_flood_105 : decode cX4_flood 105 = .ok (.goto (-83), 3) := by decide +kernel
theorem dX4_flood_108 : decode cX4_flood 108 = .ok (.iload_n 3, 1) := by decide +kernel
theorem dX4_flood_109 : decode cX4_flood 109 = .ok (.ireturn, 1) := by decide +kernel
theorem dX4_isUnseen_0 : decode cX4_isUnseen 0 = .ok (.aload_n 1, 1) := by decide +kernel
theorem dX4_isUnseen_1 : decode cX4_isUnseen 1 = .ok (.iload_n 2, 1) := by decide +kernel
theorem dX4_isUnseen_2 : decode cX4_isUnseen 2 = .ok (.invokevirtual 49, 3) := by decide +kernel
theorem dX4_isUnseen_5 : decode cX4_isUnseen 5 = .ok (.ifCond .eq 17, 3) := by decide +kernel
theorem dX4_isUnseen_8 : decode cX4_isUnseen 8 = .ok (.aload_n 0, 1) := by decide +kernel
theorem dX4_isUnseen_9 : decode cX4_isUnseen 9 = .ok (.getfield 9, 3) := by decide +kernel
theorem dX4_isUnseen_12 : decode cX4_isUnseen 12 = .ok (.iload_n 2, 1) := by decide +kernel
theorem dX4_isUnseen_13 : decode cX4_isUnseen 13 = .ok (.iaload, 1) := by decide +kernel
theorem dX4_isUnseen_14 : decode cX4_isUnseen 14 = .ok (.iconst (-1), 1) := by decide +kernel
theorem dX4_isUnseen_15 : decode cX4_isUnseen 15 = .ok (.if_icmp .ne 7, 3) := by decide +kernel
theorem dX4_isUnseen_18 : decode cX4_isUnseen 18 = .ok (.iconst 1, 1) := by decide +kernel
theorem dX4_isUnseen_19 : decode cX4_isUnseen 19 = .ok (.goto 4, 3) := by decide +kernel
theorem dX4_isUnseen_22 : decode cX4_isUnseen 22 = .ok (.iconst 0, 1) := by decide +kernel
theorem dX4_isUnseen_23 : decode cX4_isUnseen 23 = .ok (.ireturn, 1) := by decide +kernel
theorem dX4_size_0 : decode cX4_size 0 = .ok (.aload_n 0, 1) := by decide +kernel
theorem dX4_size_1 : decode cX4_size 1 = .ok (.getfield 31, 3) := by decide +kernel
theorem dX4_size_4 : decode cX4_size 4 = .ok (.ireturn, 1) := by decide +kernel
theorem dX4_greatest_0 : decode cX4_greatest 0 = .ok (.iconst 0, 1) := by decide +kernel
theorem dX4_greatest_1 : decode cX4_greatest 1 = .ok (.istore_n 1, 1) := by decide +kernel
theorem dX4_greatest_2 : decode cX4_greatest 2 = .ok (.iconst 0, 1) := by decide +kernel
theorem dX4_greatest_3 : decode cX4_greatest 3 = .ok (.istore_n 2, 1) := by decide +kernel
theorem dX4_greatest_4 : decode cX4_greatest 4 = .ok (.iload_n 2, 1) := by decide +kernel
theorem dX4_greatest_5 : decode cX4_greatest 5 = .ok (.aload_n 0, 1) := by decide +kernel
theorem dX4_greatest_6 : decode cX4_greatest 6 = .ok (.getfield 31, 3) := by decide +kernel
theorem dX4_greatest_9 : decode cX4_greatest 9 = .ok (.if_icmp .ge 20, 3) := by decide +kernel
theorem dX4_greatest_12 : decode cX4_greatest 12 = .ok (.iload_n 1, 1) := by decide +kernel
theorem dX4_greatest_13 : decode cX4_greatest 13 = .ok (.aload_n 0, 1) := by decide +kernel
theorem dX4_greatest_14 : decode cX4_greatest 14 = .ok (.getfield 15, 3) := by decide +kernel
theorem dX4_greatest_17 : decode cX4_greatest 17 = .ok (.iload_n 2, 1) := by decide +kernel
theorem dX4_greatest_18 : decode cX4_greatest 18 = .ok (.iaload, 1) := by decide +kernel
theorem dX4_greatest_19 : decode cX4_greatest 19 = .ok (.invokestatic 55, 3) := by decide +kernel
theorem dX4_greatest_22 : decode cX4_greatest 22 = .ok (.istore_n 1, 1) := by decide +kernel
theorem dX4_greatest_23 : decode cX4_greatest 23 = .ok (.iinc 2 1, 3) := by decide +kernel
theorem dX4_greatest_26 : decode cX4_greatest 26 = .ok (.goto (-22), 3) := by decide +kernel
theorem dX4_greatest_29 : decode cX4_greatest 29 = .ok (.iload_n 1, 1) := by decide +kernel
theorem dX4_greatest_30 : decode cX4_greatest 30 = .ok (.ireturn, 1) := by decide +kernel
theorem dX4_chooseAround_0 : decode cX4_chooseAround 0 = .ok (.iconst 0, 1) := by decide +kernel
theorem dX4_chooseAround_1 : decode cX4_chooseAround 1 = .ok (.istore_n 2, 1) := by decide +kernel
theorem dX4_chooseAround_2 : decode cX4_chooseAround 2 = .ok (.iload_n 2, 1) := by decide +kernel
theorem dX4_chooseAround_3 : decode cX4_chooseAround 3 = .ok (.iconst 4, 1) := by decide +kernel
theorem dX4_chooseAround_4 : decode cX4_chooseAround 4 = .ok (.if_icmp .ge 44, 3) := by decide +kernel
theorem dX4_chooseAround_7 : decode cX4_chooseAround 7 = .ok (.iload_n 1, 1) := by decide +kernel
theorem dX4_chooseAround_8 : decode cX4_chooseAround 8 = .ok (.iload_n 2, 1) := by decide +kernel
theorem dX4_chooseAround_9 : decode cX4_chooseAround 9 = .ok (.invokestatic 43, 3) := by decide +kernel
theorem dX4_chooseAround_12 : decode cX4_chooseAround 12 = .ok (.istore_n 3, 1) := by decide +kernel
theorem dX4_chooseAround_13 : decode cX4_chooseAround 13 = .ok (.iload_n 3, 1) := by decide +kernel
theorem dX4_chooseAround_14 : decode cX4_chooseAround 14 = .ok (.invokestatic 60, 3) := by decide +kernel
theorem dX4_chooseAround_17 : decode cX4_chooseAround 17 = .ok (.ifCond .eq 25, 3) := by decide +kernel
theorem dX4_chooseAround_20 : decode cX4_chooseAround 20 = .ok (.aload_n 0, 1) := by decide +kernel
theorem dX4_chooseAround_21 : decode cX4_chooseAround 21 = .ok (.getfield 9, 3) := by decide +kernel
theorem dX4_chooseAround_24 : decode cX4_chooseAround 24 = .ok (.iload_n 3, 1) := by decide +kernel
theorem dX4_chooseAround_25 : decode cX4_chooseAround 25 = .ok (.iaload, 1) := by decide +kernel
theorem dX4_chooseAround_26 : decode cX4_chooseAround 26 = .ok (.iconst (-1), 1) := by decide +kernel
theorem dX4_chooseAround_27 : decode cX4_chooseAround 27 = .ok (.if_icmp .eq 15, 3) := by decide +kernel
theorem dX4_chooseAround_30 : decode cX4_chooseAround 30 = .ok (.aload_n 0, 1) := by decide +kernel
theorem dX4_chooseAround_31 : decode cX4_chooseAround 31 = .ok (.getfield 18, 3) := by decide +kernel
theorem dX4_chooseAround_34 : decode cX4_chooseAround 34 = .ok (.aload_n 0, 1) := by decide +kernel
theorem dX4_chooseAround_35 : decode cX4_chooseAround 35 = .ok (.getfield 9, 3) := by decide +kernel
theorem dX4_chooseAround_38 : decode cX4_chooseAround 38 = .ok (.iload_n 3, 1) := by decide +kernel
theorem dX4_chooseAround_39 : decode cX4_chooseAround 39 = .ok (.iaload, 1) := by decide +kernel
theorem dX4_chooseAround_40 : decode cX4_chooseAround 40 = .ok (.iconst 1, 1) := by decide +kernel
theorem dX4_chooseAround_41 : decode cX4_chooseAround 41 = .ok (.bastore, 1) := by decide +kernel
theorem dX4_chooseAround_42 : decode cX4_chooseAround 42 = .ok (.iinc 2 1, 3) := by decide +kernel
theorem dX4_chooseAround_45 : decode cX4_chooseAround 45 = .ok (.goto (-43), 3) := by decide +kernel
theorem dX4_chooseAround_48 : decode cX4_chooseAround 48 = .ok (.return_, 1) := by decide +kernel
theorem dX4_chosenRegions_0 : decode cX4_chosenRegions 0 = .ok (.iconst 0, 1) := by decide +kernel
theorem dX4_chosenRegions_1 : decode cX4_chosenRegions 1 = .ok (.istore_n 1, 1) := by decide +kernel
theorem dX4_chosenRegions_2 : decode cX4_chosenRegions 2 = .ok (.iconst 0, 1) := by decide +kernel
theorem dX4_chosenRegions_3 : decode cX4_chosenRegions 3 = .ok (.istore_n 2, 1) := by decide +kernel
theorem dX4_chosenRegions_4 : decode cX4_chosenRegions 4 = .ok (.iload_n 2, 1) := by decide +kernel
theorem dX4_chosenRegions_5 : decode cX4_chosenRegions 5 = .ok (.aload_n 0, 1) := by decide +kernel
theorem dX4_chosenRegions_6 : decode cX4_chosenRegions 6 = .ok (.getfield 31, 3) := by decide +kernel
theorem dX4_chosenRegions_9 : decode cX4_chosenRegions 9 = .ok (.if_icmp .ge 21, 3) := by decide +kernel
theorem dX4_chosenRegions_12 : decode cX4_chosenRegions 12 = .ok (.aload_n 0, 1) := by decide +kernel
theorem dX4_chosenRegions_13 : decode cX4_chosenRegions 13 = .ok (.getfield 18, 3) := by decide +kernel
theorem dX4_chosenRegions_16 : decode cX4_chosenRegions 16 = .ok (.iload_n 2, 1) := by decide +kernel
theorem dX4_chosenRegions_17 : decode cX4_chosenRegions 17 = .ok (.baload, 1) := by decide +kernel
theorem dX4_chosenRegions_18 : decode cX4_chosenRegions 18 = .ok (.ifCond .eq 6, 3) := by decide +kernel
theorem dX4_chosenRegions_21 : decode cX4_chosenRegions 21 = .ok (.iinc 1 1, 3) := by decide +kernel
theorem dX4_chosenRegions_24 : decode cX4_chosenRegions 24 = .ok (.iinc 2 1, 3) := by decide +kernel
theorem dX4_chosenRegions_27 : decode cX4_chosenRegions 27 = .ok (.goto (-23), 3) := by decide +kernel
theorem dX4_chosenRegions_30 : decode cX4_chosenRegions 30 = .ok (.iload_n 1, 1) := by decide +kernel
theorem dX4_chosenRegions_31 : decode cX4_chosenRegions 31 = .ok (.ireturn, 1) := by decide +kernel
theorem dX4_chosenSites_0 : decode cX4_chosenSites 0 = .ok (.iconst 0, 1) := by decide +kernel
theorem dX4_chosenSites_1 : decode cX4_chosenSites 1 = .ok (.istore_n 1, 1) := by decide +kernel
theorem dX4_chosenSites_2 : decode cX4_chosenSites 2 = .ok (.iconst 0, 1) := by decide +kernel
theorem dX4_chosenSites_3 : decode cX4_chosenSites 3 = .ok (.istore_n 2, 1) := by decide +kernel
theorem dX4_chosenSites_4 : decode cX4_chosenSites 4 = .ok (.iload_n 2, 1) := by decide +kernel
theorem dX4_chosenSites_5 : decode cX4_chosenSites 5 = .ok (.aload_n 0, 1) := by decide +kernel
theorem dX4_chosenSites_6 : decode cX4_chosenSites 6 = .ok (.getfield 31, 3) := by decide +kernel
theorem dX4_chosenSites_9 : decode cX4_chosenSites 9 = .ok (.if_icmp .ge 27, 3) := by decide +kernel
theorem dX4_chosenSites_12 : decode cX4_chosenSites 12 = .ok (.aload_n 0, 1) := by decide +kernel
theorem dX4_chosenSites_13 : decode cX4_chosenSites 13 = .ok (.getfield 18, 3) := by decide +kernel
theorem dX4_chosenSites_16 : decode cX4_chosenSites 16 = .ok (.iload_n 2, 1) := by decide +kernel
theorem dX4_chosenSites_17 : decode cX4_chosenSites 17 = .ok (.baload, 1) := by decide +kernel
theorem dX4_chosenSites_18 : decode cX4_chosenSites 18 = .ok (.ifCond .eq 12, 3) := by decide +kernel
theorem dX4_chosenSites_21 : decode cX4_chosenSites 21 = .ok (.iload_n 1, 1) := by decide +kernel
theorem dX4_chosenSites_22 : decode cX4_chosenSites 22 = .ok (.aload_n 0, 1) := by decide +kernel
theorem dX4_chosenSites_23 : decode cX4_chosenSites 23 = .ok (.getfield 15, 3) := by decide +kernel
theorem dX4_chosenSites_26 : decode cX4_chosenSites 26 = .ok (.iload_n 2, 1) := by decide +kernel
theorem dX4_chosenSites_27 : decode cX4_chosenSites 27 = .ok (.iaload, 1) := by decide +kernel
theorem dX4_chosenSites_28 : decode cX4_chosenSites 28 = .ok (.iadd, 1) := by decide +kernel
theorem dX4_chosenSites_29 : decode cX4_chosenSites 29 = .ok (.istore_n 1, 1) := by decide +kernel
theorem dX4_chosenSites_30 : decode cX4_chosenSites 30 = .ok (.iinc 2 1, 3) := by decide +kernel
theorem dX4_chosenSites_33 : decode cX4_chosenSites 33 = .ok (.goto (-29), 3) := by decide +kernel
theorem dX4_chosenSites_36 : decode cX4_chosenSites 36 = .ok (.iload_n 1, 1) := by decide +kernel
theorem dX4_chosenSites_37 : decode cX4_chosenSites 37 = .ok (.ireturn, 1) := by decide +kernel
theorem dX5_init_0 : decode cX5_init 0 = .ok (.aload_n 0, 1) := by decide +kernel
theorem dX5_init_1 : decode cX5_init 1 = .ok (.invokespecial 3, 3) := by decide +kernel
theorem dX5_init_4 : decode cX5_init 4 = .ok (.aload_n 0, 1) := by decide +kernel
theorem dX5_init_5 : decode cX5_init 5 = .ok (.bipush 100, 2) := by decide +kernel
theorem dX5_init_7 : decode cX5_init 7 = .ok (.newarray .int, 2) := by decide +kernel
theorem dX5_init_9 : decode cX5_init 9 = .ok (.putfield 9, 3) := by decide +kernel
theorem dX5_init_12 : decode cX5_init 12 = .ok (.aload_n 0, 1) := by decide +kernel
theorem dX5_init_13 : decode cX5_init 13 = .ok (.iconst 5, 1) := by decide +kernel
theorem dX5_init_14 : decode cX5_init 14 = .ok (.newarray .int, 2) := by decide +kernel
theorem dX5_init_16 : decode cX5_init 16 = .ok (.putfield 15, 3) := by decide +kernel
theorem dX5_init_19 : decode cX5_init 19 = .ok (.return_, 1) := by decide +kernel
theorem dX5_take_0 : decode cX5_take 0 = .ok (.iconst 0, 1) := by decide +kernel
theorem dX5_take_1 : decode cX5_take 1 = .ok (.istore_n 2, 1) := by decide +kernel
theorem dX5_take_2 : decode cX5_take 2 = .ok (.aload_n 0, 1) := by decide +kernel
theorem dX5_take_3 : decode cX5_take 3 = .ok (.aload_n 1, 1) := by decide +kernel
theorem dX5_take_4 : decode cX5_take 4 = .ok (.getfield 18, 3) := by decide +kernel
theorem dX5_take_7 : decode cX5_take 7 = .ok (.putfield 24, 3) := by decide +kernel
theorem dX5_take_10 : decode cX5_take 10 = .ok (.iconst 0, 1) := by decide +kernel
theorem dX5_take_11 : decode cX5_take 11 = .ok (.istore_n 3, 1) := by decide +kernel
theorem dX5_take_12 : decode cX5_take 12 = .ok (.iload_n 3, 1) := by decide +kernel
theorem dX5_take_13 : decode cX5_take 13 = .ok (.aload_n 0, 1) := by decide +kernel
theorem dX5_take_14 : decode cX5_take 14 = .ok (.getfield 24, 3) := by decide +kernel
theorem dX5_take_17 : decode cX5_take 17 = .ok (.if_icmp .ge 69, 3) := by decide +kernel
theorem dX5_take_20 : decode cX5_take 20 = .ok (.aload_n 1, 1) := by decide +kernel
theorem dX5_take_21 : decode cX5_take 21 = .ok (.getfield 25, 3) := by decide +kernel
theorem dX5_take_24 : decode cX5_take 24 = .ok (.iload_n 3, 1) := by decide +kernel
theorem dX5_take_25 : decode cX5_take 25 = .ok (.aaload, 1) := by decide +kernel
theorem dX5_take_26 : decode cX5_take 26 = .ok (.astore 4, 2) := by decide +kernel
theorem dX5_take_28 : decode cX5_take 28 = .ok (.aload_n 0, 1) := by decide +kernel
theorem dX5_take_29 : decode cX5_take 29 = .ok (.getfield 15, 3) := by decide +kernel
theorem dX5_take_32 : decode cX5_take 32 = .ok (.iload_n 3, 1) := by decide +kernel
theorem dX5_take_33 : decode cX5_take 33 = .ok (.aload 4, 2) := by decide +kernel
theorem dX5_take_35 : decode cX5_take 35 = .ok (.invokevirtual 29, 3) := by decide +kernel
theorem dX5_take_38 : decode cX5_take 38 = .ok (.iastore, 1) := by decide +kernel
theorem dX5_take_39 : decode cX5_take 39 = .ok (.iconst 0, 1) := by decide +kernel
theorem dX5_take_40 : decode cX5_take 40 = .ok (.istore 5, 2) := by decide +kernel
theorem dX5_take_42 : decode cX5_take 42 = .ok (.iload 5, 2) := by decide +kernel
theorem dX5_take_44 : decode cX5_take 44 = .ok (.aload 4, 2) := by decide +kernel
theorem dX5_take_46 : decode cX5_take 46 = .ok (.invokevirtual 29, 3) := by decide +kernel
theorem dX5_take_49 : decode cX5_take 49 = .ok (.if_icmp .ge 31, 3) := by decide +kernel
theorem dX5_take_52 : decode cX5_take 52 = .ok (.iload_n 2, 1) := by decide +kernel
theorem dX5_take_53 : decode cX5_take 53 = .ok (.bipush 100, 2) := by decide +kernel
theorem dX5_take_55 : decode cX5_take 55 = .ok (.if_icmp .ge 25, 3) := by decide +kernel
theorem dX5_take_58 : decode cX5_take 58 = .ok (.aload_n 0, 1) := by decide +kernel
theorem dX5_take_59 : decode cX5_take 59 = .ok (.getfield 9, 3) := by decide +kernel
theorem dX5_take_62 : decode cX5_take 62 = .ok (.iload_n 2, 1) := by decide +kernel
theorem dX5_take_63 : decode cX5_take 63 = .ok (.aload 4, 2) := by decide +kernel
theorem dX5_take_65 : decode cX5_take 65 = .ok (.iload 5, 2) := by decide +kernel
theorem dX5_take_67 : decode cX5_take 67 = .ok (.invokevirtual 35, 3) := by decide +kernel
theorem dX5_take_70 : decode cX5_take 70 = .ok (.iastore, 1) := by decide +kernel
theorem dX5_take_71 : decode cX5_take 71 = .ok (.iinc 2 1, 3) := by decide +kernel
theorem dX5_take_74 : decode cX5_take 74 = .ok (.iinc 5 1, 3) := by decide +kernel
theorem dX5_take_77 : decode cX5_take 77 = .ok (.goto (-35), 3) := by decide +kernel
theorem dX5_take_80 : decode cX5_take 80 = .ok (.iinc 3 1, 3) := by decide +kernel
theorem dX5_take_83 : decode cX5_take 83 = .ok (.goto (-71), 3) := by decide +kernel
theorem dX5_take_86 : decode cX5_take 86 = .ok (.aload_n 0, 1) := by decide +kernel
theorem dX5_take_87 : decode cX5_take 87 = .ok (.aload_n 1, 1) := by decide +kernel
theorem dX5_take_88 : decode cX5_take 88 = .ok (.getfield 39, 3) := by decide +kernel
theorem dX5_take_91 : decode cX5_take 91 = .ok (.putfield 42, 3) := by decide +kernel
theorem dX5_take_94 : decode cX5_take 94 = .ok (.aload_n 0, 1) := by decide +kernel
theorem dX5_take_95 : decode cX5_take 95 = .ok (.aload_n 1, 1) := by decide +kernel
theorem dX5_take_96 : decode cX5_take 96 = .ok (.getfield 43, 3) := by decide +kernel
theorem dX5_take_99 : decode cX5_take 99 = .ok (.putfield 46, 3) := by decide +kernel
theorem dX5_take_102 : decode cX5_take 102 = .ok (.aload_n 0, 1) := by decide +kernel
theorem dX5_take_103 : decode cX5_take 103 = .ok (.aload_n 1, 1) := by decide +kernel
theorem dX5_take_104 : decode cX5_take 104 = .ok (.getfield 47, 3) := by decide +kernel
theorem dX5_take_107 : decode cX5_take 107 = .ok (.putfield 50, 3) := by decide +kernel
theorem dX5_take_110 : decode cX5_take 110 = .ok (.return_, 1) := by decide +kernel
theorem dX5_putInto_0 : decode cX5_putInto 0 = .ok (.iconst 0, 1) := by decide +kernel
theorem dX5_putInto_1 : decode cX5_putInto 1 = .ok (.istore_n 2, 1) := by decide +kernel
theorem dX5_putInto_2 : decode cX5_putInto 2 = .ok (.aload_n 1, 1) := by decide +kernel
theorem dX5_putInto_3 : decode cX5_putInto 3 = .ok (.aload_n 0, 1) := by decide +kernel
theorem dX5_putInto_4 : decode cX5_putInto 4 = .ok (.getfield 24, 3) := by decide +kernel
theorem dX5_putInto_7 : decode cX5_putInto 7 = .ok (.putfield 18, 3) := by decide +kernel
theorem dX5_putInto_10 : decode cX5_putInto 10 = .ok (.iconst 0, 1) := by decide +kernel
theorem dX5_putInto_11 : decode cX5_putInto 11 = .ok (.istore_n 3, 1) := by decide +kernel
theorem dX5_putInto_12 : decode cX5_putInto 12 = .ok (.iload_n 3, 1) := by decide +kernel
theorem dX5_putInto_13 : decode cX5_putInto 13 = .ok (.aload_n 0, 1) := by decide +kernel
theorem dX5_putInto_14 : decode cX5_putInto 14 = .ok (.getfield 24, 3) := by decide +kernel
theorem dX5_putInto_17 : decode cX5_putInto 17 = .ok (.if_icmp .ge 62, 3) := by decide +kernel
theorem dX5_putInto_20 : decode cX5_putInto 20 = .ok (.aload_n 1, 1) := by decide +kernel
theorem dX5_putInto_21 : decode cX5_putInto 21 = .ok (.getfield 25, 3) := by decide +kernel
theorem dX5_putInto_24 : decode cX5_putInto 24 = .ok (.iload_n 3, 1) := by decide +kernel
theorem dX5_putInto_25 : decode cX5_putInto 25 = .ok (.aaload, 1) := by decide +kernel
theorem dX5_putInto_26 : decode cX5_putInto 26 = .ok (.astore 4, 2) := by decide +kernel
theorem dX5_putInto_28 : decode cX5_putInto 28 = .ok (.aload 4, 2) := by decide +kernel
theorem dX5_putInto_30 : decode cX5_putInto 30 = .ok (.invokevirtual 51, 3) := by decide +kernel
theorem dX5_putInto_33 : decode cX5_putInto 33 = .ok (.iconst 0, 1) := by decide +kernel
theorem dX5_putInto_34 : decode cX5_putInto 34 = .ok (.istore 5, 2) := by decide +kernel
theorem dX5_putInto_36 : decode cX5_putInto 36 = .ok (.iload 5, 2) := by decide +kernel
theorem dX5_putInto_38 : decode cX5_putInto 38 = .ok (.aload_n 0, 1) := by decide +kernel
theorem dX5_putInto_39 : decode cX5_putInto 39 = .ok (.getfield 15, 3) := by decide +kernel
theorem dX5_putInto_42 : decode cX5_putInto 42 = .ok (.iload_n 3, 1) := by decide +kernel
theorem dX5_putInto_43 : decode cX5_putInto 43 = .ok (.iaload, 1) := by decide +kernel
theorem dX5_putInto_44 : decode cX5_putInto 44 = .ok (.if_icmp .ge 29, 3) := by decide +kernel
theorem dX5_putInto_47 : decode cX5_putInto 47 = .ok (.iload_n 2, 1) := by decide +kernel
theorem dX5_putInto_48 : decode cX5_putInto 48 = .ok (.bipush 100, 2) := by decide +kernel
theorem dX5_putInto_50 : decode cX5_putInto 50 = .ok (.if_icmp .ge 23, 3) := by decide +kernel
theorem dX5_putInto_53 : decode cX5_putInto 53 = .ok (.aload 4, 2) := by decide +kernel
theorem dX5_putInto_55 : decode cX5_putInto 55 = .ok (.aload_n 0, 1) := by decide +kernel
theorem dX5_putInto_56 : decode cX5_putInto 56 = .ok (.getfield 9, 3) := by decide +kernel
theorem dX5_putInto_59 : decode cX5_putInto 59 = .ok (.iload_n 2, 1) := by decide +kernel
theorem dX5_putInto_60 : decode cX5_putInto 60 = .ok (.iaload, 1) := by decide +kernel
theorem dX5_putInto_61 : decode cX5_putInto 61 = .ok (.invokevirtual 54, 3) := by decide +kernel
theorem dX5_putInto_64 : decode cX5_putInto 64 = .ok (.iinc 2 1, 3) := by decide +kernel
theorem dX5_putInto_67 : decode cX5_putInto 67 = .ok (.iinc 5 1, 3) := by decide +kernel
theorem dX5_putInto_70 : decode cX5_putInto 70 = .ok (.goto (-34), 3) := by decide +kernel
theorem dX5_putInto_73 : decode cX5_putInto 73 = .ok (.iinc 3 1, 3) := by decide +kernel
theorem dX5_putInto_76 : decode cX5_putInto 76 = .ok (.goto (-64), 3) := by decide +kernel
theorem dX5_putInto_79 : decode cX5_putInto 79 = .ok (.aload_n 1, 1) := by decide +kernel
theorem dX5_putInto_80 : decode cX5_putInto 80 = .ok (.aload_n 0, 1) := by decide +kernel
theorem dX5_putInto_81 : decode cX5_putInto 81 = .ok (.getfield 42, 3) := by decide +kernel
theorem dX5_putInto_84 : decode cX5_putInto 84 = .ok (.putfield 39, 3) := by decide +kernel
theorem dX5_putInto_87 : decode cX5_putInto 87 = .ok (.aload_n 1, 1) := by decide +kernel
theorem dX5_putInto_88 : decode cX5_putInto 88 = .ok (.aload_n 0, 1) := by decide +kernel
theorem dX5_putInto_89 : decode cX5_putInto 89 = .ok (.getfield 46, 3) := by decide +kernel
theorem dX5_putInto_92 : decode cX5_putInto 92 = .ok (.putfield 43, 3) := by decide +kernel
theorem dX5_putInto_95 : decode cX5_putInto 95 = .ok (.aload_n 1, 1) := by decide +kernel
theorem dX5_putInto_96 : decode cX5_putInto 96 = .ok (.aload_n 0, 1) := by decide +kernel
theorem dX5_putInto_97 : decode cX5_putInto 97 = .ok (.getfield 50, 3) := by decide +kernel
theorem dX5_putInto_100 : decode cX5_putInto 100 = .ok (.putfield 47, 3) := by decide +kernel
theorem dX5_putInto_103 : decode cX5_putInto 103 = .ok (.aload_n 1, 1) := by decide +kernel
theorem dX5_putInto_104 : decode cX5_putInto 104 = .ok (.invokevirtual 58, 3) := by decide +kernel
theorem dX5_putInto_107 : decode cX5_putInto 107 = .ok (.return_, 1) := by decide +kernel
theorem dX6_init_0 : decode cX6_init 0 = .ok (.aload_n 0, 1) := by decide +kernel
theorem dX6_init_1 : decode cX6_init 1 = .ok (.invokespecial 3, 3) := by decide +kernel
theorem dX6_init_4 : decode cX6_init 4 = .ok (.aload_n 0, 1) := by decide +kernel
theorem dX6_init_5 : decode cX6_init 5 = .ok (.bipush 100, 2) := by decide +kernel
theorem dX6_init_7 : decode cX6_init 7 = .ok (.newarray .boolean, 2) := by decide +kernel
theorem dX6_init_9 : decode cX6_init 9 = .ok (.putfield 9, 3) := by decide +kernel
theorem dX6_init_12 : decode cX6_init 12 = .ok (.return_, 1) := by decide +kernel
theorem dX6_rowsOfSteps_0 : decode cX6_rowsOfSteps 0 = .ok (.aload_n 0, 1) := by decide +kernel
theorem dX6_rowsOfSteps_1 : decode cX6_rowsOfSteps 1 = .ok (.aload_n 1, 1) := by decide +kernel
theorem dX6_rowsOfSteps_2 : decode cX6_rowsOfSteps 2 = .ok (.invokevirtual 15, 3) := by decide +kernel
theorem dX6_rowsOfSteps_5 : decode cX6_rowsOfSteps 5 = .ok (.aload_n 0, 1) := by decide +kernel
theorem dX6_rowsOfSteps_6 : decode cX6_rowsOfSteps 6 = .ok (.getfield 9, 3) := by decide +kernel
theorem dX6_rowsOfSteps_9 : decode cX6_rowsOfSteps 9 = .ok (.aload_n 1, 1) := by decide +kernel
theorem dX6_rowsOfSteps_10 : decode cX6_rowsOfSteps 10 = .ok (.iload_n 2, 1) := by decide +kernel
theorem dX6_rowsOfSteps_11 : decode cX6_rowsOfSteps 11 = .ok (.invokevirtual 19, 3) := by decide +kernel
theorem dX6_rowsOfSteps_14 : decode cX6_rowsOfSteps 14 = .ok (.invokevirtual 25, 3) := by decide +kernel
theorem dX6_rowsOfSteps_17 : decode cX6_rowsOfSteps 17 = .ok (.iload_n 3, 1) := by decide +kernel
theorem dX6_rowsOfSteps_18 : decode cX6_rowsOfSteps 18 = .ok (.invokestatic 31, 3) := by decide +kernel
theorem dX6_rowsOfSteps_21 : decode cX6_rowsOfSteps 21 = .ok (.ireturn, 1) := by decide +kernel
theorem dX6_bestDirection_0 : decode cX6_bestDirection 0 = .ok (.aload_n 0, 1) := by decide +kernel
theorem dX6_bestDirection_1 : decode cX6_bestDirection 1 = .ok (.aload_n 1, 1) := by decide +kernel
theorem dX6_bestDirection_2 : decode cX6_bestDirection 2 = .ok (.invokevirtual 15, 3) := by decide +kernel
theorem dX6_bestDirection_5 : decode cX6_bestDirection 5 = .ok (.aload_n 1, 1) := by decide +kernel
theorem dX6_bestDirection_6 : decode cX6_bestDirection 6 = .ok (.iload_n 2, 1) := by decide +kernel
theorem dX6_bestDirection_7 : decode cX6_bestDirection 7 = .ok (.invokevirtual 19, 3) := by decide +kernel
theorem dX6_bestDirection_10 : decode cX6_bestDirection 10 = .ok (.invokevirtual 25, 3) := by decide +kernel
theorem dX6_bestDirection_13 : decode cX6_bestDirection 13 = .ok (.istore_n 3, 1) := by decide +kernel
theorem dX6_bestDirection_14 : decode cX6_bestDirection 14 = .ok (.iconst (-1), 1) := by decide +kernel
theorem dX6_bestDirection_15 : decode cX6_bestDirection 15 = .ok (.istore 4, 2) := by decide +kernel
theorem dX6_bestDirection_17 : decode cX6_bestDirection 17 = .ok (.iconst (-1), 1) := by decide +kernel
theorem dX6_bestDirection_18 : decode cX6_bestDirection 18 = .ok (.istore 5, 2) := by decide +kernel
theorem dX6_bestDirection_20 : decode cX6_bestDirection 20 = .ok (.iconst 0, 1) := by decide +kernel
theorem dX6_bestDirection_21 : decode cX6_bestDirection 21 = .ok (.istore 6, 2) := by decide +kernel
theorem dX6_bestDirection_23 : decode cX6_bestDirection 23 = .ok (.iload 6, 2) := by decide +kernel
theorem dX6_bestDirection_25 : decode cX6_bestDirection 25 = .ok (.iconst 4, 1) := by decide +kernel
theorem dX6_bestDirection_26 : decode cX6_bestDirection 26 = .ok (.if_icmp .ge 40, 3) := by decide +kernel
theorem dX6_bestDirection_29 : decode cX6_bestDirection 29 = .ok (.aload_n 0, 1) := by decide +kernel
theorem dX6_bestDirection_30 : decode cX6_bestDirection 30 = .ok (.getfield 9, 3) := by decide +kernel
theorem dX6_bestDirection_33 : decode cX6_bestDirection 33 = .ok (.iload_n 3, 1) := by decide +kernel
theorem dX6_bestDirection_34 : decode cX6_bestDirection 34 = .ok (.iload 6, 2) := by decide +kernel
theorem dX6_bestDirection_36 : decode cX6_bestDirection 36 = .ok (.invokestatic 35, 3) := by decide +kernel
theorem dX6_bestDirection_39 : decode cX6_bestDirection 39 = .ok (.iconst 4, 1) := by decide +kernel
theorem dX6_bestDirection_40 : decode cX6_bestDirection 40 = .ok (.invokestatic 41, 3) := by decide +kernel
theorem dX6_bestDirection_43 : decode cX6_bestDirection 43 = .ok (.istore 7, 2) := by decide +kernel
theorem dX6_bestDirection_45 : decode cX6_bestDirection 45 = .ok (.iload 7, 2) := by decide +kernel
theorem dX6_bestDirection_47 : decode cX6_bestDirection 47 = .ok (.iload 5, 2) := by decide +kernel
theorem dX6_bestDirection_49 : decode cX6_bestDirection 49 = .ok (.if_icmp .le 11, 3) := by decide +kernel
theorem dX6_bestDirection_52 : decode cX6_bestDirection 52 = .ok (.iload 6, 2) := by decide +kernel
theorem dX6_bestDirection_54 : decode cX6_bestDirection 54 = .ok (.istore 4, 2) := by decide +kernel
theorem dX6_bestDirection_56 : decode cX6_bestDirection 56 = .ok (.iload 7, 2) := by decide +kernel
theorem dX6_bestDirection_58 : decode cX6_bestDirection 58 = .ok (.istore 5, 2) := by decide +kernel
theorem dX6_bestDirection_60 : decode cX6_bestDirection 60 = .ok (.iinc 6 1, 3) := by decide +kernel
theorem dX6_bestDirection_63 : decode cX6_bestDirection 63 = .ok (.goto (-40), 3) := by decide +kernel
theorem dX6_bestDirection_66 : decode cX6_bestDirection 66 = .ok (.iload 4, 2) := by decide +kernel
theorem dX6_bestDirection_68 : decode cX6_bestDirection 68 = .ok (.ireturn, 1) := by decide +kernel
theorem dX6_survey_0 : decode cX6_survey 0 = .ok (.iconst 0, 1) := by decide +kernel
theorem dX6_survey_1 : decode cX6_survey 1 = .ok (.istore_n 2, 1) := by decide +kernel
theorem dX6_survey_2 : decode cX6_survey 2 = .ok (.iload_n 2, 1) := by decide +kernel
theorem dX6_survey_3 : decode cX6_survey 3 = .ok (.bipush 100, 2) := by decide +kernel
theorem dX6_survey_5 : decode cX6_survey 5 = .ok (.if_icmp .ge 28, 3) := by decide +kernel
theorem dX6_survey_8 : decode cX6_survey 8 = .ok (.aload_n 0, 1) := by decide +kernel
theorem dX6_survey_9 : decode cX6_survey 9 = .ok (.getfield 9, 3) := by decide +kernel
theorem dX6_survey_12 : decode cX6_survey 12 = .ok (.iload_n 2, 1) := by decide +kernel
theorem dX6_survey_13 : decode cX6_survey 13 = .ok (.aload_n 1, 1) := by decide +kernel
theorem dX6_survey_14 : decode cX6_survey 14 = .ok (.iload_n 2, 1) := by decide +kernel
theorem dX6_survey_15 : decode cX6_survey 15 = .ok (.invokevirtual 44, 3) := by decide +kernel
theorem dX6_survey_18 : decode cX6_survey 18 = .ok (.ifCond .ne 7, 3) := by decide +kernel
theorem dX6_survey_21 : decode cX6_survey 21 = .ok (.iconst 1, 1) := by decide +kernel
theorem dX6_survey_22 : decode cX6_survey 22 = .ok (.goto 4, 3) := by decide +kernel
theorem dX6_survey_25 : decode cX6_survey 25 = .ok (.iconst 0, 1) := by decide +kernel
theorem dX6_survey_26 : decode cX6_survey 26 = .ok (.bastore, 1) := by decide +kernel
theorem dX6_survey_27 : decode cX6_survey 27 = .ok (.iinc 2 1, 3) := by decide +kernel
theorem dX6_survey_30 : decode cX6_survey 30 = .ok (.goto (-28), 3) := by decide +kernel
theorem dX6_survey_33 : decode cX6_survey 33 = .ok (.return_, 1) := by decide +kernel
theorem dX6_rowsFrom_0 : decode cX6_rowsFrom 0 = .ok (.iload_n 2, 1) := by decide +kernel
theorem dX6_rowsFrom_1 : decode cX6_rowsFrom 1 = .ok (.ifCond .gt 5, 3) := by decide +kernel
theorem dX6_rowsFrom_4 : decode cX6_rowsFrom 4 = .ok (.iconst 1, 1) := by decide +kernel
theorem dX6_rowsFrom_5 : decode cX6_rowsFrom 5 = .ok (.ireturn, 1) := by decide +kernel
theorem dX6_rowsFrom_6 : decode cX6_rowsFrom 6 = .ok (.iconst 0, 1) := by decide +kernel
theorem dX6_rowsFrom_7 : decode cX6_rowsFrom 7 = .ok (.istore_n 3, 1) := by decide +kernel
theorem dX6_rowsFrom_8 : decode cX6_rowsFrom 8 = .ok (.iconst 0, 1) := by decide +kernel
theorem dX6_rowsFrom_9 : decode cX6_rowsFrom 9 = .ok (.istore 4, 2) := by decide +kernel
theorem dX6_rowsFrom_11 : decode cX6_rowsFrom 11 = .ok (.iload 4, 2) := by decide +kernel
theorem dX6_rowsFrom_13 : decode cX6_rowsFrom 13 = .ok (.iconst 4, 1) := by decide +kernel
theorem dX6_rowsFrom_14 : decode cX6_rowsFrom 14 = .ok (.if_icmp .ge 29, 3) := by decide +kernel
theorem dX6_rowsFrom_17 : decode cX6_rowsFrom 17 = .ok (.iload_n 3, 1) := by decide +kernel
theorem dX6_rowsFrom_18 : decode cX6_rowsFrom 18 = .ok (.aload_n 0, 1) := by decide +kernel
theorem dX6_rowsFrom_19 : decode cX6_rowsFrom 19 = .ok (.iload_n 1, 1) := by decide +kernel
theorem dX6_rowsFrom_20 : decode cX6_rowsFrom 20 = .ok (.iload 4, 2) := by decide +kernel
theorem dX6_rowsFrom_22 : decode cX6_rowsFrom 22 = .ok (.invokestatic 35, 3) := by decide +kernel
theorem dX6_rowsFrom_25 : decode cX6_rowsFrom 25 = .ok (.iload_n 2, 1) := by decide +kernel
theorem dX6_rowsFrom_26 : decode cX6_rowsFrom 26 = .ok (.iconst 1, 1) := by decide +kernel
theorem dX6_rowsFrom_27 : decode cX6_rowsFrom 27 = .ok (.isub, 1) := by decide +kernel
theorem dX6_rowsFrom_28 : decode cX6_rowsFrom 28 = .ok (.invokestatic 41, 3) := by decide +kernel
theorem dX6_rowsFrom_31 : decode cX6_rowsFrom 31 = .ok (.iconst 0, 1) := by decide +kernel
theorem dX6_rowsFrom_32 : decode cX6_rowsFrom 32 = .ok (.invokestatic 48, 3) := by decide +kernel
theorem dX6_rowsFrom_35 : decode cX6_rowsFrom 35 = .ok (.iadd, 1) := by decide +kernel
theorem dX6_rowsFrom_36 : decode cX6_rowsFrom 36 = .ok (.istore_n 3, 1) := by decide +kernel
theorem dX6_rowsFrom_37 : decode cX6_rowsFrom 37 = .ok (.iinc 4 1, 3) := by decide +kernel
theorem dX6_rowsFrom_40 : decode cX6_rowsFrom 40 = .ok (.goto (-29), 3) := by decide +kernel
theorem dX6_rowsFrom_43 : decode cX6_rowsFrom 43 = .ok (.iload_n 3, 1) := by decide +kernel
theorem dX6_rowsFrom_44 : decode cX6_rowsFrom 44 = .ok (.ireturn, 1) := by decide +kernel
theorem dX6_rowsThrough_0 : decode cX6_rowsThrough 0 = .ok (.iload_n 1, 1) := by decide +kernel
theorem dX6_rowsThrough_1 : decode cX6_rowsThrough 1 = .ok (.invokestatic 53, 3) := by decide +kernel
theorem dX6_rowsThrough_4 : decode cX6_rowsThrough 4 = .ok (.ifCond .eq 9, 3) := by decide +kernel
theorem dX6_rowsThrough_7 : decode cX6_rowsThrough 7 = .ok (.aload_n 0, 1) := by decide +kernel
theorem dX6_rowsThrough_8 : decode cX6_rowsThrough 8 = .ok (.iload_n 1, 1) := by decide +kernel
theorem dX6_rowsThrough_9 : decode cX6_rowsThrough 9 = .ok (.baload, 1) := by decide +kernel
theorem dX6_rowsThrough_10 : decode cX6_rowsThrough 10 = .ok (.ifCond .eq 5, 3) := by decide +kernel
theorem dX6_rowsThrough_13 : decode cX6_rowsThrough 13 = .ok (.iconst (-1), 1) := by decide +kernel
theorem dX6_rowsThrough_14 : decode cX6_rowsThrough 14 = .ok (.ireturn, 1) := by decide +kernel
theorem dX6_rowsThrough_15 : decode cX6_rowsThrough 15 = .ok (.aload_n 0, 1) := by decide +kernel
theorem dX6_rowsThrough_16 : decode cX6_rowsThrough 16 = .ok (.iload_n 1, 1) := by decide +kernel
theorem dX6_rowsThrough_17 : decode cX6_rowsThrough 17 = .ok (.iconst 1, 1) := by decide +kernel
theorem dX6_rowsThrough_18 : decode cX6_rowsThrough 18 = .ok (.bastore, 1) := by decide +kernel
theorem dX6_rowsThrough_19 : decode cX6_rowsThrough 19 = .ok (.aload_n 0, 1) := by decide +kernel
theorem dX6_rowsThrough_20 : decode cX6_rowsThrough 20 = .ok (.iload_n 1, 1) := by decide +kernel
theorem dX6_rowsThrough_21 : decode cX6_rowsThrough 21 = .ok (.iload_n 2, 1) := by decide +kernel
theorem dX6_rowsThrough_22 : decode cX6_rowsThrough 22 = .ok (.invokestatic 31, 3) := by decide +kernel
theorem dX6_rowsThrough_25 : decode cX6_rowsThrough 25 = .ok (.istore_n 3, 1) := by decide +kernel
theorem dX6_rowsThrough_26 : decode cX6_rowsThrough 26 = .ok (.aload_n 0, 1) := by decide +kernel
theorem dX6_rowsThrough_27 : decode cX6_rowsThrough 27 = .ok (.iload_n 1, 1) := by decide +kernel
theorem dX6_rowsThrough_28 : decode cX6_rowsThrough 28 = .ok (.iconst 0, 1) := by decide +kernel
theorem dX6_rowsThrough_29 : decode cX6_rowsThrough 29 = .ok (.bastore, 1) := by decide +kernel
theorem dX6_rowsThrough_30 : decode cX6_rowsThrough 30 = .ok (.iload_n 3, 1) := by decide +kernel
theorem dX6_rowsThrough_31 : decode cX6_rowsThrough 31 = .ok (.ireturn, 1) := by decide +kernel
theorem dX7_init_0 : decode cX7_init 0 = .ok (.aload_n 0, 1) := by decide +kernel
theorem dX7_init_1 : decode cX7_init 1 = .ok (.invokespecial 3, 3) := by decide +kernel
theorem dX7_init_4 : decode cX7_init 4 = .ok (.aload_n 0, 1) := by decide +kernel
theorem dX7_init_5 : decode cX7_init 5 = .ok (.bipush 60, 2) := by decide +kernel
theorem dX7_init_7 : decode cX7_init 7 = .ok (.newarray .int, 2) := by decide +kernel
theorem dX7_init_9 : decode cX7_init 9 = .ok (.putfield 9, 3) := by decide +kernel
theorem dX7_init_12 : decode cX7_init 12 = .ok (.aload_n 0, 1) := by decide +kernel
theorem dX7_init_13 : decode cX7_init 13 = .ok (.bipush 60, 2) := by decide +kernel
theorem dX7_init_15 : decode cX7_init 15 = .ok (.newarray .int, 2) := by decide +kernel
theorem dX7_init_17 : decode cX7_init 17 = .ok (.putfield 15, 3) := by decide +kernel
theorem dX7_init_20 : decode cX7_init 20 = .ok (.aload_n 0, 1) := by decide +kernel
theorem dX7_init_21 : decode cX7_init 21 = .ok (.bipush 60, 2) := by decide +kernel
theorem dX7_init_23 : decode cX7_init 23 = .ok (.newarray .int, 2) := by decide +kernel
theorem dX7_init_25 : decode cX7_init 25 = .ok (.putfield 18, 3) := by decide +kernel
theorem dX7_init_28 : decode cX7_init 28 = .ok (.aload_n 0, 1) := by decide +kernel
theorem dX7_init_29 : decode cX7_init 29 = .ok (.bipush 60, 2) := by decide +kernel
theorem dX7_init_31 : decode cX7_init 31 = .ok (.newarray .int, 2) := by decide +kernel
theorem dX7_init_33 : decode cX7_init 33 = .ok (.putfield 21, 3) := by decide +kernel
theorem dX7_init_36 : decode cX7_init 36 = .ok (.return_, 1) := by decide +kernel
theorem dX7_find_0 : decode cX7_find 0 = .ok (.aload_n 0, 1) := by decide +kernel
theorem dX7_find_1 : decode cX7_find 1 = .ok (.aload_n 1, 1) := by decide +kernel
theorem dX7_find_2 : decode cX7_find 2 = .ok (.invokevirtual 24, 3) := by decide +kernel
theorem dX7_find_5 : decode cX7_find 5 = .ok (.putfield 30, 3) := by decide +kernel
theorem dX7_find_8 : decode cX7_find 8 = .ok (.iconst 0, 1) := by decide +kernel
theorem dX7_find_9 : decode cX7_find 9 = .ok (.istore_n 2, 1) := by decide +kernel
theorem dX7_find_10 : decode cX7_find 10 = .ok (.iload_n 2, 1) := by decide +kernel
theorem dX7_find_11 : decode cX7_find 11 = .ok (.aload_n 0, 1) := by decide +kernel
theorem dX7_find_12 : decode cX7_find 12 = .ok (.getfield 30, 3) := by decide +kernel
theorem dX7_find_15 : decode cX7_find 15 = .ok (.if_icmp .ge 42, 3) := by decide +kernel
theorem dX7_find_18 : decode cX7_find 18 = .ok (.aload_n 0, 1) := by decide +kernel
theorem dX7_find_19 : decode cX7_find 19 = .ok (.getfield 9, 3) := by decide +kernel
theorem dX7_find_22 : decode cX7_find 22 = .ok (.iload_n 2, 1) := by decide +kernel
theorem dX7_find_23 : decode cX7_find 23 = .ok (.aload_n 1, 1) := by decide +kernel
theorem dX7_find_24 : decode cX7_find 24 = .ok (.iload_n 2, 1) := by decide +kernel
theorem dX7_find_25 : decode cX7_find 25 = .ok (.invokevirtual 33, 3) := by decide +kernel
theorem dX7_find_28 : decode cX7_find 28 = .ok (.iastore, 1) := by decide +kernel
theorem dX7_find_29 : decode cX7_find 29 = .ok (.aload_n 0, 1) := by decide +kernel
theorem dX7_find_30 : decode cX7_find 30 = .ok (.getfield 15, 3) := by decide +kernel
theorem dX7_find_33 : decode cX7_find 33 = .ok (.iload_n 2, 1) := by decide +kernel
theorem dX7_find_34 : decode cX7_find 34 = .ok (.aload_n 1, 1) := by decide +kernel
theorem dX7_find_35 : decode cX7_find 35 = .ok (.aload_n 0, 1) := by decide +kernel
theorem dX7_find_36 : decode cX7_find 36 = .ok (.getfield 30, 3) := by decide +kernel
theorem dX7_find_39 : decode cX7_find 39 = .ok (.iconst 1, 1) := by decide +kernel
theorem dX7_find_40 : decode cX7_find 40 = .ok (.isub, 1) := by decide +kernel
theorem dX7_find_41 : decode cX7_find 41 = .ok (.iload_n 2, 1) := by decide +kernel
theorem dX7_find_42 : decode cX7_find 42 = .ok (.isub, 1) := by decide +kernel
theorem dX7_find_43 : decode cX7_find 43 = .ok (.invokevirtual 33, 3) := by decide +kernel
theorem dX7_find_46 : decode cX7_find 46 = .ok (.iconst 2, 1) := by decide +kernel
theorem dX7_find_47 : decode cX7_find 47 = .ok (.invokestatic 37, 3) := by decide +kernel
theorem dX7_find_50 : decode cX7_find 50 = .ok (.iastore, 1) := by decide +kernel
theorem dX7_find_51 : decode cX7_find 51 = .ok (.iinc 2 1, 3) := by decide +kernel
theorem dX7_find_54 : decode cX7_find 54 = .ok (.goto (-44), 3) := by decide +kernel
theorem dX7_find_57 : decode cX7_find 57 = .ok (.aload_n 0, 1) := by decide +kernel
theorem dX7_find_58 : decode cX7_find 58 = .ok (.getfield 21, 3) := by decide +kernel
theorem dX7_find_61 : decode cX7_find 61 = .ok (.iconst 4, 1) := by decide +kernel
theorem dX7_find_62 : decode cX7_find 62 = .ok (.invokestatic 41, 3) := by decide +kernel
theorem dX7_find_65 : decode cX7_find 65 = .ok (.iconst 0, 1) := by decide +kernel
theorem dX7_find_66 : decode cX7_find 66 = .ok (.istore_n 2, 1) := by decide +kernel
theorem dX7_find_67 : decode cX7_find 67 = .ok (.iload_n 2, 1) := by decide +kernel
theorem dX7_find_68 : decode cX7_find 68 = .ok (.iconst 4, 1) := by decide +kernel
theorem dX7_find_69 : decode cX7_find 69 = .ok (.if_icmp .ge 49, 3) := by decide +kernel
theorem dX7_find_72 : decode cX7_find 72 = .ok (.aload_n 0, 1) := by decide +kernel
theorem dX7_find_73 : decode cX7_find 73 = .ok (.aload_n 0, 1) := by decide +kernel
theorem dX7_find_74 : decode cX7_find 74 = .ok (.getfield 9, 3) := by decide +kernel
theorem dX7_find_77 : decode cX7_find 77 = .ok (.iload_n 2, 1) := by decide +kernel
theorem dX7_find_78 : decode cX7_find 78 = .ok (.iconst 0, 1) := by decide +kernel
theorem dX7_find_79 : decode cX7_find 79 = .ok (.invokevirtual 47, 3) := by decide +kernel
theorem dX7_find_82 : decode cX7_find 82 = .ok (.aload_n 0, 1) := by decide +kernel
theorem dX7_find_83 : decode cX7_find 83 = .ok (.aload_n 0, 1) := by decide +kernel
theorem dX7_find_84 : decode cX7_find 84 = .ok (.getfield 9, 3) := by decide +kernel
theorem dX7_find_87 : decode cX7_find 87 = .ok (.iload_n 2, 1) := by decide +kernel
theorem dX7_find_88 : decode cX7_find 88 = .ok (.iconst 1, 1) := by decide +kernel
theorem dX7_find_89 : decode cX7_find 89 = .ok (.invokevirtual 47, 3) := by decide +kernel
theorem dX7_find_92 : decode cX7_find 92 = .ok (.aload_n 0, 1) := by decide +kernel
theorem dX7_find_93 : decode cX7_find 93 = .ok (.aload_n 0, 1) := by decide +kernel
theorem dX7_find_94 : decode cX7_find 94 = .ok (.getfield 15, 3) := by decide +kernel
theorem dX7_find_97 : decode cX7_find 97 = .ok (.iload_n 2, 1) := by decide +kernel
theorem dX7_find_98 : decode cX7_find 98 = .ok (.iconst 0, 1) := by decide +kernel
theorem dX7_find_99 : decode cX7_find 99 = .ok (.invokevirtual 47, 3) := by decide +kernel
theorem dX7_find_102 : decode cX7_find 102 = .ok (.aload_n 0, 1) := by decide +kernel
theorem dX7_find_103 : decode cX7_find 103 = .ok (.aload_n 0, 1) := by decide +kernel
theorem dX7_find_104 : decode cX7_find 104 = .ok (.getfield 15, 3) := by decide +kernel
theorem dX7_find_107 : decode cX7_find 107 = .ok (.iload_n 2, 1) := by decide +kernel
theorem dX7_find_108 : decode cX7_find 108 = .ok (.iconst 1, 1) := by decide +kernel
theorem dX7_find_109 : decode cX7_find 109 = .ok (.invokevirtual 47, 3) := by decide +kernel
theorem dX7_find_112 : decode cX7_find 112 = .ok (.iinc 2 1, 3) := by decide +kernel
theorem dX7_find_115 : decode cX7_find 115 = .ok (.goto (-48), 3) := by decide +kernel
theorem dX7_find_118 : decode cX7_find 118 = .ok (.return_, 1) := by decide +kernel
theorem dX7_consider_0 : decode cX7_consider 0 = .ok (.iconst 0, 1) := by decide +kernel
theorem dX7_consider_1 : decode cX7_consider 1 = .ok (.istore 4, 2) := by decide +kernel
theorem dX7_consider_3 : decode cX7_consider 3 = .ok (.iload 4, 2) := by decide +kernel
theorem dX7_consider_5 : decode cX7_consider 5 = .ok (.aload_n 0, 1) := by decide +kernel
theorem dX7_consider_6 : decode cX7_consider 6 = .ok (.getfield 30, 3) := by decide +kernel
theorem dX7_consider_9 : decode cX7_consider 9 = .ok (.if_icmp .ge 42, 3) := by decide +kernel
theorem dX7_consider_12 : decode cX7_consider 12 = .ok (.iload_n 3, 1) := by decide +kernel
theorem dX7_consider_13 : decode cX7_consider 13 = .ok (.ifCond .eq 13, 3) := by decide +kernel
theorem dX7_consider_16 : decode cX7_consider 16 = .ok (.aload_n 1, 1) := by decide +kernel
theorem dX7_consider_17 : decode cX7_consider 17 = .ok (.iload 4, 2) := by decide +kernel
theorem dX7_consider_19 : decode cX7_consider 19 = .ok (.iaload, 1) := by decide +kernel
theorem dX7_consider_20 : decode cX7_consider 20 = .ok (.invokestatic 51, 3) := by decide +kernel
theorem dX7_consider_23 : decode cX7_consider 23 = .ok (.goto 7, 3) := by decide +kernel
theorem dX7_consider_26 : decode cX7_consider 26 = .ok (.aload_n 1, 1) := by decide +kernel
theorem dX7_consider_27 : decode cX7_consider 27 = .ok (.iload 4, 2) := by decide +kernel
theorem dX7_consider_29 : decode cX7_consider 29 = .ok (.iaload, 1) := by decide +kernel
theorem dX7_consider_30 : decode cX7_consider 30 = .ok (.istore 5, 2) := by decide +kernel
theorem dX7_consider_32 : decode cX7_consider 32 = .ok (.aload_n 0, 1) := by decide +kernel
theorem dX7_consider_33 : decode cX7_consider 33 = .ok (.getfield 18, 3) := by decide +kernel
theorem dX7_consider_36 : decode cX7_consider 36 = .ok (.iload 4, 2) := by decide +kernel
theorem dX7_consider_38 : decode cX7_consider 38 = .ok (.iload 5, 2) := by decide +kernel
theorem dX7_consider_40 : decode cX7_consider 40 = .ok (.iload_n 2, 1) := by decide +kernel
theorem dX7_consider_41 : decode cX7_consider 41 = .ok (.invokestatic 37, 3) := by decide +kernel
theorem dX7_consider_44 : decode cX7_consider 44 = .ok (.iastore, 1) := by decide +kernel
theorem dX7_consider_45 : decode cX7_consider 45 = .ok (.iinc 4 1, 3) := by decide +kernel
theorem dX7_consider_48 : decode cX7_consider 48 = .ok (.goto (-45), 3) := by decide +kernel
theorem dX7_consider_51 : decode cX7_consider 51 = .ok (.aload_n 0, 1) := by decide +kernel
theorem dX7_consider_52 : decode cX7_consider 52 = .ok (.invokevirtual 54, 3) := by decide +kernel
theorem dX7_consider_55 : decode cX7_consider 55 = .ok (.ifCond .eq 20, 3) := by decide +kernel
theorem dX7_consider_58 : decode cX7_consider 58 = .ok (.aload_n 0, 1) := by decide +kernel
theorem dX7_consider_59 : decode cX7_consider 59 = .ok (.getfield 18, 3) := by decide +kernel
theorem dX7_consider_62 : decode cX7_consider 62 = .ok (.iconst 0, 1) := by decide +kernel
theorem dX7_consider_63 : decode cX7_consider 63 = .ok (.aload_n 0, 1) := by decide +kernel
theorem dX7_consider_64 : decode cX7_consider 64 = .ok (.getfield 21, 3) := by decide +kernel
theorem dX7_consider_67 : decode cX7_consider 67 = .ok (.iconst 0, 1) := by decide +kernel
theorem dX7_consider_68 : decode cX7_consider 68 = .ok (.aload_n 0, 1) := by decide +kernel
theorem dX7_consider_69 : decode cX7_consider 69 = .ok (.getfield 30, 3) := by decide +kernel
theorem dX7_consider_72 : decode cX7_consider 72 = .ok (.invokestatic 58, 3) := by decide +kernel
theorem dX7_consider_75 : decode cX7_consider 75 = .ok (.return_, 1) := by decide +kernel
theorem dX7_isViewLess_0 : decode cX7_isViewLess 0 = .ok (.iconst 0, 1) := by decide +kernel
theorem dX7_isViewLess_1 : decode cX7_isViewLess 1 = .ok (.istore_n 1, 1) := by decide +kernel
theorem dX7_isViewLess_2 : decode cX7_isViewLess 2 = .ok (.iload_n 1, 1) := by decide +kernel
theorem dX7_isViewLess_3 : decode cX7_isViewLess 3 = .ok (.aload_n 0, 1) := by decide +kernel
theorem dX7_isViewLess_4 : decode cX7_isViewLess 4 = .ok (.getfield 30, 3) := by decide +kernel
theorem dX7_isViewLess_7 : decode cX7_isViewLess 7 = .ok (.if_icmp .ge 45, 3) := by decide +kernel
theorem dX7_isViewLess_10 : decode cX7_isViewLess 10 = .ok (.aload_n 0, 1) := by decide +kernel
theorem dX7_isViewLess_11 : decode cX7_isViewLess 11 = .ok (.getfield 18, 3) := by decide +kernel
theorem dX7_isViewLess_14 : decode cX7_isViewLess 14 = .ok (.iload_n 1, 1) := by decide +kernel
theorem dX7_isViewLess_15 : decode cX7_isViewLess 15 = .ok (.iaload, 1) := by decide +kernel
theorem dX7_isViewLess_16 : decode cX7_isViewLess 16 = .ok (.aload_n 0, 1) := by decide +kernel
theorem dX7_isViewLess_17 : decode cX7_isViewLess 17 = .ok (.getfield 21, 3) := by decide +kernel
theorem dX7_isViewLess_20 : decode cX7_isViewLess 20 = .ok (.iload_n 1, 1) := by decide +kernel
theorem dX7_isViewLess_21 : decode cX7_isViewLess 21 = .ok (.iaload, 1) := by decide +kernel
theorem dX7_isViewLess_22 : decode cX7_isViewLess 22 = .ok (.if_icmp .eq 24, 3) := by decide +kernel
theorem dX7_isViewLess_25 : decode cX7_isViewLess 25 = .ok (.aload_n 0, 1) := by decide +kernel
theorem dX7_isViewLess_26 : decode cX7_isViewLess 26 = .ok (.getfield 18, 3) := by decide +kernel
theorem dX7_isViewLess_29 : decode cX7_isViewLess 29 = .ok (.iload_n 1, 1) := by decide +kernel
theorem dX7_isViewLess_30 : decode cX7_isViewLess 30 = .ok (.iaload, 1) := by decide +kernel
theorem dX7_isViewLess_31 : decode cX7_isViewLess 31 = .ok (.aload_n 0, 1) := by decide +kernel
theorem dX7_isViewLess_32 : decode cX7_isViewLess 32 = .ok (.getfield 21, 3) := by decide +kernel
theorem dX7_isViewLess_35 : decode cX7_isViewLess 35 = .ok (.iload_n 1, 1) := by decide +kernel
theorem dX7_isViewLess_36 : decode cX7_isViewLess 36 = .ok (.iaload, 1) := by decide +kernel
theorem dX7_isViewLess_37 : decode cX7_isViewLess 37 = .ok (.if_icmp .ge 7, 3) := by decide +kernel
theorem dX7_isViewLess_40 : decode cX7_isViewLess 40 = .ok (.iconst 1, 1) := by decide +kernel
theorem dX7_isViewLess_41 : decode cX7_isViewLess 41 = .ok (.goto 4, 3) := by decide +kernel
theorem dX7_isViewLess_44 : decode cX7_isViewLess 44 = .ok (.iconst 0, 1) := by decide +kernel
theorem dX7_isViewLess_45 : decode cX7_isViewLess 45 = .ok (.ireturn, 1) := by decide +kernel
theorem dX7_isViewLess_46 : decode cX7_isViewLess 46 = .ok (.iinc 1 1, 3) := by decide +kernel
theorem dX7_isViewLess_49 : decode cX7_isViewLess 49 = .ok (.goto (-47), 3) := by decide +kernel
theorem dX7_isViewLess_52 : decode cX7_isViewLess 52 = .ok (.iconst 0, 1) := by decide +kernel
theorem dX7_isViewLess_53 : decode cX7_isViewLess 53 = .ok (.ireturn, 1) := by decide +kernel
theorem dX7_turned_0 : decode cX7_turned 0 = .ok (.iload_n 0, 1) := by decide +kernel
theorem dX7_turned_1 : decode cX7_turned 1 = .ok (.iload_n 1, 1) := by decide +kernel
theorem dX7_turned_2 : decode cX7_turned 2 = .ok (.iadd, 1) := by decide +kernel
theorem dX7_turned_3 : decode cX7_turned 3 = .ok (.iconst 4, 1) := by decide +kernel
theorem dX7_turned_4 : decode cX7_turned 4 = .ok (.irem, 1) := by decide +kernel
theorem dX7_turned_5 : decode cX7_turned 5 = .ok (.ireturn, 1) := by decide +kernel
theorem dX7_mirrored_0 : decode cX7_mirrored 0 = .ok (.iconst 4, 1) := by decide +kernel
theorem dX7_mirrored_1 : decode cX7_mirrored 1 = .ok (.iload_n 0, 1) := by decide +kernel
theorem dX7_mirrored_2 : decode cX7_mirrored 2 = .ok (.isub, 1) := by decide +kernel
theorem dX7_mirrored_3 : decode cX7_mirrored 3 = .ok (.iconst 4, 1) := by decide +kernel
theorem dX7_mirrored_4 : decode cX7_mirrored 4 = .ok (.irem, 1) := by decide +kernel
theorem dX7_mirrored_5 : decode cX7_mirrored 5 = .ok (.ireturn, 1) := by decide +kernel
theorem dX7_stepAt_0 : decode cX7_stepAt 0 = .ok (.iload_n 1, 1) := by decide +kernel
theorem dX7_stepAt_1 : decode cX7_stepAt 1 = .ok (.ifCond .lt 20, 3) := by decide +kernel
theorem dX7_stepAt_4 : decode cX7_stepAt 4 = .ok (.iload_n 1, 1) := by decide +kernel
theorem dX7_stepAt_5 : decode cX7_stepAt 5 = .ok (.aload_n 0, 1) := by decide +kernel
theorem dX7_stepAt_6 : decode cX7_stepAt 6 = .ok (.getfield 30, 3) := by decide +kernel
theorem dX7_stepAt_9 : decode cX7_stepAt 9 = .ok (.if_icmp .ge 12, 3) := by decide +kernel
theorem dX7_stepAt_12 : decode cX7_stepAt 12 = .ok (.aload_n 0, 1) := by decide +kernel
theorem dX7_stepAt_13 : decode cX7_stepAt 13 = .ok (.getfield 21, 3) := by decide +kernel
theorem dX7_stepAt_16 : decode cX7_stepAt 16 = .ok (.iload_n 1, 1) := by decide +kernel
theorem dX7_stepAt_17 : decode cX7_stepAt 17 = .ok (.iaload, 1) := by decide +kernel
theorem dX7_stepAt_18 : decode cX7_stepAt 18 = .ok (.goto 4, 3) := by decide +kernel
theorem dX7_stepAt_21 : decode cX7_stepAt 21 = .ok (.iconst (-1), 1) := by decide +kernel
theorem dX7_stepAt_22 : decode cX7_stepAt 22 = .ok (.ireturn, 1) := by decide +kernel
theorem dX7_matches_0 : decode cX7_matches 0 = .ok (.aload_n 0, 1) := by decide +kernel
theorem dX7_matches_1 : decode cX7_matches 1 = .ok (.getfield 30, 3) := by decide +kernel
theorem dX7_matches_4 : decode cX7_matches 4 = .ok (.aload_n 1, 1) := by decide +kernel
theorem dX7_matches_5 : decode cX7_matches 5 = .ok (.getfield 30, 3) := by decide +kernel
theorem dX7_matches_8 : decode cX7_matches 8 = .ok (.if_icmp .eq 5, 3) := by decide +kernel
theorem dX7_matches_11 : decode cX7_matches 11 = .ok (.iconst 0, 1) := by decide +kernel
theorem dX7_matches_12 : decode cX7_matches 12 = .ok (.ireturn, 1) := by decide +kernel
theorem dX7_matches_13 : decode cX7_matches 13 = .ok (.iconst 0, 1) := by decide +kernel
theorem dX7_matches_14 : decode cX7_matches 14 = .ok (.istore_n 2, 1) := by decide +kernel
theorem dX7_matches_15 : decode cX7_matches 15 = .ok (.iload_n 2, 1) := by decide +kernel
theorem dX7_matches_16 : decode cX7_matches 16 = .ok (.aload_n 0, 1) := by decide +kernel
theorem dX7_matches_17 : decode cX7_matches 17 = .ok (.getfield 30, 3) := by decide +kernel
theorem dX7_matches_20 : decode cX7_matches 20 = .ok (.if_icmp .ge 26, 3) := by decide +kernel
theorem dX7_matches_23 : decode cX7_matches 23 = .ok (.aload_n 0, 1) := by decide +kernel
theorem dX7_matches_24 : decode cX7_matches 24 = .ok (.getfield 21, 3) := by decide +kernel
theorem dX7_matches_27 : decode cX7_matches 27 = .ok (.iload_n 2, 1) := by decide +kernel
theorem dX7_matches_28 : decode cX7_matches 28 = .ok (.iaload, 1) := by decide +kernel
theorem dX7_matches_29 : decode cX7_matches 29 = .ok (.aload_n 1, 1) := by decide +kernel
theorem dX7_matches_30 : decode cX7_matches 30 = .ok (.getfield 21, 3) := by decide +kernel
theorem dX7_matches_33 : decode cX7_matches 33 = .ok (.iload_n 2, 1) := by decide +kernel
theorem dX7_matches_34 : decode cX7_matches 34 = .ok (.iaload, 1) := by decide +kernel
theorem dX7_matches_35 : decode cX7_matches 35 = .ok (.if_icmp .eq 5, 3) := by decide +kernel
theorem dX7_matches_38 : decode cX7_matches 38 = .ok (.iconst 0, 1) := by decide +kernel
theorem dX7_matches_39 : decode cX7_matches 39 = .ok (.ireturn, 1) := by decide +kernel
theorem dX7_matches_40 : decode cX7_matches 40 = .ok (.iinc 2 1, 3) := by decide +kernel
theorem dX7_matches_43 : decode cX7_matches 43 = .ok (.goto (-28), 3) := by decide +kernel
theorem dX7_matches_46 : decode cX7_matches 46 = .ok (.iconst 1, 1) := by decide +kernel
theorem dX7_matches_47 : decode cX7_matches 47 = .ok (.ireturn, 1) := by decide +kernel
theorem dX8_init_0 : decode cX8_init 0 = .ok (.aload_n 0, 1) := by decide +kernel
theorem dX8_init_1 : decode cX8_init 1 = .ok (.invokespecial 3, 3) := by decide +kernel
theorem dX8_init_4 : decode cX8_init 4 = .ok (.aload_n 0, 1) := by decide +kernel
theorem dX8_init_5 : decode cX8_init 5 = .ok (.iconst 2, 1) := by decide +kernel
theorem dX8_init_6 : decode cX8_init 6 = .ok (.anewarray 9, 3) := by decide +kernel
theorem dX8_init_9 : decode cX8_init 9 = .ok (.putfield 11, 3) := by decide +kernel
theorem dX8_init_12 : decode cX8_init 12 = .ok (.aload_n 0, 1) := by decide +kernel
theorem dX8_init_13 : decode cX8_init 13 = .ok (.iconst 2, 1) := by decide +kernel
theorem dX8_init_14 : decode cX8_init 14 = .ok (.newarray .boolean, 2) := by decide +kernel
theorem dX8_init_16 : decode cX8_init 16 = .ok (.putfield 17, 3) := by decide +kernel
theorem dX8_init_19 : decode cX8_init 19 = .ok (.iconst 0, 1) := by decide +kernel
theorem dX8_init_20 : decode cX8_init 20 = .ok (.istore_n 1, 1) := by decide +kernel
theorem dX8_init_21 : decode cX8_init 21 = .ok (.iload_n 1, 1) := by decide +kernel
theorem dX8_init_22 : decode cX8_init 22 = .ok (.iconst 2, 1) := by decide +kernel
theorem dX8_init_23 : decode cX8_init 23 = .ok (.if_icmp .ge 22, 3) := by decide +kernel
theorem dX8_init_26 : decode cX8_init 26 = .ok (.aload_n 0, 1) := by decide +kernel
theorem dX8_init_27 : decode cX8_init 27 = .ok (.getfield 11, 3) := by decide +kernel
theorem dX8_init_30 : decode cX8_init 30 = .ok (.iload_n 1, 1) := by decide +kernel
theorem dX8_init_31 : decode cX8_init 31 = .ok (.new 9, 3) := by decide +kernel
theorem dX8_init_34 : decode cX8_init 34 = .ok (.dup, 1) := by decide +kernel
theorem dX8_init_35 : decode cX8_init 35 = .ok (.invokespecial 21, 3) := by decide +kernel
theorem dX8_init_38 : decode cX8_init 38 = .ok (.aastore, 1) := by decide +kernel
theorem dX8_init_39 : decode cX8_init 39 = .ok (.iinc 1 1, 3) := by decide +kernel
theorem dX8_init_42 : decode cX8_init 42 = .ok (.goto (-21), 3) := by decide +kernel
theorem dX8_init_45 : decode cX8_init 45 = .ok (.return_, 1) := by decide +kernel
theorem dX8_isTaken_0 : decode cX8_isTaken 0 = .ok (.aload_n 0, 1) := by decide +kernel
theorem dX8_isTaken_1 : decode cX8_isTaken 1 = .ok (.getfield 17, 3) := by decide +kernel
theorem dX8_isTaken_4 : decode cX8_isTaken 4 = .ok (.iload_n 1, 1) := by decide +kernel
theorem dX8_isTaken_5 : decode cX8_isTaken 5 = .ok (.baload, 1) := by decide +kernel
theorem dX8_isTaken_6 : decode cX8_isTaken 6 = .ok (.ireturn, 1) := by decide +kernel
theorem dX8_take_0 : decode cX8_take 0 = .ok (.aload_n 0, 1) := by decide +kernel
theorem dX8_take_1 : decode cX8_take 1 = .ok (.getfield 11, 3) := by decide +kernel
theorem dX8_take_4 : decode cX8_take 4 = .ok (.iload_n 1, 1) := by decide +kernel
theorem dX8_take_5 : decode cX8_take 5 = .ok (.aaload, 1) := by decide +kernel
theorem dX8_take_6 : decode cX8_take 6 = .ok (.aload_n 2, 1) := by decide +kernel
theorem dX8_take_7 : decode cX8_take 7 = .ok (.invokevirtual 22, 3) := by decide +kernel
theorem dX8_take_10 : decode cX8_take 10 = .ok (.aload_n 0, 1) := by decide +kernel
theorem dX8_take_11 : decode cX8_take 11 = .ok (.getfield 17, 3) := by decide +kernel
theorem dX8_take_14 : decode cX8_take 14 = .ok (.iload_n 1, 1) := by decide +kernel
theorem dX8_take_15 : decode cX8_take 15 = .ok (.iconst 1, 1) := by decide +kernel
theorem dX8_take_16 : decode cX8_take 16 = .ok (.bastore, 1) := by decide +kernel
theorem dX8_take_17 : decode cX8_take 17 = .ok (.return_, 1) := by decide +kernel
theorem dX8_putInto_0 : decode cX8_putInto 0 = .ok (.aload_n 0, 1) := by decide +kernel
theorem dX8_putInto_1 : decode cX8_putInto 1 = .ok (.getfield 11, 3) := by decide +kernel
theorem dX8_putInto_4 : decode cX8_putInto 4 = .ok (.iload_n 2, 1) := by decide +kernel
theorem dX8_putInto_5 : decode cX8_putInto 5 = .ok (.aaload, 1) := by decide +kernel
theorem dX8_putInto_6 : decode cX8_putInto 6 = .ok (.aload_n 1, 1) := by decide +kernel
theorem dX8_putInto_7 : decode cX8_putInto 7 = .ok (.invokevirtual 26, 3) := by decide +kernel
theorem dX8_putInto_10 : decode cX8_putInto 10 = .ok (.return_, 1) := by decide +kernel
theorem dX9_init_0 : decode cX9_init 0 = .ok (.aload_n 0, 1) := by decide +kernel
theorem dX9_init_1 : decode cX9_init 1 = .ok (.invokespecial 3, 3) := by decide +kernel
theorem dX9_init_4 : decode cX9_init 4 = .ok (.aload_n 0, 1) := by decide +kernel
theorem dX9_init_5 : decode cX9_init 5 = .ok (.bipush 60, 2) := by decide +kernel
theorem dX9_init_7 : decode cX9_init 7 = .ok (.newarray .int, 2) := by decide +kernel
theorem dX9_init_9 : decode cX9_init 9 = .ok (.putfield 9, 3) := by decide +kernel
theorem dX9_init_12 : decode cX9_init 12 = .ok (.return_, 1) := by decide +kernel
theorem dX9_length_0 : decode cX9_length 0 = .ok (.aload_n 0, 1) := by decide +kernel
theorem dX9_length_1 : decode cX9_length 1 = .ok (.getfield 15, 3) := by decide +kernel
theorem dX9_length_4 : decode cX9_length 4 = .ok (.ireturn, 1) := by decide +kernel
theorem dX9_isFull_0 : decode cX9_isFull 0 = .ok (.aload_n 0, 1) := by decide +kernel
theorem dX9_isFull_1 : decode cX9_isFull 1 = .ok (.getfield 15, 3) := by decide +kernel
theorem dX9_isFull_4 : decode cX9_isFull 4 = .ok (.bipush 60, 2) := by decide +kernel
theorem dX9_isFull_6 : decode cX9_isFull 6 = .ok (.if_icmp .lt 7, 3) := by decide +kernel
theorem dX9_isFull_9 : decode cX9_isFull 9 = .ok (.iconst 1, 1) := by decide +kernel
theorem dX9_isFull_10 : decode cX9_isFull 10 = .ok (.goto 4, 3) := by decide +kernel
theorem dX9_isFull_13 : decode cX9_isFull 13 = .ok (.iconst 0, 1) := by decide +kernel
theorem dX9_isFull_14 : decode cX9_isFull 14 = .ok (.ireturn, 1) := by decide +kernel
theorem dX9_has_0 : decode cX9_has 0 = .ok (.iload_n 1, 1) := by decide +kernel
theorem dX9_has_1 : decode cX9_has 1 = .ok (.ifCond .lt 15, 3) := by decide +kernel
theorem dX9_has_4 : decode cX9_has 4 = .ok (.iload_n 1, 1) := by decide +kernel
theorem dX9_has_5 : decode cX9_has 5 = .ok (.aload_n 0, 1) := by decide +kernel
theorem dX9_has_6 : decode cX9_has 6 = .ok (.getfield 15, 3) := by decide +kernel
theorem dX9_has_9 : decode cX9_has 9 = .ok (.if_icmp .ge 7, 3) := by decide +kernel
theorem dX9_has_12 : decode cX9_has 12 = .ok (.iconst 1, 1) := by decide +kernel
theorem dX9_has_13 : decode cX9_has 13 = .ok (.goto 4, 3) := by decide +kernel
theorem dX9_has_16 : decode cX9_has 16 = .ok (.iconst 0, 1) := by decide +kernel
theorem dX9_has_17 : decode cX9_has 17 = .ok (.ireturn, 1) := by decide +kernel
theorem dX9_at_0 : decode cX9_at 0 = .ok (.aload_n 0, 1) := by decide +kernel
theorem dX9_at_1 : decode cX9_at 1 = .ok (.iload_n 1, 1) := by decide +kernel
theorem dX9_at_2 : decode cX9_at 2 = .ok (.invokevirtual 19, 3) := by decide +kernel
theorem dX9_at_5 : decode cX9_at 5 = .ok (.ifCond .eq 12, 3) := by decide +kernel
theorem dX9_at_8 : decode cX9_at 8 = .ok (.aload_n 0, 1) := by decide +kernel
theorem dX9_at_9 : decode cX9_at 9 = .ok (.getfield 9, 3) := by decide +kernel
theorem dX9_at_12 : decode cX9_at 12 = .ok (.iload_n 1, 1) := by decide +kernel
theorem dX9_at_13 : decode cX9_at 13 = .ok (.iaload, 1) := by decide +kernel
theorem dX9_at_14 : decode cX9_at 14 = .ok (.goto 4, 3) := by decide +kernel
theorem dX9_at_17 : decode cX9_at 17 = .ok (.iconst (-1), 1) := by decide +kernel
theorem dX9_at_18 : decode cX9_at 18 = .ok (.ireturn, 1) := by decide +kernel
theorem dX9_tail_0 : decode cX9_tail 0 = .ok (.aload_n 0, 1) := by decide +kernel
theorem dX9_tail_1 : decode cX9_tail 1 = .ok (.iconst 0, 1) := by decide +kernel
theorem dX9_tail_2 : decode cX9_tail 2 = .ok (.invokevirtual 23, 3) := by decide +kernel
theorem dX9_tail_5 : decode cX9_tail 5 = .ok (.ireturn, 1) := by decide +kernel
theorem dX9_head_0 : decode cX9_head 0 = .ok (.aload_n 0, 1) := by decide +kernel
theorem dX9_head_1 : decode cX9_head 1 = .ok (.aload_n 0, 1) := by decide +kernel
theorem dX9_head_2 : decode cX9_head 2 = .ok (.getfield 15, 3) := by decide +kernel
theorem dX9_head_5 : decode cX9_head 5 = .ok (.iconst 1, 1) := by decide +kernel
theorem dX9_head_6 : decode cX9_head 6 = .ok (.isub, 1) := by decide +kernel
theorem dX9_head_7 : decode cX9_head 7 = .ok (.invokevirtual 23, 3) := by decide +kernel
theorem dX9_head_10 : decode cX9_head 10 = .ok (.ireturn, 1) := by decide +kernel
theorem dX9_covers_0 : decode cX9_covers 0 = .ok (.iconst 0, 1) := by decide +kernel
theorem dX9_covers_1 : decode cX9_covers 1 = .ok (.istore_n 2, 1) := by decide +kernel
theorem dX9_covers_2 : decode cX9_covers 2 = .ok (.iload_n 2, 1) := by decide +kernel
theorem dX9_covers_3 : decode cX9_covers 3 = .ok (.aload_n 0, 1) := by decide +kernel
theorem dX9_covers_4 : decode cX9_covers 4 = .ok (.getfield 15, 3) := by decide +kernel
theorem dX9_covers_7 : decode cX9_covers 7 = .ok (.if_icmp .ge 21, 3) := by decide +kernel
theorem dX9_covers_10 : decode cX9_covers 10 = .ok (.aload_n 0, 1) := by decide +kernel
theorem dX9_covers_11 : decode cX9_covers 11 = .ok (.getfield 9, 3) := by decide +kernel
theorem dX9_covers_14 : decode cX9_covers 14 = .ok (.iload_n 2, 1) := by decide +kernel
theorem dX9_covers_15 : decode cX9_covers 15 = .ok (.iaload, 1) := by decide +kernel
theorem dX9_covers_16 : decode cX9_covers 16 = .ok (.iload_n 1, 1) := by decide +kernel
theorem dX9_covers_17 : decode cX9_covers 17 = .ok (.if_icmp .ne 5, 3) := by decide +kernel
theorem dX9_covers_20 : decode cX9_covers 20 = .ok (.iconst 1, 1) := by decide +kernel
theorem dX9_covers_21 : decode cX9_covers 21 = .ok (.ireturn, 1) := by decide +kernel
theorem dX9_covers_22 : decode cX9_covers 22 = .ok (.iinc 2 1, 3) := by decide +kernel
theorem dX9_covers_25 : decode cX9_covers 25 = .ok (.goto (-23), 3) := by decide +kernel
theorem dX9_covers_28 : decode cX9_covers 28 = .ok (.iconst 0, 1) := by decide +kernel
theorem dX9_covers_29 : decode cX9_covers 29 = .ok (.ireturn, 1) := by decide +kernel
theorem dX9_clear_0 : decode cX9_clear 0 = .ok (.aload_n 0, 1) := by decide +kernel
theorem dX9_clear_1 : decode cX9_clear 1 = .ok (.iconst 0, 1) := by decide +kernel
theorem dX9_clear_2 : decode cX9_clear 2 = .ok (.putfield 15, 3) := by decide +kernel
theorem dX9_clear_5 : decode cX9_clear 5 = .ok (.return_, 1) := by decide +kernel
theorem dX9_begin_0 : decode cX9_begin 0 = .ok (.aload_n 0, 1) := by decide +kernel
theorem dX9_begin_1 : decode cX9_begin 1 = .ok (.invokevirtual 27, 3) := by decide +kernel
theorem dX9_begin_4 : decode cX9_begin 4 = .ok (.aload_n 0, 1) := by decide +kernel
theorem dX9_begin_5 : decode cX9_begin 5 = .ok (.iload_n 1, 1) := by decide +kernel
theorem dX9_begin_6 : decode cX9_begin 6 = .ok (.invokevirtual 30, 3) := by decide +kernel
theorem dX9_begin_9 : decode cX9_begin 9 = .ok (.return_, 1) := by decide +kernel
theorem dX9_push_0 : decode cX9_push 0 = .ok (.aload_n 0, 1) := by decide +kernel
theorem dX9_push_1 : decode cX9_push 1 = .ok (.invokevirtual 34, 3) := by decide +kernel
theorem dX9_push_4 : decode cX9_push 4 = .ok (.ifCond .ne 23, 3) := by decide +kernel
theorem dX9_push_7 : decode cX9_push 7 = .ok (.aload_n 0, 1) := by decide +kernel
theorem dX9_push_8 : decode cX9_push 8 = .ok (.getfield 9, 3) := by decide +kernel
theorem dX9_push_11 : decode cX9_push 11 = .ok (.aload_n 0, 1) := by decide +kernel
theorem dX9_push_12 : decode cX9_push 12 = .ok (.getfield 15, 3) := by decide +kernel
theorem dX9_push_15 : decode cX9_push 15 = .ok (.iload_n 1, 1) := by decide +kernel
theorem dX9_push_16 : decode cX9_push 16 = .ok (.iastore, 1) := by decide +kernel
theorem dX9_push_17 : decode cX9_push 17 = .ok (.aload_n 0, 1) := by decide +kernel
theorem dX9_push_18 : decode cX9_push 18 = .ok (.dup, 1) := by decide +kernel
theorem dX9_push_19 : decode cX9_push 19 = .ok (.getfield 15, 3) := by decide +kernel
theorem dX9_push_22 : decode cX9_push 22 = .ok (.iconst 1, 1) := by decide +kernel
theorem dX9_push_23 : decode cX9_push 23 = .ok (.iadd, 1) := by decide +kernel
theorem dX9_push_24 : decode cX9_push 24 = .ok (.putfield 15, 3) := by decide +kernel
theorem dX9_push_27 : decode cX9_push 27 = .ok (.return_, 1) := by decide +kernel
theorem dX9_put_0 : decode cX9_put 0 = .ok (.aload_n 0, 1) := by decide +kernel
theorem dX9_put_1 : decode cX9_put 1 = .ok (.iload_n 1, 1) := by decide +kernel
theorem dX9_put_2 : decode cX9_put 2 = .ok (.invokevirtual 19, 3) := by decide +kernel
theorem dX9_put_5 : decode cX9_put 5 = .ok (.ifCond .eq 10, 3) := by decide +kernel
theorem dX9_put_8 : decode cX9_put 8 = .ok (.aload_n 0, 1) := by decide +kernel
theorem dX9_put_9 : decode cX9_put 9 = .ok (.getfield 9, 3) := by decide +kernel
theorem dX9_put_12 : decode cX9_put 12 = .ok (.iload_n 1, 1) := by decide +kernel
theorem dX9_put_13 : decode cX9_put 13 = .ok (.iload_n 2, 1) := by decide +kernel
theorem dX9_put_14 : decode cX9_put 14 = .ok (.iastore, 1) := by decide +kernel
theorem dX9_put_15 : decode cX9_put 15 = .ok (.return_, 1) := by decide +kernel
theorem dX9_endAt_0 : decode cX9_endAt 0 = .ok (.aload_n 0, 1) := by decide +kernel
theorem dX9_endAt_1 : decode cX9_endAt 1 = .ok (.iload_n 1, 1) := by decide +kernel
theorem dX9_endAt_2 : decode cX9_endAt 2 = .ok (.invokevirtual 19, 3) := by decide +kernel
theorem dX9_endAt_5 : decode cX9_endAt 5 = .ok (.ifCond .eq 10, 3) := by decide +kernel
theorem dX9_endAt_8 : decode cX9_endAt 8 = .ok (.aload_n 0, 1) := by decide +kernel
theorem dX9_endAt_9 : decode cX9_endAt 9 = .ok (.iload_n 1, 1) := by decide +kernel
theorem dX9_endAt_10 : decode cX9_endAt 10 = .ok (.iconst 1, 1) := by decide +kernel
theorem dX9_endAt_11 : decode cX9_endAt 11 = .ok (.iadd, 1) := by decide +kernel
theorem dX9_endAt_12 : decode cX9_endAt 12 = .ok (.putfield 15, 3) := by decide +kernel
theorem dX9_endAt_15 : decode cX9_endAt 15 = .ok (.return_, 1) := by decide +kernel
theorem dX9_advanceTo_0 : decode cX9_advanceTo 0 = .ok (.iconst 1, 1) := by decide +kernel
theorem dX9_advanceTo_1 : decode cX9_advanceTo 1 = .ok (.istore_n 2, 1) := by decide +kernel
theorem dX9_advanceTo_2 : decode cX9_advanceTo 2 = .ok (.iload_n 2, 1) := by decide +kernel
theorem dX9_advanceTo_3 : decode cX9_advanceTo 3 = .ok (.aload_n 0, 1) := by decide +kernel
theorem dX9_advanceTo_4 : decode cX9_advanceTo 4 = .ok (.getfield 15, 3) := by decide +kernel
theorem dX9_advanceTo_7 : decode cX9_advanceTo 7 = .ok (.if_icmp .ge 23, 3) := by decide +kernel
theorem dX9_advanceTo_10 : decode cX9_advanceTo 10 = .ok (.aload_n 0, 1) := by decide +kernel
theorem dX9_advanceTo_11 : decode cX9_advanceTo 11 = .ok (.getfield 9, 3) := by decide +kernel
theorem dX9_advanceTo_14 : decode cX9_advanceTo 14 = .ok (.iload_n 2, 1) := by decide +kernel
theorem dX9_advanceTo_15 : decode cX9_advanceTo 15 = .ok (.iconst 1, 1) := by decide +kernel
theorem dX9_advanceTo_16 : decode cX9_advanceTo 16 = .ok (.isub, 1) := by decide +kernel
theorem dX9_advanceTo_17 : decode cX9_advanceTo 17 = .ok (.aload_n 0, 1) := by decide +kernel
theorem dX9_advanceTo_18 : decode cX9_advanceTo 18 = .ok (.getfield 9, 3) := by decide +kernel
theorem dX9_advanceTo_21 : decode cX9_advanceTo 21 = .ok (.iload_n 2, 1) := by decide +kernel
theorem dX9_advanceTo_22 : decode cX9_advanceTo 22 = .ok (.iaload, 1) := by decide +kernel
theorem dX9_advanceTo_23 : decode cX9_advanceTo 23 = .ok (.iastore, 1) := by decide +kernel
theorem dX9_advanceTo_24 : decode cX9_advanceTo 24 = .ok (.iinc 2 1, 3) := by decide +kernel
theorem dX9_advanceTo_27 : decode cX9_advanceTo 27 = .ok (.goto (-25), 3) := by decide +kernel
theorem dX9_advanceTo_30 : decode cX9_advanceTo 30 = .ok (.aload_n 0, 1) := by decide +kernel
theorem dX9_advanceTo_31 : decode cX9_advanceTo 31 = .ok (.aload_n 0, 1) := by decide +kernel
theorem dX9_advanceTo_32 : decode cX9_advanceTo 32 = .ok (.getfield 15, 3) := by decide +kernel
theorem dX9_advanceTo_35 : decode cX9_advanceTo 35 = .ok (.iconst 1, 1) := by decide +kernel
theorem dX9_advanceTo_36 : decode cX9_advanceTo 36 = .ok (.isub, 1) := by decide +kernel
theorem dX9_advanceTo_37 : decode cX9_advanceTo 37 = .ok (.iload_n 1, 1) := by decide +kernel
theorem dX9_advanceTo_38 : decode cX9_advanceTo 38 = .ok (.invokevirtual 38, 3) := by decide +kernel
theorem dX9_advanceTo_41 : decode cX9_advanceTo 41 = .ok (.return_, 1) := by decide +kernel
theorem dX9_copyFrom_0 : decode cX9_copyFrom 0 = .ok (.aload_n 0, 1) := by decide +kernel
theorem dX9_copyFrom_1 : decode cX9_copyFrom 1 = .ok (.invokevirtual 27, 3) := by decide +kernel
theorem dX9_copyFrom_4 : decode cX9_copyFrom 4 = .ok (.iload_n 2, 1) := by decide +kernel
theorem dX9_copyFrom_5 : decode cX9_copyFrom 5 = .ok (.istore_n 3, 1) := by decide +kernel
theorem dX9_copyFrom_6 : decode cX9_copyFrom 6 = .ok (.iload_n 3, 1) := by decide +kernel
theorem dX9_copyFrom_7 : decode cX9_copyFrom 7 = .ok (.aload_n 1, 1) := by decide +kernel
theorem dX9_copyFrom_8 : decode cX9_copyFrom 8 = .ok (.getfield 15, 3) := by decide +kernel
theorem dX9_copyFrom_11 : decode cX9_copyFrom 11 = .ok (.if_icmp .ge 18, 3) := by decide +kernel
theorem dX9_copyFrom_14 : decode cX9_copyFrom 14 = .ok (.aload_n 0, 1) := by decide +kernel
theorem dX9_copyFrom_15 : decode cX9_copyFrom 15 = .ok (.aload_n 1, 1) := by decide +kernel
theorem dX9_copyFrom_16 : decode cX9_copyFrom 16 = .ok (.iload_n 3, 1) := by decide +kernel
theorem dX9_copyFrom_17 : decode cX9_copyFrom 17 = .ok (.invokevirtual 23, 3) := by decide +kernel
theorem dX9_copyFrom_20 : decode cX9_copyFrom 20 = .ok (.invokevirtual 30, 3) := by decide +kernel
theorem dX9_copyFrom_23 : decode cX9_copyFrom 23 = .ok (.iinc 3 1, 3) := by decide +kernel
theorem dX9_copyFrom_26 : decode cX9_copyFrom 26 = .ok (.goto (-20), 3) := by decide +kernel
theorem dX9_copyFrom_29 : decode cX9_copyFrom 29 = .ok (.return_, 1) := by decide +kernel
theorem dX9_flip_0 : decode cX9_flip 0 = .ok (.iconst 0, 1) := by decide +kernel
theorem dX9_flip_1 : decode cX9_flip 1 = .ok (.istore_n 1, 1) := by decide +kernel
theorem dX9_flip_2 : decode cX9_flip 2 = .ok (.aload_n 0, 1) := by decide +kernel
theorem dX9_flip_3 : decode cX9_flip 3 = .ok (.getfield 15, 3) := by decide +kernel
theorem dX9_flip_6 : decode cX9_flip 6 = .ok (.iconst 1, 1) := by decide +kernel
theorem dX9_flip_7 : decode cX9_flip 7 = .ok (.isub, 1) := by decide +kernel
theorem dX9_flip_8 : decode cX9_flip 8 = .ok (.istore_n 2, 1) := by decide +kernel
theorem dX9_flip_9 : decode cX9_flip 9 = .ok (.iload_n 1, 1) := by decide +kernel
theorem dX9_flip_10 : decode cX9_flip 10 = .ok (.iload_n 2, 1) := by decide +kernel
theorem dX9_flip_11 : decode cX9_flip 11 = .ok (.if_icmp .ge 38, 3) := by decide +kernel
theorem dX9_flip_14 : decode cX9_flip 14 = .ok (.aload_n 0, 1) := by decide +kernel
theorem dX9_flip_15 : decode cX9_flip 15 = .ok (.getfield 9, 3) := by decide +kernel
theorem dX9_flip_18 : decode cX9_flip 18 = .ok (.iload_n 1, 1) := by decide +kernel
theorem dX9_flip_19 : decode cX9_flip 19 = .ok (.iaload, 1) := by decide +kernel
theorem dX9_flip_20 : decode cX9_flip 20 = .ok (.istore_n 3, 1) := by decide +kernel
theorem dX9_flip_21 : decode cX9_flip 21 = .ok (.aload_n 0, 1) := by decide +kernel
theorem dX9_flip_22 : decode cX9_flip 22 = .ok (.getfield 9, 3) := by decide +kernel
theorem dX9_flip_25 : decode cX9_flip 25 = .ok (.iload_n 1, 1) := by decide +kernel
theorem dX9_flip_26 : decode cX9_flip 26 = .ok (.aload_n 0, 1) := by decide +kernel
theorem dX9_flip_27 : decode cX9_flip 27 = .ok (.getfield 9, 3) := by decide +kernel
theorem dX9_flip_30 : decode cX9_flip 30 = .ok (.iload_n 2, 1) := by decide +kernel
theorem dX9_flip_31 : decode cX9_flip 31 = .ok (.iaload, 1) := by decide +kernel
theorem dX9_flip_32 : decode cX9_flip 32 = .ok (.iastore, 1) := by decide +kernel
theorem dX9_flip_33 : decode cX9_flip 33 = .ok (.aload_n 0, 1) := by decide +kernel
theorem dX9_flip_34 : decode cX9_flip 34 = .ok (.getfield 9, 3) := by decide +kernel
theorem dX9_flip_37 : decode cX9_flip 37 = .ok (.iload_n 2, 1) := by decide +kernel
theorem dX9_flip_38 : decode cX9_flip 38 = .ok (.iload_n 3, 1) := by decide +kernel
theorem dX9_flip_39 : decode cX9_flip 39 = .ok (.iastore, 1) := by decide +kernel
theorem dX9_flip_40 : decode cX9_flip 40 = .ok (.iinc 1 1, 3) := by decide +kernel
theorem dX9_flip_43 : decode cX9_flip 43 = .ok (.iinc 2 (-1), 3) := by decide +kernel
theorem dX9_flip_46 : decode cX9_flip 46 = .ok (.goto (-37), 3) := by decide +kernel
theorem dX9_flip_49 : decode cX9_flip 49 = .ok (.return_, 1) := by decide +kernel
theorem dX9_steps_0 : decode cX9_steps 0 = .ok (.aload_n 0, 1) := by decide +kernel
theorem dX9_steps_1 : decode cX9_steps 1 = .ok (.getfield 15, 3) := by decide +kernel
theorem dX9_steps_4 : decode cX9_steps 4 = .ok (.iconst 1, 1) := by decide +kernel
theorem dX9_steps_5 : decode cX9_steps 5 = .ok (.isub, 1) := by decide +kernel
theorem dX9_steps_6 : decode cX9_steps 6 = .ok (.ireturn, 1) := by decide +kernel
theorem dX9_stepAt_0 : decode cX9_stepAt 0 = .ok (.aload_n 0, 1) := by decide +kernel
theorem dX9_stepAt_1 : decode cX9_stepAt 1 = .ok (.iload_n 1, 1) := by decide +kernel
theorem dX9_stepAt_2 : decode cX9_stepAt 2 = .ok (.invokevirtual 23, 3) := by decide +kernel
theorem dX9_stepAt_5 : decode cX9_stepAt 5 = .ok (.aload_n 0, 1) := by decide +kernel
theorem dX9_stepAt_6 : decode cX9_stepAt 6 = .ok (.iload_n 1, 1) := by decide +kernel
theorem dX9_stepAt_7 : decode cX9_stepAt 7 = .ok (.iconst 1, 1) := by decide +kernel
theorem dX9_stepAt_8 : decode cX9_stepAt 8 = .ok (.iadd, 1) := by decide +kernel
theorem dX9_stepAt_9 : decode cX9_stepAt 9 = .ok (.invokevirtual 23, 3) := by decide +kernel
theorem dX9_stepAt_12 : decode cX9_stepAt 12 = .ok (.invokestatic 42, 3) := by decide +kernel
theorem dX9_stepAt_15 : decode cX9_stepAt 15 = .ok (.ireturn, 1) := by decide +kernel
theorem dX9_corners_0 : decode cX9_corners 0 = .ok (.iconst 0, 1) := by decide +kernel
theorem dX9_corners_1 : decode cX9_corners 1 = .ok (.istore_n 1, 1) := by decide +kernel
theorem dX9_corners_2 : decode cX9_corners 2 = .ok (.iconst 1, 1) := by decide +kernel
theorem dX9_corners_3 : decode cX9_corners 3 = .ok (.istore_n 2, 1) := by decide +kernel
theorem dX9_corners_4 : decode cX9_corners 4 = .ok (.iload_n 2, 1) := by decide +kernel
theorem dX9_corners_5 : decode cX9_corners 5 = .ok (.aload_n 0, 1) := by decide +kernel
theorem dX9_corners_6 : decode cX9_corners 6 = .ok (.invokevirtual 48, 3) := by decide +kernel
theorem dX9_corners_9 : decode cX9_corners 9 = .ok (.if_icmp .ge 27, 3) := by decide +kernel
theorem dX9_corners_12 : decode cX9_corners 12 = .ok (.aload_n 0, 1) := by decide +kernel
theorem dX9_corners_13 : decode cX9_corners 13 = .ok (.iload_n 2, 1) := by decide +kernel
theorem dX9_corners_14 : decode cX9_corners 14 = .ok (.invokevirtual 52, 3) := by decide +kernel
theorem dX9_corners_17 : decode cX9_corners 17 = .ok (.aload_n 0, 1) := by decide +kernel
theorem dX9_corners_18 : decode cX9_corners 18 = .ok (.iload_n 2, 1) := by decide +kernel
theorem dX9_corners_19 : decode cX9_corners 19 = .ok (.iconst 1, 1) := by decide +kernel
theorem dX9_corners_20 : decode cX9_corners 20 = .ok (.isub, 1) := by decide +kernel
theorem dX9_corners_21 : decode cX9_corners 21 = .ok (.invokevirtual 52, 3) := by decide +kernel
theorem dX9_corners_24 : decode cX9_corners 24 = .ok (.if_icmp .eq 6, 3) := by decide +kernel
theorem dX9_corners_27 : decode cX9_corners 27 = .ok (.iinc 1 1, 3) := by decide +kernel
theorem dX9_corners_30 : decode cX9_corners 30 = .ok (.iinc 2 1, 3) := by decide +kernel
theorem dX9_corners_33 : decode cX9_corners 33 = .ok (.goto (-29), 3) := by decide +kernel
theorem dX9_corners_36 : decode cX9_corners 36 = .ok (.iload_n 1, 1) := by decide +kernel
theorem dX9_corners_37 : decode cX9_corners 37 = .ok (.ireturn, 1) := by decide +kernel
theorem dX9_width_0 : decode cX9_width 0 = .ok (.bipush 10, 2) := by decide +kernel
theorem dX9_width_2 : decode cX9_width 2 = .ok (.istore_n 1, 1) := by decide +kernel
theorem dX9_width_3 : decode cX9_width 3 = .ok (.iconst 0, 1) := by decide +kernel
theorem dX9_width_4 : decode cX9_width 4 = .ok (.istore_n 2, 1) := by decide +kernel
theorem dX9_width_5 : decode cX9_width 5 = .ok (.iconst 0, 1) := by decide +kernel
theorem dX9_width_6 : decode cX9_width 6 = .ok (.istore_n 3, 1) := by decide +kernel
theorem dX9_width_7 : decode cX9_width 7 = .ok (.iload_n 3, 1) := by decide +kernel
theorem dX9_width_8 : decode cX9_width 8 = .ok (.aload_n 0, 1) := by decide +kernel
theorem dX9_width_9 : decode cX9_width 9 = .ok (.getfield 15, 3) := by decide +kernel
theorem dX9_width_12 : decode cX9_width 12 = .ok (.if_icmp .ge 37, 3) := by decide +kernel
theorem dX9_width_15 : decode cX9_width 15 = .ok (.iload_n 1, 1) := by decide +kernel
theorem dX9_width_16 : decode cX9_width 16 = .ok (.aload_n 0, 1) := by decide +kernel
theorem dX9_width_17 : decode cX9_width 17 = .ok (.getfield 9, 3) := by decide +kernel
theorem dX9_width_20 : decode cX9_width 20 = .ok (.iload_n 3, 1) := by decide +kernel
theorem dX9_width_21 : decode cX9_width 21 = .ok (.iaload, 1) := by decide +kernel
theorem dX9_width_22 : decode cX9_width 22 = .ok (.invokestatic 55, 3) := by decide +kernel
theorem dX9_width_25 : decode cX9_width 25 = .ok (.invokestatic 58, 3) := by decide +kernel
theorem dX9_width_28 : decode cX9_width 28 = .ok (.istore_n 1, 1) := by decide +kernel
theorem dX9_width_29 : decode cX9_width 29 = .ok (.iload_n 2, 1) := by decide +kernel
theorem dX9_width_30 : decode cX9_width 30 = .ok (.aload_n 0, 1) := by decide +kernel
theorem dX9_width_31 : decode cX9_width 31 = .ok (.getfield 9, 3) := by decide +kernel
theorem dX9_width_34 : decode cX9_width 34 = .ok (.iload_n 3, 1) := by decide +kernel
theorem dX9_width_35 : decode cX9_width 35 = .ok (.iaload, 1) := by decide +kernel
theorem dX9_width_36 : decode cX9_width 36 = .ok (.invokestatic 55, 3) := by decide +kernel
theorem dX9_width_39 : decode cX9_width 39 = .ok (.invokestatic 63, 3) := by decide +kernel
theorem dX9_width_42 : decode cX9_width 42 = .ok (.istore_n 2, 1) := by decide +kernel
theorem dX9_width_43 : decode cX9_width 43 = .ok (.iinc 3 1, 3) := by decide +kernel
theorem dX9_width_46 : decode cX9_width 46 = .ok (.goto (-39), 3) := by decide +kernel
theorem dX9_width_49 : decode cX9_width 49 = .ok (.iload_n 2, 1) := by decide +kernel
theorem dX9_width_50 : decode cX9_width 50 = .ok (.iload_n 1, 1) := by decide +kernel
theorem dX9_width_51 : decode cX9_width 51 = .ok (.isub, 1) := by decide +kernel
theorem dX9_width_52 : decode cX9_width 52 = .ok (.iconst 1, 1) := by decide +kernel
theorem dX9_width_53 : decode cX9_width 53 = .ok (.iadd, 1) := by decide +kernel
theorem dX9_width_54 : decode cX9_width 54 = .ok (.ireturn, 1) := by decide +kernel
theorem dX9_height_0 : decode cX9_height 0 = .ok (.bipush 10, 2) := by decide +kernel
theorem dX9_height_2 : decode cX9_height 2 = .ok (.istore_n 1, 1) := by decide +kernel
theorem dX9_height_3 : decode cX9_height 3 = .ok (.iconst 0, 1) := by decide +kernel
theorem dX9_height_4 : decode cX9_height 4 = .ok (.istore_n 2, 1) := by decide +kernel
theorem dX9_height_5 : decode cX9_height 5 = .ok (.iconst 0, 1) := by decide +kernel
theorem dX9_height_6 : decode cX9_height 6 = .ok (.istore_n 3, 1) := by decide +kernel
theorem dX9_height_7 : decode cX9_height 7 = .ok (.iload_n 3, 1) := by decide +kernel
theorem dX9_height_8 : decode cX9_height 8 = .ok (.aload_n 0, 1) := by decide +kernel
theorem dX9_height_9 : decode cX9_height 9 = .ok (.getfield 15, 3) := by decide +kernel
theorem dX9_height_12 : decode cX9_height 12 = .ok (.if_icmp .ge 37, 3) := by decide +kernel
theorem dX9_height_15 : decode cX9_height 15 = .ok (.iload_n 1, 1) := by decide +kernel
theorem dX9_height_16 : decode cX9_height 16 = .ok (.aload_n 0, 1) := by decide +kernel
theorem dX9_height_17 : decode cX9_height 17 = .ok (.getfield 9, 3) := by decide +kernel
theorem dX9_height_20 : decode cX9_height 20 = .ok (.iload_n 3, 1) := by decide +kernel
theorem dX9_height_21 : decode cX9_height 21 = .ok (.iaload, 1) := by decide +kernel
theorem dX9_height_22 : decode cX9_height 22 = .ok (.invokestatic 66, 3) := by decide +kernel
theorem dX9_height_25 : decode cX9_height 25 = .ok (.invokestatic 58, 3) := by decide +kernel
theorem dX9_height_28 : decode cX9_height 28 = .ok (.istore_n 1, 1) := by decide +kernel
theorem dX9_height_29 : decode cX9_height 29 = .ok (.iload_n 2, 1) := by decide +kernel
theorem dX9_height_30 : decode cX9_height 30 = .ok (.aload_n 0, 1) := by decide +kernel
theorem dX9_height_31 : decode cX9_height 31 = .ok (.getfield 9, 3) := by decide +kernel
theorem dX9_height_34 : decode cX9_height 34 = .ok (.iload_n 3, 1) := by decide +kernel
theorem dX9_height_35 : decode cX9_height 35 = .ok (.iaload, 1) := by decide +kernel
theorem dX9_height_36 : decode cX9_height 36 = .ok (.invokestatic 66, 3) := by decide +kernel
theorem dX9_height_39 : decode cX9_height 39 = .ok (.invokestatic 63, 3) := by decide +kernel
theorem dX9_height_42 : decode cX9_height 42 = .ok (.istore_n 2, 1) := by decide +kernel
theorem dX9_height_43 : decode cX9_height 43 = .ok (.iinc 3 1, 3) := by decide +kernel
theorem dX9_height_46 : decode cX9_height 46 = .ok (.goto (-39), 3) := by decide +kernel
theorem dX9_height_49 : decode cX9_height 49 = .ok (.iload_n 2, 1) := by decide +kernel
theorem dX9_height_50 : decode cX9_height 50 = .ok (.iload_n 1, 1) := by decide +kernel
theorem dX9_height_51 : decode cX9_height 51 = .ok (.isub, 1) := by decide +kernel
theorem dX9_height_52 : decode cX9_height 52 = .ok (.iconst 1, 1) := by decide +kernel
theorem dX9_height_53 : decode cX9_height 53 = .ok (.iadd, 1) := by decide +kernel
theorem dX9_height_54 : decode cX9_height 54 = .ok (.ireturn, 1) := by decide +kernel
theorem dX9_moment_0 : decode cX9_moment 0 = .ok (.iconst 0, 1) := by decide +kernel
theorem dX9_moment_1 : decode cX9_moment 1 = .ok (.istore_n 1, 1) := by decide +kernel
theorem dX9_moment_2 : decode cX9_moment 2 = .ok (.iconst 0, 1) := by decide +kernel
theorem dX9_moment_3 : decode cX9_moment 3 = .ok (.istore_n 2, 1) := by decide +kernel
theorem dX9_moment_4 : decode cX9_moment 4 = .ok (.iconst 0, 1) := by decide +kernel
theorem dX9_moment_5 : decode cX9_moment 5 = .ok (.istore_n 3, 1) := by decide +kernel
theorem dX9_moment_6 : decode cX9_moment 6 = .ok (.iconst 0, 1) := by decide +kernel
theorem dX9_moment_7 : decode cX9_moment 7 = .ok (.istore 4, 2) := by decide +kernel
theorem dX9_moment_9 : decode cX9_moment 9 = .ok (.iload 4, 2) := by decide +kernel
theorem dX9_moment_11 : decode cX9_moment 11 = .ok (.aload_n 0, 1) := by decide +kernel
theorem dX9_moment_12 : decode cX9_moment 12 = .ok (.getfield 15, 3) := by decide +kernel
theorem dX9_moment_15 : decode cX9_moment 15 = .ok (.if_icmp .ge 57, 3) := by decide +kernel
theorem dX9_moment_18 : decode cX9_moment 18 = .ok (.aload_n 0, 1) := by decide +kernel
theorem dX9_moment_19 : decode cX9_moment 19 = .ok (.getfield 9, 3) := by decide +kernel
theorem dX9_moment_22 : decode cX9_moment 22 = .ok (.iload 4, 2) := by decide +kernel
theorem dX9_moment_24 : decode cX9_moment 24 = .ok (.iaload, 1) := by decide +kernel
theorem dX9_moment_25 : decode cX9_moment 25 = .ok (.invokestatic 55, 3) := by decide +kernel
theorem dX9_moment_28 : decode cX9_moment 28 = .ok (.istore 5, 2) := by decide +kernel
theorem dX9_moment_30 : decode cX9_moment 30 = .ok (.aload_n 0, 1) := by decide +kernel
theorem dX9_moment_31 : decode cX9_moment 31 = .ok (.getfield 9, 3) := by decide +kernel
theorem dX9_moment_34 : decode cX9_moment 34 = .ok (.iload 4, 2) := by decide +kernel
theorem dX9_moment_36 : decode cX9_moment 36 = .ok (.iaload, 1) := by decide +kernel
theorem dX9_moment_37 : decode cX9_moment 37 = .ok (.invokestatic 66, 3) := by decide +kernel
theorem dX9_moment_40 : decode cX9_moment 40 = .ok (.istore 6, 2) := by decide +kernel
theorem dX9_moment_42 : decode cX9_moment 42 = .ok (.iload_n 1, 1) := by decide +kernel
theorem dX9_moment_43 : decode cX9_moment 43 = .ok (.iload 5, 2) := by decide +kernel
theorem dX9_moment_45 : decode cX9_moment 45 = .ok (.iadd, 1) := by decide +kernel
theorem dX9_moment_46 : decode cX9_moment 46 = .ok (.istore_n 1, 1) := by decide +kernel
theorem dX9_moment_47 : decode cX9_moment 47 = .ok (.iload_n 2, 1) := by decide +kernel
theorem dX9_moment_48 : decode cX9_moment 48 = .ok (.iload 6, 2) := by decide +kernel
theorem dX9_moment_50 : decode cX9_moment 50 = .ok (.iadd, 1) := by decide +kernel
theorem dX9_moment_51 : decode cX9_moment 51 = .ok (.istore_n 2, 1) := by decide +kernel
theorem dX9_moment_52 : decode cX9_moment 52 = .ok (.iload_n 3, 1) := by decide +kernel
theorem dX9_moment_53 : decode cX9_moment 53 = .ok (.iload 5, 2) := by decide +kernel
theorem dX9_moment_55 : decode cX9_moment 55 = .ok (.iload 5, 2) := by decide +kernel
theorem dX9_moment_57 : decode cX9_moment 57 = .ok (.imul, 1) := by decide +kernel
theorem dX9_moment_58 : decode cX9_moment 58 = .ok (.iload 6, 2) := by decide +kernel
theorem dX9_moment_60 : decode cX9_moment 60 = .ok (.iload 6, 2) := by decide +kernel
theorem dX9_moment_62 : decode cX9_moment 62 = .ok (.imul, 1) := by decide +kernel
theorem dX9_moment_63 : decode cX9_moment 63 = .ok (.iadd, 1) := by decide +kernel
theorem dX9_moment_64 : decode cX9_moment 64 = .ok (.iadd, 1) := by decide +kernel
theorem dX9_moment_65 : decode cX9_moment 65 = .ok (.istore_n 3, 1) := by decide +kernel
theorem dX9_moment_66 : decode cX9_moment 66 = .ok (.iinc 4 1, 3) := by decide +kernel
theorem dX9_moment_69 : decode cX9_moment 69 = .ok (.goto (-60), 3) := by decide +kernel
theorem dX9_moment_72 : decode cX9_moment 72 = .ok (.aload_n 0, 1) := by decide +kernel
theorem dX9_moment_73 : decode cX9_moment 73 = .ok (.getfield 15, 3) := by decide +kernel
theorem dX9_moment_76 : decode cX9_moment 76 = .ok (.iload_n 3, 1) := by decide +kernel
theorem dX9_moment_77 : decode cX9_moment 77 = .ok (.imul, 1) := by decide +kernel
theorem dX9_moment_78 : decode cX9_moment 78 = .ok (.iload_n 1, 1) := by decide +kernel
theorem dX9_moment_79 : decode cX9_moment 79 = .ok (.iload_n 1, 1) := by decide +kernel
theorem dX9_moment_80 : decode cX9_moment 80 = .ok (.imul, 1) := by decide +kernel
theorem dX9_moment_81 : decode cX9_moment 81 = .ok (.isub, 1) := by decide +kernel
theorem dX9_moment_82 : decode cX9_moment 82 = .ok (.iload_n 2, 1) := by decide +kernel
theorem dX9_moment_83 : decode cX9_moment 83 = .ok (.iload_n 2, 1) := by decide +kernel
theorem dX9_moment_84 : decode cX9_moment 84 = .ok (.imul, 1) := by decide +kernel
theorem dX9_moment_85 : decode cX9_moment 85 = .ok (.isub, 1) := by decide +kernel
theorem dX9_moment_86 : decode cX9_moment 86 = .ok (.ireturn, 1) := by decide +kernel
theorem dX10_init_0 : decode cX10_init 0 = .ok (.aload_n 0, 1) := by decide +kernel
theorem dX10_init_1 : decode cX10_init 1 = .ok (.invokespecial 3, 3) := by decide +kernel
theorem dX10_init_4 : decode cX10_init 4 = .ok (.aload_n 0, 1) := by decide +kernel
theorem dX10_init_5 : decode cX10_init 5 = .ok (.bipush 60, 2) := by decide +kernel
theorem dX10_init_7 : decode cX10_init 7 = .ok (.newarray .int, 2) := by decide +kernel
theorem dX10_init_9 : decode cX10_init 9 = .ok (.putfield 9, 3) := by decide +kernel
theorem dX10_init_12 : decode cX10_init 12 = .ok (.return_, 1) := by decide +kernel
theorem dX10_refusal_0 : decode cX10_refusal 0 = .ok (.aload_n 1, 1) := by decide +kernel
theorem dX10_refusal_1 : decode cX10_refusal 1 = .ok (.iload_n 2, 1) := by decide +kernel
theorem dX10_refusal_2 : decode cX10_refusal 2 = .ok (.invokevirtual 15, 3) := by decide +kernel
theorem dX10_refusal_5 : decode cX10_refusal 5 = .ok (.astore 5, 2) := by decide +kernel
theorem dX10_refusal_7 : decode cX10_refusal 7 = .ok (.aload_n 0, 1) := by decide +kernel
theorem dX10_refusal_8 : decode cX10_refusal 8 = .ok (.aload 5, 2) := by decide +kernel
theorem dX10_refusal_10 : decode cX10_refusal 10 = .ok (.iload_n 3, 1) := by decide +kernel
theorem dX10_refusal_11 : decode cX10_refusal 11 = .ok (.iload 4, 2) := by decide +kernel
theorem dX10_refusal_13 : decode cX10_refusal 13 = .ok (.invokevirtual 21, 3) := by decide +kernel
theorem dX10_refusal_16 : decode cX10_refusal 16 = .ok (.ifCond .ne 5, 3) := by decide +kernel
theorem dX10_refusal_19 : decode cX10_refusal 19 = .ok (.iconst 1, 1) := by decide +kernel
theorem dX10_refusal_20 : decode cX10_refusal 20 = .ok (.ireturn, 1) := by decide +kernel
theorem dX10_refusal_21 : decode cX10_refusal 21 = .ok (.iconst 0, 1) := by decide +kernel
theorem dX10_refusal_22 : decode cX10_refusal 22 = .ok (.istore 6, 2) := by decide +kernel
theorem dX10_refusal_24 : decode cX10_refusal 24 = .ok (.iload_n 3, 1) := by decide +kernel
theorem dX10_refusal_25 : decode cX10_refusal 25 = .ok (.iconst 1, 1) := by decide +kernel
theorem dX10_refusal_26 : decode cX10_refusal 26 = .ok (.iadd, 1) := by decide +kernel
theorem dX10_refusal_27 : decode cX10_refusal 27 = .ok (.istore 7, 2) := by decide +kernel
theorem dX10_refusal_29 : decode cX10_refusal 29 = .ok (.iload 7, 2) := by decide +kernel
theorem dX10_refusal_31 : decode cX10_refusal 31 = .ok (.aload 5, 2) := by decide +kernel
theorem dX10_refusal_33 : decode cX10_refusal 33 = .ok (.invokevirtual 25, 3) := by decide +kernel
theorem dX10_refusal_36 : decode cX10_refusal 36 = .ok (.if_icmp .ge 60, 3) := by decide +kernel
theorem dX10_refusal_39 : decode cX10_refusal 39 = .ok (.aload_n 1, 1) := by decide +kernel
theorem dX10_refusal_40 : decode cX10_refusal 40 = .ok (.aload_n 0, 1) := by decide +kernel
theorem dX10_refusal_41 : decode cX10_refusal 41 = .ok (.getfield 9, 3) := by decide +kernel
theorem dX10_refusal_44 : decode cX10_refusal 44 = .ok (.iload 7, 2) := by decide +kernel
theorem dX10_refusal_46 : decode cX10_refusal 46 = .ok (.iaload, 1) := by decide +kernel
theorem dX10_refusal_47 : decode cX10_refusal 47 = .ok (.invokevirtual 31, 3) := by decide +kernel
theorem dX10_refusal_50 : decode cX10_refusal 50 = .ok (.istore 8, 2) := by decide +kernel
theorem dX10_refusal_52 : decode cX10_refusal 52 = .ok (.iload 8, 2) := by decide +kernel
theorem dX10_refusal_54 : decode cX10_refusal 54 = .ok (.iload_n 2, 1) := by decide +kernel
theorem dX10_refusal_55 : decode cX10_refusal 55 = .ok (.if_icmp .ne 20, 3) := by decide +kernel
theorem dX10_refusal_58 : decode cX10_refusal 58 = .ok (.aload_n 1, 1) := by decide +kernel
theorem dX10_refusal_59 : decode cX10_refusal 59 = .ok (.aload_n 0, 1) := by decide +kernel
theorem dX10_refusal_60 : decode cX10_refusal 60 = .ok (.getfield 9, 3) := by decide +kernel
theorem dX10_refusal_63 : decode cX10_refusal 63 = .ok (.iload 7, 2) := by decide +kernel
theorem dX10_refusal_65 : decode cX10_refusal 65 = .ok (.iaload, 1) := by decide +kernel
theorem dX10_refusal_66 : decode cX10_refusal 66 = .ok (.invokevirtual 35, 3) := by decide +kernel
theorem dX10_refusal_69 : decode cX10_refusal 69 = .ok (.iload_n 3, 1) := by decide +kernel
theorem dX10_refusal_70 : decode cX10_refusal 70 = .ok (.if_icmp .gt 5, 3) := by decide +kernel
theorem dX10_refusal_73 : decode cX10_refusal 73 = .ok (.iconst 2, 1) := by decide +kernel
theorem dX10_refusal_74 : decode cX10_refusal 74 = .ok (.ireturn, 1) := by decide +kernel
theorem dX10_refusal_75 : decode cX10_refusal 75 = .ok (.iload 8, 2) := by decide +kernel
theorem dX10_refusal_77 : decode cX10_refusal 77 = .ok (.iconst (-1), 1) := by decide +kernel
theorem dX10_refusal_78 : decode cX10_refusal 78 = .ok (.if_icmp .eq 12, 3) := by decide +kernel
theorem dX10_refusal_81 : decode cX10_refusal 81 = .ok (.iload 8, 2) := by decide +kernel
theorem dX10_refusal_83 : decode cX10_refusal 83 = .ok (.iload_n 2, 1) := by decide +kernel
theorem dX10_refusal_84 : decode cX10_refusal 84 = .ok (.if_icmp .eq 6, 3) := by decide +kernel
theorem dX10_refusal_87 : decode cX10_refusal 87 = .ok (.iconst 3, 1) := by decide +kernel
theorem dX10_refusal_88 : decode cX10_refusal 88 = .ok (.istore 6, 2) := by decide +kernel
theorem dX10_refusal_90 : decode cX10_refusal 90 = .ok (.iinc 7 1, 3) := by decide +kernel
theorem dX10_refusal_93 : decode cX10_refusal 93 = .ok (.goto (-64), 3) := by decide +kernel
theorem dX10_refusal_96 : decode cX10_refusal 96 = .ok (.iload 6, 2) := by decide +kernel
theorem dX10_refusal_98 : decode cX10_refusal 98 = .ok (.ireturn, 1) := by decide +kernel
theorem dX10_land_0 : decode cX10_land 0 = .ok (.aload_n 1, 1) := by decide +kernel
theorem dX10_land_1 : decode cX10_land 1 = .ok (.iload_n 2, 1) := by decide +kernel
theorem dX10_land_2 : decode cX10_land 2 = .ok (.invokevirtual 38, 3) := by decide +kernel
theorem dX10_land_5 : decode cX10_land 5 = .ok (.istore 4, 2) := by decide +kernel
theorem dX10_land_7 : decode cX10_land 7 = .ok (.iload_n 2, 1) := by decide +kernel
theorem dX10_land_8 : decode cX10_land 8 = .ok (.iconst 1, 1) := by decide +kernel
theorem dX10_land_9 : decode cX10_land 9 = .ok (.iadd, 1) := by decide +kernel
theorem dX10_land_10 : decode cX10_land 10 = .ok (.istore 5, 2) := by decide +kernel
theorem dX10_land_12 : decode cX10_land 12 = .ok (.iload 5, 2) := by decide +kernel
theorem dX10_land_14 : decode cX10_land 14 = .ok (.aload_n 1, 1) := by decide +kernel
theorem dX10_land_15 : decode cX10_land 15 = .ok (.invokevirtual 25, 3) := by decide +kernel
theorem dX10_land_18 : decode cX10_land 18 = .ok (.if_icmp .ge 41, 3) := by decide +kernel
theorem dX10_land_21 : decode cX10_land 21 = .ok (.aload_n 0, 1) := by decide +kernel
theorem dX10_land_22 : decode cX10_land 22 = .ok (.getfield 9, 3) := by decide +kernel
theorem dX10_land_25 : decode cX10_land 25 = .ok (.iload 5, 2) := by decide +kernel
theorem dX10_land_27 : decode cX10_land 27 = .ok (.aload_n 1, 1) := by decide +kernel
theorem dX10_land_28 : decode cX10_land 28 = .ok (.iload 5, 2) := by decide +kernel
theorem dX10_land_30 : decode cX10_land 30 = .ok (.invokevirtual 38, 3) := by decide +kernel
theorem dX10_land_33 : decode cX10_land 33 = .ok (.iload 4, 2) := by decide +kernel
theorem dX10_land_35 : decode cX10_land 35 = .ok (.iload_n 3, 1) := by decide +kernel
theorem dX10_land_36 : decode cX10_land 36 = .ok (.invokestatic 41, 3) := by decide +kernel
theorem dX10_land_39 : decode cX10_land 39 = .ok (.iastore, 1) := by decide +kernel
theorem dX10_land_40 : decode cX10_land 40 = .ok (.aload_n 0, 1) := by decide +kernel
theorem dX10_land_41 : decode cX10_land 41 = .ok (.getfield 9, 3) := by decide +kernel
theorem dX10_land_44 : decode cX10_land 44 = .ok (.iload 5, 2) := by decide +kernel
theorem dX10_land_46 : decode cX10_land 46 = .ok (.iaload, 1) := by decide +kernel
theorem dX10_land_47 : decode cX10_land 47 = .ok (.iconst (-1), 1) := by decide +kernel
theorem dX10_land_48 : decode cX10_land 48 = .ok (.if_icmp .ne 5, 3) := by decide +kernel
theorem dX10_land_51 : decode cX10_land 51 = .ok (.iconst 0, 1) := by decide +kernel
theorem dX10_land_52 : decode cX10_land 52 = .ok (.ireturn, 1) := by decide +kernel
theorem dX10_land_53 : decode cX10_land 53 = .ok (.iinc 5 1, 3) := by decide +kernel
theorem dX10_land_56 : decode cX10_land 56 = .ok (.goto (-44), 3) := by decide +kernel
theorem dX10_land_59 : decode cX10_land 59 = .ok (.iconst 1, 1) := by decide +kernel
theorem dX10_land_60 : decode cX10_land 60 = .ok (.ireturn, 1) := by decide +kernel
theorem dX10_swung_0 : decode cX10_swung 0 = .ok (.iload_n 0, 1) := by decide +kernel
theorem dX10_swung_1 : decode cX10_swung 1 = .ok (.invokestatic 45, 3) := by decide +kernel
theorem dX10_swung_4 : decode cX10_swung 4 = .ok (.iload_n 1, 1) := by decide +kernel
theorem dX10_swung_5 : decode cX10_swung 5 = .ok (.invokestatic 45, 3) := by decide +kernel
theorem dX10_swung_8 : decode cX10_swung 8 = .ok (.isub, 1) := by decide +kernel
theorem dX10_swung_9 : decode cX10_swung 9 = .ok (.istore_n 3, 1) := by decide +kernel
theorem dX10_swung_10 : decode cX10_swung 10 = .ok (.iload_n 0, 1) := by decide +kernel
theorem dX10_swung_11 : decode cX10_swung 11 = .ok (.invokestatic 50, 3) := by decide +kernel
theorem dX10_swung_14 : decode cX10_swung 14 = .ok (.iload_n 1, 1) := by decide +kernel
theorem dX10_swung_15 : decode cX10_swung 15 = .ok (.invokestatic 50, 3) := by decide +kernel
theorem dX10_swung_18 : decode cX10_swung 18 = .ok (.isub, 1) := by decide +kernel
theorem dX10_swung_19 : decode cX10_swung 19 = .ok (.istore 4, 2) := by decide +kernel
theorem dX10_swung_21 : decode cX10_swung 21 = .ok (.iconst 0, 1) := by decide +kernel
theorem dX10_swung_22 : decode cX10_swung 22 = .ok (.istore 5, 2) := by decide +kernel
theorem dX10_swung_24 : decode cX10_swung 24 = .ok (.iload 5, 2) := by decide +kernel
theorem dX10_swung_26 : decode cX10_swung 26 = .ok (.iload_n 2, 1) := by decide +kernel
theorem dX10_swung_27 : decode cX10_swung 27 = .ok (.if_icmp .ge 20, 3) := by decide +kernel
theorem dX10_swung_30 : decode cX10_swung 30 = .ok (.iload_n 3, 1) := by decide +kernel
theorem dX10_swung_31 : decode cX10_swung 31 = .ok (.istore 6, 2) := by decide +kernel
theorem dX10_swung_33 : decode cX10_swung 33 = .ok (.iload 4, 2) := by decide +kernel
theorem dX10_swung_35 : decode cX10_swung 35 = .ok (.ineg, 1) := by decide +kernel
theorem dX10_swung_36 : decode cX10_swung 36 = .ok (.istore_n 3, 1) := by decide +kernel
theorem dX10_swung_37 : decode cX10_swung 37 = .ok (.iload 6, 2) := by decide +kernel
theorem dX10_swung_39 : decode cX10_swung 39 = .ok (.istore 4, 2) := by decide +kernel
theorem dX10_swung_41 : decode cX10_swung 41 = .ok (.iinc 5 1, 3) := by decide +kernel
theorem dX10_swung_44 : decode cX10_swung 44 = .ok (.goto (-20), 3) := by decide +kernel
theorem dX10_swung_47 : decode cX10_swung 47 = .ok (.iload_n 1, 1) := by decide +kernel
theorem dX10_swung_48 : decode cX10_swung 48 = .ok (.invokestatic 45, 3) := by decide +kernel
theorem dX10_swung_51 : decode cX10_swung 51 = .ok (.iload_n 3, 1) := by decide +kernel
theorem dX10_swung_52 : decode cX10_swung 52 = .ok (.iadd, 1) := by decide +kernel
theorem dX10_swung_53 : decode cX10_swung 53 = .ok (.iload_n 1, 1) := by decide +kernel
theorem dX10_swung_54 : decode cX10_swung 54 = .ok (.invokestatic 50, 3) := by decide +kernel
theorem dX10_swung_57 : decode cX10_swung 57 = .ok (.iload 4, 2) := by decide +kernel
theorem dX10_swung_59 : decode cX10_swung 59 = .ok (.iadd, 1) := by decide +kernel
theorem dX10_swung_60 : decode cX10_swung 60 = .ok (.invokestatic 53, 3) := by decide +kernel
theorem dX10_swung_63 : decode cX10_swung 63 = .ok (.ireturn, 1) := by decide +kernel
theorem dX10_moveSites_0 : decode cX10_moveSites 0 = .ok (.aload_n 1, 1) := by decide +kernel
theorem dX10_moveSites_1 : decode cX10_moveSites 1 = .ok (.iload_n 2, 1) := by decide +kernel
theorem dX10_moveSites_2 : decode cX10_moveSites 2 = .ok (.invokevirtual 15, 3) := by decide +kernel
theorem dX10_moveSites_5 : decode cX10_moveSites 5 = .ok (.astore 4, 2) := by decide +kernel
theorem dX10_moveSites_7 : decode cX10_moveSites 7 = .ok (.iload_n 3, 1) := by decide +kernel
theorem dX10_moveSites_8 : decode cX10_moveSites 8 = .ok (.iconst 1, 1) := by decide +kernel
theorem dX10_moveSites_9 : decode cX10_moveSites 9 = .ok (.iadd, 1) := by decide +kernel
theorem dX10_moveSites_10 : decode cX10_moveSites 10 = .ok (.istore 5, 2) := by decide +kernel
theorem dX10_moveSites_12 : decode cX10_moveSites 12 = .ok (.iload 5, 2) := by decide +kernel
theorem dX10_moveSites_14 : decode cX10_moveSites 14 = .ok (.aload 4, 2) := by decide +kernel
theorem dX10_moveSites_16 : decode cX10_moveSites 16 = .ok (.invokevirtual 25, 3) := by decide +kernel
theorem dX10_moveSites_19 : decode cX10_moveSites 19 = .ok (.if_icmp .ge 23, 3) := by decide +kernel
theorem dX10_moveSites_22 : decode cX10_moveSites 22 = .ok (.aload 4, 2) := by decide +kernel
theorem dX10_moveSites_24 : decode cX10_moveSites 24 = .ok (.iload 5, 2) := by decide +kernel
theorem dX10_moveSites_26 : decode cX10_moveSites 26 = .ok (.aload_n 0, 1) := by decide +kernel
theorem dX10_moveSites_27 : decode cX10_moveSites 27 = .ok (.getfield 9, 3) := by decide +kernel
theorem dX10_moveSites_30 : decode cX10_moveSites 30 = .ok (.iload 5, 2) := by decide +kernel
theorem dX10_moveSites_32 : decode cX10_moveSites 32 = .ok (.iaload, 1) := by decide +kernel
theorem dX10_moveSites_33 : decode cX10_moveSites 33 = .ok (.invokevirtual 57, 3) := by decide +kernel
theorem dX10_moveSites_36 : decode cX10_moveSites 36 = .ok (.iinc 5 1, 3) := by decide +kernel
theorem dX10_moveSites_39 : decode cX10_moveSites 39 = .ok (.goto (-27), 3) := by decide +kernel
theorem dX10_moveSites_42 : decode cX10_moveSites 42 = .ok (.aload_n 1, 1) := by decide +kernel
theorem dX10_moveSites_43 : decode cX10_moveSites 43 = .ok (.invokevirtual 61, 3) := by decide +kernel
theorem dX10_moveSites_46 : decode cX10_moveSites 46 = .ok (.return_, 1) := by decide +kernel
theorem dX10_possibleTurns_0 : decode cX10_possibleTurns 0 = .ok (.iconst 0, 1) := by decide +kernel
theorem dX10_possibleTurns_1 : decode cX10_possibleTurns 1 = .ok (.istore_n 3, 1) := by decide +kernel
theorem dX10_possibleTurns_2 : decode cX10_possibleTurns 2 = .ok (.iconst 0, 1) := by decide +kernel
theorem dX10_possibleTurns_3 : decode cX10_possibleTurns 3 = .ok (.istore 4, 2) := by decide +kernel
theorem dX10_possibleTurns_5 : decode cX10_possibleTurns 5 = .ok (.iload 4, 2) := by decide +kernel
theorem dX10_possibleTurns_7 : decode cX10_possibleTurns 7 = .ok (.aload_n 1, 1) := by decide +kernel
theorem dX10_possibleTurns_8 : decode cX10_possibleTurns 8 = .ok (.iload_n 2, 1) := by decide +kernel
theorem dX10_possibleTurns_9 : decode cX10_possibleTurns 9 = .ok (.invokevirtual 15, 3) := by decide +kernel
theorem dX10_possibleTurns_12 : decode cX10_possibleTurns 12 = .ok (.invokevirtual 64, 3) := by decide +kernel
theorem dX10_possibleTurns_15 : decode cX10_possibleTurns 15 = .ok (.if_icmp .ge 40, 3) := by decide +kernel
theorem dX10_possibleTurns_18 : decode cX10_possibleTurns 18 = .ok (.iconst 1, 1) := by decide +kernel
theorem dX10_possibleTurns_19 : decode cX10_possibleTurns 19 = .ok (.istore 5, 2) := by decide +kernel
theorem dX10_possibleTurns_21 : decode cX10_possibleTurns 21 = .ok (.iload 5, 2) := by decide +kernel
theorem dX10_possibleTurns_23 : decode cX10_possibleTurns 23 = .ok (.iconst 3, 1) := by decide +kernel
theorem dX10_possibleTurns_24 : decode cX10_possibleTurns 24 = .ok (.if_icmp .gt 25, 3) := by decide +kernel
theorem dX10_possibleTurns_27 : decode cX10_possibleTurns 27 = .ok (.aload_n 0, 1) := by decide +kernel
theorem dX10_possibleTurns_28 : decode cX10_possibleTurns 28 = .ok (.aload_n 1, 1) := by decide +kernel
theorem dX10_possibleTurns_29 : decode cX10_possibleTurns 29 = .ok (.iload_n 2, 1) := by decide +kernel
theorem dX10_possibleTurns_30 : decode cX10_possibleTurns 30 = .ok (.iload 4, 2) := by decide +kernel
theorem dX10_possibleTurns_32 : decode cX10_possibleTurns 32 = .ok (.iload 5, 2) := by decide +kernel
theorem dX10_possibleTurns_34 : decode cX10_possibleTurns 34 = .ok (.invokevirtual 67, 3) := by decide +kernel
theorem dX10_possibleTurns_37 : decode cX10_possibleTurns 37 = .ok (.ifCond .ne 6, 3) := by decide +kernel
theorem dX10_possibleTurns_40 : decode cX10_possibleTurns 40 = .ok (.iinc 3 1, 3) := by decide +kernel
theorem dX10_possibleTurns_43 : decode cX10_possibleTurns 43 = .ok (.iinc 5 1, 3) := by decide +kernel
theorem dX10_possibleTurns_46 : decode cX10_possibleTurns 46 = .ok (.goto (-25), 3) := by decide +kernel
theorem dX10_possibleTurns_49 : decode cX10_possibleTurns 49 = .ok (.iinc 4 1, 3) := by decide +kernel
theorem dX10_possibleTurns_52 : decode cX10_possibleTurns 52 = .ok (.goto (-47), 3) := by decide +kernel
theorem dX10_possibleTurns_55 : decode cX10_possibleTurns 55 = .ok (.iload_n 3, 1) := by decide +kernel
theorem dX10_possibleTurns_56 : decode cX10_possibleTurns 56 = .ok (.ireturn, 1) := by decide +kernel
theorem dX11_init_0 : decode cX11_init 0 = .ok (.aload_n 0, 1) := by decide +kernel
theorem dX11_init_1 : decode cX11_init 1 = .ok (.invokespecial 3, 3) := by decide +kernel
theorem dX11_init_4 : decode cX11_init 4 = .ok (.aload_n 0, 1) := by decide +kernel
theorem dX11_init_5 : decode cX11_init 5 = .ok (.new 9, 3) := by decide +kernel
theorem dX11_init_8 : decode cX11_init 8 = .ok (.dup, 1) := by decide +kernel
theorem dX11_init_9 : decode cX11_init 9 = .ok (.invokespecial 11, 3) := by decide +kernel
theorem dX11_init_12 : decode cX11_init 12 = .ok (.putfield 12, 3) := by decide +kernel
theorem dX11_init_15 : decode cX11_init 15 = .ok (.aload_n 0, 1) := by decide +kernel
theorem dX11_init_16 : decode cX11_init 16 = .ok (.new 16, 3) := by decide +kernel
theorem dX11_init_19 : decode cX11_init 19 = .ok (.dup, 1) := by decide +kernel
theorem dX11_init_20 : decode cX11_init 20 = .ok (.invokespecial 18, 3) := by decide +kernel
theorem dX11_init_23 : decode cX11_init 23 = .ok (.putfield 19, 3) := by decide +kernel
theorem dX11_init_26 : decode cX11_init 26 = .ok (.aload_n 0, 1) := by decide +kernel
theorem dX11_init_27 : decode cX11_init 27 = .ok (.new 23, 3) := by decide +kernel
theorem dX11_init_30 : decode cX11_init 30 = .ok (.dup, 1) := by decide +kernel
theorem dX11_init_31 : decode cX11_init 31 = .ok (.invokespecial 25, 3) := by decide +kernel
theorem dX11_init_34 : decode cX11_init 34 = .ok (.putfield 26, 3) := by decide +kernel
theorem dX11_init_37 : decode cX11_init 37 = .ok (.aload_n 0, 1) := by decide +kernel
theorem dX11_init_38 : decode cX11_init 38 = .ok (.new 30, 3) := by decide +kernel
theorem dX11_init_41 : decode cX11_init 41 = .ok (.dup, 1) := by decide +kernel
theorem dX11_init_42 : decode cX11_init 42 = .ok (.invokespecial 32, 3) := by decide +kernel
theorem dX11_init_45 : decode cX11_init 45 = .ok (.putfield 33, 3) := by decide +kernel
theorem dX11_init_48 : decode cX11_init 48 = .ok (.aload_n 0, 1) := by decide +kernel
theorem dX11_init_49 : decode cX11_init 49 = .ok (.new 37, 3) := by decide +kernel
theorem dX11_init_52 : decode cX11_init 52 = .ok (.dup, 1) := by decide +kernel
theorem dX11_init_53 : decode cX11_init 53 = .ok (.invokespecial 39, 3) := by decide +kernel
theorem dX11_init_56 : decode cX11_init 56 = .ok (.putfield 40, 3) := by decide +kernel
theorem dX11_init_59 : decode cX11_init 59 = .ok (.aload_n 0, 1) := by decide +kernel
theorem dX11_init_60 : decode cX11_init 60 = .ok (.new 44, 3) := by decide +kernel
theorem dX11_init_63 : decode cX11_init 63 = .ok (.dup, 1) := by decide +kernel
theorem dX11_init_64 : decode cX11_init 64 = .ok (.invokespecial 46, 3) := by decide +kernel
theorem dX11_init_67 : decode cX11_init 67 = .ok (.putfield 47, 3) := by decide +kernel
theorem dX11_init_70 : decode cX11_init 70 = .ok (.aload_n 0, 1) := by decide +kernel
theorem dX11_init_71 : decode cX11_init 71 = .ok (.new 51, 3) := by decide +kernel
theorem dX11_init_74 : decode cX11_init 74 = .ok (.dup, 1) := by decide +kernel
theorem dX11_init_75 : decode cX11_init 75 = .ok (.invokespecial 53, 3) := by decide +kernel
theorem dX11_init_78 : decode cX11_init 78 = .ok (.putfield 54, 3) := by decide +kernel
theorem dX11_init_81 : decode cX11_init 81 = .ok (.aload_n 0, 1) := by decide +kernel
theorem dX11_init_82 : decode cX11_init 82 = .ok (.new 58, 3) := by decide +kernel
theorem dX11_init_85 : decode cX11_init 85 = .ok (.dup, 1) := by decide +kernel
theorem dX11_init_86 : decode cX11_init 86 = .ok (.invokespecial 60, 3) := by decide +kernel
theorem dX11_init_89 : decode cX11_init 89 = .ok (.putfield 61, 3) := by decide +kernel
theorem dX11_init_92 : decode cX11_init 92 = .ok (.aload_n 0, 1) := by decide +kernel
theorem dX11_init_93 : decode cX11_init 93 = .ok (.new 65, 3) := by decide +kernel
theorem dX11_init_96 : decode cX11_init 96 = .ok (.dup, 1) := by decide +kernel
theorem dX11_init_97 : decode cX11_init 97 = .ok (.invokespecial 67, 3) := by decide +kernel
theorem dX11_init_100 : decode cX11_init 100 = .ok (.putfield 68, 3) := by decide +kernel
theorem dX11_init_103 : decode cX11_init 103 = .ok (.aload_n 0, 1) := by decide +kernel
theorem dX11_init_104 : decode cX11_init 104 = .ok (.new 65, 3) := by decide +kernel
theorem dX11_init_107 : decode cX11_init 107 = .ok (.dup, 1) := by decide +kernel
theorem dX11_init_108 : decode cX11_init 108 = .ok (.invokespecial 67, 3) := by decide +kernel
theorem dX11_init_111 : decode cX11_init 111 = .ok (.putfield 72, 3) := by decide +kernel
theorem dX11_init_114 : decode cX11_init 114 = .ok (.return_, 1) := by decide +kernel
theorem dX11_start_0 : decode cX11_start 0 = .ok (.iload_n 1, 1) := by decide +kernel
theorem dX11_start_1 : decode cX11_start 1 = .ok (.iload_n 2, 1) := by decide +kernel
theorem dX11_start_2 : decode cX11_start 2 = .ok (.invokestatic 75, 3) := by decide +kernel
theorem dX11_start_5 : decode cX11_start 5 = .ok (.istore_n 3, 1) := by decide +kernel
theorem dX11_start_6 : decode cX11_start 6 = .ok (.aload_n 0, 1) := by decide +kernel
theorem dX11_start_7 : decode cX11_start 7 = .ok (.getfield 12, 3) := by decide +kernel
theorem dX11_start_10 : decode cX11_start 10 = .ok (.iload_n 3, 1) := by decide +kernel
theorem dX11_start_11 : decode cX11_start 11 = .ok (.invokevirtual 79, 3) := by decide +kernel
theorem dX11_start_14 : decode cX11_start 14 = .ok (.ifCond .eq 13, 3) := by decide +kernel
theorem dX11_start_17 : decode cX11_start 17 = .ok (.aload_n 0, 1) := by decide +kernel
theorem dX11_start_18 : decode cX11_start 18 = .ok (.getfield 12, 3) := by decide +kernel
theorem dX11_start_21 : decode cX11_start 21 = .ok (.invokevirtual 83, 3) := by decide +kernel
theorem dX11_start_24 : decode cX11_start 24 = .ok (.ifCond .eq 13, 3) := by decide +kernel
theorem dX11_start_27 : decode cX11_start 27 = .ok (.new 87, 3) := by decide +kernel
theorem dX11_start_30 : decode cX11_start 30 = .ok (.dup, 1) := by decide +kernel
theorem dX11_start_31 : decode cX11_start 31 = .ok (.ldc 89, 2) := by decide +kernel
theorem dX11_start_33 : decode cX11_start 33 = .ok (.invokespecial 91, 3) := by decide +kernel
theorem dX11_start_36 : decode cX11_start 36 = .ok (.athrow, 1) := by decide +kernel
theorem dX11_start_37 : decode cX11_start 37 = .ok (.aload_n 0, 1) := by decide +kernel
theorem dX11_start_38 : decode cX11_start 38 = .ok (.getfield 19, 3) := by decide +kernel
theorem dX11_start_41 : decode cX11_start 41 = .ok (.aload_n 0, 1) := by decide +kernel
theorem dX11_start_42 : decode cX11_start 42 = .ok (.getfield 12, 3) := by decide +kernel
theorem dX11_start_45 : decode cX11_start 45 = .ok (.invokevirtual 94, 3) := by decide +kernel
theorem dX11_start_48 : decode cX11_start 48 = .ok (.aload_n 0, 1) := by decide +kernel
theorem dX11_start_49 : decode cX11_start 49 = .ok (.getfield 40, 3) := by decide +kernel
theorem dX11_start_52 : decode cX11_start 52 = .ok (.iload_n 3, 1) := by decide +kernel
theorem dX11_start_53 : decode cX11_start 53 = .ok (.invokevirtual 98, 3) := by decide +kernel
theorem dX11_start_56 : decode cX11_start 56 = .ok (.aload_n 0, 1) := by decide +kernel
theorem dX11_start_57 : decode cX11_start 57 = .ok (.getfield 12, 3) := by decide +kernel
theorem dX11_start_60 : decode cX11_start 60 = .ok (.aload_n 0, 1) := by decide +kernel
theorem dX11_start_61 : decode cX11_start 61 = .ok (.getfield 40, 3) := by decide +kernel
theorem dX11_start_64 : decode cX11_start 64 = .ok (.invokevirtual 102, 3) := by decide +kernel
theorem dX11_start_67 : decode cX11_start 67 = .ok (.ireturn, 1) := by decide +kernel
theorem dX11_step_0 : decode cX11_step 0 = .ok (.aload_n 0, 1) := by decide +kernel
theorem dX11_step_1 : decode cX11_step 1 = .ok (.iload_n 1, 1) := by decide +kernel
theorem dX11_step_2 : decode cX11_step 2 = .ok (.invokevirtual 106, 3) := by decide +kernel
theorem dX11_step_5 : decode cX11_step 5 = .ok (.iload_n 2, 1) := by decide +kernel
theorem dX11_step_6 : decode cX11_step 6 = .ok (.invokestatic 109, 3) := by decide +kernel
theorem dX11_step_9 : decode cX11_step 9 = .ok (.aload_n 0, 1) := by decide +kernel
theorem dX11_step_10 : decode cX11_step 10 = .ok (.getfield 19, 3) := by decide +kernel
theorem dX11_step_13 : decode cX11_step 13 = .ok (.aload_n 0, 1) := by decide +kernel
theorem dX11_step_14 : decode cX11_step 14 = .ok (.getfield 12, 3) := by decide +kernel
theorem dX11_step_17 : decode cX11_step 17 = .ok (.invokevirtual 94, 3) := by decide +kernel
theorem dX11_step_20 : decode cX11_step 20 = .ok (.aload_n 0, 1) := by decide +kernel
theorem dX11_step_21 : decode cX11_step 21 = .ok (.getfield 12, 3) := by decide +kernel
theorem dX11_step_24 : decode cX11_step 24 = .ok (.iload_n 1, 1) := by decide +kernel
theorem dX11_step_25 : decode cX11_step 25 = .ok (.iload_n 2, 1) := by decide +kernel
theorem dX11_step_26 : decode cX11_step 26 = .ok (.invokevirtual 112, 3) := by decide +kernel
theorem dX11_step_29 : decode cX11_step 29 = .ok (.ireturn, 1) := by decide +kernel
theorem dX11_back_0 : decode cX11_back 0 = .ok (.aload_n 0, 1) := by decide +kernel
theorem dX11_back_1 : decode cX11_back 1 = .ok (.iload_n 1, 1) := by decide +kernel
theorem dX11_back_2 : decode cX11_back 2 = .ok (.invokevirtual 106, 3) := by decide +kernel
theorem dX11_back_5 : decode cX11_back 5 = .ok (.aload_n 0, 1) := by decide +kernel
theorem dX11_back_6 : decode cX11_back 6 = .ok (.getfield 12, 3) := by decide +kernel
theorem dX11_back_9 : decode cX11_back 9 = .ok (.iload_n 1, 1) := by decide +kernel
theorem dX11_back_10 : decode cX11_back 10 = .ok (.invokevirtual 115, 3) := by decide +kernel
theorem dX11_back_13 : decode cX11_back 13 = .ok (.invokevirtual 119, 3) := by decide +kernel
theorem dX11_back_16 : decode cX11_back 16 = .ok (.iconst 2, 1) := by decide +kernel
theorem dX11_back_17 : decode cX11_back 17 = .ok (.if_icmp .ge 13, 3) := by decide +kernel
theorem dX11_back_20 : decode cX11_back 20 = .ok (.new 87, 3) := by decide +kernel
theorem dX11_back_23 : decode cX11_back 23 = .ok (.dup, 1) := by decide +kernel
theorem dX11_back_24 : decode cX11_back 24 = .ok (.ldc 123, 2) := by decide +kernel
theorem dX11_back_26 : decode cX11_back 26 = .ok (.invokespecial 91, 3) := by decide +kernel
theorem dX11_back_29 : decode cX11_back 29 = .ok (.athrow, 1) := by decide +kernel
theorem dX11_back_30 : decode cX11_back 30 = .ok (.aload_n 0, 1) := by decide +kernel
theorem dX11_back_31 : decode cX11_back 31 = .ok (.getfield 19, 3) := by decide +kernel
theorem dX11_back_34 : decode cX11_back 34 = .ok (.aload_n 0, 1) := by decide +kernel
theorem dX11_back_35 : decode cX11_back 35 = .ok (.getfield 12, 3) := by decide +kernel
theorem dX11_back_38 : decode cX11_back 38 = .ok (.invokevirtual 94, 3) := by decide +kernel
theorem dX11_back_41 : decode cX11_back 41 = .ok (.aload_n 0, 1) := by decide +kernel
theorem dX11_back_42 : decode cX11_back 42 = .ok (.getfield 12, 3) := by decide +kernel
theorem dX11_back_45 : decode cX11_back 45 = .ok (.iload_n 1, 1) := by decide +kernel
theorem dX11_back_46 : decode cX11_back 46 = .ok (.invokevirtual 125, 3) := by decide +kernel
theorem dX11_back_49 : decode cX11_back 49 = .ok (.ireturn, 1) := by decide +kernel
theorem dX11_slither_0 : decode cX11_slither 0 = .ok (.aload_n 0, 1) := by decide +kernel
theorem dX11_slither_1 : decode cX11_slither 1 = .ok (.iload_n 1, 1) := by decide +kernel
theorem dX11_slither_2 : decode cX11_slither 2 = .ok (.invokevirtual 106, 3) := by decide +kernel
theorem dX11_slither_5 : decode cX11_slither 5 = .ok (.iload_n 2, 1) := by decide +kernel
theorem dX11_slither_6 : decode cX11_slither 6 = .ok (.invokestatic 109, 3) := by decide +kernel
theorem dX11_slither_9 : decode cX11_slither 9 = .ok (.aload_n 0, 1) := by decide +kernel
theorem dX11_slither_10 : decode cX11_slither 10 = .ok (.getfield 19, 3) := by decide +kernel
theorem dX11_slither_13 : decode cX11_slither 13 = .ok (.aload_n 0, 1) := by decide +kernel
theorem dX11_slither_14 : decode cX11_slither 14 = .ok (.getfield 12, 3) := by decide +kernel
theorem dX11_slither_17 : decode cX11_slither 17 = .ok (.invokevirtual 94, 3) := by decide +kernel
theorem dX11_slither_20 : decode cX11_slither 20 = .ok (.aload_n 0, 1) := by decide +kernel
theorem dX11_slither_21 : decode cX11_slither 21 = .ok (.getfield 12, 3) := by decide +kernel
theorem dX11_slither_24 : decode cX11_slither 24 = .ok (.iload_n 1, 1) := by decide +kernel
theorem dX11_slither_25 : decode cX11_slither 25 = .ok (.iload_n 2, 1) := by decide +kernel
theorem dX11_slither_26 : decode cX11_slither 26 = .ok (.invokevirtual 129, 3) := by decide +kernel
theorem dX11_slither_29 : decode cX11_slither 29 = .ok (.ireturn, 1) := by decide +kernel
theorem dX11_turn_0 : decode cX11_turn 0 = .ok (.aload_n 0, 1) := by decide +kernel
theorem dX11_turn_1 : decode cX11_turn 1 = .ok (.iload_n 1, 1) := by decide +kernel
theorem dX11_turn_2 : decode cX11_turn 2 = .ok (.iload_n 2, 1) := by decide +kernel
theorem dX11_turn_3 : decode cX11_turn 3 = .ok (.invokevirtual 132, 3) := by decide +kernel
theorem dX11_turn_6 : decode cX11_turn 6 = .ok (.iload_n 3, 1) := by decide +kernel
theorem dX11_turn_7 : decode cX11_turn 7 = .ok (.invokestatic 136, 3) := by decide +kernel
theorem dX11_turn_10 : decode cX11_turn 10 = .ok (.aload_n 0, 1) := by decide +kernel
theorem dX11_turn_11 : decode cX11_turn 11 = .ok (.getfield 19, 3) := by decide +kernel
theorem dX11_turn_14 : decode cX11_turn 14 = .ok (.aload_n 0, 1) := by decide +kernel
theorem dX11_turn_15 : decode cX11_turn 15 = .ok (.getfield 12, 3) := by decide +kernel
theorem dX11_turn_18 : decode cX11_turn 18 = .ok (.invokevirtual 94, 3) := by decide +kernel
theorem dX11_turn_21 : decode cX11_turn 21 = .ok (.aload_n 0, 1) := by decide +kernel
theorem dX11_turn_22 : decode cX11_turn 22 = .ok (.getfield 47, 3) := by decide +kernel
theorem dX11_turn_25 : decode cX11_turn 25 = .ok (.aload_n 0, 1) := by decide +kernel
theorem dX11_turn_26 : decode cX11_turn 26 = .ok (.getfield 12, 3) := by decide +kernel
theorem dX11_turn_29 : decode cX11_turn 29 = .ok (.iload_n 1, 1) := by decide +kernel
theorem dX11_turn_30 : decode cX11_turn 30 = .ok (.iload_n 2, 1) := by decide +kernel
theorem dX11_turn_31 : decode cX11_turn 31 = .ok (.iload_n 3, 1) := by decide +kernel
theorem dX11_turn_32 : decode cX11_turn 32 = .ok (.invokevirtual 139, 3) := by decide +kernel
theorem dX11_turn_35 : decode cX11_turn 35 = .ok (.istore 4, 2) := by decide +kernel
theorem dX11_turn_37 : decode cX11_turn 37 = .ok (.aload_n 0, 1) := by decide +kernel
theorem dX11_turn_38 : decode cX11_turn 38 = .ok (.getfield 12, 3) := by decide +kernel
theorem dX11_turn_41 : decode cX11_turn 41 = .ok (.iload 4, 2) := by decide +kernel
theorem dX11_turn_43 : decode cX11_turn 43 = .ok (.invokevirtual 143, 3) := by decide +kernel
theorem dX11_turn_46 : decode cX11_turn 46 = .ok (.iload 4, 2) := by decide +kernel
theorem dX11_turn_48 : decode cX11_turn 48 = .ok (.ifCond .ne 16, 3) := by decide +kernel
theorem dX11_turn_51 : decode cX11_turn 51 = .ok (.aload_n 0, 1) := by decide +kernel
theorem dX11_turn_52 : decode cX11_turn 52 = .ok (.getfield 47, 3) := by decide +kernel
theorem dX11_turn_55 : decode cX11_turn 55 = .ok (.aload_n 0, 1) := by decide +kernel
theorem dX11_turn_56 : decode cX11_turn 56 = .ok (.getfield 12, 3) := by decide +kernel
theorem dX11_turn_59 : decode cX11_turn 59 = .ok (.iload_n 1, 1) := by decide +kernel
theorem dX11_turn_60 : decode cX11_turn 60 = .ok (.iload_n 2, 1) := by decide +kernel
theorem dX11_turn_61 : decode cX11_turn 61 = .ok (.invokevirtual 146, 3) := by decide +kernel
theorem dX11_turn_64 : decode cX11_turn 64 = .ok (.iload 4, 2) := by decide +kernel
theorem dX11_turn_66 : decode cX11_turn 66 = .ok (.ireturn, 1) := by decide +kernel
theorem dX11_reverse_0 : decode cX11_reverse 0 = .ok (.aload_n 0, 1) := by decide +kernel
theorem dX11_reverse_1 : decode cX11_reverse 1 = .ok (.iload_n 1, 1) := by decide +kernel
theorem dX11_reverse_2 : decode cX11_reverse 2 = .ok (.invokevirtual 106, 3) := by decide +kernel
theorem dX11_reverse_5 : decode cX11_reverse 5 = .ok (.aload_n 0, 1) := by decide +kernel
theorem dX11_reverse_6 : decode cX11_reverse 6 = .ok (.getfield 19, 3) := by decide +kernel
theorem dX11_reverse_9 : decode cX11_reverse 9 = .ok (.aload_n 0, 1) := by decide +kernel
theorem dX11_reverse_10 : decode cX11_reverse 10 = .ok (.getfield 12, 3) := by decide +kernel
theorem dX11_reverse_13 : decode cX11_reverse 13 = .ok (.invokevirtual 94, 3) := by decide +kernel
theorem dX11_reverse_16 : decode cX11_reverse 16 = .ok (.aload_n 0, 1) := by decide +kernel
theorem dX11_reverse_17 : decode cX11_reverse 17 = .ok (.getfield 12, 3) := by decide +kernel
theorem dX11_reverse_20 : decode cX11_reverse 20 = .ok (.iload_n 1, 1) := by decide +kernel
theorem dX11_reverse_21 : decode cX11_reverse 21 = .ok (.invokevirtual 150, 3) := by decide +kernel
theorem dX11_reverse_24 : decode cX11_reverse 24 = .ok (.ireturn, 1) := by decide +kernel
theorem dX11_join_0 : decode cX11_join 0 = .ok (.aload_n 0, 1) := by decide +kernel
theorem dX11_join_1 : decode cX11_join 1 = .ok (.iload_n 1, 1) := by decide +kernel
theorem dX11_join_2 : decode cX11_join 2 = .ok (.iload_n 2, 1) := by decide +kernel
theorem dX11_join_3 : decode cX11_join 3 = .ok (.invokevirtual 153, 3) := by decide +kernel
theorem dX11_join_6 : decode cX11_join 6 = .ok (.aload_n 0, 1) := by decide +kernel
theorem dX11_join_7 : decode cX11_join 7 = .ok (.getfield 12, 3) := by decide +kernel
theorem dX11_join_10 : decode cX11_join 10 = .ok (.iload_n 1, 1) := by decide +kernel
theorem dX11_join_11 : decode cX11_join 11 = .ok (.invokevirtual 115, 3) := by decide +kernel
theorem dX11_join_14 : decode cX11_join 14 = .ok (.astore_n 3, 1) := by decide +kernel
theorem dX11_join_15 : decode cX11_join 15 = .ok (.aload_n 0, 1) := by decide +kernel
theorem dX11_join_16 : decode cX11_join 16 = .ok (.getfield 12, 3) := by decide +kernel
theorem dX11_join_19 : decode cX11_join 19 = .ok (.iload_n 2, 1) := by decide +kernel
theorem dX11_join_20 : decode cX11_join 20 = .ok (.invokevirtual 115, 3) := by decide +kernel
theorem dX11_join_23 : decode cX11_join 23 = .ok (.astore 4, 2) := by decide +kernel
theorem dX11_join_25 : decode cX11_join 25 = .ok (.aload_n 3, 1) := by decide +kernel
theorem dX11_join_26 : decode cX11_join 26 = .ok (.invokevirtual 156, 3) := by decide +kernel
theorem dX11_join_29 : decode cX11_join 29 = .ok (.aload 4, 2) := by decide +kernel
theorem dX11_join_31 : decode cX11_join 31 = .ok (.invokevirtual 156, 3) := by decide +kernel
theorem dX11_join_34 : decode cX11_join 34 = .ok (.invokestatic 159, 3) := by decide +kernel
theorem dX11_join_37 : decode cX11_join 37 = .ok (.ifCond .eq 18, 3) := by decide +kernel
theorem dX11_join_40 : decode cX11_join 40 = .ok (.aload_n 3, 1) := by decide +kernel
theorem dX11_join_41 : decode cX11_join 41 = .ok (.invokevirtual 119, 3) := by decide +kernel
theorem dX11_join_44 : decode cX11_join 44 = .ok (.aload 4, 2) := by decide +kernel
theorem dX11_join_46 : decode cX11_join 46 = .ok (.invokevirtual 119, 3) := by decide +kernel
theorem dX11_join_49 : decode cX11_join 49 = .ok (.iadd, 1) := by decide +kernel
theorem dX11_join_50 : decode cX11_join 50 = .ok (.bipush 60, 2) := by decide +kernel
theorem dX11_join_52 : decode cX11_join 52 = .ok (.if_icmp .le 13, 3) := by decide +kernel
theorem dX11_join_55 : decode cX11_join 55 = .ok (.new 87, 3) := by decide +kernel
theorem dX11_join_58 : decode cX11_join 58 = .ok (.dup, 1) := by decide +kernel
theorem dX11_join_59 : decode cX11_join 59 = .ok (.ldc 165, 2) := by decide +kernel
theorem dX11_join_61 : decode cX11_join 61 = .ok (.invokespecial 91, 3) := by decide +kernel
theorem dX11_join_64 : decode cX11_join 64 = .ok (.athrow, 1) := by decide +kernel
theorem dX11_join_65 : decode cX11_join 65 = .ok (.aload_n 0, 1) := by decide +kernel
theorem dX11_join_66 : decode cX11_join 66 = .ok (.getfield 19, 3) := by decide +kernel
theorem dX11_join_69 : decode cX11_join 69 = .ok (.aload_n 0, 1) := by decide +kernel
theorem dX11_join_70 : decode cX11_join 70 = .ok (.getfield 12, 3) := by decide +kernel
theorem dX11_join_73 : decode cX11_join 73 = .ok (.invokevirtual 94, 3) := by decide +kernel
theorem dX11_join_76 : decode cX11_join 76 = .ok (.aload_n 0, 1) := by decide +kernel
theorem dX11_join_77 : decode cX11_join 77 = .ok (.getfield 12, 3) := by decide +kernel
theorem dX11_join_80 : decode cX11_join 80 = .ok (.iload_n 1, 1) := by decide +kernel
theorem dX11_join_81 : decode cX11_join 81 = .ok (.iload_n 2, 1) := by decide +kernel
theorem dX11_join_82 : decode cX11_join 82 = .ok (.invokevirtual 167, 3) := by decide +kernel
theorem dX11_join_85 : decode cX11_join 85 = .ok (.ireturn, 1) := by decide +kernel
theorem dX11_split_0 : decode cX11_split 0 = .ok (.aload_n 0, 1) := by decide +kernel
theorem dX11_split_1 : decode cX11_split 1 = .ok (.iload_n 1, 1) := by decide +kernel
theorem dX11_split_2 : decode cX11_split 2 = .ok (.iload_n 2, 1) := by decide +kernel
theorem dX11_split_3 : decode cX11_split 3 = .ok (.invokevirtual 132, 3) := by decide +kernel
theorem dX11_split_6 : decode cX11_split 6 = .ok (.iload_n 2, 1) := by decide +kernel
theorem dX11_split_7 : decode cX11_split 7 = .ok (.aload_n 0, 1) := by decide +kernel
theorem dX11_split_8 : decode cX11_split 8 = .ok (.getfield 12, 3) := by decide +kernel
theorem dX11_split_11 : decode cX11_split 11 = .ok (.iload_n 1, 1) := by decide +kernel
theorem dX11_split_12 : decode cX11_split 12 = .ok (.invokevirtual 115, 3) := by decide +kernel
theorem dX11_split_15 : decode cX11_split 15 = .ok (.invokevirtual 119, 3) := by decide +kernel
theorem dX11_split_18 : decode cX11_split 18 = .ok (.iconst 1, 1) := by decide +kernel
theorem dX11_split_19 : decode cX11_split 19 = .ok (.isub, 1) := by decide +kernel
theorem dX11_split_20 : decode cX11_split 20 = .ok (.if_icmp .ne 13, 3) := by decide +kernel
theorem dX11_split_23 : decode cX11_split 23 = .ok (.new 170, 3) := by decide +kernel
theorem dX11_split_26 : decode cX11_split 26 = .ok (.dup, 1) := by decide +kernel
theorem dX11_split_27 : decode cX11_split 27 = .ok (.ldc 172, 2) := by decide +kernel
theorem dX11_split_29 : decode cX11_split 29 = .ok (.invokespecial 174, 3) := by decide +kernel
theorem dX11_split_32 : decode cX11_split 32 = .ok (.athrow, 1) := by decide +kernel
theorem dX11_split_33 : decode cX11_split 33 = .ok (.aload_n 0, 1) := by decide +kernel
theorem dX11_split_34 : decode cX11_split 34 = .ok (.getfield 12, 3) := by decide +kernel
theorem dX11_split_37 : decode cX11_split 37 = .ok (.invokevirtual 83, 3) := by decide +kernel
theorem dX11_split_40 : decode cX11_split 40 = .ok (.ifCond .eq 13, 3) := by decide +kernel
theorem dX11_split_43 : decode cX11_split 43 = .ok (.new 87, 3) := by decide +kernel
theorem dX11_split_46 : decode cX11_split 46 = .ok (.dup, 1) := by decide +kernel
theorem dX11_split_47 : decode cX11_split 47 = .ok (.ldc 175, 2) := by decide +kernel
theorem dX11_split_49 : decode cX11_split 49 = .ok (.invokespecial 91, 3) := by decide +kernel
theorem dX11_split_52 : decode cX11_split 52 = .ok (.athrow, 1) := by decide +kernel
theorem dX11_split_53 : decode cX11_split 53 = .ok (.aload_n 0, 1) := by decide +kernel
theorem dX11_split_54 : decode cX11_split 54 = .ok (.getfield 19, 3) := by decide +kernel
theorem dX11_split_57 : decode cX11_split 57 = .ok (.aload_n 0, 1) := by decide +kernel
theorem dX11_split_58 : decode cX11_split 58 = .ok (.getfield 12, 3) := by decide +kernel
theorem dX11_split_61 : decode cX11_split 61 = .ok (.invokevirtual 94, 3) := by decide +kernel
theorem dX11_split_64 : decode cX11_split 64 = .ok (.aload_n 0, 1) := by decide +kernel
theorem dX11_split_65 : decode cX11_split 65 = .ok (.getfield 12, 3) := by decide +kernel
theorem dX11_split_68 : decode cX11_split 68 = .ok (.iload_n 1, 1) := by decide +kernel
theorem dX11_split_69 : decode cX11_split 69 = .ok (.iload_n 2, 1) := by decide +kernel
theorem dX11_split_70 : decode cX11_split 70 = .ok (.invokevirtual 177, 3) := by decide +kernel
theorem dX11_split_73 : decode cX11_split 73 = .ok (.ireturn, 1) := by decide +kernel
theorem dX11_remove_0 : decode cX11_remove 0 = .ok (.aload_n 0, 1) := by decide +kernel
theorem dX11_remove_1 : decode cX11_remove 1 = .ok (.iload_n 1, 1) := by decide +kernel
theorem dX11_remove_2 : decode cX11_remove 2 = .ok (.invokevirtual 106, 3) := by decide +kernel
theorem dX11_remove_5 : decode cX11_remove 5 = .ok (.aload_n 0, 1) := by decide +kernel
theorem dX11_remove_6 : decode cX11_remove 6 = .ok (.getfield 19, 3) := by decide +kernel
theorem dX11_remove_9 : decode cX11_remove 9 = .ok (.aload_n 0, 1) := by decide +kernel
theorem dX11_remove_10 : decode cX11_remove 10 = .ok (.getfield 12, 3) := by decide +kernel
theorem dX11_remove_13 : decode cX11_remove 13 = .ok (.invokevirtual 94, 3) := by decide +kernel
theorem dX11_remove_16 : decode cX11_remove 16 = .ok (.aload_n 0, 1) := by decide +kernel
theorem dX11_remove_17 : decode cX11_remove 17 = .ok (.getfield 12, 3) := by decide +kernel
theorem dX11_remove_20 : decode cX11_remove 20 = .ok (.iload_n 1, 1) := by decide +kernel
theorem dX11_remove_21 : decode cX11_remove 21 = .ok (.invokevirtual 180, 3) := by decide +kernel
theorem dX11_remove_24 : decode cX11_remove 24 = .ok (.aload_n 0, 1) := by decide +kernel
theorem dX11_remove_25 : decode cX11_remove 25 = .ok (.getfield 12, 3) := by decide +kernel
theorem dX11_remove_28 : decode cX11_remove 28 = .ok (.invokevirtual 183, 3) := by decide +kernel
theorem dX11_remove_31 : decode cX11_remove 31 = .ok (.ireturn, 1) := by decide +kernel
theorem dX11_append_0 : decode cX11_append 0 = .ok (.iload_n 1, 1) := by decide +kernel
theorem dX11_append_1 : decode cX11_append 1 = .ok (.bipush 33, 2) := by decide +kernel
theorem dX11_append_3 : decode cX11_append 3 = .ok (.bipush 126, 2) := by decide +kernel
theorem dX11_append_5 : decode cX11_append 5 = .ok (.invokestatic 186, 3) := by decide +kernel
theorem dX11_append_8 : decode cX11_append 8 = .ok (.aload_n 0, 1) := by decide +kernel
theorem dX11_append_9 : decode cX11_append 9 = .ok (.getfield 33, 3) := by decide +kernel
theorem dX11_append_12 : decode cX11_append 12 = .ok (.invokevirtual 190, 3) := by decide +kernel
theorem dX11_append_15 : decode cX11_append 15 = .ok (.ifCond .eq 13, 3) := by decide +kernel
theorem dX11_append_18 : decode cX11_append 18 = .ok (.new 87, 3) := by decide +kernel
theorem dX11_append_21 : decode cX11_append 21 = .ok (.dup, 1) := by decide +kernel
theorem dX11_append_22 : decode cX11_append 22 = .ok (.ldc 191, 2) := by decide +kernel
theorem dX11_append_24 : decode cX11_append 24 = .ok (.invokespecial 91, 3) := by decide +kernel
theorem dX11_append_27 : decode cX11_append 27 = .ok (.athrow, 1) := by decide +kernel
theorem dX11_append_28 : decode cX11_append 28 = .ok (.aload_n 0, 1) := by decide +kernel
theorem dX11_append_29 : decode cX11_append 29 = .ok (.getfield 33, 3) := by decide +kernel
theorem dX11_append_32 : decode cX11_append 32 = .ok (.iload_n 1, 1) := by decide +kernel
theorem dX11_append_33 : decode cX11_append 33 = .ok (.i2c, 1) := by decide +kernel
theorem dX11_append_34 : decode cX11_append 34 = .ok (.invokevirtual 193, 3) := by decide +kernel
theorem dX11_append_37 : decode cX11_append 37 = .ok (.aload_n 0, 1) := by decide +kernel
theorem dX11_append_38 : decode cX11_append 38 = .ok (.getfield 33, 3) := by decide +kernel
theorem dX11_append_41 : decode cX11_append 41 = .ok (.invokevirtual 196, 3) := by decide +kernel
theorem dX11_append_44 : decode cX11_append 44 = .ok (.ireturn, 1) := by decide +kernel
theorem dX11_clearBuffer_0 : decode cX11_clearBuffer 0 = .ok (.aload_n 0, 1) := by decide +kernel
theorem dX11_clearBuffer_1 : decode cX11_clearBuffer 1 = .ok (.getfield 33, 3) := by decide +kernel
theorem dX11_clearBuffer_4 : decode cX11_clearBuffer 4 = .ok (.invokevirtual 196, 3) := by decide +kernel
theorem dX11_clearBuffer_7 : decode cX11_clearBuffer 7 = .ok (.istore_n 1, 1) := by decide +kernel
theorem dX11_clearBuffer_8 : decode cX11_clearBuffer 8 = .ok (.aload_n 0, 1) := by decide +kernel
theorem dX11_clearBuffer_9 : decode cX11_clearBuffer 9 = .ok (.getfield 33, 3) := by decide +kernel
theorem dX11_clearBuffer_12 : decode cX11_clearBuffer 12 = .ok (.invokevirtual 197, 3) := by decide +kernel
theorem dX11_clearBuffer_15 : decode cX11_clearBuffer 15 = .ok (.iload_n 1, 1) := by decide +kernel
theorem dX11_clearBuffer_16 : decode cX11_clearBuffer 16 = .ok (.ireturn, 1) := by decide +kernel
theorem dX11_firstError_0 : decode cX11_firstError 0 = .ok (.aload_n 0, 1) := by decide +kernel
theorem dX11_firstError_1 : decode cX11_firstError 1 = .ok (.getfield 33, 3) := by decide +kernel
theorem dX11_firstError_4 : decode cX11_firstError 4 = .ok (.invokevirtual 200, 3) := by decide +kernel
theorem dX11_firstError_7 : decode cX11_firstError 7 = .ok (.ireturn, 1) := by decide +kernel
theorem dX11_draw_0 : decode cX11_draw 0 = .ok (.aload_n 0, 1) := by decide +kernel
theorem dX11_draw_1 : decode cX11_draw 1 = .ok (.getfield 33, 3) := by decide +kernel
theorem dX11_draw_4 : decode cX11_draw 4 = .ok (.invokevirtual 203, 3) := by decide +kernel
theorem dX11_draw_7 : decode cX11_draw 7 = .ok (.ifCond .ne 13, 3) := by decide +kernel
theorem dX11_draw_10 : decode cX11_draw 10 = .ok (.new 206, 3) := by decide +kernel
theorem dX11_draw_13 : decode cX11_draw 13 = .ok (.dup, 1) := by decide +kernel
theorem dX11_draw_14 : decode cX11_draw 14 = .ok (.ldc 208, 2) := by decide +kernel
theorem dX11_draw_16 : decode cX11_draw 16 = .ok (.invokespecial 210, 3) := by decide +kernel
theorem dX11_draw_19 : decode cX11_draw 19 = .ok (.athrow, 1) := by decide +kernel
theorem dX11_draw_20 : decode cX11_draw 20 = .ok (.aload_n 0, 1) := by decide +kernel
theorem dX11_draw_21 : decode cX11_draw 21 = .ok (.getfield 12, 3) := by decide +kernel
theorem dX11_draw_24 : decode cX11_draw 24 = .ok (.invokevirtual 83, 3) := by decide +kernel
theorem dX11_draw_27 : decode cX11_draw 27 = .ok (.ifCond .ne 21, 3) := by decide +kernel
theorem dX11_draw_30 : decode cX11_draw 30 = .ok (.aload_n 0, 1) := by decide +kernel
theorem dX11_draw_31 : decode cX11_draw 31 = .ok (.getfield 33, 3) := by decide +kernel
theorem dX11_draw_34 : decode cX11_draw 34 = .ok (.aload_n 0, 1) := by decide +kernel
theorem dX11_draw_35 : decode cX11_draw 35 = .ok (.getfield 40, 3) := by decide +kernel
theorem dX11_draw_38 : decode cX11_draw 38 = .ok (.aload_n 0, 1) := by decide +kernel
theorem dX11_draw_39 : decode cX11_draw 39 = .ok (.getfield 12, 3) := by decide +kernel
theorem dX11_draw_42 : decode cX11_draw 42 = .ok (.invokevirtual 211, 3) := by decide +kernel
theorem dX11_draw_45 : decode cX11_draw 45 = .ok (.ifCond .ne 13, 3) := by decide +kernel
theorem dX11_draw_48 : decode cX11_draw 48 = .ok (.new 87, 3) := by decide +kernel
theorem dX11_draw_51 : decode cX11_draw 51 = .ok (.dup, 1) := by decide +kernel
theorem dX11_draw_52 : decode cX11_draw 52 = .ok (.ldc 215, 2) := by decide +kernel
theorem dX11_draw_54 : decode cX11_draw 54 = .ok (.invokespecial 91, 3) := by decide +kernel
theorem dX11_draw_57 : decode cX11_draw 57 = .ok (.athrow, 1) := by decide +kernel
theorem dX11_draw_58 : decode cX11_draw 58 = .ok (.aload_n 0, 1) := by decide +kernel
theorem dX11_draw_59 : decode cX11_draw 59 = .ok (.getfield 19, 3) := by decide +kernel
theorem dX11_draw_62 : decode cX11_draw 62 = .ok (.aload_n 0, 1) := by decide +kernel
theorem dX11_draw_63 : decode cX11_draw 63 = .ok (.getfield 12, 3) := by decide +kernel
theorem dX11_draw_66 : decode cX11_draw 66 = .ok (.invokevirtual 94, 3) := by decide +kernel
theorem dX11_draw_69 : decode cX11_draw 69 = .ok (.aload_n 0, 1) := by decide +kernel
theorem dX11_draw_70 : decode cX11_draw 70 = .ok (.getfield 33, 3) := by decide +kernel
theorem dX11_draw_73 : decode cX11_draw 73 = .ok (.invokevirtual 197, 3) := by decide +kernel
theorem dX11_draw_76 : decode cX11_draw 76 = .ok (.aload_n 0, 1) := by decide +kernel
theorem dX11_draw_77 : decode cX11_draw 77 = .ok (.getfield 12, 3) := by decide +kernel
theorem dX11_draw_80 : decode cX11_draw 80 = .ok (.aload_n 0, 1) := by decide +kernel
theorem dX11_draw_81 : decode cX11_draw 81 = .ok (.getfield 40, 3) := by decide +kernel
theorem dX11_draw_84 : decode cX11_draw 84 = .ok (.invokevirtual 102, 3) := by decide +kernel
theorem dX11_draw_87 : decode cX11_draw 87 = .ok (.ireturn, 1) := by decide +kernel
theorem dX11_write_0 : decode cX11_write 0 = .ok (.aload_n 0, 1) := by decide +kernel
theorem dX11_write_1 : decode cX11_write 1 = .ok (.iload_n 1, 1) := by decide +kernel
theorem dX11_write_2 : decode cX11_write 2 = .ok (.invokevirtual 106, 3) := by decide +kernel
theorem dX11_write_5 : decode cX11_write 5 = .ok (.aload_n 0, 1) := by decide +kernel
theorem dX11_write_6 : decode cX11_write 6 = .ok (.getfield 33, 3) := by decide +kernel
theorem dX11_write_9 : decode cX11_write 9 = .ok (.aload_n 0, 1) := by decide +kernel
theorem dX11_write_10 : decode cX11_write 10 = .ok (.getfield 12, 3) := by decide +kernel
theorem dX11_write_13 : decode cX11_write 13 = .ok (.iload_n 1, 1) := by decide +kernel
theorem dX11_write_14 : decode cX11_write 14 = .ok (.invokevirtual 115, 3) := by decide +kernel
theorem dX11_write_17 : decode cX11_write 17 = .ok (.invokevirtual 217, 3) := by decide +kernel
theorem dX11_write_20 : decode cX11_write 20 = .ok (.aload_n 0, 1) := by decide +kernel
theorem dX11_write_21 : decode cX11_write 21 = .ok (.getfield 33, 3) := by decide +kernel
theorem dX11_write_24 : decode cX11_write 24 = .ok (.invokevirtual 196, 3) := by decide +kernel
theorem dX11_write_27 : decode cX11_write 27 = .ok (.ireturn, 1) := by decide +kernel
theorem dX11_undo_0 : decode cX11_undo 0 = .ok (.aload_n 0, 1) := by decide +kernel
theorem dX11_undo_1 : decode cX11_undo 1 = .ok (.getfield 19, 3) := by decide +kernel
theorem dX11_undo_4 : decode cX11_undo 4 = .ok (.invokevirtual 221, 3) := by decide +kernel
theorem dX11_undo_7 : decode cX11_undo 7 = .ok (.ifCond .ne 13, 3) := by decide +kernel
theorem dX11_undo_10 : decode cX11_undo 10 = .ok (.new 87, 3) := by decide +kernel
theorem dX11_undo_13 : decode cX11_undo 13 = .ok (.dup, 1) := by decide +kernel
theorem dX11_undo_14 : decode cX11_undo 14 = .ok (.ldc 224, 2) := by decide +kernel
theorem dX11_undo_16 : decode cX11_undo 16 = .ok (.invokespecial 91, 3) := by decide +kernel
theorem dX11_undo_19 : decode cX11_undo 19 = .ok (.athrow, 1) := by decide +kernel
theorem dX11_undo_20 : decode cX11_undo 20 = .ok (.aload_n 0, 1) := by decide +kernel
theorem dX11_undo_21 : decode cX11_undo 21 = .ok (.getfield 19, 3) := by decide +kernel
theorem dX11_undo_24 : decode cX11_undo 24 = .ok (.aload_n 0, 1) := by decide +kernel
theorem dX11_undo_25 : decode cX11_undo 25 = .ok (.getfield 12, 3) := by decide +kernel
theorem dX11_undo_28 : decode cX11_undo 28 = .ok (.invokevirtual 226, 3) := by decide +kernel
theorem dX11_undo_31 : decode cX11_undo 31 = .ok (.aload_n 0, 1) := by decide +kernel
theorem dX11_undo_32 : decode cX11_undo 32 = .ok (.getfield 19, 3) := by decide +kernel
theorem dX11_undo_35 : decode cX11_undo 35 = .ok (.invokevirtual 221, 3) := by decide +kernel
theorem dX11_undo_38 : decode cX11_undo 38 = .ok (.ireturn, 1) := by decide +kernel
theorem dX11_keep_0 : decode cX11_keep 0 = .ok (.iload_n 1, 1) := by decide +kernel
theorem dX11_keep_1 : decode cX11_keep 1 = .ok (.iconst 0, 1) := by decide +kernel
theorem dX11_keep_2 : decode cX11_keep 2 = .ok (.iconst 1, 1) := by decide +kernel
theorem dX11_keep_3 : decode cX11_keep 3 = .ok (.invokestatic 186, 3) := by decide +kernel
theorem dX11_keep_6 : decode cX11_keep 6 = .ok (.aload_n 0, 1) := by decide +kernel
theorem dX11_keep_7 : decode cX11_keep 7 = .ok (.getfield 26, 3) := by decide +kernel
theorem dX11_keep_10 : decode cX11_keep 10 = .ok (.iload_n 1, 1) := by decide +kernel
theorem dX11_keep_11 : decode cX11_keep 11 = .ok (.aload_n 0, 1) := by decide +kernel
theorem dX11_keep_12 : decode cX11_keep 12 = .ok (.getfield 12, 3) := by decide +kernel
theorem dX11_keep_15 : decode cX11_keep 15 = .ok (.invokevirtual 229, 3) := by decide +kernel
theorem dX11_keep_18 : decode cX11_keep 18 = .ok (.aload_n 0, 1) := by decide +kernel
theorem dX11_keep_19 : decode cX11_keep 19 = .ok (.getfield 12, 3) := by decide +kernel
theorem dX11_keep_22 : decode cX11_keep 22 = .ok (.invokevirtual 183, 3) := by decide +kernel
theorem dX11_keep_25 : decode cX11_keep 25 = .ok (.ireturn, 1) := by decide +kernel
theorem dX11_goBack_0 : decode cX11_goBack 0 = .ok (.iload_n 1, 1) := by decide +kernel
theorem dX11_goBack_1 : decode cX11_goBack 1 = .ok (.iconst 0, 1) := by decide +kernel
theorem dX11_goBack_2 : decode cX11_goBack 2 = .ok (.iconst 1, 1) := by decide +kernel
theorem dX11_goBack_3 : decode cX11_goBack 3 = .ok (.invokestatic 186, 3) := by decide +kernel
theorem dX11_goBack_6 : decode cX11_goBack 6 = .ok (.aload_n 0, 1) := by decide +kernel
theorem dX11_goBack_7 : decode cX11_goBack 7 = .ok (.getfield 26, 3) := by decide +kernel
theorem dX11_goBack_10 : decode cX11_goBack 10 = .ok (.iload_n 1, 1) := by decide +kernel
theorem dX11_goBack_11 : decode cX11_goBack 11 = .ok (.invokevirtual 233, 3) := by decide +kernel
theorem dX11_goBack_14 : decode cX11_goBack 14 = .ok (.ifCond .ne 13, 3) := by decide +kernel
theorem dX11_goBack_17 : decode cX11_goBack 17 = .ok (.new 87, 3) := by decide +kernel
theorem dX11_goBack_20 : decode cX11_goBack 20 = .ok (.dup, 1) := by decide +kernel
theorem dX11_goBack_21 : decode cX11_goBack 21 = .ok (.ldc 236, 2) := by decide +kernel
theorem dX11_goBack_23 : decode cX11_goBack 23 = .ok (.invokespecial 91, 3) := by decide +kernel
theorem dX11_goBack_26 : decode cX11_goBack 26 = .ok (.athrow, 1) := by decide +kernel
theorem dX11_goBack_27 : decode cX11_goBack 27 = .ok (.aload_n 0, 1) := by decide +kernel
theorem dX11_goBack_28 : decode cX11_goBack 28 = .ok (.getfield 19, 3) := by decide +kernel
theorem dX11_goBack_31 : decode cX11_goBack 31 = .ok (.aload_n 0, 1) := by decide +kernel
theorem dX11_goBack_32 : decode cX11_goBack 32 = .ok (.getfield 12, 3) := by decide +kernel
theorem dX11_goBack_35 : decode cX11_goBack 35 = .ok (.invokevirtual 94, 3) := by decide +kernel
theorem dX11_goBack_38 : decode cX11_goBack 38 = .ok (.aload_n 0, 1) := by decide +kernel
theorem dX11_goBack_39 : decode cX11_goBack 39 = .ok (.getfield 26, 3) := by decide +kernel
theorem dX11_goBack_42 : decode cX11_goBack 42 = .ok (.aload_n 0, 1) := by decide +kernel
theorem dX11_goBack_43 : decode cX11_goBack 43 = .ok (.getfield 12, 3) := by decide +kernel
theorem dX11_goBack_46 : decode cX11_goBack 46 = .ok (.iload_n 1, 1) := by decide +kernel
theorem dX11_goBack_47 : decode cX11_goBack 47 = .ok (.invokevirtual 238, 3) := by decide +kernel
theorem dX11_goBack_50 : decode cX11_goBack 50 = .ok (.aload_n 0, 1) := by decide +kernel
theorem dX11_goBack_51 : decode cX11_goBack 51 = .ok (.getfield 12, 3) := by decide +kernel
theorem dX11_goBack_54 : decode cX11_goBack 54 = .ok (.invokevirtual 183, 3) := by decide +kernel
theorem dX11_goBack_57 : decode cX11_goBack 57 = .ok (.ireturn, 1) := by decide +kernel
theorem dX11_site_0 : decode cX11_site 0 = .ok (.iload_n 1, 1) := by decide +kernel
theorem dX11_site_1 : decode cX11_site 1 = .ok (.iload_n 2, 1) := by decide +kernel
theorem dX11_site_2 : decode cX11_site 2 = .ok (.invokestatic 75, 3) := by decide +kernel
theorem dX11_site_5 : decode cX11_site 5 = .ok (.istore 4, 2) := by decide +kernel
theorem dX11_site_7 : decode cX11_site 7 = .ok (.iload_n 3, 1) := by decide +kernel
theorem dX11_site_8 : decode cX11_site 8 = .ok (.iconst 0, 1) := by decide +kernel
theorem dX11_site_9 : decode cX11_site 9 = .ok (.iconst 2, 1) := by decide +kernel
theorem dX11_site_10 : decode cX11_site 10 = .ok (.invokestatic 186, 3) := by decide +kernel
theorem dX11_site_13 : decode cX11_site 13 = .ok (.iload_n 3, 1) := by decide +kernel
theorem dX11_site_14 : decode cX11_site 14 = .ok (.lookupswitch 46 #[(0, 26), (1, 36)], 26) := by decide +kernel
theorem dX11_site_40 : decode cX11_site 40 = .ok (.aload_n 0, 1) := by decide +kernel
theorem dX11_site_41 : decode cX11_site 41 = .ok (.getfield 12, 3) := by decide +kernel
theorem dX11_site_44 : decode cX11_site 44 = .ok (.iload 4, 2) := by decide +kernel
theorem dX11_site_46 : decode cX11_site 46 = .ok (.invokevirtual 242, 3) := by decide +kernel
theorem dX11_site_49 : decode cX11_site 49 = .ok (.ireturn, 1) := by decide +kernel
theorem dX11_site_50 : decode cX11_site 50 = .ok (.aload_n 0, 1) := by decide +kernel
theorem dX11_site_51 : decode cX11_site 51 = .ok (.getfield 12, 3) := by decide +kernel
theorem dX11_site_54 : decode cX11_site 54 = .ok (.iload 4, 2) := by decide +kernel
theorem dX11_site_56 : decode cX11_site 56 = .ok (.invokevirtual 245, 3) := by decide +kernel
theorem dX11_site_59 : decode cX11_site 59 = .ok (.ireturn, 1) := by decide +kernel
theorem dX11_site_60 : decode cX11_site 60 = .ok (.aload_n 0, 1) := by decide +kernel
theorem dX11_site_61 : decode cX11_site 61 = .ok (.getfield 12, 3) := by decide +kernel
theorem dX11_site_64 : decode cX11_site 64 = .ok (.iload 4, 2) := by decide +kernel
theorem dX11_site_66 : decode cX11_site 66 = .ok (.invokevirtual 248, 3) := by decide +kernel
theorem dX11_site_69 : decode cX11_site 69 = .ok (.ireturn, 1) := by decide +kernel
theorem dX11_place_0 : decode cX11_place 0 = .ok (.aload_n 0, 1) := by decide +kernel
theorem dX11_place_1 : decode cX11_place 1 = .ok (.iload_n 1, 1) := by decide +kernel
theorem dX11_place_2 : decode cX11_place 2 = .ok (.invokevirtual 106, 3) := by decide +kernel
theorem dX11_place_5 : decode cX11_place 5 = .ok (.aload_n 0, 1) := by decide +kernel
theorem dX11_place_6 : decode cX11_place 6 = .ok (.getfield 12, 3) := by decide +kernel
theorem dX11_place_9 : decode cX11_place 9 = .ok (.iload_n 1, 1) := by decide +kernel
theorem dX11_place_10 : decode cX11_place 10 = .ok (.invokevirtual 115, 3) := by decide +kernel
theorem dX11_place_13 : decode cX11_place 13 = .ok (.iload_n 2, 1) := by decide +kernel
theorem dX11_place_14 : decode cX11_place 14 = .ok (.invokevirtual 251, 3) := by decide +kernel
theorem dX11_place_17 : decode cX11_place 17 = .ok (.ireturn, 1) := by decide +kernel
theorem dX11_path_0 : decode cX11_path 0 = .ok (.aload_n 0, 1) := by decide +kernel
theorem dX11_path_1 : decode cX11_path 1 = .ok (.iload_n 1, 1) := by decide +kernel
theorem dX11_path_2 : decode cX11_path 2 = .ok (.invokevirtual 106, 3) := by decide +kernel
theorem dX11_path_5 : decode cX11_path 5 = .ok (.iload_n 2, 1) := by decide +kernel
theorem dX11_path_6 : decode cX11_path 6 = .ok (.iconst 0, 1) := by decide +kernel
theorem dX11_path_7 : decode cX11_path 7 = .ok (.bipush 8, 2) := by decide +kernel
theorem dX11_path_9 : decode cX11_path 9 = .ok (.invokestatic 186, 3) := by decide +kernel
theorem dX11_path_12 : decode cX11_path 12 = .ok (.aload_n 0, 1) := by decide +kernel
theorem dX11_path_13 : decode cX11_path 13 = .ok (.getfield 12, 3) := by decide +kernel
theorem dX11_path_16 : decode cX11_path 16 = .ok (.iload_n 1, 1) := by decide +kernel
theorem dX11_path_17 : decode cX11_path 17 = .ok (.invokevirtual 115, 3) := by decide +kernel
theorem dX11_path_20 : decode cX11_path 20 = .ok (.astore_n 3, 1) := by decide +kernel
theorem dX11_path_21 : decode cX11_path 21 = .ok (.iload_n 2, 1) := by decide +kernel
theorem dX11_path_22 : decode cX11_path 22 = .ok (.tableswitch 104 0 7 #[46, 51, 56, 65, 70, 75, 87, 99], 46) := by decide +kernel
theorem dX11_path_68 : decode cX11_path 68 = .ok (.aload_n 3, 1) := by decide +kernel
theorem dX11_path_69 : decode cX11_path 69 = .ok (.invokevirtual 119, 3) := by decide +kernel
theorem dX11_path_72 : decode cX11_path 72 = .ok (.ireturn, 1) := by decide +kernel
theorem dX11_path_73 : decode cX11_path 73 = .ok (.aload_n 3, 1) := by decide +kernel
theorem dX11_path_74 : decode cX11_path 74 = .ok (.invokevirtual 254, 3) := by decide +kernel
theorem dX11_path_77 : decode cX11_path 77 = .ok (.ireturn, 1) := by decide +kernel
theorem dX11_path_78 : decode cX11_path 78 = .ok (.aload_n 0, 1) := by decide +kernel
theorem dX11_path_79 : decode cX11_path 79 = .ok (.getfield 12, 3) := by decide +kernel
theorem dX11_path_82 : decode cX11_path 82 = .ok (.iload_n 1, 1) := by decide +kernel
theorem dX11_path_83 : decode cX11_path 83 = .ok (.invokevirtual 257, 3) := by decide +kernel
theorem dX11_path_86 : decode cX11_path 86 = .ok (.ireturn, 1) := by decide +kernel
theorem dX11_path_87 : decode cX11_path 87 = .ok (.aload_n 3, 1) := by decide +kernel
theorem dX11_path_88 : decode cX11_path 88 = .ok (.invokevirtual 260, 3) := by decide +kernel
theorem dX11_path_91 : decode cX11_path 91 = .ok (.ireturn, 1) := by decide +kernel
theorem dX11_path_92 : decode cX11_path 92 = .ok (.aload_n 3, 1) := by decide +kernel
theorem dX11_path_93 : decode cX11_path 93 = .ok (.invokevirtual 263, 3) := by decide +kernel
theorem dX11_path_96 : decode cX11_path 96 = .ok (.ireturn, 1) := by decide +kernel
theorem dX11_path_97 : decode cX11_path 97 = .ok (.aload_n 3, 1) := by decide +kernel
theorem dX11_path_98 : decode cX11_path 98 = .ok (.invokevirtual 266, 3) := by decide +kernel
theorem dX11_path_101 : decode cX11_path 101 = .ok (.aload_n 3, 1) := by decide +kernel
theorem dX11_path_102 : decode cX11_path 102 = .ok (.invokevirtual 156, 3) := by decide +kernel
theorem dX11_path_105 : decode cX11_path 105 = .ok (.invokestatic 269, 3) := by decide +kernel
theorem dX11_path_108 : decode cX11_path 108 = .ok (.ireturn, 1) := by decide +kernel
theorem dX11_path_109 : decode cX11_path 109 = .ok (.aload_n 0, 1) := by decide +kernel
theorem dX11_path_110 : decode cX11_path 110 = .ok (.getfield 12, 3) := by decide +kernel
theorem dX11_path_113 : decode cX11_path 113 = .ok (.aload_n 3, 1) := by decide +kernel
theorem dX11_path_114 : decode cX11_path 114 = .ok (.invokevirtual 156, 3) := by decide +kernel
theorem dX11_path_117 : decode cX11_path 117 = .ok (.invokevirtual 248, 3) := by decide +kernel
theorem dX11_path_120 : decode cX11_path 120 = .ok (.ireturn, 1) := by decide +kernel
theorem dX11_path_121 : decode cX11_path 121 = .ok (.aload_n 3, 1) := by decide +kernel
theorem dX11_path_122 : decode cX11_path 122 = .ok (.invokevirtual 272, 3) := by decide +kernel
theorem dX11_path_125 : decode cX11_path 125 = .ok (.ireturn, 1) := by decide +kernel
theorem dX11_path_126 : decode cX11_path 126 = .ok (.aload_n 0, 1) := by decide +kernel
theorem dX11_path_127 : decode cX11_path 127 = .ok (.getfield 12, 3) := by decide +kernel
theorem dX11_path_130 : decode cX11_path 130 = .ok (.iload_n 1, 1) := by decide +kernel
theorem dX11_path_131 : decode cX11_path 131 = .ok (.invokevirtual 275, 3) := by decide +kernel
theorem dX11_path_134 : decode cX11_path 134 = .ok (.ireturn, 1) := by decide +kernel
theorem dX11_trapped_0 : decode cX11_trapped 0 = .ok (.iconst 0, 1) := by decide +kernel
theorem dX11_trapped_1 : decode cX11_trapped 1 = .ok (.istore_n 1, 1) := by decide +kernel
theorem dX11_trapped_2 : decode cX11_trapped 2 = .ok (.iconst 0, 1) := by decide +kernel
theorem dX11_trapped_3 : decode cX11_trapped 3 = .ok (.istore_n 2, 1) := by decide +kernel
theorem dX11_trapped_4 : decode cX11_trapped 4 = .ok (.iload_n 2, 1) := by decide +kernel
theorem dX11_trapped_5 : decode cX11_trapped 5 = .ok (.aload_n 0, 1) := by decide +kernel
theorem dX11_trapped_6 : decode cX11_trapped 6 = .ok (.getfield 12, 3) := by decide +kernel
theorem dX11_trapped_9 : decode cX11_trapped 9 = .ok (.invokevirtual 183, 3) := by decide +kernel
theorem dX11_trapped_12 : decode cX11_trapped 12 = .ok (.if_icmp .ge 36, 3) := by decide +kernel
theorem dX11_trapped_15 : decode cX11_trapped 15 = .ok (.aload_n 0, 1) := by decide +kernel
theorem dX11_trapped_16 : decode cX11_trapped 16 = .ok (.getfield 12, 3) := by decide +kernel
theorem dX11_trapped_19 : decode cX11_trapped 19 = .ok (.aload_n 0, 1) := by decide +kernel
theorem dX11_trapped_20 : decode cX11_trapped 20 = .ok (.getfield 12, 3) := by decide +kernel
theorem dX11_trapped_23 : decode cX11_trapped 23 = .ok (.iload_n 2, 1) := by decide +kernel
theorem dX11_trapped_24 : decode cX11_trapped 24 = .ok (.invokevirtual 115, 3) := by decide +kernel
theorem dX11_trapped_27 : decode cX11_trapped 27 = .ok (.invokevirtual 156, 3) := by decide +kernel
theorem dX11_trapped_30 : decode cX11_trapped 30 = .ok (.invokevirtual 248, 3) := by decide +kernel
theorem dX11_trapped_33 : decode cX11_trapped 33 = .ok (.ifCond .ne 9, 3) := by decide +kernel
theorem dX11_trapped_36 : decode cX11_trapped 36 = .ok (.iload_n 1, 1) := by decide +kernel
theorem dX11_trapped_37 : decode cX11_trapped 37 = .ok (.iconst 1, 1) := by decide +kernel
theorem dX11_trapped_38 : decode cX11_trapped 38 = .ok (.iload_n 2, 1) := by decide +kernel
theorem dX11_trapped_39 : decode cX11_trapped 39 = .ok (.ishl, 1) := by decide +kernel
theorem dX11_trapped_40 : decode cX11_trapped 40 = .ok (.ior, 1) := by decide +kernel
theorem dX11_trapped_41 : decode cX11_trapped 41 = .ok (.istore_n 1, 1) := by decide +kernel
theorem dX11_trapped_42 : decode cX11_trapped 42 = .ok (.iinc 2 1, 3) := by decide +kernel
theorem dX11_trapped_45 : decode cX11_trapped 45 = .ok (.goto (-41), 3) := by decide +kernel
theorem dX11_trapped_48 : decode cX11_trapped 48 = .ok (.iload_n 1, 1) := by decide +kernel
theorem dX11_trapped_49 : decode cX11_trapped 49 = .ok (.ireturn, 1) := by decide +kernel
theorem dX11_touching_0 : decode cX11_touching 0 = .ok (.aload_n 0, 1) := by decide +kernel
theorem dX11_touching_1 : decode cX11_touching 1 = .ok (.iload_n 1, 1) := by decide +kernel
theorem dX11_touching_2 : decode cX11_touching 2 = .ok (.iload_n 2, 1) := by decide +kernel
theorem dX11_touching_3 : decode cX11_touching 3 = .ok (.invokevirtual 153, 3) := by decide +kernel
theorem dX11_touching_6 : decode cX11_touching 6 = .ok (.aload_n 0, 1) := by decide +kernel
theorem dX11_touching_7 : decode cX11_touching 7 = .ok (.getfield 12, 3) := by decide +kernel
theorem dX11_touching_10 : decode cX11_touching 10 = .ok (.iload_n 1, 1) := by decide +kernel
theorem dX11_touching_11 : decode cX11_touching 11 = .ok (.iload_n 2, 1) := by decide +kernel
theorem dX11_touching_12 : decode cX11_touching 12 = .ok (.invokevirtual 278, 3) := by decide +kernel
theorem dX11_touching_15 : decode cX11_touching 15 = .ok (.ireturn, 1) := by decide +kernel
theorem dX11_shape_0 : decode cX11_shape 0 = .ok (.aload_n 0, 1) := by decide +kernel
theorem dX11_shape_1 : decode cX11_shape 1 = .ok (.iload_n 1, 1) := by decide +kernel
theorem dX11_shape_2 : decode cX11_shape 2 = .ok (.invokevirtual 106, 3) := by decide +kernel
theorem dX11_shape_5 : decode cX11_shape 5 = .ok (.iload_n 2, 1) := by decide +kernel
theorem dX11_shape_6 : decode cX11_shape 6 = .ok (.ifCond .ge 14, 3) := by decide +kernel
theorem dX11_shape_9 : decode cX11_shape 9 = .ok (.new 206, 3) := by decide +kernel
theorem dX11_shape_12 : decode cX11_shape 12 = .ok (.dup, 1) := by decide +kernel
theorem dX11_shape_13 : decode cX11_shape 13 = .ok (.ldc_w 281, 3) := by decide +kernel
theorem dX11_shape_16 : decode cX11_shape 16 = .ok (.invokespecial 210, 3) := by decide +kernel
theorem dX11_shape_19 : decode cX11_shape 19 = .ok (.athrow, 1) := by decide +kernel
theorem dX11_shape_20 : decode cX11_shape 20 = .ok (.aload_n 0, 1) := by decide +kernel
theorem dX11_shape_21 : decode cX11_shape 21 = .ok (.getfield 68, 3) := by decide +kernel
theorem dX11_shape_24 : decode cX11_shape 24 = .ok (.aload_n 0, 1) := by decide +kernel
theorem dX11_shape_25 : decode cX11_shape 25 = .ok (.getfield 12, 3) := by decide +kernel
theorem dX11_shape_28 : decode cX11_shape 28 = .ok (.iload_n 1, 1) := by decide +kernel
theorem dX11_shape_29 : decode cX11_shape 29 = .ok (.invokevirtual 115, 3) := by decide +kernel
theorem dX11_shape_32 : decode cX11_shape 32 = .ok (.invokevirtual 283, 3) := by decide +kernel
theorem dX11_shape_35 : decode cX11_shape 35 = .ok (.aload_n 0, 1) := by decide +kernel
theorem dX11_shape_36 : decode cX11_shape 36 = .ok (.getfield 68, 3) := by decide +kernel
theorem dX11_shape_39 : decode cX11_shape 39 = .ok (.iload_n 2, 1) := by decide +kernel
theorem dX11_shape_40 : decode cX11_shape 40 = .ok (.invokevirtual 286, 3) := by decide +kernel
theorem dX11_shape_43 : decode cX11_shape 43 = .ok (.ireturn, 1) := by decide +kernel
theorem dX11_isAlike_0 : decode cX11_isAlike 0 = .ok (.aload_n 0, 1) := by decide +kernel
theorem dX11_isAlike_1 : decode cX11_isAlike 1 = .ok (.iload_n 1, 1) := by decide +kernel
theorem dX11_isAlike_2 : decode cX11_isAlike 2 = .ok (.invokevirtual 106, 3) := by decide +kernel
theorem dX11_isAlike_5 : decode cX11_isAlike 5 = .ok (.aload_n 0, 1) := by decide +kernel
theorem dX11_isAlike_6 : decode cX11_isAlike 6 = .ok (.iload_n 2, 1) := by decide +kernel
theorem dX11_isAlike_7 : decode cX11_isAlike 7 = .ok (.invokevirtual 106, 3) := by decide +kernel
theorem dX11_isAlike_10 : decode cX11_isAlike 10 = .ok (.aload_n 0, 1) := by decide +kernel
theorem dX11_isAlike_11 : decode cX11_isAlike 11 = .ok (.getfield 68, 3) := by decide +kernel
theorem dX11_isAlike_14 : decode cX11_isAlike 14 = .ok (.aload_n 0, 1) := by decide +kernel
theorem dX11_isAlike_15 : decode cX11_isAlike 15 = .ok (.getfield 12, 3) := by decide +kernel
theorem dX11_isAlike_18 : decode cX11_isAlike 18 = .ok (.iload_n 1, 1) := by decide +kernel
theorem dX11_isAlike_19 : decode cX11_isAlike 19 = .ok (.invokevirtual 115, 3) := by decide +kernel
theorem dX11_isAlike_22 : decode cX11_isAlike 22 = .ok (.invokevirtual 283, 3) := by decide +kernel
theorem dX11_isAlike_25 : decode cX11_isAlike 25 = .ok (.aload_n 0, 1) := by decide +kernel
theorem dX11_isAlike_26 : decode cX11_isAlike 26 = .ok (.getfield 72, 3) := by decide +kernel
theorem dX11_isAlike_29 : decode cX11_isAlike 29 = .ok (.aload_n 0, 1) := by decide +kernel
theorem dX11_isAlike_30 : decode cX11_isAlike 30 = .ok (.getfield 12, 3) := by decide +kernel
theorem dX11_isAlike_33 : decode cX11_isAlike 33 = .ok (.iload_n 2, 1) := by decide +kernel
theorem dX11_isAlike_34 : decode cX11_isAlike 34 = .ok (.invokevirtual 115, 3) := by decide +kernel
theorem dX11_isAlike_37 : decode cX11_isAlike 37 = .ok (.invokevirtual 283, 3) := by decide +kernel
theorem dX11_isAlike_40 : decode cX11_isAlike 40 = .ok (.aload_n 0, 1) := by decide +kernel
theorem dX11_isAlike_41 : decode cX11_isAlike 41 = .ok (.getfield 68, 3) := by decide +kernel
theorem dX11_isAlike_44 : decode cX11_isAlike 44 = .ok (.aload_n 0, 1) := by decide +kernel
theorem dX11_isAlike_45 : decode cX11_isAlike 45 = .ok (.getfield 72, 3) := by decide +kernel
theorem dX11_isAlike_48 : decode cX11_isAlike 48 = .ok (.invokevirtual 289, 3) := by decide +kernel
theorem dX11_isAlike_51 : decode cX11_isAlike 51 = .ok (.ireturn, 1) := by decide +kernel
theorem dX11_free_0 : decode cX11_free 0 = .ok (.iload_n 1, 1) := by decide +kernel
theorem dX11_free_1 : decode cX11_free 1 = .ok (.iconst 0, 1) := by decide +kernel
theorem dX11_free_2 : decode cX11_free 2 = .ok (.iconst 3, 1) := by decide +kernel
theorem dX11_free_3 : decode cX11_free 3 = .ok (.invokestatic 186, 3) := by decide +kernel
theorem dX11_free_6 : decode cX11_free 6 = .ok (.aload_n 0, 1) := by decide +kernel
theorem dX11_free_7 : decode cX11_free 7 = .ok (.getfield 61, 3) := by decide +kernel
theorem dX11_free_10 : decode cX11_free 10 = .ok (.aload_n 0, 1) := by decide +kernel
theorem dX11_free_11 : decode cX11_free 11 = .ok (.getfield 12, 3) := by decide +kernel
theorem dX11_free_14 : decode cX11_free 14 = .ok (.invokevirtual 293, 3) := by decide +kernel
theorem dX11_free_17 : decode cX11_free 17 = .ok (.iload_n 1, 1) := by decide +kernel
theorem dX11_free_18 : decode cX11_free 18 = .ok (.tableswitch 53 0 2 #[26, 37, 45], 26) := by decide +kernel
theorem dX11_free_44 : decode cX11_free 44 = .ok (.bipush 100, 2) := by decide +kernel
theorem dX11_free_46 : decode cX11_free 46 = .ok (.aload_n 0, 1) := by decide +kernel
theorem dX11_free_47 : decode cX11_free 47 = .ok (.getfield 12, 3) := by decide +kernel
theorem dX11_free_50 : decode cX11_free 50 = .ok (.invokevirtual 296, 3) := by decide +kernel
theorem dX11_free_53 : decode cX11_free 53 = .ok (.isub, 1) := by decide +kernel
theorem dX11_free_54 : decode cX11_free 54 = .ok (.ireturn, 1) := by decide +kernel
theorem dX11_free_55 : decode cX11_free 55 = .ok (.aload_n 0, 1) := by decide +kernel
theorem dX11_free_56 : decode cX11_free 56 = .ok (.getfield 61, 3) := by decide +kernel
theorem dX11_free_59 : decode cX11_free 59 = .ok (.invokevirtual 299, 3) := by decide +kernel
theorem dX11_free_62 : decode cX11_free 62 = .ok (.ireturn, 1) := by decide +kernel
theorem dX11_free_63 : decode cX11_free 63 = .ok (.aload_n 0, 1) := by decide +kernel
theorem dX11_free_64 : decode cX11_free 64 = .ok (.getfield 61, 3) := by decide +kernel
theorem dX11_free_67 : decode cX11_free 67 = .ok (.invokevirtual 300, 3) := by decide +kernel
theorem dX11_free_70 : decode cX11_free 70 = .ok (.ireturn, 1) := by decide +kernel
theorem dX11_free_71 : decode cX11_free 71 = .ok (.aload_n 0, 1) := by decide +kernel
theorem dX11_free_72 : decode cX11_free 72 = .ok (.invokevirtual 303, 3) := by decide +kernel
theorem dX11_free_75 : decode cX11_free 75 = .ok (.ireturn, 1) := by decide +kernel
theorem dX11_ways_0 : decode cX11_ways 0 = .ok (.aload_n 0, 1) := by decide +kernel
theorem dX11_ways_1 : decode cX11_ways 1 = .ok (.iload_n 1, 1) := by decide +kernel
theorem dX11_ways_2 : decode cX11_ways 2 = .ok (.invokevirtual 106, 3) := by decide +kernel
theorem dX11_ways_5 : decode cX11_ways 5 = .ok (.iload_n 2, 1) := by decide +kernel
theorem dX11_ways_6 : decode cX11_ways 6 = .ok (.iconst 0, 1) := by decide +kernel
theorem dX11_ways_7 : decode cX11_ways 7 = .ok (.bipush 6, 2) := by decide +kernel
theorem dX11_ways_9 : decode cX11_ways 9 = .ok (.invokestatic 186, 3) := by decide +kernel
theorem dX11_ways_12 : decode cX11_ways 12 = .ok (.aload_n 0, 1) := by decide +kernel
theorem dX11_ways_13 : decode cX11_ways 13 = .ok (.getfield 54, 3) := by decide +kernel
theorem dX11_ways_16 : decode cX11_ways 16 = .ok (.aload_n 0, 1) := by decide +kernel
theorem dX11_ways_17 : decode cX11_ways 17 = .ok (.getfield 12, 3) := by decide +kernel
theorem dX11_ways_20 : decode cX11_ways 20 = .ok (.iload_n 1, 1) := by decide +kernel
theorem dX11_ways_21 : decode cX11_ways 21 = .ok (.iload_n 2, 1) := by decide +kernel
theorem dX11_ways_22 : decode cX11_ways 22 = .ok (.invokevirtual 306, 3) := by decide +kernel
theorem dX11_ways_25 : decode cX11_ways 25 = .ok (.ireturn, 1) := by decide +kernel
theorem dX11_bestStep_0 : decode cX11_bestStep 0 = .ok (.aload_n 0, 1) := by decide +kernel
theorem dX11_bestStep_1 : decode cX11_bestStep 1 = .ok (.iload_n 1, 1) := by decide +kernel
theorem dX11_bestStep_2 : decode cX11_bestStep 2 = .ok (.invokevirtual 106, 3) := by decide +kernel
theorem dX11_bestStep_5 : decode cX11_bestStep 5 = .ok (.aload_n 0, 1) := by decide +kernel
theorem dX11_bestStep_6 : decode cX11_bestStep 6 = .ok (.getfield 54, 3) := by decide +kernel
theorem dX11_bestStep_9 : decode cX11_bestStep 9 = .ok (.aload_n 0, 1) := by decide +kernel
theorem dX11_bestStep_10 : decode cX11_bestStep 10 = .ok (.getfield 12, 3) := by decide +kernel
theorem dX11_bestStep_13 : decode cX11_bestStep 13 = .ok (.iload_n 1, 1) := by decide +kernel
theorem dX11_bestStep_14 : decode cX11_bestStep 14 = .ok (.invokevirtual 310, 3) := by decide +kernel
theorem dX11_bestStep_17 : decode cX11_bestStep 17 = .ok (.ireturn, 1) := by decide +kernel
theorem dX11_reach_0 : decode cX11_reach 0 = .ok (.aload_n 0, 1) := by decide +kernel
theorem dX11_reach_1 : decode cX11_reach 1 = .ok (.iload_n 1, 1) := by decide +kernel
theorem dX11_reach_2 : decode cX11_reach 2 = .ok (.invokevirtual 106, 3) := by decide +kernel
theorem dX11_reach_5 : decode cX11_reach 5 = .ok (.aload_n 0, 1) := by decide +kernel
theorem dX11_reach_6 : decode cX11_reach 6 = .ok (.getfield 61, 3) := by decide +kernel
theorem dX11_reach_9 : decode cX11_reach 9 = .ok (.aload_n 0, 1) := by decide +kernel
theorem dX11_reach_10 : decode cX11_reach 10 = .ok (.getfield 12, 3) := by decide +kernel
theorem dX11_reach_13 : decode cX11_reach 13 = .ok (.invokevirtual 293, 3) := by decide +kernel
theorem dX11_reach_16 : decode cX11_reach 16 = .ok (.aload_n 0, 1) := by decide +kernel
theorem dX11_reach_17 : decode cX11_reach 17 = .ok (.getfield 61, 3) := by decide +kernel
theorem dX11_reach_20 : decode cX11_reach 20 = .ok (.aload_n 0, 1) := by decide +kernel
theorem dX11_reach_21 : decode cX11_reach 21 = .ok (.getfield 12, 3) := by decide +kernel
theorem dX11_reach_24 : decode cX11_reach 24 = .ok (.iload_n 1, 1) := by decide +kernel
theorem dX11_reach_25 : decode cX11_reach 25 = .ok (.invokevirtual 115, 3) := by decide +kernel
theorem dX11_reach_28 : decode cX11_reach 28 = .ok (.invokevirtual 156, 3) := by decide +kernel
theorem dX11_reach_31 : decode cX11_reach 31 = .ok (.invokevirtual 314, 3) := by decide +kernel
theorem dX11_reach_34 : decode cX11_reach 34 = .ok (.aload_n 0, 1) := by decide +kernel
theorem dX11_reach_35 : decode cX11_reach 35 = .ok (.getfield 61, 3) := by decide +kernel
theorem dX11_reach_38 : decode cX11_reach 38 = .ok (.invokevirtual 317, 3) := by decide +kernel
theorem dX11_reach_41 : decode cX11_reach 41 = .ok (.ireturn, 1) := by decide +kernel
theorem dX11_ifTurned_0 : decode cX11_ifTurned 0 = .ok (.aload_n 0, 1) := by decide +kernel
theorem dX11_ifTurned_1 : decode cX11_ifTurned 1 = .ok (.iload_n 1, 1) := by decide +kernel
theorem dX11_ifTurned_2 : decode cX11_ifTurned 2 = .ok (.iload_n 2, 1) := by decide +kernel
theorem dX11_ifTurned_3 : decode cX11_ifTurned 3 = .ok (.invokevirtual 132, 3) := by decide +kernel
theorem dX11_ifTurned_6 : decode cX11_ifTurned 6 = .ok (.iload_n 3, 1) := by decide +kernel
theorem dX11_ifTurned_7 : decode cX11_ifTurned 7 = .ok (.invokestatic 136, 3) := by decide +kernel
theorem dX11_ifTurned_10 : decode cX11_ifTurned 10 = .ok (.aload_n 0, 1) := by decide +kernel
theorem dX11_ifTurned_11 : decode cX11_ifTurned 11 = .ok (.getfield 47, 3) := by decide +kernel
theorem dX11_ifTurned_14 : decode cX11_ifTurned 14 = .ok (.aload_n 0, 1) := by decide +kernel
theorem dX11_ifTurned_15 : decode cX11_ifTurned 15 = .ok (.getfield 12, 3) := by decide +kernel
theorem dX11_ifTurned_18 : decode cX11_ifTurned 18 = .ok (.iload_n 1, 1) := by decide +kernel
theorem dX11_ifTurned_19 : decode cX11_ifTurned 19 = .ok (.iload_n 2, 1) := by decide +kernel
theorem dX11_ifTurned_20 : decode cX11_ifTurned 20 = .ok (.iload_n 3, 1) := by decide +kernel
theorem dX11_ifTurned_21 : decode cX11_ifTurned 21 = .ok (.invokevirtual 139, 3) := by decide +kernel
theorem dX11_ifTurned_24 : decode cX11_ifTurned 24 = .ok (.ireturn, 1) := by decide +kernel
theorem dX11_turnable_0 : decode cX11_turnable 0 = .ok (.aload_n 0, 1) := by decide +kernel
theorem dX11_turnable_1 : decode cX11_turnable 1 = .ok (.iload_n 1, 1) := by decide +kernel
theorem dX11_turnable_2 : decode cX11_turnable 2 = .ok (.invokevirtual 106, 3) := by decide +kernel
theorem dX11_turnable_5 : decode cX11_turnable 5 = .ok (.aload_n 0, 1) := by decide +kernel
theorem dX11_turnable_6 : decode cX11_turnable 6 = .ok (.getfield 47, 3) := by decide +kernel
theorem dX11_turnable_9 : decode cX11_turnable 9 = .ok (.aload_n 0, 1) := by decide +kernel
theorem dX11_turnable_10 : decode cX11_turnable 10 = .ok (.getfield 12, 3) := by decide +kernel
theorem dX11_turnable_13 : decode cX11_turnable 13 = .ok (.iload_n 1, 1) := by decide +kernel
theorem dX11_turnable_14 : decode cX11_turnable 14 = .ok (.invokevirtual 320, 3) := by decide +kernel
theorem dX11_turnable_17 : decode cX11_turnable 17 = .ok (.ireturn, 1) := by decide +kernel
theorem dX11_count_0 : decode cX11_count 0 = .ok (.iload_n 1, 1) := by decide +kernel
theorem dX11_count_1 : decode cX11_count 1 = .ok (.iconst 0, 1) := by decide +kernel
theorem dX11_count_2 : decode cX11_count 2 = .ok (.bipush 6, 2) := by decide +kernel
theorem dX11_count_4 : decode cX11_count 4 = .ok (.invokestatic 186, 3) := by decide +kernel
theorem dX11_count_7 : decode cX11_count 7 = .ok (.iload_n 1, 1) := by decide +kernel
theorem dX11_count_8 : decode cX11_count 8 = .ok (.tableswitch 88 0 5 #[40, 48, 56, 64, 72, 80], 40) := by decide +kernel
theorem dX11_count_48 : decode cX11_count 48 = .ok (.aload_n 0, 1) := by decide +kernel
theorem dX11_count_49 : decode cX11_count 49 = .ok (.getfield 12, 3) := by decide +kernel
theorem dX11_count_52 : decode cX11_count 52 = .ok (.invokevirtual 183, 3) := by decide +kernel
theorem dX11_count_55 : decode cX11_count 55 = .ok (.ireturn, 1) := by decide +kernel
theorem dX11_count_56 : decode cX11_count 56 = .ok (.aload_n 0, 1) := by decide +kernel
theorem dX11_count_57 : decode cX11_count 57 = .ok (.getfield 12, 3) := by decide +kernel
theorem dX11_count_60 : decode cX11_count 60 = .ok (.invokevirtual 296, 3) := by decide +kernel
theorem dX11_count_63 : decode cX11_count 63 = .ok (.ireturn, 1) := by decide +kernel
theorem dX11_count_64 : decode cX11_count 64 = .ok (.aload_n 0, 1) := by decide +kernel
theorem dX11_count_65 : decode cX11_count 65 = .ok (.getfield 12, 3) := by decide +kernel
theorem dX11_count_68 : decode cX11_count 68 = .ok (.invokevirtual 323, 3) := by decide +kernel
theorem dX11_count_71 : decode cX11_count 71 = .ok (.ireturn, 1) := by decide +kernel
theorem dX11_count_72 : decode cX11_count 72 = .ok (.aload_n 0, 1) := by decide +kernel
theorem dX11_count_73 : decode cX11_count 73 = .ok (.getfield 12, 3) := by decide +kernel
theorem dX11_count_76 : decode cX11_count 76 = .ok (.invokevirtual 326, 3) := by decide +kernel
theorem dX11_count_79 : decode cX11_count 79 = .ok (.ireturn, 1) := by decide +kernel
theorem dX11_count_80 : decode cX11_count 80 = .ok (.aload_n 0, 1) := by decide +kernel
theorem dX11_count_81 : decode cX11_count 81 = .ok (.getfield 12, 3) := by decide +kernel
theorem dX11_count_84 : decode cX11_count 84 = .ok (.invokevirtual 329, 3) := by decide +kernel
theorem dX11_count_87 : decode cX11_count 87 = .ok (.ireturn, 1) := by decide +kernel
theorem dX11_count_88 : decode cX11_count 88 = .ok (.aload_n 0, 1) := by decide +kernel
theorem dX11_count_89 : decode cX11_count 89 = .ok (.getfield 19, 3) := by decide +kernel
theorem dX11_count_92 : decode cX11_count 92 = .ok (.invokevirtual 221, 3) := by decide +kernel
theorem dX11_count_95 : decode cX11_count 95 = .ok (.ireturn, 1) := by decide +kernel
theorem dX11_count_96 : decode cX11_count 96 = .ok (.aload_n 0, 1) := by decide +kernel
theorem dX11_count_97 : decode cX11_count 97 = .ok (.getfield 33, 3) := by decide +kernel
theorem dX11_count_100 : decode cX11_count 100 = .ok (.invokevirtual 196, 3) := by decide +kernel
theorem dX11_count_103 : decode cX11_count 103 = .ok (.ireturn, 1) := by decide +kernel
theorem dX11_spread_0 : decode cX11_spread 0 = .ok (.aload_n 0, 1) := by decide +kernel
theorem dX11_spread_1 : decode cX11_spread 1 = .ok (.iload_n 1, 1) := by decide +kernel
theorem dX11_spread_2 : decode cX11_spread 2 = .ok (.invokevirtual 106, 3) := by decide +kernel
theorem dX11_spread_5 : decode cX11_spread 5 = .ok (.aload_n 0, 1) := by decide +kernel
theorem dX11_spread_6 : decode cX11_spread 6 = .ok (.getfield 12, 3) := by decide +kernel
theorem dX11_spread_9 : decode cX11_spread 9 = .ok (.iload_n 1, 1) := by decide +kernel
theorem dX11_spread_10 : decode cX11_spread 10 = .ok (.invokevirtual 115, 3) := by decide +kernel
theorem dX11_spread_13 : decode cX11_spread 13 = .ok (.astore_n 2, 1) := by decide +kernel
theorem dX11_spread_14 : decode cX11_spread 14 = .ok (.aload_n 2, 1) := by decide +kernel
theorem dX11_spread_15 : decode cX11_spread 15 = .ok (.invokevirtual 119, 3) := by decide +kernel
theorem dX11_spread_18 : decode cX11_spread 18 = .ok (.i2d, 1) := by decide +kernel
theorem dX11_spread_19 : decode cX11_spread 19 = .ok (.dstore_n 3, 1) := by decide +kernel
theorem dX11_spread_20 : decode cX11_spread 20 = .ok (.aload_n 2, 1) := by decide +kernel
theorem dX11_spread_21 : decode cX11_spread 21 = .ok (.invokevirtual 272, 3) := by decide +kernel
theorem dX11_spread_24 : decode cX11_spread 24 = .ok (.i2d, 1) := by decide +kernel
theorem dX11_spread_25 : decode cX11_spread 25 = .ok (.dload_n 3, 1) := by decide +kernel
theorem dX11_spread_26 : decode cX11_spread 26 = .ok (.dload_n 3, 1) := by decide +kernel
theorem dX11_spread_27 : decode cX11_spread 27 = .ok (.dmul, 1) := by decide +kernel
theorem dX11_spread_28 : decode cX11_spread 28 = .ok (.ddiv, 1) := by decide +kernel
theorem dX11_spread_29 : decode cX11_spread 29 = .ok (.dreturn, 1) := by decide +kernel
theorem dX11_share_0 : decode cX11_share 0 = .ok (.aload_n 0, 1) := by decide +kernel
theorem dX11_share_1 : decode cX11_share 1 = .ok (.getfield 12, 3) := by decide +kernel
theorem dX11_share_4 : decode cX11_share 4 = .ok (.invokevirtual 296, 3) := by decide +kernel
theorem dX11_share_7 : decode cX11_share 7 = .ok (.i2f, 1) := by decide +kernel
theorem dX11_share_8 : decode cX11_share 8 = .ok (.ldc_w 332, 3) := by decide +kernel
theorem dX11_share_11 : decode cX11_share 11 = .ok (.fdiv, 1) := by decide +kernel
theorem dX11_share_12 : decode cX11_share 12 = .ok (.freturn, 1) := by decide +kernel
theorem dX11_regionsAtHeads_0 : decode cX11_regionsAtHeads 0 = .ok (.iconst 0, 1) := by decide +kernel
theorem dX11_regionsAtHeads_1 : decode cX11_regionsAtHeads 1 = .ok (.istore_n 1, 1) := by decide +kernel
theorem dX11_regionsAtHeads_2 : decode cX11_regionsAtHeads 2 = .ok (.iload_n 1, 1) := by decide +kernel
theorem dX11_regionsAtHeads_3 : decode cX11_regionsAtHeads 3 = .ok (.aload_n 0, 1) := by decide +kernel
theorem dX11_regionsAtHeads_4 : decode cX11_regionsAtHeads 4 = .ok (.getfield 12, 3) := by decide +kernel
theorem dX11_regionsAtHeads_7 : decode cX11_regionsAtHeads 7 = .ok (.invokevirtual 183, 3) := by decide +kernel
theorem dX11_regionsAtHeads_10 : decode cX11_regionsAtHeads 10 = .ok (.if_icmp .ge 27, 3) := by decide +kernel
theorem dX11_regionsAtHeads_13 : decode cX11_regionsAtHeads 13 = .ok (.aload_n 0, 1) := by decide +kernel
theorem dX11_regionsAtHeads_14 : decode cX11_regionsAtHeads 14 = .ok (.getfield 61, 3) := by decide +kernel
theorem dX11_regionsAtHeads_17 : decode cX11_regionsAtHeads 17 = .ok (.aload_n 0, 1) := by decide +kernel
theorem dX11_regionsAtHeads_18 : decode cX11_regionsAtHeads 18 = .ok (.getfield 12, 3) := by decide +kernel
theorem dX11_regionsAtHeads_21 : decode cX11_regionsAtHeads 21 = .ok (.iload_n 1, 1) := by decide +kernel
theorem dX11_regionsAtHeads_22 : decode cX11_regionsAtHeads 22 = .ok (.invokevirtual 115, 3) := by decide +kernel
theorem dX11_regionsAtHeads_25 : decode cX11_regionsAtHeads 25 = .ok (.invokevirtual 156, 3) := by decide +kernel
theorem dX11_regionsAtHeads_28 : decode cX11_regionsAtHeads 28 = .ok (.invokevirtual 314, 3) := by decide +kernel
theorem dX11_regionsAtHeads_31 : decode cX11_regionsAtHeads 31 = .ok (.iinc 1 1, 3) := by decide +kernel
theorem dX11_regionsAtHeads_34 : decode cX11_regionsAtHeads 34 = .ok (.goto (-32), 3) := by decide +kernel
theorem dX11_regionsAtHeads_37 : decode cX11_regionsAtHeads 37 = .ok (.aload_n 0, 1) := by decide +kernel
theorem dX11_regionsAtHeads_38 : decode cX11_regionsAtHeads 38 = .ok (.getfield 61, 3) := by decide +kernel
theorem dX11_regionsAtHeads_41 : decode cX11_regionsAtHeads 41 = .ok (.invokevirtual 333, 3) := by decide +kernel
theorem dX11_regionsAtHeads_44 : decode cX11_regionsAtHeads 44 = .ok (.ireturn, 1) := by decide +kernel
theorem dX11_checkedSite_0 : decode cX11_checkedSite 0 = .ok (.iload_n 0, 1) := by decide +kernel
theorem dX11_checkedSite_1 : decode cX11_checkedSite 1 = .ok (.iload_n 1, 1) := by decide +kernel
theorem dX11_checkedSite_2 : decode cX11_checkedSite 2 = .ok (.invokestatic 336, 3) := by decide +kernel
theorem dX11_checkedSite_5 : decode cX11_checkedSite 5 = .ok (.istore_n 2, 1) := by decide +kernel
theorem dX11_checkedSite_6 : decode cX11_checkedSite 6 = .ok (.iload_n 2, 1) := by decide +kernel
theorem dX11_checkedSite_7 : decode cX11_checkedSite 7 = .ok (.iconst (-1), 1) := by decide +kernel
theorem dX11_checkedSite_8 : decode cX11_checkedSite 8 = .ok (.if_icmp .ne 14, 3) := by decide +kernel
theorem dX11_checkedSite_11 : decode cX11_checkedSite 11 = .ok (.new 170, 3) := by decide +kernel
theorem dX11_checkedSite_14 : decode cX11_checkedSite 14 = .ok (.dup, 1) := by decide +kernel
theorem dX11_checkedSite_15 : decode cX11_checkedSite 15 = .ok (.ldc_w 339, 3) := by decide +kernel
theorem dX11_checkedSite_18 : decode cX11_checkedSite 18 = .ok (.invokespecial 174, 3) := by decide +kernel
theorem dX11_checkedSite_21 : decode cX11_checkedSite 21 = .ok (.athrow, 1) := by decide +kernel
theorem dX11_checkedSite_22 : decode cX11_checkedSite 22 = .ok (.iload_n 2, 1) := by decide +kernel
theorem dX11_checkedSite_23 : decode cX11_checkedSite 23 = .ok (.ireturn, 1) := by decide +kernel
theorem dX11_checkPath_0 : decode cX11_checkPath 0 = .ok (.iload_n 1, 1) := by decide +kernel
theorem dX11_checkPath_1 : decode cX11_checkPath 1 = .ok (.ifCond .lt 14, 3) := by decide +kernel
theorem dX11_checkPath_4 : decode cX11_checkPath 4 = .ok (.iload_n 1, 1) := by decide +kernel
theorem dX11_checkPath_5 : decode cX11_checkPath 5 = .ok (.aload_n 0, 1) := by decide +kernel
theorem dX11_checkPath_6 : decode cX11_checkPath 6 = .ok (.getfield 12, 3) := by decide +kernel
theorem dX11_checkPath_9 : decode cX11_checkPath 9 = .ok (.invokevirtual 183, 3) := by decide +kernel
theorem dX11_checkPath_12 : decode cX11_checkPath 12 = .ok (.if_icmp .lt 14, 3) := by decide +kernel
theorem dX11_checkPath_15 : decode cX11_checkPath 15 = .ok (.new 170, 3) := by decide +kernel
theorem dX11_checkPath_18 : decode cX11_checkPath 18 = .ok (.dup, 1) := by decide +kernel
theorem dX11_checkPath_19 : decode cX11_checkPath 19 = .ok (.ldc_w 341, 3) := by decide +kernel
theorem dX11_checkPath_22 : decode cX11_checkPath 22 = .ok (.invokespecial 174, 3) := by decide +kernel
theorem dX11_checkPath_25 : decode cX11_checkPath 25 = .ok (.athrow, 1) := by decide +kernel
theorem dX11_checkPath_26 : decode cX11_checkPath 26 = .ok (.return_, 1) := by decide +kernel
theorem dX11_checkPlace_0 : decode cX11_checkPlace 0 = .ok (.aload_n 0, 1) := by decide +kernel
theorem dX11_checkPlace_1 : decode cX11_checkPlace 1 = .ok (.iload_n 1, 1) := by decide +kernel
theorem dX11_checkPlace_2 : decode cX11_checkPlace 2 = .ok (.invokevirtual 106, 3) := by decide +kernel
theorem dX11_checkPlace_5 : decode cX11_checkPlace 5 = .ok (.aload_n 0, 1) := by decide +kernel
theorem dX11_checkPlace_6 : decode cX11_checkPlace 6 = .ok (.getfield 12, 3) := by decide +kernel
theorem dX11_checkPlace_9 : decode cX11_checkPlace 9 = .ok (.iload_n 1, 1) := by decide +kernel
theorem dX11_checkPlace_10 : decode cX11_checkPlace 10 = .ok (.invokevirtual 115, 3) := by decide +kernel
theorem dX11_checkPlace_13 : decode cX11_checkPlace 13 = .ok (.iload_n 2, 1) := by decide +kernel
theorem dX11_checkPlace_14 : decode cX11_checkPlace 14 = .ok (.invokevirtual 343, 3) := by decide +kernel
theorem dX11_checkPlace_17 : decode cX11_checkPlace 17 = .ok (.ifCond .ne 14, 3) := by decide +kernel
theorem dX11_checkPlace_20 : decode cX11_checkPlace 20 = .ok (.new 170, 3) := by decide +kernel
theorem dX11_checkPlace_23 : decode cX11_checkPlace 23 = .ok (.dup, 1) := by decide +kernel
theorem dX11_checkPlace_24 : decode cX11_checkPlace 24 = .ok (.ldc_w 346, 3) := by decide +kernel
theorem dX11_checkPlace_27 : decode cX11_checkPlace 27 = .ok (.invokespecial 174, 3) := by decide +kernel
theorem dX11_checkPlace_30 : decode cX11_checkPlace 30 = .ok (.athrow, 1) := by decide +kernel
theorem dX11_checkPlace_31 : decode cX11_checkPlace 31 = .ok (.return_, 1) := by decide +kernel
theorem dX11_checkTwoPaths_0 : decode cX11_checkTwoPaths 0 = .ok (.aload_n 0, 1) := by decide +kernel
theorem dX11_checkTwoPaths_1 : decode cX11_checkTwoPaths 1 = .ok (.iload_n 1, 1) := by decide +kernel
theorem dX11_checkTwoPaths_2 : decode cX11_checkTwoPaths 2 = .ok (.invokevirtual 106, 3) := by decide +kernel
theorem dX11_checkTwoPaths_5 : decode cX11_checkTwoPaths 5 = .ok (.aload_n 0, 1) := by decide +kernel
theorem dX11_checkTwoPaths_6 : decode cX11_checkTwoPaths 6 = .ok (.iload_n 2, 1) := by decide +kernel
theorem dX11_checkTwoPaths_7 : decode cX11_checkTwoPaths 7 = .ok (.invokevirtual 106, 3) := by decide +kernel
theorem dX11_checkTwoPaths_10 : decode cX11_checkTwoPaths 10 = .ok (.iload_n 1, 1) := by decide +kernel
theorem dX11_checkTwoPaths_11 : decode cX11_checkTwoPaths 11 = .ok (.iload_n 2, 1) := by decide +kernel
theorem dX11_checkTwoPaths_12 : decode cX11_checkTwoPaths 12 = .ok (.if_icmp .ne 14, 3) := by decide +kernel
theorem dX11_checkTwoPaths_15 : decode cX11_checkTwoPaths 15 = .ok (.new 206, 3) := by decide +kernel
theorem dX11_checkTwoPaths_18 : decode cX11_checkTwoPaths 18 = .ok (.dup, 1) := by decide +kernel
theorem dX11_checkTwoPaths_19 : decode cX11_checkTwoPaths 19 = .ok (.ldc_w 348, 3) := by decide +kernel
theorem dX11_checkTwoPaths_22 : decode cX11_checkTwoPaths 22 = .ok (.invokespecial 210, 3) := by decide +kernel
theorem dX11_checkTwoPaths_25 : decode cX11_checkTwoPaths 25 = .ok (.athrow, 1) := by decide +kernel
theorem dX11_checkTwoPaths_26 : decode cX11_checkTwoPaths 26 = .ok (.return_, 1) := by decide +kernel
theorem dX11_checkDirection_0 : decode cX11_checkDirection 0 = .ok (.iload_n 0, 1) := by decide +kernel
theorem dX11_checkDirection_1 : decode cX11_checkDirection 1 = .ok (.iconst 0, 1) := by decide +kernel
theorem dX11_checkDirection_2 : decode cX11_checkDirection 2 = .ok (.iconst 3, 1) := by decide +kernel
theorem dX11_checkDirection_3 : decode cX11_checkDirection 3 = .ok (.invokestatic 186, 3) := by decide +kernel
theorem dX11_checkDirection_6 : decode cX11_checkDirection 6 = .ok (.return_, 1) := by decide +kernel
theorem dX11_checkQuarters_0 : decode cX11_checkQuarters 0 = .ok (.iload_n 0, 1) := by decide +kernel
theorem dX11_checkQuarters_1 : decode cX11_checkQuarters 1 = .ok (.iconst 1, 1) := by decide +kernel
theorem dX11_checkQuarters_2 : decode cX11_checkQuarters 2 = .ok (.iconst 3, 1) := by decide +kernel
theorem dX11_checkQuarters_3 : decode cX11_checkQuarters 3 = .ok (.invokestatic 186, 3) := by decide +kernel
theorem dX11_checkQuarters_6 : decode cX11_checkQuarters 6 = .ok (.return_, 1) := by decide +kernel
theorem dX11_checkRange_0 : decode cX11_checkRange 0 = .ok (.iload_n 0, 1) := by decide +kernel
theorem dX11_checkRange_1 : decode cX11_checkRange 1 = .ok (.iload_n 1, 1) := by decide +kernel
theorem dX11_checkRange_2 : decode cX11_checkRange 2 = .ok (.if_icmp .lt 8, 3) := by decide +kernel
theorem dX11_checkRange_5 : decode cX11_checkRange 5 = .ok (.iload_n 0, 1) := by decide +kernel
theorem dX11_checkRange_6 : decode cX11_checkRange 6 = .ok (.iload_n 2, 1) := by decide +kernel
theorem dX11_checkRange_7 : decode cX11_checkRange 7 = .ok (.if_icmp .le 14, 3) := by decide +kernel
theorem dX11_checkRange_10 : decode cX11_checkRange 10 = .ok (.new 206, 3) := by decide +kernel
theorem dX11_checkRange_13 : decode cX11_checkRange 13 = .ok (.dup, 1) := by decide +kernel
theorem dX11_checkRange_14 : decode cX11_checkRange 14 = .ok (.ldc_w 350, 3) := by decide +kernel
theorem dX11_checkRange_17 : decode cX11_checkRange 17 = .ok (.invokespecial 210, 3) := by decide +kernel
theorem dX11_checkRange_20 : decode cX11_checkRange 20 = .ok (.athrow, 1) := by decide +kernel
theorem dX11_checkRange_21 : decode cX11_checkRange 21 = .ok (.return_, 1) := by decide +kernel
theorem dX12_init_0 : decode cX12_init 0 = .ok (.aload_n 0, 1) := by decide +kernel
theorem dX12_init_1 : decode cX12_init 1 = .ok (.invokespecial 1, 3) := by decide +kernel
theorem dX12_init_4 : decode cX12_init 4 = .ok (.aload_n 0, 1) := by decide +kernel
theorem dX12_init_5 : decode cX12_init 5 = .ok (.sipush 309, 3) := by decide +kernel
theorem dX12_init_8 : decode cX12_init 8 = .ok (.newarray .int, 2) := by decide +kernel
theorem dX12_init_10 : decode cX12_init 10 = .ok (.putfield 7, 3) := by decide +kernel
theorem dX12_init_13 : decode cX12_init 13 = .ok (.aload_n 0, 1) := by decide +kernel
theorem dX12_init_14 : decode cX12_init 14 = .ok (.sipush 1854, 3) := by decide +kernel
theorem dX12_init_17 : decode cX12_init 17 = .ok (.newarray .int, 2) := by decide +kernel
theorem dX12_init_19 : decode cX12_init 19 = .ok (.putfield 13, 3) := by decide +kernel
theorem dX12_init_22 : decode cX12_init 22 = .ok (.aload_n 0, 1) := by decide +kernel
theorem dX12_init_23 : decode cX12_init 23 = .ok (.sipush 618, 3) := by decide +kernel
theorem dX12_init_26 : decode cX12_init 26 = .ok (.newarray .int, 2) := by decide +kernel
theorem dX12_init_28 : decode cX12_init 28 = .ok (.putfield 16, 3) := by decide +kernel
theorem dX12_init_31 : decode cX12_init 31 = .ok (.aload_n 0, 1) := by decide +kernel
theorem dX12_init_32 : decode cX12_init 32 = .ok (.iconst 2, 1) := by decide +kernel
theorem dX12_init_33 : decode cX12_init 33 = .ok (.newarray .int, 2) := by decide +kernel
theorem dX12_init_35 : decode cX12_init 35 = .ok (.putfield 19, 3) := by decide +kernel
theorem dX12_init_38 : decode cX12_init 38 = .ok (.aload_n 0, 1) := by decide +kernel
theorem dX12_init_39 : decode cX12_init 39 = .ok (.bipush 70, 2) := by decide +kernel
theorem dX12_init_41 : decode cX12_init 41 = .ok (.newarray .int, 2) := by decide +kernel
theorem dX12_init_43 : decode cX12_init 43 = .ok (.putfield 22, 3) := by decide +kernel
theorem dX12_init_46 : decode cX12_init 46 = .ok (.aload_n 0, 1) := by decide +kernel
theorem dX12_init_47 : decode cX12_init 47 = .ok (.bipush 100, 2) := by decide +kernel
theorem dX12_init_49 : decode cX12_init 49 = .ok (.newarray .int, 2) := by decide +kernel
theorem dX12_init_51 : decode cX12_init 51 = .ok (.putfield 25, 3) := by decide +kernel
theorem dX12_init_54 : decode cX12_init 54 = .ok (.aload_n 0, 1) := by decide +kernel
theorem dX12_init_55 : decode cX12_init 55 = .ok (.bipush 100, 2) := by decide +kernel
theorem dX12_init_57 : decode cX12_init 57 = .ok (.newarray .int, 2) := by decide +kernel
theorem dX12_init_59 : decode cX12_init 59 = .ok (.putfield 28, 3) := by decide +kernel
theorem dX12_init_62 : decode cX12_init 62 = .ok (.aload_n 0, 1) := by decide +kernel
theorem dX12_init_63 : decode cX12_init 63 = .ok (.bipush 100, 2) := by decide +kernel
theorem dX12_init_65 : decode cX12_init 65 = .ok (.newarray .int, 2) := by decide +kernel
theorem dX12_init_67 : decode cX12_init 67 = .ok (.putfield 31, 3) := by decide +kernel
theorem dX12_init_70 : decode cX12_init 70 = .ok (.aload_n 0, 1) := by decide +kernel
theorem dX12_init_71 : decode cX12_init 71 = .ok (.bipush 100, 2) := by decide +kernel
theorem dX12_init_73 : decode cX12_init 73 = .ok (.newarray .int, 2) := by decide +kernel
theorem dX12_init_75 : decode cX12_init 75 = .ok (.putfield 34, 3) := by decide +kernel
theorem dX12_init_78 : decode cX12_init 78 = .ok (.aload_n 0, 1) := by decide +kernel
theorem dX12_init_79 : decode cX12_init 79 = .ok (.sipush 130, 3) := by decide +kernel
theorem dX12_init_82 : decode cX12_init 82 = .ok (.newarray .int, 2) := by decide +kernel
theorem dX12_init_84 : decode cX12_init 84 = .ok (.putfield 37, 3) := by decide +kernel
theorem dX12_init_87 : decode cX12_init 87 = .ok (.aload_n 0, 1) := by decide +kernel
theorem dX12_init_88 : decode cX12_init 88 = .ok (.bipush 7, 2) := by decide +kernel
theorem dX12_init_90 : decode cX12_init 90 = .ok (.newarray .int, 2) := by decide +kernel
theorem dX12_init_92 : decode cX12_init 92 = .ok (.putfield 40, 3) := by decide +kernel
theorem dX12_init_95 : decode cX12_init 95 = .ok (.aload_n 0, 1) := by decide +kernel
theorem dX12_init_96 : decode cX12_init 96 = .ok (.bipush 7, 2) := by decide +kernel
theorem dX12_init_98 : decode cX12_init 98 = .ok (.newarray .int, 2) := by decide +kernel
theorem dX12_init_100 : decode cX12_init 100 = .ok (.putfield 43, 3) := by decide +kernel
theorem dX12_init_103 : decode cX12_init 103 = .ok (.aload_n 0, 1) := by decide +kernel
theorem dX12_init_104 : decode cX12_init 104 = .ok (.bipush 60, 2) := by decide +kernel
theorem dX12_init_106 : decode cX12_init 106 = .ok (.newarray .int, 2) := by decide +kernel
theorem dX12_init_108 : decode cX12_init 108 = .ok (.putfield 46, 3) := by decide +kernel
theorem dX12_init_111 : decode cX12_init 111 = .ok (.aload_n 0, 1) := by decide +kernel
theorem dX12_init_112 : decode cX12_init 112 = .ok (.bipush 60, 2) := by decide +kernel
theorem dX12_init_114 : decode cX12_init 114 = .ok (.newarray .int, 2) := by decide +kernel
theorem dX12_init_116 : decode cX12_init 116 = .ok (.putfield 49, 3) := by decide +kernel
theorem dX12_init_119 : decode cX12_init 119 = .ok (.aload_n 0, 1) := by decide +kernel
theorem dX12_init_120 : decode cX12_init 120 = .ok (.bipush 60, 2) := by decide +kernel
theorem dX12_init_122 : decode cX12_init 122 = .ok (.newarray .int, 2) := by decide +kernel
theorem dX12_init_124 : decode cX12_init 124 = .ok (.putfield 52, 3) := by decide +kernel
theorem dX12_init_127 : decode cX12_init 127 = .ok (.aload_n 0, 1) := by decide +kernel
theorem dX12_init_128 : decode cX12_init 128 = .ok (.iconst 0, 1) := by decide +kernel
theorem dX12_init_129 : decode cX12_init 129 = .ok (.putfield 55, 3) := by decide +kernel
theorem dX12_init_132 : decode cX12_init 132 = .ok (.return_, 1) := by decide +kernel
theorem dX12_thrown_0 : decode cX12_thrown 0 = .ok (.aload_n 0, 1) := by decide +kernel
theorem dX12_thrown_1 : decode cX12_thrown 1 = .ok (.getfield 59, 3) := by decide +kernel
theorem dX12_thrown_4 : decode cX12_thrown 4 = .ok (.ireturn, 1) := by decide +kernel
theorem dX12_fails_0 : decode cX12_fails 0 = .ok (.aload_n 0, 1) := by decide +kernel
theorem dX12_fails_1 : decode cX12_fails 1 = .ok (.iload_n 1, 1) := by decide +kernel
theorem dX12_fails_2 : decode cX12_fails 2 = .ok (.putfield 59, 3) := by decide +kernel
theorem dX12_fails_5 : decode cX12_fails 5 = .ok (.iconst 0, 1) := by decide +kernel
theorem dX12_fails_6 : decode cX12_fails 6 = .ok (.ireturn, 1) := by decide +kernel
theorem dX12_within_0 : decode cX12_within 0 = .ok (.iload_n 0, 1) := by decide +kernel
theorem dX12_within_1 : decode cX12_within 1 = .ok (.iload_n 1, 1) := by decide +kernel
theorem dX12_within_2 : decode cX12_within 2 = .ok (.if_icmp .lt 12, 3) := by decide +kernel
theorem dX12_within_5 : decode cX12_within 5 = .ok (.iload_n 0, 1) := by decide +kernel
theorem dX12_within_6 : decode cX12_within 6 = .ok (.iload_n 2, 1) := by decide +kernel
theorem dX12_within_7 : decode cX12_within 7 = .ok (.if_icmp .gt 7, 3) := by decide +kernel
theorem dX12_within_10 : decode cX12_within 10 = .ok (.iconst 1, 1) := by decide +kernel
theorem dX12_within_11 : decode cX12_within 11 = .ok (.goto 4, 3) := by decide +kernel
theorem dX12_within_14 : decode cX12_within 14 = .ok (.iconst 0, 1) := by decide +kernel
theorem dX12_within_15 : decode cX12_within 15 = .ok (.ireturn, 1) := by decide +kernel
theorem dX12_isPath_0 : decode cX12_isPath 0 = .ok (.iload_n 1, 1) := by decide +kernel
theorem dX12_isPath_1 : decode cX12_isPath 1 = .ok (.iconst 0, 1) := by decide +kernel
theorem dX12_isPath_2 : decode cX12_isPath 2 = .ok (.aload_n 0, 1) := by decide +kernel
theorem dX12_isPath_3 : decode cX12_isPath 3 = .ok (.getfield 7, 3) := by decide +kernel
theorem dX12_isPath_6 : decode cX12_isPath 6 = .ok (.iconst 0, 1) := by decide +kernel
theorem dX12_isPath_7 : decode cX12_isPath 7 = .ok (.iaload, 1) := by decide +kernel
theorem dX12_isPath_8 : decode cX12_isPath 8 = .ok (.iconst 1, 1) := by decide +kernel
theorem dX12_isPath_9 : decode cX12_isPath 9 = .ok (.isub, 1) := by decide +kernel
theorem dX12_isPath_10 : decode cX12_isPath 10 = .ok (.invokestatic 62, 3) := by decide +kernel
theorem dX12_isPath_13 : decode cX12_isPath 13 = .ok (.ireturn, 1) := by decide +kernel
theorem dX12_lengthOf_0 : decode cX12_lengthOf 0 = .ok (.aload_n 0, 1) := by decide +kernel
theorem dX12_lengthOf_1 : decode cX12_lengthOf 1 = .ok (.getfield 7, 3) := by decide +kernel
theorem dX12_lengthOf_4 : decode cX12_lengthOf 4 = .ok (.iconst 4, 1) := by decide +kernel
theorem dX12_lengthOf_5 : decode cX12_lengthOf 5 = .ok (.iload_n 1, 1) := by decide +kernel
theorem dX12_lengthOf_6 : decode cX12_lengthOf 6 = .ok (.iadd, 1) := by decide +kernel
theorem dX12_lengthOf_7 : decode cX12_lengthOf 7 = .ok (.iaload, 1) := by decide +kernel
theorem dX12_lengthOf_8 : decode cX12_lengthOf 8 = .ok (.ireturn, 1) := by decide +kernel
theorem dX12_siteOf_0 : decode cX12_siteOf 0 = .ok (.aload_n 0, 1) := by decide +kernel
theorem dX12_siteOf_1 : decode cX12_siteOf 1 = .ok (.getfield 7, 3) := by decide +kernel
theorem dX12_siteOf_4 : decode cX12_siteOf 4 = .ok (.bipush 9, 2) := by decide +kernel
theorem dX12_siteOf_6 : decode cX12_siteOf 6 = .ok (.bipush 60, 2) := by decide +kernel
theorem dX12_siteOf_8 : decode cX12_siteOf 8 = .ok (.iload_n 1, 1) := by decide +kernel
theorem dX12_siteOf_9 : decode cX12_siteOf 9 = .ok (.imul, 1) := by decide +kernel
theorem dX12_siteOf_10 : decode cX12_siteOf 10 = .ok (.iadd, 1) := by decide +kernel
theorem dX12_siteOf_11 : decode cX12_siteOf 11 = .ok (.iload_n 2, 1) := by decide +kernel
theorem dX12_siteOf_12 : decode cX12_siteOf 12 = .ok (.iadd, 1) := by decide +kernel
theorem dX12_siteOf_13 : decode cX12_siteOf 13 = .ok (.iaload, 1) := by decide +kernel
theorem dX12_siteOf_14 : decode cX12_siteOf 14 = .ok (.ireturn, 1) := by decide +kernel
theorem dX12_setSite_0 : decode cX12_setSite 0 = .ok (.aload_n 0, 1) := by decide +kernel
theorem dX12_setSite_1 : decode cX12_setSite 1 = .ok (.getfield 7, 3) := by decide +kernel
theorem dX12_setSite_4 : decode cX12_setSite 4 = .ok (.bipush 9, 2) := by decide +kernel
theorem dX12_setSite_6 : decode cX12_setSite 6 = .ok (.bipush 60, 2) := by decide +kernel
theorem dX12_setSite_8 : decode cX12_setSite 8 = .ok (.iload_n 1, 1) := by decide +kernel
theorem dX12_setSite_9 : decode cX12_setSite 9 = .ok (.imul, 1) := by decide +kernel
theorem dX12_setSite_10 : decode cX12_setSite 10 = .ok (.iadd, 1) := by decide +kernel
theorem dX12_setSite_11 : decode cX12_setSite 11 = .ok (.iload_n 2, 1) := by decide +kernel
theorem dX12_setSite_12 : decode cX12_setSite 12 = .ok (.iadd, 1) := by decide +kernel
theorem dX12_setSite_13 : decode cX12_setSite 13 = .ok (.iload_n 3, 1) := by decide +kernel
theorem dX12_setSite_14 : decode cX12_setSite 14 = .ok (.iastore, 1) := by decide +kernel
theorem dX12_setSite_15 : decode cX12_setSite 15 = .ok (.return_, 1) := by decide +kernel
theorem dX12_isSite_0 : decode cX12_isSite 0 = .ok (.aload_n 0, 1) := by decide +kernel
theorem dX12_isSite_1 : decode cX12_isSite 1 = .ok (.iload_n 1, 1) := by decide +kernel
theorem dX12_isSite_2 : decode cX12_isSite 2 = .ok (.invokevirtual 66, 3) := by decide +kernel
theorem dX12_isSite_5 : decode cX12_isSite 5 = .ok (.ifCond .eq 22, 3) := by decide +kernel
theorem dX12_isSite_8 : decode cX12_isSite 8 = .ok (.iload_n 2, 1) := by decide +kernel
theorem dX12_isSite_9 : decode cX12_isSite 9 = .ok (.iconst 0, 1) := by decide +kernel
theorem dX12_isSite_10 : decode cX12_isSite 10 = .ok (.aload_n 0, 1) := by decide +kernel
theorem dX12_isSite_11 : decode cX12_isSite 11 = .ok (.iload_n 1, 1) := by decide +kernel
theorem dX12_isSite_12 : decode cX12_isSite 12 = .ok (.invokevirtual 70, 3) := by decide +kernel
theorem dX12_isSite_15 : decode cX12_isSite 15 = .ok (.iconst 1, 1) := by decide +kernel
theorem dX12_isSite_16 : decode cX12_isSite 16 = .ok (.isub, 1) := by decide +kernel
theorem dX12_isSite_17 : decode cX12_isSite 17 = .ok (.invokestatic 62, 3) := by decide +kernel
theorem dX12_isSite_20 : decode cX12_isSite 20 = .ok (.ifCond .eq 7, 3) := by decide +kernel
theorem dX12_isSite_23 : decode cX12_isSite 23 = .ok (.iconst 1, 1) := by decide +kernel
theorem dX12_isSite_24 : decode cX12_isSite 24 = .ok (.goto 4, 3) := by decide +kernel
theorem dX12_isSite_27 : decode cX12_isSite 27 = .ok (.iconst 0, 1) := by decide +kernel
theorem dX12_isSite_28 : decode cX12_isSite 28 = .ok (.ireturn, 1) := by decide +kernel
theorem dX12_headOf_0 : decode cX12_headOf 0 = .ok (.aload_n 0, 1) := by decide +kernel
theorem dX12_headOf_1 : decode cX12_headOf 1 = .ok (.iload_n 1, 1) := by decide +kernel
theorem dX12_headOf_2 : decode cX12_headOf 2 = .ok (.aload_n 0, 1) := by decide +kernel
theorem dX12_headOf_3 : decode cX12_headOf 3 = .ok (.iload_n 1, 1) := by decide +kernel
theorem dX12_headOf_4 : decode cX12_headOf 4 = .ok (.invokevirtual 70, 3) := by decide +kernel
theorem dX12_headOf_7 : decode cX12_headOf 7 = .ok (.iconst 1, 1) := by decide +kernel
theorem dX12_headOf_8 : decode cX12_headOf 8 = .ok (.isub, 1) := by decide +kernel
theorem dX12_headOf_9 : decode cX12_headOf 9 = .ok (.invokevirtual 74, 3) := by decide +kernel
theorem dX12_headOf_12 : decode cX12_headOf 12 = .ok (.ireturn, 1) := by decide +kernel
theorem dX12_save_0 : decode cX12_save 0 = .ok (.aload_n 0, 1) := by decide +kernel
theorem dX12_save_1 : decode cX12_save 1 = .ok (.getfield 55, 3) := by decide +kernel
theorem dX12_save_4 : decode cX12_save 4 = .ok (.bipush 6, 2) := by decide +kernel
theorem dX12_save_6 : decode cX12_save 6 = .ok (.if_icmp .ne 44, 3) := by decide +kernel
theorem dX12_save_9 : decode cX12_save 9 = .ok (.iconst 0, 1) := by decide +kernel
theorem dX12_save_10 : decode cX12_save 10 = .ok (.istore_n 1, 1) := by decide +kernel
theorem dX12_save_11 : decode cX12_save 11 = .ok (.iload_n 1, 1) := by decide +kernel
theorem dX12_save_12 : decode cX12_save 12 = .ok (.sipush 1545, 3) := by decide +kernel
theorem dX12_save_15 : decode cX12_save 15 = .ok (.if_icmp .ge 25, 3) := by decide +kernel
theorem dX12_save_18 : decode cX12_save 18 = .ok (.aload_n 0, 1) := by decide +kernel
theorem dX12_save_19 : decode cX12_save 19 = .ok (.getfield 13, 3) := by decide +kernel
theorem dX12_save_22 : decode cX12_save 22 = .ok (.iload_n 1, 1) := by decide +kernel
theorem dX12_save_23 : decode cX12_save 23 = .ok (.aload_n 0, 1) := by decide +kernel
theorem dX12_save_24 : decode cX12_save 24 = .ok (.getfield 13, 3) := by decide +kernel
theorem dX12_save_27 : decode cX12_save 27 = .ok (.iload_n 1, 1) := by decide +kernel
theorem dX12_save_28 : decode cX12_save 28 = .ok (.sipush 309, 3) := by decide +kernel
theorem dX12_save_31 : decode cX12_save 31 = .ok (.iadd, 1) := by decide +kernel
theorem dX12_save_32 : decode cX12_save 32 = .ok (.iaload, 1) := by decide +kernel
theorem dX12_save_33 : decode cX12_save 33 = .ok (.iastore, 1) := by decide +kernel
theorem dX12_save_34 : decode cX12_save 34 = .ok (.iinc 1 1, 3) := by decide +kernel
theorem dX12_save_37 : decode cX12_save 37 = .ok (.goto (-26), 3) := by decide +kernel
theorem dX12_save_40 : decode cX12_save 40 = .ok (.aload_n 0, 1) := by decide +kernel
theorem dX12_save_41 : decode cX12_save 41 = .ok (.dup, 1) := by decide +kernel
theorem dX12_save_42 : decode cX12_save 42 = .ok (.getfield 55, 3) := by decide +kernel
theorem dX12_save_45 : decode cX12_save 45 = .ok (.iconst 1, 1) := by decide +kernel
theorem dX12_save_46 : decode cX12_save 46 = .ok (.isub, 1) := by decide +kernel
theorem dX12_save_47 : decode cX12_save 47 = .ok (.putfield 55, 3) := by decide +kernel
theorem dX12_save_50 : decode cX12_save 50 = .ok (.iconst 0, 1) := by decide +kernel
theorem dX12_save_51 : decode cX12_save 51 = .ok (.istore_n 1, 1) := by decide +kernel
theorem dX12_save_52 : decode cX12_save 52 = .ok (.iload_n 1, 1) := by decide +kernel
theorem dX12_save_53 : decode cX12_save 53 = .ok (.sipush 309, 3) := by decide +kernel
theorem dX12_save_56 : decode cX12_save 56 = .ok (.if_icmp .ge 30, 3) := by decide +kernel
theorem dX12_save_59 : decode cX12_save 59 = .ok (.aload_n 0, 1) := by decide +kernel
theorem dX12_save_60 : decode cX12_save 60 = .ok (.getfield 13, 3) := by decide +kernel
theorem dX12_save_63 : decode cX12_save 63 = .ok (.aload_n 0, 1) := by decide +kernel
theorem dX12_save_64 : decode cX12_save 64 = .ok (.getfield 55, 3) := by decide +kernel
theorem dX12_save_67 : decode cX12_save 67 = .ok (.sipush 309, 3) := by decide +kernel
theorem dX12_save_70 : decode cX12_save 70 = .ok (.imul, 1) := by decide +kernel
theorem dX12_save_71 : decode cX12_save 71 = .ok (.iload_n 1, 1) := by decide +kernel
theorem dX12_save_72 : decode cX12_save 72 = .ok (.iadd, 1) := by decide +kernel
theorem dX12_save_73 : decode cX12_save 73 = .ok (.aload_n 0, 1) := by decide +kernel
theorem dX12_save_74 : decode cX12_save 74 = .ok (.getfield 7, 3) := by decide +kernel
theorem dX12_save_77 : decode cX12_save 77 = .ok (.iload_n 1, 1) := by decide +kernel
theorem dX12_save_78 : decode cX12_save 78 = .ok (.iaload, 1) := by decide +kernel
theorem dX12_save_79 : decode cX12_save 79 = .ok (.iastore, 1) := by decide +kernel
theorem dX12_save_80 : decode cX12_save 80 = .ok (.iinc 1 1, 3) := by decide +kernel
theorem dX12_save_83 : decode cX12_save 83 = .ok (.goto (-31), 3) := by decide +kernel
theorem dX12_save_86 : decode cX12_save 86 = .ok (.aload_n 0, 1) := by decide +kernel
theorem dX12_save_87 : decode cX12_save 87 = .ok (.dup, 1) := by decide +kernel
theorem dX12_save_88 : decode cX12_save 88 = .ok (.getfield 55, 3) := by decide +kernel
theorem dX12_save_91 : decode cX12_save 91 = .ok (.iconst 1, 1) := by decide +kernel
theorem dX12_save_92 : decode cX12_save 92 = .ok (.iadd, 1) := by decide +kernel
theorem dX12_save_93 : decode cX12_save 93 = .ok (.putfield 55, 3) := by decide +kernel
theorem dX12_save_96 : decode cX12_save 96 = .ok (.return_, 1) := by decide +kernel
theorem dX12_undo_0 : decode cX12_undo 0 = .ok (.aload_n 0, 1) := by decide +kernel
theorem dX12_undo_1 : decode cX12_undo 1 = .ok (.iconst 0, 1) := by decide +kernel
theorem dX12_undo_2 : decode cX12_undo 2 = .ok (.putfield 59, 3) := by decide +kernel
theorem dX12_undo_5 : decode cX12_undo 5 = .ok (.aload_n 0, 1) := by decide +kernel
theorem dX12_undo_6 : decode cX12_undo 6 = .ok (.getfield 55, 3) := by decide +kernel
theorem dX12_undo_9 : decode cX12_undo 9 = .ok (.ifCond .ne 9, 3) := by decide +kernel
theorem dX12_undo_12 : decode cX12_undo 12 = .ok (.aload_n 0, 1) := by decide +kernel
theorem dX12_undo_13 : decode cX12_undo 13 = .ok (.iconst 1, 1) := by decide +kernel
theorem dX12_undo_14 : decode cX12_undo 14 = .ok (.invokevirtual 78, 3) := by decide +kernel
theorem dX12_undo_17 : decode cX12_undo 17 = .ok (.ireturn, 1) := by decide +kernel
theorem dX12_undo_18 : decode cX12_undo 18 = .ok (.aload_n 0, 1) := by decide +kernel
theorem dX12_undo_19 : decode cX12_undo 19 = .ok (.dup, 1) := by decide +kernel
theorem dX12_undo_20 : decode cX12_undo 20 = .ok (.getfield 55, 3) := by decide +kernel
theorem dX12_undo_23 : decode cX12_undo 23 = .ok (.iconst 1, 1) := by decide +kernel
theorem dX12_undo_24 : decode cX12_undo 24 = .ok (.isub, 1) := by decide +kernel
theorem dX12_undo_25 : decode cX12_undo 25 = .ok (.putfield 55, 3) := by decide +kernel
theorem dX12_undo_28 : decode cX12_undo 28 = .ok (.iconst 0, 1) := by decide +kernel
theorem dX12_undo_29 : decode cX12_undo 29 = .ok (.istore_n 1, 1) := by decide +kernel
theorem dX12_undo_30 : decode cX12_undo 30 = .ok (.iload_n 1, 1) := by decide +kernel
theorem dX12_undo_31 : decode cX12_undo 31 = .ok (.sipush 309, 3) := by decide +kernel
theorem dX12_undo_34 : decode cX12_undo 34 = .ok (.if_icmp .ge 30, 3) := by decide +kernel
theorem dX12_undo_37 : decode cX12_undo 37 = .ok (.aload_n 0, 1) := by decide +kernel
theorem dX12_undo_38 : decode cX12_undo 38 = .ok (.getfield 7, 3) := by decide +kernel
theorem dX12_undo_41 : decode cX12_undo 41 = .ok (.iload_n 1, 1) := by decide +kernel
theorem dX12_undo_42 : decode cX12_undo 42 = .ok (.aload_n 0, 1) := by decide +kernel
theorem dX12_undo_43 : decode cX12_undo 43 = .ok (.getfield 13, 3) := by decide +kernel
theorem dX12_undo_46 : decode cX12_undo 46 = .ok (.aload_n 0, 1) := by decide +kernel
theorem dX12_undo_47 : decode cX12_undo 47 = .ok (.getfield 55, 3) := by decide +kernel
theorem dX12_undo_50 : decode cX12_undo 50 = .ok (.sipush 309, 3) := by decide +kernel
theorem dX12_undo_53 : decode cX12_undo 53 = .ok (.imul, 1) := by decide +kernel
theorem dX12_undo_54 : decode cX12_undo 54 = .ok (.iload_n 1, 1) := by decide +kernel
theorem dX12_undo_55 : decode cX12_undo 55 = .ok (.iadd, 1) := by decide +kernel
theorem dX12_undo_56 : decode cX12_undo 56 = .ok (.iaload, 1) := by decide +kernel
theorem dX12_undo_57 : decode cX12_undo 57 = .ok (.iastore, 1) := by decide +kernel
theorem dX12_undo_58 : decode cX12_undo 58 = .ok (.iinc 1 1, 3) := by decide +kernel
theorem dX12_undo_61 : decode cX12_undo 61 = .ok (.goto (-31), 3) := by decide +kernel
theorem dX12_undo_64 : decode cX12_undo 64 = .ok (.aload_n 0, 1) := by decide +kernel
theorem dX12_undo_65 : decode cX12_undo 65 = .ok (.getfield 55, 3) := by decide +kernel
theorem dX12_undo_68 : decode cX12_undo 68 = .ok (.ireturn, 1) := by decide +kernel
theorem dX12_keep_0 : decode cX12_keep 0 = .ok (.aload_n 0, 1) := by decide +kernel
theorem dX12_keep_1 : decode cX12_keep 1 = .ok (.iconst 0, 1) := by decide +kernel
theorem dX12_keep_2 : decode cX12_keep 2 = .ok (.putfield 59, 3) := by decide +kernel
theorem dX12_keep_5 : decode cX12_keep 5 = .ok (.iload_n 1, 1) := by decide +kernel
theorem dX12_keep_6 : decode cX12_keep 6 = .ok (.iconst 0, 1) := by decide +kernel
theorem dX12_keep_7 : decode cX12_keep 7 = .ok (.iconst 1, 1) := by decide +kernel
theorem dX12_keep_8 : decode cX12_keep 8 = .ok (.invokestatic 62, 3) := by decide +kernel
theorem dX12_keep_11 : decode cX12_keep 11 = .ok (.ifCond .ne 9, 3) := by decide +kernel
theorem dX12_keep_14 : decode cX12_keep 14 = .ok (.aload_n 0, 1) := by decide +kernel
theorem dX12_keep_15 : decode cX12_keep 15 = .ok (.iconst 1, 1) := by decide +kernel
theorem dX12_keep_16 : decode cX12_keep 16 = .ok (.invokevirtual 78, 3) := by decide +kernel
theorem dX12_keep_19 : decode cX12_keep 19 = .ok (.ireturn, 1) := by decide +kernel
theorem dX12_keep_20 : decode cX12_keep 20 = .ok (.iconst 0, 1) := by decide +kernel
theorem dX12_keep_21 : decode cX12_keep 21 = .ok (.istore_n 2, 1) := by decide +kernel
theorem dX12_keep_22 : decode cX12_keep 22 = .ok (.iload_n 2, 1) := by decide +kernel
theorem dX12_keep_23 : decode cX12_keep 23 = .ok (.sipush 309, 3) := by decide +kernel
theorem dX12_keep_26 : decode cX12_keep 26 = .ok (.if_icmp .ge 27, 3) := by decide +kernel
theorem dX12_keep_29 : decode cX12_keep 29 = .ok (.aload_n 0, 1) := by decide +kernel
theorem dX12_keep_30 : decode cX12_keep 30 = .ok (.getfield 16, 3) := by decide +kernel
theorem dX12_keep_33 : decode cX12_keep 33 = .ok (.sipush 309, 3) := by decide +kernel
theorem dX12_keep_36 : decode cX12_keep 36 = .ok (.iload_n 1, 1) := by decide +kernel
theorem dX12_keep_37 : decode cX12_keep 37 = .ok (.imul, 1) := by decide +kernel
theorem dX12_keep_38 : decode cX12_keep 38 = .ok (.iload_n 2, 1) := by decide +kernel
theorem dX12_keep_39 : decode cX12_keep 39 = .ok (.iadd, 1) := by decide +kernel
theorem dX12_keep_40 : decode cX12_keep 40 = .ok (.aload_n 0, 1) := by decide +kernel
theorem dX12_keep_41 : decode cX12_keep 41 = .ok (.getfield 7, 3) := by decide +kernel
theorem dX12_keep_44 : decode cX12_keep 44 = .ok (.iload_n 2, 1) := by decide +kernel
theorem dX12_keep_45 : decode cX12_keep 45 = .ok (.iaload, 1) := by decide +kernel
theorem dX12_keep_46 : decode cX12_keep 46 = .ok (.iastore, 1) := by decide +kernel
theorem dX12_keep_47 : decode cX12_keep 47 = .ok (.iinc 2 1, 3) := by decide +kernel
theorem dX12_keep_50 : decode cX12_keep 50 = .ok (.goto (-28), 3) := by decide +kernel
theorem dX12_keep_53 : decode cX12_keep 53 = .ok (.aload_n 0, 1) := by decide +kernel
theorem dX12_keep_54 : decode cX12_keep 54 = .ok (.getfield 19, 3) := by decide +kernel
theorem dX12_keep_57 : decode cX12_keep 57 = .ok (.iload_n 1, 1) := by decide +kernel
theorem dX12_keep_58 : decode cX12_keep 58 = .ok (.iconst 1, 1) := by decide +kernel
theorem dX12_keep_59 : decode cX12_keep 59 = .ok (.iastore, 1) := by decide +kernel
theorem dX12_keep_60 : decode cX12_keep 60 = .ok (.aload_n 0, 1) := by decide +kernel
theorem dX12_keep_61 : decode cX12_keep 61 = .ok (.getfield 7, 3) := by decide +kernel
theorem dX12_keep_64 : decode cX12_keep 64 = .ok (.iconst 0, 1) := by decide +kernel
theorem dX12_keep_65 : decode cX12_keep 65 = .ok (.iaload, 1) := by decide +kernel
theorem dX12_keep_66 : decode cX12_keep 66 = .ok (.ireturn, 1) := by decide +kernel
theorem dX12_goBack_0 : decode cX12_goBack 0 = .ok (.aload_n 0, 1) := by decide +kernel
theorem dX12_goBack_1 : decode cX12_goBack 1 = .ok (.iconst 0, 1) := by decide +kernel
theorem dX12_goBack_2 : decode cX12_goBack 2 = .ok (.putfield 59, 3) := by decide +kernel
theorem dX12_goBack_5 : decode cX12_goBack 5 = .ok (.iload_n 1, 1) := by decide +kernel
theorem dX12_goBack_6 : decode cX12_goBack 6 = .ok (.iconst 0, 1) := by decide +kernel
theorem dX12_goBack_7 : decode cX12_goBack 7 = .ok (.iconst 1, 1) := by decide +kernel
theorem dX12_goBack_8 : decode cX12_goBack 8 = .ok (.invokestatic 62, 3) := by decide +kernel
theorem dX12_goBack_11 : decode cX12_goBack 11 = .ok (.ifCond .ne 9, 3) := by decide +kernel
theorem dX12_goBack_14 : decode cX12_goBack 14 = .ok (.aload_n 0, 1) := by decide +kernel
theorem dX12_goBack_15 : decode cX12_goBack 15 = .ok (.iconst 1, 1) := by decide +kernel
theorem dX12_goBack_16 : decode cX12_goBack 16 = .ok (.invokevirtual 78, 3) := by decide +kernel
theorem dX12_goBack_19 : decode cX12_goBack 19 = .ok (.ireturn, 1) := by decide +kernel
theorem dX12_goBack_20 : decode cX12_goBack 20 = .ok (.aload_n 0, 1) := by decide +kernel
theorem dX12_goBack_21 : decode cX12_goBack 21 = .ok (.getfield 19, 3) := by decide +kernel
theorem dX12_goBack_24 : decode cX12_goBack 24 = .ok (.iload_n 1, 1) := by decide +kernel
theorem dX12_goBack_25 : decode cX12_goBack 25 = .ok (.iaload, 1) := by decide +kernel
theorem dX12_goBack_26 : decode cX12_goBack 26 = .ok (.ifCond .ne 9, 3) := by decide +kernel
theorem dX12_goBack_29 : decode cX12_goBack 29 = .ok (.aload_n 0, 1) := by decide +kernel
theorem dX12_goBack_30 : decode cX12_goBack 30 = .ok (.iconst 2, 1) := by decide +kernel
theorem dX12_goBack_31 : decode cX12_goBack 31 = .ok (.invokevirtual 78, 3) := by decide +kernel
theorem dX12_goBack_34 : decode cX12_goBack 34 = .ok (.ireturn, 1) := by decide +kernel
theorem dX12_goBack_35 : decode cX12_goBack 35 = .ok (.aload_n 0, 1) := by decide +kernel
theorem dX12_goBack_36 : decode cX12_goBack 36 = .ok (.invokevirtual 81, 3) := by decide +kernel
theorem dX12_goBack_39 : decode cX12_goBack 39 = .ok (.iconst 0, 1) := by decide +kernel
theorem dX12_goBack_40 : decode cX12_goBack 40 = .ok (.istore_n 2, 1) := by decide +kernel
theorem dX12_goBack_41 : decode cX12_goBack 41 = .ok (.iload_n 2, 1) := by decide +kernel
theorem dX12_goBack_42 : decode cX12_goBack 42 = .ok (.sipush 309, 3) := by decide +kernel
theorem dX12_goBack_45 : decode cX12_goBack 45 = .ok (.if_icmp .ge 27, 3) := by decide +kernel
theorem dX12_goBack_48 : decode cX12_goBack 48 = .ok (.aload_n 0, 1) := by decide +kernel
theorem dX12_goBack_49 : decode cX12_goBack 49 = .ok (.getfield 7, 3) := by decide +kernel
theorem dX12_goBack_52 : decode cX12_goBack 52 = .ok (.iload_n 2, 1) := by decide +kernel
theorem dX12_goBack_53 : decode cX12_goBack 53 = .ok (.aload_n 0, 1) := by decide +kernel
theorem dX12_goBack_54 : decode cX12_goBack 54 = .ok (.getfield 16, 3) := by decide +kernel
theorem dX12_goBack_57 : decode cX12_goBack 57 = .ok (.sipush 309, 3) := by decide +kernel
theorem dX12_goBack_60 : decode cX12_goBack 60 = .ok (.iload_n 1, 1) := by decide +kernel
theorem dX12_goBack_61 : decode cX12_goBack 61 = .ok (.imul, 1) := by decide +kernel
theorem dX12_goBack_62 : decode cX12_goBack 62 = .ok (.iload_n 2, 1) := by decide +kernel
theorem dX12_goBack_63 : decode cX12_goBack 63 = .ok (.iadd, 1) := by decide +kernel
theorem dX12_goBack_64 : decode cX12_goBack 64 = .ok (.iaload, 1) := by decide +kernel
theorem dX12_goBack_65 : decode cX12_goBack 65 = .ok (.iastore, 1) := by decide +kernel
theorem dX12_goBack_66 : decode cX12_goBack 66 = .ok (.iinc 2 1, 3) := by decide +kernel
theorem dX12_goBack_69 : decode cX12_goBack 69 = .ok (.goto (-28), 3) := by decide +kernel
theorem dX12_goBack_72 : decode cX12_goBack 72 = .ok (.aload_n 0, 1) := by decide +kernel
theorem dX12_goBack_73 : decode cX12_goBack 73 = .ok (.getfield 7, 3) := by decide +kernel
theorem dX12_goBack_76 : decode cX12_goBack 76 = .ok (.iconst 0, 1) := by decide +kernel
theorem dX12_goBack_77 : decode cX12_goBack 77 = .ok (.iaload, 1) := by decide +kernel
theorem dX12_goBack_78 : decode cX12_goBack 78 = .ok (.ireturn, 1) := by decide +kernel
theorem dX12_next_0 : decode cX12_next 0 = .ok (.iload_n 0, 1) := by decide +kernel
theorem dX12_next_1 : decode cX12_next 1 = .ok (.bipush 10, 2) := by decide +kernel
theorem dX12_next_3 : decode cX12_next 3 = .ok (.irem, 1) := by decide +kernel
theorem dX12_next_4 : decode cX12_next 4 = .ok (.iload_n 1, 1) := by decide +kernel
theorem dX12_next_5 : decode cX12_next 5 = .ok (.iconst 1, 1) := by decide +kernel
theorem dX12_next_6 : decode cX12_next 6 = .ok (.if_icmp .ne 7, 3) := by decide +kernel
theorem dX12_next_9 : decode cX12_next 9 = .ok (.iconst 1, 1) := by decide +kernel
theorem dX12_next_10 : decode cX12_next 10 = .ok (.goto 13, 3) := by decide +kernel
theorem dX12_next_13 : decode cX12_next 13 = .ok (.iload_n 1, 1) := by decide +kernel
theorem dX12_next_14 : decode cX12_next 14 = .ok (.iconst 3, 1) := by decide +kernel
theorem dX12_next_15 : decode cX12_next 15 = .ok (.if_icmp .ne 7, 3) := by decide +kernel
theorem dX12_next_18 : decode cX12_next 18 = .ok (.iconst (-1), 1) := by decide +kernel
theorem dX12_next_19 : decode cX12_next 19 = .ok (.goto 4, 3) := by decide +kernel
theorem dX12_next_22 : decode cX12_next 22 = .ok (.iconst 0, 1) := by decide +kernel
theorem dX12_next_23 : decode cX12_next 23 = .ok (.iadd, 1) := by decide +kernel
theorem dX12_next_24 : decode cX12_next 24 = .ok (.istore_n 2, 1) := by decide +kernel
theorem dX12_next_25 : decode cX12_next 25 = .ok (.iload_n 0, 1) := by decide +kernel
theorem dX12_next_26 : decode cX12_next 26 = .ok (.bipush 10, 2) := by decide +kernel
theorem dX12_next_28 : decode cX12_next 28 = .ok (.idiv, 1) := by decide +kernel
theorem dX12_next_29 : decode cX12_next 29 = .ok (.iload_n 1, 1) := by decide +kernel
theorem dX12_next_30 : decode cX12_next 30 = .ok (.ifCond .ne 7, 3) := by decide +kernel
theorem dX12_next_33 : decode cX12_next 33 = .ok (.iconst (-1), 1) := by decide +kernel
theorem dX12_next_34 : decode cX12_next 34 = .ok (.goto 13, 3) := by decide +kernel
theorem dX12_next_37 : decode cX12_next 37 = .ok (.iload_n 1, 1) := by decide +kernel
theorem dX12_next_38 : decode cX12_next 38 = .ok (.iconst 2, 1) := by decide +kernel
theorem dX12_next_39 : decode cX12_next 39 = .ok (.if_icmp .ne 7, 3) := by decide +kernel
theorem dX12_next_42 : decode cX12_next 42 = .ok (.iconst 1, 1) := by decide +kernel
theorem dX12_next_43 : decode cX12_next 43 = .ok (.goto 4, 3) := by decide +kernel
theorem dX12_next_46 : decode cX12_next 46 = .ok (.iconst 0, 1) := by decide +kernel
theorem dX12_next_47 : decode cX12_next 47 = .ok (.iadd, 1) := by decide +kernel
theorem dX12_next_48 : decode cX12_next 48 = .ok (.istore_n 3, 1) := by decide +kernel
theorem dX12_next_49 : decode cX12_next 49 = .ok (.iload_n 2, 1) := by decide +kernel
theorem dX12_next_50 : decode cX12_next 50 = .ok (.iconst 0, 1) := by decide +kernel
theorem dX12_next_51 : decode cX12_next 51 = .ok (.bipush 9, 2) := by decide +kernel
theorem dX12_next_53 : decode cX12_next 53 = .ok (.invokestatic 62, 3) := by decide +kernel
theorem dX12_next_56 : decode cX12_next 56 = .ok (.ifCond .eq 22, 3) := by decide +kernel
theorem dX12_next_59 : decode cX12_next 59 = .ok (.iload_n 3, 1) := by decide +kernel
theorem dX12_next_60 : decode cX12_next 60 = .ok (.iconst 0, 1) := by decide +kernel
theorem dX12_next_61 : decode cX12_next 61 = .ok (.bipush 9, 2) := by decide +kernel
theorem dX12_next_63 : decode cX12_next 63 = .ok (.invokestatic 62, 3) := by decide +kernel
theorem dX12_next_66 : decode cX12_next 66 = .ok (.ifCond .eq 12, 3) := by decide +kernel
theorem dX12_next_69 : decode cX12_next 69 = .ok (.bipush 10, 2) := by decide +kernel
theorem dX12_next_71 : decode cX12_next 71 = .ok (.iload_n 3, 1) := by decide +kernel
theorem dX12_next_72 : decode cX12_next 72 = .ok (.imul, 1) := by decide +kernel
theorem dX12_next_73 : decode cX12_next 73 = .ok (.iload_n 2, 1) := by decide +kernel
theorem dX12_next_74 : decode cX12_next 74 = .ok (.iadd, 1) := by decide +kernel
theorem dX12_next_75 : decode cX12_next 75 = .ok (.goto 4, 3) := by decide +kernel
theorem dX12_next_78 : decode cX12_next 78 = .ok (.iconst (-1), 1) := by decide +kernel
theorem dX12_next_79 : decode cX12_next 79 = .ok (.ireturn, 1) := by decide +kernel
theorem dX12_direction_0 : decode cX12_direction 0 = .ok (.iconst 0, 1) := by decide +kernel
theorem dX12_direction_1 : decode cX12_direction 1 = .ok (.istore_n 2, 1) := by decide +kernel
theorem dX12_direction_2 : decode cX12_direction 2 = .ok (.iload_n 2, 1) := by decide +kernel
theorem dX12_direction_3 : decode cX12_direction 3 = .ok (.iconst 4, 1) := by decide +kernel
theorem dX12_direction_4 : decode cX12_direction 4 = .ok (.if_icmp .ge 20, 3) := by decide +kernel
theorem dX12_direction_7 : decode cX12_direction 7 = .ok (.iload_n 0, 1) := by decide +kernel
theorem dX12_direction_8 : decode cX12_direction 8 = .ok (.iload_n 2, 1) := by decide +kernel
theorem dX12_direction_9 : decode cX12_direction 9 = .ok (.invokestatic 84, 3) := by decide +kernel
theorem dX12_direction_12 : decode cX12_direction 12 = .ok (.iload_n 1, 1) := by decide +kernel
theorem dX12_direction_13 : decode cX12_direction 13 = .ok (.if_icmp .ne 5, 3) := by decide +kernel
theorem dX12_direction_16 : decode cX12_direction 16 = .ok (.iload_n 2, 1) := by decide +kernel
theorem dX12_direction_17 : decode cX12_direction 17 = .ok (.ireturn, 1) := by decide +kernel
theorem dX12_direction_18 : decode cX12_direction 18 = .ok (.iinc 2 1, 3) := by decide +kernel
theorem dX12_direction_21 : decode cX12_direction 21 = .ok (.goto (-19), 3) := by decide +kernel
theorem dX12_direction_24 : decode cX12_direction 24 = .ok (.iconst (-1), 1) := by decide +kernel
theorem dX12_direction_25 : decode cX12_direction 25 = .ok (.ireturn, 1) := by decide +kernel
theorem dX12_lay_0 : decode cX12_lay 0 = .ok (.iconst 0, 1) := by decide +kernel
theorem dX12_lay_1 : decode cX12_lay 1 = .ok (.istore_n 1, 1) := by decide +kernel
theorem dX12_lay_2 : decode cX12_lay 2 = .ok (.iload_n 1, 1) := by decide +kernel
theorem dX12_lay_3 : decode cX12_lay 3 = .ok (.bipush 100, 2) := by decide +kernel
theorem dX12_lay_5 : decode cX12_lay 5 = .ok (.if_icmp .ge 23, 3) := by decide +kernel
theorem dX12_lay_8 : decode cX12_lay 8 = .ok (.aload_n 0, 1) := by decide +kernel
theorem dX12_lay_9 : decode cX12_lay 9 = .ok (.getfield 25, 3) := by decide +kernel
theorem dX12_lay_12 : decode cX12_lay 12 = .ok (.iload_n 1, 1) := by decide +kernel
theorem dX12_lay_13 : decode cX12_lay 13 = .ok (.iconst (-1), 1) := by decide +kernel
theorem dX12_lay_14 : decode cX12_lay 14 = .ok (.iastore, 1) := by decide +kernel
theorem dX12_lay_15 : decode cX12_lay 15 = .ok (.aload_n 0, 1) := by decide +kernel
theorem dX12_lay_16 : decode cX12_lay 16 = .ok (.getfield 28, 3) := by decide +kernel
theorem dX12_lay_19 : decode cX12_lay 19 = .ok (.iload_n 1, 1) := by decide +kernel
theorem dX12_lay_20 : decode cX12_lay 20 = .ok (.iconst (-1), 1) := by decide +kernel
theorem dX12_lay_21 : decode cX12_lay 21 = .ok (.iastore, 1) := by decide +kernel
theorem dX12_lay_22 : decode cX12_lay 22 = .ok (.iinc 1 1, 3) := by decide +kernel
theorem dX12_lay_25 : decode cX12_lay 25 = .ok (.goto (-23), 3) := by decide +kernel
theorem dX12_lay_28 : decode cX12_lay 28 = .ok (.iconst 0, 1) := by decide +kernel
theorem dX12_lay_29 : decode cX12_lay 29 = .ok (.istore_n 1, 1) := by decide +kernel
theorem dX12_lay_30 : decode cX12_lay 30 = .ok (.iload_n 1, 1) := by decide +kernel
theorem dX12_lay_31 : decode cX12_lay 31 = .ok (.aload_n 0, 1) := by decide +kernel
theorem dX12_lay_32 : decode cX12_lay 32 = .ok (.getfield 7, 3) := by decide +kernel
theorem dX12_lay_35 : decode cX12_lay 35 = .ok (.iconst 0, 1) := by decide +kernel
theorem dX12_lay_36 : decode cX12_lay 36 = .ok (.iaload, 1) := by decide +kernel
theorem dX12_lay_37 : decode cX12_lay 37 = .ok (.if_icmp .ge 50, 3) := by decide +kernel
theorem dX12_lay_40 : decode cX12_lay 40 = .ok (.iconst 0, 1) := by decide +kernel
theorem dX12_lay_41 : decode cX12_lay 41 = .ok (.istore_n 2, 1) := by decide +kernel
theorem dX12_lay_42 : decode cX12_lay 42 = .ok (.iload_n 2, 1) := by decide +kernel
theorem dX12_lay_43 : decode cX12_lay 43 = .ok (.aload_n 0, 1) := by decide +kernel
theorem dX12_lay_44 : decode cX12_lay 44 = .ok (.iload_n 1, 1) := by decide +kernel
theorem dX12_lay_45 : decode cX12_lay 45 = .ok (.invokevirtual 70, 3) := by decide +kernel
theorem dX12_lay_48 : decode cX12_lay 48 = .ok (.if_icmp .ge 33, 3) := by decide +kernel
theorem dX12_lay_51 : decode cX12_lay 51 = .ok (.aload_n 0, 1) := by decide +kernel
theorem dX12_lay_52 : decode cX12_lay 52 = .ok (.getfield 25, 3) := by decide +kernel
theorem dX12_lay_55 : decode cX12_lay 55 = .ok (.aload_n 0, 1) := by decide +kernel
theorem dX12_lay_56 : decode cX12_lay 56 = .ok (.iload_n 1, 1) := by decide +kernel
theorem dX12_lay_57 : decode cX12_lay 57 = .ok (.iload_n 2, 1) := by decide +kernel
theorem dX12_lay_58 : decode cX12_lay 58 = .ok (.invokevirtual 74, 3) := by decide +kernel
theorem dX12_lay_61 : decode cX12_lay 61 = .ok (.iload_n 1, 1) := by decide +kernel
theorem dX12_lay_62 : decode cX12_lay 62 = .ok (.iastore, 1) := by decide +kernel
theorem dX12_lay_63 : decode cX12_lay 63 = .ok (.aload_n 0, 1) := by decide +kernel
theorem dX12_lay_64 : decode cX12_lay 64 = .ok (.getfield 28, 3) := by decide +kernel
theorem dX12_lay_67 : decode cX12_lay 67 = .ok (.aload_n 0, 1) := by decide +kernel
theorem dX12_lay_68 : decode cX12_lay 68 = .ok (.iload_n 1, 1) := by decide +kernel
theorem dX12_lay_69 : decode cX12_lay 69 = .ok (.iload_n 2, 1) := by decide +kernel
theorem dX12_lay_70 : decode cX12_lay 70 = .ok (.invokevirtual 74, 3) := by decide +kernel
theorem dX12_lay_73 : decode cX12_lay 73 = .ok (.iload_n 2, 1) := by decide +kernel
theorem dX12_lay_74 : decode cX12_lay 74 = .ok (.iastore, 1) := by decide +kernel
theorem dX12_lay_75 : decode cX12_lay 75 = .ok (.iinc 2 1, 3) := by decide +kernel
theorem dX12_lay_78 : decode cX12_lay 78 = .ok (.goto (-36), 3) := by decide +kernel
theorem dX12_lay_81 : decode cX12_lay 81 = .ok (.iinc 1 1, 3) := by decide +kernel
theorem dX12_lay_84 : decode cX12_lay 84 = .ok (.goto (-54), 3) := by decide +kernel
theorem dX12_lay_87 : decode cX12_lay 87 = .ok (.return_, 1) := by decide +kernel
theorem dX12_isFree_0 : decode cX12_isFree 0 = .ok (.iload_n 1, 1) := by decide +kernel
theorem dX12_isFree_1 : decode cX12_isFree 1 = .ok (.iconst (-1), 1) := by decide +kernel
theorem dX12_isFree_2 : decode cX12_isFree 2 = .ok (.if_icmp .eq 17, 3) := by decide +kernel
theorem dX12_isFree_5 : decode cX12_isFree 5 = .ok (.aload_n 0, 1) := by decide +kernel
theorem dX12_isFree_6 : decode cX12_isFree 6 = .ok (.getfield 25, 3) := by decide +kernel
theorem dX12_isFree_9 : decode cX12_isFree 9 = .ok (.iload_n 1, 1) := by decide +kernel
theorem dX12_isFree_10 : decode cX12_isFree 10 = .ok (.iaload, 1) := by decide +kernel
theorem dX12_isFree_11 : decode cX12_isFree 11 = .ok (.iconst (-1), 1) := by decide +kernel
theorem dX12_isFree_12 : decode cX12_isFree 12 = .ok (.if_icmp .ne 7, 3) := by decide +kernel
theorem dX12_isFree_15 : decode cX12_isFree 15 = .ok (.iconst 1, 1) := by decide +kernel
theorem dX12_isFree_16 : decode cX12_isFree 16 = .ok (.goto 4, 3) := by decide +kernel
theorem dX12_isFree_19 : decode cX12_isFree 19 = .ok (.iconst 0, 1) := by decide +kernel
theorem dX12_isFree_20 : decode cX12_isFree 20 = .ok (.ireturn, 1) := by decide +kernel
theorem dX12_freeAround_0 : decode cX12_freeAround 0 = .ok (.iconst 0, 1) := by decide +kernel
theorem dX12_freeAround_1 : decode cX12_freeAround 1 = .ok (.istore_n 2, 1) := by decide +kernel
theorem dX12_freeAround_2 : decode cX12_freeAround 2 = .ok (.iconst 0, 1) := by decide +kernel
theorem dX12_freeAround_3 : decode cX12_freeAround 3 = .ok (.istore_n 3, 1) := by decide +kernel
theorem dX12_freeAround_4 : decode cX12_freeAround 4 = .ok (.iload_n 3, 1) := by decide +kernel
theorem dX12_freeAround_5 : decode cX12_freeAround 5 = .ok (.iconst 4, 1) := by decide +kernel
theorem dX12_freeAround_6 : decode cX12_freeAround 6 = .ok (.if_icmp .ge 31, 3) := by decide +kernel
theorem dX12_freeAround_9 : decode cX12_freeAround 9 = .ok (.iload_n 2, 1) := by decide +kernel
theorem dX12_freeAround_10 : decode cX12_freeAround 10 = .ok (.aload_n 0, 1) := by decide +kernel
theorem dX12_freeAround_11 : decode cX12_freeAround 11 = .ok (.iload_n 1, 1) := by decide +kernel
theorem dX12_freeAround_12 : decode cX12_freeAround 12 = .ok (.iload_n 3, 1) := by decide +kernel
theorem dX12_freeAround_13 : decode cX12_freeAround 13 = .ok (.invokestatic 84, 3) := by decide +kernel
theorem dX12_freeAround_16 : decode cX12_freeAround 16 = .ok (.invokevirtual 87, 3) := by decide +kernel
theorem dX12_freeAround_19 : decode cX12_freeAround 19 = .ok (.ifCond .eq 9, 3) := by decide +kernel
theorem dX12_freeAround_22 : decode cX12_freeAround 22 = .ok (.iconst 1, 1) := by decide +kernel
theorem dX12_freeAround_23 : decode cX12_freeAround 23 = .ok (.iload_n 3, 1) := by decide +kernel
theorem dX12_freeAround_24 : decode cX12_freeAround 24 = .ok (.ishl, 1) := by decide +kernel
theorem dX12_freeAround_25 : decode cX12_freeAround 25 = .ok (.goto 4, 3) := by decide +kernel
theorem dX12_freeAround_28 : decode cX12_freeAround 28 = .ok (.iconst 0, 1) := by decide +kernel
theorem dX12_freeAround_29 : decode cX12_freeAround 29 = .ok (.ior, 1) := by decide +kernel
theorem dX12_freeAround_30 : decode cX12_freeAround 30 = .ok (.istore_n 2, 1) := by decide +kernel
theorem dX12_freeAround_31 : decode cX12_freeAround 31 = .ok (.iinc 3 1, 3) := by decide +kernel
theorem dX12_freeAround_34 : decode cX12_freeAround 34 = .ok (.goto (-30), 3) := by decide +kernel
theorem dX12_freeAround_37 : decode cX12_freeAround 37 = .ok (.iload_n 2, 1) := by decide +kernel
theorem dX12_freeAround_38 : decode cX12_freeAround 38 = .ok (.ireturn, 1) := by decide +kernel
theorem dX12_reason_0 : decode cX12_reason 0 = .ok (.iload_n 2, 1) := by decide +kernel
theorem dX12_reason_1 : decode cX12_reason 1 = .ok (.iconst (-1), 1) := by decide +kernel
theorem dX12_reason_2 : decode cX12_reason 2 = .ok (.if_icmp .ne 5, 3) := by decide +kernel
theorem dX12_reason_5 : decode cX12_reason 5 = .ok (.iconst 1, 1) := by decide +kernel
theorem dX12_reason_6 : decode cX12_reason 6 = .ok (.ireturn, 1) := by decide +kernel
theorem dX12_reason_7 : decode cX12_reason 7 = .ok (.aload_n 0, 1) := by decide +kernel
theorem dX12_reason_8 : decode cX12_reason 8 = .ok (.getfield 25, 3) := by decide +kernel
theorem dX12_reason_11 : decode cX12_reason 11 = .ok (.iload_n 2, 1) := by decide +kernel
theorem dX12_reason_12 : decode cX12_reason 12 = .ok (.iaload, 1) := by decide +kernel
theorem dX12_reason_13 : decode cX12_reason 13 = .ok (.iconst (-1), 1) := by decide +kernel
theorem dX12_reason_14 : decode cX12_reason 14 = .ok (.if_icmp .ne 7, 3) := by decide +kernel
theorem dX12_reason_17 : decode cX12_reason 17 = .ok (.iconst 0, 1) := by decide +kernel
theorem dX12_reason_18 : decode cX12_reason 18 = .ok (.goto 18, 3) := by decide +kernel
theorem dX12_reason_21 : decode cX12_reason 21 = .ok (.aload_n 0, 1) := by decide +kernel
theorem dX12_reason_22 : decode cX12_reason 22 = .ok (.getfield 25, 3) := by decide +kernel
theorem dX12_reason_25 : decode cX12_reason 25 = .ok (.iload_n 2, 1) := by decide +kernel
theorem dX12_reason_26 : decode cX12_reason 26 = .ok (.iaload, 1) := by decide +kernel
theorem dX12_reason_27 : decode cX12_reason 27 = .ok (.iload_n 1, 1) := by decide +kernel
theorem dX12_reason_28 : decode cX12_reason 28 = .ok (.if_icmp .ne 7, 3) := by decide +kernel
theorem dX12_reason_31 : decode cX12_reason 31 = .ok (.iconst 2, 1) := by decide +kernel
theorem dX12_reason_32 : decode cX12_reason 32 = .ok (.goto 4, 3) := by decide +kernel
theorem dX12_reason_35 : decode cX12_reason 35 = .ok (.iconst 3, 1) := by decide +kernel
theorem dX12_reason_36 : decode cX12_reason 36 = .ok (.ireturn, 1) := by decide +kernel
theorem dX12_findRegions_0 : decode cX12_findRegions 0 = .ok (.aload_n 0, 1) := by decide +kernel
theorem dX12_findRegions_1 : decode cX12_findRegions 1 = .ok (.iconst 0, 1) := by decide +kernel
theorem dX12_findRegions_2 : decode cX12_findRegions 2 = .ok (.putfield 90, 3) := by decide +kernel
theorem dX12_findRegions_5 : decode cX12_findRegions 5 = .ok (.iconst 0, 1) := by decide +kernel
theorem dX12_findRegions_6 : decode cX12_findRegions 6 = .ok (.istore_n 1, 1) := by decide +kernel
theorem dX12_findRegions_7 : decode cX12_findRegions 7 = .ok (.iload_n 1, 1) := by decide +kernel
theorem dX12_findRegions_8 : decode cX12_findRegions 8 = .ok (.bipush 100, 2) := by decide +kernel
theorem dX12_findRegions_10 : decode cX12_findRegions 10 = .ok (.if_icmp .ge 16, 3) := by decide +kernel
theorem dX12_findRegions_13 : decode cX12_findRegions 13 = .ok (.aload_n 0, 1) := by decide +kernel
theorem dX12_findRegions_14 : decode cX12_findRegions 14 = .ok (.getfield 31, 3) := by decide +kernel
theorem dX12_findRegions_17 : decode cX12_findRegions 17 = .ok (.iload_n 1, 1) := by decide +kernel
theorem dX12_findRegions_18 : decode cX12_findRegions 18 = .ok (.iconst (-1), 1) := by decide +kernel
theorem dX12_findRegions_19 : decode cX12_findRegions 19 = .ok (.iastore, 1) := by decide +kernel
theorem dX12_findRegions_20 : decode cX12_findRegions 20 = .ok (.iinc 1 1, 3) := by decide +kernel
theorem dX12_findRegions_23 : decode cX12_findRegions 23 = .ok (.goto (-16), 3) := by decide +kernel
theorem dX12_findRegions_26 : decode cX12_findRegions 26 = .ok (.iconst 0, 1) := by decide +kernel
theorem dX12_findRegions_27 : decode cX12_findRegions 27 = .ok (.istore_n 1, 1) := by decide +kernel
theorem dX12_findRegions_28 : decode cX12_findRegions 28 = .ok (.iload_n 1, 1) := by decide +kernel
theorem dX12_findRegions_29 : decode cX12_findRegions 29 = .ok (.bipush 100, 2) := by decide +kernel
theorem dX12_findRegions_31 : decode cX12_findRegions 31 = .ok (.if_icmp .ge 67, 3) := by decide +kernel
theorem dX12_findRegions_34 : decode cX12_findRegions 34 = .ok (.aload_n 0, 1) := by decide +kernel
theorem dX12_findRegions_35 : decode cX12_findRegions 35 = .ok (.getfield 25, 3) := by decide +kernel
theorem dX12_findRegions_38 : decode cX12_findRegions 38 = .ok (.iload_n 1, 1) := by decide +kernel
theorem dX12_findRegions_39 : decode cX12_findRegions 39 = .ok (.iaload, 1) := by decide +kernel
theorem dX12_findRegions_40 : decode cX12_findRegions 40 = .ok (.iconst (-1), 1) := by decide +kernel
theorem dX12_findRegions_41 : decode cX12_findRegions 41 = .ok (.if_icmp .ne 51, 3) := by decide +kernel
theorem dX12_findRegions_44 : decode cX12_findRegions 44 = .ok (.aload_n 0, 1) := by decide +kernel
theorem dX12_findRegions_45 : decode cX12_findRegions 45 = .ok (.getfield 31, 3) := by decide +kernel
theorem dX12_findRegions_48 : decode cX12_findRegions 48 = .ok (.iload_n 1, 1) := by decide +kernel
theorem dX12_findRegions_49 : decode cX12_findRegions 49 = .ok (.iaload, 1) := by decide +kernel
theorem dX12_findRegions_50 : decode cX12_findRegions 50 = .ok (.iconst (-1), 1) := by decide +kernel
theorem dX12_findRegions_51 : decode cX12_findRegions 51 = .ok (.if_icmp .ne 41, 3) := by decide +kernel
theorem dX12_findRegions_54 : decode cX12_findRegions 54 = .ok (.aload_n 0, 1) := by decide +kernel
theorem dX12_findRegions_55 : decode cX12_findRegions 55 = .ok (.getfield 31, 3) := by decide +kernel
theorem dX12_findRegions_58 : decode cX12_findRegions 58 = .ok (.iload_n 1, 1) := by decide +kernel
theorem dX12_findRegions_59 : decode cX12_findRegions 59 = .ok (.aload_n 0, 1) := by decide +kernel
theorem dX12_findRegions_60 : decode cX12_findRegions 60 = .ok (.getfield 90, 3) := by decide +kernel
theorem dX12_findRegions_63 : decode cX12_findRegions 63 = .ok (.iastore, 1) := by decide +kernel
theorem dX12_findRegions_64 : decode cX12_findRegions 64 = .ok (.aload_n 0, 1) := by decide +kernel
theorem dX12_findRegions_65 : decode cX12_findRegions 65 = .ok (.getfield 34, 3) := by decide +kernel
theorem dX12_findRegions_68 : decode cX12_findRegions 68 = .ok (.aload_n 0, 1) := by decide +kernel
theorem dX12_findRegions_69 : decode cX12_findRegions 69 = .ok (.getfield 90, 3) := by decide +kernel
theorem dX12_findRegions_72 : decode cX12_findRegions 72 = .ok (.iconst 1, 1) := by decide +kernel
theorem dX12_findRegions_73 : decode cX12_findRegions 73 = .ok (.iastore, 1) := by decide +kernel
theorem dX12_findRegions_74 : decode cX12_findRegions 74 = .ok (.aload_n 0, 1) := by decide +kernel
theorem dX12_findRegions_75 : decode cX12_findRegions 75 = .ok (.aload_n 0, 1) := by decide +kernel
theorem dX12_findRegions_76 : decode cX12_findRegions 76 = .ok (.getfield 90, 3) := by decide +kernel
theorem dX12_findRegions_79 : decode cX12_findRegions 79 = .ok (.invokevirtual 93, 3) := by decide +kernel
theorem dX12_findRegions_82 : decode cX12_findRegions 82 = .ok (.aload_n 0, 1) := by decide +kernel
theorem dX12_findRegions_83 : decode cX12_findRegions 83 = .ok (.dup, 1) := by decide +kernel
theorem dX12_findRegions_84 : decode cX12_findRegions 84 = .ok (.getfield 90, 3) := by decide +kernel
theorem dX12_findRegions_87 : decode cX12_findRegions 87 = .ok (.iconst 1, 1) := by decide +kernel
theorem dX12_findRegions_88 : decode cX12_findRegions 88 = .ok (.iadd, 1) := by decide +kernel
theorem dX12_findRegions_89 : decode cX12_findRegions 89 = .ok (.putfield 90, 3) := by decide +kernel
theorem dX12_findRegions_92 : decode cX12_findRegions 92 = .ok (.iinc 1 1, 3) := by decide +kernel
theorem dX12_findRegions_95 : decode cX12_findRegions 95 = .ok (.goto (-67), 3) := by decide +kernel
theorem dX12_findRegions_98 : decode cX12_findRegions 98 = .ok (.return_, 1) := by decide +kernel
theorem dX12_growRegion_0 : decode cX12_growRegion 0 = .ok (.iconst 1, 1) := by decide +kernel
theorem dX12_growRegion_1 : decode cX12_growRegion 1 = .ok (.istore_n 2, 1) := by decide +kernel
theorem dX12_growRegion_2 : decode cX12_growRegion 2 = .ok (.iload_n 2, 1) := by decide +kernel
theorem dX12_growRegion_3 : decode cX12_growRegion 3 = .ok (.ifCond .eq 82, 3) := by decide +kernel
theorem dX12_growRegion_6 : decode cX12_growRegion 6 = .ok (.iconst 0, 1) := by decide +kernel
theorem dX12_growRegion_7 : decode cX12_growRegion 7 = .ok (.istore_n 2, 1) := by decide +kernel
theorem dX12_growRegion_8 : decode cX12_growRegion 8 = .ok (.iconst 0, 1) := by decide +kernel
theorem dX12_growRegion_9 : decode cX12_growRegion 9 = .ok (.istore_n 3, 1) := by decide +kernel
theorem dX12_growRegion_10 : decode cX12_growRegion 10 = .ok (.iload_n 3, 1) := by decide +kernel
theorem dX12_growRegion_11 : decode cX12_growRegion 11 = .ok (.bipush 100, 2) := by decide +kernel
theorem dX12_growRegion_13 : decode cX12_growRegion 13 = .ok (.if_icmp .ge 69, 3) := by decide +kernel
theorem dX12_growRegion_16 : decode cX12_growRegion 16 = .ok (.aload_n 0, 1) := by decide +kernel
theorem dX12_growRegion_17 : decode cX12_growRegion 17 = .ok (.getfield 25, 3) := by decide +kernel
theorem dX12_growRegion_20 : decode cX12_growRegion 20 = .ok (.iload_n 3, 1) := by decide +kernel
theorem dX12_growRegion_21 : decode cX12_growRegion 21 = .ok (.iaload, 1) := by decide +kernel
theorem dX12_growRegion_22 : decode cX12_growRegion 22 = .ok (.iconst (-1), 1) := by decide +kernel
theorem dX12_growRegion_23 : decode cX12_growRegion 23 = .ok (.if_icmp .ne 26, 3) := by decide +kernel
theorem dX12_growRegion_26 : decode cX12_growRegion 26 = .ok (.aload_n 0, 1) := by decide +kernel
theorem dX12_growRegion_27 : decode cX12_growRegion 27 = .ok (.getfield 31, 3) := by decide +kernel
theorem dX12_growRegion_30 : decode cX12_growRegion 30 = .ok (.iload_n 3, 1) := by decide +kernel
theorem dX12_growRegion_31 : decode cX12_growRegion 31 = .ok (.iaload, 1) := by decide +kernel
theorem dX12_growRegion_32 : decode cX12_growRegion 32 = .ok (.iconst (-1), 1) := by decide +kernel
theorem dX12_growRegion_33 : decode cX12_growRegion 33 = .ok (.if_icmp .ne 16, 3) := by decide +kernel
theorem dX12_growRegion_36 : decode cX12_growRegion 36 = .ok (.aload_n 0, 1) := by decide +kernel
theorem dX12_growRegion_37 : decode cX12_growRegion 37 = .ok (.iload_n 3, 1) := by decide +kernel
theorem dX12_growRegion_38 : decode cX12_growRegion 38 = .ok (.iload_n 1, 1) := by decide +kernel
theorem dX12_growRegion_39 : decode cX12_growRegion 39 = .ok (.invokevirtual 97, 3) := by decide +kernel
theorem dX12_growRegion_42 : decode cX12_growRegion 42 = .ok (.ifCond .eq 7, 3) := by decide +kernel
theorem dX12_growRegion_45 : decode cX12_growRegion 45 = .ok (.iconst 1, 1) := by decide +kernel
theorem dX12_growRegion_46 : decode cX12_growRegion 46 = .ok (.goto 4, 3) := by decide +kernel
theorem dX12_growRegion_49 : decode cX12_growRegion 49 = .ok (.iconst 0, 1) := by decide +kernel
theorem dX12_growRegion_50 : decode cX12_growRegion 50 = .ok (.istore 4, 2) := by decide +kernel
theorem dX12_growRegion_52 : decode cX12_growRegion 52 = .ok (.iload 4, 2) := by decide +kernel
theorem dX12_growRegion_54 : decode cX12_growRegion 54 = .ok (.ifCond .eq 22, 3) := by decide +kernel
theorem dX12_growRegion_57 : decode cX12_growRegion 57 = .ok (.aload_n 0, 1) := by decide +kernel
theorem dX12_growRegion_58 : decode cX12_growRegion 58 = .ok (.getfield 31, 3) := by decide +kernel
theorem dX12_growRegion_61 : decode cX12_growRegion 61 = .ok (.iload_n 3, 1) := by decide +kernel
theorem dX12_growRegion_62 : decode cX12_growRegion 62 = .ok (.iload_n 1, 1) := by decide +kernel
theorem dX12_growRegion_63 : decode cX12_growRegion 63 = .ok (.iastore, 1) := by decide +kernel
theorem dX12_growRegion_64 : decode cX12_growRegion 64 = .ok (.aload_n 0, 1) := by decide +kernel
theorem dX12_growRegion_65 : decode cX12_growRegion 65 = .ok (.getfield 34, 3) := by decide +kernel
theorem dX12_growRegion_68 : decode cX12_growRegion 68 = .ok (.iload_n 1, 1) := by decide +kernel
theorem dX12_growRegion_69 : decode cX12_growRegion 69 = .ok (.dup2, 1) := by decide +kernel
theorem dX12_growRegion_70 : decode cX12_growRegion 70 = .ok (.iaload, 1) := by decide +kernel
theorem dX12_growRegion_71 : decode cX12_growRegion 71 = .ok (.iconst 1, 1) := by decide +kernel
theorem dX12_growRegion_72 : decode cX12_growRegion 72 = .ok (.iadd, 1) := by decide +kernel
theorem dX12_growRegion_73 : decode cX12_growRegion 73 = .ok (.iastore, 1) := by decide +kernel
theorem dX12_growRegion_74 : decode cX12_growRegion 74 = .ok (.iconst 1, 1) := by decide +kernel
theorem dX12_growRegion_75 : decode cX12_growRegion 75 = .ok (.istore_n 2, 1) := by decide +kernel
theorem dX12_growRegion_76 : decode cX12_growRegion 76 = .ok (.iinc 3 1, 3) := by decide +kernel
theorem dX12_growRegion_79 : decode cX12_growRegion 79 = .ok (.goto (-69), 3) := by decide +kernel
theorem dX12_growRegion_82 : decode cX12_growRegion 82 = .ok (.goto (-80), 3) := by decide +kernel
theorem dX12_growRegion_85 : decode cX12_growRegion 85 = .ok (.return_, 1) := by decide +kernel
theorem dX12_isBeside_0 : decode cX12_isBeside 0 = .ok (.iconst 0, 1) := by decide +kernel
theorem dX12_isBeside_1 : decode cX12_isBeside 1 = .ok (.istore_n 3, 1) := by decide +kernel
theorem dX12_isBeside_2 : decode cX12_isBeside 2 = .ok (.iconst 0, 1) := by decide +kernel
theorem dX12_isBeside_3 : decode cX12_isBeside 3 = .ok (.istore 4, 2) := by decide +kernel
theorem dX12_isBeside_5 : decode cX12_isBeside 5 = .ok (.iload 4, 2) := by decide +kernel
theorem dX12_isBeside_7 : decode cX12_isBeside 7 = .ok (.iconst 4, 1) := by decide +kernel
theorem dX12_isBeside_8 : decode cX12_isBeside 8 = .ok (.if_icmp .ge 44, 3) := by decide +kernel
theorem dX12_isBeside_11 : decode cX12_isBeside 11 = .ok (.iload_n 1, 1) := by decide +kernel
theorem dX12_isBeside_12 : decode cX12_isBeside 12 = .ok (.iload 4, 2) := by decide +kernel
theorem dX12_isBeside_14 : decode cX12_isBeside 14 = .ok (.invokestatic 84, 3) := by decide +kernel
theorem dX12_isBeside_17 : decode cX12_isBeside 17 = .ok (.istore 5, 2) := by decide +kernel
theorem dX12_isBeside_19 : decode cX12_isBeside 19 = .ok (.iload_n 3, 1) := by decide +kernel
theorem dX12_isBeside_20 : decode cX12_isBeside 20 = .ok (.ifCond .ne 20, 3) := by decide +kernel
theorem dX12_isBeside_23 : decode cX12_isBeside 23 = .ok (.iload 5, 2) := by decide +kernel
theorem dX12_isBeside_25 : decode cX12_isBeside 25 = .ok (.iconst (-1), 1) := by decide +kernel
theorem dX12_isBeside_26 : decode cX12_isBeside 26 = .ok (.if_icmp .eq 18, 3) := by decide +kernel
theorem dX12_isBeside_29 : decode cX12_isBeside 29 = .ok (.aload_n 0, 1) := by decide +kernel
theorem dX12_isBeside_30 : decode cX12_isBeside 30 = .ok (.getfield 31, 3) := by decide +kernel
theorem dX12_isBeside_33 : decode cX12_isBeside 33 = .ok (.iload 5, 2) := by decide +kernel
theorem dX12_isBeside_35 : decode cX12_isBeside 35 = .ok (.iaload, 1) := by decide +kernel
theorem dX12_isBeside_36 : decode cX12_isBeside 36 = .ok (.iload_n 2, 1) := by decide +kernel
theorem dX12_isBeside_37 : decode cX12_isBeside 37 = .ok (.if_icmp .ne 7, 3) := by decide +kernel
theorem dX12_isBeside_40 : decode cX12_isBeside 40 = .ok (.iconst 1, 1) := by decide +kernel
theorem dX12_isBeside_41 : decode cX12_isBeside 41 = .ok (.goto 4, 3) := by decide +kernel
theorem dX12_isBeside_44 : decode cX12_isBeside 44 = .ok (.iconst 0, 1) := by decide +kernel
theorem dX12_isBeside_45 : decode cX12_isBeside 45 = .ok (.istore_n 3, 1) := by decide +kernel
theorem dX12_isBeside_46 : decode cX12_isBeside 46 = .ok (.iinc 4 1, 3) := by decide +kernel
theorem dX12_isBeside_49 : decode cX12_isBeside 49 = .ok (.goto (-44), 3) := by decide +kernel
theorem dX12_isBeside_52 : decode cX12_isBeside 52 = .ok (.iload_n 3, 1) := by decide +kernel
theorem dX12_isBeside_53 : decode cX12_isBeside 53 = .ok (.ireturn, 1) := by decide +kernel
theorem dX12_addPath_0 : decode cX12_addPath 0 = .ok (.aload_n 0, 1) := by decide +kernel
theorem dX12_addPath_1 : decode cX12_addPath 1 = .ok (.getfield 7, 3) := by decide +kernel
theorem dX12_addPath_4 : decode cX12_addPath 4 = .ok (.iconst 0, 1) := by decide +kernel
theorem dX12_addPath_5 : decode cX12_addPath 5 = .ok (.iaload, 1) := by decide +kernel
theorem dX12_addPath_6 : decode cX12_addPath 6 = .ok (.istore_n 1, 1) := by decide +kernel
theorem dX12_addPath_7 : decode cX12_addPath 7 = .ok (.iconst 0, 1) := by decide +kernel
theorem dX12_addPath_8 : decode cX12_addPath 8 = .ok (.istore_n 2, 1) := by decide +kernel
theorem dX12_addPath_9 : decode cX12_addPath 9 = .ok (.iload_n 2, 1) := by decide +kernel
theorem dX12_addPath_10 : decode cX12_addPath 10 = .ok (.aload_n 0, 1) := by decide +kernel
theorem dX12_addPath_11 : decode cX12_addPath 11 = .ok (.getfield 101, 3) := by decide +kernel
theorem dX12_addPath_14 : decode cX12_addPath 14 = .ok (.if_icmp .ge 21, 3) := by decide +kernel
theorem dX12_addPath_17 : decode cX12_addPath 17 = .ok (.aload_n 0, 1) := by decide +kernel
theorem dX12_addPath_18 : decode cX12_addPath 18 = .ok (.iload_n 1, 1) := by decide +kernel
theorem dX12_addPath_19 : decode cX12_addPath 19 = .ok (.iload_n 2, 1) := by decide +kernel
theorem dX12_addPath_20 : decode cX12_addPath 20 = .ok (.aload_n 0, 1) := by decide +kernel
theorem dX12_addPath_21 : decode cX12_addPath 21 = .ok (.getfield 37, 3) := by decide +kernel
theorem dX12_addPath_24 : decode cX12_addPath 24 = .ok (.iload_n 2, 1) := by decide +kernel
theorem dX12_addPath_25 : decode cX12_addPath 25 = .ok (.iaload, 1) := by decide +kernel
theorem dX12_addPath_26 : decode cX12_addPath 26 = .ok (.invokevirtual 104, 3) := by decide +kernel
theorem dX12_addPath_29 : decode cX12_addPath 29 = .ok (.iinc 2 1, 3) := by decide +kernel
theorem dX12_addPath_32 : decode cX12_addPath 32 = .ok (.goto (-23), 3) := by decide +kernel
theorem dX12_addPath_35 : decode cX12_addPath 35 = .ok (.aload_n 0, 1) := by decide +kernel
theorem dX12_addPath_36 : decode cX12_addPath 36 = .ok (.getfield 7, 3) := by decide +kernel
theorem dX12_addPath_39 : decode cX12_addPath 39 = .ok (.iconst 4, 1) := by decide +kernel
theorem dX12_addPath_40 : decode cX12_addPath 40 = .ok (.iload_n 1, 1) := by decide +kernel
theorem dX12_addPath_41 : decode cX12_addPath 41 = .ok (.iadd, 1) := by decide +kernel
theorem dX12_addPath_42 : decode cX12_addPath 42 = .ok (.aload_n 0, 1) := by decide +kernel
theorem dX12_addPath_43 : decode cX12_addPath 43 = .ok (.getfield 101, 3) := by decide +kernel
theorem dX12_addPath_46 : decode cX12_addPath 46 = .ok (.iastore, 1) := by decide +kernel
theorem dX12_addPath_47 : decode cX12_addPath 47 = .ok (.aload_n 0, 1) := by decide +kernel
theorem dX12_addPath_48 : decode cX12_addPath 48 = .ok (.getfield 7, 3) := by decide +kernel
theorem dX12_addPath_51 : decode cX12_addPath 51 = .ok (.iconst 0, 1) := by decide +kernel
theorem dX12_addPath_52 : decode cX12_addPath 52 = .ok (.dup2, 1) := by decide +kernel
theorem dX12_addPath_53 : decode cX12_addPath 53 = .ok (.iaload, 1) := by decide +kernel
theorem dX12_addPath_54 : decode cX12_addPath 54 = .ok (.iconst 1, 1) := by decide +kernel
theorem dX12_addPath_55 : decode cX12_addPath 55 = .ok (.iadd, 1) := by decide +kernel
theorem dX12_addPath_56 : decode cX12_addPath 56 = .ok (.iastore, 1) := by decide +kernel
theorem dX12_addPath_57 : decode cX12_addPath 57 = .ok (.iload_n 1, 1) := by decide +kernel
theorem dX12_addPath_58 : decode cX12_addPath 58 = .ok (.ireturn, 1) := by decide +kernel
theorem dX12_takeRow_0 : decode cX12_takeRow 0 = .ok (.aload_n 0, 1) := by decide +kernel
theorem dX12_takeRow_1 : decode cX12_takeRow 1 = .ok (.aload_n 0, 1) := by decide +kernel
theorem dX12_takeRow_2 : decode cX12_takeRow 2 = .ok (.iload_n 1, 1) := by decide +kernel
theorem dX12_takeRow_3 : decode cX12_takeRow 3 = .ok (.invokevirtual 70, 3) := by decide +kernel
theorem dX12_takeRow_6 : decode cX12_takeRow 6 = .ok (.putfield 101, 3) := by decide +kernel
theorem dX12_takeRow_9 : decode cX12_takeRow 9 = .ok (.iconst 0, 1) := by decide +kernel
theorem dX12_takeRow_10 : decode cX12_takeRow 10 = .ok (.istore_n 2, 1) := by decide +kernel
theorem dX12_takeRow_11 : decode cX12_takeRow 11 = .ok (.iload_n 2, 1) := by decide +kernel
theorem dX12_takeRow_12 : decode cX12_takeRow 12 = .ok (.aload_n 0, 1) := by decide +kernel
theorem dX12_takeRow_13 : decode cX12_takeRow 13 = .ok (.getfield 101, 3) := by decide +kernel
theorem dX12_takeRow_16 : decode cX12_takeRow 16 = .ok (.if_icmp .ge 21, 3) := by decide +kernel
theorem dX12_takeRow_19 : decode cX12_takeRow 19 = .ok (.aload_n 0, 1) := by decide +kernel
theorem dX12_takeRow_20 : decode cX12_takeRow 20 = .ok (.getfield 37, 3) := by decide +kernel
theorem dX12_takeRow_23 : decode cX12_takeRow 23 = .ok (.iload_n 2, 1) := by decide +kernel
theorem dX12_takeRow_24 : decode cX12_takeRow 24 = .ok (.aload_n 0, 1) := by decide +kernel
theorem dX12_takeRow_25 : decode cX12_takeRow 25 = .ok (.iload_n 1, 1) := by decide +kernel
theorem dX12_takeRow_26 : decode cX12_takeRow 26 = .ok (.iload_n 2, 1) := by decide +kernel
theorem dX12_takeRow_27 : decode cX12_takeRow 27 = .ok (.invokevirtual 74, 3) := by decide +kernel
theorem dX12_takeRow_30 : decode cX12_takeRow 30 = .ok (.iastore, 1) := by decide +kernel
theorem dX12_takeRow_31 : decode cX12_takeRow 31 = .ok (.iinc 2 1, 3) := by decide +kernel
theorem dX12_takeRow_34 : decode cX12_takeRow 34 = .ok (.goto (-23), 3) := by decide +kernel
theorem dX12_takeRow_37 : decode cX12_takeRow 37 = .ok (.return_, 1) := by decide +kernel
theorem dX12_giveRow_0 : decode cX12_giveRow 0 = .ok (.iconst 0, 1) := by decide +kernel
theorem dX12_giveRow_1 : decode cX12_giveRow 1 = .ok (.istore_n 2, 1) := by decide +kernel
theorem dX12_giveRow_2 : decode cX12_giveRow 2 = .ok (.iload_n 2, 1) := by decide +kernel
theorem dX12_giveRow_3 : decode cX12_giveRow 3 = .ok (.bipush 60, 2) := by decide +kernel
theorem dX12_giveRow_5 : decode cX12_giveRow 5 = .ok (.if_icmp .ge 33, 3) := by decide +kernel
theorem dX12_giveRow_8 : decode cX12_giveRow 8 = .ok (.aload_n 0, 1) := by decide +kernel
theorem dX12_giveRow_9 : decode cX12_giveRow 9 = .ok (.iload_n 1, 1) := by decide +kernel
theorem dX12_giveRow_10 : decode cX12_giveRow 10 = .ok (.iload_n 2, 1) := by decide +kernel
theorem dX12_giveRow_11 : decode cX12_giveRow 11 = .ok (.iload_n 2, 1) := by decide +kernel
theorem dX12_giveRow_12 : decode cX12_giveRow 12 = .ok (.aload_n 0, 1) := by decide +kernel
theorem dX12_giveRow_13 : decode cX12_giveRow 13 = .ok (.getfield 101, 3) := by decide +kernel
theorem dX12_giveRow_16 : decode cX12_giveRow 16 = .ok (.if_icmp .ge 12, 3) := by decide +kernel
theorem dX12_giveRow_19 : decode cX12_giveRow 19 = .ok (.aload_n 0, 1) := by decide +kernel
theorem dX12_giveRow_20 : decode cX12_giveRow 20 = .ok (.getfield 37, 3) := by decide +kernel
theorem dX12_giveRow_23 : decode cX12_giveRow 23 = .ok (.iload_n 2, 1) := by decide +kernel
theorem dX12_giveRow_24 : decode cX12_giveRow 24 = .ok (.iaload, 1) := by decide +kernel
theorem dX12_giveRow_25 : decode cX12_giveRow 25 = .ok (.goto 4, 3) := by decide +kernel
theorem dX12_giveRow_28 : decode cX12_giveRow 28 = .ok (.iconst 0, 1) := by decide +kernel
theorem dX12_giveRow_29 : decode cX12_giveRow 29 = .ok (.invokevirtual 104, 3) := by decide +kernel
theorem dX12_giveRow_32 : decode cX12_giveRow 32 = .ok (.iinc 2 1, 3) := by decide +kernel
theorem dX12_giveRow_35 : decode cX12_giveRow 35 = .ok (.goto (-33), 3) := by decide +kernel
theorem dX12_giveRow_38 : decode cX12_giveRow 38 = .ok (.aload_n 0, 1) := by decide +kernel
theorem dX12_giveRow_39 : decode cX12_giveRow 39 = .ok (.getfield 7, 3) := by decide +kernel
theorem dX12_giveRow_42 : decode cX12_giveRow 42 = .ok (.iconst 4, 1) := by decide +kernel
theorem dX12_giveRow_43 : decode cX12_giveRow 43 = .ok (.iload_n 1, 1) := by decide +kernel
theorem dX12_giveRow_44 : decode cX12_giveRow 44 = .ok (.iadd, 1) := by decide +kernel
theorem dX12_giveRow_45 : decode cX12_giveRow 45 = .ok (.aload_n 0, 1) := by decide +kernel
theorem dX12_giveRow_46 : decode cX12_giveRow 46 = .ok (.getfield 101, 3) := by decide +kernel
theorem dX12_giveRow_49 : decode cX12_giveRow 49 = .ok (.iastore, 1) := by decide +kernel
theorem dX12_giveRow_50 : decode cX12_giveRow 50 = .ok (.return_, 1) := by decide +kernel
theorem dX12_dropPath_0 : decode cX12_dropPath 0 = .ok (.aload_n 0, 1) := by decide +kernel
theorem dX12_dropPath_1 : decode cX12_dropPath 1 = .ok (.getfield 7, 3) := by decide +kernel
theorem dX12_dropPath_4 : decode cX12_dropPath 4 = .ok (.iconst 0, 1) := by decide +kernel
theorem dX12_dropPath_5 : decode cX12_dropPath 5 = .ok (.dup2, 1) := by decide +kernel
theorem dX12_dropPath_6 : decode cX12_dropPath 6 = .ok (.iaload, 1) := by decide +kernel
theorem dX12_dropPath_7 : decode cX12_dropPath 7 = .ok (.iconst 1, 1) := by decide +kernel
theorem dX12_dropPath_8 : decode cX12_dropPath 8 = .ok (.isub, 1) := by decide +kernel
theorem dX12_dropPath_9 : decode cX12_dropPath 9 = .ok (.iastore, 1) := by decide +kernel
theorem dX12_dropPath_10 : decode cX12_dropPath 10 = .ok (.iload_n 1, 1) := by decide +kernel
theorem dX12_dropPath_11 : decode cX12_dropPath 11 = .ok (.istore_n 2, 1) := by decide +kernel
theorem dX12_dropPath_12 : decode cX12_dropPath 12 = .ok (.iload_n 2, 1) := by decide +kernel
theorem dX12_dropPath_13 : decode cX12_dropPath 13 = .ok (.aload_n 0, 1) := by decide +kernel
theorem dX12_dropPath_14 : decode cX12_dropPath 14 = .ok (.getfield 7, 3) := by decide +kernel
theorem dX12_dropPath_17 : decode cX12_dropPath 17 = .ok (.iconst 0, 1) := by decide +kernel
theorem dX12_dropPath_18 : decode cX12_dropPath 18 = .ok (.iaload, 1) := by decide +kernel
theorem dX12_dropPath_19 : decode cX12_dropPath 19 = .ok (.if_icmp .ge 21, 3) := by decide +kernel
theorem dX12_dropPath_22 : decode cX12_dropPath 22 = .ok (.aload_n 0, 1) := by decide +kernel
theorem dX12_dropPath_23 : decode cX12_dropPath 23 = .ok (.iload_n 2, 1) := by decide +kernel
theorem dX12_dropPath_24 : decode cX12_dropPath 24 = .ok (.iconst 1, 1) := by decide +kernel
theorem dX12_dropPath_25 : decode cX12_dropPath 25 = .ok (.iadd, 1) := by decide +kernel
theorem dX12_dropPath_26 : decode cX12_dropPath 26 = .ok (.invokevirtual 108, 3) := by decide +kernel
theorem dX12_dropPath_29 : decode cX12_dropPath 29 = .ok (.aload_n 0, 1) := by decide +kernel
theorem dX12_dropPath_30 : decode cX12_dropPath 30 = .ok (.iload_n 2, 1) := by decide +kernel
theorem dX12_dropPath_31 : decode cX12_dropPath 31 = .ok (.invokevirtual 111, 3) := by decide +kernel
theorem dX12_dropPath_34 : decode cX12_dropPath 34 = .ok (.iinc 2 1, 3) := by decide +kernel
theorem dX12_dropPath_37 : decode cX12_dropPath 37 = .ok (.goto (-25), 3) := by decide +kernel
theorem dX12_dropPath_40 : decode cX12_dropPath 40 = .ok (.aload_n 0, 1) := by decide +kernel
theorem dX12_dropPath_41 : decode cX12_dropPath 41 = .ok (.getfield 7, 3) := by decide +kernel
theorem dX12_dropPath_44 : decode cX12_dropPath 44 = .ok (.iconst 4, 1) := by decide +kernel
theorem dX12_dropPath_45 : decode cX12_dropPath 45 = .ok (.aload_n 0, 1) := by decide +kernel
theorem dX12_dropPath_46 : decode cX12_dropPath 46 = .ok (.getfield 7, 3) := by decide +kernel
theorem dX12_dropPath_49 : decode cX12_dropPath 49 = .ok (.iconst 0, 1) := by decide +kernel
theorem dX12_dropPath_50 : decode cX12_dropPath 50 = .ok (.iaload, 1) := by decide +kernel
theorem dX12_dropPath_51 : decode cX12_dropPath 51 = .ok (.iadd, 1) := by decide +kernel
theorem dX12_dropPath_52 : decode cX12_dropPath 52 = .ok (.iconst 0, 1) := by decide +kernel
theorem dX12_dropPath_53 : decode cX12_dropPath 53 = .ok (.iastore, 1) := by decide +kernel
theorem dX12_dropPath_54 : decode cX12_dropPath 54 = .ok (.return_, 1) := by decide +kernel
theorem dX12_start_0 : decode cX12_start 0 = .ok (.aload_n 0, 1) := by decide +kernel
theorem dX12_start_1 : decode cX12_start 1 = .ok (.iconst 0, 1) := by decide +kernel
theorem dX12_start_2 : decode cX12_start 2 = .ok (.putfield 59, 3) := by decide +kernel
theorem dX12_start_5 : decode cX12_start 5 = .ok (.iload_n 1, 1) := by decide +kernel
theorem dX12_start_6 : decode cX12_start 6 = .ok (.iconst 0, 1) := by decide +kernel
theorem dX12_start_7 : decode cX12_start 7 = .ok (.bipush 9, 2) := by decide +kernel
theorem dX12_start_9 : decode cX12_start 9 = .ok (.invokestatic 62, 3) := by decide +kernel
theorem dX12_start_12 : decode cX12_start 12 = .ok (.ifCond .eq 13, 3) := by decide +kernel
theorem dX12_start_15 : decode cX12_start 15 = .ok (.iload_n 2, 1) := by decide +kernel
theorem dX12_start_16 : decode cX12_start 16 = .ok (.iconst 0, 1) := by decide +kernel
theorem dX12_start_17 : decode cX12_start 17 = .ok (.bipush 9, 2) := by decide +kernel
theorem dX12_start_19 : decode cX12_start 19 = .ok (.invokestatic 62, 3) := by decide +kernel
theorem dX12_start_22 : decode cX12_start 22 = .ok (.ifCond .ne 9, 3) := by decide +kernel
theorem dX12_start_25 : decode cX12_start 25 = .ok (.aload_n 0, 1) := by decide +kernel
theorem dX12_start_26 : decode cX12_start 26 = .ok (.iconst 1, 1) := by decide +kernel
theorem dX12_start_27 : decode cX12_start 27 = .ok (.invokevirtual 78, 3) := by decide +kernel
theorem dX12_start_30 : decode cX12_start 30 = .ok (.ireturn, 1) := by decide +kernel
theorem dX12_start_31 : decode cX12_start 31 = .ok (.aload_n 0, 1) := by decide +kernel
theorem dX12_start_32 : decode cX12_start 32 = .ok (.invokevirtual 114, 3) := by decide +kernel
theorem dX12_start_35 : decode cX12_start 35 = .ok (.aload_n 0, 1) := by decide +kernel
theorem dX12_start_36 : decode cX12_start 36 = .ok (.getfield 25, 3) := by decide +kernel
theorem dX12_start_39 : decode cX12_start 39 = .ok (.bipush 10, 2) := by decide +kernel
theorem dX12_start_41 : decode cX12_start 41 = .ok (.iload_n 2, 1) := by decide +kernel
theorem dX12_start_42 : decode cX12_start 42 = .ok (.imul, 1) := by decide +kernel
theorem dX12_start_43 : decode cX12_start 43 = .ok (.iload_n 1, 1) := by decide +kernel
theorem dX12_start_44 : decode cX12_start 44 = .ok (.iadd, 1) := by decide +kernel
theorem dX12_start_45 : decode cX12_start 45 = .ok (.iaload, 1) := by decide +kernel
theorem dX12_start_46 : decode cX12_start 46 = .ok (.iconst (-1), 1) := by decide +kernel
theorem dX12_start_47 : decode cX12_start 47 = .ok (.if_icmp .ne 13, 3) := by decide +kernel
theorem dX12_start_50 : decode cX12_start 50 = .ok (.aload_n 0, 1) := by decide +kernel
theorem dX12_start_51 : decode cX12_start 51 = .ok (.getfield 7, 3) := by decide +kernel
theorem dX12_start_54 : decode cX12_start 54 = .ok (.iconst 0, 1) := by decide +kernel
theorem dX12_start_55 : decode cX12_start 55 = .ok (.iaload, 1) := by decide +kernel
theorem dX12_start_56 : decode cX12_start 56 = .ok (.iconst 5, 1) := by decide +kernel
theorem dX12_start_57 : decode cX12_start 57 = .ok (.if_icmp .ne 9, 3) := by decide +kernel
theorem dX12_start_60 : decode cX12_start 60 = .ok (.aload_n 0, 1) := by decide +kernel
theorem dX12_start_61 : decode cX12_start 61 = .ok (.iconst 2, 1) := by decide +kernel
theorem dX12_start_62 : decode cX12_start 62 = .ok (.invokevirtual 78, 3) := by decide +kernel
theorem dX12_start_65 : decode cX12_start 65 = .ok (.ireturn, 1) := by decide +kernel
theorem dX12_start_66 : decode cX12_start 66 = .ok (.aload_n 0, 1) := by decide +kernel
theorem dX12_start_67 : decode cX12_start 67 = .ok (.invokevirtual 81, 3) := by decide +kernel
theorem dX12_start_70 : decode cX12_start 70 = .ok (.aload_n 0, 1) := by decide +kernel
theorem dX12_start_71 : decode cX12_start 71 = .ok (.getfield 37, 3) := by decide +kernel
theorem dX12_start_74 : decode cX12_start 74 = .ok (.iconst 0, 1) := by decide +kernel
theorem dX12_start_75 : decode cX12_start 75 = .ok (.bipush 10, 2) := by decide +kernel
theorem dX12_start_77 : decode cX12_start 77 = .ok (.iload_n 2, 1) := by decide +kernel
theorem dX12_start_78 : decode cX12_start 78 = .ok (.imul, 1) := by decide +kernel
theorem dX12_start_79 : decode cX12_start 79 = .ok (.iload_n 1, 1) := by decide +kernel
theorem dX12_start_80 : decode cX12_start 80 = .ok (.iadd, 1) := by decide +kernel
theorem dX12_start_81 : decode cX12_start 81 = .ok (.iastore, 1) := by decide +kernel
theorem dX12_start_82 : decode cX12_start 82 = .ok (.aload_n 0, 1) := by decide +kernel
theorem dX12_start_83 : decode cX12_start 83 = .ok (.iconst 1, 1) := by decide +kernel
theorem dX12_start_84 : decode cX12_start 84 = .ok (.putfield 101, 3) := by decide +kernel
theorem dX12_start_87 : decode cX12_start 87 = .ok (.aload_n 0, 1) := by decide +kernel
theorem dX12_start_88 : decode cX12_start 88 = .ok (.invokevirtual 117, 3) := by decide +kernel
theorem dX12_start_91 : decode cX12_start 91 = .ok (.ireturn, 1) := by decide +kernel
theorem dX12_step_0 : decode cX12_step 0 = .ok (.aload_n 0, 1) := by decide +kernel
theorem dX12_step_1 : decode cX12_step 1 = .ok (.iconst 0, 1) := by decide +kernel
theorem dX12_step_2 : decode cX12_step 2 = .ok (.putfield 59, 3) := by decide +kernel
theorem dX12_step_5 : decode cX12_step 5 = .ok (.aload_n 0, 1) := by decide +kernel
theorem dX12_step_6 : decode cX12_step 6 = .ok (.iload_n 1, 1) := by decide +kernel
theorem dX12_step_7 : decode cX12_step 7 = .ok (.invokevirtual 66, 3) := by decide +kernel
theorem dX12_step_10 : decode cX12_step 10 = .ok (.ifCond .ne 9, 3) := by decide +kernel
theorem dX12_step_13 : decode cX12_step 13 = .ok (.aload_n 0, 1) := by decide +kernel
theorem dX12_step_14 : decode cX12_step 14 = .ok (.iconst 1, 1) := by decide +kernel
theorem dX12_step_15 : decode cX12_step 15 = .ok (.invokevirtual 78, 3) := by decide +kernel
theorem dX12_step_18 : decode cX12_step 18 = .ok (.ireturn, 1) := by decide +kernel
theorem dX12_step_19 : decode cX12_step 19 = .ok (.iload_n 2, 1) := by decide +kernel
theorem dX12_step_20 : decode cX12_step 20 = .ok (.iconst 0, 1) := by decide +kernel
theorem dX12_step_21 : decode cX12_step 21 = .ok (.iconst 3, 1) := by decide +kernel
theorem dX12_step_22 : decode cX12_step 22 = .ok (.invokestatic 62, 3) := by decide +kernel
theorem dX12_step_25 : decode cX12_step 25 = .ok (.ifCond .ne 9, 3) := by decide +kernel
theorem dX12_step_28 : decode cX12_step 28 = .ok (.aload_n 0, 1) := by decide +kernel
theorem dX12_step_29 : decode cX12_step 29 = .ok (.iconst 2, 1) := by decide +kernel
theorem dX12_step_30 : decode cX12_step 30 = .ok (.invokevirtual 78, 3) := by decide +kernel
theorem dX12_step_33 : decode cX12_step 33 = .ok (.ireturn, 1) := by decide +kernel
theorem dX12_step_34 : decode cX12_step 34 = .ok (.aload_n 0, 1) := by decide +kernel
theorem dX12_step_35 : decode cX12_step 35 = .ok (.invokevirtual 81, 3) := by decide +kernel
theorem dX12_step_38 : decode cX12_step 38 = .ok (.aload_n 0, 1) := by decide +kernel
theorem dX12_step_39 : decode cX12_step 39 = .ok (.invokevirtual 114, 3) := by decide +kernel
theorem dX12_step_42 : decode cX12_step 42 = .ok (.aload_n 0, 1) := by decide +kernel
theorem dX12_step_43 : decode cX12_step 43 = .ok (.iload_n 1, 1) := by decide +kernel
theorem dX12_step_44 : decode cX12_step 44 = .ok (.invokevirtual 121, 3) := by decide +kernel
theorem dX12_step_47 : decode cX12_step 47 = .ok (.iload_n 2, 1) := by decide +kernel
theorem dX12_step_48 : decode cX12_step 48 = .ok (.invokestatic 84, 3) := by decide +kernel
theorem dX12_step_51 : decode cX12_step 51 = .ok (.istore_n 3, 1) := by decide +kernel
theorem dX12_step_52 : decode cX12_step 52 = .ok (.aload_n 0, 1) := by decide +kernel
theorem dX12_step_53 : decode cX12_step 53 = .ok (.iload_n 1, 1) := by decide +kernel
theorem dX12_step_54 : decode cX12_step 54 = .ok (.iload_n 3, 1) := by decide +kernel
theorem dX12_step_55 : decode cX12_step 55 = .ok (.invokevirtual 124, 3) := by decide +kernel
theorem dX12_step_58 : decode cX12_step 58 = .ok (.istore 4, 2) := by decide +kernel
theorem dX12_step_60 : decode cX12_step 60 = .ok (.iload 4, 2) := by decide +kernel
theorem dX12_step_62 : decode cX12_step 62 = .ok (.ifCond .ne 17, 3) := by decide +kernel
theorem dX12_step_65 : decode cX12_step 65 = .ok (.aload_n 0, 1) := by decide +kernel
theorem dX12_step_66 : decode cX12_step 66 = .ok (.iload_n 1, 1) := by decide +kernel
theorem dX12_step_67 : decode cX12_step 67 = .ok (.invokevirtual 70, 3) := by decide +kernel
theorem dX12_step_70 : decode cX12_step 70 = .ok (.bipush 60, 2) := by decide +kernel
theorem dX12_step_72 : decode cX12_step 72 = .ok (.if_icmp .ne 7, 3) := by decide +kernel
theorem dX12_step_75 : decode cX12_step 75 = .ok (.iconst 4, 1) := by decide +kernel
theorem dX12_step_76 : decode cX12_step 76 = .ok (.goto 5, 3) := by decide +kernel
theorem dX12_step_79 : decode cX12_step 79 = .ok (.iload 4, 2) := by decide +kernel
theorem dX12_step_81 : decode cX12_step 81 = .ok (.istore 4, 2) := by decide +kernel
theorem dX12_step_83 : decode cX12_step 83 = .ok (.iload 4, 2) := by decide +kernel
theorem dX12_step_85 : decode cX12_step 85 = .ok (.ifCond .eq 16, 3) := by decide +kernel
theorem dX12_step_88 : decode cX12_step 88 = .ok (.aload_n 0, 1) := by decide +kernel
theorem dX12_step_89 : decode cX12_step 89 = .ok (.getfield 7, 3) := by decide +kernel
theorem dX12_step_92 : decode cX12_step 92 = .ok (.iconst 2, 1) := by decide +kernel
theorem dX12_step_93 : decode cX12_step 93 = .ok (.dup2, 1) := by decide +kernel
theorem dX12_step_94 : decode cX12_step 94 = .ok (.iaload, 1) := by decide +kernel
theorem dX12_step_95 : decode cX12_step 95 = .ok (.iconst 1, 1) := by decide +kernel
theorem dX12_step_96 : decode cX12_step 96 = .ok (.iadd, 1) := by decide +kernel
theorem dX12_step_97 : decode cX12_step 97 = .ok (.iastore, 1) := by decide +kernel
theorem dX12_step_98 : decode cX12_step 98 = .ok (.iload 4, 2) := by decide +kernel
theorem dX12_step_100 : decode cX12_step 100 = .ok (.ireturn, 1) := by decide +kernel
theorem dX12_step_101 : decode cX12_step 101 = .ok (.aload_n 0, 1) := by decide +kernel
theorem dX12_step_102 : decode cX12_step 102 = .ok (.iload_n 1, 1) := by decide +kernel
theorem dX12_step_103 : decode cX12_step 103 = .ok (.aload_n 0, 1) := by decide +kernel
theorem dX12_step_104 : decode cX12_step 104 = .ok (.iload_n 1, 1) := by decide +kernel
theorem dX12_step_105 : decode cX12_step 105 = .ok (.invokevirtual 70, 3) := by decide +kernel
theorem dX12_step_108 : decode cX12_step 108 = .ok (.iload_n 3, 1) := by decide +kernel
theorem dX12_step_109 : decode cX12_step 109 = .ok (.invokevirtual 104, 3) := by decide +kernel
theorem dX12_step_112 : decode cX12_step 112 = .ok (.aload_n 0, 1) := by decide +kernel
theorem dX12_step_113 : decode cX12_step 113 = .ok (.getfield 7, 3) := by decide +kernel
theorem dX12_step_116 : decode cX12_step 116 = .ok (.iconst 4, 1) := by decide +kernel
theorem dX12_step_117 : decode cX12_step 117 = .ok (.iload_n 1, 1) := by decide +kernel
theorem dX12_step_118 : decode cX12_step 118 = .ok (.iadd, 1) := by decide +kernel
theorem dX12_step_119 : decode cX12_step 119 = .ok (.dup2, 1) := by decide +kernel
theorem dX12_step_120 : decode cX12_step 120 = .ok (.iaload, 1) := by decide +kernel
theorem dX12_step_121 : decode cX12_step 121 = .ok (.iconst 1, 1) := by decide +kernel
theorem dX12_step_122 : decode cX12_step 122 = .ok (.iadd, 1) := by decide +kernel
theorem dX12_step_123 : decode cX12_step 123 = .ok (.iastore, 1) := by decide +kernel
theorem dX12_step_124 : decode cX12_step 124 = .ok (.aload_n 0, 1) := by decide +kernel
theorem dX12_step_125 : decode cX12_step 125 = .ok (.getfield 7, 3) := by decide +kernel
theorem dX12_step_128 : decode cX12_step 128 = .ok (.iconst 1, 1) := by decide +kernel
theorem dX12_step_129 : decode cX12_step 129 = .ok (.dup2, 1) := by decide +kernel
theorem dX12_step_130 : decode cX12_step 130 = .ok (.iaload, 1) := by decide +kernel
theorem dX12_step_131 : decode cX12_step 131 = .ok (.iconst 1, 1) := by decide +kernel
theorem dX12_step_132 : decode cX12_step 132 = .ok (.iadd, 1) := by decide +kernel
theorem dX12_step_133 : decode cX12_step 133 = .ok (.iastore, 1) := by decide +kernel
theorem dX12_step_134 : decode cX12_step 134 = .ok (.iconst 0, 1) := by decide +kernel
theorem dX12_step_135 : decode cX12_step 135 = .ok (.ireturn, 1) := by decide +kernel
theorem dX12_back_0 : decode cX12_back 0 = .ok (.aload_n 0, 1) := by decide +kernel
theorem dX12_back_1 : decode cX12_back 1 = .ok (.iconst 0, 1) := by decide +kernel
theorem dX12_back_2 : decode cX12_back 2 = .ok (.putfield 59, 3) := by decide +kernel
theorem dX12_back_5 : decode cX12_back 5 = .ok (.aload_n 0, 1) := by decide +kernel
theorem dX12_back_6 : decode cX12_back 6 = .ok (.iload_n 1, 1) := by decide +kernel
theorem dX12_back_7 : decode cX12_back 7 = .ok (.invokevirtual 66, 3) := by decide +kernel
theorem dX12_back_10 : decode cX12_back 10 = .ok (.ifCond .ne 9, 3) := by decide +kernel
theorem dX12_back_13 : decode cX12_back 13 = .ok (.aload_n 0, 1) := by decide +kernel
theorem dX12_back_14 : decode cX12_back 14 = .ok (.iconst 1, 1) := by decide +kernel
theorem dX12_back_15 : decode cX12_back 15 = .ok (.invokevirtual 78, 3) := by decide +kernel
theorem dX12_back_18 : decode cX12_back 18 = .ok (.ireturn, 1) := by decide +kernel
theorem dX12_back_19 : decode cX12_back 19 = .ok (.aload_n 0, 1) := by decide +kernel
theorem dX12_back_20 : decode cX12_back 20 = .ok (.iload_n 1, 1) := by decide +kernel
theorem dX12_back_21 : decode cX12_back 21 = .ok (.invokevirtual 70, 3) := by decide +kernel
theorem dX12_back_24 : decode cX12_back 24 = .ok (.iconst 1, 1) := by decide +kernel
theorem dX12_back_25 : decode cX12_back 25 = .ok (.if_icmp .ne 9, 3) := by decide +kernel
theorem dX12_back_28 : decode cX12_back 28 = .ok (.aload_n 0, 1) := by decide +kernel
theorem dX12_back_29 : decode cX12_back 29 = .ok (.iconst 2, 1) := by decide +kernel
theorem dX12_back_30 : decode cX12_back 30 = .ok (.invokevirtual 78, 3) := by decide +kernel
theorem dX12_back_33 : decode cX12_back 33 = .ok (.ireturn, 1) := by decide +kernel
theorem dX12_back_34 : decode cX12_back 34 = .ok (.aload_n 0, 1) := by decide +kernel
theorem dX12_back_35 : decode cX12_back 35 = .ok (.invokevirtual 81, 3) := by decide +kernel
theorem dX12_back_38 : decode cX12_back 38 = .ok (.aload_n 0, 1) := by decide +kernel
theorem dX12_back_39 : decode cX12_back 39 = .ok (.getfield 7, 3) := by decide +kernel
theorem dX12_back_42 : decode cX12_back 42 = .ok (.iconst 4, 1) := by decide +kernel
theorem dX12_back_43 : decode cX12_back 43 = .ok (.iload_n 1, 1) := by decide +kernel
theorem dX12_back_44 : decode cX12_back 44 = .ok (.iadd, 1) := by decide +kernel
theorem dX12_back_45 : decode cX12_back 45 = .ok (.dup2, 1) := by decide +kernel
theorem dX12_back_46 : decode cX12_back 46 = .ok (.iaload, 1) := by decide +kernel
theorem dX12_back_47 : decode cX12_back 47 = .ok (.iconst 1, 1) := by decide +kernel
theorem dX12_back_48 : decode cX12_back 48 = .ok (.isub, 1) := by decide +kernel
theorem dX12_back_49 : decode cX12_back 49 = .ok (.iastore, 1) := by decide +kernel
theorem dX12_back_50 : decode cX12_back 50 = .ok (.aload_n 0, 1) := by decide +kernel
theorem dX12_back_51 : decode cX12_back 51 = .ok (.iload_n 1, 1) := by decide +kernel
theorem dX12_back_52 : decode cX12_back 52 = .ok (.invokevirtual 70, 3) := by decide +kernel
theorem dX12_back_55 : decode cX12_back 55 = .ok (.ireturn, 1) := by decide +kernel
theorem dX12_slither_0 : decode cX12_slither 0 = .ok (.aload_n 0, 1) := by decide +kernel
theorem dX12_slither_1 : decode cX12_slither 1 = .ok (.iconst 0, 1) := by decide +kernel
theorem dX12_slither_2 : decode cX12_slither 2 = .ok (.putfield 59, 3) := by decide +kernel
theorem dX12_slither_5 : decode cX12_slither 5 = .ok (.aload_n 0, 1) := by decide +kernel
theorem dX12_slither_6 : decode cX12_slither 6 = .ok (.iload_n 1, 1) := by decide +kernel
theorem dX12_slither_7 : decode cX12_slither 7 = .ok (.invokevirtual 66, 3) := by decide +kernel
theorem dX12_slither_10 : decode cX12_slither 10 = .ok (.ifCond .ne 9, 3) := by decide +kernel
theorem dX12_slither_13 : decode cX12_slither 13 = .ok (.aload_n 0, 1) := by decide +kernel
theorem dX12_slither_14 : decode cX12_slither 14 = .ok (.iconst 1, 1) := by decide +kernel
theorem dX12_slither_15 : decode cX12_slither 15 = .ok (.invokevirtual 78, 3) := by decide +kernel
theorem dX12_slither_18 : decode cX12_slither 18 = .ok (.ireturn, 1) := by decide +kernel
theorem dX12_slither_19 : decode cX12_slither 19 = .ok (.iload_n 2, 1) := by decide +kernel
theorem dX12_slither_20 : decode cX12_slither 20 = .ok (.iconst 0, 1) := by decide +kernel
theorem dX12_slither_21 : decode cX12_slither 21 = .ok (.iconst 3, 1) := by decide +kernel
theorem dX12_slither_22 : decode cX12_slither 22 = .ok (.invokestatic 62, 3) := by decide +kernel
theorem dX12_slither_25 : decode cX12_slither 25 = .ok (.ifCond .ne 9, 3) := by decide +kernel
theorem dX12_slither_28 : decode cX12_slither 28 = .ok (.aload_n 0, 1) := by decide +kernel
theorem dX12_slither_29 : decode cX12_slither 29 = .ok (.iconst 2, 1) := by decide +kernel
theorem dX12_slither_30 : decode cX12_slither 30 = .ok (.invokevirtual 78, 3) := by decide +kernel
theorem dX12_slither_33 : decode cX12_slither 33 = .ok (.ireturn, 1) := by decide +kernel
theorem dX12_slither_34 : decode cX12_slither 34 = .ok (.aload_n 0, 1) := by decide +kernel
theorem dX12_slither_35 : decode cX12_slither 35 = .ok (.invokevirtual 81, 3) := by decide +kernel
theorem dX12_slither_38 : decode cX12_slither 38 = .ok (.aload_n 0, 1) := by decide +kernel
theorem dX12_slither_39 : decode cX12_slither 39 = .ok (.invokevirtual 114, 3) := by decide +kernel
theorem dX12_slither_42 : decode cX12_slither 42 = .ok (.aload_n 0, 1) := by decide +kernel
theorem dX12_slither_43 : decode cX12_slither 43 = .ok (.iload_n 1, 1) := by decide +kernel
theorem dX12_slither_44 : decode cX12_slither 44 = .ok (.invokevirtual 121, 3) := by decide +kernel
theorem dX12_slither_47 : decode cX12_slither 47 = .ok (.iload_n 2, 1) := by decide +kernel
theorem dX12_slither_48 : decode cX12_slither 48 = .ok (.invokestatic 84, 3) := by decide +kernel
theorem dX12_slither_51 : decode cX12_slither 51 = .ok (.istore_n 3, 1) := by decide +kernel
theorem dX12_slither_52 : decode cX12_slither 52 = .ok (.aload_n 0, 1) := by decide +kernel
theorem dX12_slither_53 : decode cX12_slither 53 = .ok (.getfield 25, 3) := by decide +kernel
theorem dX12_slither_56 : decode cX12_slither 56 = .ok (.aload_n 0, 1) := by decide +kernel
theorem dX12_slither_57 : decode cX12_slither 57 = .ok (.iload_n 1, 1) := by decide +kernel
theorem dX12_slither_58 : decode cX12_slither 58 = .ok (.iconst 0, 1) := by decide +kernel
theorem dX12_slither_59 : decode cX12_slither 59 = .ok (.invokevirtual 74, 3) := by decide +kernel
theorem dX12_slither_62 : decode cX12_slither 62 = .ok (.iconst (-1), 1) := by decide +kernel
theorem dX12_slither_63 : decode cX12_slither 63 = .ok (.iastore, 1) := by decide +kernel
theorem dX12_slither_64 : decode cX12_slither 64 = .ok (.aload_n 0, 1) := by decide +kernel
theorem dX12_slither_65 : decode cX12_slither 65 = .ok (.iload_n 1, 1) := by decide +kernel
theorem dX12_slither_66 : decode cX12_slither 66 = .ok (.iload_n 3, 1) := by decide +kernel
theorem dX12_slither_67 : decode cX12_slither 67 = .ok (.invokevirtual 124, 3) := by decide +kernel
theorem dX12_slither_70 : decode cX12_slither 70 = .ok (.istore 4, 2) := by decide +kernel
theorem dX12_slither_72 : decode cX12_slither 72 = .ok (.iload 4, 2) := by decide +kernel
theorem dX12_slither_74 : decode cX12_slither 74 = .ok (.ifCond .eq 16, 3) := by decide +kernel
theorem dX12_slither_77 : decode cX12_slither 77 = .ok (.aload_n 0, 1) := by decide +kernel
theorem dX12_slither_78 : decode cX12_slither 78 = .ok (.getfield 7, 3) := by decide +kernel
theorem dX12_slither_81 : decode cX12_slither 81 = .ok (.iconst 2, 1) := by decide +kernel
theorem dX12_slither_82 : decode cX12_slither 82 = .ok (.dup2, 1) := by decide +kernel
theorem dX12_slither_83 : decode cX12_slither 83 = .ok (.iaload, 1) := by decide +kernel
theorem dX12_slither_84 : decode cX12_slither 84 = .ok (.iconst 1, 1) := by decide +kernel
theorem dX12_slither_85 : decode cX12_slither 85 = .ok (.iadd, 1) := by decide +kernel
theorem dX12_slither_86 : decode cX12_slither 86 = .ok (.iastore, 1) := by decide +kernel
theorem dX12_slither_87 : decode cX12_slither 87 = .ok (.iload 4, 2) := by decide +kernel
theorem dX12_slither_89 : decode cX12_slither 89 = .ok (.ireturn, 1) := by decide +kernel
theorem dX12_slither_90 : decode cX12_slither 90 = .ok (.aload_n 0, 1) := by decide +kernel
theorem dX12_slither_91 : decode cX12_slither 91 = .ok (.iload_n 1, 1) := by decide +kernel
theorem dX12_slither_92 : decode cX12_slither 92 = .ok (.invokevirtual 108, 3) := by decide +kernel
theorem dX12_slither_95 : decode cX12_slither 95 = .ok (.iconst 0, 1) := by decide +kernel
theorem dX12_slither_96 : decode cX12_slither 96 = .ok (.istore 5, 2) := by decide +kernel
theorem dX12_slither_98 : decode cX12_slither 98 = .ok (.iload 5, 2) := by decide +kernel
theorem dX12_slither_100 : decode cX12_slither 100 = .ok (.aload_n 0, 1) := by decide +kernel
theorem dX12_slither_101 : decode cX12_slither 101 = .ok (.getfield 101, 3) := by decide +kernel
theorem dX12_slither_104 : decode cX12_slither 104 = .ok (.iconst 1, 1) := by decide +kernel
theorem dX12_slither_105 : decode cX12_slither 105 = .ok (.isub, 1) := by decide +kernel
theorem dX12_slither_106 : decode cX12_slither 106 = .ok (.if_icmp .ge 25, 3) := by decide +kernel
theorem dX12_slither_109 : decode cX12_slither 109 = .ok (.aload_n 0, 1) := by decide +kernel
theorem dX12_slither_110 : decode cX12_slither 110 = .ok (.getfield 37, 3) := by decide +kernel
theorem dX12_slither_113 : decode cX12_slither 113 = .ok (.iload 5, 2) := by decide +kernel
theorem dX12_slither_115 : decode cX12_slither 115 = .ok (.aload_n 0, 1) := by decide +kernel
theorem dX12_slither_116 : decode cX12_slither 116 = .ok (.getfield 37, 3) := by decide +kernel
theorem dX12_slither_119 : decode cX12_slither 119 = .ok (.iload 5, 2) := by decide +kernel
theorem dX12_slither_121 : decode cX12_slither 121 = .ok (.iconst 1, 1) := by decide +kernel
theorem dX12_slither_122 : decode cX12_slither 122 = .ok (.iadd, 1) := by decide +kernel
theorem dX12_slither_123 : decode cX12_slither 123 = .ok (.iaload, 1) := by decide +kernel
theorem dX12_slither_124 : decode cX12_slither 124 = .ok (.iastore, 1) := by decide +kernel
theorem dX12_slither_125 : decode cX12_slither 125 = .ok (.iinc 5 1, 3) := by decide +kernel
theorem dX12_slither_128 : decode cX12_slither 128 = .ok (.goto (-30), 3) := by decide +kernel
theorem dX12_slither_131 : decode cX12_slither 131 = .ok (.aload_n 0, 1) := by decide +kernel
theorem dX12_slither_132 : decode cX12_slither 132 = .ok (.getfield 37, 3) := by decide +kernel
theorem dX12_slither_135 : decode cX12_slither 135 = .ok (.aload_n 0, 1) := by decide +kernel
theorem dX12_slither_136 : decode cX12_slither 136 = .ok (.getfield 101, 3) := by decide +kernel
theorem dX12_slither_139 : decode cX12_slither 139 = .ok (.iconst 1, 1) := by decide +kernel
theorem dX12_slither_140 : decode cX12_slither 140 = .ok (.isub, 1) := by decide +kernel
theorem dX12_slither_141 : decode cX12_slither 141 = .ok (.iload_n 3, 1) := by decide +kernel
theorem dX12_slither_142 : decode cX12_slither 142 = .ok (.iastore, 1) := by decide +kernel
theorem dX12_slither_143 : decode cX12_slither 143 = .ok (.aload_n 0, 1) := by decide +kernel
theorem dX12_slither_144 : decode cX12_slither 144 = .ok (.iload_n 1, 1) := by decide +kernel
theorem dX12_slither_145 : decode cX12_slither 145 = .ok (.invokevirtual 111, 3) := by decide +kernel
theorem dX12_slither_148 : decode cX12_slither 148 = .ok (.aload_n 0, 1) := by decide +kernel
theorem dX12_slither_149 : decode cX12_slither 149 = .ok (.getfield 7, 3) := by decide +kernel
theorem dX12_slither_152 : decode cX12_slither 152 = .ok (.iconst 1, 1) := by decide +kernel
theorem dX12_slither_153 : decode cX12_slither 153 = .ok (.dup2, 1) := by decide +kernel
theorem dX12_slither_154 : decode cX12_slither 154 = .ok (.iaload, 1) := by decide +kernel
theorem dX12_slither_155 : decode cX12_slither 155 = .ok (.iconst 1, 1) := by decide +kernel
theorem dX12_slither_156 : decode cX12_slither 156 = .ok (.iadd, 1) := by decide +kernel
theorem dX12_slither_157 : decode cX12_slither 157 = .ok (.iastore, 1) := by decide +kernel
theorem dX12_slither_158 : decode cX12_slither 158 = .ok (.iconst 0, 1) := by decide +kernel
theorem dX12_slither_159 : decode cX12_slither 159 = .ok (.ireturn, 1) := by decide +kernel
theorem dX12_turned_0 : decode cX12_turned 0 = .ok (.iload_n 0, 1) := by decide +kernel
theorem dX12_turned_1 : decode cX12_turned 1 = .ok (.bipush 10, 2) := by decide +kernel
theorem dX12_turned_3 : decode cX12_turned 3 = .ok (.irem, 1) := by decide +kernel
theorem dX12_turned_4 : decode cX12_turned 4 = .ok (.iload_n 1, 1) := by decide +kernel
theorem dX12_turned_5 : decode cX12_turned 5 = .ok (.bipush 10, 2) := by decide +kernel
theorem dX12_turned_7 : decode cX12_turned 7 = .ok (.irem, 1) := by decide +kernel
theorem dX12_turned_8 : decode cX12_turned 8 = .ok (.isub, 1) := by decide +kernel
theorem dX12_turned_9 : decode cX12_turned 9 = .ok (.istore_n 3, 1) := by decide +kernel
theorem dX12_turned_10 : decode cX12_turned 10 = .ok (.iload_n 0, 1) := by decide +kernel
theorem dX12_turned_11 : decode cX12_turned 11 = .ok (.bipush 10, 2) := by decide +kernel
theorem dX12_turned_13 : decode cX12_turned 13 = .ok (.idiv, 1) := by decide +kernel
theorem dX12_turned_14 : decode cX12_turned 14 = .ok (.iload_n 1, 1) := by decide +kernel
theorem dX12_turned_15 : decode cX12_turned 15 = .ok (.bipush 10, 2) := by decide +kernel
theorem dX12_turned_17 : decode cX12_turned 17 = .ok (.idiv, 1) := by decide +kernel
theorem dX12_turned_18 : decode cX12_turned 18 = .ok (.isub, 1) := by decide +kernel
theorem dX12_turned_19 : decode cX12_turned 19 = .ok (.istore 4, 2) := by decide +kernel
theorem dX12_turned_21 : decode cX12_turned 21 = .ok (.iconst 0, 1) := by decide +kernel
theorem dX12_turned_22 : decode cX12_turned 22 = .ok (.istore 5, 2) := by decide +kernel
theorem dX12_turned_24 : decode cX12_turned 24 = .ok (.iload 5, 2) := by decide +kernel
theorem dX12_turned_26 : decode cX12_turned 26 = .ok (.iload_n 2, 1) := by decide +kernel
theorem dX12_turned_27 : decode cX12_turned 27 = .ok (.if_icmp .ge 20, 3) := by decide +kernel
theorem dX12_turned_30 : decode cX12_turned 30 = .ok (.iload_n 3, 1) := by decide +kernel
theorem dX12_turned_31 : decode cX12_turned 31 = .ok (.istore 6, 2) := by decide +kernel
theorem dX12_turned_33 : decode cX12_turned 33 = .ok (.iload 4, 2) := by decide +kernel
theorem dX12_turned_35 : decode cX12_turned 35 = .ok (.ineg, 1) := by decide +kernel
theorem dX12_turned_36 : decode cX12_turned 36 = .ok (.istore_n 3, 1) := by decide +kernel
theorem dX12_turned_37 : decode cX12_turned 37 = .ok (.iload 6, 2) := by decide +kernel
theorem dX12_turned_39 : decode cX12_turned 39 = .ok (.istore 4, 2) := by decide +kernel
theorem dX12_turned_41 : decode cX12_turned 41 = .ok (.iinc 5 1, 3) := by decide +kernel
theorem dX12_turned_44 : decode cX12_turned 44 = .ok (.goto (-20), 3) := by decide +kernel
theorem dX12_turned_47 : decode cX12_turned 47 = .ok (.iload_n 1, 1) := by decide +kernel
theorem dX12_turned_48 : decode cX12_turned 48 = .ok (.bipush 10, 2) := by decide +kernel
theorem dX12_turned_50 : decode cX12_turned 50 = .ok (.irem, 1) := by decide +kernel
theorem dX12_turned_51 : decode cX12_turned 51 = .ok (.iload_n 3, 1) := by decide +kernel
theorem dX12_turned_52 : decode cX12_turned 52 = .ok (.iadd, 1) := by decide +kernel
theorem dX12_turned_53 : decode cX12_turned 53 = .ok (.istore 5, 2) := by decide +kernel
theorem dX12_turned_55 : decode cX12_turned 55 = .ok (.iload_n 1, 1) := by decide +kernel
theorem dX12_turned_56 : decode cX12_turned 56 = .ok (.bipush 10, 2) := by decide +kernel
theorem dX12_turned_58 : decode cX12_turned 58 = .ok (.idiv, 1) := by decide +kernel
theorem dX12_turned_59 : decode cX12_turned 59 = .ok (.iload 4, 2) := by decide +kernel
theorem dX12_turned_61 : decode cX12_turned 61 = .ok (.iadd, 1) := by decide +kernel
theorem dX12_turned_62 : decode cX12_turned 62 = .ok (.istore 6, 2) := by decide +kernel
theorem dX12_turned_64 : decode cX12_turned 64 = .ok (.iload 5, 2) := by decide +kernel
theorem dX12_turned_66 : decode cX12_turned 66 = .ok (.iconst 0, 1) := by decide +kernel
theorem dX12_turned_67 : decode cX12_turned 67 = .ok (.bipush 9, 2) := by decide +kernel
theorem dX12_turned_69 : decode cX12_turned 69 = .ok (.invokestatic 62, 3) := by decide +kernel
theorem dX12_turned_72 : decode cX12_turned 72 = .ok (.ifCond .eq 25, 3) := by decide +kernel
theorem dX12_turned_75 : decode cX12_turned 75 = .ok (.iload 6, 2) := by decide +kernel
theorem dX12_turned_77 : decode cX12_turned 77 = .ok (.iconst 0, 1) := by decide +kernel
theorem dX12_turned_78 : decode cX12_turned 78 = .ok (.bipush 9, 2) := by decide +kernel
theorem dX12_turned_80 : decode cX12_turned 80 = .ok (.invokestatic 62, 3) := by decide +kernel
theorem dX12_turned_83 : decode cX12_turned 83 = .ok (.ifCond .eq 14, 3) := by decide +kernel
theorem dX12_turned_86 : decode cX12_turned 86 = .ok (.bipush 10, 2) := by decide +kernel
theorem dX12_turned_88 : decode cX12_turned 88 = .ok (.iload 6, 2) := by decide +kernel
theorem dX12_turned_90 : decode cX12_turned 90 = .ok (.imul, 1) := by decide +kernel
theorem dX12_turned_91 : decode cX12_turned 91 = .ok (.iload 5, 2) := by decide +kernel
theorem dX12_turned_93 : decode cX12_turned 93 = .ok (.iadd, 1) := by decide +kernel
theorem dX12_turned_94 : decode cX12_turned 94 = .ok (.goto 4, 3) := by decide +kernel
theorem dX12_turned_97 : decode cX12_turned 97 = .ok (.iconst (-1), 1) := by decide +kernel
theorem dX12_turned_98 : decode cX12_turned 98 = .ok (.ireturn, 1) := by decide +kernel
theorem dX12_whyNotTurned_0 : decode cX12_whyNotTurned 0 = .ok (.bipush 9, 2) := by decide +kernel
theorem dX12_whyNotTurned_2 : decode cX12_whyNotTurned 2 = .ok (.istore 4, 2) := by decide +kernel
theorem dX12_whyNotTurned_4 : decode cX12_whyNotTurned 4 = .ok (.iload_n 2, 1) := by decide +kernel
theorem dX12_whyNotTurned_5 : decode cX12_whyNotTurned 5 = .ok (.iconst 1, 1) := by decide +kernel
theorem dX12_whyNotTurned_6 : decode cX12_whyNotTurned 6 = .ok (.iadd, 1) := by decide +kernel
theorem dX12_whyNotTurned_7 : decode cX12_whyNotTurned 7 = .ok (.istore 5, 2) := by decide +kernel
theorem dX12_whyNotTurned_9 : decode cX12_whyNotTurned 9 = .ok (.iload 5, 2) := by decide +kernel
theorem dX12_whyNotTurned_11 : decode cX12_whyNotTurned 11 = .ok (.aload_n 0, 1) := by decide +kernel
theorem dX12_whyNotTurned_12 : decode cX12_whyNotTurned 12 = .ok (.iload_n 1, 1) := by decide +kernel
theorem dX12_whyNotTurned_13 : decode cX12_whyNotTurned 13 = .ok (.invokevirtual 70, 3) := by decide +kernel
theorem dX12_whyNotTurned_16 : decode cX12_whyNotTurned 16 = .ok (.if_icmp .ge 104, 3) := by decide +kernel
theorem dX12_whyNotTurned_19 : decode cX12_whyNotTurned 19 = .ok (.aload_n 0, 1) := by decide +kernel
theorem dX12_whyNotTurned_20 : decode cX12_whyNotTurned 20 = .ok (.iload_n 1, 1) := by decide +kernel
theorem dX12_whyNotTurned_21 : decode cX12_whyNotTurned 21 = .ok (.iload 5, 2) := by decide +kernel
theorem dX12_whyNotTurned_23 : decode cX12_whyNotTurned 23 = .ok (.invokevirtual 74, 3) := by decide +kernel
theorem dX12_whyNotTurned_26 : decode cX12_whyNotTurned 26 = .ok (.aload_n 0, 1) := by decide +kernel
theorem dX12_whyNotTurned_27 : decode cX12_whyNotTurned 27 = .ok (.iload_n 1, 1) := by decide +kernel
theorem dX12_whyNotTurned_28 : decode cX12_whyNotTurned 28 = .ok (.iload_n 2, 1) := by decide +kernel
theorem dX12_whyNotTurned_29 : decode cX12_whyNotTurned 29 = .ok (.invokevirtual 74, 3) := by decide +kernel
theorem dX12_whyNotTurned_32 : decode cX12_whyNotTurned 32 = .ok (.iload_n 3, 1) := by decide +kernel
theorem dX12_whyNotTurned_33 : decode cX12_whyNotTurned 33 = .ok (.invokestatic 127, 3) := by decide +kernel
theorem dX12_whyNotTurned_36 : decode cX12_whyNotTurned 36 = .ok (.istore 6, 2) := by decide +kernel
theorem dX12_whyNotTurned_38 : decode cX12_whyNotTurned 38 = .ok (.iload 6, 2) := by decide +kernel
theorem dX12_whyNotTurned_40 : decode cX12_whyNotTurned 40 = .ok (.iconst (-1), 1) := by decide +kernel
theorem dX12_whyNotTurned_41 : decode cX12_whyNotTurned 41 = .ok (.if_icmp .ne 7, 3) := by decide +kernel
theorem dX12_whyNotTurned_44 : decode cX12_whyNotTurned 44 = .ok (.iconst 1, 1) := by decide +kernel
theorem dX12_whyNotTurned_45 : decode cX12_whyNotTurned 45 = .ok (.goto 51, 3) := by decide +kernel
theorem dX12_whyNotTurned_48 : decode cX12_whyNotTurned 48 = .ok (.aload_n 0, 1) := by decide +kernel
theorem dX12_whyNotTurned_49 : decode cX12_whyNotTurned 49 = .ok (.getfield 25, 3) := by decide +kernel
theorem dX12_whyNotTurned_52 : decode cX12_whyNotTurned 52 = .ok (.iload 6, 2) := by decide +kernel
theorem dX12_whyNotTurned_54 : decode cX12_whyNotTurned 54 = .ok (.iaload, 1) := by decide +kernel
theorem dX12_whyNotTurned_55 : decode cX12_whyNotTurned 55 = .ok (.iconst (-1), 1) := by decide +kernel
theorem dX12_whyNotTurned_56 : decode cX12_whyNotTurned 56 = .ok (.if_icmp .ne 8, 3) := by decide +kernel
theorem dX12_whyNotTurned_59 : decode cX12_whyNotTurned 59 = .ok (.bipush 9, 2) := by decide +kernel
theorem dX12_whyNotTurned_61 : decode cX12_whyNotTurned 61 = .ok (.goto 35, 3) := by decide +kernel
theorem dX12_whyNotTurned_64 : decode cX12_whyNotTurned 64 = .ok (.aload_n 0, 1) := by decide +kernel
theorem dX12_whyNotTurned_65 : decode cX12_whyNotTurned 65 = .ok (.getfield 25, 3) := by decide +kernel
theorem dX12_whyNotTurned_68 : decode cX12_whyNotTurned 68 = .ok (.iload 6, 2) := by decide +kernel
theorem dX12_whyNotTurned_70 : decode cX12_whyNotTurned 70 = .ok (.iaload, 1) := by decide +kernel
theorem dX12_whyNotTurned_71 : decode cX12_whyNotTurned 71 = .ok (.iload_n 1, 1) := by decide +kernel
theorem dX12_whyNotTurned_72 : decode cX12_whyNotTurned 72 = .ok (.if_icmp .eq 7, 3) := by decide +kernel
theorem dX12_whyNotTurned_75 : decode cX12_whyNotTurned 75 = .ok (.iconst 3, 1) := by decide +kernel
theorem dX12_whyNotTurned_76 : decode cX12_whyNotTurned 76 = .ok (.goto 20, 3) := by decide +kernel
theorem dX12_whyNotTurned_79 : decode cX12_whyNotTurned 79 = .ok (.aload_n 0, 1) := by decide +kernel
theorem dX12_whyNotTurned_80 : decode cX12_whyNotTurned 80 = .ok (.getfield 28, 3) := by decide +kernel
theorem dX12_whyNotTurned_83 : decode cX12_whyNotTurned 83 = .ok (.iload 6, 2) := by decide +kernel
theorem dX12_whyNotTurned_85 : decode cX12_whyNotTurned 85 = .ok (.iaload, 1) := by decide +kernel
theorem dX12_whyNotTurned_86 : decode cX12_whyNotTurned 86 = .ok (.iload_n 2, 1) := by decide +kernel
theorem dX12_whyNotTurned_87 : decode cX12_whyNotTurned 87 = .ok (.if_icmp .gt 7, 3) := by decide +kernel
theorem dX12_whyNotTurned_90 : decode cX12_whyNotTurned 90 = .ok (.iconst 2, 1) := by decide +kernel
theorem dX12_whyNotTurned_91 : decode cX12_whyNotTurned 91 = .ok (.goto 5, 3) := by decide +kernel
theorem dX12_whyNotTurned_94 : decode cX12_whyNotTurned 94 = .ok (.bipush 9, 2) := by decide +kernel
theorem dX12_whyNotTurned_96 : decode cX12_whyNotTurned 96 = .ok (.istore 7, 2) := by decide +kernel
theorem dX12_whyNotTurned_98 : decode cX12_whyNotTurned 98 = .ok (.iload 7, 2) := by decide +kernel
theorem dX12_whyNotTurned_100 : decode cX12_whyNotTurned 100 = .ok (.iload 4, 2) := by decide +kernel
theorem dX12_whyNotTurned_102 : decode cX12_whyNotTurned 102 = .ok (.if_icmp .ge 8, 3) := by decide +kernel
theorem dX12_whyNotTurned_105 : decode cX12_whyNotTurned 105 = .ok (.iload 7, 2) := by decide +kernel
theorem dX12_whyNotTurned_107 : decode cX12_whyNotTurned 107 = .ok (.goto 5, 3) := by decide +kernel
theorem dX12_whyNotTurned_110 : decode cX12_whyNotTurned 110 = .ok (.iload 4, 2) := by decide +kernel
theorem dX12_whyNotTurned_112 : decode cX12_whyNotTurned 112 = .ok (.istore 4, 2) := by decide +kernel
theorem dX12_whyNotTurned_114 : decode cX12_whyNotTurned 114 = .ok (.iinc 5 1, 3) := by decide +kernel
theorem dX12_whyNotTurned_117 : decode cX12_whyNotTurned 117 = .ok (.goto (-108), 3) := by decide +kernel
theorem dX12_whyNotTurned_120 : decode cX12_whyNotTurned 120 = .ok (.iload 4, 2) := by decide +kernel
theorem dX12_whyNotTurned_122 : decode cX12_whyNotTurned 122 = .ok (.bipush 9, 2) := by decide +kernel
theorem dX12_whyNotTurned_124 : decode cX12_whyNotTurned 124 = .ok (.if_icmp .ne 7, 3) := by decide +kernel
theorem dX12_whyNotTurned_127 : decode cX12_whyNotTurned 127 = .ok (.iconst 0, 1) := by decide +kernel
theorem dX12_whyNotTurned_128 : decode cX12_whyNotTurned 128 = .ok (.goto 5, 3) := by decide +kernel
theorem dX12_whyNotTurned_131 : decode cX12_whyNotTurned 131 = .ok (.iload 4, 2) := by decide +kernel
theorem dX12_whyNotTurned_133 : decode cX12_whyNotTurned 133 = .ok (.ireturn, 1) := by decide +kernel
theorem dX12_turn_0 : decode cX12_turn 0 = .ok (.aload_n 0, 1) := by decide +kernel
theorem dX12_turn_1 : decode cX12_turn 1 = .ok (.iconst 0, 1) := by decide +kernel
theorem dX12_turn_2 : decode cX12_turn 2 = .ok (.putfield 59, 3) := by decide +kernel
theorem dX12_turn_5 : decode cX12_turn 5 = .ok (.aload_n 0, 1) := by decide +kernel
theorem dX12_turn_6 : decode cX12_turn 6 = .ok (.iload_n 1, 1) := by decide +kernel
theorem dX12_turn_7 : decode cX12_turn 7 = .ok (.iload_n 2, 1) := by decide +kernel
theorem dX12_turn_8 : decode cX12_turn 8 = .ok (.invokevirtual 131, 3) := by decide +kernel
theorem dX12_turn_11 : decode cX12_turn 11 = .ok (.ifCond .ne 9, 3) := by decide +kernel
theorem dX12_turn_14 : decode cX12_turn 14 = .ok (.aload_n 0, 1) := by decide +kernel
theorem dX12_turn_15 : decode cX12_turn 15 = .ok (.iconst 1, 1) := by decide +kernel
theorem dX12_turn_16 : decode cX12_turn 16 = .ok (.invokevirtual 78, 3) := by decide +kernel
theorem dX12_turn_19 : decode cX12_turn 19 = .ok (.ireturn, 1) := by decide +kernel
theorem dX12_turn_20 : decode cX12_turn 20 = .ok (.iload_n 3, 1) := by decide +kernel
theorem dX12_turn_21 : decode cX12_turn 21 = .ok (.iconst 1, 1) := by decide +kernel
theorem dX12_turn_22 : decode cX12_turn 22 = .ok (.iconst 3, 1) := by decide +kernel
theorem dX12_turn_23 : decode cX12_turn 23 = .ok (.invokestatic 62, 3) := by decide +kernel
theorem dX12_turn_26 : decode cX12_turn 26 = .ok (.ifCond .ne 9, 3) := by decide +kernel
theorem dX12_turn_29 : decode cX12_turn 29 = .ok (.aload_n 0, 1) := by decide +kernel
theorem dX12_turn_30 : decode cX12_turn 30 = .ok (.iconst 2, 1) := by decide +kernel
theorem dX12_turn_31 : decode cX12_turn 31 = .ok (.invokevirtual 78, 3) := by decide +kernel
theorem dX12_turn_34 : decode cX12_turn 34 = .ok (.ireturn, 1) := by decide +kernel
theorem dX12_turn_35 : decode cX12_turn 35 = .ok (.aload_n 0, 1) := by decide +kernel
theorem dX12_turn_36 : decode cX12_turn 36 = .ok (.invokevirtual 81, 3) := by decide +kernel
theorem dX12_turn_39 : decode cX12_turn 39 = .ok (.aload_n 0, 1) := by decide +kernel
theorem dX12_turn_40 : decode cX12_turn 40 = .ok (.invokevirtual 114, 3) := by decide +kernel
theorem dX12_turn_43 : decode cX12_turn 43 = .ok (.aload_n 0, 1) := by decide +kernel
theorem dX12_turn_44 : decode cX12_turn 44 = .ok (.iload_n 1, 1) := by decide +kernel
theorem dX12_turn_45 : decode cX12_turn 45 = .ok (.iload_n 2, 1) := by decide +kernel
theorem dX12_turn_46 : decode cX12_turn 46 = .ok (.iload_n 3, 1) := by decide +kernel
theorem dX12_turn_47 : decode cX12_turn 47 = .ok (.invokevirtual 134, 3) := by decide +kernel
theorem dX12_turn_50 : decode cX12_turn 50 = .ok (.istore 4, 2) := by decide +kernel
theorem dX12_turn_52 : decode cX12_turn 52 = .ok (.iload 4, 2) := by decide +kernel
theorem dX12_turn_54 : decode cX12_turn 54 = .ok (.ifCond .eq 16, 3) := by decide +kernel
theorem dX12_turn_57 : decode cX12_turn 57 = .ok (.aload_n 0, 1) := by decide +kernel
theorem dX12_turn_58 : decode cX12_turn 58 = .ok (.getfield 7, 3) := by decide +kernel
theorem dX12_turn_61 : decode cX12_turn 61 = .ok (.iconst 2, 1) := by decide +kernel
theorem dX12_turn_62 : decode cX12_turn 62 = .ok (.dup2, 1) := by decide +kernel
theorem dX12_turn_63 : decode cX12_turn 63 = .ok (.iaload, 1) := by decide +kernel
theorem dX12_turn_64 : decode cX12_turn 64 = .ok (.iconst 1, 1) := by decide +kernel
theorem dX12_turn_65 : decode cX12_turn 65 = .ok (.iadd, 1) := by decide +kernel
theorem dX12_turn_66 : decode cX12_turn 66 = .ok (.iastore, 1) := by decide +kernel
theorem dX12_turn_67 : decode cX12_turn 67 = .ok (.iload 4, 2) := by decide +kernel
theorem dX12_turn_69 : decode cX12_turn 69 = .ok (.ireturn, 1) := by decide +kernel
theorem dX12_turn_70 : decode cX12_turn 70 = .ok (.iload_n 2, 1) := by decide +kernel
theorem dX12_turn_71 : decode cX12_turn 71 = .ok (.iconst 1, 1) := by decide +kernel
theorem dX12_turn_72 : decode cX12_turn 72 = .ok (.iadd, 1) := by decide +kernel
theorem dX12_turn_73 : decode cX12_turn 73 = .ok (.istore 5, 2) := by decide +kernel
theorem dX12_turn_75 : decode cX12_turn 75 = .ok (.iload 5, 2) := by decide +kernel
theorem dX12_turn_77 : decode cX12_turn 77 = .ok (.aload_n 0, 1) := by decide +kernel
theorem dX12_turn_78 : decode cX12_turn 78 = .ok (.iload_n 1, 1) := by decide +kernel
theorem dX12_turn_79 : decode cX12_turn 79 = .ok (.invokevirtual 70, 3) := by decide +kernel
theorem dX12_turn_82 : decode cX12_turn 82 = .ok (.if_icmp .ge 33, 3) := by decide +kernel
theorem dX12_turn_85 : decode cX12_turn 85 = .ok (.aload_n 0, 1) := by decide +kernel
theorem dX12_turn_86 : decode cX12_turn 86 = .ok (.iload_n 1, 1) := by decide +kernel
theorem dX12_turn_87 : decode cX12_turn 87 = .ok (.iload 5, 2) := by decide +kernel
theorem dX12_turn_89 : decode cX12_turn 89 = .ok (.aload_n 0, 1) := by decide +kernel
theorem dX12_turn_90 : decode cX12_turn 90 = .ok (.iload_n 1, 1) := by decide +kernel
theorem dX12_turn_91 : decode cX12_turn 91 = .ok (.iload 5, 2) := by decide +kernel
theorem dX12_turn_93 : decode cX12_turn 93 = .ok (.invokevirtual 74, 3) := by decide +kernel
theorem dX12_turn_96 : decode cX12_turn 96 = .ok (.aload_n 0, 1) := by decide +kernel
theorem dX12_turn_97 : decode cX12_turn 97 = .ok (.iload_n 1, 1) := by decide +kernel
theorem dX12_turn_98 : decode cX12_turn 98 = .ok (.iload_n 2, 1) := by decide +kernel
theorem dX12_turn_99 : decode cX12_turn 99 = .ok (.invokevirtual 74, 3) := by decide +kernel
theorem dX12_turn_102 : decode cX12_turn 102 = .ok (.iload_n 3, 1) := by decide +kernel
theorem dX12_turn_103 : decode cX12_turn 103 = .ok (.invokestatic 127, 3) := by decide +kernel
theorem dX12_turn_106 : decode cX12_turn 106 = .ok (.invokevirtual 104, 3) := by decide +kernel
theorem dX12_turn_109 : decode cX12_turn 109 = .ok (.iinc 5 1, 3) := by decide +kernel
theorem dX12_turn_112 : decode cX12_turn 112 = .ok (.goto (-37), 3) := by decide +kernel
theorem dX12_turn_115 : decode cX12_turn 115 = .ok (.aload_n 0, 1) := by decide +kernel
theorem dX12_turn_116 : decode cX12_turn 116 = .ok (.getfield 7, 3) := by decide +kernel
theorem dX12_turn_119 : decode cX12_turn 119 = .ok (.iconst 3, 1) := by decide +kernel
theorem dX12_turn_120 : decode cX12_turn 120 = .ok (.dup2, 1) := by decide +kernel
theorem dX12_turn_121 : decode cX12_turn 121 = .ok (.iaload, 1) := by decide +kernel
theorem dX12_turn_122 : decode cX12_turn 122 = .ok (.iconst 1, 1) := by decide +kernel
theorem dX12_turn_123 : decode cX12_turn 123 = .ok (.iadd, 1) := by decide +kernel
theorem dX12_turn_124 : decode cX12_turn 124 = .ok (.iastore, 1) := by decide +kernel
theorem dX12_turn_125 : decode cX12_turn 125 = .ok (.iconst 0, 1) := by decide +kernel
theorem dX12_turn_126 : decode cX12_turn 126 = .ok (.ireturn, 1) := by decide +kernel
theorem dX12_reverseRow_0 : decode cX12_reverseRow 0 = .ok (.iconst 0, 1) := by decide +kernel
theorem dX12_reverseRow_1 : decode cX12_reverseRow 1 = .ok (.istore_n 1, 1) := by decide +kernel
theorem dX12_reverseRow_2 : decode cX12_reverseRow 2 = .ok (.iload_n 1, 1) := by decide +kernel
theorem dX12_reverseRow_3 : decode cX12_reverseRow 3 = .ok (.aload_n 0, 1) := by decide +kernel
theorem dX12_reverseRow_4 : decode cX12_reverseRow 4 = .ok (.getfield 101, 3) := by decide +kernel
theorem dX12_reverseRow_7 : decode cX12_reverseRow 7 = .ok (.iconst 2, 1) := by decide +kernel
theorem dX12_reverseRow_8 : decode cX12_reverseRow 8 = .ok (.idiv, 1) := by decide +kernel
theorem dX12_reverseRow_9 : decode cX12_reverseRow 9 = .ok (.if_icmp .ge 49, 3) := by decide +kernel
theorem dX12_reverseRow_12 : decode cX12_reverseRow 12 = .ok (.aload_n 0, 1) := by decide +kernel
theorem dX12_reverseRow_13 : decode cX12_reverseRow 13 = .ok (.getfield 37, 3) := by decide +kernel
theorem dX12_reverseRow_16 : decode cX12_reverseRow 16 = .ok (.iload_n 1, 1) := by decide +kernel
theorem dX12_reverseRow_17 : decode cX12_reverseRow 17 = .ok (.iaload, 1) := by decide +kernel
theorem dX12_reverseRow_18 : decode cX12_reverseRow 18 = .ok (.istore_n 2, 1) := by decide +kernel
theorem dX12_reverseRow_19 : decode cX12_reverseRow 19 = .ok (.aload_n 0, 1) := by decide +kernel
theorem dX12_reverseRow_20 : decode cX12_reverseRow 20 = .ok (.getfield 37, 3) := by decide +kernel
theorem dX12_reverseRow_23 : decode cX12_reverseRow 23 = .ok (.iload_n 1, 1) := by decide +kernel
theorem dX12_reverseRow_24 : decode cX12_reverseRow 24 = .ok (.aload_n 0, 1) := by decide +kernel
theorem dX12_reverseRow_25 : decode cX12_reverseRow 25 = .ok (.getfield 37, 3) := by decide +kernel
theorem dX12_reverseRow_28 : decode cX12_reverseRow 28 = .ok (.aload_n 0, 1) := by decide +kernel
theorem dX12_reverseRow_29 : decode cX12_reverseRow 29 = .ok (.getfield 101, 3) := by decide +kernel
theorem dX12_reverseRow_32 : decode cX12_reverseRow 32 = .ok (.iconst 1, 1) := by decide +kernel
theorem dX12_reverseRow_33 : decode cX12_reverseRow 33 = .ok (.isub, 1) := by decide +kernel
theorem dX12_reverseRow_34 : decode cX12_reverseRow 34 = .ok (.iload_n 1, 1) := by decide +kernel
theorem dX12_reverseRow_35 : decode cX12_reverseRow 35 = .ok (.isub, 1) := by decide +kernel
theorem dX12_reverseRow_36 : decode cX12_reverseRow 36 = .ok (.iaload, 1) := by decide +kernel
theorem dX12_reverseRow_37 : decode cX12_reverseRow 37 = .ok (.iastore, 1) := by decide +kernel
theorem dX12_reverseRow_38 : decode cX12_reverseRow 38 = .ok (.aload_n 0, 1) := by decide +kernel
theorem dX12_reverseRow_39 : decode cX12_reverseRow 39 = .ok (.getfield 37, 3) := by decide +kernel
theorem dX12_reverseRow_42 : decode cX12_reverseRow 42 = .ok (.aload_n 0, 1) := by decide +kernel
theorem dX12_reverseRow_43 : decode cX12_reverseRow 43 = .ok (.getfield 101, 3) := by decide +kernel
theorem dX12_reverseRow_46 : decode cX12_reverseRow 46 = .ok (.iconst 1, 1) := by decide +kernel
theorem dX12_reverseRow_47 : decode cX12_reverseRow 47 = .ok (.isub, 1) := by decide +kernel
theorem dX12_reverseRow_48 : decode cX12_reverseRow 48 = .ok (.iload_n 1, 1) := by decide +kernel
theorem dX12_reverseRow_49 : decode cX12_reverseRow 49 = .ok (.isub, 1) := by decide +kernel
theorem dX12_reverseRow_50 : decode cX12_reverseRow 50 = .ok (.iload_n 2, 1) := by decide +kernel
theorem dX12_reverseRow_51 : decode cX12_reverseRow 51 = .ok (.iastore, 1) := by decide +kernel
theorem dX12_reverseRow_52 : decode cX12_reverseRow 52 = .ok (.iinc 1 1, 3) := by decide +kernel
theorem dX12_reverseRow_55 : decode cX12_reverseRow 55 = .ok (.goto (-53), 3) := by decide +kernel
theorem dX12_reverseRow_58 : decode cX12_reverseRow 58 = .ok (.return_, 1) := by decide +kernel
theorem dX12_reverse_0 : decode cX12_reverse 0 = .ok (.aload_n 0, 1) := by decide +kernel
theorem dX12_reverse_1 : decode cX12_reverse 1 = .ok (.iconst 0, 1) := by decide +kernel
theorem dX12_reverse_2 : decode cX12_reverse 2 = .ok (.putfield 59, 3) := by decide +kernel
theorem dX12_reverse_5 : decode cX12_reverse 5 = .ok (.aload_n 0, 1) := by decide +kernel
theorem dX12_reverse_6 : decode cX12_reverse 6 = .ok (.iload_n 1, 1) := by decide +kernel
theorem dX12_reverse_7 : decode cX12_reverse 7 = .ok (.invokevirtual 66, 3) := by decide +kernel
theorem dX12_reverse_10 : decode cX12_reverse 10 = .ok (.ifCond .ne 9, 3) := by decide +kernel
theorem dX12_reverse_13 : decode cX12_reverse 13 = .ok (.aload_n 0, 1) := by decide +kernel
theorem dX12_reverse_14 : decode cX12_reverse 14 = .ok (.iconst 1, 1) := by decide +kernel
theorem dX12_reverse_15 : decode cX12_reverse 15 = .ok (.invokevirtual 78, 3) := by decide +kernel
theorem dX12_reverse_18 : decode cX12_reverse 18 = .ok (.ireturn, 1) := by decide +kernel
theorem dX12_reverse_19 : decode cX12_reverse 19 = .ok (.aload_n 0, 1) := by decide +kernel
theorem dX12_reverse_20 : decode cX12_reverse 20 = .ok (.invokevirtual 81, 3) := by decide +kernel
theorem dX12_reverse_23 : decode cX12_reverse 23 = .ok (.aload_n 0, 1) := by decide +kernel
theorem dX12_reverse_24 : decode cX12_reverse 24 = .ok (.iload_n 1, 1) := by decide +kernel
theorem dX12_reverse_25 : decode cX12_reverse 25 = .ok (.invokevirtual 108, 3) := by decide +kernel
theorem dX12_reverse_28 : decode cX12_reverse 28 = .ok (.aload_n 0, 1) := by decide +kernel
theorem dX12_reverse_29 : decode cX12_reverse 29 = .ok (.invokevirtual 137, 3) := by decide +kernel
theorem dX12_reverse_32 : decode cX12_reverse 32 = .ok (.aload_n 0, 1) := by decide +kernel
theorem dX12_reverse_33 : decode cX12_reverse 33 = .ok (.iload_n 1, 1) := by decide +kernel
theorem dX12_reverse_34 : decode cX12_reverse 34 = .ok (.invokevirtual 111, 3) := by decide +kernel
theorem dX12_reverse_37 : decode cX12_reverse 37 = .ok (.aload_n 0, 1) := by decide +kernel
theorem dX12_reverse_38 : decode cX12_reverse 38 = .ok (.iload_n 1, 1) := by decide +kernel
theorem dX12_reverse_39 : decode cX12_reverse 39 = .ok (.invokevirtual 121, 3) := by decide +kernel
theorem dX12_reverse_42 : decode cX12_reverse 42 = .ok (.ireturn, 1) := by decide +kernel
theorem dX12_join_0 : decode cX12_join 0 = .ok (.aload_n 0, 1) := by decide +kernel
theorem dX12_join_1 : decode cX12_join 1 = .ok (.iconst 0, 1) := by decide +kernel
theorem dX12_join_2 : decode cX12_join 2 = .ok (.putfield 59, 3) := by decide +kernel
theorem dX12_join_5 : decode cX12_join 5 = .ok (.aload_n 0, 1) := by decide +kernel
theorem dX12_join_6 : decode cX12_join 6 = .ok (.iload_n 1, 1) := by decide +kernel
theorem dX12_join_7 : decode cX12_join 7 = .ok (.invokevirtual 66, 3) := by decide +kernel
theorem dX12_join_10 : decode cX12_join 10 = .ok (.ifCond .eq 11, 3) := by decide +kernel
theorem dX12_join_13 : decode cX12_join 13 = .ok (.aload_n 0, 1) := by decide +kernel
theorem dX12_join_14 : decode cX12_join 14 = .ok (.iload_n 2, 1) := by decide +kernel
theorem dX12_join_15 : decode cX12_join 15 = .ok (.invokevirtual 66, 3) := by decide +kernel
theorem dX12_join_18 : decode cX12_join 18 = .ok (.ifCond .ne 9, 3) := by decide +kernel
theorem dX12_join_21 : decode cX12_join 21 = .ok (.aload_n 0, 1) := by decide +kernel
theorem dX12_join_22 : decode cX12_join 22 = .ok (.iconst 1, 1) := by decide +kernel
theorem dX12_join_23 : decode cX12_join 23 = .ok (.invokevirtual 78, 3) := by decide +kernel
theorem dX12_join_26 : decode cX12_join 26 = .ok (.ireturn, 1) := by decide +kernel
theorem dX12_join_27 : decode cX12_join 27 = .ok (.iload_n 1, 1) := by decide +kernel
theorem dX12_join_28 : decode cX12_join 28 = .ok (.iload_n 2, 1) := by decide +kernel
theorem dX12_join_29 : decode cX12_join 29 = .ok (.if_icmp .ne 9, 3) := by decide +kernel
theorem dX12_join_32 : decode cX12_join 32 = .ok (.aload_n 0, 1) := by decide +kernel
theorem dX12_join_33 : decode cX12_join 33 = .ok (.iconst 2, 1) := by decide +kernel
theorem dX12_join_34 : decode cX12_join 34 = .ok (.invokevirtual 78, 3) := by decide +kernel
theorem dX12_join_37 : decode cX12_join 37 = .ok (.ireturn, 1) := by decide +kernel
theorem dX12_join_38 : decode cX12_join 38 = .ok (.aload_n 0, 1) := by decide +kernel
theorem dX12_join_39 : decode cX12_join 39 = .ok (.iload_n 1, 1) := by decide +kernel
theorem dX12_join_40 : decode cX12_join 40 = .ok (.invokevirtual 70, 3) := by decide +kernel
theorem dX12_join_43 : decode cX12_join 43 = .ok (.aload_n 0, 1) := by decide +kernel
theorem dX12_join_44 : decode cX12_join 44 = .ok (.iload_n 2, 1) := by decide +kernel
theorem dX12_join_45 : decode cX12_join 45 = .ok (.invokevirtual 70, 3) := by decide +kernel
theorem dX12_join_48 : decode cX12_join 48 = .ok (.iadd, 1) := by decide +kernel
theorem dX12_join_49 : decode cX12_join 49 = .ok (.istore_n 3, 1) := by decide +kernel
theorem dX12_join_50 : decode cX12_join 50 = .ok (.aload_n 0, 1) := by decide +kernel
theorem dX12_join_51 : decode cX12_join 51 = .ok (.iload_n 1, 1) := by decide +kernel
theorem dX12_join_52 : decode cX12_join 52 = .ok (.invokevirtual 121, 3) := by decide +kernel
theorem dX12_join_55 : decode cX12_join 55 = .ok (.aload_n 0, 1) := by decide +kernel
theorem dX12_join_56 : decode cX12_join 56 = .ok (.iload_n 2, 1) := by decide +kernel
theorem dX12_join_57 : decode cX12_join 57 = .ok (.invokevirtual 121, 3) := by decide +kernel
theorem dX12_join_60 : decode cX12_join 60 = .ok (.invokestatic 140, 3) := by decide +kernel
theorem dX12_join_63 : decode cX12_join 63 = .ok (.iconst (-1), 1) := by decide +kernel
theorem dX12_join_64 : decode cX12_join 64 = .ok (.if_icmp .eq 9, 3) := by decide +kernel
theorem dX12_join_67 : decode cX12_join 67 = .ok (.iload_n 3, 1) := by decide +kernel
theorem dX12_join_68 : decode cX12_join 68 = .ok (.bipush 60, 2) := by decide +kernel
theorem dX12_join_70 : decode cX12_join 70 = .ok (.if_icmp .le 9, 3) := by decide +kernel
theorem dX12_join_73 : decode cX12_join 73 = .ok (.aload_n 0, 1) := by decide +kernel
theorem dX12_join_74 : decode cX12_join 74 = .ok (.iconst 3, 1) := by decide +kernel
theorem dX12_join_75 : decode cX12_join 75 = .ok (.invokevirtual 78, 3) := by decide +kernel
theorem dX12_join_78 : decode cX12_join 78 = .ok (.ireturn, 1) := by decide +kernel
theorem dX12_join_79 : decode cX12_join 79 = .ok (.aload_n 0, 1) := by decide +kernel
theorem dX12_join_80 : decode cX12_join 80 = .ok (.invokevirtual 81, 3) := by decide +kernel
theorem dX12_join_83 : decode cX12_join 83 = .ok (.aload_n 0, 1) := by decide +kernel
theorem dX12_join_84 : decode cX12_join 84 = .ok (.iload_n 1, 1) := by decide +kernel
theorem dX12_join_85 : decode cX12_join 85 = .ok (.invokevirtual 70, 3) := by decide +kernel
theorem dX12_join_88 : decode cX12_join 88 = .ok (.istore 4, 2) := by decide +kernel
theorem dX12_join_90 : decode cX12_join 90 = .ok (.iload 4, 2) := by decide +kernel
theorem dX12_join_92 : decode cX12_join 92 = .ok (.istore 5, 2) := by decide +kernel
theorem dX12_join_94 : decode cX12_join 94 = .ok (.iload 5, 2) := by decide +kernel
theorem dX12_join_96 : decode cX12_join 96 = .ok (.iload_n 3, 1) := by decide +kernel
theorem dX12_join_97 : decode cX12_join 97 = .ok (.if_icmp .ge 27, 3) := by decide +kernel
theorem dX12_join_100 : decode cX12_join 100 = .ok (.aload_n 0, 1) := by decide +kernel
theorem dX12_join_101 : decode cX12_join 101 = .ok (.iload_n 1, 1) := by decide +kernel
theorem dX12_join_102 : decode cX12_join 102 = .ok (.iload 5, 2) := by decide +kernel
theorem dX12_join_104 : decode cX12_join 104 = .ok (.aload_n 0, 1) := by decide +kernel
theorem dX12_join_105 : decode cX12_join 105 = .ok (.iload_n 2, 1) := by decide +kernel
theorem dX12_join_106 : decode cX12_join 106 = .ok (.iload_n 3, 1) := by decide +kernel
theorem dX12_join_107 : decode cX12_join 107 = .ok (.iconst 1, 1) := by decide +kernel
theorem dX12_join_108 : decode cX12_join 108 = .ok (.isub, 1) := by decide +kernel
theorem dX12_join_109 : decode cX12_join 109 = .ok (.iload 5, 2) := by decide +kernel
theorem dX12_join_111 : decode cX12_join 111 = .ok (.isub, 1) := by decide +kernel
theorem dX12_join_112 : decode cX12_join 112 = .ok (.invokevirtual 74, 3) := by decide +kernel
theorem dX12_join_115 : decode cX12_join 115 = .ok (.invokevirtual 104, 3) := by decide +kernel
theorem dX12_join_118 : decode cX12_join 118 = .ok (.iinc 5 1, 3) := by decide +kernel
theorem dX12_join_121 : decode cX12_join 121 = .ok (.goto (-27), 3) := by decide +kernel
theorem dX12_join_124 : decode cX12_join 124 = .ok (.aload_n 0, 1) := by decide +kernel
theorem dX12_join_125 : decode cX12_join 125 = .ok (.getfield 7, 3) := by decide +kernel
theorem dX12_join_128 : decode cX12_join 128 = .ok (.iconst 4, 1) := by decide +kernel
theorem dX12_join_129 : decode cX12_join 129 = .ok (.iload_n 1, 1) := by decide +kernel
theorem dX12_join_130 : decode cX12_join 130 = .ok (.iadd, 1) := by decide +kernel
theorem dX12_join_131 : decode cX12_join 131 = .ok (.iload_n 3, 1) := by decide +kernel
theorem dX12_join_132 : decode cX12_join 132 = .ok (.iastore, 1) := by decide +kernel
theorem dX12_join_133 : decode cX12_join 133 = .ok (.aload_n 0, 1) := by decide +kernel
theorem dX12_join_134 : decode cX12_join 134 = .ok (.iload_n 2, 1) := by decide +kernel
theorem dX12_join_135 : decode cX12_join 135 = .ok (.invokevirtual 143, 3) := by decide +kernel
theorem dX12_join_138 : decode cX12_join 138 = .ok (.iload_n 3, 1) := by decide +kernel
theorem dX12_join_139 : decode cX12_join 139 = .ok (.ireturn, 1) := by decide +kernel
theorem dX12_split_0 : decode cX12_split 0 = .ok (.aload_n 0, 1) := by decide +kernel
theorem dX12_split_1 : decode cX12_split 1 = .ok (.iconst 0, 1) := by decide +kernel
theorem dX12_split_2 : decode cX12_split 2 = .ok (.putfield 59, 3) := by decide +kernel
theorem dX12_split_5 : decode cX12_split 5 = .ok (.aload_n 0, 1) := by decide +kernel
theorem dX12_split_6 : decode cX12_split 6 = .ok (.iload_n 1, 1) := by decide +kernel
theorem dX12_split_7 : decode cX12_split 7 = .ok (.iload_n 2, 1) := by decide +kernel
theorem dX12_split_8 : decode cX12_split 8 = .ok (.invokevirtual 131, 3) := by decide +kernel
theorem dX12_split_11 : decode cX12_split 11 = .ok (.ifCond .eq 14, 3) := by decide +kernel
theorem dX12_split_14 : decode cX12_split 14 = .ok (.iload_n 2, 1) := by decide +kernel
theorem dX12_split_15 : decode cX12_split 15 = .ok (.aload_n 0, 1) := by decide +kernel
theorem dX12_split_16 : decode cX12_split 16 = .ok (.iload_n 1, 1) := by decide +kernel
theorem dX12_split_17 : decode cX12_split 17 = .ok (.invokevirtual 70, 3) := by decide +kernel
theorem dX12_split_20 : decode cX12_split 20 = .ok (.iconst 1, 1) := by decide +kernel
theorem dX12_split_21 : decode cX12_split 21 = .ok (.isub, 1) := by decide +kernel
theorem dX12_split_22 : decode cX12_split 22 = .ok (.if_icmp .ne 9, 3) := by decide +kernel
theorem dX12_split_25 : decode cX12_split 25 = .ok (.aload_n 0, 1) := by decide +kernel
theorem dX12_split_26 : decode cX12_split 26 = .ok (.iconst 1, 1) := by decide +kernel
theorem dX12_split_27 : decode cX12_split 27 = .ok (.invokevirtual 78, 3) := by decide +kernel
theorem dX12_split_30 : decode cX12_split 30 = .ok (.ireturn, 1) := by decide +kernel
theorem dX12_split_31 : decode cX12_split 31 = .ok (.aload_n 0, 1) := by decide +kernel
theorem dX12_split_32 : decode cX12_split 32 = .ok (.getfield 7, 3) := by decide +kernel
theorem dX12_split_35 : decode cX12_split 35 = .ok (.iconst 0, 1) := by decide +kernel
theorem dX12_split_36 : decode cX12_split 36 = .ok (.iaload, 1) := by decide +kernel
theorem dX12_split_37 : decode cX12_split 37 = .ok (.iconst 5, 1) := by decide +kernel
theorem dX12_split_38 : decode cX12_split 38 = .ok (.if_icmp .ne 9, 3) := by decide +kernel
theorem dX12_split_41 : decode cX12_split 41 = .ok (.aload_n 0, 1) := by decide +kernel
theorem dX12_split_42 : decode cX12_split 42 = .ok (.iconst 2, 1) := by decide +kernel
theorem dX12_split_43 : decode cX12_split 43 = .ok (.invokevirtual 78, 3) := by decide +kernel
theorem dX12_split_46 : decode cX12_split 46 = .ok (.ireturn, 1) := by decide +kernel
theorem dX12_split_47 : decode cX12_split 47 = .ok (.aload_n 0, 1) := by decide +kernel
theorem dX12_split_48 : decode cX12_split 48 = .ok (.invokevirtual 81, 3) := by decide +kernel
theorem dX12_split_51 : decode cX12_split 51 = .ok (.aload_n 0, 1) := by decide +kernel
theorem dX12_split_52 : decode cX12_split 52 = .ok (.aload_n 0, 1) := by decide +kernel
theorem dX12_split_53 : decode cX12_split 53 = .ok (.iload_n 1, 1) := by decide +kernel
theorem dX12_split_54 : decode cX12_split 54 = .ok (.invokevirtual 70, 3) := by decide +kernel
theorem dX12_split_57 : decode cX12_split 57 = .ok (.iload_n 2, 1) := by decide +kernel
theorem dX12_split_58 : decode cX12_split 58 = .ok (.isub, 1) := by decide +kernel
theorem dX12_split_59 : decode cX12_split 59 = .ok (.iconst 1, 1) := by decide +kernel
theorem dX12_split_60 : decode cX12_split 60 = .ok (.isub, 1) := by decide +kernel
theorem dX12_split_61 : decode cX12_split 61 = .ok (.putfield 101, 3) := by decide +kernel
theorem dX12_split_64 : decode cX12_split 64 = .ok (.iconst 0, 1) := by decide +kernel
theorem dX12_split_65 : decode cX12_split 65 = .ok (.istore_n 3, 1) := by decide +kernel
theorem dX12_split_66 : decode cX12_split 66 = .ok (.iload_n 3, 1) := by decide +kernel
theorem dX12_split_67 : decode cX12_split 67 = .ok (.aload_n 0, 1) := by decide +kernel
theorem dX12_split_68 : decode cX12_split 68 = .ok (.getfield 101, 3) := by decide +kernel
theorem dX12_split_71 : decode cX12_split 71 = .ok (.if_icmp .ge 25, 3) := by decide +kernel
theorem dX12_split_74 : decode cX12_split 74 = .ok (.aload_n 0, 1) := by decide +kernel
theorem dX12_split_75 : decode cX12_split 75 = .ok (.getfield 37, 3) := by decide +kernel
theorem dX12_split_78 : decode cX12_split 78 = .ok (.iload_n 3, 1) := by decide +kernel
theorem dX12_split_79 : decode cX12_split 79 = .ok (.aload_n 0, 1) := by decide +kernel
theorem dX12_split_80 : decode cX12_split 80 = .ok (.iload_n 1, 1) := by decide +kernel
theorem dX12_split_81 : decode cX12_split 81 = .ok (.iload_n 2, 1) := by decide +kernel
theorem dX12_split_82 : decode cX12_split 82 = .ok (.iconst 1, 1) := by decide +kernel
theorem dX12_split_83 : decode cX12_split 83 = .ok (.iadd, 1) := by decide +kernel
theorem dX12_split_84 : decode cX12_split 84 = .ok (.iload_n 3, 1) := by decide +kernel
theorem dX12_split_85 : decode cX12_split 85 = .ok (.iadd, 1) := by decide +kernel
theorem dX12_split_86 : decode cX12_split 86 = .ok (.invokevirtual 74, 3) := by decide +kernel
theorem dX12_split_89 : decode cX12_split 89 = .ok (.iastore, 1) := by decide +kernel
theorem dX12_split_90 : decode cX12_split 90 = .ok (.iinc 3 1, 3) := by decide +kernel
theorem dX12_split_93 : decode cX12_split 93 = .ok (.goto (-27), 3) := by decide +kernel
theorem dX12_split_96 : decode cX12_split 96 = .ok (.aload_n 0, 1) := by decide +kernel
theorem dX12_split_97 : decode cX12_split 97 = .ok (.getfield 7, 3) := by decide +kernel
theorem dX12_split_100 : decode cX12_split 100 = .ok (.iconst 4, 1) := by decide +kernel
theorem dX12_split_101 : decode cX12_split 101 = .ok (.iload_n 1, 1) := by decide +kernel
theorem dX12_split_102 : decode cX12_split 102 = .ok (.iadd, 1) := by decide +kernel
theorem dX12_split_103 : decode cX12_split 103 = .ok (.iload_n 2, 1) := by decide +kernel
theorem dX12_split_104 : decode cX12_split 104 = .ok (.iconst 1, 1) := by decide +kernel
theorem dX12_split_105 : decode cX12_split 105 = .ok (.iadd, 1) := by decide +kernel
theorem dX12_split_106 : decode cX12_split 106 = .ok (.iastore, 1) := by decide +kernel
theorem dX12_split_107 : decode cX12_split 107 = .ok (.aload_n 0, 1) := by decide +kernel
theorem dX12_split_108 : decode cX12_split 108 = .ok (.invokevirtual 117, 3) := by decide +kernel
theorem dX12_split_111 : decode cX12_split 111 = .ok (.ireturn, 1) := by decide +kernel
theorem dX12_remove_0 : decode cX12_remove 0 = .ok (.aload_n 0, 1) := by decide +kernel
theorem dX12_remove_1 : decode cX12_remove 1 = .ok (.iconst 0, 1) := by decide +kernel
theorem dX12_remove_2 : decode cX12_remove 2 = .ok (.putfield 59, 3) := by decide +kernel
theorem dX12_remove_5 : decode cX12_remove 5 = .ok (.aload_n 0, 1) := by decide +kernel
theorem dX12_remove_6 : decode cX12_remove 6 = .ok (.iload_n 1, 1) := by decide +kernel
theorem dX12_remove_7 : decode cX12_remove 7 = .ok (.invokevirtual 66, 3) := by decide +kernel
theorem dX12_remove_10 : decode cX12_remove 10 = .ok (.ifCond .ne 9, 3) := by decide +kernel
theorem dX12_remove_13 : decode cX12_remove 13 = .ok (.aload_n 0, 1) := by decide +kernel
theorem dX12_remove_14 : decode cX12_remove 14 = .ok (.iconst 1, 1) := by decide +kernel
theorem dX12_remove_15 : decode cX12_remove 15 = .ok (.invokevirtual 78, 3) := by decide +kernel
theorem dX12_remove_18 : decode cX12_remove 18 = .ok (.ireturn, 1) := by decide +kernel
theorem dX12_remove_19 : decode cX12_remove 19 = .ok (.aload_n 0, 1) := by decide +kernel
theorem dX12_remove_20 : decode cX12_remove 20 = .ok (.invokevirtual 81, 3) := by decide +kernel
theorem dX12_remove_23 : decode cX12_remove 23 = .ok (.aload_n 0, 1) := by decide +kernel
theorem dX12_remove_24 : decode cX12_remove 24 = .ok (.iload_n 1, 1) := by decide +kernel
theorem dX12_remove_25 : decode cX12_remove 25 = .ok (.invokevirtual 143, 3) := by decide +kernel
theorem dX12_remove_28 : decode cX12_remove 28 = .ok (.aload_n 0, 1) := by decide +kernel
theorem dX12_remove_29 : decode cX12_remove 29 = .ok (.getfield 7, 3) := by decide +kernel
theorem dX12_remove_32 : decode cX12_remove 32 = .ok (.iconst 0, 1) := by decide +kernel
theorem dX12_remove_33 : decode cX12_remove 33 = .ok (.iaload, 1) := by decide +kernel
theorem dX12_remove_34 : decode cX12_remove 34 = .ok (.ireturn, 1) := by decide +kernel
theorem dX12_append_0 : decode cX12_append 0 = .ok (.aload_n 0, 1) := by decide +kernel
theorem dX12_append_1 : decode cX12_append 1 = .ok (.iconst 0, 1) := by decide +kernel
theorem dX12_append_2 : decode cX12_append 2 = .ok (.putfield 59, 3) := by decide +kernel
theorem dX12_append_5 : decode cX12_append 5 = .ok (.iload_n 1, 1) := by decide +kernel
theorem dX12_append_6 : decode cX12_append 6 = .ok (.bipush 33, 2) := by decide +kernel
theorem dX12_append_8 : decode cX12_append 8 = .ok (.bipush 126, 2) := by decide +kernel
theorem dX12_append_10 : decode cX12_append 10 = .ok (.invokestatic 62, 3) := by decide +kernel
theorem dX12_append_13 : decode cX12_append 13 = .ok (.ifCond .ne 9, 3) := by decide +kernel
theorem dX12_append_16 : decode cX12_append 16 = .ok (.aload_n 0, 1) := by decide +kernel
theorem dX12_append_17 : decode cX12_append 17 = .ok (.iconst 1, 1) := by decide +kernel
theorem dX12_append_18 : decode cX12_append 18 = .ok (.invokevirtual 78, 3) := by decide +kernel
theorem dX12_append_21 : decode cX12_append 21 = .ok (.ireturn, 1) := by decide +kernel
theorem dX12_append_22 : decode cX12_append 22 = .ok (.aload_n 0, 1) := by decide +kernel
theorem dX12_append_23 : decode cX12_append 23 = .ok (.getfield 146, 3) := by decide +kernel
theorem dX12_append_26 : decode cX12_append 26 = .ok (.bipush 70, 2) := by decide +kernel
theorem dX12_append_28 : decode cX12_append 28 = .ok (.if_icmp .ne 9, 3) := by decide +kernel
theorem dX12_append_31 : decode cX12_append 31 = .ok (.aload_n 0, 1) := by decide +kernel
theorem dX12_append_32 : decode cX12_append 32 = .ok (.iconst 2, 1) := by decide +kernel
theorem dX12_append_33 : decode cX12_append 33 = .ok (.invokevirtual 78, 3) := by decide +kernel
theorem dX12_append_36 : decode cX12_append 36 = .ok (.ireturn, 1) := by decide +kernel
theorem dX12_append_37 : decode cX12_append 37 = .ok (.aload_n 0, 1) := by decide +kernel
theorem dX12_append_38 : decode cX12_append 38 = .ok (.getfield 22, 3) := by decide +kernel
theorem dX12_append_41 : decode cX12_append 41 = .ok (.aload_n 0, 1) := by decide +kernel
theorem dX12_append_42 : decode cX12_append 42 = .ok (.getfield 146, 3) := by decide +kernel
theorem dX12_append_45 : decode cX12_append 45 = .ok (.iload_n 1, 1) := by decide +kernel
theorem dX12_append_46 : decode cX12_append 46 = .ok (.iastore, 1) := by decide +kernel
theorem dX12_append_47 : decode cX12_append 47 = .ok (.aload_n 0, 1) := by decide +kernel
theorem dX12_append_48 : decode cX12_append 48 = .ok (.dup, 1) := by decide +kernel
theorem dX12_append_49 : decode cX12_append 49 = .ok (.getfield 146, 3) := by decide +kernel
theorem dX12_append_52 : decode cX12_append 52 = .ok (.iconst 1, 1) := by decide +kernel
theorem dX12_append_53 : decode cX12_append 53 = .ok (.iadd, 1) := by decide +kernel
theorem dX12_append_54 : decode cX12_append 54 = .ok (.putfield 146, 3) := by decide +kernel
theorem dX12_append_57 : decode cX12_append 57 = .ok (.aload_n 0, 1) := by decide +kernel
theorem dX12_append_58 : decode cX12_append 58 = .ok (.getfield 146, 3) := by decide +kernel
theorem dX12_append_61 : decode cX12_append 61 = .ok (.ireturn, 1) := by decide +kernel
theorem dX12_clearBuffer_0 : decode cX12_clearBuffer 0 = .ok (.aload_n 0, 1) := by decide +kernel
theorem dX12_clearBuffer_1 : decode cX12_clearBuffer 1 = .ok (.iconst 0, 1) := by decide +kernel
theorem dX12_clearBuffer_2 : decode cX12_clearBuffer 2 = .ok (.putfield 59, 3) := by decide +kernel
theorem dX12_clearBuffer_5 : decode cX12_clearBuffer 5 = .ok (.aload_n 0, 1) := by decide +kernel
theorem dX12_clearBuffer_6 : decode cX12_clearBuffer 6 = .ok (.getfield 146, 3) := by decide +kernel
theorem dX12_clearBuffer_9 : decode cX12_clearBuffer 9 = .ok (.istore_n 1, 1) := by decide +kernel
theorem dX12_clearBuffer_10 : decode cX12_clearBuffer 10 = .ok (.aload_n 0, 1) := by decide +kernel
theorem dX12_clearBuffer_11 : decode cX12_clearBuffer 11 = .ok (.iconst 0, 1) := by decide +kernel
theorem dX12_clearBuffer_12 : decode cX12_clearBuffer 12 = .ok (.putfield 146, 3) := by decide +kernel
theorem dX12_clearBuffer_15 : decode cX12_clearBuffer 15 = .ok (.iload_n 1, 1) := by decide +kernel
theorem dX12_clearBuffer_16 : decode cX12_clearBuffer 16 = .ok (.ireturn, 1) := by decide +kernel
theorem dX12_letterOf_0 : decode cX12_letterOf 0 = .ok (.iload_n 0, 1) := by decide +kernel
theorem dX12_letterOf_1 : decode cX12_letterOf 1 = .ok (.ifCond .ne 8, 3) := by decide +kernel
theorem dX12_letterOf_4 : decode cX12_letterOf 4 = .ok (.bipush 85, 2) := by decide +kernel
theorem dX12_letterOf_6 : decode cX12_letterOf 6 = .ok (.goto 25, 3) := by decide +kernel
theorem dX12_letterOf_9 : decode cX12_letterOf 9 = .ok (.iload_n 0, 1) := by decide +kernel
theorem dX12_letterOf_10 : decode cX12_letterOf 10 = .ok (.iconst 1, 1) := by decide +kernel
theorem dX12_letterOf_11 : decode cX12_letterOf 11 = .ok (.if_icmp .ne 8, 3) := by decide +kernel
theorem dX12_letterOf_14 : decode cX12_letterOf 14 = .ok (.bipush 82, 2) := by decide +kernel
theorem dX12_letterOf_16 : decode cX12_letterOf 16 = .ok (.goto 15, 3) := by decide +kernel
theorem dX12_letterOf_19 : decode cX12_letterOf 19 = .ok (.iload_n 0, 1) := by decide +kernel
theorem dX12_letterOf_20 : decode cX12_letterOf 20 = .ok (.iconst 2, 1) := by decide +kernel
theorem dX12_letterOf_21 : decode cX12_letterOf 21 = .ok (.if_icmp .ne 8, 3) := by decide +kernel
theorem dX12_letterOf_24 : decode cX12_letterOf 24 = .ok (.bipush 68, 2) := by decide +kernel
theorem dX12_letterOf_26 : decode cX12_letterOf 26 = .ok (.goto 5, 3) := by decide +kernel
theorem dX12_letterOf_29 : decode cX12_letterOf 29 = .ok (.bipush 76, 2) := by decide +kernel
theorem dX12_letterOf_31 : decode cX12_letterOf 31 = .ok (.ireturn, 1) := by decide +kernel
theorem dX12_directionOf_0 : decode cX12_directionOf 0 = .ok (.iconst 0, 1) := by decide +kernel
theorem dX12_directionOf_1 : decode cX12_directionOf 1 = .ok (.istore_n 1, 1) := by decide +kernel
theorem dX12_directionOf_2 : decode cX12_directionOf 2 = .ok (.iload_n 1, 1) := by decide +kernel
theorem dX12_directionOf_3 : decode cX12_directionOf 3 = .ok (.iconst 4, 1) := by decide +kernel
theorem dX12_directionOf_4 : decode cX12_directionOf 4 = .ok (.if_icmp .ge 19, 3) := by decide +kernel
theorem dX12_directionOf_7 : decode cX12_directionOf 7 = .ok (.iload_n 1, 1) := by decide +kernel
theorem dX12_directionOf_8 : decode cX12_directionOf 8 = .ok (.invokestatic 149, 3) := by decide +kernel
theorem dX12_directionOf_11 : decode cX12_directionOf 11 = .ok (.iload_n 0, 1) := by decide +kernel
theorem dX12_directionOf_12 : decode cX12_directionOf 12 = .ok (.if_icmp .ne 5, 3) := by decide +kernel
theorem dX12_directionOf_15 : decode cX12_directionOf 15 = .ok (.iload_n 1, 1) := by decide +kernel
theorem dX12_directionOf_16 : decode cX12_directionOf 16 = .ok (.ireturn, 1) := by decide +kernel
theorem dX12_directionOf_17 : decode cX12_directionOf 17 = .ok (.iinc 1 1, 3) := by decide +kernel
theorem dX12_directionOf_20 : decode cX12_directionOf 20 = .ok (.goto (-18), 3) := by decide +kernel
theorem dX12_directionOf_23 : decode cX12_directionOf 23 = .ok (.iconst (-1), 1) := by decide +kernel
theorem dX12_directionOf_24 : decode cX12_directionOf 24 = .ok (.ireturn, 1) := by decide +kernel
theorem dX12_isGood_0 : decode cX12_isGood 0 = .ok (.aload_n 0, 1) := by decide +kernel
theorem dX12_isGood_1 : decode cX12_isGood 1 = .ok (.getfield 22, 3) := by decide +kernel
theorem dX12_isGood_4 : decode cX12_isGood 4 = .ok (.iload_n 1, 1) := by decide +kernel
theorem dX12_isGood_5 : decode cX12_isGood 5 = .ok (.iaload, 1) := by decide +kernel
theorem dX12_isGood_6 : decode cX12_isGood 6 = .ok (.istore_n 2, 1) := by decide +kernel
theorem dX12_isGood_7 : decode cX12_isGood 7 = .ok (.iload_n 1, 1) := by decide +kernel
theorem dX12_isGood_8 : decode cX12_isGood 8 = .ok (.ifCond .eq 8, 3) := by decide +kernel
theorem dX12_isGood_11 : decode cX12_isGood 11 = .ok (.iload_n 1, 1) := by decide +kernel
theorem dX12_isGood_12 : decode cX12_isGood 12 = .ok (.iconst 2, 1) := by decide +kernel
theorem dX12_isGood_13 : decode cX12_isGood 13 = .ok (.if_icmp .ne 12, 3) := by decide +kernel
theorem dX12_isGood_16 : decode cX12_isGood 16 = .ok (.iload_n 2, 1) := by decide +kernel
theorem dX12_isGood_17 : decode cX12_isGood 17 = .ok (.bipush 48, 2) := by decide +kernel
theorem dX12_isGood_19 : decode cX12_isGood 19 = .ok (.bipush 57, 2) := by decide +kernel
theorem dX12_isGood_21 : decode cX12_isGood 21 = .ok (.invokestatic 62, 3) := by decide +kernel
theorem dX12_isGood_24 : decode cX12_isGood 24 = .ok (.ireturn, 1) := by decide +kernel
theorem dX12_isGood_25 : decode cX12_isGood 25 = .ok (.iload_n 1, 1) := by decide +kernel
theorem dX12_isGood_26 : decode cX12_isGood 26 = .ok (.iconst 1, 1) := by decide +kernel
theorem dX12_isGood_27 : decode cX12_isGood 27 = .ok (.if_icmp .ne 17, 3) := by decide +kernel
theorem dX12_isGood_30 : decode cX12_isGood 30 = .ok (.iload_n 2, 1) := by decide +kernel
theorem dX12_isGood_31 : decode cX12_isGood 31 = .ok (.bipush 44, 2) := by decide +kernel
theorem dX12_isGood_33 : decode cX12_isGood 33 = .ok (.if_icmp .ne 7, 3) := by decide +kernel
theorem dX12_isGood_36 : decode cX12_isGood 36 = .ok (.iconst 1, 1) := by decide +kernel
theorem dX12_isGood_37 : decode cX12_isGood 37 = .ok (.goto 39, 3) := by decide +kernel
theorem dX12_isGood_40 : decode cX12_isGood 40 = .ok (.iconst 0, 1) := by decide +kernel
theorem dX12_isGood_41 : decode cX12_isGood 41 = .ok (.goto 35, 3) := by decide +kernel
theorem dX12_isGood_44 : decode cX12_isGood 44 = .ok (.iload_n 1, 1) := by decide +kernel
theorem dX12_isGood_45 : decode cX12_isGood 45 = .ok (.iconst 3, 1) := by decide +kernel
theorem dX12_isGood_46 : decode cX12_isGood 46 = .ok (.if_icmp .ne 17, 3) := by decide +kernel
theorem dX12_isGood_49 : decode cX12_isGood 49 = .ok (.iload_n 2, 1) := by decide +kernel
theorem dX12_isGood_50 : decode cX12_isGood 50 = .ok (.bipush 58, 2) := by decide +kernel
theorem dX12_isGood_52 : decode cX12_isGood 52 = .ok (.if_icmp .ne 7, 3) := by decide +kernel
theorem dX12_isGood_55 : decode cX12_isGood 55 = .ok (.iconst 1, 1) := by decide +kernel
theorem dX12_isGood_56 : decode cX12_isGood 56 = .ok (.goto 20, 3) := by decide +kernel
theorem dX12_isGood_59 : decode cX12_isGood 59 = .ok (.iconst 0, 1) := by decide +kernel
theorem dX12_isGood_60 : decode cX12_isGood 60 = .ok (.goto 16, 3) := by decide +kernel
theorem dX12_isGood_63 : decode cX12_isGood 63 = .ok (.iload_n 2, 1) := by decide +kernel
theorem dX12_isGood_64 : decode cX12_isGood 64 = .ok (.invokestatic 152, 3) := by decide +kernel
theorem dX12_isGood_67 : decode cX12_isGood 67 = .ok (.iconst (-1), 1) := by decide +kernel
theorem dX12_isGood_68 : decode cX12_isGood 68 = .ok (.if_icmp .eq 7, 3) := by decide +kernel
theorem dX12_isGood_71 : decode cX12_isGood 71 = .ok (.iconst 1, 1) := by decide +kernel
theorem dX12_isGood_72 : decode cX12_isGood 72 = .ok (.goto 4, 3) := by decide +kernel
theorem dX12_isGood_75 : decode cX12_isGood 75 = .ok (.iconst 0, 1) := by decide +kernel
theorem dX12_isGood_76 : decode cX12_isGood 76 = .ok (.ireturn, 1) := by decide +kernel
theorem dX12_findError_0 : decode cX12_findError 0 = .ok (.iconst 0, 1) := by decide +kernel
theorem dX12_findError_1 : decode cX12_findError 1 = .ok (.istore_n 1, 1) := by decide +kernel
theorem dX12_findError_2 : decode cX12_findError 2 = .ok (.iload_n 1, 1) := by decide +kernel
theorem dX12_findError_3 : decode cX12_findError 3 = .ok (.aload_n 0, 1) := by decide +kernel
theorem dX12_findError_4 : decode cX12_findError 4 = .ok (.getfield 146, 3) := by decide +kernel
theorem dX12_findError_7 : decode cX12_findError 7 = .ok (.if_icmp .ge 17, 3) := by decide +kernel
theorem dX12_findError_10 : decode cX12_findError 10 = .ok (.aload_n 0, 1) := by decide +kernel
theorem dX12_findError_11 : decode cX12_findError 11 = .ok (.iload_n 1, 1) := by decide +kernel
theorem dX12_findError_12 : decode cX12_findError 12 = .ok (.invokevirtual 155, 3) := by decide +kernel
theorem dX12_findError_15 : decode cX12_findError 15 = .ok (.ifCond .eq 9, 3) := by decide +kernel
theorem dX12_findError_18 : decode cX12_findError 18 = .ok (.iinc 1 1, 3) := by decide +kernel
theorem dX12_findError_21 : decode cX12_findError 21 = .ok (.goto (-19), 3) := by decide +kernel
theorem dX12_findError_24 : decode cX12_findError 24 = .ok (.iload_n 1, 1) := by decide +kernel
theorem dX12_findError_25 : decode cX12_findError 25 = .ok (.ireturn, 1) := by decide +kernel
theorem dX12_firstError_0 : decode cX12_firstError 0 = .ok (.aload_n 0, 1) := by decide +kernel
theorem dX12_firstError_1 : decode cX12_firstError 1 = .ok (.iconst 0, 1) := by decide +kernel
theorem dX12_firstError_2 : decode cX12_firstError 2 = .ok (.putfield 59, 3) := by decide +kernel
theorem dX12_firstError_5 : decode cX12_firstError 5 = .ok (.aload_n 0, 1) := by decide +kernel
theorem dX12_firstError_6 : decode cX12_firstError 6 = .ok (.invokevirtual 158, 3) := by decide +kernel
theorem dX12_firstError_9 : decode cX12_firstError 9 = .ok (.ireturn, 1) := by decide +kernel
theorem dX12_readsRow_0 : decode cX12_readsRow 0 = .ok (.aload_n 0, 1) := by decide +kernel
theorem dX12_readsRow_1 : decode cX12_readsRow 1 = .ok (.invokevirtual 114, 3) := by decide +kernel
theorem dX12_readsRow_4 : decode cX12_readsRow 4 = .ok (.bipush 10, 2) := by decide +kernel
theorem dX12_readsRow_6 : decode cX12_readsRow 6 = .ok (.aload_n 0, 1) := by decide +kernel
theorem dX12_readsRow_7 : decode cX12_readsRow 7 = .ok (.getfield 22, 3) := by decide +kernel
theorem dX12_readsRow_10 : decode cX12_readsRow 10 = .ok (.iconst 2, 1) := by decide +kernel
theorem dX12_readsRow_11 : decode cX12_readsRow 11 = .ok (.iaload, 1) := by decide +kernel
theorem dX12_readsRow_12 : decode cX12_readsRow 12 = .ok (.bipush 48, 2) := by decide +kernel
theorem dX12_readsRow_14 : decode cX12_readsRow 14 = .ok (.isub, 1) := by decide +kernel
theorem dX12_readsRow_15 : decode cX12_readsRow 15 = .ok (.imul, 1) := by decide +kernel
theorem dX12_readsRow_16 : decode cX12_readsRow 16 = .ok (.aload_n 0, 1) := by decide +kernel
theorem dX12_readsRow_17 : decode cX12_readsRow 17 = .ok (.getfield 22, 3) := by decide +kernel
theorem dX12_readsRow_20 : decode cX12_readsRow 20 = .ok (.iconst 0, 1) := by decide +kernel
theorem dX12_readsRow_21 : decode cX12_readsRow 21 = .ok (.iaload, 1) := by decide +kernel
theorem dX12_readsRow_22 : decode cX12_readsRow 22 = .ok (.iadd, 1) := by decide +kernel
theorem dX12_readsRow_23 : decode cX12_readsRow 23 = .ok (.bipush 48, 2) := by decide +kernel
theorem dX12_readsRow_25 : decode cX12_readsRow 25 = .ok (.isub, 1) := by decide +kernel
theorem dX12_readsRow_26 : decode cX12_readsRow 26 = .ok (.istore_n 1, 1) := by decide +kernel
theorem dX12_readsRow_27 : decode cX12_readsRow 27 = .ok (.aload_n 0, 1) := by decide +kernel
theorem dX12_readsRow_28 : decode cX12_readsRow 28 = .ok (.iconst 0, 1) := by decide +kernel
theorem dX12_readsRow_29 : decode cX12_readsRow 29 = .ok (.putfield 101, 3) := by decide +kernel
theorem dX12_readsRow_32 : decode cX12_readsRow 32 = .ok (.aload_n 0, 1) := by decide +kernel
theorem dX12_readsRow_33 : decode cX12_readsRow 33 = .ok (.getfield 7, 3) := by decide +kernel
theorem dX12_readsRow_36 : decode cX12_readsRow 36 = .ok (.iconst 0, 1) := by decide +kernel
theorem dX12_readsRow_37 : decode cX12_readsRow 37 = .ok (.iaload, 1) := by decide +kernel
theorem dX12_readsRow_38 : decode cX12_readsRow 38 = .ok (.iconst 5, 1) := by decide +kernel
theorem dX12_readsRow_39 : decode cX12_readsRow 39 = .ok (.if_icmp .ge 7, 3) := by decide +kernel
theorem dX12_readsRow_42 : decode cX12_readsRow 42 = .ok (.iconst 1, 1) := by decide +kernel
theorem dX12_readsRow_43 : decode cX12_readsRow 43 = .ok (.goto 4, 3) := by decide +kernel
theorem dX12_readsRow_46 : decode cX12_readsRow 46 = .ok (.iconst 0, 1) := by decide +kernel
theorem dX12_readsRow_47 : decode cX12_readsRow 47 = .ok (.istore_n 2, 1) := by decide +kernel
theorem dX12_readsRow_48 : decode cX12_readsRow 48 = .ok (.iconst 3, 1) := by decide +kernel
theorem dX12_readsRow_49 : decode cX12_readsRow 49 = .ok (.istore_n 3, 1) := by decide +kernel
theorem dX12_readsRow_50 : decode cX12_readsRow 50 = .ok (.iload_n 3, 1) := by decide +kernel
theorem dX12_readsRow_51 : decode cX12_readsRow 51 = .ok (.aload_n 0, 1) := by decide +kernel
theorem dX12_readsRow_52 : decode cX12_readsRow 52 = .ok (.getfield 146, 3) := by decide +kernel
theorem dX12_readsRow_55 : decode cX12_readsRow 55 = .ok (.if_icmp .ge 91, 3) := by decide +kernel
theorem dX12_readsRow_58 : decode cX12_readsRow 58 = .ok (.iload_n 2, 1) := by decide +kernel
theorem dX12_readsRow_59 : decode cX12_readsRow 59 = .ok (.ifCond .eq 87, 3) := by decide +kernel
theorem dX12_readsRow_62 : decode cX12_readsRow 62 = .ok (.iload_n 3, 1) := by decide +kernel
theorem dX12_readsRow_63 : decode cX12_readsRow 63 = .ok (.iconst 3, 1) := by decide +kernel
theorem dX12_readsRow_64 : decode cX12_readsRow 64 = .ok (.if_icmp .ne 7, 3) := by decide +kernel
theorem dX12_readsRow_67 : decode cX12_readsRow 67 = .ok (.iload_n 1, 1) := by decide +kernel
theorem dX12_readsRow_68 : decode cX12_readsRow 68 = .ok (.goto 16, 3) := by decide +kernel
theorem dX12_readsRow_71 : decode cX12_readsRow 71 = .ok (.iload_n 1, 1) := by decide +kernel
theorem dX12_readsRow_72 : decode cX12_readsRow 72 = .ok (.aload_n 0, 1) := by decide +kernel
theorem dX12_readsRow_73 : decode cX12_readsRow 73 = .ok (.getfield 22, 3) := by decide +kernel
theorem dX12_readsRow_76 : decode cX12_readsRow 76 = .ok (.iload_n 3, 1) := by decide +kernel
theorem dX12_readsRow_77 : decode cX12_readsRow 77 = .ok (.iaload, 1) := by decide +kernel
theorem dX12_readsRow_78 : decode cX12_readsRow 78 = .ok (.invokestatic 152, 3) := by decide +kernel
theorem dX12_readsRow_81 : decode cX12_readsRow 81 = .ok (.invokestatic 84, 3) := by decide +kernel
theorem dX12_readsRow_84 : decode cX12_readsRow 84 = .ok (.istore_n 1, 1) := by decide +kernel
theorem dX12_readsRow_85 : decode cX12_readsRow 85 = .ok (.aload_n 0, 1) := by decide +kernel
theorem dX12_readsRow_86 : decode cX12_readsRow 86 = .ok (.iload_n 1, 1) := by decide +kernel
theorem dX12_readsRow_87 : decode cX12_readsRow 87 = .ok (.invokevirtual 87, 3) := by decide +kernel
theorem dX12_readsRow_90 : decode cX12_readsRow 90 = .ok (.ifCond .eq 16, 3) := by decide +kernel
theorem dX12_readsRow_93 : decode cX12_readsRow 93 = .ok (.aload_n 0, 1) := by decide +kernel
theorem dX12_readsRow_94 : decode cX12_readsRow 94 = .ok (.getfield 101, 3) := by decide +kernel
theorem dX12_readsRow_97 : decode cX12_readsRow 97 = .ok (.bipush 60, 2) := by decide +kernel
theorem dX12_readsRow_99 : decode cX12_readsRow 99 = .ok (.if_icmp .ge 7, 3) := by decide +kernel
theorem dX12_readsRow_102 : decode cX12_readsRow 102 = .ok (.iconst 1, 1) := by decide +kernel
theorem dX12_readsRow_103 : decode cX12_readsRow 103 = .ok (.goto 4, 3) := by decide +kernel
theorem dX12_readsRow_106 : decode cX12_readsRow 106 = .ok (.iconst 0, 1) := by decide +kernel
theorem dX12_readsRow_107 : decode cX12_readsRow 107 = .ok (.istore_n 2, 1) := by decide +kernel
theorem dX12_readsRow_108 : decode cX12_readsRow 108 = .ok (.iload_n 2, 1) := by decide +kernel
theorem dX12_readsRow_109 : decode cX12_readsRow 109 = .ok (.ifCond .eq 31, 3) := by decide +kernel
theorem dX12_readsRow_112 : decode cX12_readsRow 112 = .ok (.aload_n 0, 1) := by decide +kernel
theorem dX12_readsRow_113 : decode cX12_readsRow 113 = .ok (.getfield 25, 3) := by decide +kernel
theorem dX12_readsRow_116 : decode cX12_readsRow 116 = .ok (.iload_n 1, 1) := by decide +kernel
theorem dX12_readsRow_117 : decode cX12_readsRow 117 = .ok (.bipush 9, 2) := by decide +kernel
theorem dX12_readsRow_119 : decode cX12_readsRow 119 = .ok (.iastore, 1) := by decide +kernel
theorem dX12_readsRow_120 : decode cX12_readsRow 120 = .ok (.aload_n 0, 1) := by decide +kernel
theorem dX12_readsRow_121 : decode cX12_readsRow 121 = .ok (.getfield 37, 3) := by decide +kernel
theorem dX12_readsRow_124 : decode cX12_readsRow 124 = .ok (.aload_n 0, 1) := by decide +kernel
theorem dX12_readsRow_125 : decode cX12_readsRow 125 = .ok (.getfield 101, 3) := by decide +kernel
theorem dX12_readsRow_128 : decode cX12_readsRow 128 = .ok (.iload_n 1, 1) := by decide +kernel
theorem dX12_readsRow_129 : decode cX12_readsRow 129 = .ok (.iastore, 1) := by decide +kernel
theorem dX12_readsRow_130 : decode cX12_readsRow 130 = .ok (.aload_n 0, 1) := by decide +kernel
theorem dX12_readsRow_131 : decode cX12_readsRow 131 = .ok (.dup, 1) := by decide +kernel
theorem dX12_readsRow_132 : decode cX12_readsRow 132 = .ok (.getfield 101, 3) := by decide +kernel
theorem dX12_readsRow_135 : decode cX12_readsRow 135 = .ok (.iconst 1, 1) := by decide +kernel
theorem dX12_readsRow_136 : decode cX12_readsRow 136 = .ok (.iadd, 1) := by decide +kernel
theorem dX12_readsRow_137 : decode cX12_readsRow 137 = .ok (.putfield 101, 3) := by decide +kernel
theorem dX12_readsRow_140 : decode cX12_readsRow 140 = .ok (.iinc 3 1, 3) := by decide +kernel
theorem dX12_readsRow_143 : decode cX12_readsRow 143 = .ok (.goto (-93), 3) := by decide +kernel
theorem dX12_readsRow_146 : decode cX12_readsRow 146 = .ok (.iload_n 2, 1) := by decide +kernel
theorem dX12_readsRow_147 : decode cX12_readsRow 147 = .ok (.ireturn, 1) := by decide +kernel
theorem dX12_draw_0 : decode cX12_draw 0 = .ok (.aload_n 0, 1) := by decide +kernel
theorem dX12_draw_1 : decode cX12_draw 1 = .ok (.iconst 0, 1) := by decide +kernel
theorem dX12_draw_2 : decode cX12_draw 2 = .ok (.putfield 59, 3) := by decide +kernel
theorem dX12_draw_5 : decode cX12_draw 5 = .ok (.aload_n 0, 1) := by decide +kernel
theorem dX12_draw_6 : decode cX12_draw 6 = .ok (.invokevirtual 158, 3) := by decide +kernel
theorem dX12_draw_9 : decode cX12_draw 9 = .ok (.aload_n 0, 1) := by decide +kernel
theorem dX12_draw_10 : decode cX12_draw 10 = .ok (.getfield 146, 3) := by decide +kernel
theorem dX12_draw_13 : decode cX12_draw 13 = .ok (.if_icmp .lt 11, 3) := by decide +kernel
theorem dX12_draw_16 : decode cX12_draw 16 = .ok (.aload_n 0, 1) := by decide +kernel
theorem dX12_draw_17 : decode cX12_draw 17 = .ok (.getfield 146, 3) := by decide +kernel
theorem dX12_draw_20 : decode cX12_draw 20 = .ok (.iconst 4, 1) := by decide +kernel
theorem dX12_draw_21 : decode cX12_draw 21 = .ok (.if_icmp .ge 9, 3) := by decide +kernel
theorem dX12_draw_24 : decode cX12_draw 24 = .ok (.aload_n 0, 1) := by decide +kernel
theorem dX12_draw_25 : decode cX12_draw 25 = .ok (.iconst 1, 1) := by decide +kernel
theorem dX12_draw_26 : decode cX12_draw 26 = .ok (.invokevirtual 78, 3) := by decide +kernel
theorem dX12_draw_29 : decode cX12_draw 29 = .ok (.ireturn, 1) := by decide +kernel
theorem dX12_draw_30 : decode cX12_draw 30 = .ok (.aload_n 0, 1) := by decide +kernel
theorem dX12_draw_31 : decode cX12_draw 31 = .ok (.invokevirtual 161, 3) := by decide +kernel
theorem dX12_draw_34 : decode cX12_draw 34 = .ok (.ifCond .ne 9, 3) := by decide +kernel
theorem dX12_draw_37 : decode cX12_draw 37 = .ok (.aload_n 0, 1) := by decide +kernel
theorem dX12_draw_38 : decode cX12_draw 38 = .ok (.iconst 2, 1) := by decide +kernel
theorem dX12_draw_39 : decode cX12_draw 39 = .ok (.invokevirtual 78, 3) := by decide +kernel
theorem dX12_draw_42 : decode cX12_draw 42 = .ok (.ireturn, 1) := by decide +kernel
theorem dX12_draw_43 : decode cX12_draw 43 = .ok (.aload_n 0, 1) := by decide +kernel
theorem dX12_draw_44 : decode cX12_draw 44 = .ok (.invokevirtual 81, 3) := by decide +kernel
theorem dX12_draw_47 : decode cX12_draw 47 = .ok (.aload_n 0, 1) := by decide +kernel
theorem dX12_draw_48 : decode cX12_draw 48 = .ok (.iconst 0, 1) := by decide +kernel
theorem dX12_draw_49 : decode cX12_draw 49 = .ok (.putfield 146, 3) := by decide +kernel
theorem dX12_draw_52 : decode cX12_draw 52 = .ok (.aload_n 0, 1) := by decide +kernel
theorem dX12_draw_53 : decode cX12_draw 53 = .ok (.invokevirtual 117, 3) := by decide +kernel
theorem dX12_draw_56 : decode cX12_draw 56 = .ok (.ireturn, 1) := by decide +kernel
theorem dX12_write_0 : decode cX12_write 0 = .ok (.aload_n 0, 1) := by decide +kernel
theorem dX12_write_1 : decode cX12_write 1 = .ok (.iconst 0, 1) := by decide +kernel
theorem dX12_write_2 : decode cX12_write 2 = .ok (.putfield 59, 3) := by decide +kernel
theorem dX12_write_5 : decode cX12_write 5 = .ok (.aload_n 0, 1) := by decide +kernel
theorem dX12_write_6 : decode cX12_write 6 = .ok (.iload_n 1, 1) := by decide +kernel
theorem dX12_write_7 : decode cX12_write 7 = .ok (.invokevirtual 66, 3) := by decide +kernel
theorem dX12_write_10 : decode cX12_write 10 = .ok (.ifCond .ne 9, 3) := by decide +kernel
theorem dX12_write_13 : decode cX12_write 13 = .ok (.aload_n 0, 1) := by decide +kernel
theorem dX12_write_14 : decode cX12_write 14 = .ok (.iconst 1, 1) := by decide +kernel
theorem dX12_write_15 : decode cX12_write 15 = .ok (.invokevirtual 78, 3) := by decide +kernel
theorem dX12_write_18 : decode cX12_write 18 = .ok (.ireturn, 1) := by decide +kernel
theorem dX12_write_19 : decode cX12_write 19 = .ok (.aload_n 0, 1) := by decide +kernel
theorem dX12_write_20 : decode cX12_write 20 = .ok (.iload_n 1, 1) := by decide +kernel
theorem dX12_write_21 : decode cX12_write 21 = .ok (.iconst 0, 1) := by decide +kernel
theorem dX12_write_22 : decode cX12_write 22 = .ok (.invokevirtual 74, 3) := by decide +kernel
theorem dX12_write_25 : decode cX12_write 25 = .ok (.istore_n 2, 1) := by decide +kernel
theorem dX12_write_26 : decode cX12_write 26 = .ok (.aload_n 0, 1) := by decide +kernel
theorem dX12_write_27 : decode cX12_write 27 = .ok (.getfield 22, 3) := by decide +kernel
theorem dX12_write_30 : decode cX12_write 30 = .ok (.iconst 0, 1) := by decide +kernel
theorem dX12_write_31 : decode cX12_write 31 = .ok (.bipush 48, 2) := by decide +kernel
theorem dX12_write_33 : decode cX12_write 33 = .ok (.iload_n 2, 1) := by decide +kernel
theorem dX12_write_34 : decode cX12_write 34 = .ok (.bipush 10, 2) := by decide +kernel
theorem dX12_write_36 : decode cX12_write 36 = .ok (.irem, 1) := by decide +kernel
theorem dX12_write_37 : decode cX12_write 37 = .ok (.iadd, 1) := by decide +kernel
theorem dX12_write_38 : decode cX12_write 38 = .ok (.iastore, 1) := by decide +kernel
theorem dX12_write_39 : decode cX12_write 39 = .ok (.aload_n 0, 1) := by decide +kernel
theorem dX12_write_40 : decode cX12_write 40 = .ok (.getfield 22, 3) := by decide +kernel
theorem dX12_write_43 : decode cX12_write 43 = .ok (.iconst 1, 1) := by decide +kernel
theorem dX12_write_44 : decode cX12_write 44 = .ok (.bipush 44, 2) := by decide +kernel
theorem dX12_write_46 : decode cX12_write 46 = .ok (.iastore, 1) := by decide +kernel
theorem dX12_write_47 : decode cX12_write 47 = .ok (.aload_n 0, 1) := by decide +kernel
theorem dX12_write_48 : decode cX12_write 48 = .ok (.getfield 22, 3) := by decide +kernel
theorem dX12_write_51 : decode cX12_write 51 = .ok (.iconst 2, 1) := by decide +kernel
theorem dX12_write_52 : decode cX12_write 52 = .ok (.bipush 48, 2) := by decide +kernel
theorem dX12_write_54 : decode cX12_write 54 = .ok (.iload_n 2, 1) := by decide +kernel
theorem dX12_write_55 : decode cX12_write 55 = .ok (.bipush 10, 2) := by decide +kernel
theorem dX12_write_57 : decode cX12_write 57 = .ok (.idiv, 1) := by decide +kernel
theorem dX12_write_58 : decode cX12_write 58 = .ok (.iadd, 1) := by decide +kernel
theorem dX12_write_59 : decode cX12_write 59 = .ok (.iastore, 1) := by decide +kernel
theorem dX12_write_60 : decode cX12_write 60 = .ok (.aload_n 0, 1) := by decide +kernel
theorem dX12_write_61 : decode cX12_write 61 = .ok (.getfield 22, 3) := by decide +kernel
theorem dX12_write_64 : decode cX12_write 64 = .ok (.iconst 3, 1) := by decide +kernel
theorem dX12_write_65 : decode cX12_write 65 = .ok (.bipush 58, 2) := by decide +kernel
theorem dX12_write_67 : decode cX12_write 67 = .ok (.iastore, 1) := by decide +kernel
theorem dX12_write_68 : decode cX12_write 68 = .ok (.aload_n 0, 1) := by decide +kernel
theorem dX12_write_69 : decode cX12_write 69 = .ok (.iconst 4, 1) := by decide +kernel
theorem dX12_write_70 : decode cX12_write 70 = .ok (.putfield 146, 3) := by decide +kernel
theorem dX12_write_73 : decode cX12_write 73 = .ok (.iconst 1, 1) := by decide +kernel
theorem dX12_write_74 : decode cX12_write 74 = .ok (.istore_n 3, 1) := by decide +kernel
theorem dX12_write_75 : decode cX12_write 75 = .ok (.iload_n 3, 1) := by decide +kernel
theorem dX12_write_76 : decode cX12_write 76 = .ok (.aload_n 0, 1) := by decide +kernel
theorem dX12_write_77 : decode cX12_write 77 = .ok (.iload_n 1, 1) := by decide +kernel
theorem dX12_write_78 : decode cX12_write 78 = .ok (.invokevirtual 70, 3) := by decide +kernel
theorem dX12_write_81 : decode cX12_write 81 = .ok (.if_icmp .ge 48, 3) := by decide +kernel
theorem dX12_write_84 : decode cX12_write 84 = .ok (.aload_n 0, 1) := by decide +kernel
theorem dX12_write_85 : decode cX12_write 85 = .ok (.getfield 22, 3) := by decide +kernel
theorem dX12_write_88 : decode cX12_write 88 = .ok (.aload_n 0, 1) := by decide +kernel
theorem dX12_write_89 : decode cX12_write 89 = .ok (.getfield 146, 3) := by decide +kernel
theorem dX12_write_92 : decode cX12_write 92 = .ok (.aload_n 0, 1) := by decide +kernel
theorem dX12_write_93 : decode cX12_write 93 = .ok (.iload_n 1, 1) := by decide +kernel
theorem dX12_write_94 : decode cX12_write 94 = .ok (.iload_n 3, 1) := by decide +kernel
theorem dX12_write_95 : decode cX12_write 95 = .ok (.iconst 1, 1) := by decide +kernel
theorem dX12_write_96 : decode cX12_write 96 = .ok (.isub, 1) := by decide +kernel
theorem dX12_write_97 : decode cX12_write 97 = .ok (.invokevirtual 74, 3) := by decide +kernel
theorem dX12_write_100 : decode cX12_write 100 = .ok (.aload_n 0, 1) := by decide +kernel
theorem dX12_write_101 : decode cX12_write 101 = .ok (.iload_n 1, 1) := by decide +kernel
theorem dX12_write_102 : decode cX12_write 102 = .ok (.iload_n 3, 1) := by decide +kernel
theorem dX12_write_103 : decode cX12_write 103 = .ok (.invokevirtual 74, 3) := by decide +kernel
theorem dX12_write_106 : decode cX12_write 106 = .ok (.invokestatic 140, 3) := by decide +kernel
theorem dX12_write_109 : decode cX12_write 109 = .ok (.invokestatic 149, 3) := by decide +kernel
theorem dX12_write_112 : decode cX12_write 112 = .ok (.iastore, 1) := by decide +kernel
theorem dX12_write_113 : decode cX12_write 113 = .ok (.aload_n 0, 1) := by decide +kernel
theorem dX12_write_114 : decode cX12_write 114 = .ok (.dup, 1) := by decide +kernel
theorem dX12_write_115 : decode cX12_write 115 = .ok (.getfield 146, 3) := by decide +kernel
theorem dX12_write_118 : decode cX12_write 118 = .ok (.iconst 1, 1) := by decide +kernel
theorem dX12_write_119 : decode cX12_write 119 = .ok (.iadd, 1) := by decide +kernel
theorem dX12_write_120 : decode cX12_write 120 = .ok (.putfield 146, 3) := by decide +kernel
theorem dX12_write_123 : decode cX12_write 123 = .ok (.iinc 3 1, 3) := by decide +kernel
theorem dX12_write_126 : decode cX12_write 126 = .ok (.goto (-51), 3) := by decide +kernel
theorem dX12_write_129 : decode cX12_write 129 = .ok (.aload_n 0, 1) := by decide +kernel
theorem dX12_write_130 : decode cX12_write 130 = .ok (.getfield 146, 3) := by decide +kernel
theorem dX12_write_133 : decode cX12_write 133 = .ok (.ireturn, 1) := by decide +kernel
theorem dX12_site_0 : decode cX12_site 0 = .ok (.aload_n 0, 1) := by decide +kernel
theorem dX12_site_1 : decode cX12_site 1 = .ok (.iconst 0, 1) := by decide +kernel
theorem dX12_site_2 : decode cX12_site 2 = .ok (.putfield 59, 3) := by decide +kernel
theorem dX12_site_5 : decode cX12_site 5 = .ok (.iload_n 1, 1) := by decide +kernel
theorem dX12_site_6 : decode cX12_site 6 = .ok (.iconst 0, 1) := by decide +kernel
theorem dX12_site_7 : decode cX12_site 7 = .ok (.bipush 9, 2) := by decide +kernel
theorem dX12_site_9 : decode cX12_site 9 = .ok (.invokestatic 62, 3) := by decide +kernel
theorem dX12_site_12 : decode cX12_site 12 = .ok (.ifCond .eq 13, 3) := by decide +kernel
theorem dX12_site_15 : decode cX12_site 15 = .ok (.iload_n 2, 1) := by decide +kernel
theorem dX12_site_16 : decode cX12_site 16 = .ok (.iconst 0, 1) := by decide +kernel
theorem dX12_site_17 : decode cX12_site 17 = .ok (.bipush 9, 2) := by decide +kernel
theorem dX12_site_19 : decode cX12_site 19 = .ok (.invokestatic 62, 3) := by decide +kernel
theorem dX12_site_22 : decode cX12_site 22 = .ok (.ifCond .ne 9, 3) := by decide +kernel
theorem dX12_site_25 : decode cX12_site 25 = .ok (.aload_n 0, 1) := by decide +kernel
theorem dX12_site_26 : decode cX12_site 26 = .ok (.iconst 1, 1) := by decide +kernel
theorem dX12_site_27 : decode cX12_site 27 = .ok (.invokevirtual 78, 3) := by decide +kernel
theorem dX12_site_30 : decode cX12_site 30 = .ok (.ireturn, 1) := by decide +kernel
theorem dX12_site_31 : decode cX12_site 31 = .ok (.iload_n 3, 1) := by decide +kernel
theorem dX12_site_32 : decode cX12_site 32 = .ok (.iconst 0, 1) := by decide +kernel
theorem dX12_site_33 : decode cX12_site 33 = .ok (.iconst 2, 1) := by decide +kernel
theorem dX12_site_34 : decode cX12_site 34 = .ok (.invokestatic 62, 3) := by decide +kernel
theorem dX12_site_37 : decode cX12_site 37 = .ok (.ifCond .ne 9, 3) := by decide +kernel
theorem dX12_site_40 : decode cX12_site 40 = .ok (.aload_n 0, 1) := by decide +kernel
theorem dX12_site_41 : decode cX12_site 41 = .ok (.iconst 2, 1) := by decide +kernel
theorem dX12_site_42 : decode cX12_site 42 = .ok (.invokevirtual 78, 3) := by decide +kernel
theorem dX12_site_45 : decode cX12_site 45 = .ok (.ireturn, 1) := by decide +kernel
theorem dX12_site_46 : decode cX12_site 46 = .ok (.aload_n 0, 1) := by decide +kernel
theorem dX12_site_47 : decode cX12_site 47 = .ok (.invokevirtual 114, 3) := by decide +kernel
theorem dX12_site_50 : decode cX12_site 50 = .ok (.bipush 10, 2) := by decide +kernel
theorem dX12_site_52 : decode cX12_site 52 = .ok (.iload_n 2, 1) := by decide +kernel
theorem dX12_site_53 : decode cX12_site 53 = .ok (.imul, 1) := by decide +kernel
theorem dX12_site_54 : decode cX12_site 54 = .ok (.iload_n 1, 1) := by decide +kernel
theorem dX12_site_55 : decode cX12_site 55 = .ok (.iadd, 1) := by decide +kernel
theorem dX12_site_56 : decode cX12_site 56 = .ok (.istore 4, 2) := by decide +kernel
theorem dX12_site_58 : decode cX12_site 58 = .ok (.iload_n 3, 1) := by decide +kernel
theorem dX12_site_59 : decode cX12_site 59 = .ok (.ifCond .ne 13, 3) := by decide +kernel
theorem dX12_site_62 : decode cX12_site 62 = .ok (.aload_n 0, 1) := by decide +kernel
theorem dX12_site_63 : decode cX12_site 63 = .ok (.getfield 25, 3) := by decide +kernel
theorem dX12_site_66 : decode cX12_site 66 = .ok (.iload 4, 2) := by decide +kernel
theorem dX12_site_68 : decode cX12_site 68 = .ok (.iaload, 1) := by decide +kernel
theorem dX12_site_69 : decode cX12_site 69 = .ok (.goto 24, 3) := by decide +kernel
theorem dX12_site_72 : decode cX12_site 72 = .ok (.iload_n 3, 1) := by decide +kernel
theorem dX12_site_73 : decode cX12_site 73 = .ok (.iconst 1, 1) := by decide +kernel
theorem dX12_site_74 : decode cX12_site 74 = .ok (.if_icmp .ne 13, 3) := by decide +kernel
theorem dX12_site_77 : decode cX12_site 77 = .ok (.aload_n 0, 1) := by decide +kernel
theorem dX12_site_78 : decode cX12_site 78 = .ok (.getfield 28, 3) := by decide +kernel
theorem dX12_site_81 : decode cX12_site 81 = .ok (.iload 4, 2) := by decide +kernel
theorem dX12_site_83 : decode cX12_site 83 = .ok (.iaload, 1) := by decide +kernel
theorem dX12_site_84 : decode cX12_site 84 = .ok (.goto 9, 3) := by decide +kernel
theorem dX12_site_87 : decode cX12_site 87 = .ok (.aload_n 0, 1) := by decide +kernel
theorem dX12_site_88 : decode cX12_site 88 = .ok (.iload 4, 2) := by decide +kernel
theorem dX12_site_90 : decode cX12_site 90 = .ok (.invokevirtual 165, 3) := by decide +kernel
theorem dX12_site_93 : decode cX12_site 93 = .ok (.ireturn, 1) := by decide +kernel
theorem dX12_place_0 : decode cX12_place 0 = .ok (.aload_n 0, 1) := by decide +kernel
theorem dX12_place_1 : decode cX12_place 1 = .ok (.iconst 0, 1) := by decide +kernel
theorem dX12_place_2 : decode cX12_place 2 = .ok (.putfield 59, 3) := by decide +kernel
theorem dX12_place_5 : decode cX12_place 5 = .ok (.aload_n 0, 1) := by decide +kernel
theorem dX12_place_6 : decode cX12_place 6 = .ok (.iload_n 1, 1) := by decide +kernel
theorem dX12_place_7 : decode cX12_place 7 = .ok (.invokevirtual 66, 3) := by decide +kernel
theorem dX12_place_10 : decode cX12_place 10 = .ok (.ifCond .ne 9, 3) := by decide +kernel
theorem dX12_place_13 : decode cX12_place 13 = .ok (.aload_n 0, 1) := by decide +kernel
theorem dX12_place_14 : decode cX12_place 14 = .ok (.iconst 1, 1) := by decide +kernel
theorem dX12_place_15 : decode cX12_place 15 = .ok (.invokevirtual 78, 3) := by decide +kernel
theorem dX12_place_18 : decode cX12_place 18 = .ok (.ireturn, 1) := by decide +kernel
theorem dX12_place_19 : decode cX12_place 19 = .ok (.aload_n 0, 1) := by decide +kernel
theorem dX12_place_20 : decode cX12_place 20 = .ok (.iload_n 1, 1) := by decide +kernel
theorem dX12_place_21 : decode cX12_place 21 = .ok (.iload_n 2, 1) := by decide +kernel
theorem dX12_place_22 : decode cX12_place 22 = .ok (.invokevirtual 131, 3) := by decide +kernel
theorem dX12_place_25 : decode cX12_place 25 = .ok (.ifCond .eq 12, 3) := by decide +kernel
theorem dX12_place_28 : decode cX12_place 28 = .ok (.aload_n 0, 1) := by decide +kernel
theorem dX12_place_29 : decode cX12_place 29 = .ok (.iload_n 1, 1) := by decide +kernel
theorem dX12_place_30 : decode cX12_place 30 = .ok (.iload_n 2, 1) := by decide +kernel
theorem dX12_place_31 : decode cX12_place 31 = .ok (.invokevirtual 74, 3) := by decide +kernel
theorem dX12_place_34 : decode cX12_place 34 = .ok (.goto 4, 3) := by decide +kernel
theorem dX12_place_37 : decode cX12_place 37 = .ok (.iconst (-1), 1) := by decide +kernel
theorem dX12_place_38 : decode cX12_place 38 = .ok (.ireturn, 1) := by decide +kernel
theorem dX12_stepOf_0 : decode cX12_stepOf 0 = .ok (.aload_n 0, 1) := by decide +kernel
theorem dX12_stepOf_1 : decode cX12_stepOf 1 = .ok (.iload_n 1, 1) := by decide +kernel
theorem dX12_stepOf_2 : decode cX12_stepOf 2 = .ok (.iload_n 2, 1) := by decide +kernel
theorem dX12_stepOf_3 : decode cX12_stepOf 3 = .ok (.invokevirtual 74, 3) := by decide +kernel
theorem dX12_stepOf_6 : decode cX12_stepOf 6 = .ok (.aload_n 0, 1) := by decide +kernel
theorem dX12_stepOf_7 : decode cX12_stepOf 7 = .ok (.iload_n 1, 1) := by decide +kernel
theorem dX12_stepOf_8 : decode cX12_stepOf 8 = .ok (.iload_n 2, 1) := by decide +kernel
theorem dX12_stepOf_9 : decode cX12_stepOf 9 = .ok (.iconst 1, 1) := by decide +kernel
theorem dX12_stepOf_10 : decode cX12_stepOf 10 = .ok (.iadd, 1) := by decide +kernel
theorem dX12_stepOf_11 : decode cX12_stepOf 11 = .ok (.invokevirtual 74, 3) := by decide +kernel
theorem dX12_stepOf_14 : decode cX12_stepOf 14 = .ok (.invokestatic 140, 3) := by decide +kernel
theorem dX12_stepOf_17 : decode cX12_stepOf 17 = .ok (.ireturn, 1) := by decide +kernel
theorem dX12_corners_0 : decode cX12_corners 0 = .ok (.iconst 0, 1) := by decide +kernel
theorem dX12_corners_1 : decode cX12_corners 1 = .ok (.istore_n 2, 1) := by decide +kernel
theorem dX12_corners_2 : decode cX12_corners 2 = .ok (.iconst 1, 1) := by decide +kernel
theorem dX12_corners_3 : decode cX12_corners 3 = .ok (.istore_n 3, 1) := by decide +kernel
theorem dX12_corners_4 : decode cX12_corners 4 = .ok (.iload_n 3, 1) := by decide +kernel
theorem dX12_corners_5 : decode cX12_corners 5 = .ok (.aload_n 0, 1) := by decide +kernel
theorem dX12_corners_6 : decode cX12_corners 6 = .ok (.iload_n 1, 1) := by decide +kernel
theorem dX12_corners_7 : decode cX12_corners 7 = .ok (.invokevirtual 70, 3) := by decide +kernel
theorem dX12_corners_10 : decode cX12_corners 10 = .ok (.iconst 1, 1) := by decide +kernel
theorem dX12_corners_11 : decode cX12_corners 11 = .ok (.isub, 1) := by decide +kernel
theorem dX12_corners_12 : decode cX12_corners 12 = .ok (.if_icmp .ge 34, 3) := by decide +kernel
theorem dX12_corners_15 : decode cX12_corners 15 = .ok (.iload_n 2, 1) := by decide +kernel
theorem dX12_corners_16 : decode cX12_corners 16 = .ok (.aload_n 0, 1) := by decide +kernel
theorem dX12_corners_17 : decode cX12_corners 17 = .ok (.iload_n 1, 1) := by decide +kernel
theorem dX12_corners_18 : decode cX12_corners 18 = .ok (.iload_n 3, 1) := by decide +kernel
theorem dX12_corners_19 : decode cX12_corners 19 = .ok (.invokevirtual 168, 3) := by decide +kernel
theorem dX12_corners_22 : decode cX12_corners 22 = .ok (.aload_n 0, 1) := by decide +kernel
theorem dX12_corners_23 : decode cX12_corners 23 = .ok (.iload_n 1, 1) := by decide +kernel
theorem dX12_corners_24 : decode cX12_corners 24 = .ok (.iload_n 3, 1) := by decide +kernel
theorem dX12_corners_25 : decode cX12_corners 25 = .ok (.iconst 1, 1) := by decide +kernel
theorem dX12_corners_26 : decode cX12_corners 26 = .ok (.isub, 1) := by decide +kernel
theorem dX12_corners_27 : decode cX12_corners 27 = .ok (.invokevirtual 168, 3) := by decide +kernel
theorem dX12_corners_30 : decode cX12_corners 30 = .ok (.if_icmp .eq 7, 3) := by decide +kernel
theorem dX12_corners_33 : decode cX12_corners 33 = .ok (.iconst 1, 1) := by decide +kernel
theorem dX12_corners_34 : decode cX12_corners 34 = .ok (.goto 4, 3) := by decide +kernel
theorem dX12_corners_37 : decode cX12_corners 37 = .ok (.iconst 0, 1) := by decide +kernel
theorem dX12_corners_38 : decode cX12_corners 38 = .ok (.iadd, 1) := by decide +kernel
theorem dX12_corners_39 : decode cX12_corners 39 = .ok (.istore_n 2, 1) := by decide +kernel
theorem dX12_corners_40 : decode cX12_corners 40 = .ok (.iinc 3 1, 3) := by decide +kernel
theorem dX12_corners_43 : decode cX12_corners 43 = .ok (.goto (-39), 3) := by decide +kernel
theorem dX12_corners_46 : decode cX12_corners 46 = .ok (.iload_n 2, 1) := by decide +kernel
theorem dX12_corners_47 : decode cX12_corners 47 = .ok (.ireturn, 1) := by decide +kernel
theorem dX12_contacts_0 : decode cX12_contacts 0 = .ok (.iconst 0, 1) := by decide +kernel
theorem dX12_contacts_1 : decode cX12_contacts 1 = .ok (.istore_n 2, 1) := by decide +kernel
theorem dX12_contacts_2 : decode cX12_contacts 2 = .ok (.iconst 0, 1) := by decide +kernel
theorem dX12_contacts_3 : decode cX12_contacts 3 = .ok (.istore_n 3, 1) := by decide +kernel
theorem dX12_contacts_4 : decode cX12_contacts 4 = .ok (.iload_n 3, 1) := by decide +kernel
theorem dX12_contacts_5 : decode cX12_contacts 5 = .ok (.aload_n 0, 1) := by decide +kernel
theorem dX12_contacts_6 : decode cX12_contacts 6 = .ok (.iload_n 1, 1) := by decide +kernel
theorem dX12_contacts_7 : decode cX12_contacts 7 = .ok (.invokevirtual 70, 3) := by decide +kernel
theorem dX12_contacts_10 : decode cX12_contacts 10 = .ok (.if_icmp .ge 58, 3) := by decide +kernel
theorem dX12_contacts_13 : decode cX12_contacts 13 = .ok (.iload_n 3, 1) := by decide +kernel
theorem dX12_contacts_14 : decode cX12_contacts 14 = .ok (.iconst 2, 1) := by decide +kernel
theorem dX12_contacts_15 : decode cX12_contacts 15 = .ok (.iadd, 1) := by decide +kernel
theorem dX12_contacts_16 : decode cX12_contacts 16 = .ok (.istore 4, 2) := by decide +kernel
theorem dX12_contacts_18 : decode cX12_contacts 18 = .ok (.iload 4, 2) := by decide +kernel
theorem dX12_contacts_20 : decode cX12_contacts 20 = .ok (.aload_n 0, 1) := by decide +kernel
theorem dX12_contacts_21 : decode cX12_contacts 21 = .ok (.iload_n 1, 1) := by decide +kernel
theorem dX12_contacts_22 : decode cX12_contacts 22 = .ok (.invokevirtual 70, 3) := by decide +kernel
theorem dX12_contacts_25 : decode cX12_contacts 25 = .ok (.if_icmp .ge 37, 3) := by decide +kernel
theorem dX12_contacts_28 : decode cX12_contacts 28 = .ok (.iload_n 2, 1) := by decide +kernel
theorem dX12_contacts_29 : decode cX12_contacts 29 = .ok (.aload_n 0, 1) := by decide +kernel
theorem dX12_contacts_30 : decode cX12_contacts 30 = .ok (.iload_n 1, 1) := by decide +kernel
theorem dX12_contacts_31 : decode cX12_contacts 31 = .ok (.iload_n 3, 1) := by decide +kernel
theorem dX12_contacts_32 : decode cX12_contacts 32 = .ok (.invokevirtual 74, 3) := by decide +kernel
theorem dX12_contacts_35 : decode cX12_contacts 35 = .ok (.aload_n 0, 1) := by decide +kernel
theorem dX12_contacts_36 : decode cX12_contacts 36 = .ok (.iload_n 1, 1) := by decide +kernel
theorem dX12_contacts_37 : decode cX12_contacts 37 = .ok (.iload 4, 2) := by decide +kernel
theorem dX12_contacts_39 : decode cX12_contacts 39 = .ok (.invokevirtual 74, 3) := by decide +kernel
theorem dX12_contacts_42 : decode cX12_contacts 42 = .ok (.invokestatic 140, 3) := by decide +kernel
theorem dX12_contacts_45 : decode cX12_contacts 45 = .ok (.iconst (-1), 1) := by decide +kernel
theorem dX12_contacts_46 : decode cX12_contacts 46 = .ok (.if_icmp .eq 7, 3) := by decide +kernel
theorem dX12_contacts_49 : decode cX12_contacts 49 = .ok (.iconst 1, 1) := by decide +kernel
theorem dX12_contacts_50 : decode cX12_contacts 50 = .ok (.goto 4, 3) := by decide +kernel
theorem dX12_contacts_53 : decode cX12_contacts 53 = .ok (.iconst 0, 1) := by decide +kernel
theorem dX12_contacts_54 : decode cX12_contacts 54 = .ok (.iadd, 1) := by decide +kernel
theorem dX12_contacts_55 : decode cX12_contacts 55 = .ok (.istore_n 2, 1) := by decide +kernel
theorem dX12_contacts_56 : decode cX12_contacts 56 = .ok (.iinc 4 1, 3) := by decide +kernel
theorem dX12_contacts_59 : decode cX12_contacts 59 = .ok (.goto (-41), 3) := by decide +kernel
theorem dX12_contacts_62 : decode cX12_contacts 62 = .ok (.iinc 3 1, 3) := by decide +kernel
theorem dX12_contacts_65 : decode cX12_contacts 65 = .ok (.goto (-61), 3) := by decide +kernel
theorem dX12_contacts_68 : decode cX12_contacts 68 = .ok (.iload_n 2, 1) := by decide +kernel
theorem dX12_contacts_69 : decode cX12_contacts 69 = .ok (.ireturn, 1) := by decide +kernel
theorem dX12_span_0 : decode cX12_span 0 = .ok (.bipush 10, 2) := by decide +kernel
theorem dX12_span_2 : decode cX12_span 2 = .ok (.istore_n 3, 1) := by decide +kernel
theorem dX12_span_3 : decode cX12_span 3 = .ok (.iconst (-1), 1) := by decide +kernel
theorem dX12_span_4 : decode cX12_span 4 = .ok (.istore 4, 2) := by decide +kernel
theorem dX12_span_6 : decode cX12_span 6 = .ok (.iconst 0, 1) := by decide +kernel
theorem dX12_span_7 : decode cX12_span 7 = .ok (.istore 5, 2) := by decide +kernel
theorem dX12_span_9 : decode cX12_span 9 = .ok (.iload 5, 2) := by decide +kernel
theorem dX12_span_11 : decode cX12_span 11 = .ok (.aload_n 0, 1) := by decide +kernel
theorem dX12_span_12 : decode cX12_span 12 = .ok (.iload_n 1, 1) := by decide +kernel
theorem dX12_span_13 : decode cX12_span 13 = .ok (.invokevirtual 70, 3) := by decide +kernel
theorem dX12_span_16 : decode cX12_span 16 = .ok (.if_icmp .ge 67, 3) := by decide +kernel
theorem dX12_span_19 : decode cX12_span 19 = .ok (.iload_n 2, 1) := by decide +kernel
theorem dX12_span_20 : decode cX12_span 20 = .ok (.ifCond .eq 16, 3) := by decide +kernel
theorem dX12_span_23 : decode cX12_span 23 = .ok (.aload_n 0, 1) := by decide +kernel
theorem dX12_span_24 : decode cX12_span 24 = .ok (.iload_n 1, 1) := by decide +kernel
theorem dX12_span_25 : decode cX12_span 25 = .ok (.iload 5, 2) := by decide +kernel
theorem dX12_span_27 : decode cX12_span 27 = .ok (.invokevirtual 74, 3) := by decide +kernel
theorem dX12_span_30 : decode cX12_span 30 = .ok (.bipush 10, 2) := by decide +kernel
theorem dX12_span_32 : decode cX12_span 32 = .ok (.irem, 1) := by decide +kernel
theorem dX12_span_33 : decode cX12_span 33 = .ok (.goto 13, 3) := by decide +kernel
theorem dX12_span_36 : decode cX12_span 36 = .ok (.aload_n 0, 1) := by decide +kernel
theorem dX12_span_37 : decode cX12_span 37 = .ok (.iload_n 1, 1) := by decide +kernel
theorem dX12_span_38 : decode cX12_span 38 = .ok (.iload 5, 2) := by decide +kernel
theorem dX12_span_40 : decode cX12_span 40 = .ok (.invokevirtual 74, 3) := by decide +kernel
theorem dX12_span_43 : decode cX12_span 43 = .ok (.bipush 10, 2) := by decide +kernel
theorem dX12_span_45 : decode cX12_span 45 = .ok (.idiv, 1) := by decide +kernel
theorem dX12_span_46 : decode cX12_span 46 = .ok (.istore 6, 2) := by decide +kernel
theorem dX12_span_48 : decode cX12_span 48 = .ok (.iload 6, 2) := by decide +kernel
theorem dX12_span_50 : decode cX12_span 50 = .ok (.iload_n 3, 1) := by decide +kernel
theorem dX12_span_51 : decode cX12_span 51 = .ok (.if_icmp .ge 8, 3) := by decide +kernel
theorem dX12_span_54 : decode cX12_span 54 = .ok (.iload 6, 2) := by decide +kernel
theorem dX12_span_56 : decode cX12_span 56 = .ok (.goto 4, 3) := by decide +kernel
theorem dX12_span_59 : decode cX12_span 59 = .ok (.iload_n 3, 1) := by decide +kernel
theorem dX12_span_60 : decode cX12_span 60 = .ok (.istore_n 3, 1) := by decide +kernel
theorem dX12_span_61 : decode cX12_span 61 = .ok (.iload 6, 2) := by decide +kernel
theorem dX12_span_63 : decode cX12_span 63 = .ok (.iload 4, 2) := by decide +kernel
theorem dX12_span_65 : decode cX12_span 65 = .ok (.if_icmp .le 8, 3) := by decide +kernel
theorem dX12_span_68 : decode cX12_span 68 = .ok (.iload 6, 2) := by decide +kernel
theorem dX12_span_70 : decode cX12_span 70 = .ok (.goto 5, 3) := by decide +kernel
theorem dX12_span_73 : decode cX12_span 73 = .ok (.iload 4, 2) := by decide +kernel
theorem dX12_span_75 : decode cX12_span 75 = .ok (.istore 4, 2) := by decide +kernel
theorem dX12_span_77 : decode cX12_span 77 = .ok (.iinc 5 1, 3) := by decide +kernel
theorem dX12_span_80 : decode cX12_span 80 = .ok (.goto (-71), 3) := by decide +kernel
theorem dX12_span_83 : decode cX12_span 83 = .ok (.iload 4, 2) := by decide +kernel
theorem dX12_span_85 : decode cX12_span 85 = .ok (.iload_n 3, 1) := by decide +kernel
theorem dX12_span_86 : decode cX12_span 86 = .ok (.isub, 1) := by decide +kernel
theorem dX12_span_87 : decode cX12_span 87 = .ok (.iconst 1, 1) := by decide +kernel
theorem dX12_span_88 : decode cX12_span 88 = .ok (.iadd, 1) := by decide +kernel
theorem dX12_span_89 : decode cX12_span 89 = .ok (.ireturn, 1) := by decide +kernel
theorem dX12_squared_0 : decode cX12_squared 0 = .ok (.iload_n 0, 1) := by decide +kernel
theorem dX12_squared_1 : decode cX12_squared 1 = .ok (.bipush 10, 2) := by decide +kernel
theorem dX12_squared_3 : decode cX12_squared 3 = .ok (.irem, 1) := by decide +kernel
theorem dX12_squared_4 : decode cX12_squared 4 = .ok (.iload_n 1, 1) := by decide +kernel
theorem dX12_squared_5 : decode cX12_squared 5 = .ok (.bipush 10, 2) := by decide +kernel
theorem dX12_squared_7 : decode cX12_squared 7 = .ok (.irem, 1) := by decide +kernel
theorem dX12_squared_8 : decode cX12_squared 8 = .ok (.isub, 1) := by decide +kernel
theorem dX12_squared_9 : decode cX12_squared 9 = .ok (.istore_n 2, 1) := by decide +kernel
theorem dX12_squared_10 : decode cX12_squared 10 = .ok (.iload_n 0, 1) := by decide +kernel
theorem dX12_squared_11 : decode cX12_squared 11 = .ok (.bipush 10, 2) := by decide +kernel
theorem dX12_squared_13 : decode cX12_squared 13 = .ok (.idiv, 1) := by decide +kernel
theorem dX12_squared_14 : decode cX12_squared 14 = .ok (.iload_n 1, 1) := by decide +kernel
theorem dX12_squared_15 : decode cX12_squared 15 = .ok (.bipush 10, 2) := by decide +kernel
theorem dX12_squared_17 : decode cX12_squared 17 = .ok (.idiv, 1) := by decide +kernel
theorem dX12_squared_18 : decode cX12_squared 18 = .ok (.isub, 1) := by decide +kernel
theorem dX12_squared_19 : decode cX12_squared 19 = .ok (.istore_n 3, 1) := by decide +kernel
theorem dX12_squared_20 : decode cX12_squared 20 = .ok (.iload_n 2, 1) := by decide +kernel
theorem dX12_squared_21 : decode cX12_squared 21 = .ok (.iload_n 2, 1) := by decide +kernel
theorem dX12_squared_22 : decode cX12_squared 22 = .ok (.imul, 1) := by decide +kernel
theorem dX12_squared_23 : decode cX12_squared 23 = .ok (.iload_n 3, 1) := by decide +kernel
theorem dX12_squared_24 : decode cX12_squared 24 = .ok (.iload_n 3, 1) := by decide +kernel
theorem dX12_squared_25 : decode cX12_squared 25 = .ok (.imul, 1) := by decide +kernel
theorem dX12_squared_26 : decode cX12_squared 26 = .ok (.iadd, 1) := by decide +kernel
theorem dX12_squared_27 : decode cX12_squared 27 = .ok (.ireturn, 1) := by decide +kernel
theorem dX12_moment_0 : decode cX12_moment 0 = .ok (.iconst 0, 1) := by decide +kernel
theorem dX12_moment_1 : decode cX12_moment 1 = .ok (.istore_n 2, 1) := by decide +kernel
theorem dX12_moment_2 : decode cX12_moment 2 = .ok (.iconst 0, 1) := by decide +kernel
theorem dX12_moment_3 : decode cX12_moment 3 = .ok (.istore_n 3, 1) := by decide +kernel
theorem dX12_moment_4 : decode cX12_moment 4 = .ok (.iconst 0, 1) := by decide +kernel
theorem dX12_moment_5 : decode cX12_moment 5 = .ok (.istore 4, 2) := by decide +kernel
theorem dX12_moment_7 : decode cX12_moment 7 = .ok (.iconst 0, 1) := by decide +kernel
theorem dX12_moment_8 : decode cX12_moment 8 = .ok (.istore 5, 2) := by decide +kernel
theorem dX12_moment_10 : decode cX12_moment 10 = .ok (.iload 5, 2) := by decide +kernel
theorem dX12_moment_12 : decode cX12_moment 12 = .ok (.aload_n 0, 1) := by decide +kernel
theorem dX12_moment_13 : decode cX12_moment 13 = .ok (.iload_n 1, 1) := by decide +kernel
theorem dX12_moment_14 : decode cX12_moment 14 = .ok (.invokevirtual 70, 3) := by decide +kernel
theorem dX12_moment_17 : decode cX12_moment 17 = .ok (.if_icmp .ge 45, 3) := by decide +kernel
theorem dX12_moment_20 : decode cX12_moment 20 = .ok (.aload_n 0, 1) := by decide +kernel
theorem dX12_moment_21 : decode cX12_moment 21 = .ok (.iload_n 1, 1) := by decide +kernel
theorem dX12_moment_22 : decode cX12_moment 22 = .ok (.iload 5, 2) := by decide +kernel
theorem dX12_moment_24 : decode cX12_moment 24 = .ok (.invokevirtual 74, 3) := by decide +kernel
theorem dX12_moment_27 : decode cX12_moment 27 = .ok (.istore 6, 2) := by decide +kernel
theorem dX12_moment_29 : decode cX12_moment 29 = .ok (.iload_n 2, 1) := by decide +kernel
theorem dX12_moment_30 : decode cX12_moment 30 = .ok (.iload 6, 2) := by decide +kernel
theorem dX12_moment_32 : decode cX12_moment 32 = .ok (.iconst 0, 1) := by decide +kernel
theorem dX12_moment_33 : decode cX12_moment 33 = .ok (.invokestatic 171, 3) := by decide +kernel
theorem dX12_moment_36 : decode cX12_moment 36 = .ok (.iadd, 1) := by decide +kernel
theorem dX12_moment_37 : decode cX12_moment 37 = .ok (.istore_n 2, 1) := by decide +kernel
theorem dX12_moment_38 : decode cX12_moment 38 = .ok (.iload_n 3, 1) := by decide +kernel
theorem dX12_moment_39 : decode cX12_moment 39 = .ok (.iload 6, 2) := by decide +kernel
theorem dX12_moment_41 : decode cX12_moment 41 = .ok (.bipush 10, 2) := by decide +kernel
theorem dX12_moment_43 : decode cX12_moment 43 = .ok (.irem, 1) := by decide +kernel
theorem dX12_moment_44 : decode cX12_moment 44 = .ok (.iadd, 1) := by decide +kernel
theorem dX12_moment_45 : decode cX12_moment 45 = .ok (.istore_n 3, 1) := by decide +kernel
theorem dX12_moment_46 : decode cX12_moment 46 = .ok (.iload 4, 2) := by decide +kernel
theorem dX12_moment_48 : decode cX12_moment 48 = .ok (.iload 6, 2) := by decide +kernel
theorem dX12_moment_50 : decode cX12_moment 50 = .ok (.bipush 10, 2) := by decide +kernel
theorem dX12_moment_52 : decode cX12_moment 52 = .ok (.idiv, 1) := by decide +kernel
theorem dX12_moment_53 : decode cX12_moment 53 = .ok (.iadd, 1) := by decide +kernel
theorem dX12_moment_54 : decode cX12_moment 54 = .ok (.istore 4, 2) := by decide +kernel
theorem dX12_moment_56 : decode cX12_moment 56 = .ok (.iinc 5 1, 3) := by decide +kernel
theorem dX12_moment_59 : decode cX12_moment 59 = .ok (.goto (-49), 3) := by decide +kernel
theorem dX12_moment_62 : decode cX12_moment 62 = .ok (.aload_n 0, 1) := by decide +kernel
theorem dX12_moment_63 : decode cX12_moment 63 = .ok (.iload_n 1, 1) := by decide +kernel
theorem dX12_moment_64 : decode cX12_moment 64 = .ok (.invokevirtual 70, 3) := by decide +kernel
theorem dX12_moment_67 : decode cX12_moment 67 = .ok (.iload_n 2, 1) := by decide +kernel
theorem dX12_moment_68 : decode cX12_moment 68 = .ok (.imul, 1) := by decide +kernel
theorem dX12_moment_69 : decode cX12_moment 69 = .ok (.iload_n 3, 1) := by decide +kernel
theorem dX12_moment_70 : decode cX12_moment 70 = .ok (.iload_n 3, 1) := by decide +kernel
theorem dX12_moment_71 : decode cX12_moment 71 = .ok (.imul, 1) := by decide +kernel
theorem dX12_moment_72 : decode cX12_moment 72 = .ok (.isub, 1) := by decide +kernel
theorem dX12_moment_73 : decode cX12_moment 73 = .ok (.iload 4, 2) := by decide +kernel
theorem dX12_moment_75 : decode cX12_moment 75 = .ok (.iload 4, 2) := by decide +kernel
theorem dX12_moment_77 : decode cX12_moment 77 = .ok (.imul, 1) := by decide +kernel
theorem dX12_moment_78 : decode cX12_moment 78 = .ok (.isub, 1) := by decide +kernel
theorem dX12_moment_79 : decode cX12_moment 79 = .ok (.ireturn, 1) := by decide +kernel
theorem dX12_freeBeside_0 : decode cX12_freeBeside 0 = .ok (.iconst 0, 1) := by decide +kernel
theorem dX12_freeBeside_1 : decode cX12_freeBeside 1 = .ok (.istore_n 2, 1) := by decide +kernel
theorem dX12_freeBeside_2 : decode cX12_freeBeside 2 = .ok (.iconst 0, 1) := by decide +kernel
theorem dX12_freeBeside_3 : decode cX12_freeBeside 3 = .ok (.istore_n 3, 1) := by decide +kernel
theorem dX12_freeBeside_4 : decode cX12_freeBeside 4 = .ok (.iload_n 3, 1) := by decide +kernel
theorem dX12_freeBeside_5 : decode cX12_freeBeside 5 = .ok (.bipush 100, 2) := by decide +kernel
theorem dX12_freeBeside_7 : decode cX12_freeBeside 7 = .ok (.if_icmp .ge 87, 3) := by decide +kernel
theorem dX12_freeBeside_10 : decode cX12_freeBeside 10 = .ok (.iconst 0, 1) := by decide +kernel
theorem dX12_freeBeside_11 : decode cX12_freeBeside 11 = .ok (.istore 4, 2) := by decide +kernel
theorem dX12_freeBeside_13 : decode cX12_freeBeside 13 = .ok (.iconst 0, 1) := by decide +kernel
theorem dX12_freeBeside_14 : decode cX12_freeBeside 14 = .ok (.istore 5, 2) := by decide +kernel
theorem dX12_freeBeside_16 : decode cX12_freeBeside 16 = .ok (.iload 5, 2) := by decide +kernel
theorem dX12_freeBeside_18 : decode cX12_freeBeside 18 = .ok (.iconst 4, 1) := by decide +kernel
theorem dX12_freeBeside_19 : decode cX12_freeBeside 19 = .ok (.if_icmp .ge 46, 3) := by decide +kernel
theorem dX12_freeBeside_22 : decode cX12_freeBeside 22 = .ok (.iload_n 3, 1) := by decide +kernel
theorem dX12_freeBeside_23 : decode cX12_freeBeside 23 = .ok (.iload 5, 2) := by decide +kernel
theorem dX12_freeBeside_25 : decode cX12_freeBeside 25 = .ok (.invokestatic 84, 3) := by decide +kernel
theorem dX12_freeBeside_28 : decode cX12_freeBeside 28 = .ok (.istore 6, 2) := by decide +kernel
theorem dX12_freeBeside_30 : decode cX12_freeBeside 30 = .ok (.iload 4, 2) := by decide +kernel
theorem dX12_freeBeside_32 : decode cX12_freeBeside 32 = .ok (.ifCond .ne 20, 3) := by decide +kernel
theorem dX12_freeBeside_35 : decode cX12_freeBeside 35 = .ok (.iload 6, 2) := by decide +kernel
theorem dX12_freeBeside_37 : decode cX12_freeBeside 37 = .ok (.iconst (-1), 1) := by decide +kernel
theorem dX12_freeBeside_38 : decode cX12_freeBeside 38 = .ok (.if_icmp .eq 18, 3) := by decide +kernel
theorem dX12_freeBeside_41 : decode cX12_freeBeside 41 = .ok (.aload_n 0, 1) := by decide +kernel
theorem dX12_freeBeside_42 : decode cX12_freeBeside 42 = .ok (.getfield 25, 3) := by decide +kernel
theorem dX12_freeBeside_45 : decode cX12_freeBeside 45 = .ok (.iload 6, 2) := by decide +kernel
theorem dX12_freeBeside_47 : decode cX12_freeBeside 47 = .ok (.iaload, 1) := by decide +kernel
theorem dX12_freeBeside_48 : decode cX12_freeBeside 48 = .ok (.iload_n 1, 1) := by decide +kernel
theorem dX12_freeBeside_49 : decode cX12_freeBeside 49 = .ok (.if_icmp .ne 7, 3) := by decide +kernel
theorem dX12_freeBeside_52 : decode cX12_freeBeside 52 = .ok (.iconst 1, 1) := by decide +kernel
theorem dX12_freeBeside_53 : decode cX12_freeBeside 53 = .ok (.goto 4, 3) := by decide +kernel
theorem dX12_freeBeside_56 : decode cX12_freeBeside 56 = .ok (.iconst 0, 1) := by decide +kernel
theorem dX12_freeBeside_57 : decode cX12_freeBeside 57 = .ok (.istore 4, 2) := by decide +kernel
theorem dX12_freeBeside_59 : decode cX12_freeBeside 59 = .ok (.iinc 5 1, 3) := by decide +kernel
theorem dX12_freeBeside_62 : decode cX12_freeBeside 62 = .ok (.goto (-46), 3) := by decide +kernel
theorem dX12_freeBeside_65 : decode cX12_freeBeside 65 = .ok (.iload_n 2, 1) := by decide +kernel
theorem dX12_freeBeside_66 : decode cX12_freeBeside 66 = .ok (.iload 4, 2) := by decide +kernel
theorem dX12_freeBeside_68 : decode cX12_freeBeside 68 = .ok (.ifCond .eq 17, 3) := by decide +kernel
theorem dX12_freeBeside_71 : decode cX12_freeBeside 71 = .ok (.aload_n 0, 1) := by decide +kernel
theorem dX12_freeBeside_72 : decode cX12_freeBeside 72 = .ok (.getfield 25, 3) := by decide +kernel
theorem dX12_freeBeside_75 : decode cX12_freeBeside 75 = .ok (.iload_n 3, 1) := by decide +kernel
theorem dX12_freeBeside_76 : decode cX12_freeBeside 76 = .ok (.iaload, 1) := by decide +kernel
theorem dX12_freeBeside_77 : decode cX12_freeBeside 77 = .ok (.iconst (-1), 1) := by decide +kernel
theorem dX12_freeBeside_78 : decode cX12_freeBeside 78 = .ok (.if_icmp .ne 7, 3) := by decide +kernel
theorem dX12_freeBeside_81 : decode cX12_freeBeside 81 = .ok (.iconst 1, 1) := by decide +kernel
theorem dX12_freeBeside_82 : decode cX12_freeBeside 82 = .ok (.goto 4, 3) := by decide +kernel
theorem dX12_freeBeside_85 : decode cX12_freeBeside 85 = .ok (.iconst 0, 1) := by decide +kernel
theorem dX12_freeBeside_86 : decode cX12_freeBeside 86 = .ok (.iadd, 1) := by decide +kernel
theorem dX12_freeBeside_87 : decode cX12_freeBeside 87 = .ok (.istore_n 2, 1) := by decide +kernel
theorem dX12_freeBeside_88 : decode cX12_freeBeside 88 = .ok (.iinc 3 1, 3) := by decide +kernel
theorem dX12_freeBeside_91 : decode cX12_freeBeside 91 = .ok (.goto (-87), 3) := by decide +kernel
theorem dX12_freeBeside_94 : decode cX12_freeBeside 94 = .ok (.iload_n 2, 1) := by decide +kernel
theorem dX12_freeBeside_95 : decode cX12_freeBeside 95 = .ok (.ireturn, 1) := by decide +kernel
theorem dX12_tellsPath_0 : decode cX12_tellsPath 0 = .ok (.iload_n 2, 1) := by decide +kernel
theorem dX12_tellsPath_1 : decode cX12_tellsPath 1 = .ok (.tableswitch 110 0 7 #[47, 53, 59, 65, 72, 79, 94, 104], 47) := by decide +kernel
theorem dX12_tellsPath_48 : decode cX12_tellsPath 48 = .ok (.aload_n 0, 1) := by decide +kernel
theorem dX12_tellsPath_49 : decode cX12_tellsPath 49 = .ok (.iload_n 1, 1) := by decide +kernel
theorem dX12_tellsPath_50 : decode cX12_tellsPath 50 = .ok (.invokevirtual 70, 3) := by decide +kernel
theorem dX12_tellsPath_53 : decode cX12_tellsPath 53 = .ok (.ireturn, 1) := by decide +kernel
theorem dX12_tellsPath_54 : decode cX12_tellsPath 54 = .ok (.aload_n 0, 1) := by decide +kernel
theorem dX12_tellsPath_55 : decode cX12_tellsPath 55 = .ok (.iload_n 1, 1) := by decide +kernel
theorem dX12_tellsPath_56 : decode cX12_tellsPath 56 = .ok (.invokevirtual 174, 3) := by decide +kernel
theorem dX12_tellsPath_59 : decode cX12_tellsPath 59 = .ok (.ireturn, 1) := by decide +kernel
theorem dX12_tellsPath_60 : decode cX12_tellsPath 60 = .ok (.aload_n 0, 1) := by decide +kernel
theorem dX12_tellsPath_61 : decode cX12_tellsPath 61 = .ok (.iload_n 1, 1) := by decide +kernel
theorem dX12_tellsPath_62 : decode cX12_tellsPath 62 = .ok (.invokevirtual 177, 3) := by decide +kernel
theorem dX12_tellsPath_65 : decode cX12_tellsPath 65 = .ok (.ireturn, 1) := by decide +kernel
theorem dX12_tellsPath_66 : decode cX12_tellsPath 66 = .ok (.aload_n 0, 1) := by decide +kernel
theorem dX12_tellsPath_67 : decode cX12_tellsPath 67 = .ok (.iload_n 1, 1) := by decide +kernel
theorem dX12_tellsPath_68 : decode cX12_tellsPath 68 = .ok (.iconst 1, 1) := by decide +kernel
theorem dX12_tellsPath_69 : decode cX12_tellsPath 69 = .ok (.invokevirtual 180, 3) := by decide +kernel
theorem dX12_tellsPath_72 : decode cX12_tellsPath 72 = .ok (.ireturn, 1) := by decide +kernel
theorem dX12_tellsPath_73 : decode cX12_tellsPath 73 = .ok (.aload_n 0, 1) := by decide +kernel
theorem dX12_tellsPath_74 : decode cX12_tellsPath 74 = .ok (.iload_n 1, 1) := by decide +kernel
theorem dX12_tellsPath_75 : decode cX12_tellsPath 75 = .ok (.iconst 0, 1) := by decide +kernel
theorem dX12_tellsPath_76 : decode cX12_tellsPath 76 = .ok (.invokevirtual 180, 3) := by decide +kernel
theorem dX12_tellsPath_79 : decode cX12_tellsPath 79 = .ok (.ireturn, 1) := by decide +kernel
theorem dX12_tellsPath_80 : decode cX12_tellsPath 80 = .ok (.aload_n 0, 1) := by decide +kernel
theorem dX12_tellsPath_81 : decode cX12_tellsPath 81 = .ok (.iload_n 1, 1) := by decide +kernel
theorem dX12_tellsPath_82 : decode cX12_tellsPath 82 = .ok (.iconst 0, 1) := by decide +kernel
theorem dX12_tellsPath_83 : decode cX12_tellsPath 83 = .ok (.invokevirtual 74, 3) := by decide +kernel
theorem dX12_tellsPath_86 : decode cX12_tellsPath 86 = .ok (.aload_n 0, 1) := by decide +kernel
theorem dX12_tellsPath_87 : decode cX12_tellsPath 87 = .ok (.iload_n 1, 1) := by decide +kernel
theorem dX12_tellsPath_88 : decode cX12_tellsPath 88 = .ok (.invokevirtual 121, 3) := by decide +kernel
theorem dX12_tellsPath_91 : decode cX12_tellsPath 91 = .ok (.invokestatic 171, 3) := by decide +kernel
theorem dX12_tellsPath_94 : decode cX12_tellsPath 94 = .ok (.ireturn, 1) := by decide +kernel
theorem dX12_tellsPath_95 : decode cX12_tellsPath 95 = .ok (.aload_n 0, 1) := by decide +kernel
theorem dX12_tellsPath_96 : decode cX12_tellsPath 96 = .ok (.aload_n 0, 1) := by decide +kernel
theorem dX12_tellsPath_97 : decode cX12_tellsPath 97 = .ok (.iload_n 1, 1) := by decide +kernel
theorem dX12_tellsPath_98 : decode cX12_tellsPath 98 = .ok (.invokevirtual 121, 3) := by decide +kernel
theorem dX12_tellsPath_101 : decode cX12_tellsPath 101 = .ok (.invokevirtual 165, 3) := by decide +kernel
theorem dX12_tellsPath_104 : decode cX12_tellsPath 104 = .ok (.ireturn, 1) := by decide +kernel
theorem dX12_tellsPath_105 : decode cX12_tellsPath 105 = .ok (.aload_n 0, 1) := by decide +kernel
theorem dX12_tellsPath_106 : decode cX12_tellsPath 106 = .ok (.iload_n 1, 1) := by decide +kernel
theorem dX12_tellsPath_107 : decode cX12_tellsPath 107 = .ok (.invokevirtual 184, 3) := by decide +kernel
theorem dX12_tellsPath_110 : decode cX12_tellsPath 110 = .ok (.ireturn, 1) := by decide +kernel
theorem dX12_tellsPath_111 : decode cX12_tellsPath 111 = .ok (.aload_n 0, 1) := by decide +kernel
theorem dX12_tellsPath_112 : decode cX12_tellsPath 112 = .ok (.iload_n 1, 1) := by decide +kernel
theorem dX12_tellsPath_113 : decode cX12_tellsPath 113 = .ok (.invokevirtual 187, 3) := by decide +kernel
theorem dX12_tellsPath_116 : decode cX12_tellsPath 116 = .ok (.ireturn, 1) := by decide +kernel
theorem dX12_path_0 : decode cX12_path 0 = .ok (.aload_n 0, 1) := by decide +kernel
theorem dX12_path_1 : decode cX12_path 1 = .ok (.iconst 0, 1) := by decide +kernel
theorem dX12_path_2 : decode cX12_path 2 = .ok (.putfield 59, 3) := by decide +kernel
theorem dX12_path_5 : decode cX12_path 5 = .ok (.aload_n 0, 1) := by decide +kernel
theorem dX12_path_6 : decode cX12_path 6 = .ok (.iload_n 1, 1) := by decide +kernel
theorem dX12_path_7 : decode cX12_path 7 = .ok (.invokevirtual 66, 3) := by decide +kernel
theorem dX12_path_10 : decode cX12_path 10 = .ok (.ifCond .ne 9, 3) := by decide +kernel
theorem dX12_path_13 : decode cX12_path 13 = .ok (.aload_n 0, 1) := by decide +kernel
theorem dX12_path_14 : decode cX12_path 14 = .ok (.iconst 1, 1) := by decide +kernel
theorem dX12_path_15 : decode cX12_path 15 = .ok (.invokevirtual 78, 3) := by decide +kernel
theorem dX12_path_18 : decode cX12_path 18 = .ok (.ireturn, 1) := by decide +kernel
theorem dX12_path_19 : decode cX12_path 19 = .ok (.iload_n 2, 1) := by decide +kernel
theorem dX12_path_20 : decode cX12_path 20 = .ok (.iconst 0, 1) := by decide +kernel
theorem dX12_path_21 : decode cX12_path 21 = .ok (.bipush 8, 2) := by decide +kernel
theorem dX12_path_23 : decode cX12_path 23 = .ok (.invokestatic 62, 3) := by decide +kernel
theorem dX12_path_26 : decode cX12_path 26 = .ok (.ifCond .ne 9, 3) := by decide +kernel
theorem dX12_path_29 : decode cX12_path 29 = .ok (.aload_n 0, 1) := by decide +kernel
theorem dX12_path_30 : decode cX12_path 30 = .ok (.iconst 2, 1) := by decide +kernel
theorem dX12_path_31 : decode cX12_path 31 = .ok (.invokevirtual 78, 3) := by decide +kernel
theorem dX12_path_34 : decode cX12_path 34 = .ok (.ireturn, 1) := by decide +kernel
theorem dX12_path_35 : decode cX12_path 35 = .ok (.aload_n 0, 1) := by decide +kernel
theorem dX12_path_36 : decode cX12_path 36 = .ok (.invokevirtual 114, 3) := by decide +kernel
theorem dX12_path_39 : decode cX12_path 39 = .ok (.aload_n 0, 1) := by decide +kernel
theorem dX12_path_40 : decode cX12_path 40 = .ok (.iload_n 1, 1) := by decide +kernel
theorem dX12_path_41 : decode cX12_path 41 = .ok (.iload_n 2, 1) := by decide +kernel
theorem dX12_path_42 : decode cX12_path 42 = .ok (.invokevirtual 190, 3) := by decide +kernel
theorem dX12_path_45 : decode cX12_path 45 = .ok (.ireturn, 1) := by decide +kernel
theorem dX12_trapped_0 : decode cX12_trapped 0 = .ok (.aload_n 0, 1) := by decide +kernel
theorem dX12_trapped_1 : decode cX12_trapped 1 = .ok (.iconst 0, 1) := by decide +kernel
theorem dX12_trapped_2 : decode cX12_trapped 2 = .ok (.putfield 59, 3) := by decide +kernel
theorem dX12_trapped_5 : decode cX12_trapped 5 = .ok (.aload_n 0, 1) := by decide +kernel
theorem dX12_trapped_6 : decode cX12_trapped 6 = .ok (.invokevirtual 114, 3) := by decide +kernel
theorem dX12_trapped_9 : decode cX12_trapped 9 = .ok (.iconst 0, 1) := by decide +kernel
theorem dX12_trapped_10 : decode cX12_trapped 10 = .ok (.istore_n 1, 1) := by decide +kernel
theorem dX12_trapped_11 : decode cX12_trapped 11 = .ok (.iconst 0, 1) := by decide +kernel
theorem dX12_trapped_12 : decode cX12_trapped 12 = .ok (.istore_n 2, 1) := by decide +kernel
theorem dX12_trapped_13 : decode cX12_trapped 13 = .ok (.iload_n 2, 1) := by decide +kernel
theorem dX12_trapped_14 : decode cX12_trapped 14 = .ok (.aload_n 0, 1) := by decide +kernel
theorem dX12_trapped_15 : decode cX12_trapped 15 = .ok (.getfield 7, 3) := by decide +kernel
theorem dX12_trapped_18 : decode cX12_trapped 18 = .ok (.iconst 0, 1) := by decide +kernel
theorem dX12_trapped_19 : decode cX12_trapped 19 = .ok (.iaload, 1) := by decide +kernel
theorem dX12_trapped_20 : decode cX12_trapped 20 = .ok (.if_icmp .ge 31, 3) := by decide +kernel
theorem dX12_trapped_23 : decode cX12_trapped 23 = .ok (.iload_n 1, 1) := by decide +kernel
theorem dX12_trapped_24 : decode cX12_trapped 24 = .ok (.aload_n 0, 1) := by decide +kernel
theorem dX12_trapped_25 : decode cX12_trapped 25 = .ok (.aload_n 0, 1) := by decide +kernel
theorem dX12_trapped_26 : decode cX12_trapped 26 = .ok (.iload_n 2, 1) := by decide +kernel
theorem dX12_trapped_27 : decode cX12_trapped 27 = .ok (.invokevirtual 121, 3) := by decide +kernel
theorem dX12_trapped_30 : decode cX12_trapped 30 = .ok (.invokevirtual 165, 3) := by decide +kernel
theorem dX12_trapped_33 : decode cX12_trapped 33 = .ok (.ifCond .ne 9, 3) := by decide +kernel
theorem dX12_trapped_36 : decode cX12_trapped 36 = .ok (.iconst 1, 1) := by decide +kernel
theorem dX12_trapped_37 : decode cX12_trapped 37 = .ok (.iload_n 2, 1) := by decide +kernel
theorem dX12_trapped_38 : decode cX12_trapped 38 = .ok (.ishl, 1) := by decide +kernel
theorem dX12_trapped_39 : decode cX12_trapped 39 = .ok (.goto 4, 3) := by decide +kernel
theorem dX12_trapped_42 : decode cX12_trapped 42 = .ok (.iconst 0, 1) := by decide +kernel
theorem dX12_trapped_43 : decode cX12_trapped 43 = .ok (.ior, 1) := by decide +kernel
theorem dX12_trapped_44 : decode cX12_trapped 44 = .ok (.istore_n 1, 1) := by decide +kernel
theorem dX12_trapped_45 : decode cX12_trapped 45 = .ok (.iinc 2 1, 3) := by decide +kernel
theorem dX12_trapped_48 : decode cX12_trapped 48 = .ok (.goto (-35), 3) := by decide +kernel
theorem dX12_trapped_51 : decode cX12_trapped 51 = .ok (.iload_n 1, 1) := by decide +kernel
theorem dX12_trapped_52 : decode cX12_trapped 52 = .ok (.ireturn, 1) := by decide +kernel
theorem dX12_touching_0 : decode cX12_touching 0 = .ok (.aload_n 0, 1) := by decide +kernel
theorem dX12_touching_1 : decode cX12_touching 1 = .ok (.iconst 0, 1) := by decide +kernel
theorem dX12_touching_2 : decode cX12_touching 2 = .ok (.putfield 59, 3) := by decide +kernel
theorem dX12_touching_5 : decode cX12_touching 5 = .ok (.aload_n 0, 1) := by decide +kernel
theorem dX12_touching_6 : decode cX12_touching 6 = .ok (.iload_n 1, 1) := by decide +kernel
theorem dX12_touching_7 : decode cX12_touching 7 = .ok (.invokevirtual 66, 3) := by decide +kernel
theorem dX12_touching_10 : decode cX12_touching 10 = .ok (.ifCond .eq 11, 3) := by decide +kernel
theorem dX12_touching_13 : decode cX12_touching 13 = .ok (.aload_n 0, 1) := by decide +kernel
theorem dX12_touching_14 : decode cX12_touching 14 = .ok (.iload_n 2, 1) := by decide +kernel
theorem dX12_touching_15 : decode cX12_touching 15 = .ok (.invokevirtual 66, 3) := by decide +kernel
theorem dX12_touching_18 : decode cX12_touching 18 = .ok (.ifCond .ne 9, 3) := by decide +kernel
theorem dX12_touching_21 : decode cX12_touching 21 = .ok (.aload_n 0, 1) := by decide +kernel
theorem dX12_touching_22 : decode cX12_touching 22 = .ok (.iconst 1, 1) := by decide +kernel
theorem dX12_touching_23 : decode cX12_touching 23 = .ok (.invokevirtual 78, 3) := by decide +kernel
theorem dX12_touching_26 : decode cX12_touching 26 = .ok (.ireturn, 1) := by decide +kernel
theorem dX12_touching_27 : decode cX12_touching 27 = .ok (.iload_n 1, 1) := by decide +kernel
theorem dX12_touching_28 : decode cX12_touching 28 = .ok (.iload_n 2, 1) := by decide +kernel
theorem dX12_touching_29 : decode cX12_touching 29 = .ok (.if_icmp .ne 9, 3) := by decide +kernel
theorem dX12_touching_32 : decode cX12_touching 32 = .ok (.aload_n 0, 1) := by decide +kernel
theorem dX12_touching_33 : decode cX12_touching 33 = .ok (.iconst 2, 1) := by decide +kernel
theorem dX12_touching_34 : decode cX12_touching 34 = .ok (.invokevirtual 78, 3) := by decide +kernel
theorem dX12_touching_37 : decode cX12_touching 37 = .ok (.ireturn, 1) := by decide +kernel
theorem dX12_touching_38 : decode cX12_touching 38 = .ok (.iconst 0, 1) := by decide +kernel
theorem dX12_touching_39 : decode cX12_touching 39 = .ok (.istore_n 3, 1) := by decide +kernel
theorem dX12_touching_40 : decode cX12_touching 40 = .ok (.iconst 0, 1) := by decide +kernel
theorem dX12_touching_41 : decode cX12_touching 41 = .ok (.istore 4, 2) := by decide +kernel
theorem dX12_touching_43 : decode cX12_touching 43 = .ok (.iload 4, 2) := by decide +kernel
theorem dX12_touching_45 : decode cX12_touching 45 = .ok (.aload_n 0, 1) := by decide +kernel
theorem dX12_touching_46 : decode cX12_touching 46 = .ok (.iload_n 1, 1) := by decide +kernel
theorem dX12_touching_47 : decode cX12_touching 47 = .ok (.invokevirtual 70, 3) := by decide +kernel
theorem dX12_touching_50 : decode cX12_touching 50 = .ok (.if_icmp .ge 57, 3) := by decide +kernel
theorem dX12_touching_53 : decode cX12_touching 53 = .ok (.iconst 0, 1) := by decide +kernel
theorem dX12_touching_54 : decode cX12_touching 54 = .ok (.istore 5, 2) := by decide +kernel
theorem dX12_touching_56 : decode cX12_touching 56 = .ok (.iload 5, 2) := by decide +kernel
theorem dX12_touching_58 : decode cX12_touching 58 = .ok (.aload_n 0, 1) := by decide +kernel
theorem dX12_touching_59 : decode cX12_touching 59 = .ok (.iload_n 2, 1) := by decide +kernel
theorem dX12_touching_60 : decode cX12_touching 60 = .ok (.invokevirtual 70, 3) := by decide +kernel
theorem dX12_touching_63 : decode cX12_touching 63 = .ok (.if_icmp .ge 38, 3) := by decide +kernel
theorem dX12_touching_66 : decode cX12_touching 66 = .ok (.iload_n 3, 1) := by decide +kernel
theorem dX12_touching_67 : decode cX12_touching 67 = .ok (.aload_n 0, 1) := by decide +kernel
theorem dX12_touching_68 : decode cX12_touching 68 = .ok (.iload_n 1, 1) := by decide +kernel
theorem dX12_touching_69 : decode cX12_touching 69 = .ok (.iload 4, 2) := by decide +kernel
theorem dX12_touching_71 : decode cX12_touching 71 = .ok (.invokevirtual 74, 3) := by decide +kernel
theorem dX12_touching_74 : decode cX12_touching 74 = .ok (.aload_n 0, 1) := by decide +kernel
theorem dX12_touching_75 : decode cX12_touching 75 = .ok (.iload_n 2, 1) := by decide +kernel
theorem dX12_touching_76 : decode cX12_touching 76 = .ok (.iload 5, 2) := by decide +kernel
theorem dX12_touching_78 : decode cX12_touching 78 = .ok (.invokevirtual 74, 3) := by decide +kernel
theorem dX12_touching_81 : decode cX12_touching 81 = .ok (.invokestatic 140, 3) := by decide +kernel
theorem dX12_touching_84 : decode cX12_touching 84 = .ok (.iconst (-1), 1) := by decide +kernel
theorem dX12_touching_85 : decode cX12_touching 85 = .ok (.if_icmp .eq 7, 3) := by decide +kernel
theorem dX12_touching_88 : decode cX12_touching 88 = .ok (.iconst 1, 1) := by decide +kernel
theorem dX12_touching_89 : decode cX12_touching 89 = .ok (.goto 4, 3) := by decide +kernel
theorem dX12_touching_92 : decode cX12_touching 92 = .ok (.iconst 0, 1) := by decide +kernel
theorem dX12_touching_93 : decode cX12_touching 93 = .ok (.iadd, 1) := by decide +kernel
theorem dX12_touching_94 : decode cX12_touching 94 = .ok (.istore_n 3, 1) := by decide +kernel
theorem dX12_touching_95 : decode cX12_touching 95 = .ok (.iinc 5 1, 3) := by decide +kernel
theorem dX12_touching_98 : decode cX12_touching 98 = .ok (.goto (-42), 3) := by decide +kernel
theorem dX12_touching_101 : decode cX12_touching 101 = .ok (.iinc 4 1, 3) := by decide +kernel
theorem dX12_touching_104 : decode cX12_touching 104 = .ok (.goto (-61), 3) := by decide +kernel
theorem dX12_touching_107 : decode cX12_touching 107 = .ok (.iload_n 3, 1) := by decide +kernel
theorem dX12_touching_108 : decode cX12_touching 108 = .ok (.ireturn, 1) := by decide +kernel
theorem dX12_laySteps_0 : decode cX12_laySteps 0 = .ok (.aload_n 0, 1) := by decide +kernel
theorem dX12_laySteps_1 : decode cX12_laySteps 1 = .ok (.iload_n 1, 1) := by decide +kernel
theorem dX12_laySteps_2 : decode cX12_laySteps 2 = .ok (.invokevirtual 70, 3) := by decide +kernel
theorem dX12_laySteps_5 : decode cX12_laySteps 5 = .ok (.iconst 2, 1) := by decide +kernel
theorem dX12_laySteps_6 : decode cX12_laySteps 6 = .ok (.isub, 1) := by decide +kernel
theorem dX12_laySteps_7 : decode cX12_laySteps 7 = .ok (.istore_n 3, 1) := by decide +kernel
theorem dX12_laySteps_8 : decode cX12_laySteps 8 = .ok (.iconst 0, 1) := by decide +kernel
theorem dX12_laySteps_9 : decode cX12_laySteps 9 = .ok (.istore 4, 2) := by decide +kernel
theorem dX12_laySteps_11 : decode cX12_laySteps 11 = .ok (.iload 4, 2) := by decide +kernel
theorem dX12_laySteps_13 : decode cX12_laySteps 13 = .ok (.iload_n 3, 1) := by decide +kernel
theorem dX12_laySteps_14 : decode cX12_laySteps 14 = .ok (.if_icmp .gt 76, 3) := by decide +kernel
theorem dX12_laySteps_17 : decode cX12_laySteps 17 = .ok (.iload_n 2, 1) := by decide +kernel
theorem dX12_laySteps_18 : decode cX12_laySteps 18 = .ok (.bipush 8, 2) := by decide +kernel
theorem dX12_laySteps_20 : decode cX12_laySteps 20 = .ok (.if_icmp .ge 13, 3) := by decide +kernel
theorem dX12_laySteps_23 : decode cX12_laySteps 23 = .ok (.aload_n 0, 1) := by decide +kernel
theorem dX12_laySteps_24 : decode cX12_laySteps 24 = .ok (.iload_n 1, 1) := by decide +kernel
theorem dX12_laySteps_25 : decode cX12_laySteps 25 = .ok (.iload 4, 2) := by decide +kernel
theorem dX12_laySteps_27 : decode cX12_laySteps 27 = .ok (.invokevirtual 168, 3) := by decide +kernel
theorem dX12_laySteps_30 : decode cX12_laySteps 30 = .ok (.goto 16, 3) := by decide +kernel
theorem dX12_laySteps_33 : decode cX12_laySteps 33 = .ok (.aload_n 0, 1) := by decide +kernel
theorem dX12_laySteps_34 : decode cX12_laySteps 34 = .ok (.iload_n 1, 1) := by decide +kernel
theorem dX12_laySteps_35 : decode cX12_laySteps 35 = .ok (.iload_n 3, 1) := by decide +kernel
theorem dX12_laySteps_36 : decode cX12_laySteps 36 = .ok (.iload 4, 2) := by decide +kernel
theorem dX12_laySteps_38 : decode cX12_laySteps 38 = .ok (.isub, 1) := by decide +kernel
theorem dX12_laySteps_39 : decode cX12_laySteps 39 = .ok (.invokevirtual 168, 3) := by decide +kernel
theorem dX12_laySteps_42 : decode cX12_laySteps 42 = .ok (.iconst 2, 1) := by decide +kernel
theorem dX12_laySteps_43 : decode cX12_laySteps 43 = .ok (.iadd, 1) := by decide +kernel
theorem dX12_laySteps_44 : decode cX12_laySteps 44 = .ok (.iconst 4, 1) := by decide +kernel
theorem dX12_laySteps_45 : decode cX12_laySteps 45 = .ok (.irem, 1) := by decide +kernel
theorem dX12_laySteps_46 : decode cX12_laySteps 46 = .ok (.istore 5, 2) := by decide +kernel
theorem dX12_laySteps_48 : decode cX12_laySteps 48 = .ok (.iload_n 2, 1) := by decide +kernel
theorem dX12_laySteps_49 : decode cX12_laySteps 49 = .ok (.iconst 4, 1) := by decide +kernel
theorem dX12_laySteps_50 : decode cX12_laySteps 50 = .ok (.idiv, 1) := by decide +kernel
theorem dX12_laySteps_51 : decode cX12_laySteps 51 = .ok (.iconst 2, 1) := by decide +kernel
theorem dX12_laySteps_52 : decode cX12_laySteps 52 = .ok (.irem, 1) := by decide +kernel
theorem dX12_laySteps_53 : decode cX12_laySteps 53 = .ok (.ifCond .ne 8, 3) := by decide +kernel
theorem dX12_laySteps_56 : decode cX12_laySteps 56 = .ok (.iload 5, 2) := by decide +kernel
theorem dX12_laySteps_58 : decode cX12_laySteps 58 = .ok (.goto 9, 3) := by decide +kernel
theorem dX12_laySteps_61 : decode cX12_laySteps 61 = .ok (.iconst 4, 1) := by decide +kernel
theorem dX12_laySteps_62 : decode cX12_laySteps 62 = .ok (.iload 5, 2) := by decide +kernel
theorem dX12_laySteps_64 : decode cX12_laySteps 64 = .ok (.isub, 1) := by decide +kernel
theorem dX12_laySteps_65 : decode cX12_laySteps 65 = .ok (.iconst 4, 1) := by decide +kernel
theorem dX12_laySteps_66 : decode cX12_laySteps 66 = .ok (.irem, 1) := by decide +kernel
theorem dX12_laySteps_67 : decode cX12_laySteps 67 = .ok (.istore 5, 2) := by decide +kernel
theorem dX12_laySteps_69 : decode cX12_laySteps 69 = .ok (.aload_n 0, 1) := by decide +kernel
theorem dX12_laySteps_70 : decode cX12_laySteps 70 = .ok (.getfield 49, 3) := by decide +kernel
theorem dX12_laySteps_73 : decode cX12_laySteps 73 = .ok (.iload 4, 2) := by decide +kernel
theorem dX12_laySteps_75 : decode cX12_laySteps 75 = .ok (.iload 5, 2) := by decide +kernel
theorem dX12_laySteps_77 : decode cX12_laySteps 77 = .ok (.iload_n 2, 1) := by decide +kernel
theorem dX12_laySteps_78 : decode cX12_laySteps 78 = .ok (.iconst 4, 1) := by decide +kernel
theorem dX12_laySteps_79 : decode cX12_laySteps 79 = .ok (.irem, 1) := by decide +kernel
theorem dX12_laySteps_80 : decode cX12_laySteps 80 = .ok (.iadd, 1) := by decide +kernel
theorem dX12_laySteps_81 : decode cX12_laySteps 81 = .ok (.iconst 4, 1) := by decide +kernel
theorem dX12_laySteps_82 : decode cX12_laySteps 82 = .ok (.irem, 1) := by decide +kernel
theorem dX12_laySteps_83 : decode cX12_laySteps 83 = .ok (.iastore, 1) := by decide +kernel
theorem dX12_laySteps_84 : decode cX12_laySteps 84 = .ok (.iinc 4 1, 3) := by decide +kernel
theorem dX12_laySteps_87 : decode cX12_laySteps 87 = .ok (.goto (-76), 3) := by decide +kernel
theorem dX12_laySteps_90 : decode cX12_laySteps 90 = .ok (.return_, 1) := by decide +kernel
theorem dX12_layShape_0 : decode cX12_layShape 0 = .ok (.aload_n 0, 1) := by decide +kernel
theorem dX12_layShape_1 : decode cX12_layShape 1 = .ok (.iload_n 1, 1) := by decide +kernel
theorem dX12_layShape_2 : decode cX12_layShape 2 = .ok (.invokevirtual 70, 3) := by decide +kernel
theorem dX12_layShape_5 : decode cX12_layShape 5 = .ok (.iconst 1, 1) := by decide +kernel
theorem dX12_layShape_6 : decode cX12_layShape 6 = .ok (.isub, 1) := by decide +kernel
theorem dX12_layShape_7 : decode cX12_layShape 7 = .ok (.istore_n 2, 1) := by decide +kernel
theorem dX12_layShape_8 : decode cX12_layShape 8 = .ok (.iconst 0, 1) := by decide +kernel
theorem dX12_layShape_9 : decode cX12_layShape 9 = .ok (.istore_n 3, 1) := by decide +kernel
theorem dX12_layShape_10 : decode cX12_layShape 10 = .ok (.iload_n 3, 1) := by decide +kernel
theorem dX12_layShape_11 : decode cX12_layShape 11 = .ok (.bipush 16, 2) := by decide +kernel
theorem dX12_layShape_13 : decode cX12_layShape 13 = .ok (.if_icmp .ge 115, 3) := by decide +kernel
theorem dX12_layShape_16 : decode cX12_layShape 16 = .ok (.aload_n 0, 1) := by decide +kernel
theorem dX12_layShape_17 : decode cX12_layShape 17 = .ok (.iload_n 1, 1) := by decide +kernel
theorem dX12_layShape_18 : decode cX12_layShape 18 = .ok (.iload_n 3, 1) := by decide +kernel
theorem dX12_layShape_19 : decode cX12_layShape 19 = .ok (.invokevirtual 193, 3) := by decide +kernel
theorem dX12_layShape_22 : decode cX12_layShape 22 = .ok (.iconst 0, 1) := by decide +kernel
theorem dX12_layShape_23 : decode cX12_layShape 23 = .ok (.istore 4, 2) := by decide +kernel
theorem dX12_layShape_25 : decode cX12_layShape 25 = .ok (.iload 4, 2) := by decide +kernel
theorem dX12_layShape_27 : decode cX12_layShape 27 = .ok (.iload_n 2, 1) := by decide +kernel
theorem dX12_layShape_28 : decode cX12_layShape 28 = .ok (.if_icmp .ge 26, 3) := by decide +kernel
theorem dX12_layShape_31 : decode cX12_layShape 31 = .ok (.aload_n 0, 1) := by decide +kernel
theorem dX12_layShape_32 : decode cX12_layShape 32 = .ok (.getfield 49, 3) := by decide +kernel
theorem dX12_layShape_35 : decode cX12_layShape 35 = .ok (.iload 4, 2) := by decide +kernel
theorem dX12_layShape_37 : decode cX12_layShape 37 = .ok (.iaload, 1) := by decide +kernel
theorem dX12_layShape_38 : decode cX12_layShape 38 = .ok (.aload_n 0, 1) := by decide +kernel
theorem dX12_layShape_39 : decode cX12_layShape 39 = .ok (.getfield 46, 3) := by decide +kernel
theorem dX12_layShape_42 : decode cX12_layShape 42 = .ok (.iload 4, 2) := by decide +kernel
theorem dX12_layShape_44 : decode cX12_layShape 44 = .ok (.iaload, 1) := by decide +kernel
theorem dX12_layShape_45 : decode cX12_layShape 45 = .ok (.if_icmp .ne 9, 3) := by decide +kernel
theorem dX12_layShape_48 : decode cX12_layShape 48 = .ok (.iinc 4 1, 3) := by decide +kernel
theorem dX12_layShape_51 : decode cX12_layShape 51 = .ok (.goto (-26), 3) := by decide +kernel
theorem dX12_layShape_54 : decode cX12_layShape 54 = .ok (.iload_n 3, 1) := by decide +kernel
theorem dX12_layShape_55 : decode cX12_layShape 55 = .ok (.ifCond .eq 26, 3) := by decide +kernel
theorem dX12_layShape_58 : decode cX12_layShape 58 = .ok (.iload 4, 2) := by decide +kernel
theorem dX12_layShape_60 : decode cX12_layShape 60 = .ok (.iload_n 2, 1) := by decide +kernel
theorem dX12_layShape_61 : decode cX12_layShape 61 = .ok (.if_icmp .ge 24, 3) := by decide +kernel
theorem dX12_layShape_64 : decode cX12_layShape 64 = .ok (.aload_n 0, 1) := by decide +kernel
theorem dX12_layShape_65 : decode cX12_layShape 65 = .ok (.getfield 49, 3) := by decide +kernel
theorem dX12_layShape_68 : decode cX12_layShape 68 = .ok (.iload 4, 2) := by decide +kernel
theorem dX12_layShape_70 : decode cX12_layShape 70 = .ok (.iaload, 1) := by decide +kernel
theorem dX12_layShape_71 : decode cX12_layShape 71 = .ok (.aload_n 0, 1) := by decide +kernel
theorem dX12_layShape_72 : decode cX12_layShape 72 = .ok (.getfield 46, 3) := by decide +kernel
theorem dX12_layShape_75 : decode cX12_layShape 75 = .ok (.iload 4, 2) := by decide +kernel
theorem dX12_layShape_77 : decode cX12_layShape 77 = .ok (.iaload, 1) := by decide +kernel
theorem dX12_layShape_78 : decode cX12_layShape 78 = .ok (.if_icmp .ge 7, 3) := by decide +kernel
theorem dX12_layShape_81 : decode cX12_layShape 81 = .ok (.iconst 1, 1) := by decide +kernel
theorem dX12_layShape_82 : decode cX12_layShape 82 = .ok (.goto 4, 3) := by decide +kernel
theorem dX12_layShape_85 : decode cX12_layShape 85 = .ok (.iconst 0, 1) := by decide +kernel
theorem dX12_layShape_86 : decode cX12_layShape 86 = .ok (.istore 5, 2) := by decide +kernel
theorem dX12_layShape_88 : decode cX12_layShape 88 = .ok (.iconst 0, 1) := by decide +kernel
theorem dX12_layShape_89 : decode cX12_layShape 89 = .ok (.istore 6, 2) := by decide +kernel
theorem dX12_layShape_91 : decode cX12_layShape 91 = .ok (.iload 6, 2) := by decide +kernel
theorem dX12_layShape_93 : decode cX12_layShape 93 = .ok (.iload_n 2, 1) := by decide +kernel
theorem dX12_layShape_94 : decode cX12_layShape 94 = .ok (.if_icmp .ge 28, 3) := by decide +kernel
theorem dX12_layShape_97 : decode cX12_layShape 97 = .ok (.iload 5, 2) := by decide +kernel
theorem dX12_layShape_99 : decode cX12_layShape 99 = .ok (.ifCond .eq 23, 3) := by decide +kernel
theorem dX12_layShape_102 : decode cX12_layShape 102 = .ok (.aload_n 0, 1) := by decide +kernel
theorem dX12_layShape_103 : decode cX12_layShape 103 = .ok (.getfield 46, 3) := by decide +kernel
theorem dX12_layShape_106 : decode cX12_layShape 106 = .ok (.iload 6, 2) := by decide +kernel
theorem dX12_layShape_108 : decode cX12_layShape 108 = .ok (.aload_n 0, 1) := by decide +kernel
theorem dX12_layShape_109 : decode cX12_layShape 109 = .ok (.getfield 49, 3) := by decide +kernel
theorem dX12_layShape_112 : decode cX12_layShape 112 = .ok (.iload 6, 2) := by decide +kernel
theorem dX12_layShape_114 : decode cX12_layShape 114 = .ok (.iaload, 1) := by decide +kernel
theorem dX12_layShape_115 : decode cX12_layShape 115 = .ok (.iastore, 1) := by decide +kernel
theorem dX12_layShape_116 : decode cX12_layShape 116 = .ok (.iinc 6 1, 3) := by decide +kernel
theorem dX12_layShape_119 : decode cX12_layShape 119 = .ok (.goto (-28), 3) := by decide +kernel
theorem dX12_layShape_122 : decode cX12_layShape 122 = .ok (.iinc 3 1, 3) := by decide +kernel
theorem dX12_layShape_125 : decode cX12_layShape 125 = .ok (.goto (-115), 3) := by decide +kernel
theorem dX12_layShape_128 : decode cX12_layShape 128 = .ok (.return_, 1) := by decide +kernel
theorem dX12_shape_0 : decode cX12_shape 0 = .ok (.aload_n 0, 1) := by decide +kernel
theorem dX12_shape_1 : decode cX12_shape 1 = .ok (.iconst 0, 1) := by decide +kernel
theorem dX12_shape_2 : decode cX12_shape 2 = .ok (.putfield 59, 3) := by decide +kernel
theorem dX12_shape_5 : decode cX12_shape 5 = .ok (.aload_n 0, 1) := by decide +kernel
theorem dX12_shape_6 : decode cX12_shape 6 = .ok (.iload_n 1, 1) := by decide +kernel
theorem dX12_shape_7 : decode cX12_shape 7 = .ok (.invokevirtual 66, 3) := by decide +kernel
theorem dX12_shape_10 : decode cX12_shape 10 = .ok (.ifCond .ne 9, 3) := by decide +kernel
theorem dX12_shape_13 : decode cX12_shape 13 = .ok (.aload_n 0, 1) := by decide +kernel
theorem dX12_shape_14 : decode cX12_shape 14 = .ok (.iconst 1, 1) := by decide +kernel
theorem dX12_shape_15 : decode cX12_shape 15 = .ok (.invokevirtual 78, 3) := by decide +kernel
theorem dX12_shape_18 : decode cX12_shape 18 = .ok (.ireturn, 1) := by decide +kernel
theorem dX12_shape_19 : decode cX12_shape 19 = .ok (.iload_n 2, 1) := by decide +kernel
theorem dX12_shape_20 : decode cX12_shape 20 = .ok (.ifCond .ge 9, 3) := by decide +kernel
theorem dX12_shape_23 : decode cX12_shape 23 = .ok (.aload_n 0, 1) := by decide +kernel
theorem dX12_shape_24 : decode cX12_shape 24 = .ok (.iconst 2, 1) := by decide +kernel
theorem dX12_shape_25 : decode cX12_shape 25 = .ok (.invokevirtual 78, 3) := by decide +kernel
theorem dX12_shape_28 : decode cX12_shape 28 = .ok (.ireturn, 1) := by decide +kernel
theorem dX12_shape_29 : decode cX12_shape 29 = .ok (.aload_n 0, 1) := by decide +kernel
theorem dX12_shape_30 : decode cX12_shape 30 = .ok (.iload_n 1, 1) := by decide +kernel
theorem dX12_shape_31 : decode cX12_shape 31 = .ok (.invokevirtual 197, 3) := by decide +kernel
theorem dX12_shape_34 : decode cX12_shape 34 = .ok (.iload_n 2, 1) := by decide +kernel
theorem dX12_shape_35 : decode cX12_shape 35 = .ok (.aload_n 0, 1) := by decide +kernel
theorem dX12_shape_36 : decode cX12_shape 36 = .ok (.iload_n 1, 1) := by decide +kernel
theorem dX12_shape_37 : decode cX12_shape 37 = .ok (.invokevirtual 70, 3) := by decide +kernel
theorem dX12_shape_40 : decode cX12_shape 40 = .ok (.iconst 1, 1) := by decide +kernel
theorem dX12_shape_41 : decode cX12_shape 41 = .ok (.isub, 1) := by decide +kernel
theorem dX12_shape_42 : decode cX12_shape 42 = .ok (.if_icmp .ge 12, 3) := by decide +kernel
theorem dX12_shape_45 : decode cX12_shape 45 = .ok (.aload_n 0, 1) := by decide +kernel
theorem dX12_shape_46 : decode cX12_shape 46 = .ok (.getfield 46, 3) := by decide +kernel
theorem dX12_shape_49 : decode cX12_shape 49 = .ok (.iload_n 2, 1) := by decide +kernel
theorem dX12_shape_50 : decode cX12_shape 50 = .ok (.iaload, 1) := by decide +kernel
theorem dX12_shape_51 : decode cX12_shape 51 = .ok (.goto 4, 3) := by decide +kernel
theorem dX12_shape_54 : decode cX12_shape 54 = .ok (.iconst (-1), 1) := by decide +kernel
theorem dX12_shape_55 : decode cX12_shape 55 = .ok (.ireturn, 1) := by decide +kernel
theorem dX12_hasShapeOf_0 : decode cX12_hasShapeOf 0 = .ok (.aload_n 0, 1) := by decide +kernel
theorem dX12_hasShapeOf_1 : decode cX12_hasShapeOf 1 = .ok (.iload_n 1, 1) := by decide +kernel
theorem dX12_hasShapeOf_2 : decode cX12_hasShapeOf 2 = .ok (.invokevirtual 70, 3) := by decide +kernel
theorem dX12_hasShapeOf_5 : decode cX12_hasShapeOf 5 = .ok (.iconst 1, 1) := by decide +kernel
theorem dX12_hasShapeOf_6 : decode cX12_hasShapeOf 6 = .ok (.isub, 1) := by decide +kernel
theorem dX12_hasShapeOf_7 : decode cX12_hasShapeOf 7 = .ok (.istore_n 3, 1) := by decide +kernel
theorem dX12_hasShapeOf_8 : decode cX12_hasShapeOf 8 = .ok (.aload_n 0, 1) := by decide +kernel
theorem dX12_hasShapeOf_9 : decode cX12_hasShapeOf 9 = .ok (.iload_n 1, 1) := by decide +kernel
theorem dX12_hasShapeOf_10 : decode cX12_hasShapeOf 10 = .ok (.invokevirtual 197, 3) := by decide +kernel
theorem dX12_hasShapeOf_13 : decode cX12_hasShapeOf 13 = .ok (.iconst 0, 1) := by decide +kernel
theorem dX12_hasShapeOf_14 : decode cX12_hasShapeOf 14 = .ok (.istore 4, 2) := by decide +kernel
theorem dX12_hasShapeOf_16 : decode cX12_hasShapeOf 16 = .ok (.iload 4, 2) := by decide +kernel
theorem dX12_hasShapeOf_18 : decode cX12_hasShapeOf 18 = .ok (.iload_n 3, 1) := by decide +kernel
theorem dX12_hasShapeOf_19 : decode cX12_hasShapeOf 19 = .ok (.if_icmp .ge 23, 3) := by decide +kernel
theorem dX12_hasShapeOf_22 : decode cX12_hasShapeOf 22 = .ok (.aload_n 0, 1) := by decide +kernel
theorem dX12_hasShapeOf_23 : decode cX12_hasShapeOf 23 = .ok (.getfield 52, 3) := by decide +kernel
theorem dX12_hasShapeOf_26 : decode cX12_hasShapeOf 26 = .ok (.iload 4, 2) := by decide +kernel
theorem dX12_hasShapeOf_28 : decode cX12_hasShapeOf 28 = .ok (.aload_n 0, 1) := by decide +kernel
theorem dX12_hasShapeOf_29 : decode cX12_hasShapeOf 29 = .ok (.getfield 46, 3) := by decide +kernel
theorem dX12_hasShapeOf_32 : decode cX12_hasShapeOf 32 = .ok (.iload 4, 2) := by decide +kernel
theorem dX12_hasShapeOf_34 : decode cX12_hasShapeOf 34 = .ok (.iaload, 1) := by decide +kernel
theorem dX12_hasShapeOf_35 : decode cX12_hasShapeOf 35 = .ok (.iastore, 1) := by decide +kernel
theorem dX12_hasShapeOf_36 : decode cX12_hasShapeOf 36 = .ok (.iinc 4 1, 3) := by decide +kernel
theorem dX12_hasShapeOf_39 : decode cX12_hasShapeOf 39 = .ok (.goto (-23), 3) := by decide +kernel
theorem dX12_hasShapeOf_42 : decode cX12_hasShapeOf 42 = .ok (.aload_n 0, 1) := by decide +kernel
theorem dX12_hasShapeOf_43 : decode cX12_hasShapeOf 43 = .ok (.iload_n 2, 1) := by decide +kernel
theorem dX12_hasShapeOf_44 : decode cX12_hasShapeOf 44 = .ok (.invokevirtual 197, 3) := by decide +kernel
theorem dX12_hasShapeOf_47 : decode cX12_hasShapeOf 47 = .ok (.iload_n 3, 1) := by decide +kernel
theorem dX12_hasShapeOf_48 : decode cX12_hasShapeOf 48 = .ok (.aload_n 0, 1) := by decide +kernel
theorem dX12_hasShapeOf_49 : decode cX12_hasShapeOf 49 = .ok (.iload_n 2, 1) := by decide +kernel
theorem dX12_hasShapeOf_50 : decode cX12_hasShapeOf 50 = .ok (.invokevirtual 70, 3) := by decide +kernel
theorem dX12_hasShapeOf_53 : decode cX12_hasShapeOf 53 = .ok (.iconst 1, 1) := by decide +kernel
theorem dX12_hasShapeOf_54 : decode cX12_hasShapeOf 54 = .ok (.isub, 1) := by decide +kernel
theorem dX12_hasShapeOf_55 : decode cX12_hasShapeOf 55 = .ok (.if_icmp .ne 7, 3) := by decide +kernel
theorem dX12_hasShapeOf_58 : decode cX12_hasShapeOf 58 = .ok (.iconst 1, 1) := by decide +kernel
theorem dX12_hasShapeOf_59 : decode cX12_hasShapeOf 59 = .ok (.goto 4, 3) := by decide +kernel
theorem dX12_hasShapeOf_62 : decode cX12_hasShapeOf 62 = .ok (.iconst 0, 1) := by decide +kernel
theorem dX12_hasShapeOf_63 : decode cX12_hasShapeOf 63 = .ok (.istore 4, 2) := by decide +kernel
theorem dX12_hasShapeOf_65 : decode cX12_hasShapeOf 65 = .ok (.iconst 0, 1) := by decide +kernel
theorem dX12_hasShapeOf_66 : decode cX12_hasShapeOf 66 = .ok (.istore 5, 2) := by decide +kernel
theorem dX12_hasShapeOf_68 : decode cX12_hasShapeOf 68 = .ok (.iload 5, 2) := by decide +kernel
theorem dX12_hasShapeOf_70 : decode cX12_hasShapeOf 70 = .ok (.iload_n 3, 1) := by decide +kernel
theorem dX12_hasShapeOf_71 : decode cX12_hasShapeOf 71 = .ok (.if_icmp .ge 38, 3) := by decide +kernel
theorem dX12_hasShapeOf_74 : decode cX12_hasShapeOf 74 = .ok (.iload 4, 2) := by decide +kernel
theorem dX12_hasShapeOf_76 : decode cX12_hasShapeOf 76 = .ok (.ifCond .eq 33, 3) := by decide +kernel
theorem dX12_hasShapeOf_79 : decode cX12_hasShapeOf 79 = .ok (.aload_n 0, 1) := by decide +kernel
theorem dX12_hasShapeOf_80 : decode cX12_hasShapeOf 80 = .ok (.getfield 52, 3) := by decide +kernel
theorem dX12_hasShapeOf_83 : decode cX12_hasShapeOf 83 = .ok (.iload 5, 2) := by decide +kernel
theorem dX12_hasShapeOf_85 : decode cX12_hasShapeOf 85 = .ok (.iaload, 1) := by decide +kernel
theorem dX12_hasShapeOf_86 : decode cX12_hasShapeOf 86 = .ok (.aload_n 0, 1) := by decide +kernel
theorem dX12_hasShapeOf_87 : decode cX12_hasShapeOf 87 = .ok (.getfield 46, 3) := by decide +kernel
theorem dX12_hasShapeOf_90 : decode cX12_hasShapeOf 90 = .ok (.iload 5, 2) := by decide +kernel
theorem dX12_hasShapeOf_92 : decode cX12_hasShapeOf 92 = .ok (.iaload, 1) := by decide +kernel
theorem dX12_hasShapeOf_93 : decode cX12_hasShapeOf 93 = .ok (.if_icmp .ne 7, 3) := by decide +kernel
theorem dX12_hasShapeOf_96 : decode cX12_hasShapeOf 96 = .ok (.iconst 1, 1) := by decide +kernel
theorem dX12_hasShapeOf_97 : decode cX12_hasShapeOf 97 = .ok (.goto 4, 3) := by decide +kernel
theorem dX12_hasShapeOf_100 : decode cX12_hasShapeOf 100 = .ok (.iconst 0, 1) := by decide +kernel
theorem dX12_hasShapeOf_101 : decode cX12_hasShapeOf 101 = .ok (.istore 4, 2) := by decide +kernel
theorem dX12_hasShapeOf_103 : decode cX12_hasShapeOf 103 = .ok (.iinc 5 1, 3) := by decide +kernel
theorem dX12_hasShapeOf_106 : decode cX12_hasShapeOf 106 = .ok (.goto (-38), 3) := by decide +kernel
theorem dX12_hasShapeOf_109 : decode cX12_hasShapeOf 109 = .ok (.iload 4, 2) := by decide +kernel
theorem dX12_hasShapeOf_111 : decode cX12_hasShapeOf 111 = .ok (.ireturn, 1) := by decide +kernel
theorem dX12_isAlike_0 : decode cX12_isAlike 0 = .ok (.aload_n 0, 1) := by decide +kernel
theorem dX12_isAlike_1 : decode cX12_isAlike 1 = .ok (.iconst 0, 1) := by decide +kernel
theorem dX12_isAlike_2 : decode cX12_isAlike 2 = .ok (.putfield 59, 3) := by decide +kernel
theorem dX12_isAlike_5 : decode cX12_isAlike 5 = .ok (.aload_n 0, 1) := by decide +kernel
theorem dX12_isAlike_6 : decode cX12_isAlike 6 = .ok (.iload_n 1, 1) := by decide +kernel
theorem dX12_isAlike_7 : decode cX12_isAlike 7 = .ok (.invokevirtual 66, 3) := by decide +kernel
theorem dX12_isAlike_10 : decode cX12_isAlike 10 = .ok (.ifCond .eq 11, 3) := by decide +kernel
theorem dX12_isAlike_13 : decode cX12_isAlike 13 = .ok (.aload_n 0, 1) := by decide +kernel
theorem dX12_isAlike_14 : decode cX12_isAlike 14 = .ok (.iload_n 2, 1) := by decide +kernel
theorem dX12_isAlike_15 : decode cX12_isAlike 15 = .ok (.invokevirtual 66, 3) := by decide +kernel
theorem dX12_isAlike_18 : decode cX12_isAlike 18 = .ok (.ifCond .ne 10, 3) := by decide +kernel
theorem dX12_isAlike_21 : decode cX12_isAlike 21 = .ok (.aload_n 0, 1) := by decide +kernel
theorem dX12_isAlike_22 : decode cX12_isAlike 22 = .ok (.iconst 1, 1) := by decide +kernel
theorem dX12_isAlike_23 : decode cX12_isAlike 23 = .ok (.putfield 59, 3) := by decide +kernel
theorem dX12_isAlike_26 : decode cX12_isAlike 26 = .ok (.iconst 0, 1) := by decide +kernel
theorem dX12_isAlike_27 : decode cX12_isAlike 27 = .ok (.ireturn, 1) := by decide +kernel
theorem dX12_isAlike_28 : decode cX12_isAlike 28 = .ok (.aload_n 0, 1) := by decide +kernel
theorem dX12_isAlike_29 : decode cX12_isAlike 29 = .ok (.iload_n 1, 1) := by decide +kernel
theorem dX12_isAlike_30 : decode cX12_isAlike 30 = .ok (.iload_n 2, 1) := by decide +kernel
theorem dX12_isAlike_31 : decode cX12_isAlike 31 = .ok (.invokevirtual 200, 3) := by decide +kernel
theorem dX12_isAlike_34 : decode cX12_isAlike 34 = .ok (.ireturn, 1) := by decide +kernel
theorem dX12_freeSites_0 : decode cX12_freeSites 0 = .ok (.iconst 0, 1) := by decide +kernel
theorem dX12_freeSites_1 : decode cX12_freeSites 1 = .ok (.istore_n 1, 1) := by decide +kernel
theorem dX12_freeSites_2 : decode cX12_freeSites 2 = .ok (.iconst 0, 1) := by decide +kernel
theorem dX12_freeSites_3 : decode cX12_freeSites 3 = .ok (.istore_n 2, 1) := by decide +kernel
theorem dX12_freeSites_4 : decode cX12_freeSites 4 = .ok (.iload_n 2, 1) := by decide +kernel
theorem dX12_freeSites_5 : decode cX12_freeSites 5 = .ok (.bipush 100, 2) := by decide +kernel
theorem dX12_freeSites_7 : decode cX12_freeSites 7 = .ok (.if_icmp .ge 27, 3) := by decide +kernel
theorem dX12_freeSites_10 : decode cX12_freeSites 10 = .ok (.iload_n 1, 1) := by decide +kernel
theorem dX12_freeSites_11 : decode cX12_freeSites 11 = .ok (.aload_n 0, 1) := by decide +kernel
theorem dX12_freeSites_12 : decode cX12_freeSites 12 = .ok (.getfield 25, 3) := by decide +kernel
theorem dX12_freeSites_15 : decode cX12_freeSites 15 = .ok (.iload_n 2, 1) := by decide +kernel
theorem dX12_freeSites_16 : decode cX12_freeSites 16 = .ok (.iaload, 1) := by decide +kernel
theorem dX12_freeSites_17 : decode cX12_freeSites 17 = .ok (.iconst (-1), 1) := by decide +kernel
theorem dX12_freeSites_18 : decode cX12_freeSites 18 = .ok (.if_icmp .ne 7, 3) := by decide +kernel
theorem dX12_freeSites_21 : decode cX12_freeSites 21 = .ok (.iconst 1, 1) := by decide +kernel
theorem dX12_freeSites_22 : decode cX12_freeSites 22 = .ok (.goto 4, 3) := by decide +kernel
theorem dX12_freeSites_25 : decode cX12_freeSites 25 = .ok (.iconst 0, 1) := by decide +kernel
theorem dX12_freeSites_26 : decode cX12_freeSites 26 = .ok (.iadd, 1) := by decide +kernel
theorem dX12_freeSites_27 : decode cX12_freeSites 27 = .ok (.istore_n 1, 1) := by decide +kernel
theorem dX12_freeSites_28 : decode cX12_freeSites 28 = .ok (.iinc 2 1, 3) := by decide +kernel
theorem dX12_freeSites_31 : decode cX12_freeSites 31 = .ok (.goto (-27), 3) := by decide +kernel
theorem dX12_freeSites_34 : decode cX12_freeSites 34 = .ok (.iload_n 1, 1) := by decide +kernel
theorem dX12_freeSites_35 : decode cX12_freeSites 35 = .ok (.ireturn, 1) := by decide +kernel
theorem dX12_greatestRegion_0 : decode cX12_greatestRegion 0 = .ok (.iconst 0, 1) := by decide +kernel
theorem dX12_greatestRegion_1 : decode cX12_greatestRegion 1 = .ok (.istore_n 1, 1) := by decide +kernel
theorem dX12_greatestRegion_2 : decode cX12_greatestRegion 2 = .ok (.iconst 0, 1) := by decide +kernel
theorem dX12_greatestRegion_3 : decode cX12_greatestRegion 3 = .ok (.istore_n 2, 1) := by decide +kernel
theorem dX12_greatestRegion_4 : decode cX12_greatestRegion 4 = .ok (.iload_n 2, 1) := by decide +kernel
theorem dX12_greatestRegion_5 : decode cX12_greatestRegion 5 = .ok (.aload_n 0, 1) := by decide +kernel
theorem dX12_greatestRegion_6 : decode cX12_greatestRegion 6 = .ok (.getfield 90, 3) := by decide +kernel
theorem dX12_greatestRegion_9 : decode cX12_greatestRegion 9 = .ok (.if_icmp .ge 30, 3) := by decide +kernel
theorem dX12_greatestRegion_12 : decode cX12_greatestRegion 12 = .ok (.aload_n 0, 1) := by decide +kernel
theorem dX12_greatestRegion_13 : decode cX12_greatestRegion 13 = .ok (.getfield 34, 3) := by decide +kernel
theorem dX12_greatestRegion_16 : decode cX12_greatestRegion 16 = .ok (.iload_n 2, 1) := by decide +kernel
theorem dX12_greatestRegion_17 : decode cX12_greatestRegion 17 = .ok (.iaload, 1) := by decide +kernel
theorem dX12_greatestRegion_18 : decode cX12_greatestRegion 18 = .ok (.iload_n 1, 1) := by decide +kernel
theorem dX12_greatestRegion_19 : decode cX12_greatestRegion 19 = .ok (.if_icmp .le 12, 3) := by decide +kernel
theorem dX12_greatestRegion_22 : decode cX12_greatestRegion 22 = .ok (.aload_n 0, 1) := by decide +kernel
theorem dX12_greatestRegion_23 : decode cX12_greatestRegion 23 = .ok (.getfield 34, 3) := by decide +kernel
theorem dX12_greatestRegion_26 : decode cX12_greatestRegion 26 = .ok (.iload_n 2, 1) := by decide +kernel
theorem dX12_greatestRegion_27 : decode cX12_greatestRegion 27 = .ok (.iaload, 1) := by decide +kernel
theorem dX12_greatestRegion_28 : decode cX12_greatestRegion 28 = .ok (.goto 4, 3) := by decide +kernel
theorem dX12_greatestRegion_31 : decode cX12_greatestRegion 31 = .ok (.iload_n 1, 1) := by decide +kernel
theorem dX12_greatestRegion_32 : decode cX12_greatestRegion 32 = .ok (.istore_n 1, 1) := by decide +kernel
theorem dX12_greatestRegion_33 : decode cX12_greatestRegion 33 = .ok (.iinc 2 1, 3) := by decide +kernel
theorem dX12_greatestRegion_36 : decode cX12_greatestRegion 36 = .ok (.goto (-32), 3) := by decide +kernel
theorem dX12_greatestRegion_39 : decode cX12_greatestRegion 39 = .ok (.iload_n 1, 1) := by decide +kernel
theorem dX12_greatestRegion_40 : decode cX12_greatestRegion 40 = .ok (.ireturn, 1) := by decide +kernel
theorem dX12_isBesideHead_0 : decode cX12_isBesideHead 0 = .ok (.iconst 0, 1) := by decide +kernel
theorem dX12_isBesideHead_1 : decode cX12_isBesideHead 1 = .ok (.istore_n 2, 1) := by decide +kernel
theorem dX12_isBesideHead_2 : decode cX12_isBesideHead 2 = .ok (.iconst 0, 1) := by decide +kernel
theorem dX12_isBesideHead_3 : decode cX12_isBesideHead 3 = .ok (.istore_n 3, 1) := by decide +kernel
theorem dX12_isBesideHead_4 : decode cX12_isBesideHead 4 = .ok (.iload_n 3, 1) := by decide +kernel
theorem dX12_isBesideHead_5 : decode cX12_isBesideHead 5 = .ok (.aload_n 0, 1) := by decide +kernel
theorem dX12_isBesideHead_6 : decode cX12_isBesideHead 6 = .ok (.getfield 7, 3) := by decide +kernel
theorem dX12_isBesideHead_9 : decode cX12_isBesideHead 9 = .ok (.iconst 0, 1) := by decide +kernel
theorem dX12_isBesideHead_10 : decode cX12_isBesideHead 10 = .ok (.iaload, 1) := by decide +kernel
theorem dX12_isBesideHead_11 : decode cX12_isBesideHead 11 = .ok (.if_icmp .ge 32, 3) := by decide +kernel
theorem dX12_isBesideHead_14 : decode cX12_isBesideHead 14 = .ok (.iload_n 2, 1) := by decide +kernel
theorem dX12_isBesideHead_15 : decode cX12_isBesideHead 15 = .ok (.ifCond .ne 16, 3) := by decide +kernel
theorem dX12_isBesideHead_18 : decode cX12_isBesideHead 18 = .ok (.aload_n 0, 1) := by decide +kernel
theorem dX12_isBesideHead_19 : decode cX12_isBesideHead 19 = .ok (.aload_n 0, 1) := by decide +kernel
theorem dX12_isBesideHead_20 : decode cX12_isBesideHead 20 = .ok (.iload_n 3, 1) := by decide +kernel
theorem dX12_isBesideHead_21 : decode cX12_isBesideHead 21 = .ok (.invokevirtual 121, 3) := by decide +kernel
theorem dX12_isBesideHead_24 : decode cX12_isBesideHead 24 = .ok (.iload_n 1, 1) := by decide +kernel
theorem dX12_isBesideHead_25 : decode cX12_isBesideHead 25 = .ok (.invokevirtual 97, 3) := by decide +kernel
theorem dX12_isBesideHead_28 : decode cX12_isBesideHead 28 = .ok (.ifCond .eq 7, 3) := by decide +kernel
theorem dX12_isBesideHead_31 : decode cX12_isBesideHead 31 = .ok (.iconst 1, 1) := by decide +kernel
theorem dX12_isBesideHead_32 : decode cX12_isBesideHead 32 = .ok (.goto 4, 3) := by decide +kernel
theorem dX12_isBesideHead_35 : decode cX12_isBesideHead 35 = .ok (.iconst 0, 1) := by decide +kernel
theorem dX12_isBesideHead_36 : decode cX12_isBesideHead 36 = .ok (.istore_n 2, 1) := by decide +kernel
theorem dX12_isBesideHead_37 : decode cX12_isBesideHead 37 = .ok (.iinc 3 1, 3) := by decide +kernel
theorem dX12_isBesideHead_40 : decode cX12_isBesideHead 40 = .ok (.goto (-36), 3) := by decide +kernel
theorem dX12_isBesideHead_43 : decode cX12_isBesideHead 43 = .ok (.iload_n 2, 1) := by decide +kernel
theorem dX12_isBesideHead_44 : decode cX12_isBesideHead 44 = .ok (.ireturn, 1) := by decide +kernel
theorem dX12_free_0 : decode cX12_free 0 = .ok (.aload_n 0, 1) := by decide +kernel
theorem dX12_free_1 : decode cX12_free 1 = .ok (.iconst 0, 1) := by decide +kernel
theorem dX12_free_2 : decode cX12_free 2 = .ok (.putfield 59, 3) := by decide +kernel
theorem dX12_free_5 : decode cX12_free 5 = .ok (.iload_n 1, 1) := by decide +kernel
theorem dX12_free_6 : decode cX12_free 6 = .ok (.iconst 0, 1) := by decide +kernel
theorem dX12_free_7 : decode cX12_free 7 = .ok (.iconst 3, 1) := by decide +kernel
theorem dX12_free_8 : decode cX12_free 8 = .ok (.invokestatic 62, 3) := by decide +kernel
theorem dX12_free_11 : decode cX12_free 11 = .ok (.ifCond .ne 9, 3) := by decide +kernel
theorem dX12_free_14 : decode cX12_free 14 = .ok (.aload_n 0, 1) := by decide +kernel
theorem dX12_free_15 : decode cX12_free 15 = .ok (.iconst 1, 1) := by decide +kernel
theorem dX12_free_16 : decode cX12_free 16 = .ok (.invokevirtual 78, 3) := by decide +kernel
theorem dX12_free_19 : decode cX12_free 19 = .ok (.ireturn, 1) := by decide +kernel
theorem dX12_free_20 : decode cX12_free 20 = .ok (.aload_n 0, 1) := by decide +kernel
theorem dX12_free_21 : decode cX12_free 21 = .ok (.invokevirtual 114, 3) := by decide +kernel
theorem dX12_free_24 : decode cX12_free 24 = .ok (.aload_n 0, 1) := by decide +kernel
theorem dX12_free_25 : decode cX12_free 25 = .ok (.invokevirtual 203, 3) := by decide +kernel
theorem dX12_free_28 : decode cX12_free 28 = .ok (.iload_n 1, 1) := by decide +kernel
theorem dX12_free_29 : decode cX12_free 29 = .ok (.iconst 3, 1) := by decide +kernel
theorem dX12_free_30 : decode cX12_free 30 = .ok (.if_icmp .ge 31, 3) := by decide +kernel
theorem dX12_free_33 : decode cX12_free 33 = .ok (.iload_n 1, 1) := by decide +kernel
theorem dX12_free_34 : decode cX12_free 34 = .ok (.ifCond .ne 10, 3) := by decide +kernel
theorem dX12_free_37 : decode cX12_free 37 = .ok (.aload_n 0, 1) := by decide +kernel
theorem dX12_free_38 : decode cX12_free 38 = .ok (.invokevirtual 206, 3) := by decide +kernel
theorem dX12_free_41 : decode cX12_free 41 = .ok (.goto 19, 3) := by decide +kernel
theorem dX12_free_44 : decode cX12_free 44 = .ok (.iload_n 1, 1) := by decide +kernel
theorem dX12_free_45 : decode cX12_free 45 = .ok (.iconst 1, 1) := by decide +kernel
theorem dX12_free_46 : decode cX12_free 46 = .ok (.if_icmp .ne 10, 3) := by decide +kernel
theorem dX12_free_49 : decode cX12_free 49 = .ok (.aload_n 0, 1) := by decide +kernel
theorem dX12_free_50 : decode cX12_free 50 = .ok (.getfield 90, 3) := by decide +kernel
theorem dX12_free_53 : decode cX12_free 53 = .ok (.goto 7, 3) := by decide +kernel
theorem dX12_free_56 : decode cX12_free 56 = .ok (.aload_n 0, 1) := by decide +kernel
theorem dX12_free_57 : decode cX12_free 57 = .ok (.invokevirtual 209, 3) := by decide +kernel
theorem dX12_free_60 : decode cX12_free 60 = .ok (.ireturn, 1) := by decide +kernel
theorem dX12_free_61 : decode cX12_free 61 = .ok (.iconst 0, 1) := by decide +kernel
theorem dX12_free_62 : decode cX12_free 62 = .ok (.istore_n 2, 1) := by decide +kernel
theorem dX12_free_63 : decode cX12_free 63 = .ok (.iconst 0, 1) := by decide +kernel
theorem dX12_free_64 : decode cX12_free 64 = .ok (.istore_n 3, 1) := by decide +kernel
theorem dX12_free_65 : decode cX12_free 65 = .ok (.iload_n 3, 1) := by decide +kernel
theorem dX12_free_66 : decode cX12_free 66 = .ok (.aload_n 0, 1) := by decide +kernel
theorem dX12_free_67 : decode cX12_free 67 = .ok (.getfield 90, 3) := by decide +kernel
theorem dX12_free_70 : decode cX12_free 70 = .ok (.if_icmp .ge 25, 3) := by decide +kernel
theorem dX12_free_73 : decode cX12_free 73 = .ok (.iload_n 2, 1) := by decide +kernel
theorem dX12_free_74 : decode cX12_free 74 = .ok (.aload_n 0, 1) := by decide +kernel
theorem dX12_free_75 : decode cX12_free 75 = .ok (.iload_n 3, 1) := by decide +kernel
theorem dX12_free_76 : decode cX12_free 76 = .ok (.invokevirtual 212, 3) := by decide +kernel
theorem dX12_free_79 : decode cX12_free 79 = .ok (.ifCond .eq 7, 3) := by decide +kernel
theorem dX12_free_82 : decode cX12_free 82 = .ok (.iconst 1, 1) := by decide +kernel
theorem dX12_free_83 : decode cX12_free 83 = .ok (.goto 4, 3) := by decide +kernel
theorem dX12_free_86 : decode cX12_free 86 = .ok (.iconst 0, 1) := by decide +kernel
theorem dX12_free_87 : decode cX12_free 87 = .ok (.iadd, 1) := by decide +kernel
theorem dX12_free_88 : decode cX12_free 88 = .ok (.istore_n 2, 1) := by decide +kernel
theorem dX12_free_89 : decode cX12_free 89 = .ok (.iinc 3 1, 3) := by decide +kernel
theorem dX12_free_92 : decode cX12_free 92 = .ok (.goto (-27), 3) := by decide +kernel
theorem dX12_free_95 : decode cX12_free 95 = .ok (.iload_n 2, 1) := by decide +kernel
theorem dX12_free_96 : decode cX12_free 96 = .ok (.ireturn, 1) := by decide +kernel
theorem dX12_waysFrom_0 : decode cX12_waysFrom 0 = .ok (.iload_n 2, 1) := by decide +kernel
theorem dX12_waysFrom_1 : decode cX12_waysFrom 1 = .ok (.ifCond .ne 5, 3) := by decide +kernel
theorem dX12_waysFrom_4 : decode cX12_waysFrom 4 = .ok (.iconst 1, 1) := by decide +kernel
theorem dX12_waysFrom_5 : decode cX12_waysFrom 5 = .ok (.ireturn, 1) := by decide +kernel
theorem dX12_waysFrom_6 : decode cX12_waysFrom 6 = .ok (.iconst 0, 1) := by decide +kernel
theorem dX12_waysFrom_7 : decode cX12_waysFrom 7 = .ok (.istore_n 3, 1) := by decide +kernel
theorem dX12_waysFrom_8 : decode cX12_waysFrom 8 = .ok (.iconst 0, 1) := by decide +kernel
theorem dX12_waysFrom_9 : decode cX12_waysFrom 9 = .ok (.istore 4, 2) := by decide +kernel
theorem dX12_waysFrom_11 : decode cX12_waysFrom 11 = .ok (.aload_n 0, 1) := by decide +kernel
theorem dX12_waysFrom_12 : decode cX12_waysFrom 12 = .ok (.getfield 40, 3) := by decide +kernel
theorem dX12_waysFrom_15 : decode cX12_waysFrom 15 = .ok (.iconst 0, 1) := by decide +kernel
theorem dX12_waysFrom_16 : decode cX12_waysFrom 16 = .ok (.iload_n 1, 1) := by decide +kernel
theorem dX12_waysFrom_17 : decode cX12_waysFrom 17 = .ok (.iastore, 1) := by decide +kernel
theorem dX12_waysFrom_18 : decode cX12_waysFrom 18 = .ok (.aload_n 0, 1) := by decide +kernel
theorem dX12_waysFrom_19 : decode cX12_waysFrom 19 = .ok (.getfield 43, 3) := by decide +kernel
theorem dX12_waysFrom_22 : decode cX12_waysFrom 22 = .ok (.iconst 0, 1) := by decide +kernel
theorem dX12_waysFrom_23 : decode cX12_waysFrom 23 = .ok (.iconst 0, 1) := by decide +kernel
theorem dX12_waysFrom_24 : decode cX12_waysFrom 24 = .ok (.iastore, 1) := by decide +kernel
theorem dX12_waysFrom_25 : decode cX12_waysFrom 25 = .ok (.iload 4, 2) := by decide +kernel
theorem dX12_waysFrom_27 : decode cX12_waysFrom 27 = .ok (.ifCond .lt 132, 3) := by decide +kernel
theorem dX12_waysFrom_30 : decode cX12_waysFrom 30 = .ok (.aload_n 0, 1) := by decide +kernel
theorem dX12_waysFrom_31 : decode cX12_waysFrom 31 = .ok (.getfield 43, 3) := by decide +kernel
theorem dX12_waysFrom_34 : decode cX12_waysFrom 34 = .ok (.iload 4, 2) := by decide +kernel
theorem dX12_waysFrom_36 : decode cX12_waysFrom 36 = .ok (.iaload, 1) := by decide +kernel
theorem dX12_waysFrom_37 : decode cX12_waysFrom 37 = .ok (.iconst 4, 1) := by decide +kernel
theorem dX12_waysFrom_38 : decode cX12_waysFrom 38 = .ok (.if_icmp .ne 27, 3) := by decide +kernel
theorem dX12_waysFrom_41 : decode cX12_waysFrom 41 = .ok (.iload 4, 2) := by decide +kernel
theorem dX12_waysFrom_43 : decode cX12_waysFrom 43 = .ok (.ifCond .le 16, 3) := by decide +kernel
theorem dX12_waysFrom_46 : decode cX12_waysFrom 46 = .ok (.aload_n 0, 1) := by decide +kernel
theorem dX12_waysFrom_47 : decode cX12_waysFrom 47 = .ok (.getfield 25, 3) := by decide +kernel
theorem dX12_waysFrom_50 : decode cX12_waysFrom 50 = .ok (.aload_n 0, 1) := by decide +kernel
theorem dX12_waysFrom_51 : decode cX12_waysFrom 51 = .ok (.getfield 40, 3) := by decide +kernel
theorem dX12_waysFrom_54 : decode cX12_waysFrom 54 = .ok (.iload 4, 2) := by decide +kernel
theorem dX12_waysFrom_56 : decode cX12_waysFrom 56 = .ok (.iaload, 1) := by decide +kernel
theorem dX12_waysFrom_57 : decode cX12_waysFrom 57 = .ok (.iconst (-1), 1) := by decide +kernel
theorem dX12_waysFrom_58 : decode cX12_waysFrom 58 = .ok (.iastore, 1) := by decide +kernel
theorem dX12_waysFrom_59 : decode cX12_waysFrom 59 = .ok (.iinc 4 (-1), 3) := by decide +kernel
theorem dX12_waysFrom_62 : decode cX12_waysFrom 62 = .ok (.goto (-37), 3) := by decide +kernel
theorem dX12_waysFrom_65 : decode cX12_waysFrom 65 = .ok (.aload_n 0, 1) := by decide +kernel
theorem dX12_waysFrom_66 : decode cX12_waysFrom 66 = .ok (.getfield 40, 3) := by decide +kernel
theorem dX12_waysFrom_69 : decode cX12_waysFrom 69 = .ok (.iload 4, 2) := by decide +kernel
theorem dX12_waysFrom_71 : decode cX12_waysFrom 71 = .ok (.iaload, 1) := by decide +kernel
theorem dX12_waysFrom_72 : decode cX12_waysFrom 72 = .ok (.aload_n 0, 1) := by decide +kernel
theorem dX12_waysFrom_73 : decode cX12_waysFrom 73 = .ok (.getfield 43, 3) := by decide +kernel
theorem dX12_waysFrom_76 : decode cX12_waysFrom 76 = .ok (.iload 4, 2) := by decide +kernel
theorem dX12_waysFrom_78 : decode cX12_waysFrom 78 = .ok (.iaload, 1) := by decide +kernel
theorem dX12_waysFrom_79 : decode cX12_waysFrom 79 = .ok (.invokestatic 84, 3) := by decide +kernel
theorem dX12_waysFrom_82 : decode cX12_waysFrom 82 = .ok (.istore 5, 2) := by decide +kernel
theorem dX12_waysFrom_84 : decode cX12_waysFrom 84 = .ok (.aload_n 0, 1) := by decide +kernel
theorem dX12_waysFrom_85 : decode cX12_waysFrom 85 = .ok (.getfield 43, 3) := by decide +kernel
theorem dX12_waysFrom_88 : decode cX12_waysFrom 88 = .ok (.iload 4, 2) := by decide +kernel
theorem dX12_waysFrom_90 : decode cX12_waysFrom 90 = .ok (.dup2, 1) := by decide +kernel
theorem dX12_waysFrom_91 : decode cX12_waysFrom 91 = .ok (.iaload, 1) := by decide +kernel
theorem dX12_waysFrom_92 : decode cX12_waysFrom 92 = .ok (.iconst 1, 1) := by decide +kernel
theorem dX12_waysFrom_93 : decode cX12_waysFrom 93 = .ok (.iadd, 1) := by decide +kernel
theorem dX12_waysFrom_94 : decode cX12_waysFrom 94 = .ok (.iastore, 1) := by decide +kernel
theorem dX12_waysFrom_95 : decode cX12_waysFrom 95 = .ok (.aload_n 0, 1) := by decide +kernel
theorem dX12_waysFrom_96 : decode cX12_waysFrom 96 = .ok (.iload 5, 2) := by decide +kernel
theorem dX12_waysFrom_98 : decode cX12_waysFrom 98 = .ok (.invokevirtual 87, 3) := by decide +kernel
theorem dX12_waysFrom_101 : decode cX12_waysFrom 101 = .ok (.ifCond .eq 17, 3) := by decide +kernel
theorem dX12_waysFrom_104 : decode cX12_waysFrom 104 = .ok (.iload 4, 2) := by decide +kernel
theorem dX12_waysFrom_106 : decode cX12_waysFrom 106 = .ok (.iconst 1, 1) := by decide +kernel
theorem dX12_waysFrom_107 : decode cX12_waysFrom 107 = .ok (.iadd, 1) := by decide +kernel
theorem dX12_waysFrom_108 : decode cX12_waysFrom 108 = .ok (.iload_n 2, 1) := by decide +kernel
theorem dX12_waysFrom_109 : decode cX12_waysFrom 109 = .ok (.if_icmp .ne 9, 3) := by decide +kernel
theorem dX12_waysFrom_112 : decode cX12_waysFrom 112 = .ok (.iinc 3 1, 3) := by decide +kernel
theorem dX12_waysFrom_115 : decode cX12_waysFrom 115 = .ok (.goto 41, 3) := by decide +kernel
theorem dX12_waysFrom_118 : decode cX12_waysFrom 118 = .ok (.aload_n 0, 1) := by decide +kernel
theorem dX12_waysFrom_119 : decode cX12_waysFrom 119 = .ok (.iload 5, 2) := by decide +kernel
theorem dX12_waysFrom_121 : decode cX12_waysFrom 121 = .ok (.invokevirtual 87, 3) := by decide +kernel
theorem dX12_waysFrom_124 : decode cX12_waysFrom 124 = .ok (.ifCond .eq 32, 3) := by decide +kernel
theorem dX12_waysFrom_127 : decode cX12_waysFrom 127 = .ok (.iinc 4 1, 3) := by decide +kernel
theorem dX12_waysFrom_130 : decode cX12_waysFrom 130 = .ok (.aload_n 0, 1) := by decide +kernel
theorem dX12_waysFrom_131 : decode cX12_waysFrom 131 = .ok (.getfield 40, 3) := by decide +kernel
theorem dX12_waysFrom_134 : decode cX12_waysFrom 134 = .ok (.iload 4, 2) := by decide +kernel
theorem dX12_waysFrom_136 : decode cX12_waysFrom 136 = .ok (.iload 5, 2) := by decide +kernel
theorem dX12_waysFrom_138 : decode cX12_waysFrom 138 = .ok (.iastore, 1) := by decide +kernel
theorem dX12_waysFrom_139 : decode cX12_waysFrom 139 = .ok (.aload_n 0, 1) := by decide +kernel
theorem dX12_waysFrom_140 : decode cX12_waysFrom 140 = .ok (.getfield 43, 3) := by decide +kernel
theorem dX12_waysFrom_143 : decode cX12_waysFrom 143 = .ok (.iload 4, 2) := by decide +kernel
theorem dX12_waysFrom_145 : decode cX12_waysFrom 145 = .ok (.iconst 0, 1) := by decide +kernel
theorem dX12_waysFrom_146 : decode cX12_waysFrom 146 = .ok (.iastore, 1) := by decide +kernel
theorem dX12_waysFrom_147 : decode cX12_waysFrom 147 = .ok (.aload_n 0, 1) := by decide +kernel
theorem dX12_waysFrom_148 : decode cX12_waysFrom 148 = .ok (.getfield 25, 3) := by decide +kernel
theorem dX12_waysFrom_151 : decode cX12_waysFrom 151 = .ok (.iload 5, 2) := by decide +kernel
theorem dX12_waysFrom_153 : decode cX12_waysFrom 153 = .ok (.bipush 9, 2) := by decide +kernel
theorem dX12_waysFrom_155 : decode cX12_waysFrom 155 = .ok (.iastore, 1) := by decide +kernel
theorem dX12_waysFrom_156 : decode cX12_waysFrom 156 = .ok (.goto (-131), 3) := by decide +kernel
theorem dX12_waysFrom_159 : decode cX12_waysFrom 159 = .ok (.iload_n 3, 1) := by decide +kernel
theorem dX12_waysFrom_160 : decode cX12_waysFrom 160 = .ok (.ireturn, 1) := by decide +kernel
theorem dX12_ways_0 : decode cX12_ways 0 = .ok (.aload_n 0, 1) := by decide +kernel
theorem dX12_ways_1 : decode cX12_ways 1 = .ok (.iconst 0, 1) := by decide +kernel
theorem dX12_ways_2 : decode cX12_ways 2 = .ok (.putfield 59, 3) := by decide +kernel
theorem dX12_ways_5 : decode cX12_ways 5 = .ok (.aload_n 0, 1) := by decide +kernel
theorem dX12_ways_6 : decode cX12_ways 6 = .ok (.iload_n 1, 1) := by decide +kernel
theorem dX12_ways_7 : decode cX12_ways 7 = .ok (.invokevirtual 66, 3) := by decide +kernel
theorem dX12_ways_10 : decode cX12_ways 10 = .ok (.ifCond .ne 9, 3) := by decide +kernel
theorem dX12_ways_13 : decode cX12_ways 13 = .ok (.aload_n 0, 1) := by decide +kernel
theorem dX12_ways_14 : decode cX12_ways 14 = .ok (.iconst 1, 1) := by decide +kernel
theorem dX12_ways_15 : decode cX12_ways 15 = .ok (.invokevirtual 78, 3) := by decide +kernel
theorem dX12_ways_18 : decode cX12_ways 18 = .ok (.ireturn, 1) := by decide +kernel
theorem dX12_ways_19 : decode cX12_ways 19 = .ok (.iload_n 2, 1) := by decide +kernel
theorem dX12_ways_20 : decode cX12_ways 20 = .ok (.iconst 0, 1) := by decide +kernel
theorem dX12_ways_21 : decode cX12_ways 21 = .ok (.bipush 6, 2) := by decide +kernel
theorem dX12_ways_23 : decode cX12_ways 23 = .ok (.invokestatic 62, 3) := by decide +kernel
theorem dX12_ways_26 : decode cX12_ways 26 = .ok (.ifCond .ne 9, 3) := by decide +kernel
theorem dX12_ways_29 : decode cX12_ways 29 = .ok (.aload_n 0, 1) := by decide +kernel
theorem dX12_ways_30 : decode cX12_ways 30 = .ok (.iconst 2, 1) := by decide +kernel
theorem dX12_ways_31 : decode cX12_ways 31 = .ok (.invokevirtual 78, 3) := by decide +kernel
theorem dX12_ways_34 : decode cX12_ways 34 = .ok (.ireturn, 1) := by decide +kernel
theorem dX12_ways_35 : decode cX12_ways 35 = .ok (.aload_n 0, 1) := by decide +kernel
theorem dX12_ways_36 : decode cX12_ways 36 = .ok (.invokevirtual 114, 3) := by decide +kernel
theorem dX12_ways_39 : decode cX12_ways 39 = .ok (.aload_n 0, 1) := by decide +kernel
theorem dX12_ways_40 : decode cX12_ways 40 = .ok (.aload_n 0, 1) := by decide +kernel
theorem dX12_ways_41 : decode cX12_ways 41 = .ok (.iload_n 1, 1) := by decide +kernel
theorem dX12_ways_42 : decode cX12_ways 42 = .ok (.invokevirtual 121, 3) := by decide +kernel
theorem dX12_ways_45 : decode cX12_ways 45 = .ok (.iload_n 2, 1) := by decide +kernel
theorem dX12_ways_46 : decode cX12_ways 46 = .ok (.invokevirtual 215, 3) := by decide +kernel
theorem dX12_ways_49 : decode cX12_ways 49 = .ok (.ireturn, 1) := by decide +kernel
theorem dX12_bestStep_0 : decode cX12_bestStep 0 = .ok (.aload_n 0, 1) := by decide +kernel
theorem dX12_bestStep_1 : decode cX12_bestStep 1 = .ok (.iconst 0, 1) := by decide +kernel
theorem dX12_bestStep_2 : decode cX12_bestStep 2 = .ok (.putfield 59, 3) := by decide +kernel
theorem dX12_bestStep_5 : decode cX12_bestStep 5 = .ok (.aload_n 0, 1) := by decide +kernel
theorem dX12_bestStep_6 : decode cX12_bestStep 6 = .ok (.iload_n 1, 1) := by decide +kernel
theorem dX12_bestStep_7 : decode cX12_bestStep 7 = .ok (.invokevirtual 66, 3) := by decide +kernel
theorem dX12_bestStep_10 : decode cX12_bestStep 10 = .ok (.ifCond .ne 9, 3) := by decide +kernel
theorem dX12_bestStep_13 : decode cX12_bestStep 13 = .ok (.aload_n 0, 1) := by decide +kernel
theorem dX12_bestStep_14 : decode cX12_bestStep 14 = .ok (.iconst 1, 1) := by decide +kernel
theorem dX12_bestStep_15 : decode cX12_bestStep 15 = .ok (.invokevirtual 78, 3) := by decide +kernel
theorem dX12_bestStep_18 : decode cX12_bestStep 18 = .ok (.ireturn, 1) := by decide +kernel
theorem dX12_bestStep_19 : decode cX12_bestStep 19 = .ok (.aload_n 0, 1) := by decide +kernel
theorem dX12_bestStep_20 : decode cX12_bestStep 20 = .ok (.invokevirtual 114, 3) := by decide +kernel
theorem dX12_bestStep_23 : decode cX12_bestStep 23 = .ok (.iconst (-1), 1) := by decide +kernel
theorem dX12_bestStep_24 : decode cX12_bestStep 24 = .ok (.istore_n 2, 1) := by decide +kernel
theorem dX12_bestStep_25 : decode cX12_bestStep 25 = .ok (.iconst (-1), 1) := by decide +kernel
theorem dX12_bestStep_26 : decode cX12_bestStep 26 = .ok (.istore_n 3, 1) := by decide +kernel
theorem dX12_bestStep_27 : decode cX12_bestStep 27 = .ok (.iconst 0, 1) := by decide +kernel
theorem dX12_bestStep_28 : decode cX12_bestStep 28 = .ok (.istore 4, 2) := by decide +kernel
theorem dX12_bestStep_30 : decode cX12_bestStep 30 = .ok (.iload 4, 2) := by decide +kernel
theorem dX12_bestStep_32 : decode cX12_bestStep 32 = .ok (.iconst 4, 1) := by decide +kernel
theorem dX12_bestStep_33 : decode cX12_bestStep 33 = .ok (.if_icmp .ge 82, 3) := by decide +kernel
theorem dX12_bestStep_36 : decode cX12_bestStep 36 = .ok (.aload_n 0, 1) := by decide +kernel
theorem dX12_bestStep_37 : decode cX12_bestStep 37 = .ok (.iload_n 1, 1) := by decide +kernel
theorem dX12_bestStep_38 : decode cX12_bestStep 38 = .ok (.invokevirtual 121, 3) := by decide +kernel
theorem dX12_bestStep_41 : decode cX12_bestStep 41 = .ok (.iload 4, 2) := by decide +kernel
theorem dX12_bestStep_43 : decode cX12_bestStep 43 = .ok (.invokestatic 84, 3) := by decide +kernel
theorem dX12_bestStep_46 : decode cX12_bestStep 46 = .ok (.istore 5, 2) := by decide +kernel
theorem dX12_bestStep_48 : decode cX12_bestStep 48 = .ok (.aload_n 0, 1) := by decide +kernel
theorem dX12_bestStep_49 : decode cX12_bestStep 49 = .ok (.iload 5, 2) := by decide +kernel
theorem dX12_bestStep_51 : decode cX12_bestStep 51 = .ok (.invokevirtual 87, 3) := by decide +kernel
theorem dX12_bestStep_54 : decode cX12_bestStep 54 = .ok (.ifCond .eq 55, 3) := by decide +kernel
theorem dX12_bestStep_57 : decode cX12_bestStep 57 = .ok (.aload_n 0, 1) := by decide +kernel
theorem dX12_bestStep_58 : decode cX12_bestStep 58 = .ok (.getfield 25, 3) := by decide +kernel
theorem dX12_bestStep_61 : decode cX12_bestStep 61 = .ok (.iload 5, 2) := by decide +kernel
theorem dX12_bestStep_63 : decode cX12_bestStep 63 = .ok (.bipush 9, 2) := by decide +kernel
theorem dX12_bestStep_65 : decode cX12_bestStep 65 = .ok (.iastore, 1) := by decide +kernel
theorem dX12_bestStep_66 : decode cX12_bestStep 66 = .ok (.aload_n 0, 1) := by decide +kernel
theorem dX12_bestStep_67 : decode cX12_bestStep 67 = .ok (.iload 5, 2) := by decide +kernel
theorem dX12_bestStep_69 : decode cX12_bestStep 69 = .ok (.iconst 4, 1) := by decide +kernel
theorem dX12_bestStep_70 : decode cX12_bestStep 70 = .ok (.invokevirtual 215, 3) := by decide +kernel
theorem dX12_bestStep_73 : decode cX12_bestStep 73 = .ok (.istore 6, 2) := by decide +kernel
theorem dX12_bestStep_75 : decode cX12_bestStep 75 = .ok (.aload_n 0, 1) := by decide +kernel
theorem dX12_bestStep_76 : decode cX12_bestStep 76 = .ok (.getfield 25, 3) := by decide +kernel
theorem dX12_bestStep_79 : decode cX12_bestStep 79 = .ok (.iload 5, 2) := by decide +kernel
theorem dX12_bestStep_81 : decode cX12_bestStep 81 = .ok (.iconst (-1), 1) := by decide +kernel
theorem dX12_bestStep_82 : decode cX12_bestStep 82 = .ok (.iastore, 1) := by decide +kernel
theorem dX12_bestStep_83 : decode cX12_bestStep 83 = .ok (.iload 6, 2) := by decide +kernel
theorem dX12_bestStep_85 : decode cX12_bestStep 85 = .ok (.iload_n 3, 1) := by decide +kernel
theorem dX12_bestStep_86 : decode cX12_bestStep 86 = .ok (.if_icmp .le 8, 3) := by decide +kernel
theorem dX12_bestStep_89 : decode cX12_bestStep 89 = .ok (.iload 4, 2) := by decide +kernel
theorem dX12_bestStep_91 : decode cX12_bestStep 91 = .ok (.goto 4, 3) := by decide +kernel
theorem dX12_bestStep_94 : decode cX12_bestStep 94 = .ok (.iload_n 2, 1) := by decide +kernel
theorem dX12_bestStep_95 : decode cX12_bestStep 95 = .ok (.istore_n 2, 1) := by decide +kernel
theorem dX12_bestStep_96 : decode cX12_bestStep 96 = .ok (.iload 6, 2) := by decide +kernel
theorem dX12_bestStep_98 : decode cX12_bestStep 98 = .ok (.iload_n 3, 1) := by decide +kernel
theorem dX12_bestStep_99 : decode cX12_bestStep 99 = .ok (.if_icmp .le 8, 3) := by decide +kernel
theorem dX12_bestStep_102 : decode cX12_bestStep 102 = .ok (.iload 6, 2) := by decide +kernel
theorem dX12_bestStep_104 : decode cX12_bestStep 104 = .ok (.goto 4, 3) := by decide +kernel
theorem dX12_bestStep_107 : decode cX12_bestStep 107 = .ok (.iload_n 3, 1) := by decide +kernel
theorem dX12_bestStep_108 : decode cX12_bestStep 108 = .ok (.istore_n 3, 1) := by decide +kernel
theorem dX12_bestStep_109 : decode cX12_bestStep 109 = .ok (.iinc 4 1, 3) := by decide +kernel
theorem dX12_bestStep_112 : decode cX12_bestStep 112 = .ok (.goto (-82), 3) := by decide +kernel
theorem dX12_bestStep_115 : decode cX12_bestStep 115 = .ok (.iload_n 2, 1) := by decide +kernel
theorem dX12_bestStep_116 : decode cX12_bestStep 116 = .ok (.ireturn, 1) := by decide +kernel
theorem dX12_reach_0 : decode cX12_reach 0 = .ok (.aload_n 0, 1) := by decide +kernel
theorem dX12_reach_1 : decode cX12_reach 1 = .ok (.iconst 0, 1) := by decide +kernel
theorem dX12_reach_2 : decode cX12_reach 2 = .ok (.putfield 59, 3) := by decide +kernel
theorem dX12_reach_5 : decode cX12_reach 5 = .ok (.aload_n 0, 1) := by decide +kernel
theorem dX12_reach_6 : decode cX12_reach 6 = .ok (.iload_n 1, 1) := by decide +kernel
theorem dX12_reach_7 : decode cX12_reach 7 = .ok (.invokevirtual 66, 3) := by decide +kernel
theorem dX12_reach_10 : decode cX12_reach 10 = .ok (.ifCond .ne 9, 3) := by decide +kernel
theorem dX12_reach_13 : decode cX12_reach 13 = .ok (.aload_n 0, 1) := by decide +kernel
theorem dX12_reach_14 : decode cX12_reach 14 = .ok (.iconst 1, 1) := by decide +kernel
theorem dX12_reach_15 : decode cX12_reach 15 = .ok (.invokevirtual 78, 3) := by decide +kernel
theorem dX12_reach_18 : decode cX12_reach 18 = .ok (.ireturn, 1) := by decide +kernel
theorem dX12_reach_19 : decode cX12_reach 19 = .ok (.aload_n 0, 1) := by decide +kernel
theorem dX12_reach_20 : decode cX12_reach 20 = .ok (.invokevirtual 114, 3) := by decide +kernel
theorem dX12_reach_23 : decode cX12_reach 23 = .ok (.aload_n 0, 1) := by decide +kernel
theorem dX12_reach_24 : decode cX12_reach 24 = .ok (.invokevirtual 203, 3) := by decide +kernel
theorem dX12_reach_27 : decode cX12_reach 27 = .ok (.iconst 0, 1) := by decide +kernel
theorem dX12_reach_28 : decode cX12_reach 28 = .ok (.istore_n 2, 1) := by decide +kernel
theorem dX12_reach_29 : decode cX12_reach 29 = .ok (.iconst 0, 1) := by decide +kernel
theorem dX12_reach_30 : decode cX12_reach 30 = .ok (.istore_n 3, 1) := by decide +kernel
theorem dX12_reach_31 : decode cX12_reach 31 = .ok (.iload_n 3, 1) := by decide +kernel
theorem dX12_reach_32 : decode cX12_reach 32 = .ok (.aload_n 0, 1) := by decide +kernel
theorem dX12_reach_33 : decode cX12_reach 33 = .ok (.getfield 90, 3) := by decide +kernel
theorem dX12_reach_36 : decode cX12_reach 36 = .ok (.if_icmp .ge 35, 3) := by decide +kernel
theorem dX12_reach_39 : decode cX12_reach 39 = .ok (.iload_n 2, 1) := by decide +kernel
theorem dX12_reach_40 : decode cX12_reach 40 = .ok (.aload_n 0, 1) := by decide +kernel
theorem dX12_reach_41 : decode cX12_reach 41 = .ok (.aload_n 0, 1) := by decide +kernel
theorem dX12_reach_42 : decode cX12_reach 42 = .ok (.iload_n 1, 1) := by decide +kernel
theorem dX12_reach_43 : decode cX12_reach 43 = .ok (.invokevirtual 121, 3) := by decide +kernel
theorem dX12_reach_46 : decode cX12_reach 46 = .ok (.iload_n 3, 1) := by decide +kernel
theorem dX12_reach_47 : decode cX12_reach 47 = .ok (.invokevirtual 97, 3) := by decide +kernel
theorem dX12_reach_50 : decode cX12_reach 50 = .ok (.ifCond .eq 12, 3) := by decide +kernel
theorem dX12_reach_53 : decode cX12_reach 53 = .ok (.aload_n 0, 1) := by decide +kernel
theorem dX12_reach_54 : decode cX12_reach 54 = .ok (.getfield 34, 3) := by decide +kernel
theorem dX12_reach_57 : decode cX12_reach 57 = .ok (.iload_n 3, 1) := by decide +kernel
theorem dX12_reach_58 : decode cX12_reach 58 = .ok (.iaload, 1) := by decide +kernel
theorem dX12_reach_59 : decode cX12_reach 59 = .ok (.goto 4, 3) := by decide +kernel
theorem dX12_reach_62 : decode cX12_reach 62 = .ok (.iconst 0, 1) := by decide +kernel
theorem dX12_reach_63 : decode cX12_reach 63 = .ok (.iadd, 1) := by decide +kernel
theorem dX12_reach_64 : decode cX12_reach 64 = .ok (.istore_n 2, 1) := by decide +kernel
theorem dX12_reach_65 : decode cX12_reach 65 = .ok (.iinc 3 1, 3) := by decide +kernel
theorem dX12_reach_68 : decode cX12_reach 68 = .ok (.goto (-37), 3) := by decide +kernel
theorem dX12_reach_71 : decode cX12_reach 71 = .ok (.iload_n 2, 1) := by decide +kernel
theorem dX12_reach_72 : decode cX12_reach 72 = .ok (.ireturn, 1) := by decide +kernel
theorem dX12_ifTurned_0 : decode cX12_ifTurned 0 = .ok (.aload_n 0, 1) := by decide +kernel
theorem dX12_ifTurned_1 : decode cX12_ifTurned 1 = .ok (.iconst 0, 1) := by decide +kernel
theorem dX12_ifTurned_2 : decode cX12_ifTurned 2 = .ok (.putfield 59, 3) := by decide +kernel
theorem dX12_ifTurned_5 : decode cX12_ifTurned 5 = .ok (.aload_n 0, 1) := by decide +kernel
theorem dX12_ifTurned_6 : decode cX12_ifTurned 6 = .ok (.iload_n 1, 1) := by decide +kernel
theorem dX12_ifTurned_7 : decode cX12_ifTurned 7 = .ok (.iload_n 2, 1) := by decide +kernel
theorem dX12_ifTurned_8 : decode cX12_ifTurned 8 = .ok (.invokevirtual 131, 3) := by decide +kernel
theorem dX12_ifTurned_11 : decode cX12_ifTurned 11 = .ok (.ifCond .ne 9, 3) := by decide +kernel
theorem dX12_ifTurned_14 : decode cX12_ifTurned 14 = .ok (.aload_n 0, 1) := by decide +kernel
theorem dX12_ifTurned_15 : decode cX12_ifTurned 15 = .ok (.iconst 1, 1) := by decide +kernel
theorem dX12_ifTurned_16 : decode cX12_ifTurned 16 = .ok (.invokevirtual 78, 3) := by decide +kernel
theorem dX12_ifTurned_19 : decode cX12_ifTurned 19 = .ok (.ireturn, 1) := by decide +kernel
theorem dX12_ifTurned_20 : decode cX12_ifTurned 20 = .ok (.iload_n 3, 1) := by decide +kernel
theorem dX12_ifTurned_21 : decode cX12_ifTurned 21 = .ok (.iconst 1, 1) := by decide +kernel
theorem dX12_ifTurned_22 : decode cX12_ifTurned 22 = .ok (.iconst 3, 1) := by decide +kernel
theorem dX12_ifTurned_23 : decode cX12_ifTurned 23 = .ok (.invokestatic 62, 3) := by decide +kernel
theorem dX12_ifTurned_26 : decode cX12_ifTurned 26 = .ok (.ifCond .ne 9, 3) := by decide +kernel
theorem dX12_ifTurned_29 : decode cX12_ifTurned 29 = .ok (.aload_n 0, 1) := by decide +kernel
theorem dX12_ifTurned_30 : decode cX12_ifTurned 30 = .ok (.iconst 2, 1) := by decide +kernel
theorem dX12_ifTurned_31 : decode cX12_ifTurned 31 = .ok (.invokevirtual 78, 3) := by decide +kernel
theorem dX12_ifTurned_34 : decode cX12_ifTurned 34 = .ok (.ireturn, 1) := by decide +kernel
theorem dX12_ifTurned_35 : decode cX12_ifTurned 35 = .ok (.aload_n 0, 1) := by decide +kernel
theorem dX12_ifTurned_36 : decode cX12_ifTurned 36 = .ok (.invokevirtual 114, 3) := by decide +kernel
theorem dX12_ifTurned_39 : decode cX12_ifTurned 39 = .ok (.aload_n 0, 1) := by decide +kernel
theorem dX12_ifTurned_40 : decode cX12_ifTurned 40 = .ok (.iload_n 1, 1) := by decide +kernel
theorem dX12_ifTurned_41 : decode cX12_ifTurned 41 = .ok (.iload_n 2, 1) := by decide +kernel
theorem dX12_ifTurned_42 : decode cX12_ifTurned 42 = .ok (.iload_n 3, 1) := by decide +kernel
theorem dX12_ifTurned_43 : decode cX12_ifTurned 43 = .ok (.invokevirtual 134, 3) := by decide +kernel
theorem dX12_ifTurned_46 : decode cX12_ifTurned 46 = .ok (.ireturn, 1) := by decide +kernel
theorem dX12_turnable_0 : decode cX12_turnable 0 = .ok (.aload_n 0, 1) := by decide +kernel
theorem dX12_turnable_1 : decode cX12_turnable 1 = .ok (.iconst 0, 1) := by decide +kernel
theorem dX12_turnable_2 : decode cX12_turnable 2 = .ok (.putfield 59, 3) := by decide +kernel
theorem dX12_turnable_5 : decode cX12_turnable 5 = .ok (.aload_n 0, 1) := by decide +kernel
theorem dX12_turnable_6 : decode cX12_turnable 6 = .ok (.iload_n 1, 1) := by decide +kernel
theorem dX12_turnable_7 : decode cX12_turnable 7 = .ok (.invokevirtual 66, 3) := by decide +kernel
theorem dX12_turnable_10 : decode cX12_turnable 10 = .ok (.ifCond .ne 9, 3) := by decide +kernel
theorem dX12_turnable_13 : decode cX12_turnable 13 = .ok (.aload_n 0, 1) := by decide +kernel
theorem dX12_turnable_14 : decode cX12_turnable 14 = .ok (.iconst 1, 1) := by decide +kernel
theorem dX12_turnable_15 : decode cX12_turnable 15 = .ok (.invokevirtual 78, 3) := by decide +kernel
theorem dX12_turnable_18 : decode cX12_turnable 18 = .ok (.ireturn, 1) := by decide +kernel
theorem dX12_turnable_19 : decode cX12_turnable 19 = .ok (.aload_n 0, 1) := by decide +kernel
theorem dX12_turnable_20 : decode cX12_turnable 20 = .ok (.invokevirtual 114, 3) := by decide +kernel
theorem dX12_turnable_23 : decode cX12_turnable 23 = .ok (.iconst 0, 1) := by decide +kernel
theorem dX12_turnable_24 : decode cX12_turnable 24 = .ok (.istore_n 2, 1) := by decide +kernel
theorem dX12_turnable_25 : decode cX12_turnable 25 = .ok (.iconst 0, 1) := by decide +kernel
theorem dX12_turnable_26 : decode cX12_turnable 26 = .ok (.istore_n 3, 1) := by decide +kernel
theorem dX12_turnable_27 : decode cX12_turnable 27 = .ok (.iload_n 3, 1) := by decide +kernel
theorem dX12_turnable_28 : decode cX12_turnable 28 = .ok (.aload_n 0, 1) := by decide +kernel
theorem dX12_turnable_29 : decode cX12_turnable 29 = .ok (.iload_n 1, 1) := by decide +kernel
theorem dX12_turnable_30 : decode cX12_turnable 30 = .ok (.invokevirtual 70, 3) := by decide +kernel
theorem dX12_turnable_33 : decode cX12_turnable 33 = .ok (.iconst 1, 1) := by decide +kernel
theorem dX12_turnable_34 : decode cX12_turnable 34 = .ok (.isub, 1) := by decide +kernel
theorem dX12_turnable_35 : decode cX12_turnable 35 = .ok (.if_icmp .ge 43, 3) := by decide +kernel
theorem dX12_turnable_38 : decode cX12_turnable 38 = .ok (.iconst 1, 1) := by decide +kernel
theorem dX12_turnable_39 : decode cX12_turnable 39 = .ok (.istore 4, 2) := by decide +kernel
theorem dX12_turnable_41 : decode cX12_turnable 41 = .ok (.iload 4, 2) := by decide +kernel
theorem dX12_turnable_43 : decode cX12_turnable 43 = .ok (.iconst 4, 1) := by decide +kernel
theorem dX12_turnable_44 : decode cX12_turnable 44 = .ok (.if_icmp .ge 28, 3) := by decide +kernel
theorem dX12_turnable_47 : decode cX12_turnable 47 = .ok (.iload_n 2, 1) := by decide +kernel
theorem dX12_turnable_48 : decode cX12_turnable 48 = .ok (.aload_n 0, 1) := by decide +kernel
theorem dX12_turnable_49 : decode cX12_turnable 49 = .ok (.iload_n 1, 1) := by decide +kernel
theorem dX12_turnable_50 : decode cX12_turnable 50 = .ok (.iload_n 3, 1) := by decide +kernel
theorem dX12_turnable_51 : decode cX12_turnable 51 = .ok (.iload 4, 2) := by decide +kernel
theorem dX12_turnable_53 : decode cX12_turnable 53 = .ok (.invokevirtual 134, 3) := by decide +kernel
theorem dX12_turnable_56 : decode cX12_turnable 56 = .ok (.ifCond .ne 7, 3) := by decide +kernel
theorem dX12_turnable_59 : decode cX12_turnable 59 = .ok (.iconst 1, 1) := by decide +kernel
theorem dX12_turnable_60 : decode cX12_turnable 60 = .ok (.goto 4, 3) := by decide +kernel
theorem dX12_turnable_63 : decode cX12_turnable 63 = .ok (.iconst 0, 1) := by decide +kernel
theorem dX12_turnable_64 : decode cX12_turnable 64 = .ok (.iadd, 1) := by decide +kernel
theorem dX12_turnable_65 : decode cX12_turnable 65 = .ok (.istore_n 2, 1) := by decide +kernel
theorem dX12_turnable_66 : decode cX12_turnable 66 = .ok (.iinc 4 1, 3) := by decide +kernel
theorem dX12_turnable_69 : decode cX12_turnable 69 = .ok (.goto (-28), 3) := by decide +kernel
theorem dX12_turnable_72 : decode cX12_turnable 72 = .ok (.iinc 3 1, 3) := by decide +kernel
theorem dX12_turnable_75 : decode cX12_turnable 75 = .ok (.goto (-48), 3) := by decide +kernel
theorem dX12_turnable_78 : decode cX12_turnable 78 = .ok (.iload_n 2, 1) := by decide +kernel
theorem dX12_turnable_79 : decode cX12_turnable 79 = .ok (.ireturn, 1) := by decide +kernel
theorem dX12_sitesInPaths_0 : decode cX12_sitesInPaths 0 = .ok (.iconst 0, 1) := by decide +kernel
theorem dX12_sitesInPaths_1 : decode cX12_sitesInPaths 1 = .ok (.istore_n 1, 1) := by decide +kernel
theorem dX12_sitesInPaths_2 : decode cX12_sitesInPaths 2 = .ok (.iconst 0, 1) := by decide +kernel
theorem dX12_sitesInPaths_3 : decode cX12_sitesInPaths 3 = .ok (.istore_n 2, 1) := by decide +kernel
theorem dX12_sitesInPaths_4 : decode cX12_sitesInPaths 4 = .ok (.iload_n 2, 1) := by decide +kernel
theorem dX12_sitesInPaths_5 : decode cX12_sitesInPaths 5 = .ok (.aload_n 0, 1) := by decide +kernel
theorem dX12_sitesInPaths_6 : decode cX12_sitesInPaths 6 = .ok (.getfield 7, 3) := by decide +kernel
theorem dX12_sitesInPaths_9 : decode cX12_sitesInPaths 9 = .ok (.iconst 0, 1) := by decide +kernel
theorem dX12_sitesInPaths_10 : decode cX12_sitesInPaths 10 = .ok (.iaload, 1) := by decide +kernel
theorem dX12_sitesInPaths_11 : decode cX12_sitesInPaths 11 = .ok (.if_icmp .ge 17, 3) := by decide +kernel
theorem dX12_sitesInPaths_14 : decode cX12_sitesInPaths 14 = .ok (.iload_n 1, 1) := by decide +kernel
theorem dX12_sitesInPaths_15 : decode cX12_sitesInPaths 15 = .ok (.aload_n 0, 1) := by decide +kernel
theorem dX12_sitesInPaths_16 : decode cX12_sitesInPaths 16 = .ok (.iload_n 2, 1) := by decide +kernel
theorem dX12_sitesInPaths_17 : decode cX12_sitesInPaths 17 = .ok (.invokevirtual 70, 3) := by decide +kernel
theorem dX12_sitesInPaths_20 : decode cX12_sitesInPaths 20 = .ok (.iadd, 1) := by decide +kernel
theorem dX12_sitesInPaths_21 : decode cX12_sitesInPaths 21 = .ok (.istore_n 1, 1) := by decide +kernel
theorem dX12_sitesInPaths_22 : decode cX12_sitesInPaths 22 = .ok (.iinc 2 1, 3) := by decide +kernel
theorem dX12_sitesInPaths_25 : decode cX12_sitesInPaths 25 = .ok (.goto (-21), 3) := by decide +kernel
theorem dX12_sitesInPaths_28 : decode cX12_sitesInPaths 28 = .ok (.iload_n 1, 1) := by decide +kernel
theorem dX12_sitesInPaths_29 : decode cX12_sitesInPaths 29 = .ok (.ireturn, 1) := by decide +kernel
theorem dX12_count_0 : decode cX12_count 0 = .ok (.aload_n 0, 1) := by decide +kernel
theorem dX12_count_1 : decode cX12_count 1 = .ok (.iconst 0, 1) := by decide +kernel
theorem dX12_count_2 : decode cX12_count 2 = .ok (.putfield 59, 3) := by decide +kernel
theorem dX12_count_5 : decode cX12_count 5 = .ok (.iload_n 1, 1) := by decide +kernel
theorem dX12_count_6 : decode cX12_count 6 = .ok (.tableswitch 85 0 6 #[42, 49, 54, 61, 68, 75, 80], 42) := by decide +kernel
theorem dX12_count_48 : decode cX12_count 48 = .ok (.aload_n 0, 1) := by decide +kernel
theorem dX12_count_49 : decode cX12_count 49 = .ok (.getfield 7, 3) := by decide +kernel
theorem dX12_count_52 : decode cX12_count 52 = .ok (.iconst 0, 1) := by decide +kernel
theorem dX12_count_53 : decode cX12_count 53 = .ok (.iaload, 1) := by decide +kernel
theorem dX12_count_54 : decode cX12_count 54 = .ok (.ireturn, 1) := by decide +kernel
theorem dX12_count_55 : decode cX12_count 55 = .ok (.aload_n 0, 1) := by decide +kernel
theorem dX12_count_56 : decode cX12_count 56 = .ok (.invokevirtual 218, 3) := by decide +kernel
theorem dX12_count_59 : decode cX12_count 59 = .ok (.ireturn, 1) := by decide +kernel
theorem dX12_count_60 : decode cX12_count 60 = .ok (.aload_n 0, 1) := by decide +kernel
theorem dX12_count_61 : decode cX12_count 61 = .ok (.getfield 7, 3) := by decide +kernel
theorem dX12_count_64 : decode cX12_count 64 = .ok (.iconst 1, 1) := by decide +kernel
theorem dX12_count_65 : decode cX12_count 65 = .ok (.iaload, 1) := by decide +kernel
theorem dX12_count_66 : decode cX12_count 66 = .ok (.ireturn, 1) := by decide +kernel
theorem dX12_count_67 : decode cX12_count 67 = .ok (.aload_n 0, 1) := by decide +kernel
theorem dX12_count_68 : decode cX12_count 68 = .ok (.getfield 7, 3) := by decide +kernel
theorem dX12_count_71 : decode cX12_count 71 = .ok (.iconst 2, 1) := by decide +kernel
theorem dX12_count_72 : decode cX12_count 72 = .ok (.iaload, 1) := by decide +kernel
theorem dX12_count_73 : decode cX12_count 73 = .ok (.ireturn, 1) := by decide +kernel
theorem dX12_count_74 : decode cX12_count 74 = .ok (.aload_n 0, 1) := by decide +kernel
theorem dX12_count_75 : decode cX12_count 75 = .ok (.getfield 7, 3) := by decide +kernel
theorem dX12_count_78 : decode cX12_count 78 = .ok (.iconst 3, 1) := by decide +kernel
theorem dX12_count_79 : decode cX12_count 79 = .ok (.iaload, 1) := by decide +kernel
theorem dX12_count_80 : decode cX12_count 80 = .ok (.ireturn, 1) := by decide +kernel
theorem dX12_count_81 : decode cX12_count 81 = .ok (.aload_n 0, 1) := by decide +kernel
theorem dX12_count_82 : decode cX12_count 82 = .ok (.getfield 55, 3) := by decide +kernel
theorem dX12_count_85 : decode cX12_count 85 = .ok (.ireturn, 1) := by decide +kernel
theorem dX12_count_86 : decode cX12_count 86 = .ok (.aload_n 0, 1) := by decide +kernel
theorem dX12_count_87 : decode cX12_count 87 = .ok (.getfield 146, 3) := by decide +kernel
theorem dX12_count_90 : decode cX12_count 90 = .ok (.ireturn, 1) := by decide +kernel
theorem dX12_count_91 : decode cX12_count 91 = .ok (.aload_n 0, 1) := by decide +kernel
theorem dX12_count_92 : decode cX12_count 92 = .ok (.iconst 1, 1) := by decide +kernel
theorem dX12_count_93 : decode cX12_count 93 = .ok (.invokevirtual 78, 3) := by decide +kernel
theorem dX12_count_96 : decode cX12_count 96 = .ok (.ireturn, 1) := by decide +kernel
theorem dX12_spread_0 : decode cX12_spread 0 = .ok (.aload_n 0, 1) := by decide +kernel
theorem dX12_spread_1 : decode cX12_spread 1 = .ok (.iconst 0, 1) := by decide +kernel
theorem dX12_spread_2 : decode cX12_spread 2 = .ok (.putfield 59, 3) := by decide +kernel
theorem dX12_spread_5 : decode cX12_spread 5 = .ok (.aload_n 0, 1) := by decide +kernel
theorem dX12_spread_6 : decode cX12_spread 6 = .ok (.iload_n 1, 1) := by decide +kernel
theorem dX12_spread_7 : decode cX12_spread 7 = .ok (.invokevirtual 66, 3) := by decide +kernel
theorem dX12_spread_10 : decode cX12_spread 10 = .ok (.ifCond .ne 10, 3) := by decide +kernel
theorem dX12_spread_13 : decode cX12_spread 13 = .ok (.aload_n 0, 1) := by decide +kernel
theorem dX12_spread_14 : decode cX12_spread 14 = .ok (.iconst 1, 1) := by decide +kernel
theorem dX12_spread_15 : decode cX12_spread 15 = .ok (.putfield 59, 3) := by decide +kernel
theorem dX12_spread_18 : decode cX12_spread 18 = .ok (.dconst 0, 1) := by decide +kernel
theorem dX12_spread_19 : decode cX12_spread 19 = .ok (.dreturn, 1) := by decide +kernel
theorem dX12_spread_20 : decode cX12_spread 20 = .ok (.aload_n 0, 1) := by decide +kernel
theorem dX12_spread_21 : decode cX12_spread 21 = .ok (.iload_n 1, 1) := by decide +kernel
theorem dX12_spread_22 : decode cX12_spread 22 = .ok (.invokevirtual 70, 3) := by decide +kernel
theorem dX12_spread_25 : decode cX12_spread 25 = .ok (.i2d, 1) := by decide +kernel
theorem dX12_spread_26 : decode cX12_spread 26 = .ok (.dstore_n 2, 1) := by decide +kernel
theorem dX12_spread_27 : decode cX12_spread 27 = .ok (.aload_n 0, 1) := by decide +kernel
theorem dX12_spread_28 : decode cX12_spread 28 = .ok (.iload_n 1, 1) := by decide +kernel
theorem dX12_spread_29 : decode cX12_spread 29 = .ok (.invokevirtual 184, 3) := by decide +kernel
theorem dX12_spread_32 : decode cX12_spread 32 = .ok (.i2d, 1) := by decide +kernel
theorem dX12_spread_33 : decode cX12_spread 33 = .ok (.dload_n 2, 1) := by decide +kernel
theorem dX12_spread_34 : decode cX12_spread 34 = .ok (.dload_n 2, 1) := by decide +kernel
theorem dX12_spread_35 : decode cX12_spread 35 = .ok (.dmul, 1) := by decide +kernel
theorem dX12_spread_36 : decode cX12_spread 36 = .ok (.ddiv, 1) := by decide +kernel
theorem dX12_spread_37 : decode cX12_spread 37 = .ok (.dreturn, 1) := by decide +kernel
theorem dX12_share_0 : decode cX12_share 0 = .ok (.aload_n 0, 1) := by decide +kernel
theorem dX12_share_1 : decode cX12_share 1 = .ok (.iconst 0, 1) := by decide +kernel
theorem dX12_share_2 : decode cX12_share 2 = .ok (.putfield 59, 3) := by decide +kernel
theorem dX12_share_5 : decode cX12_share 5 = .ok (.aload_n 0, 1) := by decide +kernel
theorem dX12_share_6 : decode cX12_share 6 = .ok (.invokevirtual 218, 3) := by decide +kernel
theorem dX12_share_9 : decode cX12_share 9 = .ok (.i2f, 1) := by decide +kernel
theorem dX12_share_10 : decode cX12_share 10 = .ok (.ldc 221, 2) := by decide +kernel
theorem dX12_share_12 : decode cX12_share 12 = .ok (.fdiv, 1) := by decide +kernel
theorem dX12_share_13 : decode cX12_share 13 = .ok (.freturn, 1) := by decide +kernel
theorem dJ11_isValidCodePoint_9a6ad_0 : decode cJ11_isValidCodePoint_9a6ad 0 = .ok (.iload_n 0, 1) := by decide +kernel
theorem dJ11_isValidCodePoint_9a6ad_1 : decode cJ11_isValidCodePoint_9a6ad 1 = .ok (.bipush 16, 2) := by decide +kernel
theorem dJ11_isValidCodePoint_9a6ad_3 : decode cJ11_isValidCodePoint_9a6ad 3 = .ok (.iushr, 1) := by decide +kernel
theorem dJ11_isValidCodePoint_9a6ad_4 : decode cJ11_isValidCodePoint_9a6ad 4 = .ok (.istore_n 1, 1) := by decide +kernel
theorem dJ11_isValidCodePoint_9a6ad_5 : decode cJ11_isValidCodePoint_9a6ad 5 = .ok (.iload_n 1, 1) := by decide +kernel
theorem dJ11_isValidCodePoint_9a6ad_6 : decode cJ11_isValidCodePoint_9a6ad 6 = .ok (.bipush 17, 2) := by decide +kernel
theorem dJ11_isValidCodePoint_9a6ad_8 : decode cJ11_isValidCodePoint_9a6ad 8 = .ok (.if_icmp .ge 7, 3) := by decide +kernel
theorem dJ11_isValidCodePoint_9a6ad_11 : decode cJ11_isValidCodePoint_9a6ad 11 = .ok (.iconst 1, 1) := by decide +kernel
theorem dJ11_isValidCodePoint_9a6ad_12 : decode cJ11_isValidCodePoint_9a6ad 12 = .ok (.goto 4, 3) := by decide +kernel
theorem dJ11_isValidCodePoint_9a6ad_15 : decode cJ11_isValidCodePoint_9a6ad 15 = .ok (.iconst 0, 1) := by decide +kernel
theorem dJ11_isValidCodePoint_9a6ad_16 : decode cJ11_isValidCodePoint_9a6ad 16 = .ok (.ireturn, 1) := by decide +kernel
theorem dJ11_highSurrogate_5068e_0 : decode cJ11_highSurrogate_5068e 0 = .ok (.iload_n 0, 1) := by decide +kernel
theorem dJ11_highSurrogate_5068e_1 : decode cJ11_highSurrogate_5068e 1 = .ok (.bipush 10, 2) := by decide +kernel
theorem dJ11_highSurrogate_5068e_3 : decode cJ11_highSurrogate_5068e 3 = .ok (.iushr, 1) := by decide +kernel
theorem dJ11_highSurrogate_5068e_4 : decode cJ11_highSurrogate_5068e 4 = .ok (.ldc 110, 2) := by decide +kernel
theorem dJ11_highSurrogate_5068e_6 : decode cJ11_highSurrogate_5068e 6 = .ok (.iadd, 1) := by decide +kernel
theorem dJ11_highSurrogate_5068e_7 : decode cJ11_highSurrogate_5068e 7 = .ok (.i2c, 1) := by decide +kernel
theorem dJ11_highSurrogate_5068e_8 : decode cJ11_highSurrogate_5068e 8 = .ok (.ireturn, 1) := by decide +kernel
theorem dJ11_lowSurrogate_5068e_0 : decode cJ11_lowSurrogate_5068e 0 = .ok (.iload_n 0, 1) := by decide +kernel
theorem dJ11_lowSurrogate_5068e_1 : decode cJ11_lowSurrogate_5068e 1 = .ok (.sipush 1023, 3) := by decide +kernel
theorem dJ11_lowSurrogate_5068e_4 : decode cJ11_lowSurrogate_5068e 4 = .ok (.iand, 1) := by decide +kernel
theorem dJ11_lowSurrogate_5068e_5 : decode cJ11_lowSurrogate_5068e 5 = .ok (.ldc 76, 2) := by decide +kernel
theorem dJ11_lowSurrogate_5068e_7 : decode cJ11_lowSurrogate_5068e 7 = .ok (.iadd, 1) := by decide +kernel
theorem dJ11_lowSurrogate_5068e_8 : decode cJ11_lowSurrogate_5068e 8 = .ok (.i2c, 1) := by decide +kernel
theorem dJ11_lowSurrogate_5068e_9 : decode cJ11_lowSurrogate_5068e 9 = .ok (.ireturn, 1) := by decide +kernel
theorem dJ9_abs_0f7a4_0 : decode cJ9_abs_0f7a4 0 = .ok (.iload_n 0, 1) := by decide +kernel
theorem dJ9_abs_0f7a4_1 : decode cJ9_abs_0f7a4 1 = .ok (.ifCond .ge 8, 3) := by decide +kernel
theorem dJ9_abs_0f7a4_4 : decode cJ9_abs_0f7a4 4 = .ok (.iload_n 0, 1) := by decide +kernel
theorem dJ9_abs_0f7a4_5 : decode cJ9_abs_0f7a4 5 = .ok (.ineg, 1) := by decide +kernel
theorem dJ9_abs_0f7a4_6 : decode cJ9_abs_0f7a4 6 = .ok (.goto 4, 3) := by decide +kernel
theorem dJ9_abs_0f7a4_9 : decode cJ9_abs_0f7a4 9 = .ok (.iload_n 0, 1) := by decide +kernel
theorem dJ9_abs_0f7a4_10 : decode cJ9_abs_0f7a4 10 = .ok (.ireturn, 1) := by decide +kernel
theorem dJ9_max_7cf53_0 : decode cJ9_max_7cf53 0 = .ok (.iload_n 0, 1) := by decide +kernel
theorem dJ9_max_7cf53_1 : decode cJ9_max_7cf53 1 = .ok (.iload_n 1, 1) := by decide +kernel
theorem dJ9_max_7cf53_2 : decode cJ9_max_7cf53 2 = .ok (.if_icmp .lt 7, 3) := by decide +kernel
theorem dJ9_max_7cf53_5 : decode cJ9_max_7cf53 5 = .ok (.iload_n 0, 1) := by decide +kernel
theorem dJ9_max_7cf53_6 : decode cJ9_max_7cf53 6 = .ok (.goto 4, 3) := by decide +kernel
theorem dJ9_max_7cf53_9 : decode cJ9_max_7cf53 9 = .ok (.iload_n 1, 1) := by decide +kernel
theorem dJ9_max_7cf53_10 : decode cJ9_max_7cf53 10 = .ok (.ireturn, 1) := by decide +kernel
theorem dJ9_min_7cf53_0 : decode cJ9_min_7cf53 0 = .ok (.iload_n 0, 1) := by decide +kernel
theorem dJ9_min_7cf53_1 : decode cJ9_min_7cf53 1 = .ok (.iload_n 1, 1) := by decide +kernel
theorem dJ9_min_7cf53_2 : decode cJ9_min_7cf53 2 = .ok (.if_icmp .gt 7, 3) := by decide +kernel
theorem dJ9_min_7cf53_5 : decode cJ9_min_7cf53 5 = .ok (.iload_n 0, 1) := by decide +kernel
theorem dJ9_min_7cf53_6 : decode cJ9_min_7cf53 6 = .ok (.goto 4, 3) := by decide +kernel
theorem dJ9_min_7cf53_9 : decode cJ9_min_7cf53 9 = .ok (.iload_n 1, 1) := by decide +kernel
theorem dJ9_min_7cf53_10 : decode cJ9_min_7cf53 10 = .ok (.ireturn, 1) := by decide +kernel
theorem dJ0_length_8abf5_0 : decode cJ0_length_8abf5 0 = .ok (.aload_n 0, 1) := by decide +kernel
theorem dJ0_length_8abf5_1 : decode cJ0_length_8abf5 1 = .ok (.getfield 9, 3) := by decide +kernel
theorem dJ0_length_8abf5_4 : decode cJ0_length_8abf5 4 = .ok (.arraylength, 1) := by decide +kernel
theorem dJ0_length_8abf5_5 : decode cJ0_length_8abf5 5 = .ok (.aload_n 0, 1) := by decide +kernel
theorem dJ0_length_8abf5_6 : decode cJ0_length_8abf5 6 = .ok (.invokevirtual 335, 3) := by decide +kernel
theorem dJ0_length_8abf5_9 : decode cJ0_length_8abf5 9 = .ok (.ishr, 1) := by decide +kernel
theorem dJ0_length_8abf5_10 : decode cJ0_length_8abf5 10 = .ok (.ireturn, 1) := by decide +kernel
theorem dJ0_charAt_5068e_0 : decode cJ0_charAt_5068e 0 = .ok (.aload_n 0, 1) := by decide +kernel
theorem dJ0_charAt_5068e_1 : decode cJ0_charAt_5068e 1 = .ok (.invokevirtual 492, 3) := by decide +kernel
theorem dJ0_charAt_5068e_4 : decode cJ0_charAt_5068e 4 = .ok (.ifCond .eq 12, 3) := by decide +kernel
theorem dJ0_charAt_5068e_7 : decode cJ0_charAt_5068e 7 = .ok (.aload_n 0, 1) := by decide +kernel
theorem dJ0_charAt_5068e_8 : decode cJ0_charAt_5068e 8 = .ok (.getfield 9, 3) := by decide +kernel
theorem dJ0_charAt_5068e_11 : decode cJ0_charAt_5068e 11 = .ok (.iload_n 1, 1) := by decide +kernel
theorem dJ0_charAt_5068e_12 : decode cJ0_charAt_5068e 12 = .ok (.invokestatic 495, 3) := by decide +kernel
theorem dJ0_charAt_5068e_15 : decode cJ0_charAt_5068e 15 = .ok (.ireturn, 1) := by decide +kernel
theorem dJ0_charAt_5068e_16 : decode cJ0_charAt_5068e 16 = .ok (.aload_n 0, 1) := by decide +kernel
theorem dJ0_charAt_5068e_17 : decode cJ0_charAt_5068e 17 = .ok (.getfield 9, 3) := by decide +kernel
theorem dJ0_charAt_5068e_20 : decode cJ0_charAt_5068e 20 = .ok (.iload_n 1, 1) := by decide +kernel
theorem dJ0_charAt_5068e_21 : decode cJ0_charAt_5068e 21 = .ok (.invokestatic 498, 3) := by decide +kernel
theorem dJ0_charAt_5068e_24 : decode cJ0_charAt_5068e 24 = .ok (.ireturn, 1) := by decide +kernel
theorem dJ0_indexOf_0f7a4_0 : decode cJ0_indexOf_0f7a4 0 = .ok (.aload_n 0, 1) := by decide +kernel
theorem dJ0_indexOf_0f7a4_1 : decode cJ0_indexOf_0f7a4 1 = .ok (.iload_n 1, 1) := by decide +kernel
theorem dJ0_indexOf_0f7a4_2 : decode cJ0_indexOf_0f7a4 2 = .ok (.iconst 0, 1) := by decide +kernel
theorem dJ0_indexOf_0f7a4_3 : decode cJ0_indexOf_0f7a4 3 = .ok (.invokevirtual 633, 3) := by decide +kernel
theorem dJ0_indexOf_0f7a4_6 : decode cJ0_indexOf_0f7a4 6 = .ok (.ireturn, 1) := by decide +kernel
theorem dJ0_indexOf_7cf53_0 : decode cJ0_indexOf_7cf53 0 = .ok (.aload_n 0, 1) := by decide +kernel
theorem dJ0_indexOf_7cf53_1 : decode cJ0_indexOf_7cf53 1 = .ok (.invokevirtual 492, 3) := by decide +kernel
theorem dJ0_indexOf_7cf53_4 : decode cJ0_indexOf_7cf53 4 = .ok (.ifCond .eq 19, 3) := by decide +kernel
theorem dJ0_indexOf_7cf53_7 : decode cJ0_indexOf_7cf53 7 = .ok (.aload_n 0, 1) := by decide +kernel
theorem dJ0_indexOf_7cf53_8 : decode cJ0_indexOf_7cf53 8 = .ok (.getfield 9, 3) := by decide +kernel
theorem dJ0_indexOf_7cf53_11 : decode cJ0_indexOf_7cf53 11 = .ok (.iload_n 1, 1) := by decide +kernel
theorem dJ0_indexOf_7cf53_12 : decode cJ0_indexOf_7cf53 12 = .ok (.iload_n 2, 1) := by decide +kernel
theorem dJ0_indexOf_7cf53_13 : decode cJ0_indexOf_7cf53 13 = .ok (.aload_n 0, 1) := by decide +kernel
theorem dJ0_indexOf_7cf53_14 : decode cJ0_indexOf_7cf53 14 = .ok (.invokevirtual 505, 3) := by decide +kernel
theorem dJ0_indexOf_7cf53_17 : decode cJ0_indexOf_7cf53 17 = .ok (.invokestatic 637, 3) := by decide +kernel
theorem dJ0_indexOf_7cf53_20 : decode cJ0_indexOf_7cf53 20 = .ok (.goto 16, 3) := by decide +kernel
theorem dJ0_indexOf_7cf53_23 : decode cJ0_indexOf_7cf53 23 = .ok (.aload_n 0, 1) := by decide +kernel
theorem dJ0_indexOf_7cf53_24 : decode cJ0_indexOf_7cf53 24 = .ok (.getfield 9, 3) := by decide +kernel
theorem dJ0_indexOf_7cf53_27 : decode cJ0_indexOf_7cf53 27 = .ok (.iload_n 1, 1) := by decide +kernel
theorem dJ0_indexOf_7cf53_28 : decode cJ0_indexOf_7cf53 28 = .ok (.iload_n 2, 1) := by decide +kernel
theorem dJ0_indexOf_7cf53_29 : decode cJ0_indexOf_7cf53 29 = .ok (.aload_n 0, 1) := by decide +kernel
theorem dJ0_indexOf_7cf53_30 : decode cJ0_indexOf_7cf53 30 = .ok (.invokevirtual 505, 3) := by decide +kernel
theorem dJ0_indexOf_7cf53_33 : decode cJ0_indexOf_7cf53 33 = .ok (.invokestatic 640, 3) := by decide +kernel
theorem dJ0_indexOf_7cf53_36 : decode cJ0_indexOf_7cf53 36 = .ok (.ireturn, 1) := by decide +kernel
theorem dJ0_coder_7d493_0 : decode cJ0_coder_7d493 0 = .ok (.getstatic 38, 3) := by decide +kernel
theorem dJ0_coder_7d493_3 : decode cJ0_coder_7d493 3 = .ok (.ifCond .eq 10, 3) := by decide +kernel
theorem dJ0_coder_7d493_6 : decode cJ0_coder_7d493 6 = .ok (.aload_n 0, 1) := by decide +kernel
theorem dJ0_coder_7d493_7 : decode cJ0_coder_7d493 7 = .ok (.getfield 15, 3) := by decide +kernel
theorem dJ0_coder_7d493_10 : decode cJ0_coder_7d493 10 = .ok (.goto 4, 3) := by decide +kernel
theorem dJ0_coder_7d493_13 : decode cJ0_coder_7d493 13 = .ok (.iconst 1, 1) := by decide +kernel
theorem dJ0_coder_7d493_14 : decode cJ0_coder_7d493 14 = .ok (.ireturn, 1) := by decide +kernel
theorem dJ0_isLatin1_aae02_0 : decode cJ0_isLatin1_aae02 0 = .ok (.getstatic 38, 3) := by decide +kernel
theorem dJ0_isLatin1_aae02_3 : decode cJ0_isLatin1_aae02 3 = .ok (.ifCond .eq 14, 3) := by decide +kernel
theorem dJ0_isLatin1_aae02_6 : decode cJ0_isLatin1_aae02 6 = .ok (.aload_n 0, 1) := by decide +kernel
theorem dJ0_isLatin1_aae02_7 : decode cJ0_isLatin1_aae02 7 = .ok (.getfield 15, 3) := by decide +kernel
theorem dJ0_isLatin1_aae02_10 : decode cJ0_isLatin1_aae02 10 = .ok (.ifCond .ne 7, 3) := by decide +kernel
theorem dJ0_isLatin1_aae02_13 : decode cJ0_isLatin1_aae02 13 = .ok (.iconst 1, 1) := by decide +kernel
theorem dJ0_isLatin1_aae02_14 : decode cJ0_isLatin1_aae02 14 = .ok (.goto 4, 3) := by decide +kernel
theorem dJ0_isLatin1_aae02_17 : decode cJ0_isLatin1_aae02 17 = .ok (.iconst 0, 1) := by decide +kernel
theorem dJ0_isLatin1_aae02_18 : decode cJ0_isLatin1_aae02 18 = .ok (.ireturn, 1) := by decide +kernel
theorem dJ0_checkIndex_df160_0 : decode cJ0_checkIndex_df160 0 = .ok (.iload_n 0, 1) := by decide +kernel
theorem dJ0_checkIndex_df160_1 : decode cJ0_checkIndex_df160 1 = .ok (.iload_n 1, 1) := by decide +kernel
theorem dJ0_checkIndex_df160_2 : decode cJ0_checkIndex_df160 2 = .ok (.getstatic 1053, 3) := by decide +kernel
theorem dJ0_checkIndex_df160_5 : decode cJ0_checkIndex_df160 5 = .ok (.invokestatic 1059, 3) := by decide +kernel
theorem dJ0_checkIndex_df160_8 : decode cJ0_checkIndex_df160 8 = .ok (.pop, 1) := by decide +kernel
theorem dJ0_checkIndex_df160_9 : decode cJ0_checkIndex_df160 9 = .ok (.return_, 1) := by decide +kernel
theorem dJ0_checkBoundsBeginEnd_23922_0 : decode cJ0_checkBoundsBeginEnd_23922 0 = .ok (.iload_n 0, 1) := by decide +kernel
theorem dJ0_checkBoundsBeginEnd_23922_1 : decode cJ0_checkBoundsBeginEnd_23922 1 = .ok (.iload_n 1, 1) := by decide +kernel
theorem dJ0_checkBoundsBeginEnd_23922_2 : decode cJ0_checkBoundsBeginEnd_23922 2 = .ok (.iload_n 2, 1) := by decide +kernel
theorem dJ0_checkBoundsBeginEnd_23922_3 : decode cJ0_checkBoundsBeginEnd_23922 3 = .ok (.getstatic 1053, 3) := by decide +kernel
theorem dJ0_checkBoundsBeginEnd_23922_6 : decode cJ0_checkBoundsBeginEnd_23922 6 = .ok (.invokestatic 1062, 3) := by decide +kernel
theorem dJ0_checkBoundsBeginEnd_23922_9 : decode cJ0_checkBoundsBeginEnd_23922 9 = .ok (.pop, 1) := by decide +kernel
theorem dJ0_checkBoundsBeginEnd_23922_10 : decode cJ0_checkBoundsBeginEnd_23922 10 = .ok (.return_, 1) := by decide +kernel
theorem dJ1_charAt_3b067_0 : decode cJ1_charAt_3b067 0 = .ok (.iload_n 1, 1) := by decide +kernel
theorem dJ1_charAt_3b067_1 : decode cJ1_charAt_3b067 1 = .ok (.aload_n 0, 1) := by decide +kernel
theorem dJ1_charAt_3b067_2 : decode cJ1_charAt_3b067 2 = .ok (.arraylength, 1) := by decide +kernel
theorem dJ1_charAt_3b067_3 : decode cJ1_charAt_3b067 3 = .ok (.invokestatic 9, 3) := by decide +kernel
theorem dJ1_charAt_3b067_6 : decode cJ1_charAt_3b067 6 = .ok (.aload_n 0, 1) := by decide +kernel
theorem dJ1_charAt_3b067_7 : decode cJ1_charAt_3b067 7 = .ok (.iload_n 1, 1) := by decide +kernel
theorem dJ1_charAt_3b067_8 : decode cJ1_charAt_3b067 8 = .ok (.baload, 1) := by decide +kernel
theorem dJ1_charAt_3b067_9 : decode cJ1_charAt_3b067 9 = .ok (.sipush 255, 3) := by decide +kernel
theorem dJ1_charAt_3b067_12 : decode cJ1_charAt_3b067 12 = .ok (.iand, 1) := by decide +kernel
theorem dJ1_charAt_3b067_13 : decode cJ1_charAt_3b067 13 = .ok (.i2c, 1) := by decide +kernel
theorem dJ1_charAt_3b067_14 : decode cJ1_charAt_3b067 14 = .ok (.ireturn, 1) := by decide +kernel
theorem dJ1_canEncode_9a6ad_0 : decode cJ1_canEncode_9a6ad 0 = .ok (.iload_n 0, 1) := by decide +kernel
theorem dJ1_canEncode_9a6ad_1 : decode cJ1_canEncode_9a6ad 1 = .ok (.ifCond .lt 14, 3) := by decide +kernel
theorem dJ1_canEncode_9a6ad_4 : decode cJ1_canEncode_9a6ad 4 = .ok (.iload_n 0, 1) := by decide +kernel
theorem dJ1_canEncode_9a6ad_5 : decode cJ1_canEncode_9a6ad 5 = .ok (.sipush 255, 3) := by decide +kernel
theorem dJ1_canEncode_9a6ad_8 : decode cJ1_canEncode_9a6ad 8 = .ok (.if_icmp .gt 7, 3) := by decide +kernel
theorem dJ1_canEncode_9a6ad_11 : decode cJ1_canEncode_9a6ad 11 = .ok (.iconst 1, 1) := by decide +kernel
theorem dJ1_canEncode_9a6ad_12 : decode cJ1_canEncode_9a6ad 12 = .ok (.goto 4, 3) := by decide +kernel
theorem dJ1_canEncode_9a6ad_15 : decode cJ1_canEncode_9a6ad 15 = .ok (.iconst 0, 1) := by decide +kernel
theorem dJ1_canEncode_9a6ad_16 : decode cJ1_canEncode_9a6ad 16 = .ok (.ireturn, 1) := by decide +kernel
theorem dJ1_indexOf_4cfef_0 : decode cJ1_indexOf_4cfef 0 = .ok (.iload_n 1, 1) := by decide +kernel
theorem dJ1_indexOf_4cfef_1 : decode cJ1_indexOf_4cfef 1 = .ok (.invokestatic 88, 3) := by decide +kernel
theorem dJ1_indexOf_4cfef_4 : decode cJ1_indexOf_4cfef 4 = .ok (.ifCond .ne 5, 3) := by decide +kernel
theorem dJ1_indexOf_4cfef_7 : decode cJ1_indexOf_4cfef 7 = .ok (.iconst (-1), 1) := by decide +kernel
theorem dJ1_indexOf_4cfef_8 : decode cJ1_indexOf_4cfef 8 = .ok (.ireturn, 1) := by decide +kernel
theorem dJ1_indexOf_4cfef_9 : decode cJ1_indexOf_4cfef 9 = .ok (.iload_n 2, 1) := by decide +kernel
theorem dJ1_indexOf_4cfef_10 : decode cJ1_indexOf_4cfef 10 = .ok (.iconst 0, 1) := by decide +kernel
theorem dJ1_indexOf_4cfef_11 : decode cJ1_indexOf_4cfef 11 = .ok (.invokestatic 92, 3) := by decide +kernel
theorem dJ1_indexOf_4cfef_14 : decode cJ1_indexOf_4cfef 14 = .ok (.istore_n 2, 1) := by decide +kernel
theorem dJ1_indexOf_4cfef_15 : decode cJ1_indexOf_4cfef 15 = .ok (.iload_n 3, 1) := by decide +kernel
theorem dJ1_indexOf_4cfef_16 : decode cJ1_indexOf_4cfef 16 = .ok (.aload_n 0, 1) := by decide +kernel
theorem dJ1_indexOf_4cfef_17 : decode cJ1_indexOf_4cfef 17 = .ok (.arraylength, 1) := by decide +kernel
theorem dJ1_indexOf_4cfef_18 : decode cJ1_indexOf_4cfef 18 = .ok (.invokestatic 38, 3) := by decide +kernel
theorem dJ1_indexOf_4cfef_21 : decode cJ1_indexOf_4cfef 21 = .ok (.istore_n 3, 1) := by decide +kernel
theorem dJ1_indexOf_4cfef_22 : decode cJ1_indexOf_4cfef 22 = .ok (.iload_n 2, 1) := by decide +kernel
theorem dJ1_indexOf_4cfef_23 : decode cJ1_indexOf_4cfef 23 = .ok (.iload_n 3, 1) := by decide +kernel
theorem dJ1_indexOf_4cfef_24 : decode cJ1_indexOf_4cfef 24 = .ok (.if_icmp .lt 5, 3) := by decide +kernel
theorem dJ1_indexOf_4cfef_27 : decode cJ1_indexOf_4cfef 27 = .ok (.iconst (-1), 1) := by decide +kernel
theorem dJ1_indexOf_4cfef_28 : decode cJ1_indexOf_4cfef 28 = .ok (.ireturn, 1) := by decide +kernel
theorem dJ1_indexOf_4cfef_29 : decode cJ1_indexOf_4cfef 29 = .ok (.aload_n 0, 1) := by decide +kernel
theorem dJ1_indexOf_4cfef_30 : decode cJ1_indexOf_4cfef 30 = .ok (.iload_n 1, 1) := by decide +kernel
theorem dJ1_indexOf_4cfef_31 : decode cJ1_indexOf_4cfef 31 = .ok (.iload_n 2, 1) := by decide +kernel
theorem dJ1_indexOf_4cfef_32 : decode cJ1_indexOf_4cfef 32 = .ok (.iload_n 3, 1) := by decide +kernel
theorem dJ1_indexOf_4cfef_33 : decode cJ1_indexOf_4cfef 33 = .ok (.invokestatic 95, 3) := by decide +kernel
theorem dJ1_indexOf_4cfef_36 : decode cJ1_indexOf_4cfef 36 = .ok (.ireturn, 1) := by decide +kernel
theorem dJ1_indexOfChar_4cfef_0 : decode cJ1_indexOfChar_4cfef 0 = .ok (.iload_n 1, 1) := by decide +kernel
theorem dJ1_indexOfChar_4cfef_1 : decode cJ1_indexOfChar_4cfef 1 = .ok (.i2b, 1) := by decide +kernel
theorem dJ1_indexOfChar_4cfef_2 : decode cJ1_indexOfChar_4cfef 2 = .ok (.istore 4, 2) := by decide +kernel
theorem dJ1_indexOfChar_4cfef_4 : decode cJ1_indexOfChar_4cfef 4 = .ok (.iload_n 2, 1) := by decide +kernel
theorem dJ1_indexOfChar_4cfef_5 : decode cJ1_indexOfChar_4cfef 5 = .ok (.istore 5, 2) := by decide +kernel
theorem dJ1_indexOfChar_4cfef_7 : decode cJ1_indexOfChar_4cfef 7 = .ok (.iload 5, 2) := by decide +kernel
theorem dJ1_indexOfChar_4cfef_9 : decode cJ1_indexOfChar_4cfef 9 = .ok (.iload_n 3, 1) := by decide +kernel
theorem dJ1_indexOfChar_4cfef_10 : decode cJ1_indexOfChar_4cfef 10 = .ok (.if_icmp .ge 21, 3) := by decide +kernel
theorem dJ1_indexOfChar_4cfef_13 : decode cJ1_indexOfChar_4cfef 13 = .ok (.aload_n 0, 1) := by decide +kernel
theorem dJ1_indexOfChar_4cfef_14 : decode cJ1_indexOfChar_4cfef 14 = .ok (.iload 5, 2) := by decide +kernel
theorem dJ1_indexOfChar_4cfef_16 : decode cJ1_indexOfChar_4cfef 16 = .ok (.baload, 1) := by decide +kernel
theorem dJ1_indexOfChar_4cfef_17 : decode cJ1_indexOfChar_4cfef 17 = .ok (.iload 4, 2) := by decide +kernel
theorem dJ1_indexOfChar_4cfef_19 : decode cJ1_indexOfChar_4cfef 19 = .ok (.if_icmp .ne 6, 3) := by decide +kernel
theorem dJ1_indexOfChar_4cfef_22 : decode cJ1_indexOfChar_4cfef 22 = .ok (.iload 5, 2) := by decide +kernel
theorem dJ1_indexOfChar_4cfef_24 : decode cJ1_indexOfChar_4cfef 24 = .ok (.ireturn, 1) := by decide +kernel
theorem dJ1_indexOfChar_4cfef_25 : decode cJ1_indexOfChar_4cfef 25 = .ok (.iinc 5 1, 3) := by decide +kernel
theorem dJ1_indexOfChar_4cfef_28 : decode cJ1_indexOfChar_4cfef 28 = .ok (.goto (-21), 3) := by decide +kernel
theorem dJ1_indexOfChar_4cfef_31 : decode cJ1_indexOfChar_4cfef 31 = .ok (.iconst (-1), 1) := by decide +kernel
theorem dJ1_indexOfChar_4cfef_32 : decode cJ1_indexOfChar_4cfef 32 = .ok (.ireturn, 1) := by decide +kernel
theorem dJ2_getChar_3b067_0 : decode cJ2_getChar_3b067 0 = .ok (.getstatic 44, 3) := by decide +kernel
theorem dJ2_getChar_3b067_3 : decode cJ2_getChar_3b067 3 = .ok (.ifCond .ne 25, 3) := by decide +kernel
theorem dJ2_getChar_3b067_6 : decode cJ2_getChar_3b067 6 = .ok (.iload_n 1, 1) := by decide +kernel
theorem dJ2_getChar_3b067_7 : decode cJ2_getChar_3b067 7 = .ok (.ifCond .lt 11, 3) := by decide +kernel
theorem dJ2_getChar_3b067_10 : decode cJ2_getChar_3b067 10 = .ok (.iload_n 1, 1) := by decide +kernel
theorem dJ2_getChar_3b067_11 : decode cJ2_getChar_3b067 11 = .ok (.aload_n 0, 1) := by decide +kernel
theorem dJ2_getChar_3b067_12 : decode cJ2_getChar_3b067 12 = .ok (.invokestatic 48, 3) := by decide +kernel
theorem dJ2_getChar_3b067_15 : decode cJ2_getChar_3b067 15 = .ok (.if_icmp .lt 13, 3) := by decide +kernel
theorem dJ2_getChar_3b067_18 : decode cJ2_getChar_3b067 18 = .ok (.new 52, 3) := by decide +kernel
theorem dJ2_getChar_3b067_21 : decode cJ2_getChar_3b067 21 = .ok (.dup, 1) := by decide +kernel
theorem dJ2_getChar_3b067_22 : decode cJ2_getChar_3b067 22 = .ok (.ldc 54, 2) := by decide +kernel
theorem dJ2_getChar_3b067_24 : decode cJ2_getChar_3b067 24 = .ok (.invokespecial 56, 3) := by decide +kernel
theorem dJ2_getChar_3b067_27 : decode cJ2_getChar_3b067 27 = .ok (.athrow, 1) := by decide +kernel
theorem dJ2_getChar_3b067_28 : decode cJ2_getChar_3b067 28 = .ok (.iload_n 1, 1) := by decide +kernel
theorem dJ2_getChar_3b067_29 : decode cJ2_getChar_3b067 29 = .ok (.iconst 1, 1) := by decide +kernel
theorem dJ2_getChar_3b067_30 : decode cJ2_getChar_3b067 30 = .ok (.ishl, 1) := by decide +kernel
theorem dJ2_getChar_3b067_31 : decode cJ2_getChar_3b067 31 = .ok (.istore_n 1, 1) := by decide +kernel
theorem dJ2_getChar_3b067_32 : decode cJ2_getChar_3b067 32 = .ok (.aload_n 0, 1) := by decide +kernel
theorem dJ2_getChar_3b067_33 : decode cJ2_getChar_3b067 33 = .ok (.iload_n 1, 1) := by decide +kernel
theorem dJ2_getChar_3b067_34 : decode cJ2_getChar_3b067 34 = .ok (.iinc 1 1, 3) := by decide +kernel
theorem dJ2_getChar_3b067_37 : decode cJ2_getChar_3b067 37 = .ok (.baload, 1) := by decide +kernel
theorem dJ2_getChar_3b067_38 : decode cJ2_getChar_3b067 38 = .ok (.sipush 255, 3) := by decide +kernel
theorem dJ2_getChar_3b067_41 : decode cJ2_getChar_3b067 41 = .ok (.iand, 1) := by decide +kernel
theorem dJ2_getChar_3b067_42 : decode cJ2_getChar_3b067 42 = .ok (.getstatic 59, 3) := by decide +kernel
theorem dJ2_getChar_3b067_45 : decode cJ2_getChar_3b067 45 = .ok (.ishl, 1) := by decide +kernel
theorem dJ2_getChar_3b067_46 : decode cJ2_getChar_3b067 46 = .ok (.aload_n 0, 1) := by decide +kernel
theorem dJ2_getChar_3b067_47 : decode cJ2_getChar_3b067 47 = .ok (.iload_n 1, 1) := by decide +kernel
theorem dJ2_getChar_3b067_48 : decode cJ2_getChar_3b067 48 = .ok (.baload, 1) := by decide +kernel
theorem dJ2_getChar_3b067_49 : decode cJ2_getChar_3b067 49 = .ok (.sipush 255, 3) := by decide +kernel
theorem dJ2_getChar_3b067_52 : decode cJ2_getChar_3b067 52 = .ok (.iand, 1) := by decide +kernel
theorem dJ2_getChar_3b067_53 : decode cJ2_getChar_3b067 53 = .ok (.getstatic 63, 3) := by decide +kernel
theorem dJ2_getChar_3b067_56 : decode cJ2_getChar_3b067 56 = .ok (.ishl, 1) := by decide +kernel
theorem dJ2_getChar_3b067_57 : decode cJ2_getChar_3b067 57 = .ok (.ior, 1) := by decide +kernel
theorem dJ2_getChar_3b067_58 : decode cJ2_getChar_3b067 58 = .ok (.i2c, 1) := by decide +kernel
theorem dJ2_getChar_3b067_59 : decode cJ2_getChar_3b067 59 = .ok (.ireturn, 1) := by decide +kernel
theorem dJ2_length_9d52b_0 : decode cJ2_length_9d52b 0 = .ok (.aload_n 0, 1) := by decide +kernel
theorem dJ2_length_9d52b_1 : decode cJ2_length_9d52b 1 = .ok (.arraylength, 1) := by decide +kernel
theorem dJ2_length_9d52b_2 : decode cJ2_length_9d52b 2 = .ok (.iconst 1, 1) := by decide +kernel
theorem dJ2_length_9d52b_3 : decode cJ2_length_9d52b 3 = .ok (.ishr, 1) := by decide +kernel
theorem dJ2_length_9d52b_4 : decode cJ2_length_9d52b 4 = .ok (.ireturn, 1) := by decide +kernel
theorem dJ2_indexOf_4cfef_0 : decode cJ2_indexOf_4cfef 0 = .ok (.iload_n 2, 1) := by decide +kernel
theorem dJ2_indexOf_4cfef_1 : decode cJ2_indexOf_4cfef 1 = .ok (.iconst 0, 1) := by decide +kernel
theorem dJ2_indexOf_4cfef_2 : decode cJ2_indexOf_4cfef 2 = .ok (.invokestatic 224, 3) := by decide +kernel
theorem dJ2_indexOf_4cfef_5 : decode cJ2_indexOf_4cfef 5 = .ok (.istore_n 2, 1) := by decide +kernel
theorem dJ2_indexOf_4cfef_6 : decode cJ2_indexOf_4cfef 6 = .ok (.iload_n 3, 1) := by decide +kernel
theorem dJ2_indexOf_4cfef_7 : decode cJ2_indexOf_4cfef 7 = .ok (.aload_n 0, 1) := by decide +kernel
theorem dJ2_indexOf_4cfef_8 : decode cJ2_indexOf_4cfef 8 = .ok (.arraylength, 1) := by decide +kernel
theorem dJ2_indexOf_4cfef_9 : decode cJ2_indexOf_4cfef 9 = .ok (.iconst 1, 1) := by decide +kernel
theorem dJ2_indexOf_4cfef_10 : decode cJ2_indexOf_4cfef 10 = .ok (.ishr, 1) := by decide +kernel
theorem dJ2_indexOf_4cfef_11 : decode cJ2_indexOf_4cfef 11 = .ok (.invokestatic 183, 3) := by decide +kernel
theorem dJ2_indexOf_4cfef_14 : decode cJ2_indexOf_4cfef 14 = .ok (.istore_n 3, 1) := by decide +kernel
theorem dJ2_indexOf_4cfef_15 : decode cJ2_indexOf_4cfef 15 = .ok (.iload_n 2, 1) := by decide +kernel
theorem dJ2_indexOf_4cfef_16 : decode cJ2_indexOf_4cfef 16 = .ok (.iload_n 3, 1) := by decide +kernel
theorem dJ2_indexOf_4cfef_17 : decode cJ2_indexOf_4cfef 17 = .ok (.if_icmp .lt 5, 3) := by decide +kernel
theorem dJ2_indexOf_4cfef_20 : decode cJ2_indexOf_4cfef 20 = .ok (.iconst (-1), 1) := by decide +kernel
theorem dJ2_indexOf_4cfef_21 : decode cJ2_indexOf_4cfef 21 = .ok (.ireturn, 1) := by decide +kernel
theorem dJ2_indexOf_4cfef_22 : decode cJ2_indexOf_4cfef 22 = .ok (.iload_n 1, 1) := by decide +kernel
theorem dJ2_indexOf_4cfef_23 : decode cJ2_indexOf_4cfef 23 = .ok (.ldc 227, 2) := by decide +kernel
theorem dJ2_indexOf_4cfef_25 : decode cJ2_indexOf_4cfef 25 = .ok (.if_icmp .ge 11, 3) := by decide +kernel
theorem dJ2_indexOf_4cfef_28 : decode cJ2_indexOf_4cfef 28 = .ok (.aload_n 0, 1) := by decide +kernel
theorem dJ2_indexOf_4cfef_29 : decode cJ2_indexOf_4cfef 29 = .ok (.iload_n 1, 1) := by decide +kernel
theorem dJ2_indexOf_4cfef_30 : decode cJ2_indexOf_4cfef 30 = .ok (.iload_n 2, 1) := by decide +kernel
theorem dJ2_indexOf_4cfef_31 : decode cJ2_indexOf_4cfef 31 = .ok (.iload_n 3, 1) := by decide +kernel
theorem dJ2_indexOf_4cfef_32 : decode cJ2_indexOf_4cfef 32 = .ok (.invokestatic 228, 3) := by decide +kernel
theorem dJ2_indexOf_4cfef_35 : decode cJ2_indexOf_4cfef 35 = .ok (.ireturn, 1) := by decide +kernel
theorem dJ2_indexOf_4cfef_36 : decode cJ2_indexOf_4cfef 36 = .ok (.aload_n 0, 1) := by decide +kernel
theorem dJ2_indexOf_4cfef_37 : decode cJ2_indexOf_4cfef 37 = .ok (.iload_n 1, 1) := by decide +kernel
theorem dJ2_indexOf_4cfef_38 : decode cJ2_indexOf_4cfef 38 = .ok (.iload_n 2, 1) := by decide +kernel
theorem dJ2_indexOf_4cfef_39 : decode cJ2_indexOf_4cfef 39 = .ok (.iload_n 3, 1) := by decide +kernel
theorem dJ2_indexOf_4cfef_40 : decode cJ2_indexOf_4cfef 40 = .ok (.invokestatic 232, 3) := by decide +kernel
theorem dJ2_indexOf_4cfef_43 : decode cJ2_indexOf_4cfef 43 = .ok (.ireturn, 1) := by decide +kernel
theorem dJ2_indexOfChar_4cfef_0 : decode cJ2_indexOfChar_4cfef 0 = .ok (.iload_n 2, 1) := by decide +kernel
theorem dJ2_indexOfChar_4cfef_1 : decode cJ2_indexOfChar_4cfef 1 = .ok (.iload_n 3, 1) := by decide +kernel
theorem dJ2_indexOfChar_4cfef_2 : decode cJ2_indexOfChar_4cfef 2 = .ok (.aload_n 0, 1) := by decide +kernel
theorem dJ2_indexOfChar_4cfef_3 : decode cJ2_indexOfChar_4cfef 3 = .ok (.invokestatic 96, 3) := by decide +kernel
theorem dJ2_indexOfChar_4cfef_6 : decode cJ2_indexOfChar_4cfef 6 = .ok (.aload_n 0, 1) := by decide +kernel
theorem dJ2_indexOfChar_4cfef_7 : decode cJ2_indexOfChar_4cfef 7 = .ok (.iload_n 1, 1) := by decide +kernel
theorem dJ2_indexOfChar_4cfef_8 : decode cJ2_indexOfChar_4cfef 8 = .ok (.iload_n 2, 1) := by decide +kernel
theorem dJ2_indexOfChar_4cfef_9 : decode cJ2_indexOfChar_4cfef 9 = .ok (.iload_n 3, 1) := by decide +kernel
theorem dJ2_indexOfChar_4cfef_10 : decode cJ2_indexOfChar_4cfef 10 = .ok (.invokestatic 244, 3) := by decide +kernel
theorem dJ2_indexOfChar_4cfef_13 : decode cJ2_indexOfChar_4cfef 13 = .ok (.ireturn, 1) := by decide +kernel
theorem dJ2_indexOfCharUnsafe_4cfef_0 : decode cJ2_indexOfCharUnsafe_4cfef 0 = .ok (.iload_n 2, 1) := by decide +kernel
theorem dJ2_indexOfCharUnsafe_4cfef_1 : decode cJ2_indexOfCharUnsafe_4cfef 1 = .ok (.istore 4, 2) := by decide +kernel
theorem dJ2_indexOfCharUnsafe_4cfef_3 : decode cJ2_indexOfCharUnsafe_4cfef 3 = .ok (.iload 4, 2) := by decide +kernel
theorem dJ2_indexOfCharUnsafe_4cfef_5 : decode cJ2_indexOfCharUnsafe_4cfef 5 = .ok (.iload_n 3, 1) := by decide +kernel
theorem dJ2_indexOfCharUnsafe_4cfef_6 : decode cJ2_indexOfCharUnsafe_4cfef 6 = .ok (.if_icmp .ge 22, 3) := by decide +kernel
theorem dJ2_indexOfCharUnsafe_4cfef_9 : decode cJ2_indexOfCharUnsafe_4cfef 9 = .ok (.aload_n 0, 1) := by decide +kernel
theorem dJ2_indexOfCharUnsafe_4cfef_10 : decode cJ2_indexOfCharUnsafe_4cfef 10 = .ok (.iload 4, 2) := by decide +kernel
theorem dJ2_indexOfCharUnsafe_4cfef_12 : decode cJ2_indexOfCharUnsafe_4cfef 12 = .ok (.invokestatic 71, 3) := by decide +kernel
theorem dJ2_indexOfCharUnsafe_4cfef_15 : decode cJ2_indexOfCharUnsafe_4cfef 15 = .ok (.iload_n 1, 1) := by decide +kernel
theorem dJ2_indexOfCharUnsafe_4cfef_16 : decode cJ2_indexOfCharUnsafe_4cfef 16 = .ok (.if_icmp .ne 6, 3) := by decide +kernel
theorem dJ2_indexOfCharUnsafe_4cfef_19 : decode cJ2_indexOfCharUnsafe_4cfef 19 = .ok (.iload 4, 2) := by decide +kernel
theorem dJ2_indexOfCharUnsafe_4cfef_21 : decode cJ2_indexOfCharUnsafe_4cfef 21 = .ok (.ireturn, 1) := by decide +kernel
theorem dJ2_indexOfCharUnsafe_4cfef_22 : decode cJ2_indexOfCharUnsafe_4cfef 22 = .ok (.iinc 4 1, 3) := by decide +kernel
theorem dJ2_indexOfCharUnsafe_4cfef_25 : decode cJ2_indexOfCharUnsafe_4cfef 25 = .ok (.goto (-22), 3) := by decide +kernel
theorem dJ2_indexOfCharUnsafe_4cfef_28 : decode cJ2_indexOfCharUnsafe_4cfef 28 = .ok (.iconst (-1), 1) := by decide +kernel
theorem dJ2_indexOfCharUnsafe_4cfef_29 : decode cJ2_indexOfCharUnsafe_4cfef 29 = .ok (.ireturn, 1) := by decide +kernel
theorem dJ2_indexOfSupplementary_4cfef_0 : decode cJ2_indexOfSupplementary_4cfef 0 = .ok (.iload_n 1, 1) := by decide +kernel
theorem dJ2_indexOfSupplementary_4cfef_1 : decode cJ2_indexOfSupplementary_4cfef 1 = .ok (.invokestatic 164, 3) := by decide +kernel
theorem dJ2_indexOfSupplementary_4cfef_4 : decode cJ2_indexOfSupplementary_4cfef 4 = .ok (.ifCond .eq 65, 3) := by decide +kernel
theorem dJ2_indexOfSupplementary_4cfef_7 : decode cJ2_indexOfSupplementary_4cfef 7 = .ok (.iload_n 1, 1) := by decide +kernel
theorem dJ2_indexOfSupplementary_4cfef_8 : decode cJ2_indexOfSupplementary_4cfef 8 = .ok (.invokestatic 157, 3) := by decide +kernel
theorem dJ2_indexOfSupplementary_4cfef_11 : decode cJ2_indexOfSupplementary_4cfef 11 = .ok (.istore 4, 2) := by decide +kernel
theorem dJ2_indexOfSupplementary_4cfef_13 : decode cJ2_indexOfSupplementary_4cfef 13 = .ok (.iload_n 1, 1) := by decide +kernel
theorem dJ2_indexOfSupplementary_4cfef_14 : decode cJ2_indexOfSupplementary_4cfef 14 = .ok (.invokestatic 161, 3) := by decide +kernel
theorem dJ2_indexOfSupplementary_4cfef_17 : decode cJ2_indexOfSupplementary_4cfef 17 = .ok (.istore 5, 2) := by decide +kernel
theorem dJ2_indexOfSupplementary_4cfef_19 : decode cJ2_indexOfSupplementary_4cfef 19 = .ok (.iload_n 2, 1) := by decide +kernel
theorem dJ2_indexOfSupplementary_4cfef_20 : decode cJ2_indexOfSupplementary_4cfef 20 = .ok (.iload_n 3, 1) := by decide +kernel
theorem dJ2_indexOfSupplementary_4cfef_21 : decode cJ2_indexOfSupplementary_4cfef 21 = .ok (.aload_n 0, 1) := by decide +kernel
theorem dJ2_indexOfSupplementary_4cfef_22 : decode cJ2_indexOfSupplementary_4cfef 22 = .ok (.invokestatic 96, 3) := by decide +kernel
theorem dJ2_indexOfSupplementary_4cfef_25 : decode cJ2_indexOfSupplementary_4cfef 25 = .ok (.iload_n 2, 1) := by decide +kernel
theorem dJ2_indexOfSupplementary_4cfef_26 : decode cJ2_indexOfSupplementary_4cfef 26 = .ok (.istore 6, 2) := by decide +kernel
theorem dJ2_indexOfSupplementary_4cfef_28 : decode cJ2_indexOfSupplementary_4cfef 28 = .ok (.iload 6, 2) := by decide +kernel
theorem dJ2_indexOfSupplementary_4cfef_30 : decode cJ2_indexOfSupplementary_4cfef 30 = .ok (.iload_n 3, 1) := by decide +kernel
theorem dJ2_indexOfSupplementary_4cfef_31 : decode cJ2_indexOfSupplementary_4cfef 31 = .ok (.iconst 1, 1) := by decide +kernel
theorem dJ2_indexOfSupplementary_4cfef_32 : decode cJ2_indexOfSupplementary_4cfef 32 = .ok (.isub, 1) := by decide +kernel
theorem dJ2_indexOfSupplementary_4cfef_33 : decode cJ2_indexOfSupplementary_4cfef 33 = .ok (.if_icmp .ge 36, 3) := by decide +kernel
theorem dJ2_indexOfSupplementary_4cfef_36 : decode cJ2_indexOfSupplementary_4cfef 36 = .ok (.aload_n 0, 1) := by decide +kernel
theorem dJ2_indexOfSupplementary_4cfef_37 : decode cJ2_indexOfSupplementary_4cfef 37 = .ok (.iload 6, 2) := by decide +kernel
theorem dJ2_indexOfSupplementary_4cfef_39 : decode cJ2_indexOfSupplementary_4cfef 39 = .ok (.invokestatic 71, 3) := by decide +kernel
theorem dJ2_indexOfSupplementary_4cfef_42 : decode cJ2_indexOfSupplementary_4cfef 42 = .ok (.iload 4, 2) := by decide +kernel
theorem dJ2_indexOfSupplementary_4cfef_44 : decode cJ2_indexOfSupplementary_4cfef 44 = .ok (.if_icmp .ne 19, 3) := by decide +kernel
theorem dJ2_indexOfSupplementary_4cfef_47 : decode cJ2_indexOfSupplementary_4cfef 47 = .ok (.aload_n 0, 1) := by decide +kernel
theorem dJ2_indexOfSupplementary_4cfef_48 : decode cJ2_indexOfSupplementary_4cfef 48 = .ok (.iload 6, 2) := by decide +kernel
theorem dJ2_indexOfSupplementary_4cfef_50 : decode cJ2_indexOfSupplementary_4cfef 50 = .ok (.iconst 1, 1) := by decide +kernel
theorem dJ2_indexOfSupplementary_4cfef_51 : decode cJ2_indexOfSupplementary_4cfef 51 = .ok (.iadd, 1) := by decide +kernel
theorem dJ2_indexOfSupplementary_4cfef_52 : decode cJ2_indexOfSupplementary_4cfef 52 = .ok (.invokestatic 71, 3) := by decide +kernel
theorem dJ2_indexOfSupplementary_4cfef_55 : decode cJ2_indexOfSupplementary_4cfef 55 = .ok (.iload 5, 2) := by decide +kernel
theorem dJ2_indexOfSupplementary_4cfef_57 : decode cJ2_indexOfSupplementary_4cfef 57 = .ok (.if_icmp .ne 6, 3) := by decide +kernel
theorem dJ2_indexOfSupplementary_4cfef_60 : decode cJ2_indexOfSupplementary_4cfef 60 = .ok (.iload 6, 2) := by decide +kernel
theorem dJ2_indexOfSupplementary_4cfef_62 : decode cJ2_indexOfSupplementary_4cfef 62 = .ok (.ireturn, 1) := by decide +kernel
theorem dJ2_indexOfSupplementary_4cfef_63 : decode cJ2_indexOfSupplementary_4cfef 63 = .ok (.iinc 6 1, 3) := by decide +kernel
theorem dJ2_indexOfSupplementary_4cfef_66 : decode cJ2_indexOfSupplementary_4cfef 66 = .ok (.goto (-38), 3) := by decide +kernel
theorem dJ2_indexOfSupplementary_4cfef_69 : decode cJ2_indexOfSupplementary_4cfef 69 = .ok (.iconst (-1), 1) := by decide +kernel
theorem dJ2_indexOfSupplementary_4cfef_70 : decode cJ2_indexOfSupplementary_4cfef 70 = .ok (.ireturn, 1) := by decide +kernel
theorem dJ2_charAt_3b067_0 : decode cJ2_charAt_3b067 0 = .ok (.iload_n 1, 1) := by decide +kernel
theorem dJ2_charAt_3b067_1 : decode cJ2_charAt_3b067 1 = .ok (.aload_n 0, 1) := by decide +kernel
theorem dJ2_charAt_3b067_2 : decode cJ2_charAt_3b067 2 = .ok (.invokestatic 67, 3) := by decide +kernel
theorem dJ2_charAt_3b067_5 : decode cJ2_charAt_3b067 5 = .ok (.aload_n 0, 1) := by decide +kernel
theorem dJ2_charAt_3b067_6 : decode cJ2_charAt_3b067 6 = .ok (.iload_n 1, 1) := by decide +kernel
theorem dJ2_charAt_3b067_7 : decode cJ2_charAt_3b067 7 = .ok (.invokestatic 71, 3) := by decide +kernel
theorem dJ2_charAt_3b067_10 : decode cJ2_charAt_3b067 10 = .ok (.ireturn, 1) := by decide +kernel
theorem dJ2_checkIndex_2214a_0 : decode cJ2_checkIndex_2214a 0 = .ok (.iload_n 0, 1) := by decide +kernel
theorem dJ2_checkIndex_2214a_1 : decode cJ2_checkIndex_2214a 1 = .ok (.aload_n 1, 1) := by decide +kernel
theorem dJ2_checkIndex_2214a_2 : decode cJ2_checkIndex_2214a 2 = .ok (.invokestatic 48, 3) := by decide +kernel
theorem dJ2_checkIndex_2214a_5 : decode cJ2_checkIndex_2214a 5 = .ok (.invokestatic 414, 3) := by decide +kernel
theorem dJ2_checkIndex_2214a_8 : decode cJ2_checkIndex_2214a 8 = .ok (.return_, 1) := by decide +kernel
theorem dJ2_checkBoundsBeginEnd_d044e_0 : decode cJ2_checkBoundsBeginEnd_d044e 0 = .ok (.iload_n 0, 1) := by decide +kernel
theorem dJ2_checkBoundsBeginEnd_d044e_1 : decode cJ2_checkBoundsBeginEnd_d044e 1 = .ok (.iload_n 1, 1) := by decide +kernel
theorem dJ2_checkBoundsBeginEnd_d044e_2 : decode cJ2_checkBoundsBeginEnd_d044e 2 = .ok (.aload_n 2, 1) := by decide +kernel
theorem dJ2_checkBoundsBeginEnd_d044e_3 : decode cJ2_checkBoundsBeginEnd_d044e 3 = .ok (.invokestatic 48, 3) := by decide +kernel
theorem dJ2_checkBoundsBeginEnd_d044e_6 : decode cJ2_checkBoundsBeginEnd_d044e 6 = .ok (.invokestatic 241, 3) := by decide +kernel
theorem dJ2_checkBoundsBeginEnd_d044e_9 : decode cJ2_checkBoundsBeginEnd_d044e 9 = .ok (.return_, 1) := by decide +kernel
theorem dJ7_fill_53178_0 : decode cJ7_fill_53178 0 = .ok (.iconst 0, 1) := by decide +kernel
theorem dJ7_fill_53178_1 : decode cJ7_fill_53178 1 = .ok (.istore_n 2, 1) := by decide +kernel
theorem dJ7_fill_53178_2 : decode cJ7_fill_53178 2 = .ok (.aload_n 0, 1) := by decide +kernel
theorem dJ7_fill_53178_3 : decode cJ7_fill_53178 3 = .ok (.arraylength, 1) := by decide +kernel
theorem dJ7_fill_53178_4 : decode cJ7_fill_53178 4 = .ok (.istore_n 3, 1) := by decide +kernel
theorem dJ7_fill_53178_5 : decode cJ7_fill_53178 5 = .ok (.iload_n 2, 1) := by decide +kernel
theorem dJ7_fill_53178_6 : decode cJ7_fill_53178 6 = .ok (.iload_n 3, 1) := by decide +kernel
theorem dJ7_fill_53178_7 : decode cJ7_fill_53178 7 = .ok (.if_icmp .ge 13, 3) := by decide +kernel
theorem dJ7_fill_53178_10 : decode cJ7_fill_53178 10 = .ok (.aload_n 0, 1) := by decide +kernel
theorem dJ7_fill_53178_11 : decode cJ7_fill_53178 11 = .ok (.iload_n 2, 1) := by decide +kernel
theorem dJ7_fill_53178_12 : decode cJ7_fill_53178 12 = .ok (.iload_n 1, 1) := by decide +kernel
theorem dJ7_fill_53178_13 : decode cJ7_fill_53178 13 = .ok (.iastore, 1) := by decide +kernel
theorem dJ7_fill_53178_14 : decode cJ7_fill_53178 14 = .ok (.iinc 2 1, 3) := by decide +kernel
theorem dJ7_fill_53178_17 : decode cJ7_fill_53178 17 = .ok (.goto (-12), 3) := by decide +kernel
theorem dJ7_fill_53178_20 : decode cJ7_fill_53178 20 = .ok (.return_, 1) := by decide +kernel
theorem dJ3_checkIndex_8e157_0 : decode cJ3_checkIndex_8e157 0 = .ok (.iload_n 0, 1) := by decide +kernel
theorem dJ3_checkIndex_8e157_1 : decode cJ3_checkIndex_8e157 1 = .ok (.ifCond .lt 8, 3) := by decide +kernel
theorem dJ3_checkIndex_8e157_4 : decode cJ3_checkIndex_8e157 4 = .ok (.iload_n 0, 1) := by decide +kernel
theorem dJ3_checkIndex_8e157_5 : decode cJ3_checkIndex_8e157 5 = .ok (.iload_n 1, 1) := by decide +kernel
theorem dJ3_checkIndex_8e157_6 : decode cJ3_checkIndex_8e157 6 = .ok (.if_icmp .lt 10, 3) := by decide +kernel
theorem dJ3_checkIndex_8e157_9 : decode cJ3_checkIndex_8e157 9 = .ok (.aload_n 2, 1) := by decide +kernel
theorem dJ3_checkIndex_8e157_10 : decode cJ3_checkIndex_8e157 10 = .ok (.iload_n 0, 1) := by decide +kernel
theorem dJ3_checkIndex_8e157_11 : decode cJ3_checkIndex_8e157 11 = .ok (.iload_n 1, 1) := by decide +kernel
theorem dJ3_checkIndex_8e157_12 : decode cJ3_checkIndex_8e157 12 = .ok (.invokestatic 95, 3) := by decide +kernel
theorem dJ3_checkIndex_8e157_15 : decode cJ3_checkIndex_8e157 15 = .ok (.athrow, 1) := by decide +kernel
theorem dJ3_checkIndex_8e157_16 : decode cJ3_checkIndex_8e157 16 = .ok (.iload_n 0, 1) := by decide +kernel
theorem dJ3_checkIndex_8e157_17 : decode cJ3_checkIndex_8e157 17 = .ok (.ireturn, 1) := by decide +kernel
theorem dJ3_checkFromToIndex_8c36e_0 : decode cJ3_checkFromToIndex_8c36e 0 = .ok (.iload_n 0, 1) := by decide +kernel
theorem dJ3_checkFromToIndex_8c36e_1 : decode cJ3_checkFromToIndex_8c36e 1 = .ok (.ifCond .lt 13, 3) := by decide +kernel
theorem dJ3_checkFromToIndex_8c36e_4 : decode cJ3_checkFromToIndex_8c36e 4 = .ok (.iload_n 0, 1) := by decide +kernel
theorem dJ3_checkFromToIndex_8c36e_5 : decode cJ3_checkFromToIndex_8c36e 5 = .ok (.iload_n 1, 1) := by decide +kernel
theorem dJ3_checkFromToIndex_8c36e_6 : decode cJ3_checkFromToIndex_8c36e 6 = .ok (.if_icmp .gt 8, 3) := by decide +kernel
theorem dJ3_checkFromToIndex_8c36e_9 : decode cJ3_checkFromToIndex_8c36e 9 = .ok (.iload_n 1, 1) := by decide +kernel
theorem dJ3_checkFromToIndex_8c36e_10 : decode cJ3_checkFromToIndex_8c36e 10 = .ok (.iload_n 2, 1) := by decide +kernel
theorem dJ3_checkFromToIndex_8c36e_11 : decode cJ3_checkFromToIndex_8c36e 11 = .ok (.if_icmp .le 11, 3) := by decide +kernel
theorem dJ3_checkFromToIndex_8c36e_14 : decode cJ3_checkFromToIndex_8c36e 14 = .ok (.aload_n 3, 1) := by decide +kernel
theorem dJ3_checkFromToIndex_8c36e_15 : decode cJ3_checkFromToIndex_8c36e 15 = .ok (.iload_n 0, 1) := by decide +kernel
theorem dJ3_checkFromToIndex_8c36e_16 : decode cJ3_checkFromToIndex_8c36e 16 = .ok (.iload_n 1, 1) := by decide +kernel
theorem dJ3_checkFromToIndex_8c36e_17 : decode cJ3_checkFromToIndex_8c36e 17 = .ok (.iload_n 2, 1) := by decide +kernel
theorem dJ3_checkFromToIndex_8c36e_18 : decode cJ3_checkFromToIndex_8c36e 18 = .ok (.invokestatic 99, 3) := by decide +kernel
theorem dJ3_checkFromToIndex_8c36e_21 : decode cJ3_checkFromToIndex_8c36e 21 = .ok (.athrow, 1) := by decide +kernel
theorem dJ3_checkFromToIndex_8c36e_22 : decode cJ3_checkFromToIndex_8c36e 22 = .ok (.iload_n 0, 1) := by decide +kernel
theorem dJ3_checkFromToIndex_8c36e_23 : decode cJ3_checkFromToIndex_8c36e 23 = .ok (.ireturn, 1) := by decide +kernel
theorem dL_start_0 : decode cL_start 0 = .ok (.aload_n 3, 1) := by decide +kernel
theorem dL_start_1 : decode cL_start 1 = .ok (.iconst 0, 1) := by decide +kernel
theorem dL_start_2 : decode cL_start 2 = .ok (.aload_n 0, 1) := by decide +kernel
theorem dL_start_3 : decode cL_start 3 = .ok (.iload_n 1, 1) := by decide +kernel
theorem dL_start_4 : decode cL_start 4 = .ok (.iload_n 2, 1) := by decide +kernel
theorem dL_start_5 : decode cL_start 5 = .ok (.invokevirtual 7, 3) := by decide +kernel
theorem dL_start_8 : decode cL_start 8 = .ok (.i2l, 1) := by decide +kernel
theorem dL_start_9 : decode cL_start 9 = .ok (.lastore, 1) := by decide +kernel
theorem dL_start_10 : decode cL_start 10 = .ok (.goto 11, 3) := by decide +kernel
theorem dL_start_13 : decode cL_start 13 = .ok (.astore 4, 2) := by decide +kernel
theorem dL_start_15 : decode cL_start 15 = .ok (.iconst 1, 1) := by decide +kernel
theorem dL_start_16 : decode cL_start 16 = .ok (.ireturn, 1) := by decide +kernel
theorem dL_start_17 : decode cL_start 17 = .ok (.astore 4, 2) := by decide +kernel
theorem dL_start_19 : decode cL_start 19 = .ok (.iconst 2, 1) := by decide +kernel
theorem dL_start_20 : decode cL_start 20 = .ok (.ireturn, 1) := by decide +kernel
theorem dL_start_21 : decode cL_start 21 = .ok (.iconst 0, 1) := by decide +kernel
theorem dL_start_22 : decode cL_start 22 = .ok (.ireturn, 1) := by decide +kernel
theorem dL_step_0 : decode cL_step 0 = .ok (.aload_n 3, 1) := by decide +kernel
theorem dL_step_1 : decode cL_step 1 = .ok (.iconst 0, 1) := by decide +kernel
theorem dL_step_2 : decode cL_step 2 = .ok (.aload_n 0, 1) := by decide +kernel
theorem dL_step_3 : decode cL_step 3 = .ok (.iload_n 1, 1) := by decide +kernel
theorem dL_step_4 : decode cL_step 4 = .ok (.iload_n 2, 1) := by decide +kernel
theorem dL_step_5 : decode cL_step 5 = .ok (.invokevirtual 17, 3) := by decide +kernel
theorem dL_step_8 : decode cL_step 8 = .ok (.i2l, 1) := by decide +kernel
theorem dL_step_9 : decode cL_step 9 = .ok (.lastore, 1) := by decide +kernel
theorem dL_step_10 : decode cL_step 10 = .ok (.goto 11, 3) := by decide +kernel
theorem dL_step_13 : decode cL_step 13 = .ok (.astore 4, 2) := by decide +kernel
theorem dL_step_15 : decode cL_step 15 = .ok (.iconst 1, 1) := by decide +kernel
theorem dL_step_16 : decode cL_step 16 = .ok (.ireturn, 1) := by decide +kernel
theorem dL_step_17 : decode cL_step 17 = .ok (.astore 4, 2) := by decide +kernel
theorem dL_step_19 : decode cL_step 19 = .ok (.iconst 2, 1) := by decide +kernel
theorem dL_step_20 : decode cL_step 20 = .ok (.ireturn, 1) := by decide +kernel
theorem dL_step_21 : decode cL_step 21 = .ok (.iconst 0, 1) := by decide +kernel
theorem dL_step_22 : decode cL_step 22 = .ok (.ireturn, 1) := by decide +kernel
theorem dL_back_0 : decode cL_back 0 = .ok (.aload_n 2, 1) := by decide +kernel
theorem dL_back_1 : decode cL_back 1 = .ok (.iconst 0, 1) := by decide +kernel
theorem dL_back_2 : decode cL_back 2 = .ok (.aload_n 0, 1) := by decide +kernel
theorem dL_back_3 : decode cL_back 3 = .ok (.iload_n 1, 1) := by decide +kernel
theorem dL_back_4 : decode cL_back 4 = .ok (.invokevirtual 22, 3) := by decide +kernel
theorem dL_back_7 : decode cL_back 7 = .ok (.i2l, 1) := by decide +kernel
theorem dL_back_8 : decode cL_back 8 = .ok (.lastore, 1) := by decide +kernel
theorem dL_back_9 : decode cL_back 9 = .ok (.goto 9, 3) := by decide +kernel
theorem dL_back_12 : decode cL_back 12 = .ok (.astore_n 3, 1) := by decide +kernel
theorem dL_back_13 : decode cL_back 13 = .ok (.iconst 1, 1) := by decide +kernel
theorem dL_back_14 : decode cL_back 14 = .ok (.ireturn, 1) := by decide +kernel
theorem dL_back_15 : decode cL_back 15 = .ok (.astore_n 3, 1) := by decide +kernel
theorem dL_back_16 : decode cL_back 16 = .ok (.iconst 2, 1) := by decide +kernel
theorem dL_back_17 : decode cL_back 17 = .ok (.ireturn, 1) := by decide +kernel
theorem dL_back_18 : decode cL_back 18 = .ok (.iconst 0, 1) := by decide +kernel
theorem dL_back_19 : decode cL_back 19 = .ok (.ireturn, 1) := by decide +kernel
theorem dL_slither_0 : decode cL_slither 0 = .ok (.aload_n 3, 1) := by decide +kernel
theorem dL_slither_1 : decode cL_slither 1 = .ok (.iconst 0, 1) := by decide +kernel
theorem dL_slither_2 : decode cL_slither 2 = .ok (.aload_n 0, 1) := by decide +kernel
theorem dL_slither_3 : decode cL_slither 3 = .ok (.iload_n 1, 1) := by decide +kernel
theorem dL_slither_4 : decode cL_slither 4 = .ok (.iload_n 2, 1) := by decide +kernel
theorem dL_slither_5 : decode cL_slither 5 = .ok (.invokevirtual 26, 3) := by decide +kernel
theorem dL_slither_8 : decode cL_slither 8 = .ok (.i2l, 1) := by decide +kernel
theorem dL_slither_9 : decode cL_slither 9 = .ok (.lastore, 1) := by decide +kernel
theorem dL_slither_10 : decode cL_slither 10 = .ok (.goto 11, 3) := by decide +kernel
theorem dL_slither_13 : decode cL_slither 13 = .ok (.astore 4, 2) := by decide +kernel
theorem dL_slither_15 : decode cL_slither 15 = .ok (.iconst 1, 1) := by decide +kernel
theorem dL_slither_16 : decode cL_slither 16 = .ok (.ireturn, 1) := by decide +kernel
theorem dL_slither_17 : decode cL_slither 17 = .ok (.astore 4, 2) := by decide +kernel
theorem dL_slither_19 : decode cL_slither 19 = .ok (.iconst 2, 1) := by decide +kernel
theorem dL_slither_20 : decode cL_slither 20 = .ok (.ireturn, 1) := by decide +kernel
theorem dL_slither_21 : decode cL_slither 21 = .ok (.iconst 0, 1) := by decide +kernel
theorem dL_slither_22 : decode cL_slither 22 = .ok (.ireturn, 1) := by decide +kernel
theorem dL_turn_0 : decode cL_turn 0 = .ok (.aload 4, 2) := by decide +kernel
theorem dL_turn_2 : decode cL_turn 2 = .ok (.iconst 0, 1) := by decide +kernel
theorem dL_turn_3 : decode cL_turn 3 = .ok (.aload_n 0, 1) := by decide +kernel
theorem dL_turn_4 : decode cL_turn 4 = .ok (.iload_n 1, 1) := by decide +kernel
theorem dL_turn_5 : decode cL_turn 5 = .ok (.iload_n 2, 1) := by decide +kernel
theorem dL_turn_6 : decode cL_turn 6 = .ok (.iload_n 3, 1) := by decide +kernel
theorem dL_turn_7 : decode cL_turn 7 = .ok (.invokevirtual 29, 3) := by decide +kernel
theorem dL_turn_10 : decode cL_turn 10 = .ok (.i2l, 1) := by decide +kernel
theorem dL_turn_11 : decode cL_turn 11 = .ok (.lastore, 1) := by decide +kernel
theorem dL_turn_12 : decode cL_turn 12 = .ok (.goto 11, 3) := by decide +kernel
theorem dL_turn_15 : decode cL_turn 15 = .ok (.astore 5, 2) := by decide +kernel
theorem dL_turn_17 : decode cL_turn 17 = .ok (.iconst 1, 1) := by decide +kernel
theorem dL_turn_18 : decode cL_turn 18 = .ok (.ireturn, 1) := by decide +kernel
theorem dL_turn_19 : decode cL_turn 19 = .ok (.astore 5, 2) := by decide +kernel
theorem dL_turn_21 : decode cL_turn 21 = .ok (.iconst 2, 1) := by decide +kernel
theorem dL_turn_22 : decode cL_turn 22 = .ok (.ireturn, 1) := by decide +kernel
theorem dL_turn_23 : decode cL_turn 23 = .ok (.iconst 0, 1) := by decide +kernel
theorem dL_turn_24 : decode cL_turn 24 = .ok (.ireturn, 1) := by decide +kernel
theorem dL_reverse_0 : decode cL_reverse 0 = .ok (.aload_n 2, 1) := by decide +kernel
theorem dL_reverse_1 : decode cL_reverse 1 = .ok (.iconst 0, 1) := by decide +kernel
theorem dL_reverse_2 : decode cL_reverse 2 = .ok (.aload_n 0, 1) := by decide +kernel
theorem dL_reverse_3 : decode cL_reverse 3 = .ok (.iload_n 1, 1) := by decide +kernel
theorem dL_reverse_4 : decode cL_reverse 4 = .ok (.invokevirtual 33, 3) := by decide +kernel
theorem dL_reverse_7 : decode cL_reverse 7 = .ok (.i2l, 1) := by decide +kernel
theorem dL_reverse_8 : decode cL_reverse 8 = .ok (.lastore, 1) := by decide +kernel
theorem dL_reverse_9 : decode cL_reverse 9 = .ok (.goto 6, 3) := by decide +kernel
theorem dL_reverse_12 : decode cL_reverse 12 = .ok (.astore_n 3, 1) := by decide +kernel
theorem dL_reverse_13 : decode cL_reverse 13 = .ok (.iconst 1, 1) := by decide +kernel
theorem dL_reverse_14 : decode cL_reverse 14 = .ok (.ireturn, 1) := by decide +kernel
theorem dL_reverse_15 : decode cL_reverse 15 = .ok (.iconst 0, 1) := by decide +kernel
theorem dL_reverse_16 : decode cL_reverse 16 = .ok (.ireturn, 1) := by decide +kernel
theorem dL_join_0 : decode cL_join 0 = .ok (.aload_n 3, 1) := by decide +kernel
theorem dL_join_1 : decode cL_join 1 = .ok (.iconst 0, 1) := by decide +kernel
theorem dL_join_2 : decode cL_join 2 = .ok (.aload_n 0, 1) := by decide +kernel
theorem dL_join_3 : decode cL_join 3 = .ok (.iload_n 1, 1) := by decide +kernel
theorem dL_join_4 : decode cL_join 4 = .ok (.iload_n 2, 1) := by decide +kernel
theorem dL_join_5 : decode cL_join 5 = .ok (.invokevirtual 36, 3) := by decide +kernel
theorem dL_join_8 : decode cL_join 8 = .ok (.i2l, 1) := by decide +kernel
theorem dL_join_9 : decode cL_join 9 = .ok (.lastore, 1) := by decide +kernel
theorem dL_join_10 : decode cL_join 10 = .ok (.goto 15, 3) := by decide +kernel
theorem dL_join_13 : decode cL_join 13 = .ok (.astore 4, 2) := by decide +kernel
theorem dL_join_15 : decode cL_join 15 = .ok (.iconst 1, 1) := by decide +kernel
theorem dL_join_16 : decode cL_join 16 = .ok (.ireturn, 1) := by decide +kernel
theorem dL_join_17 : decode cL_join 17 = .ok (.astore 4, 2) := by decide +kernel
theorem dL_join_19 : decode cL_join 19 = .ok (.iconst 2, 1) := by decide +kernel
theorem dL_join_20 : decode cL_join 20 = .ok (.ireturn, 1) := by decide +kernel
theorem dL_join_21 : decode cL_join 21 = .ok (.astore 4, 2) := by decide +kernel
theorem dL_join_23 : decode cL_join 23 = .ok (.iconst 3, 1) := by decide +kernel
theorem dL_join_24 : decode cL_join 24 = .ok (.ireturn, 1) := by decide +kernel
theorem dL_join_25 : decode cL_join 25 = .ok (.iconst 0, 1) := by decide +kernel
theorem dL_join_26 : decode cL_join 26 = .ok (.ireturn, 1) := by decide +kernel
theorem dL_split_0 : decode cL_split 0 = .ok (.aload_n 3, 1) := by decide +kernel
theorem dL_split_1 : decode cL_split 1 = .ok (.iconst 0, 1) := by decide +kernel
theorem dL_split_2 : decode cL_split 2 = .ok (.aload_n 0, 1) := by decide +kernel
theorem dL_split_3 : decode cL_split 3 = .ok (.iload_n 1, 1) := by decide +kernel
theorem dL_split_4 : decode cL_split 4 = .ok (.iload_n 2, 1) := by decide +kernel
theorem dL_split_5 : decode cL_split 5 = .ok (.invokevirtual 39, 3) := by decide +kernel
theorem dL_split_8 : decode cL_split 8 = .ok (.i2l, 1) := by decide +kernel
theorem dL_split_9 : decode cL_split 9 = .ok (.lastore, 1) := by decide +kernel
theorem dL_split_10 : decode cL_split 10 = .ok (.goto 11, 3) := by decide +kernel
theorem dL_split_13 : decode cL_split 13 = .ok (.astore 4, 2) := by decide +kernel
theorem dL_split_15 : decode cL_split 15 = .ok (.iconst 1, 1) := by decide +kernel
theorem dL_split_16 : decode cL_split 16 = .ok (.ireturn, 1) := by decide +kernel
theorem dL_split_17 : decode cL_split 17 = .ok (.astore 4, 2) := by decide +kernel
theorem dL_split_19 : decode cL_split 19 = .ok (.iconst 2, 1) := by decide +kernel
theorem dL_split_20 : decode cL_split 20 = .ok (.ireturn, 1) := by decide +kernel
theorem dL_split_21 : decode cL_split 21 = .ok (.iconst 0, 1) := by decide +kernel
theorem dL_split_22 : decode cL_split 22 = .ok (.ireturn, 1) := by decide +kernel
theorem dL_remove_0 : decode cL_remove 0 = .ok (.aload_n 2, 1) := by decide +kernel
theorem dL_remove_1 : decode cL_remove 1 = .ok (.iconst 0, 1) := by decide +kernel
theorem dL_remove_2 : decode cL_remove 2 = .ok (.aload_n 0, 1) := by decide +kernel
theorem dL_remove_3 : decode cL_remove 3 = .ok (.iload_n 1, 1) := by decide +kernel
theorem dL_remove_4 : decode cL_remove 4 = .ok (.invokevirtual 42, 3) := by decide +kernel
theorem dL_remove_7 : decode cL_remove 7 = .ok (.i2l, 1) := by decide +kernel
theorem dL_remove_8 : decode cL_remove 8 = .ok (.lastore, 1) := by decide +kernel
theorem dL_remove_9 : decode cL_remove 9 = .ok (.goto 6, 3) := by decide +kernel
theorem dL_remove_12 : decode cL_remove 12 = .ok (.astore_n 3, 1) := by decide +kernel
theorem dL_remove_13 : decode cL_remove 13 = .ok (.iconst 1, 1) := by decide +kernel
theorem dL_remove_14 : decode cL_remove 14 = .ok (.ireturn, 1) := by decide +kernel
theorem dL_remove_15 : decode cL_remove 15 = .ok (.iconst 0, 1) := by decide +kernel
theorem dL_remove_16 : decode cL_remove 16 = .ok (.ireturn, 1) := by decide +kernel
theorem dL_append_0 : decode cL_append 0 = .ok (.aload_n 2, 1) := by decide +kernel
theorem dL_append_1 : decode cL_append 1 = .ok (.iconst 0, 1) := by decide +kernel
theorem dL_append_2 : decode cL_append 2 = .ok (.aload_n 0, 1) := by decide +kernel
theorem dL_append_3 : decode cL_append 3 = .ok (.iload_n 1, 1) := by decide +kernel
theorem dL_append_4 : decode cL_append 4 = .ok (.invokevirtual 45, 3) := by decide +kernel
theorem dL_append_7 : decode cL_append 7 = .ok (.i2l, 1) := by decide +kernel
theorem dL_append_8 : decode cL_append 8 = .ok (.lastore, 1) := by decide +kernel
theorem dL_append_9 : decode cL_append 9 = .ok (.goto 9, 3) := by decide +kernel
theorem dL_append_12 : decode cL_append 12 = .ok (.astore_n 3, 1) := by decide +kernel
theorem dL_append_13 : decode cL_append 13 = .ok (.iconst 1, 1) := by decide +kernel
theorem dL_append_14 : decode cL_append 14 = .ok (.ireturn, 1) := by decide +kernel
theorem dL_append_15 : decode cL_append 15 = .ok (.astore_n 3, 1) := by decide +kernel
theorem dL_append_16 : decode cL_append 16 = .ok (.iconst 2, 1) := by decide +kernel
theorem dL_append_17 : decode cL_append 17 = .ok (.ireturn, 1) := by decide +kernel
theorem dL_append_18 : decode cL_append 18 = .ok (.iconst 0, 1) := by decide +kernel
theorem dL_append_19 : decode cL_append 19 = .ok (.ireturn, 1) := by decide +kernel
theorem dL_draw_0 : decode cL_draw 0 = .ok (.aload_n 1, 1) := by decide +kernel
theorem dL_draw_1 : decode cL_draw 1 = .ok (.iconst 0, 1) := by decide +kernel
theorem dL_draw_2 : decode cL_draw 2 = .ok (.aload_n 0, 1) := by decide +kernel
theorem dL_draw_3 : decode cL_draw 3 = .ok (.invokevirtual 48, 3) := by decide +kernel
theorem dL_draw_6 : decode cL_draw 6 = .ok (.i2l, 1) := by decide +kernel
theorem dL_draw_7 : decode cL_draw 7 = .ok (.lastore, 1) := by decide +kernel
theorem dL_draw_8 : decode cL_draw 8 = .ok (.goto 9, 3) := by decide +kernel
theorem dL_draw_11 : decode cL_draw 11 = .ok (.astore_n 2, 1) := by decide +kernel
theorem dL_draw_12 : decode cL_draw 12 = .ok (.iconst 1, 1) := by decide +kernel
theorem dL_draw_13 : decode cL_draw 13 = .ok (.ireturn, 1) := by decide +kernel
theorem dL_draw_14 : decode cL_draw 14 = .ok (.astore_n 2, 1) := by decide +kernel
theorem dL_draw_15 : decode cL_draw 15 = .ok (.iconst 2, 1) := by decide +kernel
theorem dL_draw_16 : decode cL_draw 16 = .ok (.ireturn, 1) := by decide +kernel
theorem dL_draw_17 : decode cL_draw 17 = .ok (.iconst 0, 1) := by decide +kernel
theorem dL_draw_18 : decode cL_draw 18 = .ok (.ireturn, 1) := by decide +kernel
theorem dL_write_0 : decode cL_write 0 = .ok (.aload_n 2, 1) := by decide +kernel
theorem dL_write_1 : decode cL_write 1 = .ok (.iconst 0, 1) := by decide +kernel
theorem dL_write_2 : decode cL_write 2 = .ok (.aload_n 0, 1) := by decide +kernel
theorem dL_write_3 : decode cL_write 3 = .ok (.iload_n 1, 1) := by decide +kernel
theorem dL_write_4 : decode cL_write 4 = .ok (.invokevirtual 52, 3) := by decide +kernel
theorem dL_write_7 : decode cL_write 7 = .ok (.i2l, 1) := by decide +kernel
theorem dL_write_8 : decode cL_write 8 = .ok (.lastore, 1) := by decide +kernel
theorem dL_write_9 : decode cL_write 9 = .ok (.goto 6, 3) := by decide +kernel
theorem dL_write_12 : decode cL_write 12 = .ok (.astore_n 3, 1) := by decide +kernel
theorem dL_write_13 : decode cL_write 13 = .ok (.iconst 1, 1) := by decide +kernel
theorem dL_write_14 : decode cL_write 14 = .ok (.ireturn, 1) := by decide +kernel
theorem dL_write_15 : decode cL_write 15 = .ok (.iconst 0, 1) := by decide +kernel
theorem dL_write_16 : decode cL_write 16 = .ok (.ireturn, 1) := by decide +kernel
theorem dL_undo_0 : decode cL_undo 0 = .ok (.aload_n 1, 1) := by decide +kernel
theorem dL_undo_1 : decode cL_undo 1 = .ok (.iconst 0, 1) := by decide +kernel
theorem dL_undo_2 : decode cL_undo 2 = .ok (.aload_n 0, 1) := by decide +kernel
theorem dL_undo_3 : decode cL_undo 3 = .ok (.invokevirtual 55, 3) := by decide +kernel
theorem dL_undo_6 : decode cL_undo 6 = .ok (.i2l, 1) := by decide +kernel
theorem dL_undo_7 : decode cL_undo 7 = .ok (.lastore, 1) := by decide +kernel
theorem dL_undo_8 : decode cL_undo 8 = .ok (.goto 6, 3) := by decide +kernel
theorem dL_undo_11 : decode cL_undo 11 = .ok (.astore_n 2, 1) := by decide +kernel
theorem dL_undo_12 : decode cL_undo 12 = .ok (.iconst 1, 1) := by decide +kernel
theorem dL_undo_13 : decode cL_undo 13 = .ok (.ireturn, 1) := by decide +kernel
theorem dL_undo_14 : decode cL_undo 14 = .ok (.iconst 0, 1) := by decide +kernel
theorem dL_undo_15 : decode cL_undo 15 = .ok (.ireturn, 1) := by decide +kernel
theorem dL_keep_0 : decode cL_keep 0 = .ok (.aload_n 2, 1) := by decide +kernel
theorem dL_keep_1 : decode cL_keep 1 = .ok (.iconst 0, 1) := by decide +kernel
theorem dL_keep_2 : decode cL_keep 2 = .ok (.aload_n 0, 1) := by decide +kernel
theorem dL_keep_3 : decode cL_keep 3 = .ok (.iload_n 1, 1) := by decide +kernel
theorem dL_keep_4 : decode cL_keep 4 = .ok (.invokevirtual 58, 3) := by decide +kernel
theorem dL_keep_7 : decode cL_keep 7 = .ok (.i2l, 1) := by decide +kernel
theorem dL_keep_8 : decode cL_keep 8 = .ok (.lastore, 1) := by decide +kernel
theorem dL_keep_9 : decode cL_keep 9 = .ok (.goto 6, 3) := by decide +kernel
theorem dL_keep_12 : decode cL_keep 12 = .ok (.astore_n 3, 1) := by decide +kernel
theorem dL_keep_13 : decode cL_keep 13 = .ok (.iconst 1, 1) := by decide +kernel
theorem dL_keep_14 : decode cL_keep 14 = .ok (.ireturn, 1) := by decide +kernel
theorem dL_keep_15 : decode cL_keep 15 = .ok (.iconst 0, 1) := by decide +kernel
theorem dL_keep_16 : decode cL_keep 16 = .ok (.ireturn, 1) := by decide +kernel
theorem dL_goBack_0 : decode cL_goBack 0 = .ok (.aload_n 2, 1) := by decide +kernel
theorem dL_goBack_1 : decode cL_goBack 1 = .ok (.iconst 0, 1) := by decide +kernel
theorem dL_goBack_2 : decode cL_goBack 2 = .ok (.aload_n 0, 1) := by decide +kernel
theorem dL_goBack_3 : decode cL_goBack 3 = .ok (.iload_n 1, 1) := by decide +kernel
theorem dL_goBack_4 : decode cL_goBack 4 = .ok (.invokevirtual 61, 3) := by decide +kernel
theorem dL_goBack_7 : decode cL_goBack 7 = .ok (.i2l, 1) := by decide +kernel
theorem dL_goBack_8 : decode cL_goBack 8 = .ok (.lastore, 1) := by decide +kernel
theorem dL_goBack_9 : decode cL_goBack 9 = .ok (.goto 9, 3) := by decide +kernel
theorem dL_goBack_12 : decode cL_goBack 12 = .ok (.astore_n 3, 1) := by decide +kernel
theorem dL_goBack_13 : decode cL_goBack 13 = .ok (.iconst 1, 1) := by decide +kernel
theorem dL_goBack_14 : decode cL_goBack 14 = .ok (.ireturn, 1) := by decide +kernel
theorem dL_goBack_15 : decode cL_goBack 15 = .ok (.astore_n 3, 1) := by decide +kernel
theorem dL_goBack_16 : decode cL_goBack 16 = .ok (.iconst 2, 1) := by decide +kernel
theorem dL_goBack_17 : decode cL_goBack 17 = .ok (.ireturn, 1) := by decide +kernel
theorem dL_goBack_18 : decode cL_goBack 18 = .ok (.iconst 0, 1) := by decide +kernel
theorem dL_goBack_19 : decode cL_goBack 19 = .ok (.ireturn, 1) := by decide +kernel
theorem dL_site_0 : decode cL_site 0 = .ok (.aload 4, 2) := by decide +kernel
theorem dL_site_2 : decode cL_site 2 = .ok (.iconst 0, 1) := by decide +kernel
theorem dL_site_3 : decode cL_site 3 = .ok (.aload_n 0, 1) := by decide +kernel
theorem dL_site_4 : decode cL_site 4 = .ok (.iload_n 1, 1) := by decide +kernel
theorem dL_site_5 : decode cL_site 5 = .ok (.iload_n 2, 1) := by decide +kernel
theorem dL_site_6 : decode cL_site 6 = .ok (.iload_n 3, 1) := by decide +kernel
theorem dL_site_7 : decode cL_site 7 = .ok (.invokevirtual 64, 3) := by decide +kernel
theorem dL_site_10 : decode cL_site 10 = .ok (.i2l, 1) := by decide +kernel
theorem dL_site_11 : decode cL_site 11 = .ok (.lastore, 1) := by decide +kernel
theorem dL_site_12 : decode cL_site 12 = .ok (.goto 11, 3) := by decide +kernel
theorem dL_site_15 : decode cL_site 15 = .ok (.astore 5, 2) := by decide +kernel
theorem dL_site_17 : decode cL_site 17 = .ok (.iconst 1, 1) := by decide +kernel
theorem dL_site_18 : decode cL_site 18 = .ok (.ireturn, 1) := by decide +kernel
theorem dL_site_19 : decode cL_site 19 = .ok (.astore 5, 2) := by decide +kernel
theorem dL_site_21 : decode cL_site 21 = .ok (.iconst 2, 1) := by decide +kernel
theorem dL_site_22 : decode cL_site 22 = .ok (.ireturn, 1) := by decide +kernel
theorem dL_site_23 : decode cL_site 23 = .ok (.iconst 0, 1) := by decide +kernel
theorem dL_site_24 : decode cL_site 24 = .ok (.ireturn, 1) := by decide +kernel
theorem dL_place_0 : decode cL_place 0 = .ok (.aload_n 3, 1) := by decide +kernel
theorem dL_place_1 : decode cL_place 1 = .ok (.iconst 0, 1) := by decide +kernel
theorem dL_place_2 : decode cL_place 2 = .ok (.aload_n 0, 1) := by decide +kernel
theorem dL_place_3 : decode cL_place 3 = .ok (.iload_n 1, 1) := by decide +kernel
theorem dL_place_4 : decode cL_place 4 = .ok (.iload_n 2, 1) := by decide +kernel
theorem dL_place_5 : decode cL_place 5 = .ok (.invokevirtual 67, 3) := by decide +kernel
theorem dL_place_8 : decode cL_place 8 = .ok (.i2l, 1) := by decide +kernel
theorem dL_place_9 : decode cL_place 9 = .ok (.lastore, 1) := by decide +kernel
theorem dL_place_10 : decode cL_place 10 = .ok (.goto 7, 3) := by decide +kernel
theorem dL_place_13 : decode cL_place 13 = .ok (.astore 4, 2) := by decide +kernel
theorem dL_place_15 : decode cL_place 15 = .ok (.iconst 1, 1) := by decide +kernel
theorem dL_place_16 : decode cL_place 16 = .ok (.ireturn, 1) := by decide +kernel
theorem dL_place_17 : decode cL_place 17 = .ok (.iconst 0, 1) := by decide +kernel
theorem dL_place_18 : decode cL_place 18 = .ok (.ireturn, 1) := by decide +kernel
theorem dL_path_0 : decode cL_path 0 = .ok (.aload_n 3, 1) := by decide +kernel
theorem dL_path_1 : decode cL_path 1 = .ok (.iconst 0, 1) := by decide +kernel
theorem dL_path_2 : decode cL_path 2 = .ok (.aload_n 0, 1) := by decide +kernel
theorem dL_path_3 : decode cL_path 3 = .ok (.iload_n 1, 1) := by decide +kernel
theorem dL_path_4 : decode cL_path 4 = .ok (.iload_n 2, 1) := by decide +kernel
theorem dL_path_5 : decode cL_path 5 = .ok (.invokevirtual 70, 3) := by decide +kernel
theorem dL_path_8 : decode cL_path 8 = .ok (.i2l, 1) := by decide +kernel
theorem dL_path_9 : decode cL_path 9 = .ok (.lastore, 1) := by decide +kernel
theorem dL_path_10 : decode cL_path 10 = .ok (.goto 11, 3) := by decide +kernel
theorem dL_path_13 : decode cL_path 13 = .ok (.astore 4, 2) := by decide +kernel
theorem dL_path_15 : decode cL_path 15 = .ok (.iconst 1, 1) := by decide +kernel
theorem dL_path_16 : decode cL_path 16 = .ok (.ireturn, 1) := by decide +kernel
theorem dL_path_17 : decode cL_path 17 = .ok (.astore 4, 2) := by decide +kernel
theorem dL_path_19 : decode cL_path 19 = .ok (.iconst 2, 1) := by decide +kernel
theorem dL_path_20 : decode cL_path 20 = .ok (.ireturn, 1) := by decide +kernel
theorem dL_path_21 : decode cL_path 21 = .ok (.iconst 0, 1) := by decide +kernel
theorem dL_path_22 : decode cL_path 22 = .ok (.ireturn, 1) := by decide +kernel
theorem dL_touching_0 : decode cL_touching 0 = .ok (.aload_n 3, 1) := by decide +kernel
theorem dL_touching_1 : decode cL_touching 1 = .ok (.iconst 0, 1) := by decide +kernel
theorem dL_touching_2 : decode cL_touching 2 = .ok (.aload_n 0, 1) := by decide +kernel
theorem dL_touching_3 : decode cL_touching 3 = .ok (.iload_n 1, 1) := by decide +kernel
theorem dL_touching_4 : decode cL_touching 4 = .ok (.iload_n 2, 1) := by decide +kernel
theorem dL_touching_5 : decode cL_touching 5 = .ok (.invokevirtual 73, 3) := by decide +kernel
theorem dL_touching_8 : decode cL_touching 8 = .ok (.i2l, 1) := by decide +kernel
theorem dL_touching_9 : decode cL_touching 9 = .ok (.lastore, 1) := by decide +kernel
theorem dL_touching_10 : decode cL_touching 10 = .ok (.goto 11, 3) := by decide +kernel
theorem dL_touching_13 : decode cL_touching 13 = .ok (.astore 4, 2) := by decide +kernel
theorem dL_touching_15 : decode cL_touching 15 = .ok (.iconst 1, 1) := by decide +kernel
theorem dL_touching_16 : decode cL_touching 16 = .ok (.ireturn, 1) := by decide +kernel
theorem dL_touching_17 : decode cL_touching 17 = .ok (.astore 4, 2) := by decide +kernel
theorem dL_touching_19 : decode cL_touching 19 = .ok (.iconst 2, 1) := by decide +kernel
theorem dL_touching_20 : decode cL_touching 20 = .ok (.ireturn, 1) := by decide +kernel
theorem dL_touching_21 : decode cL_touching 21 = .ok (.iconst 0, 1) := by decide +kernel
theorem dL_touching_22 : decode cL_touching 22 = .ok (.ireturn, 1) := by decide +kernel
theorem dL_shape_0 : decode cL_shape 0 = .ok (.aload_n 3, 1) := by decide +kernel
theorem dL_shape_1 : decode cL_shape 1 = .ok (.iconst 0, 1) := by decide +kernel
theorem dL_shape_2 : decode cL_shape 2 = .ok (.aload_n 0, 1) := by decide +kernel
theorem dL_shape_3 : decode cL_shape 3 = .ok (.iload_n 1, 1) := by decide +kernel
theorem dL_shape_4 : decode cL_shape 4 = .ok (.iload_n 2, 1) := by decide +kernel
theorem dL_shape_5 : decode cL_shape 5 = .ok (.invokevirtual 76, 3) := by decide +kernel
theorem dL_shape_8 : decode cL_shape 8 = .ok (.i2l, 1) := by decide +kernel
theorem dL_shape_9 : decode cL_shape 9 = .ok (.lastore, 1) := by decide +kernel
theorem dL_shape_10 : decode cL_shape 10 = .ok (.goto 11, 3) := by decide +kernel
theorem dL_shape_13 : decode cL_shape 13 = .ok (.astore 4, 2) := by decide +kernel
theorem dL_shape_15 : decode cL_shape 15 = .ok (.iconst 1, 1) := by decide +kernel
theorem dL_shape_16 : decode cL_shape 16 = .ok (.ireturn, 1) := by decide +kernel
theorem dL_shape_17 : decode cL_shape 17 = .ok (.astore 4, 2) := by decide +kernel
theorem dL_shape_19 : decode cL_shape 19 = .ok (.iconst 2, 1) := by decide +kernel
theorem dL_shape_20 : decode cL_shape 20 = .ok (.ireturn, 1) := by decide +kernel
theorem dL_shape_21 : decode cL_shape 21 = .ok (.iconst 0, 1) := by decide +kernel
theorem dL_shape_22 : decode cL_shape 22 = .ok (.ireturn, 1) := by decide +kernel
theorem dL_isAlike_0 : decode cL_isAlike 0 = .ok (.aload_n 3, 1) := by decide +kernel
theorem dL_isAlike_1 : decode cL_isAlike 1 = .ok (.iconst 0, 1) := by decide +kernel
theorem dL_isAlike_2 : decode cL_isAlike 2 = .ok (.aload_n 0, 1) := by decide +kernel
theorem dL_isAlike_3 : decode cL_isAlike 3 = .ok (.iload_n 1, 1) := by decide +kernel
theorem dL_isAlike_4 : decode cL_isAlike 4 = .ok (.iload_n 2, 1) := by decide +kernel
theorem dL_isAlike_5 : decode cL_isAlike 5 = .ok (.invokevirtual 79, 3) := by decide +kernel
theorem dL_isAlike_8 : decode cL_isAlike 8 = .ok (.ifCond .eq 7, 3) := by decide +kernel
theorem dL_isAlike_11 : decode cL_isAlike 11 = .ok (.lconst 1, 1) := by decide +kernel
theorem dL_isAlike_12 : decode cL_isAlike 12 = .ok (.goto 4, 3) := by decide +kernel
theorem dL_isAlike_15 : decode cL_isAlike 15 = .ok (.lconst 0, 1) := by decide +kernel
theorem dL_isAlike_16 : decode cL_isAlike 16 = .ok (.lastore, 1) := by decide +kernel
theorem dL_isAlike_17 : decode cL_isAlike 17 = .ok (.goto 7, 3) := by decide +kernel
theorem dL_isAlike_20 : decode cL_isAlike 20 = .ok (.astore 4, 2) := by decide +kernel
theorem dL_isAlike_22 : decode cL_isAlike 22 = .ok (.iconst 1, 1) := by decide +kernel
theorem dL_isAlike_23 : decode cL_isAlike 23 = .ok (.ireturn, 1) := by decide +kernel
theorem dL_isAlike_24 : decode cL_isAlike 24 = .ok (.iconst 0, 1) := by decide +kernel
theorem dL_isAlike_25 : decode cL_isAlike 25 = .ok (.ireturn, 1) := by decide +kernel
theorem dL_free_0 : decode cL_free 0 = .ok (.aload_n 2, 1) := by decide +kernel
theorem dL_free_1 : decode cL_free 1 = .ok (.iconst 0, 1) := by decide +kernel
theorem dL_free_2 : decode cL_free 2 = .ok (.aload_n 0, 1) := by decide +kernel
theorem dL_free_3 : decode cL_free 3 = .ok (.iload_n 1, 1) := by decide +kernel
theorem dL_free_4 : decode cL_free 4 = .ok (.invokevirtual 83, 3) := by decide +kernel
theorem dL_free_7 : decode cL_free 7 = .ok (.i2l, 1) := by decide +kernel
theorem dL_free_8 : decode cL_free 8 = .ok (.lastore, 1) := by decide +kernel
theorem dL_free_9 : decode cL_free 9 = .ok (.goto 6, 3) := by decide +kernel
theorem dL_free_12 : decode cL_free 12 = .ok (.astore_n 3, 1) := by decide +kernel
theorem dL_free_13 : decode cL_free 13 = .ok (.iconst 1, 1) := by decide +kernel
theorem dL_free_14 : decode cL_free 14 = .ok (.ireturn, 1) := by decide +kernel
theorem dL_free_15 : decode cL_free 15 = .ok (.iconst 0, 1) := by decide +kernel
theorem dL_free_16 : decode cL_free 16 = .ok (.ireturn, 1) := by decide +kernel
theorem dL_ways_0 : decode cL_ways 0 = .ok (.aload_n 3, 1) := by decide +kernel
theorem dL_ways_1 : decode cL_ways 1 = .ok (.iconst 0, 1) := by decide +kernel
theorem dL_ways_2 : decode cL_ways 2 = .ok (.aload_n 0, 1) := by decide +kernel
theorem dL_ways_3 : decode cL_ways 3 = .ok (.iload_n 1, 1) := by decide +kernel
theorem dL_ways_4 : decode cL_ways 4 = .ok (.iload_n 2, 1) := by decide +kernel
theorem dL_ways_5 : decode cL_ways 5 = .ok (.invokevirtual 86, 3) := by decide +kernel
theorem dL_ways_8 : decode cL_ways 8 = .ok (.i2l, 1) := by decide +kernel
theorem dL_ways_9 : decode cL_ways 9 = .ok (.lastore, 1) := by decide +kernel
theorem dL_ways_10 : decode cL_ways 10 = .ok (.goto 11, 3) := by decide +kernel
theorem dL_ways_13 : decode cL_ways 13 = .ok (.astore 4, 2) := by decide +kernel
theorem dL_ways_15 : decode cL_ways 15 = .ok (.iconst 1, 1) := by decide +kernel
theorem dL_ways_16 : decode cL_ways 16 = .ok (.ireturn, 1) := by decide +kernel
theorem dL_ways_17 : decode cL_ways 17 = .ok (.astore 4, 2) := by decide +kernel
theorem dL_ways_19 : decode cL_ways 19 = .ok (.iconst 2, 1) := by decide +kernel
theorem dL_ways_20 : decode cL_ways 20 = .ok (.ireturn, 1) := by decide +kernel
theorem dL_ways_21 : decode cL_ways 21 = .ok (.iconst 0, 1) := by decide +kernel
theorem dL_ways_22 : decode cL_ways 22 = .ok (.ireturn, 1) := by decide +kernel
theorem dL_bestStep_0 : decode cL_bestStep 0 = .ok (.aload_n 2, 1) := by decide +kernel
theorem dL_bestStep_1 : decode cL_bestStep 1 = .ok (.iconst 0, 1) := by decide +kernel
theorem dL_bestStep_2 : decode cL_bestStep 2 = .ok (.aload_n 0, 1) := by decide +kernel
theorem dL_bestStep_3 : decode cL_bestStep 3 = .ok (.iload_n 1, 1) := by decide +kernel
theorem dL_bestStep_4 : decode cL_bestStep 4 = .ok (.invokevirtual 89, 3) := by decide +kernel
theorem dL_bestStep_7 : decode cL_bestStep 7 = .ok (.i2l, 1) := by decide +kernel
theorem dL_bestStep_8 : decode cL_bestStep 8 = .ok (.lastore, 1) := by decide +kernel
theorem dL_bestStep_9 : decode cL_bestStep 9 = .ok (.goto 6, 3) := by decide +kernel
theorem dL_bestStep_12 : decode cL_bestStep 12 = .ok (.astore_n 3, 1) := by decide +kernel
theorem dL_bestStep_13 : decode cL_bestStep 13 = .ok (.iconst 1, 1) := by decide +kernel
theorem dL_bestStep_14 : decode cL_bestStep 14 = .ok (.ireturn, 1) := by decide +kernel
theorem dL_bestStep_15 : decode cL_bestStep 15 = .ok (.iconst 0, 1) := by decide +kernel
theorem dL_bestStep_16 : decode cL_bestStep 16 = .ok (.ireturn, 1) := by decide +kernel
theorem dL_reach_0 : decode cL_reach 0 = .ok (.aload_n 2, 1) := by decide +kernel
theorem dL_reach_1 : decode cL_reach 1 = .ok (.iconst 0, 1) := by decide +kernel
theorem dL_reach_2 : decode cL_reach 2 = .ok (.aload_n 0, 1) := by decide +kernel
theorem dL_reach_3 : decode cL_reach 3 = .ok (.iload_n 1, 1) := by decide +kernel
theorem dL_reach_4 : decode cL_reach 4 = .ok (.invokevirtual 92, 3) := by decide +kernel
theorem dL_reach_7 : decode cL_reach 7 = .ok (.i2l, 1) := by decide +kernel
theorem dL_reach_8 : decode cL_reach 8 = .ok (.lastore, 1) := by decide +kernel
theorem dL_reach_9 : decode cL_reach 9 = .ok (.goto 6, 3) := by decide +kernel
theorem dL_reach_12 : decode cL_reach 12 = .ok (.astore_n 3, 1) := by decide +kernel
theorem dL_reach_13 : decode cL_reach 13 = .ok (.iconst 1, 1) := by decide +kernel
theorem dL_reach_14 : decode cL_reach 14 = .ok (.ireturn, 1) := by decide +kernel
theorem dL_reach_15 : decode cL_reach 15 = .ok (.iconst 0, 1) := by decide +kernel
theorem dL_reach_16 : decode cL_reach 16 = .ok (.ireturn, 1) := by decide +kernel
theorem dL_ifTurned_0 : decode cL_ifTurned 0 = .ok (.aload 4, 2) := by decide +kernel
theorem dL_ifTurned_2 : decode cL_ifTurned 2 = .ok (.iconst 0, 1) := by decide +kernel
theorem dL_ifTurned_3 : decode cL_ifTurned 3 = .ok (.aload_n 0, 1) := by decide +kernel
theorem dL_ifTurned_4 : decode cL_ifTurned 4 = .ok (.iload_n 1, 1) := by decide +kernel
theorem dL_ifTurned_5 : decode cL_ifTurned 5 = .ok (.iload_n 2, 1) := by decide +kernel
theorem dL_ifTurned_6 : decode cL_ifTurned 6 = .ok (.iload_n 3, 1) := by decide +kernel
theorem dL_ifTurned_7 : decode cL_ifTurned 7 = .ok (.invokevirtual 95, 3) := by decide +kernel
theorem dL_ifTurned_10 : decode cL_ifTurned 10 = .ok (.i2l, 1) := by decide +kernel
theorem dL_ifTurned_11 : decode cL_ifTurned 11 = .ok (.lastore, 1) := by decide +kernel
theorem dL_ifTurned_12 : decode cL_ifTurned 12 = .ok (.goto 11, 3) := by decide +kernel
theorem dL_ifTurned_15 : decode cL_ifTurned 15 = .ok (.astore 5, 2) := by decide +kernel
theorem dL_ifTurned_17 : decode cL_ifTurned 17 = .ok (.iconst 1, 1) := by decide +kernel
theorem dL_ifTurned_18 : decode cL_ifTurned 18 = .ok (.ireturn, 1) := by decide +kernel
theorem dL_ifTurned_19 : decode cL_ifTurned 19 = .ok (.astore 5, 2) := by decide +kernel
theorem dL_ifTurned_21 : decode cL_ifTurned 21 = .ok (.iconst 2, 1) := by decide +kernel
theorem dL_ifTurned_22 : decode cL_ifTurned 22 = .ok (.ireturn, 1) := by decide +kernel
theorem dL_ifTurned_23 : decode cL_ifTurned 23 = .ok (.iconst 0, 1) := by decide +kernel
theorem dL_ifTurned_24 : decode cL_ifTurned 24 = .ok (.ireturn, 1) := by decide +kernel
theorem dL_turnable_0 : decode cL_turnable 0 = .ok (.aload_n 2, 1) := by decide +kernel
theorem dL_turnable_1 : decode cL_turnable 1 = .ok (.iconst 0, 1) := by decide +kernel
theorem dL_turnable_2 : decode cL_turnable 2 = .ok (.aload_n 0, 1) := by decide +kernel
theorem dL_turnable_3 : decode cL_turnable 3 = .ok (.iload_n 1, 1) := by decide +kernel
theorem dL_turnable_4 : decode cL_turnable 4 = .ok (.invokevirtual 98, 3) := by decide +kernel
theorem dL_turnable_7 : decode cL_turnable 7 = .ok (.i2l, 1) := by decide +kernel
theorem dL_turnable_8 : decode cL_turnable 8 = .ok (.lastore, 1) := by decide +kernel
theorem dL_turnable_9 : decode cL_turnable 9 = .ok (.goto 6, 3) := by decide +kernel
theorem dL_turnable_12 : decode cL_turnable 12 = .ok (.astore_n 3, 1) := by decide +kernel
theorem dL_turnable_13 : decode cL_turnable 13 = .ok (.iconst 1, 1) := by decide +kernel
theorem dL_turnable_14 : decode cL_turnable 14 = .ok (.ireturn, 1) := by decide +kernel
theorem dL_turnable_15 : decode cL_turnable 15 = .ok (.iconst 0, 1) := by decide +kernel
theorem dL_turnable_16 : decode cL_turnable 16 = .ok (.ireturn, 1) := by decide +kernel
theorem dL_count_0 : decode cL_count 0 = .ok (.aload_n 2, 1) := by decide +kernel
theorem dL_count_1 : decode cL_count 1 = .ok (.iconst 0, 1) := by decide +kernel
theorem dL_count_2 : decode cL_count 2 = .ok (.aload_n 0, 1) := by decide +kernel
theorem dL_count_3 : decode cL_count 3 = .ok (.iload_n 1, 1) := by decide +kernel
theorem dL_count_4 : decode cL_count 4 = .ok (.invokevirtual 101, 3) := by decide +kernel
theorem dL_count_7 : decode cL_count 7 = .ok (.i2l, 1) := by decide +kernel
theorem dL_count_8 : decode cL_count 8 = .ok (.lastore, 1) := by decide +kernel
theorem dL_count_9 : decode cL_count 9 = .ok (.goto 6, 3) := by decide +kernel
theorem dL_count_12 : decode cL_count 12 = .ok (.astore_n 3, 1) := by decide +kernel
theorem dL_count_13 : decode cL_count 13 = .ok (.iconst 1, 1) := by decide +kernel
theorem dL_count_14 : decode cL_count 14 = .ok (.ireturn, 1) := by decide +kernel
theorem dL_count_15 : decode cL_count 15 = .ok (.iconst 0, 1) := by decide +kernel
theorem dL_count_16 : decode cL_count 16 = .ok (.ireturn, 1) := by decide +kernel
theorem dL_spread_0 : decode cL_spread 0 = .ok (.aload_n 2, 1) := by decide +kernel
theorem dL_spread_1 : decode cL_spread 1 = .ok (.iconst 0, 1) := by decide +kernel
theorem dL_spread_2 : decode cL_spread 2 = .ok (.aload_n 0, 1) := by decide +kernel
theorem dL_spread_3 : decode cL_spread 3 = .ok (.iload_n 1, 1) := by decide +kernel
theorem dL_spread_4 : decode cL_spread 4 = .ok (.invokevirtual 104, 3) := by decide +kernel
theorem dL_spread_7 : decode cL_spread 7 = .ok (.dastore, 1) := by decide +kernel
theorem dL_spread_8 : decode cL_spread 8 = .ok (.goto 6, 3) := by decide +kernel
theorem dL_spread_11 : decode cL_spread 11 = .ok (.astore_n 3, 1) := by decide +kernel
theorem dL_spread_12 : decode cL_spread 12 = .ok (.iconst 1, 1) := by decide +kernel
theorem dL_spread_13 : decode cL_spread 13 = .ok (.ireturn, 1) := by decide +kernel
theorem dL_spread_14 : decode cL_spread 14 = .ok (.iconst 0, 1) := by decide +kernel
theorem dL_spread_15 : decode cL_spread 15 = .ok (.ireturn, 1) := by decide +kernel
theorem dL_law_0 : decode cL_law 0 = .ok (.new 8, 3) := by decide +kernel
theorem dL_law_3 : decode cL_law 3 = .ok (.dup, 1) := by decide +kernel
theorem dL_law_4 : decode cL_law 4 = .ok (.invokespecial 108, 3) := by decide +kernel
theorem dL_law_7 : decode cL_law 7 = .ok (.astore_n 1, 1) := by decide +kernel
theorem dL_law_8 : decode cL_law 8 = .ok (.new 109, 3) := by decide +kernel
theorem dL_law_11 : decode cL_law 11 = .ok (.dup, 1) := by decide +kernel
theorem dL_law_12 : decode cL_law 12 = .ok (.invokespecial 111, 3) := by decide +kernel
theorem dL_law_15 : decode cL_law 15 = .ok (.astore_n 2, 1) := by decide +kernel
theorem dL_law_16 : decode cL_law 16 = .ok (.iconst 1, 1) := by decide +kernel
theorem dL_law_17 : decode cL_law 17 = .ok (.newarray .long, 2) := by decide +kernel
theorem dL_law_19 : decode cL_law 19 = .ok (.astore_n 3, 1) := by decide +kernel
theorem dL_law_20 : decode cL_law 20 = .ok (.iconst 1, 1) := by decide +kernel
theorem dL_law_21 : decode cL_law 21 = .ok (.newarray .double, 2) := by decide +kernel
theorem dL_law_23 : decode cL_law 23 = .ok (.astore 4, 2) := by decide +kernel
theorem dL_law_25 : decode cL_law 25 = .ok (.iconst 0, 1) := by decide +kernel
theorem dL_law_26 : decode cL_law 26 = .ok (.istore 5, 2) := by decide +kernel
theorem dL_law_28 : decode cL_law 28 = .ok (.iload 5, 2) := by decide +kernel
theorem dL_law_30 : decode cL_law 30 = .ok (.aload_n 0, 1) := by decide +kernel
theorem dL_law_31 : decode cL_law 31 = .ok (.arraylength, 1) := by decide +kernel
theorem dL_law_32 : decode cL_law 32 = .ok (.iconst 4, 1) := by decide +kernel
theorem dL_law_33 : decode cL_law 33 = .ok (.isub, 1) := by decide +kernel
theorem dL_law_34 : decode cL_law 34 = .ok (.if_icmp .gt 2078, 3) := by decide +kernel
theorem dL_law_37 : decode cL_law 37 = .ok (.aload_n 0, 1) := by decide +kernel
theorem dL_law_38 : decode cL_law 38 = .ok (.iload 5, 2) := by decide +kernel
theorem dL_law_40 : decode cL_law 40 = .ok (.iaload, 1) := by decide +kernel
theorem dL_law_41 : decode cL_law 41 = .ok (.bipush 63, 2) := by decide +kernel
theorem dL_law_43 : decode cL_law 43 = .ok (.iand, 1) := by decide +kernel
theorem dL_law_44 : decode cL_law 44 = .ok (.tableswitch 2062 0 32 #[148, 216, 284, 340, 408, 488, 544, 612, 680, 736, 792, 805, 818, 862, 918, 962, 1018, 1074, 1154, 1222, 1290, 1303, 1371, 1439, 1514, 1570, 1638, 1694, 1750, 1830, 1886, 1942, 2019], 148) := by decide +kernel
theorem dL_law_192 : decode cL_law 192 = .ok (.aload_n 1, 1) := by decide +kernel
theorem dL_law_193 : decode cL_law 193 = .ok (.aload_n 0, 1) := by decide +kernel
theorem dL_law_194 : decode cL_law 194 = .ok (.iload 5, 2) := by decide +kernel
theorem dL_law_196 : decode cL_law 196 = .ok (.iconst 1, 1) := by decide +kernel
theorem dL_law_197 : decode cL_law 197 = .ok (.iadd, 1) := by decide +kernel
theorem dL_law_198 : decode cL_law 198 = .ok (.iaload, 1) := by decide +kernel
theorem dL_law_199 : decode cL_law 199 = .ok (.aload_n 0, 1) := by decide +kernel
theorem dL_law_200 : decode cL_law 200 = .ok (.iload 5, 2) := by decide +kernel
theorem dL_law_202 : decode cL_law 202 = .ok (.iconst 2, 1) := by decide +kernel
theorem dL_law_203 : decode cL_law 203 = .ok (.iadd, 1) := by decide +kernel
theorem dL_law_204 : decode cL_law 204 = .ok (.iaload, 1) := by decide +kernel
theorem dL_law_205 : decode cL_law 205 = .ok (.aload_n 3, 1) := by decide +kernel
theorem dL_law_206 : decode cL_law 206 = .ok (.invokestatic 112, 3) := by decide +kernel
theorem dL_law_209 : decode cL_law 209 = .ok (.istore 6, 2) := by decide +kernel
theorem dL_law_211 : decode cL_law 211 = .ok (.aload_n 2, 1) := by decide +kernel
theorem dL_law_212 : decode cL_law 212 = .ok (.aload_n 0, 1) := by decide +kernel
theorem dL_law_213 : decode cL_law 213 = .ok (.iload 5, 2) := by decide +kernel
theorem dL_law_215 : decode cL_law 215 = .ok (.iconst 1, 1) := by decide +kernel
theorem dL_law_216 : decode cL_law 216 = .ok (.iadd, 1) := by decide +kernel
theorem dL_law_217 : decode cL_law 217 = .ok (.iaload, 1) := by decide +kernel
theorem dL_law_218 : decode cL_law 218 = .ok (.aload_n 0, 1) := by decide +kernel
theorem dL_law_219 : decode cL_law 219 = .ok (.iload 5, 2) := by decide +kernel
theorem dL_law_221 : decode cL_law 221 = .ok (.iconst 2, 1) := by decide +kernel
theorem dL_law_222 : decode cL_law 222 = .ok (.iadd, 1) := by decide +kernel
theorem dL_law_223 : decode cL_law 223 = .ok (.iaload, 1) := by decide +kernel
theorem dL_law_224 : decode cL_law 224 = .ok (.invokevirtual 117, 3) := by decide +kernel
theorem dL_law_227 : decode cL_law 227 = .ok (.istore 7, 2) := by decide +kernel
theorem dL_law_229 : decode cL_law 229 = .ok (.aload_n 2, 1) := by decide +kernel
theorem dL_law_230 : decode cL_law 230 = .ok (.invokevirtual 118, 3) := by decide +kernel
theorem dL_law_233 : decode cL_law 233 = .ok (.iload 6, 2) := by decide +kernel
theorem dL_law_235 : decode cL_law 235 = .ok (.if_icmp .eq 5, 3) := by decide +kernel
theorem dL_law_238 : decode cL_law 238 = .ok (.iconst 0, 1) := by decide +kernel
theorem dL_law_239 : decode cL_law 239 = .ok (.ireturn, 1) := by decide +kernel
theorem dL_law_240 : decode cL_law 240 = .ok (.iload 6, 2) := by decide +kernel
theorem dL_law_242 : decode cL_law 242 = .ok (.ifCond .ne 15, 3) := by decide +kernel
theorem dL_law_245 : decode cL_law 245 = .ok (.aload_n 3, 1) := by decide +kernel
theorem dL_law_246 : decode cL_law 246 = .ok (.iconst 0, 1) := by decide +kernel
theorem dL_law_247 : decode cL_law 247 = .ok (.laload, 1) := by decide +kernel
theorem dL_law_248 : decode cL_law 248 = .ok (.iload 7, 2) := by decide +kernel
theorem dL_law_250 : decode cL_law 250 = .ok (.i2l, 1) := by decide +kernel
theorem dL_law_251 : decode cL_law 251 = .ok (.lcmp, 1) := by decide +kernel
theorem dL_law_252 : decode cL_law 252 = .ok (.ifCond .eq 5, 3) := by decide +kernel
theorem dL_law_255 : decode cL_law 255 = .ok (.iconst 0, 1) := by decide +kernel
theorem dL_law_256 : decode cL_law 256 = .ok (.ireturn, 1) := by decide +kernel
theorem dL_law_257 : decode cL_law 257 = .ok (.goto 1849, 3) := by decide +kernel
theorem dL_law_260 : decode cL_law 260 = .ok (.aload_n 1, 1) := by decide +kernel
theorem dL_law_261 : decode cL_law 261 = .ok (.aload_n 0, 1) := by decide +kernel
theorem dL_law_262 : decode cL_law 262 = .ok (.iload 5, 2) := by decide +kernel
theorem dL_law_264 : decode cL_law 264 = .ok (.iconst 1, 1) := by decide +kernel
theorem dL_law_265 : decode cL_law 265 = .ok (.iadd, 1) := by decide +kernel
theorem dL_law_266 : decode cL_law 266 = .ok (.iaload, 1) := by decide +kernel
theorem dL_law_267 : decode cL_law 267 = .ok (.aload_n 0, 1) := by decide +kernel
theorem dL_law_268 : decode cL_law 268 = .ok (.iload 5, 2) := by decide +kernel
theorem dL_law_270 : decode cL_law 270 = .ok (.iconst 2, 1) := by decide +kernel
theorem dL_law_271 : decode cL_law 271 = .ok (.iadd, 1) := by decide +kernel
theorem dL_law_272 : decode cL_law 272 = .ok (.iaload, 1) := by decide +kernel
theorem dL_law_273 : decode cL_law 273 = .ok (.aload_n 3, 1) := by decide +kernel
theorem dL_law_274 : decode cL_law 274 = .ok (.invokestatic 121, 3) := by decide +kernel
theorem dL_law_277 : decode cL_law 277 = .ok (.istore 6, 2) := by decide +kernel
theorem dL_law_279 : decode cL_law 279 = .ok (.aload_n 2, 1) := by decide +kernel
theorem dL_law_280 : decode cL_law 280 = .ok (.aload_n 0, 1) := by decide +kernel
theorem dL_law_281 : decode cL_law 281 = .ok (.iload 5, 2) := by decide +kernel
theorem dL_law_283 : decode cL_law 283 = .ok (.iconst 1, 1) := by decide +kernel
theorem dL_law_284 : decode cL_law 284 = .ok (.iadd, 1) := by decide +kernel
theorem dL_law_285 : decode cL_law 285 = .ok (.iaload, 1) := by decide +kernel
theorem dL_law_286 : decode cL_law 286 = .ok (.aload_n 0, 1) := by decide +kernel
theorem dL_law_287 : decode cL_law 287 = .ok (.iload 5, 2) := by decide +kernel
theorem dL_law_289 : decode cL_law 289 = .ok (.iconst 2, 1) := by decide +kernel
theorem dL_law_290 : decode cL_law 290 = .ok (.iadd, 1) := by decide +kernel
theorem dL_law_291 : decode cL_law 291 = .ok (.iaload, 1) := by decide +kernel
theorem dL_law_292 : decode cL_law 292 = .ok (.invokevirtual 123, 3) := by decide +kernel
theorem dL_law_295 : decode cL_law 295 = .ok (.istore 7, 2) := by decide +kernel
theorem dL_law_297 : decode cL_law 297 = .ok (.aload_n 2, 1) := by decide +kernel
theorem dL_law_298 : decode cL_law 298 = .ok (.invokevirtual 118, 3) := by decide +kernel
theorem dL_law_301 : decode cL_law 301 = .ok (.iload 6, 2) := by decide +kernel
theorem dL_law_303 : decode cL_law 303 = .ok (.if_icmp .eq 5, 3) := by decide +kernel
theorem dL_law_306 : decode cL_law 306 = .ok (.iconst 0, 1) := by decide +kernel
theorem dL_law_307 : decode cL_law 307 = .ok (.ireturn, 1) := by decide +kernel
theorem dL_law_308 : decode cL_law 308 = .ok (.iload 6, 2) := by decide +kernel
theorem dL_law_310 : decode cL_law 310 = .ok (.ifCond .ne 15, 3) := by decide +kernel
theorem dL_law_313 : decode cL_law 313 = .ok (.aload_n 3, 1) := by decide +kernel
theorem dL_law_314 : decode cL_law 314 = .ok (.iconst 0, 1) := by decide +kernel
theorem dL_law_315 : decode cL_law 315 = .ok (.laload, 1) := by decide +kernel
theorem dL_law_316 : decode cL_law 316 = .ok (.iload 7, 2) := by decide +kernel
theorem dL_law_318 : decode cL_law 318 = .ok (.i2l, 1) := by decide +kernel
theorem dL_law_319 : decode cL_law 319 = .ok (.lcmp, 1) := by decide +kernel
theorem dL_law_320 : decode cL_law 320 = .ok (.ifCond .eq 5, 3) := by decide +kernel
theorem dL_law_323 : decode cL_law 323 = .ok (.iconst 0, 1) := by decide +kernel
theorem dL_law_324 : decode cL_law 324 = .ok (.ireturn, 1) := by decide +kernel
theorem dL_law_325 : decode cL_law 325 = .ok (.goto 1781, 3) := by decide +kernel
theorem dL_law_328 : decode cL_law 328 = .ok (.aload_n 1, 1) := by decide +kernel
theorem dL_law_329 : decode cL_law 329 = .ok (.aload_n 0, 1) := by decide +kernel
theorem dL_law_330 : decode cL_law 330 = .ok (.iload 5, 2) := by decide +kernel
theorem dL_law_332 : decode cL_law 332 = .ok (.iconst 1, 1) := by decide +kernel
theorem dL_law_333 : decode cL_law 333 = .ok (.iadd, 1) := by decide +kernel
theorem dL_law_334 : decode cL_law 334 = .ok (.iaload, 1) := by decide +kernel
theorem dL_law_335 : decode cL_law 335 = .ok (.aload_n 3, 1) := by decide +kernel
theorem dL_law_336 : decode cL_law 336 = .ok (.invokestatic 124, 3) := by decide +kernel
theorem dL_law_339 : decode cL_law 339 = .ok (.istore 6, 2) := by decide +kernel
theorem dL_law_341 : decode cL_law 341 = .ok (.aload_n 2, 1) := by decide +kernel
theorem dL_law_342 : decode cL_law 342 = .ok (.aload_n 0, 1) := by decide +kernel
theorem dL_law_343 : decode cL_law 343 = .ok (.iload 5, 2) := by decide +kernel
theorem dL_law_345 : decode cL_law 345 = .ok (.iconst 1, 1) := by decide +kernel
theorem dL_law_346 : decode cL_law 346 = .ok (.iadd, 1) := by decide +kernel
theorem dL_law_347 : decode cL_law 347 = .ok (.iaload, 1) := by decide +kernel
theorem dL_law_348 : decode cL_law 348 = .ok (.invokevirtual 127, 3) := by decide +kernel
theorem dL_law_351 : decode cL_law 351 = .ok (.istore 7, 2) := by decide +kernel
theorem dL_law_353 : decode cL_law 353 = .ok (.aload_n 2, 1) := by decide +kernel
theorem dL_law_354 : decode cL_law 354 = .ok (.invokevirtual 118, 3) := by decide +kernel
theorem dL_law_357 : decode cL_law 357 = .ok (.iload 6, 2) := by decide +kernel
theorem dL_law_359 : decode cL_law 359 = .ok (.if_icmp .eq 5, 3) := by decide +kernel
theorem dL_law_362 : decode cL_law 362 = .ok (.iconst 0, 1) := by decide +kernel
theorem dL_law_363 : decode cL_law 363 = .ok (.ireturn, 1) := by decide +kernel
theorem dL_law_364 : decode cL_law 364 = .ok (.iload 6, 2) := by decide +kernel
theorem dL_law_366 : decode cL_law 366 = .ok (.ifCond .ne 15, 3) := by decide +kernel
theorem dL_law_369 : decode cL_law 369 = .ok (.aload_n 3, 1) := by decide +kernel
theorem dL_law_370 : decode cL_law 370 = .ok (.iconst 0, 1) := by decide +kernel
theorem dL_law_371 : decode cL_law 371 = .ok (.laload, 1) := by decide +kernel
theorem dL_law_372 : decode cL_law 372 = .ok (.iload 7, 2) := by decide +kernel
theorem dL_law_374 : decode cL_law 374 = .ok (.i2l, 1) := by decide +kernel
theorem dL_law_375 : decode cL_law 375 = .ok (.lcmp, 1) := by decide +kernel
theorem dL_law_376 : decode cL_law 376 = .ok (.ifCond .eq 5, 3) := by decide +kernel
theorem dL_law_379 : decode cL_law 379 = .ok (.iconst 0, 1) := by decide +kernel
theorem dL_law_380 : decode cL_law 380 = .ok (.ireturn, 1) := by decide +kernel
theorem dL_law_381 : decode cL_law 381 = .ok (.goto 1725, 3) := by decide +kernel
theorem dL_law_384 : decode cL_law 384 = .ok (.aload_n 1, 1) := by decide +kernel
theorem dL_law_385 : decode cL_law 385 = .ok (.aload_n 0, 1) := by decide +kernel
theorem dL_law_386 : decode cL_law 386 = .ok (.iload 5, 2) := by decide +kernel
theorem dL_law_388 : decode cL_law 388 = .ok (.iconst 1, 1) := by decide +kernel
theorem dL_law_389 : decode cL_law 389 = .ok (.iadd, 1) := by decide +kernel
theorem dL_law_390 : decode cL_law 390 = .ok (.iaload, 1) := by decide +kernel
theorem dL_law_391 : decode cL_law 391 = .ok (.aload_n 0, 1) := by decide +kernel
theorem dL_law_392 : decode cL_law 392 = .ok (.iload 5, 2) := by decide +kernel
theorem dL_law_394 : decode cL_law 394 = .ok (.iconst 2, 1) := by decide +kernel
theorem dL_law_395 : decode cL_law 395 = .ok (.iadd, 1) := by decide +kernel
theorem dL_law_396 : decode cL_law 396 = .ok (.iaload, 1) := by decide +kernel
theorem dL_law_397 : decode cL_law 397 = .ok (.aload_n 3, 1) := by decide +kernel
theorem dL_law_398 : decode cL_law 398 = .ok (.invokestatic 128, 3) := by decide +kernel
theorem dL_law_401 : decode cL_law 401 = .ok (.istore 6, 2) := by decide +kernel
theorem dL_law_403 : decode cL_law 403 = .ok (.aload_n 2, 1) := by decide +kernel
theorem dL_law_404 : decode cL_law 404 = .ok (.aload_n 0, 1) := by decide +kernel
theorem dL_law_405 : decode cL_law 405 = .ok (.iload 5, 2) := by decide +kernel
theorem dL_law_407 : decode cL_law 407 = .ok (.iconst 1, 1) := by decide +kernel
theorem dL_law_408 : decode cL_law 408 = .ok (.iadd, 1) := by decide +kernel
theorem dL_law_409 : decode cL_law 409 = .ok (.iaload, 1) := by decide +kernel
theorem dL_law_410 : decode cL_law 410 = .ok (.aload_n 0, 1) := by decide +kernel
theorem dL_law_411 : decode cL_law 411 = .ok (.iload 5, 2) := by decide +kernel
theorem dL_law_413 : decode cL_law 413 = .ok (.iconst 2, 1) := by decide +kernel
theorem dL_law_414 : decode cL_law 414 = .ok (.iadd, 1) := by decide +kernel
theorem dL_law_415 : decode cL_law 415 = .ok (.iaload, 1) := by decide +kernel
theorem dL_law_416 : decode cL_law 416 = .ok (.invokevirtual 130, 3) := by decide +kernel
theorem dL_law_419 : decode cL_law 419 = .ok (.istore 7, 2) := by decide +kernel
theorem dL_law_421 : decode cL_law 421 = .ok (.aload_n 2, 1) := by decide +kernel
theorem dL_law_422 : decode cL_law 422 = .ok (.invokevirtual 118, 3) := by decide +kernel
theorem dL_law_425 : decode cL_law 425 = .ok (.iload 6, 2) := by decide +kernel
theorem dL_law_427 : decode cL_law 427 = .ok (.if_icmp .eq 5, 3) := by decide +kernel
theorem dL_law_430 : decode cL_law 430 = .ok (.iconst 0, 1) := by decide +kernel
theorem dL_law_431 : decode cL_law 431 = .ok (.ireturn, 1) := by decide +kernel
theorem dL_law_432 : decode cL_law 432 = .ok (.iload 6, 2) := by decide +kernel
theorem dL_law_434 : decode cL_law 434 = .ok (.ifCond .ne 15, 3) := by decide +kernel
theorem dL_law_437 : decode cL_law 437 = .ok (.aload_n 3, 1) := by decide +kernel
theorem dL_law_438 : decode cL_law 438 = .ok (.iconst 0, 1) := by decide +kernel
theorem dL_law_439 : decode cL_law 439 = .ok (.laload, 1) := by decide +kernel
theorem dL_law_440 : decode cL_law 440 = .ok (.iload 7, 2) := by decide +kernel
theorem dL_law_442 : decode cL_law 442 = .ok (.i2l, 1) := by decide +kernel
theorem dL_law_443 : decode cL_law 443 = .ok (.lcmp, 1) := by decide +kernel
theorem dL_law_444 : decode cL_law 444 = .ok (.ifCond .eq 5, 3) := by decide +kernel
theorem dL_law_447 : decode cL_law 447 = .ok (.iconst 0, 1) := by decide +kernel
theorem dL_law_448 : decode cL_law 448 = .ok (.ireturn, 1) := by decide +kernel
theorem dL_law_449 : decode cL_law 449 = .ok (.goto 1657, 3) := by decide +kernel
theorem dL_law_452 : decode cL_law 452 = .ok (.aload_n 1, 1) := by decide +kernel
theorem dL_law_453 : decode cL_law 453 = .ok (.aload_n 0, 1) := by decide +kernel
theorem dL_law_454 : decode cL_law 454 = .ok (.iload 5, 2) := by decide +kernel
theorem dL_law_456 : decode cL_law 456 = .ok (.iconst 1, 1) := by decide +kernel
theorem dL_law_457 : decode cL_law 457 = .ok (.iadd, 1) := by decide +kernel
theorem dL_law_458 : decode cL_law 458 = .ok (.iaload, 1) := by decide +kernel
theorem dL_law_459 : decode cL_law 459 = .ok (.aload_n 0, 1) := by decide +kernel
theorem dL_law_460 : decode cL_law 460 = .ok (.iload 5, 2) := by decide +kernel
theorem dL_law_462 : decode cL_law 462 = .ok (.iconst 2, 1) := by decide +kernel
theorem dL_law_463 : decode cL_law 463 = .ok (.iadd, 1) := by decide +kernel
theorem dL_law_464 : decode cL_law 464 = .ok (.iaload, 1) := by decide +kernel
theorem dL_law_465 : decode cL_law 465 = .ok (.aload_n 0, 1) := by decide +kernel
theorem dL_law_466 : decode cL_law 466 = .ok (.iload 5, 2) := by decide +kernel
theorem dL_law_468 : decode cL_law 468 = .ok (.iconst 3, 1) := by decide +kernel
theorem dL_law_469 : decode cL_law 469 = .ok (.iadd, 1) := by decide +kernel
theorem dL_law_470 : decode cL_law 470 = .ok (.iaload, 1) := by decide +kernel
theorem dL_law_471 : decode cL_law 471 = .ok (.aload_n 3, 1) := by decide +kernel
theorem dL_law_472 : decode cL_law 472 = .ok (.invokestatic 131, 3) := by decide +kernel
theorem dL_law_475 : decode cL_law 475 = .ok (.istore 6, 2) := by decide +kernel
theorem dL_law_477 : decode cL_law 477 = .ok (.aload_n 2, 1) := by decide +kernel
theorem dL_law_478 : decode cL_law 478 = .ok (.aload_n 0, 1) := by decide +kernel
theorem dL_law_479 : decode cL_law 479 = .ok (.iload 5, 2) := by decide +kernel
theorem dL_law_481 : decode cL_law 481 = .ok (.iconst 1, 1) := by decide +kernel
theorem dL_law_482 : decode cL_law 482 = .ok (.iadd, 1) := by decide +kernel
theorem dL_law_483 : decode cL_law 483 = .ok (.iaload, 1) := by decide +kernel
theorem dL_law_484 : decode cL_law 484 = .ok (.aload_n 0, 1) := by decide +kernel
theorem dL_law_485 : decode cL_law 485 = .ok (.iload 5, 2) := by decide +kernel
theorem dL_law_487 : decode cL_law 487 = .ok (.iconst 2, 1) := by decide +kernel
theorem dL_law_488 : decode cL_law 488 = .ok (.iadd, 1) := by decide +kernel
theorem dL_law_489 : decode cL_law 489 = .ok (.iaload, 1) := by decide +kernel
theorem dL_law_490 : decode cL_law 490 = .ok (.aload_n 0, 1) := by decide +kernel
theorem dL_law_491 : decode cL_law 491 = .ok (.iload 5, 2) := by decide +kernel
theorem dL_law_493 : decode cL_law 493 = .ok (.iconst 3, 1) := by decide +kernel
theorem dL_law_494 : decode cL_law 494 = .ok (.iadd, 1) := by decide +kernel
theorem dL_law_495 : decode cL_law 495 = .ok (.iaload, 1) := by decide +kernel
theorem dL_law_496 : decode cL_law 496 = .ok (.invokevirtual 134, 3) := by decide +kernel
theorem dL_law_499 : decode cL_law 499 = .ok (.istore 7, 2) := by decide +kernel
theorem dL_law_501 : decode cL_law 501 = .ok (.aload_n 2, 1) := by decide +kernel
theorem dL_law_502 : decode cL_law 502 = .ok (.invokevirtual 118, 3) := by decide +kernel
theorem dL_law_505 : decode cL_law 505 = .ok (.iload 6, 2) := by decide +kernel
theorem dL_law_507 : decode cL_law 507 = .ok (.if_icmp .eq 5, 3) := by decide +kernel
theorem dL_law_510 : decode cL_law 510 = .ok (.iconst 0, 1) := by decide +kernel
theorem dL_law_511 : decode cL_law 511 = .ok (.ireturn, 1) := by decide +kernel
theorem dL_law_512 : decode cL_law 512 = .ok (.iload 6, 2) := by decide +kernel
theorem dL_law_514 : decode cL_law 514 = .ok (.ifCond .ne 15, 3) := by decide +kernel
theorem dL_law_517 : decode cL_law 517 = .ok (.aload_n 3, 1) := by decide +kernel
theorem dL_law_518 : decode cL_law 518 = .ok (.iconst 0, 1) := by decide +kernel
theorem dL_law_519 : decode cL_law 519 = .ok (.laload, 1) := by decide +kernel
theorem dL_law_520 : decode cL_law 520 = .ok (.iload 7, 2) := by decide +kernel
theorem dL_law_522 : decode cL_law 522 = .ok (.i2l, 1) := by decide +kernel
theorem dL_law_523 : decode cL_law 523 = .ok (.lcmp, 1) := by decide +kernel
theorem dL_law_524 : decode cL_law 524 = .ok (.ifCond .eq 5, 3) := by decide +kernel
theorem dL_law_527 : decode cL_law 527 = .ok (.iconst 0, 1) := by decide +kernel
theorem dL_law_528 : decode cL_law 528 = .ok (.ireturn, 1) := by decide +kernel
theorem dL_law_529 : decode cL_law 529 = .ok (.goto 1577, 3) := by decide +kernel
theorem dL_law_532 : decode cL_law 532 = .ok (.aload_n 1, 1) := by decide +kernel
theorem dL_law_533 : decode cL_law 533 = .ok (.aload_n 0, 1) := by decide +kernel
theorem dL_law_534 : decode cL_law 534 = .ok (.iload 5, 2) := by decide +kernel
theorem dL_law_536 : decode cL_law 536 = .ok (.iconst 1, 1) := by decide +kernel
theorem dL_law_537 : decode cL_law 537 = .ok (.iadd, 1) := by decide +kernel
theorem dL_law_538 : decode cL_law 538 = .ok (.iaload, 1) := by decide +kernel
theorem dL_law_539 : decode cL_law 539 = .ok (.aload_n 3, 1) := by decide +kernel
theorem dL_law_540 : decode cL_law 540 = .ok (.invokestatic 135, 3) := by decide +kernel
theorem dL_law_543 : decode cL_law 543 = .ok (.istore 6, 2) := by decide +kernel
theorem dL_law_545 : decode cL_law 545 = .ok (.aload_n 2, 1) := by decide +kernel
theorem dL_law_546 : decode cL_law 546 = .ok (.aload_n 0, 1) := by decide +kernel
theorem dL_law_547 : decode cL_law 547 = .ok (.iload 5, 2) := by decide +kernel
theorem dL_law_549 : decode cL_law 549 = .ok (.iconst 1, 1) := by decide +kernel
theorem dL_law_550 : decode cL_law 550 = .ok (.iadd, 1) := by decide +kernel
theorem dL_law_551 : decode cL_law 551 = .ok (.iaload, 1) := by decide +kernel
theorem dL_law_552 : decode cL_law 552 = .ok (.invokevirtual 137, 3) := by decide +kernel
theorem dL_law_555 : decode cL_law 555 = .ok (.istore 7, 2) := by decide +kernel
theorem dL_law_557 : decode cL_law 557 = .ok (.aload_n 2, 1) := by decide +kernel
theorem dL_law_558 : decode cL_law 558 = .ok (.invokevirtual 118, 3) := by decide +kernel
theorem dL_law_561 : decode cL_law 561 = .ok (.iload 6, 2) := by decide +kernel
theorem dL_law_563 : decode cL_law 563 = .ok (.if_icmp .eq 5, 3) := by decide +kernel
theorem dL_law_566 : decode cL_law 566 = .ok (.iconst 0, 1) := by decide +kernel
theorem dL_law_567 : decode cL_law 567 = .ok (.ireturn, 1) := by decide +kernel
theorem dL_law_568 : decode cL_law 568 = .ok (.iload 6, 2) := by decide +kernel
theorem dL_law_570 : decode cL_law 570 = .ok (.ifCond .ne 15, 3) := by decide +kernel
theorem dL_law_573 : decode cL_law 573 = .ok (.aload_n 3, 1) := by decide +kernel
theorem dL_law_574 : decode cL_law 574 = .ok (.iconst 0, 1) := by decide +kernel
theorem dL_law_575 : decode cL_law 575 = .ok (.laload, 1) := by decide +kernel
theorem dL_law_576 : decode cL_law 576 = .ok (.iload 7, 2) := by decide +kernel
theorem dL_law_578 : decode cL_law 578 = .ok (.i2l, 1) := by decide +kernel
theorem dL_law_579 : decode cL_law 579 = .ok (.lcmp, 1) := by decide +kernel
theorem dL_law_580 : decode cL_law 580 = .ok (.ifCond .eq 5, 3) := by decide +kernel
theorem dL_law_583 : decode cL_law 583 = .ok (.iconst 0, 1) := by decide +kernel
theorem dL_law_584 : decode cL_law 584 = .ok (.ireturn, 1) := by decide +kernel
theorem dL_law_585 : decode cL_law 585 = .ok (.goto 1521, 3) := by decide +kernel
theorem dL_law_588 : decode cL_law 588 = .ok (.aload_n 1, 1) := by decide +kernel
theorem dL_law_589 : decode cL_law 589 = .ok (.aload_n 0, 1) := by decide +kernel
theorem dL_law_590 : decode cL_law 590 = .ok (.iload 5, 2) := by decide +kernel
theorem dL_law_592 : decode cL_law 592 = .ok (.iconst 1, 1) := by decide +kernel
theorem dL_law_593 : decode cL_law 593 = .ok (.iadd, 1) := by decide +kernel
theorem dL_law_594 : decode cL_law 594 = .ok (.iaload, 1) := by decide +kernel
theorem dL_law_595 : decode cL_law 595 = .ok (.aload_n 0, 1) := by decide +kernel
theorem dL_law_596 : decode cL_law 596 = .ok (.iload 5, 2) := by decide +kernel
theorem dL_law_598 : decode cL_law 598 = .ok (.iconst 2, 1) := by decide +kernel
theorem dL_law_599 : decode cL_law 599 = .ok (.iadd, 1) := by decide +kernel
theorem dL_law_600 : decode cL_law 600 = .ok (.iaload, 1) := by decide +kernel
theorem dL_law_601 : decode cL_law 601 = .ok (.aload_n 3, 1) := by decide +kernel
theorem dL_law_602 : decode cL_law 602 = .ok (.invokestatic 138, 3) := by decide +kernel
theorem dL_law_605 : decode cL_law 605 = .ok (.istore 6, 2) := by decide +kernel
theorem dL_law_607 : decode cL_law 607 = .ok (.aload_n 2, 1) := by decide +kernel
theorem dL_law_608 : decode cL_law 608 = .ok (.aload_n 0, 1) := by decide +kernel
theorem dL_law_609 : decode cL_law 609 = .ok (.iload 5, 2) := by decide +kernel
theorem dL_law_611 : decode cL_law 611 = .ok (.iconst 1, 1) := by decide +kernel
theorem dL_law_612 : decode cL_law 612 = .ok (.iadd, 1) := by decide +kernel
theorem dL_law_613 : decode cL_law 613 = .ok (.iaload, 1) := by decide +kernel
theorem dL_law_614 : decode cL_law 614 = .ok (.aload_n 0, 1) := by decide +kernel
theorem dL_law_615 : decode cL_law 615 = .ok (.iload 5, 2) := by decide +kernel
theorem dL_law_617 : decode cL_law 617 = .ok (.iconst 2, 1) := by decide +kernel
theorem dL_law_618 : decode cL_law 618 = .ok (.iadd, 1) := by decide +kernel
theorem dL_law_619 : decode cL_law 619 = .ok (.iaload, 1) := by decide +kernel
theorem dL_law_620 : decode cL_law 620 = .ok (.invokevirtual 140, 3) := by decide +kernel
theorem dL_law_623 : decode cL_law 623 = .ok (.istore 7, 2) := by decide +kernel
theorem dL_law_625 : decode cL_law 625 = .ok (.aload_n 2, 1) := by decide +kernel
theorem dL_law_626 : decode cL_law 626 = .ok (.invokevirtual 118, 3) := by decide +kernel
theorem dL_law_629 : decode cL_law 629 = .ok (.iload 6, 2) := by decide +kernel
theorem dL_law_631 : decode cL_law 631 = .ok (.if_icmp .eq 5, 3) := by decide +kernel
theorem dL_law_634 : decode cL_law 634 = .ok (.iconst 0, 1) := by decide +kernel
theorem dL_law_635 : decode cL_law 635 = .ok (.ireturn, 1) := by decide +kernel
theorem dL_law_636 : decode cL_law 636 = .ok (.iload 6, 2) := by decide +kernel
theorem dL_law_638 : decode cL_law 638 = .ok (.ifCond .ne 15, 3) := by decide +kernel
theorem dL_law_641 : decode cL_law 641 = .ok (.aload_n 3, 1) := by decide +kernel
theorem dL_law_642 : decode cL_law 642 = .ok (.iconst 0, 1) := by decide +kernel
theorem dL_law_643 : decode cL_law 643 = .ok (.laload, 1) := by decide +kernel
theorem dL_law_644 : decode cL_law 644 = .ok (.iload 7, 2) := by decide +kernel
theorem dL_law_646 : decode cL_law 646 = .ok (.i2l, 1) := by decide +kernel
theorem dL_law_647 : decode cL_law 647 = .ok (.lcmp, 1) := by decide +kernel
theorem dL_law_648 : decode cL_law 648 = .ok (.ifCond .eq 5, 3) := by decide +kernel
theorem dL_law_651 : decode cL_law 651 = .ok (.iconst 0, 1) := by decide +kernel
theorem dL_law_652 : decode cL_law 652 = .ok (.ireturn, 1) := by decide +kernel
theorem dL_law_653 : decode cL_law 653 = .ok (.goto 1453, 3) := by decide +kernel
theorem dL_law_656 : decode cL_law 656 = .ok (.aload_n 1, 1) := by decide +kernel
theorem dL_law_657 : decode cL_law 657 = .ok (.aload_n 0, 1) := by decide +kernel
theorem dL_law_658 : decode cL_law 658 = .ok (.iload 5, 2) := by decide +kernel
theorem dL_law_660 : decode cL_law 660 = .ok (.iconst 1, 1) := by decide +kernel
theorem dL_law_661 : decode cL_law 661 = .ok (.iadd, 1) := by decide +kernel
theorem dL_law_662 : decode cL_law 662 = .ok (.iaload, 1) := by decide +kernel
theorem dL_law_663 : decode cL_law 663 = .ok (.aload_n 0, 1) := by decide +kernel
theorem dL_law_664 : decode cL_law 664 = .ok (.iload 5, 2) := by decide +kernel
theorem dL_law_666 : decode cL_law 666 = .ok (.iconst 2, 1) := by decide +kernel
theorem dL_law_667 : decode cL_law 667 = .ok (.iadd, 1) := by decide +kernel
theorem dL_law_668 : decode cL_law 668 = .ok (.iaload, 1) := by decide +kernel
theorem dL_law_669 : decode cL_law 669 = .ok (.aload_n 3, 1) := by decide +kernel
theorem dL_law_670 : decode cL_law 670 = .ok (.invokestatic 141, 3) := by decide +kernel
theorem dL_law_673 : decode cL_law 673 = .ok (.istore 6, 2) := by decide +kernel
theorem dL_law_675 : decode cL_law 675 = .ok (.aload_n 2, 1) := by decide +kernel
theorem dL_law_676 : decode cL_law 676 = .ok (.aload_n 0, 1) := by decide +kernel
theorem dL_law_677 : decode cL_law 677 = .ok (.iload 5, 2) := by decide +kernel
theorem dL_law_679 : decode cL_law 679 = .ok (.iconst 1, 1) := by decide +kernel
theorem dL_law_680 : decode cL_law 680 = .ok (.iadd, 1) := by decide +kernel
theorem dL_law_681 : decode cL_law 681 = .ok (.iaload, 1) := by decide +kernel
theorem dL_law_682 : decode cL_law 682 = .ok (.aload_n 0, 1) := by decide +kernel
theorem dL_law_683 : decode cL_law 683 = .ok (.iload 5, 2) := by decide +kernel
theorem dL_law_685 : decode cL_law 685 = .ok (.iconst 2, 1) := by decide +kernel
theorem dL_law_686 : decode cL_law 686 = .ok (.iadd, 1) := by decide +kernel
theorem dL_law_687 : decode cL_law 687 = .ok (.iaload, 1) := by decide +kernel
theorem dL_law_688 : decode cL_law 688 = .ok (.invokevirtual 143, 3) := by decide +kernel
theorem dL_law_691 : decode cL_law 691 = .ok (.istore 7, 2) := by decide +kernel
theorem dL_law_693 : decode cL_law 693 = .ok (.aload_n 2, 1) := by decide +kernel
theorem dL_law_694 : decode cL_law 694 = .ok (.invokevirtual 118, 3) := by decide +kernel
theorem dL_law_697 : decode cL_law 697 = .ok (.iload 6, 2) := by decide +kernel
theorem dL_law_699 : decode cL_law 699 = .ok (.if_icmp .eq 5, 3) := by decide +kernel
theorem dL_law_702 : decode cL_law 702 = .ok (.iconst 0, 1) := by decide +kernel
theorem dL_law_703 : decode cL_law 703 = .ok (.ireturn, 1) := by decide +kernel
theorem dL_law_704 : decode cL_law 704 = .ok (.iload 6, 2) := by decide +kernel
theorem dL_law_706 : decode cL_law 706 = .ok (.ifCond .ne 15, 3) := by decide +kernel
theorem dL_law_709 : decode cL_law 709 = .ok (.aload_n 3, 1) := by decide +kernel
theorem dL_law_710 : decode cL_law 710 = .ok (.iconst 0, 1) := by decide +kernel
theorem dL_law_711 : decode cL_law 711 = .ok (.laload, 1) := by decide +kernel
theorem dL_law_712 : decode cL_law 712 = .ok (.iload 7, 2) := by decide +kernel
theorem dL_law_714 : decode cL_law 714 = .ok (.i2l, 1) := by decide +kernel
theorem dL_law_715 : decode cL_law 715 = .ok (.lcmp, 1) := by decide +kernel
theorem dL_law_716 : decode cL_law 716 = .ok (.ifCond .eq 5, 3) := by decide +kernel
theorem dL_law_719 : decode cL_law 719 = .ok (.iconst 0, 1) := by decide +kernel
theorem dL_law_720 : decode cL_law 720 = .ok (.ireturn, 1) := by decide +kernel
theorem dL_law_721 : decode cL_law 721 = .ok (.goto 1385, 3) := by decide +kernel
theorem dL_law_724 : decode cL_law 724 = .ok (.aload_n 1, 1) := by decide +kernel
theorem dL_law_725 : decode cL_law 725 = .ok (.aload_n 0, 1) := by decide +kernel
theorem dL_law_726 : decode cL_law 726 = .ok (.iload 5, 2) := by decide +kernel
theorem dL_law_728 : decode cL_law 728 = .ok (.iconst 1, 1) := by decide +kernel
theorem dL_law_729 : decode cL_law 729 = .ok (.iadd, 1) := by decide +kernel
theorem dL_law_730 : decode cL_law 730 = .ok (.iaload, 1) := by decide +kernel
theorem dL_law_731 : decode cL_law 731 = .ok (.aload_n 3, 1) := by decide +kernel
theorem dL_law_732 : decode cL_law 732 = .ok (.invokestatic 144, 3) := by decide +kernel
theorem dL_law_735 : decode cL_law 735 = .ok (.istore 6, 2) := by decide +kernel
theorem dL_law_737 : decode cL_law 737 = .ok (.aload_n 2, 1) := by decide +kernel
theorem dL_law_738 : decode cL_law 738 = .ok (.aload_n 0, 1) := by decide +kernel
theorem dL_law_739 : decode cL_law 739 = .ok (.iload 5, 2) := by decide +kernel
theorem dL_law_741 : decode cL_law 741 = .ok (.iconst 1, 1) := by decide +kernel
theorem dL_law_742 : decode cL_law 742 = .ok (.iadd, 1) := by decide +kernel
theorem dL_law_743 : decode cL_law 743 = .ok (.iaload, 1) := by decide +kernel
theorem dL_law_744 : decode cL_law 744 = .ok (.invokevirtual 146, 3) := by decide +kernel
theorem dL_law_747 : decode cL_law 747 = .ok (.istore 7, 2) := by decide +kernel
theorem dL_law_749 : decode cL_law 749 = .ok (.aload_n 2, 1) := by decide +kernel
theorem dL_law_750 : decode cL_law 750 = .ok (.invokevirtual 118, 3) := by decide +kernel
theorem dL_law_753 : decode cL_law 753 = .ok (.iload 6, 2) := by decide +kernel
theorem dL_law_755 : decode cL_law 755 = .ok (.if_icmp .eq 5, 3) := by decide +kernel
theorem dL_law_758 : decode cL_law 758 = .ok (.iconst 0, 1) := by decide +kernel
theorem dL_law_759 : decode cL_law 759 = .ok (.ireturn, 1) := by decide +kernel
theorem dL_law_760 : decode cL_law 760 = .ok (.iload 6, 2) := by decide +kernel
theorem dL_law_762 : decode cL_law 762 = .ok (.ifCond .ne 15, 3) := by decide +kernel
theorem dL_law_765 : decode cL_law 765 = .ok (.aload_n 3, 1) := by decide +kernel
theorem dL_law_766 : decode cL_law 766 = .ok (.iconst 0, 1) := by decide +kernel
theorem dL_law_767 : decode cL_law 767 = .ok (.laload, 1) := by decide +kernel
theorem dL_law_768 : decode cL_law 768 = .ok (.iload 7, 2) := by decide +kernel
theorem dL_law_770 : decode cL_law 770 = .ok (.i2l, 1) := by decide +kernel
theorem dL_law_771 : decode cL_law 771 = .ok (.lcmp, 1) := by decide +kernel
theorem dL_law_772 : decode cL_law 772 = .ok (.ifCond .eq 5, 3) := by decide +kernel
theorem dL_law_775 : decode cL_law 775 = .ok (.iconst 0, 1) := by decide +kernel
theorem dL_law_776 : decode cL_law 776 = .ok (.ireturn, 1) := by decide +kernel
theorem dL_law_777 : decode cL_law 777 = .ok (.goto 1329, 3) := by decide +kernel
theorem dL_law_780 : decode cL_law 780 = .ok (.aload_n 1, 1) := by decide +kernel
theorem dL_law_781 : decode cL_law 781 = .ok (.aload_n 0, 1) := by decide +kernel
theorem dL_law_782 : decode cL_law 782 = .ok (.iload 5, 2) := by decide +kernel
theorem dL_law_784 : decode cL_law 784 = .ok (.iconst 1, 1) := by decide +kernel
theorem dL_law_785 : decode cL_law 785 = .ok (.iadd, 1) := by decide +kernel
theorem dL_law_786 : decode cL_law 786 = .ok (.iaload, 1) := by decide +kernel
theorem dL_law_787 : decode cL_law 787 = .ok (.aload_n 3, 1) := by decide +kernel
theorem dL_law_788 : decode cL_law 788 = .ok (.invokestatic 147, 3) := by decide +kernel
theorem dL_law_791 : decode cL_law 791 = .ok (.istore 6, 2) := by decide +kernel
theorem dL_law_793 : decode cL_law 793 = .ok (.aload_n 2, 1) := by decide +kernel
theorem dL_law_794 : decode cL_law 794 = .ok (.aload_n 0, 1) := by decide +kernel
theorem dL_law_795 : decode cL_law 795 = .ok (.iload 5, 2) := by decide +kernel
theorem dL_law_797 : decode cL_law 797 = .ok (.iconst 1, 1) := by decide +kernel
theorem dL_law_798 : decode cL_law 798 = .ok (.iadd, 1) := by decide +kernel
theorem dL_law_799 : decode cL_law 799 = .ok (.iaload, 1) := by decide +kernel
theorem dL_law_800 : decode cL_law 800 = .ok (.invokevirtual 149, 3) := by decide +kernel
theorem dL_law_803 : decode cL_law 803 = .ok (.istore 7, 2) := by decide +kernel
theorem dL_law_805 : decode cL_law 805 = .ok (.aload_n 2, 1) := by decide +kernel
theorem dL_law_806 : decode cL_law 806 = .ok (.invokevirtual 118, 3) := by decide +kernel
theorem dL_law_809 : decode cL_law 809 = .ok (.iload 6, 2) := by decide +kernel
theorem dL_law_811 : decode cL_law 811 = .ok (.if_icmp .eq 5, 3) := by decide +kernel
theorem dL_law_814 : decode cL_law 814 = .ok (.iconst 0, 1) := by decide +kernel
theorem dL_law_815 : decode cL_law 815 = .ok (.ireturn, 1) := by decide +kernel
theorem dL_law_816 : decode cL_law 816 = .ok (.iload 6, 2) := by decide +kernel
theorem dL_law_818 : decode cL_law 818 = .ok (.ifCond .ne 15, 3) := by decide +kernel
theorem dL_law_821 : decode cL_law 821 = .ok (.aload_n 3, 1) := by decide +kernel
theorem dL_law_822 : decode cL_law 822 = .ok (.iconst 0, 1) := by decide +kernel
theorem dL_law_823 : decode cL_law 823 = .ok (.laload, 1) := by decide +kernel
theorem dL_law_824 : decode cL_law 824 = .ok (.iload 7, 2) := by decide +kernel
theorem dL_law_826 : decode cL_law 826 = .ok (.i2l, 1) := by decide +kernel
theorem dL_law_827 : decode cL_law 827 = .ok (.lcmp, 1) := by decide +kernel
theorem dL_law_828 : decode cL_law 828 = .ok (.ifCond .eq 5, 3) := by decide +kernel
theorem dL_law_831 : decode cL_law 831 = .ok (.iconst 0, 1) := by decide +kernel
theorem dL_law_832 : decode cL_law 832 = .ok (.ireturn, 1) := by decide +kernel
theorem dL_law_833 : decode cL_law 833 = .ok (.goto 1273, 3) := by decide +kernel
theorem dL_law_836 : decode cL_law 836 = .ok (.aload_n 1, 1) := by decide +kernel
theorem dL_law_837 : decode cL_law 837 = .ok (.invokevirtual 150, 3) := by decide +kernel
theorem dL_law_840 : decode cL_law 840 = .ok (.aload_n 2, 1) := by decide +kernel
theorem dL_law_841 : decode cL_law 841 = .ok (.invokevirtual 153, 3) := by decide +kernel
theorem dL_law_844 : decode cL_law 844 = .ok (.if_icmp .eq 1262, 3) := by decide +kernel
theorem dL_law_847 : decode cL_law 847 = .ok (.iconst 0, 1) := by decide +kernel
theorem dL_law_848 : decode cL_law 848 = .ok (.ireturn, 1) := by decide +kernel
theorem dL_law_849 : decode cL_law 849 = .ok (.aload_n 1, 1) := by decide +kernel
theorem dL_law_850 : decode cL_law 850 = .ok (.invokevirtual 154, 3) := by decide +kernel
theorem dL_law_853 : decode cL_law 853 = .ok (.aload_n 2, 1) := by decide +kernel
theorem dL_law_854 : decode cL_law 854 = .ok (.invokevirtual 157, 3) := by decide +kernel
theorem dL_law_857 : decode cL_law 857 = .ok (.if_icmp .eq 1249, 3) := by decide +kernel
theorem dL_law_860 : decode cL_law 860 = .ok (.iconst 0, 1) := by decide +kernel
theorem dL_law_861 : decode cL_law 861 = .ok (.ireturn, 1) := by decide +kernel
theorem dL_law_862 : decode cL_law 862 = .ok (.aload_n 1, 1) := by decide +kernel
theorem dL_law_863 : decode cL_law 863 = .ok (.aload_n 3, 1) := by decide +kernel
theorem dL_law_864 : decode cL_law 864 = .ok (.invokestatic 158, 3) := by decide +kernel
theorem dL_law_867 : decode cL_law 867 = .ok (.istore 6, 2) := by decide +kernel
theorem dL_law_869 : decode cL_law 869 = .ok (.aload_n 2, 1) := by decide +kernel
theorem dL_law_870 : decode cL_law 870 = .ok (.invokevirtual 161, 3) := by decide +kernel
theorem dL_law_873 : decode cL_law 873 = .ok (.istore 7, 2) := by decide +kernel
theorem dL_law_875 : decode cL_law 875 = .ok (.aload_n 2, 1) := by decide +kernel
theorem dL_law_876 : decode cL_law 876 = .ok (.invokevirtual 118, 3) := by decide +kernel
theorem dL_law_879 : decode cL_law 879 = .ok (.iload 6, 2) := by decide +kernel
theorem dL_law_881 : decode cL_law 881 = .ok (.if_icmp .eq 5, 3) := by decide +kernel
theorem dL_law_884 : decode cL_law 884 = .ok (.iconst 0, 1) := by decide +kernel
theorem dL_law_885 : decode cL_law 885 = .ok (.ireturn, 1) := by decide +kernel
theorem dL_law_886 : decode cL_law 886 = .ok (.iload 6, 2) := by decide +kernel
theorem dL_law_888 : decode cL_law 888 = .ok (.ifCond .ne 15, 3) := by decide +kernel
theorem dL_law_891 : decode cL_law 891 = .ok (.aload_n 3, 1) := by decide +kernel
theorem dL_law_892 : decode cL_law 892 = .ok (.iconst 0, 1) := by decide +kernel
theorem dL_law_893 : decode cL_law 893 = .ok (.laload, 1) := by decide +kernel
theorem dL_law_894 : decode cL_law 894 = .ok (.iload 7, 2) := by decide +kernel
theorem dL_law_896 : decode cL_law 896 = .ok (.i2l, 1) := by decide +kernel
theorem dL_law_897 : decode cL_law 897 = .ok (.lcmp, 1) := by decide +kernel
theorem dL_law_898 : decode cL_law 898 = .ok (.ifCond .eq 5, 3) := by decide +kernel
theorem dL_law_901 : decode cL_law 901 = .ok (.iconst 0, 1) := by decide +kernel
theorem dL_law_902 : decode cL_law 902 = .ok (.ireturn, 1) := by decide +kernel
theorem dL_law_903 : decode cL_law 903 = .ok (.goto 1203, 3) := by decide +kernel
theorem dL_law_906 : decode cL_law 906 = .ok (.aload_n 1, 1) := by decide +kernel
theorem dL_law_907 : decode cL_law 907 = .ok (.aload_n 0, 1) := by decide +kernel
theorem dL_law_908 : decode cL_law 908 = .ok (.iload 5, 2) := by decide +kernel
theorem dL_law_910 : decode cL_law 910 = .ok (.iconst 1, 1) := by decide +kernel
theorem dL_law_911 : decode cL_law 911 = .ok (.iadd, 1) := by decide +kernel
theorem dL_law_912 : decode cL_law 912 = .ok (.iaload, 1) := by decide +kernel
theorem dL_law_913 : decode cL_law 913 = .ok (.aload_n 3, 1) := by decide +kernel
theorem dL_law_914 : decode cL_law 914 = .ok (.invokestatic 162, 3) := by decide +kernel
theorem dL_law_917 : decode cL_law 917 = .ok (.istore 6, 2) := by decide +kernel
theorem dL_law_919 : decode cL_law 919 = .ok (.aload_n 2, 1) := by decide +kernel
theorem dL_law_920 : decode cL_law 920 = .ok (.aload_n 0, 1) := by decide +kernel
theorem dL_law_921 : decode cL_law 921 = .ok (.iload 5, 2) := by decide +kernel
theorem dL_law_923 : decode cL_law 923 = .ok (.iconst 1, 1) := by decide +kernel
theorem dL_law_924 : decode cL_law 924 = .ok (.iadd, 1) := by decide +kernel
theorem dL_law_925 : decode cL_law 925 = .ok (.iaload, 1) := by decide +kernel
theorem dL_law_926 : decode cL_law 926 = .ok (.invokevirtual 164, 3) := by decide +kernel
theorem dL_law_929 : decode cL_law 929 = .ok (.istore 7, 2) := by decide +kernel
theorem dL_law_931 : decode cL_law 931 = .ok (.aload_n 2, 1) := by decide +kernel
theorem dL_law_932 : decode cL_law 932 = .ok (.invokevirtual 118, 3) := by decide +kernel
theorem dL_law_935 : decode cL_law 935 = .ok (.iload 6, 2) := by decide +kernel
theorem dL_law_937 : decode cL_law 937 = .ok (.if_icmp .eq 5, 3) := by decide +kernel
theorem dL_law_940 : decode cL_law 940 = .ok (.iconst 0, 1) := by decide +kernel
theorem dL_law_941 : decode cL_law 941 = .ok (.ireturn, 1) := by decide +kernel
theorem dL_law_942 : decode cL_law 942 = .ok (.iload 6, 2) := by decide +kernel
theorem dL_law_944 : decode cL_law 944 = .ok (.ifCond .ne 15, 3) := by decide +kernel
theorem dL_law_947 : decode cL_law 947 = .ok (.aload_n 3, 1) := by decide +kernel
theorem dL_law_948 : decode cL_law 948 = .ok (.iconst 0, 1) := by decide +kernel
theorem dL_law_949 : decode cL_law 949 = .ok (.laload, 1) := by decide +kernel
theorem dL_law_950 : decode cL_law 950 = .ok (.iload 7, 2) := by decide +kernel
theorem dL_law_952 : decode cL_law 952 = .ok (.i2l, 1) := by decide +kernel
theorem dL_law_953 : decode cL_law 953 = .ok (.lcmp, 1) := by decide +kernel
theorem dL_law_954 : decode cL_law 954 = .ok (.ifCond .eq 5, 3) := by decide +kernel
theorem dL_law_957 : decode cL_law 957 = .ok (.iconst 0, 1) := by decide +kernel
theorem dL_law_958 : decode cL_law 958 = .ok (.ireturn, 1) := by decide +kernel
theorem dL_law_959 : decode cL_law 959 = .ok (.goto 1147, 3) := by decide +kernel
theorem dL_law_962 : decode cL_law 962 = .ok (.aload_n 1, 1) := by decide +kernel
theorem dL_law_963 : decode cL_law 963 = .ok (.aload_n 3, 1) := by decide +kernel
theorem dL_law_964 : decode cL_law 964 = .ok (.invokestatic 165, 3) := by decide +kernel
theorem dL_law_967 : decode cL_law 967 = .ok (.istore 6, 2) := by decide +kernel
theorem dL_law_969 : decode cL_law 969 = .ok (.aload_n 2, 1) := by decide +kernel
theorem dL_law_970 : decode cL_law 970 = .ok (.invokevirtual 167, 3) := by decide +kernel
theorem dL_law_973 : decode cL_law 973 = .ok (.istore 7, 2) := by decide +kernel
theorem dL_law_975 : decode cL_law 975 = .ok (.aload_n 2, 1) := by decide +kernel
theorem dL_law_976 : decode cL_law 976 = .ok (.invokevirtual 118, 3) := by decide +kernel
theorem dL_law_979 : decode cL_law 979 = .ok (.iload 6, 2) := by decide +kernel
theorem dL_law_981 : decode cL_law 981 = .ok (.if_icmp .eq 5, 3) := by decide +kernel
theorem dL_law_984 : decode cL_law 984 = .ok (.iconst 0, 1) := by decide +kernel
theorem dL_law_985 : decode cL_law 985 = .ok (.ireturn, 1) := by decide +kernel
theorem dL_law_986 : decode cL_law 986 = .ok (.iload 6, 2) := by decide +kernel
theorem dL_law_988 : decode cL_law 988 = .ok (.ifCond .ne 15, 3) := by decide +kernel
theorem dL_law_991 : decode cL_law 991 = .ok (.aload_n 3, 1) := by decide +kernel
theorem dL_law_992 : decode cL_law 992 = .ok (.iconst 0, 1) := by decide +kernel
theorem dL_law_993 : decode cL_law 993 = .ok (.laload, 1) := by decide +kernel
theorem dL_law_994 : decode cL_law 994 = .ok (.iload 7, 2) := by decide +kernel
theorem dL_law_996 : decode cL_law 996 = .ok (.i2l, 1) := by decide +kernel
theorem dL_law_997 : decode cL_law 997 = .ok (.lcmp, 1) := by decide +kernel
theorem dL_law_998 : decode cL_law 998 = .ok (.ifCond .eq 5, 3) := by decide +kernel
theorem dL_law_1001 : decode cL_law 1001 = .ok (.iconst 0, 1) := by decide +kernel
theorem dL_law_1002 : decode cL_law 1002 = .ok (.ireturn, 1) := by decide +kernel
theorem dL_law_1003 : decode cL_law 1003 = .ok (.goto 1103, 3) := by decide +kernel
theorem dL_law_1006 : decode cL_law 1006 = .ok (.aload_n 1, 1) := by decide +kernel
theorem dL_law_1007 : decode cL_law 1007 = .ok (.aload_n 0, 1) := by decide +kernel
theorem dL_law_1008 : decode cL_law 1008 = .ok (.iload 5, 2) := by decide +kernel
theorem dL_law_1010 : decode cL_law 1010 = .ok (.iconst 1, 1) := by decide +kernel
theorem dL_law_1011 : decode cL_law 1011 = .ok (.iadd, 1) := by decide +kernel
theorem dL_law_1012 : decode cL_law 1012 = .ok (.iaload, 1) := by decide +kernel
theorem dL_law_1013 : decode cL_law 1013 = .ok (.aload_n 3, 1) := by decide +kernel
theorem dL_law_1014 : decode cL_law 1014 = .ok (.invokestatic 168, 3) := by decide +kernel
theorem dL_law_1017 : decode cL_law 1017 = .ok (.istore 6, 2) := by decide +kernel
theorem dL_law_1019 : decode cL_law 1019 = .ok (.aload_n 2, 1) := by decide +kernel
theorem dL_law_1020 : decode cL_law 1020 = .ok (.aload_n 0, 1) := by decide +kernel
theorem dL_law_1021 : decode cL_law 1021 = .ok (.iload 5, 2) := by decide +kernel
theorem dL_law_1023 : decode cL_law 1023 = .ok (.iconst 1, 1) := by decide +kernel
theorem dL_law_1024 : decode cL_law 1024 = .ok (.iadd, 1) := by decide +kernel
theorem dL_law_1025 : decode cL_law 1025 = .ok (.iaload, 1) := by decide +kernel
theorem dL_law_1026 : decode cL_law 1026 = .ok (.invokevirtual 170, 3) := by decide +kernel
theorem dL_law_1029 : decode cL_law 1029 = .ok (.istore 7, 2) := by decide +kernel
theorem dL_law_1031 : decode cL_law 1031 = .ok (.aload_n 2, 1) := by decide +kernel
theorem dL_law_1032 : decode cL_law 1032 = .ok (.invokevirtual 118, 3) := by decide +kernel
theorem dL_law_1035 : decode cL_law 1035 = .ok (.iload 6, 2) := by decide +kernel
theorem dL_law_1037 : decode cL_law 1037 = .ok (.if_icmp .eq 5, 3) := by decide +kernel
theorem dL_law_1040 : decode cL_law 1040 = .ok (.iconst 0, 1) := by decide +kernel
theorem dL_law_1041 : decode cL_law 1041 = .ok (.ireturn, 1) := by decide +kernel
theorem dL_law_1042 : decode cL_law 1042 = .ok (.iload 6, 2) := by decide +kernel
theorem dL_law_1044 : decode cL_law 1044 = .ok (.ifCond .ne 15, 3) := by decide +kernel
theorem dL_law_1047 : decode cL_law 1047 = .ok (.aload_n 3, 1) := by decide +kernel
theorem dL_law_1048 : decode cL_law 1048 = .ok (.iconst 0, 1) := by decide +kernel
theorem dL_law_1049 : decode cL_law 1049 = .ok (.laload, 1) := by decide +kernel
theorem dL_law_1050 : decode cL_law 1050 = .ok (.iload 7, 2) := by decide +kernel
theorem dL_law_1052 : decode cL_law 1052 = .ok (.i2l, 1) := by decide +kernel
theorem dL_law_1053 : decode cL_law 1053 = .ok (.lcmp, 1) := by decide +kernel
theorem dL_law_1054 : decode cL_law 1054 = .ok (.ifCond .eq 5, 3) := by decide +kernel
theorem dL_law_1057 : decode cL_law 1057 = .ok (.iconst 0, 1) := by decide +kernel
theorem dL_law_1058 : decode cL_law 1058 = .ok (.ireturn, 1) := by decide +kernel
theorem dL_law_1059 : decode cL_law 1059 = .ok (.goto 1047, 3) := by decide +kernel
theorem dL_law_1062 : decode cL_law 1062 = .ok (.aload_n 1, 1) := by decide +kernel
theorem dL_law_1063 : decode cL_law 1063 = .ok (.aload_n 0, 1) := by decide +kernel
theorem dL_law_1064 : decode cL_law 1064 = .ok (.iload 5, 2) := by decide +kernel
theorem dL_law_1066 : decode cL_law 1066 = .ok (.iconst 1, 1) := by decide +kernel
theorem dL_law_1067 : decode cL_law 1067 = .ok (.iadd, 1) := by decide +kernel
theorem dL_law_1068 : decode cL_law 1068 = .ok (.iaload, 1) := by decide +kernel
theorem dL_law_1069 : decode cL_law 1069 = .ok (.aload_n 3, 1) := by decide +kernel
theorem dL_law_1070 : decode cL_law 1070 = .ok (.invokestatic 171, 3) := by decide +kernel
theorem dL_law_1073 : decode cL_law 1073 = .ok (.istore 6, 2) := by decide +kernel
theorem dL_law_1075 : decode cL_law 1075 = .ok (.aload_n 2, 1) := by decide +kernel
theorem dL_law_1076 : decode cL_law 1076 = .ok (.aload_n 0, 1) := by decide +kernel
theorem dL_law_1077 : decode cL_law 1077 = .ok (.iload 5, 2) := by decide +kernel
theorem dL_law_1079 : decode cL_law 1079 = .ok (.iconst 1, 1) := by decide +kernel
theorem dL_law_1080 : decode cL_law 1080 = .ok (.iadd, 1) := by decide +kernel
theorem dL_law_1081 : decode cL_law 1081 = .ok (.iaload, 1) := by decide +kernel
theorem dL_law_1082 : decode cL_law 1082 = .ok (.invokevirtual 173, 3) := by decide +kernel
theorem dL_law_1085 : decode cL_law 1085 = .ok (.istore 7, 2) := by decide +kernel
theorem dL_law_1087 : decode cL_law 1087 = .ok (.aload_n 2, 1) := by decide +kernel
theorem dL_law_1088 : decode cL_law 1088 = .ok (.invokevirtual 118, 3) := by decide +kernel
theorem dL_law_1091 : decode cL_law 1091 = .ok (.iload 6, 2) := by decide +kernel
theorem dL_law_1093 : decode cL_law 1093 = .ok (.if_icmp .eq 5, 3) := by decide +kernel
theorem dL_law_1096 : decode cL_law 1096 = .ok (.iconst 0, 1) := by decide +kernel
theorem dL_law_1097 : decode cL_law 1097 = .ok (.ireturn, 1) := by decide +kernel
theorem dL_law_1098 : decode cL_law 1098 = .ok (.iload 6, 2) := by decide +kernel
theorem dL_law_1100 : decode cL_law 1100 = .ok (.ifCond .ne 15, 3) := by decide +kernel
theorem dL_law_1103 : decode cL_law 1103 = .ok (.aload_n 3, 1) := by decide +kernel
theorem dL_law_1104 : decode cL_law 1104 = .ok (.iconst 0, 1) := by decide +kernel
theorem dL_law_1105 : decode cL_law 1105 = .ok (.laload, 1) := by decide +kernel
theorem dL_law_1106 : decode cL_law 1106 = .ok (.iload 7, 2) := by decide +kernel
theorem dL_law_1108 : decode cL_law 1108 = .ok (.i2l, 1) := by decide +kernel
theorem dL_law_1109 : decode cL_law 1109 = .ok (.lcmp, 1) := by decide +kernel
theorem dL_law_1110 : decode cL_law 1110 = .ok (.ifCond .eq 5, 3) := by decide +kernel
theorem dL_law_1113 : decode cL_law 1113 = .ok (.iconst 0, 1) := by decide +kernel
theorem dL_law_1114 : decode cL_law 1114 = .ok (.ireturn, 1) := by decide +kernel
theorem dL_law_1115 : decode cL_law 1115 = .ok (.goto 991, 3) := by decide +kernel
theorem dL_law_1118 : decode cL_law 1118 = .ok (.aload_n 1, 1) := by decide +kernel
theorem dL_law_1119 : decode cL_law 1119 = .ok (.aload_n 0, 1) := by decide +kernel
theorem dL_law_1120 : decode cL_law 1120 = .ok (.iload 5, 2) := by decide +kernel
theorem dL_law_1122 : decode cL_law 1122 = .ok (.iconst 1, 1) := by decide +kernel
theorem dL_law_1123 : decode cL_law 1123 = .ok (.iadd, 1) := by decide +kernel
theorem dL_law_1124 : decode cL_law 1124 = .ok (.iaload, 1) := by decide +kernel
theorem dL_law_1125 : decode cL_law 1125 = .ok (.aload_n 0, 1) := by decide +kernel
theorem dL_law_1126 : decode cL_law 1126 = .ok (.iload 5, 2) := by decide +kernel
theorem dL_law_1128 : decode cL_law 1128 = .ok (.iconst 2, 1) := by decide +kernel
theorem dL_law_1129 : decode cL_law 1129 = .ok (.iadd, 1) := by decide +kernel
theorem dL_law_1130 : decode cL_law 1130 = .ok (.iaload, 1) := by decide +kernel
theorem dL_law_1131 : decode cL_law 1131 = .ok (.aload_n 0, 1) := by decide +kernel
theorem dL_law_1132 : decode cL_law 1132 = .ok (.iload 5, 2) := by decide +kernel
theorem dL_law_1134 : decode cL_law 1134 = .ok (.iconst 3, 1) := by decide +kernel
theorem dL_law_1135 : decode cL_law 1135 = .ok (.iadd, 1) := by decide +kernel
theorem dL_law_1136 : decode cL_law 1136 = .ok (.iaload, 1) := by decide +kernel
theorem dL_law_1137 : decode cL_law 1137 = .ok (.aload_n 3, 1) := by decide +kernel
theorem dL_law_1138 : decode cL_law 1138 = .ok (.invokestatic 174, 3) := by decide +kernel
theorem dL_law_1141 : decode cL_law 1141 = .ok (.istore 6, 2) := by decide +kernel
theorem dL_law_1143 : decode cL_law 1143 = .ok (.aload_n 2, 1) := by decide +kernel
theorem dL_law_1144 : decode cL_law 1144 = .ok (.aload_n 0, 1) := by decide +kernel
theorem dL_law_1145 : decode cL_law 1145 = .ok (.iload 5, 2) := by decide +kernel
theorem dL_law_1147 : decode cL_law 1147 = .ok (.iconst 1, 1) := by decide +kernel
theorem dL_law_1148 : decode cL_law 1148 = .ok (.iadd, 1) := by decide +kernel
theorem dL_law_1149 : decode cL_law 1149 = .ok (.iaload, 1) := by decide +kernel
theorem dL_law_1150 : decode cL_law 1150 = .ok (.aload_n 0, 1) := by decide +kernel
theorem dL_law_1151 : decode cL_law 1151 = .ok (.iload 5, 2) := by decide +kernel
theorem dL_law_1153 : decode cL_law 1153 = .ok (.iconst 2, 1) := by decide +kernel
theorem dL_law_1154 : decode cL_law 1154 = .ok (.iadd, 1) := by decide +kernel
theorem dL_law_1155 : decode cL_law 1155 = .ok (.iaload, 1) := by decide +kernel
theorem dL_law_1156 : decode cL_law 1156 = .ok (.aload_n 0, 1) := by decide +kernel
theorem dL_law_1157 : decode cL_law 1157 = .ok (.iload 5, 2) := by decide +kernel
theorem dL_law_1159 : decode cL_law 1159 = .ok (.iconst 3, 1) := by decide +kernel
theorem dL_law_1160 : decode cL_law 1160 = .ok (.iadd, 1) := by decide +kernel
theorem dL_law_1161 : decode cL_law 1161 = .ok (.iaload, 1) := by decide +kernel
theorem dL_law_1162 : decode cL_law 1162 = .ok (.invokevirtual 176, 3) := by decide +kernel
theorem dL_law_1165 : decode cL_law 1165 = .ok (.istore 7, 2) := by decide +kernel
theorem dL_law_1167 : decode cL_law 1167 = .ok (.aload_n 2, 1) := by decide +kernel
theorem dL_law_1168 : decode cL_law 1168 = .ok (.invokevirtual 118, 3) := by decide +kernel
theorem dL_law_1171 : decode cL_law 1171 = .ok (.iload 6, 2) := by decide +kernel
theorem dL_law_1173 : decode cL_law 1173 = .ok (.if_icmp .eq 5, 3) := by decide +kernel
theorem dL_law_1176 : decode cL_law 1176 = .ok (.iconst 0, 1) := by decide +kernel
theorem dL_law_1177 : decode cL_law 1177 = .ok (.ireturn, 1) := by decide +kernel
theorem dL_law_1178 : decode cL_law 1178 = .ok (.iload 6, 2) := by decide +kernel
theorem dL_law_1180 : decode cL_law 1180 = .ok (.ifCond .ne 15, 3) := by decide +kernel
theorem dL_law_1183 : decode cL_law 1183 = .ok (.aload_n 3, 1) := by decide +kernel
theorem dL_law_1184 : decode cL_law 1184 = .ok (.iconst 0, 1) := by decide +kernel
theorem dL_law_1185 : decode cL_law 1185 = .ok (.laload, 1) := by decide +kernel
theorem dL_law_1186 : decode cL_law 1186 = .ok (.iload 7, 2) := by decide +kernel
theorem dL_law_1188 : decode cL_law 1188 = .ok (.i2l, 1) := by decide +kernel
theorem dL_law_1189 : decode cL_law 1189 = .ok (.lcmp, 1) := by decide +kernel
theorem dL_law_1190 : decode cL_law 1190 = .ok (.ifCond .eq 5, 3) := by decide +kernel
theorem dL_law_1193 : decode cL_law 1193 = .ok (.iconst 0, 1) := by decide +kernel
theorem dL_law_1194 : decode cL_law 1194 = .ok (.ireturn, 1) := by decide +kernel
theorem dL_law_1195 : decode cL_law 1195 = .ok (.goto 911, 3) := by decide +kernel
theorem dL_law_1198 : decode cL_law 1198 = .ok (.aload_n 1, 1) := by decide +kernel
theorem dL_law_1199 : decode cL_law 1199 = .ok (.aload_n 0, 1) := by decide +kernel
theorem dL_law_1200 : decode cL_law 1200 = .ok (.iload 5, 2) := by decide +kernel
theorem dL_law_1202 : decode cL_law 1202 = .ok (.iconst 1, 1) := by decide +kernel
theorem dL_law_1203 : decode cL_law 1203 = .ok (.iadd, 1) := by decide +kernel
theorem dL_law_1204 : decode cL_law 1204 = .ok (.iaload, 1) := by decide +kernel
theorem dL_law_1205 : decode cL_law 1205 = .ok (.aload_n 0, 1) := by decide +kernel
theorem dL_law_1206 : decode cL_law 1206 = .ok (.iload 5, 2) := by decide +kernel
theorem dL_law_1208 : decode cL_law 1208 = .ok (.iconst 2, 1) := by decide +kernel
theorem dL_law_1209 : decode cL_law 1209 = .ok (.iadd, 1) := by decide +kernel
theorem dL_law_1210 : decode cL_law 1210 = .ok (.iaload, 1) := by decide +kernel
theorem dL_law_1211 : decode cL_law 1211 = .ok (.aload_n 3, 1) := by decide +kernel
theorem dL_law_1212 : decode cL_law 1212 = .ok (.invokestatic 177, 3) := by decide +kernel
theorem dL_law_1215 : decode cL_law 1215 = .ok (.istore 6, 2) := by decide +kernel
theorem dL_law_1217 : decode cL_law 1217 = .ok (.aload_n 2, 1) := by decide +kernel
theorem dL_law_1218 : decode cL_law 1218 = .ok (.aload_n 0, 1) := by decide +kernel
theorem dL_law_1219 : decode cL_law 1219 = .ok (.iload 5, 2) := by decide +kernel
theorem dL_law_1221 : decode cL_law 1221 = .ok (.iconst 1, 1) := by decide +kernel
theorem dL_law_1222 : decode cL_law 1222 = .ok (.iadd, 1) := by decide +kernel
theorem dL_law_1223 : decode cL_law 1223 = .ok (.iaload, 1) := by decide +kernel
theorem dL_law_1224 : decode cL_law 1224 = .ok (.aload_n 0, 1) := by decide +kernel
theorem dL_law_1225 : decode cL_law 1225 = .ok (.iload 5, 2) := by decide +kernel
theorem dL_law_1227 : decode cL_law 1227 = .ok (.iconst 2, 1) := by decide +kernel
theorem dL_law_1228 : decode cL_law 1228 = .ok (.iadd, 1) := by decide +kernel
theorem dL_law_1229 : decode cL_law 1229 = .ok (.iaload, 1) := by decide +kernel
theorem dL_law_1230 : decode cL_law 1230 = .ok (.invokevirtual 179, 3) := by decide +kernel
theorem dL_law_1233 : decode cL_law 1233 = .ok (.istore 7, 2) := by decide +kernel
theorem dL_law_1235 : decode cL_law 1235 = .ok (.aload_n 2, 1) := by decide +kernel
theorem dL_law_1236 : decode cL_law 1236 = .ok (.invokevirtual 118, 3) := by decide +kernel
theorem dL_law_1239 : decode cL_law 1239 = .ok (.iload 6, 2) := by decide +kernel
theorem dL_law_1241 : decode cL_law 1241 = .ok (.if_icmp .eq 5, 3) := by decide +kernel
theorem dL_law_1244 : decode cL_law 1244 = .ok (.iconst 0, 1) := by decide +kernel
theorem dL_law_1245 : decode cL_law 1245 = .ok (.ireturn, 1) := by decide +kernel
theorem dL_law_1246 : decode cL_law 1246 = .ok (.iload 6, 2) := by decide +kernel
theorem dL_law_1248 : decode cL_law 1248 = .ok (.ifCond .ne 15, 3) := by decide +kernel
theorem dL_law_1251 : decode cL_law 1251 = .ok (.aload_n 3, 1) := by decide +kernel
theorem dL_law_1252 : decode cL_law 1252 = .ok (.iconst 0, 1) := by decide +kernel
theorem dL_law_1253 : decode cL_law 1253 = .ok (.laload, 1) := by decide +kernel
theorem dL_law_1254 : decode cL_law 1254 = .ok (.iload 7, 2) := by decide +kernel
theorem dL_law_1256 : decode cL_law 1256 = .ok (.i2l, 1) := by decide +kernel
theorem dL_law_1257 : decode cL_law 1257 = .ok (.lcmp, 1) := by decide +kernel
theorem dL_law_1258 : decode cL_law 1258 = .ok (.ifCond .eq 5, 3) := by decide +kernel
theorem dL_law_1261 : decode cL_law 1261 = .ok (.iconst 0, 1) := by decide +kernel
theorem dL_law_1262 : decode cL_law 1262 = .ok (.ireturn, 1) := by decide +kernel
theorem dL_law_1263 : decode cL_law 1263 = .ok (.goto 843, 3) := by decide +kernel
theorem dL_law_1266 : decode cL_law 1266 = .ok (.aload_n 1, 1) := by decide +kernel
theorem dL_law_1267 : decode cL_law 1267 = .ok (.aload_n 0, 1) := by decide +kernel
theorem dL_law_1268 : decode cL_law 1268 = .ok (.iload 5, 2) := by decide +kernel
theorem dL_law_1270 : decode cL_law 1270 = .ok (.iconst 1, 1) := by decide +kernel
theorem dL_law_1271 : decode cL_law 1271 = .ok (.iadd, 1) := by decide +kernel
theorem dL_law_1272 : decode cL_law 1272 = .ok (.iaload, 1) := by decide +kernel
theorem dL_law_1273 : decode cL_law 1273 = .ok (.aload_n 0, 1) := by decide +kernel
theorem dL_law_1274 : decode cL_law 1274 = .ok (.iload 5, 2) := by decide +kernel
theorem dL_law_1276 : decode cL_law 1276 = .ok (.iconst 2, 1) := by decide +kernel
theorem dL_law_1277 : decode cL_law 1277 = .ok (.iadd, 1) := by decide +kernel
theorem dL_law_1278 : decode cL_law 1278 = .ok (.iaload, 1) := by decide +kernel
theorem dL_law_1279 : decode cL_law 1279 = .ok (.aload_n 3, 1) := by decide +kernel
theorem dL_law_1280 : decode cL_law 1280 = .ok (.invokestatic 180, 3) := by decide +kernel
theorem dL_law_1283 : decode cL_law 1283 = .ok (.istore 6, 2) := by decide +kernel
theorem dL_law_1285 : decode cL_law 1285 = .ok (.aload_n 2, 1) := by decide +kernel
theorem dL_law_1286 : decode cL_law 1286 = .ok (.aload_n 0, 1) := by decide +kernel
theorem dL_law_1287 : decode cL_law 1287 = .ok (.iload 5, 2) := by decide +kernel
theorem dL_law_1289 : decode cL_law 1289 = .ok (.iconst 1, 1) := by decide +kernel
theorem dL_law_1290 : decode cL_law 1290 = .ok (.iadd, 1) := by decide +kernel
theorem dL_law_1291 : decode cL_law 1291 = .ok (.iaload, 1) := by decide +kernel
theorem dL_law_1292 : decode cL_law 1292 = .ok (.aload_n 0, 1) := by decide +kernel
theorem dL_law_1293 : decode cL_law 1293 = .ok (.iload 5, 2) := by decide +kernel
theorem dL_law_1295 : decode cL_law 1295 = .ok (.iconst 2, 1) := by decide +kernel
theorem dL_law_1296 : decode cL_law 1296 = .ok (.iadd, 1) := by decide +kernel
theorem dL_law_1297 : decode cL_law 1297 = .ok (.iaload, 1) := by decide +kernel
theorem dL_law_1298 : decode cL_law 1298 = .ok (.invokevirtual 182, 3) := by decide +kernel
theorem dL_law_1301 : decode cL_law 1301 = .ok (.istore 7, 2) := by decide +kernel
theorem dL_law_1303 : decode cL_law 1303 = .ok (.aload_n 2, 1) := by decide +kernel
theorem dL_law_1304 : decode cL_law 1304 = .ok (.invokevirtual 118, 3) := by decide +kernel
theorem dL_law_1307 : decode cL_law 1307 = .ok (.iload 6, 2) := by decide +kernel
theorem dL_law_1309 : decode cL_law 1309 = .ok (.if_icmp .eq 5, 3) := by decide +kernel
theorem dL_law_1312 : decode cL_law 1312 = .ok (.iconst 0, 1) := by decide +kernel
theorem dL_law_1313 : decode cL_law 1313 = .ok (.ireturn, 1) := by decide +kernel
theorem dL_law_1314 : decode cL_law 1314 = .ok (.iload 6, 2) := by decide +kernel
theorem dL_law_1316 : decode cL_law 1316 = .ok (.ifCond .ne 15, 3) := by decide +kernel
theorem dL_law_1319 : decode cL_law 1319 = .ok (.aload_n 3, 1) := by decide +kernel
theorem dL_law_1320 : decode cL_law 1320 = .ok (.iconst 0, 1) := by decide +kernel
theorem dL_law_1321 : decode cL_law 1321 = .ok (.laload, 1) := by decide +kernel
theorem dL_law_1322 : decode cL_law 1322 = .ok (.iload 7, 2) := by decide +kernel
theorem dL_law_1324 : decode cL_law 1324 = .ok (.i2l, 1) := by decide +kernel
theorem dL_law_1325 : decode cL_law 1325 = .ok (.lcmp, 1) := by decide +kernel
theorem dL_law_1326 : decode cL_law 1326 = .ok (.ifCond .eq 5, 3) := by decide +kernel
theorem dL_law_1329 : decode cL_law 1329 = .ok (.iconst 0, 1) := by decide +kernel
theorem dL_law_1330 : decode cL_law 1330 = .ok (.ireturn, 1) := by decide +kernel
theorem dL_law_1331 : decode cL_law 1331 = .ok (.goto 775, 3) := by decide +kernel
theorem dL_law_1334 : decode cL_law 1334 = .ok (.aload_n 1, 1) := by decide +kernel
theorem dL_law_1335 : decode cL_law 1335 = .ok (.invokevirtual 183, 3) := by decide +kernel
theorem dL_law_1338 : decode cL_law 1338 = .ok (.aload_n 2, 1) := by decide +kernel
theorem dL_law_1339 : decode cL_law 1339 = .ok (.invokevirtual 186, 3) := by decide +kernel
theorem dL_law_1342 : decode cL_law 1342 = .ok (.if_icmp .eq 764, 3) := by decide +kernel
theorem dL_law_1345 : decode cL_law 1345 = .ok (.iconst 0, 1) := by decide +kernel
theorem dL_law_1346 : decode cL_law 1346 = .ok (.ireturn, 1) := by decide +kernel
theorem dL_law_1347 : decode cL_law 1347 = .ok (.aload_n 1, 1) := by decide +kernel
theorem dL_law_1348 : decode cL_law 1348 = .ok (.aload_n 0, 1) := by decide +kernel
theorem dL_law_1349 : decode cL_law 1349 = .ok (.iload 5, 2) := by decide +kernel
theorem dL_law_1351 : decode cL_law 1351 = .ok (.iconst 1, 1) := by decide +kernel
theorem dL_law_1352 : decode cL_law 1352 = .ok (.iadd, 1) := by decide +kernel
theorem dL_law_1353 : decode cL_law 1353 = .ok (.iaload, 1) := by decide +kernel
theorem dL_law_1354 : decode cL_law 1354 = .ok (.aload_n 0, 1) := by decide +kernel
theorem dL_law_1355 : decode cL_law 1355 = .ok (.iload 5, 2) := by decide +kernel
theorem dL_law_1357 : decode cL_law 1357 = .ok (.iconst 2, 1) := by decide +kernel
theorem dL_law_1358 : decode cL_law 1358 = .ok (.iadd, 1) := by decide +kernel
theorem dL_law_1359 : decode cL_law 1359 = .ok (.iaload, 1) := by decide +kernel
theorem dL_law_1360 : decode cL_law 1360 = .ok (.aload_n 3, 1) := by decide +kernel
theorem dL_law_1361 : decode cL_law 1361 = .ok (.invokestatic 187, 3) := by decide +kernel
theorem dL_law_1364 : decode cL_law 1364 = .ok (.istore 6, 2) := by decide +kernel
theorem dL_law_1366 : decode cL_law 1366 = .ok (.aload_n 2, 1) := by decide +kernel
theorem dL_law_1367 : decode cL_law 1367 = .ok (.aload_n 0, 1) := by decide +kernel
theorem dL_law_1368 : decode cL_law 1368 = .ok (.iload 5, 2) := by decide +kernel
theorem dL_law_1370 : decode cL_law 1370 = .ok (.iconst 1, 1) := by decide +kernel
theorem dL_law_1371 : decode cL_law 1371 = .ok (.iadd, 1) := by decide +kernel
theorem dL_law_1372 : decode cL_law 1372 = .ok (.iaload, 1) := by decide +kernel
theorem dL_law_1373 : decode cL_law 1373 = .ok (.aload_n 0, 1) := by decide +kernel
theorem dL_law_1374 : decode cL_law 1374 = .ok (.iload 5, 2) := by decide +kernel
theorem dL_law_1376 : decode cL_law 1376 = .ok (.iconst 2, 1) := by decide +kernel
theorem dL_law_1377 : decode cL_law 1377 = .ok (.iadd, 1) := by decide +kernel
theorem dL_law_1378 : decode cL_law 1378 = .ok (.iaload, 1) := by decide +kernel
theorem dL_law_1379 : decode cL_law 1379 = .ok (.invokevirtual 189, 3) := by decide +kernel
theorem dL_law_1382 : decode cL_law 1382 = .ok (.istore 7, 2) := by decide +kernel
theorem dL_law_1384 : decode cL_law 1384 = .ok (.aload_n 2, 1) := by decide +kernel
theorem dL_law_1385 : decode cL_law 1385 = .ok (.invokevirtual 118, 3) := by decide +kernel
theorem dL_law_1388 : decode cL_law 1388 = .ok (.iload 6, 2) := by decide +kernel
theorem dL_law_1390 : decode cL_law 1390 = .ok (.if_icmp .eq 5, 3) := by decide +kernel
theorem dL_law_1393 : decode cL_law 1393 = .ok (.iconst 0, 1) := by decide +kernel
theorem dL_law_1394 : decode cL_law 1394 = .ok (.ireturn, 1) := by decide +kernel
theorem dL_law_1395 : decode cL_law 1395 = .ok (.iload 6, 2) := by decide +kernel
theorem dL_law_1397 : decode cL_law 1397 = .ok (.ifCond .ne 15, 3) := by decide +kernel
theorem dL_law_1400 : decode cL_law 1400 = .ok (.aload_n 3, 1) := by decide +kernel
theorem dL_law_1401 : decode cL_law 1401 = .ok (.iconst 0, 1) := by decide +kernel
theorem dL_law_1402 : decode cL_law 1402 = .ok (.laload, 1) := by decide +kernel
theorem dL_law_1403 : decode cL_law 1403 = .ok (.iload 7, 2) := by decide +kernel
theorem dL_law_1405 : decode cL_law 1405 = .ok (.i2l, 1) := by decide +kernel
theorem dL_law_1406 : decode cL_law 1406 = .ok (.lcmp, 1) := by decide +kernel
theorem dL_law_1407 : decode cL_law 1407 = .ok (.ifCond .eq 5, 3) := by decide +kernel
theorem dL_law_1410 : decode cL_law 1410 = .ok (.iconst 0, 1) := by decide +kernel
theorem dL_law_1411 : decode cL_law 1411 = .ok (.ireturn, 1) := by decide +kernel
theorem dL_law_1412 : decode cL_law 1412 = .ok (.goto 694, 3) := by decide +kernel
theorem dL_law_1415 : decode cL_law 1415 = .ok (.aload_n 1, 1) := by decide +kernel
theorem dL_law_1416 : decode cL_law 1416 = .ok (.aload_n 0, 1) := by decide +kernel
theorem dL_law_1417 : decode cL_law 1417 = .ok (.iload 5, 2) := by decide +kernel
theorem dL_law_1419 : decode cL_law 1419 = .ok (.iconst 1, 1) := by decide +kernel
theorem dL_law_1420 : decode cL_law 1420 = .ok (.iadd, 1) := by decide +kernel
theorem dL_law_1421 : decode cL_law 1421 = .ok (.iaload, 1) := by decide +kernel
theorem dL_law_1422 : decode cL_law 1422 = .ok (.aload_n 0, 1) := by decide +kernel
theorem dL_law_1423 : decode cL_law 1423 = .ok (.iload 5, 2) := by decide +kernel
theorem dL_law_1425 : decode cL_law 1425 = .ok (.iconst 2, 1) := by decide +kernel
theorem dL_law_1426 : decode cL_law 1426 = .ok (.iadd, 1) := by decide +kernel
theorem dL_law_1427 : decode cL_law 1427 = .ok (.iaload, 1) := by decide +kernel
theorem dL_law_1428 : decode cL_law 1428 = .ok (.aload_n 3, 1) := by decide +kernel
theorem dL_law_1429 : decode cL_law 1429 = .ok (.invokestatic 190, 3) := by decide +kernel
theorem dL_law_1432 : decode cL_law 1432 = .ok (.istore 6, 2) := by decide +kernel
theorem dL_law_1434 : decode cL_law 1434 = .ok (.aload_n 2, 1) := by decide +kernel
theorem dL_law_1435 : decode cL_law 1435 = .ok (.aload_n 0, 1) := by decide +kernel
theorem dL_law_1436 : decode cL_law 1436 = .ok (.iload 5, 2) := by decide +kernel
theorem dL_law_1438 : decode cL_law 1438 = .ok (.iconst 1, 1) := by decide +kernel
theorem dL_law_1439 : decode cL_law 1439 = .ok (.iadd, 1) := by decide +kernel
theorem dL_law_1440 : decode cL_law 1440 = .ok (.iaload, 1) := by decide +kernel
theorem dL_law_1441 : decode cL_law 1441 = .ok (.aload_n 0, 1) := by decide +kernel
theorem dL_law_1442 : decode cL_law 1442 = .ok (.iload 5, 2) := by decide +kernel
theorem dL_law_1444 : decode cL_law 1444 = .ok (.iconst 2, 1) := by decide +kernel
theorem dL_law_1445 : decode cL_law 1445 = .ok (.iadd, 1) := by decide +kernel
theorem dL_law_1446 : decode cL_law 1446 = .ok (.iaload, 1) := by decide +kernel
theorem dL_law_1447 : decode cL_law 1447 = .ok (.invokevirtual 192, 3) := by decide +kernel
theorem dL_law_1450 : decode cL_law 1450 = .ok (.istore 7, 2) := by decide +kernel
theorem dL_law_1452 : decode cL_law 1452 = .ok (.aload_n 2, 1) := by decide +kernel
theorem dL_law_1453 : decode cL_law 1453 = .ok (.invokevirtual 118, 3) := by decide +kernel
theorem dL_law_1456 : decode cL_law 1456 = .ok (.iload 6, 2) := by decide +kernel
theorem dL_law_1458 : decode cL_law 1458 = .ok (.if_icmp .eq 5, 3) := by decide +kernel
theorem dL_law_1461 : decode cL_law 1461 = .ok (.iconst 0, 1) := by decide +kernel
theorem dL_law_1462 : decode cL_law 1462 = .ok (.ireturn, 1) := by decide +kernel
theorem dL_law_1463 : decode cL_law 1463 = .ok (.iload 6, 2) := by decide +kernel
theorem dL_law_1465 : decode cL_law 1465 = .ok (.ifCond .ne 15, 3) := by decide +kernel
theorem dL_law_1468 : decode cL_law 1468 = .ok (.aload_n 3, 1) := by decide +kernel
theorem dL_law_1469 : decode cL_law 1469 = .ok (.iconst 0, 1) := by decide +kernel
theorem dL_law_1470 : decode cL_law 1470 = .ok (.laload, 1) := by decide +kernel
theorem dL_law_1471 : decode cL_law 1471 = .ok (.iload 7, 2) := by decide +kernel
theorem dL_law_1473 : decode cL_law 1473 = .ok (.i2l, 1) := by decide +kernel
theorem dL_law_1474 : decode cL_law 1474 = .ok (.lcmp, 1) := by decide +kernel
theorem dL_law_1475 : decode cL_law 1475 = .ok (.ifCond .eq 5, 3) := by decide +kernel
theorem dL_law_1478 : decode cL_law 1478 = .ok (.iconst 0, 1) := by decide +kernel
theorem dL_law_1479 : decode cL_law 1479 = .ok (.ireturn, 1) := by decide +kernel
theorem dL_law_1480 : decode cL_law 1480 = .ok (.goto 626, 3) := by decide +kernel
theorem dL_law_1483 : decode cL_law 1483 = .ok (.aload_n 1, 1) := by decide +kernel
theorem dL_law_1484 : decode cL_law 1484 = .ok (.aload_n 0, 1) := by decide +kernel
theorem dL_law_1485 : decode cL_law 1485 = .ok (.iload 5, 2) := by decide +kernel
theorem dL_law_1487 : decode cL_law 1487 = .ok (.iconst 1, 1) := by decide +kernel
theorem dL_law_1488 : decode cL_law 1488 = .ok (.iadd, 1) := by decide +kernel
theorem dL_law_1489 : decode cL_law 1489 = .ok (.iaload, 1) := by decide +kernel
theorem dL_law_1490 : decode cL_law 1490 = .ok (.aload_n 0, 1) := by decide +kernel
theorem dL_law_1491 : decode cL_law 1491 = .ok (.iload 5, 2) := by decide +kernel
theorem dL_law_1493 : decode cL_law 1493 = .ok (.iconst 2, 1) := by decide +kernel
theorem dL_law_1494 : decode cL_law 1494 = .ok (.iadd, 1) := by decide +kernel
theorem dL_law_1495 : decode cL_law 1495 = .ok (.iaload, 1) := by decide +kernel
theorem dL_law_1496 : decode cL_law 1496 = .ok (.aload_n 3, 1) := by decide +kernel
theorem dL_law_1497 : decode cL_law 1497 = .ok (.invokestatic 193, 3) := by decide +kernel
theorem dL_law_1500 : decode cL_law 1500 = .ok (.istore 6, 2) := by decide +kernel
theorem dL_law_1502 : decode cL_law 1502 = .ok (.aload_n 2, 1) := by decide +kernel
theorem dL_law_1503 : decode cL_law 1503 = .ok (.aload_n 0, 1) := by decide +kernel
theorem dL_law_1504 : decode cL_law 1504 = .ok (.iload 5, 2) := by decide +kernel
theorem dL_law_1506 : decode cL_law 1506 = .ok (.iconst 1, 1) := by decide +kernel
theorem dL_law_1507 : decode cL_law 1507 = .ok (.iadd, 1) := by decide +kernel
theorem dL_law_1508 : decode cL_law 1508 = .ok (.iaload, 1) := by decide +kernel
theorem dL_law_1509 : decode cL_law 1509 = .ok (.aload_n 0, 1) := by decide +kernel
theorem dL_law_1510 : decode cL_law 1510 = .ok (.iload 5, 2) := by decide +kernel
theorem dL_law_1512 : decode cL_law 1512 = .ok (.iconst 2, 1) := by decide +kernel
theorem dL_law_1513 : decode cL_law 1513 = .ok (.iadd, 1) := by decide +kernel
theorem dL_law_1514 : decode cL_law 1514 = .ok (.iaload, 1) := by decide +kernel
theorem dL_law_1515 : decode cL_law 1515 = .ok (.invokevirtual 195, 3) := by decide +kernel
theorem dL_law_1518 : decode cL_law 1518 = .ok (.istore 7, 2) := by decide +kernel
theorem dL_law_1520 : decode cL_law 1520 = .ok (.aload_n 2, 1) := by decide +kernel
theorem dL_law_1521 : decode cL_law 1521 = .ok (.invokevirtual 118, 3) := by decide +kernel
theorem dL_law_1524 : decode cL_law 1524 = .ok (.iload 6, 2) := by decide +kernel
theorem dL_law_1526 : decode cL_law 1526 = .ok (.if_icmp .eq 5, 3) := by decide +kernel
theorem dL_law_1529 : decode cL_law 1529 = .ok (.iconst 0, 1) := by decide +kernel
theorem dL_law_1530 : decode cL_law 1530 = .ok (.ireturn, 1) := by decide +kernel
theorem dL_law_1531 : decode cL_law 1531 = .ok (.iload 6, 2) := by decide +kernel
theorem dL_law_1533 : decode cL_law 1533 = .ok (.ifCond .ne 22, 3) := by decide +kernel
theorem dL_law_1536 : decode cL_law 1536 = .ok (.aload_n 3, 1) := by decide +kernel
theorem dL_law_1537 : decode cL_law 1537 = .ok (.iconst 0, 1) := by decide +kernel
theorem dL_law_1538 : decode cL_law 1538 = .ok (.laload, 1) := by decide +kernel
theorem dL_law_1539 : decode cL_law 1539 = .ok (.iload 7, 2) := by decide +kernel
theorem dL_law_1541 : decode cL_law 1541 = .ok (.ifCond .eq 7, 3) := by decide +kernel
theorem dL_law_1544 : decode cL_law 1544 = .ok (.lconst 1, 1) := by decide +kernel
theorem dL_law_1545 : decode cL_law 1545 = .ok (.goto 4, 3) := by decide +kernel
theorem dL_law_1548 : decode cL_law 1548 = .ok (.lconst 0, 1) := by decide +kernel
theorem dL_law_1549 : decode cL_law 1549 = .ok (.lcmp, 1) := by decide +kernel
theorem dL_law_1550 : decode cL_law 1550 = .ok (.ifCond .eq 5, 3) := by decide +kernel
theorem dL_law_1553 : decode cL_law 1553 = .ok (.iconst 0, 1) := by decide +kernel
theorem dL_law_1554 : decode cL_law 1554 = .ok (.ireturn, 1) := by decide +kernel
theorem dL_law_1555 : decode cL_law 1555 = .ok (.goto 551, 3) := by decide +kernel
theorem dL_law_1558 : decode cL_law 1558 = .ok (.aload_n 1, 1) := by decide +kernel
theorem dL_law_1559 : decode cL_law 1559 = .ok (.aload_n 0, 1) := by decide +kernel
theorem dL_law_1560 : decode cL_law 1560 = .ok (.iload 5, 2) := by decide +kernel
theorem dL_law_1562 : decode cL_law 1562 = .ok (.iconst 1, 1) := by decide +kernel
theorem dL_law_1563 : decode cL_law 1563 = .ok (.iadd, 1) := by decide +kernel
theorem dL_law_1564 : decode cL_law 1564 = .ok (.iaload, 1) := by decide +kernel
theorem dL_law_1565 : decode cL_law 1565 = .ok (.aload_n 3, 1) := by decide +kernel
theorem dL_law_1566 : decode cL_law 1566 = .ok (.invokestatic 196, 3) := by decide +kernel
theorem dL_law_1569 : decode cL_law 1569 = .ok (.istore 6, 2) := by decide +kernel
theorem dL_law_1571 : decode cL_law 1571 = .ok (.aload_n 2, 1) := by decide +kernel
theorem dL_law_1572 : decode cL_law 1572 = .ok (.aload_n 0, 1) := by decide +kernel
theorem dL_law_1573 : decode cL_law 1573 = .ok (.iload 5, 2) := by decide +kernel
theorem dL_law_1575 : decode cL_law 1575 = .ok (.iconst 1, 1) := by decide +kernel
theorem dL_law_1576 : decode cL_law 1576 = .ok (.iadd, 1) := by decide +kernel
theorem dL_law_1577 : decode cL_law 1577 = .ok (.iaload, 1) := by decide +kernel
theorem dL_law_1578 : decode cL_law 1578 = .ok (.invokevirtual 198, 3) := by decide +kernel
theorem dL_law_1581 : decode cL_law 1581 = .ok (.istore 7, 2) := by decide +kernel
theorem dL_law_1583 : decode cL_law 1583 = .ok (.aload_n 2, 1) := by decide +kernel
theorem dL_law_1584 : decode cL_law 1584 = .ok (.invokevirtual 118, 3) := by decide +kernel
theorem dL_law_1587 : decode cL_law 1587 = .ok (.iload 6, 2) := by decide +kernel
theorem dL_law_1589 : decode cL_law 1589 = .ok (.if_icmp .eq 5, 3) := by decide +kernel
theorem dL_law_1592 : decode cL_law 1592 = .ok (.iconst 0, 1) := by decide +kernel
theorem dL_law_1593 : decode cL_law 1593 = .ok (.ireturn, 1) := by decide +kernel
theorem dL_law_1594 : decode cL_law 1594 = .ok (.iload 6, 2) := by decide +kernel
theorem dL_law_1596 : decode cL_law 1596 = .ok (.ifCond .ne 15, 3) := by decide +kernel
theorem dL_law_1599 : decode cL_law 1599 = .ok (.aload_n 3, 1) := by decide +kernel
theorem dL_law_1600 : decode cL_law 1600 = .ok (.iconst 0, 1) := by decide +kernel
theorem dL_law_1601 : decode cL_law 1601 = .ok (.laload, 1) := by decide +kernel
theorem dL_law_1602 : decode cL_law 1602 = .ok (.iload 7, 2) := by decide +kernel
theorem dL_law_1604 : decode cL_law 1604 = .ok (.i2l, 1) := by decide +kernel
theorem dL_law_1605 : decode cL_law 1605 = .ok (.lcmp, 1) := by decide +kernel
theorem dL_law_1606 : decode cL_law 1606 = .ok (.ifCond .eq 5, 3) := by decide +kernel
theorem dL_law_1609 : decode cL_law 1609 = .ok (.iconst 0, 1) := by decide +kernel
theorem dL_law_1610 : decode cL_law 1610 = .ok (.ireturn, 1) := by decide +kernel
theorem dL_law_1611 : decode cL_law 1611 = .ok (.goto 495, 3) := by decide +kernel
theorem dL_law_1614 : decode cL_law 1614 = .ok (.aload_n 1, 1) := by decide +kernel
theorem dL_law_1615 : decode cL_law 1615 = .ok (.aload_n 0, 1) := by decide +kernel
theorem dL_law_1616 : decode cL_law 1616 = .ok (.iload 5, 2) := by decide +kernel
theorem dL_law_1618 : decode cL_law 1618 = .ok (.iconst 1, 1) := by decide +kernel
theorem dL_law_1619 : decode cL_law 1619 = .ok (.iadd, 1) := by decide +kernel
theorem dL_law_1620 : decode cL_law 1620 = .ok (.iaload, 1) := by decide +kernel
theorem dL_law_1621 : decode cL_law 1621 = .ok (.aload_n 0, 1) := by decide +kernel
theorem dL_law_1622 : decode cL_law 1622 = .ok (.iload 5, 2) := by decide +kernel
theorem dL_law_1624 : decode cL_law 1624 = .ok (.iconst 2, 1) := by decide +kernel
theorem dL_law_1625 : decode cL_law 1625 = .ok (.iadd, 1) := by decide +kernel
theorem dL_law_1626 : decode cL_law 1626 = .ok (.iaload, 1) := by decide +kernel
theorem dL_law_1627 : decode cL_law 1627 = .ok (.aload_n 3, 1) := by decide +kernel
theorem dL_law_1628 : decode cL_law 1628 = .ok (.invokestatic 199, 3) := by decide +kernel
theorem dL_law_1631 : decode cL_law 1631 = .ok (.istore 6, 2) := by decide +kernel
theorem dL_law_1633 : decode cL_law 1633 = .ok (.aload_n 2, 1) := by decide +kernel
theorem dL_law_1634 : decode cL_law 1634 = .ok (.aload_n 0, 1) := by decide +kernel
theorem dL_law_1635 : decode cL_law 1635 = .ok (.iload 5, 2) := by decide +kernel
theorem dL_law_1637 : decode cL_law 1637 = .ok (.iconst 1, 1) := by decide +kernel
theorem dL_law_1638 : decode cL_law 1638 = .ok (.iadd, 1) := by decide +kernel
theorem dL_law_1639 : decode cL_law 1639 = .ok (.iaload, 1) := by decide +kernel
theorem dL_law_1640 : decode cL_law 1640 = .ok (.aload_n 0, 1) := by decide +kernel
theorem dL_law_1641 : decode cL_law 1641 = .ok (.iload 5, 2) := by decide +kernel
theorem dL_law_1643 : decode cL_law 1643 = .ok (.iconst 2, 1) := by decide +kernel
theorem dL_law_1644 : decode cL_law 1644 = .ok (.iadd, 1) := by decide +kernel
theorem dL_law_1645 : decode cL_law 1645 = .ok (.iaload, 1) := by decide +kernel
theorem dL_law_1646 : decode cL_law 1646 = .ok (.invokevirtual 201, 3) := by decide +kernel
theorem dL_law_1649 : decode cL_law 1649 = .ok (.istore 7, 2) := by decide +kernel
theorem dL_law_1651 : decode cL_law 1651 = .ok (.aload_n 2, 1) := by decide +kernel
theorem dL_law_1652 : decode cL_law 1652 = .ok (.invokevirtual 118, 3) := by decide +kernel
theorem dL_law_1655 : decode cL_law 1655 = .ok (.iload 6, 2) := by decide +kernel
theorem dL_law_1657 : decode cL_law 1657 = .ok (.if_icmp .eq 5, 3) := by decide +kernel
theorem dL_law_1660 : decode cL_law 1660 = .ok (.iconst 0, 1) := by decide +kernel
theorem dL_law_1661 : decode cL_law 1661 = .ok (.ireturn, 1) := by decide +kernel
theorem dL_law_1662 : decode cL_law 1662 = .ok (.iload 6, 2) := by decide +kernel
theorem dL_law_1664 : decode cL_law 1664 = .ok (.ifCond .ne 15, 3) := by decide +kernel
theorem dL_law_1667 : decode cL_law 1667 = .ok (.aload_n 3, 1) := by decide +kernel
theorem dL_law_1668 : decode cL_law 1668 = .ok (.iconst 0, 1) := by decide +kernel
theorem dL_law_1669 : decode cL_law 1669 = .ok (.laload, 1) := by decide +kernel
theorem dL_law_1670 : decode cL_law 1670 = .ok (.iload 7, 2) := by decide +kernel
theorem dL_law_1672 : decode cL_law 1672 = .ok (.i2l, 1) := by decide +kernel
theorem dL_law_1673 : decode cL_law 1673 = .ok (.lcmp, 1) := by decide +kernel
theorem dL_law_1674 : decode cL_law 1674 = .ok (.ifCond .eq 5, 3) := by decide +kernel
theorem dL_law_1677 : decode cL_law 1677 = .ok (.iconst 0, 1) := by decide +kernel
theorem dL_law_1678 : decode cL_law 1678 = .ok (.ireturn, 1) := by decide +kernel
theorem dL_law_1679 : decode cL_law 1679 = .ok (.goto 427, 3) := by decide +kernel
theorem dL_law_1682 : decode cL_law 1682 = .ok (.aload_n 1, 1) := by decide +kernel
theorem dL_law_1683 : decode cL_law 1683 = .ok (.aload_n 0, 1) := by decide +kernel
theorem dL_law_1684 : decode cL_law 1684 = .ok (.iload 5, 2) := by decide +kernel
theorem dL_law_1686 : decode cL_law 1686 = .ok (.iconst 1, 1) := by decide +kernel
theorem dL_law_1687 : decode cL_law 1687 = .ok (.iadd, 1) := by decide +kernel
theorem dL_law_1688 : decode cL_law 1688 = .ok (.iaload, 1) := by decide +kernel
theorem dL_law_1689 : decode cL_law 1689 = .ok (.aload_n 3, 1) := by decide +kernel
theorem dL_law_1690 : decode cL_law 1690 = .ok (.invokestatic 202, 3) := by decide +kernel
theorem dL_law_1693 : decode cL_law 1693 = .ok (.istore 6, 2) := by decide +kernel
theorem dL_law_1695 : decode cL_law 1695 = .ok (.aload_n 2, 1) := by decide +kernel
theorem dL_law_1696 : decode cL_law 1696 = .ok (.aload_n 0, 1) := by decide +kernel
theorem dL_law_1697 : decode cL_law 1697 = .ok (.iload 5, 2) := by decide +kernel
theorem dL_law_1699 : decode cL_law 1699 = .ok (.iconst 1, 1) := by decide +kernel
theorem dL_law_1700 : decode cL_law 1700 = .ok (.iadd, 1) := by decide +kernel
theorem dL_law_1701 : decode cL_law 1701 = .ok (.iaload, 1) := by decide +kernel
theorem dL_law_1702 : decode cL_law 1702 = .ok (.invokevirtual 204, 3) := by decide +kernel
theorem dL_law_1705 : decode cL_law 1705 = .ok (.istore 7, 2) := by decide +kernel
theorem dL_law_1707 : decode cL_law 1707 = .ok (.aload_n 2, 1) := by decide +kernel
theorem dL_law_1708 : decode cL_law 1708 = .ok (.invokevirtual 118, 3) := by decide +kernel
theorem dL_law_1711 : decode cL_law 1711 = .ok (.iload 6, 2) := by decide +kernel
theorem dL_law_1713 : decode cL_law 1713 = .ok (.if_icmp .eq 5, 3) := by decide +kernel
theorem dL_law_1716 : decode cL_law 1716 = .ok (.iconst 0, 1) := by decide +kernel
theorem dL_law_1717 : decode cL_law 1717 = .ok (.ireturn, 1) := by decide +kernel
theorem dL_law_1718 : decode cL_law 1718 = .ok (.iload 6, 2) := by decide +kernel
theorem dL_law_1720 : decode cL_law 1720 = .ok (.ifCond .ne 15, 3) := by decide +kernel
theorem dL_law_1723 : decode cL_law 1723 = .ok (.aload_n 3, 1) := by decide +kernel
theorem dL_law_1724 : decode cL_law 1724 = .ok (.iconst 0, 1) := by decide +kernel
theorem dL_law_1725 : decode cL_law 1725 = .ok (.laload, 1) := by decide +kernel
theorem dL_law_1726 : decode cL_law 1726 = .ok (.iload 7, 2) := by decide +kernel
theorem dL_law_1728 : decode cL_law 1728 = .ok (.i2l, 1) := by decide +kernel
theorem dL_law_1729 : decode cL_law 1729 = .ok (.lcmp, 1) := by decide +kernel
theorem dL_law_1730 : decode cL_law 1730 = .ok (.ifCond .eq 5, 3) := by decide +kernel
theorem dL_law_1733 : decode cL_law 1733 = .ok (.iconst 0, 1) := by decide +kernel
theorem dL_law_1734 : decode cL_law 1734 = .ok (.ireturn, 1) := by decide +kernel
theorem dL_law_1735 : decode cL_law 1735 = .ok (.goto 371, 3) := by decide +kernel
theorem dL_law_1738 : decode cL_law 1738 = .ok (.aload_n 1, 1) := by decide +kernel
theorem dL_law_1739 : decode cL_law 1739 = .ok (.aload_n 0, 1) := by decide +kernel
theorem dL_law_1740 : decode cL_law 1740 = .ok (.iload 5, 2) := by decide +kernel
theorem dL_law_1742 : decode cL_law 1742 = .ok (.iconst 1, 1) := by decide +kernel
theorem dL_law_1743 : decode cL_law 1743 = .ok (.iadd, 1) := by decide +kernel
theorem dL_law_1744 : decode cL_law 1744 = .ok (.iaload, 1) := by decide +kernel
theorem dL_law_1745 : decode cL_law 1745 = .ok (.aload_n 3, 1) := by decide +kernel
theorem dL_law_1746 : decode cL_law 1746 = .ok (.invokestatic 205, 3) := by decide +kernel
theorem dL_law_1749 : decode cL_law 1749 = .ok (.istore 6, 2) := by decide +kernel
theorem dL_law_1751 : decode cL_law 1751 = .ok (.aload_n 2, 1) := by decide +kernel
theorem dL_law_1752 : decode cL_law 1752 = .ok (.aload_n 0, 1) := by decide +kernel
theorem dL_law_1753 : decode cL_law 1753 = .ok (.iload 5, 2) := by decide +kernel
theorem dL_law_1755 : decode cL_law 1755 = .ok (.iconst 1, 1) := by decide +kernel
theorem dL_law_1756 : decode cL_law 1756 = .ok (.iadd, 1) := by decide +kernel
theorem dL_law_1757 : decode cL_law 1757 = .ok (.iaload, 1) := by decide +kernel
theorem dL_law_1758 : decode cL_law 1758 = .ok (.invokevirtual 207, 3) := by decide +kernel
theorem dL_law_1761 : decode cL_law 1761 = .ok (.istore 7, 2) := by decide +kernel
theorem dL_law_1763 : decode cL_law 1763 = .ok (.aload_n 2, 1) := by decide +kernel
theorem dL_law_1764 : decode cL_law 1764 = .ok (.invokevirtual 118, 3) := by decide +kernel
theorem dL_law_1767 : decode cL_law 1767 = .ok (.iload 6, 2) := by decide +kernel
theorem dL_law_1769 : decode cL_law 1769 = .ok (.if_icmp .eq 5, 3) := by decide +kernel
theorem dL_law_1772 : decode cL_law 1772 = .ok (.iconst 0, 1) := by decide +kernel
theorem dL_law_1773 : decode cL_law 1773 = .ok (.ireturn, 1) := by decide +kernel
theorem dL_law_1774 : decode cL_law 1774 = .ok (.iload 6, 2) := by decide +kernel
theorem dL_law_1776 : decode cL_law 1776 = .ok (.ifCond .ne 15, 3) := by decide +kernel
theorem dL_law_1779 : decode cL_law 1779 = .ok (.aload_n 3, 1) := by decide +kernel
theorem dL_law_1780 : decode cL_law 1780 = .ok (.iconst 0, 1) := by decide +kernel
theorem dL_law_1781 : decode cL_law 1781 = .ok (.laload, 1) := by decide +kernel
theorem dL_law_1782 : decode cL_law 1782 = .ok (.iload 7, 2) := by decide +kernel
theorem dL_law_1784 : decode cL_law 1784 = .ok (.i2l, 1) := by decide +kernel
theorem dL_law_1785 : decode cL_law 1785 = .ok (.lcmp, 1) := by decide +kernel
theorem dL_law_1786 : decode cL_law 1786 = .ok (.ifCond .eq 5, 3) := by decide +kernel
theorem dL_law_1789 : decode cL_law 1789 = .ok (.iconst 0, 1) := by decide +kernel
theorem dL_law_1790 : decode cL_law 1790 = .ok (.ireturn, 1) := by decide +kernel
theorem dL_law_1791 : decode cL_law 1791 = .ok (.goto 315, 3) := by decide +kernel
theorem dL_law_1794 : decode cL_law 1794 = .ok (.aload_n 1, 1) := by decide +kernel
theorem dL_law_1795 : decode cL_law 1795 = .ok (.aload_n 0, 1) := by decide +kernel
theorem dL_law_1796 : decode cL_law 1796 = .ok (.iload 5, 2) := by decide +kernel
theorem dL_law_1798 : decode cL_law 1798 = .ok (.iconst 1, 1) := by decide +kernel
theorem dL_law_1799 : decode cL_law 1799 = .ok (.iadd, 1) := by decide +kernel
theorem dL_law_1800 : decode cL_law 1800 = .ok (.iaload, 1) := by decide +kernel
theorem dL_law_1801 : decode cL_law 1801 = .ok (.aload_n 0, 1) := by decide +kernel
theorem dL_law_1802 : decode cL_law 1802 = .ok (.iload 5, 2) := by decide +kernel
theorem dL_law_1804 : decode cL_law 1804 = .ok (.iconst 2, 1) := by decide +kernel
theorem dL_law_1805 : decode cL_law 1805 = .ok (.iadd, 1) := by decide +kernel
theorem dL_law_1806 : decode cL_law 1806 = .ok (.iaload, 1) := by decide +kernel
theorem dL_law_1807 : decode cL_law 1807 = .ok (.aload_n 0, 1) := by decide +kernel
theorem dL_law_1808 : decode cL_law 1808 = .ok (.iload 5, 2) := by decide +kernel
theorem dL_law_1810 : decode cL_law 1810 = .ok (.iconst 3, 1) := by decide +kernel
theorem dL_law_1811 : decode cL_law 1811 = .ok (.iadd, 1) := by decide +kernel
theorem dL_law_1812 : decode cL_law 1812 = .ok (.iaload, 1) := by decide +kernel
theorem dL_law_1813 : decode cL_law 1813 = .ok (.aload_n 3, 1) := by decide +kernel
theorem dL_law_1814 : decode cL_law 1814 = .ok (.invokestatic 208, 3) := by decide +kernel
theorem dL_law_1817 : decode cL_law 1817 = .ok (.istore 6, 2) := by decide +kernel
theorem dL_law_1819 : decode cL_law 1819 = .ok (.aload_n 2, 1) := by decide +kernel
theorem dL_law_1820 : decode cL_law 1820 = .ok (.aload_n 0, 1) := by decide +kernel
theorem dL_law_1821 : decode cL_law 1821 = .ok (.iload 5, 2) := by decide +kernel
theorem dL_law_1823 : decode cL_law 1823 = .ok (.iconst 1, 1) := by decide +kernel
theorem dL_law_1824 : decode cL_law 1824 = .ok (.iadd, 1) := by decide +kernel
theorem dL_law_1825 : decode cL_law 1825 = .ok (.iaload, 1) := by decide +kernel
theorem dL_law_1826 : decode cL_law 1826 = .ok (.aload_n 0, 1) := by decide +kernel
theorem dL_law_1827 : decode cL_law 1827 = .ok (.iload 5, 2) := by decide +kernel
theorem dL_law_1829 : decode cL_law 1829 = .ok (.iconst 2, 1) := by decide +kernel
theorem dL_law_1830 : decode cL_law 1830 = .ok (.iadd, 1) := by decide +kernel
theorem dL_law_1831 : decode cL_law 1831 = .ok (.iaload, 1) := by decide +kernel
theorem dL_law_1832 : decode cL_law 1832 = .ok (.aload_n 0, 1) := by decide +kernel
theorem dL_law_1833 : decode cL_law 1833 = .ok (.iload 5, 2) := by decide +kernel
theorem dL_law_1835 : decode cL_law 1835 = .ok (.iconst 3, 1) := by decide +kernel
theorem dL_law_1836 : decode cL_law 1836 = .ok (.iadd, 1) := by decide +kernel
theorem dL_law_1837 : decode cL_law 1837 = .ok (.iaload, 1) := by decide +kernel
theorem dL_law_1838 : decode cL_law 1838 = .ok (.invokevirtual 210, 3) := by decide +kernel
theorem dL_law_1841 : decode cL_law 1841 = .ok (.istore 7, 2) := by decide +kernel
theorem dL_law_1843 : decode cL_law 1843 = .ok (.aload_n 2, 1) := by decide +kernel
theorem dL_law_1844 : decode cL_law 1844 = .ok (.invokevirtual 118, 3) := by decide +kernel
theorem dL_law_1847 : decode cL_law 1847 = .ok (.iload 6, 2) := by decide +kernel
theorem dL_law_1849 : decode cL_law 1849 = .ok (.if_icmp .eq 5, 3) := by decide +kernel
theorem dL_law_1852 : decode cL_law 1852 = .ok (.iconst 0, 1) := by decide +kernel
theorem dL_law_1853 : decode cL_law 1853 = .ok (.ireturn, 1) := by decide +kernel
theorem dL_law_1854 : decode cL_law 1854 = .ok (.iload 6, 2) := by decide +kernel
theorem dL_law_1856 : decode cL_law 1856 = .ok (.ifCond .ne 15, 3) := by decide +kernel
theorem dL_law_1859 : decode cL_law 1859 = .ok (.aload_n 3, 1) := by decide +kernel
theorem dL_law_1860 : decode cL_law 1860 = .ok (.iconst 0, 1) := by decide +kernel
theorem dL_law_1861 : decode cL_law 1861 = .ok (.laload, 1) := by decide +kernel
theorem dL_law_1862 : decode cL_law 1862 = .ok (.iload 7, 2) := by decide +kernel
theorem dL_law_1864 : decode cL_law 1864 = .ok (.i2l, 1) := by decide +kernel
theorem dL_law_1865 : decode cL_law 1865 = .ok (.lcmp, 1) := by decide +kernel
theorem dL_law_1866 : decode cL_law 1866 = .ok (.ifCond .eq 5, 3) := by decide +kernel
theorem dL_law_1869 : decode cL_law 1869 = .ok (.iconst 0, 1) := by decide +kernel
theorem dL_law_1870 : decode cL_law 1870 = .ok (.ireturn, 1) := by decide +kernel
theorem dL_law_1871 : decode cL_law 1871 = .ok (.goto 235, 3) := by decide +kernel
theorem dL_law_1874 : decode cL_law 1874 = .ok (.aload_n 1, 1) := by decide +kernel
theorem dL_law_1875 : decode cL_law 1875 = .ok (.aload_n 0, 1) := by decide +kernel
theorem dL_law_1876 : decode cL_law 1876 = .ok (.iload 5, 2) := by decide +kernel
theorem dL_law_1878 : decode cL_law 1878 = .ok (.iconst 1, 1) := by decide +kernel
theorem dL_law_1879 : decode cL_law 1879 = .ok (.iadd, 1) := by decide +kernel
theorem dL_law_1880 : decode cL_law 1880 = .ok (.iaload, 1) := by decide +kernel
theorem dL_law_1881 : decode cL_law 1881 = .ok (.aload_n 3, 1) := by decide +kernel
theorem dL_law_1882 : decode cL_law 1882 = .ok (.invokestatic 211, 3) := by decide +kernel
theorem dL_law_1885 : decode cL_law 1885 = .ok (.istore 6, 2) := by decide +kernel
theorem dL_law_1887 : decode cL_law 1887 = .ok (.aload_n 2, 1) := by decide +kernel
theorem dL_law_1888 : decode cL_law 1888 = .ok (.aload_n 0, 1) := by decide +kernel
theorem dL_law_1889 : decode cL_law 1889 = .ok (.iload 5, 2) := by decide +kernel
theorem dL_law_1891 : decode cL_law 1891 = .ok (.iconst 1, 1) := by decide +kernel
theorem dL_law_1892 : decode cL_law 1892 = .ok (.iadd, 1) := by decide +kernel
theorem dL_law_1893 : decode cL_law 1893 = .ok (.iaload, 1) := by decide +kernel
theorem dL_law_1894 : decode cL_law 1894 = .ok (.invokevirtual 213, 3) := by decide +kernel
theorem dL_law_1897 : decode cL_law 1897 = .ok (.istore 7, 2) := by decide +kernel
theorem dL_law_1899 : decode cL_law 1899 = .ok (.aload_n 2, 1) := by decide +kernel
theorem dL_law_1900 : decode cL_law 1900 = .ok (.invokevirtual 118, 3) := by decide +kernel
theorem dL_law_1903 : decode cL_law 1903 = .ok (.iload 6, 2) := by decide +kernel
theorem dL_law_1905 : decode cL_law 1905 = .ok (.if_icmp .eq 5, 3) := by decide +kernel
theorem dL_law_1908 : decode cL_law 1908 = .ok (.iconst 0, 1) := by decide +kernel
theorem dL_law_1909 : decode cL_law 1909 = .ok (.ireturn, 1) := by decide +kernel
theorem dL_law_1910 : decode cL_law 1910 = .ok (.iload 6, 2) := by decide +kernel
theorem dL_law_1912 : decode cL_law 1912 = .ok (.ifCond .ne 15, 3) := by decide +kernel
theorem dL_law_1915 : decode cL_law 1915 = .ok (.aload_n 3, 1) := by decide +kernel
theorem dL_law_1916 : decode cL_law 1916 = .ok (.iconst 0, 1) := by decide +kernel
theorem dL_law_1917 : decode cL_law 1917 = .ok (.laload, 1) := by decide +kernel
theorem dL_law_1918 : decode cL_law 1918 = .ok (.iload 7, 2) := by decide +kernel
theorem dL_law_1920 : decode cL_law 1920 = .ok (.i2l, 1) := by decide +kernel
theorem dL_law_1921 : decode cL_law 1921 = .ok (.lcmp, 1) := by decide +kernel
theorem dL_law_1922 : decode cL_law 1922 = .ok (.ifCond .eq 5, 3) := by decide +kernel
theorem dL_law_1925 : decode cL_law 1925 = .ok (.iconst 0, 1) := by decide +kernel
theorem dL_law_1926 : decode cL_law 1926 = .ok (.ireturn, 1) := by decide +kernel
theorem dL_law_1927 : decode cL_law 1927 = .ok (.goto 179, 3) := by decide +kernel
theorem dL_law_1930 : decode cL_law 1930 = .ok (.aload_n 1, 1) := by decide +kernel
theorem dL_law_1931 : decode cL_law 1931 = .ok (.aload_n 0, 1) := by decide +kernel
theorem dL_law_1932 : decode cL_law 1932 = .ok (.iload 5, 2) := by decide +kernel
theorem dL_law_1934 : decode cL_law 1934 = .ok (.iconst 1, 1) := by decide +kernel
theorem dL_law_1935 : decode cL_law 1935 = .ok (.iadd, 1) := by decide +kernel
theorem dL_law_1936 : decode cL_law 1936 = .ok (.iaload, 1) := by decide +kernel
theorem dL_law_1937 : decode cL_law 1937 = .ok (.aload_n 3, 1) := by decide +kernel
theorem dL_law_1938 : decode cL_law 1938 = .ok (.invokestatic 214, 3) := by decide +kernel
theorem dL_law_1941 : decode cL_law 1941 = .ok (.istore 6, 2) := by decide +kernel
theorem dL_law_1943 : decode cL_law 1943 = .ok (.aload_n 2, 1) := by decide +kernel
theorem dL_law_1944 : decode cL_law 1944 = .ok (.aload_n 0, 1) := by decide +kernel
theorem dL_law_1945 : decode cL_law 1945 = .ok (.iload 5, 2) := by decide +kernel
theorem dL_law_1947 : decode cL_law 1947 = .ok (.iconst 1, 1) := by decide +kernel
theorem dL_law_1948 : decode cL_law 1948 = .ok (.iadd, 1) := by decide +kernel
theorem dL_law_1949 : decode cL_law 1949 = .ok (.iaload, 1) := by decide +kernel
theorem dL_law_1950 : decode cL_law 1950 = .ok (.invokevirtual 216, 3) := by decide +kernel
theorem dL_law_1953 : decode cL_law 1953 = .ok (.istore 7, 2) := by decide +kernel
theorem dL_law_1955 : decode cL_law 1955 = .ok (.aload_n 2, 1) := by decide +kernel
theorem dL_law_1956 : decode cL_law 1956 = .ok (.invokevirtual 118, 3) := by decide +kernel
theorem dL_law_1959 : decode cL_law 1959 = .ok (.iload 6, 2) := by decide +kernel
theorem dL_law_1961 : decode cL_law 1961 = .ok (.if_icmp .eq 5, 3) := by decide +kernel
theorem dL_law_1964 : decode cL_law 1964 = .ok (.iconst 0, 1) := by decide +kernel
theorem dL_law_1965 : decode cL_law 1965 = .ok (.ireturn, 1) := by decide +kernel
theorem dL_law_1966 : decode cL_law 1966 = .ok (.iload 6, 2) := by decide +kernel
theorem dL_law_1968 : decode cL_law 1968 = .ok (.ifCond .ne 15, 3) := by decide +kernel
theorem dL_law_1971 : decode cL_law 1971 = .ok (.aload_n 3, 1) := by decide +kernel
theorem dL_law_1972 : decode cL_law 1972 = .ok (.iconst 0, 1) := by decide +kernel
theorem dL_law_1973 : decode cL_law 1973 = .ok (.laload, 1) := by decide +kernel
theorem dL_law_1974 : decode cL_law 1974 = .ok (.iload 7, 2) := by decide +kernel
theorem dL_law_1976 : decode cL_law 1976 = .ok (.i2l, 1) := by decide +kernel
theorem dL_law_1977 : decode cL_law 1977 = .ok (.lcmp, 1) := by decide +kernel
theorem dL_law_1978 : decode cL_law 1978 = .ok (.ifCond .eq 5, 3) := by decide +kernel
theorem dL_law_1981 : decode cL_law 1981 = .ok (.iconst 0, 1) := by decide +kernel
theorem dL_law_1982 : decode cL_law 1982 = .ok (.ireturn, 1) := by decide +kernel
theorem dL_law_1983 : decode cL_law 1983 = .ok (.goto 123, 3) := by decide +kernel
theorem dL_law_1986 : decode cL_law 1986 = .ok (.aload_n 1, 1) := by decide +kernel
theorem dL_law_1987 : decode cL_law 1987 = .ok (.aload_n 0, 1) := by decide +kernel
theorem dL_law_1988 : decode cL_law 1988 = .ok (.iload 5, 2) := by decide +kernel
theorem dL_law_1990 : decode cL_law 1990 = .ok (.iconst 1, 1) := by decide +kernel
theorem dL_law_1991 : decode cL_law 1991 = .ok (.iadd, 1) := by decide +kernel
theorem dL_law_1992 : decode cL_law 1992 = .ok (.iaload, 1) := by decide +kernel
theorem dL_law_1993 : decode cL_law 1993 = .ok (.aload 4, 2) := by decide +kernel
theorem dL_law_1995 : decode cL_law 1995 = .ok (.invokestatic 217, 3) := by decide +kernel
theorem dL_law_1998 : decode cL_law 1998 = .ok (.istore 6, 2) := by decide +kernel
theorem dL_law_2000 : decode cL_law 2000 = .ok (.aload_n 2, 1) := by decide +kernel
theorem dL_law_2001 : decode cL_law 2001 = .ok (.aload_n 0, 1) := by decide +kernel
theorem dL_law_2002 : decode cL_law 2002 = .ok (.iload 5, 2) := by decide +kernel
theorem dL_law_2004 : decode cL_law 2004 = .ok (.iconst 1, 1) := by decide +kernel
theorem dL_law_2005 : decode cL_law 2005 = .ok (.iadd, 1) := by decide +kernel
theorem dL_law_2006 : decode cL_law 2006 = .ok (.iaload, 1) := by decide +kernel
theorem dL_law_2007 : decode cL_law 2007 = .ok (.invokevirtual 220, 3) := by decide +kernel
theorem dL_law_2010 : decode cL_law 2010 = .ok (.dstore 7, 2) := by decide +kernel
theorem dL_law_2012 : decode cL_law 2012 = .ok (.aload_n 2, 1) := by decide +kernel
theorem dL_law_2013 : decode cL_law 2013 = .ok (.invokevirtual 118, 3) := by decide +kernel
theorem dL_law_2016 : decode cL_law 2016 = .ok (.iload 6, 2) := by decide +kernel
theorem dL_law_2018 : decode cL_law 2018 = .ok (.if_icmp .eq 5, 3) := by decide +kernel
theorem dL_law_2021 : decode cL_law 2021 = .ok (.iconst 0, 1) := by decide +kernel
theorem dL_law_2022 : decode cL_law 2022 = .ok (.ireturn, 1) := by decide +kernel
theorem dL_law_2023 : decode cL_law 2023 = .ok (.iload 6, 2) := by decide +kernel
theorem dL_law_2025 : decode cL_law 2025 = .ok (.ifCond .ne 35, 3) := by decide +kernel
theorem dL_law_2028 : decode cL_law 2028 = .ok (.aload 4, 2) := by decide +kernel
theorem dL_law_2030 : decode cL_law 2030 = .ok (.iconst 0, 1) := by decide +kernel
theorem dL_law_2031 : decode cL_law 2031 = .ok (.daload, 1) := by decide +kernel
theorem dL_law_2032 : decode cL_law 2032 = .ok (.dload 7, 2) := by decide +kernel
theorem dL_law_2034 : decode cL_law 2034 = .ok (.dcmp .l, 1) := by decide +kernel
theorem dL_law_2035 : decode cL_law 2035 = .ok (.ifCond .eq 25, 3) := by decide +kernel
theorem dL_law_2038 : decode cL_law 2038 = .ok (.aload 4, 2) := by decide +kernel
theorem dL_law_2040 : decode cL_law 2040 = .ok (.iconst 0, 1) := by decide +kernel
theorem dL_law_2041 : decode cL_law 2041 = .ok (.daload, 1) := by decide +kernel
theorem dL_law_2042 : decode cL_law 2042 = .ok (.aload 4, 2) := by decide +kernel
theorem dL_law_2044 : decode cL_law 2044 = .ok (.iconst 0, 1) := by decide +kernel
theorem dL_law_2045 : decode cL_law 2045 = .ok (.daload, 1) := by decide +kernel
theorem dL_law_2046 : decode cL_law 2046 = .ok (.dcmp .l, 1) := by decide +kernel
theorem dL_law_2047 : decode cL_law 2047 = .ok (.ifCond .eq 11, 3) := by decide +kernel
theorem dL_law_2050 : decode cL_law 2050 = .ok (.dload 7, 2) := by decide +kernel
theorem dL_law_2052 : decode cL_law 2052 = .ok (.dload 7, 2) := by decide +kernel
theorem dL_law_2054 : decode cL_law 2054 = .ok (.dcmp .l, 1) := by decide +kernel
theorem dL_law_2055 : decode cL_law 2055 = .ok (.ifCond .ne 5, 3) := by decide +kernel
theorem dL_law_2058 : decode cL_law 2058 = .ok (.iconst 0, 1) := by decide +kernel
theorem dL_law_2059 : decode cL_law 2059 = .ok (.ireturn, 1) := by decide +kernel
theorem dL_law_2060 : decode cL_law 2060 = .ok (.goto 46, 3) := by decide +kernel
theorem dL_law_2063 : decode cL_law 2063 = .ok (.aload_n 1, 1) := by decide +kernel
theorem dL_law_2064 : decode cL_law 2064 = .ok (.invokevirtual 221, 3) := by decide +kernel
theorem dL_law_2067 : decode cL_law 2067 = .ok (.f2d, 1) := by decide +kernel
theorem dL_law_2068 : decode cL_law 2068 = .ok (.dstore 6, 2) := by decide +kernel
theorem dL_law_2070 : decode cL_law 2070 = .ok (.aload_n 2, 1) := by decide +kernel
theorem dL_law_2071 : decode cL_law 2071 = .ok (.invokevirtual 225, 3) := by decide +kernel
theorem dL_law_2074 : decode cL_law 2074 = .ok (.f2d, 1) := by decide +kernel
theorem dL_law_2075 : decode cL_law 2075 = .ok (.dstore 8, 2) := by decide +kernel
theorem dL_law_2077 : decode cL_law 2077 = .ok (.dload 6, 2) := by decide +kernel
theorem dL_law_2079 : decode cL_law 2079 = .ok (.dload 8, 2) := by decide +kernel
theorem dL_law_2081 : decode cL_law 2081 = .ok (.dcmp .l, 1) := by decide +kernel
theorem dL_law_2082 : decode cL_law 2082 = .ok (.ifCond .eq 21, 3) := by decide +kernel
theorem dL_law_2085 : decode cL_law 2085 = .ok (.dload 6, 2) := by decide +kernel
theorem dL_law_2087 : decode cL_law 2087 = .ok (.dload 6, 2) := by decide +kernel
theorem dL_law_2089 : decode cL_law 2089 = .ok (.dcmp .l, 1) := by decide +kernel
theorem dL_law_2090 : decode cL_law 2090 = .ok (.ifCond .eq 11, 3) := by decide +kernel
theorem dL_law_2093 : decode cL_law 2093 = .ok (.dload 8, 2) := by decide +kernel
theorem dL_law_2095 : decode cL_law 2095 = .ok (.dload 8, 2) := by decide +kernel
theorem dL_law_2097 : decode cL_law 2097 = .ok (.dcmp .l, 1) := by decide +kernel
theorem dL_law_2098 : decode cL_law 2098 = .ok (.ifCond .ne 5, 3) := by decide +kernel
theorem dL_law_2101 : decode cL_law 2101 = .ok (.iconst 0, 1) := by decide +kernel
theorem dL_law_2102 : decode cL_law 2102 = .ok (.ireturn, 1) := by decide +kernel
theorem dL_law_2103 : decode cL_law 2103 = .ok (.goto 3, 3) := by decide +kernel
theorem dL_law_2106 : decode cL_law 2106 = .ok (.iinc 5 4, 3) := by decide +kernel
theorem dL_law_2109 : decode cL_law 2109 = .ok (.goto (-2081), 3) := by decide +kernel
theorem dL_law_2112 : decode cL_law 2112 = .ok (.iconst 1, 1) := by decide +kernel
theorem dL_law_2113 : decode cL_law 2113 = .ok (.ireturn, 1) := by decide +kernel
