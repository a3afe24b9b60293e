theorem dX0_init_0 : decode cX0_init 0 = .ok (.aload_n 0, 1) := by decide +kernel
theorem dX0_init_1 : decode cX0_init 1 = .ok (.invokespecial 3, 3) := by decide +kernel
theorem dX0_init_4 : decode cX0_init 4 = .ok (.aload_n 0, 1) := by decide +kernel
theorem dX0_init_5 : decode cX0_init 5 = .ok (.ldc2_w 9, 3) := by decide +kernel
theorem dX0_init_8 : decode cX0_init 8 = .ok (.putfield 11, 3) := by decide +kernel
theorem dX0_init_11 : decode cX0_init 11 = .ok (.aload_n 0, 1) := by decide +kernel
theorem dX0_init_12 : decode cX0_init 12 = .ok (.ldc2_w 9, 3) := by decide +kernel
theorem dX0_init_15 : decode cX0_init 15 = .ok (.putfield 17, 3) := by decide +kernel
theorem dX0_init_18 : decode cX0_init 18 = .ok (.aload_n 0, 1) := by decide +kernel
theorem dX0_init_19 : decode cX0_init 19 = .ok (.ldc2_w 9, 3) := by decide +kernel
theorem dX0_init_22 : decode cX0_init 22 = .ok (.putfield 20, 3) := by decide +kernel
theorem dX0_init_25 : decode cX0_init 25 = .ok (.aload_n 0, 1) := by decide +kernel
theorem dX0_init_26 : decode cX0_init 26 = .ok (.aload_n 1, 1) := by decide +kernel
theorem dX0_init_27 : decode cX0_init 27 = .ok (.putfield 23, 3) := by decide +kernel
theorem dX0_init_30 : decode cX0_init 30 = .ok (.aload_n 0, 1) := by decide +kernel
theorem dX0_init_31 : decode cX0_init 31 = .ok (.iload_n 2, 1) := by decide +kernel
theorem dX0_init_32 : decode cX0_init 32 = .ok (.putfield 27, 3) := by decide +kernel
theorem dX0_init_35 : decode cX0_init 35 = .ok (.aload_n 0, 1) := by decide +kernel
theorem dX0_init_36 : decode cX0_init 36 = .ok (.iload_n 3, 1) := by decide +kernel
theorem dX0_init_37 : decode cX0_init 37 = .ok (.putfield 31, 3) := by decide +kernel
theorem dX0_init_40 : decode cX0_init 40 = .ok (.aload_n 0, 1) := by decide +kernel
theorem dX0_init_41 : decode cX0_init 41 = .ok (.aload 4, 2) := by decide +kernel
theorem dX0_init_43 : decode cX0_init 43 = .ok (.putfield 34, 3) := by decide +kernel
theorem dX0_init_46 : decode cX0_init 46 = .ok (.return_, 1) := by decide +kernel
theorem dX0_reached_0 : decode cX0_reached 0 = .ok (.aload_n 0, 1) := by decide +kernel
theorem dX0_reached_1 : decode cX0_reached 1 = .ok (.getfield 34, 3) := by decide +kernel
theorem dX0_reached_4 : decode cX0_reached 4 = .ok (.ifnonnull 10, 3) := by decide +kernel
theorem dX0_reached_7 : decode cX0_reached 7 = .ok (.aload_n 0, 1) := by decide +kernel
theorem dX0_reached_8 : decode cX0_reached 8 = .ok (.getfield 11, 3) := by decide +kernel
theorem dX0_reached_11 : decode cX0_reached 11 = .ok (.goto 10, 3) := by decide +kernel
theorem dX0_reached_14 : decode cX0_reached 14 = .ok (.aload_n 0, 1) := by decide +kernel
theorem dX0_reached_15 : decode cX0_reached 15 = .ok (.getfield 34, 3) := by decide +kernel
theorem dX0_reached_18 : decode cX0_reached 18 = .ok (.invokevirtual 38, 3) := by decide +kernel
theorem dX0_reached_21 : decode cX0_reached 21 = .ok (.lreturn, 1) := by decide +kernel
theorem dX0_advance_0 : decode cX0_advance 0 = .ok (.aload_n 0, 1) := by decide +kernel
theorem dX0_advance_1 : decode cX0_advance 1 = .ok (.getfield 34, 3) := by decide +kernel
theorem dX0_advance_4 : decode cX0_advance 4 = .ok (.ifnonnull 14, 3) := by decide +kernel
theorem dX0_advance_7 : decode cX0_advance 7 = .ok (.aload_n 0, 1) := by decide +kernel
theorem dX0_advance_8 : decode cX0_advance 8 = .ok (.aload_n 1, 1) := by decide +kernel
theorem dX0_advance_9 : decode cX0_advance 9 = .ok (.lload_n 2, 1) := by decide +kernel
theorem dX0_advance_10 : decode cX0_advance 10 = .ok (.iload 4, 2) := by decide +kernel
theorem dX0_advance_12 : decode cX0_advance 12 = .ok (.invokevirtual 44, 3) := by decide +kernel
theorem dX0_advance_15 : decode cX0_advance 15 = .ok (.goto 15, 3) := by decide +kernel
theorem dX0_advance_18 : decode cX0_advance 18 = .ok (.aload_n 0, 1) := by decide +kernel
theorem dX0_advance_19 : decode cX0_advance 19 = .ok (.aload_n 0, 1) := by decide +kernel
theorem dX0_advance_20 : decode cX0_advance 20 = .ok (.getfield 34, 3) := by decide +kernel
theorem dX0_advance_23 : decode cX0_advance 23 = .ok (.aload_n 1, 1) := by decide +kernel
theorem dX0_advance_24 : decode cX0_advance 24 = .ok (.lload_n 2, 1) := by decide +kernel
theorem dX0_advance_25 : decode cX0_advance 25 = .ok (.iload 4, 2) := by decide +kernel
theorem dX0_advance_27 : decode cX0_advance 27 = .ok (.invokevirtual 48, 3) := by decide +kernel
theorem dX0_advance_30 : decode cX0_advance 30 = .ok (.ireturn, 1) := by decide +kernel
theorem dX0_goThrough_0 : decode cX0_goThrough 0 = .ok (.aload_n 0, 1) := by decide +kernel
theorem dX0_goThrough_1 : decode cX0_goThrough 1 = .ok (.invokevirtual 52, 3) := by decide +kernel
theorem dX0_goThrough_4 : decode cX0_goThrough 4 = .ok (.iconst 0, 1) := by decide +kernel
theorem dX0_goThrough_5 : decode cX0_goThrough 5 = .ok (.istore 5, 2) := by decide +kernel
theorem dX0_goThrough_7 : decode cX0_goThrough 7 = .ok (.iload 5, 2) := by decide +kernel
theorem dX0_goThrough_9 : decode cX0_goThrough 9 = .ok (.iload 4, 2) := by decide +kernel
theorem dX0_goThrough_11 : decode cX0_goThrough 11 = .ok (.if_icmp .ge 56, 3) := by decide +kernel
theorem dX0_goThrough_14 : decode cX0_goThrough 14 = .ok (.aload_n 0, 1) := by decide +kernel
theorem dX0_goThrough_15 : decode cX0_goThrough 15 = .ok (.getfield 11, 3) := by decide +kernel
theorem dX0_goThrough_18 : decode cX0_goThrough 18 = .ok (.lload_n 2, 1) := by decide +kernel
theorem dX0_goThrough_19 : decode cX0_goThrough 19 = .ok (.lcmp, 1) := by decide +kernel
theorem dX0_goThrough_20 : decode cX0_goThrough 20 = .ok (.ifCond .ge 47, 3) := by decide +kernel
theorem dX0_goThrough_23 : decode cX0_goThrough 23 = .ok (.aload_n 0, 1) := by decide +kernel
theorem dX0_goThrough_24 : decode cX0_goThrough 24 = .ok (.aload_n 1, 1) := by decide +kernel
theorem dX0_goThrough_25 : decode cX0_goThrough 25 = .ok (.aload_n 0, 1) := by decide +kernel
theorem dX0_goThrough_26 : decode cX0_goThrough 26 = .ok (.getfield 11, 3) := by decide +kernel
theorem dX0_goThrough_29 : decode cX0_goThrough 29 = .ok (.lconst 1, 1) := by decide +kernel
theorem dX0_goThrough_30 : decode cX0_goThrough 30 = .ok (.ladd, 1) := by decide +kernel
theorem dX0_goThrough_31 : decode cX0_goThrough 31 = .ok (.invokevirtual 55, 3) := by decide +kernel
theorem dX0_goThrough_34 : decode cX0_goThrough 34 = .ok (.ifCond .ne 17, 3) := by decide +kernel
theorem dX0_goThrough_37 : decode cX0_goThrough 37 = .ok (.aload_n 0, 1) := by decide +kernel
theorem dX0_goThrough_38 : decode cX0_goThrough 38 = .ok (.getfield 59, 3) := by decide +kernel
theorem dX0_goThrough_41 : decode cX0_goThrough 41 = .ok (.ifCond .eq 8, 3) := by decide +kernel
theorem dX0_goThrough_44 : decode cX0_goThrough 44 = .ok (.iload 5, 2) := by decide +kernel
theorem dX0_goThrough_46 : decode cX0_goThrough 46 = .ok (.goto 4, 3) := by decide +kernel
theorem dX0_goThrough_49 : decode cX0_goThrough 49 = .ok (.iconst (-1), 1) := by decide +kernel
theorem dX0_goThrough_50 : decode cX0_goThrough 50 = .ok (.ireturn, 1) := by decide +kernel
theorem dX0_goThrough_51 : decode cX0_goThrough 51 = .ok (.aload_n 0, 1) := by decide +kernel
theorem dX0_goThrough_52 : decode cX0_goThrough 52 = .ok (.dup, 1) := by decide +kernel
theorem dX0_goThrough_53 : decode cX0_goThrough 53 = .ok (.getfield 11, 3) := by decide +kernel
theorem dX0_goThrough_56 : decode cX0_goThrough 56 = .ok (.lconst 1, 1) := by decide +kernel
theorem dX0_goThrough_57 : decode cX0_goThrough 57 = .ok (.ladd, 1) := by decide +kernel
theorem dX0_goThrough_58 : decode cX0_goThrough 58 = .ok (.putfield 11, 3) := by decide +kernel
theorem dX0_goThrough_61 : decode cX0_goThrough 61 = .ok (.iinc 5 1, 3) := by decide +kernel
theorem dX0_goThrough_64 : decode cX0_goThrough 64 = .ok (.goto (-57), 3) := by decide +kernel
theorem dX0_goThrough_67 : decode cX0_goThrough 67 = .ok (.iload 5, 2) := by decide +kernel
theorem dX0_goThrough_69 : decode cX0_goThrough 69 = .ok (.ireturn, 1) := by decide +kernel
theorem dX0_share_0 : decode cX0_share 0 = .ok (.iconst 0, 1) := by decide +kernel
theorem dX0_share_1 : decode cX0_share 1 = .ok (.istore 6, 2) := by decide +kernel
theorem dX0_share_3 : decode cX0_share 3 = .ok (.iload 6, 2) := by decide +kernel
theorem dX0_share_5 : decode cX0_share 5 = .ok (.iload 5, 2) := by decide +kernel
theorem dX0_share_7 : decode cX0_share 7 = .ok (.if_icmp .ge 59, 3) := by decide +kernel
theorem dX0_share_10 : decode cX0_share 10 = .ok (.aload_n 0, 1) := by decide +kernel
theorem dX0_share_11 : decode cX0_share 11 = .ok (.getfield 17, 3) := by decide +kernel
theorem dX0_share_14 : decode cX0_share 14 = .ok (.ldc2_w 9, 3) := by decide +kernel
theorem dX0_share_17 : decode cX0_share 17 = .ok (.lcmp, 1) := by decide +kernel
theorem dX0_share_18 : decode cX0_share 18 = .ok (.ifCond .ne 11, 3) := by decide +kernel
theorem dX0_share_21 : decode cX0_share 21 = .ok (.aload_n 0, 1) := by decide +kernel
theorem dX0_share_22 : decode cX0_share 22 = .ok (.aload_n 1, 1) := by decide +kernel
theorem dX0_share_23 : decode cX0_share 23 = .ok (.invokevirtual 63, 3) := by decide +kernel
theorem dX0_share_26 : decode cX0_share 26 = .ok (.putfield 17, 3) := by decide +kernel
theorem dX0_share_29 : decode cX0_share 29 = .ok (.aload_n 0, 1) := by decide +kernel
theorem dX0_share_30 : decode cX0_share 30 = .ok (.getfield 17, 3) := by decide +kernel
theorem dX0_share_33 : decode cX0_share 33 = .ok (.lload_n 3, 1) := by decide +kernel
theorem dX0_share_34 : decode cX0_share 34 = .ok (.lcmp, 1) := by decide +kernel
theorem dX0_share_35 : decode cX0_share 35 = .ok (.ifCond .gt 15, 3) := by decide +kernel
theorem dX0_share_38 : decode cX0_share 38 = .ok (.aload_n 0, 1) := by decide +kernel
theorem dX0_share_39 : decode cX0_share 39 = .ok (.aload_n 2, 1) := by decide +kernel
theorem dX0_share_40 : decode cX0_share 40 = .ok (.aload_n 0, 1) := by decide +kernel
theorem dX0_share_41 : decode cX0_share 41 = .ok (.getfield 17, 3) := by decide +kernel
theorem dX0_share_44 : decode cX0_share 44 = .ok (.invokevirtual 55, 3) := by decide +kernel
theorem dX0_share_47 : decode cX0_share 47 = .ok (.ifCond .ne 6, 3) := by decide +kernel
theorem dX0_share_50 : decode cX0_share 50 = .ok (.iload 6, 2) := by decide +kernel
theorem dX0_share_52 : decode cX0_share 52 = .ok (.ireturn, 1) := by decide +kernel
theorem dX0_share_53 : decode cX0_share 53 = .ok (.aload_n 0, 1) := by decide +kernel
theorem dX0_share_54 : decode cX0_share 54 = .ok (.ldc2_w 9, 3) := by decide +kernel
theorem dX0_share_57 : decode cX0_share 57 = .ok (.putfield 17, 3) := by decide +kernel
theorem dX0_share_60 : decode cX0_share 60 = .ok (.iinc 6 1, 3) := by decide +kernel
theorem dX0_share_63 : decode cX0_share 63 = .ok (.goto (-60), 3) := by decide +kernel
theorem dX0_share_66 : decode cX0_share 66 = .ok (.iload 6, 2) := by decide +kernel
theorem dX0_share_68 : decode cX0_share 68 = .ok (.ireturn, 1) := by decide +kernel
theorem dX0_passes_0 : decode cX0_passes 0 = .ok (.aload_n 0, 1) := by decide +kernel
theorem dX0_passes_1 : decode cX0_passes 1 = .ok (.getfield 23, 3) := by decide +kernel
theorem dX0_passes_4 : decode cX0_passes 4 = .ok (.lload_n 2, 1) := by decide +kernel
theorem dX0_passes_5 : decode cX0_passes 5 = .ok (.aload_n 1, 1) := by decide +kernel
theorem dX0_passes_6 : decode cX0_passes 6 = .ok (.lload_n 2, 1) := by decide +kernel
theorem dX0_passes_7 : decode cX0_passes 7 = .ok (.invokevirtual 66, 3) := by decide +kernel
theorem dX0_passes_10 : decode cX0_passes 10 = .ok (.aload_n 1, 1) := by decide +kernel
theorem dX0_passes_11 : decode cX0_passes 11 = .ok (.lload_n 2, 1) := by decide +kernel
theorem dX0_passes_12 : decode cX0_passes 12 = .ok (.invokevirtual 72, 3) := by decide +kernel
theorem dX0_passes_15 : decode cX0_passes 15 = .ok (.invokevirtual 76, 3) := by decide +kernel
theorem dX0_passes_18 : decode cX0_passes 18 = .ok (.ifCond .eq 15, 3) := by decide +kernel
theorem dX0_passes_21 : decode cX0_passes 21 = .ok (.aload_n 0, 1) := by decide +kernel
theorem dX0_passes_22 : decode cX0_passes 22 = .ok (.dup, 1) := by decide +kernel
theorem dX0_passes_23 : decode cX0_passes 23 = .ok (.getfield 82, 3) := by decide +kernel
theorem dX0_passes_26 : decode cX0_passes 26 = .ok (.iconst 1, 1) := by decide +kernel
theorem dX0_passes_27 : decode cX0_passes 27 = .ok (.iadd, 1) := by decide +kernel
theorem dX0_passes_28 : decode cX0_passes 28 = .ok (.putfield 82, 3) := by decide +kernel
theorem dX0_passes_31 : decode cX0_passes 31 = .ok (.iconst 1, 1) := by decide +kernel
theorem dX0_passes_32 : decode cX0_passes 32 = .ok (.ireturn, 1) := by decide +kernel
theorem dX0_passes_33 : decode cX0_passes 33 = .ok (.aload_n 0, 1) := by decide +kernel
theorem dX0_passes_34 : decode cX0_passes 34 = .ok (.getfield 31, 3) := by decide +kernel
theorem dX0_passes_37 : decode cX0_passes 37 = .ok (.iconst 1, 1) := by decide +kernel
theorem dX0_passes_38 : decode cX0_passes 38 = .ok (.if_icmp .ne 10, 3) := by decide +kernel
theorem dX0_passes_41 : decode cX0_passes 41 = .ok (.aload_n 0, 1) := by decide +kernel
theorem dX0_passes_42 : decode cX0_passes 42 = .ok (.iconst 1, 1) := by decide +kernel
theorem dX0_passes_43 : decode cX0_passes 43 = .ok (.putfield 59, 3) := by decide +kernel
theorem dX0_passes_46 : decode cX0_passes 46 = .ok (.iconst 0, 1) := by decide +kernel
theorem dX0_passes_47 : decode cX0_passes 47 = .ok (.ireturn, 1) := by decide +kernel
theorem dX0_passes_48 : decode cX0_passes 48 = .ok (.aload_n 0, 1) := by decide +kernel
theorem dX0_passes_49 : decode cX0_passes 49 = .ok (.getfield 31, 3) := by decide +kernel
theorem dX0_passes_52 : decode cX0_passes 52 = .ok (.iconst 2, 1) := by decide +kernel
theorem dX0_passes_53 : decode cX0_passes 53 = .ok (.if_icmp .ne 18, 3) := by decide +kernel
theorem dX0_passes_56 : decode cX0_passes 56 = .ok (.aload_n 0, 1) := by decide +kernel
theorem dX0_passes_57 : decode cX0_passes 57 = .ok (.lload_n 2, 1) := by decide +kernel
theorem dX0_passes_58 : decode cX0_passes 58 = .ok (.invokevirtual 85, 3) := by decide +kernel
theorem dX0_passes_61 : decode cX0_passes 61 = .ok (.iconst 3, 1) := by decide +kernel
theorem dX0_passes_62 : decode cX0_passes 62 = .ok (.if_icmp .ge 9, 3) := by decide +kernel
theorem dX0_passes_65 : decode cX0_passes 65 = .ok (.aload_n 0, 1) := by decide +kernel
theorem dX0_passes_66 : decode cX0_passes 66 = .ok (.invokevirtual 88, 3) := by decide +kernel
theorem dX0_passes_69 : decode cX0_passes 69 = .ok (.iconst 0, 1) := by decide +kernel
theorem dX0_passes_70 : decode cX0_passes 70 = .ok (.ireturn, 1) := by decide +kernel
theorem dX0_passes_71 : decode cX0_passes 71 = .ok (.aload_n 0, 1) := by decide +kernel
theorem dX0_passes_72 : decode cX0_passes 72 = .ok (.dup, 1) := by decide +kernel
theorem dX0_passes_73 : decode cX0_passes 73 = .ok (.getfield 91, 3) := by decide +kernel
theorem dX0_passes_76 : decode cX0_passes 76 = .ok (.iconst 1, 1) := by decide +kernel
theorem dX0_passes_77 : decode cX0_passes 77 = .ok (.iadd, 1) := by decide +kernel
theorem dX0_passes_78 : decode cX0_passes 78 = .ok (.putfield 91, 3) := by decide +kernel
theorem dX0_passes_81 : decode cX0_passes 81 = .ok (.iconst 1, 1) := by decide +kernel
theorem dX0_passes_82 : decode cX0_passes 82 = .ok (.ireturn, 1) := by decide +kernel
theorem dX0_throwsAgain_0 : decode cX0_throwsAgain 0 = .ok (.aload_n 0, 1) := by decide +kernel
theorem dX0_throwsAgain_1 : decode cX0_throwsAgain 1 = .ok (.lload_n 1, 1) := by decide +kernel
theorem dX0_throwsAgain_2 : decode cX0_throwsAgain 2 = .ok (.aload_n 0, 1) := by decide +kernel
theorem dX0_throwsAgain_3 : decode cX0_throwsAgain 3 = .ok (.getfield 20, 3) := by decide +kernel
theorem dX0_throwsAgain_6 : decode cX0_throwsAgain 6 = .ok (.lcmp, 1) := by decide +kernel
theorem dX0_throwsAgain_7 : decode cX0_throwsAgain 7 = .ok (.ifCond .ne 12, 3) := by decide +kernel
theorem dX0_throwsAgain_10 : decode cX0_throwsAgain 10 = .ok (.aload_n 0, 1) := by decide +kernel
theorem dX0_throwsAgain_11 : decode cX0_throwsAgain 11 = .ok (.getfield 94, 3) := by decide +kernel
theorem dX0_throwsAgain_14 : decode cX0_throwsAgain 14 = .ok (.iconst 1, 1) := by decide +kernel
theorem dX0_throwsAgain_15 : decode cX0_throwsAgain 15 = .ok (.iadd, 1) := by decide +kernel
theorem dX0_throwsAgain_16 : decode cX0_throwsAgain 16 = .ok (.goto 4, 3) := by decide +kernel
theorem dX0_throwsAgain_19 : decode cX0_throwsAgain 19 = .ok (.iconst 1, 1) := by decide +kernel
theorem dX0_throwsAgain_20 : decode cX0_throwsAgain 20 = .ok (.putfield 94, 3) := by decide +kernel
theorem dX0_throwsAgain_23 : decode cX0_throwsAgain 23 = .ok (.aload_n 0, 1) := by decide +kernel
theorem dX0_throwsAgain_24 : decode cX0_throwsAgain 24 = .ok (.lload_n 1, 1) := by decide +kernel
theorem dX0_throwsAgain_25 : decode cX0_throwsAgain 25 = .ok (.putfield 20, 3) := by decide +kernel
theorem dX0_throwsAgain_28 : decode cX0_throwsAgain 28 = .ok (.aload_n 0, 1) := by decide +kernel
theorem dX0_throwsAgain_29 : decode cX0_throwsAgain 29 = .ok (.getfield 94, 3) := by decide +kernel
theorem dX0_throwsAgain_32 : decode cX0_throwsAgain 32 = .ok (.ireturn, 1) := by decide +kernel
theorem dX0_startBatch_0 : decode cX0_startBatch 0 = .ok (.aload_n 0, 1) := by decide +kernel
theorem dX0_startBatch_1 : decode cX0_startBatch 1 = .ok (.aload_n 0, 1) := by decide +kernel
theorem dX0_startBatch_2 : decode cX0_startBatch 2 = .ok (.getfield 11, 3) := by decide +kernel
theorem dX0_startBatch_5 : decode cX0_startBatch 5 = .ok (.putfield 97, 3) := by decide +kernel
theorem dX0_startBatch_8 : decode cX0_startBatch 8 = .ok (.aload_n 0, 1) := by decide +kernel
theorem dX0_startBatch_9 : decode cX0_startBatch 9 = .ok (.aload_n 0, 1) := by decide +kernel
theorem dX0_startBatch_10 : decode cX0_startBatch 10 = .ok (.getfield 82, 3) := by decide +kernel
theorem dX0_startBatch_13 : decode cX0_startBatch 13 = .ok (.putfield 100, 3) := by decide +kernel
theorem dX0_startBatch_16 : decode cX0_startBatch 16 = .ok (.aload_n 0, 1) := by decide +kernel
theorem dX0_startBatch_17 : decode cX0_startBatch 17 = .ok (.aload_n 0, 1) := by decide +kernel
theorem dX0_startBatch_18 : decode cX0_startBatch 18 = .ok (.getfield 91, 3) := by decide +kernel
theorem dX0_startBatch_21 : decode cX0_startBatch 21 = .ok (.putfield 103, 3) := by decide +kernel
theorem dX0_startBatch_24 : decode cX0_startBatch 24 = .ok (.aload_n 0, 1) := by decide +kernel
theorem dX0_startBatch_25 : decode cX0_startBatch 25 = .ok (.getfield 23, 3) := by decide +kernel
theorem dX0_startBatch_28 : decode cX0_startBatch 28 = .ok (.invokevirtual 106, 3) := by decide +kernel
theorem dX0_startBatch_31 : decode cX0_startBatch 31 = .ok (.return_, 1) := by decide +kernel
theorem dX0_returnToStart_0 : decode cX0_returnToStart 0 = .ok (.aload_n 0, 1) := by decide +kernel
theorem dX0_returnToStart_1 : decode cX0_returnToStart 1 = .ok (.aload_n 0, 1) := by decide +kernel
theorem dX0_returnToStart_2 : decode cX0_returnToStart 2 = .ok (.getfield 97, 3) := by decide +kernel
theorem dX0_returnToStart_5 : decode cX0_returnToStart 5 = .ok (.putfield 11, 3) := by decide +kernel
theorem dX0_returnToStart_8 : decode cX0_returnToStart 8 = .ok (.aload_n 0, 1) := by decide +kernel
theorem dX0_returnToStart_9 : decode cX0_returnToStart 9 = .ok (.aload_n 0, 1) := by decide +kernel
theorem dX0_returnToStart_10 : decode cX0_returnToStart 10 = .ok (.getfield 100, 3) := by decide +kernel
theorem dX0_returnToStart_13 : decode cX0_returnToStart 13 = .ok (.putfield 82, 3) := by decide +kernel
theorem dX0_returnToStart_16 : decode cX0_returnToStart 16 = .ok (.aload_n 0, 1) := by decide +kernel
theorem dX0_returnToStart_17 : decode cX0_returnToStart 17 = .ok (.aload_n 0, 1) := by decide +kernel
theorem dX0_returnToStart_18 : decode cX0_returnToStart 18 = .ok (.getfield 103, 3) := by decide +kernel
theorem dX0_returnToStart_21 : decode cX0_returnToStart 21 = .ok (.putfield 91, 3) := by decide +kernel
theorem dX0_returnToStart_24 : decode cX0_returnToStart 24 = .ok (.aload_n 0, 1) := by decide +kernel
theorem dX0_returnToStart_25 : decode cX0_returnToStart 25 = .ok (.getfield 23, 3) := by decide +kernel
theorem dX0_returnToStart_28 : decode cX0_returnToStart 28 = .ok (.invokevirtual 109, 3) := by decide +kernel
theorem dX0_returnToStart_31 : decode cX0_returnToStart 31 = .ok (.aload_n 0, 1) := by decide +kernel
theorem dX0_returnToStart_32 : decode cX0_returnToStart 32 = .ok (.dup, 1) := by decide +kernel
theorem dX0_returnToStart_33 : decode cX0_returnToStart 33 = .ok (.getfield 112, 3) := by decide +kernel
theorem dX0_returnToStart_36 : decode cX0_returnToStart 36 = .ok (.iconst 1, 1) := by decide +kernel
theorem dX0_returnToStart_37 : decode cX0_returnToStart 37 = .ok (.iadd, 1) := by decide +kernel
theorem dX0_returnToStart_38 : decode cX0_returnToStart 38 = .ok (.putfield 112, 3) := by decide +kernel
theorem dX0_returnToStart_41 : decode cX0_returnToStart 41 = .ok (.return_, 1) := by decide +kernel
theorem dX1_init_0 : decode cX1_init 0 = .ok (.aload_n 0, 1) := by decide +kernel
theorem dX1_init_1 : decode cX1_init 1 = .ok (.invokespecial 1, 3) := by decide +kernel
theorem dX1_init_4 : decode cX1_init 4 = .ok (.return_, 1) := by decide +kernel
theorem dX1_amount_0 : decode cX1_amount 0 = .ok (.lconst 0, 1) := by decide +kernel
theorem dX1_amount_1 : decode cX1_amount 1 = .ok (.lreturn, 1) := by decide +kernel
theorem dX2_init_0 : decode cX2_init 0 = .ok (.aload_n 0, 1) := by decide +kernel
theorem dX2_init_1 : decode cX2_init 1 = .ok (.invokespecial 1, 3) := by decide +kernel
theorem dX2_init_4 : decode cX2_init 4 = .ok (.aload_n 0, 1) := by decide +kernel
theorem dX2_init_5 : decode cX2_init 5 = .ok (.sipush 400, 3) := by decide +kernel
theorem dX2_init_8 : decode cX2_init 8 = .ok (.newarray .byte, 2) := by decide +kernel
theorem dX2_init_10 : decode cX2_init 10 = .ok (.putfield 9, 3) := by decide +kernel
theorem dX2_init_13 : decode cX2_init 13 = .ok (.return_, 1) := by decide +kernel
theorem dX2_handles_0 : decode cX2_handles 0 = .ok (.lload_n 3, 1) := by decide +kernel
theorem dX2_handles_1 : decode cX2_handles 1 = .ok (.lconst 0, 1) := by decide +kernel
theorem dX2_handles_2 : decode cX2_handles 2 = .ok (.lcmp, 1) := by decide +kernel
theorem dX2_handles_3 : decode cX2_handles 3 = .ok (.ifCond .lt 16, 3) := by decide +kernel
theorem dX2_handles_6 : decode cX2_handles 6 = .ok (.bipush 13, 2) := by decide +kernel
theorem dX2_handles_8 : decode cX2_handles 8 = .ok (.sipush 400, 3) := by decide +kernel
theorem dX2_handles_11 : decode cX2_handles 11 = .ok (.aload_n 0, 1) := by decide +kernel
theorem dX2_handles_12 : decode cX2_handles 12 = .ok (.getfield 13, 3) := by decide +kernel
theorem dX2_handles_15 : decode cX2_handles 15 = .ok (.isub, 1) := by decide +kernel
theorem dX2_handles_16 : decode cX2_handles 16 = .ok (.if_icmp .le 5, 3) := by decide +kernel
theorem dX2_handles_19 : decode cX2_handles 19 = .ok (.iconst 0, 1) := by decide +kernel
theorem dX2_handles_20 : decode cX2_handles 20 = .ok (.ireturn, 1) := by decide +kernel
theorem dX2_handles_21 : decode cX2_handles 21 = .ok (.aload_n 0, 1) := by decide +kernel
theorem dX2_handles_22 : decode cX2_handles 22 = .ok (.getfield 13, 3) := by decide +kernel
theorem dX2_handles_25 : decode cX2_handles 25 = .ok (.istore 6, 2) := by decide +kernel
theorem dX2_handles_27 : decode cX2_handles 27 = .ok (.aload_n 0, 1) := by decide +kernel
theorem dX2_handles_28 : decode cX2_handles 28 = .ok (.ldc2_w 17, 3) := by decide +kernel
theorem dX2_handles_31 : decode cX2_handles 31 = .ok (.invokevirtual 19, 3) := by decide +kernel
theorem dX2_handles_34 : decode cX2_handles 34 = .ok (.aload_n 0, 1) := by decide +kernel
theorem dX2_handles_35 : decode cX2_handles 35 = .ok (.lload_n 1, 1) := by decide +kernel
theorem dX2_handles_36 : decode cX2_handles 36 = .ok (.bipush 8, 2) := by decide +kernel
theorem dX2_handles_38 : decode cX2_handles 38 = .ok (.lushr, 1) := by decide +kernel
theorem dX2_handles_39 : decode cX2_handles 39 = .ok (.invokevirtual 19, 3) := by decide +kernel
theorem dX2_handles_42 : decode cX2_handles 42 = .ok (.aload_n 0, 1) := by decide +kernel
theorem dX2_handles_43 : decode cX2_handles 43 = .ok (.lload_n 1, 1) := by decide +kernel
theorem dX2_handles_44 : decode cX2_handles 44 = .ok (.invokevirtual 19, 3) := by decide +kernel
theorem dX2_handles_47 : decode cX2_handles 47 = .ok (.bipush 7, 2) := by decide +kernel
theorem dX2_handles_49 : decode cX2_handles 49 = .ok (.istore 7, 2) := by decide +kernel
theorem dX2_handles_51 : decode cX2_handles 51 = .ok (.iload 7, 2) := by decide +kernel
theorem dX2_handles_53 : decode cX2_handles 53 = .ok (.ifCond .lt 20, 3) := by decide +kernel
theorem dX2_handles_56 : decode cX2_handles 56 = .ok (.aload_n 0, 1) := by decide +kernel
theorem dX2_handles_57 : decode cX2_handles 57 = .ok (.lload_n 3, 1) := by decide +kernel
theorem dX2_handles_58 : decode cX2_handles 58 = .ok (.bipush 8, 2) := by decide +kernel
theorem dX2_handles_60 : decode cX2_handles 60 = .ok (.iload 7, 2) := by decide +kernel
theorem dX2_handles_62 : decode cX2_handles 62 = .ok (.imul, 1) := by decide +kernel
theorem dX2_handles_63 : decode cX2_handles 63 = .ok (.lushr, 1) := by decide +kernel
theorem dX2_handles_64 : decode cX2_handles 64 = .ok (.invokevirtual 19, 3) := by decide +kernel
theorem dX2_handles_67 : decode cX2_handles 67 = .ok (.iinc 7 (-1), 3) := by decide +kernel
theorem dX2_handles_70 : decode cX2_handles 70 = .ok (.goto (-19), 3) := by decide +kernel
theorem dX2_handles_73 : decode cX2_handles 73 = .ok (.aload_n 0, 1) := by decide +kernel
theorem dX2_handles_74 : decode cX2_handles 74 = .ok (.iload 5, 2) := by decide +kernel
theorem dX2_handles_76 : decode cX2_handles 76 = .ok (.i2l, 1) := by decide +kernel
theorem dX2_handles_77 : decode cX2_handles 77 = .ok (.invokevirtual 19, 3) := by decide +kernel
theorem dX2_handles_80 : decode cX2_handles 80 = .ok (.aload_n 0, 1) := by decide +kernel
theorem dX2_handles_81 : decode cX2_handles 81 = .ok (.aload_n 0, 1) := by decide +kernel
theorem dX2_handles_82 : decode cX2_handles 82 = .ok (.iload 6, 2) := by decide +kernel
theorem dX2_handles_84 : decode cX2_handles 84 = .ok (.invokevirtual 23, 3) := by decide +kernel
theorem dX2_handles_87 : decode cX2_handles 87 = .ok (.i2l, 1) := by decide +kernel
theorem dX2_handles_88 : decode cX2_handles 88 = .ok (.invokevirtual 19, 3) := by decide +kernel
theorem dX2_handles_91 : decode cX2_handles 91 = .ok (.iconst 1, 1) := by decide +kernel
theorem dX2_handles_92 : decode cX2_handles 92 = .ok (.ireturn, 1) := by decide +kernel
theorem dX2_keep_0 : decode cX2_keep 0 = .ok (.aload_n 0, 1) := by decide +kernel
theorem dX2_keep_1 : decode cX2_keep 1 = .ok (.aload_n 0, 1) := by decide +kernel
theorem dX2_keep_2 : decode cX2_keep 2 = .ok (.getfield 13, 3) := by decide +kernel
theorem dX2_keep_5 : decode cX2_keep 5 = .ok (.putfield 27, 3) := by decide +kernel
theorem dX2_keep_8 : decode cX2_keep 8 = .ok (.return_, 1) := by decide +kernel
theorem dX2_restore_0 : decode cX2_restore 0 = .ok (.aload_n 0, 1) := by decide +kernel
theorem dX2_restore_1 : decode cX2_restore 1 = .ok (.aload_n 0, 1) := by decide +kernel
theorem dX2_restore_2 : decode cX2_restore 2 = .ok (.getfield 27, 3) := by decide +kernel
theorem dX2_restore_5 : decode cX2_restore 5 = .ok (.putfield 13, 3) := by decide +kernel
theorem dX2_restore_8 : decode cX2_restore 8 = .ok (.return_, 1) := by decide +kernel
theorem dX2_amount_0 : decode cX2_amount 0 = .ok (.aload_n 0, 1) := by decide +kernel
theorem dX2_amount_1 : decode cX2_amount 1 = .ok (.getfield 13, 3) := by decide +kernel
theorem dX2_amount_4 : decode cX2_amount 4 = .ok (.i2l, 1) := by decide +kernel
theorem dX2_amount_5 : decode cX2_amount 5 = .ok (.lreturn, 1) := by decide +kernel
theorem dX2_byteAt_0 : decode cX2_byteAt 0 = .ok (.iload_n 1, 1) := by decide +kernel
theorem dX2_byteAt_1 : decode cX2_byteAt 1 = .ok (.ifCond .lt 24, 3) := by decide +kernel
theorem dX2_byteAt_4 : decode cX2_byteAt 4 = .ok (.iload_n 1, 1) := by decide +kernel
theorem dX2_byteAt_5 : decode cX2_byteAt 5 = .ok (.aload_n 0, 1) := by decide +kernel
theorem dX2_byteAt_6 : decode cX2_byteAt 6 = .ok (.getfield 13, 3) := by decide +kernel
theorem dX2_byteAt_9 : decode cX2_byteAt 9 = .ok (.if_icmp .ge 16, 3) := by decide +kernel
theorem dX2_byteAt_12 : decode cX2_byteAt 12 = .ok (.aload_n 0, 1) := by decide +kernel
theorem dX2_byteAt_13 : decode cX2_byteAt 13 = .ok (.getfield 9, 3) := by decide +kernel
theorem dX2_byteAt_16 : decode cX2_byteAt 16 = .ok (.iload_n 1, 1) := by decide +kernel
theorem dX2_byteAt_17 : decode cX2_byteAt 17 = .ok (.baload, 1) := by decide +kernel
theorem dX2_byteAt_18 : decode cX2_byteAt 18 = .ok (.sipush 255, 3) := by decide +kernel
theorem dX2_byteAt_21 : decode cX2_byteAt 21 = .ok (.iand, 1) := by decide +kernel
theorem dX2_byteAt_22 : decode cX2_byteAt 22 = .ok (.goto 4, 3) := by decide +kernel
theorem dX2_byteAt_25 : decode cX2_byteAt 25 = .ok (.iconst 0, 1) := by decide +kernel
theorem dX2_byteAt_26 : decode cX2_byteAt 26 = .ok (.ireturn, 1) := by decide +kernel
theorem dX2_soundRecords_0 : decode cX2_soundRecords 0 = .ok (.iconst 0, 1) := by decide +kernel
theorem dX2_soundRecords_1 : decode cX2_soundRecords 1 = .ok (.istore_n 1, 1) := by decide +kernel
theorem dX2_soundRecords_2 : decode cX2_soundRecords 2 = .ok (.iconst 0, 1) := by decide +kernel
theorem dX2_soundRecords_3 : decode cX2_soundRecords 3 = .ok (.istore_n 2, 1) := by decide +kernel
theorem dX2_soundRecords_4 : decode cX2_soundRecords 4 = .ok (.iload_n 2, 1) := by decide +kernel
theorem dX2_soundRecords_5 : decode cX2_soundRecords 5 = .ok (.bipush 13, 2) := by decide +kernel
theorem dX2_soundRecords_7 : decode cX2_soundRecords 7 = .ok (.iadd, 1) := by decide +kernel
theorem dX2_soundRecords_8 : decode cX2_soundRecords 8 = .ok (.aload_n 0, 1) := by decide +kernel
theorem dX2_soundRecords_9 : decode cX2_soundRecords 9 = .ok (.getfield 13, 3) := by decide +kernel
theorem dX2_soundRecords_12 : decode cX2_soundRecords 12 = .ok (.if_icmp .gt 23, 3) := by decide +kernel
theorem dX2_soundRecords_15 : decode cX2_soundRecords 15 = .ok (.aload_n 0, 1) := by decide +kernel
theorem dX2_soundRecords_16 : decode cX2_soundRecords 16 = .ok (.iload_n 2, 1) := by decide +kernel
theorem dX2_soundRecords_17 : decode cX2_soundRecords 17 = .ok (.invokevirtual 30, 3) := by decide +kernel
theorem dX2_soundRecords_20 : decode cX2_soundRecords 20 = .ok (.ifCond .ne 6, 3) := by decide +kernel
theorem dX2_soundRecords_23 : decode cX2_soundRecords 23 = .ok (.goto 12, 3) := by decide +kernel
theorem dX2_soundRecords_26 : decode cX2_soundRecords 26 = .ok (.iinc 1 1, 3) := by decide +kernel
theorem dX2_soundRecords_29 : decode cX2_soundRecords 29 = .ok (.iinc 2 13, 3) := by decide +kernel
theorem dX2_soundRecords_32 : decode cX2_soundRecords 32 = .ok (.goto (-28), 3) := by decide +kernel
theorem dX2_soundRecords_35 : decode cX2_soundRecords 35 = .ok (.iload_n 1, 1) := by decide +kernel
theorem dX2_soundRecords_36 : decode cX2_soundRecords 36 = .ok (.ireturn, 1) := by decide +kernel
theorem dX2_sumOfFirst_0 : decode cX2_sumOfFirst 0 = .ok (.lconst 0, 1) := by decide +kernel
theorem dX2_sumOfFirst_1 : decode cX2_sumOfFirst 1 = .ok (.lstore_n 2, 1) := by decide +kernel
theorem dX2_sumOfFirst_2 : decode cX2_sumOfFirst 2 = .ok (.iconst 0, 1) := by decide +kernel
theorem dX2_sumOfFirst_3 : decode cX2_sumOfFirst 3 = .ok (.istore 4, 2) := by decide +kernel
theorem dX2_sumOfFirst_5 : decode cX2_sumOfFirst 5 = .ok (.iload 4, 2) := by decide +kernel
theorem dX2_sumOfFirst_7 : decode cX2_sumOfFirst 7 = .ok (.iload_n 1, 1) := by decide +kernel
theorem dX2_sumOfFirst_8 : decode cX2_sumOfFirst 8 = .ok (.if_icmp .ge 23, 3) := by decide +kernel
theorem dX2_sumOfFirst_11 : decode cX2_sumOfFirst 11 = .ok (.lload_n 2, 1) := by decide +kernel
theorem dX2_sumOfFirst_12 : decode cX2_sumOfFirst 12 = .ok (.aload_n 0, 1) := by decide +kernel
theorem dX2_sumOfFirst_13 : decode cX2_sumOfFirst 13 = .ok (.bipush 13, 2) := by decide +kernel
theorem dX2_sumOfFirst_15 : decode cX2_sumOfFirst 15 = .ok (.iload 4, 2) := by decide +kernel
theorem dX2_sumOfFirst_17 : decode cX2_sumOfFirst 17 = .ok (.imul, 1) := by decide +kernel
theorem dX2_sumOfFirst_18 : decode cX2_sumOfFirst 18 = .ok (.iconst 3, 1) := by decide +kernel
theorem dX2_sumOfFirst_19 : decode cX2_sumOfFirst 19 = .ok (.iadd, 1) := by decide +kernel
theorem dX2_sumOfFirst_20 : decode cX2_sumOfFirst 20 = .ok (.invokevirtual 34, 3) := by decide +kernel
theorem dX2_sumOfFirst_23 : decode cX2_sumOfFirst 23 = .ok (.ladd, 1) := by decide +kernel
theorem dX2_sumOfFirst_24 : decode cX2_sumOfFirst 24 = .ok (.lstore_n 2, 1) := by decide +kernel
theorem dX2_sumOfFirst_25 : decode cX2_sumOfFirst 25 = .ok (.iinc 4 1, 3) := by decide +kernel
theorem dX2_sumOfFirst_28 : decode cX2_sumOfFirst 28 = .ok (.goto (-23), 3) := by decide +kernel
theorem dX2_sumOfFirst_31 : decode cX2_sumOfFirst 31 = .ok (.lload_n 2, 1) := by decide +kernel
theorem dX2_sumOfFirst_32 : decode cX2_sumOfFirst 32 = .ok (.lreturn, 1) := by decide +kernel
theorem dX2_append_0 : decode cX2_append 0 = .ok (.aload_n 0, 1) := by decide +kernel
theorem dX2_append_1 : decode cX2_append 1 = .ok (.getfield 13, 3) := by decide +kernel
theorem dX2_append_4 : decode cX2_append 4 = .ok (.aload_n 0, 1) := by decide +kernel
theorem dX2_append_5 : decode cX2_append 5 = .ok (.getfield 9, 3) := by decide +kernel
theorem dX2_append_8 : decode cX2_append 8 = .ok (.arraylength, 1) := by decide +kernel
theorem dX2_append_9 : decode cX2_append 9 = .ok (.if_icmp .ge 25, 3) := by decide +kernel
theorem dX2_append_12 : decode cX2_append 12 = .ok (.aload_n 0, 1) := by decide +kernel
theorem dX2_append_13 : decode cX2_append 13 = .ok (.getfield 9, 3) := by decide +kernel
theorem dX2_append_16 : decode cX2_append 16 = .ok (.aload_n 0, 1) := by decide +kernel
theorem dX2_append_17 : decode cX2_append 17 = .ok (.getfield 13, 3) := by decide +kernel
theorem dX2_append_20 : decode cX2_append 20 = .ok (.lload_n 1, 1) := by decide +kernel
theorem dX2_append_21 : decode cX2_append 21 = .ok (.l2i, 1) := by decide +kernel
theorem dX2_append_22 : decode cX2_append 22 = .ok (.i2b, 1) := by decide +kernel
theorem dX2_append_23 : decode cX2_append 23 = .ok (.bastore, 1) := by decide +kernel
theorem dX2_append_24 : decode cX2_append 24 = .ok (.aload_n 0, 1) := by decide +kernel
theorem dX2_append_25 : decode cX2_append 25 = .ok (.dup, 1) := by decide +kernel
theorem dX2_append_26 : decode cX2_append 26 = .ok (.getfield 13, 3) := by decide +kernel
theorem dX2_append_29 : decode cX2_append 29 = .ok (.iconst 1, 1) := by decide +kernel
theorem dX2_append_30 : decode cX2_append 30 = .ok (.iadd, 1) := by decide +kernel
theorem dX2_append_31 : decode cX2_append 31 = .ok (.putfield 13, 3) := by decide +kernel
theorem dX2_append_34 : decode cX2_append 34 = .ok (.return_, 1) := by decide +kernel
theorem dX2_isSoundAt_0 : decode cX2_isSoundAt 0 = .ok (.aload_n 0, 1) := by decide +kernel
theorem dX2_isSoundAt_1 : decode cX2_isSoundAt 1 = .ok (.iload_n 1, 1) := by decide +kernel
theorem dX2_isSoundAt_2 : decode cX2_isSoundAt 2 = .ok (.invokevirtual 38, 3) := by decide +kernel
theorem dX2_isSoundAt_5 : decode cX2_isSoundAt 5 = .ok (.bipush 13, 2) := by decide +kernel
theorem dX2_isSoundAt_7 : decode cX2_isSoundAt 7 = .ok (.if_icmp .ne 25, 3) := by decide +kernel
theorem dX2_isSoundAt_10 : decode cX2_isSoundAt 10 = .ok (.aload_n 0, 1) := by decide +kernel
theorem dX2_isSoundAt_11 : decode cX2_isSoundAt 11 = .ok (.iload_n 1, 1) := by decide +kernel
theorem dX2_isSoundAt_12 : decode cX2_isSoundAt 12 = .ok (.bipush 13, 2) := by decide +kernel
theorem dX2_isSoundAt_14 : decode cX2_isSoundAt 14 = .ok (.iadd, 1) := by decide +kernel
theorem dX2_isSoundAt_15 : decode cX2_isSoundAt 15 = .ok (.iconst 1, 1) := by decide +kernel
theorem dX2_isSoundAt_16 : decode cX2_isSoundAt 16 = .ok (.isub, 1) := by decide +kernel
theorem dX2_isSoundAt_17 : decode cX2_isSoundAt 17 = .ok (.invokevirtual 38, 3) := by decide +kernel
theorem dX2_isSoundAt_20 : decode cX2_isSoundAt 20 = .ok (.aload_n 0, 1) := by decide +kernel
theorem dX2_isSoundAt_21 : decode cX2_isSoundAt 21 = .ok (.iload_n 1, 1) := by decide +kernel
theorem dX2_isSoundAt_22 : decode cX2_isSoundAt 22 = .ok (.invokevirtual 23, 3) := by decide +kernel
theorem dX2_isSoundAt_25 : decode cX2_isSoundAt 25 = .ok (.if_icmp .ne 7, 3) := by decide +kernel
theorem dX2_isSoundAt_28 : decode cX2_isSoundAt 28 = .ok (.iconst 1, 1) := by decide +kernel
theorem dX2_isSoundAt_29 : decode cX2_isSoundAt 29 = .ok (.goto 4, 3) := by decide +kernel
theorem dX2_isSoundAt_32 : decode cX2_isSoundAt 32 = .ok (.iconst 0, 1) := by decide +kernel
theorem dX2_isSoundAt_33 : decode cX2_isSoundAt 33 = .ok (.ireturn, 1) := by decide +kernel
theorem dX2_sumOfRecordAt_0 : decode cX2_sumOfRecordAt 0 = .ok (.iconst 0, 1) := by decide +kernel
theorem dX2_sumOfRecordAt_1 : decode cX2_sumOfRecordAt 1 = .ok (.istore_n 2, 1) := by decide +kernel
theorem dX2_sumOfRecordAt_2 : decode cX2_sumOfRecordAt 2 = .ok (.iconst 0, 1) := by decide +kernel
theorem dX2_sumOfRecordAt_3 : decode cX2_sumOfRecordAt 3 = .ok (.istore_n 3, 1) := by decide +kernel
theorem dX2_sumOfRecordAt_4 : decode cX2_sumOfRecordAt 4 = .ok (.iload_n 3, 1) := by decide +kernel
theorem dX2_sumOfRecordAt_5 : decode cX2_sumOfRecordAt 5 = .ok (.bipush 12, 2) := by decide +kernel
theorem dX2_sumOfRecordAt_7 : decode cX2_sumOfRecordAt 7 = .ok (.if_icmp .ge 19, 3) := by decide +kernel
theorem dX2_sumOfRecordAt_10 : decode cX2_sumOfRecordAt 10 = .ok (.iload_n 2, 1) := by decide +kernel
theorem dX2_sumOfRecordAt_11 : decode cX2_sumOfRecordAt 11 = .ok (.aload_n 0, 1) := by decide +kernel
theorem dX2_sumOfRecordAt_12 : decode cX2_sumOfRecordAt 12 = .ok (.iload_n 1, 1) := by decide +kernel
theorem dX2_sumOfRecordAt_13 : decode cX2_sumOfRecordAt 13 = .ok (.iload_n 3, 1) := by decide +kernel
theorem dX2_sumOfRecordAt_14 : decode cX2_sumOfRecordAt 14 = .ok (.iadd, 1) := by decide +kernel
theorem dX2_sumOfRecordAt_15 : decode cX2_sumOfRecordAt 15 = .ok (.invokevirtual 38, 3) := by decide +kernel
theorem dX2_sumOfRecordAt_18 : decode cX2_sumOfRecordAt 18 = .ok (.iadd, 1) := by decide +kernel
theorem dX2_sumOfRecordAt_19 : decode cX2_sumOfRecordAt 19 = .ok (.istore_n 2, 1) := by decide +kernel
theorem dX2_sumOfRecordAt_20 : decode cX2_sumOfRecordAt 20 = .ok (.iinc 3 1, 3) := by decide +kernel
theorem dX2_sumOfRecordAt_23 : decode cX2_sumOfRecordAt 23 = .ok (.goto (-19), 3) := by decide +kernel
theorem dX2_sumOfRecordAt_26 : decode cX2_sumOfRecordAt 26 = .ok (.iload_n 2, 1) := by decide +kernel
theorem dX2_sumOfRecordAt_27 : decode cX2_sumOfRecordAt 27 = .ok (.sipush 255, 3) := by decide +kernel
theorem dX2_sumOfRecordAt_30 : decode cX2_sumOfRecordAt 30 = .ok (.iand, 1) := by decide +kernel
theorem dX2_sumOfRecordAt_31 : decode cX2_sumOfRecordAt 31 = .ok (.ireturn, 1) := by decide +kernel
theorem dX2_valueAt_0 : decode cX2_valueAt 0 = .ok (.lconst 0, 1) := by decide +kernel
theorem dX2_valueAt_1 : decode cX2_valueAt 1 = .ok (.lstore_n 2, 1) := by decide +kernel
theorem dX2_valueAt_2 : decode cX2_valueAt 2 = .ok (.iconst 0, 1) := by decide +kernel
theorem dX2_valueAt_3 : decode cX2_valueAt 3 = .ok (.istore 4, 2) := by decide +kernel
theorem dX2_valueAt_5 : decode cX2_valueAt 5 = .ok (.iload 4, 2) := by decide +kernel
theorem dX2_valueAt_7 : decode cX2_valueAt 7 = .ok (.bipush 8, 2) := by decide +kernel
theorem dX2_valueAt_9 : decode cX2_valueAt 9 = .ok (.if_icmp .ge 24, 3) := by decide +kernel
theorem dX2_valueAt_12 : decode cX2_valueAt 12 = .ok (.lload_n 2, 1) := by decide +kernel
theorem dX2_valueAt_13 : decode cX2_valueAt 13 = .ok (.bipush 8, 2) := by decide +kernel
theorem dX2_valueAt_15 : decode cX2_valueAt 15 = .ok (.lshl, 1) := by decide +kernel
theorem dX2_valueAt_16 : decode cX2_valueAt 16 = .ok (.aload_n 0, 1) := by decide +kernel
theorem dX2_valueAt_17 : decode cX2_valueAt 17 = .ok (.iload_n 1, 1) := by decide +kernel
theorem dX2_valueAt_18 : decode cX2_valueAt 18 = .ok (.iload 4, 2) := by decide +kernel
theorem dX2_valueAt_20 : decode cX2_valueAt 20 = .ok (.iadd, 1) := by decide +kernel
theorem dX2_valueAt_21 : decode cX2_valueAt 21 = .ok (.invokevirtual 38, 3) := by decide +kernel
theorem dX2_valueAt_24 : decode cX2_valueAt 24 = .ok (.i2l, 1) := by decide +kernel
theorem dX2_valueAt_25 : decode cX2_valueAt 25 = .ok (.lor, 1) := by decide +kernel
theorem dX2_valueAt_26 : decode cX2_valueAt 26 = .ok (.lstore_n 2, 1) := by decide +kernel
theorem dX2_valueAt_27 : decode cX2_valueAt 27 = .ok (.iinc 4 1, 3) := by decide +kernel
theorem dX2_valueAt_30 : decode cX2_valueAt 30 = .ok (.goto (-25), 3) := by decide +kernel
theorem dX2_valueAt_33 : decode cX2_valueAt 33 = .ok (.lload_n 2, 1) := by decide +kernel
theorem dX2_valueAt_34 : decode cX2_valueAt 34 = .ok (.lreturn, 1) := by decide +kernel
theorem dX3_init_0 : decode cX3_init 0 = .ok (.aload_n 0, 1) := by decide +kernel
theorem dX3_init_1 : decode cX3_init 1 = .ok (.invokespecial 1, 3) := by decide +kernel
theorem dX3_init_4 : decode cX3_init 4 = .ok (.return_, 1) := by decide +kernel
theorem dX3_handles_0 : decode cX3_handles 0 = .ok (.lload_n 3, 1) := by decide +kernel
theorem dX3_handles_1 : decode cX3_handles 1 = .ok (.lconst 0, 1) := by decide +kernel
theorem dX3_handles_2 : decode cX3_handles 2 = .ok (.lcmp, 1) := by decide +kernel
theorem dX3_handles_3 : decode cX3_handles 3 = .ok (.ifCond .ge 5, 3) := by decide +kernel
theorem dX3_handles_6 : decode cX3_handles 6 = .ok (.iconst 0, 1) := by decide +kernel
theorem dX3_handles_7 : decode cX3_handles 7 = .ok (.ireturn, 1) := by decide +kernel
theorem dX3_handles_8 : decode cX3_handles 8 = .ok (.aload_n 0, 1) := by decide +kernel
theorem dX3_handles_9 : decode cX3_handles 9 = .ok (.dup, 1) := by decide +kernel
theorem dX3_handles_10 : decode cX3_handles 10 = .ok (.getfield 7, 3) := by decide +kernel
theorem dX3_handles_13 : decode cX3_handles 13 = .ok (.iconst 1, 1) := by decide +kernel
theorem dX3_handles_14 : decode cX3_handles 14 = .ok (.iadd, 1) := by decide +kernel
theorem dX3_handles_15 : decode cX3_handles 15 = .ok (.putfield 7, 3) := by decide +kernel
theorem dX3_handles_18 : decode cX3_handles 18 = .ok (.aload_n 0, 1) := by decide +kernel
theorem dX3_handles_19 : decode cX3_handles 19 = .ok (.aload_n 0, 1) := by decide +kernel
theorem dX3_handles_20 : decode cX3_handles 20 = .ok (.getfield 13, 3) := by decide +kernel
theorem dX3_handles_23 : decode cX3_handles 23 = .ok (.lload_n 3, 1) := by decide +kernel
theorem dX3_handles_24 : decode cX3_handles 24 = .ok (.l2d, 1) := by decide +kernel
theorem dX3_handles_25 : decode cX3_handles 25 = .ok (.aload_n 0, 1) := by decide +kernel
theorem dX3_handles_26 : decode cX3_handles 26 = .ok (.getfield 13, 3) := by decide +kernel
theorem dX3_handles_29 : decode cX3_handles 29 = .ok (.dsub, 1) := by decide +kernel
theorem dX3_handles_30 : decode cX3_handles 30 = .ok (.aload_n 0, 1) := by decide +kernel
theorem dX3_handles_31 : decode cX3_handles 31 = .ok (.getfield 7, 3) := by decide +kernel
theorem dX3_handles_34 : decode cX3_handles 34 = .ok (.i2d, 1) := by decide +kernel
theorem dX3_handles_35 : decode cX3_handles 35 = .ok (.ddiv, 1) := by decide +kernel
theorem dX3_handles_36 : decode cX3_handles 36 = .ok (.dadd, 1) := by decide +kernel
theorem dX3_handles_37 : decode cX3_handles 37 = .ok (.putfield 13, 3) := by decide +kernel
theorem dX3_handles_40 : decode cX3_handles 40 = .ok (.iconst 1, 1) := by decide +kernel
theorem dX3_handles_41 : decode cX3_handles 41 = .ok (.ireturn, 1) := by decide +kernel
theorem dX3_keep_0 : decode cX3_keep 0 = .ok (.aload_n 0, 1) := by decide +kernel
theorem dX3_keep_1 : decode cX3_keep 1 = .ok (.aload_n 0, 1) := by decide +kernel
theorem dX3_keep_2 : decode cX3_keep 2 = .ok (.getfield 13, 3) := by decide +kernel
theorem dX3_keep_5 : decode cX3_keep 5 = .ok (.putfield 17, 3) := by decide +kernel
theorem dX3_keep_8 : decode cX3_keep 8 = .ok (.aload_n 0, 1) := by decide +kernel
theorem dX3_keep_9 : decode cX3_keep 9 = .ok (.aload_n 0, 1) := by decide +kernel
theorem dX3_keep_10 : decode cX3_keep 10 = .ok (.getfield 7, 3) := by decide +kernel
theorem dX3_keep_13 : decode cX3_keep 13 = .ok (.putfield 20, 3) := by decide +kernel
theorem dX3_keep_16 : decode cX3_keep 16 = .ok (.return_, 1) := by decide +kernel
theorem dX3_restore_0 : decode cX3_restore 0 = .ok (.aload_n 0, 1) := by decide +kernel
theorem dX3_restore_1 : decode cX3_restore 1 = .ok (.aload_n 0, 1) := by decide +kernel
theorem dX3_restore_2 : decode cX3_restore 2 = .ok (.getfield 17, 3) := by decide +kernel
theorem dX3_restore_5 : decode cX3_restore 5 = .ok (.putfield 13, 3) := by decide +kernel
theorem dX3_restore_8 : decode cX3_restore 8 = .ok (.aload_n 0, 1) := by decide +kernel
theorem dX3_restore_9 : decode cX3_restore 9 = .ok (.aload_n 0, 1) := by decide +kernel
theorem dX3_restore_10 : decode cX3_restore 10 = .ok (.getfield 20, 3) := by decide +kernel
theorem dX3_restore_13 : decode cX3_restore 13 = .ok (.putfield 7, 3) := by decide +kernel
theorem dX3_restore_16 : decode cX3_restore 16 = .ok (.return_, 1) := by decide +kernel
theorem dX4_init_0 : decode cX4_init 0 = .ok (.aload_n 0, 1) := by decide +kernel
theorem dX4_init_1 : decode cX4_init 1 = .ok (.invokespecial 3, 3) := by decide +kernel
theorem dX4_init_4 : decode cX4_init 4 = .ok (.aload_n 0, 1) := by decide +kernel
theorem dX4_init_5 : decode cX4_init 5 = .ok (.bipush 8, 2) := by decide +kernel
theorem dX4_init_7 : decode cX4_init 7 = .ok (.anewarray 9, 3) := by decide +kernel
theorem dX4_init_10 : decode cX4_init 10 = .ok (.putfield 11, 3) := by decide +kernel
theorem dX4_init_13 : decode cX4_init 13 = .ok (.aload_n 0, 1) := by decide +kernel
theorem dX4_init_14 : decode cX4_init 14 = .ok (.iload_n 1, 1) := by decide +kernel
theorem dX4_init_15 : decode cX4_init 15 = .ok (.putfield 17, 3) := by decide +kernel
theorem dX4_init_18 : decode cX4_init 18 = .ok (.return_, 1) := by decide +kernel
theorem dX4_add_0 : decode cX4_add 0 = .ok (.aload_n 0, 1) := by decide +kernel
theorem dX4_add_1 : decode cX4_add 1 = .ok (.getfield 21, 3) := by decide +kernel
theorem dX4_add_4 : decode cX4_add 4 = .ok (.aload_n 0, 1) := by decide +kernel
theorem dX4_add_5 : decode cX4_add 5 = .ok (.getfield 11, 3) := by decide +kernel
theorem dX4_add_8 : decode cX4_add 8 = .ok (.arraylength, 1) := by decide +kernel
theorem dX4_add_9 : decode cX4_add 9 = .ok (.if_icmp .ge 23, 3) := by decide +kernel
theorem dX4_add_12 : decode cX4_add 12 = .ok (.aload_n 0, 1) := by decide +kernel
theorem dX4_add_13 : decode cX4_add 13 = .ok (.getfield 11, 3) := by decide +kernel
theorem dX4_add_16 : decode cX4_add 16 = .ok (.aload_n 0, 1) := by decide +kernel
theorem dX4_add_17 : decode cX4_add 17 = .ok (.getfield 21, 3) := by decide +kernel
theorem dX4_add_20 : decode cX4_add 20 = .ok (.aload_n 1, 1) := by decide +kernel
theorem dX4_add_21 : decode cX4_add 21 = .ok (.aastore, 1) := by decide +kernel
theorem dX4_add_22 : decode cX4_add 22 = .ok (.aload_n 0, 1) := by decide +kernel
theorem dX4_add_23 : decode cX4_add 23 = .ok (.dup, 1) := by decide +kernel
theorem dX4_add_24 : decode cX4_add 24 = .ok (.getfield 21, 3) := by decide +kernel
theorem dX4_add_27 : decode cX4_add 27 = .ok (.iconst 1, 1) := by decide +kernel
theorem dX4_add_28 : decode cX4_add 28 = .ok (.iadd, 1) := by decide +kernel
theorem dX4_add_29 : decode cX4_add 29 = .ok (.putfield 21, 3) := by decide +kernel
theorem dX4_add_32 : decode cX4_add 32 = .ok (.return_, 1) := by decide +kernel
theorem dX4_takeNext_0 : decode cX4_takeNext 0 = .ok (.aload_n 0, 1) := by decide +kernel
theorem dX4_takeNext_1 : decode cX4_takeNext 1 = .ok (.dup, 1) := by decide +kernel
theorem dX4_takeNext_2 : decode cX4_takeNext 2 = .ok (.getfield 24, 3) := by decide +kernel
theorem dX4_takeNext_5 : decode cX4_takeNext 5 = .ok (.lconst 1, 1) := by decide +kernel
theorem dX4_takeNext_6 : decode cX4_takeNext 6 = .ok (.ladd, 1) := by decide +kernel
theorem dX4_takeNext_7 : decode cX4_takeNext 7 = .ok (.putfield 24, 3) := by decide +kernel
theorem dX4_takeNext_10 : decode cX4_takeNext 10 = .ok (.aload_n 0, 1) := by decide +kernel
theorem dX4_takeNext_11 : decode cX4_takeNext 11 = .ok (.getfield 24, 3) := by decide +kernel
theorem dX4_takeNext_14 : decode cX4_takeNext 14 = .ok (.lconst 1, 1) := by decide +kernel
theorem dX4_takeNext_15 : decode cX4_takeNext 15 = .ok (.lsub, 1) := by decide +kernel
theorem dX4_takeNext_16 : decode cX4_takeNext 16 = .ok (.lreturn, 1) := by decide +kernel
theorem dX4_reached_0 : decode cX4_reached 0 = .ok (.aload_n 0, 1) := by decide +kernel
theorem dX4_reached_1 : decode cX4_reached 1 = .ok (.getfield 24, 3) := by decide +kernel
theorem dX4_reached_4 : decode cX4_reached 4 = .ok (.lstore_n 1, 1) := by decide +kernel
theorem dX4_reached_5 : decode cX4_reached 5 = .ok (.iconst 0, 1) := by decide +kernel
theorem dX4_reached_6 : decode cX4_reached 6 = .ok (.istore_n 3, 1) := by decide +kernel
theorem dX4_reached_7 : decode cX4_reached 7 = .ok (.iload_n 3, 1) := by decide +kernel
theorem dX4_reached_8 : decode cX4_reached 8 = .ok (.aload_n 0, 1) := by decide +kernel
theorem dX4_reached_9 : decode cX4_reached 9 = .ok (.getfield 21, 3) := by decide +kernel
theorem dX4_reached_12 : decode cX4_reached 12 = .ok (.if_icmp .ge 48, 3) := by decide +kernel
theorem dX4_reached_15 : decode cX4_reached 15 = .ok (.aload_n 0, 1) := by decide +kernel
theorem dX4_reached_16 : decode cX4_reached 16 = .ok (.getfield 11, 3) := by decide +kernel
theorem dX4_reached_19 : decode cX4_reached 19 = .ok (.iload_n 3, 1) := by decide +kernel
theorem dX4_reached_20 : decode cX4_reached 20 = .ok (.aaload, 1) := by decide +kernel
theorem dX4_reached_21 : decode cX4_reached 21 = .ok (.ifnull 33, 3) := by decide +kernel
theorem dX4_reached_24 : decode cX4_reached 24 = .ok (.aload_n 0, 1) := by decide +kernel
theorem dX4_reached_25 : decode cX4_reached 25 = .ok (.getfield 11, 3) := by decide +kernel
theorem dX4_reached_28 : decode cX4_reached 28 = .ok (.iload_n 3, 1) := by decide +kernel
theorem dX4_reached_29 : decode cX4_reached 29 = .ok (.aaload, 1) := by decide +kernel
theorem dX4_reached_30 : decode cX4_reached 30 = .ok (.getfield 28, 3) := by decide +kernel
theorem dX4_reached_33 : decode cX4_reached 33 = .ok (.ldc2_w 31, 3) := by decide +kernel
theorem dX4_reached_36 : decode cX4_reached 36 = .ok (.lcmp, 1) := by decide +kernel
theorem dX4_reached_37 : decode cX4_reached 37 = .ok (.ifCond .eq 17, 3) := by decide +kernel
theorem dX4_reached_40 : decode cX4_reached 40 = .ok (.lload_n 1, 1) := by decide +kernel
theorem dX4_reached_41 : decode cX4_reached 41 = .ok (.aload_n 0, 1) := by decide +kernel
theorem dX4_reached_42 : decode cX4_reached 42 = .ok (.getfield 11, 3) := by decide +kernel
theorem dX4_reached_45 : decode cX4_reached 45 = .ok (.iload_n 3, 1) := by decide +kernel
theorem dX4_reached_46 : decode cX4_reached 46 = .ok (.aaload, 1) := by decide +kernel
theorem dX4_reached_47 : decode cX4_reached 47 = .ok (.getfield 28, 3) := by decide +kernel
theorem dX4_reached_50 : decode cX4_reached 50 = .ok (.invokestatic 33, 3) := by decide +kernel
theorem dX4_reached_53 : decode cX4_reached 53 = .ok (.lstore_n 1, 1) := by decide +kernel
theorem dX4_reached_54 : decode cX4_reached 54 = .ok (.iinc 3 1, 3) := by decide +kernel
theorem dX4_reached_57 : decode cX4_reached 57 = .ok (.goto (-50), 3) := by decide +kernel
theorem dX4_reached_60 : decode cX4_reached 60 = .ok (.lload_n 1, 1) := by decide +kernel
theorem dX4_reached_61 : decode cX4_reached 61 = .ok (.lconst 1, 1) := by decide +kernel
theorem dX4_reached_62 : decode cX4_reached 62 = .ok (.lsub, 1) := by decide +kernel
theorem dX4_reached_63 : decode cX4_reached 63 = .ok (.lreturn, 1) := by decide +kernel
theorem dX5_init_0 : decode cX5_init 0 = .ok (.aload_n 0, 1) := by decide +kernel
theorem dX5_init_1 : decode cX5_init 1 = .ok (.invokespecial 3, 3) := by decide +kernel
theorem dX5_init_4 : decode cX5_init 4 = .ok (.aload_n 0, 1) := by decide +kernel
theorem dX5_init_5 : decode cX5_init 5 = .ok (.ldc2_w 9, 3) := by decide +kernel
theorem dX5_init_8 : decode cX5_init 8 = .ok (.putfield 11, 3) := by decide +kernel
theorem dX5_init_11 : decode cX5_init 11 = .ok (.aload_n 0, 1) := by decide +kernel
theorem dX5_init_12 : decode cX5_init 12 = .ok (.ldc2_w 9, 3) := by decide +kernel
theorem dX5_init_15 : decode cX5_init 15 = .ok (.putfield 17, 3) := by decide +kernel
theorem dX5_init_18 : decode cX5_init 18 = .ok (.aload_n 0, 1) := by decide +kernel
theorem dX5_init_19 : decode cX5_init 19 = .ok (.iload_n 1, 1) := by decide +kernel
theorem dX5_init_20 : decode cX5_init 20 = .ok (.newarray .long, 2) := by decide +kernel
theorem dX5_init_22 : decode cX5_init 22 = .ok (.putfield 20, 3) := by decide +kernel
theorem dX5_init_25 : decode cX5_init 25 = .ok (.aload_n 0, 1) := by decide +kernel
theorem dX5_init_26 : decode cX5_init 26 = .ok (.iload_n 1, 1) := by decide +kernel
theorem dX5_init_27 : decode cX5_init 27 = .ok (.newarray .int, 2) := by decide +kernel
theorem dX5_init_29 : decode cX5_init 29 = .ok (.putfield 24, 3) := by decide +kernel
theorem dX5_init_32 : decode cX5_init 32 = .ok (.aload_n 0, 1) := by decide +kernel
theorem dX5_init_33 : decode cX5_init 33 = .ok (.iload_n 1, 1) := by decide +kernel
theorem dX5_init_34 : decode cX5_init 34 = .ok (.newarray .long, 2) := by decide +kernel
theorem dX5_init_36 : decode cX5_init 36 = .ok (.putfield 28, 3) := by decide +kernel
theorem dX5_init_39 : decode cX5_init 39 = .ok (.iconst 0, 1) := by decide +kernel
theorem dX5_init_40 : decode cX5_init 40 = .ok (.istore_n 2, 1) := by decide +kernel
theorem dX5_init_41 : decode cX5_init 41 = .ok (.iload_n 2, 1) := by decide +kernel
theorem dX5_init_42 : decode cX5_init 42 = .ok (.iload_n 1, 1) := by decide +kernel
theorem dX5_init_43 : decode cX5_init 43 = .ok (.if_icmp .ge 18, 3) := by decide +kernel
theorem dX5_init_46 : decode cX5_init 46 = .ok (.aload_n 0, 1) := by decide +kernel
theorem dX5_init_47 : decode cX5_init 47 = .ok (.getfield 28, 3) := by decide +kernel
theorem dX5_init_50 : decode cX5_init 50 = .ok (.iload_n 2, 1) := by decide +kernel
theorem dX5_init_51 : decode cX5_init 51 = .ok (.ldc2_w 9, 3) := by decide +kernel
theorem dX5_init_54 : decode cX5_init 54 = .ok (.lastore, 1) := by decide +kernel
theorem dX5_init_55 : decode cX5_init 55 = .ok (.iinc 2 1, 3) := by decide +kernel
theorem dX5_init_58 : decode cX5_init 58 = .ok (.goto (-17), 3) := by decide +kernel
theorem dX5_init_61 : decode cX5_init 61 = .ok (.return_, 1) := by decide +kernel
theorem dX5_slots_0 : decode cX5_slots 0 = .ok (.aload_n 0, 1) := by decide +kernel
theorem dX5_slots_1 : decode cX5_slots 1 = .ok (.getfield 20, 3) := by decide +kernel
theorem dX5_slots_4 : decode cX5_slots 4 = .ok (.arraylength, 1) := by decide +kernel
theorem dX5_slots_5 : decode cX5_slots 5 = .ok (.ireturn, 1) := by decide +kernel
theorem dX5_slotOf_0 : decode cX5_slotOf 0 = .ok (.lload_n 1, 1) := by decide +kernel
theorem dX5_slotOf_1 : decode cX5_slotOf 1 = .ok (.aload_n 0, 1) := by decide +kernel
theorem dX5_slotOf_2 : decode cX5_slotOf 2 = .ok (.getfield 20, 3) := by decide +kernel
theorem dX5_slotOf_5 : decode cX5_slotOf 5 = .ok (.arraylength, 1) := by decide +kernel
theorem dX5_slotOf_6 : decode cX5_slotOf 6 = .ok (.iconst 1, 1) := by decide +kernel
theorem dX5_slotOf_7 : decode cX5_slotOf 7 = .ok (.isub, 1) := by decide +kernel
theorem dX5_slotOf_8 : decode cX5_slotOf 8 = .ok (.i2l, 1) := by decide +kernel
theorem dX5_slotOf_9 : decode cX5_slotOf 9 = .ok (.land, 1) := by decide +kernel
theorem dX5_slotOf_10 : decode cX5_slotOf 10 = .ok (.l2i, 1) := by decide +kernel
theorem dX5_slotOf_11 : decode cX5_slotOf 11 = .ok (.ireturn, 1) := by decide +kernel
theorem dX5_reserve_0 : decode cX5_reserve 0 = .ok (.aload_n 0, 1) := by decide +kernel
theorem dX5_reserve_1 : decode cX5_reserve 1 = .ok (.getfield 11, 3) := by decide +kernel
theorem dX5_reserve_4 : decode cX5_reserve 4 = .ok (.lconst 1, 1) := by decide +kernel
theorem dX5_reserve_5 : decode cX5_reserve 5 = .ok (.ladd, 1) := by decide +kernel
theorem dX5_reserve_6 : decode cX5_reserve 6 = .ok (.lstore_n 3, 1) := by decide +kernel
theorem dX5_reserve_7 : decode cX5_reserve 7 = .ok (.iconst 0, 1) := by decide +kernel
theorem dX5_reserve_8 : decode cX5_reserve 8 = .ok (.istore 5, 2) := by decide +kernel
theorem dX5_reserve_10 : decode cX5_reserve 10 = .ok (.iload 5, 2) := by decide +kernel
theorem dX5_reserve_12 : decode cX5_reserve 12 = .ok (.iload_n 2, 1) := by decide +kernel
theorem dX5_reserve_13 : decode cX5_reserve 13 = .ok (.if_icmp .ge 24, 3) := by decide +kernel
theorem dX5_reserve_16 : decode cX5_reserve 16 = .ok (.aload_n 0, 1) := by decide +kernel
theorem dX5_reserve_17 : decode cX5_reserve 17 = .ok (.getfield 24, 3) := by decide +kernel
theorem dX5_reserve_20 : decode cX5_reserve 20 = .ok (.aload_n 0, 1) := by decide +kernel
theorem dX5_reserve_21 : decode cX5_reserve 21 = .ok (.lload_n 3, 1) := by decide +kernel
theorem dX5_reserve_22 : decode cX5_reserve 22 = .ok (.iload 5, 2) := by decide +kernel
theorem dX5_reserve_24 : decode cX5_reserve 24 = .ok (.i2l, 1) := by decide +kernel
theorem dX5_reserve_25 : decode cX5_reserve 25 = .ok (.ladd, 1) := by decide +kernel
theorem dX5_reserve_26 : decode cX5_reserve 26 = .ok (.invokevirtual 31, 3) := by decide +kernel
theorem dX5_reserve_29 : decode cX5_reserve 29 = .ok (.iload_n 1, 1) := by decide +kernel
theorem dX5_reserve_30 : decode cX5_reserve 30 = .ok (.iastore, 1) := by decide +kernel
theorem dX5_reserve_31 : decode cX5_reserve 31 = .ok (.iinc 5 1, 3) := by decide +kernel
theorem dX5_reserve_34 : decode cX5_reserve 34 = .ok (.goto (-24), 3) := by decide +kernel
theorem dX5_reserve_37 : decode cX5_reserve 37 = .ok (.aload_n 0, 1) := by decide +kernel
theorem dX5_reserve_38 : decode cX5_reserve 38 = .ok (.dup, 1) := by decide +kernel
theorem dX5_reserve_39 : decode cX5_reserve 39 = .ok (.getfield 11, 3) := by decide +kernel
theorem dX5_reserve_42 : decode cX5_reserve 42 = .ok (.iload_n 2, 1) := by decide +kernel
theorem dX5_reserve_43 : decode cX5_reserve 43 = .ok (.i2l, 1) := by decide +kernel
theorem dX5_reserve_44 : decode cX5_reserve 44 = .ok (.ladd, 1) := by decide +kernel
theorem dX5_reserve_45 : decode cX5_reserve 45 = .ok (.putfield 11, 3) := by decide +kernel
theorem dX5_reserve_48 : decode cX5_reserve 48 = .ok (.lload_n 3, 1) := by decide +kernel
theorem dX5_reserve_49 : decode cX5_reserve 49 = .ok (.lreturn, 1) := by decide +kernel
theorem dX5_isOpen_0 : decode cX5_isOpen 0 = .ok (.lload_n 2, 1) := by decide +kernel
theorem dX5_isOpen_1 : decode cX5_isOpen 1 = .ok (.lconst 0, 1) := by decide +kernel
theorem dX5_isOpen_2 : decode cX5_isOpen 2 = .ok (.lcmp, 1) := by decide +kernel
theorem dX5_isOpen_3 : decode cX5_isOpen 3 = .ok (.ifCond .lt 12, 3) := by decide +kernel
theorem dX5_isOpen_6 : decode cX5_isOpen 6 = .ok (.lload_n 2, 1) := by decide +kernel
theorem dX5_isOpen_7 : decode cX5_isOpen 7 = .ok (.aload_n 0, 1) := by decide +kernel
theorem dX5_isOpen_8 : decode cX5_isOpen 8 = .ok (.getfield 11, 3) := by decide +kernel
theorem dX5_isOpen_11 : decode cX5_isOpen 11 = .ok (.lcmp, 1) := by decide +kernel
theorem dX5_isOpen_12 : decode cX5_isOpen 12 = .ok (.ifCond .le 5, 3) := by decide +kernel
theorem dX5_isOpen_15 : decode cX5_isOpen 15 = .ok (.iconst 0, 1) := by decide +kernel
theorem dX5_isOpen_16 : decode cX5_isOpen 16 = .ok (.ireturn, 1) := by decide +kernel
theorem dX5_isOpen_17 : decode cX5_isOpen 17 = .ok (.aload_n 0, 1) := by decide +kernel
theorem dX5_isOpen_18 : decode cX5_isOpen 18 = .ok (.lload_n 2, 1) := by decide +kernel
theorem dX5_isOpen_19 : decode cX5_isOpen 19 = .ok (.invokevirtual 31, 3) := by decide +kernel
theorem dX5_isOpen_22 : decode cX5_isOpen 22 = .ok (.istore 4, 2) := by decide +kernel
theorem dX5_isOpen_24 : decode cX5_isOpen 24 = .ok (.aload_n 0, 1) := by decide +kernel
theorem dX5_isOpen_25 : decode cX5_isOpen 25 = .ok (.getfield 28, 3) := by decide +kernel
theorem dX5_isOpen_28 : decode cX5_isOpen 28 = .ok (.iload 4, 2) := by decide +kernel
theorem dX5_isOpen_30 : decode cX5_isOpen 30 = .ok (.laload, 1) := by decide +kernel
theorem dX5_isOpen_31 : decode cX5_isOpen 31 = .ok (.lload_n 2, 1) := by decide +kernel
theorem dX5_isOpen_32 : decode cX5_isOpen 32 = .ok (.lcmp, 1) := by decide +kernel
theorem dX5_isOpen_33 : decode cX5_isOpen 33 = .ok (.ifCond .ge 18, 3) := by decide +kernel
theorem dX5_isOpen_36 : decode cX5_isOpen 36 = .ok (.aload_n 0, 1) := by decide +kernel
theorem dX5_isOpen_37 : decode cX5_isOpen 37 = .ok (.getfield 24, 3) := by decide +kernel
theorem dX5_isOpen_40 : decode cX5_isOpen 40 = .ok (.iload 4, 2) := by decide +kernel
theorem dX5_isOpen_42 : decode cX5_isOpen 42 = .ok (.iaload, 1) := by decide +kernel
theorem dX5_isOpen_43 : decode cX5_isOpen 43 = .ok (.iload_n 1, 1) := by decide +kernel
theorem dX5_isOpen_44 : decode cX5_isOpen 44 = .ok (.if_icmp .ne 7, 3) := by decide +kernel
theorem dX5_isOpen_47 : decode cX5_isOpen 47 = .ok (.iconst 1, 1) := by decide +kernel
theorem dX5_isOpen_48 : decode cX5_isOpen 48 = .ok (.goto 4, 3) := by decide +kernel
theorem dX5_isOpen_51 : decode cX5_isOpen 51 = .ok (.iconst 0, 1) := by decide +kernel
theorem dX5_isOpen_52 : decode cX5_isOpen 52 = .ok (.ireturn, 1) := by decide +kernel
theorem dX5_write_0 : decode cX5_write 0 = .ok (.aload_n 0, 1) := by decide +kernel
theorem dX5_write_1 : decode cX5_write 1 = .ok (.getfield 20, 3) := by decide +kernel
theorem dX5_write_4 : decode cX5_write 4 = .ok (.aload_n 0, 1) := by decide +kernel
theorem dX5_write_5 : decode cX5_write 5 = .ok (.lload_n 1, 1) := by decide +kernel
theorem dX5_write_6 : decode cX5_write 6 = .ok (.invokevirtual 31, 3) := by decide +kernel
theorem dX5_write_9 : decode cX5_write 9 = .ok (.lload_n 3, 1) := by decide +kernel
theorem dX5_write_10 : decode cX5_write 10 = .ok (.lastore, 1) := by decide +kernel
theorem dX5_write_11 : decode cX5_write 11 = .ok (.aload_n 0, 1) := by decide +kernel
theorem dX5_write_12 : decode cX5_write 12 = .ok (.getfield 28, 3) := by decide +kernel
theorem dX5_write_15 : decode cX5_write 15 = .ok (.aload_n 0, 1) := by decide +kernel
theorem dX5_write_16 : decode cX5_write 16 = .ok (.lload_n 1, 1) := by decide +kernel
theorem dX5_write_17 : decode cX5_write 17 = .ok (.invokevirtual 31, 3) := by decide +kernel
theorem dX5_write_20 : decode cX5_write 20 = .ok (.lload_n 1, 1) := by decide +kernel
theorem dX5_write_21 : decode cX5_write 21 = .ok (.lastore, 1) := by decide +kernel
theorem dX5_write_22 : decode cX5_write 22 = .ok (.aload_n 0, 1) := by decide +kernel
theorem dX5_write_23 : decode cX5_write 23 = .ok (.getfield 17, 3) := by decide +kernel
theorem dX5_write_26 : decode cX5_write 26 = .ok (.lconst 1, 1) := by decide +kernel
theorem dX5_write_27 : decode cX5_write 27 = .ok (.ladd, 1) := by decide +kernel
theorem dX5_write_28 : decode cX5_write 28 = .ok (.lstore 5, 2) := by decide +kernel
theorem dX5_write_30 : decode cX5_write 30 = .ok (.lload 5, 2) := by decide +kernel
theorem dX5_write_32 : decode cX5_write 32 = .ok (.aload_n 0, 1) := by decide +kernel
theorem dX5_write_33 : decode cX5_write 33 = .ok (.getfield 11, 3) := by decide +kernel
theorem dX5_write_36 : decode cX5_write 36 = .ok (.lcmp, 1) := by decide +kernel
theorem dX5_write_37 : decode cX5_write 37 = .ok (.ifCond .gt 38, 3) := by decide +kernel
theorem dX5_write_40 : decode cX5_write 40 = .ok (.aload_n 0, 1) := by decide +kernel
theorem dX5_write_41 : decode cX5_write 41 = .ok (.getfield 28, 3) := by decide +kernel
theorem dX5_write_44 : decode cX5_write 44 = .ok (.aload_n 0, 1) := by decide +kernel
theorem dX5_write_45 : decode cX5_write 45 = .ok (.lload 5, 2) := by decide +kernel
theorem dX5_write_47 : decode cX5_write 47 = .ok (.invokevirtual 31, 3) := by decide +kernel
theorem dX5_write_50 : decode cX5_write 50 = .ok (.laload, 1) := by decide +kernel
theorem dX5_write_51 : decode cX5_write 51 = .ok (.lload 5, 2) := by decide +kernel
theorem dX5_write_53 : decode cX5_write 53 = .ok (.lcmp, 1) := by decide +kernel
theorem dX5_write_54 : decode cX5_write 54 = .ok (.ifCond .eq 6, 3) := by decide +kernel
theorem dX5_write_57 : decode cX5_write 57 = .ok (.goto 18, 3) := by decide +kernel
theorem dX5_write_60 : decode cX5_write 60 = .ok (.aload_n 0, 1) := by decide +kernel
theorem dX5_write_61 : decode cX5_write 61 = .ok (.lload 5, 2) := by decide +kernel
theorem dX5_write_63 : decode cX5_write 63 = .ok (.putfield 17, 3) := by decide +kernel
theorem dX5_write_66 : decode cX5_write 66 = .ok (.lload 5, 2) := by decide +kernel
theorem dX5_write_68 : decode cX5_write 68 = .ok (.lconst 1, 1) := by decide +kernel
theorem dX5_write_69 : decode cX5_write 69 = .ok (.ladd, 1) := by decide +kernel
theorem dX5_write_70 : decode cX5_write 70 = .ok (.lstore 5, 2) := by decide +kernel
theorem dX5_write_72 : decode cX5_write 72 = .ok (.goto (-42), 3) := by decide +kernel
theorem dX5_write_75 : decode cX5_write 75 = .ok (.return_, 1) := by decide +kernel
theorem dX5_publishedInSlotOf_0 : decode cX5_publishedInSlotOf 0 = .ok (.aload_n 0, 1) := by decide +kernel
theorem dX5_publishedInSlotOf_1 : decode cX5_publishedInSlotOf 1 = .ok (.getfield 28, 3) := by decide +kernel
theorem dX5_publishedInSlotOf_4 : decode cX5_publishedInSlotOf 4 = .ok (.aload_n 0, 1) := by decide +kernel
theorem dX5_publishedInSlotOf_5 : decode cX5_publishedInSlotOf 5 = .ok (.lload_n 1, 1) := by decide +kernel
theorem dX5_publishedInSlotOf_6 : decode cX5_publishedInSlotOf 6 = .ok (.invokevirtual 31, 3) := by decide +kernel
theorem dX5_publishedInSlotOf_9 : decode cX5_publishedInSlotOf 9 = .ok (.laload, 1) := by decide +kernel
theorem dX5_publishedInSlotOf_10 : decode cX5_publishedInSlotOf 10 = .ok (.lreturn, 1) := by decide +kernel
theorem dX5_valueOf_0 : decode cX5_valueOf 0 = .ok (.aload_n 0, 1) := by decide +kernel
theorem dX5_valueOf_1 : decode cX5_valueOf 1 = .ok (.getfield 20, 3) := by decide +kernel
theorem dX5_valueOf_4 : decode cX5_valueOf 4 = .ok (.aload_n 0, 1) := by decide +kernel
theorem dX5_valueOf_5 : decode cX5_valueOf 5 = .ok (.lload_n 1, 1) := by decide +kernel
theorem dX5_valueOf_6 : decode cX5_valueOf 6 = .ok (.invokevirtual 31, 3) := by decide +kernel
theorem dX5_valueOf_9 : decode cX5_valueOf 9 = .ok (.laload, 1) := by decide +kernel
theorem dX5_valueOf_10 : decode cX5_valueOf 10 = .ok (.lreturn, 1) := by decide +kernel
theorem dX5_producerOf_0 : decode cX5_producerOf 0 = .ok (.aload_n 0, 1) := by decide +kernel
theorem dX5_producerOf_1 : decode cX5_producerOf 1 = .ok (.getfield 24, 3) := by decide +kernel
theorem dX5_producerOf_4 : decode cX5_producerOf 4 = .ok (.aload_n 0, 1) := by decide +kernel
theorem dX5_producerOf_5 : decode cX5_producerOf 5 = .ok (.lload_n 1, 1) := by decide +kernel
theorem dX5_producerOf_6 : decode cX5_producerOf 6 = .ok (.invokevirtual 31, 3) := by decide +kernel
theorem dX5_producerOf_9 : decode cX5_producerOf 9 = .ok (.iaload, 1) := by decide +kernel
theorem dX5_producerOf_10 : decode cX5_producerOf 10 = .ok (.ireturn, 1) := by decide +kernel
theorem dX6_init_0 : decode cX6_init 0 = .ok (.aload_n 0, 1) := by decide +kernel
theorem dX6_init_1 : decode cX6_init 1 = .ok (.invokespecial 1, 3) := by decide +kernel
theorem dX6_init_4 : decode cX6_init 4 = .ok (.return_, 1) := by decide +kernel
theorem dX6_handles_0 : decode cX6_handles 0 = .ok (.lload_n 3, 1) := by decide +kernel
theorem dX6_handles_1 : decode cX6_handles 1 = .ok (.lconst 0, 1) := by decide +kernel
theorem dX6_handles_2 : decode cX6_handles 2 = .ok (.lcmp, 1) := by decide +kernel
theorem dX6_handles_3 : decode cX6_handles 3 = .ok (.ifCond .ge 5, 3) := by decide +kernel
theorem dX6_handles_6 : decode cX6_handles 6 = .ok (.iconst 0, 1) := by decide +kernel
theorem dX6_handles_7 : decode cX6_handles 7 = .ok (.ireturn, 1) := by decide +kernel
theorem dX6_handles_8 : decode cX6_handles 8 = .ok (.aload_n 0, 1) := by decide +kernel
theorem dX6_handles_9 : decode cX6_handles 9 = .ok (.aload_n 0, 1) := by decide +kernel
theorem dX6_handles_10 : decode cX6_handles 10 = .ok (.getfield 7, 3) := by decide +kernel
theorem dX6_handles_13 : decode cX6_handles 13 = .ok (.lload_n 3, 1) := by decide +kernel
theorem dX6_handles_14 : decode cX6_handles 14 = .ok (.l2f, 1) := by decide +kernel
theorem dX6_handles_15 : decode cX6_handles 15 = .ok (.aload_n 0, 1) := by decide +kernel
theorem dX6_handles_16 : decode cX6_handles 16 = .ok (.getfield 7, 3) := by decide +kernel
theorem dX6_handles_19 : decode cX6_handles 19 = .ok (.fsub, 1) := by decide +kernel
theorem dX6_handles_20 : decode cX6_handles 20 = .ok (.ldc 13, 2) := by decide +kernel
theorem dX6_handles_22 : decode cX6_handles 22 = .ok (.fmul, 1) := by decide +kernel
theorem dX6_handles_23 : decode cX6_handles 23 = .ok (.fadd, 1) := by decide +kernel
theorem dX6_handles_24 : decode cX6_handles 24 = .ok (.putfield 7, 3) := by decide +kernel
theorem dX6_handles_27 : decode cX6_handles 27 = .ok (.iconst 1, 1) := by decide +kernel
theorem dX6_handles_28 : decode cX6_handles 28 = .ok (.ireturn, 1) := by decide +kernel
theorem dX6_keep_0 : decode cX6_keep 0 = .ok (.aload_n 0, 1) := by decide +kernel
theorem dX6_keep_1 : decode cX6_keep 1 = .ok (.aload_n 0, 1) := by decide +kernel
theorem dX6_keep_2 : decode cX6_keep 2 = .ok (.getfield 7, 3) := by decide +kernel
theorem dX6_keep_5 : decode cX6_keep 5 = .ok (.putfield 14, 3) := by decide +kernel
theorem dX6_keep_8 : decode cX6_keep 8 = .ok (.return_, 1) := by decide +kernel
theorem dX6_restore_0 : decode cX6_restore 0 = .ok (.aload_n 0, 1) := by decide +kernel
theorem dX6_restore_1 : decode cX6_restore 1 = .ok (.aload_n 0, 1) := by decide +kernel
theorem dX6_restore_2 : decode cX6_restore 2 = .ok (.getfield 14, 3) := by decide +kernel
theorem dX6_restore_5 : decode cX6_restore 5 = .ok (.putfield 7, 3) := by decide +kernel
theorem dX6_restore_8 : decode cX6_restore 8 = .ok (.return_, 1) := by decide +kernel
theorem dX7_init_0 : decode cX7_init 0 = .ok (.aload_n 0, 1) := by decide +kernel
theorem dX7_init_1 : decode cX7_init 1 = .ok (.invokespecial 1, 3) := by decide +kernel
theorem dX7_init_4 : decode cX7_init 4 = .ok (.return_, 1) := by decide +kernel
theorem dX7_handles_0 : decode cX7_handles 0 = .ok (.lload_n 3, 1) := by decide +kernel
theorem dX7_handles_1 : decode cX7_handles 1 = .ok (.ldc2_w 9, 3) := by decide +kernel
theorem dX7_handles_4 : decode cX7_handles 4 = .ok (.lcmp, 1) := by decide +kernel
theorem dX7_handles_5 : decode cX7_handles 5 = .ok (.ifCond .ne 5, 3) := by decide +kernel
theorem dX7_handles_8 : decode cX7_handles 8 = .ok (.iconst 0, 1) := by decide +kernel
theorem dX7_handles_9 : decode cX7_handles 9 = .ok (.ireturn, 1) := by decide +kernel
theorem dX7_handles_10 : decode cX7_handles 10 = .ok (.aload_n 0, 1) := by decide +kernel
theorem dX7_handles_11 : decode cX7_handles 11 = .ok (.dup, 1) := by decide +kernel
theorem dX7_handles_12 : decode cX7_handles 12 = .ok (.getfield 11, 3) := by decide +kernel
theorem dX7_handles_15 : decode cX7_handles 15 = .ok (.lload_n 3, 1) := by decide +kernel
theorem dX7_handles_16 : decode cX7_handles 16 = .ok (.ladd, 1) := by decide +kernel
theorem dX7_handles_17 : decode cX7_handles 17 = .ok (.putfield 11, 3) := by decide +kernel
theorem dX7_handles_20 : decode cX7_handles 20 = .ok (.iconst 1, 1) := by decide +kernel
theorem dX7_handles_21 : decode cX7_handles 21 = .ok (.ireturn, 1) := by decide +kernel
theorem dX7_keep_0 : decode cX7_keep 0 = .ok (.aload_n 0, 1) := by decide +kernel
theorem dX7_keep_1 : decode cX7_keep 1 = .ok (.aload_n 0, 1) := by decide +kernel
theorem dX7_keep_2 : decode cX7_keep 2 = .ok (.getfield 11, 3) := by decide +kernel
theorem dX7_keep_5 : decode cX7_keep 5 = .ok (.putfield 15, 3) := by decide +kernel
theorem dX7_keep_8 : decode cX7_keep 8 = .ok (.return_, 1) := by decide +kernel
theorem dX7_restore_0 : decode cX7_restore 0 = .ok (.aload_n 0, 1) := by decide +kernel
theorem dX7_restore_1 : decode cX7_restore 1 = .ok (.aload_n 0, 1) := by decide +kernel
theorem dX7_restore_2 : decode cX7_restore 2 = .ok (.getfield 15, 3) := by decide +kernel
theorem dX7_restore_5 : decode cX7_restore 5 = .ok (.putfield 11, 3) := by decide +kernel
theorem dX7_restore_8 : decode cX7_restore 8 = .ok (.return_, 1) := by decide +kernel
theorem dX7_amount_0 : decode cX7_amount 0 = .ok (.aload_n 0, 1) := by decide +kernel
theorem dX7_amount_1 : decode cX7_amount 1 = .ok (.getfield 11, 3) := by decide +kernel
theorem dX7_amount_4 : decode cX7_amount 4 = .ok (.lreturn, 1) := by decide +kernel
theorem dJ9_min_f86c9_0 : decode cJ9_min_f86c9 0 = .ok (.lload_n 0, 1) := by decide +kernel
theorem dJ9_min_f86c9_1 : decode cJ9_min_f86c9 1 = .ok (.lload_n 2, 1) := by decide +kernel
theorem dJ9_min_f86c9_2 : decode cJ9_min_f86c9 2 = .ok (.lcmp, 1) := by decide +kernel
theorem dJ9_min_f86c9_3 : decode cJ9_min_f86c9 3 = .ok (.ifCond .gt 7, 3) := by decide +kernel
theorem dJ9_min_f86c9_6 : decode cJ9_min_f86c9 6 = .ok (.lload_n 0, 1) := by decide +kernel
theorem dJ9_min_f86c9_7 : decode cJ9_min_f86c9 7 = .ok (.goto 4, 3) := by decide +kernel
theorem dJ9_min_f86c9_10 : decode cJ9_min_f86c9 10 = .ok (.lload_n 2, 1) := by decide +kernel
theorem dJ9_min_f86c9_11 : decode cJ9_min_f86c9 11 = .ok (.lreturn, 1) := by decide +kernel
