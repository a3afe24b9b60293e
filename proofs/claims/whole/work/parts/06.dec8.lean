theorem dX8_init_0 : decode cX8_init 0 = .ok (.aload_n 0, 1) := by decide +kernel
theorem dX8_init_1 : decode cX8_init 1 = .ok (.invokespecial 1, 3) := by decide +kernel
theorem dX8_init_4 : decode cX8_init 4 = .ok (.aload_n 0, 1) := by decide +kernel
theorem dX8_init_5 : decode cX8_init 5 = .ok (.bipush 8, 2) := by decide +kernel
theorem dX8_init_7 : decode cX8_init 7 = .ok (.anewarray 9, 3) := by decide +kernel
theorem dX8_init_10 : decode cX8_init 10 = .ok (.putfield 11, 3) := by decide +kernel
theorem dX8_init_13 : decode cX8_init 13 = .ok (.aload_n 0, 1) := by decide +kernel
theorem dX8_init_14 : decode cX8_init 14 = .ok (.iconst 2, 1) := by decide +kernel
theorem dX8_init_15 : decode cX8_init 15 = .ok (.anewarray 15, 3) := by decide +kernel
theorem dX8_init_18 : decode cX8_init 18 = .ok (.putfield 17, 3) := by decide +kernel
theorem dX8_init_21 : decode cX8_init 21 = .ok (.aload_n 0, 1) := by decide +kernel
theorem dX8_init_22 : decode cX8_init 22 = .ok (.new 21, 3) := by decide +kernel
theorem dX8_init_25 : decode cX8_init 25 = .ok (.dup, 1) := by decide +kernel
theorem dX8_init_26 : decode cX8_init 26 = .ok (.iload_n 1, 1) := by decide +kernel
theorem dX8_init_27 : decode cX8_init 27 = .ok (.iconst 4, 1) := by decide +kernel
theorem dX8_init_28 : decode cX8_init 28 = .ok (.if_icmp .eq 9, 3) := by decide +kernel
theorem dX8_init_31 : decode cX8_init 31 = .ok (.iload_n 1, 1) := by decide +kernel
theorem dX8_init_32 : decode cX8_init 32 = .ok (.bipush 16, 2) := by decide +kernel
theorem dX8_init_34 : decode cX8_init 34 = .ok (.if_icmp .ne 7, 3) := by decide +kernel
theorem dX8_init_37 : decode cX8_init 37 = .ok (.iload_n 1, 1) := by decide +kernel
theorem dX8_init_38 : decode cX8_init 38 = .ok (.goto 5, 3) := by decide +kernel
theorem dX8_init_41 : decode cX8_init 41 = .ok (.bipush 8, 2) := by decide +kernel
theorem dX8_init_43 : decode cX8_init 43 = .ok (.invokespecial 23, 3) := by decide +kernel
theorem dX8_init_46 : decode cX8_init 46 = .ok (.putfield 26, 3) := by decide +kernel
theorem dX8_init_49 : decode cX8_init 49 = .ok (.return_, 1) := by decide +kernel
theorem dX8_consumer_0 : decode cX8_consumer 0 = .ok (.iload_n 1, 1) := by decide +kernel
theorem dX8_consumer_1 : decode cX8_consumer 1 = .ok (.iconst 0, 1) := by decide +kernel
theorem dX8_consumer_2 : decode cX8_consumer 2 = .ok (.iconst 3, 1) := by decide +kernel
theorem dX8_consumer_3 : decode cX8_consumer 3 = .ok (.invokestatic 30, 3) := by decide +kernel
theorem dX8_consumer_6 : decode cX8_consumer 6 = .ok (.ifCond .eq 12, 3) := by decide +kernel
theorem dX8_consumer_9 : decode cX8_consumer 9 = .ok (.iload_n 3, 1) := by decide +kernel
theorem dX8_consumer_10 : decode cX8_consumer 10 = .ok (.iconst 0, 1) := by decide +kernel
theorem dX8_consumer_11 : decode cX8_consumer 11 = .ok (.iconst 2, 1) := by decide +kernel
theorem dX8_consumer_12 : decode cX8_consumer 12 = .ok (.invokestatic 30, 3) := by decide +kernel
theorem dX8_consumer_15 : decode cX8_consumer 15 = .ok (.ifCond .ne 13, 3) := by decide +kernel
theorem dX8_consumer_18 : decode cX8_consumer 18 = .ok (.new 34, 3) := by decide +kernel
theorem dX8_consumer_21 : decode cX8_consumer 21 = .ok (.dup, 1) := by decide +kernel
theorem dX8_consumer_22 : decode cX8_consumer 22 = .ok (.ldc 36, 2) := by decide +kernel
theorem dX8_consumer_24 : decode cX8_consumer 24 = .ok (.invokespecial 38, 3) := by decide +kernel
theorem dX8_consumer_27 : decode cX8_consumer 27 = .ok (.athrow, 1) := by decide +kernel
theorem dX8_consumer_28 : decode cX8_consumer 28 = .ok (.iload_n 2, 1) := by decide +kernel
theorem dX8_consumer_29 : decode cX8_consumer 29 = .ok (.aload_n 0, 1) := by decide +kernel
theorem dX8_consumer_30 : decode cX8_consumer 30 = .ok (.getfield 41, 3) := by decide +kernel
theorem dX8_consumer_33 : decode cX8_consumer 33 = .ok (.iushr, 1) := by decide +kernel
theorem dX8_consumer_34 : decode cX8_consumer 34 = .ok (.ifCond .eq 13, 3) := by decide +kernel
theorem dX8_consumer_37 : decode cX8_consumer 37 = .ok (.new 34, 3) := by decide +kernel
theorem dX8_consumer_40 : decode cX8_consumer 40 = .ok (.dup, 1) := by decide +kernel
theorem dX8_consumer_41 : decode cX8_consumer 41 = .ok (.ldc 45, 2) := by decide +kernel
theorem dX8_consumer_43 : decode cX8_consumer 43 = .ok (.invokespecial 38, 3) := by decide +kernel
theorem dX8_consumer_46 : decode cX8_consumer 46 = .ok (.athrow, 1) := by decide +kernel
theorem dX8_consumer_47 : decode cX8_consumer 47 = .ok (.iload 4, 2) := by decide +kernel
theorem dX8_consumer_49 : decode cX8_consumer 49 = .ok (.iconst (-1), 1) := by decide +kernel
theorem dX8_consumer_50 : decode cX8_consumer 50 = .ok (.if_icmp .eq 24, 3) := by decide +kernel
theorem dX8_consumer_53 : decode cX8_consumer 53 = .ok (.aload_n 0, 1) := by decide +kernel
theorem dX8_consumer_54 : decode cX8_consumer 54 = .ok (.iload 4, 2) := by decide +kernel
theorem dX8_consumer_56 : decode cX8_consumer 56 = .ok (.iload_n 2, 1) := by decide +kernel
theorem dX8_consumer_57 : decode cX8_consumer 57 = .ok (.iload_n 3, 1) := by decide +kernel
theorem dX8_consumer_58 : decode cX8_consumer 58 = .ok (.invokevirtual 47, 3) := by decide +kernel
theorem dX8_consumer_61 : decode cX8_consumer 61 = .ok (.ifCond .ne 13, 3) := by decide +kernel
theorem dX8_consumer_64 : decode cX8_consumer 64 = .ok (.new 34, 3) := by decide +kernel
theorem dX8_consumer_67 : decode cX8_consumer 67 = .ok (.dup, 1) := by decide +kernel
theorem dX8_consumer_68 : decode cX8_consumer 68 = .ok (.ldc 50, 2) := by decide +kernel
theorem dX8_consumer_70 : decode cX8_consumer 70 = .ok (.invokespecial 38, 3) := by decide +kernel
theorem dX8_consumer_73 : decode cX8_consumer 73 = .ok (.athrow, 1) := by decide +kernel
theorem dX8_consumer_74 : decode cX8_consumer 74 = .ok (.aload_n 0, 1) := by decide +kernel
theorem dX8_consumer_75 : decode cX8_consumer 75 = .ok (.getfield 41, 3) := by decide +kernel
theorem dX8_consumer_78 : decode cX8_consumer 78 = .ok (.bipush 8, 2) := by decide +kernel
theorem dX8_consumer_80 : decode cX8_consumer 80 = .ok (.if_icmp .ge 15, 3) := by decide +kernel
theorem dX8_consumer_83 : decode cX8_consumer 83 = .ok (.aload_n 0, 1) := by decide +kernel
theorem dX8_consumer_84 : decode cX8_consumer 84 = .ok (.getfield 26, 3) := by decide +kernel
theorem dX8_consumer_87 : decode cX8_consumer 87 = .ok (.getfield 52, 3) := by decide +kernel
theorem dX8_consumer_90 : decode cX8_consumer 90 = .ok (.lconst 0, 1) := by decide +kernel
theorem dX8_consumer_91 : decode cX8_consumer 91 = .ok (.lcmp, 1) := by decide +kernel
theorem dX8_consumer_92 : decode cX8_consumer 92 = .ok (.ifCond .lt 13, 3) := by decide +kernel
theorem dX8_consumer_95 : decode cX8_consumer 95 = .ok (.new 56, 3) := by decide +kernel
theorem dX8_consumer_98 : decode cX8_consumer 98 = .ok (.dup, 1) := by decide +kernel
theorem dX8_consumer_99 : decode cX8_consumer 99 = .ok (.ldc 58, 2) := by decide +kernel
theorem dX8_consumer_101 : decode cX8_consumer 101 = .ok (.invokespecial 60, 3) := by decide +kernel
theorem dX8_consumer_104 : decode cX8_consumer 104 = .ok (.athrow, 1) := by decide +kernel
theorem dX8_consumer_105 : decode cX8_consumer 105 = .ok (.aload_n 0, 1) := by decide +kernel
theorem dX8_consumer_106 : decode cX8_consumer 106 = .ok (.new 9, 3) := by decide +kernel
theorem dX8_consumer_109 : decode cX8_consumer 109 = .ok (.dup, 1) := by decide +kernel
theorem dX8_consumer_110 : decode cX8_consumer 110 = .ok (.iload_n 1, 1) := by decide +kernel
theorem dX8_consumer_111 : decode cX8_consumer 111 = .ok (.invokestatic 61, 3) := by decide +kernel
theorem dX8_consumer_114 : decode cX8_consumer 114 = .ok (.iload_n 2, 1) := by decide +kernel
theorem dX8_consumer_115 : decode cX8_consumer 115 = .ok (.iload_n 3, 1) := by decide +kernel
theorem dX8_consumer_116 : decode cX8_consumer 116 = .ok (.aload_n 0, 1) := by decide +kernel
theorem dX8_consumer_117 : decode cX8_consumer 117 = .ok (.iload 4, 2) := by decide +kernel
theorem dX8_consumer_119 : decode cX8_consumer 119 = .ok (.iload_n 2, 1) := by decide +kernel
theorem dX8_consumer_120 : decode cX8_consumer 120 = .ok (.invokevirtual 65, 3) := by decide +kernel
theorem dX8_consumer_123 : decode cX8_consumer 123 = .ok (.invokespecial 69, 3) := by decide +kernel
theorem dX8_consumer_126 : decode cX8_consumer 126 = .ok (.invokevirtual 72, 3) := by decide +kernel
theorem dX8_consumer_129 : decode cX8_consumer 129 = .ok (.ireturn, 1) := by decide +kernel
theorem dX8_claim_0 : decode cX8_claim 0 = .ok (.iload_n 1, 1) := by decide +kernel
theorem dX8_claim_1 : decode cX8_claim 1 = .ok (.iconst 0, 1) := by decide +kernel
theorem dX8_claim_2 : decode cX8_claim 2 = .ok (.iconst 3, 1) := by decide +kernel
theorem dX8_claim_3 : decode cX8_claim 3 = .ok (.invokestatic 30, 3) := by decide +kernel
theorem dX8_claim_6 : decode cX8_claim 6 = .ok (.ifCond .eq 18, 3) := by decide +kernel
theorem dX8_claim_9 : decode cX8_claim 9 = .ok (.iload_n 2, 1) := by decide +kernel
theorem dX8_claim_10 : decode cX8_claim 10 = .ok (.iconst 1, 1) := by decide +kernel
theorem dX8_claim_11 : decode cX8_claim 11 = .ok (.aload_n 0, 1) := by decide +kernel
theorem dX8_claim_12 : decode cX8_claim 12 = .ok (.getfield 26, 3) := by decide +kernel
theorem dX8_claim_15 : decode cX8_claim 15 = .ok (.invokevirtual 76, 3) := by decide +kernel
theorem dX8_claim_18 : decode cX8_claim 18 = .ok (.invokestatic 30, 3) := by decide +kernel
theorem dX8_claim_21 : decode cX8_claim 21 = .ok (.ifCond .ne 13, 3) := by decide +kernel
theorem dX8_claim_24 : decode cX8_claim 24 = .ok (.new 34, 3) := by decide +kernel
theorem dX8_claim_27 : decode cX8_claim 27 = .ok (.dup, 1) := by decide +kernel
theorem dX8_claim_28 : decode cX8_claim 28 = .ok (.ldc 80, 2) := by decide +kernel
theorem dX8_claim_30 : decode cX8_claim 30 = .ok (.invokespecial 38, 3) := by decide +kernel
theorem dX8_claim_33 : decode cX8_claim 33 = .ok (.athrow, 1) := by decide +kernel
theorem dX8_claim_34 : decode cX8_claim 34 = .ok (.aload_n 0, 1) := by decide +kernel
theorem dX8_claim_35 : decode cX8_claim 35 = .ok (.getfield 26, 3) := by decide +kernel
theorem dX8_claim_38 : decode cX8_claim 38 = .ok (.getfield 52, 3) := by decide +kernel
theorem dX8_claim_41 : decode cX8_claim 41 = .ok (.iload_n 2, 1) := by decide +kernel
theorem dX8_claim_42 : decode cX8_claim 42 = .ok (.i2l, 1) := by decide +kernel
theorem dX8_claim_43 : decode cX8_claim 43 = .ok (.ladd, 1) := by decide +kernel
theorem dX8_claim_44 : decode cX8_claim 44 = .ok (.aload_n 0, 1) := by decide +kernel
theorem dX8_claim_45 : decode cX8_claim 45 = .ok (.getfield 26, 3) := by decide +kernel
theorem dX8_claim_48 : decode cX8_claim 48 = .ok (.invokevirtual 76, 3) := by decide +kernel
theorem dX8_claim_51 : decode cX8_claim 51 = .ok (.i2l, 1) := by decide +kernel
theorem dX8_claim_52 : decode cX8_claim 52 = .ok (.lsub, 1) := by decide +kernel
theorem dX8_claim_53 : decode cX8_claim 53 = .ok (.aload_n 0, 1) := by decide +kernel
theorem dX8_claim_54 : decode cX8_claim 54 = .ok (.aload_n 0, 1) := by decide +kernel
theorem dX8_claim_55 : decode cX8_claim 55 = .ok (.invokevirtual 82, 3) := by decide +kernel
theorem dX8_claim_58 : decode cX8_claim 58 = .ok (.invokevirtual 85, 3) := by decide +kernel
theorem dX8_claim_61 : decode cX8_claim 61 = .ok (.lcmp, 1) := by decide +kernel
theorem dX8_claim_62 : decode cX8_claim 62 = .ok (.ifCond .le 13, 3) := by decide +kernel
theorem dX8_claim_65 : decode cX8_claim 65 = .ok (.new 56, 3) := by decide +kernel
theorem dX8_claim_68 : decode cX8_claim 68 = .ok (.dup, 1) := by decide +kernel
theorem dX8_claim_69 : decode cX8_claim 69 = .ok (.ldc 89, 2) := by decide +kernel
theorem dX8_claim_71 : decode cX8_claim 71 = .ok (.invokespecial 60, 3) := by decide +kernel
theorem dX8_claim_74 : decode cX8_claim 74 = .ok (.athrow, 1) := by decide +kernel
theorem dX8_claim_75 : decode cX8_claim 75 = .ok (.aload_n 0, 1) := by decide +kernel
theorem dX8_claim_76 : decode cX8_claim 76 = .ok (.getfield 26, 3) := by decide +kernel
theorem dX8_claim_79 : decode cX8_claim 79 = .ok (.iload_n 1, 1) := by decide +kernel
theorem dX8_claim_80 : decode cX8_claim 80 = .ok (.iload_n 2, 1) := by decide +kernel
theorem dX8_claim_81 : decode cX8_claim 81 = .ok (.invokevirtual 91, 3) := by decide +kernel
theorem dX8_claim_84 : decode cX8_claim 84 = .ok (.lreturn, 1) := by decide +kernel
theorem dX8_publish_0 : decode cX8_publish 0 = .ok (.aload_n 0, 1) := by decide +kernel
theorem dX8_publish_1 : decode cX8_publish 1 = .ok (.getfield 26, 3) := by decide +kernel
theorem dX8_publish_4 : decode cX8_publish 4 = .ok (.iload_n 1, 1) := by decide +kernel
theorem dX8_publish_5 : decode cX8_publish 5 = .ok (.lload_n 2, 1) := by decide +kernel
theorem dX8_publish_6 : decode cX8_publish 6 = .ok (.invokevirtual 95, 3) := by decide +kernel
theorem dX8_publish_9 : decode cX8_publish 9 = .ok (.ifCond .ne 13, 3) := by decide +kernel
theorem dX8_publish_12 : decode cX8_publish 12 = .ok (.new 99, 3) := by decide +kernel
theorem dX8_publish_15 : decode cX8_publish 15 = .ok (.dup, 1) := by decide +kernel
theorem dX8_publish_16 : decode cX8_publish 16 = .ok (.ldc 101, 2) := by decide +kernel
theorem dX8_publish_18 : decode cX8_publish 18 = .ok (.invokespecial 103, 3) := by decide +kernel
theorem dX8_publish_21 : decode cX8_publish 21 = .ok (.athrow, 1) := by decide +kernel
theorem dX8_publish_22 : decode cX8_publish 22 = .ok (.aload_n 0, 1) := by decide +kernel
theorem dX8_publish_23 : decode cX8_publish 23 = .ok (.getfield 26, 3) := by decide +kernel
theorem dX8_publish_26 : decode cX8_publish 26 = .ok (.lload_n 2, 1) := by decide +kernel
theorem dX8_publish_27 : decode cX8_publish 27 = .ok (.lload 4, 2) := by decide +kernel
theorem dX8_publish_29 : decode cX8_publish 29 = .ok (.invokevirtual 104, 3) := by decide +kernel
theorem dX8_publish_32 : decode cX8_publish 32 = .ok (.lload_n 2, 1) := by decide +kernel
theorem dX8_publish_33 : decode cX8_publish 33 = .ok (.aload_n 0, 1) := by decide +kernel
theorem dX8_publish_34 : decode cX8_publish 34 = .ok (.getfield 26, 3) := by decide +kernel
theorem dX8_publish_37 : decode cX8_publish 37 = .ok (.getfield 108, 3) := by decide +kernel
theorem dX8_publish_40 : decode cX8_publish 40 = .ok (.lcmp, 1) := by decide +kernel
theorem dX8_publish_41 : decode cX8_publish 41 = .ok (.ifCond .gt 7, 3) := by decide +kernel
theorem dX8_publish_44 : decode cX8_publish 44 = .ok (.iconst 1, 1) := by decide +kernel
theorem dX8_publish_45 : decode cX8_publish 45 = .ok (.goto 4, 3) := by decide +kernel
theorem dX8_publish_48 : decode cX8_publish 48 = .ok (.iconst 0, 1) := by decide +kernel
theorem dX8_publish_49 : decode cX8_publish 49 = .ok (.ireturn, 1) := by decide +kernel
theorem dX8_run_0 : decode cX8_run 0 = .ok (.aload_n 0, 1) := by decide +kernel
theorem dX8_run_1 : decode cX8_run 1 = .ok (.iload_n 1, 1) := by decide +kernel
theorem dX8_run_2 : decode cX8_run 2 = .ok (.invokevirtual 111, 3) := by decide +kernel
theorem dX8_run_5 : decode cX8_run 5 = .ok (.astore_n 3, 1) := by decide +kernel
theorem dX8_run_6 : decode cX8_run 6 = .ok (.iload_n 2, 1) := by decide +kernel
theorem dX8_run_7 : decode cX8_run 7 = .ok (.iconst 1, 1) := by decide +kernel
theorem dX8_run_8 : decode cX8_run 8 = .ok (.bipush 20, 2) := by decide +kernel
theorem dX8_run_10 : decode cX8_run 10 = .ok (.invokestatic 30, 3) := by decide +kernel
theorem dX8_run_13 : decode cX8_run 13 = .ok (.ifCond .ne 13, 3) := by decide +kernel
theorem dX8_run_16 : decode cX8_run 16 = .ok (.new 34, 3) := by decide +kernel
theorem dX8_run_19 : decode cX8_run 19 = .ok (.dup, 1) := by decide +kernel
theorem dX8_run_20 : decode cX8_run 20 = .ok (.ldc 115, 2) := by decide +kernel
theorem dX8_run_22 : decode cX8_run 22 = .ok (.invokespecial 38, 3) := by decide +kernel
theorem dX8_run_25 : decode cX8_run 25 = .ok (.athrow, 1) := by decide +kernel
theorem dX8_run_26 : decode cX8_run 26 = .ok (.aload_n 3, 1) := by decide +kernel
theorem dX8_run_27 : decode cX8_run 27 = .ok (.getfield 117, 3) := by decide +kernel
theorem dX8_run_30 : decode cX8_run 30 = .ok (.ifCond .eq 13, 3) := by decide +kernel
theorem dX8_run_33 : decode cX8_run 33 = .ok (.new 56, 3) := by decide +kernel
theorem dX8_run_36 : decode cX8_run 36 = .ok (.dup, 1) := by decide +kernel
theorem dX8_run_37 : decode cX8_run 37 = .ok (.ldc 121, 2) := by decide +kernel
theorem dX8_run_39 : decode cX8_run 39 = .ok (.invokespecial 60, 3) := by decide +kernel
theorem dX8_run_42 : decode cX8_run 42 = .ok (.athrow, 1) := by decide +kernel
theorem dX8_run_43 : decode cX8_run 43 = .ok (.aload_n 3, 1) := by decide +kernel
theorem dX8_run_44 : decode cX8_run 44 = .ok (.aload_n 0, 1) := by decide +kernel
theorem dX8_run_45 : decode cX8_run 45 = .ok (.getfield 26, 3) := by decide +kernel
theorem dX8_run_48 : decode cX8_run 48 = .ok (.aload_n 0, 1) := by decide +kernel
theorem dX8_run_49 : decode cX8_run 49 = .ok (.aload_n 3, 1) := by decide +kernel
theorem dX8_run_50 : decode cX8_run 50 = .ok (.getfield 123, 3) := by decide +kernel
theorem dX8_run_53 : decode cX8_run 53 = .ok (.invokevirtual 85, 3) := by decide +kernel
theorem dX8_run_56 : decode cX8_run 56 = .ok (.iload_n 2, 1) := by decide +kernel
theorem dX8_run_57 : decode cX8_run 57 = .ok (.invokevirtual 126, 3) := by decide +kernel
theorem dX8_run_60 : decode cX8_run 60 = .ok (.ireturn, 1) := by decide +kernel
theorem dX8_place_0 : decode cX8_place 0 = .ok (.aload_n 0, 1) := by decide +kernel
theorem dX8_place_1 : decode cX8_place 1 = .ok (.iload_n 1, 1) := by decide +kernel
theorem dX8_place_2 : decode cX8_place 2 = .ok (.invokevirtual 111, 3) := by decide +kernel
theorem dX8_place_5 : decode cX8_place 5 = .ok (.invokevirtual 130, 3) := by decide +kernel
theorem dX8_place_8 : decode cX8_place 8 = .ok (.lreturn, 1) := by decide +kernel
theorem dX8_total_0 : decode cX8_total 0 = .ok (.aload_n 0, 1) := by decide +kernel
theorem dX8_total_1 : decode cX8_total 1 = .ok (.iload_n 1, 1) := by decide +kernel
theorem dX8_total_2 : decode cX8_total 2 = .ok (.invokevirtual 111, 3) := by decide +kernel
theorem dX8_total_5 : decode cX8_total 5 = .ok (.getfield 134, 3) := by decide +kernel
theorem dX8_total_8 : decode cX8_total 8 = .ok (.invokevirtual 138, 3) := by decide +kernel
theorem dX8_total_11 : decode cX8_total 11 = .ok (.lreturn, 1) := by decide +kernel
theorem dX8_level_0 : decode cX8_level 0 = .ok (.aload_n 0, 1) := by decide +kernel
theorem dX8_level_1 : decode cX8_level 1 = .ok (.iload_n 1, 1) := by decide +kernel
theorem dX8_level_2 : decode cX8_level 2 = .ok (.invokevirtual 111, 3) := by decide +kernel
theorem dX8_level_5 : decode cX8_level 5 = .ok (.getfield 134, 3) := by decide +kernel
theorem dX8_level_8 : decode cX8_level 8 = .ok (.astore_n 3, 1) := by decide +kernel
theorem dX8_level_9 : decode cX8_level 9 = .ok (.aload_n 3, 1) := by decide +kernel
theorem dX8_level_10 : decode cX8_level 10 = .ok (.instanceof 143, 3) := by decide +kernel
theorem dX8_level_13 : decode cX8_level 13 = .ok (.ifCond .eq 13, 3) := by decide +kernel
theorem dX8_level_16 : decode cX8_level 16 = .ok (.aload_n 3, 1) := by decide +kernel
theorem dX8_level_17 : decode cX8_level 17 = .ok (.checkcast 143, 3) := by decide +kernel
theorem dX8_level_20 : decode cX8_level 20 = .ok (.astore_n 2, 1) := by decide +kernel
theorem dX8_level_21 : decode cX8_level 21 = .ok (.aload_n 2, 1) := by decide +kernel
theorem dX8_level_22 : decode cX8_level 22 = .ok (.getfield 145, 3) := by decide +kernel
theorem dX8_level_25 : decode cX8_level 25 = .ok (.freturn, 1) := by decide +kernel
theorem dX8_level_26 : decode cX8_level 26 = .ok (.new 34, 3) := by decide +kernel
theorem dX8_level_29 : decode cX8_level 29 = .ok (.dup, 1) := by decide +kernel
theorem dX8_level_30 : decode cX8_level 30 = .ok (.ldc 149, 2) := by decide +kernel
theorem dX8_level_32 : decode cX8_level 32 = .ok (.invokespecial 38, 3) := by decide +kernel
theorem dX8_level_35 : decode cX8_level 35 = .ok (.athrow, 1) := by decide +kernel
theorem dX8_mean_0 : decode cX8_mean 0 = .ok (.aload_n 0, 1) := by decide +kernel
theorem dX8_mean_1 : decode cX8_mean 1 = .ok (.iload_n 1, 1) := by decide +kernel
theorem dX8_mean_2 : decode cX8_mean 2 = .ok (.invokevirtual 111, 3) := by decide +kernel
theorem dX8_mean_5 : decode cX8_mean 5 = .ok (.getfield 134, 3) := by decide +kernel
theorem dX8_mean_8 : decode cX8_mean 8 = .ok (.astore_n 3, 1) := by decide +kernel
theorem dX8_mean_9 : decode cX8_mean 9 = .ok (.aload_n 3, 1) := by decide +kernel
theorem dX8_mean_10 : decode cX8_mean 10 = .ok (.instanceof 151, 3) := by decide +kernel
theorem dX8_mean_13 : decode cX8_mean 13 = .ok (.ifCond .eq 13, 3) := by decide +kernel
theorem dX8_mean_16 : decode cX8_mean 16 = .ok (.aload_n 3, 1) := by decide +kernel
theorem dX8_mean_17 : decode cX8_mean 17 = .ok (.checkcast 151, 3) := by decide +kernel
theorem dX8_mean_20 : decode cX8_mean 20 = .ok (.astore_n 2, 1) := by decide +kernel
theorem dX8_mean_21 : decode cX8_mean 21 = .ok (.aload_n 2, 1) := by decide +kernel
theorem dX8_mean_22 : decode cX8_mean 22 = .ok (.getfield 153, 3) := by decide +kernel
theorem dX8_mean_25 : decode cX8_mean 25 = .ok (.dreturn, 1) := by decide +kernel
theorem dX8_mean_26 : decode cX8_mean 26 = .ok (.new 34, 3) := by decide +kernel
theorem dX8_mean_29 : decode cX8_mean 29 = .ok (.dup, 1) := by decide +kernel
theorem dX8_mean_30 : decode cX8_mean 30 = .ok (.ldc 157, 2) := by decide +kernel
theorem dX8_mean_32 : decode cX8_mean 32 = .ok (.invokespecial 38, 3) := by decide +kernel
theorem dX8_mean_35 : decode cX8_mean 35 = .ok (.athrow, 1) := by decide +kernel
theorem dX8_octet_0 : decode cX8_octet 0 = .ok (.aload_n 0, 1) := by decide +kernel
theorem dX8_octet_1 : decode cX8_octet 1 = .ok (.iload_n 1, 1) := by decide +kernel
theorem dX8_octet_2 : decode cX8_octet 2 = .ok (.invokevirtual 159, 3) := by decide +kernel
theorem dX8_octet_5 : decode cX8_octet 5 = .ok (.astore_n 3, 1) := by decide +kernel
theorem dX8_octet_6 : decode cX8_octet 6 = .ok (.iload_n 2, 1) := by decide +kernel
theorem dX8_octet_7 : decode cX8_octet 7 = .ok (.iconst 0, 1) := by decide +kernel
theorem dX8_octet_8 : decode cX8_octet 8 = .ok (.aload_n 3, 1) := by decide +kernel
theorem dX8_octet_9 : decode cX8_octet 9 = .ok (.getfield 163, 3) := by decide +kernel
theorem dX8_octet_12 : decode cX8_octet 12 = .ok (.iconst 1, 1) := by decide +kernel
theorem dX8_octet_13 : decode cX8_octet 13 = .ok (.isub, 1) := by decide +kernel
theorem dX8_octet_14 : decode cX8_octet 14 = .ok (.invokestatic 30, 3) := by decide +kernel
theorem dX8_octet_17 : decode cX8_octet 17 = .ok (.ifCond .ne 13, 3) := by decide +kernel
theorem dX8_octet_20 : decode cX8_octet 20 = .ok (.new 168, 3) := by decide +kernel
theorem dX8_octet_23 : decode cX8_octet 23 = .ok (.dup, 1) := by decide +kernel
theorem dX8_octet_24 : decode cX8_octet 24 = .ok (.ldc 170, 2) := by decide +kernel
theorem dX8_octet_26 : decode cX8_octet 26 = .ok (.invokespecial 172, 3) := by decide +kernel
theorem dX8_octet_29 : decode cX8_octet 29 = .ok (.athrow, 1) := by decide +kernel
theorem dX8_octet_30 : decode cX8_octet 30 = .ok (.aload_n 3, 1) := by decide +kernel
theorem dX8_octet_31 : decode cX8_octet 31 = .ok (.iload_n 2, 1) := by decide +kernel
theorem dX8_octet_32 : decode cX8_octet 32 = .ok (.invokevirtual 173, 3) := by decide +kernel
theorem dX8_octet_35 : decode cX8_octet 35 = .ok (.ireturn, 1) := by decide +kernel
theorem dX8_tear_0 : decode cX8_tear 0 = .ok (.aload_n 0, 1) := by decide +kernel
theorem dX8_tear_1 : decode cX8_tear 1 = .ok (.iload_n 1, 1) := by decide +kernel
theorem dX8_tear_2 : decode cX8_tear 2 = .ok (.invokevirtual 159, 3) := by decide +kernel
theorem dX8_tear_5 : decode cX8_tear 5 = .ok (.astore_n 3, 1) := by decide +kernel
theorem dX8_tear_6 : decode cX8_tear 6 = .ok (.iload_n 2, 1) := by decide +kernel
theorem dX8_tear_7 : decode cX8_tear 7 = .ok (.iconst 0, 1) := by decide +kernel
theorem dX8_tear_8 : decode cX8_tear 8 = .ok (.aload_n 3, 1) := by decide +kernel
theorem dX8_tear_9 : decode cX8_tear 9 = .ok (.getfield 163, 3) := by decide +kernel
theorem dX8_tear_12 : decode cX8_tear 12 = .ok (.invokestatic 30, 3) := by decide +kernel
theorem dX8_tear_15 : decode cX8_tear 15 = .ok (.ifCond .ne 13, 3) := by decide +kernel
theorem dX8_tear_18 : decode cX8_tear 18 = .ok (.new 34, 3) := by decide +kernel
theorem dX8_tear_21 : decode cX8_tear 21 = .ok (.dup, 1) := by decide +kernel
theorem dX8_tear_22 : decode cX8_tear 22 = .ok (.ldc 177, 2) := by decide +kernel
theorem dX8_tear_24 : decode cX8_tear 24 = .ok (.invokespecial 38, 3) := by decide +kernel
theorem dX8_tear_27 : decode cX8_tear 27 = .ok (.athrow, 1) := by decide +kernel
theorem dX8_tear_28 : decode cX8_tear 28 = .ok (.aload_n 3, 1) := by decide +kernel
theorem dX8_tear_29 : decode cX8_tear 29 = .ok (.dup, 1) := by decide +kernel
theorem dX8_tear_30 : decode cX8_tear 30 = .ok (.getfield 163, 3) := by decide +kernel
theorem dX8_tear_33 : decode cX8_tear 33 = .ok (.iload_n 2, 1) := by decide +kernel
theorem dX8_tear_34 : decode cX8_tear 34 = .ok (.isub, 1) := by decide +kernel
theorem dX8_tear_35 : decode cX8_tear 35 = .ok (.putfield 163, 3) := by decide +kernel
theorem dX8_tear_38 : decode cX8_tear 38 = .ok (.aload_n 3, 1) := by decide +kernel
theorem dX8_tear_39 : decode cX8_tear 39 = .ok (.getfield 163, 3) := by decide +kernel
theorem dX8_tear_42 : decode cX8_tear 42 = .ok (.ireturn, 1) := by decide +kernel
theorem dX8_replay_0 : decode cX8_replay 0 = .ok (.aload_n 0, 1) := by decide +kernel
theorem dX8_replay_1 : decode cX8_replay 1 = .ok (.iload_n 1, 1) := by decide +kernel
theorem dX8_replay_2 : decode cX8_replay 2 = .ok (.invokevirtual 159, 3) := by decide +kernel
theorem dX8_replay_5 : decode cX8_replay 5 = .ok (.astore_n 2, 1) := by decide +kernel
theorem dX8_replay_6 : decode cX8_replay 6 = .ok (.aload_n 2, 1) := by decide +kernel
theorem dX8_replay_7 : decode cX8_replay 7 = .ok (.invokevirtual 179, 3) := by decide +kernel
theorem dX8_replay_10 : decode cX8_replay 10 = .ok (.istore_n 3, 1) := by decide +kernel
theorem dX8_replay_11 : decode cX8_replay 11 = .ok (.aload_n 0, 1) := by decide +kernel
theorem dX8_replay_12 : decode cX8_replay 12 = .ok (.aload_n 2, 1) := by decide +kernel
theorem dX8_replay_13 : decode cX8_replay 13 = .ok (.iload_n 3, 1) := by decide +kernel
theorem dX8_replay_14 : decode cX8_replay 14 = .ok (.invokevirtual 182, 3) := by decide +kernel
theorem dX8_replay_17 : decode cX8_replay 17 = .ok (.putfield 185, 3) := by decide +kernel
theorem dX8_replay_20 : decode cX8_replay 20 = .ok (.iload_n 3, 1) := by decide +kernel
theorem dX8_replay_21 : decode cX8_replay 21 = .ok (.ireturn, 1) := by decide +kernel
theorem dX8_replayed_0 : decode cX8_replayed 0 = .ok (.aload_n 0, 1) := by decide +kernel
theorem dX8_replayed_1 : decode cX8_replayed 1 = .ok (.getfield 185, 3) := by decide +kernel
theorem dX8_replayed_4 : decode cX8_replayed 4 = .ok (.lreturn, 1) := by decide +kernel
theorem dX8_count_0 : decode cX8_count 0 = .ok (.aload_n 0, 1) := by decide +kernel
theorem dX8_count_1 : decode cX8_count 1 = .ok (.iload_n 1, 1) := by decide +kernel
theorem dX8_count_2 : decode cX8_count 2 = .ok (.invokevirtual 111, 3) := by decide +kernel
theorem dX8_count_5 : decode cX8_count 5 = .ok (.astore_n 3, 1) := by decide +kernel
theorem dX8_count_6 : decode cX8_count 6 = .ok (.iload_n 2, 1) := by decide +kernel
theorem dX8_count_7 : decode cX8_count 7 = .ok (.tableswitch 57 0 3 #[29, 34, 39, 44], 29) := by decide +kernel
theorem dX8_count_36 : decode cX8_count 36 = .ok (.aload_n 3, 1) := by decide +kernel
theorem dX8_count_37 : decode cX8_count 37 = .ok (.getfield 188, 3) := by decide +kernel
theorem dX8_count_40 : decode cX8_count 40 = .ok (.ireturn, 1) := by decide +kernel
theorem dX8_count_41 : decode cX8_count 41 = .ok (.aload_n 3, 1) := by decide +kernel
theorem dX8_count_42 : decode cX8_count 42 = .ok (.getfield 191, 3) := by decide +kernel
theorem dX8_count_45 : decode cX8_count 45 = .ok (.ireturn, 1) := by decide +kernel
theorem dX8_count_46 : decode cX8_count 46 = .ok (.aload_n 3, 1) := by decide +kernel
theorem dX8_count_47 : decode cX8_count 47 = .ok (.getfield 194, 3) := by decide +kernel
theorem dX8_count_50 : decode cX8_count 50 = .ok (.ireturn, 1) := by decide +kernel
theorem dX8_count_51 : decode cX8_count 51 = .ok (.aload_n 3, 1) := by decide +kernel
theorem dX8_count_52 : decode cX8_count 52 = .ok (.getfield 117, 3) := by decide +kernel
theorem dX8_count_55 : decode cX8_count 55 = .ok (.ifCond .eq 7, 3) := by decide +kernel
theorem dX8_count_58 : decode cX8_count 58 = .ok (.iconst 1, 1) := by decide +kernel
theorem dX8_count_59 : decode cX8_count 59 = .ok (.goto 4, 3) := by decide +kernel
theorem dX8_count_62 : decode cX8_count 62 = .ok (.iconst 0, 1) := by decide +kernel
theorem dX8_count_63 : decode cX8_count 63 = .ok (.ireturn, 1) := by decide +kernel
theorem dX8_count_64 : decode cX8_count 64 = .ok (.new 34, 3) := by decide +kernel
theorem dX8_count_67 : decode cX8_count 67 = .ok (.dup, 1) := by decide +kernel
theorem dX8_count_68 : decode cX8_count 68 = .ok (.ldc 197, 2) := by decide +kernel
theorem dX8_count_70 : decode cX8_count 70 = .ok (.invokespecial 38, 3) := by decide +kernel
theorem dX8_count_73 : decode cX8_count 73 = .ok (.athrow, 1) := by decide +kernel
theorem dX8_state_0 : decode cX8_state 0 = .ok (.iload_n 1, 1) := by decide +kernel
theorem dX8_state_1 : decode cX8_state 1 = .ok (.ifCond .ne 11, 3) := by decide +kernel
theorem dX8_state_4 : decode cX8_state 4 = .ok (.aload_n 0, 1) := by decide +kernel
theorem dX8_state_5 : decode cX8_state 5 = .ok (.getfield 26, 3) := by decide +kernel
theorem dX8_state_8 : decode cX8_state 8 = .ok (.getfield 52, 3) := by decide +kernel
theorem dX8_state_11 : decode cX8_state 11 = .ok (.lreturn, 1) := by decide +kernel
theorem dX8_state_12 : decode cX8_state 12 = .ok (.iload_n 1, 1) := by decide +kernel
theorem dX8_state_13 : decode cX8_state 13 = .ok (.iconst 1, 1) := by decide +kernel
theorem dX8_state_14 : decode cX8_state 14 = .ok (.if_icmp .ne 11, 3) := by decide +kernel
theorem dX8_state_17 : decode cX8_state 17 = .ok (.aload_n 0, 1) := by decide +kernel
theorem dX8_state_18 : decode cX8_state 18 = .ok (.getfield 26, 3) := by decide +kernel
theorem dX8_state_21 : decode cX8_state 21 = .ok (.getfield 108, 3) := by decide +kernel
theorem dX8_state_24 : decode cX8_state 24 = .ok (.lreturn, 1) := by decide +kernel
theorem dX8_state_25 : decode cX8_state 25 = .ok (.iload_n 1, 1) := by decide +kernel
theorem dX8_state_26 : decode cX8_state 26 = .ok (.iconst 2, 1) := by decide +kernel
theorem dX8_state_27 : decode cX8_state 27 = .ok (.if_icmp .ne 18, 3) := by decide +kernel
theorem dX8_state_30 : decode cX8_state 30 = .ok (.lload_n 2, 1) := by decide +kernel
theorem dX8_state_31 : decode cX8_state 31 = .ok (.lconst 0, 1) := by decide +kernel
theorem dX8_state_32 : decode cX8_state 32 = .ok (.lcmp, 1) := by decide +kernel
theorem dX8_state_33 : decode cX8_state 33 = .ok (.ifCond .lt 12, 3) := by decide +kernel
theorem dX8_state_36 : decode cX8_state 36 = .ok (.aload_n 0, 1) := by decide +kernel
theorem dX8_state_37 : decode cX8_state 37 = .ok (.getfield 26, 3) := by decide +kernel
theorem dX8_state_40 : decode cX8_state 40 = .ok (.lload_n 2, 1) := by decide +kernel
theorem dX8_state_41 : decode cX8_state 41 = .ok (.invokevirtual 199, 3) := by decide +kernel
theorem dX8_state_44 : decode cX8_state 44 = .ok (.lreturn, 1) := by decide +kernel
theorem dX8_state_45 : decode cX8_state 45 = .ok (.new 34, 3) := by decide +kernel
theorem dX8_state_48 : decode cX8_state 48 = .ok (.dup, 1) := by decide +kernel
theorem dX8_state_49 : decode cX8_state 49 = .ok (.ldc 203, 2) := by decide +kernel
theorem dX8_state_51 : decode cX8_state 51 = .ok (.invokespecial 38, 3) := by decide +kernel
theorem dX8_state_54 : decode cX8_state 54 = .ok (.athrow, 1) := by decide +kernel
theorem dX8_isWithin_0 : decode cX8_isWithin 0 = .ok (.iload_n 1, 1) := by decide +kernel
theorem dX8_isWithin_1 : decode cX8_isWithin 1 = .ok (.iload_n 0, 1) := by decide +kernel
theorem dX8_isWithin_2 : decode cX8_isWithin 2 = .ok (.if_icmp .gt 12, 3) := by decide +kernel
theorem dX8_isWithin_5 : decode cX8_isWithin 5 = .ok (.iload_n 0, 1) := by decide +kernel
theorem dX8_isWithin_6 : decode cX8_isWithin 6 = .ok (.iload_n 2, 1) := by decide +kernel
theorem dX8_isWithin_7 : decode cX8_isWithin 7 = .ok (.if_icmp .gt 7, 3) := by decide +kernel
theorem dX8_isWithin_10 : decode cX8_isWithin 10 = .ok (.iconst 1, 1) := by decide +kernel
theorem dX8_isWithin_11 : decode cX8_isWithin 11 = .ok (.goto 4, 3) := by decide +kernel
theorem dX8_isWithin_14 : decode cX8_isWithin 14 = .ok (.iconst 0, 1) := by decide +kernel
theorem dX8_isWithin_15 : decode cX8_isWithin 15 = .ok (.ireturn, 1) := by decide +kernel
theorem dX8_existing_0 : decode cX8_existing 0 = .ok (.iload_n 1, 1) := by decide +kernel
theorem dX8_existing_1 : decode cX8_existing 1 = .ok (.iconst 0, 1) := by decide +kernel
theorem dX8_existing_2 : decode cX8_existing 2 = .ok (.aload_n 0, 1) := by decide +kernel
theorem dX8_existing_3 : decode cX8_existing 3 = .ok (.getfield 41, 3) := by decide +kernel
theorem dX8_existing_6 : decode cX8_existing 6 = .ok (.iconst 1, 1) := by decide +kernel
theorem dX8_existing_7 : decode cX8_existing 7 = .ok (.isub, 1) := by decide +kernel
theorem dX8_existing_8 : decode cX8_existing 8 = .ok (.invokestatic 30, 3) := by decide +kernel
theorem dX8_existing_11 : decode cX8_existing 11 = .ok (.ifCond .eq 12, 3) := by decide +kernel
theorem dX8_existing_14 : decode cX8_existing 14 = .ok (.aload_n 0, 1) := by decide +kernel
theorem dX8_existing_15 : decode cX8_existing 15 = .ok (.getfield 11, 3) := by decide +kernel
theorem dX8_existing_18 : decode cX8_existing 18 = .ok (.iload_n 1, 1) := by decide +kernel
theorem dX8_existing_19 : decode cX8_existing 19 = .ok (.aaload, 1) := by decide +kernel
theorem dX8_existing_20 : decode cX8_existing 20 = .ok (.goto 4, 3) := by decide +kernel
theorem dX8_existing_23 : decode cX8_existing 23 = .ok (.aconst_null, 1) := by decide +kernel
theorem dX8_existing_24 : decode cX8_existing 24 = .ok (.astore_n 2, 1) := by decide +kernel
theorem dX8_existing_25 : decode cX8_existing 25 = .ok (.aload_n 2, 1) := by decide +kernel
theorem dX8_existing_26 : decode cX8_existing 26 = .ok (.ifnonnull 13, 3) := by decide +kernel
theorem dX8_existing_29 : decode cX8_existing 29 = .ok (.new 34, 3) := by decide +kernel
theorem dX8_existing_32 : decode cX8_existing 32 = .ok (.dup, 1) := by decide +kernel
theorem dX8_existing_33 : decode cX8_existing 33 = .ok (.ldc 205, 2) := by decide +kernel
theorem dX8_existing_35 : decode cX8_existing 35 = .ok (.invokespecial 38, 3) := by decide +kernel
theorem dX8_existing_38 : decode cX8_existing 38 = .ok (.athrow, 1) := by decide +kernel
theorem dX8_existing_39 : decode cX8_existing 39 = .ok (.aload_n 2, 1) := by decide +kernel
theorem dX8_existing_40 : decode cX8_existing 40 = .ok (.areturn, 1) := by decide +kernel
theorem dX8_journalOf_0 : decode cX8_journalOf 0 = .ok (.aload_n 0, 1) := by decide +kernel
theorem dX8_journalOf_1 : decode cX8_journalOf 1 = .ok (.iload_n 1, 1) := by decide +kernel
theorem dX8_journalOf_2 : decode cX8_journalOf 2 = .ok (.invokevirtual 111, 3) := by decide +kernel
theorem dX8_journalOf_5 : decode cX8_journalOf 5 = .ok (.getfield 134, 3) := by decide +kernel
theorem dX8_journalOf_8 : decode cX8_journalOf 8 = .ok (.astore_n 3, 1) := by decide +kernel
theorem dX8_journalOf_9 : decode cX8_journalOf 9 = .ok (.aload_n 3, 1) := by decide +kernel
theorem dX8_journalOf_10 : decode cX8_journalOf 10 = .ok (.instanceof 164, 3) := by decide +kernel
theorem dX8_journalOf_13 : decode cX8_journalOf 13 = .ok (.ifCond .eq 10, 3) := by decide +kernel
theorem dX8_journalOf_16 : decode cX8_journalOf 16 = .ok (.aload_n 3, 1) := by decide +kernel
theorem dX8_journalOf_17 : decode cX8_journalOf 17 = .ok (.checkcast 164, 3) := by decide +kernel
theorem dX8_journalOf_20 : decode cX8_journalOf 20 = .ok (.astore_n 2, 1) := by decide +kernel
theorem dX8_journalOf_21 : decode cX8_journalOf 21 = .ok (.aload_n 2, 1) := by decide +kernel
theorem dX8_journalOf_22 : decode cX8_journalOf 22 = .ok (.areturn, 1) := by decide +kernel
theorem dX8_journalOf_23 : decode cX8_journalOf 23 = .ok (.new 34, 3) := by decide +kernel
theorem dX8_journalOf_26 : decode cX8_journalOf 26 = .ok (.dup, 1) := by decide +kernel
theorem dX8_journalOf_27 : decode cX8_journalOf 27 = .ok (.ldc 207, 2) := by decide +kernel
theorem dX8_journalOf_29 : decode cX8_journalOf 29 = .ok (.invokespecial 38, 3) := by decide +kernel
theorem dX8_journalOf_32 : decode cX8_journalOf 32 = .ok (.athrow, 1) := by decide +kernel
theorem dX8_mayJoin_0 : decode cX8_mayJoin 0 = .ok (.iload_n 1, 1) := by decide +kernel
theorem dX8_mayJoin_1 : decode cX8_mayJoin 1 = .ok (.iconst 0, 1) := by decide +kernel
theorem dX8_mayJoin_2 : decode cX8_mayJoin 2 = .ok (.iconst 1, 1) := by decide +kernel
theorem dX8_mayJoin_3 : decode cX8_mayJoin 3 = .ok (.invokestatic 30, 3) := by decide +kernel
theorem dX8_mayJoin_6 : decode cX8_mayJoin 6 = .ok (.ifCond .eq 8, 3) := by decide +kernel
theorem dX8_mayJoin_9 : decode cX8_mayJoin 9 = .ok (.iload_n 3, 1) := by decide +kernel
theorem dX8_mayJoin_10 : decode cX8_mayJoin 10 = .ok (.iconst 2, 1) := by decide +kernel
theorem dX8_mayJoin_11 : decode cX8_mayJoin 11 = .ok (.if_icmp .ne 5, 3) := by decide +kernel
theorem dX8_mayJoin_14 : decode cX8_mayJoin 14 = .ok (.iconst 0, 1) := by decide +kernel
theorem dX8_mayJoin_15 : decode cX8_mayJoin 15 = .ok (.ireturn, 1) := by decide +kernel
theorem dX8_mayJoin_16 : decode cX8_mayJoin 16 = .ok (.aload_n 0, 1) := by decide +kernel
theorem dX8_mayJoin_17 : decode cX8_mayJoin 17 = .ok (.getfield 17, 3) := by decide +kernel
theorem dX8_mayJoin_20 : decode cX8_mayJoin 20 = .ok (.iload_n 1, 1) := by decide +kernel
theorem dX8_mayJoin_21 : decode cX8_mayJoin 21 = .ok (.aaload, 1) := by decide +kernel
theorem dX8_mayJoin_22 : decode cX8_mayJoin 22 = .ok (.ifnull 16, 3) := by decide +kernel
theorem dX8_mayJoin_25 : decode cX8_mayJoin 25 = .ok (.aload_n 0, 1) := by decide +kernel
theorem dX8_mayJoin_26 : decode cX8_mayJoin 26 = .ok (.getfield 17, 3) := by decide +kernel
theorem dX8_mayJoin_29 : decode cX8_mayJoin 29 = .ok (.iload_n 1, 1) := by decide +kernel
theorem dX8_mayJoin_30 : decode cX8_mayJoin 30 = .ok (.aaload, 1) := by decide +kernel
theorem dX8_mayJoin_31 : decode cX8_mayJoin 31 = .ok (.getfield 209, 3) := by decide +kernel
theorem dX8_mayJoin_34 : decode cX8_mayJoin 34 = .ok (.iload_n 2, 1) := by decide +kernel
theorem dX8_mayJoin_35 : decode cX8_mayJoin 35 = .ok (.if_icmp .ne 7, 3) := by decide +kernel
theorem dX8_mayJoin_38 : decode cX8_mayJoin 38 = .ok (.iconst 1, 1) := by decide +kernel
theorem dX8_mayJoin_39 : decode cX8_mayJoin 39 = .ok (.goto 4, 3) := by decide +kernel
theorem dX8_mayJoin_42 : decode cX8_mayJoin 42 = .ok (.iconst 0, 1) := by decide +kernel
theorem dX8_mayJoin_43 : decode cX8_mayJoin 43 = .ok (.ireturn, 1) := by decide +kernel
theorem dX8_poolToJoin_0 : decode cX8_poolToJoin 0 = .ok (.iload_n 1, 1) := by decide +kernel
theorem dX8_poolToJoin_1 : decode cX8_poolToJoin 1 = .ok (.iconst 0, 1) := by decide +kernel
theorem dX8_poolToJoin_2 : decode cX8_poolToJoin 2 = .ok (.iconst 1, 1) := by decide +kernel
theorem dX8_poolToJoin_3 : decode cX8_poolToJoin 3 = .ok (.invokestatic 30, 3) := by decide +kernel
theorem dX8_poolToJoin_6 : decode cX8_poolToJoin 6 = .ok (.ifCond .ne 5, 3) := by decide +kernel
theorem dX8_poolToJoin_9 : decode cX8_poolToJoin 9 = .ok (.aconst_null, 1) := by decide +kernel
theorem dX8_poolToJoin_10 : decode cX8_poolToJoin 10 = .ok (.areturn, 1) := by decide +kernel
theorem dX8_poolToJoin_11 : decode cX8_poolToJoin 11 = .ok (.aload_n 0, 1) := by decide +kernel
theorem dX8_poolToJoin_12 : decode cX8_poolToJoin 12 = .ok (.getfield 17, 3) := by decide +kernel
theorem dX8_poolToJoin_15 : decode cX8_poolToJoin 15 = .ok (.iload_n 1, 1) := by decide +kernel
theorem dX8_poolToJoin_16 : decode cX8_poolToJoin 16 = .ok (.aaload, 1) := by decide +kernel
theorem dX8_poolToJoin_17 : decode cX8_poolToJoin 17 = .ok (.ifnonnull 17, 3) := by decide +kernel
theorem dX8_poolToJoin_20 : decode cX8_poolToJoin 20 = .ok (.aload_n 0, 1) := by decide +kernel
theorem dX8_poolToJoin_21 : decode cX8_poolToJoin 21 = .ok (.getfield 17, 3) := by decide +kernel
theorem dX8_poolToJoin_24 : decode cX8_poolToJoin 24 = .ok (.iload_n 1, 1) := by decide +kernel
theorem dX8_poolToJoin_25 : decode cX8_poolToJoin 25 = .ok (.new 15, 3) := by decide +kernel
theorem dX8_poolToJoin_28 : decode cX8_poolToJoin 28 = .ok (.dup, 1) := by decide +kernel
theorem dX8_poolToJoin_29 : decode cX8_poolToJoin 29 = .ok (.iload_n 2, 1) := by decide +kernel
theorem dX8_poolToJoin_30 : decode cX8_poolToJoin 30 = .ok (.invokespecial 210, 3) := by decide +kernel
theorem dX8_poolToJoin_33 : decode cX8_poolToJoin 33 = .ok (.aastore, 1) := by decide +kernel
theorem dX8_poolToJoin_34 : decode cX8_poolToJoin 34 = .ok (.aload_n 0, 1) := by decide +kernel
theorem dX8_poolToJoin_35 : decode cX8_poolToJoin 35 = .ok (.getfield 17, 3) := by decide +kernel
theorem dX8_poolToJoin_38 : decode cX8_poolToJoin 38 = .ok (.iload_n 1, 1) := by decide +kernel
theorem dX8_poolToJoin_39 : decode cX8_poolToJoin 39 = .ok (.aaload, 1) := by decide +kernel
theorem dX8_poolToJoin_40 : decode cX8_poolToJoin 40 = .ok (.areturn, 1) := by decide +kernel
theorem dX8_add_0 : decode cX8_add 0 = .ok (.aload_n 1, 1) := by decide +kernel
theorem dX8_add_1 : decode cX8_add 1 = .ok (.getfield 211, 3) := by decide +kernel
theorem dX8_add_4 : decode cX8_add 4 = .ok (.ifnull 11, 3) := by decide +kernel
theorem dX8_add_7 : decode cX8_add 7 = .ok (.aload_n 1, 1) := by decide +kernel
theorem dX8_add_8 : decode cX8_add 8 = .ok (.getfield 211, 3) := by decide +kernel
theorem dX8_add_11 : decode cX8_add 11 = .ok (.aload_n 1, 1) := by decide +kernel
theorem dX8_add_12 : decode cX8_add 12 = .ok (.invokevirtual 215, 3) := by decide +kernel
theorem dX8_add_15 : decode cX8_add 15 = .ok (.aload_n 0, 1) := by decide +kernel
theorem dX8_add_16 : decode cX8_add 16 = .ok (.getfield 11, 3) := by decide +kernel
theorem dX8_add_19 : decode cX8_add 19 = .ok (.aload_n 0, 1) := by decide +kernel
theorem dX8_add_20 : decode cX8_add 20 = .ok (.getfield 41, 3) := by decide +kernel
theorem dX8_add_23 : decode cX8_add 23 = .ok (.aload_n 1, 1) := by decide +kernel
theorem dX8_add_24 : decode cX8_add 24 = .ok (.aastore, 1) := by decide +kernel
theorem dX8_add_25 : decode cX8_add 25 = .ok (.aload_n 0, 1) := by decide +kernel
theorem dX8_add_26 : decode cX8_add 26 = .ok (.dup, 1) := by decide +kernel
theorem dX8_add_27 : decode cX8_add 27 = .ok (.getfield 218, 3) := by decide +kernel
theorem dX8_add_30 : decode cX8_add 30 = .ok (.aload_n 1, 1) := by decide +kernel
theorem dX8_add_31 : decode cX8_add 31 = .ok (.getfield 123, 3) := by decide +kernel
theorem dX8_add_34 : decode cX8_add 34 = .ok (.ior, 1) := by decide +kernel
theorem dX8_add_35 : decode cX8_add 35 = .ok (.putfield 218, 3) := by decide +kernel
theorem dX8_add_38 : decode cX8_add 38 = .ok (.aload_n 0, 1) := by decide +kernel
theorem dX8_add_39 : decode cX8_add 39 = .ok (.dup, 1) := by decide +kernel
theorem dX8_add_40 : decode cX8_add 40 = .ok (.getfield 41, 3) := by decide +kernel
theorem dX8_add_43 : decode cX8_add 43 = .ok (.iconst 1, 1) := by decide +kernel
theorem dX8_add_44 : decode cX8_add 44 = .ok (.iadd, 1) := by decide +kernel
theorem dX8_add_45 : decode cX8_add 45 = .ok (.putfield 41, 3) := by decide +kernel
theorem dX8_add_48 : decode cX8_add 48 = .ok (.aload_n 0, 1) := by decide +kernel
theorem dX8_add_49 : decode cX8_add 49 = .ok (.getfield 41, 3) := by decide +kernel
theorem dX8_add_52 : decode cX8_add 52 = .ok (.iconst 1, 1) := by decide +kernel
theorem dX8_add_53 : decode cX8_add 53 = .ok (.isub, 1) := by decide +kernel
theorem dX8_add_54 : decode cX8_add 54 = .ok (.ireturn, 1) := by decide +kernel
theorem dX8_newHandler_0 : decode cX8_newHandler 0 = .ok (.iload_n 0, 1) := by decide +kernel
theorem dX8_newHandler_1 : decode cX8_newHandler 1 = .ok (.tableswitch 51 0 2 #[27, 35, 43], 27) := by decide +kernel
theorem dX8_newHandler_28 : decode cX8_newHandler 28 = .ok (.new 221, 3) := by decide +kernel
theorem dX8_newHandler_31 : decode cX8_newHandler 31 = .ok (.dup, 1) := by decide +kernel
theorem dX8_newHandler_32 : decode cX8_newHandler 32 = .ok (.invokespecial 223, 3) := by decide +kernel
theorem dX8_newHandler_35 : decode cX8_newHandler 35 = .ok (.areturn, 1) := by decide +kernel
theorem dX8_newHandler_36 : decode cX8_newHandler 36 = .ok (.new 143, 3) := by decide +kernel
theorem dX8_newHandler_39 : decode cX8_newHandler 39 = .ok (.dup, 1) := by decide +kernel
theorem dX8_newHandler_40 : decode cX8_newHandler 40 = .ok (.invokespecial 224, 3) := by decide +kernel
theorem dX8_newHandler_43 : decode cX8_newHandler 43 = .ok (.areturn, 1) := by decide +kernel
theorem dX8_newHandler_44 : decode cX8_newHandler 44 = .ok (.new 151, 3) := by decide +kernel
theorem dX8_newHandler_47 : decode cX8_newHandler 47 = .ok (.dup, 1) := by decide +kernel
theorem dX8_newHandler_48 : decode cX8_newHandler 48 = .ok (.invokespecial 225, 3) := by decide +kernel
theorem dX8_newHandler_51 : decode cX8_newHandler 51 = .ok (.areturn, 1) := by decide +kernel
theorem dX8_newHandler_52 : decode cX8_newHandler 52 = .ok (.new 164, 3) := by decide +kernel
theorem dX8_newHandler_55 : decode cX8_newHandler 55 = .ok (.dup, 1) := by decide +kernel
theorem dX8_newHandler_56 : decode cX8_newHandler 56 = .ok (.invokespecial 226, 3) := by decide +kernel
theorem dX8_newHandler_59 : decode cX8_newHandler 59 = .ok (.areturn, 1) := by decide +kernel
theorem dX8_lastInLine_0 : decode cX8_lastInLine 0 = .ok (.iconst 1, 1) := by decide +kernel
theorem dX8_lastInLine_1 : decode cX8_lastInLine 1 = .ok (.aload_n 0, 1) := by decide +kernel
theorem dX8_lastInLine_2 : decode cX8_lastInLine 2 = .ok (.getfield 41, 3) := by decide +kernel
theorem dX8_lastInLine_5 : decode cX8_lastInLine 5 = .ok (.ishl, 1) := by decide +kernel
theorem dX8_lastInLine_6 : decode cX8_lastInLine 6 = .ok (.iconst 1, 1) := by decide +kernel
theorem dX8_lastInLine_7 : decode cX8_lastInLine 7 = .ok (.isub, 1) := by decide +kernel
theorem dX8_lastInLine_8 : decode cX8_lastInLine 8 = .ok (.aload_n 0, 1) := by decide +kernel
theorem dX8_lastInLine_9 : decode cX8_lastInLine 9 = .ok (.getfield 218, 3) := by decide +kernel
theorem dX8_lastInLine_12 : decode cX8_lastInLine 12 = .ok (.iconst (-1), 1) := by decide +kernel
theorem dX8_lastInLine_13 : decode cX8_lastInLine 13 = .ok (.ixor, 1) := by decide +kernel
theorem dX8_lastInLine_14 : decode cX8_lastInLine 14 = .ok (.iand, 1) := by decide +kernel
theorem dX8_lastInLine_15 : decode cX8_lastInLine 15 = .ok (.ireturn, 1) := by decide +kernel
theorem dX8_leastPlace_0 : decode cX8_leastPlace 0 = .ok (.aload_n 0, 1) := by decide +kernel
theorem dX8_leastPlace_1 : decode cX8_leastPlace 1 = .ok (.getfield 26, 3) := by decide +kernel
theorem dX8_leastPlace_4 : decode cX8_leastPlace 4 = .ok (.getfield 108, 3) := by decide +kernel
theorem dX8_leastPlace_7 : decode cX8_leastPlace 7 = .ok (.lstore_n 2, 1) := by decide +kernel
theorem dX8_leastPlace_8 : decode cX8_leastPlace 8 = .ok (.iconst 0, 1) := by decide +kernel
theorem dX8_leastPlace_9 : decode cX8_leastPlace 9 = .ok (.istore 4, 2) := by decide +kernel
theorem dX8_leastPlace_11 : decode cX8_leastPlace 11 = .ok (.iload 4, 2) := by decide +kernel
theorem dX8_leastPlace_13 : decode cX8_leastPlace 13 = .ok (.aload_n 0, 1) := by decide +kernel
theorem dX8_leastPlace_14 : decode cX8_leastPlace 14 = .ok (.getfield 41, 3) := by decide +kernel
theorem dX8_leastPlace_17 : decode cX8_leastPlace 17 = .ok (.if_icmp .ge 42, 3) := by decide +kernel
theorem dX8_leastPlace_20 : decode cX8_leastPlace 20 = .ok (.aload_n 0, 1) := by decide +kernel
theorem dX8_leastPlace_21 : decode cX8_leastPlace 21 = .ok (.getfield 11, 3) := by decide +kernel
theorem dX8_leastPlace_24 : decode cX8_leastPlace 24 = .ok (.iload 4, 2) := by decide +kernel
theorem dX8_leastPlace_26 : decode cX8_leastPlace 26 = .ok (.aaload, 1) := by decide +kernel
theorem dX8_leastPlace_27 : decode cX8_leastPlace 27 = .ok (.astore 5, 2) := by decide +kernel
theorem dX8_leastPlace_29 : decode cX8_leastPlace 29 = .ok (.aload 5, 2) := by decide +kernel
theorem dX8_leastPlace_31 : decode cX8_leastPlace 31 = .ok (.ifnull 22, 3) := by decide +kernel
theorem dX8_leastPlace_34 : decode cX8_leastPlace 34 = .ok (.iload_n 1, 1) := by decide +kernel
theorem dX8_leastPlace_35 : decode cX8_leastPlace 35 = .ok (.iload 4, 2) := by decide +kernel
theorem dX8_leastPlace_37 : decode cX8_leastPlace 37 = .ok (.iushr, 1) := by decide +kernel
theorem dX8_leastPlace_38 : decode cX8_leastPlace 38 = .ok (.iconst 1, 1) := by decide +kernel
theorem dX8_leastPlace_39 : decode cX8_leastPlace 39 = .ok (.iand, 1) := by decide +kernel
theorem dX8_leastPlace_40 : decode cX8_leastPlace 40 = .ok (.ifCond .eq 13, 3) := by decide +kernel
theorem dX8_leastPlace_43 : decode cX8_leastPlace 43 = .ok (.lload_n 2, 1) := by decide +kernel
theorem dX8_leastPlace_44 : decode cX8_leastPlace 44 = .ok (.aload 5, 2) := by decide +kernel
theorem dX8_leastPlace_46 : decode cX8_leastPlace 46 = .ok (.invokevirtual 130, 3) := by decide +kernel
theorem dX8_leastPlace_49 : decode cX8_leastPlace 49 = .ok (.invokestatic 227, 3) := by decide +kernel
theorem dX8_leastPlace_52 : decode cX8_leastPlace 52 = .ok (.lstore_n 2, 1) := by decide +kernel
theorem dX8_leastPlace_53 : decode cX8_leastPlace 53 = .ok (.iinc 4 1, 3) := by decide +kernel
theorem dX8_leastPlace_56 : decode cX8_leastPlace 56 = .ok (.goto (-45), 3) := by decide +kernel
theorem dX8_leastPlace_59 : decode cX8_leastPlace 59 = .ok (.lload_n 2, 1) := by decide +kernel
theorem dX8_leastPlace_60 : decode cX8_leastPlace 60 = .ok (.lreturn, 1) := by decide +kernel
