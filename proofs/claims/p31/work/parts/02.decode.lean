theorem dX0_init_0 : decode cX0_init 0 = .ok (.aload_n 0, 1) := by decide +kernel
theorem dX0_init_1 : decode cX0_init 1 = .ok (.invokespecial 3, 3) := by decide +kernel
theorem dX0_init_4 : decode cX0_init 4 = .ok (.aload_n 0, 1) := by decide +kernel
theorem dX0_init_5 : decode cX0_init 5 = .ok (.bipush 40, 2) := by decide +kernel
theorem dX0_init_7 : decode cX0_init 7 = .ok (.newarray .int, 2) := by decide +kernel
theorem dX0_init_9 : decode cX0_init 9 = .ok (.putfield 9, 3) := by decide +kernel
theorem dX0_init_12 : decode cX0_init 12 = .ok (.aload_n 0, 1) := by decide +kernel
theorem dX0_init_13 : decode cX0_init 13 = .ok (.bipush 40, 2) := by decide +kernel
theorem dX0_init_15 : decode cX0_init 15 = .ok (.newarray .int, 2) := by decide +kernel
theorem dX0_init_17 : decode cX0_init 17 = .ok (.putfield 15, 3) := by decide +kernel
theorem dX0_init_20 : decode cX0_init 20 = .ok (.aload_n 0, 1) := by decide +kernel
theorem dX0_init_21 : decode cX0_init 21 = .ok (.sipush 240, 3) := by decide +kernel
theorem dX0_init_24 : decode cX0_init 24 = .ok (.newarray .int, 2) := by decide +kernel
theorem dX0_init_26 : decode cX0_init 26 = .ok (.putfield 18, 3) := by decide +kernel
theorem dX0_init_29 : decode cX0_init 29 = .ok (.return_, 1) := by decide +kernel
theorem dX0_startOf_0 : decode cX0_startOf 0 = .ok (.iload_n 0, 1) := by decide +kernel
theorem dX0_startOf_1 : decode cX0_startOf 1 = .ok (.bipush 6, 2) := by decide +kernel
theorem dX0_startOf_3 : decode cX0_startOf 3 = .ok (.imul, 1) := by decide +kernel
theorem dX0_startOf_4 : decode cX0_startOf 4 = .ok (.ireturn, 1) := by decide +kernel
theorem dX0_add_0 : decode cX0_add 0 = .ok (.aload_n 0, 1) := by decide +kernel
theorem dX0_add_1 : decode cX0_add 1 = .ok (.getfield 21, 3) := by decide +kernel
theorem dX0_add_4 : decode cX0_add 4 = .ok (.bipush 40, 2) := by decide +kernel
theorem dX0_add_6 : decode cX0_add 6 = .ok (.if_icmp .ge 12, 3) := by decide +kernel
theorem dX0_add_9 : decode cX0_add 9 = .ok (.aload_n 2, 1) := by decide +kernel
theorem dX0_add_10 : decode cX0_add 10 = .ok (.getfield 25, 3) := by decide +kernel
theorem dX0_add_13 : decode cX0_add 13 = .ok (.bipush 6, 2) := by decide +kernel
theorem dX0_add_15 : decode cX0_add 15 = .ok (.if_icmp .le 4, 3) := by decide +kernel
theorem dX0_add_18 : decode cX0_add 18 = .ok (.return_, 1) := by decide +kernel
theorem dX0_add_19 : decode cX0_add 19 = .ok (.aload_n 0, 1) := by decide +kernel
theorem dX0_add_20 : decode cX0_add 20 = .ok (.getfield 9, 3) := by decide +kernel
theorem dX0_add_23 : decode cX0_add 23 = .ok (.aload_n 0, 1) := by decide +kernel
theorem dX0_add_24 : decode cX0_add 24 = .ok (.getfield 21, 3) := by decide +kernel
theorem dX0_add_27 : decode cX0_add 27 = .ok (.iload_n 1, 1) := by decide +kernel
theorem dX0_add_28 : decode cX0_add 28 = .ok (.iastore, 1) := by decide +kernel
theorem dX0_add_29 : decode cX0_add 29 = .ok (.aload_n 0, 1) := by decide +kernel
theorem dX0_add_30 : decode cX0_add 30 = .ok (.getfield 15, 3) := by decide +kernel
theorem dX0_add_33 : decode cX0_add 33 = .ok (.aload_n 0, 1) := by decide +kernel
theorem dX0_add_34 : decode cX0_add 34 = .ok (.getfield 21, 3) := by decide +kernel
theorem dX0_add_37 : decode cX0_add 37 = .ok (.aload_n 2, 1) := by decide +kernel
theorem dX0_add_38 : decode cX0_add 38 = .ok (.getfield 25, 3) := by decide +kernel
theorem dX0_add_41 : decode cX0_add 41 = .ok (.iastore, 1) := by decide +kernel
theorem dX0_add_42 : decode cX0_add 42 = .ok (.aload_n 2, 1) := by decide +kernel
theorem dX0_add_43 : decode cX0_add 43 = .ok (.getfield 28, 3) := by decide +kernel
theorem dX0_add_46 : decode cX0_add 46 = .ok (.iconst 0, 1) := by decide +kernel
theorem dX0_add_47 : decode cX0_add 47 = .ok (.aload_n 0, 1) := by decide +kernel
theorem dX0_add_48 : decode cX0_add 48 = .ok (.getfield 18, 3) := by decide +kernel
theorem dX0_add_51 : decode cX0_add 51 = .ok (.aload_n 0, 1) := by decide +kernel
theorem dX0_add_52 : decode cX0_add 52 = .ok (.getfield 21, 3) := by decide +kernel
theorem dX0_add_55 : decode cX0_add 55 = .ok (.invokestatic 31, 3) := by decide +kernel
theorem dX0_add_58 : decode cX0_add 58 = .ok (.aload_n 2, 1) := by decide +kernel
theorem dX0_add_59 : decode cX0_add 59 = .ok (.getfield 25, 3) := by decide +kernel
theorem dX0_add_62 : decode cX0_add 62 = .ok (.invokestatic 35, 3) := by decide +kernel
theorem dX0_add_65 : decode cX0_add 65 = .ok (.aload_n 0, 1) := by decide +kernel
theorem dX0_add_66 : decode cX0_add 66 = .ok (.dup, 1) := by decide +kernel
theorem dX0_add_67 : decode cX0_add 67 = .ok (.getfield 21, 3) := by decide +kernel
theorem dX0_add_70 : decode cX0_add 70 = .ok (.iconst 1, 1) := by decide +kernel
theorem dX0_add_71 : decode cX0_add 71 = .ok (.iadd, 1) := by decide +kernel
theorem dX0_add_72 : decode cX0_add 72 = .ok (.putfield 21, 3) := by decide +kernel
theorem dX0_add_75 : decode cX0_add 75 = .ok (.return_, 1) := by decide +kernel
theorem dX0_latestCode_0 : decode cX0_latestCode 0 = .ok (.aload_n 0, 1) := by decide +kernel
theorem dX0_latestCode_1 : decode cX0_latestCode 1 = .ok (.getfield 21, 3) := by decide +kernel
theorem dX0_latestCode_4 : decode cX0_latestCode 4 = .ok (.ifCond .ne 7, 3) := by decide +kernel
theorem dX0_latestCode_7 : decode cX0_latestCode 7 = .ok (.iconst 0, 1) := by decide +kernel
theorem dX0_latestCode_8 : decode cX0_latestCode 8 = .ok (.goto 14, 3) := by decide +kernel
theorem dX0_latestCode_11 : decode cX0_latestCode 11 = .ok (.aload_n 0, 1) := by decide +kernel
theorem dX0_latestCode_12 : decode cX0_latestCode 12 = .ok (.getfield 9, 3) := by decide +kernel
theorem dX0_latestCode_15 : decode cX0_latestCode 15 = .ok (.aload_n 0, 1) := by decide +kernel
theorem dX0_latestCode_16 : decode cX0_latestCode 16 = .ok (.getfield 21, 3) := by decide +kernel
theorem dX0_latestCode_19 : decode cX0_latestCode 19 = .ok (.iconst 1, 1) := by decide +kernel
theorem dX0_latestCode_20 : decode cX0_latestCode 20 = .ok (.isub, 1) := by decide +kernel
theorem dX0_latestCode_21 : decode cX0_latestCode 21 = .ok (.iaload, 1) := by decide +kernel
theorem dX0_latestCode_22 : decode cX0_latestCode 22 = .ok (.ireturn, 1) := by decide +kernel
theorem dX0_entryWith_0 : decode cX0_entryWith 0 = .ok (.iconst 0, 1) := by decide +kernel
theorem dX0_entryWith_1 : decode cX0_entryWith 1 = .ok (.istore_n 2, 1) := by decide +kernel
theorem dX0_entryWith_2 : decode cX0_entryWith 2 = .ok (.iload_n 2, 1) := by decide +kernel
theorem dX0_entryWith_3 : decode cX0_entryWith 3 = .ok (.aload_n 0, 1) := by decide +kernel
theorem dX0_entryWith_4 : decode cX0_entryWith 4 = .ok (.getfield 21, 3) := by decide +kernel
theorem dX0_entryWith_7 : decode cX0_entryWith 7 = .ok (.if_icmp .ge 21, 3) := by decide +kernel
theorem dX0_entryWith_10 : decode cX0_entryWith 10 = .ok (.aload_n 0, 1) := by decide +kernel
theorem dX0_entryWith_11 : decode cX0_entryWith 11 = .ok (.getfield 9, 3) := by decide +kernel
theorem dX0_entryWith_14 : decode cX0_entryWith 14 = .ok (.iload_n 2, 1) := by decide +kernel
theorem dX0_entryWith_15 : decode cX0_entryWith 15 = .ok (.iaload, 1) := by decide +kernel
theorem dX0_entryWith_16 : decode cX0_entryWith 16 = .ok (.iload_n 1, 1) := by decide +kernel
theorem dX0_entryWith_17 : decode cX0_entryWith 17 = .ok (.if_icmp .ne 5, 3) := by decide +kernel
theorem dX0_entryWith_20 : decode cX0_entryWith 20 = .ok (.iload_n 2, 1) := by decide +kernel
theorem dX0_entryWith_21 : decode cX0_entryWith 21 = .ok (.ireturn, 1) := by decide +kernel
theorem dX0_entryWith_22 : decode cX0_entryWith 22 = .ok (.iinc 2 1, 3) := by decide +kernel
theorem dX0_entryWith_25 : decode cX0_entryWith 25 = .ok (.goto (-23), 3) := by decide +kernel
theorem dX0_entryWith_28 : decode cX0_entryWith 28 = .ok (.iconst (-1), 1) := by decide +kernel
theorem dX0_entryWith_29 : decode cX0_entryWith 29 = .ok (.ireturn, 1) := by decide +kernel
theorem dX0_reasonAgainst_0 : decode cX0_reasonAgainst 0 = .ok (.aload_n 0, 1) := by decide +kernel
theorem dX0_reasonAgainst_1 : decode cX0_reasonAgainst 1 = .ok (.getfield 21, 3) := by decide +kernel
theorem dX0_reasonAgainst_4 : decode cX0_reasonAgainst 4 = .ok (.bipush 40, 2) := by decide +kernel
theorem dX0_reasonAgainst_6 : decode cX0_reasonAgainst 6 = .ok (.if_icmp .lt 5, 3) := by decide +kernel
theorem dX0_reasonAgainst_9 : decode cX0_reasonAgainst 9 = .ok (.iconst 1, 1) := by decide +kernel
theorem dX0_reasonAgainst_10 : decode cX0_reasonAgainst 10 = .ok (.ireturn, 1) := by decide +kernel
theorem dX0_reasonAgainst_11 : decode cX0_reasonAgainst 11 = .ok (.iconst 0, 1) := by decide +kernel
theorem dX0_reasonAgainst_12 : decode cX0_reasonAgainst 12 = .ok (.istore_n 2, 1) := by decide +kernel
theorem dX0_reasonAgainst_13 : decode cX0_reasonAgainst 13 = .ok (.iconst 0, 1) := by decide +kernel
theorem dX0_reasonAgainst_14 : decode cX0_reasonAgainst 14 = .ok (.istore_n 3, 1) := by decide +kernel
theorem dX0_reasonAgainst_15 : decode cX0_reasonAgainst 15 = .ok (.iload_n 3, 1) := by decide +kernel
theorem dX0_reasonAgainst_16 : decode cX0_reasonAgainst 16 = .ok (.aload_n 0, 1) := by decide +kernel
theorem dX0_reasonAgainst_17 : decode cX0_reasonAgainst 17 = .ok (.getfield 21, 3) := by decide +kernel
theorem dX0_reasonAgainst_20 : decode cX0_reasonAgainst 20 = .ok (.if_icmp .ge 39, 3) := by decide +kernel
theorem dX0_reasonAgainst_23 : decode cX0_reasonAgainst 23 = .ok (.aload_n 0, 1) := by decide +kernel
theorem dX0_reasonAgainst_24 : decode cX0_reasonAgainst 24 = .ok (.getfield 9, 3) := by decide +kernel
theorem dX0_reasonAgainst_27 : decode cX0_reasonAgainst 27 = .ok (.iload_n 3, 1) := by decide +kernel
theorem dX0_reasonAgainst_28 : decode cX0_reasonAgainst 28 = .ok (.iaload, 1) := by decide +kernel
theorem dX0_reasonAgainst_29 : decode cX0_reasonAgainst 29 = .ok (.iload_n 1, 1) := by decide +kernel
theorem dX0_reasonAgainst_30 : decode cX0_reasonAgainst 30 = .ok (.invokestatic 41, 3) := by decide +kernel
theorem dX0_reasonAgainst_33 : decode cX0_reasonAgainst 33 = .ok (.istore 4, 2) := by decide +kernel
theorem dX0_reasonAgainst_35 : decode cX0_reasonAgainst 35 = .ok (.iload 4, 2) := by decide +kernel
theorem dX0_reasonAgainst_37 : decode cX0_reasonAgainst 37 = .ok (.ifCond .eq 16, 3) := by decide +kernel
theorem dX0_reasonAgainst_40 : decode cX0_reasonAgainst 40 = .ok (.iload_n 2, 1) := by decide +kernel
theorem dX0_reasonAgainst_41 : decode cX0_reasonAgainst 41 = .ok (.ifCond .eq 9, 3) := by decide +kernel
theorem dX0_reasonAgainst_44 : decode cX0_reasonAgainst 44 = .ok (.iload 4, 2) := by decide +kernel
theorem dX0_reasonAgainst_46 : decode cX0_reasonAgainst 46 = .ok (.iload_n 2, 1) := by decide +kernel
theorem dX0_reasonAgainst_47 : decode cX0_reasonAgainst 47 = .ok (.if_icmp .ge 6, 3) := by decide +kernel
theorem dX0_reasonAgainst_50 : decode cX0_reasonAgainst 50 = .ok (.iload 4, 2) := by decide +kernel
theorem dX0_reasonAgainst_52 : decode cX0_reasonAgainst 52 = .ok (.istore_n 2, 1) := by decide +kernel
theorem dX0_reasonAgainst_53 : decode cX0_reasonAgainst 53 = .ok (.iinc 3 1, 3) := by decide +kernel
theorem dX0_reasonAgainst_56 : decode cX0_reasonAgainst 56 = .ok (.goto (-41), 3) := by decide +kernel
theorem dX0_reasonAgainst_59 : decode cX0_reasonAgainst 59 = .ok (.iload_n 2, 1) := by decide +kernel
theorem dX0_reasonAgainst_60 : decode cX0_reasonAgainst 60 = .ok (.ireturn, 1) := by decide +kernel
theorem dX0_fitFrom_0 : decode cX0_fitFrom 0 = .ok (.aload_n 0, 1) := by decide +kernel
theorem dX0_fitFrom_1 : decode cX0_fitFrom 1 = .ok (.getfield 21, 3) := by decide +kernel
theorem dX0_fitFrom_4 : decode cX0_fitFrom 4 = .ok (.bipush 40, 2) := by decide +kernel
theorem dX0_fitFrom_6 : decode cX0_fitFrom 6 = .ok (.if_icmp .lt 5, 3) := by decide +kernel
theorem dX0_fitFrom_9 : decode cX0_fitFrom 9 = .ok (.iconst (-1), 1) := by decide +kernel
theorem dX0_fitFrom_10 : decode cX0_fitFrom 10 = .ok (.ireturn, 1) := by decide +kernel
theorem dX0_fitFrom_11 : decode cX0_fitFrom 11 = .ok (.iload_n 1, 1) := by decide +kernel
theorem dX0_fitFrom_12 : decode cX0_fitFrom 12 = .ok (.istore_n 2, 1) := by decide +kernel
theorem dX0_fitFrom_13 : decode cX0_fitFrom 13 = .ok (.iload_n 2, 1) := by decide +kernel
theorem dX0_fitFrom_14 : decode cX0_fitFrom 14 = .ok (.iload_n 1, 1) := by decide +kernel
theorem dX0_fitFrom_15 : decode cX0_fitFrom 15 = .ok (.sipush 2000, 3) := by decide +kernel
theorem dX0_fitFrom_18 : decode cX0_fitFrom 18 = .ok (.iadd, 1) := by decide +kernel
theorem dX0_fitFrom_19 : decode cX0_fitFrom 19 = .ok (.if_icmp .gt 25, 3) := by decide +kernel
theorem dX0_fitFrom_22 : decode cX0_fitFrom 22 = .ok (.iload_n 2, 1) := by decide +kernel
theorem dX0_fitFrom_23 : decode cX0_fitFrom 23 = .ok (.ldc 47, 2) := by decide +kernel
theorem dX0_fitFrom_25 : decode cX0_fitFrom 25 = .ok (.if_icmp .gt 19, 3) := by decide +kernel
theorem dX0_fitFrom_28 : decode cX0_fitFrom 28 = .ok (.aload_n 0, 1) := by decide +kernel
theorem dX0_fitFrom_29 : decode cX0_fitFrom 29 = .ok (.iload_n 2, 1) := by decide +kernel
theorem dX0_fitFrom_30 : decode cX0_fitFrom 30 = .ok (.invokevirtual 48, 3) := by decide +kernel
theorem dX0_fitFrom_33 : decode cX0_fitFrom 33 = .ok (.ifCond .ne 5, 3) := by decide +kernel
theorem dX0_fitFrom_36 : decode cX0_fitFrom 36 = .ok (.iload_n 2, 1) := by decide +kernel
theorem dX0_fitFrom_37 : decode cX0_fitFrom 37 = .ok (.ireturn, 1) := by decide +kernel
theorem dX0_fitFrom_38 : decode cX0_fitFrom 38 = .ok (.iinc 2 1, 3) := by decide +kernel
theorem dX0_fitFrom_41 : decode cX0_fitFrom 41 = .ok (.goto (-28), 3) := by decide +kernel
theorem dX0_fitFrom_44 : decode cX0_fitFrom 44 = .ok (.iconst (-1), 1) := by decide +kernel
theorem dX0_fitFrom_45 : decode cX0_fitFrom 45 = .ok (.ireturn, 1) := by decide +kernel
theorem dX0_onlyEntryLike_0 : decode cX0_onlyEntryLike 0 = .ok (.iconst (-1), 1) := by decide +kernel
theorem dX0_onlyEntryLike_1 : decode cX0_onlyEntryLike 1 = .ok (.istore_n 2, 1) := by decide +kernel
theorem dX0_onlyEntryLike_2 : decode cX0_onlyEntryLike 2 = .ok (.iconst 0, 1) := by decide +kernel
theorem dX0_onlyEntryLike_3 : decode cX0_onlyEntryLike 3 = .ok (.istore_n 3, 1) := by decide +kernel
theorem dX0_onlyEntryLike_4 : decode cX0_onlyEntryLike 4 = .ok (.iload_n 3, 1) := by decide +kernel
theorem dX0_onlyEntryLike_5 : decode cX0_onlyEntryLike 5 = .ok (.aload_n 0, 1) := by decide +kernel
theorem dX0_onlyEntryLike_6 : decode cX0_onlyEntryLike 6 = .ok (.getfield 21, 3) := by decide +kernel
theorem dX0_onlyEntryLike_9 : decode cX0_onlyEntryLike 9 = .ok (.if_icmp .ge 31, 3) := by decide +kernel
theorem dX0_onlyEntryLike_12 : decode cX0_onlyEntryLike 12 = .ok (.aload_n 0, 1) := by decide +kernel
theorem dX0_onlyEntryLike_13 : decode cX0_onlyEntryLike 13 = .ok (.getfield 9, 3) := by decide +kernel
theorem dX0_onlyEntryLike_16 : decode cX0_onlyEntryLike 16 = .ok (.iload_n 3, 1) := by decide +kernel
theorem dX0_onlyEntryLike_17 : decode cX0_onlyEntryLike 17 = .ok (.iaload, 1) := by decide +kernel
theorem dX0_onlyEntryLike_18 : decode cX0_onlyEntryLike 18 = .ok (.iload_n 1, 1) := by decide +kernel
theorem dX0_onlyEntryLike_19 : decode cX0_onlyEntryLike 19 = .ok (.invokestatic 41, 3) := by decide +kernel
theorem dX0_onlyEntryLike_22 : decode cX0_onlyEntryLike 22 = .ok (.ifCond .eq 12, 3) := by decide +kernel
theorem dX0_onlyEntryLike_25 : decode cX0_onlyEntryLike 25 = .ok (.iload_n 2, 1) := by decide +kernel
theorem dX0_onlyEntryLike_26 : decode cX0_onlyEntryLike 26 = .ok (.iconst (-1), 1) := by decide +kernel
theorem dX0_onlyEntryLike_27 : decode cX0_onlyEntryLike 27 = .ok (.if_icmp .eq 5, 3) := by decide +kernel
theorem dX0_onlyEntryLike_30 : decode cX0_onlyEntryLike 30 = .ok (.iconst (-1), 1) := by decide +kernel
theorem dX0_onlyEntryLike_31 : decode cX0_onlyEntryLike 31 = .ok (.ireturn, 1) := by decide +kernel
theorem dX0_onlyEntryLike_32 : decode cX0_onlyEntryLike 32 = .ok (.iload_n 3, 1) := by decide +kernel
theorem dX0_onlyEntryLike_33 : decode cX0_onlyEntryLike 33 = .ok (.istore_n 2, 1) := by decide +kernel
theorem dX0_onlyEntryLike_34 : decode cX0_onlyEntryLike 34 = .ok (.iinc 3 1, 3) := by decide +kernel
theorem dX0_onlyEntryLike_37 : decode cX0_onlyEntryLike 37 = .ok (.goto (-33), 3) := by decide +kernel
theorem dX0_onlyEntryLike_40 : decode cX0_onlyEntryLike 40 = .ok (.iload_n 2, 1) := by decide +kernel
theorem dX0_onlyEntryLike_41 : decode cX0_onlyEntryLike 41 = .ok (.ireturn, 1) := by decide +kernel
theorem dX0_hasPhrase_0 : decode cX0_hasPhrase 0 = .ok (.iconst 0, 1) := by decide +kernel
theorem dX0_hasPhrase_1 : decode cX0_hasPhrase 1 = .ok (.istore 4, 2) := by decide +kernel
theorem dX0_hasPhrase_3 : decode cX0_hasPhrase 3 = .ok (.iload 4, 2) := by decide +kernel
theorem dX0_hasPhrase_5 : decode cX0_hasPhrase 5 = .ok (.aload_n 0, 1) := by decide +kernel
theorem dX0_hasPhrase_6 : decode cX0_hasPhrase 6 = .ok (.getfield 21, 3) := by decide +kernel
theorem dX0_hasPhrase_9 : decode cX0_hasPhrase 9 = .ok (.if_icmp .ge 40, 3) := by decide +kernel
theorem dX0_hasPhrase_12 : decode cX0_hasPhrase 12 = .ok (.aload_n 0, 1) := by decide +kernel
theorem dX0_hasPhrase_13 : decode cX0_hasPhrase 13 = .ok (.getfield 15, 3) := by decide +kernel
theorem dX0_hasPhrase_16 : decode cX0_hasPhrase 16 = .ok (.iload 4, 2) := by decide +kernel
theorem dX0_hasPhrase_18 : decode cX0_hasPhrase 18 = .ok (.iaload, 1) := by decide +kernel
theorem dX0_hasPhrase_19 : decode cX0_hasPhrase 19 = .ok (.iload_n 3, 1) := by decide +kernel
theorem dX0_hasPhrase_20 : decode cX0_hasPhrase 20 = .ok (.if_icmp .ne 23, 3) := by decide +kernel
theorem dX0_hasPhrase_23 : decode cX0_hasPhrase 23 = .ok (.aload_n 0, 1) := by decide +kernel
theorem dX0_hasPhrase_24 : decode cX0_hasPhrase 24 = .ok (.getfield 18, 3) := by decide +kernel
theorem dX0_hasPhrase_27 : decode cX0_hasPhrase 27 = .ok (.iload 4, 2) := by decide +kernel
theorem dX0_hasPhrase_29 : decode cX0_hasPhrase 29 = .ok (.invokestatic 31, 3) := by decide +kernel
theorem dX0_hasPhrase_32 : decode cX0_hasPhrase 32 = .ok (.aload_n 1, 1) := by decide +kernel
theorem dX0_hasPhrase_33 : decode cX0_hasPhrase 33 = .ok (.iload_n 2, 1) := by decide +kernel
theorem dX0_hasPhrase_34 : decode cX0_hasPhrase 34 = .ok (.iload_n 3, 1) := by decide +kernel
theorem dX0_hasPhrase_35 : decode cX0_hasPhrase 35 = .ok (.invokestatic 51, 3) := by decide +kernel
theorem dX0_hasPhrase_38 : decode cX0_hasPhrase 38 = .ok (.ifCond .eq 5, 3) := by decide +kernel
theorem dX0_hasPhrase_41 : decode cX0_hasPhrase 41 = .ok (.iconst 1, 1) := by decide +kernel
theorem dX0_hasPhrase_42 : decode cX0_hasPhrase 42 = .ok (.ireturn, 1) := by decide +kernel
theorem dX0_hasPhrase_43 : decode cX0_hasPhrase 43 = .ok (.iinc 4 1, 3) := by decide +kernel
theorem dX0_hasPhrase_46 : decode cX0_hasPhrase 46 = .ok (.goto (-43), 3) := by decide +kernel
theorem dX0_hasPhrase_49 : decode cX0_hasPhrase 49 = .ok (.iconst 0, 1) := by decide +kernel
theorem dX0_hasPhrase_50 : decode cX0_hasPhrase 50 = .ok (.ireturn, 1) := by decide +kernel
theorem dX0_goesAhead_0 : decode cX0_goesAhead 0 = .ok (.iload_n 2, 1) := by decide +kernel
theorem dX0_goesAhead_1 : decode cX0_goesAhead 1 = .ok (.iconst (-1), 1) := by decide +kernel
theorem dX0_goesAhead_2 : decode cX0_goesAhead 2 = .ok (.if_icmp .eq 18, 3) := by decide +kernel
theorem dX0_goesAhead_5 : decode cX0_goesAhead 5 = .ok (.aload_n 0, 1) := by decide +kernel
theorem dX0_goesAhead_6 : decode cX0_goesAhead 6 = .ok (.getfield 15, 3) := by decide +kernel
theorem dX0_goesAhead_9 : decode cX0_goesAhead 9 = .ok (.iload_n 1, 1) := by decide +kernel
theorem dX0_goesAhead_10 : decode cX0_goesAhead 10 = .ok (.iaload, 1) := by decide +kernel
theorem dX0_goesAhead_11 : decode cX0_goesAhead 11 = .ok (.aload_n 0, 1) := by decide +kernel
theorem dX0_goesAhead_12 : decode cX0_goesAhead 12 = .ok (.getfield 15, 3) := by decide +kernel
theorem dX0_goesAhead_15 : decode cX0_goesAhead 15 = .ok (.iload_n 2, 1) := by decide +kernel
theorem dX0_goesAhead_16 : decode cX0_goesAhead 16 = .ok (.iaload, 1) := by decide +kernel
theorem dX0_goesAhead_17 : decode cX0_goesAhead 17 = .ok (.if_icmp .le 5, 3) := by decide +kernel
theorem dX0_goesAhead_20 : decode cX0_goesAhead 20 = .ok (.iconst 1, 1) := by decide +kernel
theorem dX0_goesAhead_21 : decode cX0_goesAhead 21 = .ok (.ireturn, 1) := by decide +kernel
theorem dX0_goesAhead_22 : decode cX0_goesAhead 22 = .ok (.aload_n 0, 1) := by decide +kernel
theorem dX0_goesAhead_23 : decode cX0_goesAhead 23 = .ok (.getfield 15, 3) := by decide +kernel
theorem dX0_goesAhead_26 : decode cX0_goesAhead 26 = .ok (.iload_n 1, 1) := by decide +kernel
theorem dX0_goesAhead_27 : decode cX0_goesAhead 27 = .ok (.iaload, 1) := by decide +kernel
theorem dX0_goesAhead_28 : decode cX0_goesAhead 28 = .ok (.aload_n 0, 1) := by decide +kernel
theorem dX0_goesAhead_29 : decode cX0_goesAhead 29 = .ok (.getfield 15, 3) := by decide +kernel
theorem dX0_goesAhead_32 : decode cX0_goesAhead 32 = .ok (.iload_n 2, 1) := by decide +kernel
theorem dX0_goesAhead_33 : decode cX0_goesAhead 33 = .ok (.iaload, 1) := by decide +kernel
theorem dX0_goesAhead_34 : decode cX0_goesAhead 34 = .ok (.if_icmp .ne 22, 3) := by decide +kernel
theorem dX0_goesAhead_37 : decode cX0_goesAhead 37 = .ok (.aload_n 0, 1) := by decide +kernel
theorem dX0_goesAhead_38 : decode cX0_goesAhead 38 = .ok (.getfield 9, 3) := by decide +kernel
theorem dX0_goesAhead_41 : decode cX0_goesAhead 41 = .ok (.iload_n 1, 1) := by decide +kernel
theorem dX0_goesAhead_42 : decode cX0_goesAhead 42 = .ok (.iaload, 1) := by decide +kernel
theorem dX0_goesAhead_43 : decode cX0_goesAhead 43 = .ok (.aload_n 0, 1) := by decide +kernel
theorem dX0_goesAhead_44 : decode cX0_goesAhead 44 = .ok (.getfield 9, 3) := by decide +kernel
theorem dX0_goesAhead_47 : decode cX0_goesAhead 47 = .ok (.iload_n 2, 1) := by decide +kernel
theorem dX0_goesAhead_48 : decode cX0_goesAhead 48 = .ok (.iaload, 1) := by decide +kernel
theorem dX0_goesAhead_49 : decode cX0_goesAhead 49 = .ok (.if_icmp .ge 7, 3) := by decide +kernel
theorem dX0_goesAhead_52 : decode cX0_goesAhead 52 = .ok (.iconst 1, 1) := by decide +kernel
theorem dX0_goesAhead_53 : decode cX0_goesAhead 53 = .ok (.goto 4, 3) := by decide +kernel
theorem dX0_goesAhead_56 : decode cX0_goesAhead 56 = .ok (.iconst 0, 1) := by decide +kernel
theorem dX0_goesAhead_57 : decode cX0_goesAhead 57 = .ok (.ireturn, 1) := by decide +kernel
theorem dX1_letterAt_0 : decode cX1_letterAt 0 = .ok (.iload_n 0, 1) := by decide +kernel
theorem dX1_letterAt_1 : decode cX1_letterAt 1 = .ok (.istore_n 2, 1) := by decide +kernel
theorem dX1_letterAt_2 : decode cX1_letterAt 2 = .ok (.iconst 4, 1) := by decide +kernel
theorem dX1_letterAt_3 : decode cX1_letterAt 3 = .ok (.istore_n 3, 1) := by decide +kernel
theorem dX1_letterAt_4 : decode cX1_letterAt 4 = .ok (.iload_n 3, 1) := by decide +kernel
theorem dX1_letterAt_5 : decode cX1_letterAt 5 = .ok (.iload_n 1, 1) := by decide +kernel
theorem dX1_letterAt_6 : decode cX1_letterAt 6 = .ok (.if_icmp .le 14, 3) := by decide +kernel
theorem dX1_letterAt_9 : decode cX1_letterAt 9 = .ok (.iload_n 2, 1) := by decide +kernel
theorem dX1_letterAt_10 : decode cX1_letterAt 10 = .ok (.bipush 26, 2) := by decide +kernel
theorem dX1_letterAt_12 : decode cX1_letterAt 12 = .ok (.idiv, 1) := by decide +kernel
theorem dX1_letterAt_13 : decode cX1_letterAt 13 = .ok (.istore_n 2, 1) := by decide +kernel
theorem dX1_letterAt_14 : decode cX1_letterAt 14 = .ok (.iinc 3 (-1), 3) := by decide +kernel
theorem dX1_letterAt_17 : decode cX1_letterAt 17 = .ok (.goto (-13), 3) := by decide +kernel
theorem dX1_letterAt_20 : decode cX1_letterAt 20 = .ok (.iload_n 2, 1) := by decide +kernel
theorem dX1_letterAt_21 : decode cX1_letterAt 21 = .ok (.bipush 26, 2) := by decide +kernel
theorem dX1_letterAt_23 : decode cX1_letterAt 23 = .ok (.irem, 1) := by decide +kernel
theorem dX1_letterAt_24 : decode cX1_letterAt 24 = .ok (.ireturn, 1) := by decide +kernel
theorem dX1_withLetter_0 : decode cX1_withLetter 0 = .ok (.iconst 1, 1) := by decide +kernel
theorem dX1_withLetter_1 : decode cX1_withLetter 1 = .ok (.istore_n 3, 1) := by decide +kernel
theorem dX1_withLetter_2 : decode cX1_withLetter 2 = .ok (.iconst 4, 1) := by decide +kernel
theorem dX1_withLetter_3 : decode cX1_withLetter 3 = .ok (.istore 4, 2) := by decide +kernel
theorem dX1_withLetter_5 : decode cX1_withLetter 5 = .ok (.iload 4, 2) := by decide +kernel
theorem dX1_withLetter_7 : decode cX1_withLetter 7 = .ok (.iload_n 1, 1) := by decide +kernel
theorem dX1_withLetter_8 : decode cX1_withLetter 8 = .ok (.if_icmp .le 14, 3) := by decide +kernel
theorem dX1_withLetter_11 : decode cX1_withLetter 11 = .ok (.iload_n 3, 1) := by decide +kernel
theorem dX1_withLetter_12 : decode cX1_withLetter 12 = .ok (.bipush 26, 2) := by decide +kernel
theorem dX1_withLetter_14 : decode cX1_withLetter 14 = .ok (.imul, 1) := by decide +kernel
theorem dX1_withLetter_15 : decode cX1_withLetter 15 = .ok (.istore_n 3, 1) := by decide +kernel
theorem dX1_withLetter_16 : decode cX1_withLetter 16 = .ok (.iinc 4 (-1), 3) := by decide +kernel
theorem dX1_withLetter_19 : decode cX1_withLetter 19 = .ok (.goto (-14), 3) := by decide +kernel
theorem dX1_withLetter_22 : decode cX1_withLetter 22 = .ok (.iload_n 0, 1) := by decide +kernel
theorem dX1_withLetter_23 : decode cX1_withLetter 23 = .ok (.iload_n 2, 1) := by decide +kernel
theorem dX1_withLetter_24 : decode cX1_withLetter 24 = .ok (.iload_n 0, 1) := by decide +kernel
theorem dX1_withLetter_25 : decode cX1_withLetter 25 = .ok (.iload_n 1, 1) := by decide +kernel
theorem dX1_withLetter_26 : decode cX1_withLetter 26 = .ok (.invokestatic 9, 3) := by decide +kernel
theorem dX1_withLetter_29 : decode cX1_withLetter 29 = .ok (.isub, 1) := by decide +kernel
theorem dX1_withLetter_30 : decode cX1_withLetter 30 = .ok (.iload_n 3, 1) := by decide +kernel
theorem dX1_withLetter_31 : decode cX1_withLetter 31 = .ok (.imul, 1) := by decide +kernel
theorem dX1_withLetter_32 : decode cX1_withLetter 32 = .ok (.iadd, 1) := by decide +kernel
theorem dX1_withLetter_33 : decode cX1_withLetter 33 = .ok (.ireturn, 1) := by decide +kernel
theorem dX1_likeness_0 : decode cX1_likeness 0 = .ok (.iload_n 0, 1) := by decide +kernel
theorem dX1_likeness_1 : decode cX1_likeness 1 = .ok (.iload_n 1, 1) := by decide +kernel
theorem dX1_likeness_2 : decode cX1_likeness 2 = .ok (.if_icmp .ne 5, 3) := by decide +kernel
theorem dX1_likeness_5 : decode cX1_likeness 5 = .ok (.iconst 2, 1) := by decide +kernel
theorem dX1_likeness_6 : decode cX1_likeness 6 = .ok (.ireturn, 1) := by decide +kernel
theorem dX1_likeness_7 : decode cX1_likeness 7 = .ok (.iload_n 0, 1) := by decide +kernel
theorem dX1_likeness_8 : decode cX1_likeness 8 = .ok (.istore_n 2, 1) := by decide +kernel
theorem dX1_likeness_9 : decode cX1_likeness 9 = .ok (.iload_n 1, 1) := by decide +kernel
theorem dX1_likeness_10 : decode cX1_likeness 10 = .ok (.istore_n 3, 1) := by decide +kernel
theorem dX1_likeness_11 : decode cX1_likeness 11 = .ok (.iconst 4, 1) := by decide +kernel
theorem dX1_likeness_12 : decode cX1_likeness 12 = .ok (.istore 4, 2) := by decide +kernel
theorem dX1_likeness_14 : decode cX1_likeness 14 = .ok (.iload 4, 2) := by decide +kernel
theorem dX1_likeness_16 : decode cX1_likeness 16 = .ok (.ifCond .le 30, 3) := by decide +kernel
theorem dX1_likeness_19 : decode cX1_likeness 19 = .ok (.iload_n 2, 1) := by decide +kernel
theorem dX1_likeness_20 : decode cX1_likeness 20 = .ok (.bipush 26, 2) := by decide +kernel
theorem dX1_likeness_22 : decode cX1_likeness 22 = .ok (.irem, 1) := by decide +kernel
theorem dX1_likeness_23 : decode cX1_likeness 23 = .ok (.iload_n 3, 1) := by decide +kernel
theorem dX1_likeness_24 : decode cX1_likeness 24 = .ok (.bipush 26, 2) := by decide +kernel
theorem dX1_likeness_26 : decode cX1_likeness 26 = .ok (.irem, 1) := by decide +kernel
theorem dX1_likeness_27 : decode cX1_likeness 27 = .ok (.if_icmp .ne 19, 3) := by decide +kernel
theorem dX1_likeness_30 : decode cX1_likeness 30 = .ok (.iload_n 2, 1) := by decide +kernel
theorem dX1_likeness_31 : decode cX1_likeness 31 = .ok (.bipush 26, 2) := by decide +kernel
theorem dX1_likeness_33 : decode cX1_likeness 33 = .ok (.idiv, 1) := by decide +kernel
theorem dX1_likeness_34 : decode cX1_likeness 34 = .ok (.istore_n 2, 1) := by decide +kernel
theorem dX1_likeness_35 : decode cX1_likeness 35 = .ok (.iload_n 3, 1) := by decide +kernel
theorem dX1_likeness_36 : decode cX1_likeness 36 = .ok (.bipush 26, 2) := by decide +kernel
theorem dX1_likeness_38 : decode cX1_likeness 38 = .ok (.idiv, 1) := by decide +kernel
theorem dX1_likeness_39 : decode cX1_likeness 39 = .ok (.istore_n 3, 1) := by decide +kernel
theorem dX1_likeness_40 : decode cX1_likeness 40 = .ok (.iinc 4 (-1), 3) := by decide +kernel
theorem dX1_likeness_43 : decode cX1_likeness 43 = .ok (.goto (-29), 3) := by decide +kernel
theorem dX1_likeness_46 : decode cX1_likeness 46 = .ok (.iload_n 2, 1) := by decide +kernel
theorem dX1_likeness_47 : decode cX1_likeness 47 = .ok (.bipush 26, 2) := by decide +kernel
theorem dX1_likeness_49 : decode cX1_likeness 49 = .ok (.idiv, 1) := by decide +kernel
theorem dX1_likeness_50 : decode cX1_likeness 50 = .ok (.istore 4, 2) := by decide +kernel
theorem dX1_likeness_52 : decode cX1_likeness 52 = .ok (.iload_n 3, 1) := by decide +kernel
theorem dX1_likeness_53 : decode cX1_likeness 53 = .ok (.bipush 26, 2) := by decide +kernel
theorem dX1_likeness_55 : decode cX1_likeness 55 = .ok (.idiv, 1) := by decide +kernel
theorem dX1_likeness_56 : decode cX1_likeness 56 = .ok (.istore 5, 2) := by decide +kernel
theorem dX1_likeness_58 : decode cX1_likeness 58 = .ok (.iload 4, 2) := by decide +kernel
theorem dX1_likeness_60 : decode cX1_likeness 60 = .ok (.iload 5, 2) := by decide +kernel
theorem dX1_likeness_62 : decode cX1_likeness 62 = .ok (.if_icmp .ne 5, 3) := by decide +kernel
theorem dX1_likeness_65 : decode cX1_likeness 65 = .ok (.iconst 3, 1) := by decide +kernel
theorem dX1_likeness_66 : decode cX1_likeness 66 = .ok (.ireturn, 1) := by decide +kernel
theorem dX1_likeness_67 : decode cX1_likeness 67 = .ok (.iload_n 2, 1) := by decide +kernel
theorem dX1_likeness_68 : decode cX1_likeness 68 = .ok (.bipush 26, 2) := by decide +kernel
theorem dX1_likeness_70 : decode cX1_likeness 70 = .ok (.irem, 1) := by decide +kernel
theorem dX1_likeness_71 : decode cX1_likeness 71 = .ok (.iload 5, 2) := by decide +kernel
theorem dX1_likeness_73 : decode cX1_likeness 73 = .ok (.bipush 26, 2) := by decide +kernel
theorem dX1_likeness_75 : decode cX1_likeness 75 = .ok (.irem, 1) := by decide +kernel
theorem dX1_likeness_76 : decode cX1_likeness 76 = .ok (.if_icmp .ne 19, 3) := by decide +kernel
theorem dX1_likeness_79 : decode cX1_likeness 79 = .ok (.iload_n 3, 1) := by decide +kernel
theorem dX1_likeness_80 : decode cX1_likeness 80 = .ok (.bipush 26, 2) := by decide +kernel
theorem dX1_likeness_82 : decode cX1_likeness 82 = .ok (.irem, 1) := by decide +kernel
theorem dX1_likeness_83 : decode cX1_likeness 83 = .ok (.iload 4, 2) := by decide +kernel
theorem dX1_likeness_85 : decode cX1_likeness 85 = .ok (.bipush 26, 2) := by decide +kernel
theorem dX1_likeness_87 : decode cX1_likeness 87 = .ok (.irem, 1) := by decide +kernel
theorem dX1_likeness_88 : decode cX1_likeness 88 = .ok (.if_icmp .ne 7, 3) := by decide +kernel
theorem dX1_likeness_91 : decode cX1_likeness 91 = .ok (.iconst 1, 1) := by decide +kernel
theorem dX1_likeness_92 : decode cX1_likeness 92 = .ok (.goto 4, 3) := by decide +kernel
theorem dX1_likeness_95 : decode cX1_likeness 95 = .ok (.iconst 0, 1) := by decide +kernel
theorem dX1_likeness_96 : decode cX1_likeness 96 = .ok (.istore 6, 2) := by decide +kernel
theorem dX1_likeness_98 : decode cX1_likeness 98 = .ok (.iload 6, 2) := by decide +kernel
theorem dX1_likeness_100 : decode cX1_likeness 100 = .ok (.ifCond .eq 20, 3) := by decide +kernel
theorem dX1_likeness_103 : decode cX1_likeness 103 = .ok (.iload 4, 2) := by decide +kernel
theorem dX1_likeness_105 : decode cX1_likeness 105 = .ok (.bipush 26, 2) := by decide +kernel
theorem dX1_likeness_107 : decode cX1_likeness 107 = .ok (.idiv, 1) := by decide +kernel
theorem dX1_likeness_108 : decode cX1_likeness 108 = .ok (.iload 5, 2) := by decide +kernel
theorem dX1_likeness_110 : decode cX1_likeness 110 = .ok (.bipush 26, 2) := by decide +kernel
theorem dX1_likeness_112 : decode cX1_likeness 112 = .ok (.idiv, 1) := by decide +kernel
theorem dX1_likeness_113 : decode cX1_likeness 113 = .ok (.if_icmp .ne 7, 3) := by decide +kernel
theorem dX1_likeness_116 : decode cX1_likeness 116 = .ok (.iconst 4, 1) := by decide +kernel
theorem dX1_likeness_117 : decode cX1_likeness 117 = .ok (.goto 4, 3) := by decide +kernel
theorem dX1_likeness_120 : decode cX1_likeness 120 = .ok (.iconst 0, 1) := by decide +kernel
theorem dX1_likeness_121 : decode cX1_likeness 121 = .ok (.ireturn, 1) := by decide +kernel
theorem dX1_units_0 : decode cX1_units 0 = .ok (.bipush 12, 2) := by decide +kernel
theorem dX1_units_2 : decode cX1_units 2 = .ok (.istore_n 1, 1) := by decide +kernel
theorem dX1_units_3 : decode cX1_units 3 = .ok (.iload_n 0, 1) := by decide +kernel
theorem dX1_units_4 : decode cX1_units 4 = .ok (.istore_n 2, 1) := by decide +kernel
theorem dX1_units_5 : decode cX1_units 5 = .ok (.iconst 0, 1) := by decide +kernel
theorem dX1_units_6 : decode cX1_units 6 = .ok (.istore_n 3, 1) := by decide +kernel
theorem dX1_units_7 : decode cX1_units 7 = .ok (.iload_n 3, 1) := by decide +kernel
theorem dX1_units_8 : decode cX1_units 8 = .ok (.iconst 5, 1) := by decide +kernel
theorem dX1_units_9 : decode cX1_units 9 = .ok (.if_icmp .ge 27, 3) := by decide +kernel
theorem dX1_units_12 : decode cX1_units 12 = .ok (.iload_n 1, 1) := by decide +kernel
theorem dX1_units_13 : decode cX1_units 13 = .ok (.getstatic 19, 3) := by decide +kernel
theorem dX1_units_16 : decode cX1_units 16 = .ok (.iload_n 2, 1) := by decide +kernel
theorem dX1_units_17 : decode cX1_units 17 = .ok (.bipush 26, 2) := by decide +kernel
theorem dX1_units_19 : decode cX1_units 19 = .ok (.invokestatic 23, 3) := by decide +kernel
theorem dX1_units_22 : decode cX1_units 22 = .ok (.iaload, 1) := by decide +kernel
theorem dX1_units_23 : decode cX1_units 23 = .ok (.iadd, 1) := by decide +kernel
theorem dX1_units_24 : decode cX1_units 24 = .ok (.istore_n 1, 1) := by decide +kernel
theorem dX1_units_25 : decode cX1_units 25 = .ok (.iload_n 2, 1) := by decide +kernel
theorem dX1_units_26 : decode cX1_units 26 = .ok (.bipush 26, 2) := by decide +kernel
theorem dX1_units_28 : decode cX1_units 28 = .ok (.idiv, 1) := by decide +kernel
theorem dX1_units_29 : decode cX1_units 29 = .ok (.istore_n 2, 1) := by decide +kernel
theorem dX1_units_30 : decode cX1_units 30 = .ok (.iinc 3 1, 3) := by decide +kernel
theorem dX1_units_33 : decode cX1_units 33 = .ok (.goto (-26), 3) := by decide +kernel
theorem dX1_units_36 : decode cX1_units 36 = .ok (.iload_n 1, 1) := by decide +kernel
theorem dX1_units_37 : decode cX1_units 37 = .ok (.ireturn, 1) := by decide +kernel
theorem dX2_init_0 : decode cX2_init 0 = .ok (.aload_n 0, 1) := by decide +kernel
theorem dX2_init_1 : decode cX2_init 1 = .ok (.invokespecial 3, 3) := by decide +kernel
theorem dX2_init_4 : decode cX2_init 4 = .ok (.aload_n 0, 1) := by decide +kernel
theorem dX2_init_5 : decode cX2_init 5 = .ok (.bipush 41, 2) := by decide +kernel
theorem dX2_init_7 : decode cX2_init 7 = .ok (.newarray .int, 2) := by decide +kernel
theorem dX2_init_9 : decode cX2_init 9 = .ok (.putfield 9, 3) := by decide +kernel
theorem dX2_init_12 : decode cX2_init 12 = .ok (.aload_n 0, 1) := by decide +kernel
theorem dX2_init_13 : decode cX2_init 13 = .ok (.bipush 40, 2) := by decide +kernel
theorem dX2_init_15 : decode cX2_init 15 = .ok (.newarray .int, 2) := by decide +kernel
theorem dX2_init_17 : decode cX2_init 17 = .ok (.putfield 15, 3) := by decide +kernel
theorem dX2_init_20 : decode cX2_init 20 = .ok (.return_, 1) := by decide +kernel
theorem dX2_divide_0 : decode cX2_divide 0 = .ok (.iload 5, 2) := by decide +kernel
theorem dX2_divide_2 : decode cX2_divide 2 = .ok (.ifCond .lt 10, 3) := by decide +kernel
theorem dX2_divide_5 : decode cX2_divide 5 = .ok (.iload 5, 2) := by decide +kernel
theorem dX2_divide_7 : decode cX2_divide 7 = .ok (.bipush 40, 2) := by decide +kernel
theorem dX2_divide_9 : decode cX2_divide 9 = .ok (.if_icmp .le 5, 3) := by decide +kernel
theorem dX2_divide_12 : decode cX2_divide 12 = .ok (.iconst 0, 1) := by decide +kernel
theorem dX2_divide_13 : decode cX2_divide 13 = .ok (.ireturn, 1) := by decide +kernel
theorem dX2_divide_14 : decode cX2_divide 14 = .ok (.aload_n 0, 1) := by decide +kernel
theorem dX2_divide_15 : decode cX2_divide 15 = .ok (.getfield 9, 3) := by decide +kernel
theorem dX2_divide_18 : decode cX2_divide 18 = .ok (.iload 5, 2) := by decide +kernel
theorem dX2_divide_20 : decode cX2_divide 20 = .ok (.iconst 0, 1) := by decide +kernel
theorem dX2_divide_21 : decode cX2_divide 21 = .ok (.iastore, 1) := by decide +kernel
theorem dX2_divide_22 : decode cX2_divide 22 = .ok (.iload 5, 2) := by decide +kernel
theorem dX2_divide_24 : decode cX2_divide 24 = .ok (.iconst 1, 1) := by decide +kernel
theorem dX2_divide_25 : decode cX2_divide 25 = .ok (.isub, 1) := by decide +kernel
theorem dX2_divide_26 : decode cX2_divide 26 = .ok (.istore 6, 2) := by decide +kernel
theorem dX2_divide_28 : decode cX2_divide 28 = .ok (.iload 6, 2) := by decide +kernel
theorem dX2_divide_30 : decode cX2_divide 30 = .ok (.ifCond .lt 96, 3) := by decide +kernel
theorem dX2_divide_33 : decode cX2_divide 33 = .ok (.aload_n 0, 1) := by decide +kernel
theorem dX2_divide_34 : decode cX2_divide 34 = .ok (.getfield 15, 3) := by decide +kernel
theorem dX2_divide_37 : decode cX2_divide 37 = .ok (.iload 6, 2) := by decide +kernel
theorem dX2_divide_39 : decode cX2_divide 39 = .ok (.aload_n 0, 1) := by decide +kernel
theorem dX2_divide_40 : decode cX2_divide 40 = .ok (.aload_n 1, 1) := by decide +kernel
theorem dX2_divide_41 : decode cX2_divide 41 = .ok (.iload_n 2, 1) := by decide +kernel
theorem dX2_divide_42 : decode cX2_divide 42 = .ok (.aload_n 0, 1) := by decide +kernel
theorem dX2_divide_43 : decode cX2_divide 43 = .ok (.getfield 9, 3) := by decide +kernel
theorem dX2_divide_46 : decode cX2_divide 46 = .ok (.iload 6, 2) := by decide +kernel
theorem dX2_divide_48 : decode cX2_divide 48 = .ok (.iconst 1, 1) := by decide +kernel
theorem dX2_divide_49 : decode cX2_divide 49 = .ok (.iadd, 1) := by decide +kernel
theorem dX2_divide_50 : decode cX2_divide 50 = .ok (.iaload, 1) := by decide +kernel
theorem dX2_divide_51 : decode cX2_divide 51 = .ok (.iadd, 1) := by decide +kernel
theorem dX2_divide_52 : decode cX2_divide 52 = .ok (.aload_n 3, 1) := by decide +kernel
theorem dX2_divide_53 : decode cX2_divide 53 = .ok (.iload 4, 2) := by decide +kernel
theorem dX2_divide_55 : decode cX2_divide 55 = .ok (.iload 6, 2) := by decide +kernel
theorem dX2_divide_57 : decode cX2_divide 57 = .ok (.iadd, 1) := by decide +kernel
theorem dX2_divide_58 : decode cX2_divide 58 = .ok (.iload 6, 2) := by decide +kernel
theorem dX2_divide_60 : decode cX2_divide 60 = .ok (.iload 5, 2) := by decide +kernel
theorem dX2_divide_62 : decode cX2_divide 62 = .ok (.invokevirtual 18, 3) := by decide +kernel
theorem dX2_divide_65 : decode cX2_divide 65 = .ok (.iastore, 1) := by decide +kernel
theorem dX2_divide_66 : decode cX2_divide 66 = .ok (.aload_n 0, 1) := by decide +kernel
theorem dX2_divide_67 : decode cX2_divide 67 = .ok (.getfield 9, 3) := by decide +kernel
theorem dX2_divide_70 : decode cX2_divide 70 = .ok (.iload 6, 2) := by decide +kernel
theorem dX2_divide_72 : decode cX2_divide 72 = .ok (.aload_n 0, 1) := by decide +kernel
theorem dX2_divide_73 : decode cX2_divide 73 = .ok (.getfield 15, 3) := by decide +kernel
theorem dX2_divide_76 : decode cX2_divide 76 = .ok (.iload 6, 2) := by decide +kernel
theorem dX2_divide_78 : decode cX2_divide 78 = .ok (.iaload, 1) := by decide +kernel
theorem dX2_divide_79 : decode cX2_divide 79 = .ok (.iconst (-1), 1) := by decide +kernel
theorem dX2_divide_80 : decode cX2_divide 80 = .ok (.if_icmp .ne 17, 3) := by decide +kernel
theorem dX2_divide_83 : decode cX2_divide 83 = .ok (.iload_n 2, 1) := by decide +kernel
theorem dX2_divide_84 : decode cX2_divide 84 = .ok (.aload_n 0, 1) := by decide +kernel
theorem dX2_divide_85 : decode cX2_divide 85 = .ok (.getfield 9, 3) := by decide +kernel
theorem dX2_divide_88 : decode cX2_divide 88 = .ok (.iload 6, 2) := by decide +kernel
theorem dX2_divide_90 : decode cX2_divide 90 = .ok (.iconst 1, 1) := by decide +kernel
theorem dX2_divide_91 : decode cX2_divide 91 = .ok (.iadd, 1) := by decide +kernel
theorem dX2_divide_92 : decode cX2_divide 92 = .ok (.iaload, 1) := by decide +kernel
theorem dX2_divide_93 : decode cX2_divide 93 = .ok (.iadd, 1) := by decide +kernel
theorem dX2_divide_94 : decode cX2_divide 94 = .ok (.goto 25, 3) := by decide +kernel
theorem dX2_divide_97 : decode cX2_divide 97 = .ok (.iconst 1, 1) := by decide +kernel
theorem dX2_divide_98 : decode cX2_divide 98 = .ok (.aload_n 0, 1) := by decide +kernel
theorem dX2_divide_99 : decode cX2_divide 99 = .ok (.getfield 9, 3) := by decide +kernel
theorem dX2_divide_102 : decode cX2_divide 102 = .ok (.iload 6, 2) := by decide +kernel
theorem dX2_divide_104 : decode cX2_divide 104 = .ok (.aload_n 1, 1) := by decide +kernel
theorem dX2_divide_105 : decode cX2_divide 105 = .ok (.getfield 22, 3) := by decide +kernel
theorem dX2_divide_108 : decode cX2_divide 108 = .ok (.aload_n 0, 1) := by decide +kernel
theorem dX2_divide_109 : decode cX2_divide 109 = .ok (.getfield 15, 3) := by decide +kernel
theorem dX2_divide_112 : decode cX2_divide 112 = .ok (.iload 6, 2) := by decide +kernel
theorem dX2_divide_114 : decode cX2_divide 114 = .ok (.iaload, 1) := by decide +kernel
theorem dX2_divide_115 : decode cX2_divide 115 = .ok (.iaload, 1) := by decide +kernel
theorem dX2_divide_116 : decode cX2_divide 116 = .ok (.iadd, 1) := by decide +kernel
theorem dX2_divide_117 : decode cX2_divide 117 = .ok (.iaload, 1) := by decide +kernel
theorem dX2_divide_118 : decode cX2_divide 118 = .ok (.iadd, 1) := by decide +kernel
theorem dX2_divide_119 : decode cX2_divide 119 = .ok (.iastore, 1) := by decide +kernel
theorem dX2_divide_120 : decode cX2_divide 120 = .ok (.iinc 6 (-1), 3) := by decide +kernel
theorem dX2_divide_123 : decode cX2_divide 123 = .ok (.goto (-95), 3) := by decide +kernel
theorem dX2_divide_126 : decode cX2_divide 126 = .ok (.aload_n 0, 1) := by decide +kernel
theorem dX2_divide_127 : decode cX2_divide 127 = .ok (.getfield 9, 3) := by decide +kernel
theorem dX2_divide_130 : decode cX2_divide 130 = .ok (.iconst 0, 1) := by decide +kernel
theorem dX2_divide_131 : decode cX2_divide 131 = .ok (.iaload, 1) := by decide +kernel
theorem dX2_divide_132 : decode cX2_divide 132 = .ok (.ireturn, 1) := by decide +kernel
theorem dX2_bestPiece_0 : decode cX2_bestPiece 0 = .ok (.iconst (-1), 1) := by decide +kernel
theorem dX2_bestPiece_1 : decode cX2_bestPiece 1 = .ok (.istore 7, 2) := by decide +kernel
theorem dX2_bestPiece_3 : decode cX2_bestPiece 3 = .ok (.iload_n 2, 1) := by decide +kernel
theorem dX2_bestPiece_4 : decode cX2_bestPiece 4 = .ok (.istore 8, 2) := by decide +kernel
theorem dX2_bestPiece_6 : decode cX2_bestPiece 6 = .ok (.iconst 0, 1) := by decide +kernel
theorem dX2_bestPiece_7 : decode cX2_bestPiece 7 = .ok (.istore 9, 2) := by decide +kernel
theorem dX2_bestPiece_9 : decode cX2_bestPiece 9 = .ok (.iload 9, 2) := by decide +kernel
theorem dX2_bestPiece_11 : decode cX2_bestPiece 11 = .ok (.aload_n 1, 1) := by decide +kernel
theorem dX2_bestPiece_12 : decode cX2_bestPiece 12 = .ok (.getfield 27, 3) := by decide +kernel
theorem dX2_bestPiece_15 : decode cX2_bestPiece 15 = .ok (.if_icmp .ge 98, 3) := by decide +kernel
theorem dX2_bestPiece_18 : decode cX2_bestPiece 18 = .ok (.iload 5, 2) := by decide +kernel
theorem dX2_bestPiece_20 : decode cX2_bestPiece 20 = .ok (.aload_n 1, 1) := by decide +kernel
theorem dX2_bestPiece_21 : decode cX2_bestPiece 21 = .ok (.getfield 22, 3) := by decide +kernel
theorem dX2_bestPiece_24 : decode cX2_bestPiece 24 = .ok (.iload 9, 2) := by decide +kernel
theorem dX2_bestPiece_26 : decode cX2_bestPiece 26 = .ok (.iaload, 1) := by decide +kernel
theorem dX2_bestPiece_27 : decode cX2_bestPiece 27 = .ok (.iadd, 1) := by decide +kernel
theorem dX2_bestPiece_28 : decode cX2_bestPiece 28 = .ok (.istore 10, 2) := by decide +kernel
theorem dX2_bestPiece_30 : decode cX2_bestPiece 30 = .ok (.iload 10, 2) := by decide +kernel
theorem dX2_bestPiece_32 : decode cX2_bestPiece 32 = .ok (.iload 6, 2) := by decide +kernel
theorem dX2_bestPiece_34 : decode cX2_bestPiece 34 = .ok (.if_icmp .gt 73, 3) := by decide +kernel
theorem dX2_bestPiece_37 : decode cX2_bestPiece 37 = .ok (.aload_n 1, 1) := by decide +kernel
theorem dX2_bestPiece_38 : decode cX2_bestPiece 38 = .ok (.getfield 31, 3) := by decide +kernel
theorem dX2_bestPiece_41 : decode cX2_bestPiece 41 = .ok (.iload 9, 2) := by decide +kernel
theorem dX2_bestPiece_43 : decode cX2_bestPiece 43 = .ok (.invokestatic 34, 3) := by decide +kernel
theorem dX2_bestPiece_46 : decode cX2_bestPiece 46 = .ok (.aload_n 3, 1) := by decide +kernel
theorem dX2_bestPiece_47 : decode cX2_bestPiece 47 = .ok (.iload 4, 2) := by decide +kernel
theorem dX2_bestPiece_49 : decode cX2_bestPiece 49 = .ok (.iload 10, 2) := by decide +kernel
theorem dX2_bestPiece_51 : decode cX2_bestPiece 51 = .ok (.iload 5, 2) := by decide +kernel
theorem dX2_bestPiece_53 : decode cX2_bestPiece 53 = .ok (.isub, 1) := by decide +kernel
theorem dX2_bestPiece_54 : decode cX2_bestPiece 54 = .ok (.invokestatic 38, 3) := by decide +kernel
theorem dX2_bestPiece_57 : decode cX2_bestPiece 57 = .ok (.ifCond .ne 6, 3) := by decide +kernel
theorem dX2_bestPiece_60 : decode cX2_bestPiece 60 = .ok (.goto 47, 3) := by decide +kernel
theorem dX2_bestPiece_63 : decode cX2_bestPiece 63 = .ok (.iconst 1, 1) := by decide +kernel
theorem dX2_bestPiece_64 : decode cX2_bestPiece 64 = .ok (.aload_n 0, 1) := by decide +kernel
theorem dX2_bestPiece_65 : decode cX2_bestPiece 65 = .ok (.getfield 9, 3) := by decide +kernel
theorem dX2_bestPiece_68 : decode cX2_bestPiece 68 = .ok (.iload 10, 2) := by decide +kernel
theorem dX2_bestPiece_70 : decode cX2_bestPiece 70 = .ok (.iaload, 1) := by decide +kernel
theorem dX2_bestPiece_71 : decode cX2_bestPiece 71 = .ok (.iadd, 1) := by decide +kernel
theorem dX2_bestPiece_72 : decode cX2_bestPiece 72 = .ok (.istore 11, 2) := by decide +kernel
theorem dX2_bestPiece_74 : decode cX2_bestPiece 74 = .ok (.iload 11, 2) := by decide +kernel
theorem dX2_bestPiece_76 : decode cX2_bestPiece 76 = .ok (.iload 8, 2) := by decide +kernel
theorem dX2_bestPiece_78 : decode cX2_bestPiece 78 = .ok (.if_icmp .lt 21, 3) := by decide +kernel
theorem dX2_bestPiece_81 : decode cX2_bestPiece 81 = .ok (.iload 11, 2) := by decide +kernel
theorem dX2_bestPiece_83 : decode cX2_bestPiece 83 = .ok (.iload 8, 2) := by decide +kernel
theorem dX2_bestPiece_85 : decode cX2_bestPiece 85 = .ok (.if_icmp .ne 22, 3) := by decide +kernel
theorem dX2_bestPiece_88 : decode cX2_bestPiece 88 = .ok (.aload_n 1, 1) := by decide +kernel
theorem dX2_bestPiece_89 : decode cX2_bestPiece 89 = .ok (.iload 9, 2) := by decide +kernel
theorem dX2_bestPiece_91 : decode cX2_bestPiece 91 = .ok (.iload 7, 2) := by decide +kernel
theorem dX2_bestPiece_93 : decode cX2_bestPiece 93 = .ok (.invokevirtual 42, 3) := by decide +kernel
theorem dX2_bestPiece_96 : decode cX2_bestPiece 96 = .ok (.ifCond .eq 11, 3) := by decide +kernel
theorem dX2_bestPiece_99 : decode cX2_bestPiece 99 = .ok (.iload 9, 2) := by decide +kernel
theorem dX2_bestPiece_101 : decode cX2_bestPiece 101 = .ok (.istore 7, 2) := by decide +kernel
theorem dX2_bestPiece_103 : decode cX2_bestPiece 103 = .ok (.iload 11, 2) := by decide +kernel
theorem dX2_bestPiece_105 : decode cX2_bestPiece 105 = .ok (.istore 8, 2) := by decide +kernel
theorem dX2_bestPiece_107 : decode cX2_bestPiece 107 = .ok (.iinc 9 1, 3) := by decide +kernel
theorem dX2_bestPiece_110 : decode cX2_bestPiece 110 = .ok (.goto (-101), 3) := by decide +kernel
theorem dX2_bestPiece_113 : decode cX2_bestPiece 113 = .ok (.iload 7, 2) := by decide +kernel
theorem dX2_bestPiece_115 : decode cX2_bestPiece 115 = .ok (.ireturn, 1) := by decide +kernel
theorem dX3_init_0 : decode cX3_init 0 = .ok (.aload_n 0, 1) := by decide +kernel
theorem dX3_init_1 : decode cX3_init 1 = .ok (.invokespecial 5, 3) := by decide +kernel
theorem dX3_init_4 : decode cX3_init 4 = .ok (.aload_n 0, 1) := by decide +kernel
theorem dX3_init_5 : decode cX3_init 5 = .ok (.sipush 492, 3) := by decide +kernel
theorem dX3_init_8 : decode cX3_init 8 = .ok (.newarray .int, 2) := by decide +kernel
theorem dX3_init_10 : decode cX3_init 10 = .ok (.putfield 11, 3) := by decide +kernel
theorem dX3_init_13 : decode cX3_init 13 = .ok (.aload_n 0, 1) := by decide +kernel
theorem dX3_init_14 : decode cX3_init 14 = .ok (.bipush 12, 2) := by decide +kernel
theorem dX3_init_16 : decode cX3_init 16 = .ok (.newarray .int, 2) := by decide +kernel
theorem dX3_init_18 : decode cX3_init 18 = .ok (.putfield 15, 3) := by decide +kernel
theorem dX3_init_21 : decode cX3_init 21 = .ok (.aload_n 0, 1) := by decide +kernel
theorem dX3_init_22 : decode cX3_init 22 = .ok (.iconst 5, 1) := by decide +kernel
theorem dX3_init_23 : decode cX3_init 23 = .ok (.sipush 492, 3) := by decide +kernel
theorem dX3_init_26 : decode cX3_init 26 = .ok (.multianewarray 18 2, 4) := by decide +kernel
theorem dX3_init_30 : decode cX3_init 30 = .ok (.putfield 20, 3) := by decide +kernel
theorem dX3_init_33 : decode cX3_init 33 = .ok (.aload_n 0, 1) := by decide +kernel
theorem dX3_init_34 : decode cX3_init 34 = .ok (.sipush 492, 3) := by decide +kernel
theorem dX3_init_37 : decode cX3_init 37 = .ok (.newarray .int, 2) := by decide +kernel
theorem dX3_init_39 : decode cX3_init 39 = .ok (.putfield 23, 3) := by decide +kernel
theorem dX3_init_42 : decode cX3_init 42 = .ok (.aload_n 0, 1) := by decide +kernel
theorem dX3_init_43 : decode cX3_init 43 = .ok (.getfield 11, 3) := by decide +kernel
theorem dX3_init_46 : decode cX3_init 46 = .ok (.iconst (-1), 1) := by decide +kernel
theorem dX3_init_47 : decode cX3_init 47 = .ok (.invokestatic 26, 3) := by decide +kernel
theorem dX3_init_50 : decode cX3_init 50 = .ok (.return_, 1) := by decide +kernel
theorem dX3_startOf_0 : decode cX3_startOf 0 = .ok (.iload_n 1, 1) := by decide +kernel
theorem dX3_startOf_1 : decode cX3_startOf 1 = .ok (.bipush 41, 2) := by decide +kernel
theorem dX3_startOf_3 : decode cX3_startOf 3 = .ok (.imul, 1) := by decide +kernel
theorem dX3_startOf_4 : decode cX3_startOf 4 = .ok (.ireturn, 1) := by decide +kernel
theorem dX3_add_0 : decode cX3_add 0 = .ok (.aload_n 0, 1) := by decide +kernel
theorem dX3_add_1 : decode cX3_add 1 = .ok (.getfield 32, 3) := by decide +kernel
theorem dX3_add_4 : decode cX3_add 4 = .ok (.bipush 12, 2) := by decide +kernel
theorem dX3_add_6 : decode cX3_add 6 = .ok (.if_icmp .lt 4, 3) := by decide +kernel
theorem dX3_add_9 : decode cX3_add 9 = .ok (.return_, 1) := by decide +kernel
theorem dX3_add_10 : decode cX3_add 10 = .ok (.aload_n 0, 1) := by decide +kernel
theorem dX3_add_11 : decode cX3_add 11 = .ok (.aload_n 0, 1) := by decide +kernel
theorem dX3_add_12 : decode cX3_add 12 = .ok (.getfield 32, 3) := by decide +kernel
theorem dX3_add_15 : decode cX3_add 15 = .ok (.invokevirtual 36, 3) := by decide +kernel
theorem dX3_add_18 : decode cX3_add 18 = .ok (.istore_n 2, 1) := by decide +kernel
theorem dX3_add_19 : decode cX3_add 19 = .ok (.aload_n 1, 1) := by decide +kernel
theorem dX3_add_20 : decode cX3_add 20 = .ok (.getfield 40, 3) := by decide +kernel
theorem dX3_add_23 : decode cX3_add 23 = .ok (.iconst 0, 1) := by decide +kernel
theorem dX3_add_24 : decode cX3_add 24 = .ok (.aload_n 0, 1) := by decide +kernel
theorem dX3_add_25 : decode cX3_add 25 = .ok (.getfield 11, 3) := by decide +kernel
theorem dX3_add_28 : decode cX3_add 28 = .ok (.iload_n 2, 1) := by decide +kernel
theorem dX3_add_29 : decode cX3_add 29 = .ok (.aload_n 1, 1) := by decide +kernel
theorem dX3_add_30 : decode cX3_add 30 = .ok (.getfield 43, 3) := by decide +kernel
theorem dX3_add_33 : decode cX3_add 33 = .ok (.invokestatic 44, 3) := by decide +kernel
theorem dX3_add_36 : decode cX3_add 36 = .ok (.aload_n 0, 1) := by decide +kernel
theorem dX3_add_37 : decode cX3_add 37 = .ok (.getfield 15, 3) := by decide +kernel
theorem dX3_add_40 : decode cX3_add 40 = .ok (.aload_n 0, 1) := by decide +kernel
theorem dX3_add_41 : decode cX3_add 41 = .ok (.getfield 32, 3) := by decide +kernel
theorem dX3_add_44 : decode cX3_add 44 = .ok (.aload_n 1, 1) := by decide +kernel
theorem dX3_add_45 : decode cX3_add 45 = .ok (.getfield 43, 3) := by decide +kernel
theorem dX3_add_48 : decode cX3_add 48 = .ok (.iastore, 1) := by decide +kernel
theorem dX3_add_49 : decode cX3_add 49 = .ok (.aload_n 0, 1) := by decide +kernel
theorem dX3_add_50 : decode cX3_add 50 = .ok (.dup, 1) := by decide +kernel
theorem dX3_add_51 : decode cX3_add 51 = .ok (.getfield 32, 3) := by decide +kernel
theorem dX3_add_54 : decode cX3_add 54 = .ok (.iconst 1, 1) := by decide +kernel
theorem dX3_add_55 : decode cX3_add 55 = .ok (.iadd, 1) := by decide +kernel
theorem dX3_add_56 : decode cX3_add 56 = .ok (.putfield 32, 3) := by decide +kernel
theorem dX3_add_59 : decode cX3_add 59 = .ok (.iconst 2, 1) := by decide +kernel
theorem dX3_add_60 : decode cX3_add 60 = .ok (.istore_n 3, 1) := by decide +kernel
theorem dX3_add_61 : decode cX3_add 61 = .ok (.iload_n 3, 1) := by decide +kernel
theorem dX3_add_62 : decode cX3_add 62 = .ok (.bipush 6, 2) := by decide +kernel
theorem dX3_add_64 : decode cX3_add 64 = .ok (.if_icmp .gt 21, 3) := by decide +kernel
theorem dX3_add_67 : decode cX3_add 67 = .ok (.aload_n 0, 1) := by decide +kernel
theorem dX3_add_68 : decode cX3_add 68 = .ok (.iload_n 3, 1) := by decide +kernel
theorem dX3_add_69 : decode cX3_add 69 = .ok (.iload_n 2, 1) := by decide +kernel
theorem dX3_add_70 : decode cX3_add 70 = .ok (.iload_n 2, 1) := by decide +kernel
theorem dX3_add_71 : decode cX3_add 71 = .ok (.aload_n 1, 1) := by decide +kernel
theorem dX3_add_72 : decode cX3_add 72 = .ok (.getfield 43, 3) := by decide +kernel
theorem dX3_add_75 : decode cX3_add 75 = .ok (.iadd, 1) := by decide +kernel
theorem dX3_add_76 : decode cX3_add 76 = .ok (.invokevirtual 50, 3) := by decide +kernel
theorem dX3_add_79 : decode cX3_add 79 = .ok (.iinc 3 1, 3) := by decide +kernel
theorem dX3_add_82 : decode cX3_add 82 = .ok (.goto (-21), 3) := by decide +kernel
theorem dX3_add_85 : decode cX3_add 85 = .ok (.return_, 1) := by decide +kernel
theorem dX3_countPhrases_0 : decode cX3_countPhrases 0 = .ok (.aload_n 0, 1) := by decide +kernel
theorem dX3_countPhrases_1 : decode cX3_countPhrases 1 = .ok (.getfield 20, 3) := by decide +kernel
theorem dX3_countPhrases_4 : decode cX3_countPhrases 4 = .ok (.iload_n 1, 1) := by decide +kernel
theorem dX3_countPhrases_5 : decode cX3_countPhrases 5 = .ok (.iconst 2, 1) := by decide +kernel
theorem dX3_countPhrases_6 : decode cX3_countPhrases 6 = .ok (.isub, 1) := by decide +kernel
theorem dX3_countPhrases_7 : decode cX3_countPhrases 7 = .ok (.aaload, 1) := by decide +kernel
theorem dX3_countPhrases_8 : decode cX3_countPhrases 8 = .ok (.astore 4, 2) := by decide +kernel
theorem dX3_countPhrases_10 : decode cX3_countPhrases 10 = .ok (.aload_n 0, 1) := by decide +kernel
theorem dX3_countPhrases_11 : decode cX3_countPhrases 11 = .ok (.getfield 23, 3) := by decide +kernel
theorem dX3_countPhrases_14 : decode cX3_countPhrases 14 = .ok (.iconst 0, 1) := by decide +kernel
theorem dX3_countPhrases_15 : decode cX3_countPhrases 15 = .ok (.invokestatic 26, 3) := by decide +kernel
theorem dX3_countPhrases_18 : decode cX3_countPhrases 18 = .ok (.iload_n 2, 1) := by decide +kernel
theorem dX3_countPhrases_19 : decode cX3_countPhrases 19 = .ok (.istore 5, 2) := by decide +kernel
theorem dX3_countPhrases_21 : decode cX3_countPhrases 21 = .ok (.iload 5, 2) := by decide +kernel
theorem dX3_countPhrases_23 : decode cX3_countPhrases 23 = .ok (.iload_n 1, 1) := by decide +kernel
theorem dX3_countPhrases_24 : decode cX3_countPhrases 24 = .ok (.iadd, 1) := by decide +kernel
theorem dX3_countPhrases_25 : decode cX3_countPhrases 25 = .ok (.iload_n 3, 1) := by decide +kernel
theorem dX3_countPhrases_26 : decode cX3_countPhrases 26 = .ok (.if_icmp .gt 50, 3) := by decide +kernel
theorem dX3_countPhrases_29 : decode cX3_countPhrases 29 = .ok (.aload_n 0, 1) := by decide +kernel
theorem dX3_countPhrases_30 : decode cX3_countPhrases 30 = .ok (.iload 5, 2) := by decide +kernel
theorem dX3_countPhrases_32 : decode cX3_countPhrases 32 = .ok (.iload_n 1, 1) := by decide +kernel
theorem dX3_countPhrases_33 : decode cX3_countPhrases 33 = .ok (.invokevirtual 54, 3) := by decide +kernel
theorem dX3_countPhrases_36 : decode cX3_countPhrases 36 = .ok (.istore 6, 2) := by decide +kernel
theorem dX3_countPhrases_38 : decode cX3_countPhrases 38 = .ok (.iload 5, 2) := by decide +kernel
theorem dX3_countPhrases_40 : decode cX3_countPhrases 40 = .ok (.aload_n 0, 1) := by decide +kernel
theorem dX3_countPhrases_41 : decode cX3_countPhrases 41 = .ok (.getfield 23, 3) := by decide +kernel
theorem dX3_countPhrases_44 : decode cX3_countPhrases 44 = .ok (.iload 6, 2) := by decide +kernel
theorem dX3_countPhrases_46 : decode cX3_countPhrases 46 = .ok (.iaload, 1) := by decide +kernel
theorem dX3_countPhrases_47 : decode cX3_countPhrases 47 = .ok (.if_icmp .lt 23, 3) := by decide +kernel
theorem dX3_countPhrases_50 : decode cX3_countPhrases 50 = .ok (.aload 4, 2) := by decide +kernel
theorem dX3_countPhrases_52 : decode cX3_countPhrases 52 = .ok (.iload 6, 2) := by decide +kernel
theorem dX3_countPhrases_54 : decode cX3_countPhrases 54 = .ok (.dup2, 1) := by decide +kernel
theorem dX3_countPhrases_55 : decode cX3_countPhrases 55 = .ok (.iaload, 1) := by decide +kernel
theorem dX3_countPhrases_56 : decode cX3_countPhrases 56 = .ok (.iconst 1, 1) := by decide +kernel
theorem dX3_countPhrases_57 : decode cX3_countPhrases 57 = .ok (.iadd, 1) := by decide +kernel
theorem dX3_countPhrases_58 : decode cX3_countPhrases 58 = .ok (.iastore, 1) := by decide +kernel
theorem dX3_countPhrases_59 : decode cX3_countPhrases 59 = .ok (.aload_n 0, 1) := by decide +kernel
theorem dX3_countPhrases_60 : decode cX3_countPhrases 60 = .ok (.getfield 23, 3) := by decide +kernel
theorem dX3_countPhrases_63 : decode cX3_countPhrases 63 = .ok (.iload 6, 2) := by decide +kernel
theorem dX3_countPhrases_65 : decode cX3_countPhrases 65 = .ok (.iload 5, 2) := by decide +kernel
theorem dX3_countPhrases_67 : decode cX3_countPhrases 67 = .ok (.iload_n 1, 1) := by decide +kernel
theorem dX3_countPhrases_68 : decode cX3_countPhrases 68 = .ok (.iadd, 1) := by decide +kernel
theorem dX3_countPhrases_69 : decode cX3_countPhrases 69 = .ok (.iastore, 1) := by decide +kernel
theorem dX3_countPhrases_70 : decode cX3_countPhrases 70 = .ok (.iinc 5 1, 3) := by decide +kernel
theorem dX3_countPhrases_73 : decode cX3_countPhrases 73 = .ok (.goto (-52), 3) := by decide +kernel
theorem dX3_countPhrases_76 : decode cX3_countPhrases 76 = .ok (.return_, 1) := by decide +kernel
theorem dX3_firstFinding_0 : decode cX3_firstFinding 0 = .ok (.iconst 0, 1) := by decide +kernel
theorem dX3_firstFinding_1 : decode cX3_firstFinding 1 = .ok (.istore_n 3, 1) := by decide +kernel
theorem dX3_firstFinding_2 : decode cX3_firstFinding 2 = .ok (.iload_n 3, 1) := by decide +kernel
theorem dX3_firstFinding_3 : decode cX3_firstFinding 3 = .ok (.iload_n 1, 1) := by decide +kernel
theorem dX3_firstFinding_4 : decode cX3_firstFinding 4 = .ok (.if_icmp .ge 28, 3) := by decide +kernel
theorem dX3_firstFinding_7 : decode cX3_firstFinding 7 = .ok (.aload_n 0, 1) := by decide +kernel
theorem dX3_firstFinding_8 : decode cX3_firstFinding 8 = .ok (.getfield 11, 3) := by decide +kernel
theorem dX3_firstFinding_11 : decode cX3_firstFinding 11 = .ok (.iload_n 3, 1) := by decide +kernel
theorem dX3_firstFinding_12 : decode cX3_firstFinding 12 = .ok (.aload_n 0, 1) := by decide +kernel
theorem dX3_firstFinding_13 : decode cX3_firstFinding 13 = .ok (.getfield 11, 3) := by decide +kernel
theorem dX3_firstFinding_16 : decode cX3_firstFinding 16 = .ok (.iload_n 1, 1) := by decide +kernel
theorem dX3_firstFinding_17 : decode cX3_firstFinding 17 = .ok (.iload_n 2, 1) := by decide +kernel
theorem dX3_firstFinding_18 : decode cX3_firstFinding 18 = .ok (.invokestatic 58, 3) := by decide +kernel
theorem dX3_firstFinding_21 : decode cX3_firstFinding 21 = .ok (.ifCond .eq 5, 3) := by decide +kernel
theorem dX3_firstFinding_24 : decode cX3_firstFinding 24 = .ok (.iload_n 3, 1) := by decide +kernel
theorem dX3_firstFinding_25 : decode cX3_firstFinding 25 = .ok (.ireturn, 1) := by decide +kernel
theorem dX3_firstFinding_26 : decode cX3_firstFinding 26 = .ok (.iinc 3 1, 3) := by decide +kernel
theorem dX3_firstFinding_29 : decode cX3_firstFinding 29 = .ok (.goto (-27), 3) := by decide +kernel
theorem dX3_firstFinding_32 : decode cX3_firstFinding 32 = .ok (.iload_n 1, 1) := by decide +kernel
theorem dX3_firstFinding_33 : decode cX3_firstFinding 33 = .ok (.ireturn, 1) := by decide +kernel
theorem dX3_proposeOn_0 : decode cX3_proposeOn 0 = .ok (.iconst 0, 1) := by decide +kernel
theorem dX3_proposeOn_1 : decode cX3_proposeOn 1 = .ok (.istore 4, 2) := by decide +kernel
theorem dX3_proposeOn_3 : decode cX3_proposeOn 3 = .ok (.iconst 0, 1) := by decide +kernel
theorem dX3_proposeOn_4 : decode cX3_proposeOn 4 = .ok (.istore 5, 2) := by decide +kernel
theorem dX3_proposeOn_6 : decode cX3_proposeOn 6 = .ok (.iconst 0, 1) := by decide +kernel
theorem dX3_proposeOn_7 : decode cX3_proposeOn 7 = .ok (.istore 6, 2) := by decide +kernel
theorem dX3_proposeOn_9 : decode cX3_proposeOn 9 = .ok (.iconst 2, 1) := by decide +kernel
theorem dX3_proposeOn_10 : decode cX3_proposeOn 10 = .ok (.istore 7, 2) := by decide +kernel
theorem dX3_proposeOn_12 : decode cX3_proposeOn 12 = .ok (.iload 7, 2) := by decide +kernel
theorem dX3_proposeOn_14 : decode cX3_proposeOn 14 = .ok (.bipush 6, 2) := by decide +kernel
theorem dX3_proposeOn_16 : decode cX3_proposeOn 16 = .ok (.if_icmp .gt 99, 3) := by decide +kernel
theorem dX3_proposeOn_19 : decode cX3_proposeOn 19 = .ok (.aload_n 0, 1) := by decide +kernel
theorem dX3_proposeOn_20 : decode cX3_proposeOn 20 = .ok (.getfield 20, 3) := by decide +kernel
theorem dX3_proposeOn_23 : decode cX3_proposeOn 23 = .ok (.iload 7, 2) := by decide +kernel
theorem dX3_proposeOn_25 : decode cX3_proposeOn 25 = .ok (.iconst 2, 1) := by decide +kernel
theorem dX3_proposeOn_26 : decode cX3_proposeOn 26 = .ok (.isub, 1) := by decide +kernel
theorem dX3_proposeOn_27 : decode cX3_proposeOn 27 = .ok (.aaload, 1) := by decide +kernel
theorem dX3_proposeOn_28 : decode cX3_proposeOn 28 = .ok (.astore 8, 2) := by decide +kernel
theorem dX3_proposeOn_30 : decode cX3_proposeOn 30 = .ok (.iconst 0, 1) := by decide +kernel
theorem dX3_proposeOn_31 : decode cX3_proposeOn 31 = .ok (.istore 9, 2) := by decide +kernel
theorem dX3_proposeOn_33 : decode cX3_proposeOn 33 = .ok (.iload 9, 2) := by decide +kernel
theorem dX3_proposeOn_35 : decode cX3_proposeOn 35 = .ok (.aload_n 0, 1) := by decide +kernel
theorem dX3_proposeOn_36 : decode cX3_proposeOn 36 = .ok (.aload_n 0, 1) := by decide +kernel
theorem dX3_proposeOn_37 : decode cX3_proposeOn 37 = .ok (.getfield 32, 3) := by decide +kernel
theorem dX3_proposeOn_40 : decode cX3_proposeOn 40 = .ok (.invokevirtual 36, 3) := by decide +kernel
theorem dX3_proposeOn_43 : decode cX3_proposeOn 43 = .ok (.if_icmp .ge 66, 3) := by decide +kernel
theorem dX3_proposeOn_46 : decode cX3_proposeOn 46 = .ok (.aload 8, 2) := by decide +kernel
theorem dX3_proposeOn_48 : decode cX3_proposeOn 48 = .ok (.iload 9, 2) := by decide +kernel
theorem dX3_proposeOn_50 : decode cX3_proposeOn 50 = .ok (.iaload, 1) := by decide +kernel
theorem dX3_proposeOn_51 : decode cX3_proposeOn 51 = .ok (.iload 7, 2) := by decide +kernel
theorem dX3_proposeOn_53 : decode cX3_proposeOn 53 = .ok (.iload_n 3, 1) := by decide +kernel
theorem dX3_proposeOn_54 : decode cX3_proposeOn 54 = .ok (.imul, 1) := by decide +kernel
theorem dX3_proposeOn_55 : decode cX3_proposeOn 55 = .ok (.iconst 1, 1) := by decide +kernel
theorem dX3_proposeOn_56 : decode cX3_proposeOn 56 = .ok (.isub, 1) := by decide +kernel
theorem dX3_proposeOn_57 : decode cX3_proposeOn 57 = .ok (.imul, 1) := by decide +kernel
theorem dX3_proposeOn_58 : decode cX3_proposeOn 58 = .ok (.istore 10, 2) := by decide +kernel
theorem dX3_proposeOn_60 : decode cX3_proposeOn 60 = .ok (.aload 8, 2) := by decide +kernel
theorem dX3_proposeOn_62 : decode cX3_proposeOn 62 = .ok (.iload 9, 2) := by decide +kernel
theorem dX3_proposeOn_64 : decode cX3_proposeOn 64 = .ok (.iaload, 1) := by decide +kernel
theorem dX3_proposeOn_65 : decode cX3_proposeOn 65 = .ok (.iconst 2, 1) := by decide +kernel
theorem dX3_proposeOn_66 : decode cX3_proposeOn 66 = .ok (.if_icmp .lt 37, 3) := by decide +kernel
theorem dX3_proposeOn_69 : decode cX3_proposeOn 69 = .ok (.iload 10, 2) := by decide +kernel
theorem dX3_proposeOn_71 : decode cX3_proposeOn 71 = .ok (.iload 4, 2) := by decide +kernel
theorem dX3_proposeOn_73 : decode cX3_proposeOn 73 = .ok (.if_icmp .le 30, 3) := by decide +kernel
theorem dX3_proposeOn_76 : decode cX3_proposeOn 76 = .ok (.aload_n 2, 1) := by decide +kernel
theorem dX3_proposeOn_77 : decode cX3_proposeOn 77 = .ok (.aload_n 0, 1) := by decide +kernel
theorem dX3_proposeOn_78 : decode cX3_proposeOn 78 = .ok (.getfield 11, 3) := by decide +kernel
theorem dX3_proposeOn_81 : decode cX3_proposeOn 81 = .ok (.iload 9, 2) := by decide +kernel
theorem dX3_proposeOn_83 : decode cX3_proposeOn 83 = .ok (.iload 7, 2) := by decide +kernel
theorem dX3_proposeOn_85 : decode cX3_proposeOn 85 = .ok (.invokevirtual 62, 3) := by decide +kernel
theorem dX3_proposeOn_88 : decode cX3_proposeOn 88 = .ok (.ifCond .ne 15, 3) := by decide +kernel
theorem dX3_proposeOn_91 : decode cX3_proposeOn 91 = .ok (.iload 10, 2) := by decide +kernel
theorem dX3_proposeOn_93 : decode cX3_proposeOn 93 = .ok (.istore 4, 2) := by decide +kernel
theorem dX3_proposeOn_95 : decode cX3_proposeOn 95 = .ok (.iload 9, 2) := by decide +kernel
theorem dX3_proposeOn_97 : decode cX3_proposeOn 97 = .ok (.istore 5, 2) := by decide +kernel
theorem dX3_proposeOn_99 : decode cX3_proposeOn 99 = .ok (.iload 7, 2) := by decide +kernel
theorem dX3_proposeOn_101 : decode cX3_proposeOn 101 = .ok (.istore 6, 2) := by decide +kernel
theorem dX3_proposeOn_103 : decode cX3_proposeOn 103 = .ok (.iinc 9 1, 3) := by decide +kernel
theorem dX3_proposeOn_106 : decode cX3_proposeOn 106 = .ok (.goto (-73), 3) := by decide +kernel
theorem dX3_proposeOn_109 : decode cX3_proposeOn 109 = .ok (.iinc 7 1, 3) := by decide +kernel
theorem dX3_proposeOn_112 : decode cX3_proposeOn 112 = .ok (.goto (-100), 3) := by decide +kernel
theorem dX3_proposeOn_115 : decode cX3_proposeOn 115 = .ok (.iload 4, 2) := by decide +kernel
theorem dX3_proposeOn_117 : decode cX3_proposeOn 117 = .ok (.ifCond .le 19, 3) := by decide +kernel
theorem dX3_proposeOn_120 : decode cX3_proposeOn 120 = .ok (.aload_n 1, 1) := by decide +kernel
theorem dX3_proposeOn_121 : decode cX3_proposeOn 121 = .ok (.invokevirtual 68, 3) := by decide +kernel
theorem dX3_proposeOn_124 : decode cX3_proposeOn 124 = .ok (.aload_n 1, 1) := by decide +kernel
theorem dX3_proposeOn_125 : decode cX3_proposeOn 125 = .ok (.aload_n 0, 1) := by decide +kernel
theorem dX3_proposeOn_126 : decode cX3_proposeOn 126 = .ok (.getfield 11, 3) := by decide +kernel
theorem dX3_proposeOn_129 : decode cX3_proposeOn 129 = .ok (.iload 5, 2) := by decide +kernel
theorem dX3_proposeOn_131 : decode cX3_proposeOn 131 = .ok (.iload 6, 2) := by decide +kernel
theorem dX3_proposeOn_133 : decode cX3_proposeOn 133 = .ok (.invokevirtual 71, 3) := by decide +kernel
theorem dX3_proposeOn_136 : decode cX3_proposeOn 136 = .ok (.iload 4, 2) := by decide +kernel
theorem dX3_proposeOn_138 : decode cX3_proposeOn 138 = .ok (.ireturn, 1) := by decide +kernel
theorem dX4_init_0 : decode cX4_init 0 = .ok (.aload_n 0, 1) := by decide +kernel
theorem dX4_init_1 : decode cX4_init 1 = .ok (.invokespecial 3, 3) := by decide +kernel
theorem dX4_init_4 : decode cX4_init 4 = .ok (.aload_n 0, 1) := by decide +kernel
theorem dX4_init_5 : decode cX4_init 5 = .ok (.bipush 40, 2) := by decide +kernel
theorem dX4_init_7 : decode cX4_init 7 = .ok (.newarray .int, 2) := by decide +kernel
theorem dX4_init_9 : decode cX4_init 9 = .ok (.putfield 9, 3) := by decide +kernel
theorem dX4_init_12 : decode cX4_init 12 = .ok (.return_, 1) := by decide +kernel
theorem dX4_clear_0 : decode cX4_clear 0 = .ok (.aload_n 0, 1) := by decide +kernel
theorem dX4_clear_1 : decode cX4_clear 1 = .ok (.iconst 0, 1) := by decide +kernel
theorem dX4_clear_2 : decode cX4_clear 2 = .ok (.putfield 15, 3) := by decide +kernel
theorem dX4_clear_5 : decode cX4_clear 5 = .ok (.return_, 1) := by decide +kernel
theorem dX4_append_0 : decode cX4_append 0 = .ok (.aload_n 0, 1) := by decide +kernel
theorem dX4_append_1 : decode cX4_append 1 = .ok (.getfield 15, 3) := by decide +kernel
theorem dX4_append_4 : decode cX4_append 4 = .ok (.aload_n 0, 1) := by decide +kernel
theorem dX4_append_5 : decode cX4_append 5 = .ok (.getfield 9, 3) := by decide +kernel
theorem dX4_append_8 : decode cX4_append 8 = .ok (.arraylength, 1) := by decide +kernel
theorem dX4_append_9 : decode cX4_append 9 = .ok (.if_icmp .ge 23, 3) := by decide +kernel
theorem dX4_append_12 : decode cX4_append 12 = .ok (.aload_n 0, 1) := by decide +kernel
theorem dX4_append_13 : decode cX4_append 13 = .ok (.getfield 9, 3) := by decide +kernel
theorem dX4_append_16 : decode cX4_append 16 = .ok (.aload_n 0, 1) := by decide +kernel
theorem dX4_append_17 : decode cX4_append 17 = .ok (.getfield 15, 3) := by decide +kernel
theorem dX4_append_20 : decode cX4_append 20 = .ok (.iload_n 1, 1) := by decide +kernel
theorem dX4_append_21 : decode cX4_append 21 = .ok (.iastore, 1) := by decide +kernel
theorem dX4_append_22 : decode cX4_append 22 = .ok (.aload_n 0, 1) := by decide +kernel
theorem dX4_append_23 : decode cX4_append 23 = .ok (.dup, 1) := by decide +kernel
theorem dX4_append_24 : decode cX4_append 24 = .ok (.getfield 15, 3) := by decide +kernel
theorem dX4_append_27 : decode cX4_append 27 = .ok (.iconst 1, 1) := by decide +kernel
theorem dX4_append_28 : decode cX4_append 28 = .ok (.iadd, 1) := by decide +kernel
theorem dX4_append_29 : decode cX4_append 29 = .ok (.putfield 15, 3) := by decide +kernel
theorem dX4_append_32 : decode cX4_append 32 = .ok (.return_, 1) := by decide +kernel
theorem dX4_appendAll_0 : decode cX4_appendAll 0 = .ok (.iload_n 2, 1) := by decide +kernel
theorem dX4_appendAll_1 : decode cX4_appendAll 1 = .ok (.istore 4, 2) := by decide +kernel
theorem dX4_appendAll_3 : decode cX4_appendAll 3 = .ok (.iload 4, 2) := by decide +kernel
theorem dX4_appendAll_5 : decode cX4_appendAll 5 = .ok (.iload_n 2, 1) := by decide +kernel
theorem dX4_appendAll_6 : decode cX4_appendAll 6 = .ok (.iload_n 3, 1) := by decide +kernel
theorem dX4_appendAll_7 : decode cX4_appendAll 7 = .ok (.iadd, 1) := by decide +kernel
theorem dX4_appendAll_8 : decode cX4_appendAll 8 = .ok (.if_icmp .ge 24, 3) := by decide +kernel
theorem dX4_appendAll_11 : decode cX4_appendAll 11 = .ok (.iload 4, 2) := by decide +kernel
theorem dX4_appendAll_13 : decode cX4_appendAll 13 = .ok (.aload_n 1, 1) := by decide +kernel
theorem dX4_appendAll_14 : decode cX4_appendAll 14 = .ok (.arraylength, 1) := by decide +kernel
theorem dX4_appendAll_15 : decode cX4_appendAll 15 = .ok (.if_icmp .ge 17, 3) := by decide +kernel
theorem dX4_appendAll_18 : decode cX4_appendAll 18 = .ok (.aload_n 0, 1) := by decide +kernel
theorem dX4_appendAll_19 : decode cX4_appendAll 19 = .ok (.aload_n 1, 1) := by decide +kernel
theorem dX4_appendAll_20 : decode cX4_appendAll 20 = .ok (.iload 4, 2) := by decide +kernel
theorem dX4_appendAll_22 : decode cX4_appendAll 22 = .ok (.iaload, 1) := by decide +kernel
theorem dX4_appendAll_23 : decode cX4_appendAll 23 = .ok (.invokevirtual 19, 3) := by decide +kernel
theorem dX4_appendAll_26 : decode cX4_appendAll 26 = .ok (.iinc 4 1, 3) := by decide +kernel
theorem dX4_appendAll_29 : decode cX4_appendAll 29 = .ok (.goto (-26), 3) := by decide +kernel
theorem dX4_appendAll_32 : decode cX4_appendAll 32 = .ok (.return_, 1) := by decide +kernel
theorem dX5_init_0 : decode cX5_init 0 = .ok (.aload_n 0, 1) := by decide +kernel
theorem dX5_init_1 : decode cX5_init 1 = .ok (.invokespecial 3, 3) := by decide +kernel
theorem dX5_init_4 : decode cX5_init 4 = .ok (.aload_n 0, 1) := by decide +kernel
theorem dX5_init_5 : decode cX5_init 5 = .ok (.bipush 40, 2) := by decide +kernel
theorem dX5_init_7 : decode cX5_init 7 = .ok (.newarray .int, 2) := by decide +kernel
theorem dX5_init_9 : decode cX5_init 9 = .ok (.putfield 9, 3) := by decide +kernel
theorem dX5_init_12 : decode cX5_init 12 = .ok (.return_, 1) := by decide +kernel
theorem dX5_plain_0 : decode cX5_plain 0 = .ok (.iconst (-1), 1) := by decide +kernel
theorem dX5_plain_1 : decode cX5_plain 1 = .ok (.iload_n 0, 1) := by decide +kernel
theorem dX5_plain_2 : decode cX5_plain 2 = .ok (.isub, 1) := by decide +kernel
theorem dX5_plain_3 : decode cX5_plain 3 = .ok (.ireturn, 1) := by decide +kernel
theorem dX5_isPlain_0 : decode cX5_isPlain 0 = .ok (.iload_n 0, 1) := by decide +kernel
theorem dX5_isPlain_1 : decode cX5_isPlain 1 = .ok (.ifCond .ge 7, 3) := by decide +kernel
theorem dX5_isPlain_4 : decode cX5_isPlain 4 = .ok (.iconst 1, 1) := by decide +kernel
theorem dX5_isPlain_5 : decode cX5_isPlain 5 = .ok (.goto 4, 3) := by decide +kernel
theorem dX5_isPlain_8 : decode cX5_isPlain 8 = .ok (.iconst 0, 1) := by decide +kernel
theorem dX5_isPlain_9 : decode cX5_isPlain 9 = .ok (.ireturn, 1) := by decide +kernel
theorem dX5_wordOf_0 : decode cX5_wordOf 0 = .ok (.iconst (-1), 1) := by decide +kernel
theorem dX5_wordOf_1 : decode cX5_wordOf 1 = .ok (.iload_n 0, 1) := by decide +kernel
theorem dX5_wordOf_2 : decode cX5_wordOf 2 = .ok (.isub, 1) := by decide +kernel
theorem dX5_wordOf_3 : decode cX5_wordOf 3 = .ok (.ireturn, 1) := by decide +kernel
theorem dX5_clear_0 : decode cX5_clear 0 = .ok (.aload_n 0, 1) := by decide +kernel
theorem dX5_clear_1 : decode cX5_clear 1 = .ok (.iconst 0, 1) := by decide +kernel
theorem dX5_clear_2 : decode cX5_clear 2 = .ok (.putfield 15, 3) := by decide +kernel
theorem dX5_clear_5 : decode cX5_clear 5 = .ok (.return_, 1) := by decide +kernel
theorem dX5_append_0 : decode cX5_append 0 = .ok (.aload_n 0, 1) := by decide +kernel
theorem dX5_append_1 : decode cX5_append 1 = .ok (.getfield 15, 3) := by decide +kernel
theorem dX5_append_4 : decode cX5_append 4 = .ok (.aload_n 0, 1) := by decide +kernel
theorem dX5_append_5 : decode cX5_append 5 = .ok (.getfield 9, 3) := by decide +kernel
theorem dX5_append_8 : decode cX5_append 8 = .ok (.arraylength, 1) := by decide +kernel
theorem dX5_append_9 : decode cX5_append 9 = .ok (.if_icmp .ge 23, 3) := by decide +kernel
theorem dX5_append_12 : decode cX5_append 12 = .ok (.aload_n 0, 1) := by decide +kernel
theorem dX5_append_13 : decode cX5_append 13 = .ok (.getfield 9, 3) := by decide +kernel
theorem dX5_append_16 : decode cX5_append 16 = .ok (.aload_n 0, 1) := by decide +kernel
theorem dX5_append_17 : decode cX5_append 17 = .ok (.getfield 15, 3) := by decide +kernel
theorem dX5_append_20 : decode cX5_append 20 = .ok (.iload_n 1, 1) := by decide +kernel
theorem dX5_append_21 : decode cX5_append 21 = .ok (.iastore, 1) := by decide +kernel
theorem dX5_append_22 : decode cX5_append 22 = .ok (.aload_n 0, 1) := by decide +kernel
theorem dX5_append_23 : decode cX5_append 23 = .ok (.dup, 1) := by decide +kernel
theorem dX5_append_24 : decode cX5_append 24 = .ok (.getfield 15, 3) := by decide +kernel
theorem dX5_append_27 : decode cX5_append 27 = .ok (.iconst 1, 1) := by decide +kernel
theorem dX5_append_28 : decode cX5_append 28 = .ok (.iadd, 1) := by decide +kernel
theorem dX5_append_29 : decode cX5_append 29 = .ok (.putfield 15, 3) := by decide +kernel
theorem dX5_append_32 : decode cX5_append 32 = .ok (.return_, 1) := by decide +kernel
theorem dX5_costAt_0 : decode cX5_costAt 0 = .ok (.iconst 0, 1) := by decide +kernel
theorem dX5_costAt_1 : decode cX5_costAt 1 = .ok (.istore_n 2, 1) := by decide +kernel
theorem dX5_costAt_2 : decode cX5_costAt 2 = .ok (.iconst 0, 1) := by decide +kernel
theorem dX5_costAt_3 : decode cX5_costAt 3 = .ok (.istore_n 3, 1) := by decide +kernel
theorem dX5_costAt_4 : decode cX5_costAt 4 = .ok (.iload_n 3, 1) := by decide +kernel
theorem dX5_costAt_5 : decode cX5_costAt 5 = .ok (.aload_n 0, 1) := by decide +kernel
theorem dX5_costAt_6 : decode cX5_costAt 6 = .ok (.getfield 15, 3) := by decide +kernel
theorem dX5_costAt_9 : decode cX5_costAt 9 = .ok (.if_icmp .ge 29, 3) := by decide +kernel
theorem dX5_costAt_12 : decode cX5_costAt 12 = .ok (.iload_n 2, 1) := by decide +kernel
theorem dX5_costAt_13 : decode cX5_costAt 13 = .ok (.aload_n 0, 1) := by decide +kernel
theorem dX5_costAt_14 : decode cX5_costAt 14 = .ok (.getfield 9, 3) := by decide +kernel
theorem dX5_costAt_17 : decode cX5_costAt 17 = .ok (.iload_n 3, 1) := by decide +kernel
theorem dX5_costAt_18 : decode cX5_costAt 18 = .ok (.iaload, 1) := by decide +kernel
theorem dX5_costAt_19 : decode cX5_costAt 19 = .ok (.invokestatic 19, 3) := by decide +kernel
theorem dX5_costAt_22 : decode cX5_costAt 22 = .ok (.ifCond .eq 7, 3) := by decide +kernel
theorem dX5_costAt_25 : decode cX5_costAt 25 = .ok (.iload_n 1, 1) := by decide +kernel
theorem dX5_costAt_26 : decode cX5_costAt 26 = .ok (.goto 4, 3) := by decide +kernel
theorem dX5_costAt_29 : decode cX5_costAt 29 = .ok (.iconst 1, 1) := by decide +kernel
theorem dX5_costAt_30 : decode cX5_costAt 30 = .ok (.iadd, 1) := by decide +kernel
theorem dX5_costAt_31 : decode cX5_costAt 31 = .ok (.istore_n 2, 1) := by decide +kernel
theorem dX5_costAt_32 : decode cX5_costAt 32 = .ok (.iinc 3 1, 3) := by decide +kernel
theorem dX5_costAt_35 : decode cX5_costAt 35 = .ok (.goto (-31), 3) := by decide +kernel
theorem dX5_costAt_38 : decode cX5_costAt 38 = .ok (.iload_n 2, 1) := by decide +kernel
theorem dX5_costAt_39 : decode cX5_costAt 39 = .ok (.ireturn, 1) := by decide +kernel
theorem dX5_units_0 : decode cX5_units 0 = .ok (.iconst 0, 1) := by decide +kernel
theorem dX5_units_1 : decode cX5_units 1 = .ok (.istore_n 1, 1) := by decide +kernel
theorem dX5_units_2 : decode cX5_units 2 = .ok (.iconst 0, 1) := by decide +kernel
theorem dX5_units_3 : decode cX5_units 3 = .ok (.istore_n 2, 1) := by decide +kernel
theorem dX5_units_4 : decode cX5_units 4 = .ok (.iload_n 2, 1) := by decide +kernel
theorem dX5_units_5 : decode cX5_units 5 = .ok (.aload_n 0, 1) := by decide +kernel
theorem dX5_units_6 : decode cX5_units 6 = .ok (.getfield 15, 3) := by decide +kernel
theorem dX5_units_9 : decode cX5_units 9 = .ok (.if_icmp .ge 61, 3) := by decide +kernel
theorem dX5_units_12 : decode cX5_units 12 = .ok (.iload_n 1, 1) := by decide +kernel
theorem dX5_units_13 : decode cX5_units 13 = .ok (.iload_n 2, 1) := by decide +kernel
theorem dX5_units_14 : decode cX5_units 14 = .ok (.ifCond .ne 7, 3) := by decide +kernel
theorem dX5_units_17 : decode cX5_units 17 = .ok (.iconst 0, 1) := by decide +kernel
theorem dX5_units_18 : decode cX5_units 18 = .ok (.goto 5, 3) := by decide +kernel
theorem dX5_units_21 : decode cX5_units 21 = .ok (.bipush 7, 2) := by decide +kernel
theorem dX5_units_23 : decode cX5_units 23 = .ok (.iadd, 1) := by decide +kernel
theorem dX5_units_24 : decode cX5_units 24 = .ok (.istore_n 1, 1) := by decide +kernel
theorem dX5_units_25 : decode cX5_units 25 = .ok (.iload_n 1, 1) := by decide +kernel
theorem dX5_units_26 : decode cX5_units 26 = .ok (.aload_n 0, 1) := by decide +kernel
theorem dX5_units_27 : decode cX5_units 27 = .ok (.getfield 9, 3) := by decide +kernel
theorem dX5_units_30 : decode cX5_units 30 = .ok (.iload_n 2, 1) := by decide +kernel
theorem dX5_units_31 : decode cX5_units 31 = .ok (.iaload, 1) := by decide +kernel
theorem dX5_units_32 : decode cX5_units 32 = .ok (.invokestatic 19, 3) := by decide +kernel
theorem dX5_units_35 : decode cX5_units 35 = .ok (.ifCond .eq 18, 3) := by decide +kernel
theorem dX5_units_38 : decode cX5_units 38 = .ok (.aload_n 0, 1) := by decide +kernel
theorem dX5_units_39 : decode cX5_units 39 = .ok (.getfield 9, 3) := by decide +kernel
theorem dX5_units_42 : decode cX5_units 42 = .ok (.iload_n 2, 1) := by decide +kernel
theorem dX5_units_43 : decode cX5_units 43 = .ok (.iaload, 1) := by decide +kernel
theorem dX5_units_44 : decode cX5_units 44 = .ok (.invokestatic 23, 3) := by decide +kernel
theorem dX5_units_47 : decode cX5_units 47 = .ok (.invokestatic 27, 3) := by decide +kernel
theorem dX5_units_50 : decode cX5_units 50 = .ok (.goto 12, 3) := by decide +kernel
theorem dX5_units_53 : decode cX5_units 53 = .ok (.aload_n 0, 1) := by decide +kernel
theorem dX5_units_54 : decode cX5_units 54 = .ok (.getfield 9, 3) := by decide +kernel
theorem dX5_units_57 : decode cX5_units 57 = .ok (.iload_n 2, 1) := by decide +kernel
theorem dX5_units_58 : decode cX5_units 58 = .ok (.iaload, 1) := by decide +kernel
theorem dX5_units_59 : decode cX5_units 59 = .ok (.invokestatic 30, 3) := by decide +kernel
theorem dX5_units_62 : decode cX5_units 62 = .ok (.iadd, 1) := by decide +kernel
theorem dX5_units_63 : decode cX5_units 63 = .ok (.istore_n 1, 1) := by decide +kernel
theorem dX5_units_64 : decode cX5_units 64 = .ok (.iinc 2 1, 3) := by decide +kernel
theorem dX5_units_67 : decode cX5_units 67 = .ok (.goto (-63), 3) := by decide +kernel
theorem dX5_units_70 : decode cX5_units 70 = .ok (.iload_n 1, 1) := by decide +kernel
theorem dX5_units_71 : decode cX5_units 71 = .ok (.ireturn, 1) := by decide +kernel
theorem dX5_wordUnits_0 : decode cX5_wordUnits 0 = .ok (.bipush 9, 2) := by decide +kernel
theorem dX5_wordUnits_2 : decode cX5_wordUnits 2 = .ok (.istore_n 1, 1) := by decide +kernel
theorem dX5_wordUnits_3 : decode cX5_wordUnits 3 = .ok (.iload_n 0, 1) := by decide +kernel
theorem dX5_wordUnits_4 : decode cX5_wordUnits 4 = .ok (.istore_n 2, 1) := by decide +kernel
theorem dX5_wordUnits_5 : decode cX5_wordUnits 5 = .ok (.iconst 0, 1) := by decide +kernel
theorem dX5_wordUnits_6 : decode cX5_wordUnits 6 = .ok (.istore_n 3, 1) := by decide +kernel
theorem dX5_wordUnits_7 : decode cX5_wordUnits 7 = .ok (.iload_n 3, 1) := by decide +kernel
theorem dX5_wordUnits_8 : decode cX5_wordUnits 8 = .ok (.iconst 4, 1) := by decide +kernel
theorem dX5_wordUnits_9 : decode cX5_wordUnits 9 = .ok (.if_icmp .ge 27, 3) := by decide +kernel
theorem dX5_wordUnits_12 : decode cX5_wordUnits 12 = .ok (.iload_n 1, 1) := by decide +kernel
theorem dX5_wordUnits_13 : decode cX5_wordUnits 13 = .ok (.getstatic 35, 3) := by decide +kernel
theorem dX5_wordUnits_16 : decode cX5_wordUnits 16 = .ok (.iload_n 2, 1) := by decide +kernel
theorem dX5_wordUnits_17 : decode cX5_wordUnits 17 = .ok (.bipush 10, 2) := by decide +kernel
theorem dX5_wordUnits_19 : decode cX5_wordUnits 19 = .ok (.invokestatic 38, 3) := by decide +kernel
theorem dX5_wordUnits_22 : decode cX5_wordUnits 22 = .ok (.iaload, 1) := by decide +kernel
theorem dX5_wordUnits_23 : decode cX5_wordUnits 23 = .ok (.iadd, 1) := by decide +kernel
theorem dX5_wordUnits_24 : decode cX5_wordUnits 24 = .ok (.istore_n 1, 1) := by decide +kernel
theorem dX5_wordUnits_25 : decode cX5_wordUnits 25 = .ok (.iload_n 2, 1) := by decide +kernel
theorem dX5_wordUnits_26 : decode cX5_wordUnits 26 = .ok (.bipush 10, 2) := by decide +kernel
theorem dX5_wordUnits_28 : decode cX5_wordUnits 28 = .ok (.idiv, 1) := by decide +kernel
theorem dX5_wordUnits_29 : decode cX5_wordUnits 29 = .ok (.istore_n 2, 1) := by decide +kernel
theorem dX5_wordUnits_30 : decode cX5_wordUnits 30 = .ok (.iinc 3 1, 3) := by decide +kernel
theorem dX5_wordUnits_33 : decode cX5_wordUnits 33 = .ok (.goto (-26), 3) := by decide +kernel
theorem dX5_wordUnits_36 : decode cX5_wordUnits 36 = .ok (.iload_n 1, 1) := by decide +kernel
theorem dX5_wordUnits_37 : decode cX5_wordUnits 37 = .ok (.ireturn, 1) := by decide +kernel
theorem dX6_init_0 : decode cX6_init 0 = .ok (.aload_n 0, 1) := by decide +kernel
theorem dX6_init_1 : decode cX6_init 1 = .ok (.invokespecial 1, 3) := by decide +kernel
theorem dX6_init_4 : decode cX6_init 4 = .ok (.aload_n 0, 1) := by decide +kernel
theorem dX6_init_5 : decode cX6_init 5 = .ok (.iconst 3, 1) := by decide +kernel
theorem dX6_init_6 : decode cX6_init 6 = .ok (.anewarray 9, 3) := by decide +kernel
theorem dX6_init_9 : decode cX6_init 9 = .ok (.putfield 11, 3) := by decide +kernel
theorem dX6_init_12 : decode cX6_init 12 = .ok (.iconst 0, 1) := by decide +kernel
theorem dX6_init_13 : decode cX6_init 13 = .ok (.istore_n 1, 1) := by decide +kernel
theorem dX6_init_14 : decode cX6_init 14 = .ok (.iload_n 1, 1) := by decide +kernel
theorem dX6_init_15 : decode cX6_init 15 = .ok (.iconst 3, 1) := by decide +kernel
theorem dX6_init_16 : decode cX6_init 16 = .ok (.if_icmp .ge 22, 3) := by decide +kernel
theorem dX6_init_19 : decode cX6_init 19 = .ok (.aload_n 0, 1) := by decide +kernel
theorem dX6_init_20 : decode cX6_init 20 = .ok (.getfield 11, 3) := by decide +kernel
theorem dX6_init_23 : decode cX6_init 23 = .ok (.iload_n 1, 1) := by decide +kernel
theorem dX6_init_24 : decode cX6_init 24 = .ok (.new 9, 3) := by decide +kernel
theorem dX6_init_27 : decode cX6_init 27 = .ok (.dup, 1) := by decide +kernel
theorem dX6_init_28 : decode cX6_init 28 = .ok (.invokespecial 15, 3) := by decide +kernel
theorem dX6_init_31 : decode cX6_init 31 = .ok (.aastore, 1) := by decide +kernel
theorem dX6_init_32 : decode cX6_init 32 = .ok (.iinc 1 1, 3) := by decide +kernel
theorem dX6_init_35 : decode cX6_init 35 = .ok (.goto (-21), 3) := by decide +kernel
theorem dX6_init_38 : decode cX6_init 38 = .ok (.aload_n 0, 1) := by decide +kernel
theorem dX6_init_39 : decode cX6_init 39 = .ok (.new 16, 3) := by decide +kernel
theorem dX6_init_42 : decode cX6_init 42 = .ok (.dup, 1) := by decide +kernel
theorem dX6_init_43 : decode cX6_init 43 = .ok (.invokespecial 18, 3) := by decide +kernel
theorem dX6_init_46 : decode cX6_init 46 = .ok (.putfield 19, 3) := by decide +kernel
theorem dX6_init_49 : decode cX6_init 49 = .ok (.aload_n 0, 1) := by decide +kernel
theorem dX6_init_50 : decode cX6_init 50 = .ok (.new 23, 3) := by decide +kernel
theorem dX6_init_53 : decode cX6_init 53 = .ok (.dup, 1) := by decide +kernel
theorem dX6_init_54 : decode cX6_init 54 = .ok (.invokespecial 25, 3) := by decide +kernel
theorem dX6_init_57 : decode cX6_init 57 = .ok (.putfield 26, 3) := by decide +kernel
theorem dX6_init_60 : decode cX6_init 60 = .ok (.aload_n 0, 1) := by decide +kernel
theorem dX6_init_61 : decode cX6_init 61 = .ok (.new 30, 3) := by decide +kernel
theorem dX6_init_64 : decode cX6_init 64 = .ok (.dup, 1) := by decide +kernel
theorem dX6_init_65 : decode cX6_init 65 = .ok (.invokespecial 32, 3) := by decide +kernel
theorem dX6_init_68 : decode cX6_init 68 = .ok (.putfield 33, 3) := by decide +kernel
theorem dX6_init_71 : decode cX6_init 71 = .ok (.aload_n 0, 1) := by decide +kernel
theorem dX6_init_72 : decode cX6_init 72 = .ok (.new 37, 3) := by decide +kernel
theorem dX6_init_75 : decode cX6_init 75 = .ok (.dup, 1) := by decide +kernel
theorem dX6_init_76 : decode cX6_init 76 = .ok (.invokespecial 39, 3) := by decide +kernel
theorem dX6_init_79 : decode cX6_init 79 = .ok (.putfield 40, 3) := by decide +kernel
theorem dX6_init_82 : decode cX6_init 82 = .ok (.aload_n 0, 1) := by decide +kernel
theorem dX6_init_83 : decode cX6_init 83 = .ok (.bipush 40, 2) := by decide +kernel
theorem dX6_init_85 : decode cX6_init 85 = .ok (.newarray .int, 2) := by decide +kernel
theorem dX6_init_87 : decode cX6_init 87 = .ok (.putfield 44, 3) := by decide +kernel
theorem dX6_init_90 : decode cX6_init 90 = .ok (.aload_n 0, 1) := by decide +kernel
theorem dX6_init_91 : decode cX6_init 91 = .ok (.iconst 2, 1) := by decide +kernel
theorem dX6_init_92 : decode cX6_init 92 = .ok (.putfield 48, 3) := by decide +kernel
theorem dX6_init_95 : decode cX6_init 95 = .ok (.return_, 1) := by decide +kernel
theorem dX6_say_0 : decode cX6_say 0 = .ok (.iload_n 1, 1) := by decide +kernel
theorem dX6_say_1 : decode cX6_say 1 = .ok (.ifCond .lt 10, 3) := by decide +kernel
theorem dX6_say_4 : decode cX6_say 4 = .ok (.iload_n 1, 1) := by decide +kernel
theorem dX6_say_5 : decode cX6_say 5 = .ok (.sipush 9999, 3) := by decide +kernel
theorem dX6_say_8 : decode cX6_say 8 = .ok (.if_icmp .le 13, 3) := by decide +kernel
theorem dX6_say_11 : decode cX6_say 11 = .ok (.new 52, 3) := by decide +kernel
theorem dX6_say_14 : decode cX6_say 14 = .ok (.dup, 1) := by decide +kernel
theorem dX6_say_15 : decode cX6_say 15 = .ok (.ldc 54, 2) := by decide +kernel
theorem dX6_say_17 : decode cX6_say 17 = .ok (.invokespecial 56, 3) := by decide +kernel
theorem dX6_say_20 : decode cX6_say 20 = .ok (.athrow, 1) := by decide +kernel
theorem dX6_say_21 : decode cX6_say 21 = .ok (.aload_n 0, 1) := by decide +kernel
theorem dX6_say_22 : decode cX6_say 22 = .ok (.getfield 19, 3) := by decide +kernel
theorem dX6_say_25 : decode cX6_say 25 = .ok (.getfield 59, 3) := by decide +kernel
theorem dX6_say_28 : decode cX6_say 28 = .ok (.bipush 40, 2) := by decide +kernel
theorem dX6_say_30 : decode cX6_say 30 = .ok (.if_icmp .lt 13, 3) := by decide +kernel
theorem dX6_say_33 : decode cX6_say 33 = .ok (.new 62, 3) := by decide +kernel
theorem dX6_say_36 : decode cX6_say 36 = .ok (.dup, 1) := by decide +kernel
theorem dX6_say_37 : decode cX6_say 37 = .ok (.ldc 64, 2) := by decide +kernel
theorem dX6_say_39 : decode cX6_say 39 = .ok (.invokespecial 66, 3) := by decide +kernel
theorem dX6_say_42 : decode cX6_say 42 = .ok (.athrow, 1) := by decide +kernel
theorem dX6_say_43 : decode cX6_say 43 = .ok (.aload_n 0, 1) := by decide +kernel
theorem dX6_say_44 : decode cX6_say 44 = .ok (.getfield 19, 3) := by decide +kernel
theorem dX6_say_47 : decode cX6_say 47 = .ok (.iload_n 1, 1) := by decide +kernel
theorem dX6_say_48 : decode cX6_say 48 = .ok (.invokevirtual 67, 3) := by decide +kernel
theorem dX6_say_51 : decode cX6_say 51 = .ok (.aload_n 0, 1) := by decide +kernel
theorem dX6_say_52 : decode cX6_say 52 = .ok (.getfield 19, 3) := by decide +kernel
theorem dX6_say_55 : decode cX6_say 55 = .ok (.getfield 59, 3) := by decide +kernel
theorem dX6_say_58 : decode cX6_say 58 = .ok (.ireturn, 1) := by decide +kernel
theorem dX6_words_0 : decode cX6_words 0 = .ok (.aload_n 0, 1) := by decide +kernel
theorem dX6_words_1 : decode cX6_words 1 = .ok (.getfield 19, 3) := by decide +kernel
theorem dX6_words_4 : decode cX6_words 4 = .ok (.getfield 59, 3) := by decide +kernel
theorem dX6_words_7 : decode cX6_words 7 = .ok (.ireturn, 1) := by decide +kernel
theorem dX6_wordAt_0 : decode cX6_wordAt 0 = .ok (.iload_n 1, 1) := by decide +kernel
theorem dX6_wordAt_1 : decode cX6_wordAt 1 = .ok (.ifCond .lt 14, 3) := by decide +kernel
theorem dX6_wordAt_4 : decode cX6_wordAt 4 = .ok (.iload_n 1, 1) := by decide +kernel
theorem dX6_wordAt_5 : decode cX6_wordAt 5 = .ok (.aload_n 0, 1) := by decide +kernel
theorem dX6_wordAt_6 : decode cX6_wordAt 6 = .ok (.getfield 19, 3) := by decide +kernel
theorem dX6_wordAt_9 : decode cX6_wordAt 9 = .ok (.getfield 59, 3) := by decide +kernel
theorem dX6_wordAt_12 : decode cX6_wordAt 12 = .ok (.if_icmp .lt 13, 3) := by decide +kernel
theorem dX6_wordAt_15 : decode cX6_wordAt 15 = .ok (.new 74, 3) := by decide +kernel
theorem dX6_wordAt_18 : decode cX6_wordAt 18 = .ok (.dup, 1) := by decide +kernel
theorem dX6_wordAt_19 : decode cX6_wordAt 19 = .ok (.ldc 76, 2) := by decide +kernel
theorem dX6_wordAt_21 : decode cX6_wordAt 21 = .ok (.invokespecial 78, 3) := by decide +kernel
theorem dX6_wordAt_24 : decode cX6_wordAt 24 = .ok (.athrow, 1) := by decide +kernel
theorem dX6_wordAt_25 : decode cX6_wordAt 25 = .ok (.aload_n 0, 1) := by decide +kernel
theorem dX6_wordAt_26 : decode cX6_wordAt 26 = .ok (.getfield 19, 3) := by decide +kernel
theorem dX6_wordAt_29 : decode cX6_wordAt 29 = .ok (.getfield 79, 3) := by decide +kernel
theorem dX6_wordAt_32 : decode cX6_wordAt 32 = .ok (.iload_n 1, 1) := by decide +kernel
theorem dX6_wordAt_33 : decode cX6_wordAt 33 = .ok (.iaload, 1) := by decide +kernel
theorem dX6_wordAt_34 : decode cX6_wordAt 34 = .ok (.ireturn, 1) := by decide +kernel
theorem dX6_keep_0 : decode cX6_keep 0 = .ok (.aload_n 0, 1) := by decide +kernel
theorem dX6_keep_1 : decode cX6_keep 1 = .ok (.getfield 19, 3) := by decide +kernel
theorem dX6_keep_4 : decode cX6_keep 4 = .ok (.getfield 59, 3) := by decide +kernel
theorem dX6_keep_7 : decode cX6_keep 7 = .ok (.ifCond .ne 13, 3) := by decide +kernel
theorem dX6_keep_10 : decode cX6_keep 10 = .ok (.new 62, 3) := by decide +kernel
theorem dX6_keep_13 : decode cX6_keep 13 = .ok (.dup, 1) := by decide +kernel
theorem dX6_keep_14 : decode cX6_keep 14 = .ok (.ldc 82, 2) := by decide +kernel
theorem dX6_keep_16 : decode cX6_keep 16 = .ok (.invokespecial 66, 3) := by decide +kernel
theorem dX6_keep_19 : decode cX6_keep 19 = .ok (.athrow, 1) := by decide +kernel
theorem dX6_keep_20 : decode cX6_keep 20 = .ok (.aload_n 0, 1) := by decide +kernel
theorem dX6_keep_21 : decode cX6_keep 21 = .ok (.getfield 26, 3) := by decide +kernel
theorem dX6_keep_24 : decode cX6_keep 24 = .ok (.getfield 84, 3) := by decide +kernel
theorem dX6_keep_27 : decode cX6_keep 27 = .ok (.bipush 12, 2) := by decide +kernel
theorem dX6_keep_29 : decode cX6_keep 29 = .ok (.if_icmp .lt 13, 3) := by decide +kernel
theorem dX6_keep_32 : decode cX6_keep 32 = .ok (.new 62, 3) := by decide +kernel
theorem dX6_keep_35 : decode cX6_keep 35 = .ok (.dup, 1) := by decide +kernel
theorem dX6_keep_36 : decode cX6_keep 36 = .ok (.ldc 85, 2) := by decide +kernel
theorem dX6_keep_38 : decode cX6_keep 38 = .ok (.invokespecial 66, 3) := by decide +kernel
theorem dX6_keep_41 : decode cX6_keep 41 = .ok (.athrow, 1) := by decide +kernel
theorem dX6_keep_42 : decode cX6_keep 42 = .ok (.aload_n 0, 1) := by decide +kernel
theorem dX6_keep_43 : decode cX6_keep 43 = .ok (.getfield 26, 3) := by decide +kernel
theorem dX6_keep_46 : decode cX6_keep 46 = .ok (.aload_n 0, 1) := by decide +kernel
theorem dX6_keep_47 : decode cX6_keep 47 = .ok (.getfield 19, 3) := by decide +kernel
theorem dX6_keep_50 : decode cX6_keep 50 = .ok (.invokevirtual 87, 3) := by decide +kernel
theorem dX6_keep_53 : decode cX6_keep 53 = .ok (.aload_n 0, 1) := by decide +kernel
theorem dX6_keep_54 : decode cX6_keep 54 = .ok (.getfield 19, 3) := by decide +kernel
theorem dX6_keep_57 : decode cX6_keep 57 = .ok (.invokevirtual 71, 3) := by decide +kernel
theorem dX6_keep_60 : decode cX6_keep 60 = .ok (.aload_n 0, 1) := by decide +kernel
theorem dX6_keep_61 : decode cX6_keep 61 = .ok (.getfield 26, 3) := by decide +kernel
theorem dX6_keep_64 : decode cX6_keep 64 = .ok (.getfield 84, 3) := by decide +kernel
theorem dX6_keep_67 : decode cX6_keep 67 = .ok (.ireturn, 1) := by decide +kernel
theorem dX6_recall_0 : decode cX6_recall 0 = .ok (.iload_n 1, 1) := by decide +kernel
theorem dX6_recall_1 : decode cX6_recall 1 = .ok (.ifCond .lt 14, 3) := by decide +kernel
theorem dX6_recall_4 : decode cX6_recall 4 = .ok (.iload_n 1, 1) := by decide +kernel
theorem dX6_recall_5 : decode cX6_recall 5 = .ok (.aload_n 0, 1) := by decide +kernel
theorem dX6_recall_6 : decode cX6_recall 6 = .ok (.getfield 26, 3) := by decide +kernel
theorem dX6_recall_9 : decode cX6_recall 9 = .ok (.getfield 84, 3) := by decide +kernel
theorem dX6_recall_12 : decode cX6_recall 12 = .ok (.if_icmp .lt 13, 3) := by decide +kernel
theorem dX6_recall_15 : decode cX6_recall 15 = .ok (.new 74, 3) := by decide +kernel
theorem dX6_recall_18 : decode cX6_recall 18 = .ok (.dup, 1) := by decide +kernel
theorem dX6_recall_19 : decode cX6_recall 19 = .ok (.ldc 91, 2) := by decide +kernel
theorem dX6_recall_21 : decode cX6_recall 21 = .ok (.invokespecial 78, 3) := by decide +kernel
theorem dX6_recall_24 : decode cX6_recall 24 = .ok (.athrow, 1) := by decide +kernel
theorem dX6_recall_25 : decode cX6_recall 25 = .ok (.aload_n 0, 1) := by decide +kernel
theorem dX6_recall_26 : decode cX6_recall 26 = .ok (.getfield 19, 3) := by decide +kernel
theorem dX6_recall_29 : decode cX6_recall 29 = .ok (.invokevirtual 71, 3) := by decide +kernel
theorem dX6_recall_32 : decode cX6_recall 32 = .ok (.aload_n 0, 1) := by decide +kernel
theorem dX6_recall_33 : decode cX6_recall 33 = .ok (.getfield 19, 3) := by decide +kernel
theorem dX6_recall_36 : decode cX6_recall 36 = .ok (.aload_n 0, 1) := by decide +kernel
theorem dX6_recall_37 : decode cX6_recall 37 = .ok (.getfield 26, 3) := by decide +kernel
theorem dX6_recall_40 : decode cX6_recall 40 = .ok (.getfield 93, 3) := by decide +kernel
theorem dX6_recall_43 : decode cX6_recall 43 = .ok (.aload_n 0, 1) := by decide +kernel
theorem dX6_recall_44 : decode cX6_recall 44 = .ok (.getfield 26, 3) := by decide +kernel
theorem dX6_recall_47 : decode cX6_recall 47 = .ok (.iload_n 1, 1) := by decide +kernel
theorem dX6_recall_48 : decode cX6_recall 48 = .ok (.invokevirtual 94, 3) := by decide +kernel
theorem dX6_recall_51 : decode cX6_recall 51 = .ok (.aload_n 0, 1) := by decide +kernel
theorem dX6_recall_52 : decode cX6_recall 52 = .ok (.getfield 26, 3) := by decide +kernel
theorem dX6_recall_55 : decode cX6_recall 55 = .ok (.getfield 98, 3) := by decide +kernel
theorem dX6_recall_58 : decode cX6_recall 58 = .ok (.iload_n 1, 1) := by decide +kernel
theorem dX6_recall_59 : decode cX6_recall 59 = .ok (.iaload, 1) := by decide +kernel
theorem dX6_recall_60 : decode cX6_recall 60 = .ok (.invokevirtual 101, 3) := by decide +kernel
theorem dX6_recall_63 : decode cX6_recall 63 = .ok (.aload_n 0, 1) := by decide +kernel
theorem dX6_recall_64 : decode cX6_recall 64 = .ok (.getfield 19, 3) := by decide +kernel
theorem dX6_recall_67 : decode cX6_recall 67 = .ok (.getfield 59, 3) := by decide +kernel
theorem dX6_recall_70 : decode cX6_recall 70 = .ok (.ireturn, 1) := by decide +kernel
theorem dX6_entries_0 : decode cX6_entries 0 = .ok (.aload_n 0, 1) := by decide +kernel
theorem dX6_entries_1 : decode cX6_entries 1 = .ok (.iload_n 1, 1) := by decide +kernel
theorem dX6_entries_2 : decode cX6_entries 2 = .ok (.invokevirtual 118, 3) := by decide +kernel
theorem dX6_entries_5 : decode cX6_entries 5 = .ok (.getfield 135, 3) := by decide +kernel
theorem dX6_entries_8 : decode cX6_entries 8 = .ok (.ireturn, 1) := by decide +kernel
theorem dX6_entry_0 : decode cX6_entry 0 = .ok (.aload_n 0, 1) := by decide +kernel
theorem dX6_entry_1 : decode cX6_entry 1 = .ok (.iload_n 1, 1) := by decide +kernel
theorem dX6_entry_2 : decode cX6_entry 2 = .ok (.invokevirtual 118, 3) := by decide +kernel
theorem dX6_entry_5 : decode cX6_entry 5 = .ok (.astore 4, 2) := by decide +kernel
theorem dX6_entry_7 : decode cX6_entry 7 = .ok (.aload 4, 2) := by decide +kernel
theorem dX6_entry_9 : decode cX6_entry 9 = .ok (.iload_n 2, 1) := by decide +kernel
theorem dX6_entry_10 : decode cX6_entry 10 = .ok (.invokestatic 136, 3) := by decide +kernel
theorem dX6_entry_13 : decode cX6_entry 13 = .ok (.iload_n 3, 1) := by decide +kernel
theorem dX6_entry_14 : decode cX6_entry 14 = .ok (.iconst (-1), 1) := by decide +kernel
theorem dX6_entry_15 : decode cX6_entry 15 = .ok (.if_icmp .ne 11, 3) := by decide +kernel
theorem dX6_entry_18 : decode cX6_entry 18 = .ok (.aload 4, 2) := by decide +kernel
theorem dX6_entry_20 : decode cX6_entry 20 = .ok (.getfield 143, 3) := by decide +kernel
theorem dX6_entry_23 : decode cX6_entry 23 = .ok (.iload_n 2, 1) := by decide +kernel
theorem dX6_entry_24 : decode cX6_entry 24 = .ok (.iaload, 1) := by decide +kernel
theorem dX6_entry_25 : decode cX6_entry 25 = .ok (.ireturn, 1) := by decide +kernel
theorem dX6_entry_26 : decode cX6_entry 26 = .ok (.iload_n 3, 1) := by decide +kernel
theorem dX6_entry_27 : decode cX6_entry 27 = .ok (.ifCond .lt 14, 3) := by decide +kernel
theorem dX6_entry_30 : decode cX6_entry 30 = .ok (.iload_n 3, 1) := by decide +kernel
theorem dX6_entry_31 : decode cX6_entry 31 = .ok (.aload 4, 2) := by decide +kernel
theorem dX6_entry_33 : decode cX6_entry 33 = .ok (.getfield 146, 3) := by decide +kernel
theorem dX6_entry_36 : decode cX6_entry 36 = .ok (.iload_n 2, 1) := by decide +kernel
theorem dX6_entry_37 : decode cX6_entry 37 = .ok (.iaload, 1) := by decide +kernel
theorem dX6_entry_38 : decode cX6_entry 38 = .ok (.if_icmp .lt 13, 3) := by decide +kernel
theorem dX6_entry_41 : decode cX6_entry 41 = .ok (.new 74, 3) := by decide +kernel
theorem dX6_entry_44 : decode cX6_entry 44 = .ok (.dup, 1) := by decide +kernel
theorem dX6_entry_45 : decode cX6_entry 45 = .ok (.ldc 147, 2) := by decide +kernel
theorem dX6_entry_47 : decode cX6_entry 47 = .ok (.invokespecial 78, 3) := by decide +kernel
theorem dX6_entry_50 : decode cX6_entry 50 = .ok (.athrow, 1) := by decide +kernel
theorem dX6_entry_51 : decode cX6_entry 51 = .ok (.aload 4, 2) := by decide +kernel
theorem dX6_entry_53 : decode cX6_entry 53 = .ok (.getfield 149, 3) := by decide +kernel
theorem dX6_entry_56 : decode cX6_entry 56 = .ok (.iload_n 2, 1) := by decide +kernel
theorem dX6_entry_57 : decode cX6_entry 57 = .ok (.invokestatic 152, 3) := by decide +kernel
theorem dX6_entry_60 : decode cX6_entry 60 = .ok (.iload_n 3, 1) := by decide +kernel
theorem dX6_entry_61 : decode cX6_entry 61 = .ok (.iadd, 1) := by decide +kernel
theorem dX6_entry_62 : decode cX6_entry 62 = .ok (.iaload, 1) := by decide +kernel
theorem dX6_entry_63 : decode cX6_entry 63 = .ok (.ireturn, 1) := by decide +kernel
theorem dX6_find_0 : decode cX6_find 0 = .ok (.aload_n 0, 1) := by decide +kernel
theorem dX6_find_1 : decode cX6_find 1 = .ok (.iload_n 1, 1) := by decide +kernel
theorem dX6_find_2 : decode cX6_find 2 = .ok (.invokevirtual 118, 3) := by decide +kernel
theorem dX6_find_5 : decode cX6_find 5 = .ok (.astore_n 3, 1) := by decide +kernel
theorem dX6_find_6 : decode cX6_find 6 = .ok (.iload_n 2, 1) := by decide +kernel
theorem dX6_find_7 : decode cX6_find 7 = .ok (.invokestatic 105, 3) := by decide +kernel
theorem dX6_find_10 : decode cX6_find 10 = .ok (.aload_n 3, 1) := by decide +kernel
theorem dX6_find_11 : decode cX6_find 11 = .ok (.iload_n 2, 1) := by decide +kernel
theorem dX6_find_12 : decode cX6_find 12 = .ok (.invokevirtual 153, 3) := by decide +kernel
theorem dX6_find_15 : decode cX6_find 15 = .ok (.ireturn, 1) := by decide +kernel
theorem dX6_setPrice_0 : decode cX6_setPrice 0 = .ok (.iload_n 1, 1) := by decide +kernel
theorem dX6_setPrice_1 : decode cX6_setPrice 1 = .ok (.iconst 1, 1) := by decide +kernel
theorem dX6_setPrice_2 : decode cX6_setPrice 2 = .ok (.if_icmp .lt 8, 3) := by decide +kernel
theorem dX6_setPrice_5 : decode cX6_setPrice 5 = .ok (.iload_n 1, 1) := by decide +kernel
theorem dX6_setPrice_6 : decode cX6_setPrice 6 = .ok (.iconst 5, 1) := by decide +kernel
theorem dX6_setPrice_7 : decode cX6_setPrice 7 = .ok (.if_icmp .le 13, 3) := by decide +kernel
theorem dX6_setPrice_10 : decode cX6_setPrice 10 = .ok (.new 52, 3) := by decide +kernel
theorem dX6_setPrice_13 : decode cX6_setPrice 13 = .ok (.dup, 1) := by decide +kernel
theorem dX6_setPrice_14 : decode cX6_setPrice 14 = .ok (.ldc 156, 2) := by decide +kernel
theorem dX6_setPrice_16 : decode cX6_setPrice 16 = .ok (.invokespecial 56, 3) := by decide +kernel
theorem dX6_setPrice_19 : decode cX6_setPrice 19 = .ok (.athrow, 1) := by decide +kernel
theorem dX6_setPrice_20 : decode cX6_setPrice 20 = .ok (.aload_n 0, 1) := by decide +kernel
theorem dX6_setPrice_21 : decode cX6_setPrice 21 = .ok (.getfield 48, 3) := by decide +kernel
theorem dX6_setPrice_24 : decode cX6_setPrice 24 = .ok (.istore_n 2, 1) := by decide +kernel
theorem dX6_setPrice_25 : decode cX6_setPrice 25 = .ok (.aload_n 0, 1) := by decide +kernel
theorem dX6_setPrice_26 : decode cX6_setPrice 26 = .ok (.iload_n 1, 1) := by decide +kernel
theorem dX6_setPrice_27 : decode cX6_setPrice 27 = .ok (.putfield 48, 3) := by decide +kernel
theorem dX6_setPrice_30 : decode cX6_setPrice 30 = .ok (.iload_n 2, 1) := by decide +kernel
theorem dX6_setPrice_31 : decode cX6_setPrice 31 = .ok (.ireturn, 1) := by decide +kernel
theorem dX6_encode_0 : decode cX6_encode 0 = .ok (.aload_n 0, 1) := by decide +kernel
theorem dX6_encode_1 : decode cX6_encode 1 = .ok (.iload_n 1, 1) := by decide +kernel
theorem dX6_encode_2 : decode cX6_encode 2 = .ok (.invokevirtual 118, 3) := by decide +kernel
theorem dX6_encode_5 : decode cX6_encode 5 = .ok (.astore_n 2, 1) := by decide +kernel
theorem dX6_encode_6 : decode cX6_encode 6 = .ok (.aload_n 0, 1) := by decide +kernel
theorem dX6_encode_7 : decode cX6_encode 7 = .ok (.getfield 40, 3) := by decide +kernel
theorem dX6_encode_10 : decode cX6_encode 10 = .ok (.aload_n 2, 1) := by decide +kernel
theorem dX6_encode_11 : decode cX6_encode 11 = .ok (.aload_n 0, 1) := by decide +kernel
theorem dX6_encode_12 : decode cX6_encode 12 = .ok (.getfield 48, 3) := by decide +kernel
theorem dX6_encode_15 : decode cX6_encode 15 = .ok (.aload_n 0, 1) := by decide +kernel
theorem dX6_encode_16 : decode cX6_encode 16 = .ok (.getfield 19, 3) := by decide +kernel
theorem dX6_encode_19 : decode cX6_encode 19 = .ok (.getfield 79, 3) := by decide +kernel
theorem dX6_encode_22 : decode cX6_encode 22 = .ok (.iconst 0, 1) := by decide +kernel
theorem dX6_encode_23 : decode cX6_encode 23 = .ok (.aload_n 0, 1) := by decide +kernel
theorem dX6_encode_24 : decode cX6_encode 24 = .ok (.getfield 19, 3) := by decide +kernel
theorem dX6_encode_27 : decode cX6_encode 27 = .ok (.getfield 59, 3) := by decide +kernel
theorem dX6_encode_30 : decode cX6_encode 30 = .ok (.invokevirtual 158, 3) := by decide +kernel
theorem dX6_encode_33 : decode cX6_encode 33 = .ok (.istore_n 3, 1) := by decide +kernel
theorem dX6_encode_34 : decode cX6_encode 34 = .ok (.aload_n 0, 1) := by decide +kernel
theorem dX6_encode_35 : decode cX6_encode 35 = .ok (.getfield 33, 3) := by decide +kernel
theorem dX6_encode_38 : decode cX6_encode 38 = .ok (.invokevirtual 162, 3) := by decide +kernel
theorem dX6_encode_41 : decode cX6_encode 41 = .ok (.iconst 0, 1) := by decide +kernel
theorem dX6_encode_42 : decode cX6_encode 42 = .ok (.istore 4, 2) := by decide +kernel
theorem dX6_encode_44 : decode cX6_encode 44 = .ok (.iconst 0, 1) := by decide +kernel
theorem dX6_encode_45 : decode cX6_encode 45 = .ok (.istore 5, 2) := by decide +kernel
theorem dX6_encode_47 : decode cX6_encode 47 = .ok (.iload 5, 2) := by decide +kernel
theorem dX6_encode_49 : decode cX6_encode 49 = .ok (.bipush 40, 2) := by decide +kernel
theorem dX6_encode_51 : decode cX6_encode 51 = .ok (.if_icmp .ge 91, 3) := by decide +kernel
theorem dX6_encode_54 : decode cX6_encode 54 = .ok (.iload 4, 2) := by decide +kernel
theorem dX6_encode_56 : decode cX6_encode 56 = .ok (.aload_n 0, 1) := by decide +kernel
theorem dX6_encode_57 : decode cX6_encode 57 = .ok (.getfield 19, 3) := by decide +kernel
theorem dX6_encode_60 : decode cX6_encode 60 = .ok (.getfield 59, 3) := by decide +kernel
theorem dX6_encode_63 : decode cX6_encode 63 = .ok (.if_icmp .ge 79, 3) := by decide +kernel
theorem dX6_encode_66 : decode cX6_encode 66 = .ok (.aload_n 0, 1) := by decide +kernel
theorem dX6_encode_67 : decode cX6_encode 67 = .ok (.getfield 40, 3) := by decide +kernel
theorem dX6_encode_70 : decode cX6_encode 70 = .ok (.getfield 163, 3) := by decide +kernel
theorem dX6_encode_73 : decode cX6_encode 73 = .ok (.iload 4, 2) := by decide +kernel
theorem dX6_encode_75 : decode cX6_encode 75 = .ok (.iaload, 1) := by decide +kernel
theorem dX6_encode_76 : decode cX6_encode 76 = .ok (.istore 6, 2) := by decide +kernel
theorem dX6_encode_78 : decode cX6_encode 78 = .ok (.aload_n 0, 1) := by decide +kernel
theorem dX6_encode_79 : decode cX6_encode 79 = .ok (.getfield 33, 3) := by decide +kernel
theorem dX6_encode_82 : decode cX6_encode 82 = .ok (.iload 6, 2) := by decide +kernel
theorem dX6_encode_84 : decode cX6_encode 84 = .ok (.iconst (-1), 1) := by decide +kernel
theorem dX6_encode_85 : decode cX6_encode 85 = .ok (.if_icmp .ne 19, 3) := by decide +kernel
theorem dX6_encode_88 : decode cX6_encode 88 = .ok (.aload_n 0, 1) := by decide +kernel
theorem dX6_encode_89 : decode cX6_encode 89 = .ok (.getfield 19, 3) := by decide +kernel
theorem dX6_encode_92 : decode cX6_encode 92 = .ok (.getfield 79, 3) := by decide +kernel
theorem dX6_encode_95 : decode cX6_encode 95 = .ok (.iload 4, 2) := by decide +kernel
theorem dX6_encode_97 : decode cX6_encode 97 = .ok (.iaload, 1) := by decide +kernel
theorem dX6_encode_98 : decode cX6_encode 98 = .ok (.invokestatic 166, 3) := by decide +kernel
theorem dX6_encode_101 : decode cX6_encode 101 = .ok (.goto 10, 3) := by decide +kernel
theorem dX6_encode_104 : decode cX6_encode 104 = .ok (.aload_n 2, 1) := by decide +kernel
theorem dX6_encode_105 : decode cX6_encode 105 = .ok (.getfield 143, 3) := by decide +kernel
theorem dX6_encode_108 : decode cX6_encode 108 = .ok (.iload 6, 2) := by decide +kernel
theorem dX6_encode_110 : decode cX6_encode 110 = .ok (.iaload, 1) := by decide +kernel
theorem dX6_encode_111 : decode cX6_encode 111 = .ok (.invokevirtual 169, 3) := by decide +kernel
theorem dX6_encode_114 : decode cX6_encode 114 = .ok (.iload 4, 2) := by decide +kernel
theorem dX6_encode_116 : decode cX6_encode 116 = .ok (.iload 6, 2) := by decide +kernel
theorem dX6_encode_118 : decode cX6_encode 118 = .ok (.iconst (-1), 1) := by decide +kernel
theorem dX6_encode_119 : decode cX6_encode 119 = .ok (.if_icmp .ne 7, 3) := by decide +kernel
theorem dX6_encode_122 : decode cX6_encode 122 = .ok (.iconst 1, 1) := by decide +kernel
theorem dX6_encode_123 : decode cX6_encode 123 = .ok (.goto 10, 3) := by decide +kernel
theorem dX6_encode_126 : decode cX6_encode 126 = .ok (.aload_n 2, 1) := by decide +kernel
theorem dX6_encode_127 : decode cX6_encode 127 = .ok (.getfield 146, 3) := by decide +kernel
theorem dX6_encode_130 : decode cX6_encode 130 = .ok (.iload 6, 2) := by decide +kernel
theorem dX6_encode_132 : decode cX6_encode 132 = .ok (.iaload, 1) := by decide +kernel
theorem dX6_encode_133 : decode cX6_encode 133 = .ok (.iadd, 1) := by decide +kernel
theorem dX6_encode_134 : decode cX6_encode 134 = .ok (.istore 4, 2) := by decide +kernel
theorem dX6_encode_136 : decode cX6_encode 136 = .ok (.iinc 5 1, 3) := by decide +kernel
theorem dX6_encode_139 : decode cX6_encode 139 = .ok (.goto (-92), 3) := by decide +kernel
theorem dX6_encode_142 : decode cX6_encode 142 = .ok (.iload_n 3, 1) := by decide +kernel
theorem dX6_encode_143 : decode cX6_encode 143 = .ok (.ireturn, 1) := by decide +kernel
theorem dX6_groups_0 : decode cX6_groups 0 = .ok (.aload_n 0, 1) := by decide +kernel
theorem dX6_groups_1 : decode cX6_groups 1 = .ok (.getfield 33, 3) := by decide +kernel
theorem dX6_groups_4 : decode cX6_groups 4 = .ok (.getfield 170, 3) := by decide +kernel
theorem dX6_groups_7 : decode cX6_groups 7 = .ok (.ireturn, 1) := by decide +kernel
theorem dX6_group_0 : decode cX6_group 0 = .ok (.aload_n 0, 1) := by decide +kernel
theorem dX6_group_1 : decode cX6_group 1 = .ok (.iload_n 1, 1) := by decide +kernel
theorem dX6_group_2 : decode cX6_group 2 = .ok (.invokevirtual 171, 3) := by decide +kernel
theorem dX6_group_5 : decode cX6_group 5 = .ok (.aload_n 0, 1) := by decide +kernel
theorem dX6_group_6 : decode cX6_group 6 = .ok (.getfield 33, 3) := by decide +kernel
theorem dX6_group_9 : decode cX6_group 9 = .ok (.getfield 174, 3) := by decide +kernel
theorem dX6_group_12 : decode cX6_group 12 = .ok (.iload_n 1, 1) := by decide +kernel
theorem dX6_group_13 : decode cX6_group 13 = .ok (.iaload, 1) := by decide +kernel
theorem dX6_group_14 : decode cX6_group 14 = .ok (.ireturn, 1) := by decide +kernel
theorem dX6_garble_0 : decode cX6_garble 0 = .ok (.aload_n 0, 1) := by decide +kernel
theorem dX6_garble_1 : decode cX6_garble 1 = .ok (.iload_n 1, 1) := by decide +kernel
theorem dX6_garble_2 : decode cX6_garble 2 = .ok (.invokevirtual 171, 3) := by decide +kernel
theorem dX6_garble_5 : decode cX6_garble 5 = .ok (.iload_n 2, 1) := by decide +kernel
theorem dX6_garble_6 : decode cX6_garble 6 = .ok (.iconst 5, 1) := by decide +kernel
theorem dX6_garble_7 : decode cX6_garble 7 = .ok (.invokestatic 108, 3) := by decide +kernel
theorem dX6_garble_10 : decode cX6_garble 10 = .ok (.iload_n 3, 1) := by decide +kernel
theorem dX6_garble_11 : decode cX6_garble 11 = .ok (.ifCond .lt 9, 3) := by decide +kernel
theorem dX6_garble_14 : decode cX6_garble 14 = .ok (.iload_n 3, 1) := by decide +kernel
theorem dX6_garble_15 : decode cX6_garble 15 = .ok (.bipush 26, 2) := by decide +kernel
theorem dX6_garble_17 : decode cX6_garble 17 = .ok (.if_icmp .lt 13, 3) := by decide +kernel
theorem dX6_garble_20 : decode cX6_garble 20 = .ok (.new 52, 3) := by decide +kernel
theorem dX6_garble_23 : decode cX6_garble 23 = .ok (.dup, 1) := by decide +kernel
theorem dX6_garble_24 : decode cX6_garble 24 = .ok (.ldc 175, 2) := by decide +kernel
theorem dX6_garble_26 : decode cX6_garble 26 = .ok (.invokespecial 56, 3) := by decide +kernel
theorem dX6_garble_29 : decode cX6_garble 29 = .ok (.athrow, 1) := by decide +kernel
theorem dX6_garble_30 : decode cX6_garble 30 = .ok (.aload_n 0, 1) := by decide +kernel
theorem dX6_garble_31 : decode cX6_garble 31 = .ok (.iload_n 1, 1) := by decide +kernel
theorem dX6_garble_32 : decode cX6_garble 32 = .ok (.invokevirtual 177, 3) := by decide +kernel
theorem dX6_garble_35 : decode cX6_garble 35 = .ok (.aload_n 0, 1) := by decide +kernel
theorem dX6_garble_36 : decode cX6_garble 36 = .ok (.getfield 33, 3) := by decide +kernel
theorem dX6_garble_39 : decode cX6_garble 39 = .ok (.getfield 174, 3) := by decide +kernel
theorem dX6_garble_42 : decode cX6_garble 42 = .ok (.iload_n 1, 1) := by decide +kernel
theorem dX6_garble_43 : decode cX6_garble 43 = .ok (.iaload, 1) := by decide +kernel
theorem dX6_garble_44 : decode cX6_garble 44 = .ok (.istore 4, 2) := by decide +kernel
theorem dX6_garble_46 : decode cX6_garble 46 = .ok (.aload_n 0, 1) := by decide +kernel
theorem dX6_garble_47 : decode cX6_garble 47 = .ok (.getfield 33, 3) := by decide +kernel
theorem dX6_garble_50 : decode cX6_garble 50 = .ok (.getfield 174, 3) := by decide +kernel
theorem dX6_garble_53 : decode cX6_garble 53 = .ok (.iload_n 1, 1) := by decide +kernel
theorem dX6_garble_54 : decode cX6_garble 54 = .ok (.iload 4, 2) := by decide +kernel
theorem dX6_garble_56 : decode cX6_garble 56 = .ok (.iload_n 2, 1) := by decide +kernel
theorem dX6_garble_57 : decode cX6_garble 57 = .ok (.iload_n 3, 1) := by decide +kernel
theorem dX6_garble_58 : decode cX6_garble 58 = .ok (.invokestatic 180, 3) := by decide +kernel
theorem dX6_garble_61 : decode cX6_garble 61 = .ok (.iastore, 1) := by decide +kernel
theorem dX6_garble_62 : decode cX6_garble 62 = .ok (.iload 4, 2) := by decide +kernel
theorem dX6_garble_64 : decode cX6_garble 64 = .ok (.iload_n 2, 1) := by decide +kernel
theorem dX6_garble_65 : decode cX6_garble 65 = .ok (.invokestatic 112, 3) := by decide +kernel
theorem dX6_garble_68 : decode cX6_garble 68 = .ok (.ireturn, 1) := by decide +kernel
theorem dX6_decode_0 : decode cX6_decode 0 = .ok (.aload_n 0, 1) := by decide +kernel
theorem dX6_decode_1 : decode cX6_decode 1 = .ok (.iload_n 1, 1) := by decide +kernel
theorem dX6_decode_2 : decode cX6_decode 2 = .ok (.invokevirtual 118, 3) := by decide +kernel
theorem dX6_decode_5 : decode cX6_decode 5 = .ok (.astore_n 2, 1) := by decide +kernel
theorem dX6_decode_6 : decode cX6_decode 6 = .ok (.aload_n 0, 1) := by decide +kernel
theorem dX6_decode_7 : decode cX6_decode 7 = .ok (.getfield 19, 3) := by decide +kernel
theorem dX6_decode_10 : decode cX6_decode 10 = .ok (.invokevirtual 71, 3) := by decide +kernel
theorem dX6_decode_13 : decode cX6_decode 13 = .ok (.aload_n 0, 1) := by decide +kernel
theorem dX6_decode_14 : decode cX6_decode 14 = .ok (.aload_n 0, 1) := by decide +kernel
theorem dX6_decode_15 : decode cX6_decode 15 = .ok (.getfield 33, 3) := by decide +kernel
theorem dX6_decode_18 : decode cX6_decode 18 = .ok (.getfield 170, 3) := by decide +kernel
theorem dX6_decode_21 : decode cX6_decode 21 = .ok (.putfield 187, 3) := by decide +kernel
theorem dX6_decode_24 : decode cX6_decode 24 = .ok (.iconst 0, 1) := by decide +kernel
theorem dX6_decode_25 : decode cX6_decode 25 = .ok (.istore_n 3, 1) := by decide +kernel
theorem dX6_decode_26 : decode cX6_decode 26 = .ok (.iconst 0, 1) := by decide +kernel
theorem dX6_decode_27 : decode cX6_decode 27 = .ok (.istore 4, 2) := by decide +kernel
theorem dX6_decode_29 : decode cX6_decode 29 = .ok (.iload 4, 2) := by decide +kernel
theorem dX6_decode_31 : decode cX6_decode 31 = .ok (.aload_n 0, 1) := by decide +kernel
theorem dX6_decode_32 : decode cX6_decode 32 = .ok (.getfield 187, 3) := by decide +kernel
theorem dX6_decode_35 : decode cX6_decode 35 = .ok (.if_icmp .ge 45, 3) := by decide +kernel
theorem dX6_decode_38 : decode cX6_decode 38 = .ok (.aload_n 0, 1) := by decide +kernel
theorem dX6_decode_39 : decode cX6_decode 39 = .ok (.getfield 44, 3) := by decide +kernel
theorem dX6_decode_42 : decode cX6_decode 42 = .ok (.iload 4, 2) := by decide +kernel
theorem dX6_decode_44 : decode cX6_decode 44 = .ok (.aload_n 0, 1) := by decide +kernel
theorem dX6_decode_45 : decode cX6_decode 45 = .ok (.aload_n 2, 1) := by decide +kernel
theorem dX6_decode_46 : decode cX6_decode 46 = .ok (.aload_n 0, 1) := by decide +kernel
theorem dX6_decode_47 : decode cX6_decode 47 = .ok (.getfield 33, 3) := by decide +kernel
theorem dX6_decode_50 : decode cX6_decode 50 = .ok (.getfield 174, 3) := by decide +kernel
theorem dX6_decode_53 : decode cX6_decode 53 = .ok (.iload 4, 2) := by decide +kernel
theorem dX6_decode_55 : decode cX6_decode 55 = .ok (.iaload, 1) := by decide +kernel
theorem dX6_decode_56 : decode cX6_decode 56 = .ok (.invokevirtual 190, 3) := by decide +kernel
theorem dX6_decode_59 : decode cX6_decode 59 = .ok (.iastore, 1) := by decide +kernel
theorem dX6_decode_60 : decode cX6_decode 60 = .ok (.aload_n 0, 1) := by decide +kernel
theorem dX6_decode_61 : decode cX6_decode 61 = .ok (.getfield 44, 3) := by decide +kernel
theorem dX6_decode_64 : decode cX6_decode 64 = .ok (.iload 4, 2) := by decide +kernel
theorem dX6_decode_66 : decode cX6_decode 66 = .ok (.iaload, 1) := by decide +kernel
theorem dX6_decode_67 : decode cX6_decode 67 = .ok (.iconst 3, 1) := by decide +kernel
theorem dX6_decode_68 : decode cX6_decode 68 = .ok (.if_icmp .ne 6, 3) := by decide +kernel
theorem dX6_decode_71 : decode cX6_decode 71 = .ok (.iinc 3 1, 3) := by decide +kernel
theorem dX6_decode_74 : decode cX6_decode 74 = .ok (.iinc 4 1, 3) := by decide +kernel
theorem dX6_decode_77 : decode cX6_decode 77 = .ok (.goto (-48), 3) := by decide +kernel
theorem dX6_decode_80 : decode cX6_decode 80 = .ok (.iload_n 3, 1) := by decide +kernel
theorem dX6_decode_81 : decode cX6_decode 81 = .ok (.ireturn, 1) := by decide +kernel
theorem dX6_how_0 : decode cX6_how 0 = .ok (.iload_n 1, 1) := by decide +kernel
theorem dX6_how_1 : decode cX6_how 1 = .ok (.ifCond .lt 11, 3) := by decide +kernel
theorem dX6_how_4 : decode cX6_how 4 = .ok (.iload_n 1, 1) := by decide +kernel
theorem dX6_how_5 : decode cX6_how 5 = .ok (.aload_n 0, 1) := by decide +kernel
theorem dX6_how_6 : decode cX6_how 6 = .ok (.getfield 187, 3) := by decide +kernel
theorem dX6_how_9 : decode cX6_how 9 = .ok (.if_icmp .lt 13, 3) := by decide +kernel
theorem dX6_how_12 : decode cX6_how 12 = .ok (.new 74, 3) := by decide +kernel
theorem dX6_how_15 : decode cX6_how 15 = .ok (.dup, 1) := by decide +kernel
theorem dX6_how_16 : decode cX6_how 16 = .ok (.ldc 194, 2) := by decide +kernel
theorem dX6_how_18 : decode cX6_how 18 = .ok (.invokespecial 78, 3) := by decide +kernel
theorem dX6_how_21 : decode cX6_how 21 = .ok (.athrow, 1) := by decide +kernel
theorem dX6_how_22 : decode cX6_how 22 = .ok (.aload_n 0, 1) := by decide +kernel
theorem dX6_how_23 : decode cX6_how 23 = .ok (.getfield 44, 3) := by decide +kernel
theorem dX6_how_26 : decode cX6_how 26 = .ok (.iload_n 1, 1) := by decide +kernel
theorem dX6_how_27 : decode cX6_how 27 = .ok (.iaload, 1) := by decide +kernel
theorem dX6_how_28 : decode cX6_how 28 = .ok (.ireturn, 1) := by decide +kernel
theorem dX6_cost_0 : decode cX6_cost 0 = .ok (.aload_n 0, 1) := by decide +kernel
theorem dX6_cost_1 : decode cX6_cost 1 = .ok (.getfield 33, 3) := by decide +kernel
theorem dX6_cost_4 : decode cX6_cost 4 = .ok (.aload_n 0, 1) := by decide +kernel
theorem dX6_cost_5 : decode cX6_cost 5 = .ok (.getfield 48, 3) := by decide +kernel
theorem dX6_cost_8 : decode cX6_cost 8 = .ok (.invokevirtual 196, 3) := by decide +kernel
theorem dX6_cost_11 : decode cX6_cost 11 = .ok (.ireturn, 1) := by decide +kernel
theorem dX6_time_0 : decode cX6_time 0 = .ok (.aload_n 0, 1) := by decide +kernel
theorem dX6_time_1 : decode cX6_time 1 = .ok (.getfield 33, 3) := by decide +kernel
theorem dX6_time_4 : decode cX6_time 4 = .ok (.invokevirtual 199, 3) := by decide +kernel
theorem dX6_time_7 : decode cX6_time 7 = .ok (.ireturn, 1) := by decide +kernel
theorem dX6_share_0 : decode cX6_share 0 = .ok (.aload_n 0, 1) := by decide +kernel
theorem dX6_share_1 : decode cX6_share 1 = .ok (.iload_n 1, 1) := by decide +kernel
theorem dX6_share_2 : decode cX6_share 2 = .ok (.invokevirtual 118, 3) := by decide +kernel
theorem dX6_share_5 : decode cX6_share 5 = .ok (.astore_n 2, 1) := by decide +kernel
theorem dX6_share_6 : decode cX6_share 6 = .ok (.iconst 0, 1) := by decide +kernel
theorem dX6_share_7 : decode cX6_share 7 = .ok (.istore_n 3, 1) := by decide +kernel
theorem dX6_share_8 : decode cX6_share 8 = .ok (.iconst 0, 1) := by decide +kernel
theorem dX6_share_9 : decode cX6_share 9 = .ok (.istore 4, 2) := by decide +kernel
theorem dX6_share_11 : decode cX6_share 11 = .ok (.iconst 0, 1) := by decide +kernel
theorem dX6_share_12 : decode cX6_share 12 = .ok (.istore 5, 2) := by decide +kernel
theorem dX6_share_14 : decode cX6_share 14 = .ok (.iload 5, 2) := by decide +kernel
theorem dX6_share_16 : decode cX6_share 16 = .ok (.aload_n 0, 1) := by decide +kernel
theorem dX6_share_17 : decode cX6_share 17 = .ok (.getfield 26, 3) := by decide +kernel
theorem dX6_share_20 : decode cX6_share 20 = .ok (.getfield 84, 3) := by decide +kernel
theorem dX6_share_23 : decode cX6_share 23 = .ok (.if_icmp .ge 65, 3) := by decide +kernel
theorem dX6_share_26 : decode cX6_share 26 = .ok (.iload_n 3, 1) := by decide +kernel
theorem dX6_share_27 : decode cX6_share 27 = .ok (.aload_n 0, 1) := by decide +kernel
theorem dX6_share_28 : decode cX6_share 28 = .ok (.getfield 40, 3) := by decide +kernel
theorem dX6_share_31 : decode cX6_share 31 = .ok (.aload_n 2, 1) := by decide +kernel
theorem dX6_share_32 : decode cX6_share 32 = .ok (.aload_n 0, 1) := by decide +kernel
theorem dX6_share_33 : decode cX6_share 33 = .ok (.getfield 48, 3) := by decide +kernel
theorem dX6_share_36 : decode cX6_share 36 = .ok (.aload_n 0, 1) := by decide +kernel
theorem dX6_share_37 : decode cX6_share 37 = .ok (.getfield 26, 3) := by decide +kernel
theorem dX6_share_40 : decode cX6_share 40 = .ok (.getfield 93, 3) := by decide +kernel
theorem dX6_share_43 : decode cX6_share 43 = .ok (.aload_n 0, 1) := by decide +kernel
theorem dX6_share_44 : decode cX6_share 44 = .ok (.getfield 26, 3) := by decide +kernel
theorem dX6_share_47 : decode cX6_share 47 = .ok (.iload 5, 2) := by decide +kernel
theorem dX6_share_49 : decode cX6_share 49 = .ok (.invokevirtual 94, 3) := by decide +kernel
theorem dX6_share_52 : decode cX6_share 52 = .ok (.aload_n 0, 1) := by decide +kernel
theorem dX6_share_53 : decode cX6_share 53 = .ok (.getfield 26, 3) := by decide +kernel
theorem dX6_share_56 : decode cX6_share 56 = .ok (.getfield 98, 3) := by decide +kernel
theorem dX6_share_59 : decode cX6_share 59 = .ok (.iload 5, 2) := by decide +kernel
theorem dX6_share_61 : decode cX6_share 61 = .ok (.iaload, 1) := by decide +kernel
theorem dX6_share_62 : decode cX6_share 62 = .ok (.invokevirtual 158, 3) := by decide +kernel
theorem dX6_share_65 : decode cX6_share 65 = .ok (.iadd, 1) := by decide +kernel
theorem dX6_share_66 : decode cX6_share 66 = .ok (.istore_n 3, 1) := by decide +kernel
theorem dX6_share_67 : decode cX6_share 67 = .ok (.iload 4, 2) := by decide +kernel
theorem dX6_share_69 : decode cX6_share 69 = .ok (.aload_n 0, 1) := by decide +kernel
theorem dX6_share_70 : decode cX6_share 70 = .ok (.getfield 26, 3) := by decide +kernel
theorem dX6_share_73 : decode cX6_share 73 = .ok (.getfield 98, 3) := by decide +kernel
theorem dX6_share_76 : decode cX6_share 76 = .ok (.iload 5, 2) := by decide +kernel
theorem dX6_share_78 : decode cX6_share 78 = .ok (.iaload, 1) := by decide +kernel
theorem dX6_share_79 : decode cX6_share 79 = .ok (.iadd, 1) := by decide +kernel
theorem dX6_share_80 : decode cX6_share 80 = .ok (.istore 4, 2) := by decide +kernel
theorem dX6_share_82 : decode cX6_share 82 = .ok (.iinc 5 1, 3) := by decide +kernel
theorem dX6_share_85 : decode cX6_share 85 = .ok (.goto (-71), 3) := by decide +kernel
theorem dX6_share_88 : decode cX6_share 88 = .ok (.aload_n 0, 1) := by decide +kernel
theorem dX6_share_89 : decode cX6_share 89 = .ok (.getfield 48, 3) := by decide +kernel
theorem dX6_share_92 : decode cX6_share 92 = .ok (.iload 4, 2) := by decide +kernel
theorem dX6_share_94 : decode cX6_share 94 = .ok (.imul, 1) := by decide +kernel
theorem dX6_share_95 : decode cX6_share 95 = .ok (.istore 5, 2) := by decide +kernel
theorem dX6_share_97 : decode cX6_share 97 = .ok (.iload 5, 2) := by decide +kernel
theorem dX6_share_99 : decode cX6_share 99 = .ok (.ifCond .ne 7, 3) := by decide +kernel
theorem dX6_share_102 : decode cX6_share 102 = .ok (.dconst 1, 1) := by decide +kernel
theorem dX6_share_103 : decode cX6_share 103 = .ok (.goto 9, 3) := by decide +kernel
theorem dX6_share_106 : decode cX6_share 106 = .ok (.iload_n 3, 1) := by decide +kernel
theorem dX6_share_107 : decode cX6_share 107 = .ok (.i2d, 1) := by decide +kernel
theorem dX6_share_108 : decode cX6_share 108 = .ok (.iload 5, 2) := by decide +kernel
theorem dX6_share_110 : decode cX6_share 110 = .ok (.i2d, 1) := by decide +kernel
theorem dX6_share_111 : decode cX6_share 111 = .ok (.ddiv, 1) := by decide +kernel
theorem dX6_share_112 : decode cX6_share 112 = .ok (.dreturn, 1) := by decide +kernel
theorem dX6_learn_0 : decode cX6_learn 0 = .ok (.aload_n 0, 1) := by decide +kernel
theorem dX6_learn_1 : decode cX6_learn 1 = .ok (.iload_n 1, 1) := by decide +kernel
theorem dX6_learn_2 : decode cX6_learn 2 = .ok (.invokevirtual 118, 3) := by decide +kernel
theorem dX6_learn_5 : decode cX6_learn 5 = .ok (.astore_n 3, 1) := by decide +kernel
theorem dX6_learn_6 : decode cX6_learn 6 = .ok (.iload_n 2, 1) := by decide +kernel
theorem dX6_learn_7 : decode cX6_learn 7 = .ok (.iconst 1, 1) := by decide +kernel
theorem dX6_learn_8 : decode cX6_learn 8 = .ok (.if_icmp .lt 9, 3) := by decide +kernel
theorem dX6_learn_11 : decode cX6_learn 11 = .ok (.iload_n 2, 1) := by decide +kernel
theorem dX6_learn_12 : decode cX6_learn 12 = .ok (.bipush 40, 2) := by decide +kernel
theorem dX6_learn_14 : decode cX6_learn 14 = .ok (.if_icmp .le 13, 3) := by decide +kernel
theorem dX6_learn_17 : decode cX6_learn 17 = .ok (.new 52, 3) := by decide +kernel
theorem dX6_learn_20 : decode cX6_learn 20 = .ok (.dup, 1) := by decide +kernel
theorem dX6_learn_21 : decode cX6_learn 21 = .ok (.ldc 207, 2) := by decide +kernel
theorem dX6_learn_23 : decode cX6_learn 23 = .ok (.invokespecial 56, 3) := by decide +kernel
theorem dX6_learn_26 : decode cX6_learn 26 = .ok (.athrow, 1) := by decide +kernel
theorem dX6_learn_27 : decode cX6_learn 27 = .ok (.iconst 0, 1) := by decide +kernel
theorem dX6_learn_28 : decode cX6_learn 28 = .ok (.istore 4, 2) := by decide +kernel
theorem dX6_learn_30 : decode cX6_learn 30 = .ok (.iload 4, 2) := by decide +kernel
theorem dX6_learn_32 : decode cX6_learn 32 = .ok (.iload_n 2, 1) := by decide +kernel
theorem dX6_learn_33 : decode cX6_learn 33 = .ok (.if_icmp .ge 17, 3) := by decide +kernel
theorem dX6_learn_36 : decode cX6_learn 36 = .ok (.aload_n 0, 1) := by decide +kernel
theorem dX6_learn_37 : decode cX6_learn 37 = .ok (.aload_n 3, 1) := by decide +kernel
theorem dX6_learn_38 : decode cX6_learn 38 = .ok (.invokevirtual 209, 3) := by decide +kernel
theorem dX6_learn_41 : decode cX6_learn 41 = .ok (.ifCond .eq 9, 3) := by decide +kernel
theorem dX6_learn_44 : decode cX6_learn 44 = .ok (.iinc 4 1, 3) := by decide +kernel
theorem dX6_learn_47 : decode cX6_learn 47 = .ok (.goto (-17), 3) := by decide +kernel
theorem dX6_learn_50 : decode cX6_learn 50 = .ok (.aload_n 0, 1) := by decide +kernel
theorem dX6_learn_51 : decode cX6_learn 51 = .ok (.getfield 19, 3) := by decide +kernel
theorem dX6_learn_54 : decode cX6_learn 54 = .ok (.invokevirtual 71, 3) := by decide +kernel
theorem dX6_learn_57 : decode cX6_learn 57 = .ok (.iload 4, 2) := by decide +kernel
theorem dX6_learn_59 : decode cX6_learn 59 = .ok (.ireturn, 1) := by decide +kernel
theorem dX6_requireBook_0 : decode cX6_requireBook 0 = .ok (.iload_n 1, 1) := by decide +kernel
theorem dX6_requireBook_1 : decode cX6_requireBook 1 = .ok (.ifCond .lt 8, 3) := by decide +kernel
theorem dX6_requireBook_4 : decode cX6_requireBook 4 = .ok (.iload_n 1, 1) := by decide +kernel
theorem dX6_requireBook_5 : decode cX6_requireBook 5 = .ok (.iconst 3, 1) := by decide +kernel
theorem dX6_requireBook_6 : decode cX6_requireBook 6 = .ok (.if_icmp .lt 13, 3) := by decide +kernel
theorem dX6_requireBook_9 : decode cX6_requireBook 9 = .ok (.new 74, 3) := by decide +kernel
theorem dX6_requireBook_12 : decode cX6_requireBook 12 = .ok (.dup, 1) := by decide +kernel
theorem dX6_requireBook_13 : decode cX6_requireBook 13 = .ok (.ldc 228, 2) := by decide +kernel
theorem dX6_requireBook_15 : decode cX6_requireBook 15 = .ok (.invokespecial 78, 3) := by decide +kernel
theorem dX6_requireBook_18 : decode cX6_requireBook 18 = .ok (.athrow, 1) := by decide +kernel
theorem dX6_requireBook_19 : decode cX6_requireBook 19 = .ok (.aload_n 0, 1) := by decide +kernel
theorem dX6_requireBook_20 : decode cX6_requireBook 20 = .ok (.getfield 11, 3) := by decide +kernel
theorem dX6_requireBook_23 : decode cX6_requireBook 23 = .ok (.iload_n 1, 1) := by decide +kernel
theorem dX6_requireBook_24 : decode cX6_requireBook 24 = .ok (.aaload, 1) := by decide +kernel
theorem dX6_requireBook_25 : decode cX6_requireBook 25 = .ok (.areturn, 1) := by decide +kernel
theorem dX6_requireCode_0 : decode cX6_requireCode 0 = .ok (.iload_n 0, 1) := by decide +kernel
theorem dX6_requireCode_1 : decode cX6_requireCode 1 = .ok (.ifCond .lt 9, 3) := by decide +kernel
theorem dX6_requireCode_4 : decode cX6_requireCode 4 = .ok (.iload_n 0, 1) := by decide +kernel
theorem dX6_requireCode_5 : decode cX6_requireCode 5 = .ok (.ldc 230, 2) := by decide +kernel
theorem dX6_requireCode_7 : decode cX6_requireCode 7 = .ok (.if_icmp .le 13, 3) := by decide +kernel
theorem dX6_requireCode_10 : decode cX6_requireCode 10 = .ok (.new 52, 3) := by decide +kernel
theorem dX6_requireCode_13 : decode cX6_requireCode 13 = .ok (.dup, 1) := by decide +kernel
theorem dX6_requireCode_14 : decode cX6_requireCode 14 = .ok (.ldc 231, 2) := by decide +kernel
theorem dX6_requireCode_16 : decode cX6_requireCode 16 = .ok (.invokespecial 56, 3) := by decide +kernel
theorem dX6_requireCode_19 : decode cX6_requireCode 19 = .ok (.athrow, 1) := by decide +kernel
theorem dX6_requireCode_20 : decode cX6_requireCode 20 = .ok (.return_, 1) := by decide +kernel
theorem dX6_requirePlace_0 : decode cX6_requirePlace 0 = .ok (.iload_n 0, 1) := by decide +kernel
theorem dX6_requirePlace_1 : decode cX6_requirePlace 1 = .ok (.ifCond .lt 8, 3) := by decide +kernel
theorem dX6_requirePlace_4 : decode cX6_requirePlace 4 = .ok (.iload_n 0, 1) := by decide +kernel
theorem dX6_requirePlace_5 : decode cX6_requirePlace 5 = .ok (.iload_n 1, 1) := by decide +kernel
theorem dX6_requirePlace_6 : decode cX6_requirePlace 6 = .ok (.if_icmp .lt 13, 3) := by decide +kernel
theorem dX6_requirePlace_9 : decode cX6_requirePlace 9 = .ok (.new 74, 3) := by decide +kernel
theorem dX6_requirePlace_12 : decode cX6_requirePlace 12 = .ok (.dup, 1) := by decide +kernel
theorem dX6_requirePlace_13 : decode cX6_requirePlace 13 = .ok (.ldc 233, 2) := by decide +kernel
theorem dX6_requirePlace_15 : decode cX6_requirePlace 15 = .ok (.invokespecial 78, 3) := by decide +kernel
theorem dX6_requirePlace_18 : decode cX6_requirePlace 18 = .ok (.athrow, 1) := by decide +kernel
theorem dX6_requirePlace_19 : decode cX6_requirePlace 19 = .ok (.return_, 1) := by decide +kernel
theorem dX6_requireEntry_0 : decode cX6_requireEntry 0 = .ok (.iload_n 1, 1) := by decide +kernel
theorem dX6_requireEntry_1 : decode cX6_requireEntry 1 = .ok (.ifCond .lt 11, 3) := by decide +kernel
theorem dX6_requireEntry_4 : decode cX6_requireEntry 4 = .ok (.iload_n 1, 1) := by decide +kernel
theorem dX6_requireEntry_5 : decode cX6_requireEntry 5 = .ok (.aload_n 0, 1) := by decide +kernel
theorem dX6_requireEntry_6 : decode cX6_requireEntry 6 = .ok (.getfield 135, 3) := by decide +kernel
theorem dX6_requireEntry_9 : decode cX6_requireEntry 9 = .ok (.if_icmp .lt 13, 3) := by decide +kernel
theorem dX6_requireEntry_12 : decode cX6_requireEntry 12 = .ok (.new 74, 3) := by decide +kernel
theorem dX6_requireEntry_15 : decode cX6_requireEntry 15 = .ok (.dup, 1) := by decide +kernel
theorem dX6_requireEntry_16 : decode cX6_requireEntry 16 = .ok (.ldc 235, 2) := by decide +kernel
theorem dX6_requireEntry_18 : decode cX6_requireEntry 18 = .ok (.invokespecial 78, 3) := by decide +kernel
theorem dX6_requireEntry_21 : decode cX6_requireEntry 21 = .ok (.athrow, 1) := by decide +kernel
theorem dX6_requireEntry_22 : decode cX6_requireEntry 22 = .ok (.return_, 1) := by decide +kernel
theorem dX6_requireGroup_0 : decode cX6_requireGroup 0 = .ok (.iload_n 1, 1) := by decide +kernel
theorem dX6_requireGroup_1 : decode cX6_requireGroup 1 = .ok (.ifCond .lt 14, 3) := by decide +kernel
theorem dX6_requireGroup_4 : decode cX6_requireGroup 4 = .ok (.iload_n 1, 1) := by decide +kernel
theorem dX6_requireGroup_5 : decode cX6_requireGroup 5 = .ok (.aload_n 0, 1) := by decide +kernel
theorem dX6_requireGroup_6 : decode cX6_requireGroup 6 = .ok (.getfield 33, 3) := by decide +kernel
theorem dX6_requireGroup_9 : decode cX6_requireGroup 9 = .ok (.getfield 170, 3) := by decide +kernel
theorem dX6_requireGroup_12 : decode cX6_requireGroup 12 = .ok (.if_icmp .lt 13, 3) := by decide +kernel
theorem dX6_requireGroup_15 : decode cX6_requireGroup 15 = .ok (.new 74, 3) := by decide +kernel
theorem dX6_requireGroup_18 : decode cX6_requireGroup 18 = .ok (.dup, 1) := by decide +kernel
theorem dX6_requireGroup_19 : decode cX6_requireGroup 19 = .ok (.ldc 237, 2) := by decide +kernel
theorem dX6_requireGroup_21 : decode cX6_requireGroup 21 = .ok (.invokespecial 78, 3) := by decide +kernel
theorem dX6_requireGroup_24 : decode cX6_requireGroup 24 = .ok (.athrow, 1) := by decide +kernel
theorem dX6_requireGroup_25 : decode cX6_requireGroup 25 = .ok (.return_, 1) := by decide +kernel
theorem dX6_requireCodeWord_0 : decode cX6_requireCodeWord 0 = .ok (.aload_n 0, 1) := by decide +kernel
theorem dX6_requireCodeWord_1 : decode cX6_requireCodeWord 1 = .ok (.getfield 33, 3) := by decide +kernel
theorem dX6_requireCodeWord_4 : decode cX6_requireCodeWord 4 = .ok (.getfield 174, 3) := by decide +kernel
theorem dX6_requireCodeWord_7 : decode cX6_requireCodeWord 7 = .ok (.iload_n 1, 1) := by decide +kernel
theorem dX6_requireCodeWord_8 : decode cX6_requireCodeWord 8 = .ok (.iaload, 1) := by decide +kernel
theorem dX6_requireCodeWord_9 : decode cX6_requireCodeWord 9 = .ok (.invokestatic 239, 3) := by decide +kernel
theorem dX6_requireCodeWord_12 : decode cX6_requireCodeWord 12 = .ok (.ifCond .eq 13, 3) := by decide +kernel
theorem dX6_requireCodeWord_15 : decode cX6_requireCodeWord 15 = .ok (.new 62, 3) := by decide +kernel
theorem dX6_requireCodeWord_18 : decode cX6_requireCodeWord 18 = .ok (.dup, 1) := by decide +kernel
theorem dX6_requireCodeWord_19 : decode cX6_requireCodeWord 19 = .ok (.ldc 243, 2) := by decide +kernel
theorem dX6_requireCodeWord_21 : decode cX6_requireCodeWord 21 = .ok (.invokespecial 66, 3) := by decide +kernel
theorem dX6_requireCodeWord_24 : decode cX6_requireCodeWord 24 = .ok (.athrow, 1) := by decide +kernel
theorem dX6_requireCodeWord_25 : decode cX6_requireCodeWord 25 = .ok (.return_, 1) := by decide +kernel
theorem dX6_read_0 : decode cX6_read 0 = .ok (.iload_n 2, 1) := by decide +kernel
theorem dX6_read_1 : decode cX6_read 1 = .ok (.invokestatic 239, 3) := by decide +kernel
theorem dX6_read_4 : decode cX6_read 4 = .ok (.ifCond .eq 16, 3) := by decide +kernel
theorem dX6_read_7 : decode cX6_read 7 = .ok (.aload_n 0, 1) := by decide +kernel
theorem dX6_read_8 : decode cX6_read 8 = .ok (.getfield 19, 3) := by decide +kernel
theorem dX6_read_11 : decode cX6_read 11 = .ok (.iload_n 2, 1) := by decide +kernel
theorem dX6_read_12 : decode cX6_read 12 = .ok (.invokestatic 245, 3) := by decide +kernel
theorem dX6_read_15 : decode cX6_read 15 = .ok (.invokevirtual 67, 3) := by decide +kernel
theorem dX6_read_18 : decode cX6_read 18 = .ok (.iconst 0, 1) := by decide +kernel
theorem dX6_read_19 : decode cX6_read 19 = .ok (.ireturn, 1) := by decide +kernel
theorem dX6_read_20 : decode cX6_read 20 = .ok (.iconst 1, 1) := by decide +kernel
theorem dX6_read_21 : decode cX6_read 21 = .ok (.istore_n 3, 1) := by decide +kernel
theorem dX6_read_22 : decode cX6_read 22 = .ok (.aload_n 1, 1) := by decide +kernel
theorem dX6_read_23 : decode cX6_read 23 = .ok (.iload_n 2, 1) := by decide +kernel
theorem dX6_read_24 : decode cX6_read 24 = .ok (.invokevirtual 153, 3) := by decide +kernel
theorem dX6_read_27 : decode cX6_read 27 = .ok (.istore 4, 2) := by decide +kernel
theorem dX6_read_29 : decode cX6_read 29 = .ok (.iload 4, 2) := by decide +kernel
theorem dX6_read_31 : decode cX6_read 31 = .ok (.iconst (-1), 1) := by decide +kernel
theorem dX6_read_32 : decode cX6_read 32 = .ok (.if_icmp .ne 12, 3) := by decide +kernel
theorem dX6_read_35 : decode cX6_read 35 = .ok (.iconst 2, 1) := by decide +kernel
theorem dX6_read_36 : decode cX6_read 36 = .ok (.istore_n 3, 1) := by decide +kernel
theorem dX6_read_37 : decode cX6_read 37 = .ok (.aload_n 1, 1) := by decide +kernel
theorem dX6_read_38 : decode cX6_read 38 = .ok (.iload_n 2, 1) := by decide +kernel
theorem dX6_read_39 : decode cX6_read 39 = .ok (.invokevirtual 248, 3) := by decide +kernel
theorem dX6_read_42 : decode cX6_read 42 = .ok (.istore 4, 2) := by decide +kernel
theorem dX6_read_44 : decode cX6_read 44 = .ok (.iload 4, 2) := by decide +kernel
theorem dX6_read_46 : decode cX6_read 46 = .ok (.iconst (-1), 1) := by decide +kernel
theorem dX6_read_47 : decode cX6_read 47 = .ok (.if_icmp .ne 5, 3) := by decide +kernel
theorem dX6_read_50 : decode cX6_read 50 = .ok (.iconst 3, 1) := by decide +kernel
theorem dX6_read_51 : decode cX6_read 51 = .ok (.ireturn, 1) := by decide +kernel
theorem dX6_read_52 : decode cX6_read 52 = .ok (.aload_n 0, 1) := by decide +kernel
theorem dX6_read_53 : decode cX6_read 53 = .ok (.getfield 19, 3) := by decide +kernel
theorem dX6_read_56 : decode cX6_read 56 = .ok (.aload_n 1, 1) := by decide +kernel
theorem dX6_read_57 : decode cX6_read 57 = .ok (.getfield 149, 3) := by decide +kernel
theorem dX6_read_60 : decode cX6_read 60 = .ok (.iload 4, 2) := by decide +kernel
theorem dX6_read_62 : decode cX6_read 62 = .ok (.invokestatic 152, 3) := by decide +kernel
theorem dX6_read_65 : decode cX6_read 65 = .ok (.aload_n 1, 1) := by decide +kernel
theorem dX6_read_66 : decode cX6_read 66 = .ok (.getfield 146, 3) := by decide +kernel
theorem dX6_read_69 : decode cX6_read 69 = .ok (.iload 4, 2) := by decide +kernel
theorem dX6_read_71 : decode cX6_read 71 = .ok (.iaload, 1) := by decide +kernel
theorem dX6_read_72 : decode cX6_read 72 = .ok (.invokevirtual 101, 3) := by decide +kernel
theorem dX6_read_75 : decode cX6_read 75 = .ok (.iload_n 3, 1) := by decide +kernel
theorem dX6_read_76 : decode cX6_read 76 = .ok (.ireturn, 1) := by decide +kernel
theorem dX6_learnOne_0 : decode cX6_learnOne 0 = .ok (.aload_n 0, 1) := by decide +kernel
theorem dX6_learnOne_1 : decode cX6_learnOne 1 = .ok (.getfield 26, 3) := by decide +kernel
theorem dX6_learnOne_4 : decode cX6_learnOne 4 = .ok (.aload_n 0, 1) := by decide +kernel
theorem dX6_learnOne_5 : decode cX6_learnOne 5 = .ok (.getfield 19, 3) := by decide +kernel
theorem dX6_learnOne_8 : decode cX6_learnOne 8 = .ok (.aload_n 1, 1) := by decide +kernel
theorem dX6_learnOne_9 : decode cX6_learnOne 9 = .ok (.aload_n 0, 1) := by decide +kernel
theorem dX6_learnOne_10 : decode cX6_learnOne 10 = .ok (.getfield 48, 3) := by decide +kernel
theorem dX6_learnOne_13 : decode cX6_learnOne 13 = .ok (.invokevirtual 203, 3) := by decide +kernel
theorem dX6_learnOne_16 : decode cX6_learnOne 16 = .ok (.ifCond .ne 5, 3) := by decide +kernel
theorem dX6_learnOne_19 : decode cX6_learnOne 19 = .ok (.iconst 0, 1) := by decide +kernel
theorem dX6_learnOne_20 : decode cX6_learnOne 20 = .ok (.ireturn, 1) := by decide +kernel
theorem dX6_learnOne_21 : decode cX6_learnOne 21 = .ok (.aload_n 1, 1) := by decide +kernel
theorem dX6_learnOne_22 : decode cX6_learnOne 22 = .ok (.aload_n 1, 1) := by decide +kernel
theorem dX6_learnOne_23 : decode cX6_learnOne 23 = .ok (.invokevirtual 251, 3) := by decide +kernel
theorem dX6_learnOne_26 : decode cX6_learnOne 26 = .ok (.invokevirtual 125, 3) := by decide +kernel
theorem dX6_learnOne_29 : decode cX6_learnOne 29 = .ok (.istore_n 2, 1) := by decide +kernel
theorem dX6_learnOne_30 : decode cX6_learnOne 30 = .ok (.iload_n 2, 1) := by decide +kernel
theorem dX6_learnOne_31 : decode cX6_learnOne 31 = .ok (.iconst (-1), 1) := by decide +kernel
theorem dX6_learnOne_32 : decode cX6_learnOne 32 = .ok (.if_icmp .ne 5, 3) := by decide +kernel
theorem dX6_learnOne_35 : decode cX6_learnOne 35 = .ok (.iconst 0, 1) := by decide +kernel
theorem dX6_learnOne_36 : decode cX6_learnOne 36 = .ok (.ireturn, 1) := by decide +kernel
theorem dX6_learnOne_37 : decode cX6_learnOne 37 = .ok (.aload_n 1, 1) := by decide +kernel
theorem dX6_learnOne_38 : decode cX6_learnOne 38 = .ok (.iload_n 2, 1) := by decide +kernel
theorem dX6_learnOne_39 : decode cX6_learnOne 39 = .ok (.aload_n 0, 1) := by decide +kernel
theorem dX6_learnOne_40 : decode cX6_learnOne 40 = .ok (.getfield 19, 3) := by decide +kernel
theorem dX6_learnOne_43 : decode cX6_learnOne 43 = .ok (.invokevirtual 132, 3) := by decide +kernel
theorem dX6_learnOne_46 : decode cX6_learnOne 46 = .ok (.iconst 1, 1) := by decide +kernel
theorem dX6_learnOne_47 : decode cX6_learnOne 47 = .ok (.ireturn, 1) := by decide +kernel
theorem dX6_sameWords_0 : decode cX6_sameWords 0 = .ok (.iload_n 1, 1) := by decide +kernel
theorem dX6_sameWords_1 : decode cX6_sameWords 1 = .ok (.ifCond .lt 25, 3) := by decide +kernel
theorem dX6_sameWords_4 : decode cX6_sameWords 4 = .ok (.iload_n 1, 1) := by decide +kernel
theorem dX6_sameWords_5 : decode cX6_sameWords 5 = .ok (.iload 4, 2) := by decide +kernel
theorem dX6_sameWords_7 : decode cX6_sameWords 7 = .ok (.iadd, 1) := by decide +kernel
theorem dX6_sameWords_8 : decode cX6_sameWords 8 = .ok (.aload_n 0, 1) := by decide +kernel
theorem dX6_sameWords_9 : decode cX6_sameWords 9 = .ok (.arraylength, 1) := by decide +kernel
theorem dX6_sameWords_10 : decode cX6_sameWords 10 = .ok (.if_icmp .gt 16, 3) := by decide +kernel
theorem dX6_sameWords_13 : decode cX6_sameWords 13 = .ok (.iload_n 3, 1) := by decide +kernel
theorem dX6_sameWords_14 : decode cX6_sameWords 14 = .ok (.ifCond .lt 12, 3) := by decide +kernel
theorem dX6_sameWords_17 : decode cX6_sameWords 17 = .ok (.iload_n 3, 1) := by decide +kernel
theorem dX6_sameWords_18 : decode cX6_sameWords 18 = .ok (.iload 4, 2) := by decide +kernel
theorem dX6_sameWords_20 : decode cX6_sameWords 20 = .ok (.iadd, 1) := by decide +kernel
theorem dX6_sameWords_21 : decode cX6_sameWords 21 = .ok (.aload_n 2, 1) := by decide +kernel
theorem dX6_sameWords_22 : decode cX6_sameWords 22 = .ok (.arraylength, 1) := by decide +kernel
theorem dX6_sameWords_23 : decode cX6_sameWords 23 = .ok (.if_icmp .le 5, 3) := by decide +kernel
theorem dX6_sameWords_26 : decode cX6_sameWords 26 = .ok (.iconst 0, 1) := by decide +kernel
theorem dX6_sameWords_27 : decode cX6_sameWords 27 = .ok (.ireturn, 1) := by decide +kernel
theorem dX6_sameWords_28 : decode cX6_sameWords 28 = .ok (.iconst 0, 1) := by decide +kernel
theorem dX6_sameWords_29 : decode cX6_sameWords 29 = .ok (.istore 5, 2) := by decide +kernel
theorem dX6_sameWords_31 : decode cX6_sameWords 31 = .ok (.iload 5, 2) := by decide +kernel
theorem dX6_sameWords_33 : decode cX6_sameWords 33 = .ok (.iload 4, 2) := by decide +kernel
theorem dX6_sameWords_35 : decode cX6_sameWords 35 = .ok (.if_icmp .ge 26, 3) := by decide +kernel
theorem dX6_sameWords_38 : decode cX6_sameWords 38 = .ok (.aload_n 0, 1) := by decide +kernel
theorem dX6_sameWords_39 : decode cX6_sameWords 39 = .ok (.iload_n 1, 1) := by decide +kernel
theorem dX6_sameWords_40 : decode cX6_sameWords 40 = .ok (.iload 5, 2) := by decide +kernel
theorem dX6_sameWords_42 : decode cX6_sameWords 42 = .ok (.iadd, 1) := by decide +kernel
theorem dX6_sameWords_43 : decode cX6_sameWords 43 = .ok (.iaload, 1) := by decide +kernel
theorem dX6_sameWords_44 : decode cX6_sameWords 44 = .ok (.aload_n 2, 1) := by decide +kernel
theorem dX6_sameWords_45 : decode cX6_sameWords 45 = .ok (.iload_n 3, 1) := by decide +kernel
theorem dX6_sameWords_46 : decode cX6_sameWords 46 = .ok (.iload 5, 2) := by decide +kernel
theorem dX6_sameWords_48 : decode cX6_sameWords 48 = .ok (.iadd, 1) := by decide +kernel
theorem dX6_sameWords_49 : decode cX6_sameWords 49 = .ok (.iaload, 1) := by decide +kernel
theorem dX6_sameWords_50 : decode cX6_sameWords 50 = .ok (.if_icmp .eq 5, 3) := by decide +kernel
theorem dX6_sameWords_53 : decode cX6_sameWords 53 = .ok (.iconst 0, 1) := by decide +kernel
theorem dX6_sameWords_54 : decode cX6_sameWords 54 = .ok (.ireturn, 1) := by decide +kernel
theorem dX6_sameWords_55 : decode cX6_sameWords 55 = .ok (.iinc 5 1, 3) := by decide +kernel
theorem dX6_sameWords_58 : decode cX6_sameWords 58 = .ok (.goto (-27), 3) := by decide +kernel
theorem dX6_sameWords_61 : decode cX6_sameWords 61 = .ok (.iconst 1, 1) := by decide +kernel
theorem dX6_sameWords_62 : decode cX6_sameWords 62 = .ok (.ireturn, 1) := by decide +kernel
theorem dJ9_floorMod_7cf53_0 : decode cJ9_floorMod_7cf53 0 = .ok (.iload_n 0, 1) := by decide +kernel
theorem dJ9_floorMod_7cf53_1 : decode cJ9_floorMod_7cf53 1 = .ok (.iload_n 1, 1) := by decide +kernel
theorem dJ9_floorMod_7cf53_2 : decode cJ9_floorMod_7cf53 2 = .ok (.irem, 1) := by decide +kernel
theorem dJ9_floorMod_7cf53_3 : decode cJ9_floorMod_7cf53 3 = .ok (.istore_n 2, 1) := by decide +kernel
theorem dJ9_floorMod_7cf53_4 : decode cJ9_floorMod_7cf53 4 = .ok (.iload_n 0, 1) := by decide +kernel
theorem dJ9_floorMod_7cf53_5 : decode cJ9_floorMod_7cf53 5 = .ok (.iload_n 1, 1) := by decide +kernel
theorem dJ9_floorMod_7cf53_6 : decode cJ9_floorMod_7cf53 6 = .ok (.ixor, 1) := by decide +kernel
theorem dJ9_floorMod_7cf53_7 : decode cJ9_floorMod_7cf53 7 = .ok (.ifCond .ge 11, 3) := by decide +kernel
theorem dJ9_floorMod_7cf53_10 : decode cJ9_floorMod_7cf53 10 = .ok (.iload_n 2, 1) := by decide +kernel
theorem dJ9_floorMod_7cf53_11 : decode cJ9_floorMod_7cf53 11 = .ok (.ifCond .eq 7, 3) := by decide +kernel
theorem dJ9_floorMod_7cf53_14 : decode cJ9_floorMod_7cf53 14 = .ok (.iload_n 2, 1) := by decide +kernel
theorem dJ9_floorMod_7cf53_15 : decode cJ9_floorMod_7cf53 15 = .ok (.iload_n 1, 1) := by decide +kernel
theorem dJ9_floorMod_7cf53_16 : decode cJ9_floorMod_7cf53 16 = .ok (.iadd, 1) := by decide +kernel
theorem dJ9_floorMod_7cf53_17 : decode cJ9_floorMod_7cf53 17 = .ok (.ireturn, 1) := by decide +kernel
theorem dJ9_floorMod_7cf53_18 : decode cJ9_floorMod_7cf53 18 = .ok (.iload_n 2, 1) := by decide +kernel
theorem dJ9_floorMod_7cf53_19 : decode cJ9_floorMod_7cf53 19 = .ok (.ireturn, 1) := by decide +kernel
theorem dJ7_fill_53178_0 : decode cJ7_fill_53178 0 = .ok (.iconst 0, 1) := by decide +kernel
theorem dJ7_fill_53178_1 : decode cJ7_fill_53178 1 = .ok (.istore_n 2, 1) := by decide +kernel
theorem dJ7_fill_53178_2 : decode cJ7_fill_53178 2 = .ok (.aload_n 0, 1) := by decide +kernel
theorem dJ7_fill_53178_3 : decode cJ7_fill_53178 3 = .ok (.arraylength, 1) := by decide +kernel
theorem dJ7_fill_53178_4 : decode cJ7_fill_53178 4 = .ok (.istore_n 3, 1) := by decide +kernel
theorem dJ7_fill_53178_5 : decode cJ7_fill_53178 5 = .ok (.iload_n 2, 1) := by decide +kernel
theorem dJ7_fill_53178_6 : decode cJ7_fill_53178 6 = .ok (.iload_n 3, 1) := by decide +kernel
theorem dJ7_fill_53178_7 : decode cJ7_fill_53178 7 = .ok (.if_icmp .ge 13, 3) := by decide +kernel
theorem dJ7_fill_53178_10 : decode cJ7_fill_53178 10 = .ok (.aload_n 0, 1) := by decide +kernel
theorem dJ7_fill_53178_11 : decode cJ7_fill_53178 11 = .ok (.iload_n 2, 1) := by decide +kernel
theorem dJ7_fill_53178_12 : decode cJ7_fill_53178 12 = .ok (.iload_n 1, 1) := by decide +kernel
theorem dJ7_fill_53178_13 : decode cJ7_fill_53178 13 = .ok (.iastore, 1) := by decide +kernel
theorem dJ7_fill_53178_14 : decode cJ7_fill_53178 14 = .ok (.iinc 2 1, 3) := by decide +kernel
theorem dJ7_fill_53178_17 : decode cJ7_fill_53178 17 = .ok (.goto (-12), 3) := by decide +kernel
theorem dJ7_fill_53178_20 : decode cJ7_fill_53178 20 = .ok (.return_, 1) := by decide +kernel
theorem dL_below_0 : decode cL_below 0 = .ok (.iload_n 0, 1) := by decide +kernel
theorem dL_below_1 : decode cL_below 1 = .ok (.ldc 7, 2) := by decide +kernel
theorem dL_below_3 : decode cL_below 3 = .ok (.iand, 1) := by decide +kernel
theorem dL_below_4 : decode cL_below 4 = .ok (.iload_n 1, 1) := by decide +kernel
theorem dL_below_5 : decode cL_below 5 = .ok (.irem, 1) := by decide +kernel
theorem dL_below_6 : decode cL_below 6 = .ok (.ireturn, 1) := by decide +kernel
theorem dL_cell_0 : decode cL_cell 0 = .ok (.iload_n 1, 1) := by decide +kernel
theorem dL_cell_1 : decode cL_cell 1 = .ok (.aload_n 0, 1) := by decide +kernel
theorem dL_cell_2 : decode cL_cell 2 = .ok (.arraylength, 1) := by decide +kernel
theorem dL_cell_3 : decode cL_cell 3 = .ok (.if_icmp .ge 9, 3) := by decide +kernel
theorem dL_cell_6 : decode cL_cell 6 = .ok (.aload_n 0, 1) := by decide +kernel
theorem dL_cell_7 : decode cL_cell 7 = .ok (.iload_n 1, 1) := by decide +kernel
theorem dL_cell_8 : decode cL_cell 8 = .ok (.iaload, 1) := by decide +kernel
theorem dL_cell_9 : decode cL_cell 9 = .ok (.goto 9, 3) := by decide +kernel
theorem dL_cell_12 : decode cL_cell 12 = .ok (.ldc 8, 2) := by decide +kernel
theorem dL_cell_14 : decode cL_cell 14 = .ok (.iload_n 1, 1) := by decide +kernel
theorem dL_cell_15 : decode cL_cell 15 = .ok (.iconst 3, 1) := by decide +kernel
theorem dL_cell_16 : decode cL_cell 16 = .ok (.iadd, 1) := by decide +kernel
theorem dL_cell_17 : decode cL_cell 17 = .ok (.imul, 1) := by decide +kernel
theorem dL_cell_18 : decode cL_cell 18 = .ok (.ireturn, 1) := by decide +kernel
theorem dL_letter_0 : decode cL_letter 0 = .ok (.iload_n 0, 1) := by decide +kernel
theorem dL_letter_1 : decode cL_letter 1 = .ok (.istore_n 2, 1) := by decide +kernel
theorem dL_letter_2 : decode cL_letter 2 = .ok (.iconst 4, 1) := by decide +kernel
theorem dL_letter_3 : decode cL_letter 3 = .ok (.istore_n 3, 1) := by decide +kernel
theorem dL_letter_4 : decode cL_letter 4 = .ok (.iload_n 3, 1) := by decide +kernel
theorem dL_letter_5 : decode cL_letter 5 = .ok (.iload_n 1, 1) := by decide +kernel
theorem dL_letter_6 : decode cL_letter 6 = .ok (.if_icmp .le 14, 3) := by decide +kernel
theorem dL_letter_9 : decode cL_letter 9 = .ok (.iload_n 2, 1) := by decide +kernel
theorem dL_letter_10 : decode cL_letter 10 = .ok (.bipush 26, 2) := by decide +kernel
theorem dL_letter_12 : decode cL_letter 12 = .ok (.idiv, 1) := by decide +kernel
theorem dL_letter_13 : decode cL_letter 13 = .ok (.istore_n 2, 1) := by decide +kernel
theorem dL_letter_14 : decode cL_letter 14 = .ok (.iinc 3 (-1), 3) := by decide +kernel
theorem dL_letter_17 : decode cL_letter 17 = .ok (.goto (-13), 3) := by decide +kernel
theorem dL_letter_20 : decode cL_letter 20 = .ok (.iload_n 2, 1) := by decide +kernel
theorem dL_letter_21 : decode cL_letter 21 = .ok (.bipush 26, 2) := by decide +kernel
theorem dL_letter_23 : decode cL_letter 23 = .ok (.irem, 1) := by decide +kernel
theorem dL_letter_24 : decode cL_letter 24 = .ok (.ireturn, 1) := by decide +kernel
theorem dL_off_0 : decode cL_off 0 = .ok (.iconst 0, 1) := by decide +kernel
theorem dL_off_1 : decode cL_off 1 = .ok (.istore_n 2, 1) := by decide +kernel
theorem dL_off_2 : decode cL_off 2 = .ok (.iconst (-1), 1) := by decide +kernel
theorem dL_off_3 : decode cL_off 3 = .ok (.istore_n 3, 1) := by decide +kernel
theorem dL_off_4 : decode cL_off 4 = .ok (.iconst (-1), 1) := by decide +kernel
theorem dL_off_5 : decode cL_off 5 = .ok (.istore 4, 2) := by decide +kernel
theorem dL_off_7 : decode cL_off 7 = .ok (.iconst 0, 1) := by decide +kernel
theorem dL_off_8 : decode cL_off 8 = .ok (.istore 5, 2) := by decide +kernel
theorem dL_off_10 : decode cL_off 10 = .ok (.iload 5, 2) := by decide +kernel
theorem dL_off_12 : decode cL_off 12 = .ok (.iconst 5, 1) := by decide +kernel
theorem dL_off_13 : decode cL_off 13 = .ok (.if_icmp .ge 41, 3) := by decide +kernel
theorem dL_off_16 : decode cL_off 16 = .ok (.iload_n 0, 1) := by decide +kernel
theorem dL_off_17 : decode cL_off 17 = .ok (.iload 5, 2) := by decide +kernel
theorem dL_off_19 : decode cL_off 19 = .ok (.invokestatic 9, 3) := by decide +kernel
theorem dL_off_22 : decode cL_off 22 = .ok (.iload_n 1, 1) := by decide +kernel
theorem dL_off_23 : decode cL_off 23 = .ok (.iload 5, 2) := by decide +kernel
theorem dL_off_25 : decode cL_off 25 = .ok (.invokestatic 9, 3) := by decide +kernel
theorem dL_off_28 : decode cL_off 28 = .ok (.if_icmp .ne 6, 3) := by decide +kernel
theorem dL_off_31 : decode cL_off 31 = .ok (.goto 17, 3) := by decide +kernel
theorem dL_off_34 : decode cL_off 34 = .ok (.iinc 2 1, 3) := by decide +kernel
theorem dL_off_37 : decode cL_off 37 = .ok (.iload_n 3, 1) := by decide +kernel
theorem dL_off_38 : decode cL_off 38 = .ok (.ifCond .ge 6, 3) := by decide +kernel
theorem dL_off_41 : decode cL_off 41 = .ok (.iload 5, 2) := by decide +kernel
theorem dL_off_43 : decode cL_off 43 = .ok (.istore_n 3, 1) := by decide +kernel
theorem dL_off_44 : decode cL_off 44 = .ok (.iload 5, 2) := by decide +kernel
theorem dL_off_46 : decode cL_off 46 = .ok (.istore 4, 2) := by decide +kernel
theorem dL_off_48 : decode cL_off 48 = .ok (.iinc 5 1, 3) := by decide +kernel
theorem dL_off_51 : decode cL_off 51 = .ok (.goto (-41), 3) := by decide +kernel
theorem dL_off_54 : decode cL_off 54 = .ok (.iload_n 2, 1) := by decide +kernel
theorem dL_off_55 : decode cL_off 55 = .ok (.iconst 2, 1) := by decide +kernel
theorem dL_off_56 : decode cL_off 56 = .ok (.if_icmp .ge 5, 3) := by decide +kernel
theorem dL_off_59 : decode cL_off 59 = .ok (.iload_n 2, 1) := by decide +kernel
theorem dL_off_60 : decode cL_off 60 = .ok (.ireturn, 1) := by decide +kernel
theorem dL_off_61 : decode cL_off 61 = .ok (.iload_n 2, 1) := by decide +kernel
theorem dL_off_62 : decode cL_off 62 = .ok (.iconst 2, 1) := by decide +kernel
theorem dL_off_63 : decode cL_off 63 = .ok (.if_icmp .ne 43, 3) := by decide +kernel
theorem dL_off_66 : decode cL_off 66 = .ok (.iload 4, 2) := by decide +kernel
theorem dL_off_68 : decode cL_off 68 = .ok (.iload_n 3, 1) := by decide +kernel
theorem dL_off_69 : decode cL_off 69 = .ok (.iconst 1, 1) := by decide +kernel
theorem dL_off_70 : decode cL_off 70 = .ok (.iadd, 1) := by decide +kernel
theorem dL_off_71 : decode cL_off 71 = .ok (.if_icmp .ne 35, 3) := by decide +kernel
theorem dL_off_74 : decode cL_off 74 = .ok (.iload_n 0, 1) := by decide +kernel
theorem dL_off_75 : decode cL_off 75 = .ok (.iload_n 3, 1) := by decide +kernel
theorem dL_off_76 : decode cL_off 76 = .ok (.invokestatic 9, 3) := by decide +kernel
theorem dL_off_79 : decode cL_off 79 = .ok (.iload_n 1, 1) := by decide +kernel
theorem dL_off_80 : decode cL_off 80 = .ok (.iload 4, 2) := by decide +kernel
theorem dL_off_82 : decode cL_off 82 = .ok (.invokestatic 9, 3) := by decide +kernel
theorem dL_off_85 : decode cL_off 85 = .ok (.if_icmp .ne 21, 3) := by decide +kernel
theorem dL_off_88 : decode cL_off 88 = .ok (.iload_n 0, 1) := by decide +kernel
theorem dL_off_89 : decode cL_off 89 = .ok (.iload 4, 2) := by decide +kernel
theorem dL_off_91 : decode cL_off 91 = .ok (.invokestatic 9, 3) := by decide +kernel
theorem dL_off_94 : decode cL_off 94 = .ok (.iload_n 1, 1) := by decide +kernel
theorem dL_off_95 : decode cL_off 95 = .ok (.iload_n 3, 1) := by decide +kernel
theorem dL_off_96 : decode cL_off 96 = .ok (.invokestatic 9, 3) := by decide +kernel
theorem dL_off_99 : decode cL_off 99 = .ok (.if_icmp .ne 7, 3) := by decide +kernel
theorem dL_off_102 : decode cL_off 102 = .ok (.iconst 2, 1) := by decide +kernel
theorem dL_off_103 : decode cL_off 103 = .ok (.goto 4, 3) := by decide +kernel
theorem dL_off_106 : decode cL_off 106 = .ok (.iconst 3, 1) := by decide +kernel
theorem dL_off_107 : decode cL_off 107 = .ok (.ireturn, 1) := by decide +kernel
theorem dL_keep_0 : decode cL_keep 0 = .ok (.iconst 1, 1) := by decide +kernel
theorem dL_keep_1 : decode cL_keep 1 = .ok (.aload_n 1, 1) := by decide +kernel
theorem dL_keep_2 : decode cL_keep 2 = .ok (.iload_n 2, 1) := by decide +kernel
theorem dL_keep_3 : decode cL_keep 3 = .ok (.invokestatic 15, 3) := by decide +kernel
theorem dL_keep_6 : decode cL_keep 6 = .ok (.bipush 6, 2) := by decide +kernel
theorem dL_keep_8 : decode cL_keep 8 = .ok (.invokestatic 19, 3) := by decide +kernel
theorem dL_keep_11 : decode cL_keep 11 = .ok (.iadd, 1) := by decide +kernel
theorem dL_keep_12 : decode cL_keep 12 = .ok (.istore 5, 2) := by decide +kernel
theorem dL_keep_14 : decode cL_keep 14 = .ok (.iconst 0, 1) := by decide +kernel
theorem dL_keep_15 : decode cL_keep 15 = .ok (.istore 6, 2) := by decide +kernel
theorem dL_keep_17 : decode cL_keep 17 = .ok (.iload 6, 2) := by decide +kernel
theorem dL_keep_19 : decode cL_keep 19 = .ok (.iload 5, 2) := by decide +kernel
theorem dL_keep_21 : decode cL_keep 21 = .ok (.if_icmp .ge 126, 3) := by decide +kernel
theorem dL_keep_24 : decode cL_keep 24 = .ok (.iconst 1, 1) := by decide +kernel
theorem dL_keep_25 : decode cL_keep 25 = .ok (.aload_n 1, 1) := by decide +kernel
theorem dL_keep_26 : decode cL_keep 26 = .ok (.iload_n 2, 1) := by decide +kernel
theorem dL_keep_27 : decode cL_keep 27 = .ok (.iconst 1, 1) := by decide +kernel
theorem dL_keep_28 : decode cL_keep 28 = .ok (.iadd, 1) := by decide +kernel
theorem dL_keep_29 : decode cL_keep 29 = .ok (.invokestatic 15, 3) := by decide +kernel
theorem dL_keep_32 : decode cL_keep 32 = .ok (.iconst 4, 1) := by decide +kernel
theorem dL_keep_33 : decode cL_keep 33 = .ok (.iload 6, 2) := by decide +kernel
theorem dL_keep_35 : decode cL_keep 35 = .ok (.imul, 1) := by decide +kernel
theorem dL_keep_36 : decode cL_keep 36 = .ok (.ishr, 1) := by decide +kernel
theorem dL_keep_37 : decode cL_keep 37 = .ok (.bipush 14, 2) := by decide +kernel
theorem dL_keep_39 : decode cL_keep 39 = .ok (.invokestatic 19, 3) := by decide +kernel
theorem dL_keep_42 : decode cL_keep 42 = .ok (.iadd, 1) := by decide +kernel
theorem dL_keep_43 : decode cL_keep 43 = .ok (.istore 7, 2) := by decide +kernel
theorem dL_keep_45 : decode cL_keep 45 = .ok (.aload 4, 2) := by decide +kernel
theorem dL_keep_47 : decode cL_keep 47 = .ok (.bipush 41, 2) := by decide +kernel
theorem dL_keep_49 : decode cL_keep 49 = .ok (.iload 6, 2) := by decide +kernel
theorem dL_keep_51 : decode cL_keep 51 = .ok (.imul, 1) := by decide +kernel
theorem dL_keep_52 : decode cL_keep 52 = .ok (.iload 7, 2) := by decide +kernel
theorem dL_keep_54 : decode cL_keep 54 = .ok (.iastore, 1) := by decide +kernel
theorem dL_keep_55 : decode cL_keep 55 = .ok (.iconst 0, 1) := by decide +kernel
theorem dL_keep_56 : decode cL_keep 56 = .ok (.istore 8, 2) := by decide +kernel
theorem dL_keep_58 : decode cL_keep 58 = .ok (.iload 8, 2) := by decide +kernel
theorem dL_keep_60 : decode cL_keep 60 = .ok (.iload 7, 2) := by decide +kernel
theorem dL_keep_62 : decode cL_keep 62 = .ok (.if_icmp .ge 66, 3) := by decide +kernel
theorem dL_keep_65 : decode cL_keep 65 = .ok (.aload 4, 2) := by decide +kernel
theorem dL_keep_67 : decode cL_keep 67 = .ok (.bipush 41, 2) := by decide +kernel
theorem dL_keep_69 : decode cL_keep 69 = .ok (.iload 6, 2) := by decide +kernel
theorem dL_keep_71 : decode cL_keep 71 = .ok (.imul, 1) := by decide +kernel
theorem dL_keep_72 : decode cL_keep 72 = .ok (.iconst 1, 1) := by decide +kernel
theorem dL_keep_73 : decode cL_keep 73 = .ok (.iadd, 1) := by decide +kernel
theorem dL_keep_74 : decode cL_keep 74 = .ok (.iload 8, 2) := by decide +kernel
theorem dL_keep_76 : decode cL_keep 76 = .ok (.iadd, 1) := by decide +kernel
theorem dL_keep_77 : decode cL_keep 77 = .ok (.aload_n 1, 1) := by decide +kernel
theorem dL_keep_78 : decode cL_keep 78 = .ok (.iload_n 2, 1) := by decide +kernel
theorem dL_keep_79 : decode cL_keep 79 = .ok (.iconst 2, 1) := by decide +kernel
theorem dL_keep_80 : decode cL_keep 80 = .ok (.iadd, 1) := by decide +kernel
theorem dL_keep_81 : decode cL_keep 81 = .ok (.iload 8, 2) := by decide +kernel
theorem dL_keep_83 : decode cL_keep 83 = .ok (.iconst 4, 1) := by decide +kernel
theorem dL_keep_84 : decode cL_keep 84 = .ok (.irem, 1) := by decide +kernel
theorem dL_keep_85 : decode cL_keep 85 = .ok (.iadd, 1) := by decide +kernel
theorem dL_keep_86 : decode cL_keep 86 = .ok (.invokestatic 15, 3) := by decide +kernel
theorem dL_keep_89 : decode cL_keep 89 = .ok (.iload 8, 2) := by decide +kernel
theorem dL_keep_91 : decode cL_keep 91 = .ok (.iconst 4, 1) := by decide +kernel
theorem dL_keep_92 : decode cL_keep 92 = .ok (.idiv, 1) := by decide +kernel
theorem dL_keep_93 : decode cL_keep 93 = .ok (.iconst 4, 1) := by decide +kernel
theorem dL_keep_94 : decode cL_keep 94 = .ok (.imul, 1) := by decide +kernel
theorem dL_keep_95 : decode cL_keep 95 = .ok (.iload 6, 2) := by decide +kernel
theorem dL_keep_97 : decode cL_keep 97 = .ok (.iadd, 1) := by decide +kernel
theorem dL_keep_98 : decode cL_keep 98 = .ok (.ishr, 1) := by decide +kernel
theorem dL_keep_99 : decode cL_keep 99 = .ok (.iload_n 3, 1) := by decide +kernel
theorem dL_keep_100 : decode cL_keep 100 = .ok (.invokestatic 19, 3) := by decide +kernel
theorem dL_keep_103 : decode cL_keep 103 = .ok (.iastore, 1) := by decide +kernel
theorem dL_keep_104 : decode cL_keep 104 = .ok (.aload_n 0, 1) := by decide +kernel
theorem dL_keep_105 : decode cL_keep 105 = .ok (.aload 4, 2) := by decide +kernel
theorem dL_keep_107 : decode cL_keep 107 = .ok (.bipush 41, 2) := by decide +kernel
theorem dL_keep_109 : decode cL_keep 109 = .ok (.iload 6, 2) := by decide +kernel
theorem dL_keep_111 : decode cL_keep 111 = .ok (.imul, 1) := by decide +kernel
theorem dL_keep_112 : decode cL_keep 112 = .ok (.iconst 1, 1) := by decide +kernel
theorem dL_keep_113 : decode cL_keep 113 = .ok (.iadd, 1) := by decide +kernel
theorem dL_keep_114 : decode cL_keep 114 = .ok (.iload 8, 2) := by decide +kernel
theorem dL_keep_116 : decode cL_keep 116 = .ok (.iadd, 1) := by decide +kernel
theorem dL_keep_117 : decode cL_keep 117 = .ok (.iaload, 1) := by decide +kernel
theorem dL_keep_118 : decode cL_keep 118 = .ok (.invokevirtual 22, 3) := by decide +kernel
theorem dL_keep_121 : decode cL_keep 121 = .ok (.pop, 1) := by decide +kernel
theorem dL_keep_122 : decode cL_keep 122 = .ok (.iinc 8 1, 3) := by decide +kernel
theorem dL_keep_125 : decode cL_keep 125 = .ok (.goto (-67), 3) := by decide +kernel
theorem dL_keep_128 : decode cL_keep 128 = .ok (.aload_n 0, 1) := by decide +kernel
theorem dL_keep_129 : decode cL_keep 129 = .ok (.invokevirtual 28, 3) := by decide +kernel
theorem dL_keep_132 : decode cL_keep 132 = .ok (.iload 6, 2) := by decide +kernel
theorem dL_keep_134 : decode cL_keep 134 = .ok (.iconst 1, 1) := by decide +kernel
theorem dL_keep_135 : decode cL_keep 135 = .ok (.iadd, 1) := by decide +kernel
theorem dL_keep_136 : decode cL_keep 136 = .ok (.if_icmp .eq 5, 3) := by decide +kernel
theorem dL_keep_139 : decode cL_keep 139 = .ok (.iconst (-1), 1) := by decide +kernel
theorem dL_keep_140 : decode cL_keep 140 = .ok (.ireturn, 1) := by decide +kernel
theorem dL_keep_141 : decode cL_keep 141 = .ok (.iinc 6 1, 3) := by decide +kernel
theorem dL_keep_144 : decode cL_keep 144 = .ok (.goto (-127), 3) := by decide +kernel
theorem dL_keep_147 : decode cL_keep 147 = .ok (.iload 5, 2) := by decide +kernel
theorem dL_keep_149 : decode cL_keep 149 = .ok (.ireturn, 1) := by decide +kernel
theorem dL_law_0 : decode cL_law 0 = .ok (.new 23, 3) := by decide +kernel
theorem dL_law_3 : decode cL_law 3 = .ok (.dup, 1) := by decide +kernel
theorem dL_law_4 : decode cL_law 4 = .ok (.invokespecial 32, 3) := by decide +kernel
theorem dL_law_7 : decode cL_law 7 = .ok (.astore_n 1, 1) := by decide +kernel
theorem dL_law_8 : decode cL_law 8 = .ok (.sipush 492, 3) := by decide +kernel
theorem dL_law_11 : decode cL_law 11 = .ok (.newarray .int, 2) := by decide +kernel
theorem dL_law_13 : decode cL_law 13 = .ok (.astore_n 2, 1) := by decide +kernel
theorem dL_law_14 : decode cL_law 14 = .ok (.aload_n 1, 1) := by decide +kernel
theorem dL_law_15 : decode cL_law 15 = .ok (.aload_n 0, 1) := by decide +kernel
theorem dL_law_16 : decode cL_law 16 = .ok (.iconst 0, 1) := by decide +kernel
theorem dL_law_17 : decode cL_law 17 = .ok (.iconst 1, 1) := by decide +kernel
theorem dL_law_18 : decode cL_law 18 = .ok (.aload_n 0, 1) := by decide +kernel
theorem dL_law_19 : decode cL_law 19 = .ok (.bipush 7, 2) := by decide +kernel
theorem dL_law_21 : decode cL_law 21 = .ok (.invokestatic 15, 3) := by decide +kernel
theorem dL_law_24 : decode cL_law 24 = .ok (.iconst 5, 1) := by decide +kernel
theorem dL_law_25 : decode cL_law 25 = .ok (.invokestatic 19, 3) := by decide +kernel
theorem dL_law_28 : decode cL_law 28 = .ok (.iadd, 1) := by decide +kernel
theorem dL_law_29 : decode cL_law 29 = .ok (.aload_n 2, 1) := by decide +kernel
theorem dL_law_30 : decode cL_law 30 = .ok (.invokestatic 33, 3) := by decide +kernel
theorem dL_law_33 : decode cL_law 33 = .ok (.istore_n 3, 1) := by decide +kernel
theorem dL_law_34 : decode cL_law 34 = .ok (.iload_n 3, 1) := by decide +kernel
theorem dL_law_35 : decode cL_law 35 = .ok (.ifCond .ge 5, 3) := by decide +kernel
theorem dL_law_38 : decode cL_law 38 = .ok (.iconst 0, 1) := by decide +kernel
theorem dL_law_39 : decode cL_law 39 = .ok (.ireturn, 1) := by decide +kernel
theorem dL_law_40 : decode cL_law 40 = .ok (.iconst 2, 1) := by decide +kernel
theorem dL_law_41 : decode cL_law 41 = .ok (.aload_n 0, 1) := by decide +kernel
theorem dL_law_42 : decode cL_law 42 = .ok (.bipush 8, 2) := by decide +kernel
theorem dL_law_44 : decode cL_law 44 = .ok (.invokestatic 15, 3) := by decide +kernel
theorem dL_law_47 : decode cL_law 47 = .ok (.iconst 4, 1) := by decide +kernel
theorem dL_law_48 : decode cL_law 48 = .ok (.invokestatic 19, 3) := by decide +kernel
theorem dL_law_51 : decode cL_law 51 = .ok (.iadd, 1) := by decide +kernel
theorem dL_law_52 : decode cL_law 52 = .ok (.istore 4, 2) := by decide +kernel
theorem dL_law_54 : decode cL_law 54 = .ok (.aload_n 1, 1) := by decide +kernel
theorem dL_law_55 : decode cL_law 55 = .ok (.iload 4, 2) := by decide +kernel
theorem dL_law_57 : decode cL_law 57 = .ok (.invokevirtual 36, 3) := by decide +kernel
theorem dL_law_60 : decode cL_law 60 = .ok (.pop, 1) := by decide +kernel
theorem dL_law_61 : decode cL_law 61 = .ok (.aload_n 1, 1) := by decide +kernel
theorem dL_law_62 : decode cL_law 62 = .ok (.iconst 0, 1) := by decide +kernel
theorem dL_law_63 : decode cL_law 63 = .ok (.invokevirtual 39, 3) := by decide +kernel
theorem dL_law_66 : decode cL_law 66 = .ok (.dstore 5, 2) := by decide +kernel
theorem dL_law_68 : decode cL_law 68 = .ok (.iconst 0, 1) := by decide +kernel
theorem dL_law_69 : decode cL_law 69 = .ok (.istore 7, 2) := by decide +kernel
theorem dL_law_71 : decode cL_law 71 = .ok (.iload 7, 2) := by decide +kernel
theorem dL_law_73 : decode cL_law 73 = .ok (.iconst 3, 1) := by decide +kernel
theorem dL_law_74 : decode cL_law 74 = .ok (.if_icmp .ge 36, 3) := by decide +kernel
theorem dL_law_77 : decode cL_law 77 = .ok (.aload_n 1, 1) := by decide +kernel
theorem dL_law_78 : decode cL_law 78 = .ok (.iconst 0, 1) := by decide +kernel
theorem dL_law_79 : decode cL_law 79 = .ok (.iconst 2, 1) := by decide +kernel
theorem dL_law_80 : decode cL_law 80 = .ok (.invokevirtual 43, 3) := by decide +kernel
theorem dL_law_83 : decode cL_law 83 = .ok (.pop, 1) := by decide +kernel
theorem dL_law_84 : decode cL_law 84 = .ok (.aload_n 1, 1) := by decide +kernel
theorem dL_law_85 : decode cL_law 85 = .ok (.iconst 0, 1) := by decide +kernel
theorem dL_law_86 : decode cL_law 86 = .ok (.invokevirtual 39, 3) := by decide +kernel
theorem dL_law_89 : decode cL_law 89 = .ok (.dload 5, 2) := by decide +kernel
theorem dL_law_91 : decode cL_law 91 = .ok (.dcmp .l, 1) := by decide +kernel
theorem dL_law_92 : decode cL_law 92 = .ok (.ifCond .le 5, 3) := by decide +kernel
theorem dL_law_95 : decode cL_law 95 = .ok (.iconst 0, 1) := by decide +kernel
theorem dL_law_96 : decode cL_law 96 = .ok (.ireturn, 1) := by decide +kernel
theorem dL_law_97 : decode cL_law 97 = .ok (.aload_n 1, 1) := by decide +kernel
theorem dL_law_98 : decode cL_law 98 = .ok (.iconst 0, 1) := by decide +kernel
theorem dL_law_99 : decode cL_law 99 = .ok (.invokevirtual 39, 3) := by decide +kernel
theorem dL_law_102 : decode cL_law 102 = .ok (.dstore 5, 2) := by decide +kernel
theorem dL_law_104 : decode cL_law 104 = .ok (.iinc 7 1, 3) := by decide +kernel
theorem dL_law_107 : decode cL_law 107 = .ok (.goto (-36), 3) := by decide +kernel
theorem dL_law_110 : decode cL_law 110 = .ok (.aload_n 1, 1) := by decide +kernel
theorem dL_law_111 : decode cL_law 111 = .ok (.iconst 0, 1) := by decide +kernel
theorem dL_law_112 : decode cL_law 112 = .ok (.invokevirtual 46, 3) := by decide +kernel
theorem dL_law_115 : decode cL_law 115 = .ok (.istore 7, 2) := by decide +kernel
theorem dL_law_117 : decode cL_law 117 = .ok (.iconst 0, 1) := by decide +kernel
theorem dL_law_118 : decode cL_law 118 = .ok (.istore 8, 2) := by decide +kernel
theorem dL_law_120 : decode cL_law 120 = .ok (.iload 8, 2) := by decide +kernel
theorem dL_law_122 : decode cL_law 122 = .ok (.iload 7, 2) := by decide +kernel
theorem dL_law_124 : decode cL_law 124 = .ok (.if_icmp .ge 50, 3) := by decide +kernel
theorem dL_law_127 : decode cL_law 127 = .ok (.iconst 0, 1) := by decide +kernel
theorem dL_law_128 : decode cL_law 128 = .ok (.istore 9, 2) := by decide +kernel
theorem dL_law_130 : decode cL_law 130 = .ok (.iload 9, 2) := by decide +kernel
theorem dL_law_132 : decode cL_law 132 = .ok (.iload 8, 2) := by decide +kernel
theorem dL_law_134 : decode cL_law 134 = .ok (.if_icmp .ge 34, 3) := by decide +kernel
theorem dL_law_137 : decode cL_law 137 = .ok (.aload_n 1, 1) := by decide +kernel
theorem dL_law_138 : decode cL_law 138 = .ok (.iconst 0, 1) := by decide +kernel
theorem dL_law_139 : decode cL_law 139 = .ok (.iload 8, 2) := by decide +kernel
theorem dL_law_141 : decode cL_law 141 = .ok (.iconst (-1), 1) := by decide +kernel
theorem dL_law_142 : decode cL_law 142 = .ok (.invokevirtual 49, 3) := by decide +kernel
theorem dL_law_145 : decode cL_law 145 = .ok (.aload_n 1, 1) := by decide +kernel
theorem dL_law_146 : decode cL_law 146 = .ok (.iconst 0, 1) := by decide +kernel
theorem dL_law_147 : decode cL_law 147 = .ok (.iload 9, 2) := by decide +kernel
theorem dL_law_149 : decode cL_law 149 = .ok (.iconst (-1), 1) := by decide +kernel
theorem dL_law_150 : decode cL_law 150 = .ok (.invokevirtual 49, 3) := by decide +kernel
theorem dL_law_153 : decode cL_law 153 = .ok (.invokestatic 53, 3) := by decide +kernel
theorem dL_law_156 : decode cL_law 156 = .ok (.iconst 3, 1) := by decide +kernel
theorem dL_law_157 : decode cL_law 157 = .ok (.if_icmp .ge 5, 3) := by decide +kernel
theorem dL_law_160 : decode cL_law 160 = .ok (.iconst 0, 1) := by decide +kernel
theorem dL_law_161 : decode cL_law 161 = .ok (.ireturn, 1) := by decide +kernel
theorem dL_law_162 : decode cL_law 162 = .ok (.iinc 9 1, 3) := by decide +kernel
theorem dL_law_165 : decode cL_law 165 = .ok (.goto (-35), 3) := by decide +kernel
theorem dL_law_168 : decode cL_law 168 = .ok (.iinc 8 1, 3) := by decide +kernel
theorem dL_law_171 : decode cL_law 171 = .ok (.goto (-51), 3) := by decide +kernel
theorem dL_law_174 : decode cL_law 174 = .ok (.iconst 0, 1) := by decide +kernel
theorem dL_law_175 : decode cL_law 175 = .ok (.istore 8, 2) := by decide +kernel
theorem dL_law_177 : decode cL_law 177 = .ok (.iload 8, 2) := by decide +kernel
theorem dL_law_179 : decode cL_law 179 = .ok (.iload_n 3, 1) := by decide +kernel
theorem dL_law_180 : decode cL_law 180 = .ok (.if_icmp .ge 367, 3) := by decide +kernel
theorem dL_law_183 : decode cL_law 183 = .ok (.aload_n 1, 1) := by decide +kernel
theorem dL_law_184 : decode cL_law 184 = .ok (.iload 8, 2) := by decide +kernel
theorem dL_law_186 : decode cL_law 186 = .ok (.invokevirtual 56, 3) := by decide +kernel
theorem dL_law_189 : decode cL_law 189 = .ok (.istore 9, 2) := by decide +kernel
theorem dL_law_191 : decode cL_law 191 = .ok (.aload_n 1, 1) := by decide +kernel
theorem dL_law_192 : decode cL_law 192 = .ok (.iconst 0, 1) := by decide +kernel
theorem dL_law_193 : decode cL_law 193 = .ok (.invokevirtual 59, 3) := by decide +kernel
theorem dL_law_196 : decode cL_law 196 = .ok (.istore 10, 2) := by decide +kernel
theorem dL_law_198 : decode cL_law 198 = .ok (.iload 10, 2) := by decide +kernel
theorem dL_law_200 : decode cL_law 200 = .ok (.iload 4, 2) := by decide +kernel
theorem dL_law_202 : decode cL_law 202 = .ok (.iload 9, 2) := by decide +kernel
theorem dL_law_204 : decode cL_law 204 = .ok (.imul, 1) := by decide +kernel
theorem dL_law_205 : decode cL_law 205 = .ok (.if_icmp .gt 35, 3) := by decide +kernel
theorem dL_law_208 : decode cL_law 208 = .ok (.iload 10, 2) := by decide +kernel
theorem dL_law_210 : decode cL_law 210 = .ok (.aload_n 1, 1) := by decide +kernel
theorem dL_law_211 : decode cL_law 211 = .ok (.invokevirtual 62, 3) := by decide +kernel
theorem dL_law_214 : decode cL_law 214 = .ok (.if_icmp .ne 26, 3) := by decide +kernel
theorem dL_law_217 : decode cL_law 217 = .ok (.aload_n 1, 1) := by decide +kernel
theorem dL_law_218 : decode cL_law 218 = .ok (.invokevirtual 65, 3) := by decide +kernel
theorem dL_law_221 : decode cL_law 221 = .ok (.iload 9, 2) := by decide +kernel
theorem dL_law_223 : decode cL_law 223 = .ok (.if_icmp .gt 17, 3) := by decide +kernel
theorem dL_law_226 : decode cL_law 226 = .ok (.aload_n 1, 1) := by decide +kernel
theorem dL_law_227 : decode cL_law 227 = .ok (.invokevirtual 68, 3) := by decide +kernel
theorem dL_law_230 : decode cL_law 230 = .ok (.bipush 17, 2) := by decide +kernel
theorem dL_law_232 : decode cL_law 232 = .ok (.aload_n 1, 1) := by decide +kernel
theorem dL_law_233 : decode cL_law 233 = .ok (.invokevirtual 65, 3) := by decide +kernel
theorem dL_law_236 : decode cL_law 236 = .ok (.imul, 1) := by decide +kernel
theorem dL_law_237 : decode cL_law 237 = .ok (.if_icmp .ge 5, 3) := by decide +kernel
theorem dL_law_240 : decode cL_law 240 = .ok (.iconst 0, 1) := by decide +kernel
theorem dL_law_241 : decode cL_law 241 = .ok (.ireturn, 1) := by decide +kernel
theorem dL_law_242 : decode cL_law 242 = .ok (.iconst 0, 1) := by decide +kernel
theorem dL_law_243 : decode cL_law 243 = .ok (.istore 11, 2) := by decide +kernel
theorem dL_law_245 : decode cL_law 245 = .ok (.iconst (-1), 1) := by decide +kernel
theorem dL_law_246 : decode cL_law 246 = .ok (.istore 12, 2) := by decide +kernel
theorem dL_law_248 : decode cL_law 248 = .ok (.iconst 0, 1) := by decide +kernel
theorem dL_law_249 : decode cL_law 249 = .ok (.istore 13, 2) := by decide +kernel
theorem dL_law_251 : decode cL_law 251 = .ok (.iload 13, 2) := by decide +kernel
theorem dL_law_253 : decode cL_law 253 = .ok (.aload_n 1, 1) := by decide +kernel
theorem dL_law_254 : decode cL_law 254 = .ok (.invokevirtual 65, 3) := by decide +kernel
theorem dL_law_257 : decode cL_law 257 = .ok (.if_icmp .ge 27, 3) := by decide +kernel
theorem dL_law_260 : decode cL_law 260 = .ok (.iload 12, 2) := by decide +kernel
theorem dL_law_262 : decode cL_law 262 = .ok (.ifCond .ge 22, 3) := by decide +kernel
theorem dL_law_265 : decode cL_law 265 = .ok (.aload_n 1, 1) := by decide +kernel
theorem dL_law_266 : decode cL_law 266 = .ok (.iload 13, 2) := by decide +kernel
theorem dL_law_268 : decode cL_law 268 = .ok (.invokevirtual 71, 3) := by decide +kernel
theorem dL_law_271 : decode cL_law 271 = .ok (.ifCond .lt 7, 3) := by decide +kernel
theorem dL_law_274 : decode cL_law 274 = .ok (.iload 13, 2) := by decide +kernel
theorem dL_law_276 : decode cL_law 276 = .ok (.istore 12, 2) := by decide +kernel
theorem dL_law_278 : decode cL_law 278 = .ok (.iinc 13 1, 3) := by decide +kernel
theorem dL_law_281 : decode cL_law 281 = .ok (.goto (-30), 3) := by decide +kernel
theorem dL_law_284 : decode cL_law 284 = .ok (.iload 12, 2) := by decide +kernel
theorem dL_law_286 : decode cL_law 286 = .ok (.ifCond .lt 159, 3) := by decide +kernel
theorem dL_law_289 : decode cL_law 289 = .ok (.aload_n 1, 1) := by decide +kernel
theorem dL_law_290 : decode cL_law 290 = .ok (.iload 12, 2) := by decide +kernel
theorem dL_law_292 : decode cL_law 292 = .ok (.invokevirtual 71, 3) := by decide +kernel
theorem dL_law_295 : decode cL_law 295 = .ok (.istore 13, 2) := by decide +kernel
theorem dL_law_297 : decode cL_law 297 = .ok (.aload_n 0, 1) := by decide +kernel
theorem dL_law_298 : decode cL_law 298 = .ok (.bipush 9, 2) := by decide +kernel
theorem dL_law_300 : decode cL_law 300 = .ok (.iload 8, 2) := by decide +kernel
theorem dL_law_302 : decode cL_law 302 = .ok (.iadd, 1) := by decide +kernel
theorem dL_law_303 : decode cL_law 303 = .ok (.invokestatic 15, 3) := by decide +kernel
theorem dL_law_306 : decode cL_law 306 = .ok (.iconst 5, 1) := by decide +kernel
theorem dL_law_307 : decode cL_law 307 = .ok (.invokestatic 19, 3) := by decide +kernel
theorem dL_law_310 : decode cL_law 310 = .ok (.istore 14, 2) := by decide +kernel
theorem dL_law_312 : decode cL_law 312 = .ok (.aload_n 1, 1) := by decide +kernel
theorem dL_law_313 : decode cL_law 313 = .ok (.iload 12, 2) := by decide +kernel
theorem dL_law_315 : decode cL_law 315 = .ok (.iload 14, 2) := by decide +kernel
theorem dL_law_317 : decode cL_law 317 = .ok (.iload 13, 2) := by decide +kernel
theorem dL_law_319 : decode cL_law 319 = .ok (.iload 14, 2) := by decide +kernel
theorem dL_law_321 : decode cL_law 321 = .ok (.invokestatic 9, 3) := by decide +kernel
theorem dL_law_324 : decode cL_law 324 = .ok (.iconst 1, 1) := by decide +kernel
theorem dL_law_325 : decode cL_law 325 = .ok (.iadd, 1) := by decide +kernel
theorem dL_law_326 : decode cL_law 326 = .ok (.aload_n 0, 1) := by decide +kernel
theorem dL_law_327 : decode cL_law 327 = .ok (.bipush 10, 2) := by decide +kernel
theorem dL_law_329 : decode cL_law 329 = .ok (.iload 8, 2) := by decide +kernel
theorem dL_law_331 : decode cL_law 331 = .ok (.iadd, 1) := by decide +kernel
theorem dL_law_332 : decode cL_law 332 = .ok (.invokestatic 15, 3) := by decide +kernel
theorem dL_law_335 : decode cL_law 335 = .ok (.bipush 25, 2) := by decide +kernel
theorem dL_law_337 : decode cL_law 337 = .ok (.invokestatic 19, 3) := by decide +kernel
theorem dL_law_340 : decode cL_law 340 = .ok (.iadd, 1) := by decide +kernel
theorem dL_law_341 : decode cL_law 341 = .ok (.bipush 26, 2) := by decide +kernel
theorem dL_law_343 : decode cL_law 343 = .ok (.irem, 1) := by decide +kernel
theorem dL_law_344 : decode cL_law 344 = .ok (.invokevirtual 74, 3) := by decide +kernel
theorem dL_law_347 : decode cL_law 347 = .ok (.pop, 1) := by decide +kernel
theorem dL_law_348 : decode cL_law 348 = .ok (.iconst 0, 1) := by decide +kernel
theorem dL_law_349 : decode cL_law 349 = .ok (.istore 15, 2) := by decide +kernel
theorem dL_law_351 : decode cL_law 351 = .ok (.aload_n 1, 1) := by decide +kernel
theorem dL_law_352 : decode cL_law 352 = .ok (.iconst 0, 1) := by decide +kernel
theorem dL_law_353 : decode cL_law 353 = .ok (.aload_n 1, 1) := by decide +kernel
theorem dL_law_354 : decode cL_law 354 = .ok (.iload 12, 2) := by decide +kernel
theorem dL_law_356 : decode cL_law 356 = .ok (.invokevirtual 71, 3) := by decide +kernel
theorem dL_law_359 : decode cL_law 359 = .ok (.invokevirtual 77, 3) := by decide +kernel
theorem dL_law_362 : decode cL_law 362 = .ok (.ifCond .lt 7, 3) := by decide +kernel
theorem dL_law_365 : decode cL_law 365 = .ok (.iconst 1, 1) := by decide +kernel
theorem dL_law_366 : decode cL_law 366 = .ok (.goto 4, 3) := by decide +kernel
theorem dL_law_369 : decode cL_law 369 = .ok (.iconst 0, 1) := by decide +kernel
theorem dL_law_370 : decode cL_law 370 = .ok (.istore 16, 2) := by decide +kernel
theorem dL_law_372 : decode cL_law 372 = .ok (.iconst 0, 1) := by decide +kernel
theorem dL_law_373 : decode cL_law 373 = .ok (.istore 17, 2) := by decide +kernel
theorem dL_law_375 : decode cL_law 375 = .ok (.iload 17, 2) := by decide +kernel
theorem dL_law_377 : decode cL_law 377 = .ok (.iload 7, 2) := by decide +kernel
theorem dL_law_379 : decode cL_law 379 = .ok (.if_icmp .ge 40, 3) := by decide +kernel
theorem dL_law_382 : decode cL_law 382 = .ok (.iload 15, 2) := by decide +kernel
theorem dL_law_384 : decode cL_law 384 = .ok (.aload_n 1, 1) := by decide +kernel
theorem dL_law_385 : decode cL_law 385 = .ok (.iconst 0, 1) := by decide +kernel
theorem dL_law_386 : decode cL_law 386 = .ok (.iload 17, 2) := by decide +kernel
theorem dL_law_388 : decode cL_law 388 = .ok (.iconst (-1), 1) := by decide +kernel
theorem dL_law_389 : decode cL_law 389 = .ok (.invokevirtual 49, 3) := by decide +kernel
theorem dL_law_392 : decode cL_law 392 = .ok (.aload_n 1, 1) := by decide +kernel
theorem dL_law_393 : decode cL_law 393 = .ok (.iload 12, 2) := by decide +kernel
theorem dL_law_395 : decode cL_law 395 = .ok (.invokevirtual 71, 3) := by decide +kernel
theorem dL_law_398 : decode cL_law 398 = .ok (.invokestatic 53, 3) := by decide +kernel
theorem dL_law_401 : decode cL_law 401 = .ok (.iconst 3, 1) := by decide +kernel
theorem dL_law_402 : decode cL_law 402 = .ok (.if_icmp .ge 7, 3) := by decide +kernel
theorem dL_law_405 : decode cL_law 405 = .ok (.iconst 1, 1) := by decide +kernel
theorem dL_law_406 : decode cL_law 406 = .ok (.goto 4, 3) := by decide +kernel
theorem dL_law_409 : decode cL_law 409 = .ok (.iconst 0, 1) := by decide +kernel
theorem dL_law_410 : decode cL_law 410 = .ok (.iadd, 1) := by decide +kernel
theorem dL_law_411 : decode cL_law 411 = .ok (.istore 15, 2) := by decide +kernel
theorem dL_law_413 : decode cL_law 413 = .ok (.iinc 17 1, 3) := by decide +kernel
theorem dL_law_416 : decode cL_law 416 = .ok (.goto (-41), 3) := by decide +kernel
theorem dL_law_419 : decode cL_law 419 = .ok (.iload 16, 2) := by decide +kernel
theorem dL_law_421 : decode cL_law 421 = .ok (.ifCond .ne 9, 3) := by decide +kernel
theorem dL_law_424 : decode cL_law 424 = .ok (.iload 15, 2) := by decide +kernel
theorem dL_law_426 : decode cL_law 426 = .ok (.iconst 1, 1) := by decide +kernel
theorem dL_law_427 : decode cL_law 427 = .ok (.if_icmp .ge 5, 3) := by decide +kernel
theorem dL_law_430 : decode cL_law 430 = .ok (.iconst 0, 1) := by decide +kernel
theorem dL_law_431 : decode cL_law 431 = .ok (.ireturn, 1) := by decide +kernel
theorem dL_law_432 : decode cL_law 432 = .ok (.iload 15, 2) := by decide +kernel
theorem dL_law_434 : decode cL_law 434 = .ok (.iconst 1, 1) := by decide +kernel
theorem dL_law_435 : decode cL_law 435 = .ok (.if_icmp .ne 7, 3) := by decide +kernel
theorem dL_law_438 : decode cL_law 438 = .ok (.iconst 0, 1) := by decide +kernel
theorem dL_law_439 : decode cL_law 439 = .ok (.goto 4, 3) := by decide +kernel
theorem dL_law_442 : decode cL_law 442 = .ok (.iconst 1, 1) := by decide +kernel
theorem dL_law_443 : decode cL_law 443 = .ok (.istore 11, 2) := by decide +kernel
theorem dL_law_445 : decode cL_law 445 = .ok (.aload_n 1, 1) := by decide +kernel
theorem dL_law_446 : decode cL_law 446 = .ok (.iconst 0, 1) := by decide +kernel
theorem dL_law_447 : decode cL_law 447 = .ok (.invokevirtual 80, 3) := by decide +kernel
theorem dL_law_450 : decode cL_law 450 = .ok (.iload 11, 2) := by decide +kernel
theorem dL_law_452 : decode cL_law 452 = .ok (.if_icmp .eq 5, 3) := by decide +kernel
theorem dL_law_455 : decode cL_law 455 = .ok (.iconst 0, 1) := by decide +kernel
theorem dL_law_456 : decode cL_law 456 = .ok (.ireturn, 1) := by decide +kernel
theorem dL_law_457 : decode cL_law 457 = .ok (.iload 12, 2) := by decide +kernel
theorem dL_law_459 : decode cL_law 459 = .ok (.ifCond .lt 24, 3) := by decide +kernel
theorem dL_law_462 : decode cL_law 462 = .ok (.aload_n 1, 1) := by decide +kernel
theorem dL_law_463 : decode cL_law 463 = .ok (.iload 12, 2) := by decide +kernel
theorem dL_law_465 : decode cL_law 465 = .ok (.invokevirtual 83, 3) := by decide +kernel
theorem dL_law_468 : decode cL_law 468 = .ok (.iload 11, 2) := by decide +kernel
theorem dL_law_470 : decode cL_law 470 = .ok (.ifCond .ne 7, 3) := by decide +kernel
theorem dL_law_473 : decode cL_law 473 = .ok (.iconst 2, 1) := by decide +kernel
theorem dL_law_474 : decode cL_law 474 = .ok (.goto 4, 3) := by decide +kernel
theorem dL_law_477 : decode cL_law 477 = .ok (.iconst 3, 1) := by decide +kernel
theorem dL_law_478 : decode cL_law 478 = .ok (.if_icmp .eq 5, 3) := by decide +kernel
theorem dL_law_481 : decode cL_law 481 = .ok (.iconst 0, 1) := by decide +kernel
theorem dL_law_482 : decode cL_law 482 = .ok (.ireturn, 1) := by decide +kernel
theorem dL_law_483 : decode cL_law 483 = .ok (.iload 11, 2) := by decide +kernel
theorem dL_law_485 : decode cL_law 485 = .ok (.ifCond .le 6, 3) := by decide +kernel
theorem dL_law_488 : decode cL_law 488 = .ok (.goto 53, 3) := by decide +kernel
theorem dL_law_491 : decode cL_law 491 = .ok (.aload_n 1, 1) := by decide +kernel
theorem dL_law_492 : decode cL_law 492 = .ok (.invokevirtual 86, 3) := by decide +kernel
theorem dL_law_495 : decode cL_law 495 = .ok (.iload 9, 2) := by decide +kernel
theorem dL_law_497 : decode cL_law 497 = .ok (.if_icmp .eq 5, 3) := by decide +kernel
theorem dL_law_500 : decode cL_law 500 = .ok (.iconst 0, 1) := by decide +kernel
theorem dL_law_501 : decode cL_law 501 = .ok (.ireturn, 1) := by decide +kernel
theorem dL_law_502 : decode cL_law 502 = .ok (.iconst 0, 1) := by decide +kernel
theorem dL_law_503 : decode cL_law 503 = .ok (.istore 13, 2) := by decide +kernel
theorem dL_law_505 : decode cL_law 505 = .ok (.iload 13, 2) := by decide +kernel
theorem dL_law_507 : decode cL_law 507 = .ok (.iload 9, 2) := by decide +kernel
theorem dL_law_509 : decode cL_law 509 = .ok (.if_icmp .ge 32, 3) := by decide +kernel
theorem dL_law_512 : decode cL_law 512 = .ok (.aload_n 1, 1) := by decide +kernel
theorem dL_law_513 : decode cL_law 513 = .ok (.iload 13, 2) := by decide +kernel
theorem dL_law_515 : decode cL_law 515 = .ok (.invokevirtual 89, 3) := by decide +kernel
theorem dL_law_518 : decode cL_law 518 = .ok (.aload_n 2, 1) := by decide +kernel
theorem dL_law_519 : decode cL_law 519 = .ok (.bipush 41, 2) := by decide +kernel
theorem dL_law_521 : decode cL_law 521 = .ok (.iload 8, 2) := by decide +kernel
theorem dL_law_523 : decode cL_law 523 = .ok (.imul, 1) := by decide +kernel
theorem dL_law_524 : decode cL_law 524 = .ok (.iconst 1, 1) := by decide +kernel
theorem dL_law_525 : decode cL_law 525 = .ok (.iadd, 1) := by decide +kernel
theorem dL_law_526 : decode cL_law 526 = .ok (.iload 13, 2) := by decide +kernel
theorem dL_law_528 : decode cL_law 528 = .ok (.iadd, 1) := by decide +kernel
theorem dL_law_529 : decode cL_law 529 = .ok (.iaload, 1) := by decide +kernel
theorem dL_law_530 : decode cL_law 530 = .ok (.if_icmp .eq 5, 3) := by decide +kernel
theorem dL_law_533 : decode cL_law 533 = .ok (.iconst 0, 1) := by decide +kernel
theorem dL_law_534 : decode cL_law 534 = .ok (.ireturn, 1) := by decide +kernel
theorem dL_law_535 : decode cL_law 535 = .ok (.iinc 13 1, 3) := by decide +kernel
theorem dL_law_538 : decode cL_law 538 = .ok (.goto (-33), 3) := by decide +kernel
theorem dL_law_541 : decode cL_law 541 = .ok (.iinc 8 1, 3) := by decide +kernel
theorem dL_law_544 : decode cL_law 544 = .ok (.goto (-367), 3) := by decide +kernel
theorem dL_law_547 : decode cL_law 547 = .ok (.aload_n 1, 1) := by decide +kernel
theorem dL_law_548 : decode cL_law 548 = .ok (.iconst 1, 1) := by decide +kernel
theorem dL_law_549 : decode cL_law 549 = .ok (.invokevirtual 46, 3) := by decide +kernel
theorem dL_law_552 : decode cL_law 552 = .ok (.ifCond .ne 17, 3) := by decide +kernel
theorem dL_law_555 : decode cL_law 555 = .ok (.aload_n 1, 1) := by decide +kernel
theorem dL_law_556 : decode cL_law 556 = .ok (.iconst 1, 1) := by decide +kernel
theorem dL_law_557 : decode cL_law 557 = .ok (.invokevirtual 39, 3) := by decide +kernel
theorem dL_law_560 : decode cL_law 560 = .ok (.dconst 1, 1) := by decide +kernel
theorem dL_law_561 : decode cL_law 561 = .ok (.dcmp .l, 1) := by decide +kernel
theorem dL_law_562 : decode cL_law 562 = .ok (.ifCond .ne 7, 3) := by decide +kernel
theorem dL_law_565 : decode cL_law 565 = .ok (.iconst 1, 1) := by decide +kernel
theorem dL_law_566 : decode cL_law 566 = .ok (.goto 4, 3) := by decide +kernel
theorem dL_law_569 : decode cL_law 569 = .ok (.iconst 0, 1) := by decide +kernel
theorem dL_law_570 : decode cL_law 570 = .ok (.ireturn, 1) := by decide +kernel
