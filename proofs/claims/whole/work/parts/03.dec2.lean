theorem dX3_signAt_84 : decode cX3_signAt 84 = .ok (.goto 14, 3) := by decide +kernel
theorem dX3_signAt_87 : decode cX3_signAt 87 = .ok (.lload_n 3, 1) := by decide +kernel
theorem dX3_signAt_88 : decode cX3_signAt 88 = .ok (.lconst 0, 1) := by decide +kernel
theorem dX3_signAt_89 : decode cX3_signAt 89 = .ok (.lcmp, 1) := by decide +kernel
theorem dX3_signAt_90 : decode cX3_signAt 90 = .ok (.ifCond .ge 7, 3) := by decide +kernel
theorem dX3_signAt_93 : decode cX3_signAt 93 = .ok (.iconst (-1), 1) := by decide +kernel
theorem dX3_signAt_94 : decode cX3_signAt 94 = .ok (.goto 4, 3) := by decide +kernel
theorem dX3_signAt_97 : decode cX3_signAt 97 = .ok (.iconst 0, 1) := by decide +kernel
theorem dX3_signAt_98 : decode cX3_signAt 98 = .ok (.ireturn, 1) := by decide +kernel
theorem dX3_power_0 : decode cX3_power 0 = .ok (.lconst 1, 1) := by decide +kernel
theorem dX3_power_1 : decode cX3_power 1 = .ok (.lstore_n 3, 1) := by decide +kernel
theorem dX3_power_2 : decode cX3_power 2 = .ok (.iconst 0, 1) := by decide +kernel
theorem dX3_power_3 : decode cX3_power 3 = .ok (.istore 5, 2) := by decide +kernel
theorem dX3_power_5 : decode cX3_power 5 = .ok (.iload 5, 2) := by decide +kernel
theorem dX3_power_7 : decode cX3_power 7 = .ok (.iload_n 2, 1) := by decide +kernel
theorem dX3_power_8 : decode cX3_power 8 = .ok (.if_icmp .ge 13, 3) := by decide +kernel
theorem dX3_power_11 : decode cX3_power 11 = .ok (.lload_n 3, 1) := by decide +kernel
theorem dX3_power_12 : decode cX3_power 12 = .ok (.lload_n 0, 1) := by decide +kernel
theorem dX3_power_13 : decode cX3_power 13 = .ok (.lmul, 1) := by decide +kernel
theorem dX3_power_14 : decode cX3_power 14 = .ok (.lstore_n 3, 1) := by decide +kernel
theorem dX3_power_15 : decode cX3_power 15 = .ok (.iinc 5 1, 3) := by decide +kernel
theorem dX3_power_18 : decode cX3_power 18 = .ok (.goto (-13), 3) := by decide +kernel
theorem dX3_power_21 : decode cX3_power 21 = .ok (.lload_n 3, 1) := by decide +kernel
theorem dX3_power_22 : decode cX3_power 22 = .ok (.lreturn, 1) := by decide +kernel
theorem dX4_init_0 : decode cX4_init 0 = .ok (.aload_n 0, 1) := by decide +kernel
theorem dX4_init_1 : decode cX4_init 1 = .ok (.invokespecial 3, 3) := by decide +kernel
theorem dX4_init_4 : decode cX4_init 4 = .ok (.aload_n 0, 1) := by decide +kernel
theorem dX4_init_5 : decode cX4_init 5 = .ok (.bipush 24, 2) := by decide +kernel
theorem dX4_init_7 : decode cX4_init 7 = .ok (.newarray .int, 2) := by decide +kernel
theorem dX4_init_9 : decode cX4_init 9 = .ok (.putfield 9, 3) := by decide +kernel
theorem dX4_init_12 : decode cX4_init 12 = .ok (.aload_n 0, 1) := by decide +kernel
theorem dX4_init_13 : decode cX4_init 13 = .ok (.bipush 96, 2) := by decide +kernel
theorem dX4_init_15 : decode cX4_init 15 = .ok (.newarray .int, 2) := by decide +kernel
theorem dX4_init_17 : decode cX4_init 17 = .ok (.putfield 15, 3) := by decide +kernel
theorem dX4_init_20 : decode cX4_init 20 = .ok (.aload_n 0, 1) := by decide +kernel
theorem dX4_init_21 : decode cX4_init 21 = .ok (.aload_n 1, 1) := by decide +kernel
theorem dX4_init_22 : decode cX4_init 22 = .ok (.putfield 18, 3) := by decide +kernel
theorem dX4_init_25 : decode cX4_init 25 = .ok (.return_, 1) := by decide +kernel
theorem dX4_clauseCount_0 : decode cX4_clauseCount 0 = .ok (.aload_n 0, 1) := by decide +kernel
theorem dX4_clauseCount_1 : decode cX4_clauseCount 1 = .ok (.getfield 22, 3) := by decide +kernel
theorem dX4_clauseCount_4 : decode cX4_clauseCount 4 = .ok (.ireturn, 1) := by decide +kernel
theorem dX4_clauseKind_0 : decode cX4_clauseKind 0 = .ok (.iload_n 1, 1) := by decide +kernel
theorem dX4_clauseKind_1 : decode cX4_clauseKind 1 = .ok (.ifCond .lt 21, 3) := by decide +kernel
theorem dX4_clauseKind_4 : decode cX4_clauseKind 4 = .ok (.iload_n 1, 1) := by decide +kernel
theorem dX4_clauseKind_5 : decode cX4_clauseKind 5 = .ok (.aload_n 0, 1) := by decide +kernel
theorem dX4_clauseKind_6 : decode cX4_clauseKind 6 = .ok (.getfield 9, 3) := by decide +kernel
theorem dX4_clauseKind_9 : decode cX4_clauseKind 9 = .ok (.arraylength, 1) := by decide +kernel
theorem dX4_clauseKind_10 : decode cX4_clauseKind 10 = .ok (.if_icmp .ge 12, 3) := by decide +kernel
theorem dX4_clauseKind_13 : decode cX4_clauseKind 13 = .ok (.aload_n 0, 1) := by decide +kernel
theorem dX4_clauseKind_14 : decode cX4_clauseKind 14 = .ok (.getfield 9, 3) := by decide +kernel
theorem dX4_clauseKind_17 : decode cX4_clauseKind 17 = .ok (.iload_n 1, 1) := by decide +kernel
theorem dX4_clauseKind_18 : decode cX4_clauseKind 18 = .ok (.iaload, 1) := by decide +kernel
theorem dX4_clauseKind_19 : decode cX4_clauseKind 19 = .ok (.goto 4, 3) := by decide +kernel
theorem dX4_clauseKind_22 : decode cX4_clauseKind 22 = .ok (.iconst (-1), 1) := by decide +kernel
theorem dX4_clauseKind_23 : decode cX4_clauseKind 23 = .ok (.ireturn, 1) := by decide +kernel
theorem dX4_number_0 : decode cX4_number 0 = .ok (.iload_n 1, 1) := by decide +kernel
theorem dX4_number_1 : decode cX4_number 1 = .ok (.ifCond .lt 20, 3) := by decide +kernel
theorem dX4_number_4 : decode cX4_number 4 = .ok (.iload_n 1, 1) := by decide +kernel
theorem dX4_number_5 : decode cX4_number 5 = .ok (.bipush 24, 2) := by decide +kernel
theorem dX4_number_7 : decode cX4_number 7 = .ok (.if_icmp .ge 14, 3) := by decide +kernel
theorem dX4_number_10 : decode cX4_number 10 = .ok (.iload_n 2, 1) := by decide +kernel
theorem dX4_number_11 : decode cX4_number 11 = .ok (.invokestatic 26, 3) := by decide +kernel
theorem dX4_number_14 : decode cX4_number 14 = .ok (.ifCond .eq 7, 3) := by decide +kernel
theorem dX4_number_17 : decode cX4_number 17 = .ok (.iconst 1, 1) := by decide +kernel
theorem dX4_number_18 : decode cX4_number 18 = .ok (.goto 4, 3) := by decide +kernel
theorem dX4_number_21 : decode cX4_number 21 = .ok (.iconst 0, 1) := by decide +kernel
theorem dX4_number_22 : decode cX4_number 22 = .ok (.istore_n 3, 1) := by decide +kernel
theorem dX4_number_23 : decode cX4_number 23 = .ok (.iload_n 3, 1) := by decide +kernel
theorem dX4_number_24 : decode cX4_number 24 = .ok (.ifCond .eq 16, 3) := by decide +kernel
theorem dX4_number_27 : decode cX4_number 27 = .ok (.aload_n 0, 1) := by decide +kernel
theorem dX4_number_28 : decode cX4_number 28 = .ok (.getfield 15, 3) := by decide +kernel
theorem dX4_number_31 : decode cX4_number 31 = .ok (.iconst 4, 1) := by decide +kernel
theorem dX4_number_32 : decode cX4_number 32 = .ok (.iload_n 1, 1) := by decide +kernel
theorem dX4_number_33 : decode cX4_number 33 = .ok (.imul, 1) := by decide +kernel
theorem dX4_number_34 : decode cX4_number 34 = .ok (.iload_n 2, 1) := by decide +kernel
theorem dX4_number_35 : decode cX4_number 35 = .ok (.iadd, 1) := by decide +kernel
theorem dX4_number_36 : decode cX4_number 36 = .ok (.iaload, 1) := by decide +kernel
theorem dX4_number_37 : decode cX4_number 37 = .ok (.goto 4, 3) := by decide +kernel
theorem dX4_number_40 : decode cX4_number 40 = .ok (.iconst 0, 1) := by decide +kernel
theorem dX4_number_41 : decode cX4_number 41 = .ok (.ireturn, 1) := by decide +kernel
theorem dX4_read_0 : decode cX4_read 0 = .ok (.aload_n 0, 1) := by decide +kernel
theorem dX4_read_1 : decode cX4_read 1 = .ok (.iconst 0, 1) := by decide +kernel
theorem dX4_read_2 : decode cX4_read 2 = .ok (.putfield 22, 3) := by decide +kernel
theorem dX4_read_5 : decode cX4_read 5 = .ok (.aload_n 0, 1) := by decide +kernel
theorem dX4_read_6 : decode cX4_read 6 = .ok (.iconst 0, 1) := by decide +kernel
theorem dX4_read_7 : decode cX4_read 7 = .ok (.putfield 30, 3) := by decide +kernel
theorem dX4_read_10 : decode cX4_read 10 = .ok (.aload_n 0, 1) := by decide +kernel
theorem dX4_read_11 : decode cX4_read 11 = .ok (.invokevirtual 33, 3) := by decide +kernel
theorem dX4_read_14 : decode cX4_read 14 = .ok (.aload_n 0, 1) := by decide +kernel
theorem dX4_read_15 : decode cX4_read 15 = .ok (.getfield 22, 3) := by decide +kernel
theorem dX4_read_18 : decode cX4_read 18 = .ok (.bipush 24, 2) := by decide +kernel
theorem dX4_read_20 : decode cX4_read 20 = .ok (.if_icmp .ge 65, 3) := by decide +kernel
theorem dX4_read_23 : decode cX4_read 23 = .ok (.aload_n 0, 1) := by decide +kernel
theorem dX4_read_24 : decode cX4_read 24 = .ok (.invokevirtual 36, 3) := by decide +kernel
theorem dX4_read_27 : decode cX4_read 27 = .ok (.ifCond .ne 8, 3) := by decide +kernel
theorem dX4_read_30 : decode cX4_read 30 = .ok (.aload_n 0, 1) := by decide +kernel
theorem dX4_read_31 : decode cX4_read 31 = .ok (.getfield 40, 3) := by decide +kernel
theorem dX4_read_34 : decode cX4_read 34 = .ok (.ireturn, 1) := by decide +kernel
theorem dX4_read_35 : decode cX4_read 35 = .ok (.aload_n 0, 1) := by decide +kernel
theorem dX4_read_36 : decode cX4_read 36 = .ok (.dup, 1) := by decide +kernel
theorem dX4_read_37 : decode cX4_read 37 = .ok (.getfield 22, 3) := by decide +kernel
theorem dX4_read_40 : decode cX4_read 40 = .ok (.iconst 1, 1) := by decide +kernel
theorem dX4_read_41 : decode cX4_read 41 = .ok (.iadd, 1) := by decide +kernel
theorem dX4_read_42 : decode cX4_read 42 = .ok (.putfield 22, 3) := by decide +kernel
theorem dX4_read_45 : decode cX4_read 45 = .ok (.aload_n 0, 1) := by decide +kernel
theorem dX4_read_46 : decode cX4_read 46 = .ok (.getfield 43, 3) := by decide +kernel
theorem dX4_read_49 : decode cX4_read 49 = .ok (.ifCond .ne 6, 3) := by decide +kernel
theorem dX4_read_52 : decode cX4_read 52 = .ok (.ldc 46, 2) := by decide +kernel
theorem dX4_read_54 : decode cX4_read 54 = .ok (.ireturn, 1) := by decide +kernel
theorem dX4_read_55 : decode cX4_read 55 = .ok (.aload_n 0, 1) := by decide +kernel
theorem dX4_read_56 : decode cX4_read 56 = .ok (.bipush 59, 2) := by decide +kernel
theorem dX4_read_58 : decode cX4_read 58 = .ok (.invokevirtual 47, 3) := by decide +kernel
theorem dX4_read_61 : decode cX4_read 61 = .ok (.ifCond .ne 8, 3) := by decide +kernel
theorem dX4_read_64 : decode cX4_read 64 = .ok (.aload_n 0, 1) := by decide +kernel
theorem dX4_read_65 : decode cX4_read 65 = .ok (.getfield 40, 3) := by decide +kernel
theorem dX4_read_68 : decode cX4_read 68 = .ok (.ireturn, 1) := by decide +kernel
theorem dX4_read_69 : decode cX4_read 69 = .ok (.aload_n 0, 1) := by decide +kernel
theorem dX4_read_70 : decode cX4_read 70 = .ok (.getfield 22, 3) := by decide +kernel
theorem dX4_read_73 : decode cX4_read 73 = .ok (.bipush 24, 2) := by decide +kernel
theorem dX4_read_75 : decode cX4_read 75 = .ok (.if_icmp .ge (-61), 3) := by decide +kernel
theorem dX4_read_78 : decode cX4_read 78 = .ok (.aload_n 0, 1) := by decide +kernel
theorem dX4_read_79 : decode cX4_read 79 = .ok (.invokevirtual 33, 3) := by decide +kernel
theorem dX4_read_82 : decode cX4_read 82 = .ok (.goto (-68), 3) := by decide +kernel
theorem dX4_read_85 : decode cX4_read 85 = .ok (.aload_n 0, 1) := by decide +kernel
theorem dX4_read_86 : decode cX4_read 86 = .ok (.getfield 40, 3) := by decide +kernel
theorem dX4_read_89 : decode cX4_read 89 = .ok (.ireturn, 1) := by decide +kernel
theorem dX4_readClause_0 : decode cX4_readClause 0 = .ok (.aload_n 0, 1) := by decide +kernel
theorem dX4_readClause_1 : decode cX4_readClause 1 = .ok (.invokevirtual 51, 3) := by decide +kernel
theorem dX4_readClause_4 : decode cX4_readClause 4 = .ok (.istore_n 1, 1) := by decide +kernel
theorem dX4_readClause_5 : decode cX4_readClause 5 = .ok (.iload_n 1, 1) := by decide +kernel
theorem dX4_readClause_6 : decode cX4_readClause 6 = .ok (.iconst (-1), 1) := by decide +kernel
theorem dX4_readClause_7 : decode cX4_readClause 7 = .ok (.if_icmp .eq 22, 3) := by decide +kernel
theorem dX4_readClause_10 : decode cX4_readClause 10 = .ok (.aload_n 0, 1) := by decide +kernel
theorem dX4_readClause_11 : decode cX4_readClause 11 = .ok (.getfield 22, 3) := by decide +kernel
theorem dX4_readClause_14 : decode cX4_readClause 14 = .ok (.ifCond .lt 15, 3) := by decide +kernel
theorem dX4_readClause_17 : decode cX4_readClause 17 = .ok (.aload_n 0, 1) := by decide +kernel
theorem dX4_readClause_18 : decode cX4_readClause 18 = .ok (.getfield 22, 3) := by decide +kernel
theorem dX4_readClause_21 : decode cX4_readClause 21 = .ok (.aload_n 0, 1) := by decide +kernel
theorem dX4_readClause_22 : decode cX4_readClause 22 = .ok (.getfield 9, 3) := by decide +kernel
theorem dX4_readClause_25 : decode cX4_readClause 25 = .ok (.arraylength, 1) := by decide +kernel
theorem dX4_readClause_26 : decode cX4_readClause 26 = .ok (.if_icmp .lt 5, 3) := by decide +kernel
theorem dX4_readClause_29 : decode cX4_readClause 29 = .ok (.iconst 0, 1) := by decide +kernel
theorem dX4_readClause_30 : decode cX4_readClause 30 = .ok (.ireturn, 1) := by decide +kernel
theorem dX4_readClause_31 : decode cX4_readClause 31 = .ok (.aload_n 0, 1) := by decide +kernel
theorem dX4_readClause_32 : decode cX4_readClause 32 = .ok (.getfield 9, 3) := by decide +kernel
theorem dX4_readClause_35 : decode cX4_readClause 35 = .ok (.aload_n 0, 1) := by decide +kernel
theorem dX4_readClause_36 : decode cX4_readClause 36 = .ok (.getfield 22, 3) := by decide +kernel
theorem dX4_readClause_39 : decode cX4_readClause 39 = .ok (.iload_n 1, 1) := by decide +kernel
theorem dX4_readClause_40 : decode cX4_readClause 40 = .ok (.iastore, 1) := by decide +kernel
theorem dX4_readClause_41 : decode cX4_readClause 41 = .ok (.aload_n 0, 1) := by decide +kernel
theorem dX4_readClause_42 : decode cX4_readClause 42 = .ok (.invokevirtual 33, 3) := by decide +kernel
theorem dX4_readClause_45 : decode cX4_readClause 45 = .ok (.iload_n 1, 1) := by decide +kernel
theorem dX4_readClause_46 : decode cX4_readClause 46 = .ok (.invokestatic 55, 3) := by decide +kernel
theorem dX4_readClause_49 : decode cX4_readClause 49 = .ok (.istore_n 2, 1) := by decide +kernel
theorem dX4_readClause_50 : decode cX4_readClause 50 = .ok (.iconst 0, 1) := by decide +kernel
theorem dX4_readClause_51 : decode cX4_readClause 51 = .ok (.istore_n 3, 1) := by decide +kernel
theorem dX4_readClause_52 : decode cX4_readClause 52 = .ok (.iload_n 3, 1) := by decide +kernel
theorem dX4_readClause_53 : decode cX4_readClause 53 = .ok (.iload_n 2, 1) := by decide +kernel
theorem dX4_readClause_54 : decode cX4_readClause 54 = .ok (.if_icmp .ge 20, 3) := by decide +kernel
theorem dX4_readClause_57 : decode cX4_readClause 57 = .ok (.aload_n 0, 1) := by decide +kernel
theorem dX4_readClause_58 : decode cX4_readClause 58 = .ok (.iload_n 1, 1) := by decide +kernel
theorem dX4_readClause_59 : decode cX4_readClause 59 = .ok (.iload_n 3, 1) := by decide +kernel
theorem dX4_readClause_60 : decode cX4_readClause 60 = .ok (.invokevirtual 59, 3) := by decide +kernel
theorem dX4_readClause_63 : decode cX4_readClause 63 = .ok (.ifCond .ne 5, 3) := by decide +kernel
theorem dX4_readClause_66 : decode cX4_readClause 66 = .ok (.iconst 0, 1) := by decide +kernel
theorem dX4_readClause_67 : decode cX4_readClause 67 = .ok (.ireturn, 1) := by decide +kernel
theorem dX4_readClause_68 : decode cX4_readClause 68 = .ok (.iinc 3 1, 3) := by decide +kernel
theorem dX4_readClause_71 : decode cX4_readClause 71 = .ok (.goto (-19), 3) := by decide +kernel
theorem dX4_readClause_74 : decode cX4_readClause 74 = .ok (.iconst 1, 1) := by decide +kernel
theorem dX4_readClause_75 : decode cX4_readClause 75 = .ok (.ireturn, 1) := by decide +kernel
theorem dX4_kindOfWord_0 : decode cX4_kindOfWord 0 = .ok (.aload_n 0, 1) := by decide +kernel
theorem dX4_kindOfWord_1 : decode cX4_kindOfWord 1 = .ok (.getfield 43, 3) := by decide +kernel
theorem dX4_kindOfWord_4 : decode cX4_kindOfWord 4 = .ok (.iconst 1, 1) := by decide +kernel
theorem dX4_kindOfWord_5 : decode cX4_kindOfWord 5 = .ok (.if_icmp .eq 5, 3) := by decide +kernel
theorem dX4_kindOfWord_8 : decode cX4_kindOfWord 8 = .ok (.iconst (-1), 1) := by decide +kernel
theorem dX4_kindOfWord_9 : decode cX4_kindOfWord 9 = .ok (.ireturn, 1) := by decide +kernel
theorem dX4_kindOfWord_10 : decode cX4_kindOfWord 10 = .ok (.aload_n 0, 1) := by decide +kernel
theorem dX4_kindOfWord_11 : decode cX4_kindOfWord 11 = .ok (.ldc 63, 2) := by decide +kernel
theorem dX4_kindOfWord_13 : decode cX4_kindOfWord 13 = .ok (.invokevirtual 65, 3) := by decide +kernel
theorem dX4_kindOfWord_16 : decode cX4_kindOfWord 16 = .ok (.ifCond .eq 7, 3) := by decide +kernel
theorem dX4_kindOfWord_19 : decode cX4_kindOfWord 19 = .ok (.iconst 0, 1) := by decide +kernel
theorem dX4_kindOfWord_20 : decode cX4_kindOfWord 20 = .ok (.goto 56, 3) := by decide +kernel
theorem dX4_kindOfWord_23 : decode cX4_kindOfWord 23 = .ok (.aload_n 0, 1) := by decide +kernel
theorem dX4_kindOfWord_24 : decode cX4_kindOfWord 24 = .ok (.ldc 69, 2) := by decide +kernel
theorem dX4_kindOfWord_26 : decode cX4_kindOfWord 26 = .ok (.invokevirtual 65, 3) := by decide +kernel
theorem dX4_kindOfWord_29 : decode cX4_kindOfWord 29 = .ok (.ifCond .eq 7, 3) := by decide +kernel
theorem dX4_kindOfWord_32 : decode cX4_kindOfWord 32 = .ok (.iconst 1, 1) := by decide +kernel
theorem dX4_kindOfWord_33 : decode cX4_kindOfWord 33 = .ok (.goto 43, 3) := by decide +kernel
theorem dX4_kindOfWord_36 : decode cX4_kindOfWord 36 = .ok (.aload_n 0, 1) := by decide +kernel
theorem dX4_kindOfWord_37 : decode cX4_kindOfWord 37 = .ok (.ldc 71, 2) := by decide +kernel
theorem dX4_kindOfWord_39 : decode cX4_kindOfWord 39 = .ok (.invokevirtual 65, 3) := by decide +kernel
theorem dX4_kindOfWord_42 : decode cX4_kindOfWord 42 = .ok (.ifCond .eq 7, 3) := by decide +kernel
theorem dX4_kindOfWord_45 : decode cX4_kindOfWord 45 = .ok (.iconst 2, 1) := by decide +kernel
theorem dX4_kindOfWord_46 : decode cX4_kindOfWord 46 = .ok (.goto 30, 3) := by decide +kernel
theorem dX4_kindOfWord_49 : decode cX4_kindOfWord 49 = .ok (.aload_n 0, 1) := by decide +kernel
theorem dX4_kindOfWord_50 : decode cX4_kindOfWord 50 = .ok (.ldc 73, 2) := by decide +kernel
theorem dX4_kindOfWord_52 : decode cX4_kindOfWord 52 = .ok (.invokevirtual 65, 3) := by decide +kernel
theorem dX4_kindOfWord_55 : decode cX4_kindOfWord 55 = .ok (.ifCond .eq 7, 3) := by decide +kernel
theorem dX4_kindOfWord_58 : decode cX4_kindOfWord 58 = .ok (.iconst 3, 1) := by decide +kernel
theorem dX4_kindOfWord_59 : decode cX4_kindOfWord 59 = .ok (.goto 17, 3) := by decide +kernel
theorem dX4_kindOfWord_62 : decode cX4_kindOfWord 62 = .ok (.aload_n 0, 1) := by decide +kernel
theorem dX4_kindOfWord_63 : decode cX4_kindOfWord 63 = .ok (.ldc 75, 2) := by decide +kernel
theorem dX4_kindOfWord_65 : decode cX4_kindOfWord 65 = .ok (.invokevirtual 65, 3) := by decide +kernel
theorem dX4_kindOfWord_68 : decode cX4_kindOfWord 68 = .ok (.ifCond .eq 7, 3) := by decide +kernel
theorem dX4_kindOfWord_71 : decode cX4_kindOfWord 71 = .ok (.iconst 4, 1) := by decide +kernel
theorem dX4_kindOfWord_72 : decode cX4_kindOfWord 72 = .ok (.goto 4, 3) := by decide +kernel
theorem dX4_kindOfWord_75 : decode cX4_kindOfWord 75 = .ok (.iconst (-1), 1) := by decide +kernel
theorem dX4_kindOfWord_76 : decode cX4_kindOfWord 76 = .ok (.ireturn, 1) := by decide +kernel
theorem dX4_numbersOf_0 : decode cX4_numbersOf 0 = .ok (.iload_n 0, 1) := by decide +kernel
theorem dX4_numbersOf_1 : decode cX4_numbersOf 1 = .ok (.tableswitch 37 1 4 #[31, 31, 33, 35], 31) := by decide +kernel
theorem dX4_numbersOf_32 : decode cX4_numbersOf 32 = .ok (.iconst 3, 1) := by decide +kernel
theorem dX4_numbersOf_33 : decode cX4_numbersOf 33 = .ok (.ireturn, 1) := by decide +kernel
theorem dX4_numbersOf_34 : decode cX4_numbersOf 34 = .ok (.iconst 1, 1) := by decide +kernel
theorem dX4_numbersOf_35 : decode cX4_numbersOf 35 = .ok (.ireturn, 1) := by decide +kernel
theorem dX4_numbersOf_36 : decode cX4_numbersOf 36 = .ok (.iconst 4, 1) := by decide +kernel
theorem dX4_numbersOf_37 : decode cX4_numbersOf 37 = .ok (.ireturn, 1) := by decide +kernel
theorem dX4_numbersOf_38 : decode cX4_numbersOf 38 = .ok (.iconst 0, 1) := by decide +kernel
theorem dX4_numbersOf_39 : decode cX4_numbersOf 39 = .ok (.ireturn, 1) := by decide +kernel
theorem dX4_readNumber_0 : decode cX4_readNumber 0 = .ok (.iload_n 1, 1) := by decide +kernel
theorem dX4_readNumber_1 : decode cX4_readNumber 1 = .ok (.iconst 4, 1) := by decide +kernel
theorem dX4_readNumber_2 : decode cX4_readNumber 2 = .ok (.if_icmp .eq 12, 3) := by decide +kernel
theorem dX4_readNumber_5 : decode cX4_readNumber 5 = .ok (.iload_n 2, 1) := by decide +kernel
theorem dX4_readNumber_6 : decode cX4_readNumber 6 = .ok (.ifCond .ne 12, 3) := by decide +kernel
theorem dX4_readNumber_9 : decode cX4_readNumber 9 = .ok (.iload_n 1, 1) := by decide +kernel
theorem dX4_readNumber_10 : decode cX4_readNumber 10 = .ok (.iconst 3, 1) := by decide +kernel
theorem dX4_readNumber_11 : decode cX4_readNumber 11 = .ok (.if_icmp .eq 7, 3) := by decide +kernel
theorem dX4_readNumber_14 : decode cX4_readNumber 14 = .ok (.iconst 1, 1) := by decide +kernel
theorem dX4_readNumber_15 : decode cX4_readNumber 15 = .ok (.goto 4, 3) := by decide +kernel
theorem dX4_readNumber_18 : decode cX4_readNumber 18 = .ok (.iconst 0, 1) := by decide +kernel
theorem dX4_readNumber_19 : decode cX4_readNumber 19 = .ok (.istore_n 3, 1) := by decide +kernel
theorem dX4_readNumber_20 : decode cX4_readNumber 20 = .ok (.iload_n 3, 1) := by decide +kernel
theorem dX4_readNumber_21 : decode cX4_readNumber 21 = .ok (.ifCond .eq 16, 3) := by decide +kernel
theorem dX4_readNumber_24 : decode cX4_readNumber 24 = .ok (.aload_n 0, 1) := by decide +kernel
theorem dX4_readNumber_25 : decode cX4_readNumber 25 = .ok (.bipush 45, 2) := by decide +kernel
theorem dX4_readNumber_27 : decode cX4_readNumber 27 = .ok (.invokevirtual 47, 3) := by decide +kernel
theorem dX4_readNumber_30 : decode cX4_readNumber 30 = .ok (.ifCond .eq 7, 3) := by decide +kernel
theorem dX4_readNumber_33 : decode cX4_readNumber 33 = .ok (.iconst 1, 1) := by decide +kernel
theorem dX4_readNumber_34 : decode cX4_readNumber 34 = .ok (.goto 4, 3) := by decide +kernel
theorem dX4_readNumber_37 : decode cX4_readNumber 37 = .ok (.iconst 0, 1) := by decide +kernel
theorem dX4_readNumber_38 : decode cX4_readNumber 38 = .ok (.istore 4, 2) := by decide +kernel
theorem dX4_readNumber_40 : decode cX4_readNumber 40 = .ok (.iload 4, 2) := by decide +kernel
theorem dX4_readNumber_42 : decode cX4_readNumber 42 = .ok (.ifCond .eq 7, 3) := by decide +kernel
theorem dX4_readNumber_45 : decode cX4_readNumber 45 = .ok (.aload_n 0, 1) := by decide +kernel
theorem dX4_readNumber_46 : decode cX4_readNumber 46 = .ok (.invokevirtual 33, 3) := by decide +kernel
theorem dX4_readNumber_49 : decode cX4_readNumber 49 = .ok (.aload_n 0, 1) := by decide +kernel
theorem dX4_readNumber_50 : decode cX4_readNumber 50 = .ok (.getfield 43, 3) := by decide +kernel
theorem dX4_readNumber_53 : decode cX4_readNumber 53 = .ok (.iconst 2, 1) := by decide +kernel
theorem dX4_readNumber_54 : decode cX4_readNumber 54 = .ok (.if_icmp .ne 16, 3) := by decide +kernel
theorem dX4_readNumber_57 : decode cX4_readNumber 57 = .ok (.aload_n 0, 1) := by decide +kernel
theorem dX4_readNumber_58 : decode cX4_readNumber 58 = .ok (.getfield 30, 3) := by decide +kernel
theorem dX4_readNumber_61 : decode cX4_readNumber 61 = .ok (.aload_n 0, 1) := by decide +kernel
theorem dX4_readNumber_62 : decode cX4_readNumber 62 = .ok (.getfield 40, 3) := by decide +kernel
theorem dX4_readNumber_65 : decode cX4_readNumber 65 = .ok (.isub, 1) := by decide +kernel
theorem dX4_readNumber_66 : decode cX4_readNumber 66 = .ok (.iconst 3, 1) := by decide +kernel
theorem dX4_readNumber_67 : decode cX4_readNumber 67 = .ok (.if_icmp .le 5, 3) := by decide +kernel
theorem dX4_readNumber_70 : decode cX4_readNumber 70 = .ok (.iconst 0, 1) := by decide +kernel
theorem dX4_readNumber_71 : decode cX4_readNumber 71 = .ok (.ireturn, 1) := by decide +kernel
theorem dX4_readNumber_72 : decode cX4_readNumber 72 = .ok (.iload 4, 2) := by decide +kernel
theorem dX4_readNumber_74 : decode cX4_readNumber 74 = .ok (.ifCond .eq 11, 3) := by decide +kernel
theorem dX4_readNumber_77 : decode cX4_readNumber 77 = .ok (.aload_n 0, 1) := by decide +kernel
theorem dX4_readNumber_78 : decode cX4_readNumber 78 = .ok (.invokevirtual 77, 3) := by decide +kernel
theorem dX4_readNumber_81 : decode cX4_readNumber 81 = .ok (.ineg, 1) := by decide +kernel
theorem dX4_readNumber_82 : decode cX4_readNumber 82 = .ok (.goto 7, 3) := by decide +kernel
theorem dX4_readNumber_85 : decode cX4_readNumber 85 = .ok (.aload_n 0, 1) := by decide +kernel
theorem dX4_readNumber_86 : decode cX4_readNumber 86 = .ok (.invokevirtual 77, 3) := by decide +kernel
theorem dX4_readNumber_89 : decode cX4_readNumber 89 = .ok (.istore 5, 2) := by decide +kernel
theorem dX4_readNumber_91 : decode cX4_readNumber 91 = .ok (.iconst 4, 1) := by decide +kernel
theorem dX4_readNumber_92 : decode cX4_readNumber 92 = .ok (.aload_n 0, 1) := by decide +kernel
theorem dX4_readNumber_93 : decode cX4_readNumber 93 = .ok (.getfield 22, 3) := by decide +kernel
theorem dX4_readNumber_96 : decode cX4_readNumber 96 = .ok (.imul, 1) := by decide +kernel
theorem dX4_readNumber_97 : decode cX4_readNumber 97 = .ok (.iload_n 2, 1) := by decide +kernel
theorem dX4_readNumber_98 : decode cX4_readNumber 98 = .ok (.iadd, 1) := by decide +kernel
theorem dX4_readNumber_99 : decode cX4_readNumber 99 = .ok (.istore 6, 2) := by decide +kernel
theorem dX4_readNumber_101 : decode cX4_readNumber 101 = .ok (.aload_n 0, 1) := by decide +kernel
theorem dX4_readNumber_102 : decode cX4_readNumber 102 = .ok (.iload_n 1, 1) := by decide +kernel
theorem dX4_readNumber_103 : decode cX4_readNumber 103 = .ok (.iload_n 2, 1) := by decide +kernel
theorem dX4_readNumber_104 : decode cX4_readNumber 104 = .ok (.iload 5, 2) := by decide +kernel
theorem dX4_readNumber_106 : decode cX4_readNumber 106 = .ok (.invokevirtual 80, 3) := by decide +kernel
theorem dX4_readNumber_109 : decode cX4_readNumber 109 = .ok (.ifCond .eq 18, 3) := by decide +kernel
theorem dX4_readNumber_112 : decode cX4_readNumber 112 = .ok (.iload 6, 2) := by decide +kernel
theorem dX4_readNumber_114 : decode cX4_readNumber 114 = .ok (.ifCond .lt 13, 3) := by decide +kernel
theorem dX4_readNumber_117 : decode cX4_readNumber 117 = .ok (.iload 6, 2) := by decide +kernel
theorem dX4_readNumber_119 : decode cX4_readNumber 119 = .ok (.aload_n 0, 1) := by decide +kernel
theorem dX4_readNumber_120 : decode cX4_readNumber 120 = .ok (.getfield 15, 3) := by decide +kernel
theorem dX4_readNumber_123 : decode cX4_readNumber 123 = .ok (.arraylength, 1) := by decide +kernel
theorem dX4_readNumber_124 : decode cX4_readNumber 124 = .ok (.if_icmp .lt 5, 3) := by decide +kernel
theorem dX4_readNumber_127 : decode cX4_readNumber 127 = .ok (.iconst 0, 1) := by decide +kernel
theorem dX4_readNumber_128 : decode cX4_readNumber 128 = .ok (.ireturn, 1) := by decide +kernel
theorem dX4_readNumber_129 : decode cX4_readNumber 129 = .ok (.aload_n 0, 1) := by decide +kernel
theorem dX4_readNumber_130 : decode cX4_readNumber 130 = .ok (.getfield 15, 3) := by decide +kernel
theorem dX4_readNumber_133 : decode cX4_readNumber 133 = .ok (.iload 6, 2) := by decide +kernel
theorem dX4_readNumber_135 : decode cX4_readNumber 135 = .ok (.iload 5, 2) := by decide +kernel
theorem dX4_readNumber_137 : decode cX4_readNumber 137 = .ok (.iastore, 1) := by decide +kernel
theorem dX4_readNumber_138 : decode cX4_readNumber 138 = .ok (.aload_n 0, 1) := by decide +kernel
theorem dX4_readNumber_139 : decode cX4_readNumber 139 = .ok (.invokevirtual 33, 3) := by decide +kernel
theorem dX4_readNumber_142 : decode cX4_readNumber 142 = .ok (.iconst 1, 1) := by decide +kernel
theorem dX4_readNumber_143 : decode cX4_readNumber 143 = .ok (.ireturn, 1) := by decide +kernel
theorem dX4_fits_0 : decode cX4_fits 0 = .ok (.iload_n 1, 1) := by decide +kernel
theorem dX4_fits_1 : decode cX4_fits 1 = .ok (.iconst 3, 1) := by decide +kernel
theorem dX4_fits_2 : decode cX4_fits 2 = .ok (.if_icmp .ne 20, 3) := by decide +kernel
theorem dX4_fits_5 : decode cX4_fits 5 = .ok (.iload_n 3, 1) := by decide +kernel
theorem dX4_fits_6 : decode cX4_fits 6 = .ok (.iconst 1, 1) := by decide +kernel
theorem dX4_fits_7 : decode cX4_fits 7 = .ok (.if_icmp .lt 13, 3) := by decide +kernel
theorem dX4_fits_10 : decode cX4_fits 10 = .ok (.iload_n 3, 1) := by decide +kernel
theorem dX4_fits_11 : decode cX4_fits 11 = .ok (.bipush 64, 2) := by decide +kernel
theorem dX4_fits_13 : decode cX4_fits 13 = .ok (.if_icmp .gt 7, 3) := by decide +kernel
theorem dX4_fits_16 : decode cX4_fits 16 = .ok (.iconst 1, 1) := by decide +kernel
theorem dX4_fits_17 : decode cX4_fits 17 = .ok (.goto 4, 3) := by decide +kernel
theorem dX4_fits_20 : decode cX4_fits 20 = .ok (.iconst 0, 1) := by decide +kernel
theorem dX4_fits_21 : decode cX4_fits 21 = .ok (.ireturn, 1) := by decide +kernel
theorem dX4_fits_22 : decode cX4_fits 22 = .ok (.iload_n 1, 1) := by decide +kernel
theorem dX4_fits_23 : decode cX4_fits 23 = .ok (.iconst 4, 1) := by decide +kernel
theorem dX4_fits_24 : decode cX4_fits 24 = .ok (.if_icmp .ne 53, 3) := by decide +kernel
theorem dX4_fits_27 : decode cX4_fits 27 = .ok (.iload_n 2, 1) := by decide +kernel
theorem dX4_fits_28 : decode cX4_fits 28 = .ok (.iconst 1, 1) := by decide +kernel
theorem dX4_fits_29 : decode cX4_fits 29 = .ok (.if_icmp .eq 8, 3) := by decide +kernel
theorem dX4_fits_32 : decode cX4_fits 32 = .ok (.iload_n 2, 1) := by decide +kernel
theorem dX4_fits_33 : decode cX4_fits 33 = .ok (.iconst 3, 1) := by decide +kernel
theorem dX4_fits_34 : decode cX4_fits 34 = .ok (.if_icmp .ne 7, 3) := by decide +kernel
theorem dX4_fits_37 : decode cX4_fits 37 = .ok (.iconst 1, 1) := by decide +kernel
theorem dX4_fits_38 : decode cX4_fits 38 = .ok (.goto 4, 3) := by decide +kernel
theorem dX4_fits_41 : decode cX4_fits 41 = .ok (.iconst 0, 1) := by decide +kernel
theorem dX4_fits_42 : decode cX4_fits 42 = .ok (.istore 4, 2) := by decide +kernel
theorem dX4_fits_44 : decode cX4_fits 44 = .ok (.iload_n 3, 1) := by decide +kernel
theorem dX4_fits_45 : decode cX4_fits 45 = .ok (.invokestatic 84, 3) := by decide +kernel
theorem dX4_fits_48 : decode cX4_fits 48 = .ok (.ifCond .eq 27, 3) := by decide +kernel
theorem dX4_fits_51 : decode cX4_fits 51 = .ok (.iload 4, 2) := by decide +kernel
theorem dX4_fits_53 : decode cX4_fits 53 = .ok (.ifCond .eq 18, 3) := by decide +kernel
theorem dX4_fits_56 : decode cX4_fits 56 = .ok (.iload_n 3, 1) := by decide +kernel
theorem dX4_fits_57 : decode cX4_fits 57 = .ok (.aload_n 0, 1) := by decide +kernel
theorem dX4_fits_58 : decode cX4_fits 58 = .ok (.aload_n 0, 1) := by decide +kernel
theorem dX4_fits_59 : decode cX4_fits 59 = .ok (.getfield 22, 3) := by decide +kernel
theorem dX4_fits_62 : decode cX4_fits 62 = .ok (.iload_n 2, 1) := by decide +kernel
theorem dX4_fits_63 : decode cX4_fits 63 = .ok (.iconst 1, 1) := by decide +kernel
theorem dX4_fits_64 : decode cX4_fits 64 = .ok (.isub, 1) := by decide +kernel
theorem dX4_fits_65 : decode cX4_fits 65 = .ok (.invokevirtual 87, 3) := by decide +kernel
theorem dX4_fits_68 : decode cX4_fits 68 = .ok (.if_icmp .le 7, 3) := by decide +kernel
theorem dX4_fits_71 : decode cX4_fits 71 = .ok (.iconst 1, 1) := by decide +kernel
theorem dX4_fits_72 : decode cX4_fits 72 = .ok (.goto 4, 3) := by decide +kernel
theorem dX4_fits_75 : decode cX4_fits 75 = .ok (.iconst 0, 1) := by decide +kernel
theorem dX4_fits_76 : decode cX4_fits 76 = .ok (.ireturn, 1) := by decide +kernel
theorem dX4_fits_77 : decode cX4_fits 77 = .ok (.iload_n 2, 1) := by decide +kernel
theorem dX4_fits_78 : decode cX4_fits 78 = .ok (.ifCond .ne 21, 3) := by decide +kernel
theorem dX4_fits_81 : decode cX4_fits 81 = .ok (.iload_n 3, 1) := by decide +kernel
theorem dX4_fits_82 : decode cX4_fits 82 = .ok (.bipush (-20), 2) := by decide +kernel
theorem dX4_fits_84 : decode cX4_fits 84 = .ok (.if_icmp .lt 13, 3) := by decide +kernel
theorem dX4_fits_87 : decode cX4_fits 87 = .ok (.iload_n 3, 1) := by decide +kernel
theorem dX4_fits_88 : decode cX4_fits 88 = .ok (.bipush 20, 2) := by decide +kernel
theorem dX4_fits_90 : decode cX4_fits 90 = .ok (.if_icmp .gt 7, 3) := by decide +kernel
theorem dX4_fits_93 : decode cX4_fits 93 = .ok (.iconst 1, 1) := by decide +kernel
theorem dX4_fits_94 : decode cX4_fits 94 = .ok (.goto 4, 3) := by decide +kernel
theorem dX4_fits_97 : decode cX4_fits 97 = .ok (.iconst 0, 1) := by decide +kernel
theorem dX4_fits_98 : decode cX4_fits 98 = .ok (.ireturn, 1) := by decide +kernel
theorem dX4_fits_99 : decode cX4_fits 99 = .ok (.iload_n 2, 1) := by decide +kernel
theorem dX4_fits_100 : decode cX4_fits 100 = .ok (.iconst 1, 1) := by decide +kernel
theorem dX4_fits_101 : decode cX4_fits 101 = .ok (.if_icmp .ne 7, 3) := by decide +kernel
theorem dX4_fits_104 : decode cX4_fits 104 = .ok (.iconst 0, 1) := by decide +kernel
theorem dX4_fits_105 : decode cX4_fits 105 = .ok (.goto 12, 3) := by decide +kernel
theorem dX4_fits_108 : decode cX4_fits 108 = .ok (.aload_n 0, 1) := by decide +kernel
theorem dX4_fits_109 : decode cX4_fits 109 = .ok (.aload_n 0, 1) := by decide +kernel
theorem dX4_fits_110 : decode cX4_fits 110 = .ok (.getfield 22, 3) := by decide +kernel
theorem dX4_fits_113 : decode cX4_fits 113 = .ok (.iconst 1, 1) := by decide +kernel
theorem dX4_fits_114 : decode cX4_fits 114 = .ok (.invokevirtual 87, 3) := by decide +kernel
theorem dX4_fits_117 : decode cX4_fits 117 = .ok (.iload_n 3, 1) := by decide +kernel
theorem dX4_fits_118 : decode cX4_fits 118 = .ok (.invokestatic 91, 3) := by decide +kernel
theorem dX4_fits_121 : decode cX4_fits 121 = .ok (.ireturn, 1) := by decide +kernel
theorem dX4_digitsValue_0 : decode cX4_digitsValue 0 = .ok (.iconst 0, 1) := by decide +kernel
theorem dX4_digitsValue_1 : decode cX4_digitsValue 1 = .ok (.istore_n 1, 1) := by decide +kernel
theorem dX4_digitsValue_2 : decode cX4_digitsValue 2 = .ok (.aload_n 0, 1) := by decide +kernel
theorem dX4_digitsValue_3 : decode cX4_digitsValue 3 = .ok (.getfield 40, 3) := by decide +kernel
theorem dX4_digitsValue_6 : decode cX4_digitsValue 6 = .ok (.istore_n 2, 1) := by decide +kernel
theorem dX4_digitsValue_7 : decode cX4_digitsValue 7 = .ok (.iload_n 2, 1) := by decide +kernel
theorem dX4_digitsValue_8 : decode cX4_digitsValue 8 = .ok (.aload_n 0, 1) := by decide +kernel
theorem dX4_digitsValue_9 : decode cX4_digitsValue 9 = .ok (.getfield 30, 3) := by decide +kernel
theorem dX4_digitsValue_12 : decode cX4_digitsValue 12 = .ok (.if_icmp .ge 26, 3) := by decide +kernel
theorem dX4_digitsValue_15 : decode cX4_digitsValue 15 = .ok (.bipush 10, 2) := by decide +kernel
theorem dX4_digitsValue_17 : decode cX4_digitsValue 17 = .ok (.iload_n 1, 1) := by decide +kernel
theorem dX4_digitsValue_18 : decode cX4_digitsValue 18 = .ok (.imul, 1) := by decide +kernel
theorem dX4_digitsValue_19 : decode cX4_digitsValue 19 = .ok (.aload_n 0, 1) := by decide +kernel
theorem dX4_digitsValue_20 : decode cX4_digitsValue 20 = .ok (.getfield 18, 3) := by decide +kernel
theorem dX4_digitsValue_23 : decode cX4_digitsValue 23 = .ok (.iload_n 2, 1) := by decide +kernel
theorem dX4_digitsValue_24 : decode cX4_digitsValue 24 = .ok (.invokevirtual 94, 3) := by decide +kernel
theorem dX4_digitsValue_27 : decode cX4_digitsValue 27 = .ok (.iadd, 1) := by decide +kernel
theorem dX4_digitsValue_28 : decode cX4_digitsValue 28 = .ok (.bipush 48, 2) := by decide +kernel
theorem dX4_digitsValue_30 : decode cX4_digitsValue 30 = .ok (.isub, 1) := by decide +kernel
theorem dX4_digitsValue_31 : decode cX4_digitsValue 31 = .ok (.istore_n 1, 1) := by decide +kernel
theorem dX4_digitsValue_32 : decode cX4_digitsValue 32 = .ok (.iinc 2 1, 3) := by decide +kernel
theorem dX4_digitsValue_35 : decode cX4_digitsValue 35 = .ok (.goto (-28), 3) := by decide +kernel
theorem dX4_digitsValue_38 : decode cX4_digitsValue 38 = .ok (.iload_n 1, 1) := by decide +kernel
theorem dX4_digitsValue_39 : decode cX4_digitsValue 39 = .ok (.ireturn, 1) := by decide +kernel
theorem dX4_isWord_0 : decode cX4_isWord 0 = .ok (.aload_n 0, 1) := by decide +kernel
theorem dX4_isWord_1 : decode cX4_isWord 1 = .ok (.getfield 30, 3) := by decide +kernel
theorem dX4_isWord_4 : decode cX4_isWord 4 = .ok (.aload_n 0, 1) := by decide +kernel
theorem dX4_isWord_5 : decode cX4_isWord 5 = .ok (.getfield 40, 3) := by decide +kernel
theorem dX4_isWord_8 : decode cX4_isWord 8 = .ok (.isub, 1) := by decide +kernel
theorem dX4_isWord_9 : decode cX4_isWord 9 = .ok (.aload_n 1, 1) := by decide +kernel
theorem dX4_isWord_10 : decode cX4_isWord 10 = .ok (.invokevirtual 99, 3) := by decide +kernel
theorem dX4_isWord_13 : decode cX4_isWord 13 = .ok (.if_icmp .eq 5, 3) := by decide +kernel
theorem dX4_isWord_16 : decode cX4_isWord 16 = .ok (.iconst 0, 1) := by decide +kernel
theorem dX4_isWord_17 : decode cX4_isWord 17 = .ok (.ireturn, 1) := by decide +kernel
theorem dX4_isWord_18 : decode cX4_isWord 18 = .ok (.iconst 0, 1) := by decide +kernel
theorem dX4_isWord_19 : decode cX4_isWord 19 = .ok (.istore_n 2, 1) := by decide +kernel
theorem dX4_isWord_20 : decode cX4_isWord 20 = .ok (.iload_n 2, 1) := by decide +kernel
theorem dX4_isWord_21 : decode cX4_isWord 21 = .ok (.aload_n 1, 1) := by decide +kernel
theorem dX4_isWord_22 : decode cX4_isWord 22 = .ok (.invokevirtual 99, 3) := by decide +kernel
theorem dX4_isWord_25 : decode cX4_isWord 25 = .ok (.if_icmp .ge 32, 3) := by decide +kernel
theorem dX4_isWord_28 : decode cX4_isWord 28 = .ok (.aload_n 0, 1) := by decide +kernel
theorem dX4_isWord_29 : decode cX4_isWord 29 = .ok (.getfield 18, 3) := by decide +kernel
theorem dX4_isWord_32 : decode cX4_isWord 32 = .ok (.aload_n 0, 1) := by decide +kernel
theorem dX4_isWord_33 : decode cX4_isWord 33 = .ok (.getfield 40, 3) := by decide +kernel
theorem dX4_isWord_36 : decode cX4_isWord 36 = .ok (.iload_n 2, 1) := by decide +kernel
theorem dX4_isWord_37 : decode cX4_isWord 37 = .ok (.iadd, 1) := by decide +kernel
theorem dX4_isWord_38 : decode cX4_isWord 38 = .ok (.invokevirtual 94, 3) := by decide +kernel
theorem dX4_isWord_41 : decode cX4_isWord 41 = .ok (.aload_n 1, 1) := by decide +kernel
theorem dX4_isWord_42 : decode cX4_isWord 42 = .ok (.iload_n 2, 1) := by decide +kernel
theorem dX4_isWord_43 : decode cX4_isWord 43 = .ok (.invokevirtual 104, 3) := by decide +kernel
theorem dX4_isWord_46 : decode cX4_isWord 46 = .ok (.if_icmp .eq 5, 3) := by decide +kernel
theorem dX4_isWord_49 : decode cX4_isWord 49 = .ok (.iconst 0, 1) := by decide +kernel
theorem dX4_isWord_50 : decode cX4_isWord 50 = .ok (.ireturn, 1) := by decide +kernel
theorem dX4_isWord_51 : decode cX4_isWord 51 = .ok (.iinc 2 1, 3) := by decide +kernel
theorem dX4_isWord_54 : decode cX4_isWord 54 = .ok (.goto (-34), 3) := by decide +kernel
theorem dX4_isWord_57 : decode cX4_isWord 57 = .ok (.iconst 1, 1) := by decide +kernel
theorem dX4_isWord_58 : decode cX4_isWord 58 = .ok (.ireturn, 1) := by decide +kernel
theorem dX4_isSign_0 : decode cX4_isSign 0 = .ok (.aload_n 0, 1) := by decide +kernel
theorem dX4_isSign_1 : decode cX4_isSign 1 = .ok (.getfield 43, 3) := by decide +kernel
theorem dX4_isSign_4 : decode cX4_isSign 4 = .ok (.iconst 3, 1) := by decide +kernel
theorem dX4_isSign_5 : decode cX4_isSign 5 = .ok (.if_icmp .ne 22, 3) := by decide +kernel
theorem dX4_isSign_8 : decode cX4_isSign 8 = .ok (.aload_n 0, 1) := by decide +kernel
theorem dX4_isSign_9 : decode cX4_isSign 9 = .ok (.getfield 18, 3) := by decide +kernel
theorem dX4_isSign_12 : decode cX4_isSign 12 = .ok (.aload_n 0, 1) := by decide +kernel
theorem dX4_isSign_13 : decode cX4_isSign 13 = .ok (.getfield 40, 3) := by decide +kernel
theorem dX4_isSign_16 : decode cX4_isSign 16 = .ok (.invokevirtual 94, 3) := by decide +kernel
theorem dX4_isSign_19 : decode cX4_isSign 19 = .ok (.iload_n 1, 1) := by decide +kernel
theorem dX4_isSign_20 : decode cX4_isSign 20 = .ok (.if_icmp .ne 7, 3) := by decide +kernel
theorem dX4_isSign_23 : decode cX4_isSign 23 = .ok (.iconst 1, 1) := by decide +kernel
theorem dX4_isSign_24 : decode cX4_isSign 24 = .ok (.goto 4, 3) := by decide +kernel
theorem dX4_isSign_27 : decode cX4_isSign 27 = .ok (.iconst 0, 1) := by decide +kernel
theorem dX4_isSign_28 : decode cX4_isSign 28 = .ok (.ireturn, 1) := by decide +kernel
theorem dX4_nextToken_0 : decode cX4_nextToken 0 = .ok (.aload_n 0, 1) := by decide +kernel
theorem dX4_nextToken_1 : decode cX4_nextToken 1 = .ok (.getfield 18, 3) := by decide +kernel
theorem dX4_nextToken_4 : decode cX4_nextToken 4 = .ok (.invokevirtual 108, 3) := by decide +kernel
theorem dX4_nextToken_7 : decode cX4_nextToken 7 = .ok (.istore_n 1, 1) := by decide +kernel
theorem dX4_nextToken_8 : decode cX4_nextToken 8 = .ok (.aload_n 0, 1) := by decide +kernel
theorem dX4_nextToken_9 : decode cX4_nextToken 9 = .ok (.aload_n 0, 1) := by decide +kernel
theorem dX4_nextToken_10 : decode cX4_nextToken 10 = .ok (.getfield 30, 3) := by decide +kernel
theorem dX4_nextToken_13 : decode cX4_nextToken 13 = .ok (.putfield 40, 3) := by decide +kernel
theorem dX4_nextToken_16 : decode cX4_nextToken 16 = .ok (.aload_n 0, 1) := by decide +kernel
theorem dX4_nextToken_17 : decode cX4_nextToken 17 = .ok (.getfield 40, 3) := by decide +kernel
theorem dX4_nextToken_20 : decode cX4_nextToken 20 = .ok (.iload_n 1, 1) := by decide +kernel
theorem dX4_nextToken_21 : decode cX4_nextToken 21 = .ok (.if_icmp .ge 32, 3) := by decide +kernel
theorem dX4_nextToken_24 : decode cX4_nextToken 24 = .ok (.aload_n 0, 1) := by decide +kernel
theorem dX4_nextToken_25 : decode cX4_nextToken 25 = .ok (.getfield 18, 3) := by decide +kernel
theorem dX4_nextToken_28 : decode cX4_nextToken 28 = .ok (.aload_n 0, 1) := by decide +kernel
theorem dX4_nextToken_29 : decode cX4_nextToken 29 = .ok (.getfield 40, 3) := by decide +kernel
theorem dX4_nextToken_32 : decode cX4_nextToken 32 = .ok (.invokevirtual 94, 3) := by decide +kernel
theorem dX4_nextToken_35 : decode cX4_nextToken 35 = .ok (.bipush 32, 2) := by decide +kernel
theorem dX4_nextToken_37 : decode cX4_nextToken 37 = .ok (.if_icmp .ne 16, 3) := by decide +kernel
theorem dX4_nextToken_40 : decode cX4_nextToken 40 = .ok (.aload_n 0, 1) := by decide +kernel
theorem dX4_nextToken_41 : decode cX4_nextToken 41 = .ok (.dup, 1) := by decide +kernel
theorem dX4_nextToken_42 : decode cX4_nextToken 42 = .ok (.getfield 40, 3) := by decide +kernel
theorem dX4_nextToken_45 : decode cX4_nextToken 45 = .ok (.iconst 1, 1) := by decide +kernel
theorem dX4_nextToken_46 : decode cX4_nextToken 46 = .ok (.iadd, 1) := by decide +kernel
theorem dX4_nextToken_47 : decode cX4_nextToken 47 = .ok (.putfield 40, 3) := by decide +kernel
theorem dX4_nextToken_50 : decode cX4_nextToken 50 = .ok (.goto (-34), 3) := by decide +kernel
theorem dX4_nextToken_53 : decode cX4_nextToken 53 = .ok (.aload_n 0, 1) := by decide +kernel
theorem dX4_nextToken_54 : decode cX4_nextToken 54 = .ok (.aload_n 0, 1) := by decide +kernel
theorem dX4_nextToken_55 : decode cX4_nextToken 55 = .ok (.getfield 40, 3) := by decide +kernel
theorem dX4_nextToken_58 : decode cX4_nextToken 58 = .ok (.putfield 30, 3) := by decide +kernel
theorem dX4_nextToken_61 : decode cX4_nextToken 61 = .ok (.aload_n 0, 1) := by decide +kernel
theorem dX4_nextToken_62 : decode cX4_nextToken 62 = .ok (.aload_n 0, 1) := by decide +kernel
theorem dX4_nextToken_63 : decode cX4_nextToken 63 = .ok (.aload_n 0, 1) := by decide +kernel
theorem dX4_nextToken_64 : decode cX4_nextToken 64 = .ok (.getfield 40, 3) := by decide +kernel
theorem dX4_nextToken_67 : decode cX4_nextToken 67 = .ok (.invokevirtual 109, 3) := by decide +kernel
theorem dX4_nextToken_70 : decode cX4_nextToken 70 = .ok (.putfield 43, 3) := by decide +kernel
theorem dX4_nextToken_73 : decode cX4_nextToken 73 = .ok (.aload_n 0, 1) := by decide +kernel
theorem dX4_nextToken_74 : decode cX4_nextToken 74 = .ok (.getfield 43, 3) := by decide +kernel
theorem dX4_nextToken_77 : decode cX4_nextToken 77 = .ok (.iconst 3, 1) := by decide +kernel
theorem dX4_nextToken_78 : decode cX4_nextToken 78 = .ok (.if_icmp .ne 14, 3) := by decide +kernel
theorem dX4_nextToken_81 : decode cX4_nextToken 81 = .ok (.aload_n 0, 1) := by decide +kernel
theorem dX4_nextToken_82 : decode cX4_nextToken 82 = .ok (.dup, 1) := by decide +kernel
theorem dX4_nextToken_83 : decode cX4_nextToken 83 = .ok (.getfield 30, 3) := by decide +kernel
theorem dX4_nextToken_86 : decode cX4_nextToken 86 = .ok (.iconst 1, 1) := by decide +kernel
theorem dX4_nextToken_87 : decode cX4_nextToken 87 = .ok (.iadd, 1) := by decide +kernel
theorem dX4_nextToken_88 : decode cX4_nextToken 88 = .ok (.putfield 30, 3) := by decide +kernel
theorem dX4_nextToken_91 : decode cX4_nextToken 91 = .ok (.return_, 1) := by decide +kernel
theorem dX4_nextToken_92 : decode cX4_nextToken 92 = .ok (.aload_n 0, 1) := by decide +kernel
theorem dX4_nextToken_93 : decode cX4_nextToken 93 = .ok (.getfield 30, 3) := by decide +kernel
theorem dX4_nextToken_96 : decode cX4_nextToken 96 = .ok (.iload_n 1, 1) := by decide +kernel
theorem dX4_nextToken_97 : decode cX4_nextToken 97 = .ok (.if_icmp .ge 31, 3) := by decide +kernel
theorem dX4_nextToken_100 : decode cX4_nextToken 100 = .ok (.aload_n 0, 1) := by decide +kernel
theorem dX4_nextToken_101 : decode cX4_nextToken 101 = .ok (.aload_n 0, 1) := by decide +kernel
theorem dX4_nextToken_102 : decode cX4_nextToken 102 = .ok (.getfield 30, 3) := by decide +kernel
theorem dX4_nextToken_105 : decode cX4_nextToken 105 = .ok (.invokevirtual 109, 3) := by decide +kernel
theorem dX4_nextToken_108 : decode cX4_nextToken 108 = .ok (.aload_n 0, 1) := by decide +kernel
theorem dX4_nextToken_109 : decode cX4_nextToken 109 = .ok (.getfield 43, 3) := by decide +kernel
theorem dX4_nextToken_112 : decode cX4_nextToken 112 = .ok (.if_icmp .ne 16, 3) := by decide +kernel
theorem dX4_nextToken_115 : decode cX4_nextToken 115 = .ok (.aload_n 0, 1) := by decide +kernel
theorem dX4_nextToken_116 : decode cX4_nextToken 116 = .ok (.dup, 1) := by decide +kernel
theorem dX4_nextToken_117 : decode cX4_nextToken 117 = .ok (.getfield 30, 3) := by decide +kernel
theorem dX4_nextToken_120 : decode cX4_nextToken 120 = .ok (.iconst 1, 1) := by decide +kernel
theorem dX4_nextToken_121 : decode cX4_nextToken 121 = .ok (.iadd, 1) := by decide +kernel
theorem dX4_nextToken_122 : decode cX4_nextToken 122 = .ok (.putfield 30, 3) := by decide +kernel
theorem dX4_nextToken_125 : decode cX4_nextToken 125 = .ok (.goto (-33), 3) := by decide +kernel
theorem dX4_nextToken_128 : decode cX4_nextToken 128 = .ok (.return_, 1) := by decide +kernel
theorem dX4_tokenAt_0 : decode cX4_tokenAt 0 = .ok (.iload_n 1, 1) := by decide +kernel
theorem dX4_tokenAt_1 : decode cX4_tokenAt 1 = .ok (.aload_n 0, 1) := by decide +kernel
theorem dX4_tokenAt_2 : decode cX4_tokenAt 2 = .ok (.getfield 18, 3) := by decide +kernel
theorem dX4_tokenAt_5 : decode cX4_tokenAt 5 = .ok (.invokevirtual 108, 3) := by decide +kernel
theorem dX4_tokenAt_8 : decode cX4_tokenAt 8 = .ok (.if_icmp .lt 5, 3) := by decide +kernel
theorem dX4_tokenAt_11 : decode cX4_tokenAt 11 = .ok (.iconst 0, 1) := by decide +kernel
theorem dX4_tokenAt_12 : decode cX4_tokenAt 12 = .ok (.ireturn, 1) := by decide +kernel
theorem dX4_tokenAt_13 : decode cX4_tokenAt 13 = .ok (.aload_n 0, 1) := by decide +kernel
theorem dX4_tokenAt_14 : decode cX4_tokenAt 14 = .ok (.getfield 18, 3) := by decide +kernel
theorem dX4_tokenAt_17 : decode cX4_tokenAt 17 = .ok (.iload_n 1, 1) := by decide +kernel
theorem dX4_tokenAt_18 : decode cX4_tokenAt 18 = .ok (.invokevirtual 94, 3) := by decide +kernel
theorem dX4_tokenAt_21 : decode cX4_tokenAt 21 = .ok (.istore_n 2, 1) := by decide +kernel
theorem dX4_tokenAt_22 : decode cX4_tokenAt 22 = .ok (.iload_n 2, 1) := by decide +kernel
theorem dX4_tokenAt_23 : decode cX4_tokenAt 23 = .ok (.bipush 97, 2) := by decide +kernel
theorem dX4_tokenAt_25 : decode cX4_tokenAt 25 = .ok (.if_icmp .lt 11, 3) := by decide +kernel
theorem dX4_tokenAt_28 : decode cX4_tokenAt 28 = .ok (.iload_n 2, 1) := by decide +kernel
theorem dX4_tokenAt_29 : decode cX4_tokenAt 29 = .ok (.bipush 122, 2) := by decide +kernel
theorem dX4_tokenAt_31 : decode cX4_tokenAt 31 = .ok (.if_icmp .gt 5, 3) := by decide +kernel
theorem dX4_tokenAt_34 : decode cX4_tokenAt 34 = .ok (.iconst 1, 1) := by decide +kernel
theorem dX4_tokenAt_35 : decode cX4_tokenAt 35 = .ok (.ireturn, 1) := by decide +kernel
theorem dX4_tokenAt_36 : decode cX4_tokenAt 36 = .ok (.iload_n 2, 1) := by decide +kernel
theorem dX4_tokenAt_37 : decode cX4_tokenAt 37 = .ok (.bipush 48, 2) := by decide +kernel
theorem dX4_tokenAt_39 : decode cX4_tokenAt 39 = .ok (.if_icmp .lt 13, 3) := by decide +kernel
theorem dX4_tokenAt_42 : decode cX4_tokenAt 42 = .ok (.iload_n 2, 1) := by decide +kernel
theorem dX4_tokenAt_43 : decode cX4_tokenAt 43 = .ok (.bipush 57, 2) := by decide +kernel
theorem dX4_tokenAt_45 : decode cX4_tokenAt 45 = .ok (.if_icmp .gt 7, 3) := by decide +kernel
theorem dX4_tokenAt_48 : decode cX4_tokenAt 48 = .ok (.iconst 2, 1) := by decide +kernel
theorem dX4_tokenAt_49 : decode cX4_tokenAt 49 = .ok (.goto 4, 3) := by decide +kernel
theorem dX4_tokenAt_52 : decode cX4_tokenAt 52 = .ok (.iconst 3, 1) := by decide +kernel
theorem dX4_tokenAt_53 : decode cX4_tokenAt 53 = .ok (.ireturn, 1) := by decide +kernel
theorem dX5_init_0 : decode cX5_init 0 = .ok (.aload_n 0, 1) := by decide +kernel
theorem dX5_init_1 : decode cX5_init 1 = .ok (.invokespecial 3, 3) := by decide +kernel
theorem dX5_init_4 : decode cX5_init 4 = .ok (.return_, 1) := by decide +kernel
theorem dX5_become_0 : decode cX5_become 0 = .ok (.aload_n 0, 1) := by decide +kernel
theorem dX5_become_1 : decode cX5_become 1 = .ok (.lload_n 1, 1) := by decide +kernel
theorem dX5_become_2 : decode cX5_become 2 = .ok (.putfield 9, 3) := by decide +kernel
theorem dX5_become_5 : decode cX5_become 5 = .ok (.aload_n 0, 1) := by decide +kernel
theorem dX5_become_6 : decode cX5_become 6 = .ok (.lload_n 3, 1) := by decide +kernel
theorem dX5_become_7 : decode cX5_become 7 = .ok (.putfield 15, 3) := by decide +kernel
theorem dX5_become_10 : decode cX5_become 10 = .ok (.return_, 1) := by decide +kernel
theorem dX5_becomeProduct_0 : decode cX5_becomeProduct 0 = .ok (.aload_n 1, 1) := by decide +kernel
theorem dX5_becomeProduct_1 : decode cX5_becomeProduct 1 = .ok (.getfield 9, 3) := by decide +kernel
theorem dX5_becomeProduct_4 : decode cX5_becomeProduct 4 = .ok (.aload_n 2, 1) := by decide +kernel
theorem dX5_becomeProduct_5 : decode cX5_becomeProduct 5 = .ok (.getfield 9, 3) := by decide +kernel
theorem dX5_becomeProduct_8 : decode cX5_becomeProduct 8 = .ok (.lmul, 1) := by decide +kernel
theorem dX5_becomeProduct_9 : decode cX5_becomeProduct 9 = .ok (.lstore_n 3, 1) := by decide +kernel
theorem dX5_becomeProduct_10 : decode cX5_becomeProduct 10 = .ok (.aload_n 1, 1) := by decide +kernel
theorem dX5_becomeProduct_11 : decode cX5_becomeProduct 11 = .ok (.getfield 9, 3) := by decide +kernel
theorem dX5_becomeProduct_14 : decode cX5_becomeProduct 14 = .ok (.aload_n 2, 1) := by decide +kernel
theorem dX5_becomeProduct_15 : decode cX5_becomeProduct 15 = .ok (.getfield 15, 3) := by decide +kernel
theorem dX5_becomeProduct_18 : decode cX5_becomeProduct 18 = .ok (.lmul, 1) := by decide +kernel
theorem dX5_becomeProduct_19 : decode cX5_becomeProduct 19 = .ok (.lstore 5, 2) := by decide +kernel
theorem dX5_becomeProduct_21 : decode cX5_becomeProduct 21 = .ok (.aload_n 1, 1) := by decide +kernel
theorem dX5_becomeProduct_22 : decode cX5_becomeProduct 22 = .ok (.getfield 15, 3) := by decide +kernel
theorem dX5_becomeProduct_25 : decode cX5_becomeProduct 25 = .ok (.aload_n 2, 1) := by decide +kernel
theorem dX5_becomeProduct_26 : decode cX5_becomeProduct 26 = .ok (.getfield 9, 3) := by decide +kernel
theorem dX5_becomeProduct_29 : decode cX5_becomeProduct 29 = .ok (.lmul, 1) := by decide +kernel
theorem dX5_becomeProduct_30 : decode cX5_becomeProduct 30 = .ok (.lstore 7, 2) := by decide +kernel
theorem dX5_becomeProduct_32 : decode cX5_becomeProduct 32 = .ok (.aload_n 1, 1) := by decide +kernel
theorem dX5_becomeProduct_33 : decode cX5_becomeProduct 33 = .ok (.getfield 15, 3) := by decide +kernel
theorem dX5_becomeProduct_36 : decode cX5_becomeProduct 36 = .ok (.aload_n 2, 1) := by decide +kernel
theorem dX5_becomeProduct_37 : decode cX5_becomeProduct 37 = .ok (.getfield 15, 3) := by decide +kernel
theorem dX5_becomeProduct_40 : decode cX5_becomeProduct 40 = .ok (.lmul, 1) := by decide +kernel
theorem dX5_becomeProduct_41 : decode cX5_becomeProduct 41 = .ok (.lstore 9, 2) := by decide +kernel
theorem dX5_becomeProduct_43 : decode cX5_becomeProduct 43 = .ok (.aload_n 0, 1) := by decide +kernel
theorem dX5_becomeProduct_44 : decode cX5_becomeProduct 44 = .ok (.lload_n 3, 1) := by decide +kernel
theorem dX5_becomeProduct_45 : decode cX5_becomeProduct 45 = .ok (.lload 5, 2) := by decide +kernel
theorem dX5_becomeProduct_47 : decode cX5_becomeProduct 47 = .ok (.invokestatic 18, 3) := by decide +kernel
theorem dX5_becomeProduct_50 : decode cX5_becomeProduct 50 = .ok (.lload 7, 2) := by decide +kernel
theorem dX5_becomeProduct_52 : decode cX5_becomeProduct 52 = .ok (.lload 9, 2) := by decide +kernel
theorem dX5_becomeProduct_54 : decode cX5_becomeProduct 54 = .ok (.invokestatic 18, 3) := by decide +kernel
theorem dX5_becomeProduct_57 : decode cX5_becomeProduct 57 = .ok (.invokestatic 18, 3) := by decide +kernel
theorem dX5_becomeProduct_60 : decode cX5_becomeProduct 60 = .ok (.ldc2_w 24, 3) := by decide +kernel
theorem dX5_becomeProduct_63 : decode cX5_becomeProduct 63 = .ok (.invokestatic 26, 3) := by decide +kernel
theorem dX5_becomeProduct_66 : decode cX5_becomeProduct 66 = .ok (.putfield 9, 3) := by decide +kernel
theorem dX5_becomeProduct_69 : decode cX5_becomeProduct 69 = .ok (.aload_n 0, 1) := by decide +kernel
theorem dX5_becomeProduct_70 : decode cX5_becomeProduct 70 = .ok (.lload_n 3, 1) := by decide +kernel
theorem dX5_becomeProduct_71 : decode cX5_becomeProduct 71 = .ok (.lload 5, 2) := by decide +kernel
theorem dX5_becomeProduct_73 : decode cX5_becomeProduct 73 = .ok (.invokestatic 29, 3) := by decide +kernel
theorem dX5_becomeProduct_76 : decode cX5_becomeProduct 76 = .ok (.lload 7, 2) := by decide +kernel
theorem dX5_becomeProduct_78 : decode cX5_becomeProduct 78 = .ok (.lload 9, 2) := by decide +kernel
theorem dX5_becomeProduct_80 : decode cX5_becomeProduct 80 = .ok (.invokestatic 29, 3) := by decide +kernel
theorem dX5_becomeProduct_83 : decode cX5_becomeProduct 83 = .ok (.invokestatic 29, 3) := by decide +kernel
theorem dX5_becomeProduct_86 : decode cX5_becomeProduct 86 = .ok (.lneg, 1) := by decide +kernel
theorem dX5_becomeProduct_87 : decode cX5_becomeProduct 87 = .ok (.ldc2_w 24, 3) := by decide +kernel
theorem dX5_becomeProduct_90 : decode cX5_becomeProduct 90 = .ok (.invokestatic 26, 3) := by decide +kernel
theorem dX5_becomeProduct_93 : decode cX5_becomeProduct 93 = .ok (.lneg, 1) := by decide +kernel
theorem dX5_becomeProduct_94 : decode cX5_becomeProduct 94 = .ok (.putfield 15, 3) := by decide +kernel
theorem dX5_becomeProduct_97 : decode cX5_becomeProduct 97 = .ok (.return_, 1) := by decide +kernel
theorem dX5_becomeQuotient_0 : decode cX5_becomeQuotient 0 = .ok (.aload_n 2, 1) := by decide +kernel
theorem dX5_becomeQuotient_1 : decode cX5_becomeQuotient 1 = .ok (.getfield 9, 3) := by decide +kernel
theorem dX5_becomeQuotient_4 : decode cX5_becomeQuotient 4 = .ok (.lconst 0, 1) := by decide +kernel
theorem dX5_becomeQuotient_5 : decode cX5_becomeQuotient 5 = .ok (.lcmp, 1) := by decide +kernel
theorem dX5_becomeQuotient_6 : decode cX5_becomeQuotient 6 = .ok (.ifCond .eq 12, 3) := by decide +kernel
theorem dX5_becomeQuotient_9 : decode cX5_becomeQuotient 9 = .ok (.aload_n 2, 1) := by decide +kernel
theorem dX5_becomeQuotient_10 : decode cX5_becomeQuotient 10 = .ok (.getfield 15, 3) := by decide +kernel
theorem dX5_becomeQuotient_13 : decode cX5_becomeQuotient 13 = .ok (.lconst 0, 1) := by decide +kernel
theorem dX5_becomeQuotient_14 : decode cX5_becomeQuotient 14 = .ok (.lcmp, 1) := by decide +kernel
theorem dX5_becomeQuotient_15 : decode cX5_becomeQuotient 15 = .ok (.ifCond .ne 4, 3) := by decide +kernel
theorem dX5_becomeQuotient_18 : decode cX5_becomeQuotient 18 = .ok (.return_, 1) := by decide +kernel
theorem dX5_becomeQuotient_19 : decode cX5_becomeQuotient 19 = .ok (.ldc2_w 24, 3) := by decide +kernel
theorem dX5_becomeQuotient_22 : decode cX5_becomeQuotient 22 = .ok (.aload_n 1, 1) := by decide +kernel
theorem dX5_becomeQuotient_23 : decode cX5_becomeQuotient 23 = .ok (.getfield 9, 3) := by decide +kernel
theorem dX5_becomeQuotient_26 : decode cX5_becomeQuotient 26 = .ok (.lmul, 1) := by decide +kernel
theorem dX5_becomeQuotient_27 : decode cX5_becomeQuotient 27 = .ok (.lstore_n 3, 1) := by decide +kernel
theorem dX5_becomeQuotient_28 : decode cX5_becomeQuotient 28 = .ok (.ldc2_w 24, 3) := by decide +kernel
theorem dX5_becomeQuotient_31 : decode cX5_becomeQuotient 31 = .ok (.aload_n 1, 1) := by decide +kernel
theorem dX5_becomeQuotient_32 : decode cX5_becomeQuotient 32 = .ok (.getfield 15, 3) := by decide +kernel
theorem dX5_becomeQuotient_35 : decode cX5_becomeQuotient 35 = .ok (.lmul, 1) := by decide +kernel
theorem dX5_becomeQuotient_36 : decode cX5_becomeQuotient 36 = .ok (.lstore 5, 2) := by decide +kernel
theorem dX5_becomeQuotient_38 : decode cX5_becomeQuotient 38 = .ok (.lload_n 3, 1) := by decide +kernel
theorem dX5_becomeQuotient_39 : decode cX5_becomeQuotient 39 = .ok (.aload_n 2, 1) := by decide +kernel
theorem dX5_becomeQuotient_40 : decode cX5_becomeQuotient 40 = .ok (.getfield 9, 3) := by decide +kernel
theorem dX5_becomeQuotient_43 : decode cX5_becomeQuotient 43 = .ok (.invokestatic 26, 3) := by decide +kernel
theorem dX5_becomeQuotient_46 : decode cX5_becomeQuotient 46 = .ok (.lload_n 3, 1) := by decide +kernel
theorem dX5_becomeQuotient_47 : decode cX5_becomeQuotient 47 = .ok (.aload_n 2, 1) := by decide +kernel
theorem dX5_becomeQuotient_48 : decode cX5_becomeQuotient 48 = .ok (.getfield 15, 3) := by decide +kernel
theorem dX5_becomeQuotient_51 : decode cX5_becomeQuotient 51 = .ok (.invokestatic 26, 3) := by decide +kernel
theorem dX5_becomeQuotient_54 : decode cX5_becomeQuotient 54 = .ok (.invokestatic 18, 3) := by decide +kernel
theorem dX5_becomeQuotient_57 : decode cX5_becomeQuotient 57 = .ok (.lload 5, 2) := by decide +kernel
theorem dX5_becomeQuotient_59 : decode cX5_becomeQuotient 59 = .ok (.aload_n 2, 1) := by decide +kernel
theorem dX5_becomeQuotient_60 : decode cX5_becomeQuotient 60 = .ok (.getfield 9, 3) := by decide +kernel
theorem dX5_becomeQuotient_63 : decode cX5_becomeQuotient 63 = .ok (.invokestatic 26, 3) := by decide +kernel
theorem dX5_becomeQuotient_66 : decode cX5_becomeQuotient 66 = .ok (.lload 5, 2) := by decide +kernel
theorem dX5_becomeQuotient_68 : decode cX5_becomeQuotient 68 = .ok (.aload_n 2, 1) := by decide +kernel
theorem dX5_becomeQuotient_69 : decode cX5_becomeQuotient 69 = .ok (.getfield 15, 3) := by decide +kernel
theorem dX5_becomeQuotient_72 : decode cX5_becomeQuotient 72 = .ok (.invokestatic 26, 3) := by decide +kernel
theorem dX5_becomeQuotient_75 : decode cX5_becomeQuotient 75 = .ok (.invokestatic 18, 3) := by decide +kernel
theorem dX5_becomeQuotient_78 : decode cX5_becomeQuotient 78 = .ok (.invokestatic 18, 3) := by decide +kernel
theorem dX5_becomeQuotient_81 : decode cX5_becomeQuotient 81 = .ok (.lstore 7, 2) := by decide +kernel
theorem dX5_becomeQuotient_83 : decode cX5_becomeQuotient 83 = .ok (.lload_n 3, 1) := by decide +kernel
theorem dX5_becomeQuotient_84 : decode cX5_becomeQuotient 84 = .ok (.aload_n 2, 1) := by decide +kernel
theorem dX5_becomeQuotient_85 : decode cX5_becomeQuotient 85 = .ok (.getfield 9, 3) := by decide +kernel
theorem dX5_becomeQuotient_88 : decode cX5_becomeQuotient 88 = .ok (.invokestatic 32, 3) := by decide +kernel
theorem dX5_becomeQuotient_91 : decode cX5_becomeQuotient 91 = .ok (.lload_n 3, 1) := by decide +kernel
theorem dX5_becomeQuotient_92 : decode cX5_becomeQuotient 92 = .ok (.aload_n 2, 1) := by decide +kernel
theorem dX5_becomeQuotient_93 : decode cX5_becomeQuotient 93 = .ok (.getfield 15, 3) := by decide +kernel
theorem dX5_becomeQuotient_96 : decode cX5_becomeQuotient 96 = .ok (.invokestatic 32, 3) := by decide +kernel
theorem dX5_becomeQuotient_99 : decode cX5_becomeQuotient 99 = .ok (.invokestatic 29, 3) := by decide +kernel
theorem dX5_becomeQuotient_102 : decode cX5_becomeQuotient 102 = .ok (.lload 5, 2) := by decide +kernel
theorem dX5_becomeQuotient_104 : decode cX5_becomeQuotient 104 = .ok (.aload_n 2, 1) := by decide +kernel
theorem dX5_becomeQuotient_105 : decode cX5_becomeQuotient 105 = .ok (.getfield 9, 3) := by decide +kernel
theorem dX5_becomeQuotient_108 : decode cX5_becomeQuotient 108 = .ok (.invokestatic 32, 3) := by decide +kernel
theorem dX5_becomeQuotient_111 : decode cX5_becomeQuotient 111 = .ok (.lload 5, 2) := by decide +kernel
theorem dX5_becomeQuotient_113 : decode cX5_becomeQuotient 113 = .ok (.aload_n 2, 1) := by decide +kernel
theorem dX5_becomeQuotient_114 : decode cX5_becomeQuotient 114 = .ok (.getfield 15, 3) := by decide +kernel
theorem dX5_becomeQuotient_117 : decode cX5_becomeQuotient 117 = .ok (.invokestatic 32, 3) := by decide +kernel
theorem dX5_becomeQuotient_120 : decode cX5_becomeQuotient 120 = .ok (.invokestatic 29, 3) := by decide +kernel
theorem dX5_becomeQuotient_123 : decode cX5_becomeQuotient 123 = .ok (.invokestatic 29, 3) := by decide +kernel
theorem dX5_becomeQuotient_126 : decode cX5_becomeQuotient 126 = .ok (.lstore 9, 2) := by decide +kernel
theorem dX5_becomeQuotient_128 : decode cX5_becomeQuotient 128 = .ok (.aload_n 0, 1) := by decide +kernel
theorem dX5_becomeQuotient_129 : decode cX5_becomeQuotient 129 = .ok (.lload 7, 2) := by decide +kernel
theorem dX5_becomeQuotient_131 : decode cX5_becomeQuotient 131 = .ok (.lload 9, 2) := by decide +kernel
theorem dX5_becomeQuotient_133 : decode cX5_becomeQuotient 133 = .ok (.invokevirtual 35, 3) := by decide +kernel
theorem dX5_becomeQuotient_136 : decode cX5_becomeQuotient 136 = .ok (.return_, 1) := by decide +kernel
theorem dX5_becomeLess_0 : decode cX5_becomeLess 0 = .ok (.aload_n 0, 1) := by decide +kernel
theorem dX5_becomeLess_1 : decode cX5_becomeLess 1 = .ok (.aload_n 1, 1) := by decide +kernel
theorem dX5_becomeLess_2 : decode cX5_becomeLess 2 = .ok (.getfield 9, 3) := by decide +kernel
theorem dX5_becomeLess_5 : decode cX5_becomeLess 5 = .ok (.aload_n 2, 1) := by decide +kernel
theorem dX5_becomeLess_6 : decode cX5_becomeLess 6 = .ok (.getfield 15, 3) := by decide +kernel
theorem dX5_becomeLess_9 : decode cX5_becomeLess 9 = .ok (.lsub, 1) := by decide +kernel
theorem dX5_becomeLess_10 : decode cX5_becomeLess 10 = .ok (.aload_n 1, 1) := by decide +kernel
theorem dX5_becomeLess_11 : decode cX5_becomeLess 11 = .ok (.getfield 15, 3) := by decide +kernel
theorem dX5_becomeLess_14 : decode cX5_becomeLess 14 = .ok (.aload_n 2, 1) := by decide +kernel
theorem dX5_becomeLess_15 : decode cX5_becomeLess 15 = .ok (.getfield 9, 3) := by decide +kernel
theorem dX5_becomeLess_18 : decode cX5_becomeLess 18 = .ok (.lsub, 1) := by decide +kernel
theorem dX5_becomeLess_19 : decode cX5_becomeLess 19 = .ok (.invokevirtual 35, 3) := by decide +kernel
theorem dX5_becomeLess_22 : decode cX5_becomeLess 22 = .ok (.return_, 1) := by decide +kernel
theorem dX5_becomeShared_0 : decode cX5_becomeShared 0 = .ok (.aload_n 0, 1) := by decide +kernel
theorem dX5_becomeShared_1 : decode cX5_becomeShared 1 = .ok (.aload_n 1, 1) := by decide +kernel
theorem dX5_becomeShared_2 : decode cX5_becomeShared 2 = .ok (.getfield 9, 3) := by decide +kernel
theorem dX5_becomeShared_5 : decode cX5_becomeShared 5 = .ok (.aload_n 2, 1) := by decide +kernel
theorem dX5_becomeShared_6 : decode cX5_becomeShared 6 = .ok (.getfield 9, 3) := by decide +kernel
theorem dX5_becomeShared_9 : decode cX5_becomeShared 9 = .ok (.invokestatic 29, 3) := by decide +kernel
theorem dX5_becomeShared_12 : decode cX5_becomeShared 12 = .ok (.aload_n 1, 1) := by decide +kernel
theorem dX5_becomeShared_13 : decode cX5_becomeShared 13 = .ok (.getfield 15, 3) := by decide +kernel
theorem dX5_becomeShared_16 : decode cX5_becomeShared 16 = .ok (.aload_n 2, 1) := by decide +kernel
theorem dX5_becomeShared_17 : decode cX5_becomeShared 17 = .ok (.getfield 15, 3) := by decide +kernel
theorem dX5_becomeShared_20 : decode cX5_becomeShared 20 = .ok (.invokestatic 18, 3) := by decide +kernel
theorem dX5_becomeShared_23 : decode cX5_becomeShared 23 = .ok (.invokevirtual 35, 3) := by decide +kernel
theorem dX5_becomeShared_26 : decode cX5_becomeShared 26 = .ok (.return_, 1) := by decide +kernel
theorem dX5_addTimes_0 : decode cX5_addTimes 0 = .ok (.aload_n 0, 1) := by decide +kernel
theorem dX5_addTimes_1 : decode cX5_addTimes 1 = .ok (.dup, 1) := by decide +kernel
theorem dX5_addTimes_2 : decode cX5_addTimes 2 = .ok (.getfield 9, 3) := by decide +kernel
theorem dX5_addTimes_5 : decode cX5_addTimes 5 = .ok (.aload_n 1, 1) := by decide +kernel
theorem dX5_addTimes_6 : decode cX5_addTimes 6 = .ok (.getfield 9, 3) := by decide +kernel
theorem dX5_addTimes_9 : decode cX5_addTimes 9 = .ok (.lload_n 2, 1) := by decide +kernel
theorem dX5_addTimes_10 : decode cX5_addTimes 10 = .ok (.lmul, 1) := by decide +kernel
theorem dX5_addTimes_11 : decode cX5_addTimes 11 = .ok (.aload_n 1, 1) := by decide +kernel
theorem dX5_addTimes_12 : decode cX5_addTimes 12 = .ok (.getfield 15, 3) := by decide +kernel
theorem dX5_addTimes_15 : decode cX5_addTimes 15 = .ok (.lload_n 2, 1) := by decide +kernel
theorem dX5_addTimes_16 : decode cX5_addTimes 16 = .ok (.lmul, 1) := by decide +kernel
theorem dX5_addTimes_17 : decode cX5_addTimes 17 = .ok (.invokestatic 18, 3) := by decide +kernel
theorem dX5_addTimes_20 : decode cX5_addTimes 20 = .ok (.ladd, 1) := by decide +kernel
theorem dX5_addTimes_21 : decode cX5_addTimes 21 = .ok (.putfield 9, 3) := by decide +kernel
theorem dX5_addTimes_24 : decode cX5_addTimes 24 = .ok (.aload_n 0, 1) := by decide +kernel
theorem dX5_addTimes_25 : decode cX5_addTimes 25 = .ok (.dup, 1) := by decide +kernel
theorem dX5_addTimes_26 : decode cX5_addTimes 26 = .ok (.getfield 15, 3) := by decide +kernel
theorem dX5_addTimes_29 : decode cX5_addTimes 29 = .ok (.aload_n 1, 1) := by decide +kernel
theorem dX5_addTimes_30 : decode cX5_addTimes 30 = .ok (.getfield 9, 3) := by decide +kernel
theorem dX5_addTimes_33 : decode cX5_addTimes 33 = .ok (.lload_n 2, 1) := by decide +kernel
theorem dX5_addTimes_34 : decode cX5_addTimes 34 = .ok (.lmul, 1) := by decide +kernel
theorem dX5_addTimes_35 : decode cX5_addTimes 35 = .ok (.aload_n 1, 1) := by decide +kernel
theorem dX5_addTimes_36 : decode cX5_addTimes 36 = .ok (.getfield 15, 3) := by decide +kernel
theorem dX5_addTimes_39 : decode cX5_addTimes 39 = .ok (.lload_n 2, 1) := by decide +kernel
theorem dX5_addTimes_40 : decode cX5_addTimes 40 = .ok (.lmul, 1) := by decide +kernel
theorem dX5_addTimes_41 : decode cX5_addTimes 41 = .ok (.invokestatic 29, 3) := by decide +kernel
theorem dX5_addTimes_44 : decode cX5_addTimes 44 = .ok (.ladd, 1) := by decide +kernel
theorem dX5_addTimes_45 : decode cX5_addTimes 45 = .ok (.putfield 15, 3) := by decide +kernel
theorem dX5_addTimes_48 : decode cX5_addTimes 48 = .ok (.return_, 1) := by decide +kernel
theorem dX5_hasZero_0 : decode cX5_hasZero 0 = .ok (.aload_n 0, 1) := by decide +kernel
theorem dX5_hasZero_1 : decode cX5_hasZero 1 = .ok (.getfield 9, 3) := by decide +kernel
theorem dX5_hasZero_4 : decode cX5_hasZero 4 = .ok (.lconst 0, 1) := by decide +kernel
theorem dX5_hasZero_5 : decode cX5_hasZero 5 = .ok (.lcmp, 1) := by decide +kernel
theorem dX5_hasZero_6 : decode cX5_hasZero 6 = .ok (.ifCond .gt 16, 3) := by decide +kernel
theorem dX5_hasZero_9 : decode cX5_hasZero 9 = .ok (.aload_n 0, 1) := by decide +kernel
theorem dX5_hasZero_10 : decode cX5_hasZero 10 = .ok (.getfield 15, 3) := by decide +kernel
theorem dX5_hasZero_13 : decode cX5_hasZero 13 = .ok (.lconst 0, 1) := by decide +kernel
theorem dX5_hasZero_14 : decode cX5_hasZero 14 = .ok (.lcmp, 1) := by decide +kernel
theorem dX5_hasZero_15 : decode cX5_hasZero 15 = .ok (.ifCond .lt 7, 3) := by decide +kernel
theorem dX5_hasZero_18 : decode cX5_hasZero 18 = .ok (.iconst 1, 1) := by decide +kernel
theorem dX5_hasZero_19 : decode cX5_hasZero 19 = .ok (.goto 4, 3) := by decide +kernel
theorem dX5_hasZero_22 : decode cX5_hasZero 22 = .ok (.iconst 0, 1) := by decide +kernel
theorem dX5_hasZero_23 : decode cX5_hasZero 23 = .ok (.ireturn, 1) := by decide +kernel
theorem dX5_isNothing_0 : decode cX5_isNothing 0 = .ok (.aload_n 0, 1) := by decide +kernel
theorem dX5_isNothing_1 : decode cX5_isNothing 1 = .ok (.getfield 15, 3) := by decide +kernel
theorem dX5_isNothing_4 : decode cX5_isNothing 4 = .ok (.aload_n 0, 1) := by decide +kernel
theorem dX5_isNothing_5 : decode cX5_isNothing 5 = .ok (.getfield 9, 3) := by decide +kernel
theorem dX5_isNothing_8 : decode cX5_isNothing 8 = .ok (.lcmp, 1) := by decide +kernel
theorem dX5_isNothing_9 : decode cX5_isNothing 9 = .ok (.ifCond .ge 7, 3) := by decide +kernel
theorem dX5_isNothing_12 : decode cX5_isNothing 12 = .ok (.iconst 1, 1) := by decide +kernel
theorem dX5_isNothing_13 : decode cX5_isNothing 13 = .ok (.goto 4, 3) := by decide +kernel
theorem dX5_isNothing_16 : decode cX5_isNothing 16 = .ok (.iconst 0, 1) := by decide +kernel
theorem dX5_isNothing_17 : decode cX5_isNothing 17 = .ok (.ireturn, 1) := by decide +kernel
theorem dX5_isStrictlyWithin_0 : decode cX5_isStrictlyWithin 0 = .ok (.aload_n 0, 1) := by decide +kernel
theorem dX5_isStrictlyWithin_1 : decode cX5_isStrictlyWithin 1 = .ok (.getfield 9, 3) := by decide +kernel
theorem dX5_isStrictlyWithin_4 : decode cX5_isStrictlyWithin 4 = .ok (.aload_n 1, 1) := by decide +kernel
theorem dX5_isStrictlyWithin_5 : decode cX5_isStrictlyWithin 5 = .ok (.getfield 9, 3) := by decide +kernel
theorem dX5_isStrictlyWithin_8 : decode cX5_isStrictlyWithin 8 = .ok (.lcmp, 1) := by decide +kernel
theorem dX5_isStrictlyWithin_9 : decode cX5_isStrictlyWithin 9 = .ok (.ifCond .le 19, 3) := by decide +kernel
theorem dX5_isStrictlyWithin_12 : decode cX5_isStrictlyWithin 12 = .ok (.aload_n 0, 1) := by decide +kernel
theorem dX5_isStrictlyWithin_13 : decode cX5_isStrictlyWithin 13 = .ok (.getfield 15, 3) := by decide +kernel
theorem dX5_isStrictlyWithin_16 : decode cX5_isStrictlyWithin 16 = .ok (.aload_n 1, 1) := by decide +kernel
theorem dX5_isStrictlyWithin_17 : decode cX5_isStrictlyWithin 17 = .ok (.getfield 15, 3) := by decide +kernel
theorem dX5_isStrictlyWithin_20 : decode cX5_isStrictlyWithin 20 = .ok (.lcmp, 1) := by decide +kernel
theorem dX5_isStrictlyWithin_21 : decode cX5_isStrictlyWithin 21 = .ok (.ifCond .ge 7, 3) := by decide +kernel
theorem dX5_isStrictlyWithin_24 : decode cX5_isStrictlyWithin 24 = .ok (.iconst 1, 1) := by decide +kernel
theorem dX5_isStrictlyWithin_25 : decode cX5_isStrictlyWithin 25 = .ok (.goto 4, 3) := by decide +kernel
theorem dX5_isStrictlyWithin_28 : decode cX5_isStrictlyWithin 28 = .ok (.iconst 0, 1) := by decide +kernel
theorem dX5_isStrictlyWithin_29 : decode cX5_isStrictlyWithin 29 = .ok (.ireturn, 1) := by decide +kernel
theorem dX5_width_0 : decode cX5_width 0 = .ok (.aload_n 0, 1) := by decide +kernel
theorem dX5_width_1 : decode cX5_width 1 = .ok (.getfield 15, 3) := by decide +kernel
theorem dX5_width_4 : decode cX5_width 4 = .ok (.aload_n 0, 1) := by decide +kernel
theorem dX5_width_5 : decode cX5_width 5 = .ok (.getfield 9, 3) := by decide +kernel
theorem dX5_width_8 : decode cX5_width 8 = .ok (.lsub, 1) := by decide +kernel
theorem dX5_width_9 : decode cX5_width 9 = .ok (.lreturn, 1) := by decide +kernel
theorem dX5_middle_0 : decode cX5_middle 0 = .ok (.aload_n 0, 1) := by decide +kernel
theorem dX5_middle_1 : decode cX5_middle 1 = .ok (.getfield 9, 3) := by decide +kernel
theorem dX5_middle_4 : decode cX5_middle 4 = .ok (.aload_n 0, 1) := by decide +kernel
theorem dX5_middle_5 : decode cX5_middle 5 = .ok (.getfield 15, 3) := by decide +kernel
theorem dX5_middle_8 : decode cX5_middle 8 = .ok (.ladd, 1) := by decide +kernel
theorem dX5_middle_9 : decode cX5_middle 9 = .ok (.ldc2_w 39, 3) := by decide +kernel
theorem dX5_middle_12 : decode cX5_middle 12 = .ok (.invokestatic 26, 3) := by decide +kernel
theorem dX5_middle_15 : decode cX5_middle 15 = .ok (.lreturn, 1) := by decide +kernel
theorem dX5_told_0 : decode cX5_told 0 = .ok (.ldc2_w 41, 3) := by decide +kernel
theorem dX5_told_3 : decode cX5_told 3 = .ok (.ldc2_w 43, 3) := by decide +kernel
theorem dX5_told_6 : decode cX5_told 6 = .ok (.iload_n 1, 1) := by decide +kernel
theorem dX5_told_7 : decode cX5_told 7 = .ok (.ifCond .ne 10, 3) := by decide +kernel
theorem dX5_told_10 : decode cX5_told 10 = .ok (.aload_n 0, 1) := by decide +kernel
theorem dX5_told_11 : decode cX5_told 11 = .ok (.getfield 9, 3) := by decide +kernel
theorem dX5_told_14 : decode cX5_told 14 = .ok (.goto 7, 3) := by decide +kernel
theorem dX5_told_17 : decode cX5_told 17 = .ok (.aload_n 0, 1) := by decide +kernel
theorem dX5_told_18 : decode cX5_told 18 = .ok (.getfield 15, 3) := by decide +kernel
theorem dX5_told_21 : decode cX5_told 21 = .ok (.invokestatic 18, 3) := by decide +kernel
theorem dX5_told_24 : decode cX5_told 24 = .ok (.invokestatic 29, 3) := by decide +kernel
theorem dX5_told_27 : decode cX5_told 27 = .ok (.l2i, 1) := by decide +kernel
theorem dX5_told_28 : decode cX5_told 28 = .ok (.ireturn, 1) := by decide +kernel
theorem dX5_upDiv_0 : decode cX5_upDiv 0 = .ok (.lload_n 2, 1) := by decide +kernel
theorem dX5_upDiv_1 : decode cX5_upDiv 1 = .ok (.lconst 0, 1) := by decide +kernel
theorem dX5_upDiv_2 : decode cX5_upDiv 2 = .ok (.lcmp, 1) := by decide +kernel
theorem dX5_upDiv_3 : decode cX5_upDiv 3 = .ok (.ifCond .ne 7, 3) := by decide +kernel
theorem dX5_upDiv_6 : decode cX5_upDiv 6 = .ok (.lconst 0, 1) := by decide +kernel
theorem dX5_upDiv_7 : decode cX5_upDiv 7 = .ok (.goto 10, 3) := by decide +kernel
theorem dX5_upDiv_10 : decode cX5_upDiv 10 = .ok (.lload_n 0, 1) := by decide +kernel
theorem dX5_upDiv_11 : decode cX5_upDiv 11 = .ok (.lneg, 1) := by decide +kernel
theorem dX5_upDiv_12 : decode cX5_upDiv 12 = .ok (.lload_n 2, 1) := by decide +kernel
theorem dX5_upDiv_13 : decode cX5_upDiv 13 = .ok (.invokestatic 26, 3) := by decide +kernel
theorem dX5_upDiv_16 : decode cX5_upDiv 16 = .ok (.lneg, 1) := by decide +kernel
theorem dX5_upDiv_17 : decode cX5_upDiv 17 = .ok (.lreturn, 1) := by decide +kernel
theorem dX6_init_0 : decode cX6_init 0 = .ok (.aload_n 0, 1) := by decide +kernel
theorem dX6_init_1 : decode cX6_init 1 = .ok (.invokespecial 3, 3) := by decide +kernel
theorem dX6_init_4 : decode cX6_init 4 = .ok (.aload_n 0, 1) := by decide +kernel
theorem dX6_init_5 : decode cX6_init 5 = .ok (.new 9, 3) := by decide +kernel
theorem dX6_init_8 : decode cX6_init 8 = .ok (.dup, 1) := by decide +kernel
theorem dX6_init_9 : decode cX6_init 9 = .ok (.invokespecial 11, 3) := by decide +kernel
theorem dX6_init_12 : decode cX6_init 12 = .ok (.putfield 12, 3) := by decide +kernel
theorem dX6_init_15 : decode cX6_init 15 = .ok (.aload_n 0, 1) := by decide +kernel
theorem dX6_init_16 : decode cX6_init 16 = .ok (.new 9, 3) := by decide +kernel
theorem dX6_init_19 : decode cX6_init 19 = .ok (.dup, 1) := by decide +kernel
theorem dX6_init_20 : decode cX6_init 20 = .ok (.invokespecial 11, 3) := by decide +kernel
theorem dX6_init_23 : decode cX6_init 23 = .ok (.putfield 18, 3) := by decide +kernel
theorem dX6_init_26 : decode cX6_init 26 = .ok (.aload_n 0, 1) := by decide +kernel
theorem dX6_init_27 : decode cX6_init 27 = .ok (.new 21, 3) := by decide +kernel
theorem dX6_init_30 : decode cX6_init 30 = .ok (.dup, 1) := by decide +kernel
theorem dX6_init_31 : decode cX6_init 31 = .ok (.bipush 64, 2) := by decide +kernel
theorem dX6_init_33 : decode cX6_init 33 = .ok (.invokespecial 23, 3) := by decide +kernel
theorem dX6_init_36 : decode cX6_init 36 = .ok (.putfield 26, 3) := by decide +kernel
theorem dX6_init_39 : decode cX6_init 39 = .ok (.aload_n 0, 1) := by decide +kernel
theorem dX6_init_40 : decode cX6_init 40 = .ok (.new 21, 3) := by decide +kernel
theorem dX6_init_43 : decode cX6_init 43 = .ok (.dup, 1) := by decide +kernel
theorem dX6_init_44 : decode cX6_init 44 = .ok (.sipush 200, 3) := by decide +kernel
theorem dX6_init_47 : decode cX6_init 47 = .ok (.invokespecial 23, 3) := by decide +kernel
theorem dX6_init_50 : decode cX6_init 50 = .ok (.putfield 30, 3) := by decide +kernel
theorem dX6_init_53 : decode cX6_init 53 = .ok (.aload_n 0, 1) := by decide +kernel
theorem dX6_init_54 : decode cX6_init 54 = .ok (.new 21, 3) := by decide +kernel
theorem dX6_init_57 : decode cX6_init 57 = .ok (.dup, 1) := by decide +kernel
theorem dX6_init_58 : decode cX6_init 58 = .ok (.sipush 200, 3) := by decide +kernel
theorem dX6_init_61 : decode cX6_init 61 = .ok (.invokespecial 23, 3) := by decide +kernel
theorem dX6_init_64 : decode cX6_init 64 = .ok (.putfield 33, 3) := by decide +kernel
theorem dX6_init_67 : decode cX6_init 67 = .ok (.aload_n 0, 1) := by decide +kernel
theorem dX6_init_68 : decode cX6_init 68 = .ok (.new 21, 3) := by decide +kernel
theorem dX6_init_71 : decode cX6_init 71 = .ok (.dup, 1) := by decide +kernel
theorem dX6_init_72 : decode cX6_init 72 = .ok (.sipush 200, 3) := by decide +kernel
theorem dX6_init_75 : decode cX6_init 75 = .ok (.invokespecial 23, 3) := by decide +kernel
theorem dX6_init_78 : decode cX6_init 78 = .ok (.putfield 36, 3) := by decide +kernel
theorem dX6_init_81 : decode cX6_init 81 = .ok (.aload_n 0, 1) := by decide +kernel
theorem dX6_init_82 : decode cX6_init 82 = .ok (.sipush 200, 3) := by decide +kernel
theorem dX6_init_85 : decode cX6_init 85 = .ok (.newarray .int, 2) := by decide +kernel
theorem dX6_init_87 : decode cX6_init 87 = .ok (.putfield 39, 3) := by decide +kernel
theorem dX6_init_90 : decode cX6_init 90 = .ok (.aload_n 0, 1) := by decide +kernel
theorem dX6_init_91 : decode cX6_init 91 = .ok (.iconst 4, 1) := by decide +kernel
theorem dX6_init_92 : decode cX6_init 92 = .ok (.putfield 43, 3) := by decide +kernel
theorem dX6_init_95 : decode cX6_init 95 = .ok (.return_, 1) := by decide +kernel
theorem dX6_polynomial_0 : decode cX6_polynomial 0 = .ok (.iload_n 1, 1) := by decide +kernel
theorem dX6_polynomial_1 : decode cX6_polynomial 1 = .ok (.ifCond .ne 10, 3) := by decide +kernel
theorem dX6_polynomial_4 : decode cX6_polynomial 4 = .ok (.aload_n 0, 1) := by decide +kernel
theorem dX6_polynomial_5 : decode cX6_polynomial 5 = .ok (.getfield 12, 3) := by decide +kernel
theorem dX6_polynomial_8 : decode cX6_polynomial 8 = .ok (.goto 7, 3) := by decide +kernel
theorem dX6_polynomial_11 : decode cX6_polynomial 11 = .ok (.aload_n 0, 1) := by decide +kernel
theorem dX6_polynomial_12 : decode cX6_polynomial 12 = .ok (.getfield 18, 3) := by decide +kernel
theorem dX6_polynomial_15 : decode cX6_polynomial 15 = .ok (.areturn, 1) := by decide +kernel
theorem dX6_openOnes_0 : decode cX6_openOnes 0 = .ok (.aload_n 0, 1) := by decide +kernel
theorem dX6_openOnes_1 : decode cX6_openOnes 1 = .ok (.getfield 26, 3) := by decide +kernel
theorem dX6_openOnes_4 : decode cX6_openOnes 4 = .ok (.areturn, 1) := by decide +kernel
theorem dX6_solvedOnes_0 : decode cX6_solvedOnes 0 = .ok (.aload_n 0, 1) := by decide +kernel
theorem dX6_solvedOnes_1 : decode cX6_solvedOnes 1 = .ok (.getfield 30, 3) := by decide +kernel
theorem dX6_solvedOnes_4 : decode cX6_solvedOnes 4 = .ok (.areturn, 1) := by decide +kernel
theorem dX6_doubtfulOnes_0 : decode cX6_doubtfulOnes 0 = .ok (.aload_n 0, 1) := by decide +kernel
theorem dX6_doubtfulOnes_1 : decode cX6_doubtfulOnes 1 = .ok (.getfield 33, 3) := by decide +kernel
theorem dX6_doubtfulOnes_4 : decode cX6_doubtfulOnes 4 = .ok (.areturn, 1) := by decide +kernel
theorem dX6_entries_0 : decode cX6_entries 0 = .ok (.aload_n 0, 1) := by decide +kernel
theorem dX6_entries_1 : decode cX6_entries 1 = .ok (.getfield 36, 3) := by decide +kernel
theorem dX6_entries_4 : decode cX6_entries 4 = .ok (.areturn, 1) := by decide +kernel
theorem dX6_smallest_0 : decode cX6_smallest 0 = .ok (.aload_n 0, 1) := by decide +kernel
theorem dX6_smallest_1 : decode cX6_smallest 1 = .ok (.getfield 43, 3) := by decide +kernel
theorem dX6_smallest_4 : decode cX6_smallest 4 = .ok (.ireturn, 1) := by decide +kernel
theorem dX6_changeSmallest_0 : decode cX6_changeSmallest 0 = .ok (.aload_n 0, 1) := by decide +kernel
theorem dX6_changeSmallest_1 : decode cX6_changeSmallest 1 = .ok (.iload_n 1, 1) := by decide +kernel
theorem dX6_changeSmallest_2 : decode cX6_changeSmallest 2 = .ok (.putfield 43, 3) := by decide +kernel
theorem dX6_changeSmallest_5 : decode cX6_changeSmallest 5 = .ok (.return_, 1) := by decide +kernel
theorem dX6_clear_0 : decode cX6_clear 0 = .ok (.aload_n 0, 1) := by decide +kernel
theorem dX6_clear_1 : decode cX6_clear 1 = .ok (.getfield 12, 3) := by decide +kernel
theorem dX6_clear_4 : decode cX6_clear 4 = .ok (.invokevirtual 47, 3) := by decide +kernel
theorem dX6_clear_7 : decode cX6_clear 7 = .ok (.aload_n 0, 1) := by decide +kernel
theorem dX6_clear_8 : decode cX6_clear 8 = .ok (.getfield 18, 3) := by decide +kernel
theorem dX6_clear_11 : decode cX6_clear 11 = .ok (.invokevirtual 47, 3) := by decide +kernel
theorem dX6_clear_14 : decode cX6_clear 14 = .ok (.aload_n 0, 1) := by decide +kernel
theorem dX6_clear_15 : decode cX6_clear 15 = .ok (.iconst 4, 1) := by decide +kernel
theorem dX6_clear_16 : decode cX6_clear 16 = .ok (.putfield 43, 3) := by decide +kernel
theorem dX6_clear_19 : decode cX6_clear 19 = .ok (.aload_n 0, 1) := by decide +kernel
theorem dX6_clear_20 : decode cX6_clear 20 = .ok (.invokevirtual 50, 3) := by decide +kernel
theorem dX6_clear_23 : decode cX6_clear 23 = .ok (.return_, 1) := by decide +kernel
theorem dX6_beginWith_0 : decode cX6_beginWith 0 = .ok (.aload_n 0, 1) := by decide +kernel
theorem dX6_beginWith_1 : decode cX6_beginWith 1 = .ok (.invokevirtual 50, 3) := by decide +kernel
theorem dX6_beginWith_4 : decode cX6_beginWith 4 = .ok (.aload_n 0, 1) := by decide +kernel
theorem dX6_beginWith_5 : decode cX6_beginWith 5 = .ok (.getfield 26, 3) := by decide +kernel
theorem dX6_beginWith_8 : decode cX6_beginWith 8 = .ok (.iload_n 1, 1) := by decide +kernel
theorem dX6_beginWith_9 : decode cX6_beginWith 9 = .ok (.iload_n 2, 1) := by decide +kernel
theorem dX6_beginWith_10 : decode cX6_beginWith 10 = .ok (.iload_n 3, 1) := by decide +kernel
theorem dX6_beginWith_11 : decode cX6_beginWith 11 = .ok (.iload 4, 2) := by decide +kernel
theorem dX6_beginWith_13 : decode cX6_beginWith 13 = .ok (.invokevirtual 53, 3) := by decide +kernel
theorem dX6_beginWith_16 : decode cX6_beginWith 16 = .ok (.return_, 1) := by decide +kernel
theorem dX6_copyFrom_0 : decode cX6_copyFrom 0 = .ok (.aload_n 0, 1) := by decide +kernel
theorem dX6_copyFrom_1 : decode cX6_copyFrom 1 = .ok (.getfield 12, 3) := by decide +kernel
theorem dX6_copyFrom_4 : decode cX6_copyFrom 4 = .ok (.aload_n 1, 1) := by decide +kernel
theorem dX6_copyFrom_5 : decode cX6_copyFrom 5 = .ok (.getfield 12, 3) := by decide +kernel
theorem dX6_copyFrom_8 : decode cX6_copyFrom 8 = .ok (.invokevirtual 57, 3) := by decide +kernel
theorem dX6_copyFrom_11 : decode cX6_copyFrom 11 = .ok (.aload_n 0, 1) := by decide +kernel
theorem dX6_copyFrom_12 : decode cX6_copyFrom 12 = .ok (.getfield 18, 3) := by decide +kernel
theorem dX6_copyFrom_15 : decode cX6_copyFrom 15 = .ok (.aload_n 1, 1) := by decide +kernel
theorem dX6_copyFrom_16 : decode cX6_copyFrom 16 = .ok (.getfield 18, 3) := by decide +kernel
theorem dX6_copyFrom_19 : decode cX6_copyFrom 19 = .ok (.invokevirtual 57, 3) := by decide +kernel
theorem dX6_copyFrom_22 : decode cX6_copyFrom 22 = .ok (.aload_n 0, 1) := by decide +kernel
theorem dX6_copyFrom_23 : decode cX6_copyFrom 23 = .ok (.aload_n 1, 1) := by decide +kernel
theorem dX6_copyFrom_24 : decode cX6_copyFrom 24 = .ok (.getfield 43, 3) := by decide +kernel
theorem dX6_copyFrom_27 : decode cX6_copyFrom 27 = .ok (.putfield 43, 3) := by decide +kernel
theorem dX6_copyFrom_30 : decode cX6_copyFrom 30 = .ok (.aload_n 0, 1) := by decide +kernel
theorem dX6_copyFrom_31 : decode cX6_copyFrom 31 = .ok (.getfield 26, 3) := by decide +kernel
theorem dX6_copyFrom_34 : decode cX6_copyFrom 34 = .ok (.aload_n 1, 1) := by decide +kernel
theorem dX6_copyFrom_35 : decode cX6_copyFrom 35 = .ok (.getfield 26, 3) := by decide +kernel
theorem dX6_copyFrom_38 : decode cX6_copyFrom 38 = .ok (.invokevirtual 61, 3) := by decide +kernel
theorem dX6_copyFrom_41 : decode cX6_copyFrom 41 = .ok (.aload_n 0, 1) := by decide +kernel
theorem dX6_copyFrom_42 : decode cX6_copyFrom 42 = .ok (.getfield 30, 3) := by decide +kernel
theorem dX6_copyFrom_45 : decode cX6_copyFrom 45 = .ok (.aload_n 1, 1) := by decide +kernel
theorem dX6_copyFrom_46 : decode cX6_copyFrom 46 = .ok (.getfield 30, 3) := by decide +kernel
theorem dX6_copyFrom_49 : decode cX6_copyFrom 49 = .ok (.invokevirtual 61, 3) := by decide +kernel
theorem dX6_copyFrom_52 : decode cX6_copyFrom 52 = .ok (.aload_n 0, 1) := by decide +kernel
theorem dX6_copyFrom_53 : decode cX6_copyFrom 53 = .ok (.getfield 33, 3) := by decide +kernel
theorem dX6_copyFrom_56 : decode cX6_copyFrom 56 = .ok (.aload_n 1, 1) := by decide +kernel
theorem dX6_copyFrom_57 : decode cX6_copyFrom 57 = .ok (.getfield 33, 3) := by decide +kernel
theorem dX6_copyFrom_60 : decode cX6_copyFrom 60 = .ok (.invokevirtual 61, 3) := by decide +kernel
theorem dX6_copyFrom_63 : decode cX6_copyFrom 63 = .ok (.aload_n 0, 1) := by decide +kernel
theorem dX6_copyFrom_64 : decode cX6_copyFrom 64 = .ok (.getfield 36, 3) := by decide +kernel
theorem dX6_copyFrom_67 : decode cX6_copyFrom 67 = .ok (.aload_n 1, 1) := by decide +kernel
theorem dX6_copyFrom_68 : decode cX6_copyFrom 68 = .ok (.getfield 36, 3) := by decide +kernel
theorem dX6_copyFrom_71 : decode cX6_copyFrom 71 = .ok (.invokevirtual 61, 3) := by decide +kernel
theorem dX6_copyFrom_74 : decode cX6_copyFrom 74 = .ok (.aload_n 1, 1) := by decide +kernel
theorem dX6_copyFrom_75 : decode cX6_copyFrom 75 = .ok (.getfield 39, 3) := by decide +kernel
theorem dX6_copyFrom_78 : decode cX6_copyFrom 78 = .ok (.iconst 0, 1) := by decide +kernel
theorem dX6_copyFrom_79 : decode cX6_copyFrom 79 = .ok (.aload_n 0, 1) := by decide +kernel
theorem dX6_copyFrom_80 : decode cX6_copyFrom 80 = .ok (.getfield 39, 3) := by decide +kernel
theorem dX6_copyFrom_83 : decode cX6_copyFrom 83 = .ok (.iconst 0, 1) := by decide +kernel
theorem dX6_copyFrom_84 : decode cX6_copyFrom 84 = .ok (.sipush 200, 3) := by decide +kernel
theorem dX6_copyFrom_87 : decode cX6_copyFrom 87 = .ok (.invokestatic 64, 3) := by decide +kernel
theorem dX6_copyFrom_90 : decode cX6_copyFrom 90 = .ok (.return_, 1) := by decide +kernel
theorem dX6_judged_0 : decode cX6_judged 0 = .ok (.aload_n 3, 1) := by decide +kernel
theorem dX6_judged_1 : decode cX6_judged 1 = .ok (.aload_n 1, 1) := by decide +kernel
theorem dX6_judged_2 : decode cX6_judged 2 = .ok (.iload_n 2, 1) := by decide +kernel
theorem dX6_judged_3 : decode cX6_judged 3 = .ok (.invokevirtual 70, 3) := by decide +kernel
theorem dX6_judged_6 : decode cX6_judged 6 = .ok (.aload_n 3, 1) := by decide +kernel
theorem dX6_judged_7 : decode cX6_judged 7 = .ok (.aload_n 0, 1) := by decide +kernel
theorem dX6_judged_8 : decode cX6_judged 8 = .ok (.getfield 12, 3) := by decide +kernel
theorem dX6_judged_11 : decode cX6_judged 11 = .ok (.aload_n 0, 1) := by decide +kernel
theorem dX6_judged_12 : decode cX6_judged 12 = .ok (.getfield 18, 3) := by decide +kernel
theorem dX6_judged_15 : decode cX6_judged 15 = .ok (.invokevirtual 76, 3) := by decide +kernel
theorem dX6_judged_18 : decode cX6_judged 18 = .ok (.ireturn, 1) := by decide +kernel
theorem dX6_verdictGot_0 : decode cX6_verdictGot 0 = .ok (.iload_n 1, 1) := by decide +kernel
theorem dX6_verdictGot_1 : decode cX6_verdictGot 1 = .ok (.ifCond .lt 21, 3) := by decide +kernel
theorem dX6_verdictGot_4 : decode cX6_verdictGot 4 = .ok (.iload_n 1, 1) := by decide +kernel
theorem dX6_verdictGot_5 : decode cX6_verdictGot 5 = .ok (.aload_n 0, 1) := by decide +kernel
theorem dX6_verdictGot_6 : decode cX6_verdictGot 6 = .ok (.getfield 39, 3) := by decide +kernel
theorem dX6_verdictGot_9 : decode cX6_verdictGot 9 = .ok (.arraylength, 1) := by decide +kernel
theorem dX6_verdictGot_10 : decode cX6_verdictGot 10 = .ok (.if_icmp .ge 12, 3) := by decide +kernel
theorem dX6_verdictGot_13 : decode cX6_verdictGot 13 = .ok (.aload_n 0, 1) := by decide +kernel
theorem dX6_verdictGot_14 : decode cX6_verdictGot 14 = .ok (.getfield 39, 3) := by decide +kernel
theorem dX6_verdictGot_17 : decode cX6_verdictGot 17 = .ok (.iload_n 1, 1) := by decide +kernel
theorem dX6_verdictGot_18 : decode cX6_verdictGot 18 = .ok (.iaload, 1) := by decide +kernel
theorem dX6_verdictGot_19 : decode cX6_verdictGot 19 = .ok (.goto 4, 3) := by decide +kernel
theorem dX6_verdictGot_22 : decode cX6_verdictGot 22 = .ok (.iconst 0, 1) := by decide +kernel
theorem dX6_verdictGot_23 : decode cX6_verdictGot 23 = .ok (.ireturn, 1) := by decide +kernel
theorem dX6_entriesWith_0 : decode cX6_entriesWith 0 = .ok (.iconst 0, 1) := by decide +kernel
theorem dX6_entriesWith_1 : decode cX6_entriesWith 1 = .ok (.istore_n 2, 1) := by decide +kernel
theorem dX6_entriesWith_2 : decode cX6_entriesWith 2 = .ok (.iconst 0, 1) := by decide +kernel
theorem dX6_entriesWith_3 : decode cX6_entriesWith 3 = .ok (.istore_n 3, 1) := by decide +kernel
theorem dX6_entriesWith_4 : decode cX6_entriesWith 4 = .ok (.iload_n 3, 1) := by decide +kernel
theorem dX6_entriesWith_5 : decode cX6_entriesWith 5 = .ok (.aload_n 0, 1) := by decide +kernel
theorem dX6_entriesWith_6 : decode cX6_entriesWith 6 = .ok (.getfield 36, 3) := by decide +kernel
theorem dX6_entriesWith_9 : decode cX6_entriesWith 9 = .ok (.invokevirtual 80, 3) := by decide +kernel
theorem dX6_entriesWith_12 : decode cX6_entriesWith 12 = .ok (.if_icmp .ge 26, 3) := by decide +kernel
theorem dX6_entriesWith_15 : decode cX6_entriesWith 15 = .ok (.iload_n 2, 1) := by decide +kernel
theorem dX6_entriesWith_16 : decode cX6_entriesWith 16 = .ok (.aload_n 0, 1) := by decide +kernel
theorem dX6_entriesWith_17 : decode cX6_entriesWith 17 = .ok (.iload_n 3, 1) := by decide +kernel
theorem dX6_entriesWith_18 : decode cX6_entriesWith 18 = .ok (.invokevirtual 84, 3) := by decide +kernel
theorem dX6_entriesWith_21 : decode cX6_entriesWith 21 = .ok (.iload_n 1, 1) := by decide +kernel
theorem dX6_entriesWith_22 : decode cX6_entriesWith 22 = .ok (.if_icmp .ne 7, 3) := by decide +kernel
theorem dX6_entriesWith_25 : decode cX6_entriesWith 25 = .ok (.iconst 1, 1) := by decide +kernel
theorem dX6_entriesWith_26 : decode cX6_entriesWith 26 = .ok (.goto 4, 3) := by decide +kernel
theorem dX6_entriesWith_29 : decode cX6_entriesWith 29 = .ok (.iconst 0, 1) := by decide +kernel
theorem dX6_entriesWith_30 : decode cX6_entriesWith 30 = .ok (.iadd, 1) := by decide +kernel
theorem dX6_entriesWith_31 : decode cX6_entriesWith 31 = .ok (.istore_n 2, 1) := by decide +kernel
theorem dX6_entriesWith_32 : decode cX6_entriesWith 32 = .ok (.iinc 3 1, 3) := by decide +kernel
theorem dX6_entriesWith_35 : decode cX6_entriesWith 35 = .ok (.goto (-31), 3) := by decide +kernel
theorem dX6_entriesWith_38 : decode cX6_entriesWith 38 = .ok (.iload_n 2, 1) := by decide +kernel
theorem dX6_entriesWith_39 : decode cX6_entriesWith 39 = .ok (.ireturn, 1) := by decide +kernel
theorem dX6_isShownRootless_0 : decode cX6_isShownRootless 0 = .ok (.iconst 0, 1) := by decide +kernel
theorem dX6_isShownRootless_1 : decode cX6_isShownRootless 1 = .ok (.istore_n 3, 1) := by decide +kernel
theorem dX6_isShownRootless_2 : decode cX6_isShownRootless 2 = .ok (.iload_n 3, 1) := by decide +kernel
theorem dX6_isShownRootless_3 : decode cX6_isShownRootless 3 = .ok (.aload_n 0, 1) := by decide +kernel
theorem dX6_isShownRootless_4 : decode cX6_isShownRootless 4 = .ok (.getfield 36, 3) := by decide +kernel
theorem dX6_isShownRootless_7 : decode cX6_isShownRootless 7 = .ok (.invokevirtual 80, 3) := by decide +kernel
theorem dX6_isShownRootless_10 : decode cX6_isShownRootless 10 = .ok (.if_icmp .ge 33, 3) := by decide +kernel
theorem dX6_isShownRootless_13 : decode cX6_isShownRootless 13 = .ok (.aload_n 0, 1) := by decide +kernel
theorem dX6_isShownRootless_14 : decode cX6_isShownRootless 14 = .ok (.iload_n 3, 1) := by decide +kernel
theorem dX6_isShownRootless_15 : decode cX6_isShownRootless 15 = .ok (.invokevirtual 84, 3) := by decide +kernel
theorem dX6_isShownRootless_18 : decode cX6_isShownRootless 18 = .ok (.iconst 2, 1) := by decide +kernel
theorem dX6_isShownRootless_19 : decode cX6_isShownRootless 19 = .ok (.if_icmp .gt 18, 3) := by decide +kernel
theorem dX6_isShownRootless_22 : decode cX6_isShownRootless 22 = .ok (.aload_n 0, 1) := by decide +kernel
theorem dX6_isShownRootless_23 : decode cX6_isShownRootless 23 = .ok (.getfield 36, 3) := by decide +kernel
theorem dX6_isShownRootless_26 : decode cX6_isShownRootless 26 = .ok (.iload_n 3, 1) := by decide +kernel
theorem dX6_isShownRootless_27 : decode cX6_isShownRootless 27 = .ok (.iload_n 1, 1) := by decide +kernel
theorem dX6_isShownRootless_28 : decode cX6_isShownRootless 28 = .ok (.iload_n 2, 1) := by decide +kernel
theorem dX6_isShownRootless_29 : decode cX6_isShownRootless 29 = .ok (.invokevirtual 88, 3) := by decide +kernel
theorem dX6_isShownRootless_32 : decode cX6_isShownRootless 32 = .ok (.ifCond .eq 5, 3) := by decide +kernel
theorem dX6_isShownRootless_35 : decode cX6_isShownRootless 35 = .ok (.iconst 1, 1) := by decide +kernel
theorem dX6_isShownRootless_36 : decode cX6_isShownRootless 36 = .ok (.ireturn, 1) := by decide +kernel
theorem dX6_isShownRootless_37 : decode cX6_isShownRootless 37 = .ok (.iinc 3 1, 3) := by decide +kernel
theorem dX6_isShownRootless_40 : decode cX6_isShownRootless 40 = .ok (.goto (-38), 3) := by decide +kernel
theorem dX6_isShownRootless_43 : decode cX6_isShownRootless 43 = .ok (.iconst 0, 1) := by decide +kernel
theorem dX6_isShownRootless_44 : decode cX6_isShownRootless 44 = .ok (.ireturn, 1) := by decide +kernel
theorem dX6_advance_0 : decode cX6_advance 0 = .ok (.aload_n 0, 1) := by decide +kernel
theorem dX6_advance_1 : decode cX6_advance 1 = .ok (.getfield 26, 3) := by decide +kernel
theorem dX6_advance_4 : decode cX6_advance 4 = .ok (.invokevirtual 92, 3) := by decide +kernel
theorem dX6_advance_7 : decode cX6_advance 7 = .ok (.ifCond .eq 6, 3) := by decide +kernel
theorem dX6_advance_10 : decode cX6_advance 10 = .ok (.ldc 96, 2) := by decide +kernel
theorem dX6_advance_12 : decode cX6_advance 12 = .ok (.ireturn, 1) := by decide +kernel
theorem dX6_advance_13 : decode cX6_advance 13 = .ok (.aload_n 0, 1) := by decide +kernel
theorem dX6_advance_14 : decode cX6_advance 14 = .ok (.getfield 36, 3) := by decide +kernel
theorem dX6_advance_17 : decode cX6_advance 17 = .ok (.invokevirtual 97, 3) := by decide +kernel
theorem dX6_advance_20 : decode cX6_advance 20 = .ok (.ifCond .eq 6, 3) := by decide +kernel
theorem dX6_advance_23 : decode cX6_advance 23 = .ok (.ldc 100, 2) := by decide +kernel
theorem dX6_advance_25 : decode cX6_advance 25 = .ok (.ireturn, 1) := by decide +kernel
theorem dX6_advance_26 : decode cX6_advance 26 = .ok (.aload_n 0, 1) := by decide +kernel
theorem dX6_advance_27 : decode cX6_advance 27 = .ok (.getfield 26, 3) := by decide +kernel
theorem dX6_advance_30 : decode cX6_advance 30 = .ok (.invokevirtual 101, 3) := by decide +kernel
theorem dX6_advance_33 : decode cX6_advance 33 = .ok (.istore_n 2, 1) := by decide +kernel
theorem dX6_advance_34 : decode cX6_advance 34 = .ok (.aload_n 1, 1) := by decide +kernel
theorem dX6_advance_35 : decode cX6_advance 35 = .ok (.aload_n 0, 1) := by decide +kernel
theorem dX6_advance_36 : decode cX6_advance 36 = .ok (.getfield 26, 3) := by decide +kernel
theorem dX6_advance_39 : decode cX6_advance 39 = .ok (.iload_n 2, 1) := by decide +kernel
theorem dX6_advance_40 : decode cX6_advance 40 = .ok (.invokevirtual 70, 3) := by decide +kernel
theorem dX6_advance_43 : decode cX6_advance 43 = .ok (.aload_n 1, 1) := by decide +kernel
theorem dX6_advance_44 : decode cX6_advance 44 = .ok (.aload_n 0, 1) := by decide +kernel
theorem dX6_advance_45 : decode cX6_advance 45 = .ok (.getfield 12, 3) := by decide +kernel
theorem dX6_advance_48 : decode cX6_advance 48 = .ok (.aload_n 0, 1) := by decide +kernel
theorem dX6_advance_49 : decode cX6_advance 49 = .ok (.getfield 18, 3) := by decide +kernel
theorem dX6_advance_52 : decode cX6_advance 52 = .ok (.invokevirtual 76, 3) := by decide +kernel
theorem dX6_advance_55 : decode cX6_advance 55 = .ok (.istore_n 3, 1) := by decide +kernel
theorem dX6_advance_56 : decode cX6_advance 56 = .ok (.iload_n 3, 1) := by decide +kernel
theorem dX6_advance_57 : decode cX6_advance 57 = .ok (.iconst 5, 1) := by decide +kernel
theorem dX6_advance_58 : decode cX6_advance 58 = .ok (.if_icmp .ne 22, 3) := by decide +kernel
theorem dX6_advance_61 : decode cX6_advance 61 = .ok (.aload_n 0, 1) := by decide +kernel
theorem dX6_advance_62 : decode cX6_advance 62 = .ok (.getfield 26, 3) := by decide +kernel
theorem dX6_advance_65 : decode cX6_advance 65 = .ok (.iload_n 2, 1) := by decide +kernel
theorem dX6_advance_66 : decode cX6_advance 66 = .ok (.invokevirtual 104, 3) := by decide +kernel
theorem dX6_advance_69 : decode cX6_advance 69 = .ok (.aload_n 0, 1) := by decide +kernel
theorem dX6_advance_70 : decode cX6_advance 70 = .ok (.getfield 43, 3) := by decide +kernel
theorem dX6_advance_73 : decode cX6_advance 73 = .ok (.if_icmp .le 7, 3) := by decide +kernel
theorem dX6_advance_76 : decode cX6_advance 76 = .ok (.iconst 1, 1) := by decide +kernel
theorem dX6_advance_77 : decode cX6_advance 77 = .ok (.goto 4, 3) := by decide +kernel
theorem dX6_advance_80 : decode cX6_advance 80 = .ok (.iconst 0, 1) := by decide +kernel
theorem dX6_advance_81 : decode cX6_advance 81 = .ok (.istore 4, 2) := by decide +kernel
theorem dX6_advance_83 : decode cX6_advance 83 = .ok (.iload 4, 2) := by decide +kernel
theorem dX6_advance_85 : decode cX6_advance 85 = .ok (.ifCond .eq 16, 3) := by decide +kernel
theorem dX6_advance_88 : decode cX6_advance 88 = .ok (.aload_n 0, 1) := by decide +kernel
theorem dX6_advance_89 : decode cX6_advance 89 = .ok (.getfield 26, 3) := by decide +kernel
theorem dX6_advance_92 : decode cX6_advance 92 = .ok (.invokevirtual 97, 3) := by decide +kernel
theorem dX6_advance_95 : decode cX6_advance 95 = .ok (.ifCond .eq 6, 3) := by decide +kernel
theorem dX6_advance_98 : decode cX6_advance 98 = .ok (.ldc 100, 2) := by decide +kernel
theorem dX6_advance_100 : decode cX6_advance 100 = .ok (.ireturn, 1) := by decide +kernel
theorem dX6_advance_101 : decode cX6_advance 101 = .ok (.aload_n 0, 1) := by decide +kernel
theorem dX6_advance_102 : decode cX6_advance 102 = .ok (.getfield 26, 3) := by decide +kernel
theorem dX6_advance_105 : decode cX6_advance 105 = .ok (.iload_n 2, 1) := by decide +kernel
theorem dX6_advance_106 : decode cX6_advance 106 = .ok (.invokevirtual 107, 3) := by decide +kernel
theorem dX6_advance_109 : decode cX6_advance 109 = .ok (.aload_n 0, 1) := by decide +kernel
theorem dX6_advance_110 : decode cX6_advance 110 = .ok (.iload_n 3, 1) := by decide +kernel
theorem dX6_advance_111 : decode cX6_advance 111 = .ok (.aload_n 1, 1) := by decide +kernel
theorem dX6_advance_112 : decode cX6_advance 112 = .ok (.invokevirtual 110, 3) := by decide +kernel
theorem dX6_advance_115 : decode cX6_advance 115 = .ok (.iload 4, 2) := by decide +kernel
theorem dX6_advance_117 : decode cX6_advance 117 = .ok (.ifCond .eq 18, 3) := by decide +kernel
theorem dX6_advance_120 : decode cX6_advance 120 = .ok (.aload_n 0, 1) := by decide +kernel
theorem dX6_advance_121 : decode cX6_advance 121 = .ok (.aload_n 1, 1) := by decide +kernel
theorem dX6_advance_122 : decode cX6_advance 122 = .ok (.invokevirtual 114, 3) := by decide +kernel
theorem dX6_advance_125 : decode cX6_advance 125 = .ok (.aload_n 1, 1) := by decide +kernel
theorem dX6_advance_126 : decode cX6_advance 126 = .ok (.invokevirtual 118, 3) := by decide +kernel
theorem dX6_advance_129 : decode cX6_advance 129 = .ok (.invokevirtual 121, 3) := by decide +kernel
theorem dX6_advance_132 : decode cX6_advance 132 = .ok (.goto 9, 3) := by decide +kernel
theorem dX6_advance_135 : decode cX6_advance 135 = .ok (.aload_n 0, 1) := by decide +kernel
theorem dX6_advance_136 : decode cX6_advance 136 = .ok (.iload_n 3, 1) := by decide +kernel
theorem dX6_advance_137 : decode cX6_advance 137 = .ok (.aload_n 1, 1) := by decide +kernel
theorem dX6_advance_138 : decode cX6_advance 138 = .ok (.invokevirtual 125, 3) := by decide +kernel
theorem dX6_advance_141 : decode cX6_advance 141 = .ok (.iload_n 3, 1) := by decide +kernel
theorem dX6_advance_142 : decode cX6_advance 142 = .ok (.ireturn, 1) := by decide +kernel
theorem dX6_clearSearch_0 : decode cX6_clearSearch 0 = .ok (.aload_n 0, 1) := by decide +kernel
theorem dX6_clearSearch_1 : decode cX6_clearSearch 1 = .ok (.getfield 26, 3) := by decide +kernel
theorem dX6_clearSearch_4 : decode cX6_clearSearch 4 = .ok (.invokevirtual 128, 3) := by decide +kernel
theorem dX6_clearSearch_7 : decode cX6_clearSearch 7 = .ok (.aload_n 0, 1) := by decide +kernel
theorem dX6_clearSearch_8 : decode cX6_clearSearch 8 = .ok (.getfield 30, 3) := by decide +kernel
theorem dX6_clearSearch_11 : decode cX6_clearSearch 11 = .ok (.invokevirtual 128, 3) := by decide +kernel
theorem dX6_clearSearch_14 : decode cX6_clearSearch 14 = .ok (.aload_n 0, 1) := by decide +kernel
theorem dX6_clearSearch_15 : decode cX6_clearSearch 15 = .ok (.getfield 33, 3) := by decide +kernel
theorem dX6_clearSearch_18 : decode cX6_clearSearch 18 = .ok (.invokevirtual 128, 3) := by decide +kernel
theorem dX6_clearSearch_21 : decode cX6_clearSearch 21 = .ok (.aload_n 0, 1) := by decide +kernel
theorem dX6_clearSearch_22 : decode cX6_clearSearch 22 = .ok (.getfield 36, 3) := by decide +kernel
theorem dX6_clearSearch_25 : decode cX6_clearSearch 25 = .ok (.invokevirtual 128, 3) := by decide +kernel
theorem dX6_clearSearch_28 : decode cX6_clearSearch 28 = .ok (.return_, 1) := by decide +kernel
theorem dX6_addEntry_0 : decode cX6_addEntry 0 = .ok (.aload_n 0, 1) := by decide +kernel
theorem dX6_addEntry_1 : decode cX6_addEntry 1 = .ok (.getfield 36, 3) := by decide +kernel
theorem dX6_addEntry_4 : decode cX6_addEntry 4 = .ok (.invokevirtual 80, 3) := by decide +kernel
theorem dX6_addEntry_7 : decode cX6_addEntry 7 = .ok (.istore_n 3, 1) := by decide +kernel
theorem dX6_addEntry_8 : decode cX6_addEntry 8 = .ok (.iload_n 3, 1) := by decide +kernel
theorem dX6_addEntry_9 : decode cX6_addEntry 9 = .ok (.ifCond .lt 34, 3) := by decide +kernel
theorem dX6_addEntry_12 : decode cX6_addEntry 12 = .ok (.iload_n 3, 1) := by decide +kernel
theorem dX6_addEntry_13 : decode cX6_addEntry 13 = .ok (.aload_n 0, 1) := by decide +kernel
theorem dX6_addEntry_14 : decode cX6_addEntry 14 = .ok (.getfield 39, 3) := by decide +kernel
theorem dX6_addEntry_17 : decode cX6_addEntry 17 = .ok (.arraylength, 1) := by decide +kernel
theorem dX6_addEntry_18 : decode cX6_addEntry 18 = .ok (.if_icmp .ge 25, 3) := by decide +kernel
theorem dX6_addEntry_21 : decode cX6_addEntry 21 = .ok (.aload_n 0, 1) := by decide +kernel
theorem dX6_addEntry_22 : decode cX6_addEntry 22 = .ok (.getfield 39, 3) := by decide +kernel
theorem dX6_addEntry_25 : decode cX6_addEntry 25 = .ok (.iload_n 3, 1) := by decide +kernel
theorem dX6_addEntry_26 : decode cX6_addEntry 26 = .ok (.iload_n 1, 1) := by decide +kernel
theorem dX6_addEntry_27 : decode cX6_addEntry 27 = .ok (.iastore, 1) := by decide +kernel
theorem dX6_addEntry_28 : decode cX6_addEntry 28 = .ok (.aload_n 0, 1) := by decide +kernel
theorem dX6_addEntry_29 : decode cX6_addEntry 29 = .ok (.getfield 36, 3) := by decide +kernel
theorem dX6_addEntry_32 : decode cX6_addEntry 32 = .ok (.aload_n 2, 1) := by decide +kernel
theorem dX6_addEntry_33 : decode cX6_addEntry 33 = .ok (.invokevirtual 114, 3) := by decide +kernel
theorem dX6_addEntry_36 : decode cX6_addEntry 36 = .ok (.aload_n 2, 1) := by decide +kernel
theorem dX6_addEntry_37 : decode cX6_addEntry 37 = .ok (.invokevirtual 118, 3) := by decide +kernel
theorem dX6_addEntry_40 : decode cX6_addEntry 40 = .ok (.invokevirtual 129, 3) := by decide +kernel
theorem dX6_addEntry_43 : decode cX6_addEntry 43 = .ok (.return_, 1) := by decide +kernel
theorem dX6_settle_0 : decode cX6_settle 0 = .ok (.iload_n 1, 1) := by decide +kernel
theorem dX6_settle_1 : decode cX6_settle 1 = .ok (.iconst 3, 1) := by decide +kernel
theorem dX6_settle_2 : decode cX6_settle 2 = .ok (.if_icmp .ne 21, 3) := by decide +kernel
theorem dX6_settle_5 : decode cX6_settle 5 = .ok (.aload_n 0, 1) := by decide +kernel
theorem dX6_settle_6 : decode cX6_settle 6 = .ok (.getfield 30, 3) := by decide +kernel
theorem dX6_settle_9 : decode cX6_settle 9 = .ok (.aload_n 2, 1) := by decide +kernel
theorem dX6_settle_10 : decode cX6_settle 10 = .ok (.invokevirtual 132, 3) := by decide +kernel
theorem dX6_settle_13 : decode cX6_settle 13 = .ok (.aload_n 2, 1) := by decide +kernel
theorem dX6_settle_14 : decode cX6_settle 14 = .ok (.invokevirtual 135, 3) := by decide +kernel
theorem dX6_settle_17 : decode cX6_settle 17 = .ok (.invokevirtual 138, 3) := by decide +kernel
theorem dX6_settle_20 : decode cX6_settle 20 = .ok (.goto 46, 3) := by decide +kernel
theorem dX6_settle_23 : decode cX6_settle 23 = .ok (.iload_n 1, 1) := by decide +kernel
theorem dX6_settle_24 : decode cX6_settle 24 = .ok (.iconst 4, 1) := by decide +kernel
theorem dX6_settle_25 : decode cX6_settle 25 = .ok (.if_icmp .ne 21, 3) := by decide +kernel
theorem dX6_settle_28 : decode cX6_settle 28 = .ok (.aload_n 0, 1) := by decide +kernel
theorem dX6_settle_29 : decode cX6_settle 29 = .ok (.getfield 26, 3) := by decide +kernel
theorem dX6_settle_32 : decode cX6_settle 32 = .ok (.aload_n 2, 1) := by decide +kernel
theorem dX6_settle_33 : decode cX6_settle 33 = .ok (.invokevirtual 141, 3) := by decide +kernel
theorem dX6_settle_36 : decode cX6_settle 36 = .ok (.aload_n 2, 1) := by decide +kernel
theorem dX6_settle_37 : decode cX6_settle 37 = .ok (.invokevirtual 144, 3) := by decide +kernel
theorem dX6_settle_40 : decode cX6_settle 40 = .ok (.invokevirtual 129, 3) := by decide +kernel
theorem dX6_settle_43 : decode cX6_settle 43 = .ok (.goto 23, 3) := by decide +kernel
theorem dX6_settle_46 : decode cX6_settle 46 = .ok (.iload_n 1, 1) := by decide +kernel
theorem dX6_settle_47 : decode cX6_settle 47 = .ok (.iconst 5, 1) := by decide +kernel
theorem dX6_settle_48 : decode cX6_settle 48 = .ok (.if_icmp .ne 18, 3) := by decide +kernel
theorem dX6_settle_51 : decode cX6_settle 51 = .ok (.aload_n 0, 1) := by decide +kernel
theorem dX6_settle_52 : decode cX6_settle 52 = .ok (.getfield 33, 3) := by decide +kernel
theorem dX6_settle_55 : decode cX6_settle 55 = .ok (.aload_n 2, 1) := by decide +kernel
theorem dX6_settle_56 : decode cX6_settle 56 = .ok (.invokevirtual 114, 3) := by decide +kernel
theorem dX6_settle_59 : decode cX6_settle 59 = .ok (.aload_n 2, 1) := by decide +kernel
theorem dX6_settle_60 : decode cX6_settle 60 = .ok (.invokevirtual 118, 3) := by decide +kernel
theorem dX6_settle_63 : decode cX6_settle 63 = .ok (.invokevirtual 129, 3) := by decide +kernel
theorem dX6_settle_66 : decode cX6_settle 66 = .ok (.return_, 1) := by decide +kernel
theorem dX6_part_0 : decode cX6_part 0 = .ok (.aload_n 1, 1) := by decide +kernel
theorem dX6_part_1 : decode cX6_part 1 = .ok (.invokevirtual 147, 3) := by decide +kernel
theorem dX6_part_4 : decode cX6_part 4 = .ok (.aload_n 2, 1) := by decide +kernel
theorem dX6_part_5 : decode cX6_part 5 = .ok (.invokevirtual 147, 3) := by decide +kernel
theorem dX6_part_8 : decode cX6_part 8 = .ok (.lcmp, 1) := by decide +kernel
theorem dX6_part_9 : decode cX6_part 9 = .ok (.ifCond .lt 58, 3) := by decide +kernel
theorem dX6_part_12 : decode cX6_part 12 = .ok (.aload_n 1, 1) := by decide +kernel
theorem dX6_part_13 : decode cX6_part 13 = .ok (.invokevirtual 153, 3) := by decide +kernel
theorem dX6_part_16 : decode cX6_part 16 = .ok (.l2i, 1) := by decide +kernel
theorem dX6_part_17 : decode cX6_part 17 = .ok (.istore_n 3, 1) := by decide +kernel
theorem dX6_part_18 : decode cX6_part 18 = .ok (.aload_n 0, 1) := by decide +kernel
theorem dX6_part_19 : decode cX6_part 19 = .ok (.getfield 26, 3) := by decide +kernel
theorem dX6_part_22 : decode cX6_part 22 = .ok (.aload_n 1, 1) := by decide +kernel
theorem dX6_part_23 : decode cX6_part 23 = .ok (.getfield 156, 3) := by decide +kernel
theorem dX6_part_26 : decode cX6_part 26 = .ok (.l2i, 1) := by decide +kernel
theorem dX6_part_27 : decode cX6_part 27 = .ok (.iload_n 3, 1) := by decide +kernel
theorem dX6_part_28 : decode cX6_part 28 = .ok (.aload_n 2, 1) := by decide +kernel
theorem dX6_part_29 : decode cX6_part 29 = .ok (.getfield 156, 3) := by decide +kernel
theorem dX6_part_32 : decode cX6_part 32 = .ok (.l2i, 1) := by decide +kernel
theorem dX6_part_33 : decode cX6_part 33 = .ok (.aload_n 2, 1) := by decide +kernel
theorem dX6_part_34 : decode cX6_part 34 = .ok (.getfield 160, 3) := by decide +kernel
theorem dX6_part_37 : decode cX6_part 37 = .ok (.l2i, 1) := by decide +kernel
theorem dX6_part_38 : decode cX6_part 38 = .ok (.invokevirtual 53, 3) := by decide +kernel
theorem dX6_part_41 : decode cX6_part 41 = .ok (.aload_n 0, 1) := by decide +kernel
theorem dX6_part_42 : decode cX6_part 42 = .ok (.getfield 26, 3) := by decide +kernel
theorem dX6_part_45 : decode cX6_part 45 = .ok (.iload_n 3, 1) := by decide +kernel
theorem dX6_part_46 : decode cX6_part 46 = .ok (.aload_n 1, 1) := by decide +kernel
theorem dX6_part_47 : decode cX6_part 47 = .ok (.getfield 160, 3) := by decide +kernel
theorem dX6_part_50 : decode cX6_part 50 = .ok (.l2i, 1) := by decide +kernel
theorem dX6_part_51 : decode cX6_part 51 = .ok (.aload_n 2, 1) := by decide +kernel
theorem dX6_part_52 : decode cX6_part 52 = .ok (.getfield 156, 3) := by decide +kernel
theorem dX6_part_55 : decode cX6_part 55 = .ok (.l2i, 1) := by decide +kernel
theorem dX6_part_56 : decode cX6_part 56 = .ok (.aload_n 2, 1) := by decide +kernel
theorem dX6_part_57 : decode cX6_part 57 = .ok (.getfield 160, 3) := by decide +kernel
theorem dX6_part_60 : decode cX6_part 60 = .ok (.l2i, 1) := by decide +kernel
theorem dX6_part_61 : decode cX6_part 61 = .ok (.invokevirtual 53, 3) := by decide +kernel
theorem dX6_part_64 : decode cX6_part 64 = .ok (.goto 55, 3) := by decide +kernel
theorem dX6_part_67 : decode cX6_part 67 = .ok (.aload_n 2, 1) := by decide +kernel
theorem dX6_part_68 : decode cX6_part 68 = .ok (.invokevirtual 153, 3) := by decide +kernel
theorem dX6_part_71 : decode cX6_part 71 = .ok (.l2i, 1) := by decide +kernel
theorem dX6_part_72 : decode cX6_part 72 = .ok (.istore_n 3, 1) := by decide +kernel
theorem dX6_part_73 : decode cX6_part 73 = .ok (.aload_n 0, 1) := by decide +kernel
theorem dX6_part_74 : decode cX6_part 74 = .ok (.getfield 26, 3) := by decide +kernel
theorem dX6_part_77 : decode cX6_part 77 = .ok (.aload_n 1, 1) := by decide +kernel
theorem dX6_part_78 : decode cX6_part 78 = .ok (.getfield 156, 3) := by decide +kernel
theorem dX6_part_81 : decode cX6_part 81 = .ok (.l2i, 1) := by decide +kernel
theorem dX6_part_82 : decode cX6_part 82 = .ok (.aload_n 1, 1) := by decide +kernel
theorem dX6_part_83 : decode cX6_part 83 = .ok (.getfield 160, 3) := by decide +kernel
theorem dX6_part_86 : decode cX6_part 86 = .ok (.l2i, 1) := by decide +kernel
theorem dX6_part_87 : decode cX6_part 87 = .ok (.aload_n 2, 1) := by decide +kernel
theorem dX6_part_88 : decode cX6_part 88 = .ok (.getfield 156, 3) := by decide +kernel
theorem dX6_part_91 : decode cX6_part 91 = .ok (.l2i, 1) := by decide +kernel
theorem dX6_part_92 : decode cX6_part 92 = .ok (.iload_n 3, 1) := by decide +kernel
theorem dX6_part_93 : decode cX6_part 93 = .ok (.invokevirtual 53, 3) := by decide +kernel
