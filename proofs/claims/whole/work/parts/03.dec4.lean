theorem dX9_lessens_41 : decode cX9_lessens 41 = .ok (.lastore, 1) := by decide +kernel
theorem dX9_lessens_42 : decode cX9_lessens 42 = .ok (.aload_n 0, 1) := by decide +kernel
theorem dX9_lessens_43 : decode cX9_lessens 43 = .ok (.getfield 22, 3) := by decide +kernel
theorem dX9_lessens_46 : decode cX9_lessens 46 = .ok (.iload_n 3, 1) := by decide +kernel
theorem dX9_lessens_47 : decode cX9_lessens 47 = .ok (.iconst 1, 1) := by decide +kernel
theorem dX9_lessens_48 : decode cX9_lessens 48 = .ok (.iadd, 1) := by decide +kernel
theorem dX9_lessens_49 : decode cX9_lessens 49 = .ok (.lload 6, 2) := by decide +kernel
theorem dX9_lessens_51 : decode cX9_lessens 51 = .ok (.lastore, 1) := by decide +kernel
theorem dX9_lessens_52 : decode cX9_lessens 52 = .ok (.return_, 1) := by decide +kernel
theorem dX9_crosses_0 : decode cX9_crosses 0 = .ok (.aload_n 0, 1) := by decide +kernel
theorem dX9_crosses_1 : decode cX9_crosses 1 = .ok (.getfield 22, 3) := by decide +kernel
theorem dX9_crosses_4 : decode cX9_crosses 4 = .ok (.iload_n 1, 1) := by decide +kernel
theorem dX9_crosses_5 : decode cX9_crosses 5 = .ok (.aload_n 0, 1) := by decide +kernel
theorem dX9_crosses_6 : decode cX9_crosses 6 = .ok (.getfield 22, 3) := by decide +kernel
theorem dX9_crosses_9 : decode cX9_crosses 9 = .ok (.iload_n 2, 1) := by decide +kernel
theorem dX9_crosses_10 : decode cX9_crosses 10 = .ok (.aload_n 0, 1) := by decide +kernel
theorem dX9_crosses_11 : decode cX9_crosses 11 = .ok (.getfield 22, 3) := by decide +kernel
theorem dX9_crosses_14 : decode cX9_crosses 14 = .ok (.bipush 18, 2) := by decide +kernel
theorem dX9_crosses_16 : decode cX9_crosses 16 = .ok (.invokestatic 59, 3) := by decide +kernel
theorem dX9_crosses_19 : decode cX9_crosses 19 = .ok (.aload_n 0, 1) := by decide +kernel
theorem dX9_crosses_20 : decode cX9_crosses 20 = .ok (.getfield 22, 3) := by decide +kernel
theorem dX9_crosses_23 : decode cX9_crosses 23 = .ok (.iload_n 3, 1) := by decide +kernel
theorem dX9_crosses_24 : decode cX9_crosses 24 = .ok (.aload_n 0, 1) := by decide +kernel
theorem dX9_crosses_25 : decode cX9_crosses 25 = .ok (.getfield 22, 3) := by decide +kernel
theorem dX9_crosses_28 : decode cX9_crosses 28 = .ok (.iload 4, 2) := by decide +kernel
theorem dX9_crosses_30 : decode cX9_crosses 30 = .ok (.aload_n 0, 1) := by decide +kernel
theorem dX9_crosses_31 : decode cX9_crosses 31 = .ok (.getfield 22, 3) := by decide +kernel
theorem dX9_crosses_34 : decode cX9_crosses 34 = .ok (.bipush 20, 2) := by decide +kernel
theorem dX9_crosses_36 : decode cX9_crosses 36 = .ok (.invokestatic 59, 3) := by decide +kernel
theorem dX9_crosses_39 : decode cX9_crosses 39 = .ok (.aload_n 0, 1) := by decide +kernel
theorem dX9_crosses_40 : decode cX9_crosses 40 = .ok (.bipush 18, 2) := by decide +kernel
theorem dX9_crosses_42 : decode cX9_crosses 42 = .ok (.bipush 20, 2) := by decide +kernel
theorem dX9_crosses_44 : decode cX9_crosses 44 = .ok (.iload 5, 2) := by decide +kernel
theorem dX9_crosses_46 : decode cX9_crosses 46 = .ok (.invokevirtual 63, 3) := by decide +kernel
theorem dX9_crosses_49 : decode cX9_crosses 49 = .ok (.return_, 1) := by decide +kernel
theorem dX9_powers_0 : decode cX9_powers 0 = .ok (.aload_n 1, 1) := by decide +kernel
theorem dX9_powers_1 : decode cX9_powers 1 = .ok (.iconst 0, 1) := by decide +kernel
theorem dX9_powers_2 : decode cX9_powers 2 = .ok (.ldc2_w 51, 3) := by decide +kernel
theorem dX9_powers_5 : decode cX9_powers 5 = .ok (.lastore, 1) := by decide +kernel
theorem dX9_powers_6 : decode cX9_powers 6 = .ok (.aload_n 1, 1) := by decide +kernel
theorem dX9_powers_7 : decode cX9_powers 7 = .ok (.iconst 1, 1) := by decide +kernel
theorem dX9_powers_8 : decode cX9_powers 8 = .ok (.ldc2_w 51, 3) := by decide +kernel
theorem dX9_powers_11 : decode cX9_powers 11 = .ok (.lastore, 1) := by decide +kernel
theorem dX9_powers_12 : decode cX9_powers 12 = .ok (.aload_n 0, 1) := by decide +kernel
theorem dX9_powers_13 : decode cX9_powers 13 = .ok (.getfield 32, 3) := by decide +kernel
theorem dX9_powers_16 : decode cX9_powers 16 = .ok (.iconst 0, 1) := by decide +kernel
theorem dX9_powers_17 : decode cX9_powers 17 = .ok (.iload_n 2, 1) := by decide +kernel
theorem dX9_powers_18 : decode cX9_powers 18 = .ok (.i2l, 1) := by decide +kernel
theorem dX9_powers_19 : decode cX9_powers 19 = .ok (.lastore, 1) := by decide +kernel
theorem dX9_powers_20 : decode cX9_powers 20 = .ok (.aload_n 0, 1) := by decide +kernel
theorem dX9_powers_21 : decode cX9_powers 21 = .ok (.getfield 32, 3) := by decide +kernel
theorem dX9_powers_24 : decode cX9_powers 24 = .ok (.iconst 1, 1) := by decide +kernel
theorem dX9_powers_25 : decode cX9_powers 25 = .ok (.iload_n 3, 1) := by decide +kernel
theorem dX9_powers_26 : decode cX9_powers 26 = .ok (.i2l, 1) := by decide +kernel
theorem dX9_powers_27 : decode cX9_powers 27 = .ok (.lastore, 1) := by decide +kernel
theorem dX9_powers_28 : decode cX9_powers 28 = .ok (.iconst 1, 1) := by decide +kernel
theorem dX9_powers_29 : decode cX9_powers 29 = .ok (.istore 4, 2) := by decide +kernel
theorem dX9_powers_31 : decode cX9_powers 31 = .ok (.iload 4, 2) := by decide +kernel
theorem dX9_powers_33 : decode cX9_powers 33 = .ok (.iconst 5, 1) := by decide +kernel
theorem dX9_powers_34 : decode cX9_powers 34 = .ok (.if_icmp .ge 29, 3) := by decide +kernel
theorem dX9_powers_37 : decode cX9_powers 37 = .ok (.aload_n 1, 1) := by decide +kernel
theorem dX9_powers_38 : decode cX9_powers 38 = .ok (.iconst 2, 1) := by decide +kernel
theorem dX9_powers_39 : decode cX9_powers 39 = .ok (.iload 4, 2) := by decide +kernel
theorem dX9_powers_41 : decode cX9_powers 41 = .ok (.imul, 1) := by decide +kernel
theorem dX9_powers_42 : decode cX9_powers 42 = .ok (.iconst 2, 1) := by decide +kernel
theorem dX9_powers_43 : decode cX9_powers 43 = .ok (.isub, 1) := by decide +kernel
theorem dX9_powers_44 : decode cX9_powers 44 = .ok (.aload_n 0, 1) := by decide +kernel
theorem dX9_powers_45 : decode cX9_powers 45 = .ok (.getfield 32, 3) := by decide +kernel
theorem dX9_powers_48 : decode cX9_powers 48 = .ok (.iconst 0, 1) := by decide +kernel
theorem dX9_powers_49 : decode cX9_powers 49 = .ok (.aload_n 1, 1) := by decide +kernel
theorem dX9_powers_50 : decode cX9_powers 50 = .ok (.iconst 2, 1) := by decide +kernel
theorem dX9_powers_51 : decode cX9_powers 51 = .ok (.iload 4, 2) := by decide +kernel
theorem dX9_powers_53 : decode cX9_powers 53 = .ok (.imul, 1) := by decide +kernel
theorem dX9_powers_54 : decode cX9_powers 54 = .ok (.invokestatic 59, 3) := by decide +kernel
theorem dX9_powers_57 : decode cX9_powers 57 = .ok (.iinc 4 1, 3) := by decide +kernel
theorem dX9_powers_60 : decode cX9_powers 60 = .ok (.goto (-29), 3) := by decide +kernel
theorem dX9_powers_63 : decode cX9_powers 63 = .ok (.return_, 1) := by decide +kernel
theorem dX9_adds_0 : decode cX9_adds 0 = .ok (.aload_n 0, 1) := by decide +kernel
theorem dX9_adds_1 : decode cX9_adds 1 = .ok (.getfield 26, 3) := by decide +kernel
theorem dX9_adds_4 : decode cX9_adds 4 = .ok (.iconst 2, 1) := by decide +kernel
theorem dX9_adds_5 : decode cX9_adds 5 = .ok (.iload_n 1, 1) := by decide +kernel
theorem dX9_adds_6 : decode cX9_adds 6 = .ok (.imul, 1) := by decide +kernel
theorem dX9_adds_7 : decode cX9_adds 7 = .ok (.aload_n 0, 1) := by decide +kernel
theorem dX9_adds_8 : decode cX9_adds 8 = .ok (.getfield 29, 3) := by decide +kernel
theorem dX9_adds_11 : decode cX9_adds 11 = .ok (.iconst 2, 1) := by decide +kernel
theorem dX9_adds_12 : decode cX9_adds 12 = .ok (.iload_n 2, 1) := by decide +kernel
theorem dX9_adds_13 : decode cX9_adds 13 = .ok (.imul, 1) := by decide +kernel
theorem dX9_adds_14 : decode cX9_adds 14 = .ok (.aload_n 0, 1) := by decide +kernel
theorem dX9_adds_15 : decode cX9_adds 15 = .ok (.getfield 22, 3) := by decide +kernel
theorem dX9_adds_18 : decode cX9_adds 18 = .ok (.bipush 18, 2) := by decide +kernel
theorem dX9_adds_20 : decode cX9_adds 20 = .ok (.invokestatic 59, 3) := by decide +kernel
theorem dX9_adds_23 : decode cX9_adds 23 = .ok (.aload_n 0, 1) := by decide +kernel
theorem dX9_adds_24 : decode cX9_adds 24 = .ok (.getfield 22, 3) := by decide +kernel
theorem dX9_adds_27 : decode cX9_adds 27 = .ok (.iload 4, 2) := by decide +kernel
theorem dX9_adds_29 : decode cX9_adds 29 = .ok (.dup2, 1) := by decide +kernel
theorem dX9_adds_30 : decode cX9_adds 30 = .ok (.laload, 1) := by decide +kernel
theorem dX9_adds_31 : decode cX9_adds 31 = .ok (.iload_n 3, 1) := by decide +kernel
theorem dX9_adds_32 : decode cX9_adds 32 = .ok (.ifCond .le 16, 3) := by decide +kernel
theorem dX9_adds_35 : decode cX9_adds 35 = .ok (.iload_n 3, 1) := by decide +kernel
theorem dX9_adds_36 : decode cX9_adds 36 = .ok (.i2l, 1) := by decide +kernel
theorem dX9_adds_37 : decode cX9_adds 37 = .ok (.aload_n 0, 1) := by decide +kernel
theorem dX9_adds_38 : decode cX9_adds 38 = .ok (.getfield 22, 3) := by decide +kernel
theorem dX9_adds_41 : decode cX9_adds 41 = .ok (.bipush 18, 2) := by decide +kernel
theorem dX9_adds_43 : decode cX9_adds 43 = .ok (.laload, 1) := by decide +kernel
theorem dX9_adds_44 : decode cX9_adds 44 = .ok (.lmul, 1) := by decide +kernel
theorem dX9_adds_45 : decode cX9_adds 45 = .ok (.goto 13, 3) := by decide +kernel
theorem dX9_adds_48 : decode cX9_adds 48 = .ok (.iload_n 3, 1) := by decide +kernel
theorem dX9_adds_49 : decode cX9_adds 49 = .ok (.i2l, 1) := by decide +kernel
theorem dX9_adds_50 : decode cX9_adds 50 = .ok (.aload_n 0, 1) := by decide +kernel
theorem dX9_adds_51 : decode cX9_adds 51 = .ok (.getfield 22, 3) := by decide +kernel
theorem dX9_adds_54 : decode cX9_adds 54 = .ok (.bipush 19, 2) := by decide +kernel
theorem dX9_adds_56 : decode cX9_adds 56 = .ok (.laload, 1) := by decide +kernel
theorem dX9_adds_57 : decode cX9_adds 57 = .ok (.lmul, 1) := by decide +kernel
theorem dX9_adds_58 : decode cX9_adds 58 = .ok (.ladd, 1) := by decide +kernel
theorem dX9_adds_59 : decode cX9_adds 59 = .ok (.lastore, 1) := by decide +kernel
theorem dX9_adds_60 : decode cX9_adds 60 = .ok (.aload_n 0, 1) := by decide +kernel
theorem dX9_adds_61 : decode cX9_adds 61 = .ok (.getfield 22, 3) := by decide +kernel
theorem dX9_adds_64 : decode cX9_adds 64 = .ok (.iload 4, 2) := by decide +kernel
theorem dX9_adds_66 : decode cX9_adds 66 = .ok (.iconst 1, 1) := by decide +kernel
theorem dX9_adds_67 : decode cX9_adds 67 = .ok (.iadd, 1) := by decide +kernel
theorem dX9_adds_68 : decode cX9_adds 68 = .ok (.dup2, 1) := by decide +kernel
theorem dX9_adds_69 : decode cX9_adds 69 = .ok (.laload, 1) := by decide +kernel
theorem dX9_adds_70 : decode cX9_adds 70 = .ok (.iload_n 3, 1) := by decide +kernel
theorem dX9_adds_71 : decode cX9_adds 71 = .ok (.ifCond .le 16, 3) := by decide +kernel
theorem dX9_adds_74 : decode cX9_adds 74 = .ok (.iload_n 3, 1) := by decide +kernel
theorem dX9_adds_75 : decode cX9_adds 75 = .ok (.i2l, 1) := by decide +kernel
theorem dX9_adds_76 : decode cX9_adds 76 = .ok (.aload_n 0, 1) := by decide +kernel
theorem dX9_adds_77 : decode cX9_adds 77 = .ok (.getfield 22, 3) := by decide +kernel
theorem dX9_adds_80 : decode cX9_adds 80 = .ok (.bipush 19, 2) := by decide +kernel
theorem dX9_adds_82 : decode cX9_adds 82 = .ok (.laload, 1) := by decide +kernel
theorem dX9_adds_83 : decode cX9_adds 83 = .ok (.lmul, 1) := by decide +kernel
theorem dX9_adds_84 : decode cX9_adds 84 = .ok (.goto 13, 3) := by decide +kernel
theorem dX9_adds_87 : decode cX9_adds 87 = .ok (.iload_n 3, 1) := by decide +kernel
theorem dX9_adds_88 : decode cX9_adds 88 = .ok (.i2l, 1) := by decide +kernel
theorem dX9_adds_89 : decode cX9_adds 89 = .ok (.aload_n 0, 1) := by decide +kernel
theorem dX9_adds_90 : decode cX9_adds 90 = .ok (.getfield 22, 3) := by decide +kernel
theorem dX9_adds_93 : decode cX9_adds 93 = .ok (.bipush 18, 2) := by decide +kernel
theorem dX9_adds_95 : decode cX9_adds 95 = .ok (.laload, 1) := by decide +kernel
theorem dX9_adds_96 : decode cX9_adds 96 = .ok (.lmul, 1) := by decide +kernel
theorem dX9_adds_97 : decode cX9_adds 97 = .ok (.ladd, 1) := by decide +kernel
theorem dX9_adds_98 : decode cX9_adds 98 = .ok (.lastore, 1) := by decide +kernel
theorem dX9_adds_99 : decode cX9_adds 99 = .ok (.return_, 1) := by decide +kernel
theorem dX9_reckons_0 : decode cX9_reckons 0 = .ok (.aload_n 0, 1) := by decide +kernel
theorem dX9_reckons_1 : decode cX9_reckons 1 = .ok (.getfield 22, 3) := by decide +kernel
theorem dX9_reckons_4 : decode cX9_reckons 4 = .ok (.iload_n 3, 1) := by decide +kernel
theorem dX9_reckons_5 : decode cX9_reckons 5 = .ok (.lconst 0, 1) := by decide +kernel
theorem dX9_reckons_6 : decode cX9_reckons 6 = .ok (.lastore, 1) := by decide +kernel
theorem dX9_reckons_7 : decode cX9_reckons 7 = .ok (.aload_n 0, 1) := by decide +kernel
theorem dX9_reckons_8 : decode cX9_reckons 8 = .ok (.getfield 22, 3) := by decide +kernel
theorem dX9_reckons_11 : decode cX9_reckons 11 = .ok (.iload_n 3, 1) := by decide +kernel
theorem dX9_reckons_12 : decode cX9_reckons 12 = .ok (.iconst 1, 1) := by decide +kernel
theorem dX9_reckons_13 : decode cX9_reckons 13 = .ok (.iadd, 1) := by decide +kernel
theorem dX9_reckons_14 : decode cX9_reckons 14 = .ok (.lconst 0, 1) := by decide +kernel
theorem dX9_reckons_15 : decode cX9_reckons 15 = .ok (.lastore, 1) := by decide +kernel
theorem dX9_reckons_16 : decode cX9_reckons 16 = .ok (.iconst 0, 1) := by decide +kernel
theorem dX9_reckons_17 : decode cX9_reckons 17 = .ok (.istore 4, 2) := by decide +kernel
theorem dX9_reckons_19 : decode cX9_reckons 19 = .ok (.iload 4, 2) := by decide +kernel
theorem dX9_reckons_21 : decode cX9_reckons 21 = .ok (.iconst 5, 1) := by decide +kernel
theorem dX9_reckons_22 : decode cX9_reckons 22 = .ok (.if_icmp .ge 128, 3) := by decide +kernel
theorem dX9_reckons_25 : decode cX9_reckons 25 = .ok (.iconst 0, 1) := by decide +kernel
theorem dX9_reckons_26 : decode cX9_reckons 26 = .ok (.istore 5, 2) := by decide +kernel
theorem dX9_reckons_28 : decode cX9_reckons 28 = .ok (.iload 4, 2) := by decide +kernel
theorem dX9_reckons_30 : decode cX9_reckons 30 = .ok (.iload 5, 2) := by decide +kernel
theorem dX9_reckons_32 : decode cX9_reckons 32 = .ok (.iadd, 1) := by decide +kernel
theorem dX9_reckons_33 : decode cX9_reckons 33 = .ok (.iconst 5, 1) := by decide +kernel
theorem dX9_reckons_34 : decode cX9_reckons 34 = .ok (.if_icmp .ge 110, 3) := by decide +kernel
theorem dX9_reckons_37 : decode cX9_reckons 37 = .ok (.aload_n 0, 1) := by decide +kernel
theorem dX9_reckons_38 : decode cX9_reckons 38 = .ok (.getfield 7, 3) := by decide +kernel
theorem dX9_reckons_41 : decode cX9_reckons 41 = .ok (.bipush 25, 2) := by decide +kernel
theorem dX9_reckons_43 : decode cX9_reckons 43 = .ok (.iload_n 1, 1) := by decide +kernel
theorem dX9_reckons_44 : decode cX9_reckons 44 = .ok (.imul, 1) := by decide +kernel
theorem dX9_reckons_45 : decode cX9_reckons 45 = .ok (.iconst 5, 1) := by decide +kernel
theorem dX9_reckons_46 : decode cX9_reckons 46 = .ok (.iload 4, 2) := by decide +kernel
theorem dX9_reckons_48 : decode cX9_reckons 48 = .ok (.imul, 1) := by decide +kernel
theorem dX9_reckons_49 : decode cX9_reckons 49 = .ok (.iadd, 1) := by decide +kernel
theorem dX9_reckons_50 : decode cX9_reckons 50 = .ok (.iload 5, 2) := by decide +kernel
theorem dX9_reckons_52 : decode cX9_reckons 52 = .ok (.iadd, 1) := by decide +kernel
theorem dX9_reckons_53 : decode cX9_reckons 53 = .ok (.iaload, 1) := by decide +kernel
theorem dX9_reckons_54 : decode cX9_reckons 54 = .ok (.istore 6, 2) := by decide +kernel
theorem dX9_reckons_56 : decode cX9_reckons 56 = .ok (.iload 6, 2) := by decide +kernel
theorem dX9_reckons_58 : decode cX9_reckons 58 = .ok (.ifCond .eq 18, 3) := by decide +kernel
theorem dX9_reckons_61 : decode cX9_reckons 61 = .ok (.iload_n 2, 1) := by decide +kernel
theorem dX9_reckons_62 : decode cX9_reckons 62 = .ok (.ifCond .ne 14, 3) := by decide +kernel
theorem dX9_reckons_65 : decode cX9_reckons 65 = .ok (.aload_n 0, 1) := by decide +kernel
theorem dX9_reckons_66 : decode cX9_reckons 66 = .ok (.iload 4, 2) := by decide +kernel
theorem dX9_reckons_68 : decode cX9_reckons 68 = .ok (.iload 5, 2) := by decide +kernel
theorem dX9_reckons_70 : decode cX9_reckons 70 = .ok (.iload 6, 2) := by decide +kernel
theorem dX9_reckons_72 : decode cX9_reckons 72 = .ok (.iload_n 3, 1) := by decide +kernel
theorem dX9_reckons_73 : decode cX9_reckons 73 = .ok (.invokevirtual 67, 3) := by decide +kernel
theorem dX9_reckons_76 : decode cX9_reckons 76 = .ok (.iload 6, 2) := by decide +kernel
theorem dX9_reckons_78 : decode cX9_reckons 78 = .ok (.ifCond .eq 29, 3) := by decide +kernel
theorem dX9_reckons_81 : decode cX9_reckons 81 = .ok (.iload_n 2, 1) := by decide +kernel
theorem dX9_reckons_82 : decode cX9_reckons 82 = .ok (.iconst 1, 1) := by decide +kernel
theorem dX9_reckons_83 : decode cX9_reckons 83 = .ok (.if_icmp .ne 24, 3) := by decide +kernel
theorem dX9_reckons_86 : decode cX9_reckons 86 = .ok (.iload 4, 2) := by decide +kernel
theorem dX9_reckons_88 : decode cX9_reckons 88 = .ok (.ifCond .le 19, 3) := by decide +kernel
theorem dX9_reckons_91 : decode cX9_reckons 91 = .ok (.aload_n 0, 1) := by decide +kernel
theorem dX9_reckons_92 : decode cX9_reckons 92 = .ok (.iload 4, 2) := by decide +kernel
theorem dX9_reckons_94 : decode cX9_reckons 94 = .ok (.iconst 1, 1) := by decide +kernel
theorem dX9_reckons_95 : decode cX9_reckons 95 = .ok (.isub, 1) := by decide +kernel
theorem dX9_reckons_96 : decode cX9_reckons 96 = .ok (.iload 5, 2) := by decide +kernel
theorem dX9_reckons_98 : decode cX9_reckons 98 = .ok (.iload 6, 2) := by decide +kernel
theorem dX9_reckons_100 : decode cX9_reckons 100 = .ok (.iload 4, 2) := by decide +kernel
theorem dX9_reckons_102 : decode cX9_reckons 102 = .ok (.imul, 1) := by decide +kernel
theorem dX9_reckons_103 : decode cX9_reckons 103 = .ok (.iload_n 3, 1) := by decide +kernel
theorem dX9_reckons_104 : decode cX9_reckons 104 = .ok (.invokevirtual 67, 3) := by decide +kernel
theorem dX9_reckons_107 : decode cX9_reckons 107 = .ok (.iload 6, 2) := by decide +kernel
theorem dX9_reckons_109 : decode cX9_reckons 109 = .ok (.ifCond .eq 29, 3) := by decide +kernel
theorem dX9_reckons_112 : decode cX9_reckons 112 = .ok (.iload_n 2, 1) := by decide +kernel
theorem dX9_reckons_113 : decode cX9_reckons 113 = .ok (.iconst 2, 1) := by decide +kernel
theorem dX9_reckons_114 : decode cX9_reckons 114 = .ok (.if_icmp .ne 24, 3) := by decide +kernel
theorem dX9_reckons_117 : decode cX9_reckons 117 = .ok (.iload 5, 2) := by decide +kernel
theorem dX9_reckons_119 : decode cX9_reckons 119 = .ok (.ifCond .le 19, 3) := by decide +kernel
theorem dX9_reckons_122 : decode cX9_reckons 122 = .ok (.aload_n 0, 1) := by decide +kernel
theorem dX9_reckons_123 : decode cX9_reckons 123 = .ok (.iload 4, 2) := by decide +kernel
theorem dX9_reckons_125 : decode cX9_reckons 125 = .ok (.iload 5, 2) := by decide +kernel
theorem dX9_reckons_127 : decode cX9_reckons 127 = .ok (.iconst 1, 1) := by decide +kernel
theorem dX9_reckons_128 : decode cX9_reckons 128 = .ok (.isub, 1) := by decide +kernel
theorem dX9_reckons_129 : decode cX9_reckons 129 = .ok (.iload 6, 2) := by decide +kernel
theorem dX9_reckons_131 : decode cX9_reckons 131 = .ok (.iload 5, 2) := by decide +kernel
theorem dX9_reckons_133 : decode cX9_reckons 133 = .ok (.imul, 1) := by decide +kernel
theorem dX9_reckons_134 : decode cX9_reckons 134 = .ok (.iload_n 3, 1) := by decide +kernel
theorem dX9_reckons_135 : decode cX9_reckons 135 = .ok (.invokevirtual 67, 3) := by decide +kernel
theorem dX9_reckons_138 : decode cX9_reckons 138 = .ok (.iinc 5 1, 3) := by decide +kernel
theorem dX9_reckons_141 : decode cX9_reckons 141 = .ok (.goto (-113), 3) := by decide +kernel
theorem dX9_reckons_144 : decode cX9_reckons 144 = .ok (.iinc 4 1, 3) := by decide +kernel
theorem dX9_reckons_147 : decode cX9_reckons 147 = .ok (.goto (-128), 3) := by decide +kernel
theorem dX9_reckons_150 : decode cX9_reckons 150 = .ok (.return_, 1) := by decide +kernel
theorem dX9_middle_0 : decode cX9_middle 0 = .ok (.iload_n 0, 1) := by decide +kernel
theorem dX9_middle_1 : decode cX9_middle 1 = .ok (.iload_n 1, 1) := by decide +kernel
theorem dX9_middle_2 : decode cX9_middle 2 = .ok (.iadd, 1) := by decide +kernel
theorem dX9_middle_3 : decode cX9_middle 3 = .ok (.i2l, 1) := by decide +kernel
theorem dX9_middle_4 : decode cX9_middle 4 = .ok (.ldc2_w 71, 3) := by decide +kernel
theorem dX9_middle_7 : decode cX9_middle 7 = .ok (.invokestatic 44, 3) := by decide +kernel
theorem dX9_middle_10 : decode cX9_middle 10 = .ok (.l2i, 1) := by decide +kernel
theorem dX9_middle_11 : decode cX9_middle 11 = .ok (.ireturn, 1) := by decide +kernel
theorem dX9_powersOfBox_0 : decode cX9_powersOfBox 0 = .ok (.aload_n 0, 1) := by decide +kernel
theorem dX9_powersOfBox_1 : decode cX9_powersOfBox 1 = .ok (.aload_n 0, 1) := by decide +kernel
theorem dX9_powersOfBox_2 : decode cX9_powersOfBox 2 = .ok (.getfield 26, 3) := by decide +kernel
theorem dX9_powersOfBox_5 : decode cX9_powersOfBox 5 = .ok (.aload_n 0, 1) := by decide +kernel
theorem dX9_powersOfBox_6 : decode cX9_powersOfBox 6 = .ok (.getfield 35, 3) := by decide +kernel
theorem dX9_powersOfBox_9 : decode cX9_powersOfBox 9 = .ok (.iconst 0, 1) := by decide +kernel
theorem dX9_powersOfBox_10 : decode cX9_powersOfBox 10 = .ok (.iaload, 1) := by decide +kernel
theorem dX9_powersOfBox_11 : decode cX9_powersOfBox 11 = .ok (.aload_n 0, 1) := by decide +kernel
theorem dX9_powersOfBox_12 : decode cX9_powersOfBox 12 = .ok (.getfield 35, 3) := by decide +kernel
theorem dX9_powersOfBox_15 : decode cX9_powersOfBox 15 = .ok (.iconst 1, 1) := by decide +kernel
theorem dX9_powersOfBox_16 : decode cX9_powersOfBox 16 = .ok (.iaload, 1) := by decide +kernel
theorem dX9_powersOfBox_17 : decode cX9_powersOfBox 17 = .ok (.invokevirtual 73, 3) := by decide +kernel
theorem dX9_powersOfBox_20 : decode cX9_powersOfBox 20 = .ok (.aload_n 0, 1) := by decide +kernel
theorem dX9_powersOfBox_21 : decode cX9_powersOfBox 21 = .ok (.aload_n 0, 1) := by decide +kernel
theorem dX9_powersOfBox_22 : decode cX9_powersOfBox 22 = .ok (.getfield 29, 3) := by decide +kernel
theorem dX9_powersOfBox_25 : decode cX9_powersOfBox 25 = .ok (.aload_n 0, 1) := by decide +kernel
theorem dX9_powersOfBox_26 : decode cX9_powersOfBox 26 = .ok (.getfield 35, 3) := by decide +kernel
theorem dX9_powersOfBox_29 : decode cX9_powersOfBox 29 = .ok (.iconst 2, 1) := by decide +kernel
theorem dX9_powersOfBox_30 : decode cX9_powersOfBox 30 = .ok (.iaload, 1) := by decide +kernel
theorem dX9_powersOfBox_31 : decode cX9_powersOfBox 31 = .ok (.aload_n 0, 1) := by decide +kernel
theorem dX9_powersOfBox_32 : decode cX9_powersOfBox 32 = .ok (.getfield 35, 3) := by decide +kernel
theorem dX9_powersOfBox_35 : decode cX9_powersOfBox 35 = .ok (.iconst 3, 1) := by decide +kernel
theorem dX9_powersOfBox_36 : decode cX9_powersOfBox 36 = .ok (.iaload, 1) := by decide +kernel
theorem dX9_powersOfBox_37 : decode cX9_powersOfBox 37 = .ok (.invokevirtual 73, 3) := by decide +kernel
theorem dX9_powersOfBox_40 : decode cX9_powersOfBox 40 = .ok (.return_, 1) := by decide +kernel
theorem dX9_hasNot_0 : decode cX9_hasNot 0 = .ok (.aload_n 0, 1) := by decide +kernel
theorem dX9_hasNot_1 : decode cX9_hasNot 1 = .ok (.getfield 22, 3) := by decide +kernel
theorem dX9_hasNot_4 : decode cX9_hasNot 4 = .ok (.iload_n 1, 1) := by decide +kernel
theorem dX9_hasNot_5 : decode cX9_hasNot 5 = .ok (.laload, 1) := by decide +kernel
theorem dX9_hasNot_6 : decode cX9_hasNot 6 = .ok (.lconst 0, 1) := by decide +kernel
theorem dX9_hasNot_7 : decode cX9_hasNot 7 = .ok (.lcmp, 1) := by decide +kernel
theorem dX9_hasNot_8 : decode cX9_hasNot 8 = .ok (.ifCond .gt 16, 3) := by decide +kernel
theorem dX9_hasNot_11 : decode cX9_hasNot 11 = .ok (.aload_n 0, 1) := by decide +kernel
theorem dX9_hasNot_12 : decode cX9_hasNot 12 = .ok (.getfield 22, 3) := by decide +kernel
theorem dX9_hasNot_15 : decode cX9_hasNot 15 = .ok (.iload_n 1, 1) := by decide +kernel
theorem dX9_hasNot_16 : decode cX9_hasNot 16 = .ok (.iconst 1, 1) := by decide +kernel
theorem dX9_hasNot_17 : decode cX9_hasNot 17 = .ok (.iadd, 1) := by decide +kernel
theorem dX9_hasNot_18 : decode cX9_hasNot 18 = .ok (.laload, 1) := by decide +kernel
theorem dX9_hasNot_19 : decode cX9_hasNot 19 = .ok (.lconst 0, 1) := by decide +kernel
theorem dX9_hasNot_20 : decode cX9_hasNot 20 = .ok (.lcmp, 1) := by decide +kernel
theorem dX9_hasNot_21 : decode cX9_hasNot 21 = .ok (.ifCond .ge 7, 3) := by decide +kernel
theorem dX9_hasNot_24 : decode cX9_hasNot 24 = .ok (.iconst 1, 1) := by decide +kernel
theorem dX9_hasNot_25 : decode cX9_hasNot 25 = .ok (.goto 4, 3) := by decide +kernel
theorem dX9_hasNot_28 : decode cX9_hasNot 28 = .ok (.iconst 0, 1) := by decide +kernel
theorem dX9_hasNot_29 : decode cX9_hasNot 29 = .ok (.ireturn, 1) := by decide +kernel
theorem dX9_fences_0 : decode cX9_fences 0 = .ok (.aload_n 0, 1) := by decide +kernel
theorem dX9_fences_1 : decode cX9_fences 1 = .ok (.getfield 35, 3) := by decide +kernel
theorem dX9_fences_4 : decode cX9_fences 4 = .ok (.iconst 0, 1) := by decide +kernel
theorem dX9_fences_5 : decode cX9_fences 5 = .ok (.iaload, 1) := by decide +kernel
theorem dX9_fences_6 : decode cX9_fences 6 = .ok (.aload_n 0, 1) := by decide +kernel
theorem dX9_fences_7 : decode cX9_fences 7 = .ok (.getfield 35, 3) := by decide +kernel
theorem dX9_fences_10 : decode cX9_fences 10 = .ok (.iconst 1, 1) := by decide +kernel
theorem dX9_fences_11 : decode cX9_fences 11 = .ok (.iaload, 1) := by decide +kernel
theorem dX9_fences_12 : decode cX9_fences 12 = .ok (.invokestatic 77, 3) := by decide +kernel
theorem dX9_fences_15 : decode cX9_fences 15 = .ok (.istore_n 1, 1) := by decide +kernel
theorem dX9_fences_16 : decode cX9_fences 16 = .ok (.aload_n 0, 1) := by decide +kernel
theorem dX9_fences_17 : decode cX9_fences 17 = .ok (.getfield 35, 3) := by decide +kernel
theorem dX9_fences_20 : decode cX9_fences 20 = .ok (.iconst 2, 1) := by decide +kernel
theorem dX9_fences_21 : decode cX9_fences 21 = .ok (.iaload, 1) := by decide +kernel
theorem dX9_fences_22 : decode cX9_fences 22 = .ok (.aload_n 0, 1) := by decide +kernel
theorem dX9_fences_23 : decode cX9_fences 23 = .ok (.getfield 35, 3) := by decide +kernel
theorem dX9_fences_26 : decode cX9_fences 26 = .ok (.iconst 3, 1) := by decide +kernel
theorem dX9_fences_27 : decode cX9_fences 27 = .ok (.iaload, 1) := by decide +kernel
theorem dX9_fences_28 : decode cX9_fences 28 = .ok (.invokestatic 77, 3) := by decide +kernel
theorem dX9_fences_31 : decode cX9_fences 31 = .ok (.istore_n 2, 1) := by decide +kernel
theorem dX9_fences_32 : decode cX9_fences 32 = .ok (.aload_n 0, 1) := by decide +kernel
theorem dX9_fences_33 : decode cX9_fences 33 = .ok (.aload_n 0, 1) := by decide +kernel
theorem dX9_fences_34 : decode cX9_fences 34 = .ok (.getfield 26, 3) := by decide +kernel
theorem dX9_fences_37 : decode cX9_fences 37 = .ok (.iload_n 1, 1) := by decide +kernel
theorem dX9_fences_38 : decode cX9_fences 38 = .ok (.iload_n 1, 1) := by decide +kernel
theorem dX9_fences_39 : decode cX9_fences 39 = .ok (.invokevirtual 73, 3) := by decide +kernel
theorem dX9_fences_42 : decode cX9_fences 42 = .ok (.aload_n 0, 1) := by decide +kernel
theorem dX9_fences_43 : decode cX9_fences 43 = .ok (.aload_n 0, 1) := by decide +kernel
theorem dX9_fences_44 : decode cX9_fences 44 = .ok (.getfield 29, 3) := by decide +kernel
theorem dX9_fences_47 : decode cX9_fences 47 = .ok (.iload_n 2, 1) := by decide +kernel
theorem dX9_fences_48 : decode cX9_fences 48 = .ok (.iload_n 2, 1) := by decide +kernel
theorem dX9_fences_49 : decode cX9_fences 49 = .ok (.invokevirtual 73, 3) := by decide +kernel
theorem dX9_fences_52 : decode cX9_fences 52 = .ok (.aload_n 0, 1) := by decide +kernel
theorem dX9_fences_53 : decode cX9_fences 53 = .ok (.iconst 0, 1) := by decide +kernel
theorem dX9_fences_54 : decode cX9_fences 54 = .ok (.iconst 0, 1) := by decide +kernel
theorem dX9_fences_55 : decode cX9_fences 55 = .ok (.iconst 0, 1) := by decide +kernel
theorem dX9_fences_56 : decode cX9_fences 56 = .ok (.invokevirtual 81, 3) := by decide +kernel
theorem dX9_fences_59 : decode cX9_fences 59 = .ok (.aload_n 0, 1) := by decide +kernel
theorem dX9_fences_60 : decode cX9_fences 60 = .ok (.iconst 1, 1) := by decide +kernel
theorem dX9_fences_61 : decode cX9_fences 61 = .ok (.iconst 0, 1) := by decide +kernel
theorem dX9_fences_62 : decode cX9_fences 62 = .ok (.iconst 2, 1) := by decide +kernel
theorem dX9_fences_63 : decode cX9_fences 63 = .ok (.invokevirtual 81, 3) := by decide +kernel
theorem dX9_fences_66 : decode cX9_fences 66 = .ok (.aload_n 0, 1) := by decide +kernel
theorem dX9_fences_67 : decode cX9_fences 67 = .ok (.invokevirtual 84, 3) := by decide +kernel
theorem dX9_fences_70 : decode cX9_fences 70 = .ok (.aload_n 0, 1) := by decide +kernel
theorem dX9_fences_71 : decode cX9_fences 71 = .ok (.iconst 0, 1) := by decide +kernel
theorem dX9_fences_72 : decode cX9_fences 72 = .ok (.iconst 1, 1) := by decide +kernel
theorem dX9_fences_73 : decode cX9_fences 73 = .ok (.iconst 4, 1) := by decide +kernel
theorem dX9_fences_74 : decode cX9_fences 74 = .ok (.invokevirtual 81, 3) := by decide +kernel
theorem dX9_fences_77 : decode cX9_fences 77 = .ok (.aload_n 0, 1) := by decide +kernel
theorem dX9_fences_78 : decode cX9_fences 78 = .ok (.iconst 0, 1) := by decide +kernel
theorem dX9_fences_79 : decode cX9_fences 79 = .ok (.iconst 2, 1) := by decide +kernel
theorem dX9_fences_80 : decode cX9_fences 80 = .ok (.bipush 6, 2) := by decide +kernel
theorem dX9_fences_82 : decode cX9_fences 82 = .ok (.invokevirtual 81, 3) := by decide +kernel
theorem dX9_fences_85 : decode cX9_fences 85 = .ok (.aload_n 0, 1) := by decide +kernel
theorem dX9_fences_86 : decode cX9_fences 86 = .ok (.iconst 1, 1) := by decide +kernel
theorem dX9_fences_87 : decode cX9_fences 87 = .ok (.iconst 1, 1) := by decide +kernel
theorem dX9_fences_88 : decode cX9_fences 88 = .ok (.bipush 8, 2) := by decide +kernel
theorem dX9_fences_90 : decode cX9_fences 90 = .ok (.invokevirtual 81, 3) := by decide +kernel
theorem dX9_fences_93 : decode cX9_fences 93 = .ok (.aload_n 0, 1) := by decide +kernel
theorem dX9_fences_94 : decode cX9_fences 94 = .ok (.iconst 1, 1) := by decide +kernel
theorem dX9_fences_95 : decode cX9_fences 95 = .ok (.iconst 2, 1) := by decide +kernel
theorem dX9_fences_96 : decode cX9_fences 96 = .ok (.bipush 10, 2) := by decide +kernel
theorem dX9_fences_98 : decode cX9_fences 98 = .ok (.invokevirtual 81, 3) := by decide +kernel
theorem dX9_fences_101 : decode cX9_fences 101 = .ok (.aload_n 0, 1) := by decide +kernel
theorem dX9_fences_102 : decode cX9_fences 102 = .ok (.iconst 4, 1) := by decide +kernel
theorem dX9_fences_103 : decode cX9_fences 103 = .ok (.bipush 10, 2) := by decide +kernel
theorem dX9_fences_105 : decode cX9_fences 105 = .ok (.bipush 6, 2) := by decide +kernel
theorem dX9_fences_107 : decode cX9_fences 107 = .ok (.bipush 8, 2) := by decide +kernel
theorem dX9_fences_109 : decode cX9_fences 109 = .ok (.bipush 12, 2) := by decide +kernel
theorem dX9_fences_111 : decode cX9_fences 111 = .ok (.invokevirtual 87, 3) := by decide +kernel
theorem dX9_fences_114 : decode cX9_fences 114 = .ok (.aload_n 0, 1) := by decide +kernel
theorem dX9_fences_115 : decode cX9_fences 115 = .ok (.bipush 12, 2) := by decide +kernel
theorem dX9_fences_117 : decode cX9_fences 117 = .ok (.invokevirtual 91, 3) := by decide +kernel
theorem dX9_fences_120 : decode cX9_fences 120 = .ok (.ifCond .ne 5, 3) := by decide +kernel
theorem dX9_fences_123 : decode cX9_fences 123 = .ok (.iconst 0, 1) := by decide +kernel
theorem dX9_fences_124 : decode cX9_fences 124 = .ok (.ireturn, 1) := by decide +kernel
theorem dX9_fences_125 : decode cX9_fences 125 = .ok (.aload_n 0, 1) := by decide +kernel
theorem dX9_fences_126 : decode cX9_fences 126 = .ok (.bipush 10, 2) := by decide +kernel
theorem dX9_fences_128 : decode cX9_fences 128 = .ok (.iconst 0, 1) := by decide +kernel
theorem dX9_fences_129 : decode cX9_fences 129 = .ok (.bipush 6, 2) := by decide +kernel
theorem dX9_fences_131 : decode cX9_fences 131 = .ok (.iconst 2, 1) := by decide +kernel
theorem dX9_fences_132 : decode cX9_fences 132 = .ok (.bipush 14, 2) := by decide +kernel
theorem dX9_fences_134 : decode cX9_fences 134 = .ok (.invokevirtual 87, 3) := by decide +kernel
theorem dX9_fences_137 : decode cX9_fences 137 = .ok (.aload_n 0, 1) := by decide +kernel
theorem dX9_fences_138 : decode cX9_fences 138 = .ok (.bipush 14, 2) := by decide +kernel
theorem dX9_fences_140 : decode cX9_fences 140 = .ok (.bipush 12, 2) := by decide +kernel
theorem dX9_fences_142 : decode cX9_fences 142 = .ok (.bipush 14, 2) := by decide +kernel
theorem dX9_fences_144 : decode cX9_fences 144 = .ok (.invokevirtual 95, 3) := by decide +kernel
theorem dX9_fences_147 : decode cX9_fences 147 = .ok (.aload_n 0, 1) := by decide +kernel
theorem dX9_fences_148 : decode cX9_fences 148 = .ok (.iload_n 1, 1) := by decide +kernel
theorem dX9_fences_149 : decode cX9_fences 149 = .ok (.bipush 14, 2) := by decide +kernel
theorem dX9_fences_151 : decode cX9_fences 151 = .ok (.invokevirtual 98, 3) := by decide +kernel
theorem dX9_fences_154 : decode cX9_fences 154 = .ok (.aload_n 0, 1) := by decide +kernel
theorem dX9_fences_155 : decode cX9_fences 155 = .ok (.iconst 4, 1) := by decide +kernel
theorem dX9_fences_156 : decode cX9_fences 156 = .ok (.iconst 2, 1) := by decide +kernel
theorem dX9_fences_157 : decode cX9_fences 157 = .ok (.bipush 8, 2) := by decide +kernel
theorem dX9_fences_159 : decode cX9_fences 159 = .ok (.iconst 0, 1) := by decide +kernel
theorem dX9_fences_160 : decode cX9_fences 160 = .ok (.bipush 16, 2) := by decide +kernel
theorem dX9_fences_162 : decode cX9_fences 162 = .ok (.invokevirtual 87, 3) := by decide +kernel
theorem dX9_fences_165 : decode cX9_fences 165 = .ok (.aload_n 0, 1) := by decide +kernel
theorem dX9_fences_166 : decode cX9_fences 166 = .ok (.bipush 16, 2) := by decide +kernel
theorem dX9_fences_168 : decode cX9_fences 168 = .ok (.bipush 12, 2) := by decide +kernel
theorem dX9_fences_170 : decode cX9_fences 170 = .ok (.bipush 16, 2) := by decide +kernel
theorem dX9_fences_172 : decode cX9_fences 172 = .ok (.invokevirtual 95, 3) := by decide +kernel
theorem dX9_fences_175 : decode cX9_fences 175 = .ok (.aload_n 0, 1) := by decide +kernel
theorem dX9_fences_176 : decode cX9_fences 176 = .ok (.iload_n 2, 1) := by decide +kernel
theorem dX9_fences_177 : decode cX9_fences 177 = .ok (.bipush 16, 2) := by decide +kernel
theorem dX9_fences_179 : decode cX9_fences 179 = .ok (.invokevirtual 98, 3) := by decide +kernel
theorem dX9_fences_182 : decode cX9_fences 182 = .ok (.iconst 1, 1) := by decide +kernel
theorem dX9_fences_183 : decode cX9_fences 183 = .ok (.ireturn, 1) := by decide +kernel
theorem dX9_subtracted_0 : decode cX9_subtracted 0 = .ok (.iload_n 1, 1) := by decide +kernel
theorem dX9_subtracted_1 : decode cX9_subtracted 1 = .ok (.i2l, 1) := by decide +kernel
theorem dX9_subtracted_2 : decode cX9_subtracted 2 = .ok (.aload_n 0, 1) := by decide +kernel
theorem dX9_subtracted_3 : decode cX9_subtracted 3 = .ok (.getfield 22, 3) := by decide +kernel
theorem dX9_subtracted_6 : decode cX9_subtracted 6 = .ok (.iload_n 2, 1) := by decide +kernel
theorem dX9_subtracted_7 : decode cX9_subtracted 7 = .ok (.iconst 1, 1) := by decide +kernel
theorem dX9_subtracted_8 : decode cX9_subtracted 8 = .ok (.iadd, 1) := by decide +kernel
theorem dX9_subtracted_9 : decode cX9_subtracted 9 = .ok (.laload, 1) := by decide +kernel
theorem dX9_subtracted_10 : decode cX9_subtracted 10 = .ok (.lsub, 1) := by decide +kernel
theorem dX9_subtracted_11 : decode cX9_subtracted 11 = .ok (.lstore_n 3, 1) := by decide +kernel
theorem dX9_subtracted_12 : decode cX9_subtracted 12 = .ok (.aload_n 0, 1) := by decide +kernel
theorem dX9_subtracted_13 : decode cX9_subtracted 13 = .ok (.getfield 22, 3) := by decide +kernel
theorem dX9_subtracted_16 : decode cX9_subtracted 16 = .ok (.iload_n 2, 1) := by decide +kernel
theorem dX9_subtracted_17 : decode cX9_subtracted 17 = .ok (.iconst 1, 1) := by decide +kernel
theorem dX9_subtracted_18 : decode cX9_subtracted 18 = .ok (.iadd, 1) := by decide +kernel
theorem dX9_subtracted_19 : decode cX9_subtracted 19 = .ok (.iload_n 1, 1) := by decide +kernel
theorem dX9_subtracted_20 : decode cX9_subtracted 20 = .ok (.i2l, 1) := by decide +kernel
theorem dX9_subtracted_21 : decode cX9_subtracted 21 = .ok (.aload_n 0, 1) := by decide +kernel
theorem dX9_subtracted_22 : decode cX9_subtracted 22 = .ok (.getfield 22, 3) := by decide +kernel
theorem dX9_subtracted_25 : decode cX9_subtracted 25 = .ok (.iload_n 2, 1) := by decide +kernel
theorem dX9_subtracted_26 : decode cX9_subtracted 26 = .ok (.laload, 1) := by decide +kernel
theorem dX9_subtracted_27 : decode cX9_subtracted 27 = .ok (.lsub, 1) := by decide +kernel
theorem dX9_subtracted_28 : decode cX9_subtracted 28 = .ok (.lastore, 1) := by decide +kernel
theorem dX9_subtracted_29 : decode cX9_subtracted 29 = .ok (.aload_n 0, 1) := by decide +kernel
theorem dX9_subtracted_30 : decode cX9_subtracted 30 = .ok (.getfield 22, 3) := by decide +kernel
theorem dX9_subtracted_33 : decode cX9_subtracted 33 = .ok (.iload_n 2, 1) := by decide +kernel
theorem dX9_subtracted_34 : decode cX9_subtracted 34 = .ok (.lload_n 3, 1) := by decide +kernel
theorem dX9_subtracted_35 : decode cX9_subtracted 35 = .ok (.lastore, 1) := by decide +kernel
theorem dX9_subtracted_36 : decode cX9_subtracted 36 = .ok (.return_, 1) := by decide +kernel
theorem dX9_shares_0 : decode cX9_shares 0 = .ok (.iconst 0, 1) := by decide +kernel
theorem dX9_shares_1 : decode cX9_shares 1 = .ok (.istore_n 1, 1) := by decide +kernel
theorem dX9_shares_2 : decode cX9_shares 2 = .ok (.iload_n 1, 1) := by decide +kernel
theorem dX9_shares_3 : decode cX9_shares 3 = .ok (.iconst 4, 1) := by decide +kernel
theorem dX9_shares_4 : decode cX9_shares 4 = .ok (.if_icmp .ge 65, 3) := by decide +kernel
theorem dX9_shares_7 : decode cX9_shares 7 = .ok (.aload_n 0, 1) := by decide +kernel
theorem dX9_shares_8 : decode cX9_shares 8 = .ok (.getfield 38, 3) := by decide +kernel
theorem dX9_shares_11 : decode cX9_shares 11 = .ok (.iload_n 1, 1) := by decide +kernel
theorem dX9_shares_12 : decode cX9_shares 12 = .ok (.aload_n 0, 1) := by decide +kernel
theorem dX9_shares_13 : decode cX9_shares 13 = .ok (.getfield 35, 3) := by decide +kernel
theorem dX9_shares_16 : decode cX9_shares 16 = .ok (.iload_n 1, 1) := by decide +kernel
theorem dX9_shares_17 : decode cX9_shares 17 = .ok (.iaload, 1) := by decide +kernel
theorem dX9_shares_18 : decode cX9_shares 18 = .ok (.i2l, 1) := by decide +kernel
theorem dX9_shares_19 : decode cX9_shares 19 = .ok (.aload_n 0, 1) := by decide +kernel
theorem dX9_shares_20 : decode cX9_shares 20 = .ok (.getfield 22, 3) := by decide +kernel
theorem dX9_shares_23 : decode cX9_shares 23 = .ok (.bipush 14, 2) := by decide +kernel
theorem dX9_shares_25 : decode cX9_shares 25 = .ok (.iload_n 1, 1) := by decide +kernel
theorem dX9_shares_26 : decode cX9_shares 26 = .ok (.iadd, 1) := by decide +kernel
theorem dX9_shares_27 : decode cX9_shares 27 = .ok (.laload, 1) := by decide +kernel
theorem dX9_shares_28 : decode cX9_shares 28 = .ok (.invokestatic 53, 3) := by decide +kernel
theorem dX9_shares_31 : decode cX9_shares 31 = .ok (.lastore, 1) := by decide +kernel
theorem dX9_shares_32 : decode cX9_shares 32 = .ok (.aload_n 0, 1) := by decide +kernel
theorem dX9_shares_33 : decode cX9_shares 33 = .ok (.getfield 38, 3) := by decide +kernel
theorem dX9_shares_36 : decode cX9_shares 36 = .ok (.iload_n 1, 1) := by decide +kernel
theorem dX9_shares_37 : decode cX9_shares 37 = .ok (.iconst 1, 1) := by decide +kernel
theorem dX9_shares_38 : decode cX9_shares 38 = .ok (.iadd, 1) := by decide +kernel
theorem dX9_shares_39 : decode cX9_shares 39 = .ok (.aload_n 0, 1) := by decide +kernel
theorem dX9_shares_40 : decode cX9_shares 40 = .ok (.getfield 35, 3) := by decide +kernel
theorem dX9_shares_43 : decode cX9_shares 43 = .ok (.iload_n 1, 1) := by decide +kernel
theorem dX9_shares_44 : decode cX9_shares 44 = .ok (.iconst 1, 1) := by decide +kernel
theorem dX9_shares_45 : decode cX9_shares 45 = .ok (.iadd, 1) := by decide +kernel
theorem dX9_shares_46 : decode cX9_shares 46 = .ok (.iaload, 1) := by decide +kernel
theorem dX9_shares_47 : decode cX9_shares 47 = .ok (.i2l, 1) := by decide +kernel
theorem dX9_shares_48 : decode cX9_shares 48 = .ok (.aload_n 0, 1) := by decide +kernel
theorem dX9_shares_49 : decode cX9_shares 49 = .ok (.getfield 22, 3) := by decide +kernel
theorem dX9_shares_52 : decode cX9_shares 52 = .ok (.bipush 14, 2) := by decide +kernel
theorem dX9_shares_54 : decode cX9_shares 54 = .ok (.iload_n 1, 1) := by decide +kernel
theorem dX9_shares_55 : decode cX9_shares 55 = .ok (.iadd, 1) := by decide +kernel
theorem dX9_shares_56 : decode cX9_shares 56 = .ok (.iconst 1, 1) := by decide +kernel
theorem dX9_shares_57 : decode cX9_shares 57 = .ok (.iadd, 1) := by decide +kernel
theorem dX9_shares_58 : decode cX9_shares 58 = .ok (.laload, 1) := by decide +kernel
theorem dX9_shares_59 : decode cX9_shares 59 = .ok (.invokestatic 48, 3) := by decide +kernel
theorem dX9_shares_62 : decode cX9_shares 62 = .ok (.lastore, 1) := by decide +kernel
theorem dX9_shares_63 : decode cX9_shares 63 = .ok (.iinc 1 2, 3) := by decide +kernel
theorem dX9_shares_66 : decode cX9_shares 66 = .ok (.goto (-64), 3) := by decide +kernel
theorem dX9_shares_69 : decode cX9_shares 69 = .ok (.return_, 1) := by decide +kernel
theorem dX9_isWithin_0 : decode cX9_isWithin 0 = .ok (.aload_n 0, 1) := by decide +kernel
theorem dX9_isWithin_1 : decode cX9_isWithin 1 = .ok (.getfield 22, 3) := by decide +kernel
theorem dX9_isWithin_4 : decode cX9_isWithin 4 = .ok (.bipush 14, 2) := by decide +kernel
theorem dX9_isWithin_6 : decode cX9_isWithin 6 = .ok (.laload, 1) := by decide +kernel
theorem dX9_isWithin_7 : decode cX9_isWithin 7 = .ok (.aload_n 0, 1) := by decide +kernel
theorem dX9_isWithin_8 : decode cX9_isWithin 8 = .ok (.getfield 35, 3) := by decide +kernel
theorem dX9_isWithin_11 : decode cX9_isWithin 11 = .ok (.iconst 0, 1) := by decide +kernel
theorem dX9_isWithin_12 : decode cX9_isWithin 12 = .ok (.iaload, 1) := by decide +kernel
theorem dX9_isWithin_13 : decode cX9_isWithin 13 = .ok (.i2l, 1) := by decide +kernel
theorem dX9_isWithin_14 : decode cX9_isWithin 14 = .ok (.lcmp, 1) := by decide +kernel
theorem dX9_isWithin_15 : decode cX9_isWithin 15 = .ok (.ifCond .le 61, 3) := by decide +kernel
theorem dX9_isWithin_18 : decode cX9_isWithin 18 = .ok (.aload_n 0, 1) := by decide +kernel
theorem dX9_isWithin_19 : decode cX9_isWithin 19 = .ok (.getfield 22, 3) := by decide +kernel
theorem dX9_isWithin_22 : decode cX9_isWithin 22 = .ok (.bipush 15, 2) := by decide +kernel
theorem dX9_isWithin_24 : decode cX9_isWithin 24 = .ok (.laload, 1) := by decide +kernel
theorem dX9_isWithin_25 : decode cX9_isWithin 25 = .ok (.aload_n 0, 1) := by decide +kernel
theorem dX9_isWithin_26 : decode cX9_isWithin 26 = .ok (.getfield 35, 3) := by decide +kernel
theorem dX9_isWithin_29 : decode cX9_isWithin 29 = .ok (.iconst 1, 1) := by decide +kernel
theorem dX9_isWithin_30 : decode cX9_isWithin 30 = .ok (.iaload, 1) := by decide +kernel
theorem dX9_isWithin_31 : decode cX9_isWithin 31 = .ok (.i2l, 1) := by decide +kernel
theorem dX9_isWithin_32 : decode cX9_isWithin 32 = .ok (.lcmp, 1) := by decide +kernel
theorem dX9_isWithin_33 : decode cX9_isWithin 33 = .ok (.ifCond .ge 43, 3) := by decide +kernel
theorem dX9_isWithin_36 : decode cX9_isWithin 36 = .ok (.aload_n 0, 1) := by decide +kernel
theorem dX9_isWithin_37 : decode cX9_isWithin 37 = .ok (.getfield 22, 3) := by decide +kernel
theorem dX9_isWithin_40 : decode cX9_isWithin 40 = .ok (.bipush 16, 2) := by decide +kernel
theorem dX9_isWithin_42 : decode cX9_isWithin 42 = .ok (.laload, 1) := by decide +kernel
theorem dX9_isWithin_43 : decode cX9_isWithin 43 = .ok (.aload_n 0, 1) := by decide +kernel
theorem dX9_isWithin_44 : decode cX9_isWithin 44 = .ok (.getfield 35, 3) := by decide +kernel
theorem dX9_isWithin_47 : decode cX9_isWithin 47 = .ok (.iconst 2, 1) := by decide +kernel
theorem dX9_isWithin_48 : decode cX9_isWithin 48 = .ok (.iaload, 1) := by decide +kernel
theorem dX9_isWithin_49 : decode cX9_isWithin 49 = .ok (.i2l, 1) := by decide +kernel
theorem dX9_isWithin_50 : decode cX9_isWithin 50 = .ok (.lcmp, 1) := by decide +kernel
theorem dX9_isWithin_51 : decode cX9_isWithin 51 = .ok (.ifCond .le 25, 3) := by decide +kernel
theorem dX9_isWithin_54 : decode cX9_isWithin 54 = .ok (.aload_n 0, 1) := by decide +kernel
theorem dX9_isWithin_55 : decode cX9_isWithin 55 = .ok (.getfield 22, 3) := by decide +kernel
theorem dX9_isWithin_58 : decode cX9_isWithin 58 = .ok (.bipush 17, 2) := by decide +kernel
theorem dX9_isWithin_60 : decode cX9_isWithin 60 = .ok (.laload, 1) := by decide +kernel
theorem dX9_isWithin_61 : decode cX9_isWithin 61 = .ok (.aload_n 0, 1) := by decide +kernel
theorem dX9_isWithin_62 : decode cX9_isWithin 62 = .ok (.getfield 35, 3) := by decide +kernel
theorem dX9_isWithin_65 : decode cX9_isWithin 65 = .ok (.iconst 3, 1) := by decide +kernel
theorem dX9_isWithin_66 : decode cX9_isWithin 66 = .ok (.iaload, 1) := by decide +kernel
theorem dX9_isWithin_67 : decode cX9_isWithin 67 = .ok (.i2l, 1) := by decide +kernel
theorem dX9_isWithin_68 : decode cX9_isWithin 68 = .ok (.lcmp, 1) := by decide +kernel
theorem dX9_isWithin_69 : decode cX9_isWithin 69 = .ok (.ifCond .ge 7, 3) := by decide +kernel
theorem dX9_isWithin_72 : decode cX9_isWithin 72 = .ok (.iconst 1, 1) := by decide +kernel
theorem dX9_isWithin_73 : decode cX9_isWithin 73 = .ok (.goto 4, 3) := by decide +kernel
theorem dX9_isWithin_76 : decode cX9_isWithin 76 = .ok (.iconst 0, 1) := by decide +kernel
theorem dX9_isWithin_77 : decode cX9_isWithin 77 = .ok (.ireturn, 1) := by decide +kernel
theorem dX9_judges_0 : decode cX9_judges 0 = .ok (.aload_n 0, 1) := by decide +kernel
theorem dX9_judges_1 : decode cX9_judges 1 = .ok (.invokevirtual 84, 3) := by decide +kernel
theorem dX9_judges_4 : decode cX9_judges 4 = .ok (.aload_n 0, 1) := by decide +kernel
theorem dX9_judges_5 : decode cX9_judges 5 = .ok (.iconst 0, 1) := by decide +kernel
theorem dX9_judges_6 : decode cX9_judges 6 = .ok (.iconst 0, 1) := by decide +kernel
theorem dX9_judges_7 : decode cX9_judges 7 = .ok (.iconst 0, 1) := by decide +kernel
theorem dX9_judges_8 : decode cX9_judges 8 = .ok (.invokevirtual 81, 3) := by decide +kernel
theorem dX9_judges_11 : decode cX9_judges 11 = .ok (.aload_n 0, 1) := by decide +kernel
theorem dX9_judges_12 : decode cX9_judges 12 = .ok (.iconst 0, 1) := by decide +kernel
theorem dX9_judges_13 : decode cX9_judges 13 = .ok (.invokevirtual 91, 3) := by decide +kernel
theorem dX9_judges_16 : decode cX9_judges 16 = .ok (.ifCond .eq 5, 3) := by decide +kernel
theorem dX9_judges_19 : decode cX9_judges 19 = .ok (.iconst 0, 1) := by decide +kernel
theorem dX9_judges_20 : decode cX9_judges 20 = .ok (.ireturn, 1) := by decide +kernel
theorem dX9_judges_21 : decode cX9_judges 21 = .ok (.aload_n 0, 1) := by decide +kernel
theorem dX9_judges_22 : decode cX9_judges 22 = .ok (.iconst 1, 1) := by decide +kernel
theorem dX9_judges_23 : decode cX9_judges 23 = .ok (.iconst 0, 1) := by decide +kernel
theorem dX9_judges_24 : decode cX9_judges 24 = .ok (.iconst 2, 1) := by decide +kernel
theorem dX9_judges_25 : decode cX9_judges 25 = .ok (.invokevirtual 81, 3) := by decide +kernel
theorem dX9_judges_28 : decode cX9_judges 28 = .ok (.aload_n 0, 1) := by decide +kernel
theorem dX9_judges_29 : decode cX9_judges 29 = .ok (.iconst 2, 1) := by decide +kernel
theorem dX9_judges_30 : decode cX9_judges 30 = .ok (.invokevirtual 91, 3) := by decide +kernel
theorem dX9_judges_33 : decode cX9_judges 33 = .ok (.ifCond .eq 5, 3) := by decide +kernel
theorem dX9_judges_36 : decode cX9_judges 36 = .ok (.iconst 1, 1) := by decide +kernel
theorem dX9_judges_37 : decode cX9_judges 37 = .ok (.ireturn, 1) := by decide +kernel
theorem dX9_judges_38 : decode cX9_judges 38 = .ok (.aload_n 0, 1) := by decide +kernel
theorem dX9_judges_39 : decode cX9_judges 39 = .ok (.invokevirtual 102, 3) := by decide +kernel
theorem dX9_judges_42 : decode cX9_judges 42 = .ok (.ifCond .ne 5, 3) := by decide +kernel
theorem dX9_judges_45 : decode cX9_judges 45 = .ok (.iconst 5, 1) := by decide +kernel
theorem dX9_judges_46 : decode cX9_judges 46 = .ok (.ireturn, 1) := by decide +kernel
theorem dX9_judges_47 : decode cX9_judges 47 = .ok (.aload_n 0, 1) := by decide +kernel
theorem dX9_judges_48 : decode cX9_judges 48 = .ok (.invokevirtual 106, 3) := by decide +kernel
theorem dX9_judges_51 : decode cX9_judges 51 = .ok (.aload_n 0, 1) := by decide +kernel
theorem dX9_judges_52 : decode cX9_judges 52 = .ok (.getfield 38, 3) := by decide +kernel
theorem dX9_judges_55 : decode cX9_judges 55 = .ok (.iconst 0, 1) := by decide +kernel
theorem dX9_judges_56 : decode cX9_judges 56 = .ok (.laload, 1) := by decide +kernel
theorem dX9_judges_57 : decode cX9_judges 57 = .ok (.aload_n 0, 1) := by decide +kernel
theorem dX9_judges_58 : decode cX9_judges 58 = .ok (.getfield 38, 3) := by decide +kernel
theorem dX9_judges_61 : decode cX9_judges 61 = .ok (.iconst 1, 1) := by decide +kernel
theorem dX9_judges_62 : decode cX9_judges 62 = .ok (.laload, 1) := by decide +kernel
theorem dX9_judges_63 : decode cX9_judges 63 = .ok (.lcmp, 1) := by decide +kernel
theorem dX9_judges_64 : decode cX9_judges 64 = .ok (.ifCond .gt 19, 3) := by decide +kernel
theorem dX9_judges_67 : decode cX9_judges 67 = .ok (.aload_n 0, 1) := by decide +kernel
theorem dX9_judges_68 : decode cX9_judges 68 = .ok (.getfield 38, 3) := by decide +kernel
theorem dX9_judges_71 : decode cX9_judges 71 = .ok (.iconst 2, 1) := by decide +kernel
theorem dX9_judges_72 : decode cX9_judges 72 = .ok (.laload, 1) := by decide +kernel
theorem dX9_judges_73 : decode cX9_judges 73 = .ok (.aload_n 0, 1) := by decide +kernel
theorem dX9_judges_74 : decode cX9_judges 74 = .ok (.getfield 38, 3) := by decide +kernel
theorem dX9_judges_77 : decode cX9_judges 77 = .ok (.iconst 3, 1) := by decide +kernel
theorem dX9_judges_78 : decode cX9_judges 78 = .ok (.laload, 1) := by decide +kernel
theorem dX9_judges_79 : decode cX9_judges 79 = .ok (.lcmp, 1) := by decide +kernel
theorem dX9_judges_80 : decode cX9_judges 80 = .ok (.ifCond .le 5, 3) := by decide +kernel
theorem dX9_judges_83 : decode cX9_judges 83 = .ok (.iconst 2, 1) := by decide +kernel
theorem dX9_judges_84 : decode cX9_judges 84 = .ok (.ireturn, 1) := by decide +kernel
theorem dX9_judges_85 : decode cX9_judges 85 = .ok (.aload_n 0, 1) := by decide +kernel
theorem dX9_judges_86 : decode cX9_judges 86 = .ok (.invokevirtual 109, 3) := by decide +kernel
theorem dX9_judges_89 : decode cX9_judges 89 = .ok (.ifCond .eq 5, 3) := by decide +kernel
theorem dX9_judges_92 : decode cX9_judges 92 = .ok (.iconst 3, 1) := by decide +kernel
theorem dX9_judges_93 : decode cX9_judges 93 = .ok (.ireturn, 1) := by decide +kernel
theorem dX9_judges_94 : decode cX9_judges 94 = .ok (.aload_n 0, 1) := by decide +kernel
theorem dX9_judges_95 : decode cX9_judges 95 = .ok (.getfield 35, 3) := by decide +kernel
theorem dX9_judges_98 : decode cX9_judges 98 = .ok (.iconst 1, 1) := by decide +kernel
theorem dX9_judges_99 : decode cX9_judges 99 = .ok (.iaload, 1) := by decide +kernel
theorem dX9_judges_100 : decode cX9_judges 100 = .ok (.aload_n 0, 1) := by decide +kernel
theorem dX9_judges_101 : decode cX9_judges 101 = .ok (.getfield 35, 3) := by decide +kernel
theorem dX9_judges_104 : decode cX9_judges 104 = .ok (.iconst 0, 1) := by decide +kernel
theorem dX9_judges_105 : decode cX9_judges 105 = .ok (.iaload, 1) := by decide +kernel
theorem dX9_judges_106 : decode cX9_judges 106 = .ok (.isub, 1) := by decide +kernel
theorem dX9_judges_107 : decode cX9_judges 107 = .ok (.aload_n 0, 1) := by decide +kernel
theorem dX9_judges_108 : decode cX9_judges 108 = .ok (.getfield 35, 3) := by decide +kernel
theorem dX9_judges_111 : decode cX9_judges 111 = .ok (.iconst 3, 1) := by decide +kernel
theorem dX9_judges_112 : decode cX9_judges 112 = .ok (.iaload, 1) := by decide +kernel
theorem dX9_judges_113 : decode cX9_judges 113 = .ok (.iadd, 1) := by decide +kernel
theorem dX9_judges_114 : decode cX9_judges 114 = .ok (.aload_n 0, 1) := by decide +kernel
theorem dX9_judges_115 : decode cX9_judges 115 = .ok (.getfield 35, 3) := by decide +kernel
theorem dX9_judges_118 : decode cX9_judges 118 = .ok (.iconst 2, 1) := by decide +kernel
theorem dX9_judges_119 : decode cX9_judges 119 = .ok (.iaload, 1) := by decide +kernel
theorem dX9_judges_120 : decode cX9_judges 120 = .ok (.isub, 1) := by decide +kernel
theorem dX9_judges_121 : decode cX9_judges 121 = .ok (.i2l, 1) := by decide +kernel
theorem dX9_judges_122 : decode cX9_judges 122 = .ok (.lstore_n 1, 1) := by decide +kernel
theorem dX9_judges_123 : decode cX9_judges 123 = .ok (.aload_n 0, 1) := by decide +kernel
theorem dX9_judges_124 : decode cX9_judges 124 = .ok (.getfield 38, 3) := by decide +kernel
theorem dX9_judges_127 : decode cX9_judges 127 = .ok (.iconst 1, 1) := by decide +kernel
theorem dX9_judges_128 : decode cX9_judges 128 = .ok (.laload, 1) := by decide +kernel
theorem dX9_judges_129 : decode cX9_judges 129 = .ok (.aload_n 0, 1) := by decide +kernel
theorem dX9_judges_130 : decode cX9_judges 130 = .ok (.getfield 38, 3) := by decide +kernel
theorem dX9_judges_133 : decode cX9_judges 133 = .ok (.iconst 0, 1) := by decide +kernel
theorem dX9_judges_134 : decode cX9_judges 134 = .ok (.laload, 1) := by decide +kernel
theorem dX9_judges_135 : decode cX9_judges 135 = .ok (.lsub, 1) := by decide +kernel
theorem dX9_judges_136 : decode cX9_judges 136 = .ok (.aload_n 0, 1) := by decide +kernel
theorem dX9_judges_137 : decode cX9_judges 137 = .ok (.getfield 38, 3) := by decide +kernel
theorem dX9_judges_140 : decode cX9_judges 140 = .ok (.iconst 3, 1) := by decide +kernel
theorem dX9_judges_141 : decode cX9_judges 141 = .ok (.laload, 1) := by decide +kernel
theorem dX9_judges_142 : decode cX9_judges 142 = .ok (.ladd, 1) := by decide +kernel
theorem dX9_judges_143 : decode cX9_judges 143 = .ok (.aload_n 0, 1) := by decide +kernel
theorem dX9_judges_144 : decode cX9_judges 144 = .ok (.getfield 38, 3) := by decide +kernel
theorem dX9_judges_147 : decode cX9_judges 147 = .ok (.iconst 2, 1) := by decide +kernel
theorem dX9_judges_148 : decode cX9_judges 148 = .ok (.laload, 1) := by decide +kernel
theorem dX9_judges_149 : decode cX9_judges 149 = .ok (.lsub, 1) := by decide +kernel
theorem dX9_judges_150 : decode cX9_judges 150 = .ok (.lstore_n 3, 1) := by decide +kernel
theorem dX9_judges_151 : decode cX9_judges 151 = .ok (.lload_n 1, 1) := by decide +kernel
theorem dX9_judges_152 : decode cX9_judges 152 = .ok (.lconst 0, 1) := by decide +kernel
theorem dX9_judges_153 : decode cX9_judges 153 = .ok (.lcmp, 1) := by decide +kernel
theorem dX9_judges_154 : decode cX9_judges 154 = .ok (.ifCond .le 21, 3) := by decide +kernel
theorem dX9_judges_157 : decode cX9_judges 157 = .ok (.ldc2_w 112, 3) := by decide +kernel
theorem dX9_judges_160 : decode cX9_judges 160 = .ok (.lload_n 3, 1) := by decide +kernel
theorem dX9_judges_161 : decode cX9_judges 161 = .ok (.lmul, 1) := by decide +kernel
theorem dX9_judges_162 : decode cX9_judges 162 = .ok (.ldc2_w 114, 3) := by decide +kernel
theorem dX9_judges_165 : decode cX9_judges 165 = .ok (.lload_n 1, 1) := by decide +kernel
theorem dX9_judges_166 : decode cX9_judges 166 = .ok (.lmul, 1) := by decide +kernel
theorem dX9_judges_167 : decode cX9_judges 167 = .ok (.lcmp, 1) := by decide +kernel
theorem dX9_judges_168 : decode cX9_judges 168 = .ok (.ifCond .gt 7, 3) := by decide +kernel
theorem dX9_judges_171 : decode cX9_judges 171 = .ok (.iconst 4, 1) := by decide +kernel
theorem dX9_judges_172 : decode cX9_judges 172 = .ok (.goto 4, 3) := by decide +kernel
theorem dX9_judges_175 : decode cX9_judges 175 = .ok (.iconst 5, 1) := by decide +kernel
theorem dX9_judges_176 : decode cX9_judges 176 = .ok (.ireturn, 1) := by decide +kernel
theorem dX9_looksAt_0 : decode cX9_looksAt 0 = .ok (.iconst 0, 1) := by decide +kernel
theorem dX9_looksAt_1 : decode cX9_looksAt 1 = .ok (.istore_n 3, 1) := by decide +kernel
theorem dX9_looksAt_2 : decode cX9_looksAt 2 = .ok (.iload_n 3, 1) := by decide +kernel
theorem dX9_looksAt_3 : decode cX9_looksAt 3 = .ok (.iconst 4, 1) := by decide +kernel
theorem dX9_looksAt_4 : decode cX9_looksAt 4 = .ok (.if_icmp .ge 20, 3) := by decide +kernel
theorem dX9_looksAt_7 : decode cX9_looksAt 7 = .ok (.aload_n 0, 1) := by decide +kernel
theorem dX9_looksAt_8 : decode cX9_looksAt 8 = .ok (.getfield 35, 3) := by decide +kernel
theorem dX9_looksAt_11 : decode cX9_looksAt 11 = .ok (.iload_n 3, 1) := by decide +kernel
theorem dX9_looksAt_12 : decode cX9_looksAt 12 = .ok (.aload_n 1, 1) := by decide +kernel
theorem dX9_looksAt_13 : decode cX9_looksAt 13 = .ok (.iload_n 2, 1) := by decide +kernel
theorem dX9_looksAt_14 : decode cX9_looksAt 14 = .ok (.iload_n 3, 1) := by decide +kernel
theorem dX9_looksAt_15 : decode cX9_looksAt 15 = .ok (.iadd, 1) := by decide +kernel
theorem dX9_looksAt_16 : decode cX9_looksAt 16 = .ok (.iaload, 1) := by decide +kernel
theorem dX9_looksAt_17 : decode cX9_looksAt 17 = .ok (.iastore, 1) := by decide +kernel
theorem dX9_looksAt_18 : decode cX9_looksAt 18 = .ok (.iinc 3 1, 3) := by decide +kernel
theorem dX9_looksAt_21 : decode cX9_looksAt 21 = .ok (.goto (-19), 3) := by decide +kernel
theorem dX9_looksAt_24 : decode cX9_looksAt 24 = .ok (.return_, 1) := by decide +kernel
theorem dX9_isPlace_0 : decode cX9_isPlace 0 = .ok (.iload_n 0, 1) := by decide +kernel
theorem dX9_isPlace_1 : decode cX9_isPlace 1 = .ok (.iconst 0, 1) := by decide +kernel
theorem dX9_isPlace_2 : decode cX9_isPlace 2 = .ok (.iconst 4, 1) := by decide +kernel
theorem dX9_isPlace_3 : decode cX9_isPlace 3 = .ok (.invokestatic 116, 3) := by decide +kernel
theorem dX9_isPlace_6 : decode cX9_isPlace 6 = .ok (.ifCond .eq 23, 3) := by decide +kernel
theorem dX9_isPlace_9 : decode cX9_isPlace 9 = .ok (.iload_n 1, 1) := by decide +kernel
theorem dX9_isPlace_10 : decode cX9_isPlace 10 = .ok (.iconst 0, 1) := by decide +kernel
theorem dX9_isPlace_11 : decode cX9_isPlace 11 = .ok (.iconst 4, 1) := by decide +kernel
theorem dX9_isPlace_12 : decode cX9_isPlace 12 = .ok (.invokestatic 116, 3) := by decide +kernel
theorem dX9_isPlace_15 : decode cX9_isPlace 15 = .ok (.ifCond .eq 14, 3) := by decide +kernel
theorem dX9_isPlace_18 : decode cX9_isPlace 18 = .ok (.iload_n 0, 1) := by decide +kernel
theorem dX9_isPlace_19 : decode cX9_isPlace 19 = .ok (.iload_n 1, 1) := by decide +kernel
theorem dX9_isPlace_20 : decode cX9_isPlace 20 = .ok (.iadd, 1) := by decide +kernel
theorem dX9_isPlace_21 : decode cX9_isPlace 21 = .ok (.iconst 5, 1) := by decide +kernel
theorem dX9_isPlace_22 : decode cX9_isPlace 22 = .ok (.if_icmp .ge 7, 3) := by decide +kernel
theorem dX9_isPlace_25 : decode cX9_isPlace 25 = .ok (.iconst 1, 1) := by decide +kernel
theorem dX9_isPlace_26 : decode cX9_isPlace 26 = .ok (.goto 4, 3) := by decide +kernel
theorem dX9_isPlace_29 : decode cX9_isPlace 29 = .ok (.iconst 0, 1) := by decide +kernel
theorem dX9_isPlace_30 : decode cX9_isPlace 30 = .ok (.ireturn, 1) := by decide +kernel
theorem dX9_put_0 : decode cX9_put 0 = .ok (.iload_n 1, 1) := by decide +kernel
theorem dX9_put_1 : decode cX9_put 1 = .ok (.iconst 0, 1) := by decide +kernel
theorem dX9_put_2 : decode cX9_put 2 = .ok (.iconst 1, 1) := by decide +kernel
theorem dX9_put_3 : decode cX9_put 3 = .ok (.invokestatic 116, 3) := by decide +kernel
theorem dX9_put_6 : decode cX9_put 6 = .ok (.ifCond .ne 6, 3) := by decide +kernel
theorem dX9_put_9 : decode cX9_put 9 = .ok (.ldc 120, 2) := by decide +kernel
theorem dX9_put_11 : decode cX9_put 11 = .ok (.ireturn, 1) := by decide +kernel
theorem dX9_put_12 : decode cX9_put 12 = .ok (.iload_n 2, 1) := by decide +kernel
theorem dX9_put_13 : decode cX9_put 13 = .ok (.iload_n 3, 1) := by decide +kernel
theorem dX9_put_14 : decode cX9_put 14 = .ok (.invokestatic 121, 3) := by decide +kernel
theorem dX9_put_17 : decode cX9_put 17 = .ok (.ifCond .eq 15, 3) := by decide +kernel
theorem dX9_put_20 : decode cX9_put 20 = .ok (.iload 4, 2) := by decide +kernel
theorem dX9_put_22 : decode cX9_put 22 = .ok (.bipush (-20), 2) := by decide +kernel
theorem dX9_put_24 : decode cX9_put 24 = .ok (.bipush 20, 2) := by decide +kernel
theorem dX9_put_26 : decode cX9_put 26 = .ok (.invokestatic 116, 3) := by decide +kernel
theorem dX9_put_29 : decode cX9_put 29 = .ok (.ifCond .ne 6, 3) := by decide +kernel
theorem dX9_put_32 : decode cX9_put 32 = .ok (.ldc 125, 2) := by decide +kernel
theorem dX9_put_34 : decode cX9_put 34 = .ok (.ireturn, 1) := by decide +kernel
theorem dX9_put_35 : decode cX9_put 35 = .ok (.aload_n 0, 1) := by decide +kernel
theorem dX9_put_36 : decode cX9_put 36 = .ok (.getfield 7, 3) := by decide +kernel
theorem dX9_put_39 : decode cX9_put 39 = .ok (.bipush 25, 2) := by decide +kernel
theorem dX9_put_41 : decode cX9_put 41 = .ok (.iload_n 1, 1) := by decide +kernel
theorem dX9_put_42 : decode cX9_put 42 = .ok (.imul, 1) := by decide +kernel
theorem dX9_put_43 : decode cX9_put 43 = .ok (.iconst 5, 1) := by decide +kernel
theorem dX9_put_44 : decode cX9_put 44 = .ok (.iload_n 2, 1) := by decide +kernel
theorem dX9_put_45 : decode cX9_put 45 = .ok (.imul, 1) := by decide +kernel
theorem dX9_put_46 : decode cX9_put 46 = .ok (.iadd, 1) := by decide +kernel
theorem dX9_put_47 : decode cX9_put 47 = .ok (.iload_n 3, 1) := by decide +kernel
theorem dX9_put_48 : decode cX9_put 48 = .ok (.iadd, 1) := by decide +kernel
theorem dX9_put_49 : decode cX9_put 49 = .ok (.iaload, 1) := by decide +kernel
theorem dX9_put_50 : decode cX9_put 50 = .ok (.istore 5, 2) := by decide +kernel
theorem dX9_put_52 : decode cX9_put 52 = .ok (.aload_n 0, 1) := by decide +kernel
theorem dX9_put_53 : decode cX9_put 53 = .ok (.getfield 7, 3) := by decide +kernel
theorem dX9_put_56 : decode cX9_put 56 = .ok (.bipush 25, 2) := by decide +kernel
theorem dX9_put_58 : decode cX9_put 58 = .ok (.iload_n 1, 1) := by decide +kernel
theorem dX9_put_59 : decode cX9_put 59 = .ok (.imul, 1) := by decide +kernel
theorem dX9_put_60 : decode cX9_put 60 = .ok (.iconst 5, 1) := by decide +kernel
theorem dX9_put_61 : decode cX9_put 61 = .ok (.iload_n 2, 1) := by decide +kernel
theorem dX9_put_62 : decode cX9_put 62 = .ok (.imul, 1) := by decide +kernel
theorem dX9_put_63 : decode cX9_put 63 = .ok (.iadd, 1) := by decide +kernel
theorem dX9_put_64 : decode cX9_put 64 = .ok (.iload_n 3, 1) := by decide +kernel
theorem dX9_put_65 : decode cX9_put 65 = .ok (.iadd, 1) := by decide +kernel
theorem dX9_put_66 : decode cX9_put 66 = .ok (.iload 4, 2) := by decide +kernel
theorem dX9_put_68 : decode cX9_put 68 = .ok (.iastore, 1) := by decide +kernel
theorem dX9_put_69 : decode cX9_put 69 = .ok (.iload 5, 2) := by decide +kernel
theorem dX9_put_71 : decode cX9_put 71 = .ok (.ireturn, 1) := by decide +kernel
theorem dX9_term_0 : decode cX9_term 0 = .ok (.iload_n 1, 1) := by decide +kernel
theorem dX9_term_1 : decode cX9_term 1 = .ok (.iconst 0, 1) := by decide +kernel
theorem dX9_term_2 : decode cX9_term 2 = .ok (.iconst 1, 1) := by decide +kernel
theorem dX9_term_3 : decode cX9_term 3 = .ok (.invokestatic 116, 3) := by decide +kernel
theorem dX9_term_6 : decode cX9_term 6 = .ok (.ifCond .ne 6, 3) := by decide +kernel
theorem dX9_term_9 : decode cX9_term 9 = .ok (.ldc 120, 2) := by decide +kernel
theorem dX9_term_11 : decode cX9_term 11 = .ok (.ireturn, 1) := by decide +kernel
theorem dX9_term_12 : decode cX9_term 12 = .ok (.iload_n 2, 1) := by decide +kernel
theorem dX9_term_13 : decode cX9_term 13 = .ok (.iload_n 3, 1) := by decide +kernel
theorem dX9_term_14 : decode cX9_term 14 = .ok (.invokestatic 121, 3) := by decide +kernel
theorem dX9_term_17 : decode cX9_term 17 = .ok (.ifCond .eq 21, 3) := by decide +kernel
theorem dX9_term_20 : decode cX9_term 20 = .ok (.aload_n 0, 1) := by decide +kernel
theorem dX9_term_21 : decode cX9_term 21 = .ok (.getfield 7, 3) := by decide +kernel
theorem dX9_term_24 : decode cX9_term 24 = .ok (.bipush 25, 2) := by decide +kernel
theorem dX9_term_26 : decode cX9_term 26 = .ok (.iload_n 1, 1) := by decide +kernel
theorem dX9_term_27 : decode cX9_term 27 = .ok (.imul, 1) := by decide +kernel
theorem dX9_term_28 : decode cX9_term 28 = .ok (.iconst 5, 1) := by decide +kernel
theorem dX9_term_29 : decode cX9_term 29 = .ok (.iload_n 2, 1) := by decide +kernel
theorem dX9_term_30 : decode cX9_term 30 = .ok (.imul, 1) := by decide +kernel
theorem dX9_term_31 : decode cX9_term 31 = .ok (.iadd, 1) := by decide +kernel
theorem dX9_term_32 : decode cX9_term 32 = .ok (.iload_n 3, 1) := by decide +kernel
theorem dX9_term_33 : decode cX9_term 33 = .ok (.iadd, 1) := by decide +kernel
theorem dX9_term_34 : decode cX9_term 34 = .ok (.iaload, 1) := by decide +kernel
theorem dX9_term_35 : decode cX9_term 35 = .ok (.goto 5, 3) := by decide +kernel
theorem dX9_term_38 : decode cX9_term 38 = .ok (.ldc 125, 2) := by decide +kernel
theorem dX9_term_40 : decode cX9_term 40 = .ok (.ireturn, 1) := by decide +kernel
theorem dX9_isNumber_0 : decode cX9_isNumber 0 = .ok (.iload_n 0, 1) := by decide +kernel
theorem dX9_isNumber_1 : decode cX9_isNumber 1 = .ok (.sipush (-512), 3) := by decide +kernel
theorem dX9_isNumber_4 : decode cX9_isNumber 4 = .ok (.sipush 512, 3) := by decide +kernel
theorem dX9_isNumber_7 : decode cX9_isNumber 7 = .ok (.invokestatic 116, 3) := by decide +kernel
theorem dX9_isNumber_10 : decode cX9_isNumber 10 = .ok (.ireturn, 1) := by decide +kernel
theorem dX9_power_0 : decode cX9_power 0 = .ok (.lconst 1, 1) := by decide +kernel
theorem dX9_power_1 : decode cX9_power 1 = .ok (.lstore_n 3, 1) := by decide +kernel
theorem dX9_power_2 : decode cX9_power 2 = .ok (.iconst 0, 1) := by decide +kernel
theorem dX9_power_3 : decode cX9_power 3 = .ok (.istore 5, 2) := by decide +kernel
theorem dX9_power_5 : decode cX9_power 5 = .ok (.iload 5, 2) := by decide +kernel
theorem dX9_power_7 : decode cX9_power 7 = .ok (.iload_n 2, 1) := by decide +kernel
theorem dX9_power_8 : decode cX9_power 8 = .ok (.if_icmp .ge 13, 3) := by decide +kernel
theorem dX9_power_11 : decode cX9_power 11 = .ok (.lload_n 3, 1) := by decide +kernel
theorem dX9_power_12 : decode cX9_power 12 = .ok (.lload_n 0, 1) := by decide +kernel
theorem dX9_power_13 : decode cX9_power 13 = .ok (.lmul, 1) := by decide +kernel
theorem dX9_power_14 : decode cX9_power 14 = .ok (.lstore_n 3, 1) := by decide +kernel
theorem dX9_power_15 : decode cX9_power 15 = .ok (.iinc 5 1, 3) := by decide +kernel
theorem dX9_power_18 : decode cX9_power 18 = .ok (.goto (-13), 3) := by decide +kernel
theorem dX9_power_21 : decode cX9_power 21 = .ok (.lload_n 3, 1) := by decide +kernel
theorem dX9_power_22 : decode cX9_power 22 = .ok (.lreturn, 1) := by decide +kernel
theorem dX9_sign_0 : decode cX9_sign 0 = .ok (.iload_n 1, 1) := by decide +kernel
theorem dX9_sign_1 : decode cX9_sign 1 = .ok (.iconst 0, 1) := by decide +kernel
theorem dX9_sign_2 : decode cX9_sign 2 = .ok (.iconst 1, 1) := by decide +kernel
theorem dX9_sign_3 : decode cX9_sign 3 = .ok (.invokestatic 116, 3) := by decide +kernel
theorem dX9_sign_6 : decode cX9_sign 6 = .ok (.ifCond .ne 6, 3) := by decide +kernel
theorem dX9_sign_9 : decode cX9_sign 9 = .ok (.ldc 120, 2) := by decide +kernel
theorem dX9_sign_11 : decode cX9_sign 11 = .ok (.ireturn, 1) := by decide +kernel
theorem dX9_sign_12 : decode cX9_sign 12 = .ok (.iload_n 2, 1) := by decide +kernel
theorem dX9_sign_13 : decode cX9_sign 13 = .ok (.invokestatic 126, 3) := by decide +kernel
theorem dX9_sign_16 : decode cX9_sign 16 = .ok (.ifCond .eq 10, 3) := by decide +kernel
theorem dX9_sign_19 : decode cX9_sign 19 = .ok (.iload_n 3, 1) := by decide +kernel
theorem dX9_sign_20 : decode cX9_sign 20 = .ok (.invokestatic 126, 3) := by decide +kernel
theorem dX9_sign_23 : decode cX9_sign 23 = .ok (.ifCond .ne 6, 3) := by decide +kernel
theorem dX9_sign_26 : decode cX9_sign 26 = .ok (.ldc 125, 2) := by decide +kernel
theorem dX9_sign_28 : decode cX9_sign 28 = .ok (.ireturn, 1) := by decide +kernel
theorem dX9_sign_29 : decode cX9_sign 29 = .ok (.lconst 0, 1) := by decide +kernel
theorem dX9_sign_30 : decode cX9_sign 30 = .ok (.lstore 4, 2) := by decide +kernel
theorem dX9_sign_32 : decode cX9_sign 32 = .ok (.iconst 0, 1) := by decide +kernel
theorem dX9_sign_33 : decode cX9_sign 33 = .ok (.istore 6, 2) := by decide +kernel
theorem dX9_sign_35 : decode cX9_sign 35 = .ok (.iload 6, 2) := by decide +kernel
theorem dX9_sign_37 : decode cX9_sign 37 = .ok (.iconst 5, 1) := by decide +kernel
theorem dX9_sign_38 : decode cX9_sign 38 = .ok (.if_icmp .ge 80, 3) := by decide +kernel
theorem dX9_sign_41 : decode cX9_sign 41 = .ok (.iconst 0, 1) := by decide +kernel
theorem dX9_sign_42 : decode cX9_sign 42 = .ok (.istore 7, 2) := by decide +kernel
theorem dX9_sign_44 : decode cX9_sign 44 = .ok (.iload 6, 2) := by decide +kernel
theorem dX9_sign_46 : decode cX9_sign 46 = .ok (.iload 7, 2) := by decide +kernel
theorem dX9_sign_48 : decode cX9_sign 48 = .ok (.iadd, 1) := by decide +kernel
theorem dX9_sign_49 : decode cX9_sign 49 = .ok (.iconst 5, 1) := by decide +kernel
theorem dX9_sign_50 : decode cX9_sign 50 = .ok (.if_icmp .ge 62, 3) := by decide +kernel
theorem dX9_sign_53 : decode cX9_sign 53 = .ok (.lload 4, 2) := by decide +kernel
theorem dX9_sign_55 : decode cX9_sign 55 = .ok (.aload_n 0, 1) := by decide +kernel
theorem dX9_sign_56 : decode cX9_sign 56 = .ok (.getfield 7, 3) := by decide +kernel
theorem dX9_sign_59 : decode cX9_sign 59 = .ok (.bipush 25, 2) := by decide +kernel
theorem dX9_sign_61 : decode cX9_sign 61 = .ok (.iload_n 1, 1) := by decide +kernel
theorem dX9_sign_62 : decode cX9_sign 62 = .ok (.imul, 1) := by decide +kernel
theorem dX9_sign_63 : decode cX9_sign 63 = .ok (.iconst 5, 1) := by decide +kernel
theorem dX9_sign_64 : decode cX9_sign 64 = .ok (.iload 6, 2) := by decide +kernel
theorem dX9_sign_66 : decode cX9_sign 66 = .ok (.imul, 1) := by decide +kernel
theorem dX9_sign_67 : decode cX9_sign 67 = .ok (.iadd, 1) := by decide +kernel
theorem dX9_sign_68 : decode cX9_sign 68 = .ok (.iload 7, 2) := by decide +kernel
theorem dX9_sign_70 : decode cX9_sign 70 = .ok (.iadd, 1) := by decide +kernel
theorem dX9_sign_71 : decode cX9_sign 71 = .ok (.iaload, 1) := by decide +kernel
theorem dX9_sign_72 : decode cX9_sign 72 = .ok (.i2l, 1) := by decide +kernel
theorem dX9_sign_73 : decode cX9_sign 73 = .ok (.iload_n 2, 1) := by decide +kernel
theorem dX9_sign_74 : decode cX9_sign 74 = .ok (.i2l, 1) := by decide +kernel
theorem dX9_sign_75 : decode cX9_sign 75 = .ok (.iload 6, 2) := by decide +kernel
theorem dX9_sign_77 : decode cX9_sign 77 = .ok (.invokestatic 129, 3) := by decide +kernel
theorem dX9_sign_80 : decode cX9_sign 80 = .ok (.lmul, 1) := by decide +kernel
theorem dX9_sign_81 : decode cX9_sign 81 = .ok (.iload_n 3, 1) := by decide +kernel
theorem dX9_sign_82 : decode cX9_sign 82 = .ok (.i2l, 1) := by decide +kernel
theorem dX9_sign_83 : decode cX9_sign 83 = .ok (.iload 7, 2) := by decide +kernel
theorem dX9_sign_85 : decode cX9_sign 85 = .ok (.invokestatic 129, 3) := by decide +kernel
theorem dX9_sign_88 : decode cX9_sign 88 = .ok (.lmul, 1) := by decide +kernel
theorem dX9_sign_89 : decode cX9_sign 89 = .ok (.ldc2_w 51, 3) := by decide +kernel
theorem dX9_sign_92 : decode cX9_sign 92 = .ok (.iconst 4, 1) := by decide +kernel
theorem dX9_sign_93 : decode cX9_sign 93 = .ok (.iload 6, 2) := by decide +kernel
theorem dX9_sign_95 : decode cX9_sign 95 = .ok (.isub, 1) := by decide +kernel
theorem dX9_sign_96 : decode cX9_sign 96 = .ok (.iload 7, 2) := by decide +kernel
theorem dX9_sign_98 : decode cX9_sign 98 = .ok (.isub, 1) := by decide +kernel
theorem dX9_sign_99 : decode cX9_sign 99 = .ok (.invokestatic 129, 3) := by decide +kernel
theorem dX9_sign_102 : decode cX9_sign 102 = .ok (.lmul, 1) := by decide +kernel
theorem dX9_sign_103 : decode cX9_sign 103 = .ok (.ladd, 1) := by decide +kernel
theorem dX9_sign_104 : decode cX9_sign 104 = .ok (.lstore 4, 2) := by decide +kernel
theorem dX9_sign_106 : decode cX9_sign 106 = .ok (.iinc 7 1, 3) := by decide +kernel
theorem dX9_sign_109 : decode cX9_sign 109 = .ok (.goto (-65), 3) := by decide +kernel
theorem dX9_sign_112 : decode cX9_sign 112 = .ok (.iinc 6 1, 3) := by decide +kernel
theorem dX9_sign_115 : decode cX9_sign 115 = .ok (.goto (-80), 3) := by decide +kernel
theorem dX9_sign_118 : decode cX9_sign 118 = .ok (.lload 4, 2) := by decide +kernel
theorem dX9_sign_120 : decode cX9_sign 120 = .ok (.lconst 0, 1) := by decide +kernel
theorem dX9_sign_121 : decode cX9_sign 121 = .ok (.lcmp, 1) := by decide +kernel
theorem dX9_sign_122 : decode cX9_sign 122 = .ok (.ifCond .le 7, 3) := by decide +kernel
theorem dX9_sign_125 : decode cX9_sign 125 = .ok (.iconst 1, 1) := by decide +kernel
theorem dX9_sign_126 : decode cX9_sign 126 = .ok (.goto 15, 3) := by decide +kernel
theorem dX9_sign_129 : decode cX9_sign 129 = .ok (.lload 4, 2) := by decide +kernel
theorem dX9_sign_131 : decode cX9_sign 131 = .ok (.lconst 0, 1) := by decide +kernel
theorem dX9_sign_132 : decode cX9_sign 132 = .ok (.lcmp, 1) := by decide +kernel
theorem dX9_sign_133 : decode cX9_sign 133 = .ok (.ifCond .ge 7, 3) := by decide +kernel
theorem dX9_sign_136 : decode cX9_sign 136 = .ok (.iconst (-1), 1) := by decide +kernel
theorem dX9_sign_137 : decode cX9_sign 137 = .ok (.goto 4, 3) := by decide +kernel
theorem dX9_sign_140 : decode cX9_sign 140 = .ok (.iconst 0, 1) := by decide +kernel
theorem dX9_sign_141 : decode cX9_sign 141 = .ok (.ireturn, 1) := by decide +kernel
theorem dX9_greaterWidth_0 : decode cX9_greaterWidth 0 = .ok (.aload_n 0, 1) := by decide +kernel
theorem dX9_greaterWidth_1 : decode cX9_greaterWidth 1 = .ok (.iload_n 1, 1) := by decide +kernel
theorem dX9_greaterWidth_2 : decode cX9_greaterWidth 2 = .ok (.iconst 1, 1) := by decide +kernel
theorem dX9_greaterWidth_3 : decode cX9_greaterWidth 3 = .ok (.iadd, 1) := by decide +kernel
theorem dX9_greaterWidth_4 : decode cX9_greaterWidth 4 = .ok (.iaload, 1) := by decide +kernel
theorem dX9_greaterWidth_5 : decode cX9_greaterWidth 5 = .ok (.aload_n 0, 1) := by decide +kernel
theorem dX9_greaterWidth_6 : decode cX9_greaterWidth 6 = .ok (.iload_n 1, 1) := by decide +kernel
theorem dX9_greaterWidth_7 : decode cX9_greaterWidth 7 = .ok (.iaload, 1) := by decide +kernel
theorem dX9_greaterWidth_8 : decode cX9_greaterWidth 8 = .ok (.isub, 1) := by decide +kernel
theorem dX9_greaterWidth_9 : decode cX9_greaterWidth 9 = .ok (.istore_n 2, 1) := by decide +kernel
theorem dX9_greaterWidth_10 : decode cX9_greaterWidth 10 = .ok (.aload_n 0, 1) := by decide +kernel
theorem dX9_greaterWidth_11 : decode cX9_greaterWidth 11 = .ok (.iload_n 1, 1) := by decide +kernel
theorem dX9_greaterWidth_12 : decode cX9_greaterWidth 12 = .ok (.iconst 3, 1) := by decide +kernel
theorem dX9_greaterWidth_13 : decode cX9_greaterWidth 13 = .ok (.iadd, 1) := by decide +kernel
theorem dX9_greaterWidth_14 : decode cX9_greaterWidth 14 = .ok (.iaload, 1) := by decide +kernel
theorem dX9_greaterWidth_15 : decode cX9_greaterWidth 15 = .ok (.aload_n 0, 1) := by decide +kernel
theorem dX9_greaterWidth_16 : decode cX9_greaterWidth 16 = .ok (.iload_n 1, 1) := by decide +kernel
theorem dX9_greaterWidth_17 : decode cX9_greaterWidth 17 = .ok (.iconst 2, 1) := by decide +kernel
theorem dX9_greaterWidth_18 : decode cX9_greaterWidth 18 = .ok (.iadd, 1) := by decide +kernel
theorem dX9_greaterWidth_19 : decode cX9_greaterWidth 19 = .ok (.iaload, 1) := by decide +kernel
theorem dX9_greaterWidth_20 : decode cX9_greaterWidth 20 = .ok (.isub, 1) := by decide +kernel
theorem dX9_greaterWidth_21 : decode cX9_greaterWidth 21 = .ok (.istore_n 3, 1) := by decide +kernel
theorem dX9_greaterWidth_22 : decode cX9_greaterWidth 22 = .ok (.iload_n 2, 1) := by decide +kernel
theorem dX9_greaterWidth_23 : decode cX9_greaterWidth 23 = .ok (.iload_n 3, 1) := by decide +kernel
theorem dX9_greaterWidth_24 : decode cX9_greaterWidth 24 = .ok (.if_icmp .le 7, 3) := by decide +kernel
theorem dX9_greaterWidth_27 : decode cX9_greaterWidth 27 = .ok (.iload_n 2, 1) := by decide +kernel
theorem dX9_greaterWidth_28 : decode cX9_greaterWidth 28 = .ok (.goto 4, 3) := by decide +kernel
theorem dX9_greaterWidth_31 : decode cX9_greaterWidth 31 = .ok (.iload_n 3, 1) := by decide +kernel
theorem dX9_greaterWidth_32 : decode cX9_greaterWidth 32 = .ok (.ireturn, 1) := by decide +kernel
theorem dX9_areSpans_0 : decode cX9_areSpans 0 = .ok (.iload_n 0, 1) := by decide +kernel
theorem dX9_areSpans_1 : decode cX9_areSpans 1 = .ok (.invokestatic 126, 3) := by decide +kernel
theorem dX9_areSpans_4 : decode cX9_areSpans 4 = .ok (.ifCond .eq 38, 3) := by decide +kernel
theorem dX9_areSpans_7 : decode cX9_areSpans 7 = .ok (.iload_n 1, 1) := by decide +kernel
theorem dX9_areSpans_8 : decode cX9_areSpans 8 = .ok (.invokestatic 126, 3) := by decide +kernel
theorem dX9_areSpans_11 : decode cX9_areSpans 11 = .ok (.ifCond .eq 31, 3) := by decide +kernel
theorem dX9_areSpans_14 : decode cX9_areSpans 14 = .ok (.iload_n 2, 1) := by decide +kernel
theorem dX9_areSpans_15 : decode cX9_areSpans 15 = .ok (.invokestatic 126, 3) := by decide +kernel
theorem dX9_areSpans_18 : decode cX9_areSpans 18 = .ok (.ifCond .eq 24, 3) := by decide +kernel
theorem dX9_areSpans_21 : decode cX9_areSpans 21 = .ok (.iload_n 3, 1) := by decide +kernel
theorem dX9_areSpans_22 : decode cX9_areSpans 22 = .ok (.invokestatic 126, 3) := by decide +kernel
theorem dX9_areSpans_25 : decode cX9_areSpans 25 = .ok (.ifCond .eq 17, 3) := by decide +kernel
theorem dX9_areSpans_28 : decode cX9_areSpans 28 = .ok (.iload_n 1, 1) := by decide +kernel
theorem dX9_areSpans_29 : decode cX9_areSpans 29 = .ok (.iload_n 0, 1) := by decide +kernel
theorem dX9_areSpans_30 : decode cX9_areSpans 30 = .ok (.if_icmp .lt 12, 3) := by decide +kernel
theorem dX9_areSpans_33 : decode cX9_areSpans 33 = .ok (.iload_n 3, 1) := by decide +kernel
theorem dX9_areSpans_34 : decode cX9_areSpans 34 = .ok (.iload_n 2, 1) := by decide +kernel
theorem dX9_areSpans_35 : decode cX9_areSpans 35 = .ok (.if_icmp .lt 7, 3) := by decide +kernel
theorem dX9_areSpans_38 : decode cX9_areSpans 38 = .ok (.iconst 1, 1) := by decide +kernel
theorem dX9_areSpans_39 : decode cX9_areSpans 39 = .ok (.goto 4, 3) := by decide +kernel
theorem dX9_areSpans_42 : decode cX9_areSpans 42 = .ok (.iconst 0, 1) := by decide +kernel
theorem dX9_areSpans_43 : decode cX9_areSpans 43 = .ok (.ireturn, 1) := by decide +kernel
theorem dX9_sets_0 : decode cX9_sets 0 = .ok (.aload_n 0, 1) := by decide +kernel
theorem dX9_sets_1 : decode cX9_sets 1 = .ok (.iload_n 1, 1) := by decide +kernel
theorem dX9_sets_2 : decode cX9_sets 2 = .ok (.iload_n 2, 1) := by decide +kernel
theorem dX9_sets_3 : decode cX9_sets 3 = .ok (.iastore, 1) := by decide +kernel
theorem dX9_sets_4 : decode cX9_sets 4 = .ok (.aload_n 0, 1) := by decide +kernel
theorem dX9_sets_5 : decode cX9_sets 5 = .ok (.iload_n 1, 1) := by decide +kernel
theorem dX9_sets_6 : decode cX9_sets 6 = .ok (.iconst 1, 1) := by decide +kernel
theorem dX9_sets_7 : decode cX9_sets 7 = .ok (.iadd, 1) := by decide +kernel
theorem dX9_sets_8 : decode cX9_sets 8 = .ok (.iload_n 3, 1) := by decide +kernel
theorem dX9_sets_9 : decode cX9_sets 9 = .ok (.iastore, 1) := by decide +kernel
theorem dX9_sets_10 : decode cX9_sets 10 = .ok (.aload_n 0, 1) := by decide +kernel
theorem dX9_sets_11 : decode cX9_sets 11 = .ok (.iload_n 1, 1) := by decide +kernel
theorem dX9_sets_12 : decode cX9_sets 12 = .ok (.iconst 2, 1) := by decide +kernel
theorem dX9_sets_13 : decode cX9_sets 13 = .ok (.iadd, 1) := by decide +kernel
theorem dX9_sets_14 : decode cX9_sets 14 = .ok (.iload 4, 2) := by decide +kernel
theorem dX9_sets_16 : decode cX9_sets 16 = .ok (.iastore, 1) := by decide +kernel
theorem dX9_sets_17 : decode cX9_sets 17 = .ok (.aload_n 0, 1) := by decide +kernel
theorem dX9_sets_18 : decode cX9_sets 18 = .ok (.iload_n 1, 1) := by decide +kernel
theorem dX9_sets_19 : decode cX9_sets 19 = .ok (.iconst 3, 1) := by decide +kernel
theorem dX9_sets_20 : decode cX9_sets 20 = .ok (.iadd, 1) := by decide +kernel
theorem dX9_sets_21 : decode cX9_sets 21 = .ok (.iload 5, 2) := by decide +kernel
theorem dX9_sets_23 : decode cX9_sets 23 = .ok (.iastore, 1) := by decide +kernel
theorem dX9_sets_24 : decode cX9_sets 24 = .ok (.return_, 1) := by decide +kernel
theorem dX9_hold_0 : decode cX9_hold 0 = .ok (.iload_n 1, 1) := by decide +kernel
theorem dX9_hold_1 : decode cX9_hold 1 = .ok (.iload_n 2, 1) := by decide +kernel
theorem dX9_hold_2 : decode cX9_hold 2 = .ok (.iload_n 3, 1) := by decide +kernel
theorem dX9_hold_3 : decode cX9_hold 3 = .ok (.iload 4, 2) := by decide +kernel
theorem dX9_hold_5 : decode cX9_hold 5 = .ok (.invokestatic 133, 3) := by decide +kernel
theorem dX9_hold_8 : decode cX9_hold 8 = .ok (.ifCond .ne 6, 3) := by decide +kernel
theorem dX9_hold_11 : decode cX9_hold 11 = .ok (.ldc 125, 2) := by decide +kernel
theorem dX9_hold_13 : decode cX9_hold 13 = .ok (.ireturn, 1) := by decide +kernel
theorem dX9_hold_14 : decode cX9_hold 14 = .ok (.aload_n 0, 1) := by decide +kernel
theorem dX9_hold_15 : decode cX9_hold 15 = .ok (.getfield 19, 3) := by decide +kernel
theorem dX9_hold_18 : decode cX9_hold 18 = .ok (.iconst 0, 1) := by decide +kernel
theorem dX9_hold_19 : decode cX9_hold 19 = .ok (.iload_n 1, 1) := by decide +kernel
theorem dX9_hold_20 : decode cX9_hold 20 = .ok (.iload_n 2, 1) := by decide +kernel
theorem dX9_hold_21 : decode cX9_hold 21 = .ok (.iload_n 3, 1) := by decide +kernel
theorem dX9_hold_22 : decode cX9_hold 22 = .ok (.iload 4, 2) := by decide +kernel
theorem dX9_hold_24 : decode cX9_hold 24 = .ok (.invokestatic 137, 3) := by decide +kernel
theorem dX9_hold_27 : decode cX9_hold 27 = .ok (.aload_n 0, 1) := by decide +kernel
theorem dX9_hold_28 : decode cX9_hold 28 = .ok (.iconst 1, 1) := by decide +kernel
theorem dX9_hold_29 : decode cX9_hold 29 = .ok (.putfield 141, 3) := by decide +kernel
theorem dX9_hold_32 : decode cX9_hold 32 = .ok (.aload_n 0, 1) := by decide +kernel
theorem dX9_hold_33 : decode cX9_hold 33 = .ok (.getfield 19, 3) := by decide +kernel
theorem dX9_hold_36 : decode cX9_hold 36 = .ok (.iconst 0, 1) := by decide +kernel
theorem dX9_hold_37 : decode cX9_hold 37 = .ok (.invokestatic 145, 3) := by decide +kernel
theorem dX9_hold_40 : decode cX9_hold 40 = .ok (.ireturn, 1) := by decide +kernel
theorem dX9_value_0 : decode cX9_value 0 = .ok (.iload_n 1, 1) := by decide +kernel
theorem dX9_value_1 : decode cX9_value 1 = .ok (.iconst 0, 1) := by decide +kernel
theorem dX9_value_2 : decode cX9_value 2 = .ok (.iconst 1, 1) := by decide +kernel
theorem dX9_value_3 : decode cX9_value 3 = .ok (.invokestatic 116, 3) := by decide +kernel
theorem dX9_value_6 : decode cX9_value 6 = .ok (.ifCond .ne 6, 3) := by decide +kernel
theorem dX9_value_9 : decode cX9_value 9 = .ok (.ldc 120, 2) := by decide +kernel
theorem dX9_value_11 : decode cX9_value 11 = .ok (.ireturn, 1) := by decide +kernel
theorem dX9_value_12 : decode cX9_value 12 = .ok (.iload_n 2, 1) := by decide +kernel
theorem dX9_value_13 : decode cX9_value 13 = .ok (.iconst 0, 1) := by decide +kernel
theorem dX9_value_14 : decode cX9_value 14 = .ok (.iconst 1, 1) := by decide +kernel
theorem dX9_value_15 : decode cX9_value 15 = .ok (.invokestatic 116, 3) := by decide +kernel
theorem dX9_value_18 : decode cX9_value 18 = .ok (.ifCond .ne 6, 3) := by decide +kernel
theorem dX9_value_21 : decode cX9_value 21 = .ok (.ldc 125, 2) := by decide +kernel
theorem dX9_value_23 : decode cX9_value 23 = .ok (.ireturn, 1) := by decide +kernel
theorem dX9_value_24 : decode cX9_value 24 = .ok (.aload_n 0, 1) := by decide +kernel
theorem dX9_value_25 : decode cX9_value 25 = .ok (.getfield 141, 3) := by decide +kernel
theorem dX9_value_28 : decode cX9_value 28 = .ok (.ifCond .ne 6, 3) := by decide +kernel
theorem dX9_value_31 : decode cX9_value 31 = .ok (.ldc 149, 2) := by decide +kernel
theorem dX9_value_33 : decode cX9_value 33 = .ok (.ireturn, 1) := by decide +kernel
theorem dX9_value_34 : decode cX9_value 34 = .ok (.aload_n 0, 1) := by decide +kernel
theorem dX9_value_35 : decode cX9_value 35 = .ok (.aload_n 0, 1) := by decide +kernel
theorem dX9_value_36 : decode cX9_value 36 = .ok (.getfield 19, 3) := by decide +kernel
theorem dX9_value_39 : decode cX9_value 39 = .ok (.iconst 0, 1) := by decide +kernel
theorem dX9_value_40 : decode cX9_value 40 = .ok (.invokevirtual 150, 3) := by decide +kernel
theorem dX9_value_43 : decode cX9_value 43 = .ok (.aload_n 0, 1) := by decide +kernel
theorem dX9_value_44 : decode cX9_value 44 = .ok (.invokevirtual 84, 3) := by decide +kernel
theorem dX9_value_47 : decode cX9_value 47 = .ok (.aload_n 0, 1) := by decide +kernel
theorem dX9_value_48 : decode cX9_value 48 = .ok (.iload_n 1, 1) := by decide +kernel
theorem dX9_value_49 : decode cX9_value 49 = .ok (.iconst 0, 1) := by decide +kernel
theorem dX9_value_50 : decode cX9_value 50 = .ok (.iconst 0, 1) := by decide +kernel
theorem dX9_value_51 : decode cX9_value 51 = .ok (.invokevirtual 81, 3) := by decide +kernel
theorem dX9_value_54 : decode cX9_value 54 = .ok (.aload_n 0, 1) := by decide +kernel
theorem dX9_value_55 : decode cX9_value 55 = .ok (.getfield 22, 3) := by decide +kernel
theorem dX9_value_58 : decode cX9_value 58 = .ok (.iconst 0, 1) := by decide +kernel
theorem dX9_value_59 : decode cX9_value 59 = .ok (.iload_n 2, 1) := by decide +kernel
theorem dX9_value_60 : decode cX9_value 60 = .ok (.iadd, 1) := by decide +kernel
theorem dX9_value_61 : decode cX9_value 61 = .ok (.laload, 1) := by decide +kernel
theorem dX9_value_62 : decode cX9_value 62 = .ok (.l2i, 1) := by decide +kernel
theorem dX9_value_63 : decode cX9_value 63 = .ok (.ireturn, 1) := by decide +kernel
theorem dX9_slope_0 : decode cX9_slope 0 = .ok (.iload_n 1, 1) := by decide +kernel
theorem dX9_slope_1 : decode cX9_slope 1 = .ok (.iconst 0, 1) := by decide +kernel
theorem dX9_slope_2 : decode cX9_slope 2 = .ok (.iconst 1, 1) := by decide +kernel
theorem dX9_slope_3 : decode cX9_slope 3 = .ok (.invokestatic 116, 3) := by decide +kernel
theorem dX9_slope_6 : decode cX9_slope 6 = .ok (.ifCond .ne 6, 3) := by decide +kernel
theorem dX9_slope_9 : decode cX9_slope 9 = .ok (.ldc 120, 2) := by decide +kernel
theorem dX9_slope_11 : decode cX9_slope 11 = .ok (.ireturn, 1) := by decide +kernel
theorem dX9_slope_12 : decode cX9_slope 12 = .ok (.iload_n 2, 1) := by decide +kernel
theorem dX9_slope_13 : decode cX9_slope 13 = .ok (.iconst 0, 1) := by decide +kernel
theorem dX9_slope_14 : decode cX9_slope 14 = .ok (.iconst 1, 1) := by decide +kernel
theorem dX9_slope_15 : decode cX9_slope 15 = .ok (.invokestatic 116, 3) := by decide +kernel
theorem dX9_slope_18 : decode cX9_slope 18 = .ok (.ifCond .eq 12, 3) := by decide +kernel
theorem dX9_slope_21 : decode cX9_slope 21 = .ok (.iload_n 3, 1) := by decide +kernel
theorem dX9_slope_22 : decode cX9_slope 22 = .ok (.iconst 0, 1) := by decide +kernel
theorem dX9_slope_23 : decode cX9_slope 23 = .ok (.iconst 1, 1) := by decide +kernel
theorem dX9_slope_24 : decode cX9_slope 24 = .ok (.invokestatic 116, 3) := by decide +kernel
theorem dX9_slope_27 : decode cX9_slope 27 = .ok (.ifCond .ne 6, 3) := by decide +kernel
theorem dX9_slope_30 : decode cX9_slope 30 = .ok (.ldc 125, 2) := by decide +kernel
theorem dX9_slope_32 : decode cX9_slope 32 = .ok (.ireturn, 1) := by decide +kernel
theorem dX9_slope_33 : decode cX9_slope 33 = .ok (.aload_n 0, 1) := by decide +kernel
theorem dX9_slope_34 : decode cX9_slope 34 = .ok (.getfield 141, 3) := by decide +kernel
theorem dX9_slope_37 : decode cX9_slope 37 = .ok (.ifCond .ne 6, 3) := by decide +kernel
theorem dX9_slope_40 : decode cX9_slope 40 = .ok (.ldc 149, 2) := by decide +kernel
theorem dX9_slope_42 : decode cX9_slope 42 = .ok (.ireturn, 1) := by decide +kernel
theorem dX9_slope_43 : decode cX9_slope 43 = .ok (.aload_n 0, 1) := by decide +kernel
theorem dX9_slope_44 : decode cX9_slope 44 = .ok (.aload_n 0, 1) := by decide +kernel
theorem dX9_slope_45 : decode cX9_slope 45 = .ok (.getfield 19, 3) := by decide +kernel
theorem dX9_slope_48 : decode cX9_slope 48 = .ok (.iconst 0, 1) := by decide +kernel
theorem dX9_slope_49 : decode cX9_slope 49 = .ok (.invokevirtual 150, 3) := by decide +kernel
theorem dX9_slope_52 : decode cX9_slope 52 = .ok (.aload_n 0, 1) := by decide +kernel
theorem dX9_slope_53 : decode cX9_slope 53 = .ok (.invokevirtual 84, 3) := by decide +kernel
theorem dX9_slope_56 : decode cX9_slope 56 = .ok (.aload_n 0, 1) := by decide +kernel
theorem dX9_slope_57 : decode cX9_slope 57 = .ok (.iload_n 1, 1) := by decide +kernel
theorem dX9_slope_58 : decode cX9_slope 58 = .ok (.iconst 1, 1) := by decide +kernel
theorem dX9_slope_59 : decode cX9_slope 59 = .ok (.iload_n 2, 1) := by decide +kernel
theorem dX9_slope_60 : decode cX9_slope 60 = .ok (.iadd, 1) := by decide +kernel
theorem dX9_slope_61 : decode cX9_slope 61 = .ok (.iconst 0, 1) := by decide +kernel
theorem dX9_slope_62 : decode cX9_slope 62 = .ok (.invokevirtual 81, 3) := by decide +kernel
theorem dX9_slope_65 : decode cX9_slope 65 = .ok (.aload_n 0, 1) := by decide +kernel
theorem dX9_slope_66 : decode cX9_slope 66 = .ok (.getfield 22, 3) := by decide +kernel
theorem dX9_slope_69 : decode cX9_slope 69 = .ok (.iconst 0, 1) := by decide +kernel
theorem dX9_slope_70 : decode cX9_slope 70 = .ok (.iload_n 3, 1) := by decide +kernel
theorem dX9_slope_71 : decode cX9_slope 71 = .ok (.iadd, 1) := by decide +kernel
theorem dX9_slope_72 : decode cX9_slope 72 = .ok (.laload, 1) := by decide +kernel
theorem dX9_slope_73 : decode cX9_slope 73 = .ok (.l2i, 1) := by decide +kernel
theorem dX9_slope_74 : decode cX9_slope 74 = .ok (.ireturn, 1) := by decide +kernel
theorem dX9_told_0 : decode cX9_told 0 = .ok (.lload_n 0, 1) := by decide +kernel
theorem dX9_told_1 : decode cX9_told 1 = .ok (.ldc2_w 154, 3) := by decide +kernel
theorem dX9_told_4 : decode cX9_told 4 = .ok (.lcmp, 1) := by decide +kernel
theorem dX9_told_5 : decode cX9_told 5 = .ok (.ifCond .le 8, 3) := by decide +kernel
theorem dX9_told_8 : decode cX9_told 8 = .ok (.ldc 156, 2) := by decide +kernel
theorem dX9_told_10 : decode cX9_told 10 = .ok (.goto 18, 3) := by decide +kernel
theorem dX9_told_13 : decode cX9_told 13 = .ok (.lload_n 0, 1) := by decide +kernel
theorem dX9_told_14 : decode cX9_told 14 = .ok (.ldc2_w 157, 3) := by decide +kernel
theorem dX9_told_17 : decode cX9_told 17 = .ok (.lcmp, 1) := by decide +kernel
theorem dX9_told_18 : decode cX9_told 18 = .ok (.ifCond .ge 8, 3) := by decide +kernel
theorem dX9_told_21 : decode cX9_told 21 = .ok (.ldc 159, 2) := by decide +kernel
theorem dX9_told_23 : decode cX9_told 23 = .ok (.goto 5, 3) := by decide +kernel
theorem dX9_told_26 : decode cX9_told 26 = .ok (.lload_n 0, 1) := by decide +kernel
theorem dX9_told_27 : decode cX9_told 27 = .ok (.l2i, 1) := by decide +kernel
theorem dX9_told_28 : decode cX9_told 28 = .ok (.ireturn, 1) := by decide +kernel
theorem dX9_fence_0 : decode cX9_fence 0 = .ok (.iload_n 1, 1) := by decide +kernel
theorem dX9_fence_1 : decode cX9_fence 1 = .ok (.iconst 0, 1) := by decide +kernel
theorem dX9_fence_2 : decode cX9_fence 2 = .ok (.iconst 5, 1) := by decide +kernel
theorem dX9_fence_3 : decode cX9_fence 3 = .ok (.invokestatic 116, 3) := by decide +kernel
theorem dX9_fence_6 : decode cX9_fence 6 = .ok (.ifCond .ne 6, 3) := by decide +kernel
theorem dX9_fence_9 : decode cX9_fence 9 = .ok (.ldc 125, 2) := by decide +kernel
theorem dX9_fence_11 : decode cX9_fence 11 = .ok (.ireturn, 1) := by decide +kernel
theorem dX9_fence_12 : decode cX9_fence 12 = .ok (.aload_n 0, 1) := by decide +kernel
theorem dX9_fence_13 : decode cX9_fence 13 = .ok (.getfield 141, 3) := by decide +kernel
theorem dX9_fence_16 : decode cX9_fence 16 = .ok (.ifCond .ne 6, 3) := by decide +kernel
theorem dX9_fence_19 : decode cX9_fence 19 = .ok (.ldc 149, 2) := by decide +kernel
theorem dX9_fence_21 : decode cX9_fence 21 = .ok (.ireturn, 1) := by decide +kernel
theorem dX9_fence_22 : decode cX9_fence 22 = .ok (.aload_n 0, 1) := by decide +kernel
theorem dX9_fence_23 : decode cX9_fence 23 = .ok (.aload_n 0, 1) := by decide +kernel
theorem dX9_fence_24 : decode cX9_fence 24 = .ok (.getfield 19, 3) := by decide +kernel
theorem dX9_fence_27 : decode cX9_fence 27 = .ok (.iconst 0, 1) := by decide +kernel
theorem dX9_fence_28 : decode cX9_fence 28 = .ok (.invokevirtual 150, 3) := by decide +kernel
theorem dX9_fence_31 : decode cX9_fence 31 = .ok (.aload_n 0, 1) := by decide +kernel
theorem dX9_fence_32 : decode cX9_fence 32 = .ok (.invokevirtual 102, 3) := by decide +kernel
theorem dX9_fence_35 : decode cX9_fence 35 = .ok (.istore_n 2, 1) := by decide +kernel
theorem dX9_fence_36 : decode cX9_fence 36 = .ok (.iload_n 1, 1) := by decide +kernel
theorem dX9_fence_37 : decode cX9_fence 37 = .ok (.iconst 3, 1) := by decide +kernel
theorem dX9_fence_38 : decode cX9_fence 38 = .ok (.if_icmp .le 18, 3) := by decide +kernel
theorem dX9_fence_41 : decode cX9_fence 41 = .ok (.aload_n 0, 1) := by decide +kernel
theorem dX9_fence_42 : decode cX9_fence 42 = .ok (.getfield 22, 3) := by decide +kernel
theorem dX9_fence_45 : decode cX9_fence 45 = .ok (.bipush 12, 2) := by decide +kernel
theorem dX9_fence_47 : decode cX9_fence 47 = .ok (.iload_n 1, 1) := by decide +kernel
theorem dX9_fence_48 : decode cX9_fence 48 = .ok (.iadd, 1) := by decide +kernel
theorem dX9_fence_49 : decode cX9_fence 49 = .ok (.iconst 4, 1) := by decide +kernel
theorem dX9_fence_50 : decode cX9_fence 50 = .ok (.isub, 1) := by decide +kernel
theorem dX9_fence_51 : decode cX9_fence 51 = .ok (.laload, 1) := by decide +kernel
theorem dX9_fence_52 : decode cX9_fence 52 = .ok (.invokestatic 160, 3) := by decide +kernel
theorem dX9_fence_55 : decode cX9_fence 55 = .ok (.ireturn, 1) := by decide +kernel
theorem dX9_fence_56 : decode cX9_fence 56 = .ok (.iload_n 2, 1) := by decide +kernel
theorem dX9_fence_57 : decode cX9_fence 57 = .ok (.ifCond .eq 18, 3) := by decide +kernel
theorem dX9_fence_60 : decode cX9_fence 60 = .ok (.aload_n 0, 1) := by decide +kernel
theorem dX9_fence_61 : decode cX9_fence 61 = .ok (.getfield 22, 3) := by decide +kernel
theorem dX9_fence_64 : decode cX9_fence 64 = .ok (.bipush 14, 2) := by decide +kernel
theorem dX9_fence_66 : decode cX9_fence 66 = .ok (.iload_n 1, 1) := by decide +kernel
theorem dX9_fence_67 : decode cX9_fence 67 = .ok (.iadd, 1) := by decide +kernel
theorem dX9_fence_68 : decode cX9_fence 68 = .ok (.laload, 1) := by decide +kernel
theorem dX9_fence_69 : decode cX9_fence 69 = .ok (.invokestatic 160, 3) := by decide +kernel
theorem dX9_fence_72 : decode cX9_fence 72 = .ok (.goto 5, 3) := by decide +kernel
theorem dX9_fence_75 : decode cX9_fence 75 = .ok (.ldc 164, 2) := by decide +kernel
theorem dX9_fence_77 : decode cX9_fence 77 = .ok (.ireturn, 1) := by decide +kernel
theorem dX9_verdict_0 : decode cX9_verdict 0 = .ok (.aload_n 0, 1) := by decide +kernel
theorem dX9_verdict_1 : decode cX9_verdict 1 = .ok (.getfield 141, 3) := by decide +kernel
theorem dX9_verdict_4 : decode cX9_verdict 4 = .ok (.ifCond .ne 6, 3) := by decide +kernel
theorem dX9_verdict_7 : decode cX9_verdict 7 = .ok (.ldc 149, 2) := by decide +kernel
theorem dX9_verdict_9 : decode cX9_verdict 9 = .ok (.ireturn, 1) := by decide +kernel
theorem dX9_verdict_10 : decode cX9_verdict 10 = .ok (.aload_n 0, 1) := by decide +kernel
theorem dX9_verdict_11 : decode cX9_verdict 11 = .ok (.aload_n 0, 1) := by decide +kernel
theorem dX9_verdict_12 : decode cX9_verdict 12 = .ok (.getfield 19, 3) := by decide +kernel
theorem dX9_verdict_15 : decode cX9_verdict 15 = .ok (.iconst 0, 1) := by decide +kernel
theorem dX9_verdict_16 : decode cX9_verdict 16 = .ok (.invokevirtual 150, 3) := by decide +kernel
theorem dX9_verdict_19 : decode cX9_verdict 19 = .ok (.aload_n 0, 1) := by decide +kernel
theorem dX9_verdict_20 : decode cX9_verdict 20 = .ok (.invokevirtual 165, 3) := by decide +kernel
theorem dX9_verdict_23 : decode cX9_verdict 23 = .ok (.ireturn, 1) := by decide +kernel
theorem dX9_opens_0 : decode cX9_opens 0 = .ok (.aload_n 0, 1) := by decide +kernel
theorem dX9_opens_1 : decode cX9_opens 1 = .ok (.getfield 7, 3) := by decide +kernel
theorem dX9_opens_4 : decode cX9_opens 4 = .ok (.bipush 55, 2) := by decide +kernel
theorem dX9_opens_6 : decode cX9_opens 6 = .ok (.iconst 4, 1) := by decide +kernel
theorem dX9_opens_7 : decode cX9_opens 7 = .ok (.aload_n 0, 1) := by decide +kernel
theorem dX9_opens_8 : decode cX9_opens 8 = .ok (.getfield 7, 3) := by decide +kernel
theorem dX9_opens_11 : decode cX9_opens 11 = .ok (.bipush 51, 2) := by decide +kernel
theorem dX9_opens_13 : decode cX9_opens 13 = .ok (.iaload, 1) := by decide +kernel
theorem dX9_opens_14 : decode cX9_opens 14 = .ok (.imul, 1) := by decide +kernel
theorem dX9_opens_15 : decode cX9_opens 15 = .ok (.iadd, 1) := by decide +kernel
theorem dX9_opens_16 : decode cX9_opens 16 = .ok (.iload_n 1, 1) := by decide +kernel
theorem dX9_opens_17 : decode cX9_opens 17 = .ok (.iload_n 2, 1) := by decide +kernel
theorem dX9_opens_18 : decode cX9_opens 18 = .ok (.iload_n 3, 1) := by decide +kernel
theorem dX9_opens_19 : decode cX9_opens 19 = .ok (.iload 4, 2) := by decide +kernel
theorem dX9_opens_21 : decode cX9_opens 21 = .ok (.invokestatic 137, 3) := by decide +kernel
theorem dX9_opens_24 : decode cX9_opens 24 = .ok (.aload_n 0, 1) := by decide +kernel
theorem dX9_opens_25 : decode cX9_opens 25 = .ok (.getfield 7, 3) := by decide +kernel
theorem dX9_opens_28 : decode cX9_opens 28 = .ok (.bipush 51, 2) := by decide +kernel
theorem dX9_opens_30 : decode cX9_opens 30 = .ok (.dup2, 1) := by decide +kernel
theorem dX9_opens_31 : decode cX9_opens 31 = .ok (.iaload, 1) := by decide +kernel
theorem dX9_opens_32 : decode cX9_opens 32 = .ok (.iconst 1, 1) := by decide +kernel
theorem dX9_opens_33 : decode cX9_opens 33 = .ok (.iadd, 1) := by decide +kernel
theorem dX9_opens_34 : decode cX9_opens 34 = .ok (.iastore, 1) := by decide +kernel
theorem dX9_opens_35 : decode cX9_opens 35 = .ok (.return_, 1) := by decide +kernel
theorem dX9_beginsAnew_0 : decode cX9_beginsAnew 0 = .ok (.aload_n 0, 1) := by decide +kernel
theorem dX9_beginsAnew_1 : decode cX9_beginsAnew 1 = .ok (.getfield 7, 3) := by decide +kernel
theorem dX9_beginsAnew_4 : decode cX9_beginsAnew 4 = .ok (.bipush 51, 2) := by decide +kernel
theorem dX9_beginsAnew_6 : decode cX9_beginsAnew 6 = .ok (.iconst 0, 1) := by decide +kernel
theorem dX9_beginsAnew_7 : decode cX9_beginsAnew 7 = .ok (.iastore, 1) := by decide +kernel
theorem dX9_beginsAnew_8 : decode cX9_beginsAnew 8 = .ok (.aload_n 0, 1) := by decide +kernel
theorem dX9_beginsAnew_9 : decode cX9_beginsAnew 9 = .ok (.getfield 7, 3) := by decide +kernel
theorem dX9_beginsAnew_12 : decode cX9_beginsAnew 12 = .ok (.bipush 52, 2) := by decide +kernel
theorem dX9_beginsAnew_14 : decode cX9_beginsAnew 14 = .ok (.iconst 0, 1) := by decide +kernel
theorem dX9_beginsAnew_15 : decode cX9_beginsAnew 15 = .ok (.iastore, 1) := by decide +kernel
theorem dX9_beginsAnew_16 : decode cX9_beginsAnew 16 = .ok (.aload_n 0, 1) := by decide +kernel
theorem dX9_beginsAnew_17 : decode cX9_beginsAnew 17 = .ok (.getfield 7, 3) := by decide +kernel
theorem dX9_beginsAnew_20 : decode cX9_beginsAnew 20 = .ok (.bipush 53, 2) := by decide +kernel
theorem dX9_beginsAnew_22 : decode cX9_beginsAnew 22 = .ok (.iconst 0, 1) := by decide +kernel
theorem dX9_beginsAnew_23 : decode cX9_beginsAnew 23 = .ok (.iastore, 1) := by decide +kernel
theorem dX9_beginsAnew_24 : decode cX9_beginsAnew 24 = .ok (.aload_n 0, 1) := by decide +kernel
theorem dX9_beginsAnew_25 : decode cX9_beginsAnew 25 = .ok (.getfield 7, 3) := by decide +kernel
theorem dX9_beginsAnew_28 : decode cX9_beginsAnew 28 = .ok (.bipush 54, 2) := by decide +kernel
theorem dX9_beginsAnew_30 : decode cX9_beginsAnew 30 = .ok (.iconst 0, 1) := by decide +kernel
theorem dX9_beginsAnew_31 : decode cX9_beginsAnew 31 = .ok (.iastore, 1) := by decide +kernel
theorem dX9_beginsAnew_32 : decode cX9_beginsAnew 32 = .ok (.aload_n 0, 1) := by decide +kernel
theorem dX9_beginsAnew_33 : decode cX9_beginsAnew 33 = .ok (.iload_n 1, 1) := by decide +kernel
theorem dX9_beginsAnew_34 : decode cX9_beginsAnew 34 = .ok (.iload_n 2, 1) := by decide +kernel
theorem dX9_beginsAnew_35 : decode cX9_beginsAnew 35 = .ok (.iload_n 3, 1) := by decide +kernel
theorem dX9_beginsAnew_36 : decode cX9_beginsAnew 36 = .ok (.iload 4, 2) := by decide +kernel
theorem dX9_beginsAnew_38 : decode cX9_beginsAnew 38 = .ok (.invokevirtual 169, 3) := by decide +kernel
theorem dX9_beginsAnew_41 : decode cX9_beginsAnew 41 = .ok (.return_, 1) := by decide +kernel
theorem dX9_begin_0 : decode cX9_begin 0 = .ok (.iload_n 1, 1) := by decide +kernel
theorem dX9_begin_1 : decode cX9_begin 1 = .ok (.iload_n 2, 1) := by decide +kernel
theorem dX9_begin_2 : decode cX9_begin 2 = .ok (.iload_n 3, 1) := by decide +kernel
theorem dX9_begin_3 : decode cX9_begin 3 = .ok (.iload 4, 2) := by decide +kernel
theorem dX9_begin_5 : decode cX9_begin 5 = .ok (.invokestatic 133, 3) := by decide +kernel
theorem dX9_begin_8 : decode cX9_begin 8 = .ok (.ifCond .eq 14, 3) := by decide +kernel
theorem dX9_begin_11 : decode cX9_begin 11 = .ok (.iload_n 2, 1) := by decide +kernel
theorem dX9_begin_12 : decode cX9_begin 12 = .ok (.iload_n 1, 1) := by decide +kernel
theorem dX9_begin_13 : decode cX9_begin 13 = .ok (.if_icmp .eq 9, 3) := by decide +kernel
theorem dX9_begin_16 : decode cX9_begin 16 = .ok (.iload 4, 2) := by decide +kernel
theorem dX9_begin_18 : decode cX9_begin 18 = .ok (.iload_n 3, 1) := by decide +kernel
theorem dX9_begin_19 : decode cX9_begin 19 = .ok (.if_icmp .ne 6, 3) := by decide +kernel
theorem dX9_begin_22 : decode cX9_begin 22 = .ok (.ldc 125, 2) := by decide +kernel
theorem dX9_begin_24 : decode cX9_begin 24 = .ok (.ireturn, 1) := by decide +kernel
theorem dX9_begin_25 : decode cX9_begin 25 = .ok (.aload_n 0, 1) := by decide +kernel
theorem dX9_begin_26 : decode cX9_begin 26 = .ok (.iload_n 1, 1) := by decide +kernel
theorem dX9_begin_27 : decode cX9_begin 27 = .ok (.iload_n 2, 1) := by decide +kernel
theorem dX9_begin_28 : decode cX9_begin 28 = .ok (.iload_n 3, 1) := by decide +kernel
theorem dX9_begin_29 : decode cX9_begin 29 = .ok (.iload 4, 2) := by decide +kernel
theorem dX9_begin_31 : decode cX9_begin 31 = .ok (.invokevirtual 172, 3) := by decide +kernel
theorem dX9_begin_34 : decode cX9_begin 34 = .ok (.aload_n 0, 1) := by decide +kernel
theorem dX9_begin_35 : decode cX9_begin 35 = .ok (.getfield 7, 3) := by decide +kernel
theorem dX9_begin_38 : decode cX9_begin 38 = .ok (.bipush 55, 2) := by decide +kernel
theorem dX9_begin_40 : decode cX9_begin 40 = .ok (.invokestatic 145, 3) := by decide +kernel
theorem dX9_begin_43 : decode cX9_begin 43 = .ok (.ireturn, 1) := by decide +kernel
theorem dX9_least_0 : decode cX9_least 0 = .ok (.iload_n 1, 1) := by decide +kernel
theorem dX9_least_1 : decode cX9_least 1 = .ok (.iconst 1, 1) := by decide +kernel
theorem dX9_least_2 : decode cX9_least 2 = .ok (.bipush 64, 2) := by decide +kernel
theorem dX9_least_4 : decode cX9_least 4 = .ok (.invokestatic 116, 3) := by decide +kernel
theorem dX9_least_7 : decode cX9_least 7 = .ok (.ifCond .ne 6, 3) := by decide +kernel
theorem dX9_least_10 : decode cX9_least 10 = .ok (.ldc 125, 2) := by decide +kernel
theorem dX9_least_12 : decode cX9_least 12 = .ok (.ireturn, 1) := by decide +kernel
theorem dX9_least_13 : decode cX9_least 13 = .ok (.aload_n 0, 1) := by decide +kernel
theorem dX9_least_14 : decode cX9_least 14 = .ok (.getfield 7, 3) := by decide +kernel
theorem dX9_least_17 : decode cX9_least 17 = .ok (.bipush 50, 2) := by decide +kernel
theorem dX9_least_19 : decode cX9_least 19 = .ok (.iaload, 1) := by decide +kernel
theorem dX9_least_20 : decode cX9_least 20 = .ok (.istore_n 2, 1) := by decide +kernel
theorem dX9_least_21 : decode cX9_least 21 = .ok (.aload_n 0, 1) := by decide +kernel
theorem dX9_least_22 : decode cX9_least 22 = .ok (.getfield 7, 3) := by decide +kernel
theorem dX9_least_25 : decode cX9_least 25 = .ok (.bipush 50, 2) := by decide +kernel
theorem dX9_least_27 : decode cX9_least 27 = .ok (.iload_n 1, 1) := by decide +kernel
theorem dX9_least_28 : decode cX9_least 28 = .ok (.iastore, 1) := by decide +kernel
theorem dX9_least_29 : decode cX9_least 29 = .ok (.iload_n 2, 1) := by decide +kernel
theorem dX9_least_30 : decode cX9_least 30 = .ok (.ireturn, 1) := by decide +kernel
theorem dX9_isAhead_0 : decode cX9_isAhead 0 = .ok (.aload_n 0, 1) := by decide +kernel
theorem dX9_isAhead_1 : decode cX9_isAhead 1 = .ok (.getfield 7, 3) := by decide +kernel
theorem dX9_isAhead_4 : decode cX9_isAhead 4 = .ok (.iload_n 1, 1) := by decide +kernel
theorem dX9_isAhead_5 : decode cX9_isAhead 5 = .ok (.iaload, 1) := by decide +kernel
theorem dX9_isAhead_6 : decode cX9_isAhead 6 = .ok (.aload_n 0, 1) := by decide +kernel
theorem dX9_isAhead_7 : decode cX9_isAhead 7 = .ok (.getfield 7, 3) := by decide +kernel
theorem dX9_isAhead_10 : decode cX9_isAhead 10 = .ok (.iload_n 2, 1) := by decide +kernel
theorem dX9_isAhead_11 : decode cX9_isAhead 11 = .ok (.iaload, 1) := by decide +kernel
theorem dX9_isAhead_12 : decode cX9_isAhead 12 = .ok (.if_icmp .eq 24, 3) := by decide +kernel
theorem dX9_isAhead_15 : decode cX9_isAhead 15 = .ok (.aload_n 0, 1) := by decide +kernel
