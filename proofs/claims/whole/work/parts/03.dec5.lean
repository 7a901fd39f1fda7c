theorem dX9_isAhead_16 : decode cX9_isAhead 16 = .ok (.getfield 7, 3) := by decide +kernel
theorem dX9_isAhead_19 : decode cX9_isAhead 19 = .ok (.iload_n 1, 1) := by decide +kernel
theorem dX9_isAhead_20 : decode cX9_isAhead 20 = .ok (.iaload, 1) := by decide +kernel
theorem dX9_isAhead_21 : decode cX9_isAhead 21 = .ok (.aload_n 0, 1) := by decide +kernel
theorem dX9_isAhead_22 : decode cX9_isAhead 22 = .ok (.getfield 7, 3) := by decide +kernel
theorem dX9_isAhead_25 : decode cX9_isAhead 25 = .ok (.iload_n 2, 1) := by decide +kernel
theorem dX9_isAhead_26 : decode cX9_isAhead 26 = .ok (.iaload, 1) := by decide +kernel
theorem dX9_isAhead_27 : decode cX9_isAhead 27 = .ok (.if_icmp .ge 7, 3) := by decide +kernel
theorem dX9_isAhead_30 : decode cX9_isAhead 30 = .ok (.iconst 1, 1) := by decide +kernel
theorem dX9_isAhead_31 : decode cX9_isAhead 31 = .ok (.goto 4, 3) := by decide +kernel
theorem dX9_isAhead_34 : decode cX9_isAhead 34 = .ok (.iconst 0, 1) := by decide +kernel
theorem dX9_isAhead_35 : decode cX9_isAhead 35 = .ok (.ireturn, 1) := by decide +kernel
theorem dX9_isAhead_36 : decode cX9_isAhead 36 = .ok (.aload_n 0, 1) := by decide +kernel
theorem dX9_isAhead_37 : decode cX9_isAhead 37 = .ok (.getfield 7, 3) := by decide +kernel
theorem dX9_isAhead_40 : decode cX9_isAhead 40 = .ok (.iload_n 1, 1) := by decide +kernel
theorem dX9_isAhead_41 : decode cX9_isAhead 41 = .ok (.iconst 2, 1) := by decide +kernel
theorem dX9_isAhead_42 : decode cX9_isAhead 42 = .ok (.iadd, 1) := by decide +kernel
theorem dX9_isAhead_43 : decode cX9_isAhead 43 = .ok (.iaload, 1) := by decide +kernel
theorem dX9_isAhead_44 : decode cX9_isAhead 44 = .ok (.aload_n 0, 1) := by decide +kernel
theorem dX9_isAhead_45 : decode cX9_isAhead 45 = .ok (.getfield 7, 3) := by decide +kernel
theorem dX9_isAhead_48 : decode cX9_isAhead 48 = .ok (.iload_n 2, 1) := by decide +kernel
theorem dX9_isAhead_49 : decode cX9_isAhead 49 = .ok (.iconst 2, 1) := by decide +kernel
theorem dX9_isAhead_50 : decode cX9_isAhead 50 = .ok (.iadd, 1) := by decide +kernel
theorem dX9_isAhead_51 : decode cX9_isAhead 51 = .ok (.iaload, 1) := by decide +kernel
theorem dX9_isAhead_52 : decode cX9_isAhead 52 = .ok (.if_icmp .eq 28, 3) := by decide +kernel
theorem dX9_isAhead_55 : decode cX9_isAhead 55 = .ok (.aload_n 0, 1) := by decide +kernel
theorem dX9_isAhead_56 : decode cX9_isAhead 56 = .ok (.getfield 7, 3) := by decide +kernel
theorem dX9_isAhead_59 : decode cX9_isAhead 59 = .ok (.iload_n 1, 1) := by decide +kernel
theorem dX9_isAhead_60 : decode cX9_isAhead 60 = .ok (.iconst 2, 1) := by decide +kernel
theorem dX9_isAhead_61 : decode cX9_isAhead 61 = .ok (.iadd, 1) := by decide +kernel
theorem dX9_isAhead_62 : decode cX9_isAhead 62 = .ok (.iaload, 1) := by decide +kernel
theorem dX9_isAhead_63 : decode cX9_isAhead 63 = .ok (.aload_n 0, 1) := by decide +kernel
theorem dX9_isAhead_64 : decode cX9_isAhead 64 = .ok (.getfield 7, 3) := by decide +kernel
theorem dX9_isAhead_67 : decode cX9_isAhead 67 = .ok (.iload_n 2, 1) := by decide +kernel
theorem dX9_isAhead_68 : decode cX9_isAhead 68 = .ok (.iconst 2, 1) := by decide +kernel
theorem dX9_isAhead_69 : decode cX9_isAhead 69 = .ok (.iadd, 1) := by decide +kernel
theorem dX9_isAhead_70 : decode cX9_isAhead 70 = .ok (.iaload, 1) := by decide +kernel
theorem dX9_isAhead_71 : decode cX9_isAhead 71 = .ok (.if_icmp .ge 7, 3) := by decide +kernel
theorem dX9_isAhead_74 : decode cX9_isAhead 74 = .ok (.iconst 1, 1) := by decide +kernel
theorem dX9_isAhead_75 : decode cX9_isAhead 75 = .ok (.goto 4, 3) := by decide +kernel
theorem dX9_isAhead_78 : decode cX9_isAhead 78 = .ok (.iconst 0, 1) := by decide +kernel
theorem dX9_isAhead_79 : decode cX9_isAhead 79 = .ok (.ireturn, 1) := by decide +kernel
theorem dX9_isAhead_80 : decode cX9_isAhead 80 = .ok (.aload_n 0, 1) := by decide +kernel
theorem dX9_isAhead_81 : decode cX9_isAhead 81 = .ok (.getfield 7, 3) := by decide +kernel
theorem dX9_isAhead_84 : decode cX9_isAhead 84 = .ok (.iload_n 1, 1) := by decide +kernel
theorem dX9_isAhead_85 : decode cX9_isAhead 85 = .ok (.iconst 1, 1) := by decide +kernel
theorem dX9_isAhead_86 : decode cX9_isAhead 86 = .ok (.iadd, 1) := by decide +kernel
theorem dX9_isAhead_87 : decode cX9_isAhead 87 = .ok (.iaload, 1) := by decide +kernel
theorem dX9_isAhead_88 : decode cX9_isAhead 88 = .ok (.aload_n 0, 1) := by decide +kernel
theorem dX9_isAhead_89 : decode cX9_isAhead 89 = .ok (.getfield 7, 3) := by decide +kernel
theorem dX9_isAhead_92 : decode cX9_isAhead 92 = .ok (.iload_n 2, 1) := by decide +kernel
theorem dX9_isAhead_93 : decode cX9_isAhead 93 = .ok (.iconst 1, 1) := by decide +kernel
theorem dX9_isAhead_94 : decode cX9_isAhead 94 = .ok (.iadd, 1) := by decide +kernel
theorem dX9_isAhead_95 : decode cX9_isAhead 95 = .ok (.iaload, 1) := by decide +kernel
theorem dX9_isAhead_96 : decode cX9_isAhead 96 = .ok (.if_icmp .eq 30, 3) := by decide +kernel
theorem dX9_isAhead_99 : decode cX9_isAhead 99 = .ok (.aload_n 0, 1) := by decide +kernel
theorem dX9_isAhead_100 : decode cX9_isAhead 100 = .ok (.getfield 7, 3) := by decide +kernel
theorem dX9_isAhead_103 : decode cX9_isAhead 103 = .ok (.iload_n 1, 1) := by decide +kernel
theorem dX9_isAhead_104 : decode cX9_isAhead 104 = .ok (.iconst 1, 1) := by decide +kernel
theorem dX9_isAhead_105 : decode cX9_isAhead 105 = .ok (.iadd, 1) := by decide +kernel
theorem dX9_isAhead_106 : decode cX9_isAhead 106 = .ok (.iaload, 1) := by decide +kernel
theorem dX9_isAhead_107 : decode cX9_isAhead 107 = .ok (.aload_n 0, 1) := by decide +kernel
theorem dX9_isAhead_108 : decode cX9_isAhead 108 = .ok (.getfield 7, 3) := by decide +kernel
theorem dX9_isAhead_111 : decode cX9_isAhead 111 = .ok (.iload_n 2, 1) := by decide +kernel
theorem dX9_isAhead_112 : decode cX9_isAhead 112 = .ok (.iconst 1, 1) := by decide +kernel
theorem dX9_isAhead_113 : decode cX9_isAhead 113 = .ok (.iadd, 1) := by decide +kernel
theorem dX9_isAhead_114 : decode cX9_isAhead 114 = .ok (.iaload, 1) := by decide +kernel
theorem dX9_isAhead_115 : decode cX9_isAhead 115 = .ok (.if_icmp .ge 7, 3) := by decide +kernel
theorem dX9_isAhead_118 : decode cX9_isAhead 118 = .ok (.iconst 1, 1) := by decide +kernel
theorem dX9_isAhead_119 : decode cX9_isAhead 119 = .ok (.goto 31, 3) := by decide +kernel
theorem dX9_isAhead_122 : decode cX9_isAhead 122 = .ok (.iconst 0, 1) := by decide +kernel
theorem dX9_isAhead_123 : decode cX9_isAhead 123 = .ok (.goto 27, 3) := by decide +kernel
theorem dX9_isAhead_126 : decode cX9_isAhead 126 = .ok (.aload_n 0, 1) := by decide +kernel
theorem dX9_isAhead_127 : decode cX9_isAhead 127 = .ok (.getfield 7, 3) := by decide +kernel
theorem dX9_isAhead_130 : decode cX9_isAhead 130 = .ok (.iload_n 1, 1) := by decide +kernel
theorem dX9_isAhead_131 : decode cX9_isAhead 131 = .ok (.iconst 3, 1) := by decide +kernel
theorem dX9_isAhead_132 : decode cX9_isAhead 132 = .ok (.iadd, 1) := by decide +kernel
theorem dX9_isAhead_133 : decode cX9_isAhead 133 = .ok (.iaload, 1) := by decide +kernel
theorem dX9_isAhead_134 : decode cX9_isAhead 134 = .ok (.aload_n 0, 1) := by decide +kernel
theorem dX9_isAhead_135 : decode cX9_isAhead 135 = .ok (.getfield 7, 3) := by decide +kernel
theorem dX9_isAhead_138 : decode cX9_isAhead 138 = .ok (.iload_n 2, 1) := by decide +kernel
theorem dX9_isAhead_139 : decode cX9_isAhead 139 = .ok (.iconst 3, 1) := by decide +kernel
theorem dX9_isAhead_140 : decode cX9_isAhead 140 = .ok (.iadd, 1) := by decide +kernel
theorem dX9_isAhead_141 : decode cX9_isAhead 141 = .ok (.iaload, 1) := by decide +kernel
theorem dX9_isAhead_142 : decode cX9_isAhead 142 = .ok (.if_icmp .ge 7, 3) := by decide +kernel
theorem dX9_isAhead_145 : decode cX9_isAhead 145 = .ok (.iconst 1, 1) := by decide +kernel
theorem dX9_isAhead_146 : decode cX9_isAhead 146 = .ok (.goto 4, 3) := by decide +kernel
theorem dX9_isAhead_149 : decode cX9_isAhead 149 = .ok (.iconst 0, 1) := by decide +kernel
theorem dX9_isAhead_150 : decode cX9_isAhead 150 = .ok (.ireturn, 1) := by decide +kernel
theorem dX9_firstAt_0 : decode cX9_firstAt 0 = .ok (.bipush 55, 2) := by decide +kernel
theorem dX9_firstAt_2 : decode cX9_firstAt 2 = .ok (.istore_n 1, 1) := by decide +kernel
theorem dX9_firstAt_3 : decode cX9_firstAt 3 = .ok (.iconst 1, 1) := by decide +kernel
theorem dX9_firstAt_4 : decode cX9_firstAt 4 = .ok (.istore_n 2, 1) := by decide +kernel
theorem dX9_firstAt_5 : decode cX9_firstAt 5 = .ok (.iload_n 2, 1) := by decide +kernel
theorem dX9_firstAt_6 : decode cX9_firstAt 6 = .ok (.aload_n 0, 1) := by decide +kernel
theorem dX9_firstAt_7 : decode cX9_firstAt 7 = .ok (.getfield 7, 3) := by decide +kernel
theorem dX9_firstAt_10 : decode cX9_firstAt 10 = .ok (.bipush 51, 2) := by decide +kernel
theorem dX9_firstAt_12 : decode cX9_firstAt 12 = .ok (.iaload, 1) := by decide +kernel
theorem dX9_firstAt_13 : decode cX9_firstAt 13 = .ok (.if_icmp .ge 60, 3) := by decide +kernel
theorem dX9_firstAt_16 : decode cX9_firstAt 16 = .ok (.bipush 55, 2) := by decide +kernel
theorem dX9_firstAt_18 : decode cX9_firstAt 18 = .ok (.iconst 4, 1) := by decide +kernel
theorem dX9_firstAt_19 : decode cX9_firstAt 19 = .ok (.iload_n 2, 1) := by decide +kernel
theorem dX9_firstAt_20 : decode cX9_firstAt 20 = .ok (.imul, 1) := by decide +kernel
theorem dX9_firstAt_21 : decode cX9_firstAt 21 = .ok (.iadd, 1) := by decide +kernel
theorem dX9_firstAt_22 : decode cX9_firstAt 22 = .ok (.istore_n 3, 1) := by decide +kernel
theorem dX9_firstAt_23 : decode cX9_firstAt 23 = .ok (.aload_n 0, 1) := by decide +kernel
theorem dX9_firstAt_24 : decode cX9_firstAt 24 = .ok (.getfield 7, 3) := by decide +kernel
theorem dX9_firstAt_27 : decode cX9_firstAt 27 = .ok (.iload_n 3, 1) := by decide +kernel
theorem dX9_firstAt_28 : decode cX9_firstAt 28 = .ok (.invokestatic 145, 3) := by decide +kernel
theorem dX9_firstAt_31 : decode cX9_firstAt 31 = .ok (.aload_n 0, 1) := by decide +kernel
theorem dX9_firstAt_32 : decode cX9_firstAt 32 = .ok (.getfield 7, 3) := by decide +kernel
theorem dX9_firstAt_35 : decode cX9_firstAt 35 = .ok (.iload_n 1, 1) := by decide +kernel
theorem dX9_firstAt_36 : decode cX9_firstAt 36 = .ok (.invokestatic 145, 3) := by decide +kernel
theorem dX9_firstAt_39 : decode cX9_firstAt 39 = .ok (.isub, 1) := by decide +kernel
theorem dX9_firstAt_40 : decode cX9_firstAt 40 = .ok (.istore 4, 2) := by decide +kernel
theorem dX9_firstAt_42 : decode cX9_firstAt 42 = .ok (.iload 4, 2) := by decide +kernel
theorem dX9_firstAt_44 : decode cX9_firstAt 44 = .ok (.ifCond .gt 17, 3) := by decide +kernel
theorem dX9_firstAt_47 : decode cX9_firstAt 47 = .ok (.iload 4, 2) := by decide +kernel
theorem dX9_firstAt_49 : decode cX9_firstAt 49 = .ok (.ifCond .ne 16, 3) := by decide +kernel
theorem dX9_firstAt_52 : decode cX9_firstAt 52 = .ok (.aload_n 0, 1) := by decide +kernel
theorem dX9_firstAt_53 : decode cX9_firstAt 53 = .ok (.iload_n 3, 1) := by decide +kernel
theorem dX9_firstAt_54 : decode cX9_firstAt 54 = .ok (.iload_n 1, 1) := by decide +kernel
theorem dX9_firstAt_55 : decode cX9_firstAt 55 = .ok (.invokevirtual 175, 3) := by decide +kernel
theorem dX9_firstAt_58 : decode cX9_firstAt 58 = .ok (.ifCond .eq 7, 3) := by decide +kernel
theorem dX9_firstAt_61 : decode cX9_firstAt 61 = .ok (.iload_n 3, 1) := by decide +kernel
theorem dX9_firstAt_62 : decode cX9_firstAt 62 = .ok (.goto 4, 3) := by decide +kernel
theorem dX9_firstAt_65 : decode cX9_firstAt 65 = .ok (.iload_n 1, 1) := by decide +kernel
theorem dX9_firstAt_66 : decode cX9_firstAt 66 = .ok (.istore_n 1, 1) := by decide +kernel
theorem dX9_firstAt_67 : decode cX9_firstAt 67 = .ok (.iinc 2 1, 3) := by decide +kernel
theorem dX9_firstAt_70 : decode cX9_firstAt 70 = .ok (.goto (-65), 3) := by decide +kernel
theorem dX9_firstAt_73 : decode cX9_firstAt 73 = .ok (.iload_n 1, 1) := by decide +kernel
theorem dX9_firstAt_74 : decode cX9_firstAt 74 = .ok (.ireturn, 1) := by decide +kernel
theorem dX9_closes_0 : decode cX9_closes 0 = .ok (.aload_n 0, 1) := by decide +kernel
theorem dX9_closes_1 : decode cX9_closes 1 = .ok (.getfield 7, 3) := by decide +kernel
theorem dX9_closes_4 : decode cX9_closes 4 = .ok (.bipush 51, 2) := by decide +kernel
theorem dX9_closes_6 : decode cX9_closes 6 = .ok (.dup2, 1) := by decide +kernel
theorem dX9_closes_7 : decode cX9_closes 7 = .ok (.iaload, 1) := by decide +kernel
theorem dX9_closes_8 : decode cX9_closes 8 = .ok (.iconst 1, 1) := by decide +kernel
theorem dX9_closes_9 : decode cX9_closes 9 = .ok (.isub, 1) := by decide +kernel
theorem dX9_closes_10 : decode cX9_closes 10 = .ok (.iastore, 1) := by decide +kernel
theorem dX9_closes_11 : decode cX9_closes 11 = .ok (.iconst 0, 1) := by decide +kernel
theorem dX9_closes_12 : decode cX9_closes 12 = .ok (.istore_n 2, 1) := by decide +kernel
theorem dX9_closes_13 : decode cX9_closes 13 = .ok (.iload_n 2, 1) := by decide +kernel
theorem dX9_closes_14 : decode cX9_closes 14 = .ok (.iconst 4, 1) := by decide +kernel
theorem dX9_closes_15 : decode cX9_closes 15 = .ok (.if_icmp .ge 36, 3) := by decide +kernel
theorem dX9_closes_18 : decode cX9_closes 18 = .ok (.aload_n 0, 1) := by decide +kernel
theorem dX9_closes_19 : decode cX9_closes 19 = .ok (.getfield 7, 3) := by decide +kernel
theorem dX9_closes_22 : decode cX9_closes 22 = .ok (.iload_n 1, 1) := by decide +kernel
theorem dX9_closes_23 : decode cX9_closes 23 = .ok (.iload_n 2, 1) := by decide +kernel
theorem dX9_closes_24 : decode cX9_closes 24 = .ok (.iadd, 1) := by decide +kernel
theorem dX9_closes_25 : decode cX9_closes 25 = .ok (.aload_n 0, 1) := by decide +kernel
theorem dX9_closes_26 : decode cX9_closes 26 = .ok (.getfield 7, 3) := by decide +kernel
theorem dX9_closes_29 : decode cX9_closes 29 = .ok (.bipush 55, 2) := by decide +kernel
theorem dX9_closes_31 : decode cX9_closes 31 = .ok (.iconst 4, 1) := by decide +kernel
theorem dX9_closes_32 : decode cX9_closes 32 = .ok (.aload_n 0, 1) := by decide +kernel
theorem dX9_closes_33 : decode cX9_closes 33 = .ok (.getfield 7, 3) := by decide +kernel
theorem dX9_closes_36 : decode cX9_closes 36 = .ok (.bipush 51, 2) := by decide +kernel
theorem dX9_closes_38 : decode cX9_closes 38 = .ok (.iaload, 1) := by decide +kernel
theorem dX9_closes_39 : decode cX9_closes 39 = .ok (.imul, 1) := by decide +kernel
theorem dX9_closes_40 : decode cX9_closes 40 = .ok (.iadd, 1) := by decide +kernel
theorem dX9_closes_41 : decode cX9_closes 41 = .ok (.iload_n 2, 1) := by decide +kernel
theorem dX9_closes_42 : decode cX9_closes 42 = .ok (.iadd, 1) := by decide +kernel
theorem dX9_closes_43 : decode cX9_closes 43 = .ok (.iaload, 1) := by decide +kernel
theorem dX9_closes_44 : decode cX9_closes 44 = .ok (.iastore, 1) := by decide +kernel
theorem dX9_closes_45 : decode cX9_closes 45 = .ok (.iinc 2 1, 3) := by decide +kernel
theorem dX9_closes_48 : decode cX9_closes 48 = .ok (.goto (-35), 3) := by decide +kernel
theorem dX9_closes_51 : decode cX9_closes 51 = .ok (.return_, 1) := by decide +kernel
theorem dX9_parts_0 : decode cX9_parts 0 = .ok (.aload_n 0, 1) := by decide +kernel
theorem dX9_parts_1 : decode cX9_parts 1 = .ok (.getfield 35, 3) := by decide +kernel
theorem dX9_parts_4 : decode cX9_parts 4 = .ok (.iconst 1, 1) := by decide +kernel
theorem dX9_parts_5 : decode cX9_parts 5 = .ok (.iaload, 1) := by decide +kernel
theorem dX9_parts_6 : decode cX9_parts 6 = .ok (.aload_n 0, 1) := by decide +kernel
theorem dX9_parts_7 : decode cX9_parts 7 = .ok (.getfield 35, 3) := by decide +kernel
theorem dX9_parts_10 : decode cX9_parts 10 = .ok (.iconst 0, 1) := by decide +kernel
theorem dX9_parts_11 : decode cX9_parts 11 = .ok (.iaload, 1) := by decide +kernel
theorem dX9_parts_12 : decode cX9_parts 12 = .ok (.isub, 1) := by decide +kernel
theorem dX9_parts_13 : decode cX9_parts 13 = .ok (.aload_n 0, 1) := by decide +kernel
theorem dX9_parts_14 : decode cX9_parts 14 = .ok (.getfield 35, 3) := by decide +kernel
theorem dX9_parts_17 : decode cX9_parts 17 = .ok (.iconst 3, 1) := by decide +kernel
theorem dX9_parts_18 : decode cX9_parts 18 = .ok (.iaload, 1) := by decide +kernel
theorem dX9_parts_19 : decode cX9_parts 19 = .ok (.aload_n 0, 1) := by decide +kernel
theorem dX9_parts_20 : decode cX9_parts 20 = .ok (.getfield 35, 3) := by decide +kernel
theorem dX9_parts_23 : decode cX9_parts 23 = .ok (.iconst 2, 1) := by decide +kernel
theorem dX9_parts_24 : decode cX9_parts 24 = .ok (.iaload, 1) := by decide +kernel
theorem dX9_parts_25 : decode cX9_parts 25 = .ok (.isub, 1) := by decide +kernel
theorem dX9_parts_26 : decode cX9_parts 26 = .ok (.if_icmp .lt 7, 3) := by decide +kernel
theorem dX9_parts_29 : decode cX9_parts 29 = .ok (.iconst 1, 1) := by decide +kernel
theorem dX9_parts_30 : decode cX9_parts 30 = .ok (.goto 4, 3) := by decide +kernel
theorem dX9_parts_33 : decode cX9_parts 33 = .ok (.iconst 0, 1) := by decide +kernel
theorem dX9_parts_34 : decode cX9_parts 34 = .ok (.istore_n 1, 1) := by decide +kernel
theorem dX9_parts_35 : decode cX9_parts 35 = .ok (.iload_n 1, 1) := by decide +kernel
theorem dX9_parts_36 : decode cX9_parts 36 = .ok (.ifCond .eq 21, 3) := by decide +kernel
theorem dX9_parts_39 : decode cX9_parts 39 = .ok (.aload_n 0, 1) := by decide +kernel
theorem dX9_parts_40 : decode cX9_parts 40 = .ok (.getfield 35, 3) := by decide +kernel
theorem dX9_parts_43 : decode cX9_parts 43 = .ok (.iconst 0, 1) := by decide +kernel
theorem dX9_parts_44 : decode cX9_parts 44 = .ok (.iaload, 1) := by decide +kernel
theorem dX9_parts_45 : decode cX9_parts 45 = .ok (.aload_n 0, 1) := by decide +kernel
theorem dX9_parts_46 : decode cX9_parts 46 = .ok (.getfield 35, 3) := by decide +kernel
theorem dX9_parts_49 : decode cX9_parts 49 = .ok (.iconst 1, 1) := by decide +kernel
theorem dX9_parts_50 : decode cX9_parts 50 = .ok (.iaload, 1) := by decide +kernel
theorem dX9_parts_51 : decode cX9_parts 51 = .ok (.invokestatic 77, 3) := by decide +kernel
theorem dX9_parts_54 : decode cX9_parts 54 = .ok (.goto 18, 3) := by decide +kernel
theorem dX9_parts_57 : decode cX9_parts 57 = .ok (.aload_n 0, 1) := by decide +kernel
theorem dX9_parts_58 : decode cX9_parts 58 = .ok (.getfield 35, 3) := by decide +kernel
theorem dX9_parts_61 : decode cX9_parts 61 = .ok (.iconst 2, 1) := by decide +kernel
theorem dX9_parts_62 : decode cX9_parts 62 = .ok (.iaload, 1) := by decide +kernel
theorem dX9_parts_63 : decode cX9_parts 63 = .ok (.aload_n 0, 1) := by decide +kernel
theorem dX9_parts_64 : decode cX9_parts 64 = .ok (.getfield 35, 3) := by decide +kernel
theorem dX9_parts_67 : decode cX9_parts 67 = .ok (.iconst 3, 1) := by decide +kernel
theorem dX9_parts_68 : decode cX9_parts 68 = .ok (.iaload, 1) := by decide +kernel
theorem dX9_parts_69 : decode cX9_parts 69 = .ok (.invokestatic 77, 3) := by decide +kernel
theorem dX9_parts_72 : decode cX9_parts 72 = .ok (.istore_n 2, 1) := by decide +kernel
theorem dX9_parts_73 : decode cX9_parts 73 = .ok (.iload_n 1, 1) := by decide +kernel
theorem dX9_parts_74 : decode cX9_parts 74 = .ok (.ifCond .eq 52, 3) := by decide +kernel
theorem dX9_parts_77 : decode cX9_parts 77 = .ok (.aload_n 0, 1) := by decide +kernel
theorem dX9_parts_78 : decode cX9_parts 78 = .ok (.aload_n 0, 1) := by decide +kernel
theorem dX9_parts_79 : decode cX9_parts 79 = .ok (.getfield 35, 3) := by decide +kernel
theorem dX9_parts_82 : decode cX9_parts 82 = .ok (.iconst 0, 1) := by decide +kernel
theorem dX9_parts_83 : decode cX9_parts 83 = .ok (.iaload, 1) := by decide +kernel
theorem dX9_parts_84 : decode cX9_parts 84 = .ok (.iload_n 2, 1) := by decide +kernel
theorem dX9_parts_85 : decode cX9_parts 85 = .ok (.aload_n 0, 1) := by decide +kernel
theorem dX9_parts_86 : decode cX9_parts 86 = .ok (.getfield 35, 3) := by decide +kernel
theorem dX9_parts_89 : decode cX9_parts 89 = .ok (.iconst 2, 1) := by decide +kernel
theorem dX9_parts_90 : decode cX9_parts 90 = .ok (.iaload, 1) := by decide +kernel
theorem dX9_parts_91 : decode cX9_parts 91 = .ok (.aload_n 0, 1) := by decide +kernel
theorem dX9_parts_92 : decode cX9_parts 92 = .ok (.getfield 35, 3) := by decide +kernel
theorem dX9_parts_95 : decode cX9_parts 95 = .ok (.iconst 3, 1) := by decide +kernel
theorem dX9_parts_96 : decode cX9_parts 96 = .ok (.iaload, 1) := by decide +kernel
theorem dX9_parts_97 : decode cX9_parts 97 = .ok (.invokevirtual 169, 3) := by decide +kernel
theorem dX9_parts_100 : decode cX9_parts 100 = .ok (.aload_n 0, 1) := by decide +kernel
theorem dX9_parts_101 : decode cX9_parts 101 = .ok (.iload_n 2, 1) := by decide +kernel
theorem dX9_parts_102 : decode cX9_parts 102 = .ok (.aload_n 0, 1) := by decide +kernel
theorem dX9_parts_103 : decode cX9_parts 103 = .ok (.getfield 35, 3) := by decide +kernel
theorem dX9_parts_106 : decode cX9_parts 106 = .ok (.iconst 1, 1) := by decide +kernel
theorem dX9_parts_107 : decode cX9_parts 107 = .ok (.iaload, 1) := by decide +kernel
theorem dX9_parts_108 : decode cX9_parts 108 = .ok (.aload_n 0, 1) := by decide +kernel
theorem dX9_parts_109 : decode cX9_parts 109 = .ok (.getfield 35, 3) := by decide +kernel
theorem dX9_parts_112 : decode cX9_parts 112 = .ok (.iconst 2, 1) := by decide +kernel
theorem dX9_parts_113 : decode cX9_parts 113 = .ok (.iaload, 1) := by decide +kernel
theorem dX9_parts_114 : decode cX9_parts 114 = .ok (.aload_n 0, 1) := by decide +kernel
theorem dX9_parts_115 : decode cX9_parts 115 = .ok (.getfield 35, 3) := by decide +kernel
theorem dX9_parts_118 : decode cX9_parts 118 = .ok (.iconst 3, 1) := by decide +kernel
theorem dX9_parts_119 : decode cX9_parts 119 = .ok (.iaload, 1) := by decide +kernel
theorem dX9_parts_120 : decode cX9_parts 120 = .ok (.invokevirtual 169, 3) := by decide +kernel
theorem dX9_parts_123 : decode cX9_parts 123 = .ok (.goto 49, 3) := by decide +kernel
theorem dX9_parts_126 : decode cX9_parts 126 = .ok (.aload_n 0, 1) := by decide +kernel
theorem dX9_parts_127 : decode cX9_parts 127 = .ok (.aload_n 0, 1) := by decide +kernel
theorem dX9_parts_128 : decode cX9_parts 128 = .ok (.getfield 35, 3) := by decide +kernel
theorem dX9_parts_131 : decode cX9_parts 131 = .ok (.iconst 0, 1) := by decide +kernel
theorem dX9_parts_132 : decode cX9_parts 132 = .ok (.iaload, 1) := by decide +kernel
theorem dX9_parts_133 : decode cX9_parts 133 = .ok (.aload_n 0, 1) := by decide +kernel
theorem dX9_parts_134 : decode cX9_parts 134 = .ok (.getfield 35, 3) := by decide +kernel
theorem dX9_parts_137 : decode cX9_parts 137 = .ok (.iconst 1, 1) := by decide +kernel
theorem dX9_parts_138 : decode cX9_parts 138 = .ok (.iaload, 1) := by decide +kernel
theorem dX9_parts_139 : decode cX9_parts 139 = .ok (.aload_n 0, 1) := by decide +kernel
theorem dX9_parts_140 : decode cX9_parts 140 = .ok (.getfield 35, 3) := by decide +kernel
theorem dX9_parts_143 : decode cX9_parts 143 = .ok (.iconst 2, 1) := by decide +kernel
theorem dX9_parts_144 : decode cX9_parts 144 = .ok (.iaload, 1) := by decide +kernel
theorem dX9_parts_145 : decode cX9_parts 145 = .ok (.iload_n 2, 1) := by decide +kernel
theorem dX9_parts_146 : decode cX9_parts 146 = .ok (.invokevirtual 169, 3) := by decide +kernel
theorem dX9_parts_149 : decode cX9_parts 149 = .ok (.aload_n 0, 1) := by decide +kernel
theorem dX9_parts_150 : decode cX9_parts 150 = .ok (.aload_n 0, 1) := by decide +kernel
theorem dX9_parts_151 : decode cX9_parts 151 = .ok (.getfield 35, 3) := by decide +kernel
theorem dX9_parts_154 : decode cX9_parts 154 = .ok (.iconst 0, 1) := by decide +kernel
theorem dX9_parts_155 : decode cX9_parts 155 = .ok (.iaload, 1) := by decide +kernel
theorem dX9_parts_156 : decode cX9_parts 156 = .ok (.aload_n 0, 1) := by decide +kernel
theorem dX9_parts_157 : decode cX9_parts 157 = .ok (.getfield 35, 3) := by decide +kernel
theorem dX9_parts_160 : decode cX9_parts 160 = .ok (.iconst 1, 1) := by decide +kernel
theorem dX9_parts_161 : decode cX9_parts 161 = .ok (.iaload, 1) := by decide +kernel
theorem dX9_parts_162 : decode cX9_parts 162 = .ok (.iload_n 2, 1) := by decide +kernel
theorem dX9_parts_163 : decode cX9_parts 163 = .ok (.aload_n 0, 1) := by decide +kernel
theorem dX9_parts_164 : decode cX9_parts 164 = .ok (.getfield 35, 3) := by decide +kernel
theorem dX9_parts_167 : decode cX9_parts 167 = .ok (.iconst 3, 1) := by decide +kernel
theorem dX9_parts_168 : decode cX9_parts 168 = .ok (.iaload, 1) := by decide +kernel
theorem dX9_parts_169 : decode cX9_parts 169 = .ok (.invokevirtual 169, 3) := by decide +kernel
theorem dX9_parts_172 : decode cX9_parts 172 = .ok (.return_, 1) := by decide +kernel
theorem dX9_goesOn_0 : decode cX9_goesOn 0 = .ok (.iload_n 1, 1) := by decide +kernel
theorem dX9_goesOn_1 : decode cX9_goesOn 1 = .ok (.iconst 3, 1) := by decide +kernel
theorem dX9_goesOn_2 : decode cX9_goesOn 2 = .ok (.if_icmp .ne 60, 3) := by decide +kernel
theorem dX9_goesOn_5 : decode cX9_goesOn 5 = .ok (.iconst 0, 1) := by decide +kernel
theorem dX9_goesOn_6 : decode cX9_goesOn 6 = .ok (.istore_n 2, 1) := by decide +kernel
theorem dX9_goesOn_7 : decode cX9_goesOn 7 = .ok (.iload_n 2, 1) := by decide +kernel
theorem dX9_goesOn_8 : decode cX9_goesOn 8 = .ok (.iconst 4, 1) := by decide +kernel
theorem dX9_goesOn_9 : decode cX9_goesOn 9 = .ok (.if_icmp .ge 39, 3) := by decide +kernel
theorem dX9_goesOn_12 : decode cX9_goesOn 12 = .ok (.aload_n 0, 1) := by decide +kernel
theorem dX9_goesOn_13 : decode cX9_goesOn 13 = .ok (.getfield 7, 3) := by decide +kernel
theorem dX9_goesOn_16 : decode cX9_goesOn 16 = .ok (.sipush 311, 3) := by decide +kernel
theorem dX9_goesOn_19 : decode cX9_goesOn 19 = .ok (.iconst 4, 1) := by decide +kernel
theorem dX9_goesOn_20 : decode cX9_goesOn 20 = .ok (.aload_n 0, 1) := by decide +kernel
theorem dX9_goesOn_21 : decode cX9_goesOn 21 = .ok (.getfield 7, 3) := by decide +kernel
theorem dX9_goesOn_24 : decode cX9_goesOn 24 = .ok (.bipush 52, 2) := by decide +kernel
theorem dX9_goesOn_26 : decode cX9_goesOn 26 = .ok (.iaload, 1) := by decide +kernel
theorem dX9_goesOn_27 : decode cX9_goesOn 27 = .ok (.imul, 1) := by decide +kernel
theorem dX9_goesOn_28 : decode cX9_goesOn 28 = .ok (.iadd, 1) := by decide +kernel
theorem dX9_goesOn_29 : decode cX9_goesOn 29 = .ok (.iload_n 2, 1) := by decide +kernel
theorem dX9_goesOn_30 : decode cX9_goesOn 30 = .ok (.iadd, 1) := by decide +kernel
theorem dX9_goesOn_31 : decode cX9_goesOn 31 = .ok (.aload_n 0, 1) := by decide +kernel
theorem dX9_goesOn_32 : decode cX9_goesOn 32 = .ok (.getfield 22, 3) := by decide +kernel
theorem dX9_goesOn_35 : decode cX9_goesOn 35 = .ok (.bipush 14, 2) := by decide +kernel
theorem dX9_goesOn_37 : decode cX9_goesOn 37 = .ok (.iload_n 2, 1) := by decide +kernel
theorem dX9_goesOn_38 : decode cX9_goesOn 38 = .ok (.iadd, 1) := by decide +kernel
theorem dX9_goesOn_39 : decode cX9_goesOn 39 = .ok (.laload, 1) := by decide +kernel
theorem dX9_goesOn_40 : decode cX9_goesOn 40 = .ok (.l2i, 1) := by decide +kernel
theorem dX9_goesOn_41 : decode cX9_goesOn 41 = .ok (.iastore, 1) := by decide +kernel
theorem dX9_goesOn_42 : decode cX9_goesOn 42 = .ok (.iinc 2 1, 3) := by decide +kernel
theorem dX9_goesOn_45 : decode cX9_goesOn 45 = .ok (.goto (-38), 3) := by decide +kernel
theorem dX9_goesOn_48 : decode cX9_goesOn 48 = .ok (.aload_n 0, 1) := by decide +kernel
theorem dX9_goesOn_49 : decode cX9_goesOn 49 = .ok (.getfield 7, 3) := by decide +kernel
theorem dX9_goesOn_52 : decode cX9_goesOn 52 = .ok (.bipush 52, 2) := by decide +kernel
theorem dX9_goesOn_54 : decode cX9_goesOn 54 = .ok (.dup2, 1) := by decide +kernel
theorem dX9_goesOn_55 : decode cX9_goesOn 55 = .ok (.iaload, 1) := by decide +kernel
theorem dX9_goesOn_56 : decode cX9_goesOn 56 = .ok (.iconst 1, 1) := by decide +kernel
theorem dX9_goesOn_57 : decode cX9_goesOn 57 = .ok (.iadd, 1) := by decide +kernel
theorem dX9_goesOn_58 : decode cX9_goesOn 58 = .ok (.iastore, 1) := by decide +kernel
theorem dX9_goesOn_59 : decode cX9_goesOn 59 = .ok (.goto 133, 3) := by decide +kernel
theorem dX9_goesOn_62 : decode cX9_goesOn 62 = .ok (.iload_n 1, 1) := by decide +kernel
theorem dX9_goesOn_63 : decode cX9_goesOn 63 = .ok (.iconst 4, 1) := by decide +kernel
theorem dX9_goesOn_64 : decode cX9_goesOn 64 = .ok (.if_icmp .ne 38, 3) := by decide +kernel
theorem dX9_goesOn_67 : decode cX9_goesOn 67 = .ok (.aload_n 0, 1) := by decide +kernel
theorem dX9_goesOn_68 : decode cX9_goesOn 68 = .ok (.aload_n 0, 1) := by decide +kernel
theorem dX9_goesOn_69 : decode cX9_goesOn 69 = .ok (.getfield 38, 3) := by decide +kernel
theorem dX9_goesOn_72 : decode cX9_goesOn 72 = .ok (.iconst 0, 1) := by decide +kernel
theorem dX9_goesOn_73 : decode cX9_goesOn 73 = .ok (.laload, 1) := by decide +kernel
theorem dX9_goesOn_74 : decode cX9_goesOn 74 = .ok (.l2i, 1) := by decide +kernel
theorem dX9_goesOn_75 : decode cX9_goesOn 75 = .ok (.aload_n 0, 1) := by decide +kernel
theorem dX9_goesOn_76 : decode cX9_goesOn 76 = .ok (.getfield 38, 3) := by decide +kernel
theorem dX9_goesOn_79 : decode cX9_goesOn 79 = .ok (.iconst 1, 1) := by decide +kernel
theorem dX9_goesOn_80 : decode cX9_goesOn 80 = .ok (.laload, 1) := by decide +kernel
theorem dX9_goesOn_81 : decode cX9_goesOn 81 = .ok (.l2i, 1) := by decide +kernel
theorem dX9_goesOn_82 : decode cX9_goesOn 82 = .ok (.aload_n 0, 1) := by decide +kernel
theorem dX9_goesOn_83 : decode cX9_goesOn 83 = .ok (.getfield 38, 3) := by decide +kernel
theorem dX9_goesOn_86 : decode cX9_goesOn 86 = .ok (.iconst 2, 1) := by decide +kernel
theorem dX9_goesOn_87 : decode cX9_goesOn 87 = .ok (.laload, 1) := by decide +kernel
theorem dX9_goesOn_88 : decode cX9_goesOn 88 = .ok (.l2i, 1) := by decide +kernel
theorem dX9_goesOn_89 : decode cX9_goesOn 89 = .ok (.aload_n 0, 1) := by decide +kernel
theorem dX9_goesOn_90 : decode cX9_goesOn 90 = .ok (.getfield 38, 3) := by decide +kernel
theorem dX9_goesOn_93 : decode cX9_goesOn 93 = .ok (.iconst 3, 1) := by decide +kernel
theorem dX9_goesOn_94 : decode cX9_goesOn 94 = .ok (.laload, 1) := by decide +kernel
theorem dX9_goesOn_95 : decode cX9_goesOn 95 = .ok (.l2i, 1) := by decide +kernel
theorem dX9_goesOn_96 : decode cX9_goesOn 96 = .ok (.invokevirtual 169, 3) := by decide +kernel
theorem dX9_goesOn_99 : decode cX9_goesOn 99 = .ok (.goto 93, 3) := by decide +kernel
theorem dX9_goesOn_102 : decode cX9_goesOn 102 = .ok (.iload_n 1, 1) := by decide +kernel
theorem dX9_goesOn_103 : decode cX9_goesOn 103 = .ok (.iconst 5, 1) := by decide +kernel
theorem dX9_goesOn_104 : decode cX9_goesOn 104 = .ok (.if_icmp .ne 79, 3) := by decide +kernel
theorem dX9_goesOn_107 : decode cX9_goesOn 107 = .ok (.aload_n 0, 1) := by decide +kernel
theorem dX9_goesOn_108 : decode cX9_goesOn 108 = .ok (.getfield 35, 3) := by decide +kernel
theorem dX9_goesOn_111 : decode cX9_goesOn 111 = .ok (.iconst 0, 1) := by decide +kernel
theorem dX9_goesOn_112 : decode cX9_goesOn 112 = .ok (.invokestatic 145, 3) := by decide +kernel
theorem dX9_goesOn_115 : decode cX9_goesOn 115 = .ok (.aload_n 0, 1) := by decide +kernel
theorem dX9_goesOn_116 : decode cX9_goesOn 116 = .ok (.getfield 7, 3) := by decide +kernel
theorem dX9_goesOn_119 : decode cX9_goesOn 119 = .ok (.bipush 50, 2) := by decide +kernel
theorem dX9_goesOn_121 : decode cX9_goesOn 121 = .ok (.iaload, 1) := by decide +kernel
theorem dX9_goesOn_122 : decode cX9_goesOn 122 = .ok (.if_icmp .gt 61, 3) := by decide +kernel
theorem dX9_goesOn_125 : decode cX9_goesOn 125 = .ok (.aload_n 0, 1) := by decide +kernel
theorem dX9_goesOn_126 : decode cX9_goesOn 126 = .ok (.getfield 7, 3) := by decide +kernel
theorem dX9_goesOn_129 : decode cX9_goesOn 129 = .ok (.sipush 1111, 3) := by decide +kernel
theorem dX9_goesOn_132 : decode cX9_goesOn 132 = .ok (.iconst 4, 1) := by decide +kernel
theorem dX9_goesOn_133 : decode cX9_goesOn 133 = .ok (.aload_n 0, 1) := by decide +kernel
theorem dX9_goesOn_134 : decode cX9_goesOn 134 = .ok (.getfield 7, 3) := by decide +kernel
theorem dX9_goesOn_137 : decode cX9_goesOn 137 = .ok (.bipush 53, 2) := by decide +kernel
theorem dX9_goesOn_139 : decode cX9_goesOn 139 = .ok (.iaload, 1) := by decide +kernel
theorem dX9_goesOn_140 : decode cX9_goesOn 140 = .ok (.imul, 1) := by decide +kernel
theorem dX9_goesOn_141 : decode cX9_goesOn 141 = .ok (.iadd, 1) := by decide +kernel
theorem dX9_goesOn_142 : decode cX9_goesOn 142 = .ok (.aload_n 0, 1) := by decide +kernel
theorem dX9_goesOn_143 : decode cX9_goesOn 143 = .ok (.getfield 35, 3) := by decide +kernel
theorem dX9_goesOn_146 : decode cX9_goesOn 146 = .ok (.iconst 0, 1) := by decide +kernel
theorem dX9_goesOn_147 : decode cX9_goesOn 147 = .ok (.iaload, 1) := by decide +kernel
theorem dX9_goesOn_148 : decode cX9_goesOn 148 = .ok (.aload_n 0, 1) := by decide +kernel
theorem dX9_goesOn_149 : decode cX9_goesOn 149 = .ok (.getfield 35, 3) := by decide +kernel
theorem dX9_goesOn_152 : decode cX9_goesOn 152 = .ok (.iconst 1, 1) := by decide +kernel
theorem dX9_goesOn_153 : decode cX9_goesOn 153 = .ok (.iaload, 1) := by decide +kernel
theorem dX9_goesOn_154 : decode cX9_goesOn 154 = .ok (.aload_n 0, 1) := by decide +kernel
theorem dX9_goesOn_155 : decode cX9_goesOn 155 = .ok (.getfield 35, 3) := by decide +kernel
theorem dX9_goesOn_158 : decode cX9_goesOn 158 = .ok (.iconst 2, 1) := by decide +kernel
theorem dX9_goesOn_159 : decode cX9_goesOn 159 = .ok (.iaload, 1) := by decide +kernel
theorem dX9_goesOn_160 : decode cX9_goesOn 160 = .ok (.aload_n 0, 1) := by decide +kernel
theorem dX9_goesOn_161 : decode cX9_goesOn 161 = .ok (.getfield 35, 3) := by decide +kernel
theorem dX9_goesOn_164 : decode cX9_goesOn 164 = .ok (.iconst 3, 1) := by decide +kernel
theorem dX9_goesOn_165 : decode cX9_goesOn 165 = .ok (.iaload, 1) := by decide +kernel
theorem dX9_goesOn_166 : decode cX9_goesOn 166 = .ok (.invokestatic 137, 3) := by decide +kernel
theorem dX9_goesOn_169 : decode cX9_goesOn 169 = .ok (.aload_n 0, 1) := by decide +kernel
theorem dX9_goesOn_170 : decode cX9_goesOn 170 = .ok (.getfield 7, 3) := by decide +kernel
theorem dX9_goesOn_173 : decode cX9_goesOn 173 = .ok (.bipush 53, 2) := by decide +kernel
theorem dX9_goesOn_175 : decode cX9_goesOn 175 = .ok (.dup2, 1) := by decide +kernel
theorem dX9_goesOn_176 : decode cX9_goesOn 176 = .ok (.iaload, 1) := by decide +kernel
theorem dX9_goesOn_177 : decode cX9_goesOn 177 = .ok (.iconst 1, 1) := by decide +kernel
theorem dX9_goesOn_178 : decode cX9_goesOn 178 = .ok (.iadd, 1) := by decide +kernel
theorem dX9_goesOn_179 : decode cX9_goesOn 179 = .ok (.iastore, 1) := by decide +kernel
theorem dX9_goesOn_180 : decode cX9_goesOn 180 = .ok (.goto 12, 3) := by decide +kernel
theorem dX9_goesOn_183 : decode cX9_goesOn 183 = .ok (.iload_n 1, 1) := by decide +kernel
theorem dX9_goesOn_184 : decode cX9_goesOn 184 = .ok (.iconst 5, 1) := by decide +kernel
theorem dX9_goesOn_185 : decode cX9_goesOn 185 = .ok (.if_icmp .ne 7, 3) := by decide +kernel
theorem dX9_goesOn_188 : decode cX9_goesOn 188 = .ok (.aload_n 0, 1) := by decide +kernel
theorem dX9_goesOn_189 : decode cX9_goesOn 189 = .ok (.invokevirtual 178, 3) := by decide +kernel
theorem dX9_goesOn_192 : decode cX9_goesOn 192 = .ok (.return_, 1) := by decide +kernel
theorem dX9_step_0 : decode cX9_step 0 = .ok (.aload_n 0, 1) := by decide +kernel
theorem dX9_step_1 : decode cX9_step 1 = .ok (.getfield 7, 3) := by decide +kernel
theorem dX9_step_4 : decode cX9_step 4 = .ok (.bipush 51, 2) := by decide +kernel
theorem dX9_step_6 : decode cX9_step 6 = .ok (.iaload, 1) := by decide +kernel
theorem dX9_step_7 : decode cX9_step 7 = .ok (.ifCond .ne 6, 3) := by decide +kernel
theorem dX9_step_10 : decode cX9_step 10 = .ok (.ldc 149, 2) := by decide +kernel
theorem dX9_step_12 : decode cX9_step 12 = .ok (.ireturn, 1) := by decide +kernel
theorem dX9_step_13 : decode cX9_step 13 = .ok (.aload_n 0, 1) := by decide +kernel
theorem dX9_step_14 : decode cX9_step 14 = .ok (.getfield 7, 3) := by decide +kernel
theorem dX9_step_17 : decode cX9_step 17 = .ok (.bipush 54, 2) := by decide +kernel
theorem dX9_step_19 : decode cX9_step 19 = .ok (.iaload, 1) := by decide +kernel
theorem dX9_step_20 : decode cX9_step 20 = .ok (.sipush 200, 3) := by decide +kernel
theorem dX9_step_23 : decode cX9_step 23 = .ok (.if_icmp .ne 6, 3) := by decide +kernel
theorem dX9_step_26 : decode cX9_step 26 = .ok (.ldc 181, 2) := by decide +kernel
theorem dX9_step_28 : decode cX9_step 28 = .ok (.ireturn, 1) := by decide +kernel
theorem dX9_step_29 : decode cX9_step 29 = .ok (.aload_n 0, 1) := by decide +kernel
theorem dX9_step_30 : decode cX9_step 30 = .ok (.invokevirtual 182, 3) := by decide +kernel
theorem dX9_step_33 : decode cX9_step 33 = .ok (.istore_n 1, 1) := by decide +kernel
theorem dX9_step_34 : decode cX9_step 34 = .ok (.aload_n 0, 1) := by decide +kernel
theorem dX9_step_35 : decode cX9_step 35 = .ok (.aload_n 0, 1) := by decide +kernel
theorem dX9_step_36 : decode cX9_step 36 = .ok (.getfield 7, 3) := by decide +kernel
theorem dX9_step_39 : decode cX9_step 39 = .ok (.iload_n 1, 1) := by decide +kernel
theorem dX9_step_40 : decode cX9_step 40 = .ok (.invokevirtual 150, 3) := by decide +kernel
theorem dX9_step_43 : decode cX9_step 43 = .ok (.aload_n 0, 1) := by decide +kernel
theorem dX9_step_44 : decode cX9_step 44 = .ok (.invokevirtual 165, 3) := by decide +kernel
theorem dX9_step_47 : decode cX9_step 47 = .ok (.istore_n 2, 1) := by decide +kernel
theorem dX9_step_48 : decode cX9_step 48 = .ok (.iload_n 2, 1) := by decide +kernel
theorem dX9_step_49 : decode cX9_step 49 = .ok (.iconst 5, 1) := by decide +kernel
theorem dX9_step_50 : decode cX9_step 50 = .ok (.if_icmp .ne 36, 3) := by decide +kernel
theorem dX9_step_53 : decode cX9_step 53 = .ok (.aload_n 0, 1) := by decide +kernel
theorem dX9_step_54 : decode cX9_step 54 = .ok (.getfield 35, 3) := by decide +kernel
theorem dX9_step_57 : decode cX9_step 57 = .ok (.iconst 0, 1) := by decide +kernel
theorem dX9_step_58 : decode cX9_step 58 = .ok (.invokestatic 145, 3) := by decide +kernel
theorem dX9_step_61 : decode cX9_step 61 = .ok (.aload_n 0, 1) := by decide +kernel
theorem dX9_step_62 : decode cX9_step 62 = .ok (.getfield 7, 3) := by decide +kernel
theorem dX9_step_65 : decode cX9_step 65 = .ok (.bipush 50, 2) := by decide +kernel
theorem dX9_step_67 : decode cX9_step 67 = .ok (.iaload, 1) := by decide +kernel
theorem dX9_step_68 : decode cX9_step 68 = .ok (.if_icmp .le 18, 3) := by decide +kernel
theorem dX9_step_71 : decode cX9_step 71 = .ok (.aload_n 0, 1) := by decide +kernel
theorem dX9_step_72 : decode cX9_step 72 = .ok (.getfield 7, 3) := by decide +kernel
theorem dX9_step_75 : decode cX9_step 75 = .ok (.bipush 51, 2) := by decide +kernel
theorem dX9_step_77 : decode cX9_step 77 = .ok (.iaload, 1) := by decide +kernel
theorem dX9_step_78 : decode cX9_step 78 = .ok (.bipush 64, 2) := by decide +kernel
theorem dX9_step_80 : decode cX9_step 80 = .ok (.if_icmp .ne 6, 3) := by decide +kernel
theorem dX9_step_83 : decode cX9_step 83 = .ok (.ldc 181, 2) := by decide +kernel
theorem dX9_step_85 : decode cX9_step 85 = .ok (.ireturn, 1) := by decide +kernel
theorem dX9_step_86 : decode cX9_step 86 = .ok (.aload_n 0, 1) := by decide +kernel
theorem dX9_step_87 : decode cX9_step 87 = .ok (.iload_n 1, 1) := by decide +kernel
theorem dX9_step_88 : decode cX9_step 88 = .ok (.invokevirtual 185, 3) := by decide +kernel
theorem dX9_step_91 : decode cX9_step 91 = .ok (.sipush 1911, 3) := by decide +kernel
theorem dX9_step_94 : decode cX9_step 94 = .ok (.iconst 5, 1) := by decide +kernel
theorem dX9_step_95 : decode cX9_step 95 = .ok (.aload_n 0, 1) := by decide +kernel
theorem dX9_step_96 : decode cX9_step 96 = .ok (.getfield 7, 3) := by decide +kernel
theorem dX9_step_99 : decode cX9_step 99 = .ok (.bipush 54, 2) := by decide +kernel
theorem dX9_step_101 : decode cX9_step 101 = .ok (.iaload, 1) := by decide +kernel
theorem dX9_step_102 : decode cX9_step 102 = .ok (.imul, 1) := by decide +kernel
theorem dX9_step_103 : decode cX9_step 103 = .ok (.iadd, 1) := by decide +kernel
theorem dX9_step_104 : decode cX9_step 104 = .ok (.istore_n 3, 1) := by decide +kernel
theorem dX9_step_105 : decode cX9_step 105 = .ok (.aload_n 0, 1) := by decide +kernel
theorem dX9_step_106 : decode cX9_step 106 = .ok (.getfield 7, 3) := by decide +kernel
theorem dX9_step_109 : decode cX9_step 109 = .ok (.iload_n 3, 1) := by decide +kernel
theorem dX9_step_110 : decode cX9_step 110 = .ok (.aload_n 0, 1) := by decide +kernel
theorem dX9_step_111 : decode cX9_step 111 = .ok (.getfield 35, 3) := by decide +kernel
theorem dX9_step_114 : decode cX9_step 114 = .ok (.iconst 0, 1) := by decide +kernel
theorem dX9_step_115 : decode cX9_step 115 = .ok (.iaload, 1) := by decide +kernel
theorem dX9_step_116 : decode cX9_step 116 = .ok (.aload_n 0, 1) := by decide +kernel
theorem dX9_step_117 : decode cX9_step 117 = .ok (.getfield 35, 3) := by decide +kernel
theorem dX9_step_120 : decode cX9_step 120 = .ok (.iconst 1, 1) := by decide +kernel
theorem dX9_step_121 : decode cX9_step 121 = .ok (.iaload, 1) := by decide +kernel
theorem dX9_step_122 : decode cX9_step 122 = .ok (.aload_n 0, 1) := by decide +kernel
theorem dX9_step_123 : decode cX9_step 123 = .ok (.getfield 35, 3) := by decide +kernel
theorem dX9_step_126 : decode cX9_step 126 = .ok (.iconst 2, 1) := by decide +kernel
theorem dX9_step_127 : decode cX9_step 127 = .ok (.iaload, 1) := by decide +kernel
theorem dX9_step_128 : decode cX9_step 128 = .ok (.aload_n 0, 1) := by decide +kernel
theorem dX9_step_129 : decode cX9_step 129 = .ok (.getfield 35, 3) := by decide +kernel
theorem dX9_step_132 : decode cX9_step 132 = .ok (.iconst 3, 1) := by decide +kernel
theorem dX9_step_133 : decode cX9_step 133 = .ok (.iaload, 1) := by decide +kernel
theorem dX9_step_134 : decode cX9_step 134 = .ok (.invokestatic 137, 3) := by decide +kernel
theorem dX9_step_137 : decode cX9_step 137 = .ok (.aload_n 0, 1) := by decide +kernel
theorem dX9_step_138 : decode cX9_step 138 = .ok (.getfield 7, 3) := by decide +kernel
theorem dX9_step_141 : decode cX9_step 141 = .ok (.iload_n 3, 1) := by decide +kernel
theorem dX9_step_142 : decode cX9_step 142 = .ok (.iconst 4, 1) := by decide +kernel
theorem dX9_step_143 : decode cX9_step 143 = .ok (.iadd, 1) := by decide +kernel
theorem dX9_step_144 : decode cX9_step 144 = .ok (.iload_n 2, 1) := by decide +kernel
theorem dX9_step_145 : decode cX9_step 145 = .ok (.iastore, 1) := by decide +kernel
theorem dX9_step_146 : decode cX9_step 146 = .ok (.aload_n 0, 1) := by decide +kernel
theorem dX9_step_147 : decode cX9_step 147 = .ok (.getfield 7, 3) := by decide +kernel
theorem dX9_step_150 : decode cX9_step 150 = .ok (.bipush 54, 2) := by decide +kernel
theorem dX9_step_152 : decode cX9_step 152 = .ok (.dup2, 1) := by decide +kernel
theorem dX9_step_153 : decode cX9_step 153 = .ok (.iaload, 1) := by decide +kernel
theorem dX9_step_154 : decode cX9_step 154 = .ok (.iconst 1, 1) := by decide +kernel
theorem dX9_step_155 : decode cX9_step 155 = .ok (.iadd, 1) := by decide +kernel
theorem dX9_step_156 : decode cX9_step 156 = .ok (.iastore, 1) := by decide +kernel
theorem dX9_step_157 : decode cX9_step 157 = .ok (.aload_n 0, 1) := by decide +kernel
theorem dX9_step_158 : decode cX9_step 158 = .ok (.iload_n 2, 1) := by decide +kernel
theorem dX9_step_159 : decode cX9_step 159 = .ok (.invokevirtual 189, 3) := by decide +kernel
theorem dX9_step_162 : decode cX9_step 162 = .ok (.iload_n 2, 1) := by decide +kernel
theorem dX9_step_163 : decode cX9_step 163 = .ok (.ireturn, 1) := by decide +kernel
theorem dX9_steps_0 : decode cX9_steps 0 = .ok (.iload_n 1, 1) := by decide +kernel
theorem dX9_steps_1 : decode cX9_steps 1 = .ok (.iconst 1, 1) := by decide +kernel
theorem dX9_steps_2 : decode cX9_steps 2 = .ok (.bipush 20, 2) := by decide +kernel
theorem dX9_steps_4 : decode cX9_steps 4 = .ok (.invokestatic 116, 3) := by decide +kernel
theorem dX9_steps_7 : decode cX9_steps 7 = .ok (.ifCond .ne 6, 3) := by decide +kernel
theorem dX9_steps_10 : decode cX9_steps 10 = .ok (.ldc 125, 2) := by decide +kernel
theorem dX9_steps_12 : decode cX9_steps 12 = .ok (.ireturn, 1) := by decide +kernel
theorem dX9_steps_13 : decode cX9_steps 13 = .ok (.iconst 0, 1) := by decide +kernel
theorem dX9_steps_14 : decode cX9_steps 14 = .ok (.istore_n 2, 1) := by decide +kernel
theorem dX9_steps_15 : decode cX9_steps 15 = .ok (.iload_n 2, 1) := by decide +kernel
theorem dX9_steps_16 : decode cX9_steps 16 = .ok (.iload_n 1, 1) := by decide +kernel
theorem dX9_steps_17 : decode cX9_steps 17 = .ok (.if_icmp .ge 16, 3) := by decide +kernel
theorem dX9_steps_20 : decode cX9_steps 20 = .ok (.aload_n 0, 1) := by decide +kernel
theorem dX9_steps_21 : decode cX9_steps 21 = .ok (.invokevirtual 192, 3) := by decide +kernel
theorem dX9_steps_24 : decode cX9_steps 24 = .ok (.ifCond .lt 9, 3) := by decide +kernel
theorem dX9_steps_27 : decode cX9_steps 27 = .ok (.iinc 2 1, 3) := by decide +kernel
theorem dX9_steps_30 : decode cX9_steps 30 = .ok (.goto (-15), 3) := by decide +kernel
theorem dX9_steps_33 : decode cX9_steps 33 = .ok (.iload_n 2, 1) := by decide +kernel
theorem dX9_steps_34 : decode cX9_steps 34 = .ok (.ireturn, 1) := by decide +kernel
theorem dX9_first_0 : decode cX9_first 0 = .ok (.iload_n 1, 1) := by decide +kernel
theorem dX9_first_1 : decode cX9_first 1 = .ok (.iconst 0, 1) := by decide +kernel
theorem dX9_first_2 : decode cX9_first 2 = .ok (.iconst 3, 1) := by decide +kernel
theorem dX9_first_3 : decode cX9_first 3 = .ok (.invokestatic 116, 3) := by decide +kernel
theorem dX9_first_6 : decode cX9_first 6 = .ok (.ifCond .ne 6, 3) := by decide +kernel
theorem dX9_first_9 : decode cX9_first 9 = .ok (.ldc 125, 2) := by decide +kernel
theorem dX9_first_11 : decode cX9_first 11 = .ok (.ireturn, 1) := by decide +kernel
theorem dX9_first_12 : decode cX9_first 12 = .ok (.aload_n 0, 1) := by decide +kernel
theorem dX9_first_13 : decode cX9_first 13 = .ok (.getfield 7, 3) := by decide +kernel
theorem dX9_first_16 : decode cX9_first 16 = .ok (.bipush 51, 2) := by decide +kernel
theorem dX9_first_18 : decode cX9_first 18 = .ok (.iaload, 1) := by decide +kernel
theorem dX9_first_19 : decode cX9_first 19 = .ok (.ifCond .ne 8, 3) := by decide +kernel
theorem dX9_first_22 : decode cX9_first 22 = .ok (.ldc 149, 2) := by decide +kernel
theorem dX9_first_24 : decode cX9_first 24 = .ok (.goto 14, 3) := by decide +kernel
theorem dX9_first_27 : decode cX9_first 27 = .ok (.aload_n 0, 1) := by decide +kernel
theorem dX9_first_28 : decode cX9_first 28 = .ok (.getfield 7, 3) := by decide +kernel
theorem dX9_first_31 : decode cX9_first 31 = .ok (.aload_n 0, 1) := by decide +kernel
theorem dX9_first_32 : decode cX9_first 32 = .ok (.invokevirtual 182, 3) := by decide +kernel
theorem dX9_first_35 : decode cX9_first 35 = .ok (.iload_n 1, 1) := by decide +kernel
theorem dX9_first_36 : decode cX9_first 36 = .ok (.iadd, 1) := by decide +kernel
theorem dX9_first_37 : decode cX9_first 37 = .ok (.iaload, 1) := by decide +kernel
theorem dX9_first_38 : decode cX9_first 38 = .ok (.ireturn, 1) := by decide +kernel
theorem dX9_solved_0 : decode cX9_solved 0 = .ok (.iload_n 1, 1) := by decide +kernel
theorem dX9_solved_1 : decode cX9_solved 1 = .ok (.iconst 0, 1) := by decide +kernel
theorem dX9_solved_2 : decode cX9_solved 2 = .ok (.aload_n 0, 1) := by decide +kernel
theorem dX9_solved_3 : decode cX9_solved 3 = .ok (.getfield 7, 3) := by decide +kernel
theorem dX9_solved_6 : decode cX9_solved 6 = .ok (.bipush 52, 2) := by decide +kernel
theorem dX9_solved_8 : decode cX9_solved 8 = .ok (.iaload, 1) := by decide +kernel
theorem dX9_solved_9 : decode cX9_solved 9 = .ok (.iconst 1, 1) := by decide +kernel
theorem dX9_solved_10 : decode cX9_solved 10 = .ok (.isub, 1) := by decide +kernel
theorem dX9_solved_11 : decode cX9_solved 11 = .ok (.invokestatic 116, 3) := by decide +kernel
theorem dX9_solved_14 : decode cX9_solved 14 = .ok (.ifCond .ne 6, 3) := by decide +kernel
theorem dX9_solved_17 : decode cX9_solved 17 = .ok (.ldc 120, 2) := by decide +kernel
theorem dX9_solved_19 : decode cX9_solved 19 = .ok (.ireturn, 1) := by decide +kernel
theorem dX9_solved_20 : decode cX9_solved 20 = .ok (.iload_n 2, 1) := by decide +kernel
theorem dX9_solved_21 : decode cX9_solved 21 = .ok (.iconst 0, 1) := by decide +kernel
theorem dX9_solved_22 : decode cX9_solved 22 = .ok (.iconst 3, 1) := by decide +kernel
theorem dX9_solved_23 : decode cX9_solved 23 = .ok (.invokestatic 116, 3) := by decide +kernel
theorem dX9_solved_26 : decode cX9_solved 26 = .ok (.ifCond .ne 6, 3) := by decide +kernel
theorem dX9_solved_29 : decode cX9_solved 29 = .ok (.ldc 125, 2) := by decide +kernel
theorem dX9_solved_31 : decode cX9_solved 31 = .ok (.ireturn, 1) := by decide +kernel
theorem dX9_solved_32 : decode cX9_solved 32 = .ok (.iconst 0, 1) := by decide +kernel
theorem dX9_solved_33 : decode cX9_solved 33 = .ok (.istore_n 3, 1) := by decide +kernel
theorem dX9_solved_34 : decode cX9_solved 34 = .ok (.iconst 0, 1) := by decide +kernel
theorem dX9_solved_35 : decode cX9_solved 35 = .ok (.istore 4, 2) := by decide +kernel
theorem dX9_solved_37 : decode cX9_solved 37 = .ok (.iload 4, 2) := by decide +kernel
theorem dX9_solved_39 : decode cX9_solved 39 = .ok (.aload_n 0, 1) := by decide +kernel
theorem dX9_solved_40 : decode cX9_solved 40 = .ok (.getfield 7, 3) := by decide +kernel
theorem dX9_solved_43 : decode cX9_solved 43 = .ok (.bipush 52, 2) := by decide +kernel
theorem dX9_solved_45 : decode cX9_solved 45 = .ok (.iaload, 1) := by decide +kernel
theorem dX9_solved_46 : decode cX9_solved 46 = .ok (.if_icmp .ge 118, 3) := by decide +kernel
theorem dX9_solved_49 : decode cX9_solved 49 = .ok (.iconst 0, 1) := by decide +kernel
theorem dX9_solved_50 : decode cX9_solved 50 = .ok (.istore 5, 2) := by decide +kernel
theorem dX9_solved_52 : decode cX9_solved 52 = .ok (.iconst 0, 1) := by decide +kernel
theorem dX9_solved_53 : decode cX9_solved 53 = .ok (.istore 6, 2) := by decide +kernel
theorem dX9_solved_55 : decode cX9_solved 55 = .ok (.iload 6, 2) := by decide +kernel
theorem dX9_solved_57 : decode cX9_solved 57 = .ok (.aload_n 0, 1) := by decide +kernel
theorem dX9_solved_58 : decode cX9_solved 58 = .ok (.getfield 7, 3) := by decide +kernel
theorem dX9_solved_61 : decode cX9_solved 61 = .ok (.bipush 52, 2) := by decide +kernel
theorem dX9_solved_63 : decode cX9_solved 63 = .ok (.iaload, 1) := by decide +kernel
theorem dX9_solved_64 : decode cX9_solved 64 = .ok (.if_icmp .ge 68, 3) := by decide +kernel
theorem dX9_solved_67 : decode cX9_solved 67 = .ok (.sipush 311, 3) := by decide +kernel
theorem dX9_solved_70 : decode cX9_solved 70 = .ok (.iconst 4, 1) := by decide +kernel
theorem dX9_solved_71 : decode cX9_solved 71 = .ok (.iload 6, 2) := by decide +kernel
theorem dX9_solved_73 : decode cX9_solved 73 = .ok (.imul, 1) := by decide +kernel
theorem dX9_solved_74 : decode cX9_solved 74 = .ok (.iadd, 1) := by decide +kernel
theorem dX9_solved_75 : decode cX9_solved 75 = .ok (.istore 7, 2) := by decide +kernel
theorem dX9_solved_77 : decode cX9_solved 77 = .ok (.sipush 311, 3) := by decide +kernel
theorem dX9_solved_80 : decode cX9_solved 80 = .ok (.iconst 4, 1) := by decide +kernel
theorem dX9_solved_81 : decode cX9_solved 81 = .ok (.iload 4, 2) := by decide +kernel
theorem dX9_solved_83 : decode cX9_solved 83 = .ok (.imul, 1) := by decide +kernel
theorem dX9_solved_84 : decode cX9_solved 84 = .ok (.iadd, 1) := by decide +kernel
theorem dX9_solved_85 : decode cX9_solved 85 = .ok (.istore 8, 2) := by decide +kernel
theorem dX9_solved_87 : decode cX9_solved 87 = .ok (.iload 5, 2) := by decide +kernel
theorem dX9_solved_89 : decode cX9_solved 89 = .ok (.aload_n 0, 1) := by decide +kernel
theorem dX9_solved_90 : decode cX9_solved 90 = .ok (.iload 7, 2) := by decide +kernel
theorem dX9_solved_92 : decode cX9_solved 92 = .ok (.iload 8, 2) := by decide +kernel
theorem dX9_solved_94 : decode cX9_solved 94 = .ok (.invokevirtual 175, 3) := by decide +kernel
theorem dX9_solved_97 : decode cX9_solved 97 = .ok (.ifCond .ne 21, 3) := by decide +kernel
theorem dX9_solved_100 : decode cX9_solved 100 = .ok (.aload_n 0, 1) := by decide +kernel
theorem dX9_solved_101 : decode cX9_solved 101 = .ok (.iload 8, 2) := by decide +kernel
theorem dX9_solved_103 : decode cX9_solved 103 = .ok (.iload 7, 2) := by decide +kernel
theorem dX9_solved_105 : decode cX9_solved 105 = .ok (.invokevirtual 175, 3) := by decide +kernel
theorem dX9_solved_108 : decode cX9_solved 108 = .ok (.ifCond .ne 14, 3) := by decide +kernel
theorem dX9_solved_111 : decode cX9_solved 111 = .ok (.iload 6, 2) := by decide +kernel
theorem dX9_solved_113 : decode cX9_solved 113 = .ok (.iload 4, 2) := by decide +kernel
theorem dX9_solved_115 : decode cX9_solved 115 = .ok (.if_icmp .ge 7, 3) := by decide +kernel
theorem dX9_solved_118 : decode cX9_solved 118 = .ok (.iconst 1, 1) := by decide +kernel
theorem dX9_solved_119 : decode cX9_solved 119 = .ok (.goto 4, 3) := by decide +kernel
theorem dX9_solved_122 : decode cX9_solved 122 = .ok (.iconst 0, 1) := by decide +kernel
theorem dX9_solved_123 : decode cX9_solved 123 = .ok (.iadd, 1) := by decide +kernel
theorem dX9_solved_124 : decode cX9_solved 124 = .ok (.istore 5, 2) := by decide +kernel
theorem dX9_solved_126 : decode cX9_solved 126 = .ok (.iinc 6 1, 3) := by decide +kernel
theorem dX9_solved_129 : decode cX9_solved 129 = .ok (.goto (-74), 3) := by decide +kernel
theorem dX9_solved_132 : decode cX9_solved 132 = .ok (.iload 5, 2) := by decide +kernel
theorem dX9_solved_134 : decode cX9_solved 134 = .ok (.iload_n 1, 1) := by decide +kernel
theorem dX9_solved_135 : decode cX9_solved 135 = .ok (.if_icmp .ne 21, 3) := by decide +kernel
theorem dX9_solved_138 : decode cX9_solved 138 = .ok (.aload_n 0, 1) := by decide +kernel
theorem dX9_solved_139 : decode cX9_solved 139 = .ok (.getfield 7, 3) := by decide +kernel
theorem dX9_solved_142 : decode cX9_solved 142 = .ok (.sipush 311, 3) := by decide +kernel
theorem dX9_solved_145 : decode cX9_solved 145 = .ok (.iconst 4, 1) := by decide +kernel
theorem dX9_solved_146 : decode cX9_solved 146 = .ok (.iload 4, 2) := by decide +kernel
theorem dX9_solved_148 : decode cX9_solved 148 = .ok (.imul, 1) := by decide +kernel
theorem dX9_solved_149 : decode cX9_solved 149 = .ok (.iadd, 1) := by decide +kernel
theorem dX9_solved_150 : decode cX9_solved 150 = .ok (.iload_n 2, 1) := by decide +kernel
theorem dX9_solved_151 : decode cX9_solved 151 = .ok (.iadd, 1) := by decide +kernel
theorem dX9_solved_152 : decode cX9_solved 152 = .ok (.iaload, 1) := by decide +kernel
theorem dX9_solved_153 : decode cX9_solved 153 = .ok (.goto 4, 3) := by decide +kernel
theorem dX9_solved_156 : decode cX9_solved 156 = .ok (.iload_n 3, 1) := by decide +kernel
theorem dX9_solved_157 : decode cX9_solved 157 = .ok (.istore_n 3, 1) := by decide +kernel
theorem dX9_solved_158 : decode cX9_solved 158 = .ok (.iinc 4 1, 3) := by decide +kernel
theorem dX9_solved_161 : decode cX9_solved 161 = .ok (.goto (-124), 3) := by decide +kernel
theorem dX9_solved_164 : decode cX9_solved 164 = .ok (.iload_n 3, 1) := by decide +kernel
theorem dX9_solved_165 : decode cX9_solved 165 = .ok (.ireturn, 1) := by decide +kernel
theorem dX9_doubtful_0 : decode cX9_doubtful 0 = .ok (.iload_n 1, 1) := by decide +kernel
theorem dX9_doubtful_1 : decode cX9_doubtful 1 = .ok (.iconst 0, 1) := by decide +kernel
theorem dX9_doubtful_2 : decode cX9_doubtful 2 = .ok (.aload_n 0, 1) := by decide +kernel
theorem dX9_doubtful_3 : decode cX9_doubtful 3 = .ok (.getfield 7, 3) := by decide +kernel
theorem dX9_doubtful_6 : decode cX9_doubtful 6 = .ok (.bipush 53, 2) := by decide +kernel
theorem dX9_doubtful_8 : decode cX9_doubtful 8 = .ok (.iaload, 1) := by decide +kernel
theorem dX9_doubtful_9 : decode cX9_doubtful 9 = .ok (.iconst 1, 1) := by decide +kernel
theorem dX9_doubtful_10 : decode cX9_doubtful 10 = .ok (.isub, 1) := by decide +kernel
theorem dX9_doubtful_11 : decode cX9_doubtful 11 = .ok (.invokestatic 116, 3) := by decide +kernel
theorem dX9_doubtful_14 : decode cX9_doubtful 14 = .ok (.ifCond .ne 6, 3) := by decide +kernel
theorem dX9_doubtful_17 : decode cX9_doubtful 17 = .ok (.ldc 120, 2) := by decide +kernel
theorem dX9_doubtful_19 : decode cX9_doubtful 19 = .ok (.ireturn, 1) := by decide +kernel
theorem dX9_doubtful_20 : decode cX9_doubtful 20 = .ok (.iload_n 2, 1) := by decide +kernel
theorem dX9_doubtful_21 : decode cX9_doubtful 21 = .ok (.iconst 0, 1) := by decide +kernel
theorem dX9_doubtful_22 : decode cX9_doubtful 22 = .ok (.iconst 3, 1) := by decide +kernel
theorem dX9_doubtful_23 : decode cX9_doubtful 23 = .ok (.invokestatic 116, 3) := by decide +kernel
theorem dX9_doubtful_26 : decode cX9_doubtful 26 = .ok (.ifCond .eq 20, 3) := by decide +kernel
theorem dX9_doubtful_29 : decode cX9_doubtful 29 = .ok (.aload_n 0, 1) := by decide +kernel
theorem dX9_doubtful_30 : decode cX9_doubtful 30 = .ok (.getfield 7, 3) := by decide +kernel
theorem dX9_doubtful_33 : decode cX9_doubtful 33 = .ok (.sipush 1111, 3) := by decide +kernel
theorem dX9_doubtful_36 : decode cX9_doubtful 36 = .ok (.iconst 4, 1) := by decide +kernel
theorem dX9_doubtful_37 : decode cX9_doubtful 37 = .ok (.iload_n 1, 1) := by decide +kernel
theorem dX9_doubtful_38 : decode cX9_doubtful 38 = .ok (.imul, 1) := by decide +kernel
theorem dX9_doubtful_39 : decode cX9_doubtful 39 = .ok (.iadd, 1) := by decide +kernel
theorem dX9_doubtful_40 : decode cX9_doubtful 40 = .ok (.iload_n 2, 1) := by decide +kernel
theorem dX9_doubtful_41 : decode cX9_doubtful 41 = .ok (.iadd, 1) := by decide +kernel
theorem dX9_doubtful_42 : decode cX9_doubtful 42 = .ok (.iaload, 1) := by decide +kernel
theorem dX9_doubtful_43 : decode cX9_doubtful 43 = .ok (.goto 5, 3) := by decide +kernel
theorem dX9_doubtful_46 : decode cX9_doubtful 46 = .ok (.ldc 125, 2) := by decide +kernel
theorem dX9_doubtful_48 : decode cX9_doubtful 48 = .ok (.ireturn, 1) := by decide +kernel
theorem dX9_verdictNow_0 : decode cX9_verdictNow 0 = .ok (.aload_n 0, 1) := by decide +kernel
theorem dX9_verdictNow_1 : decode cX9_verdictNow 1 = .ok (.aload_n 0, 1) := by decide +kernel
theorem dX9_verdictNow_2 : decode cX9_verdictNow 2 = .ok (.getfield 7, 3) := by decide +kernel
theorem dX9_verdictNow_5 : decode cX9_verdictNow 5 = .ok (.sipush 1911, 3) := by decide +kernel
theorem dX9_verdictNow_8 : decode cX9_verdictNow 8 = .ok (.iconst 5, 1) := by decide +kernel
theorem dX9_verdictNow_9 : decode cX9_verdictNow 9 = .ok (.iload_n 1, 1) := by decide +kernel
theorem dX9_verdictNow_10 : decode cX9_verdictNow 10 = .ok (.imul, 1) := by decide +kernel
theorem dX9_verdictNow_11 : decode cX9_verdictNow 11 = .ok (.iadd, 1) := by decide +kernel
theorem dX9_verdictNow_12 : decode cX9_verdictNow 12 = .ok (.invokevirtual 150, 3) := by decide +kernel
theorem dX9_verdictNow_15 : decode cX9_verdictNow 15 = .ok (.aload_n 0, 1) := by decide +kernel
theorem dX9_verdictNow_16 : decode cX9_verdictNow 16 = .ok (.invokevirtual 165, 3) := by decide +kernel
theorem dX9_verdictNow_19 : decode cX9_verdictNow 19 = .ok (.ireturn, 1) := by decide +kernel
theorem dX9_entry_0 : decode cX9_entry 0 = .ok (.iload_n 1, 1) := by decide +kernel
theorem dX9_entry_1 : decode cX9_entry 1 = .ok (.iconst 0, 1) := by decide +kernel
theorem dX9_entry_2 : decode cX9_entry 2 = .ok (.aload_n 0, 1) := by decide +kernel
theorem dX9_entry_3 : decode cX9_entry 3 = .ok (.getfield 7, 3) := by decide +kernel
theorem dX9_entry_6 : decode cX9_entry 6 = .ok (.bipush 54, 2) := by decide +kernel
theorem dX9_entry_8 : decode cX9_entry 8 = .ok (.iaload, 1) := by decide +kernel
theorem dX9_entry_9 : decode cX9_entry 9 = .ok (.iconst 1, 1) := by decide +kernel
theorem dX9_entry_10 : decode cX9_entry 10 = .ok (.isub, 1) := by decide +kernel
theorem dX9_entry_11 : decode cX9_entry 11 = .ok (.invokestatic 116, 3) := by decide +kernel
theorem dX9_entry_14 : decode cX9_entry 14 = .ok (.ifCond .ne 6, 3) := by decide +kernel
theorem dX9_entry_17 : decode cX9_entry 17 = .ok (.ldc 120, 2) := by decide +kernel
theorem dX9_entry_19 : decode cX9_entry 19 = .ok (.ireturn, 1) := by decide +kernel
theorem dX9_entry_20 : decode cX9_entry 20 = .ok (.iload_n 2, 1) := by decide +kernel
theorem dX9_entry_21 : decode cX9_entry 21 = .ok (.iconst 0, 1) := by decide +kernel
theorem dX9_entry_22 : decode cX9_entry 22 = .ok (.iconst 5, 1) := by decide +kernel
theorem dX9_entry_23 : decode cX9_entry 23 = .ok (.invokestatic 116, 3) := by decide +kernel
theorem dX9_entry_26 : decode cX9_entry 26 = .ok (.ifCond .ne 6, 3) := by decide +kernel
theorem dX9_entry_29 : decode cX9_entry 29 = .ok (.ldc 125, 2) := by decide +kernel
theorem dX9_entry_31 : decode cX9_entry 31 = .ok (.ireturn, 1) := by decide +kernel
theorem dX9_entry_32 : decode cX9_entry 32 = .ok (.iload_n 2, 1) := by decide +kernel
theorem dX9_entry_33 : decode cX9_entry 33 = .ok (.iconst 5, 1) := by decide +kernel
theorem dX9_entry_34 : decode cX9_entry 34 = .ok (.if_icmp .ne 11, 3) := by decide +kernel
theorem dX9_entry_37 : decode cX9_entry 37 = .ok (.aload_n 0, 1) := by decide +kernel
theorem dX9_entry_38 : decode cX9_entry 38 = .ok (.iload_n 1, 1) := by decide +kernel
theorem dX9_entry_39 : decode cX9_entry 39 = .ok (.invokevirtual 195, 3) := by decide +kernel
theorem dX9_entry_42 : decode cX9_entry 42 = .ok (.goto 17, 3) := by decide +kernel
theorem dX9_entry_45 : decode cX9_entry 45 = .ok (.aload_n 0, 1) := by decide +kernel
theorem dX9_entry_46 : decode cX9_entry 46 = .ok (.getfield 7, 3) := by decide +kernel
theorem dX9_entry_49 : decode cX9_entry 49 = .ok (.sipush 1911, 3) := by decide +kernel
theorem dX9_entry_52 : decode cX9_entry 52 = .ok (.iconst 5, 1) := by decide +kernel
theorem dX9_entry_53 : decode cX9_entry 53 = .ok (.iload_n 1, 1) := by decide +kernel
theorem dX9_entry_54 : decode cX9_entry 54 = .ok (.imul, 1) := by decide +kernel
theorem dX9_entry_55 : decode cX9_entry 55 = .ok (.iadd, 1) := by decide +kernel
theorem dX9_entry_56 : decode cX9_entry 56 = .ok (.iload_n 2, 1) := by decide +kernel
theorem dX9_entry_57 : decode cX9_entry 57 = .ok (.iadd, 1) := by decide +kernel
theorem dX9_entry_58 : decode cX9_entry 58 = .ok (.iaload, 1) := by decide +kernel
theorem dX9_entry_59 : decode cX9_entry 59 = .ok (.ireturn, 1) := by decide +kernel
theorem dX9_broken_0 : decode cX9_broken 0 = .ok (.iconst 0, 1) := by decide +kernel
theorem dX9_broken_1 : decode cX9_broken 1 = .ok (.istore_n 1, 1) := by decide +kernel
theorem dX9_broken_2 : decode cX9_broken 2 = .ok (.iload_n 1, 1) := by decide +kernel
theorem dX9_broken_3 : decode cX9_broken 3 = .ok (.aload_n 0, 1) := by decide +kernel
theorem dX9_broken_4 : decode cX9_broken 4 = .ok (.getfield 7, 3) := by decide +kernel
theorem dX9_broken_7 : decode cX9_broken 7 = .ok (.bipush 54, 2) := by decide +kernel
theorem dX9_broken_9 : decode cX9_broken 9 = .ok (.iaload, 1) := by decide +kernel
theorem dX9_broken_10 : decode cX9_broken 10 = .ok (.if_icmp .ge 33, 3) := by decide +kernel
theorem dX9_broken_13 : decode cX9_broken 13 = .ok (.aload_n 0, 1) := by decide +kernel
theorem dX9_broken_14 : decode cX9_broken 14 = .ok (.iload_n 1, 1) := by decide +kernel
theorem dX9_broken_15 : decode cX9_broken 15 = .ok (.invokevirtual 195, 3) := by decide +kernel
theorem dX9_broken_18 : decode cX9_broken 18 = .ok (.aload_n 0, 1) := by decide +kernel
theorem dX9_broken_19 : decode cX9_broken 19 = .ok (.getfield 7, 3) := by decide +kernel
theorem dX9_broken_22 : decode cX9_broken 22 = .ok (.sipush 1911, 3) := by decide +kernel
theorem dX9_broken_25 : decode cX9_broken 25 = .ok (.iconst 5, 1) := by decide +kernel
theorem dX9_broken_26 : decode cX9_broken 26 = .ok (.iload_n 1, 1) := by decide +kernel
theorem dX9_broken_27 : decode cX9_broken 27 = .ok (.imul, 1) := by decide +kernel
theorem dX9_broken_28 : decode cX9_broken 28 = .ok (.iadd, 1) := by decide +kernel
theorem dX9_broken_29 : decode cX9_broken 29 = .ok (.iconst 4, 1) := by decide +kernel
theorem dX9_broken_30 : decode cX9_broken 30 = .ok (.iadd, 1) := by decide +kernel
theorem dX9_broken_31 : decode cX9_broken 31 = .ok (.iaload, 1) := by decide +kernel
theorem dX9_broken_32 : decode cX9_broken 32 = .ok (.if_icmp .eq 5, 3) := by decide +kernel
theorem dX9_broken_35 : decode cX9_broken 35 = .ok (.iload_n 1, 1) := by decide +kernel
theorem dX9_broken_36 : decode cX9_broken 36 = .ok (.ireturn, 1) := by decide +kernel
theorem dX9_broken_37 : decode cX9_broken 37 = .ok (.iinc 1 1, 3) := by decide +kernel
theorem dX9_broken_40 : decode cX9_broken 40 = .ok (.goto (-38), 3) := by decide +kernel
theorem dX9_broken_43 : decode cX9_broken 43 = .ok (.ldc 164, 2) := by decide +kernel
theorem dX9_broken_45 : decode cX9_broken 45 = .ok (.ireturn, 1) := by decide +kernel
theorem dX9_isIn_0 : decode cX9_isIn 0 = .ok (.iload_n 2, 1) := by decide +kernel
theorem dX9_isIn_1 : decode cX9_isIn 1 = .ok (.aload_n 0, 1) := by decide +kernel
theorem dX9_isIn_2 : decode cX9_isIn 2 = .ok (.getfield 7, 3) := by decide +kernel
theorem dX9_isIn_5 : decode cX9_isIn 5 = .ok (.iload_n 1, 1) := by decide +kernel
theorem dX9_isIn_6 : decode cX9_isIn 6 = .ok (.iaload, 1) := by decide +kernel
theorem dX9_isIn_7 : decode cX9_isIn 7 = .ok (.aload_n 0, 1) := by decide +kernel
theorem dX9_isIn_8 : decode cX9_isIn 8 = .ok (.getfield 7, 3) := by decide +kernel
theorem dX9_isIn_11 : decode cX9_isIn 11 = .ok (.iload_n 1, 1) := by decide +kernel
theorem dX9_isIn_12 : decode cX9_isIn 12 = .ok (.iconst 1, 1) := by decide +kernel
theorem dX9_isIn_13 : decode cX9_isIn 13 = .ok (.iadd, 1) := by decide +kernel
theorem dX9_isIn_14 : decode cX9_isIn 14 = .ok (.iaload, 1) := by decide +kernel
theorem dX9_isIn_15 : decode cX9_isIn 15 = .ok (.invokestatic 116, 3) := by decide +kernel
theorem dX9_isIn_18 : decode cX9_isIn 18 = .ok (.ifCond .eq 30, 3) := by decide +kernel
theorem dX9_isIn_21 : decode cX9_isIn 21 = .ok (.iload_n 3, 1) := by decide +kernel
theorem dX9_isIn_22 : decode cX9_isIn 22 = .ok (.aload_n 0, 1) := by decide +kernel
theorem dX9_isIn_23 : decode cX9_isIn 23 = .ok (.getfield 7, 3) := by decide +kernel
theorem dX9_isIn_26 : decode cX9_isIn 26 = .ok (.iload_n 1, 1) := by decide +kernel
theorem dX9_isIn_27 : decode cX9_isIn 27 = .ok (.iconst 2, 1) := by decide +kernel
theorem dX9_isIn_28 : decode cX9_isIn 28 = .ok (.iadd, 1) := by decide +kernel
theorem dX9_isIn_29 : decode cX9_isIn 29 = .ok (.iaload, 1) := by decide +kernel
theorem dX9_isIn_30 : decode cX9_isIn 30 = .ok (.aload_n 0, 1) := by decide +kernel
theorem dX9_isIn_31 : decode cX9_isIn 31 = .ok (.getfield 7, 3) := by decide +kernel
theorem dX9_isIn_34 : decode cX9_isIn 34 = .ok (.iload_n 1, 1) := by decide +kernel
theorem dX9_isIn_35 : decode cX9_isIn 35 = .ok (.iconst 3, 1) := by decide +kernel
theorem dX9_isIn_36 : decode cX9_isIn 36 = .ok (.iadd, 1) := by decide +kernel
theorem dX9_isIn_37 : decode cX9_isIn 37 = .ok (.iaload, 1) := by decide +kernel
theorem dX9_isIn_38 : decode cX9_isIn 38 = .ok (.invokestatic 116, 3) := by decide +kernel
theorem dX9_isIn_41 : decode cX9_isIn 41 = .ok (.ifCond .eq 7, 3) := by decide +kernel
theorem dX9_isIn_44 : decode cX9_isIn 44 = .ok (.iconst 1, 1) := by decide +kernel
theorem dX9_isIn_45 : decode cX9_isIn 45 = .ok (.goto 4, 3) := by decide +kernel
theorem dX9_isIn_48 : decode cX9_isIn 48 = .ok (.iconst 0, 1) := by decide +kernel
theorem dX9_isIn_49 : decode cX9_isIn 49 = .ok (.ireturn, 1) := by decide +kernel
theorem dX9_isInAny_0 : decode cX9_isInAny 0 = .ok (.iconst 0, 1) := by decide +kernel
theorem dX9_isInAny_1 : decode cX9_isInAny 1 = .ok (.istore 5, 2) := by decide +kernel
theorem dX9_isInAny_3 : decode cX9_isInAny 3 = .ok (.iconst 0, 1) := by decide +kernel
theorem dX9_isInAny_4 : decode cX9_isInAny 4 = .ok (.istore 6, 2) := by decide +kernel
theorem dX9_isInAny_6 : decode cX9_isInAny 6 = .ok (.iload 6, 2) := by decide +kernel
theorem dX9_isInAny_8 : decode cX9_isInAny 8 = .ok (.iload_n 2, 1) := by decide +kernel
theorem dX9_isInAny_9 : decode cX9_isInAny 9 = .ok (.if_icmp .ge 37, 3) := by decide +kernel
theorem dX9_isInAny_12 : decode cX9_isInAny 12 = .ok (.iload 5, 2) := by decide +kernel
theorem dX9_isInAny_14 : decode cX9_isInAny 14 = .ok (.ifCond .ne 19, 3) := by decide +kernel
theorem dX9_isInAny_17 : decode cX9_isInAny 17 = .ok (.aload_n 0, 1) := by decide +kernel
theorem dX9_isInAny_18 : decode cX9_isInAny 18 = .ok (.iload_n 1, 1) := by decide +kernel
theorem dX9_isInAny_19 : decode cX9_isInAny 19 = .ok (.iconst 4, 1) := by decide +kernel
theorem dX9_isInAny_20 : decode cX9_isInAny 20 = .ok (.iload 6, 2) := by decide +kernel
theorem dX9_isInAny_22 : decode cX9_isInAny 22 = .ok (.imul, 1) := by decide +kernel
theorem dX9_isInAny_23 : decode cX9_isInAny 23 = .ok (.iadd, 1) := by decide +kernel
theorem dX9_isInAny_24 : decode cX9_isInAny 24 = .ok (.iload_n 3, 1) := by decide +kernel
theorem dX9_isInAny_25 : decode cX9_isInAny 25 = .ok (.iload 4, 2) := by decide +kernel
theorem dX9_isInAny_27 : decode cX9_isInAny 27 = .ok (.invokevirtual 199, 3) := by decide +kernel
theorem dX9_isInAny_30 : decode cX9_isInAny 30 = .ok (.ifCond .eq 7, 3) := by decide +kernel
theorem dX9_isInAny_33 : decode cX9_isInAny 33 = .ok (.iconst 1, 1) := by decide +kernel
theorem dX9_isInAny_34 : decode cX9_isInAny 34 = .ok (.goto 4, 3) := by decide +kernel
theorem dX9_isInAny_37 : decode cX9_isInAny 37 = .ok (.iconst 0, 1) := by decide +kernel
theorem dX9_isInAny_38 : decode cX9_isInAny 38 = .ok (.istore 5, 2) := by decide +kernel
theorem dX9_isInAny_40 : decode cX9_isInAny 40 = .ok (.iinc 6 1, 3) := by decide +kernel
theorem dX9_isInAny_43 : decode cX9_isInAny 43 = .ok (.goto (-37), 3) := by decide +kernel
theorem dX9_isInAny_46 : decode cX9_isInAny 46 = .ok (.iload 5, 2) := by decide +kernel
theorem dX9_isInAny_48 : decode cX9_isInAny 48 = .ok (.ireturn, 1) := by decide +kernel
theorem dX9_find_0 : decode cX9_find 0 = .ok (.iload_n 1, 1) := by decide +kernel
theorem dX9_find_1 : decode cX9_find 1 = .ok (.invokestatic 126, 3) := by decide +kernel
theorem dX9_find_4 : decode cX9_find 4 = .ok (.ifCond .eq 10, 3) := by decide +kernel
theorem dX9_find_7 : decode cX9_find 7 = .ok (.iload_n 2, 1) := by decide +kernel
theorem dX9_find_8 : decode cX9_find 8 = .ok (.invokestatic 126, 3) := by decide +kernel
theorem dX9_find_11 : decode cX9_find 11 = .ok (.ifCond .ne 6, 3) := by decide +kernel
theorem dX9_find_14 : decode cX9_find 14 = .ok (.ldc 125, 2) := by decide +kernel
theorem dX9_find_16 : decode cX9_find 16 = .ok (.ireturn, 1) := by decide +kernel
theorem dX9_find_17 : decode cX9_find 17 = .ok (.aload_n 0, 1) := by decide +kernel
theorem dX9_find_18 : decode cX9_find 18 = .ok (.bipush 55, 2) := by decide +kernel
theorem dX9_find_20 : decode cX9_find 20 = .ok (.aload_n 0, 1) := by decide +kernel
theorem dX9_find_21 : decode cX9_find 21 = .ok (.getfield 7, 3) := by decide +kernel
theorem dX9_find_24 : decode cX9_find 24 = .ok (.bipush 51, 2) := by decide +kernel
theorem dX9_find_26 : decode cX9_find 26 = .ok (.iaload, 1) := by decide +kernel
theorem dX9_find_27 : decode cX9_find 27 = .ok (.iload_n 1, 1) := by decide +kernel
theorem dX9_find_28 : decode cX9_find 28 = .ok (.iload_n 2, 1) := by decide +kernel
theorem dX9_find_29 : decode cX9_find 29 = .ok (.invokevirtual 202, 3) := by decide +kernel
theorem dX9_find_32 : decode cX9_find 32 = .ok (.ifCond .eq 7, 3) := by decide +kernel
theorem dX9_find_35 : decode cX9_find 35 = .ok (.iconst 1, 1) := by decide +kernel
theorem dX9_find_36 : decode cX9_find 36 = .ok (.goto 4, 3) := by decide +kernel
theorem dX9_find_39 : decode cX9_find 39 = .ok (.iconst 0, 1) := by decide +kernel
theorem dX9_find_40 : decode cX9_find 40 = .ok (.istore_n 3, 1) := by decide +kernel
theorem dX9_find_41 : decode cX9_find 41 = .ok (.iload_n 3, 1) := by decide +kernel
theorem dX9_find_42 : decode cX9_find 42 = .ok (.aload_n 0, 1) := by decide +kernel
theorem dX9_find_43 : decode cX9_find 43 = .ok (.sipush 311, 3) := by decide +kernel
theorem dX9_find_46 : decode cX9_find 46 = .ok (.aload_n 0, 1) := by decide +kernel
theorem dX9_find_47 : decode cX9_find 47 = .ok (.getfield 7, 3) := by decide +kernel
theorem dX9_find_50 : decode cX9_find 50 = .ok (.bipush 52, 2) := by decide +kernel
theorem dX9_find_52 : decode cX9_find 52 = .ok (.iaload, 1) := by decide +kernel
theorem dX9_find_53 : decode cX9_find 53 = .ok (.iload_n 1, 1) := by decide +kernel
theorem dX9_find_54 : decode cX9_find 54 = .ok (.iload_n 2, 1) := by decide +kernel
theorem dX9_find_55 : decode cX9_find 55 = .ok (.invokevirtual 202, 3) := by decide +kernel
theorem dX9_find_58 : decode cX9_find 58 = .ok (.ifCond .eq 7, 3) := by decide +kernel
theorem dX9_find_61 : decode cX9_find 61 = .ok (.iconst 2, 1) := by decide +kernel
theorem dX9_find_62 : decode cX9_find 62 = .ok (.goto 4, 3) := by decide +kernel
theorem dX9_find_65 : decode cX9_find 65 = .ok (.iconst 0, 1) := by decide +kernel
theorem dX9_find_66 : decode cX9_find 66 = .ok (.ior, 1) := by decide +kernel
theorem dX9_find_67 : decode cX9_find 67 = .ok (.istore_n 3, 1) := by decide +kernel
theorem dX9_find_68 : decode cX9_find 68 = .ok (.iload_n 3, 1) := by decide +kernel
theorem dX9_find_69 : decode cX9_find 69 = .ok (.aload_n 0, 1) := by decide +kernel
theorem dX9_find_70 : decode cX9_find 70 = .ok (.sipush 1111, 3) := by decide +kernel
theorem dX9_find_73 : decode cX9_find 73 = .ok (.aload_n 0, 1) := by decide +kernel
theorem dX9_find_74 : decode cX9_find 74 = .ok (.getfield 7, 3) := by decide +kernel
theorem dX9_find_77 : decode cX9_find 77 = .ok (.bipush 53, 2) := by decide +kernel
theorem dX9_find_79 : decode cX9_find 79 = .ok (.iaload, 1) := by decide +kernel
theorem dX9_find_80 : decode cX9_find 80 = .ok (.iload_n 1, 1) := by decide +kernel
theorem dX9_find_81 : decode cX9_find 81 = .ok (.iload_n 2, 1) := by decide +kernel
theorem dX9_find_82 : decode cX9_find 82 = .ok (.invokevirtual 202, 3) := by decide +kernel
theorem dX9_find_85 : decode cX9_find 85 = .ok (.ifCond .eq 7, 3) := by decide +kernel
theorem dX9_find_88 : decode cX9_find 88 = .ok (.iconst 4, 1) := by decide +kernel
theorem dX9_find_89 : decode cX9_find 89 = .ok (.goto 4, 3) := by decide +kernel
theorem dX9_find_92 : decode cX9_find 92 = .ok (.iconst 0, 1) := by decide +kernel
theorem dX9_find_93 : decode cX9_find 93 = .ok (.ior, 1) := by decide +kernel
theorem dX9_find_94 : decode cX9_find 94 = .ok (.istore_n 3, 1) := by decide +kernel
theorem dX9_find_95 : decode cX9_find 95 = .ok (.iconst 0, 1) := by decide +kernel
theorem dX9_find_96 : decode cX9_find 96 = .ok (.istore 4, 2) := by decide +kernel
theorem dX9_find_98 : decode cX9_find 98 = .ok (.iload 4, 2) := by decide +kernel
theorem dX9_find_100 : decode cX9_find 100 = .ok (.aload_n 0, 1) := by decide +kernel
theorem dX9_find_101 : decode cX9_find 101 = .ok (.getfield 7, 3) := by decide +kernel
theorem dX9_find_104 : decode cX9_find 104 = .ok (.bipush 54, 2) := by decide +kernel
theorem dX9_find_106 : decode cX9_find 106 = .ok (.iaload, 1) := by decide +kernel
theorem dX9_find_107 : decode cX9_find 107 = .ok (.if_icmp .ge 52, 3) := by decide +kernel
theorem dX9_find_110 : decode cX9_find 110 = .ok (.sipush 1911, 3) := by decide +kernel
theorem dX9_find_113 : decode cX9_find 113 = .ok (.iconst 5, 1) := by decide +kernel
theorem dX9_find_114 : decode cX9_find 114 = .ok (.iload 4, 2) := by decide +kernel
theorem dX9_find_116 : decode cX9_find 116 = .ok (.imul, 1) := by decide +kernel
theorem dX9_find_117 : decode cX9_find 117 = .ok (.iadd, 1) := by decide +kernel
theorem dX9_find_118 : decode cX9_find 118 = .ok (.istore 5, 2) := by decide +kernel
theorem dX9_find_120 : decode cX9_find 120 = .ok (.iload_n 3, 1) := by decide +kernel
theorem dX9_find_121 : decode cX9_find 121 = .ok (.aload_n 0, 1) := by decide +kernel
theorem dX9_find_122 : decode cX9_find 122 = .ok (.getfield 7, 3) := by decide +kernel
theorem dX9_find_125 : decode cX9_find 125 = .ok (.iload 5, 2) := by decide +kernel
theorem dX9_find_127 : decode cX9_find 127 = .ok (.iconst 4, 1) := by decide +kernel
theorem dX9_find_128 : decode cX9_find 128 = .ok (.iadd, 1) := by decide +kernel
theorem dX9_find_129 : decode cX9_find 129 = .ok (.iaload, 1) := by decide +kernel
theorem dX9_find_130 : decode cX9_find 130 = .ok (.iconst 3, 1) := by decide +kernel
theorem dX9_find_131 : decode cX9_find 131 = .ok (.if_icmp .ge 19, 3) := by decide +kernel
theorem dX9_find_134 : decode cX9_find 134 = .ok (.aload_n 0, 1) := by decide +kernel
theorem dX9_find_135 : decode cX9_find 135 = .ok (.iload 5, 2) := by decide +kernel
theorem dX9_find_137 : decode cX9_find 137 = .ok (.iload_n 1, 1) := by decide +kernel
theorem dX9_find_138 : decode cX9_find 138 = .ok (.iload_n 2, 1) := by decide +kernel
theorem dX9_find_139 : decode cX9_find 139 = .ok (.invokevirtual 199, 3) := by decide +kernel
theorem dX9_find_142 : decode cX9_find 142 = .ok (.ifCond .eq 8, 3) := by decide +kernel
theorem dX9_find_145 : decode cX9_find 145 = .ok (.bipush 8, 2) := by decide +kernel
theorem dX9_find_147 : decode cX9_find 147 = .ok (.goto 4, 3) := by decide +kernel
theorem dX9_find_150 : decode cX9_find 150 = .ok (.iconst 0, 1) := by decide +kernel
theorem dX9_find_151 : decode cX9_find 151 = .ok (.ior, 1) := by decide +kernel
theorem dX9_find_152 : decode cX9_find 152 = .ok (.istore_n 3, 1) := by decide +kernel
theorem dX9_find_153 : decode cX9_find 153 = .ok (.iinc 4 1, 3) := by decide +kernel
theorem dX9_find_156 : decode cX9_find 156 = .ok (.goto (-58), 3) := by decide +kernel
theorem dX9_find_159 : decode cX9_find 159 = .ok (.iload_n 3, 1) := by decide +kernel
theorem dX9_find_160 : decode cX9_find 160 = .ok (.ireturn, 1) := by decide +kernel
theorem dX9_keep_0 : decode cX9_keep 0 = .ok (.iload_n 1, 1) := by decide +kernel
theorem dX9_keep_1 : decode cX9_keep 1 = .ok (.iconst 0, 1) := by decide +kernel
theorem dX9_keep_2 : decode cX9_keep 2 = .ok (.iconst 1, 1) := by decide +kernel
theorem dX9_keep_3 : decode cX9_keep 3 = .ok (.invokestatic 116, 3) := by decide +kernel
theorem dX9_keep_6 : decode cX9_keep 6 = .ok (.ifCond .ne 6, 3) := by decide +kernel
theorem dX9_keep_9 : decode cX9_keep 9 = .ok (.ldc 125, 2) := by decide +kernel
theorem dX9_keep_11 : decode cX9_keep 11 = .ok (.ireturn, 1) := by decide +kernel
theorem dX9_keep_12 : decode cX9_keep 12 = .ok (.iconst 0, 1) := by decide +kernel
theorem dX9_keep_13 : decode cX9_keep 13 = .ok (.istore_n 2, 1) := by decide +kernel
theorem dX9_keep_14 : decode cX9_keep 14 = .ok (.iload_n 2, 1) := by decide +kernel
theorem dX9_keep_15 : decode cX9_keep 15 = .ok (.sipush 2911, 3) := by decide +kernel
theorem dX9_keep_18 : decode cX9_keep 18 = .ok (.if_icmp .ge 27, 3) := by decide +kernel
theorem dX9_keep_21 : decode cX9_keep 21 = .ok (.aload_n 0, 1) := by decide +kernel
theorem dX9_keep_22 : decode cX9_keep 22 = .ok (.getfield 13, 3) := by decide +kernel
theorem dX9_keep_25 : decode cX9_keep 25 = .ok (.sipush 2911, 3) := by decide +kernel
theorem dX9_keep_28 : decode cX9_keep 28 = .ok (.iload_n 1, 1) := by decide +kernel
theorem dX9_keep_29 : decode cX9_keep 29 = .ok (.imul, 1) := by decide +kernel
theorem dX9_keep_30 : decode cX9_keep 30 = .ok (.iload_n 2, 1) := by decide +kernel
theorem dX9_keep_31 : decode cX9_keep 31 = .ok (.iadd, 1) := by decide +kernel
theorem dX9_keep_32 : decode cX9_keep 32 = .ok (.aload_n 0, 1) := by decide +kernel
theorem dX9_keep_33 : decode cX9_keep 33 = .ok (.getfield 7, 3) := by decide +kernel
theorem dX9_keep_36 : decode cX9_keep 36 = .ok (.iload_n 2, 1) := by decide +kernel
theorem dX9_keep_37 : decode cX9_keep 37 = .ok (.iaload, 1) := by decide +kernel
theorem dX9_keep_38 : decode cX9_keep 38 = .ok (.iastore, 1) := by decide +kernel
theorem dX9_keep_39 : decode cX9_keep 39 = .ok (.iinc 2 1, 3) := by decide +kernel
theorem dX9_keep_42 : decode cX9_keep 42 = .ok (.goto (-28), 3) := by decide +kernel
theorem dX9_keep_45 : decode cX9_keep 45 = .ok (.aload_n 0, 1) := by decide +kernel
theorem dX9_keep_46 : decode cX9_keep 46 = .ok (.getfield 16, 3) := by decide +kernel
theorem dX9_keep_49 : decode cX9_keep 49 = .ok (.iload_n 1, 1) := by decide +kernel
theorem dX9_keep_50 : decode cX9_keep 50 = .ok (.iconst 1, 1) := by decide +kernel
theorem dX9_keep_51 : decode cX9_keep 51 = .ok (.iastore, 1) := by decide +kernel
theorem dX9_keep_52 : decode cX9_keep 52 = .ok (.aload_n 0, 1) := by decide +kernel
theorem dX9_keep_53 : decode cX9_keep 53 = .ok (.getfield 7, 3) := by decide +kernel
theorem dX9_keep_56 : decode cX9_keep 56 = .ok (.bipush 54, 2) := by decide +kernel
theorem dX9_keep_58 : decode cX9_keep 58 = .ok (.iaload, 1) := by decide +kernel
theorem dX9_keep_59 : decode cX9_keep 59 = .ok (.ireturn, 1) := by decide +kernel
theorem dX9_back_0 : decode cX9_back 0 = .ok (.iload_n 1, 1) := by decide +kernel
theorem dX9_back_1 : decode cX9_back 1 = .ok (.iconst 0, 1) := by decide +kernel
theorem dX9_back_2 : decode cX9_back 2 = .ok (.iconst 1, 1) := by decide +kernel
theorem dX9_back_3 : decode cX9_back 3 = .ok (.invokestatic 116, 3) := by decide +kernel
theorem dX9_back_6 : decode cX9_back 6 = .ok (.ifCond .ne 6, 3) := by decide +kernel
theorem dX9_back_9 : decode cX9_back 9 = .ok (.ldc 125, 2) := by decide +kernel
theorem dX9_back_11 : decode cX9_back 11 = .ok (.ireturn, 1) := by decide +kernel
theorem dX9_back_12 : decode cX9_back 12 = .ok (.aload_n 0, 1) := by decide +kernel
theorem dX9_back_13 : decode cX9_back 13 = .ok (.getfield 16, 3) := by decide +kernel
theorem dX9_back_16 : decode cX9_back 16 = .ok (.iload_n 1, 1) := by decide +kernel
theorem dX9_back_17 : decode cX9_back 17 = .ok (.iaload, 1) := by decide +kernel
theorem dX9_back_18 : decode cX9_back 18 = .ok (.ifCond .ne 6, 3) := by decide +kernel
theorem dX9_back_21 : decode cX9_back 21 = .ok (.ldc 149, 2) := by decide +kernel
theorem dX9_back_23 : decode cX9_back 23 = .ok (.ireturn, 1) := by decide +kernel
theorem dX9_back_24 : decode cX9_back 24 = .ok (.iconst 0, 1) := by decide +kernel
theorem dX9_back_25 : decode cX9_back 25 = .ok (.istore_n 2, 1) := by decide +kernel
theorem dX9_back_26 : decode cX9_back 26 = .ok (.iload_n 2, 1) := by decide +kernel
theorem dX9_back_27 : decode cX9_back 27 = .ok (.sipush 2911, 3) := by decide +kernel
theorem dX9_back_30 : decode cX9_back 30 = .ok (.if_icmp .ge 27, 3) := by decide +kernel
theorem dX9_back_33 : decode cX9_back 33 = .ok (.aload_n 0, 1) := by decide +kernel
theorem dX9_back_34 : decode cX9_back 34 = .ok (.getfield 7, 3) := by decide +kernel
theorem dX9_back_37 : decode cX9_back 37 = .ok (.iload_n 2, 1) := by decide +kernel
theorem dX9_back_38 : decode cX9_back 38 = .ok (.aload_n 0, 1) := by decide +kernel
theorem dX9_back_39 : decode cX9_back 39 = .ok (.getfield 13, 3) := by decide +kernel
theorem dX9_back_42 : decode cX9_back 42 = .ok (.sipush 2911, 3) := by decide +kernel
theorem dX9_back_45 : decode cX9_back 45 = .ok (.iload_n 1, 1) := by decide +kernel
theorem dX9_back_46 : decode cX9_back 46 = .ok (.imul, 1) := by decide +kernel
theorem dX9_back_47 : decode cX9_back 47 = .ok (.iload_n 2, 1) := by decide +kernel
theorem dX9_back_48 : decode cX9_back 48 = .ok (.iadd, 1) := by decide +kernel
theorem dX9_back_49 : decode cX9_back 49 = .ok (.iaload, 1) := by decide +kernel
theorem dX9_back_50 : decode cX9_back 50 = .ok (.iastore, 1) := by decide +kernel
theorem dX9_back_51 : decode cX9_back 51 = .ok (.iinc 2 1, 3) := by decide +kernel
theorem dX9_back_54 : decode cX9_back 54 = .ok (.goto (-28), 3) := by decide +kernel
theorem dX9_back_57 : decode cX9_back 57 = .ok (.aload_n 0, 1) := by decide +kernel
theorem dX9_back_58 : decode cX9_back 58 = .ok (.getfield 7, 3) := by decide +kernel
theorem dX9_back_61 : decode cX9_back 61 = .ok (.bipush 54, 2) := by decide +kernel
theorem dX9_back_63 : decode cX9_back 63 = .ok (.iaload, 1) := by decide +kernel
theorem dX9_back_64 : decode cX9_back 64 = .ok (.ireturn, 1) := by decide +kernel
theorem dX9_write_0 : decode cX9_write 0 = .ok (.iload_n 1, 1) := by decide +kernel
theorem dX9_write_1 : decode cX9_write 1 = .ok (.iconst 0, 1) := by decide +kernel
theorem dX9_write_2 : decode cX9_write 2 = .ok (.sipush 255, 3) := by decide +kernel
theorem dX9_write_5 : decode cX9_write 5 = .ok (.invokestatic 116, 3) := by decide +kernel
theorem dX9_write_8 : decode cX9_write 8 = .ok (.ifCond .ne 6, 3) := by decide +kernel
theorem dX9_write_11 : decode cX9_write 11 = .ok (.ldc 125, 2) := by decide +kernel
theorem dX9_write_13 : decode cX9_write 13 = .ok (.ireturn, 1) := by decide +kernel
theorem dX9_write_14 : decode cX9_write 14 = .ok (.aload_n 0, 1) := by decide +kernel
theorem dX9_write_15 : decode cX9_write 15 = .ok (.getfield 205, 3) := by decide +kernel
theorem dX9_write_18 : decode cX9_write 18 = .ok (.sipush 200, 3) := by decide +kernel
theorem dX9_write_21 : decode cX9_write 21 = .ok (.if_icmp .ne 6, 3) := by decide +kernel
theorem dX9_write_24 : decode cX9_write 24 = .ok (.ldc 181, 2) := by decide +kernel
theorem dX9_write_26 : decode cX9_write 26 = .ok (.ireturn, 1) := by decide +kernel
theorem dX9_write_27 : decode cX9_write 27 = .ok (.aload_n 0, 1) := by decide +kernel
theorem dX9_write_28 : decode cX9_write 28 = .ok (.getfield 41, 3) := by decide +kernel
theorem dX9_write_31 : decode cX9_write 31 = .ok (.aload_n 0, 1) := by decide +kernel
theorem dX9_write_32 : decode cX9_write 32 = .ok (.getfield 205, 3) := by decide +kernel
theorem dX9_write_35 : decode cX9_write 35 = .ok (.iload_n 1, 1) := by decide +kernel
theorem dX9_write_36 : decode cX9_write 36 = .ok (.iastore, 1) := by decide +kernel
theorem dX9_write_37 : decode cX9_write 37 = .ok (.aload_n 0, 1) := by decide +kernel
theorem dX9_write_38 : decode cX9_write 38 = .ok (.dup, 1) := by decide +kernel
theorem dX9_write_39 : decode cX9_write 39 = .ok (.getfield 205, 3) := by decide +kernel
theorem dX9_write_42 : decode cX9_write 42 = .ok (.iconst 1, 1) := by decide +kernel
theorem dX9_write_43 : decode cX9_write 43 = .ok (.iadd, 1) := by decide +kernel
theorem dX9_write_44 : decode cX9_write 44 = .ok (.putfield 205, 3) := by decide +kernel
theorem dX9_write_47 : decode cX9_write 47 = .ok (.aload_n 0, 1) := by decide +kernel
theorem dX9_write_48 : decode cX9_write 48 = .ok (.getfield 205, 3) := by decide +kernel
theorem dX9_write_51 : decode cX9_write 51 = .ok (.ireturn, 1) := by decide +kernel
theorem dX9_erase_0 : decode cX9_erase 0 = .ok (.aload_n 0, 1) := by decide +kernel
theorem dX9_erase_1 : decode cX9_erase 1 = .ok (.getfield 205, 3) := by decide +kernel
theorem dX9_erase_4 : decode cX9_erase 4 = .ok (.istore_n 1, 1) := by decide +kernel
theorem dX9_erase_5 : decode cX9_erase 5 = .ok (.aload_n 0, 1) := by decide +kernel
theorem dX9_erase_6 : decode cX9_erase 6 = .ok (.iconst 0, 1) := by decide +kernel
theorem dX9_erase_7 : decode cX9_erase 7 = .ok (.putfield 205, 3) := by decide +kernel
theorem dX9_erase_10 : decode cX9_erase 10 = .ok (.iload_n 1, 1) := by decide +kernel
theorem dX9_erase_11 : decode cX9_erase 11 = .ok (.ireturn, 1) := by decide +kernel
theorem dX9_isLetter_0 : decode cX9_isLetter 0 = .ok (.iload_n 1, 1) := by decide +kernel
theorem dX9_isLetter_1 : decode cX9_isLetter 1 = .ok (.aload_n 0, 1) := by decide +kernel
theorem dX9_isLetter_2 : decode cX9_isLetter 2 = .ok (.getfield 205, 3) := by decide +kernel
theorem dX9_isLetter_5 : decode cX9_isLetter 5 = .ok (.if_icmp .ge 23, 3) := by decide +kernel
theorem dX9_isLetter_8 : decode cX9_isLetter 8 = .ok (.aload_n 0, 1) := by decide +kernel
theorem dX9_isLetter_9 : decode cX9_isLetter 9 = .ok (.getfield 41, 3) := by decide +kernel
theorem dX9_isLetter_12 : decode cX9_isLetter 12 = .ok (.iload_n 1, 1) := by decide +kernel
theorem dX9_isLetter_13 : decode cX9_isLetter 13 = .ok (.iaload, 1) := by decide +kernel
theorem dX9_isLetter_14 : decode cX9_isLetter 14 = .ok (.bipush 97, 2) := by decide +kernel
theorem dX9_isLetter_16 : decode cX9_isLetter 16 = .ok (.bipush 122, 2) := by decide +kernel
theorem dX9_isLetter_18 : decode cX9_isLetter 18 = .ok (.invokestatic 116, 3) := by decide +kernel
theorem dX9_isLetter_21 : decode cX9_isLetter 21 = .ok (.ifCond .eq 7, 3) := by decide +kernel
theorem dX9_isLetter_24 : decode cX9_isLetter 24 = .ok (.iconst 1, 1) := by decide +kernel
theorem dX9_isLetter_25 : decode cX9_isLetter 25 = .ok (.goto 4, 3) := by decide +kernel
theorem dX9_isLetter_28 : decode cX9_isLetter 28 = .ok (.iconst 0, 1) := by decide +kernel
theorem dX9_isLetter_29 : decode cX9_isLetter 29 = .ok (.ireturn, 1) := by decide +kernel
theorem dX9_isFigure_0 : decode cX9_isFigure 0 = .ok (.iload_n 1, 1) := by decide +kernel
theorem dX9_isFigure_1 : decode cX9_isFigure 1 = .ok (.aload_n 0, 1) := by decide +kernel
theorem dX9_isFigure_2 : decode cX9_isFigure 2 = .ok (.getfield 205, 3) := by decide +kernel
theorem dX9_isFigure_5 : decode cX9_isFigure 5 = .ok (.if_icmp .ge 23, 3) := by decide +kernel
theorem dX9_isFigure_8 : decode cX9_isFigure 8 = .ok (.aload_n 0, 1) := by decide +kernel
theorem dX9_isFigure_9 : decode cX9_isFigure 9 = .ok (.getfield 41, 3) := by decide +kernel
theorem dX9_isFigure_12 : decode cX9_isFigure 12 = .ok (.iload_n 1, 1) := by decide +kernel
theorem dX9_isFigure_13 : decode cX9_isFigure 13 = .ok (.iaload, 1) := by decide +kernel
theorem dX9_isFigure_14 : decode cX9_isFigure 14 = .ok (.bipush 48, 2) := by decide +kernel
theorem dX9_isFigure_16 : decode cX9_isFigure 16 = .ok (.bipush 57, 2) := by decide +kernel
theorem dX9_isFigure_18 : decode cX9_isFigure 18 = .ok (.invokestatic 116, 3) := by decide +kernel
theorem dX9_isFigure_21 : decode cX9_isFigure 21 = .ok (.ifCond .eq 7, 3) := by decide +kernel
theorem dX9_isFigure_24 : decode cX9_isFigure 24 = .ok (.iconst 1, 1) := by decide +kernel
theorem dX9_isFigure_25 : decode cX9_isFigure 25 = .ok (.goto 4, 3) := by decide +kernel
theorem dX9_isFigure_28 : decode cX9_isFigure 28 = .ok (.iconst 0, 1) := by decide +kernel
theorem dX9_isFigure_29 : decode cX9_isFigure 29 = .ok (.ireturn, 1) := by decide +kernel
theorem dX9_looks_0 : decode cX9_looks 0 = .ok (.aload_n 0, 1) := by decide +kernel
theorem dX9_looks_1 : decode cX9_looks 1 = .ok (.getfield 209, 3) := by decide +kernel
theorem dX9_looks_4 : decode cX9_looks 4 = .ok (.aload_n 0, 1) := by decide +kernel
theorem dX9_looks_5 : decode cX9_looks 5 = .ok (.getfield 205, 3) := by decide +kernel
theorem dX9_looks_8 : decode cX9_looks 8 = .ok (.if_icmp .ge 30, 3) := by decide +kernel
theorem dX9_looks_11 : decode cX9_looks 11 = .ok (.aload_n 0, 1) := by decide +kernel
theorem dX9_looks_12 : decode cX9_looks 12 = .ok (.getfield 41, 3) := by decide +kernel
theorem dX9_looks_15 : decode cX9_looks 15 = .ok (.aload_n 0, 1) := by decide +kernel
theorem dX9_looks_16 : decode cX9_looks 16 = .ok (.getfield 209, 3) := by decide +kernel
theorem dX9_looks_19 : decode cX9_looks 19 = .ok (.iaload, 1) := by decide +kernel
theorem dX9_looks_20 : decode cX9_looks 20 = .ok (.bipush 32, 2) := by decide +kernel
theorem dX9_looks_22 : decode cX9_looks 22 = .ok (.if_icmp .ne 16, 3) := by decide +kernel
theorem dX9_looks_25 : decode cX9_looks 25 = .ok (.aload_n 0, 1) := by decide +kernel
theorem dX9_looks_26 : decode cX9_looks 26 = .ok (.dup, 1) := by decide +kernel
theorem dX9_looks_27 : decode cX9_looks 27 = .ok (.getfield 209, 3) := by decide +kernel
theorem dX9_looks_30 : decode cX9_looks 30 = .ok (.iconst 1, 1) := by decide +kernel
theorem dX9_looks_31 : decode cX9_looks 31 = .ok (.iadd, 1) := by decide +kernel
theorem dX9_looks_32 : decode cX9_looks 32 = .ok (.putfield 209, 3) := by decide +kernel
theorem dX9_looks_35 : decode cX9_looks 35 = .ok (.goto (-35), 3) := by decide +kernel
theorem dX9_looks_38 : decode cX9_looks 38 = .ok (.aload_n 0, 1) := by decide +kernel
theorem dX9_looks_39 : decode cX9_looks 39 = .ok (.aload_n 0, 1) := by decide +kernel
theorem dX9_looks_40 : decode cX9_looks 40 = .ok (.getfield 209, 3) := by decide +kernel
theorem dX9_looks_43 : decode cX9_looks 43 = .ok (.aload_n 0, 1) := by decide +kernel
theorem dX9_looks_44 : decode cX9_looks 44 = .ok (.getfield 205, 3) := by decide +kernel
theorem dX9_looks_47 : decode cX9_looks 47 = .ok (.if_icmp .ge 7, 3) := by decide +kernel
theorem dX9_looks_50 : decode cX9_looks 50 = .ok (.iconst 1, 1) := by decide +kernel
theorem dX9_looks_51 : decode cX9_looks 51 = .ok (.goto 4, 3) := by decide +kernel
theorem dX9_looks_54 : decode cX9_looks 54 = .ok (.iconst 0, 1) := by decide +kernel
theorem dX9_looks_55 : decode cX9_looks 55 = .ok (.putfield 212, 3) := by decide +kernel
theorem dX9_looks_58 : decode cX9_looks 58 = .ok (.aload_n 0, 1) := by decide +kernel
theorem dX9_looks_59 : decode cX9_looks 59 = .ok (.aload_n 0, 1) := by decide +kernel
theorem dX9_looks_60 : decode cX9_looks 60 = .ok (.getfield 209, 3) := by decide +kernel
theorem dX9_looks_63 : decode cX9_looks 63 = .ok (.invokevirtual 215, 3) := by decide +kernel
theorem dX9_looks_66 : decode cX9_looks 66 = .ok (.ifCond .eq 19, 3) := by decide +kernel
theorem dX9_looks_69 : decode cX9_looks 69 = .ok (.aload_n 0, 1) := by decide +kernel
theorem dX9_looks_70 : decode cX9_looks 70 = .ok (.aload_n 0, 1) := by decide +kernel
theorem dX9_looks_71 : decode cX9_looks 71 = .ok (.getfield 209, 3) := by decide +kernel
theorem dX9_looks_74 : decode cX9_looks 74 = .ok (.aload_n 0, 1) := by decide +kernel
theorem dX9_looks_75 : decode cX9_looks 75 = .ok (.getfield 212, 3) := by decide +kernel
theorem dX9_looks_78 : decode cX9_looks 78 = .ok (.iadd, 1) := by decide +kernel
theorem dX9_looks_79 : decode cX9_looks 79 = .ok (.invokevirtual 215, 3) := by decide +kernel
theorem dX9_looks_82 : decode cX9_looks 82 = .ok (.ifCond .ne 30, 3) := by decide +kernel
theorem dX9_looks_85 : decode cX9_looks 85 = .ok (.aload_n 0, 1) := by decide +kernel
theorem dX9_looks_86 : decode cX9_looks 86 = .ok (.aload_n 0, 1) := by decide +kernel
theorem dX9_looks_87 : decode cX9_looks 87 = .ok (.getfield 209, 3) := by decide +kernel
theorem dX9_looks_90 : decode cX9_looks 90 = .ok (.invokevirtual 218, 3) := by decide +kernel
theorem dX9_looks_93 : decode cX9_looks 93 = .ok (.ifCond .eq 32, 3) := by decide +kernel
theorem dX9_looks_96 : decode cX9_looks 96 = .ok (.aload_n 0, 1) := by decide +kernel
theorem dX9_looks_97 : decode cX9_looks 97 = .ok (.aload_n 0, 1) := by decide +kernel
theorem dX9_looks_98 : decode cX9_looks 98 = .ok (.getfield 209, 3) := by decide +kernel
theorem dX9_looks_101 : decode cX9_looks 101 = .ok (.aload_n 0, 1) := by decide +kernel
theorem dX9_looks_102 : decode cX9_looks 102 = .ok (.getfield 212, 3) := by decide +kernel
theorem dX9_looks_105 : decode cX9_looks 105 = .ok (.iadd, 1) := by decide +kernel
theorem dX9_looks_106 : decode cX9_looks 106 = .ok (.invokevirtual 218, 3) := by decide +kernel
theorem dX9_looks_109 : decode cX9_looks 109 = .ok (.ifCond .eq 16, 3) := by decide +kernel
theorem dX9_looks_112 : decode cX9_looks 112 = .ok (.aload_n 0, 1) := by decide +kernel
theorem dX9_looks_113 : decode cX9_looks 113 = .ok (.dup, 1) := by decide +kernel
theorem dX9_looks_114 : decode cX9_looks 114 = .ok (.getfield 212, 3) := by decide +kernel
theorem dX9_looks_117 : decode cX9_looks 117 = .ok (.iconst 1, 1) := by decide +kernel
theorem dX9_looks_118 : decode cX9_looks 118 = .ok (.iadd, 1) := by decide +kernel
theorem dX9_looks_119 : decode cX9_looks 119 = .ok (.putfield 212, 3) := by decide +kernel
theorem dX9_looks_122 : decode cX9_looks 122 = .ok (.goto (-64), 3) := by decide +kernel
theorem dX9_looks_125 : decode cX9_looks 125 = .ok (.aload_n 0, 1) := by decide +kernel
theorem dX9_looks_126 : decode cX9_looks 126 = .ok (.getfield 209, 3) := by decide +kernel
theorem dX9_looks_129 : decode cX9_looks 129 = .ok (.aload_n 0, 1) := by decide +kernel
theorem dX9_looks_130 : decode cX9_looks 130 = .ok (.getfield 205, 3) := by decide +kernel
theorem dX9_looks_133 : decode cX9_looks 133 = .ok (.if_icmp .ge 15, 3) := by decide +kernel
theorem dX9_looks_136 : decode cX9_looks 136 = .ok (.aload_n 0, 1) := by decide +kernel
theorem dX9_looks_137 : decode cX9_looks 137 = .ok (.getfield 41, 3) := by decide +kernel
theorem dX9_looks_140 : decode cX9_looks 140 = .ok (.aload_n 0, 1) := by decide +kernel
theorem dX9_looks_141 : decode cX9_looks 141 = .ok (.getfield 209, 3) := by decide +kernel
theorem dX9_looks_144 : decode cX9_looks 144 = .ok (.iaload, 1) := by decide +kernel
theorem dX9_looks_145 : decode cX9_looks 145 = .ok (.goto 4, 3) := by decide +kernel
theorem dX9_looks_148 : decode cX9_looks 148 = .ok (.iconst (-1), 1) := by decide +kernel
theorem dX9_looks_149 : decode cX9_looks 149 = .ok (.ireturn, 1) := by decide +kernel
theorem dX9_takes_0 : decode cX9_takes 0 = .ok (.aload_n 0, 1) := by decide +kernel
theorem dX9_takes_1 : decode cX9_takes 1 = .ok (.aload_n 0, 1) := by decide +kernel
theorem dX9_takes_2 : decode cX9_takes 2 = .ok (.getfield 221, 3) := by decide +kernel
theorem dX9_takes_5 : decode cX9_takes 5 = .ok (.ifCond .ne 7, 3) := by decide +kernel
theorem dX9_takes_8 : decode cX9_takes 8 = .ok (.iload_n 1, 1) := by decide +kernel
theorem dX9_takes_9 : decode cX9_takes 9 = .ok (.ifCond .ne 7, 3) := by decide +kernel
theorem dX9_takes_12 : decode cX9_takes 12 = .ok (.iconst 1, 1) := by decide +kernel
theorem dX9_takes_13 : decode cX9_takes 13 = .ok (.goto 4, 3) := by decide +kernel
theorem dX9_takes_16 : decode cX9_takes 16 = .ok (.iconst 0, 1) := by decide +kernel
theorem dX9_takes_17 : decode cX9_takes 17 = .ok (.putfield 221, 3) := by decide +kernel
theorem dX9_takes_20 : decode cX9_takes 20 = .ok (.aload_n 0, 1) := by decide +kernel
theorem dX9_takes_21 : decode cX9_takes 21 = .ok (.dup, 1) := by decide +kernel
theorem dX9_takes_22 : decode cX9_takes 22 = .ok (.getfield 209, 3) := by decide +kernel
theorem dX9_takes_25 : decode cX9_takes 25 = .ok (.aload_n 0, 1) := by decide +kernel
theorem dX9_takes_26 : decode cX9_takes 26 = .ok (.getfield 221, 3) := by decide +kernel
theorem dX9_takes_29 : decode cX9_takes 29 = .ok (.ifCond .eq 7, 3) := by decide +kernel
theorem dX9_takes_32 : decode cX9_takes 32 = .ok (.iconst 0, 1) := by decide +kernel
theorem dX9_takes_33 : decode cX9_takes 33 = .ok (.goto 7, 3) := by decide +kernel
theorem dX9_takes_36 : decode cX9_takes 36 = .ok (.aload_n 0, 1) := by decide +kernel
theorem dX9_takes_37 : decode cX9_takes 37 = .ok (.getfield 212, 3) := by decide +kernel
theorem dX9_takes_40 : decode cX9_takes 40 = .ok (.iadd, 1) := by decide +kernel
theorem dX9_takes_41 : decode cX9_takes 41 = .ok (.putfield 209, 3) := by decide +kernel
theorem dX9_takes_44 : decode cX9_takes 44 = .ok (.return_, 1) := by decide +kernel
theorem dX9_figures_0 : decode cX9_figures 0 = .ok (.aload_n 0, 1) := by decide +kernel
theorem dX9_figures_1 : decode cX9_figures 1 = .ok (.getfield 221, 3) := by decide +kernel
theorem dX9_figures_4 : decode cX9_figures 4 = .ok (.ifCond .eq 7, 3) := by decide +kernel
theorem dX9_figures_7 : decode cX9_figures 7 = .ok (.iconst 0, 1) := by decide +kernel
theorem dX9_figures_8 : decode cX9_figures 8 = .ok (.goto 7, 3) := by decide +kernel
theorem dX9_figures_11 : decode cX9_figures 11 = .ok (.aload_n 0, 1) := by decide +kernel
theorem dX9_figures_12 : decode cX9_figures 12 = .ok (.invokevirtual 224, 3) := by decide +kernel
theorem dX9_figures_15 : decode cX9_figures 15 = .ok (.istore 4, 2) := by decide +kernel
theorem dX9_figures_17 : decode cX9_figures 17 = .ok (.iconst 0, 1) := by decide +kernel
theorem dX9_figures_18 : decode cX9_figures 18 = .ok (.istore 5, 2) := by decide +kernel
theorem dX9_figures_20 : decode cX9_figures 20 = .ok (.iconst 0, 1) := by decide +kernel
theorem dX9_figures_21 : decode cX9_figures 21 = .ok (.istore 6, 2) := by decide +kernel
theorem dX9_figures_23 : decode cX9_figures 23 = .ok (.iload 6, 2) := by decide +kernel
theorem dX9_figures_25 : decode cX9_figures 25 = .ok (.aload_n 0, 1) := by decide +kernel
theorem dX9_figures_26 : decode cX9_figures 26 = .ok (.getfield 212, 3) := by decide +kernel
theorem dX9_figures_29 : decode cX9_figures 29 = .ok (.if_icmp .ge 52, 3) := by decide +kernel
theorem dX9_figures_32 : decode cX9_figures 32 = .ok (.iload 6, 2) := by decide +kernel
theorem dX9_figures_34 : decode cX9_figures 34 = .ok (.iconst 3, 1) := by decide +kernel
theorem dX9_figures_35 : decode cX9_figures 35 = .ok (.if_icmp .ge 46, 3) := by decide +kernel
theorem dX9_figures_38 : decode cX9_figures 38 = .ok (.aload_n 0, 1) := by decide +kernel
theorem dX9_figures_39 : decode cX9_figures 39 = .ok (.aload_n 0, 1) := by decide +kernel
theorem dX9_figures_40 : decode cX9_figures 40 = .ok (.getfield 209, 3) := by decide +kernel
theorem dX9_figures_43 : decode cX9_figures 43 = .ok (.iload 6, 2) := by decide +kernel
theorem dX9_figures_45 : decode cX9_figures 45 = .ok (.iadd, 1) := by decide +kernel
theorem dX9_figures_46 : decode cX9_figures 46 = .ok (.invokevirtual 218, 3) := by decide +kernel
theorem dX9_figures_49 : decode cX9_figures 49 = .ok (.ifCond .eq 32, 3) := by decide +kernel
theorem dX9_figures_52 : decode cX9_figures 52 = .ok (.bipush 10, 2) := by decide +kernel
theorem dX9_figures_54 : decode cX9_figures 54 = .ok (.iload 5, 2) := by decide +kernel
theorem dX9_figures_56 : decode cX9_figures 56 = .ok (.imul, 1) := by decide +kernel
theorem dX9_figures_57 : decode cX9_figures 57 = .ok (.aload_n 0, 1) := by decide +kernel
theorem dX9_figures_58 : decode cX9_figures 58 = .ok (.getfield 41, 3) := by decide +kernel
theorem dX9_figures_61 : decode cX9_figures 61 = .ok (.aload_n 0, 1) := by decide +kernel
theorem dX9_figures_62 : decode cX9_figures 62 = .ok (.getfield 209, 3) := by decide +kernel
theorem dX9_figures_65 : decode cX9_figures 65 = .ok (.iload 6, 2) := by decide +kernel
theorem dX9_figures_67 : decode cX9_figures 67 = .ok (.iadd, 1) := by decide +kernel
theorem dX9_figures_68 : decode cX9_figures 68 = .ok (.iaload, 1) := by decide +kernel
theorem dX9_figures_69 : decode cX9_figures 69 = .ok (.iadd, 1) := by decide +kernel
theorem dX9_figures_70 : decode cX9_figures 70 = .ok (.bipush 48, 2) := by decide +kernel
theorem dX9_figures_72 : decode cX9_figures 72 = .ok (.isub, 1) := by decide +kernel
theorem dX9_figures_73 : decode cX9_figures 73 = .ok (.istore 5, 2) := by decide +kernel
theorem dX9_figures_75 : decode cX9_figures 75 = .ok (.iinc 6 1, 3) := by decide +kernel
theorem dX9_figures_78 : decode cX9_figures 78 = .ok (.goto (-55), 3) := by decide +kernel
theorem dX9_figures_81 : decode cX9_figures 81 = .ok (.iload_n 3, 1) := by decide +kernel
theorem dX9_figures_82 : decode cX9_figures 82 = .ok (.iload 5, 2) := by decide +kernel
theorem dX9_figures_84 : decode cX9_figures 84 = .ok (.imul, 1) := by decide +kernel
theorem dX9_figures_85 : decode cX9_figures 85 = .ok (.istore 5, 2) := by decide +kernel
theorem dX9_figures_87 : decode cX9_figures 87 = .ok (.aload_n 0, 1) := by decide +kernel
theorem dX9_figures_88 : decode cX9_figures 88 = .ok (.iload 4, 2) := by decide +kernel
theorem dX9_figures_90 : decode cX9_figures 90 = .ok (.bipush 48, 2) := by decide +kernel
theorem dX9_figures_92 : decode cX9_figures 92 = .ok (.bipush 57, 2) := by decide +kernel
theorem dX9_figures_94 : decode cX9_figures 94 = .ok (.invokestatic 116, 3) := by decide +kernel
theorem dX9_figures_97 : decode cX9_figures 97 = .ok (.ifCond .eq 25, 3) := by decide +kernel
theorem dX9_figures_100 : decode cX9_figures 100 = .ok (.aload_n 0, 1) := by decide +kernel
theorem dX9_figures_101 : decode cX9_figures 101 = .ok (.getfield 212, 3) := by decide +kernel
theorem dX9_figures_104 : decode cX9_figures 104 = .ok (.iconst 4, 1) := by decide +kernel
theorem dX9_figures_105 : decode cX9_figures 105 = .ok (.if_icmp .ge 17, 3) := by decide +kernel
theorem dX9_figures_108 : decode cX9_figures 108 = .ok (.iload 5, 2) := by decide +kernel
theorem dX9_figures_110 : decode cX9_figures 110 = .ok (.iload_n 1, 1) := by decide +kernel
theorem dX9_figures_111 : decode cX9_figures 111 = .ok (.iload_n 2, 1) := by decide +kernel
theorem dX9_figures_112 : decode cX9_figures 112 = .ok (.invokestatic 116, 3) := by decide +kernel
theorem dX9_figures_115 : decode cX9_figures 115 = .ok (.ifCond .eq 7, 3) := by decide +kernel
theorem dX9_figures_118 : decode cX9_figures 118 = .ok (.iconst 1, 1) := by decide +kernel
theorem dX9_figures_119 : decode cX9_figures 119 = .ok (.goto 4, 3) := by decide +kernel
theorem dX9_figures_122 : decode cX9_figures 122 = .ok (.iconst 0, 1) := by decide +kernel
theorem dX9_figures_123 : decode cX9_figures 123 = .ok (.invokevirtual 227, 3) := by decide +kernel
theorem dX9_figures_126 : decode cX9_figures 126 = .ok (.iload 5, 2) := by decide +kernel
theorem dX9_figures_128 : decode cX9_figures 128 = .ok (.ireturn, 1) := by decide +kernel
theorem dX9_signed_0 : decode cX9_signed 0 = .ok (.aload_n 0, 1) := by decide +kernel
theorem dX9_signed_1 : decode cX9_signed 1 = .ok (.getfield 221, 3) := by decide +kernel
theorem dX9_signed_4 : decode cX9_signed 4 = .ok (.ifCond .ne 16, 3) := by decide +kernel
theorem dX9_signed_7 : decode cX9_signed 7 = .ok (.aload_n 0, 1) := by decide +kernel
theorem dX9_signed_8 : decode cX9_signed 8 = .ok (.invokevirtual 224, 3) := by decide +kernel
theorem dX9_signed_11 : decode cX9_signed 11 = .ok (.bipush 45, 2) := by decide +kernel
theorem dX9_signed_13 : decode cX9_signed 13 = .ok (.if_icmp .ne 7, 3) := by decide +kernel
theorem dX9_signed_16 : decode cX9_signed 16 = .ok (.iconst 1, 1) := by decide +kernel
theorem dX9_signed_17 : decode cX9_signed 17 = .ok (.goto 4, 3) := by decide +kernel
