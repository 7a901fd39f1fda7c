theorem dX6_part_96 : decode cX6_part 96 = .ok (.aload_n 0, 1) := by decide +kernel
theorem dX6_part_97 : decode cX6_part 97 = .ok (.getfield 26, 3) := by decide +kernel
theorem dX6_part_100 : decode cX6_part 100 = .ok (.aload_n 1, 1) := by decide +kernel
theorem dX6_part_101 : decode cX6_part 101 = .ok (.getfield 156, 3) := by decide +kernel
theorem dX6_part_104 : decode cX6_part 104 = .ok (.l2i, 1) := by decide +kernel
theorem dX6_part_105 : decode cX6_part 105 = .ok (.aload_n 1, 1) := by decide +kernel
theorem dX6_part_106 : decode cX6_part 106 = .ok (.getfield 160, 3) := by decide +kernel
theorem dX6_part_109 : decode cX6_part 109 = .ok (.l2i, 1) := by decide +kernel
theorem dX6_part_110 : decode cX6_part 110 = .ok (.iload_n 3, 1) := by decide +kernel
theorem dX6_part_111 : decode cX6_part 111 = .ok (.aload_n 2, 1) := by decide +kernel
theorem dX6_part_112 : decode cX6_part 112 = .ok (.getfield 160, 3) := by decide +kernel
theorem dX6_part_115 : decode cX6_part 115 = .ok (.l2i, 1) := by decide +kernel
theorem dX6_part_116 : decode cX6_part 116 = .ok (.invokevirtual 53, 3) := by decide +kernel
theorem dX6_part_119 : decode cX6_part 119 = .ok (.return_, 1) := by decide +kernel
theorem dX7_init_0 : decode cX7_init 0 = .ok (.aload_n 0, 1) := by decide +kernel
theorem dX7_init_1 : decode cX7_init 1 = .ok (.invokespecial 3, 3) := by decide +kernel
theorem dX7_init_4 : decode cX7_init 4 = .ok (.aload_n 0, 1) := by decide +kernel
theorem dX7_init_5 : decode cX7_init 5 = .ok (.sipush 200, 3) := by decide +kernel
theorem dX7_init_8 : decode cX7_init 8 = .ok (.newarray .int, 2) := by decide +kernel
theorem dX7_init_10 : decode cX7_init 10 = .ok (.putfield 9, 3) := by decide +kernel
theorem dX7_init_13 : decode cX7_init 13 = .ok (.return_, 1) := by decide +kernel
theorem dX7_length_0 : decode cX7_length 0 = .ok (.aload_n 0, 1) := by decide +kernel
theorem dX7_length_1 : decode cX7_length 1 = .ok (.getfield 15, 3) := by decide +kernel
theorem dX7_length_4 : decode cX7_length 4 = .ok (.ireturn, 1) := by decide +kernel
theorem dX7_letter_0 : decode cX7_letter 0 = .ok (.iload_n 1, 1) := by decide +kernel
theorem dX7_letter_1 : decode cX7_letter 1 = .ok (.ifCond .lt 29, 3) := by decide +kernel
theorem dX7_letter_4 : decode cX7_letter 4 = .ok (.iload_n 1, 1) := by decide +kernel
theorem dX7_letter_5 : decode cX7_letter 5 = .ok (.aload_n 0, 1) := by decide +kernel
theorem dX7_letter_6 : decode cX7_letter 6 = .ok (.getfield 15, 3) := by decide +kernel
theorem dX7_letter_9 : decode cX7_letter 9 = .ok (.if_icmp .ge 21, 3) := by decide +kernel
theorem dX7_letter_12 : decode cX7_letter 12 = .ok (.iload_n 1, 1) := by decide +kernel
theorem dX7_letter_13 : decode cX7_letter 13 = .ok (.aload_n 0, 1) := by decide +kernel
theorem dX7_letter_14 : decode cX7_letter 14 = .ok (.getfield 9, 3) := by decide +kernel
theorem dX7_letter_17 : decode cX7_letter 17 = .ok (.arraylength, 1) := by decide +kernel
theorem dX7_letter_18 : decode cX7_letter 18 = .ok (.if_icmp .ge 12, 3) := by decide +kernel
theorem dX7_letter_21 : decode cX7_letter 21 = .ok (.aload_n 0, 1) := by decide +kernel
theorem dX7_letter_22 : decode cX7_letter 22 = .ok (.getfield 9, 3) := by decide +kernel
theorem dX7_letter_25 : decode cX7_letter 25 = .ok (.iload_n 1, 1) := by decide +kernel
theorem dX7_letter_26 : decode cX7_letter 26 = .ok (.iaload, 1) := by decide +kernel
theorem dX7_letter_27 : decode cX7_letter 27 = .ok (.goto 5, 3) := by decide +kernel
theorem dX7_letter_30 : decode cX7_letter 30 = .ok (.ldc 19, 2) := by decide +kernel
theorem dX7_letter_32 : decode cX7_letter 32 = .ok (.ireturn, 1) := by decide +kernel
theorem dX7_add_0 : decode cX7_add 0 = .ok (.aload_n 0, 1) := by decide +kernel
theorem dX7_add_1 : decode cX7_add 1 = .ok (.getfield 15, 3) := by decide +kernel
theorem dX7_add_4 : decode cX7_add 4 = .ok (.ifCond .lt 15, 3) := by decide +kernel
theorem dX7_add_7 : decode cX7_add 7 = .ok (.aload_n 0, 1) := by decide +kernel
theorem dX7_add_8 : decode cX7_add 8 = .ok (.getfield 15, 3) := by decide +kernel
theorem dX7_add_11 : decode cX7_add 11 = .ok (.aload_n 0, 1) := by decide +kernel
theorem dX7_add_12 : decode cX7_add 12 = .ok (.getfield 9, 3) := by decide +kernel
theorem dX7_add_15 : decode cX7_add 15 = .ok (.arraylength, 1) := by decide +kernel
theorem dX7_add_16 : decode cX7_add 16 = .ok (.if_icmp .lt 5, 3) := by decide +kernel
theorem dX7_add_19 : decode cX7_add 19 = .ok (.iconst 0, 1) := by decide +kernel
theorem dX7_add_20 : decode cX7_add 20 = .ok (.ireturn, 1) := by decide +kernel
theorem dX7_add_21 : decode cX7_add 21 = .ok (.aload_n 0, 1) := by decide +kernel
theorem dX7_add_22 : decode cX7_add 22 = .ok (.getfield 9, 3) := by decide +kernel
theorem dX7_add_25 : decode cX7_add 25 = .ok (.aload_n 0, 1) := by decide +kernel
theorem dX7_add_26 : decode cX7_add 26 = .ok (.getfield 15, 3) := by decide +kernel
theorem dX7_add_29 : decode cX7_add 29 = .ok (.iload_n 1, 1) := by decide +kernel
theorem dX7_add_30 : decode cX7_add 30 = .ok (.iastore, 1) := by decide +kernel
theorem dX7_add_31 : decode cX7_add 31 = .ok (.aload_n 0, 1) := by decide +kernel
theorem dX7_add_32 : decode cX7_add 32 = .ok (.dup, 1) := by decide +kernel
theorem dX7_add_33 : decode cX7_add 33 = .ok (.getfield 15, 3) := by decide +kernel
theorem dX7_add_36 : decode cX7_add 36 = .ok (.iconst 1, 1) := by decide +kernel
theorem dX7_add_37 : decode cX7_add 37 = .ok (.iadd, 1) := by decide +kernel
theorem dX7_add_38 : decode cX7_add 38 = .ok (.putfield 15, 3) := by decide +kernel
theorem dX7_add_41 : decode cX7_add 41 = .ok (.iconst 1, 1) := by decide +kernel
theorem dX7_add_42 : decode cX7_add 42 = .ok (.ireturn, 1) := by decide +kernel
theorem dX7_clear_0 : decode cX7_clear 0 = .ok (.aload_n 0, 1) := by decide +kernel
theorem dX7_clear_1 : decode cX7_clear 1 = .ok (.iconst 0, 1) := by decide +kernel
theorem dX7_clear_2 : decode cX7_clear 2 = .ok (.putfield 15, 3) := by decide +kernel
theorem dX7_clear_5 : decode cX7_clear 5 = .ok (.return_, 1) := by decide +kernel
theorem dX8_init_0 : decode cX8_init 0 = .ok (.aload_n 0, 1) := by decide +kernel
theorem dX8_init_1 : decode cX8_init 1 = .ok (.invokespecial 3, 3) := by decide +kernel
theorem dX8_init_4 : decode cX8_init 4 = .ok (.aload_n 0, 1) := by decide +kernel
theorem dX8_init_5 : decode cX8_init 5 = .ok (.new 9, 3) := by decide +kernel
theorem dX8_init_8 : decode cX8_init 8 = .ok (.dup, 1) := by decide +kernel
theorem dX8_init_9 : decode cX8_init 9 = .ok (.invokespecial 11, 3) := by decide +kernel
theorem dX8_init_12 : decode cX8_init 12 = .ok (.putfield 12, 3) := by decide +kernel
theorem dX8_init_15 : decode cX8_init 15 = .ok (.aload_n 0, 1) := by decide +kernel
theorem dX8_init_16 : decode cX8_init 16 = .ok (.new 16, 3) := by decide +kernel
theorem dX8_init_19 : decode cX8_init 19 = .ok (.dup, 1) := by decide +kernel
theorem dX8_init_20 : decode cX8_init 20 = .ok (.aload_n 0, 1) := by decide +kernel
theorem dX8_init_21 : decode cX8_init 21 = .ok (.getfield 12, 3) := by decide +kernel
theorem dX8_init_24 : decode cX8_init 24 = .ok (.invokespecial 18, 3) := by decide +kernel
theorem dX8_init_27 : decode cX8_init 27 = .ok (.putfield 21, 3) := by decide +kernel
theorem dX8_init_30 : decode cX8_init 30 = .ok (.aload_n 0, 1) := by decide +kernel
theorem dX8_init_31 : decode cX8_init 31 = .ok (.new 25, 3) := by decide +kernel
theorem dX8_init_34 : decode cX8_init 34 = .ok (.dup, 1) := by decide +kernel
theorem dX8_init_35 : decode cX8_init 35 = .ok (.invokespecial 27, 3) := by decide +kernel
theorem dX8_init_38 : decode cX8_init 38 = .ok (.putfield 28, 3) := by decide +kernel
theorem dX8_init_41 : decode cX8_init 41 = .ok (.aload_n 0, 1) := by decide +kernel
theorem dX8_init_42 : decode cX8_init 42 = .ok (.new 32, 3) := by decide +kernel
theorem dX8_init_45 : decode cX8_init 45 = .ok (.dup, 1) := by decide +kernel
theorem dX8_init_46 : decode cX8_init 46 = .ok (.invokespecial 34, 3) := by decide +kernel
theorem dX8_init_49 : decode cX8_init 49 = .ok (.putfield 35, 3) := by decide +kernel
theorem dX8_init_52 : decode cX8_init 52 = .ok (.aload_n 0, 1) := by decide +kernel
theorem dX8_init_53 : decode cX8_init 53 = .ok (.iconst 2, 1) := by decide +kernel
theorem dX8_init_54 : decode cX8_init 54 = .ok (.anewarray 32, 3) := by decide +kernel
theorem dX8_init_57 : decode cX8_init 57 = .ok (.putfield 39, 3) := by decide +kernel
theorem dX8_init_60 : decode cX8_init 60 = .ok (.aload_n 0, 1) := by decide +kernel
theorem dX8_init_61 : decode cX8_init 61 = .ok (.new 43, 3) := by decide +kernel
theorem dX8_init_64 : decode cX8_init 64 = .ok (.dup, 1) := by decide +kernel
theorem dX8_init_65 : decode cX8_init 65 = .ok (.iconst 1, 1) := by decide +kernel
theorem dX8_init_66 : decode cX8_init 66 = .ok (.invokespecial 45, 3) := by decide +kernel
theorem dX8_init_69 : decode cX8_init 69 = .ok (.putfield 48, 3) := by decide +kernel
theorem dX8_init_72 : decode cX8_init 72 = .ok (.return_, 1) := by decide +kernel
theorem dX8_write_0 : decode cX8_write 0 = .ok (.iload_n 1, 1) := by decide +kernel
theorem dX8_write_1 : decode cX8_write 1 = .ok (.ifCond .lt 10, 3) := by decide +kernel
theorem dX8_write_4 : decode cX8_write 4 = .ok (.iload_n 1, 1) := by decide +kernel
theorem dX8_write_5 : decode cX8_write 5 = .ok (.sipush 255, 3) := by decide +kernel
theorem dX8_write_8 : decode cX8_write 8 = .ok (.if_icmp .le 6, 3) := by decide +kernel
theorem dX8_write_11 : decode cX8_write 11 = .ok (.ldc 52, 2) := by decide +kernel
theorem dX8_write_13 : decode cX8_write 13 = .ok (.ireturn, 1) := by decide +kernel
theorem dX8_write_14 : decode cX8_write 14 = .ok (.aload_n 0, 1) := by decide +kernel
theorem dX8_write_15 : decode cX8_write 15 = .ok (.getfield 12, 3) := by decide +kernel
theorem dX8_write_18 : decode cX8_write 18 = .ok (.iload_n 1, 1) := by decide +kernel
theorem dX8_write_19 : decode cX8_write 19 = .ok (.invokevirtual 53, 3) := by decide +kernel
theorem dX8_write_22 : decode cX8_write 22 = .ok (.ifCond .eq 13, 3) := by decide +kernel
theorem dX8_write_25 : decode cX8_write 25 = .ok (.aload_n 0, 1) := by decide +kernel
theorem dX8_write_26 : decode cX8_write 26 = .ok (.getfield 12, 3) := by decide +kernel
theorem dX8_write_29 : decode cX8_write 29 = .ok (.invokevirtual 57, 3) := by decide +kernel
theorem dX8_write_32 : decode cX8_write 32 = .ok (.goto 5, 3) := by decide +kernel
theorem dX8_write_35 : decode cX8_write 35 = .ok (.ldc 61, 2) := by decide +kernel
theorem dX8_write_37 : decode cX8_write 37 = .ok (.ireturn, 1) := by decide +kernel
theorem dX8_erase_0 : decode cX8_erase 0 = .ok (.aload_n 0, 1) := by decide +kernel
theorem dX8_erase_1 : decode cX8_erase 1 = .ok (.getfield 12, 3) := by decide +kernel
theorem dX8_erase_4 : decode cX8_erase 4 = .ok (.invokevirtual 57, 3) := by decide +kernel
theorem dX8_erase_7 : decode cX8_erase 7 = .ok (.istore_n 1, 1) := by decide +kernel
theorem dX8_erase_8 : decode cX8_erase 8 = .ok (.aload_n 0, 1) := by decide +kernel
theorem dX8_erase_9 : decode cX8_erase 9 = .ok (.getfield 12, 3) := by decide +kernel
theorem dX8_erase_12 : decode cX8_erase 12 = .ok (.invokevirtual 62, 3) := by decide +kernel
theorem dX8_erase_15 : decode cX8_erase 15 = .ok (.iload_n 1, 1) := by decide +kernel
theorem dX8_erase_16 : decode cX8_erase 16 = .ok (.ireturn, 1) := by decide +kernel
theorem dX8_fault_0 : decode cX8_fault 0 = .ok (.aload_n 0, 1) := by decide +kernel
theorem dX8_fault_1 : decode cX8_fault 1 = .ok (.getfield 21, 3) := by decide +kernel
theorem dX8_fault_4 : decode cX8_fault 4 = .ok (.invokevirtual 65, 3) := by decide +kernel
theorem dX8_fault_7 : decode cX8_fault 7 = .ok (.ireturn, 1) := by decide +kernel
theorem dX8_tell_0 : decode cX8_tell 0 = .ok (.aload_n 0, 1) := by decide +kernel
theorem dX8_tell_1 : decode cX8_tell 1 = .ok (.getfield 21, 3) := by decide +kernel
theorem dX8_tell_4 : decode cX8_tell 4 = .ok (.invokevirtual 65, 3) := by decide +kernel
theorem dX8_tell_7 : decode cX8_tell 7 = .ok (.ldc 68, 2) := by decide +kernel
theorem dX8_tell_9 : decode cX8_tell 9 = .ok (.if_icmp .eq 6, 3) := by decide +kernel
theorem dX8_tell_12 : decode cX8_tell 12 = .ok (.ldc 69, 2) := by decide +kernel
theorem dX8_tell_14 : decode cX8_tell 14 = .ok (.ireturn, 1) := by decide +kernel
theorem dX8_tell_15 : decode cX8_tell 15 = .ok (.aload_n 0, 1) := by decide +kernel
theorem dX8_tell_16 : decode cX8_tell 16 = .ok (.getfield 21, 3) := by decide +kernel
theorem dX8_tell_19 : decode cX8_tell 19 = .ok (.invokevirtual 70, 3) := by decide +kernel
theorem dX8_tell_22 : decode cX8_tell 22 = .ok (.istore_n 1, 1) := by decide +kernel
theorem dX8_tell_23 : decode cX8_tell 23 = .ok (.iconst 0, 1) := by decide +kernel
theorem dX8_tell_24 : decode cX8_tell 24 = .ok (.istore_n 2, 1) := by decide +kernel
theorem dX8_tell_25 : decode cX8_tell 25 = .ok (.iload_n 2, 1) := by decide +kernel
theorem dX8_tell_26 : decode cX8_tell 26 = .ok (.iload_n 1, 1) := by decide +kernel
theorem dX8_tell_27 : decode cX8_tell 27 = .ok (.if_icmp .ge 20, 3) := by decide +kernel
theorem dX8_tell_30 : decode cX8_tell 30 = .ok (.iload_n 2, 1) := by decide +kernel
theorem dX8_tell_31 : decode cX8_tell 31 = .ok (.bipush 24, 2) := by decide +kernel
theorem dX8_tell_33 : decode cX8_tell 33 = .ok (.if_icmp .ge 14, 3) := by decide +kernel
theorem dX8_tell_36 : decode cX8_tell 36 = .ok (.aload_n 0, 1) := by decide +kernel
theorem dX8_tell_37 : decode cX8_tell 37 = .ok (.iload_n 2, 1) := by decide +kernel
theorem dX8_tell_38 : decode cX8_tell 38 = .ok (.invokevirtual 73, 3) := by decide +kernel
theorem dX8_tell_41 : decode cX8_tell 41 = .ok (.iinc 2 1, 3) := by decide +kernel
theorem dX8_tell_44 : decode cX8_tell 44 = .ok (.goto (-19), 3) := by decide +kernel
theorem dX8_tell_47 : decode cX8_tell 47 = .ok (.aload_n 0, 1) := by decide +kernel
theorem dX8_tell_48 : decode cX8_tell 48 = .ok (.getfield 12, 3) := by decide +kernel
theorem dX8_tell_51 : decode cX8_tell 51 = .ok (.invokevirtual 62, 3) := by decide +kernel
theorem dX8_tell_54 : decode cX8_tell 54 = .ok (.iload_n 1, 1) := by decide +kernel
theorem dX8_tell_55 : decode cX8_tell 55 = .ok (.ireturn, 1) := by decide +kernel
theorem dX8_put_0 : decode cX8_put 0 = .ok (.iload_n 1, 1) := by decide +kernel
theorem dX8_put_1 : decode cX8_put 1 = .ok (.invokestatic 76, 3) := by decide +kernel
theorem dX8_put_4 : decode cX8_put 4 = .ok (.ifCond .ne 6, 3) := by decide +kernel
theorem dX8_put_7 : decode cX8_put 7 = .ok (.ldc 79, 2) := by decide +kernel
theorem dX8_put_9 : decode cX8_put 9 = .ok (.ireturn, 1) := by decide +kernel
theorem dX8_put_10 : decode cX8_put 10 = .ok (.iload_n 2, 1) := by decide +kernel
theorem dX8_put_11 : decode cX8_put 11 = .ok (.iload_n 3, 1) := by decide +kernel
theorem dX8_put_12 : decode cX8_put 12 = .ok (.invokestatic 80, 3) := by decide +kernel
theorem dX8_put_15 : decode cX8_put 15 = .ok (.ifCond .eq 17, 3) := by decide +kernel
theorem dX8_put_18 : decode cX8_put 18 = .ok (.iload 4, 2) := by decide +kernel
theorem dX8_put_20 : decode cX8_put 20 = .ok (.bipush (-20), 2) := by decide +kernel
theorem dX8_put_22 : decode cX8_put 22 = .ok (.if_icmp .lt 10, 3) := by decide +kernel
theorem dX8_put_25 : decode cX8_put 25 = .ok (.iload 4, 2) := by decide +kernel
theorem dX8_put_27 : decode cX8_put 27 = .ok (.bipush 20, 2) := by decide +kernel
theorem dX8_put_29 : decode cX8_put 29 = .ok (.if_icmp .le 6, 3) := by decide +kernel
theorem dX8_put_32 : decode cX8_put 32 = .ok (.ldc 52, 2) := by decide +kernel
theorem dX8_put_34 : decode cX8_put 34 = .ok (.ireturn, 1) := by decide +kernel
theorem dX8_put_35 : decode cX8_put 35 = .ok (.aload_n 0, 1) := by decide +kernel
theorem dX8_put_36 : decode cX8_put 36 = .ok (.getfield 35, 3) := by decide +kernel
theorem dX8_put_39 : decode cX8_put 39 = .ok (.iload_n 1, 1) := by decide +kernel
theorem dX8_put_40 : decode cX8_put 40 = .ok (.invokevirtual 84, 3) := by decide +kernel
theorem dX8_put_43 : decode cX8_put 43 = .ok (.iload_n 2, 1) := by decide +kernel
theorem dX8_put_44 : decode cX8_put 44 = .ok (.iload_n 3, 1) := by decide +kernel
theorem dX8_put_45 : decode cX8_put 45 = .ok (.invokevirtual 88, 3) := by decide +kernel
theorem dX8_put_48 : decode cX8_put 48 = .ok (.istore 5, 2) := by decide +kernel
theorem dX8_put_50 : decode cX8_put 50 = .ok (.aload_n 0, 1) := by decide +kernel
theorem dX8_put_51 : decode cX8_put 51 = .ok (.getfield 35, 3) := by decide +kernel
theorem dX8_put_54 : decode cX8_put 54 = .ok (.iload_n 1, 1) := by decide +kernel
theorem dX8_put_55 : decode cX8_put 55 = .ok (.invokevirtual 84, 3) := by decide +kernel
theorem dX8_put_58 : decode cX8_put 58 = .ok (.iload_n 2, 1) := by decide +kernel
theorem dX8_put_59 : decode cX8_put 59 = .ok (.iload_n 3, 1) := by decide +kernel
theorem dX8_put_60 : decode cX8_put 60 = .ok (.iload 4, 2) := by decide +kernel
theorem dX8_put_62 : decode cX8_put 62 = .ok (.invokevirtual 94, 3) := by decide +kernel
theorem dX8_put_65 : decode cX8_put 65 = .ok (.iload 5, 2) := by decide +kernel
theorem dX8_put_67 : decode cX8_put 67 = .ok (.ireturn, 1) := by decide +kernel
theorem dX8_term_0 : decode cX8_term 0 = .ok (.iload_n 1, 1) := by decide +kernel
theorem dX8_term_1 : decode cX8_term 1 = .ok (.invokestatic 76, 3) := by decide +kernel
theorem dX8_term_4 : decode cX8_term 4 = .ok (.ifCond .ne 6, 3) := by decide +kernel
theorem dX8_term_7 : decode cX8_term 7 = .ok (.ldc 79, 2) := by decide +kernel
theorem dX8_term_9 : decode cX8_term 9 = .ok (.ireturn, 1) := by decide +kernel
theorem dX8_term_10 : decode cX8_term 10 = .ok (.iload_n 2, 1) := by decide +kernel
theorem dX8_term_11 : decode cX8_term 11 = .ok (.iload_n 3, 1) := by decide +kernel
theorem dX8_term_12 : decode cX8_term 12 = .ok (.invokestatic 80, 3) := by decide +kernel
theorem dX8_term_15 : decode cX8_term 15 = .ok (.ifCond .eq 19, 3) := by decide +kernel
theorem dX8_term_18 : decode cX8_term 18 = .ok (.aload_n 0, 1) := by decide +kernel
theorem dX8_term_19 : decode cX8_term 19 = .ok (.getfield 35, 3) := by decide +kernel
theorem dX8_term_22 : decode cX8_term 22 = .ok (.iload_n 1, 1) := by decide +kernel
theorem dX8_term_23 : decode cX8_term 23 = .ok (.invokevirtual 84, 3) := by decide +kernel
theorem dX8_term_26 : decode cX8_term 26 = .ok (.iload_n 2, 1) := by decide +kernel
theorem dX8_term_27 : decode cX8_term 27 = .ok (.iload_n 3, 1) := by decide +kernel
theorem dX8_term_28 : decode cX8_term 28 = .ok (.invokevirtual 88, 3) := by decide +kernel
theorem dX8_term_31 : decode cX8_term 31 = .ok (.goto 5, 3) := by decide +kernel
theorem dX8_term_34 : decode cX8_term 34 = .ok (.ldc 52, 2) := by decide +kernel
theorem dX8_term_36 : decode cX8_term 36 = .ok (.ireturn, 1) := by decide +kernel
theorem dX8_sign_0 : decode cX8_sign 0 = .ok (.iload_n 1, 1) := by decide +kernel
theorem dX8_sign_1 : decode cX8_sign 1 = .ok (.invokestatic 76, 3) := by decide +kernel
theorem dX8_sign_4 : decode cX8_sign 4 = .ok (.ifCond .ne 6, 3) := by decide +kernel
theorem dX8_sign_7 : decode cX8_sign 7 = .ok (.ldc 79, 2) := by decide +kernel
theorem dX8_sign_9 : decode cX8_sign 9 = .ok (.ireturn, 1) := by decide +kernel
theorem dX8_sign_10 : decode cX8_sign 10 = .ok (.iload_n 2, 1) := by decide +kernel
theorem dX8_sign_11 : decode cX8_sign 11 = .ok (.invokestatic 98, 3) := by decide +kernel
theorem dX8_sign_14 : decode cX8_sign 14 = .ok (.ifCond .eq 10, 3) := by decide +kernel
theorem dX8_sign_17 : decode cX8_sign 17 = .ok (.iload_n 3, 1) := by decide +kernel
theorem dX8_sign_18 : decode cX8_sign 18 = .ok (.invokestatic 98, 3) := by decide +kernel
theorem dX8_sign_21 : decode cX8_sign 21 = .ok (.ifCond .ne 6, 3) := by decide +kernel
theorem dX8_sign_24 : decode cX8_sign 24 = .ok (.ldc 52, 2) := by decide +kernel
theorem dX8_sign_26 : decode cX8_sign 26 = .ok (.ireturn, 1) := by decide +kernel
theorem dX8_sign_27 : decode cX8_sign 27 = .ok (.aload_n 0, 1) := by decide +kernel
theorem dX8_sign_28 : decode cX8_sign 28 = .ok (.getfield 35, 3) := by decide +kernel
theorem dX8_sign_31 : decode cX8_sign 31 = .ok (.iload_n 1, 1) := by decide +kernel
theorem dX8_sign_32 : decode cX8_sign 32 = .ok (.invokevirtual 84, 3) := by decide +kernel
theorem dX8_sign_35 : decode cX8_sign 35 = .ok (.iload_n 2, 1) := by decide +kernel
theorem dX8_sign_36 : decode cX8_sign 36 = .ok (.iload_n 3, 1) := by decide +kernel
theorem dX8_sign_37 : decode cX8_sign 37 = .ok (.invokevirtual 101, 3) := by decide +kernel
theorem dX8_sign_40 : decode cX8_sign 40 = .ok (.ireturn, 1) := by decide +kernel
theorem dX8_hold_0 : decode cX8_hold 0 = .ok (.iload_n 1, 1) := by decide +kernel
theorem dX8_hold_1 : decode cX8_hold 1 = .ok (.iload_n 2, 1) := by decide +kernel
theorem dX8_hold_2 : decode cX8_hold 2 = .ok (.invokestatic 104, 3) := by decide +kernel
theorem dX8_hold_5 : decode cX8_hold 5 = .ok (.ifCond .eq 12, 3) := by decide +kernel
theorem dX8_hold_8 : decode cX8_hold 8 = .ok (.iload_n 3, 1) := by decide +kernel
theorem dX8_hold_9 : decode cX8_hold 9 = .ok (.iload 4, 2) := by decide +kernel
theorem dX8_hold_11 : decode cX8_hold 11 = .ok (.invokestatic 104, 3) := by decide +kernel
theorem dX8_hold_14 : decode cX8_hold 14 = .ok (.ifCond .ne 6, 3) := by decide +kernel
theorem dX8_hold_17 : decode cX8_hold 17 = .ok (.ldc 52, 2) := by decide +kernel
theorem dX8_hold_19 : decode cX8_hold 19 = .ok (.ireturn, 1) := by decide +kernel
theorem dX8_hold_20 : decode cX8_hold 20 = .ok (.aload_n 0, 1) := by decide +kernel
theorem dX8_hold_21 : decode cX8_hold 21 = .ok (.getfield 48, 3) := by decide +kernel
theorem dX8_hold_24 : decode cX8_hold 24 = .ok (.invokevirtual 107, 3) := by decide +kernel
theorem dX8_hold_27 : decode cX8_hold 27 = .ok (.aload_n 0, 1) := by decide +kernel
theorem dX8_hold_28 : decode cX8_hold 28 = .ok (.getfield 48, 3) := by decide +kernel
theorem dX8_hold_31 : decode cX8_hold 31 = .ok (.iload_n 1, 1) := by decide +kernel
theorem dX8_hold_32 : decode cX8_hold 32 = .ok (.iload_n 2, 1) := by decide +kernel
theorem dX8_hold_33 : decode cX8_hold 33 = .ok (.iload_n 3, 1) := by decide +kernel
theorem dX8_hold_34 : decode cX8_hold 34 = .ok (.iload 4, 2) := by decide +kernel
theorem dX8_hold_36 : decode cX8_hold 36 = .ok (.invokevirtual 108, 3) := by decide +kernel
theorem dX8_hold_39 : decode cX8_hold 39 = .ok (.aload_n 0, 1) := by decide +kernel
theorem dX8_hold_40 : decode cX8_hold 40 = .ok (.getfield 48, 3) := by decide +kernel
theorem dX8_hold_43 : decode cX8_hold 43 = .ok (.iconst 0, 1) := by decide +kernel
theorem dX8_hold_44 : decode cX8_hold 44 = .ok (.invokevirtual 111, 3) := by decide +kernel
theorem dX8_hold_47 : decode cX8_hold 47 = .ok (.ireturn, 1) := by decide +kernel
theorem dX8_value_0 : decode cX8_value 0 = .ok (.iload_n 1, 1) := by decide +kernel
theorem dX8_value_1 : decode cX8_value 1 = .ok (.invokestatic 76, 3) := by decide +kernel
theorem dX8_value_4 : decode cX8_value 4 = .ok (.ifCond .ne 6, 3) := by decide +kernel
theorem dX8_value_7 : decode cX8_value 7 = .ok (.ldc 79, 2) := by decide +kernel
theorem dX8_value_9 : decode cX8_value 9 = .ok (.ireturn, 1) := by decide +kernel
theorem dX8_value_10 : decode cX8_value 10 = .ok (.iload_n 2, 1) := by decide +kernel
theorem dX8_value_11 : decode cX8_value 11 = .ok (.ifCond .lt 8, 3) := by decide +kernel
theorem dX8_value_14 : decode cX8_value 14 = .ok (.iload_n 2, 1) := by decide +kernel
theorem dX8_value_15 : decode cX8_value 15 = .ok (.iconst 1, 1) := by decide +kernel
theorem dX8_value_16 : decode cX8_value 16 = .ok (.if_icmp .le 6, 3) := by decide +kernel
theorem dX8_value_19 : decode cX8_value 19 = .ok (.ldc 52, 2) := by decide +kernel
theorem dX8_value_21 : decode cX8_value 21 = .ok (.ireturn, 1) := by decide +kernel
theorem dX8_value_22 : decode cX8_value 22 = .ok (.aload_n 0, 1) := by decide +kernel
theorem dX8_value_23 : decode cX8_value 23 = .ok (.getfield 48, 3) := by decide +kernel
theorem dX8_value_26 : decode cX8_value 26 = .ok (.invokevirtual 115, 3) := by decide +kernel
theorem dX8_value_29 : decode cX8_value 29 = .ok (.ifCond .eq 6, 3) := by decide +kernel
theorem dX8_value_32 : decode cX8_value 32 = .ok (.ldc 69, 2) := by decide +kernel
theorem dX8_value_34 : decode cX8_value 34 = .ok (.ireturn, 1) := by decide +kernel
theorem dX8_value_35 : decode cX8_value 35 = .ok (.aload_n 0, 1) := by decide +kernel
theorem dX8_value_36 : decode cX8_value 36 = .ok (.getfield 28, 3) := by decide +kernel
theorem dX8_value_39 : decode cX8_value 39 = .ok (.aload_n 0, 1) := by decide +kernel
theorem dX8_value_40 : decode cX8_value 40 = .ok (.getfield 48, 3) := by decide +kernel
theorem dX8_value_43 : decode cX8_value 43 = .ok (.iconst 0, 1) := by decide +kernel
theorem dX8_value_44 : decode cX8_value 44 = .ok (.invokevirtual 119, 3) := by decide +kernel
theorem dX8_value_47 : decode cX8_value 47 = .ok (.aload_n 0, 1) := by decide +kernel
theorem dX8_value_48 : decode cX8_value 48 = .ok (.getfield 28, 3) := by decide +kernel
theorem dX8_value_51 : decode cX8_value 51 = .ok (.aload_n 0, 1) := by decide +kernel
theorem dX8_value_52 : decode cX8_value 52 = .ok (.getfield 35, 3) := by decide +kernel
theorem dX8_value_55 : decode cX8_value 55 = .ok (.iload_n 1, 1) := by decide +kernel
theorem dX8_value_56 : decode cX8_value 56 = .ok (.invokevirtual 84, 3) := by decide +kernel
theorem dX8_value_59 : decode cX8_value 59 = .ok (.invokevirtual 123, 3) := by decide +kernel
theorem dX8_value_62 : decode cX8_value 62 = .ok (.iload_n 2, 1) := by decide +kernel
theorem dX8_value_63 : decode cX8_value 63 = .ok (.invokevirtual 127, 3) := by decide +kernel
theorem dX8_value_66 : decode cX8_value 66 = .ok (.ireturn, 1) := by decide +kernel
theorem dX8_slope_0 : decode cX8_slope 0 = .ok (.iload_n 1, 1) := by decide +kernel
theorem dX8_slope_1 : decode cX8_slope 1 = .ok (.invokestatic 76, 3) := by decide +kernel
theorem dX8_slope_4 : decode cX8_slope 4 = .ok (.ifCond .ne 6, 3) := by decide +kernel
theorem dX8_slope_7 : decode cX8_slope 7 = .ok (.ldc 79, 2) := by decide +kernel
theorem dX8_slope_9 : decode cX8_slope 9 = .ok (.ireturn, 1) := by decide +kernel
theorem dX8_slope_10 : decode cX8_slope 10 = .ok (.iload_n 2, 1) := by decide +kernel
theorem dX8_slope_11 : decode cX8_slope 11 = .ok (.ifCond .lt 17, 3) := by decide +kernel
theorem dX8_slope_14 : decode cX8_slope 14 = .ok (.iload_n 2, 1) := by decide +kernel
theorem dX8_slope_15 : decode cX8_slope 15 = .ok (.iconst 1, 1) := by decide +kernel
theorem dX8_slope_16 : decode cX8_slope 16 = .ok (.if_icmp .gt 12, 3) := by decide +kernel
theorem dX8_slope_19 : decode cX8_slope 19 = .ok (.iload_n 3, 1) := by decide +kernel
theorem dX8_slope_20 : decode cX8_slope 20 = .ok (.ifCond .lt 8, 3) := by decide +kernel
theorem dX8_slope_23 : decode cX8_slope 23 = .ok (.iload_n 3, 1) := by decide +kernel
theorem dX8_slope_24 : decode cX8_slope 24 = .ok (.iconst 1, 1) := by decide +kernel
theorem dX8_slope_25 : decode cX8_slope 25 = .ok (.if_icmp .le 6, 3) := by decide +kernel
theorem dX8_slope_28 : decode cX8_slope 28 = .ok (.ldc 52, 2) := by decide +kernel
theorem dX8_slope_30 : decode cX8_slope 30 = .ok (.ireturn, 1) := by decide +kernel
theorem dX8_slope_31 : decode cX8_slope 31 = .ok (.aload_n 0, 1) := by decide +kernel
theorem dX8_slope_32 : decode cX8_slope 32 = .ok (.getfield 48, 3) := by decide +kernel
theorem dX8_slope_35 : decode cX8_slope 35 = .ok (.invokevirtual 115, 3) := by decide +kernel
theorem dX8_slope_38 : decode cX8_slope 38 = .ok (.ifCond .eq 6, 3) := by decide +kernel
theorem dX8_slope_41 : decode cX8_slope 41 = .ok (.ldc 69, 2) := by decide +kernel
theorem dX8_slope_43 : decode cX8_slope 43 = .ok (.ireturn, 1) := by decide +kernel
theorem dX8_slope_44 : decode cX8_slope 44 = .ok (.aload_n 0, 1) := by decide +kernel
theorem dX8_slope_45 : decode cX8_slope 45 = .ok (.getfield 28, 3) := by decide +kernel
theorem dX8_slope_48 : decode cX8_slope 48 = .ok (.aload_n 0, 1) := by decide +kernel
theorem dX8_slope_49 : decode cX8_slope 49 = .ok (.getfield 48, 3) := by decide +kernel
theorem dX8_slope_52 : decode cX8_slope 52 = .ok (.iconst 0, 1) := by decide +kernel
theorem dX8_slope_53 : decode cX8_slope 53 = .ok (.invokevirtual 119, 3) := by decide +kernel
theorem dX8_slope_56 : decode cX8_slope 56 = .ok (.aload_n 0, 1) := by decide +kernel
theorem dX8_slope_57 : decode cX8_slope 57 = .ok (.getfield 28, 3) := by decide +kernel
theorem dX8_slope_60 : decode cX8_slope 60 = .ok (.aload_n 0, 1) := by decide +kernel
theorem dX8_slope_61 : decode cX8_slope 61 = .ok (.getfield 35, 3) := by decide +kernel
theorem dX8_slope_64 : decode cX8_slope 64 = .ok (.iload_n 1, 1) := by decide +kernel
theorem dX8_slope_65 : decode cX8_slope 65 = .ok (.invokevirtual 84, 3) := by decide +kernel
theorem dX8_slope_68 : decode cX8_slope 68 = .ok (.iload_n 2, 1) := by decide +kernel
theorem dX8_slope_69 : decode cX8_slope 69 = .ok (.ifCond .ne 7, 3) := by decide +kernel
theorem dX8_slope_72 : decode cX8_slope 72 = .ok (.iconst 1, 1) := by decide +kernel
theorem dX8_slope_73 : decode cX8_slope 73 = .ok (.goto 4, 3) := by decide +kernel
theorem dX8_slope_76 : decode cX8_slope 76 = .ok (.iconst 0, 1) := by decide +kernel
theorem dX8_slope_77 : decode cX8_slope 77 = .ok (.invokevirtual 132, 3) := by decide +kernel
theorem dX8_slope_80 : decode cX8_slope 80 = .ok (.iload_n 3, 1) := by decide +kernel
theorem dX8_slope_81 : decode cX8_slope 81 = .ok (.invokevirtual 127, 3) := by decide +kernel
theorem dX8_slope_84 : decode cX8_slope 84 = .ok (.ireturn, 1) := by decide +kernel
theorem dX8_fence_0 : decode cX8_fence 0 = .ok (.iload_n 1, 1) := by decide +kernel
theorem dX8_fence_1 : decode cX8_fence 1 = .ok (.ifCond .lt 8, 3) := by decide +kernel
theorem dX8_fence_4 : decode cX8_fence 4 = .ok (.iload_n 1, 1) := by decide +kernel
theorem dX8_fence_5 : decode cX8_fence 5 = .ok (.iconst 5, 1) := by decide +kernel
theorem dX8_fence_6 : decode cX8_fence 6 = .ok (.if_icmp .le 6, 3) := by decide +kernel
theorem dX8_fence_9 : decode cX8_fence 9 = .ok (.ldc 52, 2) := by decide +kernel
theorem dX8_fence_11 : decode cX8_fence 11 = .ok (.ireturn, 1) := by decide +kernel
theorem dX8_fence_12 : decode cX8_fence 12 = .ok (.aload_n 0, 1) := by decide +kernel
theorem dX8_fence_13 : decode cX8_fence 13 = .ok (.getfield 48, 3) := by decide +kernel
theorem dX8_fence_16 : decode cX8_fence 16 = .ok (.invokevirtual 115, 3) := by decide +kernel
theorem dX8_fence_19 : decode cX8_fence 19 = .ok (.ifCond .eq 6, 3) := by decide +kernel
theorem dX8_fence_22 : decode cX8_fence 22 = .ok (.ldc 69, 2) := by decide +kernel
theorem dX8_fence_24 : decode cX8_fence 24 = .ok (.ireturn, 1) := by decide +kernel
theorem dX8_fence_25 : decode cX8_fence 25 = .ok (.aload_n 0, 1) := by decide +kernel
theorem dX8_fence_26 : decode cX8_fence 26 = .ok (.getfield 28, 3) := by decide +kernel
theorem dX8_fence_29 : decode cX8_fence 29 = .ok (.aload_n 0, 1) := by decide +kernel
theorem dX8_fence_30 : decode cX8_fence 30 = .ok (.getfield 48, 3) := by decide +kernel
theorem dX8_fence_33 : decode cX8_fence 33 = .ok (.iconst 0, 1) := by decide +kernel
theorem dX8_fence_34 : decode cX8_fence 34 = .ok (.invokevirtual 119, 3) := by decide +kernel
theorem dX8_fence_37 : decode cX8_fence 37 = .ok (.aload_n 0, 1) := by decide +kernel
theorem dX8_fence_38 : decode cX8_fence 38 = .ok (.getfield 28, 3) := by decide +kernel
theorem dX8_fence_41 : decode cX8_fence 41 = .ok (.aload_n 0, 1) := by decide +kernel
theorem dX8_fence_42 : decode cX8_fence 42 = .ok (.getfield 35, 3) := by decide +kernel
theorem dX8_fence_45 : decode cX8_fence 45 = .ok (.iconst 0, 1) := by decide +kernel
theorem dX8_fence_46 : decode cX8_fence 46 = .ok (.invokevirtual 84, 3) := by decide +kernel
theorem dX8_fence_49 : decode cX8_fence 49 = .ok (.aload_n 0, 1) := by decide +kernel
theorem dX8_fence_50 : decode cX8_fence 50 = .ok (.getfield 35, 3) := by decide +kernel
theorem dX8_fence_53 : decode cX8_fence 53 = .ok (.iconst 1, 1) := by decide +kernel
theorem dX8_fence_54 : decode cX8_fence 54 = .ok (.invokevirtual 84, 3) := by decide +kernel
theorem dX8_fence_57 : decode cX8_fence 57 = .ok (.invokevirtual 136, 3) := by decide +kernel
theorem dX8_fence_60 : decode cX8_fence 60 = .ok (.istore_n 2, 1) := by decide +kernel
theorem dX8_fence_61 : decode cX8_fence 61 = .ok (.iload_n 1, 1) := by decide +kernel
theorem dX8_fence_62 : decode cX8_fence 62 = .ok (.iconst 4, 1) := by decide +kernel
theorem dX8_fence_63 : decode cX8_fence 63 = .ok (.if_icmp .lt 17, 3) := by decide +kernel
theorem dX8_fence_66 : decode cX8_fence 66 = .ok (.aload_n 0, 1) := by decide +kernel
theorem dX8_fence_67 : decode cX8_fence 67 = .ok (.getfield 28, 3) := by decide +kernel
theorem dX8_fence_70 : decode cX8_fence 70 = .ok (.invokevirtual 140, 3) := by decide +kernel
theorem dX8_fence_73 : decode cX8_fence 73 = .ok (.iload_n 1, 1) := by decide +kernel
theorem dX8_fence_74 : decode cX8_fence 74 = .ok (.iconst 4, 1) := by decide +kernel
theorem dX8_fence_75 : decode cX8_fence 75 = .ok (.isub, 1) := by decide +kernel
theorem dX8_fence_76 : decode cX8_fence 76 = .ok (.invokevirtual 127, 3) := by decide +kernel
theorem dX8_fence_79 : decode cX8_fence 79 = .ok (.ireturn, 1) := by decide +kernel
theorem dX8_fence_80 : decode cX8_fence 80 = .ok (.iload_n 2, 1) := by decide +kernel
theorem dX8_fence_81 : decode cX8_fence 81 = .ok (.ifCond .ne 6, 3) := by decide +kernel
theorem dX8_fence_84 : decode cX8_fence 84 = .ok (.ldc 68, 2) := by decide +kernel
theorem dX8_fence_86 : decode cX8_fence 86 = .ok (.ireturn, 1) := by decide +kernel
theorem dX8_fence_87 : decode cX8_fence 87 = .ok (.iload_n 1, 1) := by decide +kernel
theorem dX8_fence_88 : decode cX8_fence 88 = .ok (.iconst 2, 1) := by decide +kernel
theorem dX8_fence_89 : decode cX8_fence 89 = .ok (.if_icmp .ge 17, 3) := by decide +kernel
theorem dX8_fence_92 : decode cX8_fence 92 = .ok (.aload_n 0, 1) := by decide +kernel
theorem dX8_fence_93 : decode cX8_fence 93 = .ok (.getfield 28, 3) := by decide +kernel
theorem dX8_fence_96 : decode cX8_fence 96 = .ok (.invokevirtual 144, 3) := by decide +kernel
theorem dX8_fence_99 : decode cX8_fence 99 = .ok (.iload_n 1, 1) := by decide +kernel
theorem dX8_fence_100 : decode cX8_fence 100 = .ok (.invokevirtual 127, 3) := by decide +kernel
theorem dX8_fence_103 : decode cX8_fence 103 = .ok (.goto 16, 3) := by decide +kernel
theorem dX8_fence_106 : decode cX8_fence 106 = .ok (.aload_n 0, 1) := by decide +kernel
theorem dX8_fence_107 : decode cX8_fence 107 = .ok (.getfield 28, 3) := by decide +kernel
theorem dX8_fence_110 : decode cX8_fence 110 = .ok (.invokevirtual 147, 3) := by decide +kernel
theorem dX8_fence_113 : decode cX8_fence 113 = .ok (.iload_n 1, 1) := by decide +kernel
theorem dX8_fence_114 : decode cX8_fence 114 = .ok (.iconst 2, 1) := by decide +kernel
theorem dX8_fence_115 : decode cX8_fence 115 = .ok (.isub, 1) := by decide +kernel
theorem dX8_fence_116 : decode cX8_fence 116 = .ok (.invokevirtual 127, 3) := by decide +kernel
theorem dX8_fence_119 : decode cX8_fence 119 = .ok (.ireturn, 1) := by decide +kernel
theorem dX8_verdict_0 : decode cX8_verdict 0 = .ok (.aload_n 0, 1) := by decide +kernel
theorem dX8_verdict_1 : decode cX8_verdict 1 = .ok (.getfield 48, 3) := by decide +kernel
theorem dX8_verdict_4 : decode cX8_verdict 4 = .ok (.invokevirtual 115, 3) := by decide +kernel
theorem dX8_verdict_7 : decode cX8_verdict 7 = .ok (.ifCond .eq 6, 3) := by decide +kernel
theorem dX8_verdict_10 : decode cX8_verdict 10 = .ok (.ldc 69, 2) := by decide +kernel
theorem dX8_verdict_12 : decode cX8_verdict 12 = .ok (.ireturn, 1) := by decide +kernel
theorem dX8_verdict_13 : decode cX8_verdict 13 = .ok (.aload_n 0, 1) := by decide +kernel
theorem dX8_verdict_14 : decode cX8_verdict 14 = .ok (.getfield 35, 3) := by decide +kernel
theorem dX8_verdict_17 : decode cX8_verdict 17 = .ok (.aload_n 0, 1) := by decide +kernel
theorem dX8_verdict_18 : decode cX8_verdict 18 = .ok (.getfield 48, 3) := by decide +kernel
theorem dX8_verdict_21 : decode cX8_verdict 21 = .ok (.iconst 0, 1) := by decide +kernel
theorem dX8_verdict_22 : decode cX8_verdict 22 = .ok (.aload_n 0, 1) := by decide +kernel
theorem dX8_verdict_23 : decode cX8_verdict 23 = .ok (.getfield 28, 3) := by decide +kernel
theorem dX8_verdict_26 : decode cX8_verdict 26 = .ok (.invokevirtual 150, 3) := by decide +kernel
theorem dX8_verdict_29 : decode cX8_verdict 29 = .ok (.ireturn, 1) := by decide +kernel
theorem dX8_begin_0 : decode cX8_begin 0 = .ok (.iload_n 1, 1) := by decide +kernel
theorem dX8_begin_1 : decode cX8_begin 1 = .ok (.iload_n 2, 1) := by decide +kernel
theorem dX8_begin_2 : decode cX8_begin 2 = .ok (.invokestatic 104, 3) := by decide +kernel
theorem dX8_begin_5 : decode cX8_begin 5 = .ok (.ifCond .eq 23, 3) := by decide +kernel
theorem dX8_begin_8 : decode cX8_begin 8 = .ok (.iload_n 3, 1) := by decide +kernel
theorem dX8_begin_9 : decode cX8_begin 9 = .ok (.iload 4, 2) := by decide +kernel
theorem dX8_begin_11 : decode cX8_begin 11 = .ok (.invokestatic 104, 3) := by decide +kernel
theorem dX8_begin_14 : decode cX8_begin 14 = .ok (.ifCond .eq 14, 3) := by decide +kernel
theorem dX8_begin_17 : decode cX8_begin 17 = .ok (.iload_n 1, 1) := by decide +kernel
theorem dX8_begin_18 : decode cX8_begin 18 = .ok (.iload_n 2, 1) := by decide +kernel
theorem dX8_begin_19 : decode cX8_begin 19 = .ok (.if_icmp .eq 9, 3) := by decide +kernel
theorem dX8_begin_22 : decode cX8_begin 22 = .ok (.iload_n 3, 1) := by decide +kernel
theorem dX8_begin_23 : decode cX8_begin 23 = .ok (.iload 4, 2) := by decide +kernel
theorem dX8_begin_25 : decode cX8_begin 25 = .ok (.if_icmp .ne 6, 3) := by decide +kernel
theorem dX8_begin_28 : decode cX8_begin 28 = .ok (.ldc 52, 2) := by decide +kernel
theorem dX8_begin_30 : decode cX8_begin 30 = .ok (.ireturn, 1) := by decide +kernel
theorem dX8_begin_31 : decode cX8_begin 31 = .ok (.aload_n 0, 1) := by decide +kernel
theorem dX8_begin_32 : decode cX8_begin 32 = .ok (.getfield 35, 3) := by decide +kernel
theorem dX8_begin_35 : decode cX8_begin 35 = .ok (.iload_n 1, 1) := by decide +kernel
theorem dX8_begin_36 : decode cX8_begin 36 = .ok (.iload_n 2, 1) := by decide +kernel
theorem dX8_begin_37 : decode cX8_begin 37 = .ok (.iload_n 3, 1) := by decide +kernel
theorem dX8_begin_38 : decode cX8_begin 38 = .ok (.iload 4, 2) := by decide +kernel
theorem dX8_begin_40 : decode cX8_begin 40 = .ok (.invokevirtual 154, 3) := by decide +kernel
theorem dX8_begin_43 : decode cX8_begin 43 = .ok (.iload_n 2, 1) := by decide +kernel
theorem dX8_begin_44 : decode cX8_begin 44 = .ok (.iload_n 1, 1) := by decide +kernel
theorem dX8_begin_45 : decode cX8_begin 45 = .ok (.isub, 1) := by decide +kernel
theorem dX8_begin_46 : decode cX8_begin 46 = .ok (.iload 4, 2) := by decide +kernel
theorem dX8_begin_48 : decode cX8_begin 48 = .ok (.iload_n 3, 1) := by decide +kernel
theorem dX8_begin_49 : decode cX8_begin 49 = .ok (.isub, 1) := by decide +kernel
theorem dX8_begin_50 : decode cX8_begin 50 = .ok (.invokestatic 157, 3) := by decide +kernel
theorem dX8_begin_53 : decode cX8_begin 53 = .ok (.ireturn, 1) := by decide +kernel
theorem dX8_least_0 : decode cX8_least 0 = .ok (.iload_n 1, 1) := by decide +kernel
theorem dX8_least_1 : decode cX8_least 1 = .ok (.iconst 1, 1) := by decide +kernel
theorem dX8_least_2 : decode cX8_least 2 = .ok (.if_icmp .lt 9, 3) := by decide +kernel
theorem dX8_least_5 : decode cX8_least 5 = .ok (.iload_n 1, 1) := by decide +kernel
theorem dX8_least_6 : decode cX8_least 6 = .ok (.bipush 64, 2) := by decide +kernel
theorem dX8_least_8 : decode cX8_least 8 = .ok (.if_icmp .le 6, 3) := by decide +kernel
theorem dX8_least_11 : decode cX8_least 11 = .ok (.ldc 52, 2) := by decide +kernel
theorem dX8_least_13 : decode cX8_least 13 = .ok (.ireturn, 1) := by decide +kernel
theorem dX8_least_14 : decode cX8_least 14 = .ok (.aload_n 0, 1) := by decide +kernel
theorem dX8_least_15 : decode cX8_least 15 = .ok (.getfield 35, 3) := by decide +kernel
theorem dX8_least_18 : decode cX8_least 18 = .ok (.invokevirtual 162, 3) := by decide +kernel
theorem dX8_least_21 : decode cX8_least 21 = .ok (.istore_n 2, 1) := by decide +kernel
theorem dX8_least_22 : decode cX8_least 22 = .ok (.aload_n 0, 1) := by decide +kernel
theorem dX8_least_23 : decode cX8_least 23 = .ok (.getfield 35, 3) := by decide +kernel
theorem dX8_least_26 : decode cX8_least 26 = .ok (.iload_n 1, 1) := by decide +kernel
theorem dX8_least_27 : decode cX8_least 27 = .ok (.invokevirtual 165, 3) := by decide +kernel
theorem dX8_least_30 : decode cX8_least 30 = .ok (.iload_n 2, 1) := by decide +kernel
theorem dX8_least_31 : decode cX8_least 31 = .ok (.ireturn, 1) := by decide +kernel
theorem dX8_step_0 : decode cX8_step 0 = .ok (.aload_n 0, 1) := by decide +kernel
theorem dX8_step_1 : decode cX8_step 1 = .ok (.getfield 35, 3) := by decide +kernel
theorem dX8_step_4 : decode cX8_step 4 = .ok (.aload_n 0, 1) := by decide +kernel
theorem dX8_step_5 : decode cX8_step 5 = .ok (.getfield 28, 3) := by decide +kernel
theorem dX8_step_8 : decode cX8_step 8 = .ok (.invokevirtual 168, 3) := by decide +kernel
theorem dX8_step_11 : decode cX8_step 11 = .ok (.ireturn, 1) := by decide +kernel
theorem dX8_steps_0 : decode cX8_steps 0 = .ok (.iload_n 1, 1) := by decide +kernel
theorem dX8_steps_1 : decode cX8_steps 1 = .ok (.iconst 1, 1) := by decide +kernel
theorem dX8_steps_2 : decode cX8_steps 2 = .ok (.if_icmp .lt 9, 3) := by decide +kernel
theorem dX8_steps_5 : decode cX8_steps 5 = .ok (.iload_n 1, 1) := by decide +kernel
theorem dX8_steps_6 : decode cX8_steps 6 = .ok (.bipush 20, 2) := by decide +kernel
theorem dX8_steps_8 : decode cX8_steps 8 = .ok (.if_icmp .le 6, 3) := by decide +kernel
theorem dX8_steps_11 : decode cX8_steps 11 = .ok (.ldc 52, 2) := by decide +kernel
theorem dX8_steps_13 : decode cX8_steps 13 = .ok (.ireturn, 1) := by decide +kernel
theorem dX8_steps_14 : decode cX8_steps 14 = .ok (.iconst 0, 1) := by decide +kernel
theorem dX8_steps_15 : decode cX8_steps 15 = .ok (.istore_n 2, 1) := by decide +kernel
theorem dX8_steps_16 : decode cX8_steps 16 = .ok (.iload_n 2, 1) := by decide +kernel
theorem dX8_steps_17 : decode cX8_steps 17 = .ok (.iload_n 1, 1) := by decide +kernel
theorem dX8_steps_18 : decode cX8_steps 18 = .ok (.if_icmp .ge 23, 3) := by decide +kernel
theorem dX8_steps_21 : decode cX8_steps 21 = .ok (.aload_n 0, 1) := by decide +kernel
theorem dX8_steps_22 : decode cX8_steps 22 = .ok (.getfield 35, 3) := by decide +kernel
theorem dX8_steps_25 : decode cX8_steps 25 = .ok (.aload_n 0, 1) := by decide +kernel
theorem dX8_steps_26 : decode cX8_steps 26 = .ok (.getfield 28, 3) := by decide +kernel
theorem dX8_steps_29 : decode cX8_steps 29 = .ok (.invokevirtual 168, 3) := by decide +kernel
theorem dX8_steps_32 : decode cX8_steps 32 = .ok (.ifCond .lt 9, 3) := by decide +kernel
theorem dX8_steps_35 : decode cX8_steps 35 = .ok (.iinc 2 1, 3) := by decide +kernel
theorem dX8_steps_38 : decode cX8_steps 38 = .ok (.goto (-22), 3) := by decide +kernel
theorem dX8_steps_41 : decode cX8_steps 41 = .ok (.iload_n 2, 1) := by decide +kernel
theorem dX8_steps_42 : decode cX8_steps 42 = .ok (.ireturn, 1) := by decide +kernel
theorem dX8_first_0 : decode cX8_first 0 = .ok (.iload_n 1, 1) := by decide +kernel
theorem dX8_first_1 : decode cX8_first 1 = .ok (.invokestatic 172, 3) := by decide +kernel
theorem dX8_first_4 : decode cX8_first 4 = .ok (.ifCond .ne 6, 3) := by decide +kernel
theorem dX8_first_7 : decode cX8_first 7 = .ok (.ldc 52, 2) := by decide +kernel
theorem dX8_first_9 : decode cX8_first 9 = .ok (.ireturn, 1) := by decide +kernel
theorem dX8_first_10 : decode cX8_first 10 = .ok (.aload_n 0, 1) := by decide +kernel
theorem dX8_first_11 : decode cX8_first 11 = .ok (.getfield 35, 3) := by decide +kernel
theorem dX8_first_14 : decode cX8_first 14 = .ok (.invokevirtual 175, 3) := by decide +kernel
theorem dX8_first_17 : decode cX8_first 17 = .ok (.astore_n 2, 1) := by decide +kernel
theorem dX8_first_18 : decode cX8_first 18 = .ok (.aload_n 2, 1) := by decide +kernel
theorem dX8_first_19 : decode cX8_first 19 = .ok (.invokevirtual 115, 3) := by decide +kernel
theorem dX8_first_22 : decode cX8_first 22 = .ok (.ifCond .eq 8, 3) := by decide +kernel
theorem dX8_first_25 : decode cX8_first 25 = .ok (.ldc 69, 2) := by decide +kernel
theorem dX8_first_27 : decode cX8_first 27 = .ok (.goto 12, 3) := by decide +kernel
theorem dX8_first_30 : decode cX8_first 30 = .ok (.aload_n 2, 1) := by decide +kernel
theorem dX8_first_31 : decode cX8_first 31 = .ok (.aload_n 2, 1) := by decide +kernel
theorem dX8_first_32 : decode cX8_first 32 = .ok (.invokevirtual 179, 3) := by decide +kernel
theorem dX8_first_35 : decode cX8_first 35 = .ok (.iload_n 1, 1) := by decide +kernel
theorem dX8_first_36 : decode cX8_first 36 = .ok (.invokevirtual 182, 3) := by decide +kernel
theorem dX8_first_39 : decode cX8_first 39 = .ok (.ireturn, 1) := by decide +kernel
theorem dX8_solved_0 : decode cX8_solved 0 = .ok (.aload_n 0, 1) := by decide +kernel
theorem dX8_solved_1 : decode cX8_solved 1 = .ok (.getfield 35, 3) := by decide +kernel
theorem dX8_solved_4 : decode cX8_solved 4 = .ok (.invokevirtual 185, 3) := by decide +kernel
theorem dX8_solved_7 : decode cX8_solved 7 = .ok (.iload_n 1, 1) := by decide +kernel
theorem dX8_solved_8 : decode cX8_solved 8 = .ok (.iload_n 2, 1) := by decide +kernel
theorem dX8_solved_9 : decode cX8_solved 9 = .ok (.invokestatic 188, 3) := by decide +kernel
theorem dX8_solved_12 : decode cX8_solved 12 = .ok (.ireturn, 1) := by decide +kernel
theorem dX8_doubtful_0 : decode cX8_doubtful 0 = .ok (.aload_n 0, 1) := by decide +kernel
theorem dX8_doubtful_1 : decode cX8_doubtful 1 = .ok (.getfield 35, 3) := by decide +kernel
theorem dX8_doubtful_4 : decode cX8_doubtful 4 = .ok (.invokevirtual 192, 3) := by decide +kernel
theorem dX8_doubtful_7 : decode cX8_doubtful 7 = .ok (.iload_n 1, 1) := by decide +kernel
theorem dX8_doubtful_8 : decode cX8_doubtful 8 = .ok (.iload_n 2, 1) := by decide +kernel
theorem dX8_doubtful_9 : decode cX8_doubtful 9 = .ok (.invokestatic 188, 3) := by decide +kernel
theorem dX8_doubtful_12 : decode cX8_doubtful 12 = .ok (.ireturn, 1) := by decide +kernel
theorem dX8_entry_0 : decode cX8_entry 0 = .ok (.iload_n 2, 1) := by decide +kernel
theorem dX8_entry_1 : decode cX8_entry 1 = .ok (.iconst 4, 1) := by decide +kernel
theorem dX8_entry_2 : decode cX8_entry 2 = .ok (.if_icmp .eq 8, 3) := by decide +kernel
theorem dX8_entry_5 : decode cX8_entry 5 = .ok (.iload_n 2, 1) := by decide +kernel
theorem dX8_entry_6 : decode cX8_entry 6 = .ok (.iconst 5, 1) := by decide +kernel
theorem dX8_entry_7 : decode cX8_entry 7 = .ok (.if_icmp .ne 56, 3) := by decide +kernel
theorem dX8_entry_10 : decode cX8_entry 10 = .ok (.aload_n 0, 1) := by decide +kernel
theorem dX8_entry_11 : decode cX8_entry 11 = .ok (.getfield 35, 3) := by decide +kernel
theorem dX8_entry_14 : decode cX8_entry 14 = .ok (.invokevirtual 195, 3) := by decide +kernel
theorem dX8_entry_17 : decode cX8_entry 17 = .ok (.iload_n 1, 1) := by decide +kernel
theorem dX8_entry_18 : decode cX8_entry 18 = .ok (.invokevirtual 198, 3) := by decide +kernel
theorem dX8_entry_21 : decode cX8_entry 21 = .ok (.ifCond .ne 6, 3) := by decide +kernel
theorem dX8_entry_24 : decode cX8_entry 24 = .ok (.ldc 79, 2) := by decide +kernel
theorem dX8_entry_26 : decode cX8_entry 26 = .ok (.ireturn, 1) := by decide +kernel
theorem dX8_entry_27 : decode cX8_entry 27 = .ok (.iload_n 2, 1) := by decide +kernel
theorem dX8_entry_28 : decode cX8_entry 28 = .ok (.iconst 4, 1) := by decide +kernel
theorem dX8_entry_29 : decode cX8_entry 29 = .ok (.if_icmp .ne 14, 3) := by decide +kernel
theorem dX8_entry_32 : decode cX8_entry 32 = .ok (.aload_n 0, 1) := by decide +kernel
theorem dX8_entry_33 : decode cX8_entry 33 = .ok (.getfield 35, 3) := by decide +kernel
theorem dX8_entry_36 : decode cX8_entry 36 = .ok (.iload_n 1, 1) := by decide +kernel
theorem dX8_entry_37 : decode cX8_entry 37 = .ok (.invokevirtual 201, 3) := by decide +kernel
theorem dX8_entry_40 : decode cX8_entry 40 = .ok (.goto 22, 3) := by decide +kernel
theorem dX8_entry_43 : decode cX8_entry 43 = .ok (.aload_n 0, 1) := by decide +kernel
theorem dX8_entry_44 : decode cX8_entry 44 = .ok (.getfield 35, 3) := by decide +kernel
theorem dX8_entry_47 : decode cX8_entry 47 = .ok (.aload_n 0, 1) := by decide +kernel
theorem dX8_entry_48 : decode cX8_entry 48 = .ok (.getfield 35, 3) := by decide +kernel
theorem dX8_entry_51 : decode cX8_entry 51 = .ok (.invokevirtual 195, 3) := by decide +kernel
theorem dX8_entry_54 : decode cX8_entry 54 = .ok (.iload_n 1, 1) := by decide +kernel
theorem dX8_entry_55 : decode cX8_entry 55 = .ok (.aload_n 0, 1) := by decide +kernel
theorem dX8_entry_56 : decode cX8_entry 56 = .ok (.getfield 28, 3) := by decide +kernel
theorem dX8_entry_59 : decode cX8_entry 59 = .ok (.invokevirtual 150, 3) := by decide +kernel
theorem dX8_entry_62 : decode cX8_entry 62 = .ok (.ireturn, 1) := by decide +kernel
theorem dX8_entry_63 : decode cX8_entry 63 = .ok (.aload_n 0, 1) := by decide +kernel
theorem dX8_entry_64 : decode cX8_entry 64 = .ok (.getfield 35, 3) := by decide +kernel
theorem dX8_entry_67 : decode cX8_entry 67 = .ok (.invokevirtual 195, 3) := by decide +kernel
theorem dX8_entry_70 : decode cX8_entry 70 = .ok (.iload_n 1, 1) := by decide +kernel
theorem dX8_entry_71 : decode cX8_entry 71 = .ok (.iload_n 2, 1) := by decide +kernel
theorem dX8_entry_72 : decode cX8_entry 72 = .ok (.invokestatic 188, 3) := by decide +kernel
theorem dX8_entry_75 : decode cX8_entry 75 = .ok (.ireturn, 1) := by decide +kernel
theorem dX8_broken_0 : decode cX8_broken 0 = .ok (.aload_n 0, 1) := by decide +kernel
theorem dX8_broken_1 : decode cX8_broken 1 = .ok (.getfield 35, 3) := by decide +kernel
theorem dX8_broken_4 : decode cX8_broken 4 = .ok (.invokevirtual 195, 3) := by decide +kernel
theorem dX8_broken_7 : decode cX8_broken 7 = .ok (.invokevirtual 204, 3) := by decide +kernel
theorem dX8_broken_10 : decode cX8_broken 10 = .ok (.istore_n 1, 1) := by decide +kernel
theorem dX8_broken_11 : decode cX8_broken 11 = .ok (.iconst 0, 1) := by decide +kernel
theorem dX8_broken_12 : decode cX8_broken 12 = .ok (.istore_n 2, 1) := by decide +kernel
theorem dX8_broken_13 : decode cX8_broken 13 = .ok (.iload_n 2, 1) := by decide +kernel
theorem dX8_broken_14 : decode cX8_broken 14 = .ok (.iload_n 1, 1) := by decide +kernel
theorem dX8_broken_15 : decode cX8_broken 15 = .ok (.if_icmp .ge 41, 3) := by decide +kernel
theorem dX8_broken_18 : decode cX8_broken 18 = .ok (.aload_n 0, 1) := by decide +kernel
theorem dX8_broken_19 : decode cX8_broken 19 = .ok (.getfield 35, 3) := by decide +kernel
theorem dX8_broken_22 : decode cX8_broken 22 = .ok (.aload_n 0, 1) := by decide +kernel
theorem dX8_broken_23 : decode cX8_broken 23 = .ok (.getfield 35, 3) := by decide +kernel
theorem dX8_broken_26 : decode cX8_broken 26 = .ok (.invokevirtual 195, 3) := by decide +kernel
theorem dX8_broken_29 : decode cX8_broken 29 = .ok (.iload_n 2, 1) := by decide +kernel
theorem dX8_broken_30 : decode cX8_broken 30 = .ok (.aload_n 0, 1) := by decide +kernel
theorem dX8_broken_31 : decode cX8_broken 31 = .ok (.getfield 28, 3) := by decide +kernel
theorem dX8_broken_34 : decode cX8_broken 34 = .ok (.invokevirtual 150, 3) := by decide +kernel
theorem dX8_broken_37 : decode cX8_broken 37 = .ok (.aload_n 0, 1) := by decide +kernel
theorem dX8_broken_38 : decode cX8_broken 38 = .ok (.getfield 35, 3) := by decide +kernel
theorem dX8_broken_41 : decode cX8_broken 41 = .ok (.iload_n 2, 1) := by decide +kernel
theorem dX8_broken_42 : decode cX8_broken 42 = .ok (.invokevirtual 201, 3) := by decide +kernel
theorem dX8_broken_45 : decode cX8_broken 45 = .ok (.if_icmp .eq 5, 3) := by decide +kernel
theorem dX8_broken_48 : decode cX8_broken 48 = .ok (.iload_n 2, 1) := by decide +kernel
theorem dX8_broken_49 : decode cX8_broken 49 = .ok (.ireturn, 1) := by decide +kernel
theorem dX8_broken_50 : decode cX8_broken 50 = .ok (.iinc 2 1, 3) := by decide +kernel
theorem dX8_broken_53 : decode cX8_broken 53 = .ok (.goto (-40), 3) := by decide +kernel
theorem dX8_broken_56 : decode cX8_broken 56 = .ok (.ldc 68, 2) := by decide +kernel
theorem dX8_broken_58 : decode cX8_broken 58 = .ok (.ireturn, 1) := by decide +kernel
theorem dX8_find_0 : decode cX8_find 0 = .ok (.iload_n 1, 1) := by decide +kernel
theorem dX8_find_1 : decode cX8_find 1 = .ok (.invokestatic 98, 3) := by decide +kernel
theorem dX8_find_4 : decode cX8_find 4 = .ok (.ifCond .eq 10, 3) := by decide +kernel
theorem dX8_find_7 : decode cX8_find 7 = .ok (.iload_n 2, 1) := by decide +kernel
theorem dX8_find_8 : decode cX8_find 8 = .ok (.invokestatic 98, 3) := by decide +kernel
theorem dX8_find_11 : decode cX8_find 11 = .ok (.ifCond .ne 6, 3) := by decide +kernel
theorem dX8_find_14 : decode cX8_find 14 = .ok (.ldc 52, 2) := by decide +kernel
theorem dX8_find_16 : decode cX8_find 16 = .ok (.ireturn, 1) := by decide +kernel
theorem dX8_find_17 : decode cX8_find 17 = .ok (.aload_n 0, 1) := by decide +kernel
theorem dX8_find_18 : decode cX8_find 18 = .ok (.getfield 35, 3) := by decide +kernel
theorem dX8_find_21 : decode cX8_find 21 = .ok (.invokevirtual 175, 3) := by decide +kernel
theorem dX8_find_24 : decode cX8_find 24 = .ok (.iload_n 1, 1) := by decide +kernel
theorem dX8_find_25 : decode cX8_find 25 = .ok (.iload_n 2, 1) := by decide +kernel
theorem dX8_find_26 : decode cX8_find 26 = .ok (.invokevirtual 207, 3) := by decide +kernel
theorem dX8_find_29 : decode cX8_find 29 = .ok (.ifCond .eq 7, 3) := by decide +kernel
theorem dX8_find_32 : decode cX8_find 32 = .ok (.iconst 1, 1) := by decide +kernel
theorem dX8_find_33 : decode cX8_find 33 = .ok (.goto 4, 3) := by decide +kernel
theorem dX8_find_36 : decode cX8_find 36 = .ok (.iconst 0, 1) := by decide +kernel
theorem dX8_find_37 : decode cX8_find 37 = .ok (.aload_n 0, 1) := by decide +kernel
theorem dX8_find_38 : decode cX8_find 38 = .ok (.getfield 35, 3) := by decide +kernel
theorem dX8_find_41 : decode cX8_find 41 = .ok (.invokevirtual 185, 3) := by decide +kernel
theorem dX8_find_44 : decode cX8_find 44 = .ok (.iload_n 1, 1) := by decide +kernel
theorem dX8_find_45 : decode cX8_find 45 = .ok (.iload_n 2, 1) := by decide +kernel
theorem dX8_find_46 : decode cX8_find 46 = .ok (.invokevirtual 207, 3) := by decide +kernel
theorem dX8_find_49 : decode cX8_find 49 = .ok (.ifCond .eq 7, 3) := by decide +kernel
theorem dX8_find_52 : decode cX8_find 52 = .ok (.iconst 2, 1) := by decide +kernel
theorem dX8_find_53 : decode cX8_find 53 = .ok (.goto 4, 3) := by decide +kernel
theorem dX8_find_56 : decode cX8_find 56 = .ok (.iconst 0, 1) := by decide +kernel
theorem dX8_find_57 : decode cX8_find 57 = .ok (.iadd, 1) := by decide +kernel
theorem dX8_find_58 : decode cX8_find 58 = .ok (.aload_n 0, 1) := by decide +kernel
theorem dX8_find_59 : decode cX8_find 59 = .ok (.getfield 35, 3) := by decide +kernel
theorem dX8_find_62 : decode cX8_find 62 = .ok (.invokevirtual 192, 3) := by decide +kernel
theorem dX8_find_65 : decode cX8_find 65 = .ok (.iload_n 1, 1) := by decide +kernel
theorem dX8_find_66 : decode cX8_find 66 = .ok (.iload_n 2, 1) := by decide +kernel
theorem dX8_find_67 : decode cX8_find 67 = .ok (.invokevirtual 207, 3) := by decide +kernel
theorem dX8_find_70 : decode cX8_find 70 = .ok (.ifCond .eq 7, 3) := by decide +kernel
theorem dX8_find_73 : decode cX8_find 73 = .ok (.iconst 4, 1) := by decide +kernel
theorem dX8_find_74 : decode cX8_find 74 = .ok (.goto 4, 3) := by decide +kernel
theorem dX8_find_77 : decode cX8_find 77 = .ok (.iconst 0, 1) := by decide +kernel
theorem dX8_find_78 : decode cX8_find 78 = .ok (.iadd, 1) := by decide +kernel
theorem dX8_find_79 : decode cX8_find 79 = .ok (.aload_n 0, 1) := by decide +kernel
theorem dX8_find_80 : decode cX8_find 80 = .ok (.getfield 35, 3) := by decide +kernel
theorem dX8_find_83 : decode cX8_find 83 = .ok (.iload_n 1, 1) := by decide +kernel
theorem dX8_find_84 : decode cX8_find 84 = .ok (.iload_n 2, 1) := by decide +kernel
theorem dX8_find_85 : decode cX8_find 85 = .ok (.invokevirtual 210, 3) := by decide +kernel
theorem dX8_find_88 : decode cX8_find 88 = .ok (.ifCond .eq 8, 3) := by decide +kernel
theorem dX8_find_91 : decode cX8_find 91 = .ok (.bipush 8, 2) := by decide +kernel
theorem dX8_find_93 : decode cX8_find 93 = .ok (.goto 4, 3) := by decide +kernel
theorem dX8_find_96 : decode cX8_find 96 = .ok (.iconst 0, 1) := by decide +kernel
theorem dX8_find_97 : decode cX8_find 97 = .ok (.iadd, 1) := by decide +kernel
theorem dX8_find_98 : decode cX8_find 98 = .ok (.ireturn, 1) := by decide +kernel
theorem dX8_keep_0 : decode cX8_keep 0 = .ok (.iload_n 1, 1) := by decide +kernel
theorem dX8_keep_1 : decode cX8_keep 1 = .ok (.ifCond .lt 12, 3) := by decide +kernel
theorem dX8_keep_4 : decode cX8_keep 4 = .ok (.iload_n 1, 1) := by decide +kernel
theorem dX8_keep_5 : decode cX8_keep 5 = .ok (.aload_n 0, 1) := by decide +kernel
theorem dX8_keep_6 : decode cX8_keep 6 = .ok (.getfield 39, 3) := by decide +kernel
theorem dX8_keep_9 : decode cX8_keep 9 = .ok (.arraylength, 1) := by decide +kernel
theorem dX8_keep_10 : decode cX8_keep 10 = .ok (.if_icmp .lt 6, 3) := by decide +kernel
theorem dX8_keep_13 : decode cX8_keep 13 = .ok (.ldc 52, 2) := by decide +kernel
theorem dX8_keep_15 : decode cX8_keep 15 = .ok (.ireturn, 1) := by decide +kernel
theorem dX8_keep_16 : decode cX8_keep 16 = .ok (.aload_n 0, 1) := by decide +kernel
theorem dX8_keep_17 : decode cX8_keep 17 = .ok (.getfield 39, 3) := by decide +kernel
theorem dX8_keep_20 : decode cX8_keep 20 = .ok (.iload_n 1, 1) := by decide +kernel
theorem dX8_keep_21 : decode cX8_keep 21 = .ok (.aaload, 1) := by decide +kernel
theorem dX8_keep_22 : decode cX8_keep 22 = .ok (.ifnonnull 16, 3) := by decide +kernel
theorem dX8_keep_25 : decode cX8_keep 25 = .ok (.aload_n 0, 1) := by decide +kernel
theorem dX8_keep_26 : decode cX8_keep 26 = .ok (.getfield 39, 3) := by decide +kernel
theorem dX8_keep_29 : decode cX8_keep 29 = .ok (.iload_n 1, 1) := by decide +kernel
theorem dX8_keep_30 : decode cX8_keep 30 = .ok (.new 32, 3) := by decide +kernel
theorem dX8_keep_33 : decode cX8_keep 33 = .ok (.dup, 1) := by decide +kernel
theorem dX8_keep_34 : decode cX8_keep 34 = .ok (.invokespecial 34, 3) := by decide +kernel
theorem dX8_keep_37 : decode cX8_keep 37 = .ok (.aastore, 1) := by decide +kernel
theorem dX8_keep_38 : decode cX8_keep 38 = .ok (.aload_n 0, 1) := by decide +kernel
theorem dX8_keep_39 : decode cX8_keep 39 = .ok (.getfield 39, 3) := by decide +kernel
theorem dX8_keep_42 : decode cX8_keep 42 = .ok (.iload_n 1, 1) := by decide +kernel
theorem dX8_keep_43 : decode cX8_keep 43 = .ok (.aaload, 1) := by decide +kernel
theorem dX8_keep_44 : decode cX8_keep 44 = .ok (.aload_n 0, 1) := by decide +kernel
theorem dX8_keep_45 : decode cX8_keep 45 = .ok (.getfield 35, 3) := by decide +kernel
theorem dX8_keep_48 : decode cX8_keep 48 = .ok (.invokevirtual 213, 3) := by decide +kernel
theorem dX8_keep_51 : decode cX8_keep 51 = .ok (.aload_n 0, 1) := by decide +kernel
theorem dX8_keep_52 : decode cX8_keep 52 = .ok (.getfield 35, 3) := by decide +kernel
theorem dX8_keep_55 : decode cX8_keep 55 = .ok (.invokevirtual 195, 3) := by decide +kernel
theorem dX8_keep_58 : decode cX8_keep 58 = .ok (.invokevirtual 204, 3) := by decide +kernel
theorem dX8_keep_61 : decode cX8_keep 61 = .ok (.ireturn, 1) := by decide +kernel
theorem dX8_back_0 : decode cX8_back 0 = .ok (.iload_n 1, 1) := by decide +kernel
theorem dX8_back_1 : decode cX8_back 1 = .ok (.ifCond .lt 12, 3) := by decide +kernel
theorem dX8_back_4 : decode cX8_back 4 = .ok (.iload_n 1, 1) := by decide +kernel
theorem dX8_back_5 : decode cX8_back 5 = .ok (.aload_n 0, 1) := by decide +kernel
theorem dX8_back_6 : decode cX8_back 6 = .ok (.getfield 39, 3) := by decide +kernel
theorem dX8_back_9 : decode cX8_back 9 = .ok (.arraylength, 1) := by decide +kernel
theorem dX8_back_10 : decode cX8_back 10 = .ok (.if_icmp .lt 6, 3) := by decide +kernel
theorem dX8_back_13 : decode cX8_back 13 = .ok (.ldc 52, 2) := by decide +kernel
theorem dX8_back_15 : decode cX8_back 15 = .ok (.ireturn, 1) := by decide +kernel
theorem dX8_back_16 : decode cX8_back 16 = .ok (.aload_n 0, 1) := by decide +kernel
theorem dX8_back_17 : decode cX8_back 17 = .ok (.getfield 39, 3) := by decide +kernel
theorem dX8_back_20 : decode cX8_back 20 = .ok (.iload_n 1, 1) := by decide +kernel
theorem dX8_back_21 : decode cX8_back 21 = .ok (.aaload, 1) := by decide +kernel
theorem dX8_back_22 : decode cX8_back 22 = .ok (.ifnonnull 6, 3) := by decide +kernel
theorem dX8_back_25 : decode cX8_back 25 = .ok (.ldc 69, 2) := by decide +kernel
theorem dX8_back_27 : decode cX8_back 27 = .ok (.ireturn, 1) := by decide +kernel
theorem dX8_back_28 : decode cX8_back 28 = .ok (.aload_n 0, 1) := by decide +kernel
theorem dX8_back_29 : decode cX8_back 29 = .ok (.getfield 35, 3) := by decide +kernel
theorem dX8_back_32 : decode cX8_back 32 = .ok (.aload_n 0, 1) := by decide +kernel
theorem dX8_back_33 : decode cX8_back 33 = .ok (.getfield 39, 3) := by decide +kernel
theorem dX8_back_36 : decode cX8_back 36 = .ok (.iload_n 1, 1) := by decide +kernel
theorem dX8_back_37 : decode cX8_back 37 = .ok (.aaload, 1) := by decide +kernel
theorem dX8_back_38 : decode cX8_back 38 = .ok (.invokevirtual 213, 3) := by decide +kernel
theorem dX8_back_41 : decode cX8_back 41 = .ok (.aload_n 0, 1) := by decide +kernel
theorem dX8_back_42 : decode cX8_back 42 = .ok (.getfield 35, 3) := by decide +kernel
theorem dX8_back_45 : decode cX8_back 45 = .ok (.invokevirtual 195, 3) := by decide +kernel
theorem dX8_back_48 : decode cX8_back 48 = .ok (.invokevirtual 204, 3) := by decide +kernel
theorem dX8_back_51 : decode cX8_back 51 = .ok (.ireturn, 1) := by decide +kernel
theorem dX8_count_0 : decode cX8_count 0 = .ok (.iload_n 1, 1) := by decide +kernel
theorem dX8_count_1 : decode cX8_count 1 = .ok (.iconst 4, 1) := by decide +kernel
theorem dX8_count_2 : decode cX8_count 2 = .ok (.if_icmp .lt 20, 3) := by decide +kernel
theorem dX8_count_5 : decode cX8_count 5 = .ok (.iload_n 1, 1) := by decide +kernel
theorem dX8_count_6 : decode cX8_count 6 = .ok (.bipush 9, 2) := by decide +kernel
theorem dX8_count_8 : decode cX8_count 8 = .ok (.if_icmp .gt 14, 3) := by decide +kernel
theorem dX8_count_11 : decode cX8_count 11 = .ok (.aload_n 0, 1) := by decide +kernel
theorem dX8_count_12 : decode cX8_count 12 = .ok (.getfield 35, 3) := by decide +kernel
theorem dX8_count_15 : decode cX8_count 15 = .ok (.iload_n 1, 1) := by decide +kernel
theorem dX8_count_16 : decode cX8_count 16 = .ok (.iconst 4, 1) := by decide +kernel
theorem dX8_count_17 : decode cX8_count 17 = .ok (.isub, 1) := by decide +kernel
theorem dX8_count_18 : decode cX8_count 18 = .ok (.invokevirtual 217, 3) := by decide +kernel
theorem dX8_count_21 : decode cX8_count 21 = .ok (.ireturn, 1) := by decide +kernel
theorem dX8_count_22 : decode cX8_count 22 = .ok (.iload_n 1, 1) := by decide +kernel
theorem dX8_count_23 : decode cX8_count 23 = .ok (.tableswitch 168 0 14 #[73, 84, 95, 106, 168, 168, 168, 168, 168, 168, 117, 129, 141, 149, 157], 73) := by decide +kernel
theorem dX8_count_96 : decode cX8_count 96 = .ok (.aload_n 0, 1) := by decide +kernel
theorem dX8_count_97 : decode cX8_count 97 = .ok (.getfield 35, 3) := by decide +kernel
theorem dX8_count_100 : decode cX8_count 100 = .ok (.invokevirtual 175, 3) := by decide +kernel
theorem dX8_count_103 : decode cX8_count 103 = .ok (.invokevirtual 204, 3) := by decide +kernel
theorem dX8_count_106 : decode cX8_count 106 = .ok (.ireturn, 1) := by decide +kernel
theorem dX8_count_107 : decode cX8_count 107 = .ok (.aload_n 0, 1) := by decide +kernel
theorem dX8_count_108 : decode cX8_count 108 = .ok (.getfield 35, 3) := by decide +kernel
theorem dX8_count_111 : decode cX8_count 111 = .ok (.invokevirtual 185, 3) := by decide +kernel
theorem dX8_count_114 : decode cX8_count 114 = .ok (.invokevirtual 204, 3) := by decide +kernel
theorem dX8_count_117 : decode cX8_count 117 = .ok (.ireturn, 1) := by decide +kernel
theorem dX8_count_118 : decode cX8_count 118 = .ok (.aload_n 0, 1) := by decide +kernel
theorem dX8_count_119 : decode cX8_count 119 = .ok (.getfield 35, 3) := by decide +kernel
theorem dX8_count_122 : decode cX8_count 122 = .ok (.invokevirtual 192, 3) := by decide +kernel
theorem dX8_count_125 : decode cX8_count 125 = .ok (.invokevirtual 204, 3) := by decide +kernel
theorem dX8_count_128 : decode cX8_count 128 = .ok (.ireturn, 1) := by decide +kernel
theorem dX8_count_129 : decode cX8_count 129 = .ok (.aload_n 0, 1) := by decide +kernel
theorem dX8_count_130 : decode cX8_count 130 = .ok (.getfield 35, 3) := by decide +kernel
theorem dX8_count_133 : decode cX8_count 133 = .ok (.invokevirtual 195, 3) := by decide +kernel
theorem dX8_count_136 : decode cX8_count 136 = .ok (.invokevirtual 204, 3) := by decide +kernel
theorem dX8_count_139 : decode cX8_count 139 = .ok (.ireturn, 1) := by decide +kernel
theorem dX8_count_140 : decode cX8_count 140 = .ok (.aload_n 0, 1) := by decide +kernel
theorem dX8_count_141 : decode cX8_count 141 = .ok (.getfield 35, 3) := by decide +kernel
theorem dX8_count_144 : decode cX8_count 144 = .ok (.iconst 0, 1) := by decide +kernel
theorem dX8_count_145 : decode cX8_count 145 = .ok (.invokevirtual 84, 3) := by decide +kernel
theorem dX8_count_148 : decode cX8_count 148 = .ok (.invokevirtual 220, 3) := by decide +kernel
theorem dX8_count_151 : decode cX8_count 151 = .ok (.ireturn, 1) := by decide +kernel
theorem dX8_count_152 : decode cX8_count 152 = .ok (.aload_n 0, 1) := by decide +kernel
theorem dX8_count_153 : decode cX8_count 153 = .ok (.getfield 35, 3) := by decide +kernel
theorem dX8_count_156 : decode cX8_count 156 = .ok (.iconst 1, 1) := by decide +kernel
theorem dX8_count_157 : decode cX8_count 157 = .ok (.invokevirtual 84, 3) := by decide +kernel
theorem dX8_count_160 : decode cX8_count 160 = .ok (.invokevirtual 220, 3) := by decide +kernel
theorem dX8_count_163 : decode cX8_count 163 = .ok (.ireturn, 1) := by decide +kernel
theorem dX8_count_164 : decode cX8_count 164 = .ok (.aload_n 0, 1) := by decide +kernel
theorem dX8_count_165 : decode cX8_count 165 = .ok (.getfield 35, 3) := by decide +kernel
theorem dX8_count_168 : decode cX8_count 168 = .ok (.invokevirtual 162, 3) := by decide +kernel
theorem dX8_count_171 : decode cX8_count 171 = .ok (.ireturn, 1) := by decide +kernel
theorem dX8_count_172 : decode cX8_count 172 = .ok (.aload_n 0, 1) := by decide +kernel
theorem dX8_count_173 : decode cX8_count 173 = .ok (.getfield 12, 3) := by decide +kernel
theorem dX8_count_176 : decode cX8_count 176 = .ok (.invokevirtual 57, 3) := by decide +kernel
theorem dX8_count_179 : decode cX8_count 179 = .ok (.ireturn, 1) := by decide +kernel
theorem dX8_count_180 : decode cX8_count 180 = .ok (.aload_n 0, 1) := by decide +kernel
theorem dX8_count_181 : decode cX8_count 181 = .ok (.getfield 35, 3) := by decide +kernel
theorem dX8_count_184 : decode cX8_count 184 = .ok (.invokevirtual 175, 3) := by decide +kernel
theorem dX8_count_187 : decode cX8_count 187 = .ok (.invokevirtual 223, 3) := by decide +kernel
theorem dX8_count_190 : decode cX8_count 190 = .ok (.ireturn, 1) := by decide +kernel
theorem dX8_count_191 : decode cX8_count 191 = .ok (.ldc 52, 2) := by decide +kernel
theorem dX8_count_193 : decode cX8_count 193 = .ok (.ireturn, 1) := by decide +kernel
theorem dX8_doClause_0 : decode cX8_doClause 0 = .ok (.aload_n 0, 1) := by decide +kernel
theorem dX8_doClause_1 : decode cX8_doClause 1 = .ok (.getfield 21, 3) := by decide +kernel
theorem dX8_doClause_4 : decode cX8_doClause 4 = .ok (.iload_n 1, 1) := by decide +kernel
theorem dX8_doClause_5 : decode cX8_doClause 5 = .ok (.iconst 0, 1) := by decide +kernel
theorem dX8_doClause_6 : decode cX8_doClause 6 = .ok (.invokevirtual 226, 3) := by decide +kernel
theorem dX8_doClause_9 : decode cX8_doClause 9 = .ok (.istore_n 2, 1) := by decide +kernel
theorem dX8_doClause_10 : decode cX8_doClause 10 = .ok (.aload_n 0, 1) := by decide +kernel
theorem dX8_doClause_11 : decode cX8_doClause 11 = .ok (.getfield 21, 3) := by decide +kernel
theorem dX8_doClause_14 : decode cX8_doClause 14 = .ok (.iload_n 1, 1) := by decide +kernel
theorem dX8_doClause_15 : decode cX8_doClause 15 = .ok (.iconst 1, 1) := by decide +kernel
theorem dX8_doClause_16 : decode cX8_doClause 16 = .ok (.invokevirtual 226, 3) := by decide +kernel
theorem dX8_doClause_19 : decode cX8_doClause 19 = .ok (.istore_n 3, 1) := by decide +kernel
theorem dX8_doClause_20 : decode cX8_doClause 20 = .ok (.aload_n 0, 1) := by decide +kernel
theorem dX8_doClause_21 : decode cX8_doClause 21 = .ok (.getfield 21, 3) := by decide +kernel
theorem dX8_doClause_24 : decode cX8_doClause 24 = .ok (.iload_n 1, 1) := by decide +kernel
theorem dX8_doClause_25 : decode cX8_doClause 25 = .ok (.iconst 2, 1) := by decide +kernel
theorem dX8_doClause_26 : decode cX8_doClause 26 = .ok (.invokevirtual 226, 3) := by decide +kernel
theorem dX8_doClause_29 : decode cX8_doClause 29 = .ok (.istore 4, 2) := by decide +kernel
theorem dX8_doClause_31 : decode cX8_doClause 31 = .ok (.aload_n 0, 1) := by decide +kernel
theorem dX8_doClause_32 : decode cX8_doClause 32 = .ok (.getfield 21, 3) := by decide +kernel
theorem dX8_doClause_35 : decode cX8_doClause 35 = .ok (.iload_n 1, 1) := by decide +kernel
theorem dX8_doClause_36 : decode cX8_doClause 36 = .ok (.invokevirtual 229, 3) := by decide +kernel
theorem dX8_doClause_39 : decode cX8_doClause 39 = .ok (.tableswitch 120 0 4 #[33, 50, 68, 86, 97], 33) := by decide +kernel
theorem dX8_doClause_72 : decode cX8_doClause 72 = .ok (.aload_n 0, 1) := by decide +kernel
theorem dX8_doClause_73 : decode cX8_doClause 73 = .ok (.getfield 35, 3) := by decide +kernel
theorem dX8_doClause_76 : decode cX8_doClause 76 = .ok (.invokevirtual 232, 3) := by decide +kernel
theorem dX8_doClause_79 : decode cX8_doClause 79 = .ok (.aload_n 0, 1) := by decide +kernel
theorem dX8_doClause_80 : decode cX8_doClause 80 = .ok (.getfield 48, 3) := by decide +kernel
theorem dX8_doClause_83 : decode cX8_doClause 83 = .ok (.invokevirtual 107, 3) := by decide +kernel
theorem dX8_doClause_86 : decode cX8_doClause 86 = .ok (.goto 73, 3) := by decide +kernel
theorem dX8_doClause_89 : decode cX8_doClause 89 = .ok (.aload_n 0, 1) := by decide +kernel
theorem dX8_doClause_90 : decode cX8_doClause 90 = .ok (.getfield 35, 3) := by decide +kernel
theorem dX8_doClause_93 : decode cX8_doClause 93 = .ok (.iconst 0, 1) := by decide +kernel
theorem dX8_doClause_94 : decode cX8_doClause 94 = .ok (.invokevirtual 84, 3) := by decide +kernel
theorem dX8_doClause_97 : decode cX8_doClause 97 = .ok (.iload_n 3, 1) := by decide +kernel
theorem dX8_doClause_98 : decode cX8_doClause 98 = .ok (.iload 4, 2) := by decide +kernel
theorem dX8_doClause_100 : decode cX8_doClause 100 = .ok (.iload_n 2, 1) := by decide +kernel
theorem dX8_doClause_101 : decode cX8_doClause 101 = .ok (.invokevirtual 94, 3) := by decide +kernel
theorem dX8_doClause_104 : decode cX8_doClause 104 = .ok (.goto 55, 3) := by decide +kernel
theorem dX8_doClause_107 : decode cX8_doClause 107 = .ok (.aload_n 0, 1) := by decide +kernel
theorem dX8_doClause_108 : decode cX8_doClause 108 = .ok (.getfield 35, 3) := by decide +kernel
theorem dX8_doClause_111 : decode cX8_doClause 111 = .ok (.iconst 1, 1) := by decide +kernel
theorem dX8_doClause_112 : decode cX8_doClause 112 = .ok (.invokevirtual 84, 3) := by decide +kernel
theorem dX8_doClause_115 : decode cX8_doClause 115 = .ok (.iload_n 3, 1) := by decide +kernel
theorem dX8_doClause_116 : decode cX8_doClause 116 = .ok (.iload 4, 2) := by decide +kernel
theorem dX8_doClause_118 : decode cX8_doClause 118 = .ok (.iload_n 2, 1) := by decide +kernel
theorem dX8_doClause_119 : decode cX8_doClause 119 = .ok (.invokevirtual 94, 3) := by decide +kernel
theorem dX8_doClause_122 : decode cX8_doClause 122 = .ok (.goto 37, 3) := by decide +kernel
theorem dX8_doClause_125 : decode cX8_doClause 125 = .ok (.aload_n 0, 1) := by decide +kernel
theorem dX8_doClause_126 : decode cX8_doClause 126 = .ok (.getfield 35, 3) := by decide +kernel
theorem dX8_doClause_129 : decode cX8_doClause 129 = .ok (.iload_n 2, 1) := by decide +kernel
theorem dX8_doClause_130 : decode cX8_doClause 130 = .ok (.invokevirtual 165, 3) := by decide +kernel
theorem dX8_doClause_133 : decode cX8_doClause 133 = .ok (.goto 26, 3) := by decide +kernel
theorem dX8_doClause_136 : decode cX8_doClause 136 = .ok (.aload_n 0, 1) := by decide +kernel
theorem dX8_doClause_137 : decode cX8_doClause 137 = .ok (.getfield 35, 3) := by decide +kernel
theorem dX8_doClause_140 : decode cX8_doClause 140 = .ok (.iload_n 2, 1) := by decide +kernel
theorem dX8_doClause_141 : decode cX8_doClause 141 = .ok (.iload_n 3, 1) := by decide +kernel
theorem dX8_doClause_142 : decode cX8_doClause 142 = .ok (.iload 4, 2) := by decide +kernel
theorem dX8_doClause_144 : decode cX8_doClause 144 = .ok (.aload_n 0, 1) := by decide +kernel
theorem dX8_doClause_145 : decode cX8_doClause 145 = .ok (.getfield 21, 3) := by decide +kernel
theorem dX8_doClause_148 : decode cX8_doClause 148 = .ok (.iload_n 1, 1) := by decide +kernel
theorem dX8_doClause_149 : decode cX8_doClause 149 = .ok (.iconst 3, 1) := by decide +kernel
theorem dX8_doClause_150 : decode cX8_doClause 150 = .ok (.invokevirtual 226, 3) := by decide +kernel
theorem dX8_doClause_153 : decode cX8_doClause 153 = .ok (.invokevirtual 154, 3) := by decide +kernel
theorem dX8_doClause_156 : decode cX8_doClause 156 = .ok (.goto 3, 3) := by decide +kernel
theorem dX8_doClause_159 : decode cX8_doClause 159 = .ok (.return_, 1) := by decide +kernel
theorem dX8_endOf_0 : decode cX8_endOf 0 = .ok (.aload_n 0, 1) := by decide +kernel
theorem dX8_endOf_1 : decode cX8_endOf 1 = .ok (.iload_n 1, 1) := by decide +kernel
theorem dX8_endOf_2 : decode cX8_endOf 2 = .ok (.invokevirtual 198, 3) := by decide +kernel
theorem dX8_endOf_5 : decode cX8_endOf 5 = .ok (.ifCond .ne 6, 3) := by decide +kernel
theorem dX8_endOf_8 : decode cX8_endOf 8 = .ok (.ldc 79, 2) := by decide +kernel
theorem dX8_endOf_10 : decode cX8_endOf 10 = .ok (.ireturn, 1) := by decide +kernel
theorem dX8_endOf_11 : decode cX8_endOf 11 = .ok (.iload_n 2, 1) := by decide +kernel
theorem dX8_endOf_12 : decode cX8_endOf 12 = .ok (.invokestatic 172, 3) := by decide +kernel
theorem dX8_endOf_15 : decode cX8_endOf 15 = .ok (.ifCond .eq 12, 3) := by decide +kernel
theorem dX8_endOf_18 : decode cX8_endOf 18 = .ok (.aload_n 0, 1) := by decide +kernel
theorem dX8_endOf_19 : decode cX8_endOf 19 = .ok (.iload_n 1, 1) := by decide +kernel
theorem dX8_endOf_20 : decode cX8_endOf 20 = .ok (.iload_n 2, 1) := by decide +kernel
theorem dX8_endOf_21 : decode cX8_endOf 21 = .ok (.invokevirtual 182, 3) := by decide +kernel
theorem dX8_endOf_24 : decode cX8_endOf 24 = .ok (.goto 5, 3) := by decide +kernel
theorem dX8_endOf_27 : decode cX8_endOf 27 = .ok (.ldc 52, 2) := by decide +kernel
theorem dX8_endOf_29 : decode cX8_endOf 29 = .ok (.ireturn, 1) := by decide +kernel
theorem dX8_isPolynomial_0 : decode cX8_isPolynomial 0 = .ok (.iload_n 0, 1) := by decide +kernel
theorem dX8_isPolynomial_1 : decode cX8_isPolynomial 1 = .ok (.ifCond .eq 8, 3) := by decide +kernel
theorem dX8_isPolynomial_4 : decode cX8_isPolynomial 4 = .ok (.iload_n 0, 1) := by decide +kernel
theorem dX8_isPolynomial_5 : decode cX8_isPolynomial 5 = .ok (.iconst 1, 1) := by decide +kernel
theorem dX8_isPolynomial_6 : decode cX8_isPolynomial 6 = .ok (.if_icmp .ne 7, 3) := by decide +kernel
theorem dX8_isPolynomial_9 : decode cX8_isPolynomial 9 = .ok (.iconst 1, 1) := by decide +kernel
theorem dX8_isPolynomial_10 : decode cX8_isPolynomial 10 = .ok (.goto 4, 3) := by decide +kernel
theorem dX8_isPolynomial_13 : decode cX8_isPolynomial 13 = .ok (.iconst 0, 1) := by decide +kernel
theorem dX8_isPolynomial_14 : decode cX8_isPolynomial 14 = .ok (.ireturn, 1) := by decide +kernel
theorem dX8_isPlace_0 : decode cX8_isPlace 0 = .ok (.iload_n 0, 1) := by decide +kernel
theorem dX8_isPlace_1 : decode cX8_isPlace 1 = .ok (.ifCond .lt 28, 3) := by decide +kernel
theorem dX8_isPlace_4 : decode cX8_isPlace 4 = .ok (.iload_n 0, 1) := by decide +kernel
theorem dX8_isPlace_5 : decode cX8_isPlace 5 = .ok (.iconst 4, 1) := by decide +kernel
theorem dX8_isPlace_6 : decode cX8_isPlace 6 = .ok (.if_icmp .gt 23, 3) := by decide +kernel
theorem dX8_isPlace_9 : decode cX8_isPlace 9 = .ok (.iload_n 1, 1) := by decide +kernel
theorem dX8_isPlace_10 : decode cX8_isPlace 10 = .ok (.ifCond .lt 19, 3) := by decide +kernel
theorem dX8_isPlace_13 : decode cX8_isPlace 13 = .ok (.iload_n 1, 1) := by decide +kernel
theorem dX8_isPlace_14 : decode cX8_isPlace 14 = .ok (.iconst 4, 1) := by decide +kernel
theorem dX8_isPlace_15 : decode cX8_isPlace 15 = .ok (.if_icmp .gt 14, 3) := by decide +kernel
theorem dX8_isPlace_18 : decode cX8_isPlace 18 = .ok (.iload_n 0, 1) := by decide +kernel
theorem dX8_isPlace_19 : decode cX8_isPlace 19 = .ok (.iload_n 1, 1) := by decide +kernel
theorem dX8_isPlace_20 : decode cX8_isPlace 20 = .ok (.iadd, 1) := by decide +kernel
theorem dX8_isPlace_21 : decode cX8_isPlace 21 = .ok (.iconst 4, 1) := by decide +kernel
theorem dX8_isPlace_22 : decode cX8_isPlace 22 = .ok (.if_icmp .gt 7, 3) := by decide +kernel
theorem dX8_isPlace_25 : decode cX8_isPlace 25 = .ok (.iconst 1, 1) := by decide +kernel
theorem dX8_isPlace_26 : decode cX8_isPlace 26 = .ok (.goto 4, 3) := by decide +kernel
theorem dX8_isPlace_29 : decode cX8_isPlace 29 = .ok (.iconst 0, 1) := by decide +kernel
theorem dX8_isPlace_30 : decode cX8_isPlace 30 = .ok (.ireturn, 1) := by decide +kernel
theorem dX8_isEnd_0 : decode cX8_isEnd 0 = .ok (.iload_n 0, 1) := by decide +kernel
theorem dX8_isEnd_1 : decode cX8_isEnd 1 = .ok (.sipush (-512), 3) := by decide +kernel
theorem dX8_isEnd_4 : decode cX8_isEnd 4 = .ok (.if_icmp .lt 14, 3) := by decide +kernel
theorem dX8_isEnd_7 : decode cX8_isEnd 7 = .ok (.iload_n 0, 1) := by decide +kernel
theorem dX8_isEnd_8 : decode cX8_isEnd 8 = .ok (.sipush 512, 3) := by decide +kernel
theorem dX8_isEnd_11 : decode cX8_isEnd 11 = .ok (.if_icmp .gt 7, 3) := by decide +kernel
theorem dX8_isEnd_14 : decode cX8_isEnd 14 = .ok (.iconst 1, 1) := by decide +kernel
theorem dX8_isEnd_15 : decode cX8_isEnd 15 = .ok (.goto 4, 3) := by decide +kernel
theorem dX8_isEnd_18 : decode cX8_isEnd 18 = .ok (.iconst 0, 1) := by decide +kernel
theorem dX8_isEnd_19 : decode cX8_isEnd 19 = .ok (.ireturn, 1) := by decide +kernel
theorem dX8_isSpan_0 : decode cX8_isSpan 0 = .ok (.iload_n 0, 1) := by decide +kernel
theorem dX8_isSpan_1 : decode cX8_isSpan 1 = .ok (.invokestatic 98, 3) := by decide +kernel
theorem dX8_isSpan_4 : decode cX8_isSpan 4 = .ok (.ifCond .eq 19, 3) := by decide +kernel
theorem dX8_isSpan_7 : decode cX8_isSpan 7 = .ok (.iload_n 1, 1) := by decide +kernel
theorem dX8_isSpan_8 : decode cX8_isSpan 8 = .ok (.invokestatic 98, 3) := by decide +kernel
theorem dX8_isSpan_11 : decode cX8_isSpan 11 = .ok (.ifCond .eq 12, 3) := by decide +kernel
theorem dX8_isSpan_14 : decode cX8_isSpan 14 = .ok (.iload_n 0, 1) := by decide +kernel
theorem dX8_isSpan_15 : decode cX8_isSpan 15 = .ok (.iload_n 1, 1) := by decide +kernel
theorem dX8_isSpan_16 : decode cX8_isSpan 16 = .ok (.if_icmp .gt 7, 3) := by decide +kernel
theorem dX8_isSpan_19 : decode cX8_isSpan 19 = .ok (.iconst 1, 1) := by decide +kernel
theorem dX8_isSpan_20 : decode cX8_isSpan 20 = .ok (.goto 4, 3) := by decide +kernel
theorem dX8_isSpan_23 : decode cX8_isSpan 23 = .ok (.iconst 0, 1) := by decide +kernel
theorem dX8_isSpan_24 : decode cX8_isSpan 24 = .ok (.ireturn, 1) := by decide +kernel
theorem dX8_isEndNumber_0 : decode cX8_isEndNumber 0 = .ok (.iload_n 0, 1) := by decide +kernel
theorem dX8_isEndNumber_1 : decode cX8_isEndNumber 1 = .ok (.ifCond .lt 12, 3) := by decide +kernel
theorem dX8_isEndNumber_4 : decode cX8_isEndNumber 4 = .ok (.iload_n 0, 1) := by decide +kernel
theorem dX8_isEndNumber_5 : decode cX8_isEndNumber 5 = .ok (.iconst 4, 1) := by decide +kernel
theorem dX8_isEndNumber_6 : decode cX8_isEndNumber 6 = .ok (.if_icmp .ge 7, 3) := by decide +kernel
theorem dX8_isEndNumber_9 : decode cX8_isEndNumber 9 = .ok (.iconst 1, 1) := by decide +kernel
theorem dX8_isEndNumber_10 : decode cX8_isEndNumber 10 = .ok (.goto 4, 3) := by decide +kernel
theorem dX8_isEndNumber_13 : decode cX8_isEndNumber 13 = .ok (.iconst 0, 1) := by decide +kernel
theorem dX8_isEndNumber_14 : decode cX8_isEndNumber 14 = .ok (.ireturn, 1) := by decide +kernel
theorem dX9_init_0 : decode cX9_init 0 = .ok (.aload_n 0, 1) := by decide +kernel
theorem dX9_init_1 : decode cX9_init 1 = .ok (.invokespecial 1, 3) := by decide +kernel
theorem dX9_init_4 : decode cX9_init 4 = .ok (.aload_n 0, 1) := by decide +kernel
theorem dX9_init_5 : decode cX9_init 5 = .ok (.sipush 2911, 3) := by decide +kernel
theorem dX9_init_8 : decode cX9_init 8 = .ok (.newarray .int, 2) := by decide +kernel
theorem dX9_init_10 : decode cX9_init 10 = .ok (.putfield 7, 3) := by decide +kernel
theorem dX9_init_13 : decode cX9_init 13 = .ok (.aload_n 0, 1) := by decide +kernel
theorem dX9_init_14 : decode cX9_init 14 = .ok (.sipush 5822, 3) := by decide +kernel
theorem dX9_init_17 : decode cX9_init 17 = .ok (.newarray .int, 2) := by decide +kernel
theorem dX9_init_19 : decode cX9_init 19 = .ok (.putfield 13, 3) := by decide +kernel
theorem dX9_init_22 : decode cX9_init 22 = .ok (.aload_n 0, 1) := by decide +kernel
theorem dX9_init_23 : decode cX9_init 23 = .ok (.iconst 2, 1) := by decide +kernel
theorem dX9_init_24 : decode cX9_init 24 = .ok (.newarray .int, 2) := by decide +kernel
theorem dX9_init_26 : decode cX9_init 26 = .ok (.putfield 16, 3) := by decide +kernel
theorem dX9_init_29 : decode cX9_init 29 = .ok (.aload_n 0, 1) := by decide +kernel
theorem dX9_init_30 : decode cX9_init 30 = .ok (.iconst 4, 1) := by decide +kernel
theorem dX9_init_31 : decode cX9_init 31 = .ok (.newarray .int, 2) := by decide +kernel
theorem dX9_init_33 : decode cX9_init 33 = .ok (.putfield 19, 3) := by decide +kernel
theorem dX9_init_36 : decode cX9_init 36 = .ok (.aload_n 0, 1) := by decide +kernel
theorem dX9_init_37 : decode cX9_init 37 = .ok (.bipush 22, 2) := by decide +kernel
theorem dX9_init_39 : decode cX9_init 39 = .ok (.newarray .long, 2) := by decide +kernel
theorem dX9_init_41 : decode cX9_init 41 = .ok (.putfield 22, 3) := by decide +kernel
theorem dX9_init_44 : decode cX9_init 44 = .ok (.aload_n 0, 1) := by decide +kernel
theorem dX9_init_45 : decode cX9_init 45 = .ok (.bipush 10, 2) := by decide +kernel
theorem dX9_init_47 : decode cX9_init 47 = .ok (.newarray .long, 2) := by decide +kernel
theorem dX9_init_49 : decode cX9_init 49 = .ok (.putfield 26, 3) := by decide +kernel
theorem dX9_init_52 : decode cX9_init 52 = .ok (.aload_n 0, 1) := by decide +kernel
theorem dX9_init_53 : decode cX9_init 53 = .ok (.bipush 10, 2) := by decide +kernel
theorem dX9_init_55 : decode cX9_init 55 = .ok (.newarray .long, 2) := by decide +kernel
theorem dX9_init_57 : decode cX9_init 57 = .ok (.putfield 29, 3) := by decide +kernel
theorem dX9_init_60 : decode cX9_init 60 = .ok (.aload_n 0, 1) := by decide +kernel
theorem dX9_init_61 : decode cX9_init 61 = .ok (.iconst 2, 1) := by decide +kernel
theorem dX9_init_62 : decode cX9_init 62 = .ok (.newarray .long, 2) := by decide +kernel
theorem dX9_init_64 : decode cX9_init 64 = .ok (.putfield 32, 3) := by decide +kernel
theorem dX9_init_67 : decode cX9_init 67 = .ok (.aload_n 0, 1) := by decide +kernel
theorem dX9_init_68 : decode cX9_init 68 = .ok (.iconst 4, 1) := by decide +kernel
theorem dX9_init_69 : decode cX9_init 69 = .ok (.newarray .int, 2) := by decide +kernel
theorem dX9_init_71 : decode cX9_init 71 = .ok (.putfield 35, 3) := by decide +kernel
theorem dX9_init_74 : decode cX9_init 74 = .ok (.aload_n 0, 1) := by decide +kernel
theorem dX9_init_75 : decode cX9_init 75 = .ok (.iconst 4, 1) := by decide +kernel
theorem dX9_init_76 : decode cX9_init 76 = .ok (.newarray .long, 2) := by decide +kernel
theorem dX9_init_78 : decode cX9_init 78 = .ok (.putfield 38, 3) := by decide +kernel
theorem dX9_init_81 : decode cX9_init 81 = .ok (.aload_n 0, 1) := by decide +kernel
theorem dX9_init_82 : decode cX9_init 82 = .ok (.sipush 200, 3) := by decide +kernel
theorem dX9_init_85 : decode cX9_init 85 = .ok (.newarray .int, 2) := by decide +kernel
theorem dX9_init_87 : decode cX9_init 87 = .ok (.putfield 41, 3) := by decide +kernel
theorem dX9_init_90 : decode cX9_init 90 = .ok (.aload_n 0, 1) := by decide +kernel
theorem dX9_init_91 : decode cX9_init 91 = .ok (.getfield 7, 3) := by decide +kernel
theorem dX9_init_94 : decode cX9_init 94 = .ok (.bipush 50, 2) := by decide +kernel
theorem dX9_init_96 : decode cX9_init 96 = .ok (.iconst 4, 1) := by decide +kernel
theorem dX9_init_97 : decode cX9_init 97 = .ok (.iastore, 1) := by decide +kernel
theorem dX9_init_98 : decode cX9_init 98 = .ok (.return_, 1) := by decide +kernel
theorem dX9_in_0 : decode cX9_in 0 = .ok (.iload_n 0, 1) := by decide +kernel
theorem dX9_in_1 : decode cX9_in 1 = .ok (.iload_n 1, 1) := by decide +kernel
theorem dX9_in_2 : decode cX9_in 2 = .ok (.if_icmp .lt 12, 3) := by decide +kernel
theorem dX9_in_5 : decode cX9_in 5 = .ok (.iload_n 0, 1) := by decide +kernel
theorem dX9_in_6 : decode cX9_in 6 = .ok (.iload_n 2, 1) := by decide +kernel
theorem dX9_in_7 : decode cX9_in 7 = .ok (.if_icmp .gt 7, 3) := by decide +kernel
theorem dX9_in_10 : decode cX9_in 10 = .ok (.iconst 1, 1) := by decide +kernel
theorem dX9_in_11 : decode cX9_in 11 = .ok (.goto 4, 3) := by decide +kernel
theorem dX9_in_14 : decode cX9_in 14 = .ok (.iconst 0, 1) := by decide +kernel
theorem dX9_in_15 : decode cX9_in 15 = .ok (.ireturn, 1) := by decide +kernel
theorem dX9_down_0 : decode cX9_down 0 = .ok (.lload_n 2, 1) := by decide +kernel
theorem dX9_down_1 : decode cX9_down 1 = .ok (.lconst 0, 1) := by decide +kernel
theorem dX9_down_2 : decode cX9_down 2 = .ok (.lcmp, 1) := by decide +kernel
theorem dX9_down_3 : decode cX9_down 3 = .ok (.ifCond .ge 8, 3) := by decide +kernel
theorem dX9_down_6 : decode cX9_down 6 = .ok (.lload_n 0, 1) := by decide +kernel
theorem dX9_down_7 : decode cX9_down 7 = .ok (.lneg, 1) := by decide +kernel
theorem dX9_down_8 : decode cX9_down 8 = .ok (.goto 4, 3) := by decide +kernel
theorem dX9_down_11 : decode cX9_down 11 = .ok (.lload_n 0, 1) := by decide +kernel
theorem dX9_down_12 : decode cX9_down 12 = .ok (.lstore 4, 2) := by decide +kernel
theorem dX9_down_14 : decode cX9_down 14 = .ok (.lload_n 2, 1) := by decide +kernel
theorem dX9_down_15 : decode cX9_down 15 = .ok (.lconst 0, 1) := by decide +kernel
theorem dX9_down_16 : decode cX9_down 16 = .ok (.lcmp, 1) := by decide +kernel
theorem dX9_down_17 : decode cX9_down 17 = .ok (.ifCond .ge 8, 3) := by decide +kernel
theorem dX9_down_20 : decode cX9_down 20 = .ok (.lload_n 2, 1) := by decide +kernel
theorem dX9_down_21 : decode cX9_down 21 = .ok (.lneg, 1) := by decide +kernel
theorem dX9_down_22 : decode cX9_down 22 = .ok (.goto 4, 3) := by decide +kernel
theorem dX9_down_25 : decode cX9_down 25 = .ok (.lload_n 2, 1) := by decide +kernel
theorem dX9_down_26 : decode cX9_down 26 = .ok (.lstore 6, 2) := by decide +kernel
theorem dX9_down_28 : decode cX9_down 28 = .ok (.lload 4, 2) := by decide +kernel
theorem dX9_down_30 : decode cX9_down 30 = .ok (.lload 6, 2) := by decide +kernel
theorem dX9_down_32 : decode cX9_down 32 = .ok (.ldiv, 1) := by decide +kernel
theorem dX9_down_33 : decode cX9_down 33 = .ok (.lstore 8, 2) := by decide +kernel
theorem dX9_down_35 : decode cX9_down 35 = .ok (.lload 8, 2) := by decide +kernel
theorem dX9_down_37 : decode cX9_down 37 = .ok (.lload 6, 2) := by decide +kernel
theorem dX9_down_39 : decode cX9_down 39 = .ok (.lmul, 1) := by decide +kernel
theorem dX9_down_40 : decode cX9_down 40 = .ok (.lload 4, 2) := by decide +kernel
theorem dX9_down_42 : decode cX9_down 42 = .ok (.lcmp, 1) := by decide +kernel
theorem dX9_down_43 : decode cX9_down 43 = .ok (.ifCond .le 10, 3) := by decide +kernel
theorem dX9_down_46 : decode cX9_down 46 = .ok (.lload 8, 2) := by decide +kernel
theorem dX9_down_48 : decode cX9_down 48 = .ok (.lconst 1, 1) := by decide +kernel
theorem dX9_down_49 : decode cX9_down 49 = .ok (.lsub, 1) := by decide +kernel
theorem dX9_down_50 : decode cX9_down 50 = .ok (.goto 5, 3) := by decide +kernel
theorem dX9_down_53 : decode cX9_down 53 = .ok (.lload 8, 2) := by decide +kernel
theorem dX9_down_55 : decode cX9_down 55 = .ok (.lreturn, 1) := by decide +kernel
theorem dX9_up_0 : decode cX9_up 0 = .ok (.lload_n 0, 1) := by decide +kernel
theorem dX9_up_1 : decode cX9_up 1 = .ok (.lneg, 1) := by decide +kernel
theorem dX9_up_2 : decode cX9_up 2 = .ok (.lload_n 2, 1) := by decide +kernel
theorem dX9_up_3 : decode cX9_up 3 = .ok (.invokestatic 44, 3) := by decide +kernel
theorem dX9_up_6 : decode cX9_up 6 = .ok (.lneg, 1) := by decide +kernel
theorem dX9_up_7 : decode cX9_up 7 = .ok (.lreturn, 1) := by decide +kernel
theorem dX9_lesser_0 : decode cX9_lesser 0 = .ok (.lload_n 0, 1) := by decide +kernel
theorem dX9_lesser_1 : decode cX9_lesser 1 = .ok (.lload_n 2, 1) := by decide +kernel
theorem dX9_lesser_2 : decode cX9_lesser 2 = .ok (.lcmp, 1) := by decide +kernel
theorem dX9_lesser_3 : decode cX9_lesser 3 = .ok (.ifCond .ge 7, 3) := by decide +kernel
theorem dX9_lesser_6 : decode cX9_lesser 6 = .ok (.lload_n 0, 1) := by decide +kernel
theorem dX9_lesser_7 : decode cX9_lesser 7 = .ok (.goto 4, 3) := by decide +kernel
theorem dX9_lesser_10 : decode cX9_lesser 10 = .ok (.lload_n 2, 1) := by decide +kernel
theorem dX9_lesser_11 : decode cX9_lesser 11 = .ok (.lreturn, 1) := by decide +kernel
theorem dX9_greater_0 : decode cX9_greater 0 = .ok (.lload_n 0, 1) := by decide +kernel
theorem dX9_greater_1 : decode cX9_greater 1 = .ok (.lload_n 2, 1) := by decide +kernel
theorem dX9_greater_2 : decode cX9_greater 2 = .ok (.lcmp, 1) := by decide +kernel
theorem dX9_greater_3 : decode cX9_greater 3 = .ok (.ifCond .le 7, 3) := by decide +kernel
theorem dX9_greater_6 : decode cX9_greater 6 = .ok (.lload_n 0, 1) := by decide +kernel
theorem dX9_greater_7 : decode cX9_greater 7 = .ok (.goto 4, 3) := by decide +kernel
theorem dX9_greater_10 : decode cX9_greater 10 = .ok (.lload_n 2, 1) := by decide +kernel
theorem dX9_greater_11 : decode cX9_greater 11 = .ok (.lreturn, 1) := by decide +kernel
theorem dX9_product_0 : decode cX9_product 0 = .ok (.aload_n 0, 1) := by decide +kernel
theorem dX9_product_1 : decode cX9_product 1 = .ok (.iload_n 1, 1) := by decide +kernel
theorem dX9_product_2 : decode cX9_product 2 = .ok (.laload, 1) := by decide +kernel
theorem dX9_product_3 : decode cX9_product 3 = .ok (.aload_n 2, 1) := by decide +kernel
theorem dX9_product_4 : decode cX9_product 4 = .ok (.iload_n 3, 1) := by decide +kernel
theorem dX9_product_5 : decode cX9_product 5 = .ok (.laload, 1) := by decide +kernel
theorem dX9_product_6 : decode cX9_product 6 = .ok (.lmul, 1) := by decide +kernel
theorem dX9_product_7 : decode cX9_product 7 = .ok (.lstore 6, 2) := by decide +kernel
theorem dX9_product_9 : decode cX9_product 9 = .ok (.aload_n 0, 1) := by decide +kernel
theorem dX9_product_10 : decode cX9_product 10 = .ok (.iload_n 1, 1) := by decide +kernel
theorem dX9_product_11 : decode cX9_product 11 = .ok (.laload, 1) := by decide +kernel
theorem dX9_product_12 : decode cX9_product 12 = .ok (.aload_n 2, 1) := by decide +kernel
theorem dX9_product_13 : decode cX9_product 13 = .ok (.iload_n 3, 1) := by decide +kernel
theorem dX9_product_14 : decode cX9_product 14 = .ok (.iconst 1, 1) := by decide +kernel
theorem dX9_product_15 : decode cX9_product 15 = .ok (.iadd, 1) := by decide +kernel
theorem dX9_product_16 : decode cX9_product 16 = .ok (.laload, 1) := by decide +kernel
theorem dX9_product_17 : decode cX9_product 17 = .ok (.lmul, 1) := by decide +kernel
theorem dX9_product_18 : decode cX9_product 18 = .ok (.lstore 8, 2) := by decide +kernel
theorem dX9_product_20 : decode cX9_product 20 = .ok (.aload_n 0, 1) := by decide +kernel
theorem dX9_product_21 : decode cX9_product 21 = .ok (.iload_n 1, 1) := by decide +kernel
theorem dX9_product_22 : decode cX9_product 22 = .ok (.iconst 1, 1) := by decide +kernel
theorem dX9_product_23 : decode cX9_product 23 = .ok (.iadd, 1) := by decide +kernel
theorem dX9_product_24 : decode cX9_product 24 = .ok (.laload, 1) := by decide +kernel
theorem dX9_product_25 : decode cX9_product 25 = .ok (.aload_n 2, 1) := by decide +kernel
theorem dX9_product_26 : decode cX9_product 26 = .ok (.iload_n 3, 1) := by decide +kernel
theorem dX9_product_27 : decode cX9_product 27 = .ok (.laload, 1) := by decide +kernel
theorem dX9_product_28 : decode cX9_product 28 = .ok (.lmul, 1) := by decide +kernel
theorem dX9_product_29 : decode cX9_product 29 = .ok (.lstore 10, 2) := by decide +kernel
theorem dX9_product_31 : decode cX9_product 31 = .ok (.aload_n 0, 1) := by decide +kernel
theorem dX9_product_32 : decode cX9_product 32 = .ok (.iload_n 1, 1) := by decide +kernel
theorem dX9_product_33 : decode cX9_product 33 = .ok (.iconst 1, 1) := by decide +kernel
theorem dX9_product_34 : decode cX9_product 34 = .ok (.iadd, 1) := by decide +kernel
theorem dX9_product_35 : decode cX9_product 35 = .ok (.laload, 1) := by decide +kernel
theorem dX9_product_36 : decode cX9_product 36 = .ok (.aload_n 2, 1) := by decide +kernel
theorem dX9_product_37 : decode cX9_product 37 = .ok (.iload_n 3, 1) := by decide +kernel
theorem dX9_product_38 : decode cX9_product 38 = .ok (.iconst 1, 1) := by decide +kernel
theorem dX9_product_39 : decode cX9_product 39 = .ok (.iadd, 1) := by decide +kernel
theorem dX9_product_40 : decode cX9_product 40 = .ok (.laload, 1) := by decide +kernel
theorem dX9_product_41 : decode cX9_product 41 = .ok (.lmul, 1) := by decide +kernel
theorem dX9_product_42 : decode cX9_product 42 = .ok (.lstore 12, 2) := by decide +kernel
theorem dX9_product_44 : decode cX9_product 44 = .ok (.aload 4, 2) := by decide +kernel
theorem dX9_product_46 : decode cX9_product 46 = .ok (.iload 5, 2) := by decide +kernel
theorem dX9_product_48 : decode cX9_product 48 = .ok (.lload 6, 2) := by decide +kernel
theorem dX9_product_50 : decode cX9_product 50 = .ok (.lload 8, 2) := by decide +kernel
theorem dX9_product_52 : decode cX9_product 52 = .ok (.invokestatic 48, 3) := by decide +kernel
theorem dX9_product_55 : decode cX9_product 55 = .ok (.lload 10, 2) := by decide +kernel
theorem dX9_product_57 : decode cX9_product 57 = .ok (.lload 12, 2) := by decide +kernel
theorem dX9_product_59 : decode cX9_product 59 = .ok (.invokestatic 48, 3) := by decide +kernel
theorem dX9_product_62 : decode cX9_product 62 = .ok (.invokestatic 48, 3) := by decide +kernel
theorem dX9_product_65 : decode cX9_product 65 = .ok (.ldc2_w 51, 3) := by decide +kernel
theorem dX9_product_68 : decode cX9_product 68 = .ok (.invokestatic 44, 3) := by decide +kernel
theorem dX9_product_71 : decode cX9_product 71 = .ok (.lastore, 1) := by decide +kernel
theorem dX9_product_72 : decode cX9_product 72 = .ok (.aload 4, 2) := by decide +kernel
theorem dX9_product_74 : decode cX9_product 74 = .ok (.iload 5, 2) := by decide +kernel
theorem dX9_product_76 : decode cX9_product 76 = .ok (.iconst 1, 1) := by decide +kernel
theorem dX9_product_77 : decode cX9_product 77 = .ok (.iadd, 1) := by decide +kernel
theorem dX9_product_78 : decode cX9_product 78 = .ok (.lload 6, 2) := by decide +kernel
theorem dX9_product_80 : decode cX9_product 80 = .ok (.lload 8, 2) := by decide +kernel
theorem dX9_product_82 : decode cX9_product 82 = .ok (.invokestatic 53, 3) := by decide +kernel
theorem dX9_product_85 : decode cX9_product 85 = .ok (.lload 10, 2) := by decide +kernel
theorem dX9_product_87 : decode cX9_product 87 = .ok (.lload 12, 2) := by decide +kernel
theorem dX9_product_89 : decode cX9_product 89 = .ok (.invokestatic 53, 3) := by decide +kernel
theorem dX9_product_92 : decode cX9_product 92 = .ok (.invokestatic 53, 3) := by decide +kernel
theorem dX9_product_95 : decode cX9_product 95 = .ok (.ldc2_w 51, 3) := by decide +kernel
theorem dX9_product_98 : decode cX9_product 98 = .ok (.invokestatic 56, 3) := by decide +kernel
theorem dX9_product_101 : decode cX9_product 101 = .ok (.lastore, 1) := by decide +kernel
theorem dX9_product_102 : decode cX9_product 102 = .ok (.return_, 1) := by decide +kernel
theorem dX9_quotient_0 : decode cX9_quotient 0 = .ok (.lconst 0, 1) := by decide +kernel
theorem dX9_quotient_1 : decode cX9_quotient 1 = .ok (.lstore 4, 2) := by decide +kernel
theorem dX9_quotient_3 : decode cX9_quotient 3 = .ok (.lconst 0, 1) := by decide +kernel
theorem dX9_quotient_4 : decode cX9_quotient 4 = .ok (.lstore 6, 2) := by decide +kernel
theorem dX9_quotient_6 : decode cX9_quotient 6 = .ok (.iconst 0, 1) := by decide +kernel
theorem dX9_quotient_7 : decode cX9_quotient 7 = .ok (.istore 8, 2) := by decide +kernel
theorem dX9_quotient_9 : decode cX9_quotient 9 = .ok (.iload 8, 2) := by decide +kernel
theorem dX9_quotient_11 : decode cX9_quotient 11 = .ok (.iconst 4, 1) := by decide +kernel
theorem dX9_quotient_12 : decode cX9_quotient 12 = .ok (.if_icmp .ge 97, 3) := by decide +kernel
theorem dX9_quotient_15 : decode cX9_quotient 15 = .ok (.ldc2_w 51, 3) := by decide +kernel
theorem dX9_quotient_18 : decode cX9_quotient 18 = .ok (.aload_n 0, 1) := by decide +kernel
theorem dX9_quotient_19 : decode cX9_quotient 19 = .ok (.getfield 22, 3) := by decide +kernel
theorem dX9_quotient_22 : decode cX9_quotient 22 = .ok (.iload_n 1, 1) := by decide +kernel
theorem dX9_quotient_23 : decode cX9_quotient 23 = .ok (.iload 8, 2) := by decide +kernel
theorem dX9_quotient_25 : decode cX9_quotient 25 = .ok (.iconst 2, 1) := by decide +kernel
theorem dX9_quotient_26 : decode cX9_quotient 26 = .ok (.idiv, 1) := by decide +kernel
theorem dX9_quotient_27 : decode cX9_quotient 27 = .ok (.iadd, 1) := by decide +kernel
theorem dX9_quotient_28 : decode cX9_quotient 28 = .ok (.laload, 1) := by decide +kernel
theorem dX9_quotient_29 : decode cX9_quotient 29 = .ok (.lmul, 1) := by decide +kernel
theorem dX9_quotient_30 : decode cX9_quotient 30 = .ok (.lstore 9, 2) := by decide +kernel
theorem dX9_quotient_32 : decode cX9_quotient 32 = .ok (.aload_n 0, 1) := by decide +kernel
theorem dX9_quotient_33 : decode cX9_quotient 33 = .ok (.getfield 22, 3) := by decide +kernel
theorem dX9_quotient_36 : decode cX9_quotient 36 = .ok (.iload_n 2, 1) := by decide +kernel
theorem dX9_quotient_37 : decode cX9_quotient 37 = .ok (.iload 8, 2) := by decide +kernel
theorem dX9_quotient_39 : decode cX9_quotient 39 = .ok (.iconst 2, 1) := by decide +kernel
theorem dX9_quotient_40 : decode cX9_quotient 40 = .ok (.irem, 1) := by decide +kernel
theorem dX9_quotient_41 : decode cX9_quotient 41 = .ok (.iadd, 1) := by decide +kernel
theorem dX9_quotient_42 : decode cX9_quotient 42 = .ok (.laload, 1) := by decide +kernel
theorem dX9_quotient_43 : decode cX9_quotient 43 = .ok (.lstore 11, 2) := by decide +kernel
theorem dX9_quotient_45 : decode cX9_quotient 45 = .ok (.iload 8, 2) := by decide +kernel
theorem dX9_quotient_47 : decode cX9_quotient 47 = .ok (.ifCond .ne 13, 3) := by decide +kernel
theorem dX9_quotient_50 : decode cX9_quotient 50 = .ok (.lload 9, 2) := by decide +kernel
theorem dX9_quotient_52 : decode cX9_quotient 52 = .ok (.lload 11, 2) := by decide +kernel
theorem dX9_quotient_54 : decode cX9_quotient 54 = .ok (.invokestatic 44, 3) := by decide +kernel
theorem dX9_quotient_57 : decode cX9_quotient 57 = .ok (.goto 15, 3) := by decide +kernel
theorem dX9_quotient_60 : decode cX9_quotient 60 = .ok (.lload 4, 2) := by decide +kernel
theorem dX9_quotient_62 : decode cX9_quotient 62 = .ok (.lload 9, 2) := by decide +kernel
theorem dX9_quotient_64 : decode cX9_quotient 64 = .ok (.lload 11, 2) := by decide +kernel
theorem dX9_quotient_66 : decode cX9_quotient 66 = .ok (.invokestatic 44, 3) := by decide +kernel
theorem dX9_quotient_69 : decode cX9_quotient 69 = .ok (.invokestatic 48, 3) := by decide +kernel
theorem dX9_quotient_72 : decode cX9_quotient 72 = .ok (.lstore 4, 2) := by decide +kernel
theorem dX9_quotient_74 : decode cX9_quotient 74 = .ok (.iload 8, 2) := by decide +kernel
theorem dX9_quotient_76 : decode cX9_quotient 76 = .ok (.ifCond .ne 13, 3) := by decide +kernel
theorem dX9_quotient_79 : decode cX9_quotient 79 = .ok (.lload 9, 2) := by decide +kernel
theorem dX9_quotient_81 : decode cX9_quotient 81 = .ok (.lload 11, 2) := by decide +kernel
theorem dX9_quotient_83 : decode cX9_quotient 83 = .ok (.invokestatic 56, 3) := by decide +kernel
theorem dX9_quotient_86 : decode cX9_quotient 86 = .ok (.goto 15, 3) := by decide +kernel
theorem dX9_quotient_89 : decode cX9_quotient 89 = .ok (.lload 6, 2) := by decide +kernel
theorem dX9_quotient_91 : decode cX9_quotient 91 = .ok (.lload 9, 2) := by decide +kernel
theorem dX9_quotient_93 : decode cX9_quotient 93 = .ok (.lload 11, 2) := by decide +kernel
theorem dX9_quotient_95 : decode cX9_quotient 95 = .ok (.invokestatic 56, 3) := by decide +kernel
theorem dX9_quotient_98 : decode cX9_quotient 98 = .ok (.invokestatic 53, 3) := by decide +kernel
theorem dX9_quotient_101 : decode cX9_quotient 101 = .ok (.lstore 6, 2) := by decide +kernel
theorem dX9_quotient_103 : decode cX9_quotient 103 = .ok (.iinc 8 1, 3) := by decide +kernel
theorem dX9_quotient_106 : decode cX9_quotient 106 = .ok (.goto (-97), 3) := by decide +kernel
theorem dX9_quotient_109 : decode cX9_quotient 109 = .ok (.aload_n 0, 1) := by decide +kernel
theorem dX9_quotient_110 : decode cX9_quotient 110 = .ok (.getfield 22, 3) := by decide +kernel
theorem dX9_quotient_113 : decode cX9_quotient 113 = .ok (.iload_n 3, 1) := by decide +kernel
theorem dX9_quotient_114 : decode cX9_quotient 114 = .ok (.lload 4, 2) := by decide +kernel
theorem dX9_quotient_116 : decode cX9_quotient 116 = .ok (.lastore, 1) := by decide +kernel
theorem dX9_quotient_117 : decode cX9_quotient 117 = .ok (.aload_n 0, 1) := by decide +kernel
theorem dX9_quotient_118 : decode cX9_quotient 118 = .ok (.getfield 22, 3) := by decide +kernel
theorem dX9_quotient_121 : decode cX9_quotient 121 = .ok (.iload_n 3, 1) := by decide +kernel
theorem dX9_quotient_122 : decode cX9_quotient 122 = .ok (.iconst 1, 1) := by decide +kernel
theorem dX9_quotient_123 : decode cX9_quotient 123 = .ok (.iadd, 1) := by decide +kernel
theorem dX9_quotient_124 : decode cX9_quotient 124 = .ok (.lload 6, 2) := by decide +kernel
theorem dX9_quotient_126 : decode cX9_quotient 126 = .ok (.lastore, 1) := by decide +kernel
theorem dX9_quotient_127 : decode cX9_quotient 127 = .ok (.return_, 1) := by decide +kernel
theorem dX9_lessens_0 : decode cX9_lessens 0 = .ok (.aload_n 0, 1) := by decide +kernel
theorem dX9_lessens_1 : decode cX9_lessens 1 = .ok (.getfield 22, 3) := by decide +kernel
theorem dX9_lessens_4 : decode cX9_lessens 4 = .ok (.iload_n 1, 1) := by decide +kernel
theorem dX9_lessens_5 : decode cX9_lessens 5 = .ok (.laload, 1) := by decide +kernel
theorem dX9_lessens_6 : decode cX9_lessens 6 = .ok (.aload_n 0, 1) := by decide +kernel
theorem dX9_lessens_7 : decode cX9_lessens 7 = .ok (.getfield 22, 3) := by decide +kernel
theorem dX9_lessens_10 : decode cX9_lessens 10 = .ok (.iload_n 2, 1) := by decide +kernel
theorem dX9_lessens_11 : decode cX9_lessens 11 = .ok (.iconst 1, 1) := by decide +kernel
theorem dX9_lessens_12 : decode cX9_lessens 12 = .ok (.iadd, 1) := by decide +kernel
theorem dX9_lessens_13 : decode cX9_lessens 13 = .ok (.laload, 1) := by decide +kernel
theorem dX9_lessens_14 : decode cX9_lessens 14 = .ok (.lsub, 1) := by decide +kernel
theorem dX9_lessens_15 : decode cX9_lessens 15 = .ok (.lstore 4, 2) := by decide +kernel
theorem dX9_lessens_17 : decode cX9_lessens 17 = .ok (.aload_n 0, 1) := by decide +kernel
theorem dX9_lessens_18 : decode cX9_lessens 18 = .ok (.getfield 22, 3) := by decide +kernel
theorem dX9_lessens_21 : decode cX9_lessens 21 = .ok (.iload_n 1, 1) := by decide +kernel
theorem dX9_lessens_22 : decode cX9_lessens 22 = .ok (.iconst 1, 1) := by decide +kernel
theorem dX9_lessens_23 : decode cX9_lessens 23 = .ok (.iadd, 1) := by decide +kernel
theorem dX9_lessens_24 : decode cX9_lessens 24 = .ok (.laload, 1) := by decide +kernel
theorem dX9_lessens_25 : decode cX9_lessens 25 = .ok (.aload_n 0, 1) := by decide +kernel
theorem dX9_lessens_26 : decode cX9_lessens 26 = .ok (.getfield 22, 3) := by decide +kernel
theorem dX9_lessens_29 : decode cX9_lessens 29 = .ok (.iload_n 2, 1) := by decide +kernel
theorem dX9_lessens_30 : decode cX9_lessens 30 = .ok (.laload, 1) := by decide +kernel
theorem dX9_lessens_31 : decode cX9_lessens 31 = .ok (.lsub, 1) := by decide +kernel
theorem dX9_lessens_32 : decode cX9_lessens 32 = .ok (.lstore 6, 2) := by decide +kernel
theorem dX9_lessens_34 : decode cX9_lessens 34 = .ok (.aload_n 0, 1) := by decide +kernel
theorem dX9_lessens_35 : decode cX9_lessens 35 = .ok (.getfield 22, 3) := by decide +kernel
theorem dX9_lessens_38 : decode cX9_lessens 38 = .ok (.iload_n 3, 1) := by decide +kernel
theorem dX9_lessens_39 : decode cX9_lessens 39 = .ok (.lload 4, 2) := by decide +kernel
