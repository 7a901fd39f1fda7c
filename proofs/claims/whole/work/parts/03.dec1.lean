theorem dX0_init_0 : decode cX0_init 0 = .ok (.aload_n 0, 1) := by decide +kernel
theorem dX0_init_1 : decode cX0_init 1 = .ok (.invokespecial 3, 3) := by decide +kernel
theorem dX0_init_4 : decode cX0_init 4 = .ok (.aload_n 0, 1) := by decide +kernel
theorem dX0_init_5 : decode cX0_init 5 = .ok (.iconst 1, 1) := by decide +kernel
theorem dX0_init_6 : decode cX0_init 6 = .ok (.iload_n 1, 1) := by decide +kernel
theorem dX0_init_7 : decode cX0_init 7 = .ok (.invokestatic 9, 3) := by decide +kernel
theorem dX0_init_10 : decode cX0_init 10 = .ok (.putfield 15, 3) := by decide +kernel
theorem dX0_init_13 : decode cX0_init 13 = .ok (.aload_n 0, 1) := by decide +kernel
theorem dX0_init_14 : decode cX0_init 14 = .ok (.iconst 4, 1) := by decide +kernel
theorem dX0_init_15 : decode cX0_init 15 = .ok (.aload_n 0, 1) := by decide +kernel
theorem dX0_init_16 : decode cX0_init 16 = .ok (.getfield 15, 3) := by decide +kernel
theorem dX0_init_19 : decode cX0_init 19 = .ok (.imul, 1) := by decide +kernel
theorem dX0_init_20 : decode cX0_init 20 = .ok (.newarray .int, 2) := by decide +kernel
theorem dX0_init_22 : decode cX0_init 22 = .ok (.putfield 21, 3) := by decide +kernel
theorem dX0_init_25 : decode cX0_init 25 = .ok (.return_, 1) := by decide +kernel
theorem dX0_size_0 : decode cX0_size 0 = .ok (.aload_n 0, 1) := by decide +kernel
theorem dX0_size_1 : decode cX0_size 1 = .ok (.getfield 25, 3) := by decide +kernel
theorem dX0_size_4 : decode cX0_size 4 = .ok (.ireturn, 1) := by decide +kernel
theorem dX0_isEmpty_0 : decode cX0_isEmpty 0 = .ok (.aload_n 0, 1) := by decide +kernel
theorem dX0_isEmpty_1 : decode cX0_isEmpty 1 = .ok (.getfield 25, 3) := by decide +kernel
theorem dX0_isEmpty_4 : decode cX0_isEmpty 4 = .ok (.ifCond .ne 7, 3) := by decide +kernel
theorem dX0_isEmpty_7 : decode cX0_isEmpty 7 = .ok (.iconst 1, 1) := by decide +kernel
theorem dX0_isEmpty_8 : decode cX0_isEmpty 8 = .ok (.goto 4, 3) := by decide +kernel
theorem dX0_isEmpty_11 : decode cX0_isEmpty 11 = .ok (.iconst 0, 1) := by decide +kernel
theorem dX0_isEmpty_12 : decode cX0_isEmpty 12 = .ok (.ireturn, 1) := by decide +kernel
theorem dX0_isFull_0 : decode cX0_isFull 0 = .ok (.aload_n 0, 1) := by decide +kernel
theorem dX0_isFull_1 : decode cX0_isFull 1 = .ok (.getfield 25, 3) := by decide +kernel
theorem dX0_isFull_4 : decode cX0_isFull 4 = .ok (.aload_n 0, 1) := by decide +kernel
theorem dX0_isFull_5 : decode cX0_isFull 5 = .ok (.getfield 15, 3) := by decide +kernel
theorem dX0_isFull_8 : decode cX0_isFull 8 = .ok (.if_icmp .lt 7, 3) := by decide +kernel
theorem dX0_isFull_11 : decode cX0_isFull 11 = .ok (.iconst 1, 1) := by decide +kernel
theorem dX0_isFull_12 : decode cX0_isFull 12 = .ok (.goto 4, 3) := by decide +kernel
theorem dX0_isFull_15 : decode cX0_isFull 15 = .ok (.iconst 0, 1) := by decide +kernel
theorem dX0_isFull_16 : decode cX0_isFull 16 = .ok (.ireturn, 1) := by decide +kernel
theorem dX0_has_0 : decode cX0_has 0 = .ok (.iload_n 1, 1) := by decide +kernel
theorem dX0_has_1 : decode cX0_has 1 = .ok (.ifCond .lt 15, 3) := by decide +kernel
theorem dX0_has_4 : decode cX0_has 4 = .ok (.iload_n 1, 1) := by decide +kernel
theorem dX0_has_5 : decode cX0_has 5 = .ok (.aload_n 0, 1) := by decide +kernel
theorem dX0_has_6 : decode cX0_has 6 = .ok (.getfield 25, 3) := by decide +kernel
theorem dX0_has_9 : decode cX0_has 9 = .ok (.if_icmp .ge 7, 3) := by decide +kernel
theorem dX0_has_12 : decode cX0_has 12 = .ok (.iconst 1, 1) := by decide +kernel
theorem dX0_has_13 : decode cX0_has 13 = .ok (.goto 4, 3) := by decide +kernel
theorem dX0_has_16 : decode cX0_has 16 = .ok (.iconst 0, 1) := by decide +kernel
theorem dX0_has_17 : decode cX0_has 17 = .ok (.ireturn, 1) := by decide +kernel
theorem dX0_clear_0 : decode cX0_clear 0 = .ok (.aload_n 0, 1) := by decide +kernel
theorem dX0_clear_1 : decode cX0_clear 1 = .ok (.iconst 0, 1) := by decide +kernel
theorem dX0_clear_2 : decode cX0_clear 2 = .ok (.putfield 25, 3) := by decide +kernel
theorem dX0_clear_5 : decode cX0_clear 5 = .ok (.return_, 1) := by decide +kernel
theorem dX0_end_0 : decode cX0_end 0 = .ok (.aload_n 0, 1) := by decide +kernel
theorem dX0_end_1 : decode cX0_end 1 = .ok (.iload_n 1, 1) := by decide +kernel
theorem dX0_end_2 : decode cX0_end 2 = .ok (.invokevirtual 28, 3) := by decide +kernel
theorem dX0_end_5 : decode cX0_end 5 = .ok (.ifCond .eq 31, 3) := by decide +kernel
theorem dX0_end_8 : decode cX0_end 8 = .ok (.iload_n 1, 1) := by decide +kernel
theorem dX0_end_9 : decode cX0_end 9 = .ok (.aload_n 0, 1) := by decide +kernel
theorem dX0_end_10 : decode cX0_end 10 = .ok (.getfield 15, 3) := by decide +kernel
theorem dX0_end_13 : decode cX0_end 13 = .ok (.if_icmp .ge 23, 3) := by decide +kernel
theorem dX0_end_16 : decode cX0_end 16 = .ok (.iload_n 2, 1) := by decide +kernel
theorem dX0_end_17 : decode cX0_end 17 = .ok (.invokestatic 32, 3) := by decide +kernel
theorem dX0_end_20 : decode cX0_end 20 = .ok (.ifCond .eq 16, 3) := by decide +kernel
theorem dX0_end_23 : decode cX0_end 23 = .ok (.aload_n 0, 1) := by decide +kernel
theorem dX0_end_24 : decode cX0_end 24 = .ok (.getfield 21, 3) := by decide +kernel
theorem dX0_end_27 : decode cX0_end 27 = .ok (.iconst 4, 1) := by decide +kernel
theorem dX0_end_28 : decode cX0_end 28 = .ok (.iload_n 1, 1) := by decide +kernel
theorem dX0_end_29 : decode cX0_end 29 = .ok (.imul, 1) := by decide +kernel
theorem dX0_end_30 : decode cX0_end 30 = .ok (.iload_n 2, 1) := by decide +kernel
theorem dX0_end_31 : decode cX0_end 31 = .ok (.iadd, 1) := by decide +kernel
theorem dX0_end_32 : decode cX0_end 32 = .ok (.iaload, 1) := by decide +kernel
theorem dX0_end_33 : decode cX0_end 33 = .ok (.goto 4, 3) := by decide +kernel
theorem dX0_end_36 : decode cX0_end 36 = .ok (.iconst 0, 1) := by decide +kernel
theorem dX0_end_37 : decode cX0_end 37 = .ok (.ireturn, 1) := by decide +kernel
theorem dX0_add_0 : decode cX0_add 0 = .ok (.aload_n 0, 1) := by decide +kernel
theorem dX0_add_1 : decode cX0_add 1 = .ok (.getfield 25, 3) := by decide +kernel
theorem dX0_add_4 : decode cX0_add 4 = .ok (.ifCond .lt 14, 3) := by decide +kernel
theorem dX0_add_7 : decode cX0_add 7 = .ok (.aload_n 0, 1) := by decide +kernel
theorem dX0_add_8 : decode cX0_add 8 = .ok (.getfield 25, 3) := by decide +kernel
theorem dX0_add_11 : decode cX0_add 11 = .ok (.aload_n 0, 1) := by decide +kernel
theorem dX0_add_12 : decode cX0_add 12 = .ok (.getfield 15, 3) := by decide +kernel
theorem dX0_add_15 : decode cX0_add 15 = .ok (.if_icmp .lt 4, 3) := by decide +kernel
theorem dX0_add_18 : decode cX0_add 18 = .ok (.return_, 1) := by decide +kernel
theorem dX0_add_19 : decode cX0_add 19 = .ok (.iconst 4, 1) := by decide +kernel
theorem dX0_add_20 : decode cX0_add 20 = .ok (.aload_n 0, 1) := by decide +kernel
theorem dX0_add_21 : decode cX0_add 21 = .ok (.getfield 25, 3) := by decide +kernel
theorem dX0_add_24 : decode cX0_add 24 = .ok (.imul, 1) := by decide +kernel
theorem dX0_add_25 : decode cX0_add 25 = .ok (.istore 5, 2) := by decide +kernel
theorem dX0_add_27 : decode cX0_add 27 = .ok (.aload_n 0, 1) := by decide +kernel
theorem dX0_add_28 : decode cX0_add 28 = .ok (.getfield 21, 3) := by decide +kernel
theorem dX0_add_31 : decode cX0_add 31 = .ok (.iload 5, 2) := by decide +kernel
theorem dX0_add_33 : decode cX0_add 33 = .ok (.iconst 0, 1) := by decide +kernel
theorem dX0_add_34 : decode cX0_add 34 = .ok (.iadd, 1) := by decide +kernel
theorem dX0_add_35 : decode cX0_add 35 = .ok (.iload_n 1, 1) := by decide +kernel
theorem dX0_add_36 : decode cX0_add 36 = .ok (.iastore, 1) := by decide +kernel
theorem dX0_add_37 : decode cX0_add 37 = .ok (.aload_n 0, 1) := by decide +kernel
theorem dX0_add_38 : decode cX0_add 38 = .ok (.getfield 21, 3) := by decide +kernel
theorem dX0_add_41 : decode cX0_add 41 = .ok (.iload 5, 2) := by decide +kernel
theorem dX0_add_43 : decode cX0_add 43 = .ok (.iconst 1, 1) := by decide +kernel
theorem dX0_add_44 : decode cX0_add 44 = .ok (.iadd, 1) := by decide +kernel
theorem dX0_add_45 : decode cX0_add 45 = .ok (.iload_n 2, 1) := by decide +kernel
theorem dX0_add_46 : decode cX0_add 46 = .ok (.iastore, 1) := by decide +kernel
theorem dX0_add_47 : decode cX0_add 47 = .ok (.aload_n 0, 1) := by decide +kernel
theorem dX0_add_48 : decode cX0_add 48 = .ok (.getfield 21, 3) := by decide +kernel
theorem dX0_add_51 : decode cX0_add 51 = .ok (.iload 5, 2) := by decide +kernel
theorem dX0_add_53 : decode cX0_add 53 = .ok (.iconst 2, 1) := by decide +kernel
theorem dX0_add_54 : decode cX0_add 54 = .ok (.iadd, 1) := by decide +kernel
theorem dX0_add_55 : decode cX0_add 55 = .ok (.iload_n 3, 1) := by decide +kernel
theorem dX0_add_56 : decode cX0_add 56 = .ok (.iastore, 1) := by decide +kernel
theorem dX0_add_57 : decode cX0_add 57 = .ok (.aload_n 0, 1) := by decide +kernel
theorem dX0_add_58 : decode cX0_add 58 = .ok (.getfield 21, 3) := by decide +kernel
theorem dX0_add_61 : decode cX0_add 61 = .ok (.iload 5, 2) := by decide +kernel
theorem dX0_add_63 : decode cX0_add 63 = .ok (.iconst 3, 1) := by decide +kernel
theorem dX0_add_64 : decode cX0_add 64 = .ok (.iadd, 1) := by decide +kernel
theorem dX0_add_65 : decode cX0_add 65 = .ok (.iload 4, 2) := by decide +kernel
theorem dX0_add_67 : decode cX0_add 67 = .ok (.iastore, 1) := by decide +kernel
theorem dX0_add_68 : decode cX0_add 68 = .ok (.aload_n 0, 1) := by decide +kernel
theorem dX0_add_69 : decode cX0_add 69 = .ok (.dup, 1) := by decide +kernel
theorem dX0_add_70 : decode cX0_add 70 = .ok (.getfield 25, 3) := by decide +kernel
theorem dX0_add_73 : decode cX0_add 73 = .ok (.iconst 1, 1) := by decide +kernel
theorem dX0_add_74 : decode cX0_add 74 = .ok (.iadd, 1) := by decide +kernel
theorem dX0_add_75 : decode cX0_add 75 = .ok (.putfield 25, 3) := by decide +kernel
theorem dX0_add_78 : decode cX0_add 78 = .ok (.return_, 1) := by decide +kernel
theorem dX0_addSpans_0 : decode cX0_addSpans 0 = .ok (.aload_n 0, 1) := by decide +kernel
theorem dX0_addSpans_1 : decode cX0_addSpans 1 = .ok (.aload_n 1, 1) := by decide +kernel
theorem dX0_addSpans_2 : decode cX0_addSpans 2 = .ok (.getfield 35, 3) := by decide +kernel
theorem dX0_addSpans_5 : decode cX0_addSpans 5 = .ok (.l2i, 1) := by decide +kernel
theorem dX0_addSpans_6 : decode cX0_addSpans 6 = .ok (.aload_n 1, 1) := by decide +kernel
theorem dX0_addSpans_7 : decode cX0_addSpans 7 = .ok (.getfield 41, 3) := by decide +kernel
theorem dX0_addSpans_10 : decode cX0_addSpans 10 = .ok (.l2i, 1) := by decide +kernel
theorem dX0_addSpans_11 : decode cX0_addSpans 11 = .ok (.aload_n 2, 1) := by decide +kernel
theorem dX0_addSpans_12 : decode cX0_addSpans 12 = .ok (.getfield 35, 3) := by decide +kernel
theorem dX0_addSpans_15 : decode cX0_addSpans 15 = .ok (.l2i, 1) := by decide +kernel
theorem dX0_addSpans_16 : decode cX0_addSpans 16 = .ok (.aload_n 2, 1) := by decide +kernel
theorem dX0_addSpans_17 : decode cX0_addSpans 17 = .ok (.getfield 41, 3) := by decide +kernel
theorem dX0_addSpans_20 : decode cX0_addSpans 20 = .ok (.l2i, 1) := by decide +kernel
theorem dX0_addSpans_21 : decode cX0_addSpans 21 = .ok (.invokevirtual 44, 3) := by decide +kernel
theorem dX0_addSpans_24 : decode cX0_addSpans 24 = .ok (.return_, 1) := by decide +kernel
theorem dX0_addInOrder_0 : decode cX0_addInOrder 0 = .ok (.aload_n 0, 1) := by decide +kernel
theorem dX0_addInOrder_1 : decode cX0_addInOrder 1 = .ok (.aload_n 1, 1) := by decide +kernel
theorem dX0_addInOrder_2 : decode cX0_addInOrder 2 = .ok (.aload_n 2, 1) := by decide +kernel
theorem dX0_addInOrder_3 : decode cX0_addInOrder 3 = .ok (.invokevirtual 48, 3) := by decide +kernel
theorem dX0_addInOrder_6 : decode cX0_addInOrder 6 = .ok (.aload_n 0, 1) := by decide +kernel
theorem dX0_addInOrder_7 : decode cX0_addInOrder 7 = .ok (.getfield 25, 3) := by decide +kernel
theorem dX0_addInOrder_10 : decode cX0_addInOrder 10 = .ok (.iconst 1, 1) := by decide +kernel
theorem dX0_addInOrder_11 : decode cX0_addInOrder 11 = .ok (.isub, 1) := by decide +kernel
theorem dX0_addInOrder_12 : decode cX0_addInOrder 12 = .ok (.istore_n 3, 1) := by decide +kernel
theorem dX0_addInOrder_13 : decode cX0_addInOrder 13 = .ok (.iload_n 3, 1) := by decide +kernel
theorem dX0_addInOrder_14 : decode cX0_addInOrder 14 = .ok (.ifCond .le 28, 3) := by decide +kernel
theorem dX0_addInOrder_17 : decode cX0_addInOrder 17 = .ok (.aload_n 0, 1) := by decide +kernel
theorem dX0_addInOrder_18 : decode cX0_addInOrder 18 = .ok (.iload_n 3, 1) := by decide +kernel
theorem dX0_addInOrder_19 : decode cX0_addInOrder 19 = .ok (.iload_n 3, 1) := by decide +kernel
theorem dX0_addInOrder_20 : decode cX0_addInOrder 20 = .ok (.iconst 1, 1) := by decide +kernel
theorem dX0_addInOrder_21 : decode cX0_addInOrder 21 = .ok (.isub, 1) := by decide +kernel
theorem dX0_addInOrder_22 : decode cX0_addInOrder 22 = .ok (.invokevirtual 52, 3) := by decide +kernel
theorem dX0_addInOrder_25 : decode cX0_addInOrder 25 = .ok (.ifCond .ge 17, 3) := by decide +kernel
theorem dX0_addInOrder_28 : decode cX0_addInOrder 28 = .ok (.aload_n 0, 1) := by decide +kernel
theorem dX0_addInOrder_29 : decode cX0_addInOrder 29 = .ok (.iload_n 3, 1) := by decide +kernel
theorem dX0_addInOrder_30 : decode cX0_addInOrder 30 = .ok (.iload_n 3, 1) := by decide +kernel
theorem dX0_addInOrder_31 : decode cX0_addInOrder 31 = .ok (.iconst 1, 1) := by decide +kernel
theorem dX0_addInOrder_32 : decode cX0_addInOrder 32 = .ok (.isub, 1) := by decide +kernel
theorem dX0_addInOrder_33 : decode cX0_addInOrder 33 = .ok (.invokevirtual 55, 3) := by decide +kernel
theorem dX0_addInOrder_36 : decode cX0_addInOrder 36 = .ok (.iinc 3 (-1), 3) := by decide +kernel
theorem dX0_addInOrder_39 : decode cX0_addInOrder 39 = .ok (.goto (-26), 3) := by decide +kernel
theorem dX0_addInOrder_42 : decode cX0_addInOrder 42 = .ok (.return_, 1) := by decide +kernel
theorem dX0_removeUnordered_0 : decode cX0_removeUnordered 0 = .ok (.aload_n 0, 1) := by decide +kernel
theorem dX0_removeUnordered_1 : decode cX0_removeUnordered 1 = .ok (.iload_n 1, 1) := by decide +kernel
theorem dX0_removeUnordered_2 : decode cX0_removeUnordered 2 = .ok (.invokevirtual 28, 3) := by decide +kernel
theorem dX0_removeUnordered_5 : decode cX0_removeUnordered 5 = .ok (.ifCond .eq 24, 3) := by decide +kernel
theorem dX0_removeUnordered_8 : decode cX0_removeUnordered 8 = .ok (.aload_n 0, 1) := by decide +kernel
theorem dX0_removeUnordered_9 : decode cX0_removeUnordered 9 = .ok (.iload_n 1, 1) := by decide +kernel
theorem dX0_removeUnordered_10 : decode cX0_removeUnordered 10 = .ok (.aload_n 0, 1) := by decide +kernel
theorem dX0_removeUnordered_11 : decode cX0_removeUnordered 11 = .ok (.getfield 25, 3) := by decide +kernel
theorem dX0_removeUnordered_14 : decode cX0_removeUnordered 14 = .ok (.iconst 1, 1) := by decide +kernel
theorem dX0_removeUnordered_15 : decode cX0_removeUnordered 15 = .ok (.isub, 1) := by decide +kernel
theorem dX0_removeUnordered_16 : decode cX0_removeUnordered 16 = .ok (.invokevirtual 55, 3) := by decide +kernel
theorem dX0_removeUnordered_19 : decode cX0_removeUnordered 19 = .ok (.aload_n 0, 1) := by decide +kernel
theorem dX0_removeUnordered_20 : decode cX0_removeUnordered 20 = .ok (.dup, 1) := by decide +kernel
theorem dX0_removeUnordered_21 : decode cX0_removeUnordered 21 = .ok (.getfield 25, 3) := by decide +kernel
theorem dX0_removeUnordered_24 : decode cX0_removeUnordered 24 = .ok (.iconst 1, 1) := by decide +kernel
theorem dX0_removeUnordered_25 : decode cX0_removeUnordered 25 = .ok (.isub, 1) := by decide +kernel
theorem dX0_removeUnordered_26 : decode cX0_removeUnordered 26 = .ok (.putfield 25, 3) := by decide +kernel
theorem dX0_removeUnordered_29 : decode cX0_removeUnordered 29 = .ok (.return_, 1) := by decide +kernel
theorem dX0_copyFrom_0 : decode cX0_copyFrom 0 = .ok (.aload_n 1, 1) := by decide +kernel
theorem dX0_copyFrom_1 : decode cX0_copyFrom 1 = .ok (.getfield 25, 3) := by decide +kernel
theorem dX0_copyFrom_4 : decode cX0_copyFrom 4 = .ok (.ifCond .lt 25, 3) := by decide +kernel
theorem dX0_copyFrom_7 : decode cX0_copyFrom 7 = .ok (.aload_n 1, 1) := by decide +kernel
theorem dX0_copyFrom_8 : decode cX0_copyFrom 8 = .ok (.getfield 25, 3) := by decide +kernel
theorem dX0_copyFrom_11 : decode cX0_copyFrom 11 = .ok (.aload_n 0, 1) := by decide +kernel
theorem dX0_copyFrom_12 : decode cX0_copyFrom 12 = .ok (.getfield 15, 3) := by decide +kernel
theorem dX0_copyFrom_15 : decode cX0_copyFrom 15 = .ok (.if_icmp .gt 14, 3) := by decide +kernel
theorem dX0_copyFrom_18 : decode cX0_copyFrom 18 = .ok (.aload_n 1, 1) := by decide +kernel
theorem dX0_copyFrom_19 : decode cX0_copyFrom 19 = .ok (.getfield 25, 3) := by decide +kernel
theorem dX0_copyFrom_22 : decode cX0_copyFrom 22 = .ok (.aload_n 1, 1) := by decide +kernel
theorem dX0_copyFrom_23 : decode cX0_copyFrom 23 = .ok (.getfield 15, 3) := by decide +kernel
theorem dX0_copyFrom_26 : decode cX0_copyFrom 26 = .ok (.if_icmp .le 4, 3) := by decide +kernel
theorem dX0_copyFrom_29 : decode cX0_copyFrom 29 = .ok (.return_, 1) := by decide +kernel
theorem dX0_copyFrom_30 : decode cX0_copyFrom 30 = .ok (.aload_n 1, 1) := by decide +kernel
theorem dX0_copyFrom_31 : decode cX0_copyFrom 31 = .ok (.getfield 21, 3) := by decide +kernel
theorem dX0_copyFrom_34 : decode cX0_copyFrom 34 = .ok (.iconst 0, 1) := by decide +kernel
theorem dX0_copyFrom_35 : decode cX0_copyFrom 35 = .ok (.aload_n 0, 1) := by decide +kernel
theorem dX0_copyFrom_36 : decode cX0_copyFrom 36 = .ok (.getfield 21, 3) := by decide +kernel
theorem dX0_copyFrom_39 : decode cX0_copyFrom 39 = .ok (.iconst 0, 1) := by decide +kernel
theorem dX0_copyFrom_40 : decode cX0_copyFrom 40 = .ok (.iconst 4, 1) := by decide +kernel
theorem dX0_copyFrom_41 : decode cX0_copyFrom 41 = .ok (.aload_n 1, 1) := by decide +kernel
theorem dX0_copyFrom_42 : decode cX0_copyFrom 42 = .ok (.getfield 25, 3) := by decide +kernel
theorem dX0_copyFrom_45 : decode cX0_copyFrom 45 = .ok (.imul, 1) := by decide +kernel
theorem dX0_copyFrom_46 : decode cX0_copyFrom 46 = .ok (.invokestatic 59, 3) := by decide +kernel
theorem dX0_copyFrom_49 : decode cX0_copyFrom 49 = .ok (.aload_n 0, 1) := by decide +kernel
theorem dX0_copyFrom_50 : decode cX0_copyFrom 50 = .ok (.aload_n 1, 1) := by decide +kernel
theorem dX0_copyFrom_51 : decode cX0_copyFrom 51 = .ok (.getfield 25, 3) := by decide +kernel
theorem dX0_copyFrom_54 : decode cX0_copyFrom 54 = .ok (.putfield 25, 3) := by decide +kernel
theorem dX0_copyFrom_57 : decode cX0_copyFrom 57 = .ok (.return_, 1) := by decide +kernel
theorem dX0_greaterWidth_0 : decode cX0_greaterWidth 0 = .ok (.aload_n 0, 1) := by decide +kernel
theorem dX0_greaterWidth_1 : decode cX0_greaterWidth 1 = .ok (.iload_n 1, 1) := by decide +kernel
theorem dX0_greaterWidth_2 : decode cX0_greaterWidth 2 = .ok (.iconst 1, 1) := by decide +kernel
theorem dX0_greaterWidth_3 : decode cX0_greaterWidth 3 = .ok (.invokevirtual 65, 3) := by decide +kernel
theorem dX0_greaterWidth_6 : decode cX0_greaterWidth 6 = .ok (.aload_n 0, 1) := by decide +kernel
theorem dX0_greaterWidth_7 : decode cX0_greaterWidth 7 = .ok (.iload_n 1, 1) := by decide +kernel
theorem dX0_greaterWidth_8 : decode cX0_greaterWidth 8 = .ok (.iconst 0, 1) := by decide +kernel
theorem dX0_greaterWidth_9 : decode cX0_greaterWidth 9 = .ok (.invokevirtual 65, 3) := by decide +kernel
theorem dX0_greaterWidth_12 : decode cX0_greaterWidth 12 = .ok (.isub, 1) := by decide +kernel
theorem dX0_greaterWidth_13 : decode cX0_greaterWidth 13 = .ok (.aload_n 0, 1) := by decide +kernel
theorem dX0_greaterWidth_14 : decode cX0_greaterWidth 14 = .ok (.iload_n 1, 1) := by decide +kernel
theorem dX0_greaterWidth_15 : decode cX0_greaterWidth 15 = .ok (.iconst 3, 1) := by decide +kernel
theorem dX0_greaterWidth_16 : decode cX0_greaterWidth 16 = .ok (.invokevirtual 65, 3) := by decide +kernel
theorem dX0_greaterWidth_19 : decode cX0_greaterWidth 19 = .ok (.aload_n 0, 1) := by decide +kernel
theorem dX0_greaterWidth_20 : decode cX0_greaterWidth 20 = .ok (.iload_n 1, 1) := by decide +kernel
theorem dX0_greaterWidth_21 : decode cX0_greaterWidth 21 = .ok (.iconst 2, 1) := by decide +kernel
theorem dX0_greaterWidth_22 : decode cX0_greaterWidth 22 = .ok (.invokevirtual 65, 3) := by decide +kernel
theorem dX0_greaterWidth_25 : decode cX0_greaterWidth 25 = .ok (.isub, 1) := by decide +kernel
theorem dX0_greaterWidth_26 : decode cX0_greaterWidth 26 = .ok (.invokestatic 9, 3) := by decide +kernel
theorem dX0_greaterWidth_29 : decode cX0_greaterWidth 29 = .ok (.ireturn, 1) := by decide +kernel
theorem dX0_widest_0 : decode cX0_widest 0 = .ok (.iconst 0, 1) := by decide +kernel
theorem dX0_widest_1 : decode cX0_widest 1 = .ok (.istore_n 1, 1) := by decide +kernel
theorem dX0_widest_2 : decode cX0_widest 2 = .ok (.iconst 1, 1) := by decide +kernel
theorem dX0_widest_3 : decode cX0_widest 3 = .ok (.istore_n 2, 1) := by decide +kernel
theorem dX0_widest_4 : decode cX0_widest 4 = .ok (.iload_n 2, 1) := by decide +kernel
theorem dX0_widest_5 : decode cX0_widest 5 = .ok (.aload_n 0, 1) := by decide +kernel
theorem dX0_widest_6 : decode cX0_widest 6 = .ok (.getfield 25, 3) := by decide +kernel
theorem dX0_widest_9 : decode cX0_widest 9 = .ok (.if_icmp .ge 40, 3) := by decide +kernel
theorem dX0_widest_12 : decode cX0_widest 12 = .ok (.aload_n 0, 1) := by decide +kernel
theorem dX0_widest_13 : decode cX0_widest 13 = .ok (.iload_n 2, 1) := by decide +kernel
theorem dX0_widest_14 : decode cX0_widest 14 = .ok (.invokevirtual 68, 3) := by decide +kernel
theorem dX0_widest_17 : decode cX0_widest 17 = .ok (.aload_n 0, 1) := by decide +kernel
theorem dX0_widest_18 : decode cX0_widest 18 = .ok (.iload_n 1, 1) := by decide +kernel
theorem dX0_widest_19 : decode cX0_widest 19 = .ok (.invokevirtual 68, 3) := by decide +kernel
theorem dX0_widest_22 : decode cX0_widest 22 = .ok (.isub, 1) := by decide +kernel
theorem dX0_widest_23 : decode cX0_widest 23 = .ok (.istore_n 3, 1) := by decide +kernel
theorem dX0_widest_24 : decode cX0_widest 24 = .ok (.iload_n 3, 1) := by decide +kernel
theorem dX0_widest_25 : decode cX0_widest 25 = .ok (.ifCond .gt 16, 3) := by decide +kernel
theorem dX0_widest_28 : decode cX0_widest 28 = .ok (.iload_n 3, 1) := by decide +kernel
theorem dX0_widest_29 : decode cX0_widest 29 = .ok (.ifCond .ne 14, 3) := by decide +kernel
theorem dX0_widest_32 : decode cX0_widest 32 = .ok (.aload_n 0, 1) := by decide +kernel
theorem dX0_widest_33 : decode cX0_widest 33 = .ok (.iload_n 2, 1) := by decide +kernel
theorem dX0_widest_34 : decode cX0_widest 34 = .ok (.iload_n 1, 1) := by decide +kernel
theorem dX0_widest_35 : decode cX0_widest 35 = .ok (.invokevirtual 52, 3) := by decide +kernel
theorem dX0_widest_38 : decode cX0_widest 38 = .ok (.ifCond .ge 5, 3) := by decide +kernel
theorem dX0_widest_41 : decode cX0_widest 41 = .ok (.iload_n 2, 1) := by decide +kernel
theorem dX0_widest_42 : decode cX0_widest 42 = .ok (.istore_n 1, 1) := by decide +kernel
theorem dX0_widest_43 : decode cX0_widest 43 = .ok (.iinc 2 1, 3) := by decide +kernel
theorem dX0_widest_46 : decode cX0_widest 46 = .ok (.goto (-42), 3) := by decide +kernel
theorem dX0_widest_49 : decode cX0_widest 49 = .ok (.iload_n 1, 1) := by decide +kernel
theorem dX0_widest_50 : decode cX0_widest 50 = .ok (.ireturn, 1) := by decide +kernel
theorem dX0_holds_0 : decode cX0_holds 0 = .ok (.aload_n 0, 1) := by decide +kernel
theorem dX0_holds_1 : decode cX0_holds 1 = .ok (.iload_n 1, 1) := by decide +kernel
theorem dX0_holds_2 : decode cX0_holds 2 = .ok (.invokevirtual 28, 3) := by decide +kernel
theorem dX0_holds_5 : decode cX0_holds 5 = .ok (.ifCond .eq 47, 3) := by decide +kernel
theorem dX0_holds_8 : decode cX0_holds 8 = .ok (.aload_n 0, 1) := by decide +kernel
theorem dX0_holds_9 : decode cX0_holds 9 = .ok (.iload_n 1, 1) := by decide +kernel
theorem dX0_holds_10 : decode cX0_holds 10 = .ok (.iconst 0, 1) := by decide +kernel
theorem dX0_holds_11 : decode cX0_holds 11 = .ok (.invokevirtual 65, 3) := by decide +kernel
theorem dX0_holds_14 : decode cX0_holds 14 = .ok (.iload_n 2, 1) := by decide +kernel
theorem dX0_holds_15 : decode cX0_holds 15 = .ok (.if_icmp .gt 37, 3) := by decide +kernel
theorem dX0_holds_18 : decode cX0_holds 18 = .ok (.iload_n 2, 1) := by decide +kernel
theorem dX0_holds_19 : decode cX0_holds 19 = .ok (.aload_n 0, 1) := by decide +kernel
theorem dX0_holds_20 : decode cX0_holds 20 = .ok (.iload_n 1, 1) := by decide +kernel
theorem dX0_holds_21 : decode cX0_holds 21 = .ok (.iconst 1, 1) := by decide +kernel
theorem dX0_holds_22 : decode cX0_holds 22 = .ok (.invokevirtual 65, 3) := by decide +kernel
theorem dX0_holds_25 : decode cX0_holds 25 = .ok (.if_icmp .gt 27, 3) := by decide +kernel
theorem dX0_holds_28 : decode cX0_holds 28 = .ok (.aload_n 0, 1) := by decide +kernel
theorem dX0_holds_29 : decode cX0_holds 29 = .ok (.iload_n 1, 1) := by decide +kernel
theorem dX0_holds_30 : decode cX0_holds 30 = .ok (.iconst 2, 1) := by decide +kernel
theorem dX0_holds_31 : decode cX0_holds 31 = .ok (.invokevirtual 65, 3) := by decide +kernel
theorem dX0_holds_34 : decode cX0_holds 34 = .ok (.iload_n 3, 1) := by decide +kernel
theorem dX0_holds_35 : decode cX0_holds 35 = .ok (.if_icmp .gt 17, 3) := by decide +kernel
theorem dX0_holds_38 : decode cX0_holds 38 = .ok (.iload_n 3, 1) := by decide +kernel
theorem dX0_holds_39 : decode cX0_holds 39 = .ok (.aload_n 0, 1) := by decide +kernel
theorem dX0_holds_40 : decode cX0_holds 40 = .ok (.iload_n 1, 1) := by decide +kernel
theorem dX0_holds_41 : decode cX0_holds 41 = .ok (.iconst 3, 1) := by decide +kernel
theorem dX0_holds_42 : decode cX0_holds 42 = .ok (.invokevirtual 65, 3) := by decide +kernel
theorem dX0_holds_45 : decode cX0_holds 45 = .ok (.if_icmp .gt 7, 3) := by decide +kernel
theorem dX0_holds_48 : decode cX0_holds 48 = .ok (.iconst 1, 1) := by decide +kernel
theorem dX0_holds_49 : decode cX0_holds 49 = .ok (.goto 4, 3) := by decide +kernel
theorem dX0_holds_52 : decode cX0_holds 52 = .ok (.iconst 0, 1) := by decide +kernel
theorem dX0_holds_53 : decode cX0_holds 53 = .ok (.ireturn, 1) := by decide +kernel
theorem dX0_anyHolds_0 : decode cX0_anyHolds 0 = .ok (.iconst 0, 1) := by decide +kernel
theorem dX0_anyHolds_1 : decode cX0_anyHolds 1 = .ok (.istore_n 3, 1) := by decide +kernel
theorem dX0_anyHolds_2 : decode cX0_anyHolds 2 = .ok (.iload_n 3, 1) := by decide +kernel
theorem dX0_anyHolds_3 : decode cX0_anyHolds 3 = .ok (.aload_n 0, 1) := by decide +kernel
theorem dX0_anyHolds_4 : decode cX0_anyHolds 4 = .ok (.getfield 25, 3) := by decide +kernel
theorem dX0_anyHolds_7 : decode cX0_anyHolds 7 = .ok (.if_icmp .ge 21, 3) := by decide +kernel
theorem dX0_anyHolds_10 : decode cX0_anyHolds 10 = .ok (.aload_n 0, 1) := by decide +kernel
theorem dX0_anyHolds_11 : decode cX0_anyHolds 11 = .ok (.iload_n 3, 1) := by decide +kernel
theorem dX0_anyHolds_12 : decode cX0_anyHolds 12 = .ok (.iload_n 1, 1) := by decide +kernel
theorem dX0_anyHolds_13 : decode cX0_anyHolds 13 = .ok (.iload_n 2, 1) := by decide +kernel
theorem dX0_anyHolds_14 : decode cX0_anyHolds 14 = .ok (.invokevirtual 72, 3) := by decide +kernel
theorem dX0_anyHolds_17 : decode cX0_anyHolds 17 = .ok (.ifCond .eq 5, 3) := by decide +kernel
theorem dX0_anyHolds_20 : decode cX0_anyHolds 20 = .ok (.iconst 1, 1) := by decide +kernel
theorem dX0_anyHolds_21 : decode cX0_anyHolds 21 = .ok (.ireturn, 1) := by decide +kernel
theorem dX0_anyHolds_22 : decode cX0_anyHolds 22 = .ok (.iinc 3 1, 3) := by decide +kernel
theorem dX0_anyHolds_25 : decode cX0_anyHolds 25 = .ok (.goto (-23), 3) := by decide +kernel
theorem dX0_anyHolds_28 : decode cX0_anyHolds 28 = .ok (.iconst 0, 1) := by decide +kernel
theorem dX0_anyHolds_29 : decode cX0_anyHolds 29 = .ok (.ireturn, 1) := by decide +kernel
theorem dX0_widthsOfX_0 : decode cX0_widthsOfX 0 = .ok (.iconst 0, 1) := by decide +kernel
theorem dX0_widthsOfX_1 : decode cX0_widthsOfX 1 = .ok (.istore_n 1, 1) := by decide +kernel
theorem dX0_widthsOfX_2 : decode cX0_widthsOfX 2 = .ok (.iconst 0, 1) := by decide +kernel
theorem dX0_widthsOfX_3 : decode cX0_widthsOfX 3 = .ok (.istore_n 2, 1) := by decide +kernel
theorem dX0_widthsOfX_4 : decode cX0_widthsOfX 4 = .ok (.iload_n 2, 1) := by decide +kernel
theorem dX0_widthsOfX_5 : decode cX0_widthsOfX 5 = .ok (.aload_n 0, 1) := by decide +kernel
theorem dX0_widthsOfX_6 : decode cX0_widthsOfX 6 = .ok (.getfield 25, 3) := by decide +kernel
theorem dX0_widthsOfX_9 : decode cX0_widthsOfX 9 = .ok (.if_icmp .ge 25, 3) := by decide +kernel
theorem dX0_widthsOfX_12 : decode cX0_widthsOfX 12 = .ok (.iload_n 1, 1) := by decide +kernel
theorem dX0_widthsOfX_13 : decode cX0_widthsOfX 13 = .ok (.aload_n 0, 1) := by decide +kernel
theorem dX0_widthsOfX_14 : decode cX0_widthsOfX 14 = .ok (.iload_n 2, 1) := by decide +kernel
theorem dX0_widthsOfX_15 : decode cX0_widthsOfX 15 = .ok (.iconst 1, 1) := by decide +kernel
theorem dX0_widthsOfX_16 : decode cX0_widthsOfX 16 = .ok (.invokevirtual 65, 3) := by decide +kernel
theorem dX0_widthsOfX_19 : decode cX0_widthsOfX 19 = .ok (.aload_n 0, 1) := by decide +kernel
theorem dX0_widthsOfX_20 : decode cX0_widthsOfX 20 = .ok (.iload_n 2, 1) := by decide +kernel
theorem dX0_widthsOfX_21 : decode cX0_widthsOfX 21 = .ok (.iconst 0, 1) := by decide +kernel
theorem dX0_widthsOfX_22 : decode cX0_widthsOfX 22 = .ok (.invokevirtual 65, 3) := by decide +kernel
theorem dX0_widthsOfX_25 : decode cX0_widthsOfX 25 = .ok (.isub, 1) := by decide +kernel
theorem dX0_widthsOfX_26 : decode cX0_widthsOfX 26 = .ok (.iadd, 1) := by decide +kernel
theorem dX0_widthsOfX_27 : decode cX0_widthsOfX 27 = .ok (.istore_n 1, 1) := by decide +kernel
theorem dX0_widthsOfX_28 : decode cX0_widthsOfX 28 = .ok (.iinc 2 1, 3) := by decide +kernel
theorem dX0_widthsOfX_31 : decode cX0_widthsOfX 31 = .ok (.goto (-27), 3) := by decide +kernel
theorem dX0_widthsOfX_34 : decode cX0_widthsOfX 34 = .ok (.iload_n 1, 1) := by decide +kernel
theorem dX0_widthsOfX_35 : decode cX0_widthsOfX 35 = .ok (.ireturn, 1) := by decide +kernel
theorem dX0_compare_0 : decode cX0_compare 0 = .ok (.aload_n 0, 1) := by decide +kernel
theorem dX0_compare_1 : decode cX0_compare 1 = .ok (.iload_n 1, 1) := by decide +kernel
theorem dX0_compare_2 : decode cX0_compare 2 = .ok (.iconst 0, 1) := by decide +kernel
theorem dX0_compare_3 : decode cX0_compare 3 = .ok (.invokevirtual 65, 3) := by decide +kernel
theorem dX0_compare_6 : decode cX0_compare 6 = .ok (.aload_n 0, 1) := by decide +kernel
theorem dX0_compare_7 : decode cX0_compare 7 = .ok (.iload_n 2, 1) := by decide +kernel
theorem dX0_compare_8 : decode cX0_compare 8 = .ok (.iconst 0, 1) := by decide +kernel
theorem dX0_compare_9 : decode cX0_compare 9 = .ok (.invokevirtual 65, 3) := by decide +kernel
theorem dX0_compare_12 : decode cX0_compare 12 = .ok (.invokestatic 76, 3) := by decide +kernel
theorem dX0_compare_15 : decode cX0_compare 15 = .ok (.istore_n 3, 1) := by decide +kernel
theorem dX0_compare_16 : decode cX0_compare 16 = .ok (.iload_n 3, 1) := by decide +kernel
theorem dX0_compare_17 : decode cX0_compare 17 = .ok (.ifCond .ne 19, 3) := by decide +kernel
theorem dX0_compare_20 : decode cX0_compare 20 = .ok (.aload_n 0, 1) := by decide +kernel
theorem dX0_compare_21 : decode cX0_compare 21 = .ok (.iload_n 1, 1) := by decide +kernel
theorem dX0_compare_22 : decode cX0_compare 22 = .ok (.iconst 2, 1) := by decide +kernel
theorem dX0_compare_23 : decode cX0_compare 23 = .ok (.invokevirtual 65, 3) := by decide +kernel
theorem dX0_compare_26 : decode cX0_compare 26 = .ok (.aload_n 0, 1) := by decide +kernel
theorem dX0_compare_27 : decode cX0_compare 27 = .ok (.iload_n 2, 1) := by decide +kernel
theorem dX0_compare_28 : decode cX0_compare 28 = .ok (.iconst 2, 1) := by decide +kernel
theorem dX0_compare_29 : decode cX0_compare 29 = .ok (.invokevirtual 65, 3) := by decide +kernel
theorem dX0_compare_32 : decode cX0_compare 32 = .ok (.invokestatic 76, 3) := by decide +kernel
theorem dX0_compare_35 : decode cX0_compare 35 = .ok (.istore_n 3, 1) := by decide +kernel
theorem dX0_compare_36 : decode cX0_compare 36 = .ok (.iload_n 3, 1) := by decide +kernel
theorem dX0_compare_37 : decode cX0_compare 37 = .ok (.ifCond .ne 19, 3) := by decide +kernel
theorem dX0_compare_40 : decode cX0_compare 40 = .ok (.aload_n 0, 1) := by decide +kernel
theorem dX0_compare_41 : decode cX0_compare 41 = .ok (.iload_n 1, 1) := by decide +kernel
theorem dX0_compare_42 : decode cX0_compare 42 = .ok (.iconst 1, 1) := by decide +kernel
theorem dX0_compare_43 : decode cX0_compare 43 = .ok (.invokevirtual 65, 3) := by decide +kernel
theorem dX0_compare_46 : decode cX0_compare 46 = .ok (.aload_n 0, 1) := by decide +kernel
theorem dX0_compare_47 : decode cX0_compare 47 = .ok (.iload_n 2, 1) := by decide +kernel
theorem dX0_compare_48 : decode cX0_compare 48 = .ok (.iconst 1, 1) := by decide +kernel
theorem dX0_compare_49 : decode cX0_compare 49 = .ok (.invokevirtual 65, 3) := by decide +kernel
theorem dX0_compare_52 : decode cX0_compare 52 = .ok (.invokestatic 76, 3) := by decide +kernel
theorem dX0_compare_55 : decode cX0_compare 55 = .ok (.istore_n 3, 1) := by decide +kernel
theorem dX0_compare_56 : decode cX0_compare 56 = .ok (.iload_n 3, 1) := by decide +kernel
theorem dX0_compare_57 : decode cX0_compare 57 = .ok (.ifCond .eq 7, 3) := by decide +kernel
theorem dX0_compare_60 : decode cX0_compare 60 = .ok (.iload_n 3, 1) := by decide +kernel
theorem dX0_compare_61 : decode cX0_compare 61 = .ok (.goto 18, 3) := by decide +kernel
theorem dX0_compare_64 : decode cX0_compare 64 = .ok (.aload_n 0, 1) := by decide +kernel
theorem dX0_compare_65 : decode cX0_compare 65 = .ok (.iload_n 1, 1) := by decide +kernel
theorem dX0_compare_66 : decode cX0_compare 66 = .ok (.iconst 3, 1) := by decide +kernel
theorem dX0_compare_67 : decode cX0_compare 67 = .ok (.invokevirtual 65, 3) := by decide +kernel
theorem dX0_compare_70 : decode cX0_compare 70 = .ok (.aload_n 0, 1) := by decide +kernel
theorem dX0_compare_71 : decode cX0_compare 71 = .ok (.iload_n 2, 1) := by decide +kernel
theorem dX0_compare_72 : decode cX0_compare 72 = .ok (.iconst 3, 1) := by decide +kernel
theorem dX0_compare_73 : decode cX0_compare 73 = .ok (.invokevirtual 65, 3) := by decide +kernel
theorem dX0_compare_76 : decode cX0_compare 76 = .ok (.invokestatic 76, 3) := by decide +kernel
theorem dX0_compare_79 : decode cX0_compare 79 = .ok (.ireturn, 1) := by decide +kernel
theorem dX0_swap_0 : decode cX0_swap 0 = .ok (.aload_n 0, 1) := by decide +kernel
theorem dX0_swap_1 : decode cX0_swap 1 = .ok (.iload_n 1, 1) := by decide +kernel
theorem dX0_swap_2 : decode cX0_swap 2 = .ok (.invokevirtual 28, 3) := by decide +kernel
theorem dX0_swap_5 : decode cX0_swap 5 = .ok (.ifCond .eq 22, 3) := by decide +kernel
theorem dX0_swap_8 : decode cX0_swap 8 = .ok (.aload_n 0, 1) := by decide +kernel
theorem dX0_swap_9 : decode cX0_swap 9 = .ok (.iload_n 2, 1) := by decide +kernel
theorem dX0_swap_10 : decode cX0_swap 10 = .ok (.invokevirtual 28, 3) := by decide +kernel
theorem dX0_swap_13 : decode cX0_swap 13 = .ok (.ifCond .eq 14, 3) := by decide +kernel
theorem dX0_swap_16 : decode cX0_swap 16 = .ok (.aload_n 0, 1) := by decide +kernel
theorem dX0_swap_17 : decode cX0_swap 17 = .ok (.getfield 25, 3) := by decide +kernel
theorem dX0_swap_20 : decode cX0_swap 20 = .ok (.aload_n 0, 1) := by decide +kernel
theorem dX0_swap_21 : decode cX0_swap 21 = .ok (.getfield 15, 3) := by decide +kernel
theorem dX0_swap_24 : decode cX0_swap 24 = .ok (.if_icmp .le 4, 3) := by decide +kernel
theorem dX0_swap_27 : decode cX0_swap 27 = .ok (.return_, 1) := by decide +kernel
theorem dX0_swap_28 : decode cX0_swap 28 = .ok (.iconst 0, 1) := by decide +kernel
theorem dX0_swap_29 : decode cX0_swap 29 = .ok (.istore_n 3, 1) := by decide +kernel
theorem dX0_swap_30 : decode cX0_swap 30 = .ok (.iload_n 3, 1) := by decide +kernel
theorem dX0_swap_31 : decode cX0_swap 31 = .ok (.iconst 4, 1) := by decide +kernel
theorem dX0_swap_32 : decode cX0_swap 32 = .ok (.if_icmp .ge 53, 3) := by decide +kernel
theorem dX0_swap_35 : decode cX0_swap 35 = .ok (.aload_n 0, 1) := by decide +kernel
theorem dX0_swap_36 : decode cX0_swap 36 = .ok (.getfield 21, 3) := by decide +kernel
theorem dX0_swap_39 : decode cX0_swap 39 = .ok (.iconst 4, 1) := by decide +kernel
theorem dX0_swap_40 : decode cX0_swap 40 = .ok (.iload_n 1, 1) := by decide +kernel
theorem dX0_swap_41 : decode cX0_swap 41 = .ok (.imul, 1) := by decide +kernel
theorem dX0_swap_42 : decode cX0_swap 42 = .ok (.iload_n 3, 1) := by decide +kernel
theorem dX0_swap_43 : decode cX0_swap 43 = .ok (.iadd, 1) := by decide +kernel
theorem dX0_swap_44 : decode cX0_swap 44 = .ok (.iaload, 1) := by decide +kernel
theorem dX0_swap_45 : decode cX0_swap 45 = .ok (.istore 4, 2) := by decide +kernel
theorem dX0_swap_47 : decode cX0_swap 47 = .ok (.aload_n 0, 1) := by decide +kernel
theorem dX0_swap_48 : decode cX0_swap 48 = .ok (.getfield 21, 3) := by decide +kernel
theorem dX0_swap_51 : decode cX0_swap 51 = .ok (.iconst 4, 1) := by decide +kernel
theorem dX0_swap_52 : decode cX0_swap 52 = .ok (.iload_n 1, 1) := by decide +kernel
theorem dX0_swap_53 : decode cX0_swap 53 = .ok (.imul, 1) := by decide +kernel
theorem dX0_swap_54 : decode cX0_swap 54 = .ok (.iload_n 3, 1) := by decide +kernel
theorem dX0_swap_55 : decode cX0_swap 55 = .ok (.iadd, 1) := by decide +kernel
theorem dX0_swap_56 : decode cX0_swap 56 = .ok (.aload_n 0, 1) := by decide +kernel
theorem dX0_swap_57 : decode cX0_swap 57 = .ok (.getfield 21, 3) := by decide +kernel
theorem dX0_swap_60 : decode cX0_swap 60 = .ok (.iconst 4, 1) := by decide +kernel
theorem dX0_swap_61 : decode cX0_swap 61 = .ok (.iload_n 2, 1) := by decide +kernel
theorem dX0_swap_62 : decode cX0_swap 62 = .ok (.imul, 1) := by decide +kernel
theorem dX0_swap_63 : decode cX0_swap 63 = .ok (.iload_n 3, 1) := by decide +kernel
theorem dX0_swap_64 : decode cX0_swap 64 = .ok (.iadd, 1) := by decide +kernel
theorem dX0_swap_65 : decode cX0_swap 65 = .ok (.iaload, 1) := by decide +kernel
theorem dX0_swap_66 : decode cX0_swap 66 = .ok (.iastore, 1) := by decide +kernel
theorem dX0_swap_67 : decode cX0_swap 67 = .ok (.aload_n 0, 1) := by decide +kernel
theorem dX0_swap_68 : decode cX0_swap 68 = .ok (.getfield 21, 3) := by decide +kernel
theorem dX0_swap_71 : decode cX0_swap 71 = .ok (.iconst 4, 1) := by decide +kernel
theorem dX0_swap_72 : decode cX0_swap 72 = .ok (.iload_n 2, 1) := by decide +kernel
theorem dX0_swap_73 : decode cX0_swap 73 = .ok (.imul, 1) := by decide +kernel
theorem dX0_swap_74 : decode cX0_swap 74 = .ok (.iload_n 3, 1) := by decide +kernel
theorem dX0_swap_75 : decode cX0_swap 75 = .ok (.iadd, 1) := by decide +kernel
theorem dX0_swap_76 : decode cX0_swap 76 = .ok (.iload 4, 2) := by decide +kernel
theorem dX0_swap_78 : decode cX0_swap 78 = .ok (.iastore, 1) := by decide +kernel
theorem dX0_swap_79 : decode cX0_swap 79 = .ok (.iinc 3 1, 3) := by decide +kernel
theorem dX0_swap_82 : decode cX0_swap 82 = .ok (.goto (-52), 3) := by decide +kernel
theorem dX0_swap_85 : decode cX0_swap 85 = .ok (.return_, 1) := by decide +kernel
theorem dX1_init_0 : decode cX1_init 0 = .ok (.aload_n 0, 1) := by decide +kernel
theorem dX1_init_1 : decode cX1_init 1 = .ok (.invokespecial 3, 3) := by decide +kernel
theorem dX1_init_4 : decode cX1_init 4 = .ok (.aload_n 0, 1) := by decide +kernel
theorem dX1_init_5 : decode cX1_init 5 = .ok (.bipush 25, 2) := by decide +kernel
theorem dX1_init_7 : decode cX1_init 7 = .ok (.anewarray 9, 3) := by decide +kernel
theorem dX1_init_10 : decode cX1_init 10 = .ok (.putfield 11, 3) := by decide +kernel
theorem dX1_init_13 : decode cX1_init 13 = .ok (.iconst 0, 1) := by decide +kernel
theorem dX1_init_14 : decode cX1_init 14 = .ok (.istore_n 1, 1) := by decide +kernel
theorem dX1_init_15 : decode cX1_init 15 = .ok (.iload_n 1, 1) := by decide +kernel
theorem dX1_init_16 : decode cX1_init 16 = .ok (.aload_n 0, 1) := by decide +kernel
theorem dX1_init_17 : decode cX1_init 17 = .ok (.getfield 11, 3) := by decide +kernel
theorem dX1_init_20 : decode cX1_init 20 = .ok (.arraylength, 1) := by decide +kernel
theorem dX1_init_21 : decode cX1_init 21 = .ok (.if_icmp .ge 22, 3) := by decide +kernel
theorem dX1_init_24 : decode cX1_init 24 = .ok (.aload_n 0, 1) := by decide +kernel
theorem dX1_init_25 : decode cX1_init 25 = .ok (.getfield 11, 3) := by decide +kernel
theorem dX1_init_28 : decode cX1_init 28 = .ok (.iload_n 1, 1) := by decide +kernel
theorem dX1_init_29 : decode cX1_init 29 = .ok (.new 9, 3) := by decide +kernel
theorem dX1_init_32 : decode cX1_init 32 = .ok (.dup, 1) := by decide +kernel
theorem dX1_init_33 : decode cX1_init 33 = .ok (.invokespecial 17, 3) := by decide +kernel
theorem dX1_init_36 : decode cX1_init 36 = .ok (.aastore, 1) := by decide +kernel
theorem dX1_init_37 : decode cX1_init 37 = .ok (.iinc 1 1, 3) := by decide +kernel
theorem dX1_init_40 : decode cX1_init 40 = .ok (.goto (-25), 3) := by decide +kernel
theorem dX1_init_43 : decode cX1_init 43 = .ok (.return_, 1) := by decide +kernel
theorem dX1_fill_0 : decode cX1_fill 0 = .ok (.aload_n 0, 1) := by decide +kernel
theorem dX1_fill_1 : decode cX1_fill 1 = .ok (.iconst 0, 1) := by decide +kernel
theorem dX1_fill_2 : decode cX1_fill 2 = .ok (.iconst 0, 1) := by decide +kernel
theorem dX1_fill_3 : decode cX1_fill 3 = .ok (.invokevirtual 18, 3) := by decide +kernel
theorem dX1_fill_6 : decode cX1_fill 6 = .ok (.ldc2_w 22, 3) := by decide +kernel
theorem dX1_fill_9 : decode cX1_fill 9 = .ok (.ldc2_w 22, 3) := by decide +kernel
theorem dX1_fill_12 : decode cX1_fill 12 = .ok (.invokevirtual 24, 3) := by decide +kernel
theorem dX1_fill_15 : decode cX1_fill 15 = .ok (.iconst 1, 1) := by decide +kernel
theorem dX1_fill_16 : decode cX1_fill 16 = .ok (.istore_n 3, 1) := by decide +kernel
theorem dX1_fill_17 : decode cX1_fill 17 = .ok (.iload_n 3, 1) := by decide +kernel
theorem dX1_fill_18 : decode cX1_fill 18 = .ok (.iconst 4, 1) := by decide +kernel
theorem dX1_fill_19 : decode cX1_fill 19 = .ok (.if_icmp .gt 45, 3) := by decide +kernel
theorem dX1_fill_22 : decode cX1_fill 22 = .ok (.aload_n 0, 1) := by decide +kernel
theorem dX1_fill_23 : decode cX1_fill 23 = .ok (.iload_n 3, 1) := by decide +kernel
theorem dX1_fill_24 : decode cX1_fill 24 = .ok (.iconst 0, 1) := by decide +kernel
theorem dX1_fill_25 : decode cX1_fill 25 = .ok (.invokevirtual 18, 3) := by decide +kernel
theorem dX1_fill_28 : decode cX1_fill 28 = .ok (.aload_n 0, 1) := by decide +kernel
theorem dX1_fill_29 : decode cX1_fill 29 = .ok (.iload_n 3, 1) := by decide +kernel
theorem dX1_fill_30 : decode cX1_fill 30 = .ok (.iconst 1, 1) := by decide +kernel
theorem dX1_fill_31 : decode cX1_fill 31 = .ok (.isub, 1) := by decide +kernel
theorem dX1_fill_32 : decode cX1_fill 32 = .ok (.iconst 0, 1) := by decide +kernel
theorem dX1_fill_33 : decode cX1_fill 33 = .ok (.invokevirtual 18, 3) := by decide +kernel
theorem dX1_fill_36 : decode cX1_fill 36 = .ok (.aload_n 1, 1) := by decide +kernel
theorem dX1_fill_37 : decode cX1_fill 37 = .ok (.invokevirtual 28, 3) := by decide +kernel
theorem dX1_fill_40 : decode cX1_fill 40 = .ok (.aload_n 0, 1) := by decide +kernel
theorem dX1_fill_41 : decode cX1_fill 41 = .ok (.iconst 0, 1) := by decide +kernel
theorem dX1_fill_42 : decode cX1_fill 42 = .ok (.iload_n 3, 1) := by decide +kernel
theorem dX1_fill_43 : decode cX1_fill 43 = .ok (.invokevirtual 18, 3) := by decide +kernel
theorem dX1_fill_46 : decode cX1_fill 46 = .ok (.aload_n 0, 1) := by decide +kernel
theorem dX1_fill_47 : decode cX1_fill 47 = .ok (.iconst 0, 1) := by decide +kernel
theorem dX1_fill_48 : decode cX1_fill 48 = .ok (.iload_n 3, 1) := by decide +kernel
theorem dX1_fill_49 : decode cX1_fill 49 = .ok (.iconst 1, 1) := by decide +kernel
theorem dX1_fill_50 : decode cX1_fill 50 = .ok (.isub, 1) := by decide +kernel
theorem dX1_fill_51 : decode cX1_fill 51 = .ok (.invokevirtual 18, 3) := by decide +kernel
theorem dX1_fill_54 : decode cX1_fill 54 = .ok (.aload_n 2, 1) := by decide +kernel
theorem dX1_fill_55 : decode cX1_fill 55 = .ok (.invokevirtual 28, 3) := by decide +kernel
theorem dX1_fill_58 : decode cX1_fill 58 = .ok (.iinc 3 1, 3) := by decide +kernel
theorem dX1_fill_61 : decode cX1_fill 61 = .ok (.goto (-44), 3) := by decide +kernel
theorem dX1_fill_64 : decode cX1_fill 64 = .ok (.iconst 1, 1) := by decide +kernel
theorem dX1_fill_65 : decode cX1_fill 65 = .ok (.istore_n 3, 1) := by decide +kernel
theorem dX1_fill_66 : decode cX1_fill 66 = .ok (.iload_n 3, 1) := by decide +kernel
theorem dX1_fill_67 : decode cX1_fill 67 = .ok (.iconst 4, 1) := by decide +kernel
theorem dX1_fill_68 : decode cX1_fill 68 = .ok (.if_icmp .ge 49, 3) := by decide +kernel
theorem dX1_fill_71 : decode cX1_fill 71 = .ok (.iconst 1, 1) := by decide +kernel
theorem dX1_fill_72 : decode cX1_fill 72 = .ok (.istore 4, 2) := by decide +kernel
theorem dX1_fill_74 : decode cX1_fill 74 = .ok (.iload_n 3, 1) := by decide +kernel
theorem dX1_fill_75 : decode cX1_fill 75 = .ok (.iload 4, 2) := by decide +kernel
theorem dX1_fill_77 : decode cX1_fill 77 = .ok (.iadd, 1) := by decide +kernel
theorem dX1_fill_78 : decode cX1_fill 78 = .ok (.iconst 4, 1) := by decide +kernel
theorem dX1_fill_79 : decode cX1_fill 79 = .ok (.if_icmp .gt 32, 3) := by decide +kernel
theorem dX1_fill_82 : decode cX1_fill 82 = .ok (.aload_n 0, 1) := by decide +kernel
theorem dX1_fill_83 : decode cX1_fill 83 = .ok (.iload_n 3, 1) := by decide +kernel
theorem dX1_fill_84 : decode cX1_fill 84 = .ok (.iload 4, 2) := by decide +kernel
theorem dX1_fill_86 : decode cX1_fill 86 = .ok (.invokevirtual 18, 3) := by decide +kernel
theorem dX1_fill_89 : decode cX1_fill 89 = .ok (.aload_n 0, 1) := by decide +kernel
theorem dX1_fill_90 : decode cX1_fill 90 = .ok (.iload_n 3, 1) := by decide +kernel
theorem dX1_fill_91 : decode cX1_fill 91 = .ok (.iconst 0, 1) := by decide +kernel
theorem dX1_fill_92 : decode cX1_fill 92 = .ok (.invokevirtual 18, 3) := by decide +kernel
theorem dX1_fill_95 : decode cX1_fill 95 = .ok (.aload_n 0, 1) := by decide +kernel
theorem dX1_fill_96 : decode cX1_fill 96 = .ok (.iconst 0, 1) := by decide +kernel
theorem dX1_fill_97 : decode cX1_fill 97 = .ok (.iload 4, 2) := by decide +kernel
theorem dX1_fill_99 : decode cX1_fill 99 = .ok (.invokevirtual 18, 3) := by decide +kernel
theorem dX1_fill_102 : decode cX1_fill 102 = .ok (.invokevirtual 28, 3) := by decide +kernel
theorem dX1_fill_105 : decode cX1_fill 105 = .ok (.iinc 4 1, 3) := by decide +kernel
theorem dX1_fill_108 : decode cX1_fill 108 = .ok (.goto (-34), 3) := by decide +kernel
theorem dX1_fill_111 : decode cX1_fill 111 = .ok (.iinc 3 1, 3) := by decide +kernel
theorem dX1_fill_114 : decode cX1_fill 114 = .ok (.goto (-48), 3) := by decide +kernel
theorem dX1_fill_117 : decode cX1_fill 117 = .ok (.return_, 1) := by decide +kernel
theorem dX1_at_0 : decode cX1_at 0 = .ok (.aload_n 0, 1) := by decide +kernel
theorem dX1_at_1 : decode cX1_at 1 = .ok (.getfield 11, 3) := by decide +kernel
theorem dX1_at_4 : decode cX1_at 4 = .ok (.iload_n 1, 1) := by decide +kernel
theorem dX1_at_5 : decode cX1_at 5 = .ok (.iload_n 2, 1) := by decide +kernel
theorem dX1_at_6 : decode cX1_at 6 = .ok (.invokestatic 32, 3) := by decide +kernel
theorem dX1_at_9 : decode cX1_at 9 = .ok (.ifCond .eq 11, 3) := by decide +kernel
theorem dX1_at_12 : decode cX1_at 12 = .ok (.iconst 5, 1) := by decide +kernel
theorem dX1_at_13 : decode cX1_at 13 = .ok (.iload_n 1, 1) := by decide +kernel
theorem dX1_at_14 : decode cX1_at 14 = .ok (.imul, 1) := by decide +kernel
theorem dX1_at_15 : decode cX1_at 15 = .ok (.iload_n 2, 1) := by decide +kernel
theorem dX1_at_16 : decode cX1_at 16 = .ok (.iadd, 1) := by decide +kernel
theorem dX1_at_17 : decode cX1_at 17 = .ok (.goto 4, 3) := by decide +kernel
theorem dX1_at_20 : decode cX1_at 20 = .ok (.iconst 0, 1) := by decide +kernel
theorem dX1_at_21 : decode cX1_at 21 = .ok (.aaload, 1) := by decide +kernel
theorem dX1_at_22 : decode cX1_at 22 = .ok (.areturn, 1) := by decide +kernel
theorem dX2_init_0 : decode cX2_init 0 = .ok (.aload_n 0, 1) := by decide +kernel
theorem dX2_init_1 : decode cX2_init 1 = .ok (.invokespecial 3, 3) := by decide +kernel
theorem dX2_init_4 : decode cX2_init 4 = .ok (.aload_n 0, 1) := by decide +kernel
theorem dX2_init_5 : decode cX2_init 5 = .ok (.new 9, 3) := by decide +kernel
theorem dX2_init_8 : decode cX2_init 8 = .ok (.dup, 1) := by decide +kernel
theorem dX2_init_9 : decode cX2_init 9 = .ok (.invokespecial 11, 3) := by decide +kernel
theorem dX2_init_12 : decode cX2_init 12 = .ok (.putfield 12, 3) := by decide +kernel
theorem dX2_init_15 : decode cX2_init 15 = .ok (.aload_n 0, 1) := by decide +kernel
theorem dX2_init_16 : decode cX2_init 16 = .ok (.new 9, 3) := by decide +kernel
theorem dX2_init_19 : decode cX2_init 19 = .ok (.dup, 1) := by decide +kernel
theorem dX2_init_20 : decode cX2_init 20 = .ok (.invokespecial 11, 3) := by decide +kernel
theorem dX2_init_23 : decode cX2_init 23 = .ok (.putfield 18, 3) := by decide +kernel
theorem dX2_init_26 : decode cX2_init 26 = .ok (.aload_n 0, 1) := by decide +kernel
theorem dX2_init_27 : decode cX2_init 27 = .ok (.new 21, 3) := by decide +kernel
theorem dX2_init_30 : decode cX2_init 30 = .ok (.dup, 1) := by decide +kernel
theorem dX2_init_31 : decode cX2_init 31 = .ok (.invokespecial 23, 3) := by decide +kernel
theorem dX2_init_34 : decode cX2_init 34 = .ok (.putfield 24, 3) := by decide +kernel
theorem dX2_init_37 : decode cX2_init 37 = .ok (.aload_n 0, 1) := by decide +kernel
theorem dX2_init_38 : decode cX2_init 38 = .ok (.new 9, 3) := by decide +kernel
theorem dX2_init_41 : decode cX2_init 41 = .ok (.dup, 1) := by decide +kernel
theorem dX2_init_42 : decode cX2_init 42 = .ok (.invokespecial 11, 3) := by decide +kernel
theorem dX2_init_45 : decode cX2_init 45 = .ok (.putfield 28, 3) := by decide +kernel
theorem dX2_init_48 : decode cX2_init 48 = .ok (.aload_n 0, 1) := by decide +kernel
theorem dX2_init_49 : decode cX2_init 49 = .ok (.new 9, 3) := by decide +kernel
theorem dX2_init_52 : decode cX2_init 52 = .ok (.dup, 1) := by decide +kernel
theorem dX2_init_53 : decode cX2_init 53 = .ok (.invokespecial 11, 3) := by decide +kernel
theorem dX2_init_56 : decode cX2_init 56 = .ok (.putfield 31, 3) := by decide +kernel
theorem dX2_init_59 : decode cX2_init 59 = .ok (.aload_n 0, 1) := by decide +kernel
theorem dX2_init_60 : decode cX2_init 60 = .ok (.new 21, 3) := by decide +kernel
theorem dX2_init_63 : decode cX2_init 63 = .ok (.dup, 1) := by decide +kernel
theorem dX2_init_64 : decode cX2_init 64 = .ok (.invokespecial 23, 3) := by decide +kernel
theorem dX2_init_67 : decode cX2_init 67 = .ok (.putfield 34, 3) := by decide +kernel
theorem dX2_init_70 : decode cX2_init 70 = .ok (.aload_n 0, 1) := by decide +kernel
theorem dX2_init_71 : decode cX2_init 71 = .ok (.new 9, 3) := by decide +kernel
theorem dX2_init_74 : decode cX2_init 74 = .ok (.dup, 1) := by decide +kernel
theorem dX2_init_75 : decode cX2_init 75 = .ok (.invokespecial 11, 3) := by decide +kernel
theorem dX2_init_78 : decode cX2_init 78 = .ok (.putfield 37, 3) := by decide +kernel
theorem dX2_init_81 : decode cX2_init 81 = .ok (.aload_n 0, 1) := by decide +kernel
theorem dX2_init_82 : decode cX2_init 82 = .ok (.new 9, 3) := by decide +kernel
theorem dX2_init_85 : decode cX2_init 85 = .ok (.dup, 1) := by decide +kernel
theorem dX2_init_86 : decode cX2_init 86 = .ok (.invokespecial 11, 3) := by decide +kernel
theorem dX2_init_89 : decode cX2_init 89 = .ok (.putfield 40, 3) := by decide +kernel
theorem dX2_init_92 : decode cX2_init 92 = .ok (.aload_n 0, 1) := by decide +kernel
theorem dX2_init_93 : decode cX2_init 93 = .ok (.new 9, 3) := by decide +kernel
theorem dX2_init_96 : decode cX2_init 96 = .ok (.dup, 1) := by decide +kernel
theorem dX2_init_97 : decode cX2_init 97 = .ok (.invokespecial 11, 3) := by decide +kernel
theorem dX2_init_100 : decode cX2_init 100 = .ok (.putfield 43, 3) := by decide +kernel
theorem dX2_init_103 : decode cX2_init 103 = .ok (.aload_n 0, 1) := by decide +kernel
theorem dX2_init_104 : decode cX2_init 104 = .ok (.new 9, 3) := by decide +kernel
theorem dX2_init_107 : decode cX2_init 107 = .ok (.dup, 1) := by decide +kernel
theorem dX2_init_108 : decode cX2_init 108 = .ok (.invokespecial 11, 3) := by decide +kernel
theorem dX2_init_111 : decode cX2_init 111 = .ok (.putfield 46, 3) := by decide +kernel
theorem dX2_init_114 : decode cX2_init 114 = .ok (.aload_n 0, 1) := by decide +kernel
theorem dX2_init_115 : decode cX2_init 115 = .ok (.new 9, 3) := by decide +kernel
theorem dX2_init_118 : decode cX2_init 118 = .ok (.dup, 1) := by decide +kernel
theorem dX2_init_119 : decode cX2_init 119 = .ok (.invokespecial 11, 3) := by decide +kernel
theorem dX2_init_122 : decode cX2_init 122 = .ok (.putfield 49, 3) := by decide +kernel
theorem dX2_init_125 : decode cX2_init 125 = .ok (.aload_n 0, 1) := by decide +kernel
theorem dX2_init_126 : decode cX2_init 126 = .ok (.new 9, 3) := by decide +kernel
theorem dX2_init_129 : decode cX2_init 129 = .ok (.dup, 1) := by decide +kernel
theorem dX2_init_130 : decode cX2_init 130 = .ok (.invokespecial 11, 3) := by decide +kernel
theorem dX2_init_133 : decode cX2_init 133 = .ok (.putfield 52, 3) := by decide +kernel
theorem dX2_init_136 : decode cX2_init 136 = .ok (.aload_n 0, 1) := by decide +kernel
theorem dX2_init_137 : decode cX2_init 137 = .ok (.new 9, 3) := by decide +kernel
theorem dX2_init_140 : decode cX2_init 140 = .ok (.dup, 1) := by decide +kernel
theorem dX2_init_141 : decode cX2_init 141 = .ok (.invokespecial 11, 3) := by decide +kernel
theorem dX2_init_144 : decode cX2_init 144 = .ok (.putfield 55, 3) := by decide +kernel
theorem dX2_init_147 : decode cX2_init 147 = .ok (.aload_n 0, 1) := by decide +kernel
theorem dX2_init_148 : decode cX2_init 148 = .ok (.new 9, 3) := by decide +kernel
theorem dX2_init_151 : decode cX2_init 151 = .ok (.dup, 1) := by decide +kernel
theorem dX2_init_152 : decode cX2_init 152 = .ok (.invokespecial 11, 3) := by decide +kernel
theorem dX2_init_155 : decode cX2_init 155 = .ok (.putfield 58, 3) := by decide +kernel
theorem dX2_init_158 : decode cX2_init 158 = .ok (.aload_n 0, 1) := by decide +kernel
theorem dX2_init_159 : decode cX2_init 159 = .ok (.new 9, 3) := by decide +kernel
theorem dX2_init_162 : decode cX2_init 162 = .ok (.dup, 1) := by decide +kernel
theorem dX2_init_163 : decode cX2_init 163 = .ok (.invokespecial 11, 3) := by decide +kernel
theorem dX2_init_166 : decode cX2_init 166 = .ok (.putfield 61, 3) := by decide +kernel
theorem dX2_init_169 : decode cX2_init 169 = .ok (.aload_n 0, 1) := by decide +kernel
theorem dX2_init_170 : decode cX2_init 170 = .ok (.new 9, 3) := by decide +kernel
theorem dX2_init_173 : decode cX2_init 173 = .ok (.dup, 1) := by decide +kernel
theorem dX2_init_174 : decode cX2_init 174 = .ok (.invokespecial 11, 3) := by decide +kernel
theorem dX2_init_177 : decode cX2_init 177 = .ok (.putfield 64, 3) := by decide +kernel
theorem dX2_init_180 : decode cX2_init 180 = .ok (.aload_n 0, 1) := by decide +kernel
theorem dX2_init_181 : decode cX2_init 181 = .ok (.new 9, 3) := by decide +kernel
theorem dX2_init_184 : decode cX2_init 184 = .ok (.dup, 1) := by decide +kernel
theorem dX2_init_185 : decode cX2_init 185 = .ok (.invokespecial 11, 3) := by decide +kernel
theorem dX2_init_188 : decode cX2_init 188 = .ok (.putfield 67, 3) := by decide +kernel
theorem dX2_init_191 : decode cX2_init 191 = .ok (.aload_n 0, 1) := by decide +kernel
theorem dX2_init_192 : decode cX2_init 192 = .ok (.new 9, 3) := by decide +kernel
theorem dX2_init_195 : decode cX2_init 195 = .ok (.dup, 1) := by decide +kernel
theorem dX2_init_196 : decode cX2_init 196 = .ok (.invokespecial 11, 3) := by decide +kernel
theorem dX2_init_199 : decode cX2_init 199 = .ok (.putfield 70, 3) := by decide +kernel
theorem dX2_init_202 : decode cX2_init 202 = .ok (.aload_n 0, 1) := by decide +kernel
theorem dX2_init_203 : decode cX2_init 203 = .ok (.new 9, 3) := by decide +kernel
theorem dX2_init_206 : decode cX2_init 206 = .ok (.dup, 1) := by decide +kernel
theorem dX2_init_207 : decode cX2_init 207 = .ok (.invokespecial 11, 3) := by decide +kernel
theorem dX2_init_210 : decode cX2_init 210 = .ok (.putfield 73, 3) := by decide +kernel
theorem dX2_init_213 : decode cX2_init 213 = .ok (.aload_n 0, 1) := by decide +kernel
theorem dX2_init_214 : decode cX2_init 214 = .ok (.new 9, 3) := by decide +kernel
theorem dX2_init_217 : decode cX2_init 217 = .ok (.dup, 1) := by decide +kernel
theorem dX2_init_218 : decode cX2_init 218 = .ok (.invokespecial 11, 3) := by decide +kernel
theorem dX2_init_221 : decode cX2_init 221 = .ok (.putfield 76, 3) := by decide +kernel
theorem dX2_init_224 : decode cX2_init 224 = .ok (.return_, 1) := by decide +kernel
theorem dX2_lookAt_0 : decode cX2_lookAt 0 = .ok (.aload_n 0, 1) := by decide +kernel
theorem dX2_lookAt_1 : decode cX2_lookAt 1 = .ok (.getfield 12, 3) := by decide +kernel
theorem dX2_lookAt_4 : decode cX2_lookAt 4 = .ok (.aload_n 1, 1) := by decide +kernel
theorem dX2_lookAt_5 : decode cX2_lookAt 5 = .ok (.iload_n 2, 1) := by decide +kernel
theorem dX2_lookAt_6 : decode cX2_lookAt 6 = .ok (.iconst 0, 1) := by decide +kernel
theorem dX2_lookAt_7 : decode cX2_lookAt 7 = .ok (.invokevirtual 79, 3) := by decide +kernel
theorem dX2_lookAt_10 : decode cX2_lookAt 10 = .ok (.i2l, 1) := by decide +kernel
theorem dX2_lookAt_11 : decode cX2_lookAt 11 = .ok (.aload_n 1, 1) := by decide +kernel
theorem dX2_lookAt_12 : decode cX2_lookAt 12 = .ok (.iload_n 2, 1) := by decide +kernel
theorem dX2_lookAt_13 : decode cX2_lookAt 13 = .ok (.iconst 1, 1) := by decide +kernel
theorem dX2_lookAt_14 : decode cX2_lookAt 14 = .ok (.invokevirtual 79, 3) := by decide +kernel
theorem dX2_lookAt_17 : decode cX2_lookAt 17 = .ok (.i2l, 1) := by decide +kernel
theorem dX2_lookAt_18 : decode cX2_lookAt 18 = .ok (.invokevirtual 85, 3) := by decide +kernel
theorem dX2_lookAt_21 : decode cX2_lookAt 21 = .ok (.aload_n 0, 1) := by decide +kernel
theorem dX2_lookAt_22 : decode cX2_lookAt 22 = .ok (.getfield 18, 3) := by decide +kernel
theorem dX2_lookAt_25 : decode cX2_lookAt 25 = .ok (.aload_n 1, 1) := by decide +kernel
theorem dX2_lookAt_26 : decode cX2_lookAt 26 = .ok (.iload_n 2, 1) := by decide +kernel
theorem dX2_lookAt_27 : decode cX2_lookAt 27 = .ok (.iconst 2, 1) := by decide +kernel
theorem dX2_lookAt_28 : decode cX2_lookAt 28 = .ok (.invokevirtual 79, 3) := by decide +kernel
theorem dX2_lookAt_31 : decode cX2_lookAt 31 = .ok (.i2l, 1) := by decide +kernel
theorem dX2_lookAt_32 : decode cX2_lookAt 32 = .ok (.aload_n 1, 1) := by decide +kernel
theorem dX2_lookAt_33 : decode cX2_lookAt 33 = .ok (.iload_n 2, 1) := by decide +kernel
theorem dX2_lookAt_34 : decode cX2_lookAt 34 = .ok (.iconst 3, 1) := by decide +kernel
theorem dX2_lookAt_35 : decode cX2_lookAt 35 = .ok (.invokevirtual 79, 3) := by decide +kernel
theorem dX2_lookAt_38 : decode cX2_lookAt 38 = .ok (.i2l, 1) := by decide +kernel
theorem dX2_lookAt_39 : decode cX2_lookAt 39 = .ok (.invokevirtual 85, 3) := by decide +kernel
theorem dX2_lookAt_42 : decode cX2_lookAt 42 = .ok (.aload_n 0, 1) := by decide +kernel
theorem dX2_lookAt_43 : decode cX2_lookAt 43 = .ok (.getfield 24, 3) := by decide +kernel
theorem dX2_lookAt_46 : decode cX2_lookAt 46 = .ok (.aload_n 0, 1) := by decide +kernel
theorem dX2_lookAt_47 : decode cX2_lookAt 47 = .ok (.getfield 12, 3) := by decide +kernel
theorem dX2_lookAt_50 : decode cX2_lookAt 50 = .ok (.aload_n 0, 1) := by decide +kernel
theorem dX2_lookAt_51 : decode cX2_lookAt 51 = .ok (.getfield 18, 3) := by decide +kernel
theorem dX2_lookAt_54 : decode cX2_lookAt 54 = .ok (.invokevirtual 89, 3) := by decide +kernel
theorem dX2_lookAt_57 : decode cX2_lookAt 57 = .ok (.return_, 1) := by decide +kernel
theorem dX2_boxX_0 : decode cX2_boxX 0 = .ok (.aload_n 0, 1) := by decide +kernel
theorem dX2_boxX_1 : decode cX2_boxX 1 = .ok (.getfield 12, 3) := by decide +kernel
theorem dX2_boxX_4 : decode cX2_boxX 4 = .ok (.areturn, 1) := by decide +kernel
theorem dX2_boxY_0 : decode cX2_boxY 0 = .ok (.aload_n 0, 1) := by decide +kernel
theorem dX2_boxY_1 : decode cX2_boxY 1 = .ok (.getfield 18, 3) := by decide +kernel
theorem dX2_boxY_4 : decode cX2_boxY 4 = .ok (.areturn, 1) := by decide +kernel
theorem dX2_steepness_0 : decode cX2_steepness 0 = .ok (.aload_n 0, 1) := by decide +kernel
theorem dX2_steepness_1 : decode cX2_steepness 1 = .ok (.getfield 58, 3) := by decide +kernel
theorem dX2_steepness_4 : decode cX2_steepness 4 = .ok (.areturn, 1) := by decide +kernel
theorem dX2_fenceX_0 : decode cX2_fenceX 0 = .ok (.aload_n 0, 1) := by decide +kernel
theorem dX2_fenceX_1 : decode cX2_fenceX 1 = .ok (.getfield 67, 3) := by decide +kernel
theorem dX2_fenceX_4 : decode cX2_fenceX 4 = .ok (.areturn, 1) := by decide +kernel
theorem dX2_fenceY_0 : decode cX2_fenceY 0 = .ok (.aload_n 0, 1) := by decide +kernel
theorem dX2_fenceY_1 : decode cX2_fenceY 1 = .ok (.getfield 70, 3) := by decide +kernel
theorem dX2_fenceY_4 : decode cX2_fenceY 4 = .ok (.areturn, 1) := by decide +kernel
theorem dX2_sharedX_0 : decode cX2_sharedX 0 = .ok (.aload_n 0, 1) := by decide +kernel
theorem dX2_sharedX_1 : decode cX2_sharedX 1 = .ok (.getfield 73, 3) := by decide +kernel
theorem dX2_sharedX_4 : decode cX2_sharedX 4 = .ok (.areturn, 1) := by decide +kernel
theorem dX2_sharedY_0 : decode cX2_sharedY 0 = .ok (.aload_n 0, 1) := by decide +kernel
theorem dX2_sharedY_1 : decode cX2_sharedY 1 = .ok (.getfield 76, 3) := by decide +kernel
theorem dX2_sharedY_4 : decode cX2_sharedY 4 = .ok (.areturn, 1) := by decide +kernel
theorem dX2_valueOf_0 : decode cX2_valueOf 0 = .ok (.aload_n 0, 1) := by decide +kernel
theorem dX2_valueOf_1 : decode cX2_valueOf 1 = .ok (.getfield 37, 3) := by decide +kernel
theorem dX2_valueOf_4 : decode cX2_valueOf 4 = .ok (.aload_n 1, 1) := by decide +kernel
theorem dX2_valueOf_5 : decode cX2_valueOf 5 = .ok (.aload_n 0, 1) := by decide +kernel
theorem dX2_valueOf_6 : decode cX2_valueOf 6 = .ok (.getfield 24, 3) := by decide +kernel
theorem dX2_valueOf_9 : decode cX2_valueOf 9 = .ok (.invokestatic 93, 3) := by decide +kernel
theorem dX2_valueOf_12 : decode cX2_valueOf 12 = .ok (.aload_n 0, 1) := by decide +kernel
theorem dX2_valueOf_13 : decode cX2_valueOf 13 = .ok (.getfield 37, 3) := by decide +kernel
theorem dX2_valueOf_16 : decode cX2_valueOf 16 = .ok (.areturn, 1) := by decide +kernel
theorem dX2_slopeOf_0 : decode cX2_slopeOf 0 = .ok (.aload_n 0, 1) := by decide +kernel
theorem dX2_slopeOf_1 : decode cX2_slopeOf 1 = .ok (.aload_n 0, 1) := by decide +kernel
theorem dX2_slopeOf_2 : decode cX2_slopeOf 2 = .ok (.getfield 37, 3) := by decide +kernel
theorem dX2_slopeOf_5 : decode cX2_slopeOf 5 = .ok (.aload_n 1, 1) := by decide +kernel
theorem dX2_slopeOf_6 : decode cX2_slopeOf 6 = .ok (.iload_n 2, 1) := by decide +kernel
theorem dX2_slopeOf_7 : decode cX2_slopeOf 7 = .ok (.invokevirtual 97, 3) := by decide +kernel
theorem dX2_slopeOf_10 : decode cX2_slopeOf 10 = .ok (.aload_n 0, 1) := by decide +kernel
theorem dX2_slopeOf_11 : decode cX2_slopeOf 11 = .ok (.getfield 37, 3) := by decide +kernel
theorem dX2_slopeOf_14 : decode cX2_slopeOf 14 = .ok (.areturn, 1) := by decide +kernel
theorem dX2_judge_0 : decode cX2_judge 0 = .ok (.aload_n 0, 1) := by decide +kernel
theorem dX2_judge_1 : decode cX2_judge 1 = .ok (.aload_n 1, 1) := by decide +kernel
theorem dX2_judge_2 : decode cX2_judge 2 = .ok (.invokevirtual 101, 3) := by decide +kernel
theorem dX2_judge_5 : decode cX2_judge 5 = .ok (.invokevirtual 105, 3) := by decide +kernel
theorem dX2_judge_8 : decode cX2_judge 8 = .ok (.ifCond .ne 5, 3) := by decide +kernel
theorem dX2_judge_11 : decode cX2_judge 11 = .ok (.iconst 0, 1) := by decide +kernel
theorem dX2_judge_12 : decode cX2_judge 12 = .ok (.ireturn, 1) := by decide +kernel
theorem dX2_judge_13 : decode cX2_judge 13 = .ok (.aload_n 0, 1) := by decide +kernel
theorem dX2_judge_14 : decode cX2_judge 14 = .ok (.aload_n 2, 1) := by decide +kernel
theorem dX2_judge_15 : decode cX2_judge 15 = .ok (.invokevirtual 101, 3) := by decide +kernel
theorem dX2_judge_18 : decode cX2_judge 18 = .ok (.invokevirtual 105, 3) := by decide +kernel
theorem dX2_judge_21 : decode cX2_judge 21 = .ok (.ifCond .ne 5, 3) := by decide +kernel
theorem dX2_judge_24 : decode cX2_judge 24 = .ok (.iconst 1, 1) := by decide +kernel
theorem dX2_judge_25 : decode cX2_judge 25 = .ok (.ireturn, 1) := by decide +kernel
theorem dX2_judge_26 : decode cX2_judge 26 = .ok (.aload_n 0, 1) := by decide +kernel
theorem dX2_judge_27 : decode cX2_judge 27 = .ok (.aload_n 1, 1) := by decide +kernel
theorem dX2_judge_28 : decode cX2_judge 28 = .ok (.aload_n 2, 1) := by decide +kernel
theorem dX2_judge_29 : decode cX2_judge 29 = .ok (.invokevirtual 109, 3) := by decide +kernel
theorem dX2_judge_32 : decode cX2_judge 32 = .ok (.ifCond .ne 5, 3) := by decide +kernel
theorem dX2_judge_35 : decode cX2_judge 35 = .ok (.iconst 5, 1) := by decide +kernel
theorem dX2_judge_36 : decode cX2_judge 36 = .ok (.ireturn, 1) := by decide +kernel
theorem dX2_judge_37 : decode cX2_judge 37 = .ok (.aload_n 0, 1) := by decide +kernel
theorem dX2_judge_38 : decode cX2_judge 38 = .ok (.getfield 73, 3) := by decide +kernel
theorem dX2_judge_41 : decode cX2_judge 41 = .ok (.aload_n 0, 1) := by decide +kernel
theorem dX2_judge_42 : decode cX2_judge 42 = .ok (.getfield 12, 3) := by decide +kernel
theorem dX2_judge_45 : decode cX2_judge 45 = .ok (.aload_n 0, 1) := by decide +kernel
theorem dX2_judge_46 : decode cX2_judge 46 = .ok (.getfield 67, 3) := by decide +kernel
theorem dX2_judge_49 : decode cX2_judge 49 = .ok (.invokevirtual 113, 3) := by decide +kernel
theorem dX2_judge_52 : decode cX2_judge 52 = .ok (.aload_n 0, 1) := by decide +kernel
theorem dX2_judge_53 : decode cX2_judge 53 = .ok (.getfield 76, 3) := by decide +kernel
theorem dX2_judge_56 : decode cX2_judge 56 = .ok (.aload_n 0, 1) := by decide +kernel
theorem dX2_judge_57 : decode cX2_judge 57 = .ok (.getfield 18, 3) := by decide +kernel
theorem dX2_judge_60 : decode cX2_judge 60 = .ok (.aload_n 0, 1) := by decide +kernel
theorem dX2_judge_61 : decode cX2_judge 61 = .ok (.getfield 70, 3) := by decide +kernel
theorem dX2_judge_64 : decode cX2_judge 64 = .ok (.invokevirtual 113, 3) := by decide +kernel
theorem dX2_judge_67 : decode cX2_judge 67 = .ok (.aload_n 0, 1) := by decide +kernel
theorem dX2_judge_68 : decode cX2_judge 68 = .ok (.getfield 73, 3) := by decide +kernel
theorem dX2_judge_71 : decode cX2_judge 71 = .ok (.invokevirtual 116, 3) := by decide +kernel
theorem dX2_judge_74 : decode cX2_judge 74 = .ok (.ifCond .ne 13, 3) := by decide +kernel
theorem dX2_judge_77 : decode cX2_judge 77 = .ok (.aload_n 0, 1) := by decide +kernel
theorem dX2_judge_78 : decode cX2_judge 78 = .ok (.getfield 76, 3) := by decide +kernel
theorem dX2_judge_81 : decode cX2_judge 81 = .ok (.invokevirtual 116, 3) := by decide +kernel
theorem dX2_judge_84 : decode cX2_judge 84 = .ok (.ifCond .eq 5, 3) := by decide +kernel
theorem dX2_judge_87 : decode cX2_judge 87 = .ok (.iconst 2, 1) := by decide +kernel
theorem dX2_judge_88 : decode cX2_judge 88 = .ok (.ireturn, 1) := by decide +kernel
theorem dX2_judge_89 : decode cX2_judge 89 = .ok (.aload_n 0, 1) := by decide +kernel
theorem dX2_judge_90 : decode cX2_judge 90 = .ok (.getfield 67, 3) := by decide +kernel
theorem dX2_judge_93 : decode cX2_judge 93 = .ok (.aload_n 0, 1) := by decide +kernel
theorem dX2_judge_94 : decode cX2_judge 94 = .ok (.getfield 12, 3) := by decide +kernel
theorem dX2_judge_97 : decode cX2_judge 97 = .ok (.invokevirtual 119, 3) := by decide +kernel
theorem dX2_judge_100 : decode cX2_judge 100 = .ok (.ifCond .eq 19, 3) := by decide +kernel
theorem dX2_judge_103 : decode cX2_judge 103 = .ok (.aload_n 0, 1) := by decide +kernel
theorem dX2_judge_104 : decode cX2_judge 104 = .ok (.getfield 70, 3) := by decide +kernel
theorem dX2_judge_107 : decode cX2_judge 107 = .ok (.aload_n 0, 1) := by decide +kernel
theorem dX2_judge_108 : decode cX2_judge 108 = .ok (.getfield 18, 3) := by decide +kernel
theorem dX2_judge_111 : decode cX2_judge 111 = .ok (.invokevirtual 119, 3) := by decide +kernel
theorem dX2_judge_114 : decode cX2_judge 114 = .ok (.ifCond .eq 5, 3) := by decide +kernel
theorem dX2_judge_117 : decode cX2_judge 117 = .ok (.iconst 3, 1) := by decide +kernel
theorem dX2_judge_118 : decode cX2_judge 118 = .ok (.ireturn, 1) := by decide +kernel
theorem dX2_judge_119 : decode cX2_judge 119 = .ok (.aload_n 0, 1) := by decide +kernel
theorem dX2_judge_120 : decode cX2_judge 120 = .ok (.getfield 12, 3) := by decide +kernel
theorem dX2_judge_123 : decode cX2_judge 123 = .ok (.invokevirtual 123, 3) := by decide +kernel
theorem dX2_judge_126 : decode cX2_judge 126 = .ok (.aload_n 0, 1) := by decide +kernel
theorem dX2_judge_127 : decode cX2_judge 127 = .ok (.getfield 18, 3) := by decide +kernel
theorem dX2_judge_130 : decode cX2_judge 130 = .ok (.invokevirtual 123, 3) := by decide +kernel
theorem dX2_judge_133 : decode cX2_judge 133 = .ok (.ladd, 1) := by decide +kernel
theorem dX2_judge_134 : decode cX2_judge 134 = .ok (.lstore_n 3, 1) := by decide +kernel
theorem dX2_judge_135 : decode cX2_judge 135 = .ok (.aload_n 0, 1) := by decide +kernel
theorem dX2_judge_136 : decode cX2_judge 136 = .ok (.getfield 73, 3) := by decide +kernel
theorem dX2_judge_139 : decode cX2_judge 139 = .ok (.invokevirtual 123, 3) := by decide +kernel
theorem dX2_judge_142 : decode cX2_judge 142 = .ok (.aload_n 0, 1) := by decide +kernel
theorem dX2_judge_143 : decode cX2_judge 143 = .ok (.getfield 76, 3) := by decide +kernel
theorem dX2_judge_146 : decode cX2_judge 146 = .ok (.invokevirtual 123, 3) := by decide +kernel
theorem dX2_judge_149 : decode cX2_judge 149 = .ok (.ladd, 1) := by decide +kernel
theorem dX2_judge_150 : decode cX2_judge 150 = .ok (.lstore 5, 2) := by decide +kernel
theorem dX2_judge_152 : decode cX2_judge 152 = .ok (.lload_n 3, 1) := by decide +kernel
theorem dX2_judge_153 : decode cX2_judge 153 = .ok (.lconst 0, 1) := by decide +kernel
theorem dX2_judge_154 : decode cX2_judge 154 = .ok (.lcmp, 1) := by decide +kernel
theorem dX2_judge_155 : decode cX2_judge 155 = .ok (.ifCond .le 22, 3) := by decide +kernel
theorem dX2_judge_158 : decode cX2_judge 158 = .ok (.ldc2_w 127, 3) := by decide +kernel
theorem dX2_judge_161 : decode cX2_judge 161 = .ok (.lload 5, 2) := by decide +kernel
theorem dX2_judge_163 : decode cX2_judge 163 = .ok (.lmul, 1) := by decide +kernel
theorem dX2_judge_164 : decode cX2_judge 164 = .ok (.ldc2_w 129, 3) := by decide +kernel
theorem dX2_judge_167 : decode cX2_judge 167 = .ok (.lload_n 3, 1) := by decide +kernel
theorem dX2_judge_168 : decode cX2_judge 168 = .ok (.lmul, 1) := by decide +kernel
theorem dX2_judge_169 : decode cX2_judge 169 = .ok (.lcmp, 1) := by decide +kernel
theorem dX2_judge_170 : decode cX2_judge 170 = .ok (.ifCond .gt 7, 3) := by decide +kernel
theorem dX2_judge_173 : decode cX2_judge 173 = .ok (.iconst 4, 1) := by decide +kernel
theorem dX2_judge_174 : decode cX2_judge 174 = .ok (.goto 4, 3) := by decide +kernel
theorem dX2_judge_177 : decode cX2_judge 177 = .ok (.iconst 5, 1) := by decide +kernel
theorem dX2_judge_178 : decode cX2_judge 178 = .ok (.ireturn, 1) := by decide +kernel
theorem dX2_findFence_0 : decode cX2_findFence 0 = .ok (.aload_n 0, 1) := by decide +kernel
theorem dX2_findFence_1 : decode cX2_findFence 1 = .ok (.getfield 28, 3) := by decide +kernel
theorem dX2_findFence_4 : decode cX2_findFence 4 = .ok (.aload_n 0, 1) := by decide +kernel
theorem dX2_findFence_5 : decode cX2_findFence 5 = .ok (.getfield 12, 3) := by decide +kernel
theorem dX2_findFence_8 : decode cX2_findFence 8 = .ok (.invokevirtual 131, 3) := by decide +kernel
theorem dX2_findFence_11 : decode cX2_findFence 11 = .ok (.aload_n 0, 1) := by decide +kernel
theorem dX2_findFence_12 : decode cX2_findFence 12 = .ok (.getfield 12, 3) := by decide +kernel
theorem dX2_findFence_15 : decode cX2_findFence 15 = .ok (.invokevirtual 131, 3) := by decide +kernel
theorem dX2_findFence_18 : decode cX2_findFence 18 = .ok (.invokevirtual 85, 3) := by decide +kernel
theorem dX2_findFence_21 : decode cX2_findFence 21 = .ok (.aload_n 0, 1) := by decide +kernel
theorem dX2_findFence_22 : decode cX2_findFence 22 = .ok (.getfield 31, 3) := by decide +kernel
theorem dX2_findFence_25 : decode cX2_findFence 25 = .ok (.aload_n 0, 1) := by decide +kernel
theorem dX2_findFence_26 : decode cX2_findFence 26 = .ok (.getfield 18, 3) := by decide +kernel
theorem dX2_findFence_29 : decode cX2_findFence 29 = .ok (.invokevirtual 131, 3) := by decide +kernel
theorem dX2_findFence_32 : decode cX2_findFence 32 = .ok (.aload_n 0, 1) := by decide +kernel
theorem dX2_findFence_33 : decode cX2_findFence 33 = .ok (.getfield 18, 3) := by decide +kernel
theorem dX2_findFence_36 : decode cX2_findFence 36 = .ok (.invokevirtual 131, 3) := by decide +kernel
theorem dX2_findFence_39 : decode cX2_findFence 39 = .ok (.invokevirtual 85, 3) := by decide +kernel
theorem dX2_findFence_42 : decode cX2_findFence 42 = .ok (.aload_n 0, 1) := by decide +kernel
theorem dX2_findFence_43 : decode cX2_findFence 43 = .ok (.aload_n 0, 1) := by decide +kernel
theorem dX2_findFence_44 : decode cX2_findFence 44 = .ok (.getfield 46, 3) := by decide +kernel
theorem dX2_findFence_47 : decode cX2_findFence 47 = .ok (.aload_n 1, 1) := by decide +kernel
theorem dX2_findFence_48 : decode cX2_findFence 48 = .ok (.iconst 1, 1) := by decide +kernel
theorem dX2_findFence_49 : decode cX2_findFence 49 = .ok (.invokevirtual 97, 3) := by decide +kernel
theorem dX2_findFence_52 : decode cX2_findFence 52 = .ok (.aload_n 0, 1) := by decide +kernel
theorem dX2_findFence_53 : decode cX2_findFence 53 = .ok (.aload_n 0, 1) := by decide +kernel
theorem dX2_findFence_54 : decode cX2_findFence 54 = .ok (.getfield 49, 3) := by decide +kernel
theorem dX2_findFence_57 : decode cX2_findFence 57 = .ok (.aload_n 1, 1) := by decide +kernel
theorem dX2_findFence_58 : decode cX2_findFence 58 = .ok (.iconst 0, 1) := by decide +kernel
theorem dX2_findFence_59 : decode cX2_findFence 59 = .ok (.invokevirtual 97, 3) := by decide +kernel
theorem dX2_findFence_62 : decode cX2_findFence 62 = .ok (.aload_n 0, 1) := by decide +kernel
theorem dX2_findFence_63 : decode cX2_findFence 63 = .ok (.aload_n 0, 1) := by decide +kernel
theorem dX2_findFence_64 : decode cX2_findFence 64 = .ok (.getfield 52, 3) := by decide +kernel
theorem dX2_findFence_67 : decode cX2_findFence 67 = .ok (.aload_n 2, 1) := by decide +kernel
theorem dX2_findFence_68 : decode cX2_findFence 68 = .ok (.iconst 1, 1) := by decide +kernel
theorem dX2_findFence_69 : decode cX2_findFence 69 = .ok (.invokevirtual 97, 3) := by decide +kernel
theorem dX2_findFence_72 : decode cX2_findFence 72 = .ok (.aload_n 0, 1) := by decide +kernel
theorem dX2_findFence_73 : decode cX2_findFence 73 = .ok (.aload_n 0, 1) := by decide +kernel
theorem dX2_findFence_74 : decode cX2_findFence 74 = .ok (.getfield 55, 3) := by decide +kernel
theorem dX2_findFence_77 : decode cX2_findFence 77 = .ok (.aload_n 2, 1) := by decide +kernel
theorem dX2_findFence_78 : decode cX2_findFence 78 = .ok (.iconst 0, 1) := by decide +kernel
theorem dX2_findFence_79 : decode cX2_findFence 79 = .ok (.invokevirtual 97, 3) := by decide +kernel
theorem dX2_findFence_82 : decode cX2_findFence 82 = .ok (.aload_n 0, 1) := by decide +kernel
theorem dX2_findFence_83 : decode cX2_findFence 83 = .ok (.aload_n 0, 1) := by decide +kernel
theorem dX2_findFence_84 : decode cX2_findFence 84 = .ok (.getfield 58, 3) := by decide +kernel
theorem dX2_findFence_87 : decode cX2_findFence 87 = .ok (.aload_n 0, 1) := by decide +kernel
theorem dX2_findFence_88 : decode cX2_findFence 88 = .ok (.getfield 46, 3) := by decide +kernel
theorem dX2_findFence_91 : decode cX2_findFence 91 = .ok (.aload_n 0, 1) := by decide +kernel
theorem dX2_findFence_92 : decode cX2_findFence 92 = .ok (.getfield 55, 3) := by decide +kernel
theorem dX2_findFence_95 : decode cX2_findFence 95 = .ok (.aload_n 0, 1) := by decide +kernel
theorem dX2_findFence_96 : decode cX2_findFence 96 = .ok (.getfield 49, 3) := by decide +kernel
theorem dX2_findFence_99 : decode cX2_findFence 99 = .ok (.aload_n 0, 1) := by decide +kernel
theorem dX2_findFence_100 : decode cX2_findFence 100 = .ok (.getfield 52, 3) := by decide +kernel
theorem dX2_findFence_103 : decode cX2_findFence 103 = .ok (.invokevirtual 134, 3) := by decide +kernel
theorem dX2_findFence_106 : decode cX2_findFence 106 = .ok (.aload_n 0, 1) := by decide +kernel
theorem dX2_findFence_107 : decode cX2_findFence 107 = .ok (.getfield 58, 3) := by decide +kernel
theorem dX2_findFence_110 : decode cX2_findFence 110 = .ok (.invokevirtual 105, 3) := by decide +kernel
theorem dX2_findFence_113 : decode cX2_findFence 113 = .ok (.ifCond .eq 5, 3) := by decide +kernel
theorem dX2_findFence_116 : decode cX2_findFence 116 = .ok (.iconst 0, 1) := by decide +kernel
theorem dX2_findFence_117 : decode cX2_findFence 117 = .ok (.ireturn, 1) := by decide +kernel
theorem dX2_findFence_118 : decode cX2_findFence 118 = .ok (.aload_n 0, 1) := by decide +kernel
theorem dX2_findFence_119 : decode cX2_findFence 119 = .ok (.getfield 34, 3) := by decide +kernel
theorem dX2_findFence_122 : decode cX2_findFence 122 = .ok (.aload_n 0, 1) := by decide +kernel
theorem dX2_findFence_123 : decode cX2_findFence 123 = .ok (.getfield 28, 3) := by decide +kernel
theorem dX2_findFence_126 : decode cX2_findFence 126 = .ok (.aload_n 0, 1) := by decide +kernel
theorem dX2_findFence_127 : decode cX2_findFence 127 = .ok (.getfield 31, 3) := by decide +kernel
theorem dX2_findFence_130 : decode cX2_findFence 130 = .ok (.invokevirtual 89, 3) := by decide +kernel
theorem dX2_findFence_133 : decode cX2_findFence 133 = .ok (.aload_n 0, 1) := by decide +kernel
theorem dX2_findFence_134 : decode cX2_findFence 134 = .ok (.getfield 40, 3) := by decide +kernel
theorem dX2_findFence_137 : decode cX2_findFence 137 = .ok (.aload_n 1, 1) := by decide +kernel
theorem dX2_findFence_138 : decode cX2_findFence 138 = .ok (.aload_n 0, 1) := by decide +kernel
theorem dX2_findFence_139 : decode cX2_findFence 139 = .ok (.getfield 34, 3) := by decide +kernel
theorem dX2_findFence_142 : decode cX2_findFence 142 = .ok (.invokestatic 93, 3) := by decide +kernel
theorem dX2_findFence_145 : decode cX2_findFence 145 = .ok (.aload_n 0, 1) := by decide +kernel
theorem dX2_findFence_146 : decode cX2_findFence 146 = .ok (.getfield 43, 3) := by decide +kernel
theorem dX2_findFence_149 : decode cX2_findFence 149 = .ok (.aload_n 2, 1) := by decide +kernel
theorem dX2_findFence_150 : decode cX2_findFence 150 = .ok (.aload_n 0, 1) := by decide +kernel
theorem dX2_findFence_151 : decode cX2_findFence 151 = .ok (.getfield 34, 3) := by decide +kernel
theorem dX2_findFence_154 : decode cX2_findFence 154 = .ok (.invokestatic 93, 3) := by decide +kernel
theorem dX2_findFence_157 : decode cX2_findFence 157 = .ok (.aload_n 0, 1) := by decide +kernel
theorem dX2_findFence_158 : decode cX2_findFence 158 = .ok (.aload_n 0, 1) := by decide +kernel
theorem dX2_findFence_159 : decode cX2_findFence 159 = .ok (.getfield 37, 3) := by decide +kernel
theorem dX2_findFence_162 : decode cX2_findFence 162 = .ok (.aload_n 0, 1) := by decide +kernel
theorem dX2_findFence_163 : decode cX2_findFence 163 = .ok (.getfield 55, 3) := by decide +kernel
theorem dX2_findFence_166 : decode cX2_findFence 166 = .ok (.aload_n 0, 1) := by decide +kernel
theorem dX2_findFence_167 : decode cX2_findFence 167 = .ok (.getfield 40, 3) := by decide +kernel
theorem dX2_findFence_170 : decode cX2_findFence 170 = .ok (.aload_n 0, 1) := by decide +kernel
theorem dX2_findFence_171 : decode cX2_findFence 171 = .ok (.getfield 49, 3) := by decide +kernel
theorem dX2_findFence_174 : decode cX2_findFence 174 = .ok (.aload_n 0, 1) := by decide +kernel
theorem dX2_findFence_175 : decode cX2_findFence 175 = .ok (.getfield 43, 3) := by decide +kernel
theorem dX2_findFence_178 : decode cX2_findFence 178 = .ok (.invokevirtual 134, 3) := by decide +kernel
theorem dX2_findFence_181 : decode cX2_findFence 181 = .ok (.aload_n 0, 1) := by decide +kernel
theorem dX2_findFence_182 : decode cX2_findFence 182 = .ok (.getfield 67, 3) := by decide +kernel
theorem dX2_findFence_185 : decode cX2_findFence 185 = .ok (.aload_n 0, 1) := by decide +kernel
theorem dX2_findFence_186 : decode cX2_findFence 186 = .ok (.getfield 37, 3) := by decide +kernel
theorem dX2_findFence_189 : decode cX2_findFence 189 = .ok (.aload_n 0, 1) := by decide +kernel
theorem dX2_findFence_190 : decode cX2_findFence 190 = .ok (.getfield 58, 3) := by decide +kernel
theorem dX2_findFence_193 : decode cX2_findFence 193 = .ok (.invokevirtual 138, 3) := by decide +kernel
theorem dX2_findFence_196 : decode cX2_findFence 196 = .ok (.aload_n 0, 1) := by decide +kernel
theorem dX2_findFence_197 : decode cX2_findFence 197 = .ok (.getfield 67, 3) := by decide +kernel
theorem dX2_findFence_200 : decode cX2_findFence 200 = .ok (.aload_n 0, 1) := by decide +kernel
theorem dX2_findFence_201 : decode cX2_findFence 201 = .ok (.getfield 28, 3) := by decide +kernel
theorem dX2_findFence_204 : decode cX2_findFence 204 = .ok (.aload_n 0, 1) := by decide +kernel
theorem dX2_findFence_205 : decode cX2_findFence 205 = .ok (.getfield 67, 3) := by decide +kernel
theorem dX2_findFence_208 : decode cX2_findFence 208 = .ok (.invokevirtual 141, 3) := by decide +kernel
theorem dX2_findFence_211 : decode cX2_findFence 211 = .ok (.aload_n 0, 1) := by decide +kernel
theorem dX2_findFence_212 : decode cX2_findFence 212 = .ok (.aload_n 0, 1) := by decide +kernel
theorem dX2_findFence_213 : decode cX2_findFence 213 = .ok (.getfield 37, 3) := by decide +kernel
theorem dX2_findFence_216 : decode cX2_findFence 216 = .ok (.aload_n 0, 1) := by decide +kernel
theorem dX2_findFence_217 : decode cX2_findFence 217 = .ok (.getfield 46, 3) := by decide +kernel
theorem dX2_findFence_220 : decode cX2_findFence 220 = .ok (.aload_n 0, 1) := by decide +kernel
theorem dX2_findFence_221 : decode cX2_findFence 221 = .ok (.getfield 43, 3) := by decide +kernel
theorem dX2_findFence_224 : decode cX2_findFence 224 = .ok (.aload_n 0, 1) := by decide +kernel
theorem dX2_findFence_225 : decode cX2_findFence 225 = .ok (.getfield 52, 3) := by decide +kernel
theorem dX2_findFence_228 : decode cX2_findFence 228 = .ok (.aload_n 0, 1) := by decide +kernel
theorem dX2_findFence_229 : decode cX2_findFence 229 = .ok (.getfield 40, 3) := by decide +kernel
theorem dX2_findFence_232 : decode cX2_findFence 232 = .ok (.invokevirtual 134, 3) := by decide +kernel
theorem dX2_findFence_235 : decode cX2_findFence 235 = .ok (.aload_n 0, 1) := by decide +kernel
theorem dX2_findFence_236 : decode cX2_findFence 236 = .ok (.getfield 70, 3) := by decide +kernel
theorem dX2_findFence_239 : decode cX2_findFence 239 = .ok (.aload_n 0, 1) := by decide +kernel
theorem dX2_findFence_240 : decode cX2_findFence 240 = .ok (.getfield 37, 3) := by decide +kernel
theorem dX2_findFence_243 : decode cX2_findFence 243 = .ok (.aload_n 0, 1) := by decide +kernel
theorem dX2_findFence_244 : decode cX2_findFence 244 = .ok (.getfield 58, 3) := by decide +kernel
theorem dX2_findFence_247 : decode cX2_findFence 247 = .ok (.invokevirtual 138, 3) := by decide +kernel
theorem dX2_findFence_250 : decode cX2_findFence 250 = .ok (.aload_n 0, 1) := by decide +kernel
theorem dX2_findFence_251 : decode cX2_findFence 251 = .ok (.getfield 70, 3) := by decide +kernel
theorem dX2_findFence_254 : decode cX2_findFence 254 = .ok (.aload_n 0, 1) := by decide +kernel
theorem dX2_findFence_255 : decode cX2_findFence 255 = .ok (.getfield 31, 3) := by decide +kernel
theorem dX2_findFence_258 : decode cX2_findFence 258 = .ok (.aload_n 0, 1) := by decide +kernel
theorem dX2_findFence_259 : decode cX2_findFence 259 = .ok (.getfield 70, 3) := by decide +kernel
theorem dX2_findFence_262 : decode cX2_findFence 262 = .ok (.invokevirtual 141, 3) := by decide +kernel
theorem dX2_findFence_265 : decode cX2_findFence 265 = .ok (.iconst 1, 1) := by decide +kernel
theorem dX2_findFence_266 : decode cX2_findFence 266 = .ok (.ireturn, 1) := by decide +kernel
theorem dX2_valueInto_0 : decode cX2_valueInto 0 = .ok (.aload_n 0, 1) := by decide +kernel
theorem dX2_valueInto_1 : decode cX2_valueInto 1 = .ok (.lconst 0, 1) := by decide +kernel
theorem dX2_valueInto_2 : decode cX2_valueInto 2 = .ok (.lconst 0, 1) := by decide +kernel
theorem dX2_valueInto_3 : decode cX2_valueInto 3 = .ok (.invokevirtual 85, 3) := by decide +kernel
theorem dX2_valueInto_6 : decode cX2_valueInto 6 = .ok (.iconst 0, 1) := by decide +kernel
theorem dX2_valueInto_7 : decode cX2_valueInto 7 = .ok (.istore_n 3, 1) := by decide +kernel
theorem dX2_valueInto_8 : decode cX2_valueInto 8 = .ok (.iload_n 3, 1) := by decide +kernel
theorem dX2_valueInto_9 : decode cX2_valueInto 9 = .ok (.iconst 4, 1) := by decide +kernel
theorem dX2_valueInto_10 : decode cX2_valueInto 10 = .ok (.if_icmp .gt 54, 3) := by decide +kernel
theorem dX2_valueInto_13 : decode cX2_valueInto 13 = .ok (.iconst 0, 1) := by decide +kernel
theorem dX2_valueInto_14 : decode cX2_valueInto 14 = .ok (.istore 4, 2) := by decide +kernel
theorem dX2_valueInto_16 : decode cX2_valueInto 16 = .ok (.iload_n 3, 1) := by decide +kernel
theorem dX2_valueInto_17 : decode cX2_valueInto 17 = .ok (.iload 4, 2) := by decide +kernel
theorem dX2_valueInto_19 : decode cX2_valueInto 19 = .ok (.iadd, 1) := by decide +kernel
theorem dX2_valueInto_20 : decode cX2_valueInto 20 = .ok (.iconst 4, 1) := by decide +kernel
theorem dX2_valueInto_21 : decode cX2_valueInto 21 = .ok (.if_icmp .gt 37, 3) := by decide +kernel
theorem dX2_valueInto_24 : decode cX2_valueInto 24 = .ok (.aload_n 1, 1) := by decide +kernel
theorem dX2_valueInto_25 : decode cX2_valueInto 25 = .ok (.iload_n 3, 1) := by decide +kernel
theorem dX2_valueInto_26 : decode cX2_valueInto 26 = .ok (.iload 4, 2) := by decide +kernel
theorem dX2_valueInto_28 : decode cX2_valueInto 28 = .ok (.invokevirtual 144, 3) := by decide +kernel
theorem dX2_valueInto_31 : decode cX2_valueInto 31 = .ok (.istore 5, 2) := by decide +kernel
theorem dX2_valueInto_33 : decode cX2_valueInto 33 = .ok (.iload 5, 2) := by decide +kernel
theorem dX2_valueInto_35 : decode cX2_valueInto 35 = .ok (.ifCond .eq 17, 3) := by decide +kernel
theorem dX2_valueInto_38 : decode cX2_valueInto 38 = .ok (.aload_n 0, 1) := by decide +kernel
theorem dX2_valueInto_39 : decode cX2_valueInto 39 = .ok (.aload_n 2, 1) := by decide +kernel
theorem dX2_valueInto_40 : decode cX2_valueInto 40 = .ok (.iload_n 3, 1) := by decide +kernel
theorem dX2_valueInto_41 : decode cX2_valueInto 41 = .ok (.iload 4, 2) := by decide +kernel
theorem dX2_valueInto_43 : decode cX2_valueInto 43 = .ok (.invokevirtual 149, 3) := by decide +kernel
theorem dX2_valueInto_46 : decode cX2_valueInto 46 = .ok (.iload 5, 2) := by decide +kernel
theorem dX2_valueInto_48 : decode cX2_valueInto 48 = .ok (.i2l, 1) := by decide +kernel
theorem dX2_valueInto_49 : decode cX2_valueInto 49 = .ok (.invokevirtual 152, 3) := by decide +kernel
theorem dX2_valueInto_52 : decode cX2_valueInto 52 = .ok (.iinc 4 1, 3) := by decide +kernel
theorem dX2_valueInto_55 : decode cX2_valueInto 55 = .ok (.goto (-39), 3) := by decide +kernel
theorem dX2_valueInto_58 : decode cX2_valueInto 58 = .ok (.iinc 3 1, 3) := by decide +kernel
theorem dX2_valueInto_61 : decode cX2_valueInto 61 = .ok (.goto (-53), 3) := by decide +kernel
theorem dX2_valueInto_64 : decode cX2_valueInto 64 = .ok (.return_, 1) := by decide +kernel
theorem dX2_slopeInto_0 : decode cX2_slopeInto 0 = .ok (.aload_n 1, 1) := by decide +kernel
theorem dX2_slopeInto_1 : decode cX2_slopeInto 1 = .ok (.lconst 0, 1) := by decide +kernel
theorem dX2_slopeInto_2 : decode cX2_slopeInto 2 = .ok (.lconst 0, 1) := by decide +kernel
theorem dX2_slopeInto_3 : decode cX2_slopeInto 3 = .ok (.invokevirtual 85, 3) := by decide +kernel
theorem dX2_slopeInto_6 : decode cX2_slopeInto 6 = .ok (.iconst 0, 1) := by decide +kernel
theorem dX2_slopeInto_7 : decode cX2_slopeInto 7 = .ok (.istore 4, 2) := by decide +kernel
theorem dX2_slopeInto_9 : decode cX2_slopeInto 9 = .ok (.iload 4, 2) := by decide +kernel
theorem dX2_slopeInto_11 : decode cX2_slopeInto 11 = .ok (.iconst 4, 1) := by decide +kernel
theorem dX2_slopeInto_12 : decode cX2_slopeInto 12 = .ok (.if_icmp .ge 89, 3) := by decide +kernel
theorem dX2_slopeInto_15 : decode cX2_slopeInto 15 = .ok (.iconst 0, 1) := by decide +kernel
theorem dX2_slopeInto_16 : decode cX2_slopeInto 16 = .ok (.istore 5, 2) := by decide +kernel
theorem dX2_slopeInto_18 : decode cX2_slopeInto 18 = .ok (.iload 4, 2) := by decide +kernel
theorem dX2_slopeInto_20 : decode cX2_slopeInto 20 = .ok (.iload 5, 2) := by decide +kernel
theorem dX2_slopeInto_22 : decode cX2_slopeInto 22 = .ok (.iadd, 1) := by decide +kernel
theorem dX2_slopeInto_23 : decode cX2_slopeInto 23 = .ok (.iconst 4, 1) := by decide +kernel
theorem dX2_slopeInto_24 : decode cX2_slopeInto 24 = .ok (.if_icmp .ge 71, 3) := by decide +kernel
theorem dX2_slopeInto_27 : decode cX2_slopeInto 27 = .ok (.iload_n 3, 1) := by decide +kernel
theorem dX2_slopeInto_28 : decode cX2_slopeInto 28 = .ok (.ifCond .eq 21, 3) := by decide +kernel
theorem dX2_slopeInto_31 : decode cX2_slopeInto 31 = .ok (.aload_n 2, 1) := by decide +kernel
theorem dX2_slopeInto_32 : decode cX2_slopeInto 32 = .ok (.iload 4, 2) := by decide +kernel
theorem dX2_slopeInto_34 : decode cX2_slopeInto 34 = .ok (.iconst 1, 1) := by decide +kernel
theorem dX2_slopeInto_35 : decode cX2_slopeInto 35 = .ok (.iadd, 1) := by decide +kernel
theorem dX2_slopeInto_36 : decode cX2_slopeInto 36 = .ok (.iload 5, 2) := by decide +kernel
theorem dX2_slopeInto_38 : decode cX2_slopeInto 38 = .ok (.invokevirtual 144, 3) := by decide +kernel
theorem dX2_slopeInto_41 : decode cX2_slopeInto 41 = .ok (.iload 4, 2) := by decide +kernel
theorem dX2_slopeInto_43 : decode cX2_slopeInto 43 = .ok (.iconst 1, 1) := by decide +kernel
theorem dX2_slopeInto_44 : decode cX2_slopeInto 44 = .ok (.iadd, 1) := by decide +kernel
theorem dX2_slopeInto_45 : decode cX2_slopeInto 45 = .ok (.imul, 1) := by decide +kernel
theorem dX2_slopeInto_46 : decode cX2_slopeInto 46 = .ok (.goto 18, 3) := by decide +kernel
theorem dX2_slopeInto_49 : decode cX2_slopeInto 49 = .ok (.aload_n 2, 1) := by decide +kernel
theorem dX2_slopeInto_50 : decode cX2_slopeInto 50 = .ok (.iload 4, 2) := by decide +kernel
theorem dX2_slopeInto_52 : decode cX2_slopeInto 52 = .ok (.iload 5, 2) := by decide +kernel
theorem dX2_slopeInto_54 : decode cX2_slopeInto 54 = .ok (.iconst 1, 1) := by decide +kernel
theorem dX2_slopeInto_55 : decode cX2_slopeInto 55 = .ok (.iadd, 1) := by decide +kernel
theorem dX2_slopeInto_56 : decode cX2_slopeInto 56 = .ok (.invokevirtual 144, 3) := by decide +kernel
theorem dX2_slopeInto_59 : decode cX2_slopeInto 59 = .ok (.iload 5, 2) := by decide +kernel
theorem dX2_slopeInto_61 : decode cX2_slopeInto 61 = .ok (.iconst 1, 1) := by decide +kernel
theorem dX2_slopeInto_62 : decode cX2_slopeInto 62 = .ok (.iadd, 1) := by decide +kernel
theorem dX2_slopeInto_63 : decode cX2_slopeInto 63 = .ok (.imul, 1) := by decide +kernel
theorem dX2_slopeInto_64 : decode cX2_slopeInto 64 = .ok (.istore 6, 2) := by decide +kernel
theorem dX2_slopeInto_66 : decode cX2_slopeInto 66 = .ok (.iload 6, 2) := by decide +kernel
theorem dX2_slopeInto_68 : decode cX2_slopeInto 68 = .ok (.ifCond .eq 21, 3) := by decide +kernel
theorem dX2_slopeInto_71 : decode cX2_slopeInto 71 = .ok (.aload_n 1, 1) := by decide +kernel
theorem dX2_slopeInto_72 : decode cX2_slopeInto 72 = .ok (.aload_n 0, 1) := by decide +kernel
theorem dX2_slopeInto_73 : decode cX2_slopeInto 73 = .ok (.getfield 24, 3) := by decide +kernel
theorem dX2_slopeInto_76 : decode cX2_slopeInto 76 = .ok (.iload 4, 2) := by decide +kernel
theorem dX2_slopeInto_78 : decode cX2_slopeInto 78 = .ok (.iload 5, 2) := by decide +kernel
theorem dX2_slopeInto_80 : decode cX2_slopeInto 80 = .ok (.invokevirtual 149, 3) := by decide +kernel
theorem dX2_slopeInto_83 : decode cX2_slopeInto 83 = .ok (.iload 6, 2) := by decide +kernel
theorem dX2_slopeInto_85 : decode cX2_slopeInto 85 = .ok (.i2l, 1) := by decide +kernel
theorem dX2_slopeInto_86 : decode cX2_slopeInto 86 = .ok (.invokevirtual 152, 3) := by decide +kernel
theorem dX2_slopeInto_89 : decode cX2_slopeInto 89 = .ok (.iinc 5 1, 3) := by decide +kernel
theorem dX2_slopeInto_92 : decode cX2_slopeInto 92 = .ok (.goto (-74), 3) := by decide +kernel
theorem dX2_slopeInto_95 : decode cX2_slopeInto 95 = .ok (.iinc 4 1, 3) := by decide +kernel
theorem dX2_slopeInto_98 : decode cX2_slopeInto 98 = .ok (.goto (-89), 3) := by decide +kernel
theorem dX2_slopeInto_101 : decode cX2_slopeInto 101 = .ok (.return_, 1) := by decide +kernel
theorem dX2_crossInto_0 : decode cX2_crossInto 0 = .ok (.aload_n 0, 1) := by decide +kernel
theorem dX2_crossInto_1 : decode cX2_crossInto 1 = .ok (.getfield 61, 3) := by decide +kernel
theorem dX2_crossInto_4 : decode cX2_crossInto 4 = .ok (.aload_n 2, 1) := by decide +kernel
theorem dX2_crossInto_5 : decode cX2_crossInto 5 = .ok (.aload_n 3, 1) := by decide +kernel
theorem dX2_crossInto_6 : decode cX2_crossInto 6 = .ok (.invokevirtual 156, 3) := by decide +kernel
theorem dX2_crossInto_9 : decode cX2_crossInto 9 = .ok (.aload_n 0, 1) := by decide +kernel
theorem dX2_crossInto_10 : decode cX2_crossInto 10 = .ok (.getfield 64, 3) := by decide +kernel
theorem dX2_crossInto_13 : decode cX2_crossInto 13 = .ok (.aload 4, 2) := by decide +kernel
theorem dX2_crossInto_15 : decode cX2_crossInto 15 = .ok (.aload 5, 2) := by decide +kernel
theorem dX2_crossInto_17 : decode cX2_crossInto 17 = .ok (.invokevirtual 156, 3) := by decide +kernel
theorem dX2_crossInto_20 : decode cX2_crossInto 20 = .ok (.aload_n 1, 1) := by decide +kernel
theorem dX2_crossInto_21 : decode cX2_crossInto 21 = .ok (.aload_n 0, 1) := by decide +kernel
theorem dX2_crossInto_22 : decode cX2_crossInto 22 = .ok (.getfield 61, 3) := by decide +kernel
theorem dX2_crossInto_25 : decode cX2_crossInto 25 = .ok (.aload_n 0, 1) := by decide +kernel
theorem dX2_crossInto_26 : decode cX2_crossInto 26 = .ok (.getfield 64, 3) := by decide +kernel
theorem dX2_crossInto_29 : decode cX2_crossInto 29 = .ok (.invokevirtual 141, 3) := by decide +kernel
theorem dX2_crossInto_32 : decode cX2_crossInto 32 = .ok (.return_, 1) := by decide +kernel
theorem dX3_init_0 : decode cX3_init 0 = .ok (.aload_n 0, 1) := by decide +kernel
theorem dX3_init_1 : decode cX3_init 1 = .ok (.invokespecial 3, 3) := by decide +kernel
theorem dX3_init_4 : decode cX3_init 4 = .ok (.aload_n 0, 1) := by decide +kernel
theorem dX3_init_5 : decode cX3_init 5 = .ok (.bipush 25, 2) := by decide +kernel
theorem dX3_init_7 : decode cX3_init 7 = .ok (.newarray .int, 2) := by decide +kernel
theorem dX3_init_9 : decode cX3_init 9 = .ok (.putfield 9, 3) := by decide +kernel
theorem dX3_init_12 : decode cX3_init 12 = .ok (.return_, 1) := by decide +kernel
theorem dX3_at_0 : decode cX3_at 0 = .ok (.iload_n 1, 1) := by decide +kernel
theorem dX3_at_1 : decode cX3_at 1 = .ok (.iload_n 2, 1) := by decide +kernel
theorem dX3_at_2 : decode cX3_at 2 = .ok (.invokestatic 15, 3) := by decide +kernel
theorem dX3_at_5 : decode cX3_at 5 = .ok (.ifCond .eq 16, 3) := by decide +kernel
theorem dX3_at_8 : decode cX3_at 8 = .ok (.aload_n 0, 1) := by decide +kernel
theorem dX3_at_9 : decode cX3_at 9 = .ok (.getfield 9, 3) := by decide +kernel
theorem dX3_at_12 : decode cX3_at 12 = .ok (.iconst 5, 1) := by decide +kernel
theorem dX3_at_13 : decode cX3_at 13 = .ok (.iload_n 1, 1) := by decide +kernel
theorem dX3_at_14 : decode cX3_at 14 = .ok (.imul, 1) := by decide +kernel
theorem dX3_at_15 : decode cX3_at 15 = .ok (.iload_n 2, 1) := by decide +kernel
theorem dX3_at_16 : decode cX3_at 16 = .ok (.iadd, 1) := by decide +kernel
theorem dX3_at_17 : decode cX3_at 17 = .ok (.iaload, 1) := by decide +kernel
theorem dX3_at_18 : decode cX3_at 18 = .ok (.goto 4, 3) := by decide +kernel
theorem dX3_at_21 : decode cX3_at 21 = .ok (.iconst 0, 1) := by decide +kernel
theorem dX3_at_22 : decode cX3_at 22 = .ok (.ireturn, 1) := by decide +kernel
theorem dX3_change_0 : decode cX3_change 0 = .ok (.iload_n 1, 1) := by decide +kernel
theorem dX3_change_1 : decode cX3_change 1 = .ok (.iload_n 2, 1) := by decide +kernel
theorem dX3_change_2 : decode cX3_change 2 = .ok (.invokestatic 15, 3) := by decide +kernel
theorem dX3_change_5 : decode cX3_change 5 = .ok (.ifCond .eq 14, 3) := by decide +kernel
theorem dX3_change_8 : decode cX3_change 8 = .ok (.aload_n 0, 1) := by decide +kernel
theorem dX3_change_9 : decode cX3_change 9 = .ok (.getfield 9, 3) := by decide +kernel
theorem dX3_change_12 : decode cX3_change 12 = .ok (.iconst 5, 1) := by decide +kernel
theorem dX3_change_13 : decode cX3_change 13 = .ok (.iload_n 1, 1) := by decide +kernel
theorem dX3_change_14 : decode cX3_change 14 = .ok (.imul, 1) := by decide +kernel
theorem dX3_change_15 : decode cX3_change 15 = .ok (.iload_n 2, 1) := by decide +kernel
theorem dX3_change_16 : decode cX3_change 16 = .ok (.iadd, 1) := by decide +kernel
theorem dX3_change_17 : decode cX3_change 17 = .ok (.iload_n 3, 1) := by decide +kernel
theorem dX3_change_18 : decode cX3_change 18 = .ok (.iastore, 1) := by decide +kernel
theorem dX3_change_19 : decode cX3_change 19 = .ok (.return_, 1) := by decide +kernel
theorem dX3_clear_0 : decode cX3_clear 0 = .ok (.iconst 0, 1) := by decide +kernel
theorem dX3_clear_1 : decode cX3_clear 1 = .ok (.istore_n 1, 1) := by decide +kernel
theorem dX3_clear_2 : decode cX3_clear 2 = .ok (.iload_n 1, 1) := by decide +kernel
theorem dX3_clear_3 : decode cX3_clear 3 = .ok (.aload_n 0, 1) := by decide +kernel
theorem dX3_clear_4 : decode cX3_clear 4 = .ok (.getfield 9, 3) := by decide +kernel
theorem dX3_clear_7 : decode cX3_clear 7 = .ok (.arraylength, 1) := by decide +kernel
theorem dX3_clear_8 : decode cX3_clear 8 = .ok (.if_icmp .ge 16, 3) := by decide +kernel
theorem dX3_clear_11 : decode cX3_clear 11 = .ok (.aload_n 0, 1) := by decide +kernel
theorem dX3_clear_12 : decode cX3_clear 12 = .ok (.getfield 9, 3) := by decide +kernel
theorem dX3_clear_15 : decode cX3_clear 15 = .ok (.iload_n 1, 1) := by decide +kernel
theorem dX3_clear_16 : decode cX3_clear 16 = .ok (.iconst 0, 1) := by decide +kernel
theorem dX3_clear_17 : decode cX3_clear 17 = .ok (.iastore, 1) := by decide +kernel
theorem dX3_clear_18 : decode cX3_clear 18 = .ok (.iinc 1 1, 3) := by decide +kernel
theorem dX3_clear_21 : decode cX3_clear 21 = .ok (.goto (-19), 3) := by decide +kernel
theorem dX3_clear_24 : decode cX3_clear 24 = .ok (.return_, 1) := by decide +kernel
theorem dX3_copyFrom_0 : decode cX3_copyFrom 0 = .ok (.iconst 0, 1) := by decide +kernel
theorem dX3_copyFrom_1 : decode cX3_copyFrom 1 = .ok (.istore_n 2, 1) := by decide +kernel
theorem dX3_copyFrom_2 : decode cX3_copyFrom 2 = .ok (.iload_n 2, 1) := by decide +kernel
theorem dX3_copyFrom_3 : decode cX3_copyFrom 3 = .ok (.aload_n 0, 1) := by decide +kernel
theorem dX3_copyFrom_4 : decode cX3_copyFrom 4 = .ok (.getfield 9, 3) := by decide +kernel
theorem dX3_copyFrom_7 : decode cX3_copyFrom 7 = .ok (.arraylength, 1) := by decide +kernel
theorem dX3_copyFrom_8 : decode cX3_copyFrom 8 = .ok (.if_icmp .ge 30, 3) := by decide +kernel
theorem dX3_copyFrom_11 : decode cX3_copyFrom 11 = .ok (.iload_n 2, 1) := by decide +kernel
theorem dX3_copyFrom_12 : decode cX3_copyFrom 12 = .ok (.aload_n 1, 1) := by decide +kernel
theorem dX3_copyFrom_13 : decode cX3_copyFrom 13 = .ok (.getfield 9, 3) := by decide +kernel
theorem dX3_copyFrom_16 : decode cX3_copyFrom 16 = .ok (.arraylength, 1) := by decide +kernel
theorem dX3_copyFrom_17 : decode cX3_copyFrom 17 = .ok (.if_icmp .ge 21, 3) := by decide +kernel
theorem dX3_copyFrom_20 : decode cX3_copyFrom 20 = .ok (.aload_n 0, 1) := by decide +kernel
theorem dX3_copyFrom_21 : decode cX3_copyFrom 21 = .ok (.getfield 9, 3) := by decide +kernel
theorem dX3_copyFrom_24 : decode cX3_copyFrom 24 = .ok (.iload_n 2, 1) := by decide +kernel
theorem dX3_copyFrom_25 : decode cX3_copyFrom 25 = .ok (.aload_n 1, 1) := by decide +kernel
theorem dX3_copyFrom_26 : decode cX3_copyFrom 26 = .ok (.getfield 9, 3) := by decide +kernel
theorem dX3_copyFrom_29 : decode cX3_copyFrom 29 = .ok (.iload_n 2, 1) := by decide +kernel
theorem dX3_copyFrom_30 : decode cX3_copyFrom 30 = .ok (.iaload, 1) := by decide +kernel
theorem dX3_copyFrom_31 : decode cX3_copyFrom 31 = .ok (.iastore, 1) := by decide +kernel
theorem dX3_copyFrom_32 : decode cX3_copyFrom 32 = .ok (.iinc 2 1, 3) := by decide +kernel
theorem dX3_copyFrom_35 : decode cX3_copyFrom 35 = .ok (.goto (-33), 3) := by decide +kernel
theorem dX3_copyFrom_38 : decode cX3_copyFrom 38 = .ok (.return_, 1) := by decide +kernel
theorem dX3_termCount_0 : decode cX3_termCount 0 = .ok (.iconst 0, 1) := by decide +kernel
theorem dX3_termCount_1 : decode cX3_termCount 1 = .ok (.istore_n 1, 1) := by decide +kernel
theorem dX3_termCount_2 : decode cX3_termCount 2 = .ok (.iconst 0, 1) := by decide +kernel
theorem dX3_termCount_3 : decode cX3_termCount 3 = .ok (.istore_n 2, 1) := by decide +kernel
theorem dX3_termCount_4 : decode cX3_termCount 4 = .ok (.iload_n 2, 1) := by decide +kernel
theorem dX3_termCount_5 : decode cX3_termCount 5 = .ok (.aload_n 0, 1) := by decide +kernel
theorem dX3_termCount_6 : decode cX3_termCount 6 = .ok (.getfield 9, 3) := by decide +kernel
theorem dX3_termCount_9 : decode cX3_termCount 9 = .ok (.arraylength, 1) := by decide +kernel
theorem dX3_termCount_10 : decode cX3_termCount 10 = .ok (.if_icmp .ge 26, 3) := by decide +kernel
theorem dX3_termCount_13 : decode cX3_termCount 13 = .ok (.iload_n 1, 1) := by decide +kernel
theorem dX3_termCount_14 : decode cX3_termCount 14 = .ok (.aload_n 0, 1) := by decide +kernel
theorem dX3_termCount_15 : decode cX3_termCount 15 = .ok (.getfield 9, 3) := by decide +kernel
theorem dX3_termCount_18 : decode cX3_termCount 18 = .ok (.iload_n 2, 1) := by decide +kernel
theorem dX3_termCount_19 : decode cX3_termCount 19 = .ok (.iaload, 1) := by decide +kernel
theorem dX3_termCount_20 : decode cX3_termCount 20 = .ok (.ifCond .eq 7, 3) := by decide +kernel
theorem dX3_termCount_23 : decode cX3_termCount 23 = .ok (.iconst 1, 1) := by decide +kernel
theorem dX3_termCount_24 : decode cX3_termCount 24 = .ok (.goto 4, 3) := by decide +kernel
theorem dX3_termCount_27 : decode cX3_termCount 27 = .ok (.iconst 0, 1) := by decide +kernel
theorem dX3_termCount_28 : decode cX3_termCount 28 = .ok (.iadd, 1) := by decide +kernel
theorem dX3_termCount_29 : decode cX3_termCount 29 = .ok (.istore_n 1, 1) := by decide +kernel
theorem dX3_termCount_30 : decode cX3_termCount 30 = .ok (.iinc 2 1, 3) := by decide +kernel
theorem dX3_termCount_33 : decode cX3_termCount 33 = .ok (.goto (-29), 3) := by decide +kernel
theorem dX3_termCount_36 : decode cX3_termCount 36 = .ok (.iload_n 1, 1) := by decide +kernel
theorem dX3_termCount_37 : decode cX3_termCount 37 = .ok (.ireturn, 1) := by decide +kernel
theorem dX3_signAt_0 : decode cX3_signAt 0 = .ok (.lconst 0, 1) := by decide +kernel
theorem dX3_signAt_1 : decode cX3_signAt 1 = .ok (.lstore_n 3, 1) := by decide +kernel
theorem dX3_signAt_2 : decode cX3_signAt 2 = .ok (.iconst 0, 1) := by decide +kernel
theorem dX3_signAt_3 : decode cX3_signAt 3 = .ok (.istore 5, 2) := by decide +kernel
theorem dX3_signAt_5 : decode cX3_signAt 5 = .ok (.iload 5, 2) := by decide +kernel
theorem dX3_signAt_7 : decode cX3_signAt 7 = .ok (.iconst 4, 1) := by decide +kernel
theorem dX3_signAt_8 : decode cX3_signAt 8 = .ok (.if_icmp .gt 69, 3) := by decide +kernel
theorem dX3_signAt_11 : decode cX3_signAt 11 = .ok (.iconst 0, 1) := by decide +kernel
theorem dX3_signAt_12 : decode cX3_signAt 12 = .ok (.istore 6, 2) := by decide +kernel
theorem dX3_signAt_14 : decode cX3_signAt 14 = .ok (.iload 5, 2) := by decide +kernel
theorem dX3_signAt_16 : decode cX3_signAt 16 = .ok (.iload 6, 2) := by decide +kernel
theorem dX3_signAt_18 : decode cX3_signAt 18 = .ok (.iadd, 1) := by decide +kernel
theorem dX3_signAt_19 : decode cX3_signAt 19 = .ok (.iconst 4, 1) := by decide +kernel
theorem dX3_signAt_20 : decode cX3_signAt 20 = .ok (.if_icmp .gt 51, 3) := by decide +kernel
theorem dX3_signAt_23 : decode cX3_signAt 23 = .ok (.lload_n 3, 1) := by decide +kernel
theorem dX3_signAt_24 : decode cX3_signAt 24 = .ok (.aload_n 0, 1) := by decide +kernel
theorem dX3_signAt_25 : decode cX3_signAt 25 = .ok (.iload 5, 2) := by decide +kernel
theorem dX3_signAt_27 : decode cX3_signAt 27 = .ok (.iload 6, 2) := by decide +kernel
theorem dX3_signAt_29 : decode cX3_signAt 29 = .ok (.invokevirtual 19, 3) := by decide +kernel
theorem dX3_signAt_32 : decode cX3_signAt 32 = .ok (.i2l, 1) := by decide +kernel
theorem dX3_signAt_33 : decode cX3_signAt 33 = .ok (.iload_n 1, 1) := by decide +kernel
theorem dX3_signAt_34 : decode cX3_signAt 34 = .ok (.i2l, 1) := by decide +kernel
theorem dX3_signAt_35 : decode cX3_signAt 35 = .ok (.iload 5, 2) := by decide +kernel
theorem dX3_signAt_37 : decode cX3_signAt 37 = .ok (.invokestatic 23, 3) := by decide +kernel
theorem dX3_signAt_40 : decode cX3_signAt 40 = .ok (.lmul, 1) := by decide +kernel
theorem dX3_signAt_41 : decode cX3_signAt 41 = .ok (.iload_n 2, 1) := by decide +kernel
theorem dX3_signAt_42 : decode cX3_signAt 42 = .ok (.i2l, 1) := by decide +kernel
theorem dX3_signAt_43 : decode cX3_signAt 43 = .ok (.iload 6, 2) := by decide +kernel
theorem dX3_signAt_45 : decode cX3_signAt 45 = .ok (.invokestatic 23, 3) := by decide +kernel
theorem dX3_signAt_48 : decode cX3_signAt 48 = .ok (.lmul, 1) := by decide +kernel
theorem dX3_signAt_49 : decode cX3_signAt 49 = .ok (.ldc2_w 27, 3) := by decide +kernel
theorem dX3_signAt_52 : decode cX3_signAt 52 = .ok (.iconst 4, 1) := by decide +kernel
theorem dX3_signAt_53 : decode cX3_signAt 53 = .ok (.iload 5, 2) := by decide +kernel
theorem dX3_signAt_55 : decode cX3_signAt 55 = .ok (.isub, 1) := by decide +kernel
theorem dX3_signAt_56 : decode cX3_signAt 56 = .ok (.iload 6, 2) := by decide +kernel
theorem dX3_signAt_58 : decode cX3_signAt 58 = .ok (.isub, 1) := by decide +kernel
theorem dX3_signAt_59 : decode cX3_signAt 59 = .ok (.invokestatic 23, 3) := by decide +kernel
theorem dX3_signAt_62 : decode cX3_signAt 62 = .ok (.lmul, 1) := by decide +kernel
theorem dX3_signAt_63 : decode cX3_signAt 63 = .ok (.ladd, 1) := by decide +kernel
theorem dX3_signAt_64 : decode cX3_signAt 64 = .ok (.lstore_n 3, 1) := by decide +kernel
theorem dX3_signAt_65 : decode cX3_signAt 65 = .ok (.iinc 6 1, 3) := by decide +kernel
theorem dX3_signAt_68 : decode cX3_signAt 68 = .ok (.goto (-54), 3) := by decide +kernel
theorem dX3_signAt_71 : decode cX3_signAt 71 = .ok (.iinc 5 1, 3) := by decide +kernel
theorem dX3_signAt_74 : decode cX3_signAt 74 = .ok (.goto (-69), 3) := by decide +kernel
theorem dX3_signAt_77 : decode cX3_signAt 77 = .ok (.lload_n 3, 1) := by decide +kernel
theorem dX3_signAt_78 : decode cX3_signAt 78 = .ok (.lconst 0, 1) := by decide +kernel
theorem dX3_signAt_79 : decode cX3_signAt 79 = .ok (.lcmp, 1) := by decide +kernel
theorem dX3_signAt_80 : decode cX3_signAt 80 = .ok (.ifCond .le 7, 3) := by decide +kernel
theorem dX3_signAt_83 : decode cX3_signAt 83 = .ok (.iconst 1, 1) := by decide +kernel
