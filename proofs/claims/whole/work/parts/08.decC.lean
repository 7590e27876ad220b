theorem dX7_init_0 : decode cX7_init 0 = .ok (.aload_n 0, 1) := by decide +kernel
theorem dX7_init_1 : decode cX7_init 1 = .ok (.invokespecial 1, 3) := by decide +kernel
theorem dX7_init_4 : decode cX7_init 4 = .ok (.aload_n 0, 1) := by decide +kernel
theorem dX7_init_5 : decode cX7_init 5 = .ok (.bipush 7, 2) := by decide +kernel
theorem dX7_init_7 : decode cX7_init 7 = .ok (.newarray .int, 2) := by decide +kernel
theorem dX7_init_9 : decode cX7_init 9 = .ok (.putfield 7, 3) := by decide +kernel
theorem dX7_init_12 : decode cX7_init 12 = .ok (.aload_n 0, 1) := by decide +kernel
theorem dX7_init_13 : decode cX7_init 13 = .ok (.bipush 8, 2) := by decide +kernel
theorem dX7_init_15 : decode cX7_init 15 = .ok (.newarray .int, 2) := by decide +kernel
theorem dX7_init_17 : decode cX7_init 17 = .ok (.putfield 13, 3) := by decide +kernel
theorem dX7_init_20 : decode cX7_init 20 = .ok (.aload_n 0, 1) := by decide +kernel
theorem dX7_init_21 : decode cX7_init 21 = .ok (.bipush 8, 2) := by decide +kernel
theorem dX7_init_23 : decode cX7_init 23 = .ok (.newarray .int, 2) := by decide +kernel
theorem dX7_init_25 : decode cX7_init 25 = .ok (.putfield 16, 3) := by decide +kernel
theorem dX7_init_28 : decode cX7_init 28 = .ok (.aload_n 0, 1) := by decide +kernel
theorem dX7_init_29 : decode cX7_init 29 = .ok (.bipush 8, 2) := by decide +kernel
theorem dX7_init_31 : decode cX7_init 31 = .ok (.newarray .int, 2) := by decide +kernel
theorem dX7_init_33 : decode cX7_init 33 = .ok (.putfield 19, 3) := by decide +kernel
theorem dX7_init_36 : decode cX7_init 36 = .ok (.aload_n 0, 1) := by decide +kernel
theorem dX7_init_37 : decode cX7_init 37 = .ok (.bipush 8, 2) := by decide +kernel
theorem dX7_init_39 : decode cX7_init 39 = .ok (.newarray .int, 2) := by decide +kernel
theorem dX7_init_41 : decode cX7_init 41 = .ok (.putfield 22, 3) := by decide +kernel
theorem dX7_init_44 : decode cX7_init 44 = .ok (.aload_n 0, 1) := by decide +kernel
theorem dX7_init_45 : decode cX7_init 45 = .ok (.bipush 8, 2) := by decide +kernel
theorem dX7_init_47 : decode cX7_init 47 = .ok (.newarray .int, 2) := by decide +kernel
theorem dX7_init_49 : decode cX7_init 49 = .ok (.putfield 25, 3) := by decide +kernel
theorem dX7_init_52 : decode cX7_init 52 = .ok (.aload_n 0, 1) := by decide +kernel
theorem dX7_init_53 : decode cX7_init 53 = .ok (.bipush (-9), 2) := by decide +kernel
theorem dX7_init_55 : decode cX7_init 55 = .ok (.putfield 28, 3) := by decide +kernel
theorem dX7_init_58 : decode cX7_init 58 = .ok (.aload_n 0, 1) := by decide +kernel
theorem dX7_init_59 : decode cX7_init 59 = .ok (.bipush 96, 2) := by decide +kernel
theorem dX7_init_61 : decode cX7_init 61 = .ok (.newarray .int, 2) := by decide +kernel
theorem dX7_init_63 : decode cX7_init 63 = .ok (.putfield 32, 3) := by decide +kernel
theorem dX7_init_66 : decode cX7_init 66 = .ok (.aload_n 0, 1) := by decide +kernel
theorem dX7_init_67 : decode cX7_init 67 = .ok (.bipush 48, 2) := by decide +kernel
theorem dX7_init_69 : decode cX7_init 69 = .ok (.newarray .int, 2) := by decide +kernel
theorem dX7_init_71 : decode cX7_init 71 = .ok (.putfield 35, 3) := by decide +kernel
theorem dX7_init_74 : decode cX7_init 74 = .ok (.aload_n 0, 1) := by decide +kernel
theorem dX7_init_75 : decode cX7_init 75 = .ok (.bipush 48, 2) := by decide +kernel
theorem dX7_init_77 : decode cX7_init 77 = .ok (.newarray .int, 2) := by decide +kernel
theorem dX7_init_79 : decode cX7_init 79 = .ok (.putfield 38, 3) := by decide +kernel
theorem dX7_init_82 : decode cX7_init 82 = .ok (.aload_n 0, 1) := by decide +kernel
theorem dX7_init_83 : decode cX7_init 83 = .ok (.sipush 144, 3) := by decide +kernel
theorem dX7_init_86 : decode cX7_init 86 = .ok (.newarray .int, 2) := by decide +kernel
theorem dX7_init_88 : decode cX7_init 88 = .ok (.putfield 41, 3) := by decide +kernel
theorem dX7_init_91 : decode cX7_init 91 = .ok (.aload_n 0, 1) := by decide +kernel
theorem dX7_init_92 : decode cX7_init 92 = .ok (.bipush 126, 2) := by decide +kernel
theorem dX7_init_94 : decode cX7_init 94 = .ok (.newarray .int, 2) := by decide +kernel
theorem dX7_init_96 : decode cX7_init 96 = .ok (.putfield 44, 3) := by decide +kernel
theorem dX7_init_99 : decode cX7_init 99 = .ok (.aload_n 0, 1) := by decide +kernel
theorem dX7_init_100 : decode cX7_init 100 = .ok (.bipush 16, 2) := by decide +kernel
theorem dX7_init_102 : decode cX7_init 102 = .ok (.newarray .int, 2) := by decide +kernel
theorem dX7_init_104 : decode cX7_init 104 = .ok (.putfield 47, 3) := by decide +kernel
theorem dX7_init_107 : decode cX7_init 107 = .ok (.aload_n 0, 1) := by decide +kernel
theorem dX7_init_108 : decode cX7_init 108 = .ok (.bipush 8, 2) := by decide +kernel
theorem dX7_init_110 : decode cX7_init 110 = .ok (.newarray .int, 2) := by decide +kernel
theorem dX7_init_112 : decode cX7_init 112 = .ok (.putfield 50, 3) := by decide +kernel
theorem dX7_init_115 : decode cX7_init 115 = .ok (.aload_n 0, 1) := by decide +kernel
theorem dX7_init_116 : decode cX7_init 116 = .ok (.bipush 8, 2) := by decide +kernel
theorem dX7_init_118 : decode cX7_init 118 = .ok (.newarray .int, 2) := by decide +kernel
theorem dX7_init_120 : decode cX7_init 120 = .ok (.putfield 53, 3) := by decide +kernel
theorem dX7_init_123 : decode cX7_init 123 = .ok (.aload_n 0, 1) := by decide +kernel
theorem dX7_init_124 : decode cX7_init 124 = .ok (.sipush 256, 3) := by decide +kernel
theorem dX7_init_127 : decode cX7_init 127 = .ok (.newarray .int, 2) := by decide +kernel
theorem dX7_init_129 : decode cX7_init 129 = .ok (.putfield 56, 3) := by decide +kernel
theorem dX7_init_132 : decode cX7_init 132 = .ok (.aload_n 0, 1) := by decide +kernel
theorem dX7_init_133 : decode cX7_init 133 = .ok (.bipush 8, 2) := by decide +kernel
theorem dX7_init_135 : decode cX7_init 135 = .ok (.newarray .int, 2) := by decide +kernel
theorem dX7_init_137 : decode cX7_init 137 = .ok (.putfield 59, 3) := by decide +kernel
theorem dX7_init_140 : decode cX7_init 140 = .ok (.aload_n 0, 1) := by decide +kernel
theorem dX7_init_141 : decode cX7_init 141 = .ok (.bipush 16, 2) := by decide +kernel
theorem dX7_init_143 : decode cX7_init 143 = .ok (.newarray .int, 2) := by decide +kernel
theorem dX7_init_145 : decode cX7_init 145 = .ok (.putfield 62, 3) := by decide +kernel
theorem dX7_init_148 : decode cX7_init 148 = .ok (.aload_n 0, 1) := by decide +kernel
theorem dX7_init_149 : decode cX7_init 149 = .ok (.iconst 0, 1) := by decide +kernel
theorem dX7_init_150 : decode cX7_init 150 = .ok (.putfield 65, 3) := by decide +kernel
theorem dX7_init_153 : decode cX7_init 153 = .ok (.return_, 1) := by decide +kernel
theorem dX7_no_0 : decode cX7_no 0 = .ok (.aload_n 0, 1) := by decide +kernel
theorem dX7_no_1 : decode cX7_no 1 = .ok (.getfield 7, 3) := by decide +kernel
theorem dX7_no_4 : decode cX7_no 4 = .ok (.iload_n 1, 1) := by decide +kernel
theorem dX7_no_5 : decode cX7_no 5 = .ok (.ineg, 1) := by decide +kernel
theorem dX7_no_6 : decode cX7_no 6 = .ok (.dup2, 1) := by decide +kernel
theorem dX7_no_7 : decode cX7_no 7 = .ok (.iaload, 1) := by decide +kernel
theorem dX7_no_8 : decode cX7_no 8 = .ok (.iconst 1, 1) := by decide +kernel
theorem dX7_no_9 : decode cX7_no 9 = .ok (.iadd, 1) := by decide +kernel
theorem dX7_no_10 : decode cX7_no 10 = .ok (.iastore, 1) := by decide +kernel
theorem dX7_no_11 : decode cX7_no 11 = .ok (.iload_n 1, 1) := by decide +kernel
theorem dX7_no_12 : decode cX7_no 12 = .ok (.ireturn, 1) := by decide +kernel
theorem dX7_lower_0 : decode cX7_lower 0 = .ok (.aload_n 0, 1) := by decide +kernel
theorem dX7_lower_1 : decode cX7_lower 1 = .ok (.getfield 7, 3) := by decide +kernel
theorem dX7_lower_4 : decode cX7_lower 4 = .ok (.iload_n 1, 1) := by decide +kernel
theorem dX7_lower_5 : decode cX7_lower 5 = .ok (.ineg, 1) := by decide +kernel
theorem dX7_lower_6 : decode cX7_lower 6 = .ok (.dup2, 1) := by decide +kernel
theorem dX7_lower_7 : decode cX7_lower 7 = .ok (.iaload, 1) := by decide +kernel
theorem dX7_lower_8 : decode cX7_lower 8 = .ok (.iconst 1, 1) := by decide +kernel
theorem dX7_lower_9 : decode cX7_lower 9 = .ok (.iadd, 1) := by decide +kernel
theorem dX7_lower_10 : decode cX7_lower 10 = .ok (.iastore, 1) := by decide +kernel
theorem dX7_lower_11 : decode cX7_lower 11 = .ok (.ldc 68, 2) := by decide +kernel
theorem dX7_lower_13 : decode cX7_lower 13 = .ok (.iload_n 1, 1) := by decide +kernel
theorem dX7_lower_14 : decode cX7_lower 14 = .ok (.isub, 1) := by decide +kernel
theorem dX7_lower_15 : decode cX7_lower 15 = .ok (.ireturn, 1) := by decide +kernel
theorem dX7_lowestOf_0 : decode cX7_lowestOf 0 = .ok (.aload_n 0, 1) := by decide +kernel
theorem dX7_lowestOf_1 : decode cX7_lowestOf 1 = .ok (.getfield 7, 3) := by decide +kernel
theorem dX7_lowestOf_4 : decode cX7_lowestOf 4 = .ok (.iload_n 1, 1) := by decide +kernel
theorem dX7_lowestOf_5 : decode cX7_lowestOf 5 = .ok (.ineg, 1) := by decide +kernel
theorem dX7_lowestOf_6 : decode cX7_lowestOf 6 = .ok (.dup2, 1) := by decide +kernel
theorem dX7_lowestOf_7 : decode cX7_lowestOf 7 = .ok (.iaload, 1) := by decide +kernel
theorem dX7_lowestOf_8 : decode cX7_lowestOf 8 = .ok (.iconst 1, 1) := by decide +kernel
theorem dX7_lowestOf_9 : decode cX7_lowestOf 9 = .ok (.iadd, 1) := by decide +kernel
theorem dX7_lowestOf_10 : decode cX7_lowestOf 10 = .ok (.iastore, 1) := by decide +kernel
theorem dX7_lowestOf_11 : decode cX7_lowestOf 11 = .ok (.ldc2_w 69, 3) := by decide +kernel
theorem dX7_lowestOf_14 : decode cX7_lowestOf 14 = .ok (.iload_n 1, 1) := by decide +kernel
theorem dX7_lowestOf_15 : decode cX7_lowestOf 15 = .ok (.i2l, 1) := by decide +kernel
theorem dX7_lowestOf_16 : decode cX7_lowestOf 16 = .ok (.lsub, 1) := by decide +kernel
theorem dX7_lowestOf_17 : decode cX7_lowestOf 17 = .ok (.lreturn, 1) := by decide +kernel
theorem dX7_isIn_0 : decode cX7_isIn 0 = .ok (.iload_n 0, 1) := by decide +kernel
theorem dX7_isIn_1 : decode cX7_isIn 1 = .ok (.iload_n 1, 1) := by decide +kernel
theorem dX7_isIn_2 : decode cX7_isIn 2 = .ok (.if_icmp .lt 12, 3) := by decide +kernel
theorem dX7_isIn_5 : decode cX7_isIn 5 = .ok (.iload_n 0, 1) := by decide +kernel
theorem dX7_isIn_6 : decode cX7_isIn 6 = .ok (.iload_n 2, 1) := by decide +kernel
theorem dX7_isIn_7 : decode cX7_isIn 7 = .ok (.if_icmp .gt 7, 3) := by decide +kernel
theorem dX7_isIn_10 : decode cX7_isIn 10 = .ok (.iconst 1, 1) := by decide +kernel
theorem dX7_isIn_11 : decode cX7_isIn 11 = .ok (.goto 4, 3) := by decide +kernel
theorem dX7_isIn_14 : decode cX7_isIn 14 = .ok (.iconst 0, 1) := by decide +kernel
theorem dX7_isIn_15 : decode cX7_isIn 15 = .ok (.ireturn, 1) := by decide +kernel
theorem dX7_bound_0 : decode cX7_bound 0 = .ok (.iload_n 0, 1) := by decide +kernel
theorem dX7_bound_1 : decode cX7_bound 1 = .ok (.iload_n 1, 1) := by decide +kernel
theorem dX7_bound_2 : decode cX7_bound 2 = .ok (.if_icmp .ge 8, 3) := by decide +kernel
theorem dX7_bound_5 : decode cX7_bound 5 = .ok (.bipush (-4), 2) := by decide +kernel
theorem dX7_bound_7 : decode cX7_bound 7 = .ok (.goto 14, 3) := by decide +kernel
theorem dX7_bound_10 : decode cX7_bound 10 = .ok (.iload_n 0, 1) := by decide +kernel
theorem dX7_bound_11 : decode cX7_bound 11 = .ok (.iload_n 2, 1) := by decide +kernel
theorem dX7_bound_12 : decode cX7_bound 12 = .ok (.if_icmp .le 8, 3) := by decide +kernel
theorem dX7_bound_15 : decode cX7_bound 15 = .ok (.bipush (-6), 2) := by decide +kernel
theorem dX7_bound_17 : decode cX7_bound 17 = .ok (.goto 4, 3) := by decide +kernel
theorem dX7_bound_20 : decode cX7_bound 20 = .ok (.iconst 0, 1) := by decide +kernel
theorem dX7_bound_21 : decode cX7_bound 21 = .ok (.ireturn, 1) := by decide +kernel
theorem dX7_has_0 : decode cX7_has 0 = .ok (.iload_n 0, 1) := by decide +kernel
theorem dX7_has_1 : decode cX7_has 1 = .ok (.iload_n 1, 1) := by decide +kernel
theorem dX7_has_2 : decode cX7_has 2 = .ok (.ishr, 1) := by decide +kernel
theorem dX7_has_3 : decode cX7_has 3 = .ok (.iconst 1, 1) := by decide +kernel
theorem dX7_has_4 : decode cX7_has 4 = .ok (.iand, 1) := by decide +kernel
theorem dX7_has_5 : decode cX7_has 5 = .ok (.iconst 1, 1) := by decide +kernel
theorem dX7_has_6 : decode cX7_has 6 = .ok (.if_icmp .ne 7, 3) := by decide +kernel
theorem dX7_has_9 : decode cX7_has 9 = .ok (.iconst 1, 1) := by decide +kernel
theorem dX7_has_10 : decode cX7_has 10 = .ok (.goto 4, 3) := by decide +kernel
theorem dX7_has_13 : decode cX7_has 13 = .ok (.iconst 0, 1) := by decide +kernel
theorem dX7_has_14 : decode cX7_has 14 = .ok (.ireturn, 1) := by decide +kernel
theorem dX7_bits_0 : decode cX7_bits 0 = .ok (.iconst 0, 1) := by decide +kernel
theorem dX7_bits_1 : decode cX7_bits 1 = .ok (.istore_n 1, 1) := by decide +kernel
theorem dX7_bits_2 : decode cX7_bits 2 = .ok (.iconst 0, 1) := by decide +kernel
theorem dX7_bits_3 : decode cX7_bits 3 = .ok (.istore_n 2, 1) := by decide +kernel
theorem dX7_bits_4 : decode cX7_bits 4 = .ok (.iload_n 2, 1) := by decide +kernel
theorem dX7_bits_5 : decode cX7_bits 5 = .ok (.bipush 31, 2) := by decide +kernel
theorem dX7_bits_7 : decode cX7_bits 7 = .ok (.if_icmp .ge 17, 3) := by decide +kernel
theorem dX7_bits_10 : decode cX7_bits 10 = .ok (.iload_n 1, 1) := by decide +kernel
theorem dX7_bits_11 : decode cX7_bits 11 = .ok (.iload_n 0, 1) := by decide +kernel
theorem dX7_bits_12 : decode cX7_bits 12 = .ok (.iload_n 2, 1) := by decide +kernel
theorem dX7_bits_13 : decode cX7_bits 13 = .ok (.ishr, 1) := by decide +kernel
theorem dX7_bits_14 : decode cX7_bits 14 = .ok (.iconst 1, 1) := by decide +kernel
theorem dX7_bits_15 : decode cX7_bits 15 = .ok (.iand, 1) := by decide +kernel
theorem dX7_bits_16 : decode cX7_bits 16 = .ok (.iadd, 1) := by decide +kernel
theorem dX7_bits_17 : decode cX7_bits 17 = .ok (.istore_n 1, 1) := by decide +kernel
theorem dX7_bits_18 : decode cX7_bits 18 = .ok (.iinc 2 1, 3) := by decide +kernel
theorem dX7_bits_21 : decode cX7_bits 21 = .ok (.goto (-17), 3) := by decide +kernel
theorem dX7_bits_24 : decode cX7_bits 24 = .ok (.iload_n 1, 1) := by decide +kernel
theorem dX7_bits_25 : decode cX7_bits 25 = .ok (.ireturn, 1) := by decide +kernel
theorem dX7_isOne_0 : decode cX7_isOne 0 = .ok (.iload_n 1, 1) := by decide +kernel
theorem dX7_isOne_1 : decode cX7_isOne 1 = .ok (.ifCond .lt 15, 3) := by decide +kernel
theorem dX7_isOne_4 : decode cX7_isOne 4 = .ok (.iload_n 1, 1) := by decide +kernel
theorem dX7_isOne_5 : decode cX7_isOne 5 = .ok (.aload_n 0, 1) := by decide +kernel
theorem dX7_isOne_6 : decode cX7_isOne 6 = .ok (.getfield 65, 3) := by decide +kernel
theorem dX7_isOne_9 : decode cX7_isOne 9 = .ok (.if_icmp .ge 7, 3) := by decide +kernel
theorem dX7_isOne_12 : decode cX7_isOne 12 = .ok (.iconst 1, 1) := by decide +kernel
theorem dX7_isOne_13 : decode cX7_isOne 13 = .ok (.goto 4, 3) := by decide +kernel
theorem dX7_isOne_16 : decode cX7_isOne 16 = .ok (.iconst 0, 1) := by decide +kernel
theorem dX7_isOne_17 : decode cX7_isOne 17 = .ok (.ireturn, 1) := by decide +kernel
theorem dX7_areTwo_0 : decode cX7_areTwo 0 = .ok (.aload_n 0, 1) := by decide +kernel
theorem dX7_areTwo_1 : decode cX7_areTwo 1 = .ok (.iload_n 1, 1) := by decide +kernel
theorem dX7_areTwo_2 : decode cX7_areTwo 2 = .ok (.invokevirtual 71, 3) := by decide +kernel
theorem dX7_areTwo_5 : decode cX7_areTwo 5 = .ok (.ifCond .eq 20, 3) := by decide +kernel
theorem dX7_areTwo_8 : decode cX7_areTwo 8 = .ok (.aload_n 0, 1) := by decide +kernel
theorem dX7_areTwo_9 : decode cX7_areTwo 9 = .ok (.iload_n 2, 1) := by decide +kernel
theorem dX7_areTwo_10 : decode cX7_areTwo 10 = .ok (.invokevirtual 71, 3) := by decide +kernel
theorem dX7_areTwo_13 : decode cX7_areTwo 13 = .ok (.ifCond .eq 12, 3) := by decide +kernel
theorem dX7_areTwo_16 : decode cX7_areTwo 16 = .ok (.iload_n 1, 1) := by decide +kernel
theorem dX7_areTwo_17 : decode cX7_areTwo 17 = .ok (.iload_n 2, 1) := by decide +kernel
theorem dX7_areTwo_18 : decode cX7_areTwo 18 = .ok (.if_icmp .eq 7, 3) := by decide +kernel
theorem dX7_areTwo_21 : decode cX7_areTwo 21 = .ok (.iconst 1, 1) := by decide +kernel
theorem dX7_areTwo_22 : decode cX7_areTwo 22 = .ok (.goto 4, 3) := by decide +kernel
theorem dX7_areTwo_25 : decode cX7_areTwo 25 = .ok (.iconst 0, 1) := by decide +kernel
theorem dX7_areTwo_26 : decode cX7_areTwo 26 = .ok (.ireturn, 1) := by decide +kernel
theorem dX7_isKin_0 : decode cX7_isKin 0 = .ok (.iload_n 1, 1) := by decide +kernel
theorem dX7_isKin_1 : decode cX7_isKin 1 = .ok (.iload_n 2, 1) := by decide +kernel
theorem dX7_isKin_2 : decode cX7_isKin 2 = .ok (.if_icmp .eq 46, 3) := by decide +kernel
theorem dX7_isKin_5 : decode cX7_isKin 5 = .ok (.aload_n 0, 1) := by decide +kernel
theorem dX7_isKin_6 : decode cX7_isKin 6 = .ok (.getfield 22, 3) := by decide +kernel
theorem dX7_isKin_9 : decode cX7_isKin 9 = .ok (.iload_n 1, 1) := by decide +kernel
theorem dX7_isKin_10 : decode cX7_isKin 10 = .ok (.iaload, 1) := by decide +kernel
theorem dX7_isKin_11 : decode cX7_isKin 11 = .ok (.iload_n 2, 1) := by decide +kernel
theorem dX7_isKin_12 : decode cX7_isKin 12 = .ok (.invokestatic 75, 3) := by decide +kernel
theorem dX7_isKin_15 : decode cX7_isKin 15 = .ok (.ifCond .eq 33, 3) := by decide +kernel
theorem dX7_isKin_18 : decode cX7_isKin 18 = .ok (.aload_n 0, 1) := by decide +kernel
theorem dX7_isKin_19 : decode cX7_isKin 19 = .ok (.getfield 22, 3) := by decide +kernel
theorem dX7_isKin_22 : decode cX7_isKin 22 = .ok (.iload_n 2, 1) := by decide +kernel
theorem dX7_isKin_23 : decode cX7_isKin 23 = .ok (.iaload, 1) := by decide +kernel
theorem dX7_isKin_24 : decode cX7_isKin 24 = .ok (.iload_n 1, 1) := by decide +kernel
theorem dX7_isKin_25 : decode cX7_isKin 25 = .ok (.invokestatic 75, 3) := by decide +kernel
theorem dX7_isKin_28 : decode cX7_isKin 28 = .ok (.ifCond .eq 20, 3) := by decide +kernel
theorem dX7_isKin_31 : decode cX7_isKin 31 = .ok (.aload_n 0, 1) := by decide +kernel
theorem dX7_isKin_32 : decode cX7_isKin 32 = .ok (.getfield 25, 3) := by decide +kernel
theorem dX7_isKin_35 : decode cX7_isKin 35 = .ok (.iload_n 1, 1) := by decide +kernel
theorem dX7_isKin_36 : decode cX7_isKin 36 = .ok (.iaload, 1) := by decide +kernel
theorem dX7_isKin_37 : decode cX7_isKin 37 = .ok (.iload_n 2, 1) := by decide +kernel
theorem dX7_isKin_38 : decode cX7_isKin 38 = .ok (.invokestatic 75, 3) := by decide +kernel
theorem dX7_isKin_41 : decode cX7_isKin 41 = .ok (.ifCond .ne 7, 3) := by decide +kernel
theorem dX7_isKin_44 : decode cX7_isKin 44 = .ok (.iconst 1, 1) := by decide +kernel
theorem dX7_isKin_45 : decode cX7_isKin 45 = .ok (.goto 4, 3) := by decide +kernel
theorem dX7_isKin_48 : decode cX7_isKin 48 = .ok (.iconst 0, 1) := by decide +kernel
theorem dX7_isKin_49 : decode cX7_isKin 49 = .ok (.ireturn, 1) := by decide +kernel
theorem dX7_kinOf_0 : decode cX7_kinOf 0 = .ok (.iconst 0, 1) := by decide +kernel
theorem dX7_kinOf_1 : decode cX7_kinOf 1 = .ok (.istore_n 2, 1) := by decide +kernel
theorem dX7_kinOf_2 : decode cX7_kinOf 2 = .ok (.iconst 0, 1) := by decide +kernel
theorem dX7_kinOf_3 : decode cX7_kinOf 3 = .ok (.istore_n 3, 1) := by decide +kernel
theorem dX7_kinOf_4 : decode cX7_kinOf 4 = .ok (.iload_n 3, 1) := by decide +kernel
theorem dX7_kinOf_5 : decode cX7_kinOf 5 = .ok (.aload_n 0, 1) := by decide +kernel
theorem dX7_kinOf_6 : decode cX7_kinOf 6 = .ok (.getfield 65, 3) := by decide +kernel
theorem dX7_kinOf_9 : decode cX7_kinOf 9 = .ok (.if_icmp .ge 28, 3) := by decide +kernel
theorem dX7_kinOf_12 : decode cX7_kinOf 12 = .ok (.iload_n 2, 1) := by decide +kernel
theorem dX7_kinOf_13 : decode cX7_kinOf 13 = .ok (.aload_n 0, 1) := by decide +kernel
theorem dX7_kinOf_14 : decode cX7_kinOf 14 = .ok (.iload_n 1, 1) := by decide +kernel
theorem dX7_kinOf_15 : decode cX7_kinOf 15 = .ok (.iload_n 3, 1) := by decide +kernel
theorem dX7_kinOf_16 : decode cX7_kinOf 16 = .ok (.invokevirtual 79, 3) := by decide +kernel
theorem dX7_kinOf_19 : decode cX7_kinOf 19 = .ok (.ifCond .eq 9, 3) := by decide +kernel
theorem dX7_kinOf_22 : decode cX7_kinOf 22 = .ok (.iconst 1, 1) := by decide +kernel
theorem dX7_kinOf_23 : decode cX7_kinOf 23 = .ok (.iload_n 3, 1) := by decide +kernel
theorem dX7_kinOf_24 : decode cX7_kinOf 24 = .ok (.ishl, 1) := by decide +kernel
theorem dX7_kinOf_25 : decode cX7_kinOf 25 = .ok (.goto 4, 3) := by decide +kernel
theorem dX7_kinOf_28 : decode cX7_kinOf 28 = .ok (.iconst 0, 1) := by decide +kernel
theorem dX7_kinOf_29 : decode cX7_kinOf 29 = .ok (.ior, 1) := by decide +kernel
theorem dX7_kinOf_30 : decode cX7_kinOf 30 = .ok (.istore_n 2, 1) := by decide +kernel
theorem dX7_kinOf_31 : decode cX7_kinOf 31 = .ok (.iinc 3 1, 3) := by decide +kernel
theorem dX7_kinOf_34 : decode cX7_kinOf 34 = .ok (.goto (-30), 3) := by decide +kernel
theorem dX7_kinOf_37 : decode cX7_kinOf 37 = .ok (.iload_n 2, 1) := by decide +kernel
theorem dX7_kinOf_38 : decode cX7_kinOf 38 = .ok (.ireturn, 1) := by decide +kernel
theorem dX7_letter_0 : decode cX7_letter 0 = .ok (.iload_n 1, 1) := by decide +kernel
theorem dX7_letter_1 : decode cX7_letter 1 = .ok (.iconst 0, 1) := by decide +kernel
theorem dX7_letter_2 : decode cX7_letter 2 = .ok (.sipush 255, 3) := by decide +kernel
theorem dX7_letter_5 : decode cX7_letter 5 = .ok (.invokestatic 82, 3) := by decide +kernel
theorem dX7_letter_8 : decode cX7_letter 8 = .ok (.istore_n 2, 1) := by decide +kernel
theorem dX7_letter_9 : decode cX7_letter 9 = .ok (.iload_n 2, 1) := by decide +kernel
theorem dX7_letter_10 : decode cX7_letter 10 = .ok (.ifCond .ne 15, 3) := by decide +kernel
theorem dX7_letter_13 : decode cX7_letter 13 = .ok (.aload_n 0, 1) := by decide +kernel
theorem dX7_letter_14 : decode cX7_letter 14 = .ok (.getfield 86, 3) := by decide +kernel
theorem dX7_letter_17 : decode cX7_letter 17 = .ok (.bipush 96, 2) := by decide +kernel
theorem dX7_letter_19 : decode cX7_letter 19 = .ok (.if_icmp .ne 6, 3) := by decide +kernel
theorem dX7_letter_22 : decode cX7_letter 22 = .ok (.bipush (-6), 2) := by decide +kernel
theorem dX7_letter_24 : decode cX7_letter 24 = .ok (.istore_n 2, 1) := by decide +kernel
theorem dX7_letter_25 : decode cX7_letter 25 = .ok (.iload_n 2, 1) := by decide +kernel
theorem dX7_letter_26 : decode cX7_letter 26 = .ok (.ifCond .eq 9, 3) := by decide +kernel
theorem dX7_letter_29 : decode cX7_letter 29 = .ok (.aload_n 0, 1) := by decide +kernel
theorem dX7_letter_30 : decode cX7_letter 30 = .ok (.iload_n 2, 1) := by decide +kernel
theorem dX7_letter_31 : decode cX7_letter 31 = .ok (.invokevirtual 89, 3) := by decide +kernel
theorem dX7_letter_34 : decode cX7_letter 34 = .ok (.ireturn, 1) := by decide +kernel
theorem dX7_letter_35 : decode cX7_letter 35 = .ok (.aload_n 0, 1) := by decide +kernel
theorem dX7_letter_36 : decode cX7_letter 36 = .ok (.getfield 32, 3) := by decide +kernel
theorem dX7_letter_39 : decode cX7_letter 39 = .ok (.aload_n 0, 1) := by decide +kernel
theorem dX7_letter_40 : decode cX7_letter 40 = .ok (.getfield 86, 3) := by decide +kernel
theorem dX7_letter_43 : decode cX7_letter 43 = .ok (.iload_n 1, 1) := by decide +kernel
theorem dX7_letter_44 : decode cX7_letter 44 = .ok (.iastore, 1) := by decide +kernel
theorem dX7_letter_45 : decode cX7_letter 45 = .ok (.aload_n 0, 1) := by decide +kernel
theorem dX7_letter_46 : decode cX7_letter 46 = .ok (.dup, 1) := by decide +kernel
theorem dX7_letter_47 : decode cX7_letter 47 = .ok (.getfield 86, 3) := by decide +kernel
theorem dX7_letter_50 : decode cX7_letter 50 = .ok (.iconst 1, 1) := by decide +kernel
theorem dX7_letter_51 : decode cX7_letter 51 = .ok (.iadd, 1) := by decide +kernel
theorem dX7_letter_52 : decode cX7_letter 52 = .ok (.putfield 86, 3) := by decide +kernel
theorem dX7_letter_55 : decode cX7_letter 55 = .ok (.aload_n 0, 1) := by decide +kernel
theorem dX7_letter_56 : decode cX7_letter 56 = .ok (.getfield 86, 3) := by decide +kernel
theorem dX7_letter_59 : decode cX7_letter 59 = .ok (.ireturn, 1) := by decide +kernel
theorem dX7_next_0 : decode cX7_next 0 = .ok (.aload_n 0, 1) := by decide +kernel
theorem dX7_next_1 : decode cX7_next 1 = .ok (.getfield 93, 3) := by decide +kernel
theorem dX7_next_4 : decode cX7_next 4 = .ok (.aload_n 0, 1) := by decide +kernel
theorem dX7_next_5 : decode cX7_next 5 = .ok (.getfield 86, 3) := by decide +kernel
theorem dX7_next_8 : decode cX7_next 8 = .ok (.if_icmp .ge 15, 3) := by decide +kernel
theorem dX7_next_11 : decode cX7_next 11 = .ok (.aload_n 0, 1) := by decide +kernel
theorem dX7_next_12 : decode cX7_next 12 = .ok (.getfield 32, 3) := by decide +kernel
theorem dX7_next_15 : decode cX7_next 15 = .ok (.aload_n 0, 1) := by decide +kernel
theorem dX7_next_16 : decode cX7_next 16 = .ok (.getfield 93, 3) := by decide +kernel
theorem dX7_next_19 : decode cX7_next 19 = .ok (.iaload, 1) := by decide +kernel
theorem dX7_next_20 : decode cX7_next 20 = .ok (.goto 4, 3) := by decide +kernel
theorem dX7_next_23 : decode cX7_next 23 = .ok (.iconst (-1), 1) := by decide +kernel
theorem dX7_next_24 : decode cX7_next 24 = .ok (.ireturn, 1) := by decide +kernel
theorem dX7_readsDigits_0 : decode cX7_readsDigits 0 = .ok (.iconst 0, 1) := by decide +kernel
theorem dX7_readsDigits_1 : decode cX7_readsDigits 1 = .ok (.istore_n 3, 1) := by decide +kernel
theorem dX7_readsDigits_2 : decode cX7_readsDigits 2 = .ok (.iconst 0, 1) := by decide +kernel
theorem dX7_readsDigits_3 : decode cX7_readsDigits 3 = .ok (.istore 4, 2) := by decide +kernel
theorem dX7_readsDigits_5 : decode cX7_readsDigits 5 = .ok (.iload 4, 2) := by decide +kernel
theorem dX7_readsDigits_7 : decode cX7_readsDigits 7 = .ok (.iload_n 2, 1) := by decide +kernel
theorem dX7_readsDigits_8 : decode cX7_readsDigits 8 = .ok (.if_icmp .ge 48, 3) := by decide +kernel
theorem dX7_readsDigits_11 : decode cX7_readsDigits 11 = .ok (.aload_n 0, 1) := by decide +kernel
theorem dX7_readsDigits_12 : decode cX7_readsDigits 12 = .ok (.invokevirtual 96, 3) := by decide +kernel
theorem dX7_readsDigits_15 : decode cX7_readsDigits 15 = .ok (.bipush 48, 2) := by decide +kernel
theorem dX7_readsDigits_17 : decode cX7_readsDigits 17 = .ok (.bipush 57, 2) := by decide +kernel
theorem dX7_readsDigits_19 : decode cX7_readsDigits 19 = .ok (.invokestatic 100, 3) := by decide +kernel
theorem dX7_readsDigits_22 : decode cX7_readsDigits 22 = .ok (.ifCond .ne 5, 3) := by decide +kernel
theorem dX7_readsDigits_25 : decode cX7_readsDigits 25 = .ok (.iconst 0, 1) := by decide +kernel
theorem dX7_readsDigits_26 : decode cX7_readsDigits 26 = .ok (.ireturn, 1) := by decide +kernel
theorem dX7_readsDigits_27 : decode cX7_readsDigits 27 = .ok (.bipush 10, 2) := by decide +kernel
theorem dX7_readsDigits_29 : decode cX7_readsDigits 29 = .ok (.iload_n 3, 1) := by decide +kernel
theorem dX7_readsDigits_30 : decode cX7_readsDigits 30 = .ok (.imul, 1) := by decide +kernel
theorem dX7_readsDigits_31 : decode cX7_readsDigits 31 = .ok (.aload_n 0, 1) := by decide +kernel
theorem dX7_readsDigits_32 : decode cX7_readsDigits 32 = .ok (.invokevirtual 96, 3) := by decide +kernel
theorem dX7_readsDigits_35 : decode cX7_readsDigits 35 = .ok (.iadd, 1) := by decide +kernel
theorem dX7_readsDigits_36 : decode cX7_readsDigits 36 = .ok (.bipush 48, 2) := by decide +kernel
theorem dX7_readsDigits_38 : decode cX7_readsDigits 38 = .ok (.isub, 1) := by decide +kernel
theorem dX7_readsDigits_39 : decode cX7_readsDigits 39 = .ok (.istore_n 3, 1) := by decide +kernel
theorem dX7_readsDigits_40 : decode cX7_readsDigits 40 = .ok (.aload_n 0, 1) := by decide +kernel
theorem dX7_readsDigits_41 : decode cX7_readsDigits 41 = .ok (.dup, 1) := by decide +kernel
theorem dX7_readsDigits_42 : decode cX7_readsDigits 42 = .ok (.getfield 93, 3) := by decide +kernel
theorem dX7_readsDigits_45 : decode cX7_readsDigits 45 = .ok (.iconst 1, 1) := by decide +kernel
theorem dX7_readsDigits_46 : decode cX7_readsDigits 46 = .ok (.iadd, 1) := by decide +kernel
theorem dX7_readsDigits_47 : decode cX7_readsDigits 47 = .ok (.putfield 93, 3) := by decide +kernel
theorem dX7_readsDigits_50 : decode cX7_readsDigits 50 = .ok (.iinc 4 1, 3) := by decide +kernel
theorem dX7_readsDigits_53 : decode cX7_readsDigits 53 = .ok (.goto (-48), 3) := by decide +kernel
theorem dX7_readsDigits_56 : decode cX7_readsDigits 56 = .ok (.aload_n 0, 1) := by decide +kernel
theorem dX7_readsDigits_57 : decode cX7_readsDigits 57 = .ok (.getfield 41, 3) := by decide +kernel
theorem dX7_readsDigits_60 : decode cX7_readsDigits 60 = .ok (.iload_n 1, 1) := by decide +kernel
theorem dX7_readsDigits_61 : decode cX7_readsDigits 61 = .ok (.iload_n 3, 1) := by decide +kernel
theorem dX7_readsDigits_62 : decode cX7_readsDigits 62 = .ok (.iastore, 1) := by decide +kernel
theorem dX7_readsDigits_63 : decode cX7_readsDigits 63 = .ok (.iconst 1, 1) := by decide +kernel
theorem dX7_readsDigits_64 : decode cX7_readsDigits 64 = .ok (.ireturn, 1) := by decide +kernel
theorem dX7_kindOf_0 : decode cX7_kindOf 0 = .ok (.iload_n 0, 1) := by decide +kernel
theorem dX7_kindOf_1 : decode cX7_kindOf 1 = .ok (.bipush 112, 2) := by decide +kernel
theorem dX7_kindOf_3 : decode cX7_kindOf 3 = .ok (.if_icmp .ne 7, 3) := by decide +kernel
theorem dX7_kindOf_6 : decode cX7_kindOf 6 = .ok (.iconst 0, 1) := by decide +kernel
theorem dX7_kindOf_7 : decode cX7_kindOf 7 = .ok (.goto 54, 3) := by decide +kernel
theorem dX7_kindOf_10 : decode cX7_kindOf 10 = .ok (.iload_n 0, 1) := by decide +kernel
theorem dX7_kindOf_11 : decode cX7_kindOf 11 = .ok (.bipush 108, 2) := by decide +kernel
theorem dX7_kindOf_13 : decode cX7_kindOf 13 = .ok (.if_icmp .ne 7, 3) := by decide +kernel
theorem dX7_kindOf_16 : decode cX7_kindOf 16 = .ok (.iconst 1, 1) := by decide +kernel
theorem dX7_kindOf_17 : decode cX7_kindOf 17 = .ok (.goto 44, 3) := by decide +kernel
theorem dX7_kindOf_20 : decode cX7_kindOf 20 = .ok (.iload_n 0, 1) := by decide +kernel
theorem dX7_kindOf_21 : decode cX7_kindOf 21 = .ok (.bipush 116, 2) := by decide +kernel
theorem dX7_kindOf_23 : decode cX7_kindOf 23 = .ok (.if_icmp .ne 7, 3) := by decide +kernel
theorem dX7_kindOf_26 : decode cX7_kindOf 26 = .ok (.iconst 2, 1) := by decide +kernel
theorem dX7_kindOf_27 : decode cX7_kindOf 27 = .ok (.goto 34, 3) := by decide +kernel
theorem dX7_kindOf_30 : decode cX7_kindOf 30 = .ok (.iload_n 0, 1) := by decide +kernel
theorem dX7_kindOf_31 : decode cX7_kindOf 31 = .ok (.bipush 119, 2) := by decide +kernel
theorem dX7_kindOf_33 : decode cX7_kindOf 33 = .ok (.if_icmp .ne 7, 3) := by decide +kernel
theorem dX7_kindOf_36 : decode cX7_kindOf 36 = .ok (.iconst 3, 1) := by decide +kernel
theorem dX7_kindOf_37 : decode cX7_kindOf 37 = .ok (.goto 24, 3) := by decide +kernel
theorem dX7_kindOf_40 : decode cX7_kindOf 40 = .ok (.iload_n 0, 1) := by decide +kernel
theorem dX7_kindOf_41 : decode cX7_kindOf 41 = .ok (.bipush 100, 2) := by decide +kernel
theorem dX7_kindOf_43 : decode cX7_kindOf 43 = .ok (.if_icmp .ne 7, 3) := by decide +kernel
theorem dX7_kindOf_46 : decode cX7_kindOf 46 = .ok (.iconst 4, 1) := by decide +kernel
theorem dX7_kindOf_47 : decode cX7_kindOf 47 = .ok (.goto 14, 3) := by decide +kernel
theorem dX7_kindOf_50 : decode cX7_kindOf 50 = .ok (.iload_n 0, 1) := by decide +kernel
theorem dX7_kindOf_51 : decode cX7_kindOf 51 = .ok (.bipush 97, 2) := by decide +kernel
theorem dX7_kindOf_53 : decode cX7_kindOf 53 = .ok (.if_icmp .ne 7, 3) := by decide +kernel
theorem dX7_kindOf_56 : decode cX7_kindOf 56 = .ok (.iconst 5, 1) := by decide +kernel
theorem dX7_kindOf_57 : decode cX7_kindOf 57 = .ok (.goto 4, 3) := by decide +kernel
theorem dX7_kindOf_60 : decode cX7_kindOf 60 = .ok (.iconst (-1), 1) := by decide +kernel
theorem dX7_kindOf_61 : decode cX7_kindOf 61 = .ok (.ireturn, 1) := by decide +kernel
theorem dX7_readsOne_0 : decode cX7_readsOne 0 = .ok (.aload_n 0, 1) := by decide +kernel
theorem dX7_readsOne_1 : decode cX7_readsOne 1 = .ok (.getfield 41, 3) := by decide +kernel
theorem dX7_readsOne_4 : decode cX7_readsOne 4 = .ok (.iload_n 1, 1) := by decide +kernel
theorem dX7_readsOne_5 : decode cX7_readsOne 5 = .ok (.aload_n 0, 1) := by decide +kernel
theorem dX7_readsOne_6 : decode cX7_readsOne 6 = .ok (.invokevirtual 96, 3) := by decide +kernel
theorem dX7_readsOne_9 : decode cX7_readsOne 9 = .ok (.invokestatic 104, 3) := by decide +kernel
theorem dX7_readsOne_12 : decode cX7_readsOne 12 = .ok (.iastore, 1) := by decide +kernel
theorem dX7_readsOne_13 : decode cX7_readsOne 13 = .ok (.aload_n 0, 1) := by decide +kernel
theorem dX7_readsOne_14 : decode cX7_readsOne 14 = .ok (.getfield 41, 3) := by decide +kernel
theorem dX7_readsOne_17 : decode cX7_readsOne 17 = .ok (.iload_n 1, 1) := by decide +kernel
theorem dX7_readsOne_18 : decode cX7_readsOne 18 = .ok (.iaload, 1) := by decide +kernel
theorem dX7_readsOne_19 : decode cX7_readsOne 19 = .ok (.ifCond .ge 5, 3) := by decide +kernel
theorem dX7_readsOne_22 : decode cX7_readsOne 22 = .ok (.iconst 0, 1) := by decide +kernel
theorem dX7_readsOne_23 : decode cX7_readsOne 23 = .ok (.ireturn, 1) := by decide +kernel
theorem dX7_readsOne_24 : decode cX7_readsOne 24 = .ok (.aload_n 0, 1) := by decide +kernel
theorem dX7_readsOne_25 : decode cX7_readsOne 25 = .ok (.dup, 1) := by decide +kernel
theorem dX7_readsOne_26 : decode cX7_readsOne 26 = .ok (.getfield 93, 3) := by decide +kernel
theorem dX7_readsOne_29 : decode cX7_readsOne 29 = .ok (.iconst 1, 1) := by decide +kernel
theorem dX7_readsOne_30 : decode cX7_readsOne 30 = .ok (.iadd, 1) := by decide +kernel
theorem dX7_readsOne_31 : decode cX7_readsOne 31 = .ok (.putfield 93, 3) := by decide +kernel
theorem dX7_readsOne_34 : decode cX7_readsOne 34 = .ok (.aload_n 0, 1) := by decide +kernel
theorem dX7_readsOne_35 : decode cX7_readsOne 35 = .ok (.iload_n 1, 1) := by decide +kernel
theorem dX7_readsOne_36 : decode cX7_readsOne 36 = .ok (.iconst 1, 1) := by decide +kernel
theorem dX7_readsOne_37 : decode cX7_readsOne 37 = .ok (.iadd, 1) := by decide +kernel
theorem dX7_readsOne_38 : decode cX7_readsOne 38 = .ok (.iconst 1, 1) := by decide +kernel
theorem dX7_readsOne_39 : decode cX7_readsOne 39 = .ok (.invokevirtual 107, 3) := by decide +kernel
theorem dX7_readsOne_42 : decode cX7_readsOne 42 = .ok (.ifCond .eq 18, 3) := by decide +kernel
theorem dX7_readsOne_45 : decode cX7_readsOne 45 = .ok (.aload_n 0, 1) := by decide +kernel
theorem dX7_readsOne_46 : decode cX7_readsOne 46 = .ok (.iload_n 1, 1) := by decide +kernel
theorem dX7_readsOne_47 : decode cX7_readsOne 47 = .ok (.iconst 2, 1) := by decide +kernel
theorem dX7_readsOne_48 : decode cX7_readsOne 48 = .ok (.iadd, 1) := by decide +kernel
theorem dX7_readsOne_49 : decode cX7_readsOne 49 = .ok (.iconst 2, 1) := by decide +kernel
theorem dX7_readsOne_50 : decode cX7_readsOne 50 = .ok (.invokevirtual 107, 3) := by decide +kernel
theorem dX7_readsOne_53 : decode cX7_readsOne 53 = .ok (.ifCond .eq 7, 3) := by decide +kernel
theorem dX7_readsOne_56 : decode cX7_readsOne 56 = .ok (.iconst 1, 1) := by decide +kernel
theorem dX7_readsOne_57 : decode cX7_readsOne 57 = .ok (.goto 4, 3) := by decide +kernel
theorem dX7_readsOne_60 : decode cX7_readsOne 60 = .ok (.iconst 0, 1) := by decide +kernel
theorem dX7_readsOne_61 : decode cX7_readsOne 61 = .ok (.ireturn, 1) := by decide +kernel
theorem dX7_readsAll_0 : decode cX7_readsAll 0 = .ok (.iload_n 1, 1) := by decide +kernel
theorem dX7_readsAll_1 : decode cX7_readsAll 1 = .ok (.lookupswitch 74 #[(109, 41), (112, 35), (121, 67)], 35) := by decide +kernel
theorem dX7_readsAll_36 : decode cX7_readsAll 36 = .ok (.aload_n 0, 1) := by decide +kernel
theorem dX7_readsAll_37 : decode cX7_readsAll 37 = .ok (.iload_n 2, 1) := by decide +kernel
theorem dX7_readsAll_38 : decode cX7_readsAll 38 = .ok (.invokevirtual 110, 3) := by decide +kernel
theorem dX7_readsAll_41 : decode cX7_readsAll 41 = .ok (.ireturn, 1) := by decide +kernel
theorem dX7_readsAll_42 : decode cX7_readsAll 42 = .ok (.aload_n 0, 1) := by decide +kernel
theorem dX7_readsAll_43 : decode cX7_readsAll 43 = .ok (.iload_n 2, 1) := by decide +kernel
theorem dX7_readsAll_44 : decode cX7_readsAll 44 = .ok (.iconst 1, 1) := by decide +kernel
theorem dX7_readsAll_45 : decode cX7_readsAll 45 = .ok (.invokevirtual 107, 3) := by decide +kernel
theorem dX7_readsAll_48 : decode cX7_readsAll 48 = .ok (.ifCond .eq 18, 3) := by decide +kernel
theorem dX7_readsAll_51 : decode cX7_readsAll 51 = .ok (.aload_n 0, 1) := by decide +kernel
theorem dX7_readsAll_52 : decode cX7_readsAll 52 = .ok (.iload_n 2, 1) := by decide +kernel
theorem dX7_readsAll_53 : decode cX7_readsAll 53 = .ok (.iconst 1, 1) := by decide +kernel
theorem dX7_readsAll_54 : decode cX7_readsAll 54 = .ok (.iadd, 1) := by decide +kernel
theorem dX7_readsAll_55 : decode cX7_readsAll 55 = .ok (.iconst 2, 1) := by decide +kernel
theorem dX7_readsAll_56 : decode cX7_readsAll 56 = .ok (.invokevirtual 107, 3) := by decide +kernel
theorem dX7_readsAll_59 : decode cX7_readsAll 59 = .ok (.ifCond .eq 7, 3) := by decide +kernel
theorem dX7_readsAll_62 : decode cX7_readsAll 62 = .ok (.iconst 1, 1) := by decide +kernel
theorem dX7_readsAll_63 : decode cX7_readsAll 63 = .ok (.goto 4, 3) := by decide +kernel
theorem dX7_readsAll_66 : decode cX7_readsAll 66 = .ok (.iconst 0, 1) := by decide +kernel
theorem dX7_readsAll_67 : decode cX7_readsAll 67 = .ok (.ireturn, 1) := by decide +kernel
theorem dX7_readsAll_68 : decode cX7_readsAll 68 = .ok (.aload_n 0, 1) := by decide +kernel
theorem dX7_readsAll_69 : decode cX7_readsAll 69 = .ok (.iload_n 2, 1) := by decide +kernel
theorem dX7_readsAll_70 : decode cX7_readsAll 70 = .ok (.iconst 2, 1) := by decide +kernel
theorem dX7_readsAll_71 : decode cX7_readsAll 71 = .ok (.invokevirtual 107, 3) := by decide +kernel
theorem dX7_readsAll_74 : decode cX7_readsAll 74 = .ok (.ireturn, 1) := by decide +kernel
theorem dX7_readsAll_75 : decode cX7_readsAll 75 = .ok (.aload_n 0, 1) := by decide +kernel
theorem dX7_readsAll_76 : decode cX7_readsAll 76 = .ok (.iload_n 2, 1) := by decide +kernel
theorem dX7_readsAll_77 : decode cX7_readsAll 77 = .ok (.iconst 1, 1) := by decide +kernel
theorem dX7_readsAll_78 : decode cX7_readsAll 78 = .ok (.invokevirtual 107, 3) := by decide +kernel
theorem dX7_readsAll_81 : decode cX7_readsAll 81 = .ok (.ifCond .eq 18, 3) := by decide +kernel
theorem dX7_readsAll_84 : decode cX7_readsAll 84 = .ok (.aload_n 0, 1) := by decide +kernel
theorem dX7_readsAll_85 : decode cX7_readsAll 85 = .ok (.iload_n 2, 1) := by decide +kernel
theorem dX7_readsAll_86 : decode cX7_readsAll 86 = .ok (.iconst 1, 1) := by decide +kernel
theorem dX7_readsAll_87 : decode cX7_readsAll 87 = .ok (.iadd, 1) := by decide +kernel
theorem dX7_readsAll_88 : decode cX7_readsAll 88 = .ok (.iconst 1, 1) := by decide +kernel
theorem dX7_readsAll_89 : decode cX7_readsAll 89 = .ok (.invokevirtual 107, 3) := by decide +kernel
theorem dX7_readsAll_92 : decode cX7_readsAll 92 = .ok (.ifCond .eq 7, 3) := by decide +kernel
theorem dX7_readsAll_95 : decode cX7_readsAll 95 = .ok (.iconst 1, 1) := by decide +kernel
theorem dX7_readsAll_96 : decode cX7_readsAll 96 = .ok (.goto 4, 3) := by decide +kernel
theorem dX7_readsAll_99 : decode cX7_readsAll 99 = .ok (.iconst 0, 1) := by decide +kernel
theorem dX7_readsAll_100 : decode cX7_readsAll 100 = .ok (.ireturn, 1) := by decide +kernel
theorem dX7_statement_0 : decode cX7_statement 0 = .ok (.aload_n 0, 1) := by decide +kernel
theorem dX7_statement_1 : decode cX7_statement 1 = .ok (.invokevirtual 96, 3) := by decide +kernel
theorem dX7_statement_4 : decode cX7_statement 4 = .ok (.istore_n 1, 1) := by decide +kernel
theorem dX7_statement_5 : decode cX7_statement 5 = .ok (.iload_n 1, 1) := by decide +kernel
theorem dX7_statement_6 : decode cX7_statement 6 = .ok (.bipush 112, 2) := by decide +kernel
theorem dX7_statement_8 : decode cX7_statement 8 = .ok (.if_icmp .eq 35, 3) := by decide +kernel
theorem dX7_statement_11 : decode cX7_statement 11 = .ok (.iload_n 1, 1) := by decide +kernel
theorem dX7_statement_12 : decode cX7_statement 12 = .ok (.bipush 115, 2) := by decide +kernel
theorem dX7_statement_14 : decode cX7_statement 14 = .ok (.if_icmp .eq 29, 3) := by decide +kernel
theorem dX7_statement_17 : decode cX7_statement 17 = .ok (.iload_n 1, 1) := by decide +kernel
theorem dX7_statement_18 : decode cX7_statement 18 = .ok (.bipush 98, 2) := by decide +kernel
theorem dX7_statement_20 : decode cX7_statement 20 = .ok (.if_icmp .eq 23, 3) := by decide +kernel
theorem dX7_statement_23 : decode cX7_statement 23 = .ok (.iload_n 1, 1) := by decide +kernel
theorem dX7_statement_24 : decode cX7_statement 24 = .ok (.bipush 102, 2) := by decide +kernel
theorem dX7_statement_26 : decode cX7_statement 26 = .ok (.if_icmp .eq 17, 3) := by decide +kernel
theorem dX7_statement_29 : decode cX7_statement 29 = .ok (.iload_n 1, 1) := by decide +kernel
theorem dX7_statement_30 : decode cX7_statement 30 = .ok (.bipush 109, 2) := by decide +kernel
theorem dX7_statement_32 : decode cX7_statement 32 = .ok (.if_icmp .eq 11, 3) := by decide +kernel
theorem dX7_statement_35 : decode cX7_statement 35 = .ok (.iload_n 1, 1) := by decide +kernel
theorem dX7_statement_36 : decode cX7_statement 36 = .ok (.bipush 121, 2) := by decide +kernel
theorem dX7_statement_38 : decode cX7_statement 38 = .ok (.if_icmp .eq 5, 3) := by decide +kernel
theorem dX7_statement_41 : decode cX7_statement 41 = .ok (.iconst 0, 1) := by decide +kernel
theorem dX7_statement_42 : decode cX7_statement 42 = .ok (.ireturn, 1) := by decide +kernel
theorem dX7_statement_43 : decode cX7_statement 43 = .ok (.aload_n 0, 1) := by decide +kernel
theorem dX7_statement_44 : decode cX7_statement 44 = .ok (.getfield 35, 3) := by decide +kernel
theorem dX7_statement_47 : decode cX7_statement 47 = .ok (.aload_n 0, 1) := by decide +kernel
theorem dX7_statement_48 : decode cX7_statement 48 = .ok (.getfield 113, 3) := by decide +kernel
theorem dX7_statement_51 : decode cX7_statement 51 = .ok (.iload_n 1, 1) := by decide +kernel
theorem dX7_statement_52 : decode cX7_statement 52 = .ok (.iastore, 1) := by decide +kernel
theorem dX7_statement_53 : decode cX7_statement 53 = .ok (.aload_n 0, 1) := by decide +kernel
theorem dX7_statement_54 : decode cX7_statement 54 = .ok (.getfield 38, 3) := by decide +kernel
theorem dX7_statement_57 : decode cX7_statement 57 = .ok (.aload_n 0, 1) := by decide +kernel
theorem dX7_statement_58 : decode cX7_statement 58 = .ok (.getfield 113, 3) := by decide +kernel
theorem dX7_statement_61 : decode cX7_statement 61 = .ok (.aload_n 0, 1) := by decide +kernel
theorem dX7_statement_62 : decode cX7_statement 62 = .ok (.getfield 93, 3) := by decide +kernel
theorem dX7_statement_65 : decode cX7_statement 65 = .ok (.iastore, 1) := by decide +kernel
theorem dX7_statement_66 : decode cX7_statement 66 = .ok (.aload_n 0, 1) := by decide +kernel
theorem dX7_statement_67 : decode cX7_statement 67 = .ok (.dup, 1) := by decide +kernel
theorem dX7_statement_68 : decode cX7_statement 68 = .ok (.getfield 93, 3) := by decide +kernel
theorem dX7_statement_71 : decode cX7_statement 71 = .ok (.iconst 1, 1) := by decide +kernel
theorem dX7_statement_72 : decode cX7_statement 72 = .ok (.iadd, 1) := by decide +kernel
theorem dX7_statement_73 : decode cX7_statement 73 = .ok (.putfield 93, 3) := by decide +kernel
theorem dX7_statement_76 : decode cX7_statement 76 = .ok (.aload_n 0, 1) := by decide +kernel
theorem dX7_statement_77 : decode cX7_statement 77 = .ok (.iload_n 1, 1) := by decide +kernel
theorem dX7_statement_78 : decode cX7_statement 78 = .ok (.iconst 3, 1) := by decide +kernel
theorem dX7_statement_79 : decode cX7_statement 79 = .ok (.aload_n 0, 1) := by decide +kernel
theorem dX7_statement_80 : decode cX7_statement 80 = .ok (.getfield 113, 3) := by decide +kernel
theorem dX7_statement_83 : decode cX7_statement 83 = .ok (.imul, 1) := by decide +kernel
theorem dX7_statement_84 : decode cX7_statement 84 = .ok (.invokevirtual 116, 3) := by decide +kernel
theorem dX7_statement_87 : decode cX7_statement 87 = .ok (.ifCond .eq 12, 3) := by decide +kernel
theorem dX7_statement_90 : decode cX7_statement 90 = .ok (.aload_n 0, 1) := by decide +kernel
theorem dX7_statement_91 : decode cX7_statement 91 = .ok (.invokevirtual 96, 3) := by decide +kernel
theorem dX7_statement_94 : decode cX7_statement 94 = .ok (.bipush 59, 2) := by decide +kernel
theorem dX7_statement_96 : decode cX7_statement 96 = .ok (.if_icmp .eq 5, 3) := by decide +kernel
theorem dX7_statement_99 : decode cX7_statement 99 = .ok (.iconst 0, 1) := by decide +kernel
theorem dX7_statement_100 : decode cX7_statement 100 = .ok (.ireturn, 1) := by decide +kernel
theorem dX7_statement_101 : decode cX7_statement 101 = .ok (.aload_n 0, 1) := by decide +kernel
theorem dX7_statement_102 : decode cX7_statement 102 = .ok (.dup, 1) := by decide +kernel
theorem dX7_statement_103 : decode cX7_statement 103 = .ok (.getfield 93, 3) := by decide +kernel
theorem dX7_statement_106 : decode cX7_statement 106 = .ok (.iconst 1, 1) := by decide +kernel
theorem dX7_statement_107 : decode cX7_statement 107 = .ok (.iadd, 1) := by decide +kernel
theorem dX7_statement_108 : decode cX7_statement 108 = .ok (.putfield 93, 3) := by decide +kernel
theorem dX7_statement_111 : decode cX7_statement 111 = .ok (.iconst 1, 1) := by decide +kernel
theorem dX7_statement_112 : decode cX7_statement 112 = .ok (.ireturn, 1) := by decide +kernel
theorem dX7_comesTie_0 : decode cX7_comesTie 0 = .ok (.aload_n 0, 1) := by decide +kernel
theorem dX7_comesTie_1 : decode cX7_comesTie 1 = .ok (.iload_n 2, 1) := by decide +kernel
theorem dX7_comesTie_2 : decode cX7_comesTie 2 = .ok (.iload_n 3, 1) := by decide +kernel
theorem dX7_comesTie_3 : decode cX7_comesTie 3 = .ok (.invokevirtual 119, 3) := by decide +kernel
theorem dX7_comesTie_6 : decode cX7_comesTie 6 = .ok (.ifCond .ne 5, 3) := by decide +kernel
theorem dX7_comesTie_9 : decode cX7_comesTie 9 = .ok (.iconst 0, 1) := by decide +kernel
theorem dX7_comesTie_10 : decode cX7_comesTie 10 = .ok (.ireturn, 1) := by decide +kernel
theorem dX7_comesTie_11 : decode cX7_comesTie 11 = .ok (.iload_n 1, 1) := by decide +kernel
theorem dX7_comesTie_12 : decode cX7_comesTie 12 = .ok (.bipush 115, 2) := by decide +kernel
theorem dX7_comesTie_14 : decode cX7_comesTie 14 = .ok (.if_icmp .ne 18, 3) := by decide +kernel
theorem dX7_comesTie_17 : decode cX7_comesTie 17 = .ok (.aload_n 0, 1) := by decide +kernel
theorem dX7_comesTie_18 : decode cX7_comesTie 18 = .ok (.getfield 22, 3) := by decide +kernel
theorem dX7_comesTie_21 : decode cX7_comesTie 21 = .ok (.iload_n 2, 1) := by decide +kernel
theorem dX7_comesTie_22 : decode cX7_comesTie 22 = .ok (.dup2, 1) := by decide +kernel
theorem dX7_comesTie_23 : decode cX7_comesTie 23 = .ok (.iaload, 1) := by decide +kernel
theorem dX7_comesTie_24 : decode cX7_comesTie 24 = .ok (.iconst 1, 1) := by decide +kernel
theorem dX7_comesTie_25 : decode cX7_comesTie 25 = .ok (.iload_n 3, 1) := by decide +kernel
theorem dX7_comesTie_26 : decode cX7_comesTie 26 = .ok (.ishl, 1) := by decide +kernel
theorem dX7_comesTie_27 : decode cX7_comesTie 27 = .ok (.ixor, 1) := by decide +kernel
theorem dX7_comesTie_28 : decode cX7_comesTie 28 = .ok (.iastore, 1) := by decide +kernel
theorem dX7_comesTie_29 : decode cX7_comesTie 29 = .ok (.goto 42, 3) := by decide +kernel
theorem dX7_comesTie_32 : decode cX7_comesTie 32 = .ok (.iload_n 1, 1) := by decide +kernel
theorem dX7_comesTie_33 : decode cX7_comesTie 33 = .ok (.bipush 102, 2) := by decide +kernel
theorem dX7_comesTie_35 : decode cX7_comesTie 35 = .ok (.if_icmp .ne 12, 3) := by decide +kernel
theorem dX7_comesTie_38 : decode cX7_comesTie 38 = .ok (.aload_n 0, 1) := by decide +kernel
theorem dX7_comesTie_39 : decode cX7_comesTie 39 = .ok (.iload_n 2, 1) := by decide +kernel
theorem dX7_comesTie_40 : decode cX7_comesTie 40 = .ok (.iload_n 3, 1) := by decide +kernel
theorem dX7_comesTie_41 : decode cX7_comesTie 41 = .ok (.invokevirtual 122, 3) := by decide +kernel
theorem dX7_comesTie_44 : decode cX7_comesTie 44 = .ok (.goto 27, 3) := by decide +kernel
theorem dX7_comesTie_47 : decode cX7_comesTie 47 = .ok (.aload_n 0, 1) := by decide +kernel
theorem dX7_comesTie_48 : decode cX7_comesTie 48 = .ok (.getfield 22, 3) := by decide +kernel
theorem dX7_comesTie_51 : decode cX7_comesTie 51 = .ok (.iload_n 2, 1) := by decide +kernel
theorem dX7_comesTie_52 : decode cX7_comesTie 52 = .ok (.dup2, 1) := by decide +kernel
theorem dX7_comesTie_53 : decode cX7_comesTie 53 = .ok (.iaload, 1) := by decide +kernel
theorem dX7_comesTie_54 : decode cX7_comesTie 54 = .ok (.iconst 1, 1) := by decide +kernel
theorem dX7_comesTie_55 : decode cX7_comesTie 55 = .ok (.iload_n 3, 1) := by decide +kernel
theorem dX7_comesTie_56 : decode cX7_comesTie 56 = .ok (.ishl, 1) := by decide +kernel
theorem dX7_comesTie_57 : decode cX7_comesTie 57 = .ok (.ior, 1) := by decide +kernel
theorem dX7_comesTie_58 : decode cX7_comesTie 58 = .ok (.iastore, 1) := by decide +kernel
theorem dX7_comesTie_59 : decode cX7_comesTie 59 = .ok (.aload_n 0, 1) := by decide +kernel
theorem dX7_comesTie_60 : decode cX7_comesTie 60 = .ok (.getfield 22, 3) := by decide +kernel
theorem dX7_comesTie_63 : decode cX7_comesTie 63 = .ok (.iload_n 3, 1) := by decide +kernel
theorem dX7_comesTie_64 : decode cX7_comesTie 64 = .ok (.dup2, 1) := by decide +kernel
theorem dX7_comesTie_65 : decode cX7_comesTie 65 = .ok (.iaload, 1) := by decide +kernel
theorem dX7_comesTie_66 : decode cX7_comesTie 66 = .ok (.iconst 1, 1) := by decide +kernel
theorem dX7_comesTie_67 : decode cX7_comesTie 67 = .ok (.iload_n 2, 1) := by decide +kernel
theorem dX7_comesTie_68 : decode cX7_comesTie 68 = .ok (.ishl, 1) := by decide +kernel
theorem dX7_comesTie_69 : decode cX7_comesTie 69 = .ok (.ior, 1) := by decide +kernel
theorem dX7_comesTie_70 : decode cX7_comesTie 70 = .ok (.iastore, 1) := by decide +kernel
theorem dX7_comesTie_71 : decode cX7_comesTie 71 = .ok (.iconst 1, 1) := by decide +kernel
theorem dX7_comesTie_72 : decode cX7_comesTie 72 = .ok (.ireturn, 1) := by decide +kernel
theorem dX7_comesYears_0 : decode cX7_comesYears 0 = .ok (.iload_n 1, 1) := by decide +kernel
theorem dX7_comesYears_1 : decode cX7_comesYears 1 = .ok (.iconst 1, 1) := by decide +kernel
theorem dX7_comesYears_2 : decode cX7_comesYears 2 = .ok (.bipush 60, 2) := by decide +kernel
theorem dX7_comesYears_4 : decode cX7_comesYears 4 = .ok (.invokestatic 100, 3) := by decide +kernel
theorem dX7_comesYears_7 : decode cX7_comesYears 7 = .ok (.ifCond .eq 15, 3) := by decide +kernel
theorem dX7_comesYears_10 : decode cX7_comesYears 10 = .ok (.aload_n 0, 1) := by decide +kernel
theorem dX7_comesYears_11 : decode cX7_comesYears 11 = .ok (.getfield 126, 3) := by decide +kernel
theorem dX7_comesYears_14 : decode cX7_comesYears 14 = .ok (.iload_n 1, 1) := by decide +kernel
theorem dX7_comesYears_15 : decode cX7_comesYears 15 = .ok (.iadd, 1) := by decide +kernel
theorem dX7_comesYears_16 : decode cX7_comesYears 16 = .ok (.sipush 999, 3) := by decide +kernel
theorem dX7_comesYears_19 : decode cX7_comesYears 19 = .ok (.if_icmp .le 5, 3) := by decide +kernel
theorem dX7_comesYears_22 : decode cX7_comesYears 22 = .ok (.iconst 0, 1) := by decide +kernel
theorem dX7_comesYears_23 : decode cX7_comesYears 23 = .ok (.ireturn, 1) := by decide +kernel
theorem dX7_comesYears_24 : decode cX7_comesYears 24 = .ok (.aload_n 0, 1) := by decide +kernel
theorem dX7_comesYears_25 : decode cX7_comesYears 25 = .ok (.iload_n 1, 1) := by decide +kernel
theorem dX7_comesYears_26 : decode cX7_comesYears 26 = .ok (.invokevirtual 129, 3) := by decide +kernel
theorem dX7_comesYears_29 : decode cX7_comesYears 29 = .ok (.iconst 1, 1) := by decide +kernel
theorem dX7_comesYears_30 : decode cX7_comesYears 30 = .ok (.ireturn, 1) := by decide +kernel
theorem dX7_comes_0 : decode cX7_comes 0 = .ok (.iconst 3, 1) := by decide +kernel
theorem dX7_comes_1 : decode cX7_comes 1 = .ok (.iload_n 1, 1) := by decide +kernel
theorem dX7_comes_2 : decode cX7_comes 2 = .ok (.imul, 1) := by decide +kernel
theorem dX7_comes_3 : decode cX7_comes 3 = .ok (.istore_n 2, 1) := by decide +kernel
theorem dX7_comes_4 : decode cX7_comes 4 = .ok (.aload_n 0, 1) := by decide +kernel
theorem dX7_comes_5 : decode cX7_comes 5 = .ok (.getfield 35, 3) := by decide +kernel
theorem dX7_comes_8 : decode cX7_comes 8 = .ok (.iload_n 1, 1) := by decide +kernel
theorem dX7_comes_9 : decode cX7_comes 9 = .ok (.iaload, 1) := by decide +kernel
theorem dX7_comes_10 : decode cX7_comes 10 = .ok (.lookupswitch 120 #[(109, 73), (112, 34), (121, 109)], 34) := by decide +kernel
theorem dX7_comes_44 : decode cX7_comes 44 = .ok (.aload_n 0, 1) := by decide +kernel
theorem dX7_comes_45 : decode cX7_comes 45 = .ok (.getfield 65, 3) := by decide +kernel
theorem dX7_comes_48 : decode cX7_comes 48 = .ok (.bipush 8, 2) := by decide +kernel
theorem dX7_comes_50 : decode cX7_comes 50 = .ok (.if_icmp .ne 5, 3) := by decide +kernel
theorem dX7_comes_53 : decode cX7_comes 53 = .ok (.iconst 0, 1) := by decide +kernel
theorem dX7_comes_54 : decode cX7_comes 54 = .ok (.ireturn, 1) := by decide +kernel
theorem dX7_comes_55 : decode cX7_comes 55 = .ok (.aload_n 0, 1) := by decide +kernel
theorem dX7_comes_56 : decode cX7_comes 56 = .ok (.aload_n 0, 1) := by decide +kernel
theorem dX7_comes_57 : decode cX7_comes 57 = .ok (.getfield 41, 3) := by decide +kernel
theorem dX7_comes_60 : decode cX7_comes 60 = .ok (.iload_n 2, 1) := by decide +kernel
theorem dX7_comes_61 : decode cX7_comes 61 = .ok (.iaload, 1) := by decide +kernel
theorem dX7_comes_62 : decode cX7_comes 62 = .ok (.aload_n 0, 1) := by decide +kernel
theorem dX7_comes_63 : decode cX7_comes 63 = .ok (.getfield 41, 3) := by decide +kernel
theorem dX7_comes_66 : decode cX7_comes 66 = .ok (.iload_n 2, 1) := by decide +kernel
theorem dX7_comes_67 : decode cX7_comes 67 = .ok (.iconst 1, 1) := by decide +kernel
theorem dX7_comes_68 : decode cX7_comes 68 = .ok (.iadd, 1) := by decide +kernel
theorem dX7_comes_69 : decode cX7_comes 69 = .ok (.iaload, 1) := by decide +kernel
theorem dX7_comes_70 : decode cX7_comes 70 = .ok (.aload_n 0, 1) := by decide +kernel
theorem dX7_comes_71 : decode cX7_comes 71 = .ok (.getfield 41, 3) := by decide +kernel
theorem dX7_comes_74 : decode cX7_comes 74 = .ok (.iload_n 2, 1) := by decide +kernel
theorem dX7_comes_75 : decode cX7_comes 75 = .ok (.iconst 2, 1) := by decide +kernel
theorem dX7_comes_76 : decode cX7_comes 76 = .ok (.iadd, 1) := by decide +kernel
theorem dX7_comes_77 : decode cX7_comes 77 = .ok (.iaload, 1) := by decide +kernel
theorem dX7_comes_78 : decode cX7_comes 78 = .ok (.invokevirtual 133, 3) := by decide +kernel
theorem dX7_comes_81 : decode cX7_comes 81 = .ok (.iconst 1, 1) := by decide +kernel
theorem dX7_comes_82 : decode cX7_comes 82 = .ok (.ireturn, 1) := by decide +kernel
theorem dX7_comes_83 : decode cX7_comes 83 = .ok (.aload_n 0, 1) := by decide +kernel
theorem dX7_comes_84 : decode cX7_comes 84 = .ok (.aload_n 0, 1) := by decide +kernel
theorem dX7_comes_85 : decode cX7_comes 85 = .ok (.getfield 41, 3) := by decide +kernel
theorem dX7_comes_88 : decode cX7_comes 88 = .ok (.iload_n 2, 1) := by decide +kernel
theorem dX7_comes_89 : decode cX7_comes 89 = .ok (.iaload, 1) := by decide +kernel
theorem dX7_comes_90 : decode cX7_comes 90 = .ok (.invokevirtual 71, 3) := by decide +kernel
theorem dX7_comes_93 : decode cX7_comes 93 = .ok (.ifCond .ne 5, 3) := by decide +kernel
theorem dX7_comes_96 : decode cX7_comes 96 = .ok (.iconst 0, 1) := by decide +kernel
theorem dX7_comes_97 : decode cX7_comes 97 = .ok (.ireturn, 1) := by decide +kernel
theorem dX7_comes_98 : decode cX7_comes 98 = .ok (.aload_n 0, 1) := by decide +kernel
theorem dX7_comes_99 : decode cX7_comes 99 = .ok (.getfield 19, 3) := by decide +kernel
theorem dX7_comes_102 : decode cX7_comes 102 = .ok (.aload_n 0, 1) := by decide +kernel
theorem dX7_comes_103 : decode cX7_comes 103 = .ok (.getfield 41, 3) := by decide +kernel
theorem dX7_comes_106 : decode cX7_comes 106 = .ok (.iload_n 2, 1) := by decide +kernel
theorem dX7_comes_107 : decode cX7_comes 107 = .ok (.iaload, 1) := by decide +kernel
theorem dX7_comes_108 : decode cX7_comes 108 = .ok (.aload_n 0, 1) := by decide +kernel
theorem dX7_comes_109 : decode cX7_comes 109 = .ok (.getfield 41, 3) := by decide +kernel
theorem dX7_comes_112 : decode cX7_comes 112 = .ok (.iload_n 2, 1) := by decide +kernel
theorem dX7_comes_113 : decode cX7_comes 113 = .ok (.iconst 1, 1) := by decide +kernel
theorem dX7_comes_114 : decode cX7_comes 114 = .ok (.iadd, 1) := by decide +kernel
theorem dX7_comes_115 : decode cX7_comes 115 = .ok (.iaload, 1) := by decide +kernel
theorem dX7_comes_116 : decode cX7_comes 116 = .ok (.iastore, 1) := by decide +kernel
theorem dX7_comes_117 : decode cX7_comes 117 = .ok (.iconst 1, 1) := by decide +kernel
theorem dX7_comes_118 : decode cX7_comes 118 = .ok (.ireturn, 1) := by decide +kernel
theorem dX7_comes_119 : decode cX7_comes 119 = .ok (.aload_n 0, 1) := by decide +kernel
theorem dX7_comes_120 : decode cX7_comes 120 = .ok (.aload_n 0, 1) := by decide +kernel
theorem dX7_comes_121 : decode cX7_comes 121 = .ok (.getfield 41, 3) := by decide +kernel
theorem dX7_comes_124 : decode cX7_comes 124 = .ok (.iload_n 2, 1) := by decide +kernel
theorem dX7_comes_125 : decode cX7_comes 125 = .ok (.iaload, 1) := by decide +kernel
theorem dX7_comes_126 : decode cX7_comes 126 = .ok (.invokevirtual 137, 3) := by decide +kernel
theorem dX7_comes_129 : decode cX7_comes 129 = .ok (.ireturn, 1) := by decide +kernel
theorem dX7_comes_130 : decode cX7_comes 130 = .ok (.aload_n 0, 1) := by decide +kernel
theorem dX7_comes_131 : decode cX7_comes 131 = .ok (.aload_n 0, 1) := by decide +kernel
theorem dX7_comes_132 : decode cX7_comes 132 = .ok (.getfield 35, 3) := by decide +kernel
theorem dX7_comes_135 : decode cX7_comes 135 = .ok (.iload_n 1, 1) := by decide +kernel
theorem dX7_comes_136 : decode cX7_comes 136 = .ok (.iaload, 1) := by decide +kernel
theorem dX7_comes_137 : decode cX7_comes 137 = .ok (.aload_n 0, 1) := by decide +kernel
theorem dX7_comes_138 : decode cX7_comes 138 = .ok (.getfield 41, 3) := by decide +kernel
theorem dX7_comes_141 : decode cX7_comes 141 = .ok (.iload_n 2, 1) := by decide +kernel
theorem dX7_comes_142 : decode cX7_comes 142 = .ok (.iaload, 1) := by decide +kernel
theorem dX7_comes_143 : decode cX7_comes 143 = .ok (.aload_n 0, 1) := by decide +kernel
theorem dX7_comes_144 : decode cX7_comes 144 = .ok (.getfield 41, 3) := by decide +kernel
theorem dX7_comes_147 : decode cX7_comes 147 = .ok (.iload_n 2, 1) := by decide +kernel
theorem dX7_comes_148 : decode cX7_comes 148 = .ok (.iconst 1, 1) := by decide +kernel
theorem dX7_comes_149 : decode cX7_comes 149 = .ok (.iadd, 1) := by decide +kernel
theorem dX7_comes_150 : decode cX7_comes 150 = .ok (.iaload, 1) := by decide +kernel
theorem dX7_comes_151 : decode cX7_comes 151 = .ok (.invokevirtual 140, 3) := by decide +kernel
theorem dX7_comes_154 : decode cX7_comes 154 = .ok (.ireturn, 1) := by decide +kernel
theorem dX7_county_0 : decode cX7_county 0 = .ok (.aload_n 0, 1) := by decide +kernel
theorem dX7_county_1 : decode cX7_county 1 = .ok (.iconst 0, 1) := by decide +kernel
theorem dX7_county_2 : decode cX7_county 2 = .ok (.putfield 93, 3) := by decide +kernel
theorem dX7_county_5 : decode cX7_county 5 = .ok (.aload_n 0, 1) := by decide +kernel
theorem dX7_county_6 : decode cX7_county 6 = .ok (.iconst 0, 1) := by decide +kernel
theorem dX7_county_7 : decode cX7_county 7 = .ok (.putfield 113, 3) := by decide +kernel
theorem dX7_county_10 : decode cX7_county 10 = .ok (.iconst 1, 1) := by decide +kernel
theorem dX7_county_11 : decode cX7_county 11 = .ok (.istore_n 1, 1) := by decide +kernel
theorem dX7_county_12 : decode cX7_county 12 = .ok (.iload_n 1, 1) := by decide +kernel
theorem dX7_county_13 : decode cX7_county 13 = .ok (.ifCond .eq 47, 3) := by decide +kernel
theorem dX7_county_16 : decode cX7_county 16 = .ok (.aload_n 0, 1) := by decide +kernel
theorem dX7_county_17 : decode cX7_county 17 = .ok (.getfield 93, 3) := by decide +kernel
theorem dX7_county_20 : decode cX7_county 20 = .ok (.aload_n 0, 1) := by decide +kernel
theorem dX7_county_21 : decode cX7_county 21 = .ok (.getfield 86, 3) := by decide +kernel
theorem dX7_county_24 : decode cX7_county 24 = .ok (.if_icmp .lt 10, 3) := by decide +kernel
theorem dX7_county_27 : decode cX7_county 27 = .ok (.aload_n 0, 1) := by decide +kernel
theorem dX7_county_28 : decode cX7_county 28 = .ok (.getfield 113, 3) := by decide +kernel
theorem dX7_county_31 : decode cX7_county 31 = .ok (.ifCond .ne 29, 3) := by decide +kernel
theorem dX7_county_34 : decode cX7_county 34 = .ok (.aload_n 0, 1) := by decide +kernel
theorem dX7_county_35 : decode cX7_county 35 = .ok (.invokevirtual 143, 3) := by decide +kernel
theorem dX7_county_38 : decode cX7_county 38 = .ok (.istore_n 1, 1) := by decide +kernel
theorem dX7_county_39 : decode cX7_county 39 = .ok (.aload_n 0, 1) := by decide +kernel
theorem dX7_county_40 : decode cX7_county 40 = .ok (.dup, 1) := by decide +kernel
theorem dX7_county_41 : decode cX7_county 41 = .ok (.getfield 113, 3) := by decide +kernel
theorem dX7_county_44 : decode cX7_county 44 = .ok (.iload_n 1, 1) := by decide +kernel
theorem dX7_county_45 : decode cX7_county 45 = .ok (.ifCond .eq 7, 3) := by decide +kernel
theorem dX7_county_48 : decode cX7_county 48 = .ok (.iconst 1, 1) := by decide +kernel
theorem dX7_county_49 : decode cX7_county 49 = .ok (.goto 4, 3) := by decide +kernel
theorem dX7_county_52 : decode cX7_county 52 = .ok (.iconst 0, 1) := by decide +kernel
theorem dX7_county_53 : decode cX7_county 53 = .ok (.iadd, 1) := by decide +kernel
theorem dX7_county_54 : decode cX7_county 54 = .ok (.putfield 113, 3) := by decide +kernel
theorem dX7_county_57 : decode cX7_county 57 = .ok (.goto (-45), 3) := by decide +kernel
theorem dX7_county_60 : decode cX7_county 60 = .ok (.aload_n 0, 1) := by decide +kernel
theorem dX7_county_61 : decode cX7_county 61 = .ok (.iconst 0, 1) := by decide +kernel
theorem dX7_county_62 : decode cX7_county 62 = .ok (.putfield 86, 3) := by decide +kernel
theorem dX7_county_65 : decode cX7_county 65 = .ok (.iload_n 1, 1) := by decide +kernel
theorem dX7_county_66 : decode cX7_county 66 = .ok (.ifCond .ne 12, 3) := by decide +kernel
theorem dX7_county_69 : decode cX7_county 69 = .ok (.sipush (-1000), 3) := by decide +kernel
theorem dX7_county_72 : decode cX7_county 72 = .ok (.aload_n 0, 1) := by decide +kernel
theorem dX7_county_73 : decode cX7_county 73 = .ok (.getfield 93, 3) := by decide +kernel
theorem dX7_county_76 : decode cX7_county 76 = .ok (.isub, 1) := by decide +kernel
theorem dX7_county_77 : decode cX7_county 77 = .ok (.ireturn, 1) := by decide +kernel
theorem dX7_county_78 : decode cX7_county 78 = .ok (.aload_n 0, 1) := by decide +kernel
theorem dX7_county_79 : decode cX7_county 79 = .ok (.iconst 1, 1) := by decide +kernel
theorem dX7_county_80 : decode cX7_county 80 = .ok (.iconst 1, 1) := by decide +kernel
theorem dX7_county_81 : decode cX7_county 81 = .ok (.invokevirtual 147, 3) := by decide +kernel
theorem dX7_county_84 : decode cX7_county 84 = .ok (.iconst 0, 1) := by decide +kernel
theorem dX7_county_85 : decode cX7_county 85 = .ok (.istore_n 2, 1) := by decide +kernel
theorem dX7_county_86 : decode cX7_county 86 = .ok (.iload_n 2, 1) := by decide +kernel
theorem dX7_county_87 : decode cX7_county 87 = .ok (.aload_n 0, 1) := by decide +kernel
theorem dX7_county_88 : decode cX7_county 88 = .ok (.getfield 113, 3) := by decide +kernel
theorem dX7_county_91 : decode cX7_county 91 = .ok (.if_icmp .ge 37, 3) := by decide +kernel
theorem dX7_county_94 : decode cX7_county 94 = .ok (.aload_n 0, 1) := by decide +kernel
theorem dX7_county_95 : decode cX7_county 95 = .ok (.iload_n 2, 1) := by decide +kernel
theorem dX7_county_96 : decode cX7_county 96 = .ok (.invokevirtual 151, 3) := by decide +kernel
theorem dX7_county_99 : decode cX7_county 99 = .ok (.ifCond .eq 6, 3) := by decide +kernel
theorem dX7_county_102 : decode cX7_county 102 = .ok (.goto 20, 3) := by decide +kernel
theorem dX7_county_105 : decode cX7_county 105 = .ok (.aload_n 0, 1) := by decide +kernel
theorem dX7_county_106 : decode cX7_county 106 = .ok (.iconst 1, 1) := by decide +kernel
theorem dX7_county_107 : decode cX7_county 107 = .ok (.iconst 0, 1) := by decide +kernel
theorem dX7_county_108 : decode cX7_county 108 = .ok (.invokevirtual 147, 3) := by decide +kernel
theorem dX7_county_111 : decode cX7_county 111 = .ok (.sipush (-2000), 3) := by decide +kernel
theorem dX7_county_114 : decode cX7_county 114 = .ok (.aload_n 0, 1) := by decide +kernel
theorem dX7_county_115 : decode cX7_county 115 = .ok (.getfield 38, 3) := by decide +kernel
theorem dX7_county_118 : decode cX7_county 118 = .ok (.iload_n 2, 1) := by decide +kernel
theorem dX7_county_119 : decode cX7_county 119 = .ok (.iaload, 1) := by decide +kernel
theorem dX7_county_120 : decode cX7_county 120 = .ok (.isub, 1) := by decide +kernel
theorem dX7_county_121 : decode cX7_county 121 = .ok (.ireturn, 1) := by decide +kernel
theorem dX7_county_122 : decode cX7_county 122 = .ok (.iinc 2 1, 3) := by decide +kernel
theorem dX7_county_125 : decode cX7_county 125 = .ok (.goto (-39), 3) := by decide +kernel
theorem dX7_county_128 : decode cX7_county 128 = .ok (.aload_n 0, 1) := by decide +kernel
theorem dX7_county_129 : decode cX7_county 129 = .ok (.getfield 113, 3) := by decide +kernel
theorem dX7_county_132 : decode cX7_county 132 = .ok (.ireturn, 1) := by decide +kernel
theorem dX7_passes_0 : decode cX7_passes 0 = .ok (.iconst 0, 1) := by decide +kernel
theorem dX7_passes_1 : decode cX7_passes 1 = .ok (.istore_n 2, 1) := by decide +kernel
theorem dX7_passes_2 : decode cX7_passes 2 = .ok (.iload_n 2, 1) := by decide +kernel
theorem dX7_passes_3 : decode cX7_passes 3 = .ok (.aload_n 1, 1) := by decide +kernel
theorem dX7_passes_4 : decode cX7_passes 4 = .ok (.arraylength, 1) := by decide +kernel
theorem dX7_passes_5 : decode cX7_passes 5 = .ok (.if_icmp .ge 53, 3) := by decide +kernel
theorem dX7_passes_8 : decode cX7_passes 8 = .ok (.aload_n 0, 1) := by decide +kernel
theorem dX7_passes_9 : decode cX7_passes 9 = .ok (.getfield 154, 3) := by decide +kernel
theorem dX7_passes_12 : decode cX7_passes 12 = .ok (.ifCond .eq 18, 3) := by decide +kernel
theorem dX7_passes_15 : decode cX7_passes 15 = .ok (.aload_n 0, 1) := by decide +kernel
theorem dX7_passes_16 : decode cX7_passes 16 = .ok (.getfield 44, 3) := by decide +kernel
theorem dX7_passes_19 : decode cX7_passes 19 = .ok (.aload_n 0, 1) := by decide +kernel
theorem dX7_passes_20 : decode cX7_passes 20 = .ok (.getfield 158, 3) := by decide +kernel
theorem dX7_passes_23 : decode cX7_passes 23 = .ok (.aload_n 1, 1) := by decide +kernel
theorem dX7_passes_24 : decode cX7_passes 24 = .ok (.iload_n 2, 1) := by decide +kernel
theorem dX7_passes_25 : decode cX7_passes 25 = .ok (.iaload, 1) := by decide +kernel
theorem dX7_passes_26 : decode cX7_passes 26 = .ok (.iastore, 1) := by decide +kernel
theorem dX7_passes_27 : decode cX7_passes 27 = .ok (.goto 15, 3) := by decide +kernel
theorem dX7_passes_30 : decode cX7_passes 30 = .ok (.aload_n 1, 1) := by decide +kernel
theorem dX7_passes_31 : decode cX7_passes 31 = .ok (.iload_n 2, 1) := by decide +kernel
theorem dX7_passes_32 : decode cX7_passes 32 = .ok (.aload_n 0, 1) := by decide +kernel
theorem dX7_passes_33 : decode cX7_passes 33 = .ok (.getfield 44, 3) := by decide +kernel
theorem dX7_passes_36 : decode cX7_passes 36 = .ok (.aload_n 0, 1) := by decide +kernel
theorem dX7_passes_37 : decode cX7_passes 37 = .ok (.getfield 158, 3) := by decide +kernel
theorem dX7_passes_40 : decode cX7_passes 40 = .ok (.iaload, 1) := by decide +kernel
theorem dX7_passes_41 : decode cX7_passes 41 = .ok (.iastore, 1) := by decide +kernel
theorem dX7_passes_42 : decode cX7_passes 42 = .ok (.aload_n 0, 1) := by decide +kernel
theorem dX7_passes_43 : decode cX7_passes 43 = .ok (.dup, 1) := by decide +kernel
theorem dX7_passes_44 : decode cX7_passes 44 = .ok (.getfield 158, 3) := by decide +kernel
theorem dX7_passes_47 : decode cX7_passes 47 = .ok (.iconst 1, 1) := by decide +kernel
theorem dX7_passes_48 : decode cX7_passes 48 = .ok (.iadd, 1) := by decide +kernel
theorem dX7_passes_49 : decode cX7_passes 49 = .ok (.putfield 158, 3) := by decide +kernel
theorem dX7_passes_52 : decode cX7_passes 52 = .ok (.iinc 2 1, 3) := by decide +kernel
theorem dX7_passes_55 : decode cX7_passes 55 = .ok (.goto (-53), 3) := by decide +kernel
theorem dX7_passes_58 : decode cX7_passes 58 = .ok (.return_, 1) := by decide +kernel
theorem dX7_passOne_0 : decode cX7_passOne 0 = .ok (.aload_n 0, 1) := by decide +kernel
theorem dX7_passOne_1 : decode cX7_passOne 1 = .ok (.getfield 154, 3) := by decide +kernel
theorem dX7_passOne_4 : decode cX7_passOne 4 = .ok (.ifCond .eq 7, 3) := by decide +kernel
theorem dX7_passOne_7 : decode cX7_passOne 7 = .ok (.iload_n 1, 1) := by decide +kernel
theorem dX7_passOne_8 : decode cX7_passOne 8 = .ok (.goto 12, 3) := by decide +kernel
theorem dX7_passOne_11 : decode cX7_passOne 11 = .ok (.aload_n 0, 1) := by decide +kernel
theorem dX7_passOne_12 : decode cX7_passOne 12 = .ok (.getfield 44, 3) := by decide +kernel
theorem dX7_passOne_15 : decode cX7_passOne 15 = .ok (.aload_n 0, 1) := by decide +kernel
theorem dX7_passOne_16 : decode cX7_passOne 16 = .ok (.getfield 158, 3) := by decide +kernel
theorem dX7_passOne_19 : decode cX7_passOne 19 = .ok (.iaload, 1) := by decide +kernel
theorem dX7_passOne_20 : decode cX7_passOne 20 = .ok (.istore_n 2, 1) := by decide +kernel
theorem dX7_passOne_21 : decode cX7_passOne 21 = .ok (.aload_n 0, 1) := by decide +kernel
theorem dX7_passOne_22 : decode cX7_passOne 22 = .ok (.getfield 154, 3) := by decide +kernel
theorem dX7_passOne_25 : decode cX7_passOne 25 = .ok (.ifCond .eq 13, 3) := by decide +kernel
theorem dX7_passOne_28 : decode cX7_passOne 28 = .ok (.aload_n 0, 1) := by decide +kernel
theorem dX7_passOne_29 : decode cX7_passOne 29 = .ok (.getfield 44, 3) := by decide +kernel
theorem dX7_passOne_32 : decode cX7_passOne 32 = .ok (.aload_n 0, 1) := by decide +kernel
theorem dX7_passOne_33 : decode cX7_passOne 33 = .ok (.getfield 158, 3) := by decide +kernel
theorem dX7_passOne_36 : decode cX7_passOne 36 = .ok (.iload_n 1, 1) := by decide +kernel
theorem dX7_passOne_37 : decode cX7_passOne 37 = .ok (.iastore, 1) := by decide +kernel
theorem dX7_passOne_38 : decode cX7_passOne 38 = .ok (.aload_n 0, 1) := by decide +kernel
theorem dX7_passOne_39 : decode cX7_passOne 39 = .ok (.dup, 1) := by decide +kernel
theorem dX7_passOne_40 : decode cX7_passOne 40 = .ok (.getfield 158, 3) := by decide +kernel
theorem dX7_passOne_43 : decode cX7_passOne 43 = .ok (.iconst 1, 1) := by decide +kernel
theorem dX7_passOne_44 : decode cX7_passOne 44 = .ok (.iadd, 1) := by decide +kernel
theorem dX7_passOne_45 : decode cX7_passOne 45 = .ok (.putfield 158, 3) := by decide +kernel
theorem dX7_passOne_48 : decode cX7_passOne 48 = .ok (.iload_n 2, 1) := by decide +kernel
theorem dX7_passOne_49 : decode cX7_passOne 49 = .ok (.ireturn, 1) := by decide +kernel
theorem dX7_passesAll_0 : decode cX7_passesAll 0 = .ok (.aload_n 0, 1) := by decide +kernel
theorem dX7_passesAll_1 : decode cX7_passesAll 1 = .ok (.bipush 42, 2) := by decide +kernel
theorem dX7_passesAll_3 : decode cX7_passesAll 3 = .ok (.iload_n 1, 1) := by decide +kernel
theorem dX7_passesAll_4 : decode cX7_passesAll 4 = .ok (.imul, 1) := by decide +kernel
theorem dX7_passesAll_5 : decode cX7_passesAll 5 = .ok (.putfield 158, 3) := by decide +kernel
theorem dX7_passesAll_8 : decode cX7_passesAll 8 = .ok (.aload_n 0, 1) := by decide +kernel
theorem dX7_passesAll_9 : decode cX7_passesAll 9 = .ok (.iload_n 2, 1) := by decide +kernel
theorem dX7_passesAll_10 : decode cX7_passesAll 10 = .ok (.putfield 154, 3) := by decide +kernel
theorem dX7_passesAll_13 : decode cX7_passesAll 13 = .ok (.aload_n 0, 1) := by decide +kernel
theorem dX7_passesAll_14 : decode cX7_passesAll 14 = .ok (.aload_n 0, 1) := by decide +kernel
theorem dX7_passesAll_15 : decode cX7_passesAll 15 = .ok (.getfield 13, 3) := by decide +kernel
theorem dX7_passesAll_18 : decode cX7_passesAll 18 = .ok (.invokevirtual 161, 3) := by decide +kernel
theorem dX7_passesAll_21 : decode cX7_passesAll 21 = .ok (.aload_n 0, 1) := by decide +kernel
theorem dX7_passesAll_22 : decode cX7_passesAll 22 = .ok (.aload_n 0, 1) := by decide +kernel
theorem dX7_passesAll_23 : decode cX7_passesAll 23 = .ok (.getfield 16, 3) := by decide +kernel
theorem dX7_passesAll_26 : decode cX7_passesAll 26 = .ok (.invokevirtual 161, 3) := by decide +kernel
theorem dX7_passesAll_29 : decode cX7_passesAll 29 = .ok (.aload_n 0, 1) := by decide +kernel
theorem dX7_passesAll_30 : decode cX7_passesAll 30 = .ok (.aload_n 0, 1) := by decide +kernel
theorem dX7_passesAll_31 : decode cX7_passesAll 31 = .ok (.getfield 19, 3) := by decide +kernel
theorem dX7_passesAll_34 : decode cX7_passesAll 34 = .ok (.invokevirtual 161, 3) := by decide +kernel
theorem dX7_passesAll_37 : decode cX7_passesAll 37 = .ok (.aload_n 0, 1) := by decide +kernel
theorem dX7_passesAll_38 : decode cX7_passesAll 38 = .ok (.aload_n 0, 1) := by decide +kernel
theorem dX7_passesAll_39 : decode cX7_passesAll 39 = .ok (.getfield 22, 3) := by decide +kernel
theorem dX7_passesAll_42 : decode cX7_passesAll 42 = .ok (.invokevirtual 161, 3) := by decide +kernel
theorem dX7_passesAll_45 : decode cX7_passesAll 45 = .ok (.aload_n 0, 1) := by decide +kernel
theorem dX7_passesAll_46 : decode cX7_passesAll 46 = .ok (.aload_n 0, 1) := by decide +kernel
theorem dX7_passesAll_47 : decode cX7_passesAll 47 = .ok (.getfield 25, 3) := by decide +kernel
theorem dX7_passesAll_50 : decode cX7_passesAll 50 = .ok (.invokevirtual 161, 3) := by decide +kernel
theorem dX7_passesAll_53 : decode cX7_passesAll 53 = .ok (.aload_n 0, 1) := by decide +kernel
theorem dX7_passesAll_54 : decode cX7_passesAll 54 = .ok (.aload_n 0, 1) := by decide +kernel
theorem dX7_passesAll_55 : decode cX7_passesAll 55 = .ok (.aload_n 0, 1) := by decide +kernel
theorem dX7_passesAll_56 : decode cX7_passesAll 56 = .ok (.getfield 65, 3) := by decide +kernel
theorem dX7_passesAll_59 : decode cX7_passesAll 59 = .ok (.invokevirtual 165, 3) := by decide +kernel
theorem dX7_passesAll_62 : decode cX7_passesAll 62 = .ok (.putfield 65, 3) := by decide +kernel
theorem dX7_passesAll_65 : decode cX7_passesAll 65 = .ok (.aload_n 0, 1) := by decide +kernel
theorem dX7_passesAll_66 : decode cX7_passesAll 66 = .ok (.aload_n 0, 1) := by decide +kernel
theorem dX7_passesAll_67 : decode cX7_passesAll 67 = .ok (.aload_n 0, 1) := by decide +kernel
theorem dX7_passesAll_68 : decode cX7_passesAll 68 = .ok (.getfield 126, 3) := by decide +kernel
theorem dX7_passesAll_71 : decode cX7_passesAll 71 = .ok (.invokevirtual 165, 3) := by decide +kernel
theorem dX7_passesAll_74 : decode cX7_passesAll 74 = .ok (.putfield 126, 3) := by decide +kernel
theorem dX7_passesAll_77 : decode cX7_passesAll 77 = .ok (.return_, 1) := by decide +kernel
theorem dX7_thinks_0 : decode cX7_thinks 0 = .ok (.aload_n 0, 1) := by decide +kernel
theorem dX7_thinks_1 : decode cX7_thinks 1 = .ok (.iconst 2, 1) := by decide +kernel
theorem dX7_thinks_2 : decode cX7_thinks 2 = .ok (.iconst 1, 1) := by decide +kernel
theorem dX7_thinks_3 : decode cX7_thinks 3 = .ok (.invokevirtual 147, 3) := by decide +kernel
theorem dX7_thinks_6 : decode cX7_thinks 6 = .ok (.return_, 1) := by decide +kernel
theorem dX7_forgets_0 : decode cX7_forgets 0 = .ok (.aload_n 0, 1) := by decide +kernel
theorem dX7_forgets_1 : decode cX7_forgets 1 = .ok (.iconst 2, 1) := by decide +kernel
theorem dX7_forgets_2 : decode cX7_forgets 2 = .ok (.iconst 0, 1) := by decide +kernel
theorem dX7_forgets_3 : decode cX7_forgets 3 = .ok (.invokevirtual 147, 3) := by decide +kernel
theorem dX7_forgets_6 : decode cX7_forgets 6 = .ok (.return_, 1) := by decide +kernel
theorem dX7_changes_0 : decode cX7_changes 0 = .ok (.aload_n 0, 1) := by decide +kernel
theorem dX7_changes_1 : decode cX7_changes 1 = .ok (.iconst 1, 1) := by decide +kernel
theorem dX7_changes_2 : decode cX7_changes 2 = .ok (.iconst 1, 1) := by decide +kernel
theorem dX7_changes_3 : decode cX7_changes 3 = .ok (.invokevirtual 147, 3) := by decide +kernel
theorem dX7_changes_6 : decode cX7_changes 6 = .ok (.return_, 1) := by decide +kernel
theorem dX7_changesBack_0 : decode cX7_changesBack 0 = .ok (.aload_n 0, 1) := by decide +kernel
theorem dX7_changesBack_1 : decode cX7_changesBack 1 = .ok (.iconst 1, 1) := by decide +kernel
theorem dX7_changesBack_2 : decode cX7_changesBack 2 = .ok (.iconst 0, 1) := by decide +kernel
theorem dX7_changesBack_3 : decode cX7_changesBack 3 = .ok (.invokevirtual 147, 3) := by decide +kernel
theorem dX7_changesBack_6 : decode cX7_changesBack 6 = .ok (.return_, 1) := by decide +kernel
theorem dX7_image_0 : decode cX7_image 0 = .ok (.aload_n 0, 1) := by decide +kernel
theorem dX7_image_1 : decode cX7_image 1 = .ok (.iconst 1, 1) := by decide +kernel
theorem dX7_image_2 : decode cX7_image 2 = .ok (.putfield 168, 3) := by decide +kernel
theorem dX7_image_5 : decode cX7_image 5 = .ok (.aload_n 0, 1) := by decide +kernel
theorem dX7_image_6 : decode cX7_image 6 = .ok (.iconst 0, 1) := by decide +kernel
theorem dX7_image_7 : decode cX7_image 7 = .ok (.iconst 1, 1) := by decide +kernel
theorem dX7_image_8 : decode cX7_image 8 = .ok (.invokevirtual 147, 3) := by decide +kernel
theorem dX7_image_11 : decode cX7_image 11 = .ok (.aload_n 0, 1) := by decide +kernel
theorem dX7_image_12 : decode cX7_image 12 = .ok (.getfield 126, 3) := by decide +kernel
theorem dX7_image_15 : decode cX7_image 15 = .ok (.ireturn, 1) := by decide +kernel
theorem dX7_on_0 : decode cX7_on 0 = .ok (.aload_n 0, 1) := by decide +kernel
theorem dX7_on_1 : decode cX7_on 1 = .ok (.getfield 168, 3) := by decide +kernel
theorem dX7_on_4 : decode cX7_on 4 = .ok (.ifCond .ne 10, 3) := by decide +kernel
theorem dX7_on_7 : decode cX7_on 7 = .ok (.aload_n 0, 1) := by decide +kernel
theorem dX7_on_8 : decode cX7_on 8 = .ok (.bipush (-3), 2) := by decide +kernel
theorem dX7_on_10 : decode cX7_on 10 = .ok (.invokevirtual 89, 3) := by decide +kernel
theorem dX7_on_13 : decode cX7_on 13 = .ok (.ireturn, 1) := by decide +kernel
theorem dX7_on_14 : decode cX7_on 14 = .ok (.aload_n 0, 1) := by decide +kernel
theorem dX7_on_15 : decode cX7_on 15 = .ok (.iconst 0, 1) := by decide +kernel
theorem dX7_on_16 : decode cX7_on 16 = .ok (.iconst 0, 1) := by decide +kernel
theorem dX7_on_17 : decode cX7_on 17 = .ok (.invokevirtual 147, 3) := by decide +kernel
theorem dX7_on_20 : decode cX7_on 20 = .ok (.aload_n 0, 1) := by decide +kernel
theorem dX7_on_21 : decode cX7_on 21 = .ok (.getfield 126, 3) := by decide +kernel
theorem dX7_on_24 : decode cX7_on 24 = .ok (.ireturn, 1) := by decide +kernel
theorem dX7_adds_0 : decode cX7_adds 0 = .ok (.aload_n 0, 1) := by decide +kernel
theorem dX7_adds_1 : decode cX7_adds 1 = .ok (.getfield 13, 3) := by decide +kernel
theorem dX7_adds_4 : decode cX7_adds 4 = .ok (.aload_n 0, 1) := by decide +kernel
theorem dX7_adds_5 : decode cX7_adds 5 = .ok (.getfield 65, 3) := by decide +kernel
theorem dX7_adds_8 : decode cX7_adds 8 = .ok (.iload_n 1, 1) := by decide +kernel
theorem dX7_adds_9 : decode cX7_adds 9 = .ok (.iastore, 1) := by decide +kernel
theorem dX7_adds_10 : decode cX7_adds 10 = .ok (.aload_n 0, 1) := by decide +kernel
theorem dX7_adds_11 : decode cX7_adds 11 = .ok (.getfield 16, 3) := by decide +kernel
theorem dX7_adds_14 : decode cX7_adds 14 = .ok (.aload_n 0, 1) := by decide +kernel
theorem dX7_adds_15 : decode cX7_adds 15 = .ok (.getfield 65, 3) := by decide +kernel
theorem dX7_adds_18 : decode cX7_adds 18 = .ok (.iload_n 2, 1) := by decide +kernel
theorem dX7_adds_19 : decode cX7_adds 19 = .ok (.iastore, 1) := by decide +kernel
theorem dX7_adds_20 : decode cX7_adds 20 = .ok (.aload_n 0, 1) := by decide +kernel
theorem dX7_adds_21 : decode cX7_adds 21 = .ok (.getfield 19, 3) := by decide +kernel
theorem dX7_adds_24 : decode cX7_adds 24 = .ok (.aload_n 0, 1) := by decide +kernel
theorem dX7_adds_25 : decode cX7_adds 25 = .ok (.getfield 65, 3) := by decide +kernel
theorem dX7_adds_28 : decode cX7_adds 28 = .ok (.iload_n 3, 1) := by decide +kernel
theorem dX7_adds_29 : decode cX7_adds 29 = .ok (.iastore, 1) := by decide +kernel
theorem dX7_adds_30 : decode cX7_adds 30 = .ok (.aload_n 0, 1) := by decide +kernel
theorem dX7_adds_31 : decode cX7_adds 31 = .ok (.getfield 22, 3) := by decide +kernel
theorem dX7_adds_34 : decode cX7_adds 34 = .ok (.aload_n 0, 1) := by decide +kernel
theorem dX7_adds_35 : decode cX7_adds 35 = .ok (.getfield 65, 3) := by decide +kernel
theorem dX7_adds_38 : decode cX7_adds 38 = .ok (.iconst 0, 1) := by decide +kernel
theorem dX7_adds_39 : decode cX7_adds 39 = .ok (.iastore, 1) := by decide +kernel
theorem dX7_adds_40 : decode cX7_adds 40 = .ok (.aload_n 0, 1) := by decide +kernel
theorem dX7_adds_41 : decode cX7_adds 41 = .ok (.getfield 25, 3) := by decide +kernel
theorem dX7_adds_44 : decode cX7_adds 44 = .ok (.aload_n 0, 1) := by decide +kernel
theorem dX7_adds_45 : decode cX7_adds 45 = .ok (.getfield 65, 3) := by decide +kernel
theorem dX7_adds_48 : decode cX7_adds 48 = .ok (.iconst 0, 1) := by decide +kernel
theorem dX7_adds_49 : decode cX7_adds 49 = .ok (.iastore, 1) := by decide +kernel
theorem dX7_adds_50 : decode cX7_adds 50 = .ok (.aload_n 0, 1) := by decide +kernel
theorem dX7_adds_51 : decode cX7_adds 51 = .ok (.dup, 1) := by decide +kernel
theorem dX7_adds_52 : decode cX7_adds 52 = .ok (.getfield 65, 3) := by decide +kernel
theorem dX7_adds_55 : decode cX7_adds 55 = .ok (.iconst 1, 1) := by decide +kernel
theorem dX7_adds_56 : decode cX7_adds 56 = .ok (.iadd, 1) := by decide +kernel
theorem dX7_adds_57 : decode cX7_adds 57 = .ok (.putfield 65, 3) := by decide +kernel
theorem dX7_adds_60 : decode cX7_adds 60 = .ok (.return_, 1) := by decide +kernel
theorem dX7_turnsFeud_0 : decode cX7_turnsFeud 0 = .ok (.aload_n 0, 1) := by decide +kernel
theorem dX7_turnsFeud_1 : decode cX7_turnsFeud 1 = .ok (.getfield 25, 3) := by decide +kernel
theorem dX7_turnsFeud_4 : decode cX7_turnsFeud 4 = .ok (.iload_n 1, 1) := by decide +kernel
theorem dX7_turnsFeud_5 : decode cX7_turnsFeud 5 = .ok (.dup2, 1) := by decide +kernel
theorem dX7_turnsFeud_6 : decode cX7_turnsFeud 6 = .ok (.iaload, 1) := by decide +kernel
theorem dX7_turnsFeud_7 : decode cX7_turnsFeud 7 = .ok (.iconst 1, 1) := by decide +kernel
theorem dX7_turnsFeud_8 : decode cX7_turnsFeud 8 = .ok (.iload_n 2, 1) := by decide +kernel
theorem dX7_turnsFeud_9 : decode cX7_turnsFeud 9 = .ok (.ishl, 1) := by decide +kernel
theorem dX7_turnsFeud_10 : decode cX7_turnsFeud 10 = .ok (.ixor, 1) := by decide +kernel
theorem dX7_turnsFeud_11 : decode cX7_turnsFeud 11 = .ok (.iastore, 1) := by decide +kernel
theorem dX7_turnsFeud_12 : decode cX7_turnsFeud 12 = .ok (.aload_n 0, 1) := by decide +kernel
theorem dX7_turnsFeud_13 : decode cX7_turnsFeud 13 = .ok (.getfield 25, 3) := by decide +kernel
theorem dX7_turnsFeud_16 : decode cX7_turnsFeud 16 = .ok (.iload_n 2, 1) := by decide +kernel
theorem dX7_turnsFeud_17 : decode cX7_turnsFeud 17 = .ok (.dup2, 1) := by decide +kernel
theorem dX7_turnsFeud_18 : decode cX7_turnsFeud 18 = .ok (.iaload, 1) := by decide +kernel
theorem dX7_turnsFeud_19 : decode cX7_turnsFeud 19 = .ok (.iconst 1, 1) := by decide +kernel
theorem dX7_turnsFeud_20 : decode cX7_turnsFeud 20 = .ok (.iload_n 1, 1) := by decide +kernel
theorem dX7_turnsFeud_21 : decode cX7_turnsFeud 21 = .ok (.ishl, 1) := by decide +kernel
theorem dX7_turnsFeud_22 : decode cX7_turnsFeud 22 = .ok (.ixor, 1) := by decide +kernel
theorem dX7_turnsFeud_23 : decode cX7_turnsFeud 23 = .ok (.iastore, 1) := by decide +kernel
theorem dX7_turnsFeud_24 : decode cX7_turnsFeud 24 = .ok (.return_, 1) := by decide +kernel
theorem dX7_paysOf_0 : decode cX7_paysOf 0 = .ok (.iconst 1, 1) := by decide +kernel
theorem dX7_paysOf_1 : decode cX7_paysOf 1 = .ok (.aload_n 0, 1) := by decide +kernel
theorem dX7_paysOf_2 : decode cX7_paysOf 2 = .ok (.getfield 16, 3) := by decide +kernel
theorem dX7_paysOf_5 : decode cX7_paysOf 5 = .ok (.iload_n 1, 1) := by decide +kernel
theorem dX7_paysOf_6 : decode cX7_paysOf 6 = .ok (.iaload, 1) := by decide +kernel
theorem dX7_paysOf_7 : decode cX7_paysOf 7 = .ok (.iconst 3, 1) := by decide +kernel
theorem dX7_paysOf_8 : decode cX7_paysOf 8 = .ok (.idiv, 1) := by decide +kernel
theorem dX7_paysOf_9 : decode cX7_paysOf 9 = .ok (.iadd, 1) := by decide +kernel
theorem dX7_paysOf_10 : decode cX7_paysOf 10 = .ok (.istore_n 3, 1) := by decide +kernel
theorem dX7_paysOf_11 : decode cX7_paysOf 11 = .ok (.aload_n 0, 1) := by decide +kernel
theorem dX7_paysOf_12 : decode cX7_paysOf 12 = .ok (.getfield 19, 3) := by decide +kernel
theorem dX7_paysOf_15 : decode cX7_paysOf 15 = .ok (.iload_n 2, 1) := by decide +kernel
theorem dX7_paysOf_16 : decode cX7_paysOf 16 = .ok (.iaload, 1) := by decide +kernel
theorem dX7_paysOf_17 : decode cX7_paysOf 17 = .ok (.aload_n 0, 1) := by decide +kernel
theorem dX7_paysOf_18 : decode cX7_paysOf 18 = .ok (.getfield 19, 3) := by decide +kernel
theorem dX7_paysOf_21 : decode cX7_paysOf 21 = .ok (.iload_n 1, 1) := by decide +kernel
theorem dX7_paysOf_22 : decode cX7_paysOf 22 = .ok (.iaload, 1) := by decide +kernel
theorem dX7_paysOf_23 : decode cX7_paysOf 23 = .ok (.if_icmp .ge 7, 3) := by decide +kernel
theorem dX7_paysOf_26 : decode cX7_paysOf 26 = .ok (.iconst 1, 1) := by decide +kernel
theorem dX7_paysOf_27 : decode cX7_paysOf 27 = .ok (.goto 4, 3) := by decide +kernel
theorem dX7_paysOf_30 : decode cX7_paysOf 30 = .ok (.iconst 0, 1) := by decide +kernel
theorem dX7_paysOf_31 : decode cX7_paysOf 31 = .ok (.istore 4, 2) := by decide +kernel
theorem dX7_paysOf_33 : decode cX7_paysOf 33 = .ok (.aload_n 0, 1) := by decide +kernel
theorem dX7_paysOf_34 : decode cX7_paysOf 34 = .ok (.getfield 13, 3) := by decide +kernel
theorem dX7_paysOf_37 : decode cX7_paysOf 37 = .ok (.iload_n 1, 1) := by decide +kernel
theorem dX7_paysOf_38 : decode cX7_paysOf 38 = .ok (.iaload, 1) := by decide +kernel
theorem dX7_paysOf_39 : decode cX7_paysOf 39 = .ok (.tableswitch 49 1 5 #[33, 35, 37, 40, 44], 33) := by decide +kernel
theorem dX7_paysOf_72 : decode cX7_paysOf 72 = .ok (.iload_n 3, 1) := by decide +kernel
theorem dX7_paysOf_73 : decode cX7_paysOf 73 = .ok (.ireturn, 1) := by decide +kernel
theorem dX7_paysOf_74 : decode cX7_paysOf 74 = .ok (.iconst 0, 1) := by decide +kernel
theorem dX7_paysOf_75 : decode cX7_paysOf 75 = .ok (.ireturn, 1) := by decide +kernel
theorem dX7_paysOf_76 : decode cX7_paysOf 76 = .ok (.iload 4, 2) := by decide +kernel
theorem dX7_paysOf_78 : decode cX7_paysOf 78 = .ok (.ireturn, 1) := by decide +kernel
theorem dX7_paysOf_79 : decode cX7_paysOf 79 = .ok (.iconst 2, 1) := by decide +kernel
theorem dX7_paysOf_80 : decode cX7_paysOf 80 = .ok (.iload_n 3, 1) := by decide +kernel
theorem dX7_paysOf_81 : decode cX7_paysOf 81 = .ok (.imul, 1) := by decide +kernel
theorem dX7_paysOf_82 : decode cX7_paysOf 82 = .ok (.ireturn, 1) := by decide +kernel
theorem dX7_paysOf_83 : decode cX7_paysOf 83 = .ok (.iload 4, 2) := by decide +kernel
theorem dX7_paysOf_85 : decode cX7_paysOf 85 = .ok (.iconst 1, 1) := by decide +kernel
theorem dX7_paysOf_86 : decode cX7_paysOf 86 = .ok (.iadd, 1) := by decide +kernel
theorem dX7_paysOf_87 : decode cX7_paysOf 87 = .ok (.ireturn, 1) := by decide +kernel
theorem dX7_paysOf_88 : decode cX7_paysOf 88 = .ok (.iconst 1, 1) := by decide +kernel
theorem dX7_paysOf_89 : decode cX7_paysOf 89 = .ok (.ireturn, 1) := by decide +kernel
theorem dX7_pays_0 : decode cX7_pays 0 = .ok (.aload_n 0, 1) := by decide +kernel
theorem dX7_pays_1 : decode cX7_pays 1 = .ok (.iload_n 1, 1) := by decide +kernel
theorem dX7_pays_2 : decode cX7_pays 2 = .ok (.iload_n 2, 1) := by decide +kernel
theorem dX7_pays_3 : decode cX7_pays 3 = .ok (.invokevirtual 171, 3) := by decide +kernel
theorem dX7_pays_6 : decode cX7_pays 6 = .ok (.istore_n 3, 1) := by decide +kernel
theorem dX7_pays_7 : decode cX7_pays 7 = .ok (.aload_n 0, 1) := by decide +kernel
theorem dX7_pays_8 : decode cX7_pays 8 = .ok (.getfield 19, 3) := by decide +kernel
theorem dX7_pays_11 : decode cX7_pays 11 = .ok (.iload_n 1, 1) := by decide +kernel
theorem dX7_pays_12 : decode cX7_pays 12 = .ok (.iaload, 1) := by decide +kernel
theorem dX7_pays_13 : decode cX7_pays 13 = .ok (.iload_n 3, 1) := by decide +kernel
theorem dX7_pays_14 : decode cX7_pays 14 = .ok (.if_icmp .ge 18, 3) := by decide +kernel
theorem dX7_pays_17 : decode cX7_pays 17 = .ok (.aload_n 0, 1) := by decide +kernel
theorem dX7_pays_18 : decode cX7_pays 18 = .ok (.getfield 22, 3) := by decide +kernel
theorem dX7_pays_21 : decode cX7_pays 21 = .ok (.iload_n 1, 1) := by decide +kernel
theorem dX7_pays_22 : decode cX7_pays 22 = .ok (.dup2, 1) := by decide +kernel
theorem dX7_pays_23 : decode cX7_pays 23 = .ok (.iaload, 1) := by decide +kernel
theorem dX7_pays_24 : decode cX7_pays 24 = .ok (.iconst 1, 1) := by decide +kernel
theorem dX7_pays_25 : decode cX7_pays 25 = .ok (.iload_n 2, 1) := by decide +kernel
theorem dX7_pays_26 : decode cX7_pays 26 = .ok (.ishl, 1) := by decide +kernel
theorem dX7_pays_27 : decode cX7_pays 27 = .ok (.iconst (-1), 1) := by decide +kernel
theorem dX7_pays_28 : decode cX7_pays 28 = .ok (.ixor, 1) := by decide +kernel
theorem dX7_pays_29 : decode cX7_pays 29 = .ok (.iand, 1) := by decide +kernel
theorem dX7_pays_30 : decode cX7_pays 30 = .ok (.iastore, 1) := by decide +kernel
theorem dX7_pays_31 : decode cX7_pays 31 = .ok (.return_, 1) := by decide +kernel
theorem dX7_pays_32 : decode cX7_pays 32 = .ok (.aload_n 0, 1) := by decide +kernel
theorem dX7_pays_33 : decode cX7_pays 33 = .ok (.getfield 19, 3) := by decide +kernel
theorem dX7_pays_36 : decode cX7_pays 36 = .ok (.iload_n 1, 1) := by decide +kernel
theorem dX7_pays_37 : decode cX7_pays 37 = .ok (.dup2, 1) := by decide +kernel
theorem dX7_pays_38 : decode cX7_pays 38 = .ok (.iaload, 1) := by decide +kernel
theorem dX7_pays_39 : decode cX7_pays 39 = .ok (.iload_n 3, 1) := by decide +kernel
theorem dX7_pays_40 : decode cX7_pays 40 = .ok (.isub, 1) := by decide +kernel
theorem dX7_pays_41 : decode cX7_pays 41 = .ok (.iastore, 1) := by decide +kernel
theorem dX7_pays_42 : decode cX7_pays 42 = .ok (.aload_n 0, 1) := by decide +kernel
theorem dX7_pays_43 : decode cX7_pays 43 = .ok (.getfield 19, 3) := by decide +kernel
theorem dX7_pays_46 : decode cX7_pays 46 = .ok (.iload_n 2, 1) := by decide +kernel
theorem dX7_pays_47 : decode cX7_pays 47 = .ok (.aload_n 0, 1) := by decide +kernel
theorem dX7_pays_48 : decode cX7_pays 48 = .ok (.getfield 19, 3) := by decide +kernel
theorem dX7_pays_51 : decode cX7_pays 51 = .ok (.iload_n 2, 1) := by decide +kernel
theorem dX7_pays_52 : decode cX7_pays 52 = .ok (.iaload, 1) := by decide +kernel
theorem dX7_pays_53 : decode cX7_pays 53 = .ok (.iload_n 3, 1) := by decide +kernel
theorem dX7_pays_54 : decode cX7_pays 54 = .ok (.iadd, 1) := by decide +kernel
theorem dX7_pays_55 : decode cX7_pays 55 = .ok (.bipush 99, 2) := by decide +kernel
theorem dX7_pays_57 : decode cX7_pays 57 = .ok (.if_icmp .le 8, 3) := by decide +kernel
theorem dX7_pays_60 : decode cX7_pays 60 = .ok (.bipush 99, 2) := by decide +kernel
theorem dX7_pays_62 : decode cX7_pays 62 = .ok (.goto 11, 3) := by decide +kernel
theorem dX7_pays_65 : decode cX7_pays 65 = .ok (.aload_n 0, 1) := by decide +kernel
theorem dX7_pays_66 : decode cX7_pays 66 = .ok (.getfield 19, 3) := by decide +kernel
theorem dX7_pays_69 : decode cX7_pays 69 = .ok (.iload_n 2, 1) := by decide +kernel
theorem dX7_pays_70 : decode cX7_pays 70 = .ok (.iaload, 1) := by decide +kernel
theorem dX7_pays_71 : decode cX7_pays 71 = .ok (.iload_n 3, 1) := by decide +kernel
theorem dX7_pays_72 : decode cX7_pays 72 = .ok (.iadd, 1) := by decide +kernel
theorem dX7_pays_73 : decode cX7_pays 73 = .ok (.iastore, 1) := by decide +kernel
theorem dX7_pays_74 : decode cX7_pays 74 = .ok (.return_, 1) := by decide +kernel
theorem dX7_goesYear_0 : decode cX7_goesYear 0 = .ok (.aload_n 0, 1) := by decide +kernel
theorem dX7_goesYear_1 : decode cX7_goesYear 1 = .ok (.dup, 1) := by decide +kernel
theorem dX7_goesYear_2 : decode cX7_goesYear 2 = .ok (.getfield 126, 3) := by decide +kernel
theorem dX7_goesYear_5 : decode cX7_goesYear 5 = .ok (.iconst 1, 1) := by decide +kernel
theorem dX7_goesYear_6 : decode cX7_goesYear 6 = .ok (.iadd, 1) := by decide +kernel
theorem dX7_goesYear_7 : decode cX7_goesYear 7 = .ok (.putfield 126, 3) := by decide +kernel
theorem dX7_goesYear_10 : decode cX7_goesYear 10 = .ok (.iconst 0, 1) := by decide +kernel
theorem dX7_goesYear_11 : decode cX7_goesYear 11 = .ok (.istore_n 1, 1) := by decide +kernel
theorem dX7_goesYear_12 : decode cX7_goesYear 12 = .ok (.iload_n 1, 1) := by decide +kernel
theorem dX7_goesYear_13 : decode cX7_goesYear 13 = .ok (.aload_n 0, 1) := by decide +kernel
theorem dX7_goesYear_14 : decode cX7_goesYear 14 = .ok (.getfield 65, 3) := by decide +kernel
theorem dX7_goesYear_17 : decode cX7_goesYear 17 = .ok (.if_icmp .ge 56, 3) := by decide +kernel
theorem dX7_goesYear_20 : decode cX7_goesYear 20 = .ok (.iconst 0, 1) := by decide +kernel
theorem dX7_goesYear_21 : decode cX7_goesYear 21 = .ok (.istore_n 2, 1) := by decide +kernel
theorem dX7_goesYear_22 : decode cX7_goesYear 22 = .ok (.iload_n 2, 1) := by decide +kernel
theorem dX7_goesYear_23 : decode cX7_goesYear 23 = .ok (.aload_n 0, 1) := by decide +kernel
theorem dX7_goesYear_24 : decode cX7_goesYear 24 = .ok (.getfield 65, 3) := by decide +kernel
theorem dX7_goesYear_27 : decode cX7_goesYear 27 = .ok (.if_icmp .ge 40, 3) := by decide +kernel
theorem dX7_goesYear_30 : decode cX7_goesYear 30 = .ok (.iload_n 1, 1) := by decide +kernel
theorem dX7_goesYear_31 : decode cX7_goesYear 31 = .ok (.aload_n 0, 1) := by decide +kernel
theorem dX7_goesYear_32 : decode cX7_goesYear 32 = .ok (.getfield 28, 3) := by decide +kernel
theorem dX7_goesYear_35 : decode cX7_goesYear 35 = .ok (.if_icmp .eq 26, 3) := by decide +kernel
theorem dX7_goesYear_38 : decode cX7_goesYear 38 = .ok (.iload_n 2, 1) := by decide +kernel
theorem dX7_goesYear_39 : decode cX7_goesYear 39 = .ok (.aload_n 0, 1) := by decide +kernel
theorem dX7_goesYear_40 : decode cX7_goesYear 40 = .ok (.getfield 28, 3) := by decide +kernel
theorem dX7_goesYear_43 : decode cX7_goesYear 43 = .ok (.if_icmp .eq 18, 3) := by decide +kernel
theorem dX7_goesYear_46 : decode cX7_goesYear 46 = .ok (.aload_n 0, 1) := by decide +kernel
theorem dX7_goesYear_47 : decode cX7_goesYear 47 = .ok (.iload_n 1, 1) := by decide +kernel
theorem dX7_goesYear_48 : decode cX7_goesYear 48 = .ok (.iload_n 2, 1) := by decide +kernel
theorem dX7_goesYear_49 : decode cX7_goesYear 49 = .ok (.invokevirtual 79, 3) := by decide +kernel
theorem dX7_goesYear_52 : decode cX7_goesYear 52 = .ok (.ifCond .eq 9, 3) := by decide +kernel
theorem dX7_goesYear_55 : decode cX7_goesYear 55 = .ok (.aload_n 0, 1) := by decide +kernel
theorem dX7_goesYear_56 : decode cX7_goesYear 56 = .ok (.iload_n 1, 1) := by decide +kernel
theorem dX7_goesYear_57 : decode cX7_goesYear 57 = .ok (.iload_n 2, 1) := by decide +kernel
theorem dX7_goesYear_58 : decode cX7_goesYear 58 = .ok (.invokevirtual 175, 3) := by decide +kernel
theorem dX7_goesYear_61 : decode cX7_goesYear 61 = .ok (.iinc 2 1, 3) := by decide +kernel
theorem dX7_goesYear_64 : decode cX7_goesYear 64 = .ok (.goto (-42), 3) := by decide +kernel
theorem dX7_goesYear_67 : decode cX7_goesYear 67 = .ok (.iinc 1 1, 3) := by decide +kernel
theorem dX7_goesYear_70 : decode cX7_goesYear 70 = .ok (.goto (-58), 3) := by decide +kernel
theorem dX7_goesYear_73 : decode cX7_goesYear 73 = .ok (.return_, 1) := by decide +kernel
theorem dX7_goes_0 : decode cX7_goes 0 = .ok (.iconst 0, 1) := by decide +kernel
theorem dX7_goes_1 : decode cX7_goes 1 = .ok (.istore_n 2, 1) := by decide +kernel
theorem dX7_goes_2 : decode cX7_goes 2 = .ok (.iload_n 2, 1) := by decide +kernel
theorem dX7_goes_3 : decode cX7_goes 3 = .ok (.iload_n 1, 1) := by decide +kernel
theorem dX7_goes_4 : decode cX7_goes 4 = .ok (.if_icmp .ge 13, 3) := by decide +kernel
theorem dX7_goes_7 : decode cX7_goes 7 = .ok (.aload_n 0, 1) := by decide +kernel
theorem dX7_goes_8 : decode cX7_goes 8 = .ok (.invokevirtual 178, 3) := by decide +kernel
theorem dX7_goes_11 : decode cX7_goes 11 = .ok (.iinc 2 1, 3) := by decide +kernel
theorem dX7_goes_14 : decode cX7_goes 14 = .ok (.goto (-12), 3) := by decide +kernel
theorem dX7_goes_17 : decode cX7_goes 17 = .ok (.return_, 1) := by decide +kernel
theorem dX7_wealth_0 : decode cX7_wealth 0 = .ok (.iconst 0, 1) := by decide +kernel
theorem dX7_wealth_1 : decode cX7_wealth 1 = .ok (.istore_n 1, 1) := by decide +kernel
theorem dX7_wealth_2 : decode cX7_wealth 2 = .ok (.iconst 0, 1) := by decide +kernel
theorem dX7_wealth_3 : decode cX7_wealth 3 = .ok (.istore_n 2, 1) := by decide +kernel
theorem dX7_wealth_4 : decode cX7_wealth 4 = .ok (.iload_n 2, 1) := by decide +kernel
theorem dX7_wealth_5 : decode cX7_wealth 5 = .ok (.aload_n 0, 1) := by decide +kernel
theorem dX7_wealth_6 : decode cX7_wealth 6 = .ok (.getfield 65, 3) := by decide +kernel
theorem dX7_wealth_9 : decode cX7_wealth 9 = .ok (.if_icmp .ge 18, 3) := by decide +kernel
theorem dX7_wealth_12 : decode cX7_wealth 12 = .ok (.iload_n 1, 1) := by decide +kernel
theorem dX7_wealth_13 : decode cX7_wealth 13 = .ok (.aload_n 0, 1) := by decide +kernel
theorem dX7_wealth_14 : decode cX7_wealth 14 = .ok (.getfield 19, 3) := by decide +kernel
theorem dX7_wealth_17 : decode cX7_wealth 17 = .ok (.iload_n 2, 1) := by decide +kernel
theorem dX7_wealth_18 : decode cX7_wealth 18 = .ok (.iaload, 1) := by decide +kernel
theorem dX7_wealth_19 : decode cX7_wealth 19 = .ok (.iadd, 1) := by decide +kernel
theorem dX7_wealth_20 : decode cX7_wealth 20 = .ok (.istore_n 1, 1) := by decide +kernel
theorem dX7_wealth_21 : decode cX7_wealth 21 = .ok (.iinc 2 1, 3) := by decide +kernel
theorem dX7_wealth_24 : decode cX7_wealth 24 = .ok (.goto (-20), 3) := by decide +kernel
theorem dX7_wealth_27 : decode cX7_wealth 27 = .ok (.iload_n 1, 1) := by decide +kernel
theorem dX7_wealth_28 : decode cX7_wealth 28 = .ok (.ireturn, 1) := by decide +kernel
theorem dX7_twosOfKin_0 : decode cX7_twosOfKin 0 = .ok (.iconst 0, 1) := by decide +kernel
theorem dX7_twosOfKin_1 : decode cX7_twosOfKin 1 = .ok (.istore_n 1, 1) := by decide +kernel
theorem dX7_twosOfKin_2 : decode cX7_twosOfKin 2 = .ok (.iconst 0, 1) := by decide +kernel
theorem dX7_twosOfKin_3 : decode cX7_twosOfKin 3 = .ok (.istore_n 2, 1) := by decide +kernel
theorem dX7_twosOfKin_4 : decode cX7_twosOfKin 4 = .ok (.iload_n 2, 1) := by decide +kernel
theorem dX7_twosOfKin_5 : decode cX7_twosOfKin 5 = .ok (.aload_n 0, 1) := by decide +kernel
theorem dX7_twosOfKin_6 : decode cX7_twosOfKin 6 = .ok (.getfield 65, 3) := by decide +kernel
theorem dX7_twosOfKin_9 : decode cX7_twosOfKin 9 = .ok (.if_icmp .ge 20, 3) := by decide +kernel
theorem dX7_twosOfKin_12 : decode cX7_twosOfKin 12 = .ok (.iload_n 1, 1) := by decide +kernel
theorem dX7_twosOfKin_13 : decode cX7_twosOfKin 13 = .ok (.aload_n 0, 1) := by decide +kernel
theorem dX7_twosOfKin_14 : decode cX7_twosOfKin 14 = .ok (.iload_n 2, 1) := by decide +kernel
theorem dX7_twosOfKin_15 : decode cX7_twosOfKin 15 = .ok (.invokevirtual 181, 3) := by decide +kernel
theorem dX7_twosOfKin_18 : decode cX7_twosOfKin 18 = .ok (.invokestatic 184, 3) := by decide +kernel
theorem dX7_twosOfKin_21 : decode cX7_twosOfKin 21 = .ok (.iadd, 1) := by decide +kernel
theorem dX7_twosOfKin_22 : decode cX7_twosOfKin 22 = .ok (.istore_n 1, 1) := by decide +kernel
theorem dX7_twosOfKin_23 : decode cX7_twosOfKin 23 = .ok (.iinc 2 1, 3) := by decide +kernel
theorem dX7_twosOfKin_26 : decode cX7_twosOfKin 26 = .ok (.goto (-22), 3) := by decide +kernel
theorem dX7_twosOfKin_29 : decode cX7_twosOfKin 29 = .ok (.iload_n 1, 1) := by decide +kernel
theorem dX7_twosOfKin_30 : decode cX7_twosOfKin 30 = .ok (.iconst 2, 1) := by decide +kernel
theorem dX7_twosOfKin_31 : decode cX7_twosOfKin 31 = .ok (.idiv, 1) := by decide +kernel
theorem dX7_twosOfKin_32 : decode cX7_twosOfKin 32 = .ok (.ireturn, 1) := by decide +kernel
theorem dX7_person_0 : decode cX7_person 0 = .ok (.aload_n 0, 1) := by decide +kernel
theorem dX7_person_1 : decode cX7_person 1 = .ok (.iload_n 1, 1) := by decide +kernel
theorem dX7_person_2 : decode cX7_person 2 = .ok (.invokevirtual 71, 3) := by decide +kernel
theorem dX7_person_5 : decode cX7_person 5 = .ok (.ifCond .ne 9, 3) := by decide +kernel
theorem dX7_person_8 : decode cX7_person 8 = .ok (.aload_n 0, 1) := by decide +kernel
theorem dX7_person_9 : decode cX7_person 9 = .ok (.iconst (-1), 1) := by decide +kernel
theorem dX7_person_10 : decode cX7_person 10 = .ok (.invokevirtual 89, 3) := by decide +kernel
theorem dX7_person_13 : decode cX7_person 13 = .ok (.ireturn, 1) := by decide +kernel
theorem dX7_person_14 : decode cX7_person 14 = .ok (.iload_n 2, 1) := by decide +kernel
theorem dX7_person_15 : decode cX7_person 15 = .ok (.tableswitch 73 0 4 #[33, 40, 47, 54, 63], 33) := by decide +kernel
theorem dX7_person_48 : decode cX7_person 48 = .ok (.aload_n 0, 1) := by decide +kernel
theorem dX7_person_49 : decode cX7_person 49 = .ok (.getfield 13, 3) := by decide +kernel
theorem dX7_person_52 : decode cX7_person 52 = .ok (.iload_n 1, 1) := by decide +kernel
theorem dX7_person_53 : decode cX7_person 53 = .ok (.iaload, 1) := by decide +kernel
theorem dX7_person_54 : decode cX7_person 54 = .ok (.ireturn, 1) := by decide +kernel
theorem dX7_person_55 : decode cX7_person 55 = .ok (.aload_n 0, 1) := by decide +kernel
theorem dX7_person_56 : decode cX7_person 56 = .ok (.getfield 16, 3) := by decide +kernel
theorem dX7_person_59 : decode cX7_person 59 = .ok (.iload_n 1, 1) := by decide +kernel
theorem dX7_person_60 : decode cX7_person 60 = .ok (.iaload, 1) := by decide +kernel
theorem dX7_person_61 : decode cX7_person 61 = .ok (.ireturn, 1) := by decide +kernel
theorem dX7_person_62 : decode cX7_person 62 = .ok (.aload_n 0, 1) := by decide +kernel
theorem dX7_person_63 : decode cX7_person 63 = .ok (.getfield 19, 3) := by decide +kernel
theorem dX7_person_66 : decode cX7_person 66 = .ok (.iload_n 1, 1) := by decide +kernel
theorem dX7_person_67 : decode cX7_person 67 = .ok (.iaload, 1) := by decide +kernel
theorem dX7_person_68 : decode cX7_person 68 = .ok (.ireturn, 1) := by decide +kernel
theorem dX7_person_69 : decode cX7_person 69 = .ok (.aload_n 0, 1) := by decide +kernel
theorem dX7_person_70 : decode cX7_person 70 = .ok (.iload_n 1, 1) := by decide +kernel
theorem dX7_person_71 : decode cX7_person 71 = .ok (.invokevirtual 181, 3) := by decide +kernel
theorem dX7_person_74 : decode cX7_person 74 = .ok (.invokestatic 184, 3) := by decide +kernel
theorem dX7_person_77 : decode cX7_person 77 = .ok (.ireturn, 1) := by decide +kernel
theorem dX7_person_78 : decode cX7_person 78 = .ok (.aload_n 0, 1) := by decide +kernel
theorem dX7_person_79 : decode cX7_person 79 = .ok (.getfield 22, 3) := by decide +kernel
theorem dX7_person_82 : decode cX7_person 82 = .ok (.iload_n 1, 1) := by decide +kernel
theorem dX7_person_83 : decode cX7_person 83 = .ok (.iaload, 1) := by decide +kernel
theorem dX7_person_84 : decode cX7_person 84 = .ok (.invokestatic 184, 3) := by decide +kernel
theorem dX7_person_87 : decode cX7_person 87 = .ok (.ireturn, 1) := by decide +kernel
theorem dX7_person_88 : decode cX7_person 88 = .ok (.aload_n 0, 1) := by decide +kernel
theorem dX7_person_89 : decode cX7_person 89 = .ok (.bipush (-2), 2) := by decide +kernel
theorem dX7_person_91 : decode cX7_person 91 = .ok (.invokevirtual 89, 3) := by decide +kernel
theorem dX7_person_94 : decode cX7_person 94 = .ok (.ireturn, 1) := by decide +kernel
theorem dX7_tie_0 : decode cX7_tie 0 = .ok (.aload_n 0, 1) := by decide +kernel
theorem dX7_tie_1 : decode cX7_tie 1 = .ok (.iload_n 1, 1) := by decide +kernel
theorem dX7_tie_2 : decode cX7_tie 2 = .ok (.iload_n 2, 1) := by decide +kernel
theorem dX7_tie_3 : decode cX7_tie 3 = .ok (.invokevirtual 119, 3) := by decide +kernel
theorem dX7_tie_6 : decode cX7_tie 6 = .ok (.ifCond .ne 9, 3) := by decide +kernel
theorem dX7_tie_9 : decode cX7_tie 9 = .ok (.aload_n 0, 1) := by decide +kernel
theorem dX7_tie_10 : decode cX7_tie 10 = .ok (.iconst (-1), 1) := by decide +kernel
theorem dX7_tie_11 : decode cX7_tie 11 = .ok (.invokevirtual 89, 3) := by decide +kernel
theorem dX7_tie_14 : decode cX7_tie 14 = .ok (.ireturn, 1) := by decide +kernel
theorem dX7_tie_15 : decode cX7_tie 15 = .ok (.iload_n 3, 1) := by decide +kernel
theorem dX7_tie_16 : decode cX7_tie 16 = .ok (.tableswitch 76 0 3 #[32, 43, 54, 69], 32) := by decide +kernel
theorem dX7_tie_48 : decode cX7_tie 48 = .ok (.aload_n 0, 1) := by decide +kernel
theorem dX7_tie_49 : decode cX7_tie 49 = .ok (.getfield 22, 3) := by decide +kernel
theorem dX7_tie_52 : decode cX7_tie 52 = .ok (.iload_n 1, 1) := by decide +kernel
theorem dX7_tie_53 : decode cX7_tie 53 = .ok (.iaload, 1) := by decide +kernel
theorem dX7_tie_54 : decode cX7_tie 54 = .ok (.iload_n 2, 1) := by decide +kernel
theorem dX7_tie_55 : decode cX7_tie 55 = .ok (.ishr, 1) := by decide +kernel
theorem dX7_tie_56 : decode cX7_tie 56 = .ok (.iconst 1, 1) := by decide +kernel
theorem dX7_tie_57 : decode cX7_tie 57 = .ok (.iand, 1) := by decide +kernel
theorem dX7_tie_58 : decode cX7_tie 58 = .ok (.ireturn, 1) := by decide +kernel
theorem dX7_tie_59 : decode cX7_tie 59 = .ok (.aload_n 0, 1) := by decide +kernel
theorem dX7_tie_60 : decode cX7_tie 60 = .ok (.getfield 25, 3) := by decide +kernel
theorem dX7_tie_63 : decode cX7_tie 63 = .ok (.iload_n 1, 1) := by decide +kernel
theorem dX7_tie_64 : decode cX7_tie 64 = .ok (.iaload, 1) := by decide +kernel
theorem dX7_tie_65 : decode cX7_tie 65 = .ok (.iload_n 2, 1) := by decide +kernel
theorem dX7_tie_66 : decode cX7_tie 66 = .ok (.ishr, 1) := by decide +kernel
theorem dX7_tie_67 : decode cX7_tie 67 = .ok (.iconst 1, 1) := by decide +kernel
theorem dX7_tie_68 : decode cX7_tie 68 = .ok (.iand, 1) := by decide +kernel
theorem dX7_tie_69 : decode cX7_tie 69 = .ok (.ireturn, 1) := by decide +kernel
theorem dX7_tie_70 : decode cX7_tie 70 = .ok (.aload_n 0, 1) := by decide +kernel
theorem dX7_tie_71 : decode cX7_tie 71 = .ok (.iload_n 1, 1) := by decide +kernel
theorem dX7_tie_72 : decode cX7_tie 72 = .ok (.iload_n 2, 1) := by decide +kernel
theorem dX7_tie_73 : decode cX7_tie 73 = .ok (.invokevirtual 79, 3) := by decide +kernel
theorem dX7_tie_76 : decode cX7_tie 76 = .ok (.ifCond .eq 7, 3) := by decide +kernel
theorem dX7_tie_79 : decode cX7_tie 79 = .ok (.iconst 1, 1) := by decide +kernel
theorem dX7_tie_80 : decode cX7_tie 80 = .ok (.goto 4, 3) := by decide +kernel
theorem dX7_tie_83 : decode cX7_tie 83 = .ok (.iconst 0, 1) := by decide +kernel
theorem dX7_tie_84 : decode cX7_tie 84 = .ok (.ireturn, 1) := by decide +kernel
theorem dX7_tie_85 : decode cX7_tie 85 = .ok (.aload_n 0, 1) := by decide +kernel
theorem dX7_tie_86 : decode cX7_tie 86 = .ok (.iload_n 1, 1) := by decide +kernel
theorem dX7_tie_87 : decode cX7_tie 87 = .ok (.iload_n 2, 1) := by decide +kernel
theorem dX7_tie_88 : decode cX7_tie 88 = .ok (.invokevirtual 171, 3) := by decide +kernel
theorem dX7_tie_91 : decode cX7_tie 91 = .ok (.ireturn, 1) := by decide +kernel
theorem dX7_tie_92 : decode cX7_tie 92 = .ok (.aload_n 0, 1) := by decide +kernel
theorem dX7_tie_93 : decode cX7_tie 93 = .ok (.bipush (-2), 2) := by decide +kernel
theorem dX7_tie_95 : decode cX7_tie 95 = .ok (.invokevirtual 89, 3) := by decide +kernel
theorem dX7_tie_98 : decode cX7_tie 98 = .ok (.ireturn, 1) := by decide +kernel
theorem dX7_signs_0 : decode cX7_signs 0 = .ok (.aload_n 0, 1) := by decide +kernel
theorem dX7_signs_1 : decode cX7_signs 1 = .ok (.iload_n 1, 1) := by decide +kernel
theorem dX7_signs_2 : decode cX7_signs 2 = .ok (.iload_n 2, 1) := by decide +kernel
theorem dX7_signs_3 : decode cX7_signs 3 = .ok (.invokevirtual 119, 3) := by decide +kernel
theorem dX7_signs_6 : decode cX7_signs 6 = .ok (.ifCond .ne 9, 3) := by decide +kernel
theorem dX7_signs_9 : decode cX7_signs 9 = .ok (.aload_n 0, 1) := by decide +kernel
theorem dX7_signs_10 : decode cX7_signs 10 = .ok (.iconst (-1), 1) := by decide +kernel
theorem dX7_signs_11 : decode cX7_signs 11 = .ok (.invokevirtual 89, 3) := by decide +kernel
theorem dX7_signs_14 : decode cX7_signs 14 = .ok (.ireturn, 1) := by decide +kernel
theorem dX7_signs_15 : decode cX7_signs 15 = .ok (.aload_n 0, 1) := by decide +kernel
theorem dX7_signs_16 : decode cX7_signs 16 = .ok (.getfield 22, 3) := by decide +kernel
theorem dX7_signs_19 : decode cX7_signs 19 = .ok (.iload_n 1, 1) := by decide +kernel
theorem dX7_signs_20 : decode cX7_signs 20 = .ok (.dup2, 1) := by decide +kernel
theorem dX7_signs_21 : decode cX7_signs 21 = .ok (.iaload, 1) := by decide +kernel
theorem dX7_signs_22 : decode cX7_signs 22 = .ok (.iconst 1, 1) := by decide +kernel
theorem dX7_signs_23 : decode cX7_signs 23 = .ok (.iload_n 2, 1) := by decide +kernel
theorem dX7_signs_24 : decode cX7_signs 24 = .ok (.ishl, 1) := by decide +kernel
theorem dX7_signs_25 : decode cX7_signs 25 = .ok (.ixor, 1) := by decide +kernel
theorem dX7_signs_26 : decode cX7_signs 26 = .ok (.iastore, 1) := by decide +kernel
theorem dX7_signs_27 : decode cX7_signs 27 = .ok (.aload_n 0, 1) := by decide +kernel
theorem dX7_signs_28 : decode cX7_signs 28 = .ok (.getfield 22, 3) := by decide +kernel
theorem dX7_signs_31 : decode cX7_signs 31 = .ok (.iload_n 1, 1) := by decide +kernel
theorem dX7_signs_32 : decode cX7_signs 32 = .ok (.iaload, 1) := by decide +kernel
theorem dX7_signs_33 : decode cX7_signs 33 = .ok (.iload_n 2, 1) := by decide +kernel
theorem dX7_signs_34 : decode cX7_signs 34 = .ok (.ishr, 1) := by decide +kernel
theorem dX7_signs_35 : decode cX7_signs 35 = .ok (.iconst 1, 1) := by decide +kernel
theorem dX7_signs_36 : decode cX7_signs 36 = .ok (.iand, 1) := by decide +kernel
theorem dX7_signs_37 : decode cX7_signs 37 = .ok (.ireturn, 1) := by decide +kernel
theorem dX7_feuds_0 : decode cX7_feuds 0 = .ok (.aload_n 0, 1) := by decide +kernel
theorem dX7_feuds_1 : decode cX7_feuds 1 = .ok (.iload_n 1, 1) := by decide +kernel
theorem dX7_feuds_2 : decode cX7_feuds 2 = .ok (.iload_n 2, 1) := by decide +kernel
theorem dX7_feuds_3 : decode cX7_feuds 3 = .ok (.invokevirtual 119, 3) := by decide +kernel
theorem dX7_feuds_6 : decode cX7_feuds 6 = .ok (.ifCond .ne 9, 3) := by decide +kernel
theorem dX7_feuds_9 : decode cX7_feuds 9 = .ok (.aload_n 0, 1) := by decide +kernel
theorem dX7_feuds_10 : decode cX7_feuds 10 = .ok (.iconst (-1), 1) := by decide +kernel
theorem dX7_feuds_11 : decode cX7_feuds 11 = .ok (.invokevirtual 89, 3) := by decide +kernel
theorem dX7_feuds_14 : decode cX7_feuds 14 = .ok (.ireturn, 1) := by decide +kernel
theorem dX7_feuds_15 : decode cX7_feuds 15 = .ok (.aload_n 0, 1) := by decide +kernel
theorem dX7_feuds_16 : decode cX7_feuds 16 = .ok (.iload_n 1, 1) := by decide +kernel
theorem dX7_feuds_17 : decode cX7_feuds 17 = .ok (.iload_n 2, 1) := by decide +kernel
theorem dX7_feuds_18 : decode cX7_feuds 18 = .ok (.invokevirtual 122, 3) := by decide +kernel
theorem dX7_feuds_21 : decode cX7_feuds 21 = .ok (.aload_n 0, 1) := by decide +kernel
theorem dX7_feuds_22 : decode cX7_feuds 22 = .ok (.getfield 25, 3) := by decide +kernel
theorem dX7_feuds_25 : decode cX7_feuds 25 = .ok (.iload_n 1, 1) := by decide +kernel
theorem dX7_feuds_26 : decode cX7_feuds 26 = .ok (.iaload, 1) := by decide +kernel
theorem dX7_feuds_27 : decode cX7_feuds 27 = .ok (.iload_n 2, 1) := by decide +kernel
theorem dX7_feuds_28 : decode cX7_feuds 28 = .ok (.ishr, 1) := by decide +kernel
theorem dX7_feuds_29 : decode cX7_feuds 29 = .ok (.iconst 1, 1) := by decide +kernel
theorem dX7_feuds_30 : decode cX7_feuds 30 = .ok (.iand, 1) := by decide +kernel
theorem dX7_feuds_31 : decode cX7_feuds 31 = .ok (.ireturn, 1) := by decide +kernel
theorem dX7_gets_0 : decode cX7_gets 0 = .ok (.aload_n 0, 1) := by decide +kernel
theorem dX7_gets_1 : decode cX7_gets 1 = .ok (.iload_n 1, 1) := by decide +kernel
theorem dX7_gets_2 : decode cX7_gets 2 = .ok (.invokevirtual 71, 3) := by decide +kernel
theorem dX7_gets_5 : decode cX7_gets 5 = .ok (.ifCond .ne 7, 3) := by decide +kernel
theorem dX7_gets_8 : decode cX7_gets 8 = .ok (.iconst (-1), 1) := by decide +kernel
theorem dX7_gets_9 : decode cX7_gets 9 = .ok (.goto 10, 3) := by decide +kernel
theorem dX7_gets_12 : decode cX7_gets 12 = .ok (.iload_n 2, 1) := by decide +kernel
theorem dX7_gets_13 : decode cX7_gets 13 = .ok (.iconst 0, 1) := by decide +kernel
theorem dX7_gets_14 : decode cX7_gets 14 = .ok (.bipush 99, 2) := by decide +kernel
theorem dX7_gets_16 : decode cX7_gets 16 = .ok (.invokestatic 82, 3) := by decide +kernel
theorem dX7_gets_19 : decode cX7_gets 19 = .ok (.istore_n 3, 1) := by decide +kernel
theorem dX7_gets_20 : decode cX7_gets 20 = .ok (.iload_n 3, 1) := by decide +kernel
theorem dX7_gets_21 : decode cX7_gets 21 = .ok (.ifCond .eq 9, 3) := by decide +kernel
theorem dX7_gets_24 : decode cX7_gets 24 = .ok (.aload_n 0, 1) := by decide +kernel
theorem dX7_gets_25 : decode cX7_gets 25 = .ok (.iload_n 3, 1) := by decide +kernel
theorem dX7_gets_26 : decode cX7_gets 26 = .ok (.invokevirtual 89, 3) := by decide +kernel
theorem dX7_gets_29 : decode cX7_gets 29 = .ok (.ireturn, 1) := by decide +kernel
theorem dX7_gets_30 : decode cX7_gets 30 = .ok (.aload_n 0, 1) := by decide +kernel
theorem dX7_gets_31 : decode cX7_gets 31 = .ok (.getfield 19, 3) := by decide +kernel
theorem dX7_gets_34 : decode cX7_gets 34 = .ok (.iload_n 1, 1) := by decide +kernel
theorem dX7_gets_35 : decode cX7_gets 35 = .ok (.iaload, 1) := by decide +kernel
theorem dX7_gets_36 : decode cX7_gets 36 = .ok (.istore 4, 2) := by decide +kernel
theorem dX7_gets_38 : decode cX7_gets 38 = .ok (.aload_n 0, 1) := by decide +kernel
theorem dX7_gets_39 : decode cX7_gets 39 = .ok (.getfield 19, 3) := by decide +kernel
theorem dX7_gets_42 : decode cX7_gets 42 = .ok (.iload_n 1, 1) := by decide +kernel
theorem dX7_gets_43 : decode cX7_gets 43 = .ok (.iload_n 2, 1) := by decide +kernel
theorem dX7_gets_44 : decode cX7_gets 44 = .ok (.iastore, 1) := by decide +kernel
theorem dX7_gets_45 : decode cX7_gets 45 = .ok (.iload 4, 2) := by decide +kernel
theorem dX7_gets_47 : decode cX7_gets 47 = .ok (.ireturn, 1) := by decide +kernel
theorem dX7_turn_0 : decode cX7_turn 0 = .ok (.aload_n 0, 1) := by decide +kernel
theorem dX7_turn_1 : decode cX7_turn 1 = .ok (.iload_n 1, 1) := by decide +kernel
theorem dX7_turn_2 : decode cX7_turn 2 = .ok (.invokevirtual 71, 3) := by decide +kernel
theorem dX7_turn_5 : decode cX7_turn 5 = .ok (.ifCond .ne 7, 3) := by decide +kernel
theorem dX7_turn_8 : decode cX7_turn 8 = .ok (.iconst (-1), 1) := by decide +kernel
theorem dX7_turn_9 : decode cX7_turn 9 = .ok (.goto 24, 3) := by decide +kernel
theorem dX7_turn_12 : decode cX7_turn 12 = .ok (.iload_n 2, 1) := by decide +kernel
theorem dX7_turn_13 : decode cX7_turn 13 = .ok (.iconst 0, 1) := by decide +kernel
theorem dX7_turn_14 : decode cX7_turn 14 = .ok (.iconst 5, 1) := by decide +kernel
theorem dX7_turn_15 : decode cX7_turn 15 = .ok (.invokestatic 100, 3) := by decide +kernel
theorem dX7_turn_18 : decode cX7_turn 18 = .ok (.ifCond .ne 8, 3) := by decide +kernel
theorem dX7_turn_21 : decode cX7_turn 21 = .ok (.bipush (-2), 2) := by decide +kernel
theorem dX7_turn_23 : decode cX7_turn 23 = .ok (.goto 10, 3) := by decide +kernel
theorem dX7_turn_26 : decode cX7_turn 26 = .ok (.iload_n 3, 1) := by decide +kernel
theorem dX7_turn_27 : decode cX7_turn 27 = .ok (.iconst 0, 1) := by decide +kernel
theorem dX7_turn_28 : decode cX7_turn 28 = .ok (.bipush 9, 2) := by decide +kernel
theorem dX7_turn_30 : decode cX7_turn 30 = .ok (.invokestatic 82, 3) := by decide +kernel
theorem dX7_turn_33 : decode cX7_turn 33 = .ok (.istore 4, 2) := by decide +kernel
theorem dX7_turn_35 : decode cX7_turn 35 = .ok (.iload 4, 2) := by decide +kernel
theorem dX7_turn_37 : decode cX7_turn 37 = .ok (.ifCond .eq 10, 3) := by decide +kernel
theorem dX7_turn_40 : decode cX7_turn 40 = .ok (.aload_n 0, 1) := by decide +kernel
theorem dX7_turn_41 : decode cX7_turn 41 = .ok (.iload 4, 2) := by decide +kernel
theorem dX7_turn_43 : decode cX7_turn 43 = .ok (.invokevirtual 89, 3) := by decide +kernel
theorem dX7_turn_46 : decode cX7_turn 46 = .ok (.ireturn, 1) := by decide +kernel
theorem dX7_turn_47 : decode cX7_turn 47 = .ok (.bipush 10, 2) := by decide +kernel
theorem dX7_turn_49 : decode cX7_turn 49 = .ok (.aload_n 0, 1) := by decide +kernel
theorem dX7_turn_50 : decode cX7_turn 50 = .ok (.getfield 13, 3) := by decide +kernel
theorem dX7_turn_53 : decode cX7_turn 53 = .ok (.iload_n 1, 1) := by decide +kernel
theorem dX7_turn_54 : decode cX7_turn 54 = .ok (.iaload, 1) := by decide +kernel
theorem dX7_turn_55 : decode cX7_turn 55 = .ok (.imul, 1) := by decide +kernel
theorem dX7_turn_56 : decode cX7_turn 56 = .ok (.aload_n 0, 1) := by decide +kernel
theorem dX7_turn_57 : decode cX7_turn 57 = .ok (.getfield 16, 3) := by decide +kernel
theorem dX7_turn_60 : decode cX7_turn 60 = .ok (.iload_n 1, 1) := by decide +kernel
theorem dX7_turn_61 : decode cX7_turn 61 = .ok (.iaload, 1) := by decide +kernel
theorem dX7_turn_62 : decode cX7_turn 62 = .ok (.iadd, 1) := by decide +kernel
theorem dX7_turn_63 : decode cX7_turn 63 = .ok (.istore 5, 2) := by decide +kernel
theorem dX7_turn_65 : decode cX7_turn 65 = .ok (.aload_n 0, 1) := by decide +kernel
theorem dX7_turn_66 : decode cX7_turn 66 = .ok (.getfield 13, 3) := by decide +kernel
theorem dX7_turn_69 : decode cX7_turn 69 = .ok (.iload_n 1, 1) := by decide +kernel
theorem dX7_turn_70 : decode cX7_turn 70 = .ok (.iload_n 2, 1) := by decide +kernel
theorem dX7_turn_71 : decode cX7_turn 71 = .ok (.iastore, 1) := by decide +kernel
theorem dX7_turn_72 : decode cX7_turn 72 = .ok (.aload_n 0, 1) := by decide +kernel
theorem dX7_turn_73 : decode cX7_turn 73 = .ok (.getfield 16, 3) := by decide +kernel
theorem dX7_turn_76 : decode cX7_turn 76 = .ok (.iload_n 1, 1) := by decide +kernel
theorem dX7_turn_77 : decode cX7_turn 77 = .ok (.iload_n 3, 1) := by decide +kernel
theorem dX7_turn_78 : decode cX7_turn 78 = .ok (.iastore, 1) := by decide +kernel
theorem dX7_turn_79 : decode cX7_turn 79 = .ok (.iload 5, 2) := by decide +kernel
theorem dX7_turn_81 : decode cX7_turn 81 = .ok (.ireturn, 1) := by decide +kernel
theorem dX7_years_0 : decode cX7_years 0 = .ok (.iload_n 1, 1) := by decide +kernel
theorem dX7_years_1 : decode cX7_years 1 = .ok (.iconst 1, 1) := by decide +kernel
theorem dX7_years_2 : decode cX7_years 2 = .ok (.bipush 60, 2) := by decide +kernel
theorem dX7_years_4 : decode cX7_years 4 = .ok (.invokestatic 82, 3) := by decide +kernel
theorem dX7_years_7 : decode cX7_years 7 = .ok (.istore_n 2, 1) := by decide +kernel
theorem dX7_years_8 : decode cX7_years 8 = .ok (.iload_n 2, 1) := by decide +kernel
theorem dX7_years_9 : decode cX7_years 9 = .ok (.ifCond .ne 18, 3) := by decide +kernel
theorem dX7_years_12 : decode cX7_years 12 = .ok (.aload_n 0, 1) := by decide +kernel
theorem dX7_years_13 : decode cX7_years 13 = .ok (.getfield 126, 3) := by decide +kernel
theorem dX7_years_16 : decode cX7_years 16 = .ok (.iload_n 1, 1) := by decide +kernel
theorem dX7_years_17 : decode cX7_years 17 = .ok (.iadd, 1) := by decide +kernel
theorem dX7_years_18 : decode cX7_years 18 = .ok (.sipush 999, 3) := by decide +kernel
theorem dX7_years_21 : decode cX7_years 21 = .ok (.if_icmp .le 6, 3) := by decide +kernel
theorem dX7_years_24 : decode cX7_years 24 = .ok (.bipush (-6), 2) := by decide +kernel
theorem dX7_years_26 : decode cX7_years 26 = .ok (.istore_n 2, 1) := by decide +kernel
theorem dX7_years_27 : decode cX7_years 27 = .ok (.iload_n 2, 1) := by decide +kernel
theorem dX7_years_28 : decode cX7_years 28 = .ok (.ifCond .eq 9, 3) := by decide +kernel
theorem dX7_years_31 : decode cX7_years 31 = .ok (.aload_n 0, 1) := by decide +kernel
theorem dX7_years_32 : decode cX7_years 32 = .ok (.iload_n 2, 1) := by decide +kernel
theorem dX7_years_33 : decode cX7_years 33 = .ok (.invokevirtual 89, 3) := by decide +kernel
theorem dX7_years_36 : decode cX7_years 36 = .ok (.ireturn, 1) := by decide +kernel
theorem dX7_years_37 : decode cX7_years 37 = .ok (.aload_n 0, 1) := by decide +kernel
theorem dX7_years_38 : decode cX7_years 38 = .ok (.iload_n 1, 1) := by decide +kernel
theorem dX7_years_39 : decode cX7_years 39 = .ok (.invokevirtual 129, 3) := by decide +kernel
theorem dX7_years_42 : decode cX7_years 42 = .ok (.aload_n 0, 1) := by decide +kernel
theorem dX7_years_43 : decode cX7_years 43 = .ok (.invokevirtual 187, 3) := by decide +kernel
theorem dX7_years_46 : decode cX7_years 46 = .ok (.ireturn, 1) := by decide +kernel
theorem dX7_notYears_0 : decode cX7_notYears 0 = .ok (.iload_n 0, 1) := by decide +kernel
theorem dX7_notYears_1 : decode cX7_notYears 1 = .ok (.iconst 0, 1) := by decide +kernel
theorem dX7_notYears_2 : decode cX7_notYears 2 = .ok (.bipush 60, 2) := by decide +kernel
theorem dX7_notYears_4 : decode cX7_notYears 4 = .ok (.invokestatic 82, 3) := by decide +kernel
theorem dX7_notYears_7 : decode cX7_notYears 7 = .ok (.ireturn, 1) := by decide +kernel
theorem dX7_moneyIn_0 : decode cX7_moneyIn 0 = .ok (.aload_n 0, 1) := by decide +kernel
theorem dX7_moneyIn_1 : decode cX7_moneyIn 1 = .ok (.invokevirtual 190, 3) := by decide +kernel
theorem dX7_moneyIn_4 : decode cX7_moneyIn 4 = .ok (.aload_n 0, 1) := by decide +kernel
theorem dX7_moneyIn_5 : decode cX7_moneyIn 5 = .ok (.iload_n 2, 1) := by decide +kernel
theorem dX7_moneyIn_6 : decode cX7_moneyIn 6 = .ok (.invokevirtual 129, 3) := by decide +kernel
theorem dX7_moneyIn_9 : decode cX7_moneyIn 9 = .ok (.aload_n 0, 1) := by decide +kernel
theorem dX7_moneyIn_10 : decode cX7_moneyIn 10 = .ok (.getfield 19, 3) := by decide +kernel
theorem dX7_moneyIn_13 : decode cX7_moneyIn 13 = .ok (.iload_n 1, 1) := by decide +kernel
theorem dX7_moneyIn_14 : decode cX7_moneyIn 14 = .ok (.iaload, 1) := by decide +kernel
theorem dX7_moneyIn_15 : decode cX7_moneyIn 15 = .ok (.istore_n 3, 1) := by decide +kernel
theorem dX7_moneyIn_16 : decode cX7_moneyIn 16 = .ok (.aload_n 0, 1) := by decide +kernel
theorem dX7_moneyIn_17 : decode cX7_moneyIn 17 = .ok (.invokevirtual 193, 3) := by decide +kernel
theorem dX7_moneyIn_20 : decode cX7_moneyIn 20 = .ok (.iload_n 3, 1) := by decide +kernel
theorem dX7_moneyIn_21 : decode cX7_moneyIn 21 = .ok (.ireturn, 1) := by decide +kernel
theorem dX7_wealthIn_0 : decode cX7_wealthIn 0 = .ok (.aload_n 0, 1) := by decide +kernel
theorem dX7_wealthIn_1 : decode cX7_wealthIn 1 = .ok (.invokevirtual 190, 3) := by decide +kernel
theorem dX7_wealthIn_4 : decode cX7_wealthIn 4 = .ok (.aload_n 0, 1) := by decide +kernel
theorem dX7_wealthIn_5 : decode cX7_wealthIn 5 = .ok (.iload_n 1, 1) := by decide +kernel
theorem dX7_wealthIn_6 : decode cX7_wealthIn 6 = .ok (.invokevirtual 129, 3) := by decide +kernel
theorem dX7_wealthIn_9 : decode cX7_wealthIn 9 = .ok (.aload_n 0, 1) := by decide +kernel
theorem dX7_wealthIn_10 : decode cX7_wealthIn 10 = .ok (.invokevirtual 187, 3) := by decide +kernel
theorem dX7_wealthIn_13 : decode cX7_wealthIn 13 = .ok (.istore_n 2, 1) := by decide +kernel
theorem dX7_wealthIn_14 : decode cX7_wealthIn 14 = .ok (.aload_n 0, 1) := by decide +kernel
theorem dX7_wealthIn_15 : decode cX7_wealthIn 15 = .ok (.invokevirtual 193, 3) := by decide +kernel
theorem dX7_wealthIn_18 : decode cX7_wealthIn 18 = .ok (.iload_n 2, 1) := by decide +kernel
theorem dX7_wealthIn_19 : decode cX7_wealthIn 19 = .ok (.ireturn, 1) := by decide +kernel
theorem dX7_hasThen_0 : decode cX7_hasThen 0 = .ok (.aload_n 0, 1) := by decide +kernel
theorem dX7_hasThen_1 : decode cX7_hasThen 1 = .ok (.iload_n 1, 1) := by decide +kernel
theorem dX7_hasThen_2 : decode cX7_hasThen 2 = .ok (.invokevirtual 71, 3) := by decide +kernel
theorem dX7_hasThen_5 : decode cX7_hasThen 5 = .ok (.ifCond .ne 7, 3) := by decide +kernel
theorem dX7_hasThen_8 : decode cX7_hasThen 8 = .ok (.iconst (-1), 1) := by decide +kernel
theorem dX7_hasThen_9 : decode cX7_hasThen 9 = .ok (.goto 7, 3) := by decide +kernel
theorem dX7_hasThen_12 : decode cX7_hasThen 12 = .ok (.iload_n 2, 1) := by decide +kernel
theorem dX7_hasThen_13 : decode cX7_hasThen 13 = .ok (.invokestatic 196, 3) := by decide +kernel
theorem dX7_hasThen_16 : decode cX7_hasThen 16 = .ok (.istore 4, 2) := by decide +kernel
theorem dX7_hasThen_18 : decode cX7_hasThen 18 = .ok (.iload 4, 2) := by decide +kernel
theorem dX7_hasThen_20 : decode cX7_hasThen 20 = .ok (.ifCond .ne 16, 3) := by decide +kernel
theorem dX7_hasThen_23 : decode cX7_hasThen 23 = .ok (.iload_n 3, 1) := by decide +kernel
theorem dX7_hasThen_24 : decode cX7_hasThen 24 = .ok (.iconst 0, 1) := by decide +kernel
theorem dX7_hasThen_25 : decode cX7_hasThen 25 = .ok (.iconst 1, 1) := by decide +kernel
theorem dX7_hasThen_26 : decode cX7_hasThen 26 = .ok (.invokestatic 100, 3) := by decide +kernel
theorem dX7_hasThen_29 : decode cX7_hasThen 29 = .ok (.ifCond .ne 7, 3) := by decide +kernel
theorem dX7_hasThen_32 : decode cX7_hasThen 32 = .ok (.bipush (-2), 2) := by decide +kernel
theorem dX7_hasThen_34 : decode cX7_hasThen 34 = .ok (.istore 4, 2) := by decide +kernel
theorem dX7_hasThen_36 : decode cX7_hasThen 36 = .ok (.iload 4, 2) := by decide +kernel
theorem dX7_hasThen_38 : decode cX7_hasThen 38 = .ok (.ifCond .eq 10, 3) := by decide +kernel
theorem dX7_hasThen_41 : decode cX7_hasThen 41 = .ok (.aload_n 0, 1) := by decide +kernel
theorem dX7_hasThen_42 : decode cX7_hasThen 42 = .ok (.iload 4, 2) := by decide +kernel
theorem dX7_hasThen_44 : decode cX7_hasThen 44 = .ok (.invokevirtual 89, 3) := by decide +kernel
theorem dX7_hasThen_47 : decode cX7_hasThen 47 = .ok (.ireturn, 1) := by decide +kernel
theorem dX7_hasThen_48 : decode cX7_hasThen 48 = .ok (.iload_n 3, 1) := by decide +kernel
theorem dX7_hasThen_49 : decode cX7_hasThen 49 = .ok (.ifCond .ne 10, 3) := by decide +kernel
theorem dX7_hasThen_52 : decode cX7_hasThen 52 = .ok (.aload_n 0, 1) := by decide +kernel
theorem dX7_hasThen_53 : decode cX7_hasThen 53 = .ok (.iload_n 1, 1) := by decide +kernel
theorem dX7_hasThen_54 : decode cX7_hasThen 54 = .ok (.iload_n 2, 1) := by decide +kernel
theorem dX7_hasThen_55 : decode cX7_hasThen 55 = .ok (.invokevirtual 199, 3) := by decide +kernel
theorem dX7_hasThen_58 : decode cX7_hasThen 58 = .ok (.ireturn, 1) := by decide +kernel
theorem dX7_hasThen_59 : decode cX7_hasThen 59 = .ok (.aload_n 0, 1) := by decide +kernel
theorem dX7_hasThen_60 : decode cX7_hasThen 60 = .ok (.invokevirtual 190, 3) := by decide +kernel
theorem dX7_hasThen_63 : decode cX7_hasThen 63 = .ok (.aload_n 0, 1) := by decide +kernel
theorem dX7_hasThen_64 : decode cX7_hasThen 64 = .ok (.iload_n 2, 1) := by decide +kernel
theorem dX7_hasThen_65 : decode cX7_hasThen 65 = .ok (.invokevirtual 129, 3) := by decide +kernel
theorem dX7_hasThen_68 : decode cX7_hasThen 68 = .ok (.aload_n 0, 1) := by decide +kernel
theorem dX7_hasThen_69 : decode cX7_hasThen 69 = .ok (.iload_n 1, 1) := by decide +kernel
theorem dX7_hasThen_70 : decode cX7_hasThen 70 = .ok (.invokevirtual 181, 3) := by decide +kernel
theorem dX7_hasThen_73 : decode cX7_hasThen 73 = .ok (.invokestatic 184, 3) := by decide +kernel
theorem dX7_hasThen_76 : decode cX7_hasThen 76 = .ok (.istore 5, 2) := by decide +kernel
theorem dX7_hasThen_78 : decode cX7_hasThen 78 = .ok (.aload_n 0, 1) := by decide +kernel
theorem dX7_hasThen_79 : decode cX7_hasThen 79 = .ok (.invokevirtual 193, 3) := by decide +kernel
theorem dX7_hasThen_82 : decode cX7_hasThen 82 = .ok (.iload 5, 2) := by decide +kernel
theorem dX7_hasThen_84 : decode cX7_hasThen 84 = .ok (.ireturn, 1) := by decide +kernel
theorem dX7_areKin_0 : decode cX7_areKin 0 = .ok (.aload_n 0, 1) := by decide +kernel
theorem dX7_areKin_1 : decode cX7_areKin 1 = .ok (.iload_n 1, 1) := by decide +kernel
theorem dX7_areKin_2 : decode cX7_areKin 2 = .ok (.iload_n 2, 1) := by decide +kernel
theorem dX7_areKin_3 : decode cX7_areKin 3 = .ok (.invokevirtual 119, 3) := by decide +kernel
theorem dX7_areKin_6 : decode cX7_areKin 6 = .ok (.ifCond .ne 7, 3) := by decide +kernel
theorem dX7_areKin_9 : decode cX7_areKin 9 = .ok (.iconst (-1), 1) := by decide +kernel
theorem dX7_areKin_10 : decode cX7_areKin 10 = .ok (.goto 7, 3) := by decide +kernel
theorem dX7_areKin_13 : decode cX7_areKin 13 = .ok (.iload_n 3, 1) := by decide +kernel
theorem dX7_areKin_14 : decode cX7_areKin 14 = .ok (.invokestatic 196, 3) := by decide +kernel
theorem dX7_areKin_17 : decode cX7_areKin 17 = .ok (.istore 4, 2) := by decide +kernel
theorem dX7_areKin_19 : decode cX7_areKin 19 = .ok (.iload 4, 2) := by decide +kernel
theorem dX7_areKin_21 : decode cX7_areKin 21 = .ok (.ifCond .eq 10, 3) := by decide +kernel
theorem dX7_areKin_24 : decode cX7_areKin 24 = .ok (.aload_n 0, 1) := by decide +kernel
theorem dX7_areKin_25 : decode cX7_areKin 25 = .ok (.iload 4, 2) := by decide +kernel
theorem dX7_areKin_27 : decode cX7_areKin 27 = .ok (.invokevirtual 89, 3) := by decide +kernel
theorem dX7_areKin_30 : decode cX7_areKin 30 = .ok (.ireturn, 1) := by decide +kernel
theorem dX7_areKin_31 : decode cX7_areKin 31 = .ok (.aload_n 0, 1) := by decide +kernel
theorem dX7_areKin_32 : decode cX7_areKin 32 = .ok (.invokevirtual 190, 3) := by decide +kernel
theorem dX7_areKin_35 : decode cX7_areKin 35 = .ok (.aload_n 0, 1) := by decide +kernel
theorem dX7_areKin_36 : decode cX7_areKin 36 = .ok (.iload_n 3, 1) := by decide +kernel
theorem dX7_areKin_37 : decode cX7_areKin 37 = .ok (.invokevirtual 129, 3) := by decide +kernel
theorem dX7_areKin_40 : decode cX7_areKin 40 = .ok (.aload_n 0, 1) := by decide +kernel
theorem dX7_areKin_41 : decode cX7_areKin 41 = .ok (.iload_n 1, 1) := by decide +kernel
theorem dX7_areKin_42 : decode cX7_areKin 42 = .ok (.iload_n 2, 1) := by decide +kernel
theorem dX7_areKin_43 : decode cX7_areKin 43 = .ok (.invokevirtual 79, 3) := by decide +kernel
theorem dX7_areKin_46 : decode cX7_areKin 46 = .ok (.ifCond .eq 7, 3) := by decide +kernel
theorem dX7_areKin_49 : decode cX7_areKin 49 = .ok (.iconst 1, 1) := by decide +kernel
theorem dX7_areKin_50 : decode cX7_areKin 50 = .ok (.goto 4, 3) := by decide +kernel
theorem dX7_areKin_53 : decode cX7_areKin 53 = .ok (.iconst 0, 1) := by decide +kernel
theorem dX7_areKin_54 : decode cX7_areKin 54 = .ok (.istore 5, 2) := by decide +kernel
theorem dX7_areKin_56 : decode cX7_areKin 56 = .ok (.aload_n 0, 1) := by decide +kernel
theorem dX7_areKin_57 : decode cX7_areKin 57 = .ok (.invokevirtual 193, 3) := by decide +kernel
theorem dX7_areKin_60 : decode cX7_areKin 60 = .ok (.iload 5, 2) := by decide +kernel
theorem dX7_areKin_62 : decode cX7_areKin 62 = .ok (.ireturn, 1) := by decide +kernel
theorem dX7_allMoney_0 : decode cX7_allMoney 0 = .ok (.iload_n 1, 1) := by decide +kernel
theorem dX7_allMoney_1 : decode cX7_allMoney 1 = .ok (.invokestatic 196, 3) := by decide +kernel
theorem dX7_allMoney_4 : decode cX7_allMoney 4 = .ok (.istore_n 2, 1) := by decide +kernel
theorem dX7_allMoney_5 : decode cX7_allMoney 5 = .ok (.iload_n 2, 1) := by decide +kernel
theorem dX7_allMoney_6 : decode cX7_allMoney 6 = .ok (.ifCond .eq 11, 3) := by decide +kernel
theorem dX7_allMoney_9 : decode cX7_allMoney 9 = .ok (.aload_n 0, 1) := by decide +kernel
theorem dX7_allMoney_10 : decode cX7_allMoney 10 = .ok (.iload_n 2, 1) := by decide +kernel
theorem dX7_allMoney_11 : decode cX7_allMoney 11 = .ok (.invokevirtual 89, 3) := by decide +kernel
theorem dX7_allMoney_14 : decode cX7_allMoney 14 = .ok (.goto 8, 3) := by decide +kernel
theorem dX7_allMoney_17 : decode cX7_allMoney 17 = .ok (.aload_n 0, 1) := by decide +kernel
theorem dX7_allMoney_18 : decode cX7_allMoney 18 = .ok (.iload_n 1, 1) := by decide +kernel
theorem dX7_allMoney_19 : decode cX7_allMoney 19 = .ok (.invokevirtual 202, 3) := by decide +kernel
theorem dX7_allMoney_22 : decode cX7_allMoney 22 = .ok (.ireturn, 1) := by decide +kernel
theorem dX7_ruinOf_0 : decode cX7_ruinOf 0 = .ok (.aload_n 0, 1) := by decide +kernel
theorem dX7_ruinOf_1 : decode cX7_ruinOf 1 = .ok (.invokevirtual 190, 3) := by decide +kernel
theorem dX7_ruinOf_4 : decode cX7_ruinOf 4 = .ok (.bipush (-9), 2) := by decide +kernel
theorem dX7_ruinOf_6 : decode cX7_ruinOf 6 = .ok (.istore_n 2, 1) := by decide +kernel
theorem dX7_ruinOf_7 : decode cX7_ruinOf 7 = .ok (.iconst 0, 1) := by decide +kernel
theorem dX7_ruinOf_8 : decode cX7_ruinOf 8 = .ok (.istore_n 3, 1) := by decide +kernel
theorem dX7_ruinOf_9 : decode cX7_ruinOf 9 = .ok (.iload_n 3, 1) := by decide +kernel
theorem dX7_ruinOf_10 : decode cX7_ruinOf 10 = .ok (.bipush 60, 2) := by decide +kernel
theorem dX7_ruinOf_12 : decode cX7_ruinOf 12 = .ok (.if_icmp .gt 33, 3) := by decide +kernel
theorem dX7_ruinOf_15 : decode cX7_ruinOf 15 = .ok (.iload_n 2, 1) := by decide +kernel
theorem dX7_ruinOf_16 : decode cX7_ruinOf 16 = .ok (.ifCond .ge 29, 3) := by decide +kernel
theorem dX7_ruinOf_19 : decode cX7_ruinOf 19 = .ok (.aload_n 0, 1) := by decide +kernel
theorem dX7_ruinOf_20 : decode cX7_ruinOf 20 = .ok (.getfield 19, 3) := by decide +kernel
theorem dX7_ruinOf_23 : decode cX7_ruinOf 23 = .ok (.iload_n 1, 1) := by decide +kernel
theorem dX7_ruinOf_24 : decode cX7_ruinOf 24 = .ok (.iaload, 1) := by decide +kernel
theorem dX7_ruinOf_25 : decode cX7_ruinOf 25 = .ok (.ifCond .ne 7, 3) := by decide +kernel
theorem dX7_ruinOf_28 : decode cX7_ruinOf 28 = .ok (.iload_n 3, 1) := by decide +kernel
theorem dX7_ruinOf_29 : decode cX7_ruinOf 29 = .ok (.goto 5, 3) := by decide +kernel
theorem dX7_ruinOf_32 : decode cX7_ruinOf 32 = .ok (.bipush (-9), 2) := by decide +kernel
theorem dX7_ruinOf_34 : decode cX7_ruinOf 34 = .ok (.istore_n 2, 1) := by decide +kernel
theorem dX7_ruinOf_35 : decode cX7_ruinOf 35 = .ok (.aload_n 0, 1) := by decide +kernel
theorem dX7_ruinOf_36 : decode cX7_ruinOf 36 = .ok (.invokevirtual 178, 3) := by decide +kernel
theorem dX7_ruinOf_39 : decode cX7_ruinOf 39 = .ok (.iinc 3 1, 3) := by decide +kernel
theorem dX7_ruinOf_42 : decode cX7_ruinOf 42 = .ok (.goto (-33), 3) := by decide +kernel
theorem dX7_ruinOf_45 : decode cX7_ruinOf 45 = .ok (.aload_n 0, 1) := by decide +kernel
theorem dX7_ruinOf_46 : decode cX7_ruinOf 46 = .ok (.invokevirtual 193, 3) := by decide +kernel
theorem dX7_ruinOf_49 : decode cX7_ruinOf 49 = .ok (.iload_n 2, 1) := by decide +kernel
theorem dX7_ruinOf_50 : decode cX7_ruinOf 50 = .ok (.ireturn, 1) := by decide +kernel
theorem dX7_ruined_0 : decode cX7_ruined 0 = .ok (.aload_n 0, 1) := by decide +kernel
theorem dX7_ruined_1 : decode cX7_ruined 1 = .ok (.iload_n 1, 1) := by decide +kernel
theorem dX7_ruined_2 : decode cX7_ruined 2 = .ok (.invokevirtual 71, 3) := by decide +kernel
theorem dX7_ruined_5 : decode cX7_ruined 5 = .ok (.ifCond .eq 11, 3) := by decide +kernel
theorem dX7_ruined_8 : decode cX7_ruined 8 = .ok (.aload_n 0, 1) := by decide +kernel
theorem dX7_ruined_9 : decode cX7_ruined 9 = .ok (.iload_n 1, 1) := by decide +kernel
theorem dX7_ruined_10 : decode cX7_ruined 10 = .ok (.invokevirtual 205, 3) := by decide +kernel
theorem dX7_ruined_13 : decode cX7_ruined 13 = .ok (.goto 8, 3) := by decide +kernel
theorem dX7_ruined_16 : decode cX7_ruined 16 = .ok (.aload_n 0, 1) := by decide +kernel
theorem dX7_ruined_17 : decode cX7_ruined 17 = .ok (.iconst (-1), 1) := by decide +kernel
theorem dX7_ruined_18 : decode cX7_ruined 18 = .ok (.invokevirtual 89, 3) := by decide +kernel
theorem dX7_ruined_21 : decode cX7_ruined 21 = .ok (.ireturn, 1) := by decide +kernel
theorem dX7_isSteady_0 : decode cX7_isSteady 0 = .ok (.iconst 0, 1) := by decide +kernel
theorem dX7_isSteady_1 : decode cX7_isSteady 1 = .ok (.istore_n 1, 1) := by decide +kernel
theorem dX7_isSteady_2 : decode cX7_isSteady 2 = .ok (.iload_n 1, 1) := by decide +kernel
theorem dX7_isSteady_3 : decode cX7_isSteady 3 = .ok (.aload_n 0, 1) := by decide +kernel
theorem dX7_isSteady_4 : decode cX7_isSteady 4 = .ok (.getfield 65, 3) := by decide +kernel
theorem dX7_isSteady_7 : decode cX7_isSteady 7 = .ok (.if_icmp .ge 36, 3) := by decide +kernel
theorem dX7_isSteady_10 : decode cX7_isSteady 10 = .ok (.aload_n 0, 1) := by decide +kernel
theorem dX7_isSteady_11 : decode cX7_isSteady 11 = .ok (.getfield 47, 3) := by decide +kernel
theorem dX7_isSteady_14 : decode cX7_isSteady 14 = .ok (.iload_n 1, 1) := by decide +kernel
theorem dX7_isSteady_15 : decode cX7_isSteady 15 = .ok (.aload_n 0, 1) := by decide +kernel
theorem dX7_isSteady_16 : decode cX7_isSteady 16 = .ok (.getfield 19, 3) := by decide +kernel
theorem dX7_isSteady_19 : decode cX7_isSteady 19 = .ok (.iload_n 1, 1) := by decide +kernel
theorem dX7_isSteady_20 : decode cX7_isSteady 20 = .ok (.iaload, 1) := by decide +kernel
theorem dX7_isSteady_21 : decode cX7_isSteady 21 = .ok (.iastore, 1) := by decide +kernel
theorem dX7_isSteady_22 : decode cX7_isSteady 22 = .ok (.aload_n 0, 1) := by decide +kernel
theorem dX7_isSteady_23 : decode cX7_isSteady 23 = .ok (.getfield 47, 3) := by decide +kernel
theorem dX7_isSteady_26 : decode cX7_isSteady 26 = .ok (.iload_n 1, 1) := by decide +kernel
theorem dX7_isSteady_27 : decode cX7_isSteady 27 = .ok (.bipush 8, 2) := by decide +kernel
theorem dX7_isSteady_29 : decode cX7_isSteady 29 = .ok (.iadd, 1) := by decide +kernel
theorem dX7_isSteady_30 : decode cX7_isSteady 30 = .ok (.aload_n 0, 1) := by decide +kernel
theorem dX7_isSteady_31 : decode cX7_isSteady 31 = .ok (.getfield 22, 3) := by decide +kernel
theorem dX7_isSteady_34 : decode cX7_isSteady 34 = .ok (.iload_n 1, 1) := by decide +kernel
theorem dX7_isSteady_35 : decode cX7_isSteady 35 = .ok (.iaload, 1) := by decide +kernel
theorem dX7_isSteady_36 : decode cX7_isSteady 36 = .ok (.iastore, 1) := by decide +kernel
theorem dX7_isSteady_37 : decode cX7_isSteady 37 = .ok (.iinc 1 1, 3) := by decide +kernel
theorem dX7_isSteady_40 : decode cX7_isSteady 40 = .ok (.goto (-38), 3) := by decide +kernel
theorem dX7_isSteady_43 : decode cX7_isSteady 43 = .ok (.aload_n 0, 1) := by decide +kernel
theorem dX7_isSteady_44 : decode cX7_isSteady 44 = .ok (.invokevirtual 178, 3) := by decide +kernel
theorem dX7_isSteady_47 : decode cX7_isSteady 47 = .ok (.iconst 0, 1) := by decide +kernel
theorem dX7_isSteady_48 : decode cX7_isSteady 48 = .ok (.istore_n 1, 1) := by decide +kernel
theorem dX7_isSteady_49 : decode cX7_isSteady 49 = .ok (.iload_n 1, 1) := by decide +kernel
theorem dX7_isSteady_50 : decode cX7_isSteady 50 = .ok (.aload_n 0, 1) := by decide +kernel
theorem dX7_isSteady_51 : decode cX7_isSteady 51 = .ok (.getfield 65, 3) := by decide +kernel
theorem dX7_isSteady_54 : decode cX7_isSteady 54 = .ok (.if_icmp .ge 44, 3) := by decide +kernel
theorem dX7_isSteady_57 : decode cX7_isSteady 57 = .ok (.aload_n 0, 1) := by decide +kernel
theorem dX7_isSteady_58 : decode cX7_isSteady 58 = .ok (.getfield 47, 3) := by decide +kernel
theorem dX7_isSteady_61 : decode cX7_isSteady 61 = .ok (.iload_n 1, 1) := by decide +kernel
theorem dX7_isSteady_62 : decode cX7_isSteady 62 = .ok (.iaload, 1) := by decide +kernel
theorem dX7_isSteady_63 : decode cX7_isSteady 63 = .ok (.aload_n 0, 1) := by decide +kernel
theorem dX7_isSteady_64 : decode cX7_isSteady 64 = .ok (.getfield 19, 3) := by decide +kernel
theorem dX7_isSteady_67 : decode cX7_isSteady 67 = .ok (.iload_n 1, 1) := by decide +kernel
theorem dX7_isSteady_68 : decode cX7_isSteady 68 = .ok (.iaload, 1) := by decide +kernel
theorem dX7_isSteady_69 : decode cX7_isSteady 69 = .ok (.if_icmp .ne 21, 3) := by decide +kernel
theorem dX7_isSteady_72 : decode cX7_isSteady 72 = .ok (.aload_n 0, 1) := by decide +kernel
theorem dX7_isSteady_73 : decode cX7_isSteady 73 = .ok (.getfield 47, 3) := by decide +kernel
theorem dX7_isSteady_76 : decode cX7_isSteady 76 = .ok (.iload_n 1, 1) := by decide +kernel
theorem dX7_isSteady_77 : decode cX7_isSteady 77 = .ok (.bipush 8, 2) := by decide +kernel
theorem dX7_isSteady_79 : decode cX7_isSteady 79 = .ok (.iadd, 1) := by decide +kernel
theorem dX7_isSteady_80 : decode cX7_isSteady 80 = .ok (.iaload, 1) := by decide +kernel
theorem dX7_isSteady_81 : decode cX7_isSteady 81 = .ok (.aload_n 0, 1) := by decide +kernel
theorem dX7_isSteady_82 : decode cX7_isSteady 82 = .ok (.getfield 22, 3) := by decide +kernel
theorem dX7_isSteady_85 : decode cX7_isSteady 85 = .ok (.iload_n 1, 1) := by decide +kernel
theorem dX7_isSteady_86 : decode cX7_isSteady 86 = .ok (.iaload, 1) := by decide +kernel
theorem dX7_isSteady_87 : decode cX7_isSteady 87 = .ok (.if_icmp .eq 5, 3) := by decide +kernel
theorem dX7_isSteady_90 : decode cX7_isSteady 90 = .ok (.iconst 0, 1) := by decide +kernel
theorem dX7_isSteady_91 : decode cX7_isSteady 91 = .ok (.ireturn, 1) := by decide +kernel
theorem dX7_isSteady_92 : decode cX7_isSteady 92 = .ok (.iinc 1 1, 3) := by decide +kernel
theorem dX7_isSteady_95 : decode cX7_isSteady 95 = .ok (.goto (-46), 3) := by decide +kernel
theorem dX7_isSteady_98 : decode cX7_isSteady 98 = .ok (.iconst 1, 1) := by decide +kernel
theorem dX7_isSteady_99 : decode cX7_isSteady 99 = .ok (.ireturn, 1) := by decide +kernel
theorem dX7_steadyAt_0 : decode cX7_steadyAt 0 = .ok (.aload_n 0, 1) := by decide +kernel
theorem dX7_steadyAt_1 : decode cX7_steadyAt 1 = .ok (.invokevirtual 190, 3) := by decide +kernel
theorem dX7_steadyAt_4 : decode cX7_steadyAt 4 = .ok (.bipush (-9), 2) := by decide +kernel
theorem dX7_steadyAt_6 : decode cX7_steadyAt 6 = .ok (.istore_n 1, 1) := by decide +kernel
theorem dX7_steadyAt_7 : decode cX7_steadyAt 7 = .ok (.iconst 0, 1) := by decide +kernel
theorem dX7_steadyAt_8 : decode cX7_steadyAt 8 = .ok (.istore_n 2, 1) := by decide +kernel
theorem dX7_steadyAt_9 : decode cX7_steadyAt 9 = .ok (.iload_n 2, 1) := by decide +kernel
theorem dX7_steadyAt_10 : decode cX7_steadyAt 10 = .ok (.bipush 60, 2) := by decide +kernel
theorem dX7_steadyAt_12 : decode cX7_steadyAt 12 = .ok (.if_icmp .gt 27, 3) := by decide +kernel
theorem dX7_steadyAt_15 : decode cX7_steadyAt 15 = .ok (.iload_n 1, 1) := by decide +kernel
theorem dX7_steadyAt_16 : decode cX7_steadyAt 16 = .ok (.ifCond .ge 23, 3) := by decide +kernel
theorem dX7_steadyAt_19 : decode cX7_steadyAt 19 = .ok (.aload_n 0, 1) := by decide +kernel
theorem dX7_steadyAt_20 : decode cX7_steadyAt 20 = .ok (.invokevirtual 208, 3) := by decide +kernel
theorem dX7_steadyAt_23 : decode cX7_steadyAt 23 = .ok (.ifCond .eq 7, 3) := by decide +kernel
theorem dX7_steadyAt_26 : decode cX7_steadyAt 26 = .ok (.iload_n 2, 1) := by decide +kernel
theorem dX7_steadyAt_27 : decode cX7_steadyAt 27 = .ok (.goto 5, 3) := by decide +kernel
theorem dX7_steadyAt_30 : decode cX7_steadyAt 30 = .ok (.bipush (-9), 2) := by decide +kernel
theorem dX7_steadyAt_32 : decode cX7_steadyAt 32 = .ok (.istore_n 1, 1) := by decide +kernel
theorem dX7_steadyAt_33 : decode cX7_steadyAt 33 = .ok (.iinc 2 1, 3) := by decide +kernel
theorem dX7_steadyAt_36 : decode cX7_steadyAt 36 = .ok (.goto (-27), 3) := by decide +kernel
theorem dX7_steadyAt_39 : decode cX7_steadyAt 39 = .ok (.aload_n 0, 1) := by decide +kernel
theorem dX7_steadyAt_40 : decode cX7_steadyAt 40 = .ok (.invokevirtual 193, 3) := by decide +kernel
theorem dX7_steadyAt_43 : decode cX7_steadyAt 43 = .ok (.iload_n 1, 1) := by decide +kernel
theorem dX7_steadyAt_44 : decode cX7_steadyAt 44 = .ok (.ireturn, 1) := by decide +kernel
theorem dX7_first_0 : decode cX7_first 0 = .ok (.iload_n 1, 1) := by decide +kernel
theorem dX7_first_1 : decode cX7_first 1 = .ok (.iconst 0, 1) := by decide +kernel
theorem dX7_first_2 : decode cX7_first 2 = .ok (.iconst 2, 1) := by decide +kernel
theorem dX7_first_3 : decode cX7_first 3 = .ok (.invokestatic 100, 3) := by decide +kernel
theorem dX7_first_6 : decode cX7_first 6 = .ok (.ifCond .ne 10, 3) := by decide +kernel
theorem dX7_first_9 : decode cX7_first 9 = .ok (.aload_n 0, 1) := by decide +kernel
theorem dX7_first_10 : decode cX7_first 10 = .ok (.bipush (-2), 2) := by decide +kernel
theorem dX7_first_12 : decode cX7_first 12 = .ok (.invokevirtual 89, 3) := by decide +kernel
theorem dX7_first_15 : decode cX7_first 15 = .ok (.ireturn, 1) := by decide +kernel
theorem dX7_first_16 : decode cX7_first 16 = .ok (.iload_n 1, 1) := by decide +kernel
theorem dX7_first_17 : decode cX7_first 17 = .ok (.iconst 2, 1) := by decide +kernel
theorem dX7_first_18 : decode cX7_first 18 = .ok (.if_icmp .ne 8, 3) := by decide +kernel
theorem dX7_first_21 : decode cX7_first 21 = .ok (.aload_n 0, 1) := by decide +kernel
theorem dX7_first_22 : decode cX7_first 22 = .ok (.invokevirtual 211, 3) := by decide +kernel
theorem dX7_first_25 : decode cX7_first 25 = .ok (.ireturn, 1) := by decide +kernel
theorem dX7_first_26 : decode cX7_first 26 = .ok (.bipush (-9), 2) := by decide +kernel
theorem dX7_first_28 : decode cX7_first 28 = .ok (.istore_n 2, 1) := by decide +kernel
theorem dX7_first_29 : decode cX7_first 29 = .ok (.bipush (-9), 2) := by decide +kernel
theorem dX7_first_31 : decode cX7_first 31 = .ok (.istore_n 3, 1) := by decide +kernel
theorem dX7_first_32 : decode cX7_first 32 = .ok (.iconst 0, 1) := by decide +kernel
theorem dX7_first_33 : decode cX7_first 33 = .ok (.istore 4, 2) := by decide +kernel
theorem dX7_first_35 : decode cX7_first 35 = .ok (.iload 4, 2) := by decide +kernel
theorem dX7_first_37 : decode cX7_first 37 = .ok (.aload_n 0, 1) := by decide +kernel
theorem dX7_first_38 : decode cX7_first 38 = .ok (.getfield 65, 3) := by decide +kernel
theorem dX7_first_41 : decode cX7_first 41 = .ok (.if_icmp .ge 56, 3) := by decide +kernel
theorem dX7_first_44 : decode cX7_first 44 = .ok (.aload_n 0, 1) := by decide +kernel
theorem dX7_first_45 : decode cX7_first 45 = .ok (.getfield 19, 3) := by decide +kernel
theorem dX7_first_48 : decode cX7_first 48 = .ok (.iload 4, 2) := by decide +kernel
theorem dX7_first_50 : decode cX7_first 50 = .ok (.iaload, 1) := by decide +kernel
theorem dX7_first_51 : decode cX7_first 51 = .ok (.ifCond .ne 8, 3) := by decide +kernel
theorem dX7_first_54 : decode cX7_first 54 = .ok (.bipush (-9), 2) := by decide +kernel
theorem dX7_first_56 : decode cX7_first 56 = .ok (.goto 9, 3) := by decide +kernel
theorem dX7_first_59 : decode cX7_first 59 = .ok (.aload_n 0, 1) := by decide +kernel
theorem dX7_first_60 : decode cX7_first 60 = .ok (.iload 4, 2) := by decide +kernel
theorem dX7_first_62 : decode cX7_first 62 = .ok (.invokevirtual 205, 3) := by decide +kernel
theorem dX7_first_65 : decode cX7_first 65 = .ok (.istore 5, 2) := by decide +kernel
theorem dX7_first_67 : decode cX7_first 67 = .ok (.iload 5, 2) := by decide +kernel
theorem dX7_first_69 : decode cX7_first 69 = .ok (.ifCond .lt 22, 3) := by decide +kernel
theorem dX7_first_72 : decode cX7_first 72 = .ok (.iload_n 2, 1) := by decide +kernel
theorem dX7_first_73 : decode cX7_first 73 = .ok (.ifCond .lt 12, 3) := by decide +kernel
theorem dX7_first_76 : decode cX7_first 76 = .ok (.iload 5, 2) := by decide +kernel
theorem dX7_first_78 : decode cX7_first 78 = .ok (.iload_n 3, 1) := by decide +kernel
theorem dX7_first_79 : decode cX7_first 79 = .ok (.if_icmp .lt 6, 3) := by decide +kernel
theorem dX7_first_82 : decode cX7_first 82 = .ok (.goto 9, 3) := by decide +kernel
theorem dX7_first_85 : decode cX7_first 85 = .ok (.iload 4, 2) := by decide +kernel
theorem dX7_first_87 : decode cX7_first 87 = .ok (.istore_n 2, 1) := by decide +kernel
theorem dX7_first_88 : decode cX7_first 88 = .ok (.iload 5, 2) := by decide +kernel
theorem dX7_first_90 : decode cX7_first 90 = .ok (.istore_n 3, 1) := by decide +kernel
theorem dX7_first_91 : decode cX7_first 91 = .ok (.iinc 4 1, 3) := by decide +kernel
theorem dX7_first_94 : decode cX7_first 94 = .ok (.goto (-59), 3) := by decide +kernel
theorem dX7_first_97 : decode cX7_first 97 = .ok (.iload_n 1, 1) := by decide +kernel
theorem dX7_first_98 : decode cX7_first 98 = .ok (.ifCond .ne 7, 3) := by decide +kernel
theorem dX7_first_101 : decode cX7_first 101 = .ok (.iload_n 2, 1) := by decide +kernel
theorem dX7_first_102 : decode cX7_first 102 = .ok (.goto 4, 3) := by decide +kernel
theorem dX7_first_105 : decode cX7_first 105 = .ok (.iload_n 3, 1) := by decide +kernel
theorem dX7_first_106 : decode cX7_first 106 = .ok (.ireturn, 1) := by decide +kernel
theorem dX7_richest_0 : decode cX7_richest 0 = .ok (.iload_n 1, 1) := by decide +kernel
theorem dX7_richest_1 : decode cX7_richest 1 = .ok (.invokestatic 196, 3) := by decide +kernel
theorem dX7_richest_4 : decode cX7_richest 4 = .ok (.istore_n 2, 1) := by decide +kernel
theorem dX7_richest_5 : decode cX7_richest 5 = .ok (.iload_n 2, 1) := by decide +kernel
theorem dX7_richest_6 : decode cX7_richest 6 = .ok (.ifCond .eq 9, 3) := by decide +kernel
theorem dX7_richest_9 : decode cX7_richest 9 = .ok (.aload_n 0, 1) := by decide +kernel
theorem dX7_richest_10 : decode cX7_richest 10 = .ok (.iload_n 2, 1) := by decide +kernel
theorem dX7_richest_11 : decode cX7_richest 11 = .ok (.invokevirtual 89, 3) := by decide +kernel
theorem dX7_richest_14 : decode cX7_richest 14 = .ok (.ireturn, 1) := by decide +kernel
theorem dX7_richest_15 : decode cX7_richest 15 = .ok (.aload_n 0, 1) := by decide +kernel
theorem dX7_richest_16 : decode cX7_richest 16 = .ok (.invokevirtual 190, 3) := by decide +kernel
theorem dX7_richest_19 : decode cX7_richest 19 = .ok (.aload_n 0, 1) := by decide +kernel
theorem dX7_richest_20 : decode cX7_richest 20 = .ok (.iload_n 1, 1) := by decide +kernel
theorem dX7_richest_21 : decode cX7_richest 21 = .ok (.invokevirtual 129, 3) := by decide +kernel
theorem dX7_richest_24 : decode cX7_richest 24 = .ok (.bipush (-9), 2) := by decide +kernel
theorem dX7_richest_26 : decode cX7_richest 26 = .ok (.istore_n 3, 1) := by decide +kernel
theorem dX7_richest_27 : decode cX7_richest 27 = .ok (.iconst 0, 1) := by decide +kernel
theorem dX7_richest_28 : decode cX7_richest 28 = .ok (.istore 4, 2) := by decide +kernel
theorem dX7_richest_30 : decode cX7_richest 30 = .ok (.iload 4, 2) := by decide +kernel
theorem dX7_richest_32 : decode cX7_richest 32 = .ok (.aload_n 0, 1) := by decide +kernel
theorem dX7_richest_33 : decode cX7_richest 33 = .ok (.getfield 65, 3) := by decide +kernel
theorem dX7_richest_36 : decode cX7_richest 36 = .ok (.if_icmp .ge 36, 3) := by decide +kernel
theorem dX7_richest_39 : decode cX7_richest 39 = .ok (.iload_n 3, 1) := by decide +kernel
theorem dX7_richest_40 : decode cX7_richest 40 = .ok (.ifCond .lt 19, 3) := by decide +kernel
theorem dX7_richest_43 : decode cX7_richest 43 = .ok (.aload_n 0, 1) := by decide +kernel
theorem dX7_richest_44 : decode cX7_richest 44 = .ok (.getfield 19, 3) := by decide +kernel
theorem dX7_richest_47 : decode cX7_richest 47 = .ok (.iload 4, 2) := by decide +kernel
theorem dX7_richest_49 : decode cX7_richest 49 = .ok (.iaload, 1) := by decide +kernel
theorem dX7_richest_50 : decode cX7_richest 50 = .ok (.aload_n 0, 1) := by decide +kernel
theorem dX7_richest_51 : decode cX7_richest 51 = .ok (.getfield 19, 3) := by decide +kernel
theorem dX7_richest_54 : decode cX7_richest 54 = .ok (.iload_n 3, 1) := by decide +kernel
theorem dX7_richest_55 : decode cX7_richest 55 = .ok (.iaload, 1) := by decide +kernel
theorem dX7_richest_56 : decode cX7_richest 56 = .ok (.if_icmp .le 8, 3) := by decide +kernel
theorem dX7_richest_59 : decode cX7_richest 59 = .ok (.iload 4, 2) := by decide +kernel
theorem dX7_richest_61 : decode cX7_richest 61 = .ok (.goto 4, 3) := by decide +kernel
theorem dX7_richest_64 : decode cX7_richest 64 = .ok (.iload_n 3, 1) := by decide +kernel
theorem dX7_richest_65 : decode cX7_richest 65 = .ok (.istore_n 3, 1) := by decide +kernel
theorem dX7_richest_66 : decode cX7_richest 66 = .ok (.iinc 4 1, 3) := by decide +kernel
theorem dX7_richest_69 : decode cX7_richest 69 = .ok (.goto (-39), 3) := by decide +kernel
theorem dX7_richest_72 : decode cX7_richest 72 = .ok (.aload_n 0, 1) := by decide +kernel
theorem dX7_richest_73 : decode cX7_richest 73 = .ok (.invokevirtual 193, 3) := by decide +kernel
theorem dX7_richest_76 : decode cX7_richest 76 = .ok (.iload_n 3, 1) := by decide +kernel
theorem dX7_richest_77 : decode cX7_richest 77 = .ok (.ireturn, 1) := by decide +kernel
theorem dX7_findSteps_0 : decode cX7_findSteps 0 = .ok (.iconst 0, 1) := by decide +kernel
theorem dX7_findSteps_1 : decode cX7_findSteps 1 = .ok (.istore_n 2, 1) := by decide +kernel
theorem dX7_findSteps_2 : decode cX7_findSteps 2 = .ok (.iload_n 2, 1) := by decide +kernel
theorem dX7_findSteps_3 : decode cX7_findSteps 3 = .ok (.bipush 8, 2) := by decide +kernel
theorem dX7_findSteps_5 : decode cX7_findSteps 5 = .ok (.if_icmp .ge 17, 3) := by decide +kernel
theorem dX7_findSteps_8 : decode cX7_findSteps 8 = .ok (.aload_n 0, 1) := by decide +kernel
theorem dX7_findSteps_9 : decode cX7_findSteps 9 = .ok (.getfield 50, 3) := by decide +kernel
theorem dX7_findSteps_12 : decode cX7_findSteps 12 = .ok (.iload_n 2, 1) := by decide +kernel
theorem dX7_findSteps_13 : decode cX7_findSteps 13 = .ok (.bipush (-9), 2) := by decide +kernel
theorem dX7_findSteps_15 : decode cX7_findSteps 15 = .ok (.iastore, 1) := by decide +kernel
theorem dX7_findSteps_16 : decode cX7_findSteps 16 = .ok (.iinc 2 1, 3) := by decide +kernel
theorem dX7_findSteps_19 : decode cX7_findSteps 19 = .ok (.goto (-17), 3) := by decide +kernel
theorem dX7_findSteps_22 : decode cX7_findSteps 22 = .ok (.aload_n 0, 1) := by decide +kernel
theorem dX7_findSteps_23 : decode cX7_findSteps 23 = .ok (.getfield 50, 3) := by decide +kernel
theorem dX7_findSteps_26 : decode cX7_findSteps 26 = .ok (.iload_n 1, 1) := by decide +kernel
theorem dX7_findSteps_27 : decode cX7_findSteps 27 = .ok (.iconst 0, 1) := by decide +kernel
theorem dX7_findSteps_28 : decode cX7_findSteps 28 = .ok (.iastore, 1) := by decide +kernel
theorem dX7_findSteps_29 : decode cX7_findSteps 29 = .ok (.iconst 0, 1) := by decide +kernel
theorem dX7_findSteps_30 : decode cX7_findSteps 30 = .ok (.istore_n 2, 1) := by decide +kernel
theorem dX7_findSteps_31 : decode cX7_findSteps 31 = .ok (.iload_n 2, 1) := by decide +kernel
theorem dX7_findSteps_32 : decode cX7_findSteps 32 = .ok (.bipush 8, 2) := by decide +kernel
theorem dX7_findSteps_34 : decode cX7_findSteps 34 = .ok (.if_icmp .ge 96, 3) := by decide +kernel
theorem dX7_findSteps_37 : decode cX7_findSteps 37 = .ok (.iconst 0, 1) := by decide +kernel
theorem dX7_findSteps_38 : decode cX7_findSteps 38 = .ok (.istore_n 3, 1) := by decide +kernel
theorem dX7_findSteps_39 : decode cX7_findSteps 39 = .ok (.iload_n 3, 1) := by decide +kernel
theorem dX7_findSteps_40 : decode cX7_findSteps 40 = .ok (.aload_n 0, 1) := by decide +kernel
theorem dX7_findSteps_41 : decode cX7_findSteps 41 = .ok (.getfield 65, 3) := by decide +kernel
theorem dX7_findSteps_44 : decode cX7_findSteps 44 = .ok (.if_icmp .ge 80, 3) := by decide +kernel
theorem dX7_findSteps_47 : decode cX7_findSteps 47 = .ok (.aload_n 0, 1) := by decide +kernel
theorem dX7_findSteps_48 : decode cX7_findSteps 48 = .ok (.getfield 50, 3) := by decide +kernel
theorem dX7_findSteps_51 : decode cX7_findSteps 51 = .ok (.iload_n 3, 1) := by decide +kernel
theorem dX7_findSteps_52 : decode cX7_findSteps 52 = .ok (.iaload, 1) := by decide +kernel
theorem dX7_findSteps_53 : decode cX7_findSteps 53 = .ok (.iload_n 2, 1) := by decide +kernel
theorem dX7_findSteps_54 : decode cX7_findSteps 54 = .ok (.if_icmp .eq 6, 3) := by decide +kernel
theorem dX7_findSteps_57 : decode cX7_findSteps 57 = .ok (.goto 61, 3) := by decide +kernel
theorem dX7_findSteps_60 : decode cX7_findSteps 60 = .ok (.iconst 0, 1) := by decide +kernel
theorem dX7_findSteps_61 : decode cX7_findSteps 61 = .ok (.istore 4, 2) := by decide +kernel
theorem dX7_findSteps_63 : decode cX7_findSteps 63 = .ok (.iload 4, 2) := by decide +kernel
theorem dX7_findSteps_65 : decode cX7_findSteps 65 = .ok (.aload_n 0, 1) := by decide +kernel
theorem dX7_findSteps_66 : decode cX7_findSteps 66 = .ok (.getfield 65, 3) := by decide +kernel
theorem dX7_findSteps_69 : decode cX7_findSteps 69 = .ok (.if_icmp .ge 49, 3) := by decide +kernel
theorem dX7_findSteps_72 : decode cX7_findSteps 72 = .ok (.aload_n 0, 1) := by decide +kernel
theorem dX7_findSteps_73 : decode cX7_findSteps 73 = .ok (.getfield 50, 3) := by decide +kernel
theorem dX7_findSteps_76 : decode cX7_findSteps 76 = .ok (.iload 4, 2) := by decide +kernel
theorem dX7_findSteps_78 : decode cX7_findSteps 78 = .ok (.aload_n 0, 1) := by decide +kernel
theorem dX7_findSteps_79 : decode cX7_findSteps 79 = .ok (.getfield 50, 3) := by decide +kernel
theorem dX7_findSteps_82 : decode cX7_findSteps 82 = .ok (.iload 4, 2) := by decide +kernel
theorem dX7_findSteps_84 : decode cX7_findSteps 84 = .ok (.iaload, 1) := by decide +kernel
theorem dX7_findSteps_85 : decode cX7_findSteps 85 = .ok (.ifCond .ge 19, 3) := by decide +kernel
theorem dX7_findSteps_88 : decode cX7_findSteps 88 = .ok (.aload_n 0, 1) := by decide +kernel
theorem dX7_findSteps_89 : decode cX7_findSteps 89 = .ok (.iload_n 3, 1) := by decide +kernel
theorem dX7_findSteps_90 : decode cX7_findSteps 90 = .ok (.iload 4, 2) := by decide +kernel
theorem dX7_findSteps_92 : decode cX7_findSteps 92 = .ok (.invokevirtual 79, 3) := by decide +kernel
theorem dX7_findSteps_95 : decode cX7_findSteps 95 = .ok (.ifCond .eq 9, 3) := by decide +kernel
theorem dX7_findSteps_98 : decode cX7_findSteps 98 = .ok (.iload_n 2, 1) := by decide +kernel
theorem dX7_findSteps_99 : decode cX7_findSteps 99 = .ok (.iconst 1, 1) := by decide +kernel
theorem dX7_findSteps_100 : decode cX7_findSteps 100 = .ok (.iadd, 1) := by decide +kernel
theorem dX7_findSteps_101 : decode cX7_findSteps 101 = .ok (.goto 10, 3) := by decide +kernel
theorem dX7_findSteps_104 : decode cX7_findSteps 104 = .ok (.aload_n 0, 1) := by decide +kernel
theorem dX7_findSteps_105 : decode cX7_findSteps 105 = .ok (.getfield 50, 3) := by decide +kernel
theorem dX7_findSteps_108 : decode cX7_findSteps 108 = .ok (.iload 4, 2) := by decide +kernel
theorem dX7_findSteps_110 : decode cX7_findSteps 110 = .ok (.iaload, 1) := by decide +kernel
theorem dX7_findSteps_111 : decode cX7_findSteps 111 = .ok (.iastore, 1) := by decide +kernel
theorem dX7_findSteps_112 : decode cX7_findSteps 112 = .ok (.iinc 4 1, 3) := by decide +kernel
theorem dX7_findSteps_115 : decode cX7_findSteps 115 = .ok (.goto (-52), 3) := by decide +kernel
theorem dX7_findSteps_118 : decode cX7_findSteps 118 = .ok (.iinc 3 1, 3) := by decide +kernel
theorem dX7_findSteps_121 : decode cX7_findSteps 121 = .ok (.goto (-82), 3) := by decide +kernel
theorem dX7_findSteps_124 : decode cX7_findSteps 124 = .ok (.iinc 2 1, 3) := by decide +kernel
theorem dX7_findSteps_127 : decode cX7_findSteps 127 = .ok (.goto (-96), 3) := by decide +kernel
theorem dX7_findSteps_130 : decode cX7_findSteps 130 = .ok (.return_, 1) := by decide +kernel
theorem dX7_reached_0 : decode cX7_reached 0 = .ok (.aload_n 0, 1) := by decide +kernel
theorem dX7_reached_1 : decode cX7_reached 1 = .ok (.iload_n 1, 1) := by decide +kernel
theorem dX7_reached_2 : decode cX7_reached 2 = .ok (.invokevirtual 214, 3) := by decide +kernel
theorem dX7_reached_5 : decode cX7_reached 5 = .ok (.iconst 0, 1) := by decide +kernel
theorem dX7_reached_6 : decode cX7_reached 6 = .ok (.istore_n 2, 1) := by decide +kernel
theorem dX7_reached_7 : decode cX7_reached 7 = .ok (.iconst 0, 1) := by decide +kernel
theorem dX7_reached_8 : decode cX7_reached 8 = .ok (.istore_n 3, 1) := by decide +kernel
theorem dX7_reached_9 : decode cX7_reached 9 = .ok (.iload_n 3, 1) := by decide +kernel
theorem dX7_reached_10 : decode cX7_reached 10 = .ok (.aload_n 0, 1) := by decide +kernel
theorem dX7_reached_11 : decode cX7_reached 11 = .ok (.getfield 65, 3) := by decide +kernel
theorem dX7_reached_14 : decode cX7_reached 14 = .ok (.if_icmp .ge 28, 3) := by decide +kernel
theorem dX7_reached_17 : decode cX7_reached 17 = .ok (.iload_n 2, 1) := by decide +kernel
theorem dX7_reached_18 : decode cX7_reached 18 = .ok (.aload_n 0, 1) := by decide +kernel
theorem dX7_reached_19 : decode cX7_reached 19 = .ok (.getfield 50, 3) := by decide +kernel
theorem dX7_reached_22 : decode cX7_reached 22 = .ok (.iload_n 3, 1) := by decide +kernel
theorem dX7_reached_23 : decode cX7_reached 23 = .ok (.iaload, 1) := by decide +kernel
theorem dX7_reached_24 : decode cX7_reached 24 = .ok (.ifCond .lt 9, 3) := by decide +kernel
theorem dX7_reached_27 : decode cX7_reached 27 = .ok (.iconst 1, 1) := by decide +kernel
theorem dX7_reached_28 : decode cX7_reached 28 = .ok (.iload_n 3, 1) := by decide +kernel
theorem dX7_reached_29 : decode cX7_reached 29 = .ok (.ishl, 1) := by decide +kernel
theorem dX7_reached_30 : decode cX7_reached 30 = .ok (.goto 4, 3) := by decide +kernel
theorem dX7_reached_33 : decode cX7_reached 33 = .ok (.iconst 0, 1) := by decide +kernel
theorem dX7_reached_34 : decode cX7_reached 34 = .ok (.ior, 1) := by decide +kernel
theorem dX7_reached_35 : decode cX7_reached 35 = .ok (.istore_n 2, 1) := by decide +kernel
theorem dX7_reached_36 : decode cX7_reached 36 = .ok (.iinc 3 1, 3) := by decide +kernel
theorem dX7_reached_39 : decode cX7_reached 39 = .ok (.goto (-30), 3) := by decide +kernel
theorem dX7_reached_42 : decode cX7_reached 42 = .ok (.iload_n 2, 1) := by decide +kernel
theorem dX7_reached_43 : decode cX7_reached 43 = .ok (.ireturn, 1) := by decide +kernel
theorem dX7_kin_0 : decode cX7_kin 0 = .ok (.aload_n 0, 1) := by decide +kernel
theorem dX7_kin_1 : decode cX7_kin 1 = .ok (.iload_n 1, 1) := by decide +kernel
theorem dX7_kin_2 : decode cX7_kin 2 = .ok (.invokevirtual 71, 3) := by decide +kernel
theorem dX7_kin_5 : decode cX7_kin 5 = .ok (.ifCond .ne 7, 3) := by decide +kernel
theorem dX7_kin_8 : decode cX7_kin 8 = .ok (.iconst (-1), 1) := by decide +kernel
theorem dX7_kin_9 : decode cX7_kin 9 = .ok (.goto 18, 3) := by decide +kernel
theorem dX7_kin_12 : decode cX7_kin 12 = .ok (.iload_n 2, 1) := by decide +kernel
theorem dX7_kin_13 : decode cX7_kin 13 = .ok (.iconst 0, 1) := by decide +kernel
theorem dX7_kin_14 : decode cX7_kin 14 = .ok (.iconst 1, 1) := by decide +kernel
theorem dX7_kin_15 : decode cX7_kin 15 = .ok (.invokestatic 100, 3) := by decide +kernel
theorem dX7_kin_18 : decode cX7_kin 18 = .ok (.ifCond .ne 8, 3) := by decide +kernel
theorem dX7_kin_21 : decode cX7_kin 21 = .ok (.bipush (-2), 2) := by decide +kernel
theorem dX7_kin_23 : decode cX7_kin 23 = .ok (.goto 4, 3) := by decide +kernel
theorem dX7_kin_26 : decode cX7_kin 26 = .ok (.iconst 0, 1) := by decide +kernel
theorem dX7_kin_27 : decode cX7_kin 27 = .ok (.istore_n 3, 1) := by decide +kernel
theorem dX7_kin_28 : decode cX7_kin 28 = .ok (.iload_n 3, 1) := by decide +kernel
theorem dX7_kin_29 : decode cX7_kin 29 = .ok (.ifCond .eq 9, 3) := by decide +kernel
theorem dX7_kin_32 : decode cX7_kin 32 = .ok (.aload_n 0, 1) := by decide +kernel
theorem dX7_kin_33 : decode cX7_kin 33 = .ok (.iload_n 3, 1) := by decide +kernel
theorem dX7_kin_34 : decode cX7_kin 34 = .ok (.invokevirtual 89, 3) := by decide +kernel
theorem dX7_kin_37 : decode cX7_kin 37 = .ok (.ireturn, 1) := by decide +kernel
theorem dX7_kin_38 : decode cX7_kin 38 = .ok (.iload_n 2, 1) := by decide +kernel
theorem dX7_kin_39 : decode cX7_kin 39 = .ok (.ifCond .ne 11, 3) := by decide +kernel
theorem dX7_kin_42 : decode cX7_kin 42 = .ok (.aload_n 0, 1) := by decide +kernel
theorem dX7_kin_43 : decode cX7_kin 43 = .ok (.iload_n 1, 1) := by decide +kernel
theorem dX7_kin_44 : decode cX7_kin 44 = .ok (.invokevirtual 181, 3) := by decide +kernel
theorem dX7_kin_47 : decode cX7_kin 47 = .ok (.goto 8, 3) := by decide +kernel
theorem dX7_kin_50 : decode cX7_kin 50 = .ok (.aload_n 0, 1) := by decide +kernel
theorem dX7_kin_51 : decode cX7_kin 51 = .ok (.iload_n 1, 1) := by decide +kernel
theorem dX7_kin_52 : decode cX7_kin 52 = .ok (.invokevirtual 217, 3) := by decide +kernel
theorem dX7_kin_55 : decode cX7_kin 55 = .ok (.ireturn, 1) := by decide +kernel
theorem dX7_removed_0 : decode cX7_removed 0 = .ok (.aload_n 0, 1) := by decide +kernel
theorem dX7_removed_1 : decode cX7_removed 1 = .ok (.iload_n 1, 1) := by decide +kernel
theorem dX7_removed_2 : decode cX7_removed 2 = .ok (.iload_n 2, 1) := by decide +kernel
theorem dX7_removed_3 : decode cX7_removed 3 = .ok (.invokevirtual 119, 3) := by decide +kernel
theorem dX7_removed_6 : decode cX7_removed 6 = .ok (.ifCond .ne 9, 3) := by decide +kernel
theorem dX7_removed_9 : decode cX7_removed 9 = .ok (.aload_n 0, 1) := by decide +kernel
theorem dX7_removed_10 : decode cX7_removed 10 = .ok (.iconst (-1), 1) := by decide +kernel
theorem dX7_removed_11 : decode cX7_removed 11 = .ok (.invokevirtual 89, 3) := by decide +kernel
theorem dX7_removed_14 : decode cX7_removed 14 = .ok (.ireturn, 1) := by decide +kernel
theorem dX7_removed_15 : decode cX7_removed 15 = .ok (.aload_n 0, 1) := by decide +kernel
theorem dX7_removed_16 : decode cX7_removed 16 = .ok (.iload_n 1, 1) := by decide +kernel
theorem dX7_removed_17 : decode cX7_removed 17 = .ok (.invokevirtual 214, 3) := by decide +kernel
theorem dX7_removed_20 : decode cX7_removed 20 = .ok (.aload_n 0, 1) := by decide +kernel
theorem dX7_removed_21 : decode cX7_removed 21 = .ok (.getfield 50, 3) := by decide +kernel
theorem dX7_removed_24 : decode cX7_removed 24 = .ok (.iload_n 2, 1) := by decide +kernel
theorem dX7_removed_25 : decode cX7_removed 25 = .ok (.iaload, 1) := by decide +kernel
theorem dX7_removed_26 : decode cX7_removed 26 = .ok (.ireturn, 1) := by decide +kernel
theorem dX7_farthest_0 : decode cX7_farthest 0 = .ok (.iload_n 1, 1) := by decide +kernel
theorem dX7_farthest_1 : decode cX7_farthest 1 = .ok (.iconst 0, 1) := by decide +kernel
theorem dX7_farthest_2 : decode cX7_farthest 2 = .ok (.iconst 1, 1) := by decide +kernel
theorem dX7_farthest_3 : decode cX7_farthest 3 = .ok (.invokestatic 100, 3) := by decide +kernel
theorem dX7_farthest_6 : decode cX7_farthest 6 = .ok (.ifCond .ne 10, 3) := by decide +kernel
theorem dX7_farthest_9 : decode cX7_farthest 9 = .ok (.aload_n 0, 1) := by decide +kernel
theorem dX7_farthest_10 : decode cX7_farthest 10 = .ok (.bipush (-2), 2) := by decide +kernel
theorem dX7_farthest_12 : decode cX7_farthest 12 = .ok (.invokevirtual 89, 3) := by decide +kernel
theorem dX7_farthest_15 : decode cX7_farthest 15 = .ok (.ireturn, 1) := by decide +kernel
theorem dX7_farthest_16 : decode cX7_farthest 16 = .ok (.bipush (-9), 2) := by decide +kernel
theorem dX7_farthest_18 : decode cX7_farthest 18 = .ok (.istore_n 2, 1) := by decide +kernel
theorem dX7_farthest_19 : decode cX7_farthest 19 = .ok (.bipush (-9), 2) := by decide +kernel
theorem dX7_farthest_21 : decode cX7_farthest 21 = .ok (.istore_n 3, 1) := by decide +kernel
theorem dX7_farthest_22 : decode cX7_farthest 22 = .ok (.iconst 0, 1) := by decide +kernel
theorem dX7_farthest_23 : decode cX7_farthest 23 = .ok (.istore 4, 2) := by decide +kernel
theorem dX7_farthest_25 : decode cX7_farthest 25 = .ok (.iload 4, 2) := by decide +kernel
theorem dX7_farthest_27 : decode cX7_farthest 27 = .ok (.aload_n 0, 1) := by decide +kernel
theorem dX7_farthest_28 : decode cX7_farthest 28 = .ok (.getfield 65, 3) := by decide +kernel
theorem dX7_farthest_31 : decode cX7_farthest 31 = .ok (.if_icmp .ge 77, 3) := by decide +kernel
theorem dX7_farthest_34 : decode cX7_farthest 34 = .ok (.aload_n 0, 1) := by decide +kernel
theorem dX7_farthest_35 : decode cX7_farthest 35 = .ok (.iload 4, 2) := by decide +kernel
theorem dX7_farthest_37 : decode cX7_farthest 37 = .ok (.invokevirtual 214, 3) := by decide +kernel
theorem dX7_farthest_40 : decode cX7_farthest 40 = .ok (.iload 4, 2) := by decide +kernel
theorem dX7_farthest_42 : decode cX7_farthest 42 = .ok (.iconst 1, 1) := by decide +kernel
theorem dX7_farthest_43 : decode cX7_farthest 43 = .ok (.iadd, 1) := by decide +kernel
theorem dX7_farthest_44 : decode cX7_farthest 44 = .ok (.istore 5, 2) := by decide +kernel
theorem dX7_farthest_46 : decode cX7_farthest 46 = .ok (.iload 5, 2) := by decide +kernel
theorem dX7_farthest_48 : decode cX7_farthest 48 = .ok (.aload_n 0, 1) := by decide +kernel
theorem dX7_farthest_49 : decode cX7_farthest 49 = .ok (.getfield 65, 3) := by decide +kernel
theorem dX7_farthest_52 : decode cX7_farthest 52 = .ok (.if_icmp .ge 50, 3) := by decide +kernel
theorem dX7_farthest_55 : decode cX7_farthest 55 = .ok (.aload_n 0, 1) := by decide +kernel
theorem dX7_farthest_56 : decode cX7_farthest 56 = .ok (.getfield 50, 3) := by decide +kernel
theorem dX7_farthest_59 : decode cX7_farthest 59 = .ok (.iload 5, 2) := by decide +kernel
theorem dX7_farthest_61 : decode cX7_farthest 61 = .ok (.iaload, 1) := by decide +kernel
theorem dX7_farthest_62 : decode cX7_farthest 62 = .ok (.ifCond .lt 34, 3) := by decide +kernel
theorem dX7_farthest_65 : decode cX7_farthest 65 = .ok (.aload_n 0, 1) := by decide +kernel
theorem dX7_farthest_66 : decode cX7_farthest 66 = .ok (.getfield 50, 3) := by decide +kernel
theorem dX7_farthest_69 : decode cX7_farthest 69 = .ok (.iload 5, 2) := by decide +kernel
theorem dX7_farthest_71 : decode cX7_farthest 71 = .ok (.iaload, 1) := by decide +kernel
theorem dX7_farthest_72 : decode cX7_farthest 72 = .ok (.iload_n 3, 1) := by decide +kernel
theorem dX7_farthest_73 : decode cX7_farthest 73 = .ok (.if_icmp .gt 6, 3) := by decide +kernel
theorem dX7_farthest_76 : decode cX7_farthest 76 = .ok (.goto 20, 3) := by decide +kernel
theorem dX7_farthest_79 : decode cX7_farthest 79 = .ok (.bipush 10, 2) := by decide +kernel
theorem dX7_farthest_81 : decode cX7_farthest 81 = .ok (.iload 4, 2) := by decide +kernel
theorem dX7_farthest_83 : decode cX7_farthest 83 = .ok (.imul, 1) := by decide +kernel
theorem dX7_farthest_84 : decode cX7_farthest 84 = .ok (.iload 5, 2) := by decide +kernel
theorem dX7_farthest_86 : decode cX7_farthest 86 = .ok (.iadd, 1) := by decide +kernel
theorem dX7_farthest_87 : decode cX7_farthest 87 = .ok (.istore_n 2, 1) := by decide +kernel
theorem dX7_farthest_88 : decode cX7_farthest 88 = .ok (.aload_n 0, 1) := by decide +kernel
theorem dX7_farthest_89 : decode cX7_farthest 89 = .ok (.getfield 50, 3) := by decide +kernel
theorem dX7_farthest_92 : decode cX7_farthest 92 = .ok (.iload 5, 2) := by decide +kernel
theorem dX7_farthest_94 : decode cX7_farthest 94 = .ok (.iaload, 1) := by decide +kernel
theorem dX7_farthest_95 : decode cX7_farthest 95 = .ok (.istore_n 3, 1) := by decide +kernel
theorem dX7_farthest_96 : decode cX7_farthest 96 = .ok (.iinc 5 1, 3) := by decide +kernel
theorem dX7_farthest_99 : decode cX7_farthest 99 = .ok (.goto (-53), 3) := by decide +kernel
theorem dX7_farthest_102 : decode cX7_farthest 102 = .ok (.iinc 4 1, 3) := by decide +kernel
theorem dX7_farthest_105 : decode cX7_farthest 105 = .ok (.goto (-80), 3) := by decide +kernel
theorem dX7_farthest_108 : decode cX7_farthest 108 = .ok (.iload_n 1, 1) := by decide +kernel
theorem dX7_farthest_109 : decode cX7_farthest 109 = .ok (.ifCond .ne 7, 3) := by decide +kernel
theorem dX7_farthest_112 : decode cX7_farthest 112 = .ok (.iload_n 2, 1) := by decide +kernel
theorem dX7_farthest_113 : decode cX7_farthest 113 = .ok (.goto 4, 3) := by decide +kernel
theorem dX7_farthest_116 : decode cX7_farthest 116 = .ok (.iload_n 3, 1) := by decide +kernel
theorem dX7_farthest_117 : decode cX7_farthest 117 = .ok (.ireturn, 1) := by decide +kernel
theorem dX7_threes_0 : decode cX7_threes 0 = .ok (.iconst 0, 1) := by decide +kernel
theorem dX7_threes_1 : decode cX7_threes 1 = .ok (.istore_n 1, 1) := by decide +kernel
theorem dX7_threes_2 : decode cX7_threes 2 = .ok (.iconst 0, 1) := by decide +kernel
theorem dX7_threes_3 : decode cX7_threes 3 = .ok (.istore_n 2, 1) := by decide +kernel
theorem dX7_threes_4 : decode cX7_threes 4 = .ok (.iload_n 2, 1) := by decide +kernel
theorem dX7_threes_5 : decode cX7_threes 5 = .ok (.aload_n 0, 1) := by decide +kernel
theorem dX7_threes_6 : decode cX7_threes 6 = .ok (.getfield 65, 3) := by decide +kernel
theorem dX7_threes_9 : decode cX7_threes 9 = .ok (.if_icmp .ge 84, 3) := by decide +kernel
theorem dX7_threes_12 : decode cX7_threes 12 = .ok (.iload_n 2, 1) := by decide +kernel
theorem dX7_threes_13 : decode cX7_threes 13 = .ok (.iconst 1, 1) := by decide +kernel
theorem dX7_threes_14 : decode cX7_threes 14 = .ok (.iadd, 1) := by decide +kernel
theorem dX7_threes_15 : decode cX7_threes 15 = .ok (.istore_n 3, 1) := by decide +kernel
theorem dX7_threes_16 : decode cX7_threes 16 = .ok (.iload_n 3, 1) := by decide +kernel
theorem dX7_threes_17 : decode cX7_threes 17 = .ok (.aload_n 0, 1) := by decide +kernel
theorem dX7_threes_18 : decode cX7_threes 18 = .ok (.getfield 65, 3) := by decide +kernel
theorem dX7_threes_21 : decode cX7_threes 21 = .ok (.if_icmp .ge 66, 3) := by decide +kernel
theorem dX7_threes_24 : decode cX7_threes 24 = .ok (.iload_n 3, 1) := by decide +kernel
theorem dX7_threes_25 : decode cX7_threes 25 = .ok (.iconst 1, 1) := by decide +kernel
theorem dX7_threes_26 : decode cX7_threes 26 = .ok (.iadd, 1) := by decide +kernel
theorem dX7_threes_27 : decode cX7_threes 27 = .ok (.istore 4, 2) := by decide +kernel
theorem dX7_threes_29 : decode cX7_threes 29 = .ok (.iload 4, 2) := by decide +kernel
theorem dX7_threes_31 : decode cX7_threes 31 = .ok (.aload_n 0, 1) := by decide +kernel
theorem dX7_threes_32 : decode cX7_threes 32 = .ok (.getfield 65, 3) := by decide +kernel
theorem dX7_threes_35 : decode cX7_threes 35 = .ok (.if_icmp .ge 46, 3) := by decide +kernel
theorem dX7_threes_38 : decode cX7_threes 38 = .ok (.iload_n 1, 1) := by decide +kernel
theorem dX7_threes_39 : decode cX7_threes 39 = .ok (.aload_n 0, 1) := by decide +kernel
theorem dX7_threes_40 : decode cX7_threes 40 = .ok (.iload_n 2, 1) := by decide +kernel
theorem dX7_threes_41 : decode cX7_threes 41 = .ok (.iload_n 3, 1) := by decide +kernel
theorem dX7_threes_42 : decode cX7_threes 42 = .ok (.invokevirtual 79, 3) := by decide +kernel
theorem dX7_threes_45 : decode cX7_threes 45 = .ok (.ifCond .eq 27, 3) := by decide +kernel
theorem dX7_threes_48 : decode cX7_threes 48 = .ok (.aload_n 0, 1) := by decide +kernel
theorem dX7_threes_49 : decode cX7_threes 49 = .ok (.iload_n 3, 1) := by decide +kernel
theorem dX7_threes_50 : decode cX7_threes 50 = .ok (.iload 4, 2) := by decide +kernel
theorem dX7_threes_52 : decode cX7_threes 52 = .ok (.invokevirtual 79, 3) := by decide +kernel
theorem dX7_threes_55 : decode cX7_threes 55 = .ok (.ifCond .eq 17, 3) := by decide +kernel
theorem dX7_threes_58 : decode cX7_threes 58 = .ok (.aload_n 0, 1) := by decide +kernel
theorem dX7_threes_59 : decode cX7_threes 59 = .ok (.iload_n 2, 1) := by decide +kernel
theorem dX7_threes_60 : decode cX7_threes 60 = .ok (.iload 4, 2) := by decide +kernel
theorem dX7_threes_62 : decode cX7_threes 62 = .ok (.invokevirtual 79, 3) := by decide +kernel
theorem dX7_threes_65 : decode cX7_threes 65 = .ok (.ifCond .eq 7, 3) := by decide +kernel
theorem dX7_threes_68 : decode cX7_threes 68 = .ok (.iconst 1, 1) := by decide +kernel
theorem dX7_threes_69 : decode cX7_threes 69 = .ok (.goto 4, 3) := by decide +kernel
theorem dX7_threes_72 : decode cX7_threes 72 = .ok (.iconst 0, 1) := by decide +kernel
theorem dX7_threes_73 : decode cX7_threes 73 = .ok (.iadd, 1) := by decide +kernel
theorem dX7_threes_74 : decode cX7_threes 74 = .ok (.istore_n 1, 1) := by decide +kernel
theorem dX7_threes_75 : decode cX7_threes 75 = .ok (.iinc 4 1, 3) := by decide +kernel
theorem dX7_threes_78 : decode cX7_threes 78 = .ok (.goto (-49), 3) := by decide +kernel
theorem dX7_threes_81 : decode cX7_threes 81 = .ok (.iinc 3 1, 3) := by decide +kernel
theorem dX7_threes_84 : decode cX7_threes 84 = .ok (.goto (-68), 3) := by decide +kernel
theorem dX7_threes_87 : decode cX7_threes 87 = .ok (.iinc 2 1, 3) := by decide +kernel
theorem dX7_threes_90 : decode cX7_threes 90 = .ok (.goto (-86), 3) := by decide +kernel
theorem dX7_threes_93 : decode cX7_threes 93 = .ok (.iload_n 1, 1) := by decide +kernel
theorem dX7_threes_94 : decode cX7_threes 94 = .ok (.ireturn, 1) := by decide +kernel
theorem dX7_groups_0 : decode cX7_groups 0 = .ok (.iload_n 1, 1) := by decide +kernel
theorem dX7_groups_1 : decode cX7_groups 1 = .ok (.iconst 0, 1) := by decide +kernel
theorem dX7_groups_2 : decode cX7_groups 2 = .ok (.iconst 2, 1) := by decide +kernel
theorem dX7_groups_3 : decode cX7_groups 3 = .ok (.invokestatic 100, 3) := by decide +kernel
theorem dX7_groups_6 : decode cX7_groups 6 = .ok (.ifCond .ne 10, 3) := by decide +kernel
theorem dX7_groups_9 : decode cX7_groups 9 = .ok (.aload_n 0, 1) := by decide +kernel
theorem dX7_groups_10 : decode cX7_groups 10 = .ok (.bipush (-2), 2) := by decide +kernel
theorem dX7_groups_12 : decode cX7_groups 12 = .ok (.invokevirtual 89, 3) := by decide +kernel
theorem dX7_groups_15 : decode cX7_groups 15 = .ok (.ireturn, 1) := by decide +kernel
theorem dX7_groups_16 : decode cX7_groups 16 = .ok (.iload_n 1, 1) := by decide +kernel
theorem dX7_groups_17 : decode cX7_groups 17 = .ok (.iconst 2, 1) := by decide +kernel
theorem dX7_groups_18 : decode cX7_groups 18 = .ok (.if_icmp .ne 8, 3) := by decide +kernel
theorem dX7_groups_21 : decode cX7_groups 21 = .ok (.aload_n 0, 1) := by decide +kernel
theorem dX7_groups_22 : decode cX7_groups 22 = .ok (.invokevirtual 220, 3) := by decide +kernel
theorem dX7_groups_25 : decode cX7_groups 25 = .ok (.ireturn, 1) := by decide +kernel
theorem dX7_groups_26 : decode cX7_groups 26 = .ok (.iconst 0, 1) := by decide +kernel
theorem dX7_groups_27 : decode cX7_groups 27 = .ok (.istore_n 2, 1) := by decide +kernel
theorem dX7_groups_28 : decode cX7_groups 28 = .ok (.iconst 0, 1) := by decide +kernel
theorem dX7_groups_29 : decode cX7_groups 29 = .ok (.istore_n 3, 1) := by decide +kernel
theorem dX7_groups_30 : decode cX7_groups 30 = .ok (.iconst 0, 1) := by decide +kernel
theorem dX7_groups_31 : decode cX7_groups 31 = .ok (.istore 4, 2) := by decide +kernel
theorem dX7_groups_33 : decode cX7_groups 33 = .ok (.iload 4, 2) := by decide +kernel
theorem dX7_groups_35 : decode cX7_groups 35 = .ok (.aload_n 0, 1) := by decide +kernel
theorem dX7_groups_36 : decode cX7_groups 36 = .ok (.getfield 65, 3) := by decide +kernel
theorem dX7_groups_39 : decode cX7_groups 39 = .ok (.if_icmp .ge 56, 3) := by decide +kernel
theorem dX7_groups_42 : decode cX7_groups 42 = .ok (.aload_n 0, 1) := by decide +kernel
theorem dX7_groups_43 : decode cX7_groups 43 = .ok (.iload 4, 2) := by decide +kernel
theorem dX7_groups_45 : decode cX7_groups 45 = .ok (.invokevirtual 217, 3) := by decide +kernel
theorem dX7_groups_48 : decode cX7_groups 48 = .ok (.istore 5, 2) := by decide +kernel
theorem dX7_groups_50 : decode cX7_groups 50 = .ok (.iload_n 2, 1) := by decide +kernel
theorem dX7_groups_51 : decode cX7_groups 51 = .ok (.iload 5, 2) := by decide +kernel
theorem dX7_groups_53 : decode cX7_groups 53 = .ok (.iconst 1, 1) := by decide +kernel
theorem dX7_groups_54 : decode cX7_groups 54 = .ok (.iload 4, 2) := by decide +kernel
theorem dX7_groups_56 : decode cX7_groups 56 = .ok (.ishl, 1) := by decide +kernel
theorem dX7_groups_57 : decode cX7_groups 57 = .ok (.iconst 1, 1) := by decide +kernel
theorem dX7_groups_58 : decode cX7_groups 58 = .ok (.isub, 1) := by decide +kernel
theorem dX7_groups_59 : decode cX7_groups 59 = .ok (.iand, 1) := by decide +kernel
theorem dX7_groups_60 : decode cX7_groups 60 = .ok (.ifCond .ne 7, 3) := by decide +kernel
theorem dX7_groups_63 : decode cX7_groups 63 = .ok (.iconst 1, 1) := by decide +kernel
theorem dX7_groups_64 : decode cX7_groups 64 = .ok (.goto 4, 3) := by decide +kernel
theorem dX7_groups_67 : decode cX7_groups 67 = .ok (.iconst 0, 1) := by decide +kernel
theorem dX7_groups_68 : decode cX7_groups 68 = .ok (.iadd, 1) := by decide +kernel
theorem dX7_groups_69 : decode cX7_groups 69 = .ok (.istore_n 2, 1) := by decide +kernel
theorem dX7_groups_70 : decode cX7_groups 70 = .ok (.iload 5, 2) := by decide +kernel
theorem dX7_groups_72 : decode cX7_groups 72 = .ok (.invokestatic 184, 3) := by decide +kernel
theorem dX7_groups_75 : decode cX7_groups 75 = .ok (.iload_n 3, 1) := by decide +kernel
theorem dX7_groups_76 : decode cX7_groups 76 = .ok (.if_icmp .le 11, 3) := by decide +kernel
theorem dX7_groups_79 : decode cX7_groups 79 = .ok (.iload 5, 2) := by decide +kernel
theorem dX7_groups_81 : decode cX7_groups 81 = .ok (.invokestatic 184, 3) := by decide +kernel
theorem dX7_groups_84 : decode cX7_groups 84 = .ok (.goto 4, 3) := by decide +kernel
theorem dX7_groups_87 : decode cX7_groups 87 = .ok (.iload_n 3, 1) := by decide +kernel
theorem dX7_groups_88 : decode cX7_groups 88 = .ok (.istore_n 3, 1) := by decide +kernel
theorem dX7_groups_89 : decode cX7_groups 89 = .ok (.iinc 4 1, 3) := by decide +kernel
theorem dX7_groups_92 : decode cX7_groups 92 = .ok (.goto (-59), 3) := by decide +kernel
theorem dX7_groups_95 : decode cX7_groups 95 = .ok (.iload_n 1, 1) := by decide +kernel
theorem dX7_groups_96 : decode cX7_groups 96 = .ok (.ifCond .ne 7, 3) := by decide +kernel
theorem dX7_groups_99 : decode cX7_groups 99 = .ok (.iload_n 2, 1) := by decide +kernel
theorem dX7_groups_100 : decode cX7_groups 100 = .ok (.goto 4, 3) := by decide +kernel
theorem dX7_groups_103 : decode cX7_groups 103 = .ok (.iload_n 3, 1) := by decide +kernel
theorem dX7_groups_104 : decode cX7_groups 104 = .ok (.ireturn, 1) := by decide +kernel
theorem dX7_areAllKin_0 : decode cX7_areAllKin 0 = .ok (.iconst 0, 1) := by decide +kernel
theorem dX7_areAllKin_1 : decode cX7_areAllKin 1 = .ok (.istore_n 2, 1) := by decide +kernel
theorem dX7_areAllKin_2 : decode cX7_areAllKin 2 = .ok (.iload_n 2, 1) := by decide +kernel
theorem dX7_areAllKin_3 : decode cX7_areAllKin 3 = .ok (.aload_n 0, 1) := by decide +kernel
theorem dX7_areAllKin_4 : decode cX7_areAllKin 4 = .ok (.getfield 65, 3) := by decide +kernel
theorem dX7_areAllKin_7 : decode cX7_areAllKin 7 = .ok (.if_icmp .ge 34, 3) := by decide +kernel
theorem dX7_areAllKin_10 : decode cX7_areAllKin 10 = .ok (.iload_n 1, 1) := by decide +kernel
theorem dX7_areAllKin_11 : decode cX7_areAllKin 11 = .ok (.iload_n 2, 1) := by decide +kernel
theorem dX7_areAllKin_12 : decode cX7_areAllKin 12 = .ok (.invokestatic 75, 3) := by decide +kernel
theorem dX7_areAllKin_15 : decode cX7_areAllKin 15 = .ok (.ifCond .eq 20, 3) := by decide +kernel
theorem dX7_areAllKin_18 : decode cX7_areAllKin 18 = .ok (.iload_n 1, 1) := by decide +kernel
theorem dX7_areAllKin_19 : decode cX7_areAllKin 19 = .ok (.aload_n 0, 1) := by decide +kernel
theorem dX7_areAllKin_20 : decode cX7_areAllKin 20 = .ok (.iload_n 2, 1) := by decide +kernel
theorem dX7_areAllKin_21 : decode cX7_areAllKin 21 = .ok (.invokevirtual 181, 3) := by decide +kernel
theorem dX7_areAllKin_24 : decode cX7_areAllKin 24 = .ok (.iconst (-1), 1) := by decide +kernel
theorem dX7_areAllKin_25 : decode cX7_areAllKin 25 = .ok (.ixor, 1) := by decide +kernel
theorem dX7_areAllKin_26 : decode cX7_areAllKin 26 = .ok (.iand, 1) := by decide +kernel
theorem dX7_areAllKin_27 : decode cX7_areAllKin 27 = .ok (.iconst 1, 1) := by decide +kernel
theorem dX7_areAllKin_28 : decode cX7_areAllKin 28 = .ok (.iload_n 2, 1) := by decide +kernel
theorem dX7_areAllKin_29 : decode cX7_areAllKin 29 = .ok (.ishl, 1) := by decide +kernel
theorem dX7_areAllKin_30 : decode cX7_areAllKin 30 = .ok (.if_icmp .eq 5, 3) := by decide +kernel
theorem dX7_areAllKin_33 : decode cX7_areAllKin 33 = .ok (.iconst 0, 1) := by decide +kernel
theorem dX7_areAllKin_34 : decode cX7_areAllKin 34 = .ok (.ireturn, 1) := by decide +kernel
theorem dX7_areAllKin_35 : decode cX7_areAllKin 35 = .ok (.iinc 2 1, 3) := by decide +kernel
theorem dX7_areAllKin_38 : decode cX7_areAllKin 38 = .ok (.goto (-36), 3) := by decide +kernel
theorem dX7_areAllKin_41 : decode cX7_areAllKin 41 = .ok (.iconst 1, 1) := by decide +kernel
theorem dX7_areAllKin_42 : decode cX7_areAllKin 42 = .ok (.ireturn, 1) := by decide +kernel
theorem dX7_clan_0 : decode cX7_clan 0 = .ok (.iload_n 1, 1) := by decide +kernel
theorem dX7_clan_1 : decode cX7_clan 1 = .ok (.iconst 0, 1) := by decide +kernel
theorem dX7_clan_2 : decode cX7_clan 2 = .ok (.iconst 1, 1) := by decide +kernel
theorem dX7_clan_3 : decode cX7_clan 3 = .ok (.invokestatic 100, 3) := by decide +kernel
theorem dX7_clan_6 : decode cX7_clan 6 = .ok (.ifCond .ne 10, 3) := by decide +kernel
theorem dX7_clan_9 : decode cX7_clan 9 = .ok (.aload_n 0, 1) := by decide +kernel
theorem dX7_clan_10 : decode cX7_clan 10 = .ok (.bipush (-2), 2) := by decide +kernel
theorem dX7_clan_12 : decode cX7_clan 12 = .ok (.invokevirtual 89, 3) := by decide +kernel
theorem dX7_clan_15 : decode cX7_clan 15 = .ok (.ireturn, 1) := by decide +kernel
theorem dX7_clan_16 : decode cX7_clan 16 = .ok (.iconst 0, 1) := by decide +kernel
theorem dX7_clan_17 : decode cX7_clan 17 = .ok (.istore_n 2, 1) := by decide +kernel
theorem dX7_clan_18 : decode cX7_clan 18 = .ok (.iconst 1, 1) := by decide +kernel
theorem dX7_clan_19 : decode cX7_clan 19 = .ok (.istore_n 3, 1) := by decide +kernel
theorem dX7_clan_20 : decode cX7_clan 20 = .ok (.iload_n 3, 1) := by decide +kernel
theorem dX7_clan_21 : decode cX7_clan 21 = .ok (.iconst 1, 1) := by decide +kernel
theorem dX7_clan_22 : decode cX7_clan 22 = .ok (.aload_n 0, 1) := by decide +kernel
theorem dX7_clan_23 : decode cX7_clan 23 = .ok (.getfield 65, 3) := by decide +kernel
theorem dX7_clan_26 : decode cX7_clan 26 = .ok (.ishl, 1) := by decide +kernel
theorem dX7_clan_27 : decode cX7_clan 27 = .ok (.if_icmp .ge 30, 3) := by decide +kernel
theorem dX7_clan_30 : decode cX7_clan 30 = .ok (.iload_n 3, 1) := by decide +kernel
theorem dX7_clan_31 : decode cX7_clan 31 = .ok (.invokestatic 184, 3) := by decide +kernel
theorem dX7_clan_34 : decode cX7_clan 34 = .ok (.iload_n 2, 1) := by decide +kernel
theorem dX7_clan_35 : decode cX7_clan 35 = .ok (.invokestatic 184, 3) := by decide +kernel
theorem dX7_clan_38 : decode cX7_clan 38 = .ok (.if_icmp .le 13, 3) := by decide +kernel
theorem dX7_clan_41 : decode cX7_clan 41 = .ok (.aload_n 0, 1) := by decide +kernel
theorem dX7_clan_42 : decode cX7_clan 42 = .ok (.iload_n 3, 1) := by decide +kernel
theorem dX7_clan_43 : decode cX7_clan 43 = .ok (.invokevirtual 223, 3) := by decide +kernel
theorem dX7_clan_46 : decode cX7_clan 46 = .ok (.ifCond .eq 5, 3) := by decide +kernel
theorem dX7_clan_49 : decode cX7_clan 49 = .ok (.iload_n 3, 1) := by decide +kernel
theorem dX7_clan_50 : decode cX7_clan 50 = .ok (.istore_n 2, 1) := by decide +kernel
theorem dX7_clan_51 : decode cX7_clan 51 = .ok (.iinc 3 1, 3) := by decide +kernel
theorem dX7_clan_54 : decode cX7_clan 54 = .ok (.goto (-34), 3) := by decide +kernel
theorem dX7_clan_57 : decode cX7_clan 57 = .ok (.iload_n 1, 1) := by decide +kernel
theorem dX7_clan_58 : decode cX7_clan 58 = .ok (.ifCond .ne 7, 3) := by decide +kernel
theorem dX7_clan_61 : decode cX7_clan 61 = .ok (.iload_n 2, 1) := by decide +kernel
theorem dX7_clan_62 : decode cX7_clan 62 = .ok (.goto 7, 3) := by decide +kernel
theorem dX7_clan_65 : decode cX7_clan 65 = .ok (.iload_n 2, 1) := by decide +kernel
theorem dX7_clan_66 : decode cX7_clan 66 = .ok (.invokestatic 184, 3) := by decide +kernel
theorem dX7_clan_69 : decode cX7_clan 69 = .ok (.ireturn, 1) := by decide +kernel
theorem dX7_notShort_0 : decode cX7_notShort 0 = .ok (.iload_n 0, 1) := by decide +kernel
theorem dX7_notShort_1 : decode cX7_notShort 1 = .ok (.iconst 0, 1) := by decide +kernel
theorem dX7_notShort_2 : decode cX7_notShort 2 = .ok (.bipush 20, 2) := by decide +kernel
theorem dX7_notShort_4 : decode cX7_notShort 4 = .ok (.invokestatic 82, 3) := by decide +kernel
theorem dX7_notShort_7 : decode cX7_notShort 7 = .ok (.ireturn, 1) := by decide +kernel
theorem dX7_moneySigning_0 : decode cX7_moneySigning 0 = .ok (.aload_n 0, 1) := by decide +kernel
theorem dX7_moneySigning_1 : decode cX7_moneySigning 1 = .ok (.getfield 22, 3) := by decide +kernel
theorem dX7_moneySigning_4 : decode cX7_moneySigning 4 = .ok (.iload_n 1, 1) := by decide +kernel
theorem dX7_moneySigning_5 : decode cX7_moneySigning 5 = .ok (.iaload, 1) := by decide +kernel
theorem dX7_moneySigning_6 : decode cX7_moneySigning 6 = .ok (.istore 4, 2) := by decide +kernel
theorem dX7_moneySigning_8 : decode cX7_moneySigning 8 = .ok (.aload_n 0, 1) := by decide +kernel
theorem dX7_moneySigning_9 : decode cX7_moneySigning 9 = .ok (.getfield 22, 3) := by decide +kernel
theorem dX7_moneySigning_12 : decode cX7_moneySigning 12 = .ok (.iload_n 1, 1) := by decide +kernel
theorem dX7_moneySigning_13 : decode cX7_moneySigning 13 = .ok (.dup2, 1) := by decide +kernel
theorem dX7_moneySigning_14 : decode cX7_moneySigning 14 = .ok (.iaload, 1) := by decide +kernel
theorem dX7_moneySigning_15 : decode cX7_moneySigning 15 = .ok (.iconst 1, 1) := by decide +kernel
theorem dX7_moneySigning_16 : decode cX7_moneySigning 16 = .ok (.iload_n 2, 1) := by decide +kernel
theorem dX7_moneySigning_17 : decode cX7_moneySigning 17 = .ok (.ishl, 1) := by decide +kernel
theorem dX7_moneySigning_18 : decode cX7_moneySigning 18 = .ok (.ixor, 1) := by decide +kernel
theorem dX7_moneySigning_19 : decode cX7_moneySigning 19 = .ok (.iastore, 1) := by decide +kernel
theorem dX7_moneySigning_20 : decode cX7_moneySigning 20 = .ok (.aload_n 0, 1) := by decide +kernel
theorem dX7_moneySigning_21 : decode cX7_moneySigning 21 = .ok (.iload_n 1, 1) := by decide +kernel
theorem dX7_moneySigning_22 : decode cX7_moneySigning 22 = .ok (.iload_n 3, 1) := by decide +kernel
theorem dX7_moneySigning_23 : decode cX7_moneySigning 23 = .ok (.invokevirtual 199, 3) := by decide +kernel
theorem dX7_moneySigning_26 : decode cX7_moneySigning 26 = .ok (.istore 5, 2) := by decide +kernel
theorem dX7_moneySigning_28 : decode cX7_moneySigning 28 = .ok (.aload_n 0, 1) := by decide +kernel
theorem dX7_moneySigning_29 : decode cX7_moneySigning 29 = .ok (.getfield 22, 3) := by decide +kernel
theorem dX7_moneySigning_32 : decode cX7_moneySigning 32 = .ok (.iload_n 1, 1) := by decide +kernel
theorem dX7_moneySigning_33 : decode cX7_moneySigning 33 = .ok (.iload 4, 2) := by decide +kernel
theorem dX7_moneySigning_35 : decode cX7_moneySigning 35 = .ok (.iastore, 1) := by decide +kernel
theorem dX7_moneySigning_36 : decode cX7_moneySigning 36 = .ok (.iload 5, 2) := by decide +kernel
theorem dX7_moneySigning_38 : decode cX7_moneySigning 38 = .ok (.ireturn, 1) := by decide +kernel
theorem dX7_bestTurn_0 : decode cX7_bestTurn 0 = .ok (.bipush (-9), 2) := by decide +kernel
theorem dX7_bestTurn_2 : decode cX7_bestTurn 2 = .ok (.istore 4, 2) := by decide +kernel
theorem dX7_bestTurn_4 : decode cX7_bestTurn 4 = .ok (.aload_n 0, 1) := by decide +kernel
theorem dX7_bestTurn_5 : decode cX7_bestTurn 5 = .ok (.iload_n 1, 1) := by decide +kernel
theorem dX7_bestTurn_6 : decode cX7_bestTurn 6 = .ok (.iload_n 2, 1) := by decide +kernel
theorem dX7_bestTurn_7 : decode cX7_bestTurn 7 = .ok (.invokevirtual 199, 3) := by decide +kernel
theorem dX7_bestTurn_10 : decode cX7_bestTurn 10 = .ok (.istore 5, 2) := by decide +kernel
theorem dX7_bestTurn_12 : decode cX7_bestTurn 12 = .ok (.iconst 0, 1) := by decide +kernel
theorem dX7_bestTurn_13 : decode cX7_bestTurn 13 = .ok (.istore 6, 2) := by decide +kernel
theorem dX7_bestTurn_15 : decode cX7_bestTurn 15 = .ok (.iload 6, 2) := by decide +kernel
theorem dX7_bestTurn_17 : decode cX7_bestTurn 17 = .ok (.aload_n 0, 1) := by decide +kernel
theorem dX7_bestTurn_18 : decode cX7_bestTurn 18 = .ok (.getfield 65, 3) := by decide +kernel
theorem dX7_bestTurn_21 : decode cX7_bestTurn 21 = .ok (.if_icmp .ge 116, 3) := by decide +kernel
theorem dX7_bestTurn_24 : decode cX7_bestTurn 24 = .ok (.iload_n 3, 1) := by decide +kernel
theorem dX7_bestTurn_25 : decode cX7_bestTurn 25 = .ok (.ifCond .eq 59, 3) := by decide +kernel
theorem dX7_bestTurn_28 : decode cX7_bestTurn 28 = .ok (.iload_n 1, 1) := by decide +kernel
theorem dX7_bestTurn_29 : decode cX7_bestTurn 29 = .ok (.iload 6, 2) := by decide +kernel
theorem dX7_bestTurn_31 : decode cX7_bestTurn 31 = .ok (.if_icmp .eq 49, 3) := by decide +kernel
theorem dX7_bestTurn_34 : decode cX7_bestTurn 34 = .ok (.aload_n 0, 1) := by decide +kernel
theorem dX7_bestTurn_35 : decode cX7_bestTurn 35 = .ok (.getfield 22, 3) := by decide +kernel
theorem dX7_bestTurn_38 : decode cX7_bestTurn 38 = .ok (.iload 6, 2) := by decide +kernel
theorem dX7_bestTurn_40 : decode cX7_bestTurn 40 = .ok (.iaload, 1) := by decide +kernel
theorem dX7_bestTurn_41 : decode cX7_bestTurn 41 = .ok (.iload_n 1, 1) := by decide +kernel
theorem dX7_bestTurn_42 : decode cX7_bestTurn 42 = .ok (.invokestatic 75, 3) := by decide +kernel
theorem dX7_bestTurn_45 : decode cX7_bestTurn 45 = .ok (.ifCond .eq 35, 3) := by decide +kernel
theorem dX7_bestTurn_48 : decode cX7_bestTurn 48 = .ok (.aload_n 0, 1) := by decide +kernel
theorem dX7_bestTurn_49 : decode cX7_bestTurn 49 = .ok (.getfield 25, 3) := by decide +kernel
theorem dX7_bestTurn_52 : decode cX7_bestTurn 52 = .ok (.iload_n 1, 1) := by decide +kernel
theorem dX7_bestTurn_53 : decode cX7_bestTurn 53 = .ok (.iaload, 1) := by decide +kernel
theorem dX7_bestTurn_54 : decode cX7_bestTurn 54 = .ok (.iload 6, 2) := by decide +kernel
theorem dX7_bestTurn_56 : decode cX7_bestTurn 56 = .ok (.invokestatic 75, 3) := by decide +kernel
theorem dX7_bestTurn_59 : decode cX7_bestTurn 59 = .ok (.ifCond .ne 21, 3) := by decide +kernel
theorem dX7_bestTurn_62 : decode cX7_bestTurn 62 = .ok (.aload_n 0, 1) := by decide +kernel
theorem dX7_bestTurn_63 : decode cX7_bestTurn 63 = .ok (.getfield 22, 3) := by decide +kernel
theorem dX7_bestTurn_66 : decode cX7_bestTurn 66 = .ok (.iload_n 1, 1) := by decide +kernel
theorem dX7_bestTurn_67 : decode cX7_bestTurn 67 = .ok (.iaload, 1) := by decide +kernel
theorem dX7_bestTurn_68 : decode cX7_bestTurn 68 = .ok (.iload 6, 2) := by decide +kernel
theorem dX7_bestTurn_70 : decode cX7_bestTurn 70 = .ok (.invokestatic 75, 3) := by decide +kernel
theorem dX7_bestTurn_73 : decode cX7_bestTurn 73 = .ok (.ifCond .ne 7, 3) := by decide +kernel
theorem dX7_bestTurn_76 : decode cX7_bestTurn 76 = .ok (.iconst 1, 1) := by decide +kernel
theorem dX7_bestTurn_77 : decode cX7_bestTurn 77 = .ok (.goto 14, 3) := by decide +kernel
theorem dX7_bestTurn_80 : decode cX7_bestTurn 80 = .ok (.iconst 0, 1) := by decide +kernel
theorem dX7_bestTurn_81 : decode cX7_bestTurn 81 = .ok (.goto 10, 3) := by decide +kernel
theorem dX7_bestTurn_84 : decode cX7_bestTurn 84 = .ok (.aload_n 0, 1) := by decide +kernel
theorem dX7_bestTurn_85 : decode cX7_bestTurn 85 = .ok (.iload_n 1, 1) := by decide +kernel
theorem dX7_bestTurn_86 : decode cX7_bestTurn 86 = .ok (.iload 6, 2) := by decide +kernel
theorem dX7_bestTurn_88 : decode cX7_bestTurn 88 = .ok (.invokevirtual 79, 3) := by decide +kernel
theorem dX7_bestTurn_91 : decode cX7_bestTurn 91 = .ok (.istore 7, 2) := by decide +kernel
theorem dX7_bestTurn_93 : decode cX7_bestTurn 93 = .ok (.iload 7, 2) := by decide +kernel
theorem dX7_bestTurn_95 : decode cX7_bestTurn 95 = .ok (.ifCond .eq 14, 3) := by decide +kernel
theorem dX7_bestTurn_98 : decode cX7_bestTurn 98 = .ok (.aload_n 0, 1) := by decide +kernel
theorem dX7_bestTurn_99 : decode cX7_bestTurn 99 = .ok (.iload_n 1, 1) := by decide +kernel
theorem dX7_bestTurn_100 : decode cX7_bestTurn 100 = .ok (.iload 6, 2) := by decide +kernel
theorem dX7_bestTurn_102 : decode cX7_bestTurn 102 = .ok (.iload_n 2, 1) := by decide +kernel
theorem dX7_bestTurn_103 : decode cX7_bestTurn 103 = .ok (.invokevirtual 226, 3) := by decide +kernel
theorem dX7_bestTurn_106 : decode cX7_bestTurn 106 = .ok (.goto 5, 3) := by decide +kernel
theorem dX7_bestTurn_109 : decode cX7_bestTurn 109 = .ok (.bipush (-9), 2) := by decide +kernel
theorem dX7_bestTurn_111 : decode cX7_bestTurn 111 = .ok (.istore 8, 2) := by decide +kernel
theorem dX7_bestTurn_113 : decode cX7_bestTurn 113 = .ok (.iload 8, 2) := by decide +kernel
theorem dX7_bestTurn_115 : decode cX7_bestTurn 115 = .ok (.iload 5, 2) := by decide +kernel
theorem dX7_bestTurn_117 : decode cX7_bestTurn 117 = .ok (.if_icmp .gt 6, 3) := by decide +kernel
theorem dX7_bestTurn_120 : decode cX7_bestTurn 120 = .ok (.goto 11, 3) := by decide +kernel
theorem dX7_bestTurn_123 : decode cX7_bestTurn 123 = .ok (.iload 6, 2) := by decide +kernel
theorem dX7_bestTurn_125 : decode cX7_bestTurn 125 = .ok (.istore 4, 2) := by decide +kernel
theorem dX7_bestTurn_127 : decode cX7_bestTurn 127 = .ok (.iload 8, 2) := by decide +kernel
theorem dX7_bestTurn_129 : decode cX7_bestTurn 129 = .ok (.istore 5, 2) := by decide +kernel
theorem dX7_bestTurn_131 : decode cX7_bestTurn 131 = .ok (.iinc 6 1, 3) := by decide +kernel
theorem dX7_bestTurn_134 : decode cX7_bestTurn 134 = .ok (.goto (-119), 3) := by decide +kernel
theorem dX7_bestTurn_137 : decode cX7_bestTurn 137 = .ok (.iload 4, 2) := by decide +kernel
theorem dX7_bestTurn_139 : decode cX7_bestTurn 139 = .ok (.ireturn, 1) := by decide +kernel
theorem dX7_bestSign_0 : decode cX7_bestSign 0 = .ok (.aload_n 0, 1) := by decide +kernel
theorem dX7_bestSign_1 : decode cX7_bestSign 1 = .ok (.iload_n 1, 1) := by decide +kernel
theorem dX7_bestSign_2 : decode cX7_bestSign 2 = .ok (.invokevirtual 71, 3) := by decide +kernel
theorem dX7_bestSign_5 : decode cX7_bestSign 5 = .ok (.ifCond .ne 7, 3) := by decide +kernel
theorem dX7_bestSign_8 : decode cX7_bestSign 8 = .ok (.iconst (-1), 1) := by decide +kernel
theorem dX7_bestSign_9 : decode cX7_bestSign 9 = .ok (.goto 7, 3) := by decide +kernel
theorem dX7_bestSign_12 : decode cX7_bestSign 12 = .ok (.iload_n 2, 1) := by decide +kernel
theorem dX7_bestSign_13 : decode cX7_bestSign 13 = .ok (.invokestatic 229, 3) := by decide +kernel
theorem dX7_bestSign_16 : decode cX7_bestSign 16 = .ok (.istore_n 3, 1) := by decide +kernel
theorem dX7_bestSign_17 : decode cX7_bestSign 17 = .ok (.iload_n 3, 1) := by decide +kernel
theorem dX7_bestSign_18 : decode cX7_bestSign 18 = .ok (.ifCond .eq 11, 3) := by decide +kernel
theorem dX7_bestSign_21 : decode cX7_bestSign 21 = .ok (.aload_n 0, 1) := by decide +kernel
theorem dX7_bestSign_22 : decode cX7_bestSign 22 = .ok (.iload_n 3, 1) := by decide +kernel
theorem dX7_bestSign_23 : decode cX7_bestSign 23 = .ok (.invokevirtual 89, 3) := by decide +kernel
theorem dX7_bestSign_26 : decode cX7_bestSign 26 = .ok (.goto 10, 3) := by decide +kernel
theorem dX7_bestSign_29 : decode cX7_bestSign 29 = .ok (.aload_n 0, 1) := by decide +kernel
theorem dX7_bestSign_30 : decode cX7_bestSign 30 = .ok (.iload_n 1, 1) := by decide +kernel
theorem dX7_bestSign_31 : decode cX7_bestSign 31 = .ok (.iload_n 2, 1) := by decide +kernel
theorem dX7_bestSign_32 : decode cX7_bestSign 32 = .ok (.iconst 1, 1) := by decide +kernel
theorem dX7_bestSign_33 : decode cX7_bestSign 33 = .ok (.invokevirtual 232, 3) := by decide +kernel
theorem dX7_bestSign_36 : decode cX7_bestSign 36 = .ok (.ireturn, 1) := by decide +kernel
theorem dX7_bestCut_0 : decode cX7_bestCut 0 = .ok (.aload_n 0, 1) := by decide +kernel
theorem dX7_bestCut_1 : decode cX7_bestCut 1 = .ok (.iload_n 1, 1) := by decide +kernel
theorem dX7_bestCut_2 : decode cX7_bestCut 2 = .ok (.invokevirtual 71, 3) := by decide +kernel
theorem dX7_bestCut_5 : decode cX7_bestCut 5 = .ok (.ifCond .ne 7, 3) := by decide +kernel
theorem dX7_bestCut_8 : decode cX7_bestCut 8 = .ok (.iconst (-1), 1) := by decide +kernel
theorem dX7_bestCut_9 : decode cX7_bestCut 9 = .ok (.goto 7, 3) := by decide +kernel
theorem dX7_bestCut_12 : decode cX7_bestCut 12 = .ok (.iload_n 2, 1) := by decide +kernel
theorem dX7_bestCut_13 : decode cX7_bestCut 13 = .ok (.invokestatic 229, 3) := by decide +kernel
theorem dX7_bestCut_16 : decode cX7_bestCut 16 = .ok (.istore_n 3, 1) := by decide +kernel
theorem dX7_bestCut_17 : decode cX7_bestCut 17 = .ok (.iload_n 3, 1) := by decide +kernel
theorem dX7_bestCut_18 : decode cX7_bestCut 18 = .ok (.ifCond .eq 11, 3) := by decide +kernel
theorem dX7_bestCut_21 : decode cX7_bestCut 21 = .ok (.aload_n 0, 1) := by decide +kernel
theorem dX7_bestCut_22 : decode cX7_bestCut 22 = .ok (.iload_n 3, 1) := by decide +kernel
theorem dX7_bestCut_23 : decode cX7_bestCut 23 = .ok (.invokevirtual 89, 3) := by decide +kernel
theorem dX7_bestCut_26 : decode cX7_bestCut 26 = .ok (.goto 10, 3) := by decide +kernel
theorem dX7_bestCut_29 : decode cX7_bestCut 29 = .ok (.aload_n 0, 1) := by decide +kernel
theorem dX7_bestCut_30 : decode cX7_bestCut 30 = .ok (.iload_n 1, 1) := by decide +kernel
theorem dX7_bestCut_31 : decode cX7_bestCut 31 = .ok (.iload_n 2, 1) := by decide +kernel
theorem dX7_bestCut_32 : decode cX7_bestCut 32 = .ok (.iconst 0, 1) := by decide +kernel
theorem dX7_bestCut_33 : decode cX7_bestCut 33 = .ok (.invokevirtual 232, 3) := by decide +kernel
theorem dX7_bestCut_36 : decode cX7_bestCut 36 = .ok (.ireturn, 1) := by decide +kernel
theorem dX7_feudCosts_0 : decode cX7_feudCosts 0 = .ok (.aload_n 0, 1) := by decide +kernel
theorem dX7_feudCosts_1 : decode cX7_feudCosts 1 = .ok (.iload_n 1, 1) := by decide +kernel
theorem dX7_feudCosts_2 : decode cX7_feudCosts 2 = .ok (.iload_n 2, 1) := by decide +kernel
theorem dX7_feudCosts_3 : decode cX7_feudCosts 3 = .ok (.invokevirtual 119, 3) := by decide +kernel
theorem dX7_feudCosts_6 : decode cX7_feudCosts 6 = .ok (.ifCond .ne 7, 3) := by decide +kernel
theorem dX7_feudCosts_9 : decode cX7_feudCosts 9 = .ok (.iconst (-1), 1) := by decide +kernel
theorem dX7_feudCosts_10 : decode cX7_feudCosts 10 = .ok (.goto 7, 3) := by decide +kernel
theorem dX7_feudCosts_13 : decode cX7_feudCosts 13 = .ok (.iload_n 3, 1) := by decide +kernel
theorem dX7_feudCosts_14 : decode cX7_feudCosts 14 = .ok (.invokestatic 196, 3) := by decide +kernel
theorem dX7_feudCosts_17 : decode cX7_feudCosts 17 = .ok (.istore 4, 2) := by decide +kernel
theorem dX7_feudCosts_19 : decode cX7_feudCosts 19 = .ok (.iload 4, 2) := by decide +kernel
theorem dX7_feudCosts_21 : decode cX7_feudCosts 21 = .ok (.ifCond .eq 10, 3) := by decide +kernel
theorem dX7_feudCosts_24 : decode cX7_feudCosts 24 = .ok (.aload_n 0, 1) := by decide +kernel
theorem dX7_feudCosts_25 : decode cX7_feudCosts 25 = .ok (.iload 4, 2) := by decide +kernel
theorem dX7_feudCosts_27 : decode cX7_feudCosts 27 = .ok (.invokevirtual 236, 3) := by decide +kernel
theorem dX7_feudCosts_30 : decode cX7_feudCosts 30 = .ok (.ireturn, 1) := by decide +kernel
theorem dX7_feudCosts_31 : decode cX7_feudCosts 31 = .ok (.aload_n 0, 1) := by decide +kernel
theorem dX7_feudCosts_32 : decode cX7_feudCosts 32 = .ok (.iload_n 3, 1) := by decide +kernel
theorem dX7_feudCosts_33 : decode cX7_feudCosts 33 = .ok (.invokevirtual 202, 3) := by decide +kernel
theorem dX7_feudCosts_36 : decode cX7_feudCosts 36 = .ok (.istore 5, 2) := by decide +kernel
theorem dX7_feudCosts_38 : decode cX7_feudCosts 38 = .ok (.aload_n 0, 1) := by decide +kernel
theorem dX7_feudCosts_39 : decode cX7_feudCosts 39 = .ok (.iload_n 1, 1) := by decide +kernel
theorem dX7_feudCosts_40 : decode cX7_feudCosts 40 = .ok (.iload_n 2, 1) := by decide +kernel
theorem dX7_feudCosts_41 : decode cX7_feudCosts 41 = .ok (.invokevirtual 122, 3) := by decide +kernel
theorem dX7_feudCosts_44 : decode cX7_feudCosts 44 = .ok (.aload_n 0, 1) := by decide +kernel
theorem dX7_feudCosts_45 : decode cX7_feudCosts 45 = .ok (.iload_n 3, 1) := by decide +kernel
theorem dX7_feudCosts_46 : decode cX7_feudCosts 46 = .ok (.invokevirtual 202, 3) := by decide +kernel
theorem dX7_feudCosts_49 : decode cX7_feudCosts 49 = .ok (.istore 6, 2) := by decide +kernel
theorem dX7_feudCosts_51 : decode cX7_feudCosts 51 = .ok (.aload_n 0, 1) := by decide +kernel
theorem dX7_feudCosts_52 : decode cX7_feudCosts 52 = .ok (.iload_n 1, 1) := by decide +kernel
theorem dX7_feudCosts_53 : decode cX7_feudCosts 53 = .ok (.iload_n 2, 1) := by decide +kernel
theorem dX7_feudCosts_54 : decode cX7_feudCosts 54 = .ok (.invokevirtual 122, 3) := by decide +kernel
theorem dX7_feudCosts_57 : decode cX7_feudCosts 57 = .ok (.aload_n 0, 1) := by decide +kernel
theorem dX7_feudCosts_58 : decode cX7_feudCosts 58 = .ok (.getfield 25, 3) := by decide +kernel
theorem dX7_feudCosts_61 : decode cX7_feudCosts 61 = .ok (.iload_n 1, 1) := by decide +kernel
theorem dX7_feudCosts_62 : decode cX7_feudCosts 62 = .ok (.iaload, 1) := by decide +kernel
theorem dX7_feudCosts_63 : decode cX7_feudCosts 63 = .ok (.iload_n 2, 1) := by decide +kernel
theorem dX7_feudCosts_64 : decode cX7_feudCosts 64 = .ok (.invokestatic 75, 3) := by decide +kernel
theorem dX7_feudCosts_67 : decode cX7_feudCosts 67 = .ok (.ifCond .eq 11, 3) := by decide +kernel
theorem dX7_feudCosts_70 : decode cX7_feudCosts 70 = .ok (.iload 6, 2) := by decide +kernel
theorem dX7_feudCosts_72 : decode cX7_feudCosts 72 = .ok (.iload 5, 2) := by decide +kernel
theorem dX7_feudCosts_74 : decode cX7_feudCosts 74 = .ok (.isub, 1) := by decide +kernel
theorem dX7_feudCosts_75 : decode cX7_feudCosts 75 = .ok (.goto 8, 3) := by decide +kernel
theorem dX7_feudCosts_78 : decode cX7_feudCosts 78 = .ok (.iload 5, 2) := by decide +kernel
theorem dX7_feudCosts_80 : decode cX7_feudCosts 80 = .ok (.iload 6, 2) := by decide +kernel
theorem dX7_feudCosts_82 : decode cX7_feudCosts 82 = .ok (.isub, 1) := by decide +kernel
theorem dX7_feudCosts_83 : decode cX7_feudCosts 83 = .ok (.ireturn, 1) := by decide +kernel
theorem dX7_peace_0 : decode cX7_peace 0 = .ok (.iconst 0, 1) := by decide +kernel
theorem dX7_peace_1 : decode cX7_peace 1 = .ok (.istore_n 1, 1) := by decide +kernel
theorem dX7_peace_2 : decode cX7_peace 2 = .ok (.iload_n 1, 1) := by decide +kernel
theorem dX7_peace_3 : decode cX7_peace 3 = .ok (.bipush 80, 2) := by decide +kernel
theorem dX7_peace_5 : decode cX7_peace 5 = .ok (.if_icmp .ge 73, 3) := by decide +kernel
theorem dX7_peace_8 : decode cX7_peace 8 = .ok (.iload_n 1, 1) := by decide +kernel
theorem dX7_peace_9 : decode cX7_peace 9 = .ok (.bipush 10, 2) := by decide +kernel
theorem dX7_peace_11 : decode cX7_peace 11 = .ok (.idiv, 1) := by decide +kernel
theorem dX7_peace_12 : decode cX7_peace 12 = .ok (.istore_n 2, 1) := by decide +kernel
theorem dX7_peace_13 : decode cX7_peace 13 = .ok (.iload_n 1, 1) := by decide +kernel
theorem dX7_peace_14 : decode cX7_peace 14 = .ok (.bipush 10, 2) := by decide +kernel
theorem dX7_peace_16 : decode cX7_peace 16 = .ok (.irem, 1) := by decide +kernel
theorem dX7_peace_17 : decode cX7_peace 17 = .ok (.istore_n 3, 1) := by decide +kernel
theorem dX7_peace_18 : decode cX7_peace 18 = .ok (.iload_n 2, 1) := by decide +kernel
theorem dX7_peace_19 : decode cX7_peace 19 = .ok (.iload_n 3, 1) := by decide +kernel
theorem dX7_peace_20 : decode cX7_peace 20 = .ok (.if_icmp .ge 52, 3) := by decide +kernel
theorem dX7_peace_23 : decode cX7_peace 23 = .ok (.iload_n 3, 1) := by decide +kernel
theorem dX7_peace_24 : decode cX7_peace 24 = .ok (.aload_n 0, 1) := by decide +kernel
theorem dX7_peace_25 : decode cX7_peace 25 = .ok (.getfield 65, 3) := by decide +kernel
theorem dX7_peace_28 : decode cX7_peace 28 = .ok (.if_icmp .ge 44, 3) := by decide +kernel
theorem dX7_peace_31 : decode cX7_peace 31 = .ok (.aload_n 0, 1) := by decide +kernel
theorem dX7_peace_32 : decode cX7_peace 32 = .ok (.getfield 25, 3) := by decide +kernel
theorem dX7_peace_35 : decode cX7_peace 35 = .ok (.iload_n 2, 1) := by decide +kernel
theorem dX7_peace_36 : decode cX7_peace 36 = .ok (.iaload, 1) := by decide +kernel
theorem dX7_peace_37 : decode cX7_peace 37 = .ok (.iload_n 3, 1) := by decide +kernel
theorem dX7_peace_38 : decode cX7_peace 38 = .ok (.invokestatic 75, 3) := by decide +kernel
theorem dX7_peace_41 : decode cX7_peace 41 = .ok (.ifCond .eq 31, 3) := by decide +kernel
theorem dX7_peace_44 : decode cX7_peace 44 = .ok (.aload_n 0, 1) := by decide +kernel
theorem dX7_peace_45 : decode cX7_peace 45 = .ok (.getfield 22, 3) := by decide +kernel
theorem dX7_peace_48 : decode cX7_peace 48 = .ok (.iload_n 2, 1) := by decide +kernel
theorem dX7_peace_49 : decode cX7_peace 49 = .ok (.iaload, 1) := by decide +kernel
theorem dX7_peace_50 : decode cX7_peace 50 = .ok (.iload_n 3, 1) := by decide +kernel
theorem dX7_peace_51 : decode cX7_peace 51 = .ok (.invokestatic 75, 3) := by decide +kernel
theorem dX7_peace_54 : decode cX7_peace 54 = .ok (.ifCond .eq 18, 3) := by decide +kernel
theorem dX7_peace_57 : decode cX7_peace 57 = .ok (.aload_n 0, 1) := by decide +kernel
theorem dX7_peace_58 : decode cX7_peace 58 = .ok (.getfield 22, 3) := by decide +kernel
theorem dX7_peace_61 : decode cX7_peace 61 = .ok (.iload_n 3, 1) := by decide +kernel
theorem dX7_peace_62 : decode cX7_peace 62 = .ok (.iaload, 1) := by decide +kernel
theorem dX7_peace_63 : decode cX7_peace 63 = .ok (.iload_n 2, 1) := by decide +kernel
theorem dX7_peace_64 : decode cX7_peace 64 = .ok (.invokestatic 75, 3) := by decide +kernel
theorem dX7_peace_67 : decode cX7_peace 67 = .ok (.ifCond .eq 5, 3) := by decide +kernel
theorem dX7_peace_70 : decode cX7_peace 70 = .ok (.iload_n 1, 1) := by decide +kernel
theorem dX7_peace_71 : decode cX7_peace 71 = .ok (.ireturn, 1) := by decide +kernel
theorem dX7_peace_72 : decode cX7_peace 72 = .ok (.iinc 1 1, 3) := by decide +kernel
theorem dX7_peace_75 : decode cX7_peace 75 = .ok (.goto (-73), 3) := by decide +kernel
theorem dX7_peace_78 : decode cX7_peace 78 = .ok (.bipush (-9), 2) := by decide +kernel
theorem dX7_peace_80 : decode cX7_peace 80 = .ok (.ireturn, 1) := by decide +kernel
theorem dX7_will_0 : decode cX7_will 0 = .ok (.aload_n 0, 1) := by decide +kernel
theorem dX7_will_1 : decode cX7_will 1 = .ok (.iload_n 1, 1) := by decide +kernel
theorem dX7_will_2 : decode cX7_will 2 = .ok (.iload_n 2, 1) := by decide +kernel
theorem dX7_will_3 : decode cX7_will 3 = .ok (.invokevirtual 119, 3) := by decide +kernel
theorem dX7_will_6 : decode cX7_will 6 = .ok (.ifCond .ne 9, 3) := by decide +kernel
theorem dX7_will_9 : decode cX7_will 9 = .ok (.aload_n 0, 1) := by decide +kernel
theorem dX7_will_10 : decode cX7_will 10 = .ok (.iconst (-1), 1) := by decide +kernel
theorem dX7_will_11 : decode cX7_will 11 = .ok (.invokevirtual 89, 3) := by decide +kernel
theorem dX7_will_14 : decode cX7_will 14 = .ok (.ireturn, 1) := by decide +kernel
theorem dX7_will_15 : decode cX7_will 15 = .ok (.aload_n 0, 1) := by decide +kernel
theorem dX7_will_16 : decode cX7_will 16 = .ok (.iload_n 1, 1) := by decide +kernel
theorem dX7_will_17 : decode cX7_will 17 = .ok (.iload_n 2, 1) := by decide +kernel
theorem dX7_will_18 : decode cX7_will 18 = .ok (.invokevirtual 79, 3) := by decide +kernel
theorem dX7_will_21 : decode cX7_will 21 = .ok (.ifCond .ne 6, 3) := by decide +kernel
theorem dX7_will_24 : decode cX7_will 24 = .ok (.bipush (-9), 2) := by decide +kernel
theorem dX7_will_26 : decode cX7_will 26 = .ok (.ireturn, 1) := by decide +kernel
theorem dX7_will_27 : decode cX7_will 27 = .ok (.aload_n 0, 1) := by decide +kernel
theorem dX7_will_28 : decode cX7_will 28 = .ok (.iload_n 1, 1) := by decide +kernel
theorem dX7_will_29 : decode cX7_will 29 = .ok (.invokevirtual 181, 3) := by decide +kernel
theorem dX7_will_32 : decode cX7_will 32 = .ok (.istore_n 3, 1) := by decide +kernel
theorem dX7_will_33 : decode cX7_will 33 = .ok (.iload_n 3, 1) := by decide +kernel
theorem dX7_will_34 : decode cX7_will 34 = .ok (.iconst 1, 1) := by decide +kernel
theorem dX7_will_35 : decode cX7_will 35 = .ok (.iload_n 2, 1) := by decide +kernel
theorem dX7_will_36 : decode cX7_will 36 = .ok (.ishl, 1) := by decide +kernel
theorem dX7_will_37 : decode cX7_will 37 = .ok (.iconst 1, 1) := by decide +kernel
theorem dX7_will_38 : decode cX7_will 38 = .ok (.isub, 1) := by decide +kernel
theorem dX7_will_39 : decode cX7_will 39 = .ok (.iand, 1) := by decide +kernel
theorem dX7_will_40 : decode cX7_will 40 = .ok (.invokestatic 184, 3) := by decide +kernel
theorem dX7_will_43 : decode cX7_will 43 = .ok (.istore 4, 2) := by decide +kernel
theorem dX7_will_45 : decode cX7_will 45 = .ok (.aload_n 0, 1) := by decide +kernel
theorem dX7_will_46 : decode cX7_will 46 = .ok (.getfield 19, 3) := by decide +kernel
theorem dX7_will_49 : decode cX7_will 49 = .ok (.iload_n 1, 1) := by decide +kernel
theorem dX7_will_50 : decode cX7_will 50 = .ok (.iaload, 1) := by decide +kernel
theorem dX7_will_51 : decode cX7_will 51 = .ok (.iload_n 3, 1) := by decide +kernel
theorem dX7_will_52 : decode cX7_will 52 = .ok (.invokestatic 184, 3) := by decide +kernel
theorem dX7_will_55 : decode cX7_will 55 = .ok (.idiv, 1) := by decide +kernel
theorem dX7_will_56 : decode cX7_will 56 = .ok (.iload 4, 2) := by decide +kernel
theorem dX7_will_58 : decode cX7_will 58 = .ok (.aload_n 0, 1) := by decide +kernel
theorem dX7_will_59 : decode cX7_will 59 = .ok (.getfield 19, 3) := by decide +kernel
theorem dX7_will_62 : decode cX7_will 62 = .ok (.iload_n 1, 1) := by decide +kernel
theorem dX7_will_63 : decode cX7_will 63 = .ok (.iaload, 1) := by decide +kernel
theorem dX7_will_64 : decode cX7_will 64 = .ok (.iload_n 3, 1) := by decide +kernel
theorem dX7_will_65 : decode cX7_will 65 = .ok (.invokestatic 184, 3) := by decide +kernel
theorem dX7_will_68 : decode cX7_will 68 = .ok (.irem, 1) := by decide +kernel
theorem dX7_will_69 : decode cX7_will 69 = .ok (.if_icmp .ge 7, 3) := by decide +kernel
theorem dX7_will_72 : decode cX7_will 72 = .ok (.iconst 1, 1) := by decide +kernel
theorem dX7_will_73 : decode cX7_will 73 = .ok (.goto 4, 3) := by decide +kernel
theorem dX7_will_76 : decode cX7_will 76 = .ok (.iconst 0, 1) := by decide +kernel
theorem dX7_will_77 : decode cX7_will 77 = .ok (.iadd, 1) := by decide +kernel
theorem dX7_will_78 : decode cX7_will 78 = .ok (.ireturn, 1) := by decide +kernel
theorem dX7_leastRoom_0 : decode cX7_leastRoom 0 = .ok (.iload_n 2, 1) := by decide +kernel
theorem dX7_leastRoom_1 : decode cX7_leastRoom 1 = .ok (.istore_n 3, 1) := by decide +kernel
theorem dX7_leastRoom_2 : decode cX7_leastRoom 2 = .ok (.iconst 0, 1) := by decide +kernel
theorem dX7_leastRoom_3 : decode cX7_leastRoom 3 = .ok (.istore 4, 2) := by decide +kernel
theorem dX7_leastRoom_5 : decode cX7_leastRoom 5 = .ok (.iload 4, 2) := by decide +kernel
theorem dX7_leastRoom_7 : decode cX7_leastRoom 7 = .ok (.iload_n 1, 1) := by decide +kernel
theorem dX7_leastRoom_8 : decode cX7_leastRoom 8 = .ok (.if_icmp .ge 43, 3) := by decide +kernel
theorem dX7_leastRoom_11 : decode cX7_leastRoom 11 = .ok (.aload_n 0, 1) := by decide +kernel
theorem dX7_leastRoom_12 : decode cX7_leastRoom 12 = .ok (.getfield 25, 3) := by decide +kernel
theorem dX7_leastRoom_15 : decode cX7_leastRoom 15 = .ok (.iload_n 1, 1) := by decide +kernel
theorem dX7_leastRoom_16 : decode cX7_leastRoom 16 = .ok (.iaload, 1) := by decide +kernel
theorem dX7_leastRoom_17 : decode cX7_leastRoom 17 = .ok (.iload 4, 2) := by decide +kernel
theorem dX7_leastRoom_19 : decode cX7_leastRoom 19 = .ok (.invokestatic 75, 3) := by decide +kernel
theorem dX7_leastRoom_22 : decode cX7_leastRoom 22 = .ok (.ifCond .eq 23, 3) := by decide +kernel
theorem dX7_leastRoom_25 : decode cX7_leastRoom 25 = .ok (.aload_n 0, 1) := by decide +kernel
theorem dX7_leastRoom_26 : decode cX7_leastRoom 26 = .ok (.getfield 53, 3) := by decide +kernel
theorem dX7_leastRoom_29 : decode cX7_leastRoom 29 = .ok (.iload 4, 2) := by decide +kernel
theorem dX7_leastRoom_31 : decode cX7_leastRoom 31 = .ok (.iaload, 1) := by decide +kernel
theorem dX7_leastRoom_32 : decode cX7_leastRoom 32 = .ok (.iload_n 3, 1) := by decide +kernel
theorem dX7_leastRoom_33 : decode cX7_leastRoom 33 = .ok (.if_icmp .eq 6, 3) := by decide +kernel
theorem dX7_leastRoom_36 : decode cX7_leastRoom 36 = .ok (.goto 9, 3) := by decide +kernel
theorem dX7_leastRoom_39 : decode cX7_leastRoom 39 = .ok (.iinc 3 1, 3) := by decide +kernel
theorem dX7_leastRoom_42 : decode cX7_leastRoom 42 = .ok (.iconst (-1), 1) := by decide +kernel
theorem dX7_leastRoom_43 : decode cX7_leastRoom 43 = .ok (.istore 4, 2) := by decide +kernel
theorem dX7_leastRoom_45 : decode cX7_leastRoom 45 = .ok (.iinc 4 1, 3) := by decide +kernel
theorem dX7_leastRoom_48 : decode cX7_leastRoom 48 = .ok (.goto (-43), 3) := by decide +kernel
theorem dX7_leastRoom_51 : decode cX7_leastRoom 51 = .ok (.iload_n 3, 1) := by decide +kernel
theorem dX7_leastRoom_52 : decode cX7_leastRoom 52 = .ok (.ireturn, 1) := by decide +kernel
theorem dX7_findRooms_0 : decode cX7_findRooms 0 = .ok (.iconst 0, 1) := by decide +kernel
theorem dX7_findRooms_1 : decode cX7_findRooms 1 = .ok (.istore_n 2, 1) := by decide +kernel
theorem dX7_findRooms_2 : decode cX7_findRooms 2 = .ok (.iconst 0, 1) := by decide +kernel
theorem dX7_findRooms_3 : decode cX7_findRooms 3 = .ok (.istore_n 3, 1) := by decide +kernel
theorem dX7_findRooms_4 : decode cX7_findRooms 4 = .ok (.iload_n 2, 1) := by decide +kernel
theorem dX7_findRooms_5 : decode cX7_findRooms 5 = .ok (.ifCond .lt 64, 3) := by decide +kernel
theorem dX7_findRooms_8 : decode cX7_findRooms 8 = .ok (.iload_n 2, 1) := by decide +kernel
theorem dX7_findRooms_9 : decode cX7_findRooms 9 = .ok (.aload_n 0, 1) := by decide +kernel
theorem dX7_findRooms_10 : decode cX7_findRooms 10 = .ok (.getfield 65, 3) := by decide +kernel
theorem dX7_findRooms_13 : decode cX7_findRooms 13 = .ok (.if_icmp .ge 56, 3) := by decide +kernel
theorem dX7_findRooms_16 : decode cX7_findRooms 16 = .ok (.aload_n 0, 1) := by decide +kernel
theorem dX7_findRooms_17 : decode cX7_findRooms 17 = .ok (.iload_n 2, 1) := by decide +kernel
theorem dX7_findRooms_18 : decode cX7_findRooms 18 = .ok (.iload_n 3, 1) := by decide +kernel
theorem dX7_findRooms_19 : decode cX7_findRooms 19 = .ok (.invokevirtual 239, 3) := by decide +kernel
theorem dX7_findRooms_22 : decode cX7_findRooms 22 = .ok (.istore 4, 2) := by decide +kernel
theorem dX7_findRooms_24 : decode cX7_findRooms 24 = .ok (.iload 4, 2) := by decide +kernel
theorem dX7_findRooms_26 : decode cX7_findRooms 26 = .ok (.iload_n 1, 1) := by decide +kernel
theorem dX7_findRooms_27 : decode cX7_findRooms 27 = .ok (.if_icmp .ge 19, 3) := by decide +kernel
theorem dX7_findRooms_30 : decode cX7_findRooms 30 = .ok (.aload_n 0, 1) := by decide +kernel
theorem dX7_findRooms_31 : decode cX7_findRooms 31 = .ok (.getfield 53, 3) := by decide +kernel
theorem dX7_findRooms_34 : decode cX7_findRooms 34 = .ok (.iload_n 2, 1) := by decide +kernel
theorem dX7_findRooms_35 : decode cX7_findRooms 35 = .ok (.iload 4, 2) := by decide +kernel
theorem dX7_findRooms_37 : decode cX7_findRooms 37 = .ok (.iastore, 1) := by decide +kernel
theorem dX7_findRooms_38 : decode cX7_findRooms 38 = .ok (.iinc 2 1, 3) := by decide +kernel
theorem dX7_findRooms_41 : decode cX7_findRooms 41 = .ok (.iconst 0, 1) := by decide +kernel
theorem dX7_findRooms_42 : decode cX7_findRooms 42 = .ok (.istore_n 3, 1) := by decide +kernel
theorem dX7_findRooms_43 : decode cX7_findRooms 43 = .ok (.goto 23, 3) := by decide +kernel
theorem dX7_findRooms_46 : decode cX7_findRooms 46 = .ok (.iinc 2 (-1), 3) := by decide +kernel
theorem dX7_findRooms_49 : decode cX7_findRooms 49 = .ok (.iload_n 2, 1) := by decide +kernel
theorem dX7_findRooms_50 : decode cX7_findRooms 50 = .ok (.ifCond .ge 7, 3) := by decide +kernel
theorem dX7_findRooms_53 : decode cX7_findRooms 53 = .ok (.iconst 0, 1) := by decide +kernel
theorem dX7_findRooms_54 : decode cX7_findRooms 54 = .ok (.goto 11, 3) := by decide +kernel
theorem dX7_findRooms_57 : decode cX7_findRooms 57 = .ok (.aload_n 0, 1) := by decide +kernel
theorem dX7_findRooms_58 : decode cX7_findRooms 58 = .ok (.getfield 53, 3) := by decide +kernel
theorem dX7_findRooms_61 : decode cX7_findRooms 61 = .ok (.iload_n 2, 1) := by decide +kernel
theorem dX7_findRooms_62 : decode cX7_findRooms 62 = .ok (.iaload, 1) := by decide +kernel
theorem dX7_findRooms_63 : decode cX7_findRooms 63 = .ok (.iconst 1, 1) := by decide +kernel
theorem dX7_findRooms_64 : decode cX7_findRooms 64 = .ok (.iadd, 1) := by decide +kernel
theorem dX7_findRooms_65 : decode cX7_findRooms 65 = .ok (.istore_n 3, 1) := by decide +kernel
theorem dX7_findRooms_66 : decode cX7_findRooms 66 = .ok (.goto (-62), 3) := by decide +kernel
theorem dX7_findRooms_69 : decode cX7_findRooms 69 = .ok (.iload_n 2, 1) := by decide +kernel
theorem dX7_findRooms_70 : decode cX7_findRooms 70 = .ok (.ifCond .lt 7, 3) := by decide +kernel
theorem dX7_findRooms_73 : decode cX7_findRooms 73 = .ok (.iconst 1, 1) := by decide +kernel
theorem dX7_findRooms_74 : decode cX7_findRooms 74 = .ok (.goto 4, 3) := by decide +kernel
theorem dX7_findRooms_77 : decode cX7_findRooms 77 = .ok (.iconst 0, 1) := by decide +kernel
theorem dX7_findRooms_78 : decode cX7_findRooms 78 = .ok (.ireturn, 1) := by decide +kernel
theorem dX7_rooms_0 : decode cX7_rooms 0 = .ok (.iload_n 1, 1) := by decide +kernel
theorem dX7_rooms_1 : decode cX7_rooms 1 = .ok (.iconst (-1), 1) := by decide +kernel
theorem dX7_rooms_2 : decode cX7_rooms 2 = .ok (.if_icmp .eq 17, 3) := by decide +kernel
theorem dX7_rooms_5 : decode cX7_rooms 5 = .ok (.aload_n 0, 1) := by decide +kernel
theorem dX7_rooms_6 : decode cX7_rooms 6 = .ok (.iload_n 1, 1) := by decide +kernel
theorem dX7_rooms_7 : decode cX7_rooms 7 = .ok (.invokevirtual 71, 3) := by decide +kernel
theorem dX7_rooms_10 : decode cX7_rooms 10 = .ok (.ifCond .ne 9, 3) := by decide +kernel
theorem dX7_rooms_13 : decode cX7_rooms 13 = .ok (.aload_n 0, 1) := by decide +kernel
theorem dX7_rooms_14 : decode cX7_rooms 14 = .ok (.iconst (-1), 1) := by decide +kernel
theorem dX7_rooms_15 : decode cX7_rooms 15 = .ok (.invokevirtual 89, 3) := by decide +kernel
theorem dX7_rooms_18 : decode cX7_rooms 18 = .ok (.ireturn, 1) := by decide +kernel
theorem dX7_rooms_19 : decode cX7_rooms 19 = .ok (.iconst 0, 1) := by decide +kernel
theorem dX7_rooms_20 : decode cX7_rooms 20 = .ok (.istore_n 2, 1) := by decide +kernel
theorem dX7_rooms_21 : decode cX7_rooms 21 = .ok (.aload_n 0, 1) := by decide +kernel
theorem dX7_rooms_22 : decode cX7_rooms 22 = .ok (.iload_n 2, 1) := by decide +kernel
theorem dX7_rooms_23 : decode cX7_rooms 23 = .ok (.invokevirtual 242, 3) := by decide +kernel
theorem dX7_rooms_26 : decode cX7_rooms 26 = .ok (.ifCond .ne 9, 3) := by decide +kernel
theorem dX7_rooms_29 : decode cX7_rooms 29 = .ok (.iinc 2 1, 3) := by decide +kernel
theorem dX7_rooms_32 : decode cX7_rooms 32 = .ok (.goto (-11), 3) := by decide +kernel
theorem dX7_rooms_35 : decode cX7_rooms 35 = .ok (.iload_n 1, 1) := by decide +kernel
theorem dX7_rooms_36 : decode cX7_rooms 36 = .ok (.ifCond .ge 7, 3) := by decide +kernel
theorem dX7_rooms_39 : decode cX7_rooms 39 = .ok (.iload_n 2, 1) := by decide +kernel
theorem dX7_rooms_40 : decode cX7_rooms 40 = .ok (.goto 9, 3) := by decide +kernel
theorem dX7_rooms_43 : decode cX7_rooms 43 = .ok (.aload_n 0, 1) := by decide +kernel
theorem dX7_rooms_44 : decode cX7_rooms 44 = .ok (.getfield 53, 3) := by decide +kernel
theorem dX7_rooms_47 : decode cX7_rooms 47 = .ok (.iload_n 1, 1) := by decide +kernel
theorem dX7_rooms_48 : decode cX7_rooms 48 = .ok (.iaload, 1) := by decide +kernel
theorem dX7_rooms_49 : decode cX7_rooms 49 = .ok (.ireturn, 1) := by decide +kernel
theorem dX7_isCouple_0 : decode cX7_isCouple 0 = .ok (.aload_n 0, 1) := by decide +kernel
theorem dX7_isCouple_1 : decode cX7_isCouple 1 = .ok (.getfield 19, 3) := by decide +kernel
theorem dX7_isCouple_4 : decode cX7_isCouple 4 = .ok (.iload_n 1, 1) := by decide +kernel
theorem dX7_isCouple_5 : decode cX7_isCouple 5 = .ok (.iaload, 1) := by decide +kernel
theorem dX7_isCouple_6 : decode cX7_isCouple 6 = .ok (.aload_n 0, 1) := by decide +kernel
theorem dX7_isCouple_7 : decode cX7_isCouple 7 = .ok (.getfield 19, 3) := by decide +kernel
theorem dX7_isCouple_10 : decode cX7_isCouple 10 = .ok (.iload_n 2, 1) := by decide +kernel
theorem dX7_isCouple_11 : decode cX7_isCouple 11 = .ok (.iaload, 1) := by decide +kernel
theorem dX7_isCouple_12 : decode cX7_isCouple 12 = .ok (.if_icmp .le 19, 3) := by decide +kernel
theorem dX7_isCouple_15 : decode cX7_isCouple 15 = .ok (.aload_n 0, 1) := by decide +kernel
theorem dX7_isCouple_16 : decode cX7_isCouple 16 = .ok (.getfield 19, 3) := by decide +kernel
theorem dX7_isCouple_19 : decode cX7_isCouple 19 = .ok (.iload_n 1, 1) := by decide +kernel
theorem dX7_isCouple_20 : decode cX7_isCouple 20 = .ok (.iaload, 1) := by decide +kernel
theorem dX7_isCouple_21 : decode cX7_isCouple 21 = .ok (.aload_n 0, 1) := by decide +kernel
theorem dX7_isCouple_22 : decode cX7_isCouple 22 = .ok (.getfield 19, 3) := by decide +kernel
theorem dX7_isCouple_25 : decode cX7_isCouple 25 = .ok (.iload_n 2, 1) := by decide +kernel
theorem dX7_isCouple_26 : decode cX7_isCouple 26 = .ok (.iaload, 1) := by decide +kernel
theorem dX7_isCouple_27 : decode cX7_isCouple 27 = .ok (.isub, 1) := by decide +kernel
theorem dX7_isCouple_28 : decode cX7_isCouple 28 = .ok (.goto 16, 3) := by decide +kernel
theorem dX7_isCouple_31 : decode cX7_isCouple 31 = .ok (.aload_n 0, 1) := by decide +kernel
theorem dX7_isCouple_32 : decode cX7_isCouple 32 = .ok (.getfield 19, 3) := by decide +kernel
theorem dX7_isCouple_35 : decode cX7_isCouple 35 = .ok (.iload_n 2, 1) := by decide +kernel
theorem dX7_isCouple_36 : decode cX7_isCouple 36 = .ok (.iaload, 1) := by decide +kernel
theorem dX7_isCouple_37 : decode cX7_isCouple 37 = .ok (.aload_n 0, 1) := by decide +kernel
theorem dX7_isCouple_38 : decode cX7_isCouple 38 = .ok (.getfield 19, 3) := by decide +kernel
theorem dX7_isCouple_41 : decode cX7_isCouple 41 = .ok (.iload_n 1, 1) := by decide +kernel
theorem dX7_isCouple_42 : decode cX7_isCouple 42 = .ok (.iaload, 1) := by decide +kernel
theorem dX7_isCouple_43 : decode cX7_isCouple 43 = .ok (.isub, 1) := by decide +kernel
theorem dX7_isCouple_44 : decode cX7_isCouple 44 = .ok (.istore 4, 2) := by decide +kernel
theorem dX7_isCouple_46 : decode cX7_isCouple 46 = .ok (.iload_n 1, 1) := by decide +kernel
theorem dX7_isCouple_47 : decode cX7_isCouple 47 = .ok (.iload_n 2, 1) := by decide +kernel
theorem dX7_isCouple_48 : decode cX7_isCouple 48 = .ok (.if_icmp .eq 26, 3) := by decide +kernel
theorem dX7_isCouple_51 : decode cX7_isCouple 51 = .ok (.aload_n 0, 1) := by decide +kernel
theorem dX7_isCouple_52 : decode cX7_isCouple 52 = .ok (.getfield 25, 3) := by decide +kernel
theorem dX7_isCouple_55 : decode cX7_isCouple 55 = .ok (.iload_n 1, 1) := by decide +kernel
theorem dX7_isCouple_56 : decode cX7_isCouple 56 = .ok (.iaload, 1) := by decide +kernel
theorem dX7_isCouple_57 : decode cX7_isCouple 57 = .ok (.iload_n 2, 1) := by decide +kernel
theorem dX7_isCouple_58 : decode cX7_isCouple 58 = .ok (.invokestatic 75, 3) := by decide +kernel
theorem dX7_isCouple_61 : decode cX7_isCouple 61 = .ok (.ifCond .ne 13, 3) := by decide +kernel
theorem dX7_isCouple_64 : decode cX7_isCouple 64 = .ok (.iload 4, 2) := by decide +kernel
theorem dX7_isCouple_66 : decode cX7_isCouple 66 = .ok (.iload_n 3, 1) := by decide +kernel
theorem dX7_isCouple_67 : decode cX7_isCouple 67 = .ok (.if_icmp .gt 7, 3) := by decide +kernel
theorem dX7_isCouple_70 : decode cX7_isCouple 70 = .ok (.iconst 1, 1) := by decide +kernel
theorem dX7_isCouple_71 : decode cX7_isCouple 71 = .ok (.goto 4, 3) := by decide +kernel
theorem dX7_isCouple_74 : decode cX7_isCouple 74 = .ok (.iconst 0, 1) := by decide +kernel
theorem dX7_isCouple_75 : decode cX7_isCouple 75 = .ok (.ireturn, 1) := by decide +kernel
theorem dX7_lowest_0 : decode cX7_lowest 0 = .ok (.iconst 0, 1) := by decide +kernel
theorem dX7_lowest_1 : decode cX7_lowest 1 = .ok (.istore_n 1, 1) := by decide +kernel
theorem dX7_lowest_2 : decode cX7_lowest 2 = .ok (.iload_n 0, 1) := by decide +kernel
theorem dX7_lowest_3 : decode cX7_lowest 3 = .ok (.iload_n 1, 1) := by decide +kernel
theorem dX7_lowest_4 : decode cX7_lowest 4 = .ok (.invokestatic 75, 3) := by decide +kernel
theorem dX7_lowest_7 : decode cX7_lowest 7 = .ok (.ifCond .ne 9, 3) := by decide +kernel
theorem dX7_lowest_10 : decode cX7_lowest 10 = .ok (.iinc 1 1, 3) := by decide +kernel
theorem dX7_lowest_13 : decode cX7_lowest 13 = .ok (.goto (-11), 3) := by decide +kernel
theorem dX7_lowest_16 : decode cX7_lowest 16 = .ok (.iload_n 1, 1) := by decide +kernel
theorem dX7_lowest_17 : decode cX7_lowest 17 = .ok (.ireturn, 1) := by decide +kernel
theorem dX7_findCouples_0 : decode cX7_findCouples 0 = .ok (.aload_n 0, 1) := by decide +kernel
theorem dX7_findCouples_1 : decode cX7_findCouples 1 = .ok (.getfield 56, 3) := by decide +kernel
theorem dX7_findCouples_4 : decode cX7_findCouples 4 = .ok (.iconst 0, 1) := by decide +kernel
theorem dX7_findCouples_5 : decode cX7_findCouples 5 = .ok (.iconst 0, 1) := by decide +kernel
theorem dX7_findCouples_6 : decode cX7_findCouples 6 = .ok (.iastore, 1) := by decide +kernel
theorem dX7_findCouples_7 : decode cX7_findCouples 7 = .ok (.iconst 1, 1) := by decide +kernel
theorem dX7_findCouples_8 : decode cX7_findCouples 8 = .ok (.istore_n 2, 1) := by decide +kernel
theorem dX7_findCouples_9 : decode cX7_findCouples 9 = .ok (.iload_n 2, 1) := by decide +kernel
theorem dX7_findCouples_10 : decode cX7_findCouples 10 = .ok (.iconst 1, 1) := by decide +kernel
theorem dX7_findCouples_11 : decode cX7_findCouples 11 = .ok (.aload_n 0, 1) := by decide +kernel
theorem dX7_findCouples_12 : decode cX7_findCouples 12 = .ok (.getfield 65, 3) := by decide +kernel
theorem dX7_findCouples_15 : decode cX7_findCouples 15 = .ok (.ishl, 1) := by decide +kernel
theorem dX7_findCouples_16 : decode cX7_findCouples 16 = .ok (.if_icmp .ge 116, 3) := by decide +kernel
theorem dX7_findCouples_19 : decode cX7_findCouples 19 = .ok (.iload_n 2, 1) := by decide +kernel
theorem dX7_findCouples_20 : decode cX7_findCouples 20 = .ok (.invokestatic 245, 3) := by decide +kernel
theorem dX7_findCouples_23 : decode cX7_findCouples 23 = .ok (.istore_n 3, 1) := by decide +kernel
theorem dX7_findCouples_24 : decode cX7_findCouples 24 = .ok (.iload_n 2, 1) := by decide +kernel
theorem dX7_findCouples_25 : decode cX7_findCouples 25 = .ok (.iconst 1, 1) := by decide +kernel
theorem dX7_findCouples_26 : decode cX7_findCouples 26 = .ok (.iload_n 3, 1) := by decide +kernel
theorem dX7_findCouples_27 : decode cX7_findCouples 27 = .ok (.ishl, 1) := by decide +kernel
theorem dX7_findCouples_28 : decode cX7_findCouples 28 = .ok (.iconst (-1), 1) := by decide +kernel
theorem dX7_findCouples_29 : decode cX7_findCouples 29 = .ok (.ixor, 1) := by decide +kernel
theorem dX7_findCouples_30 : decode cX7_findCouples 30 = .ok (.iand, 1) := by decide +kernel
theorem dX7_findCouples_31 : decode cX7_findCouples 31 = .ok (.istore 4, 2) := by decide +kernel
theorem dX7_findCouples_33 : decode cX7_findCouples 33 = .ok (.aload_n 0, 1) := by decide +kernel
theorem dX7_findCouples_34 : decode cX7_findCouples 34 = .ok (.getfield 56, 3) := by decide +kernel
theorem dX7_findCouples_37 : decode cX7_findCouples 37 = .ok (.iload 4, 2) := by decide +kernel
theorem dX7_findCouples_39 : decode cX7_findCouples 39 = .ok (.iaload, 1) := by decide +kernel
theorem dX7_findCouples_40 : decode cX7_findCouples 40 = .ok (.istore 5, 2) := by decide +kernel
theorem dX7_findCouples_42 : decode cX7_findCouples 42 = .ok (.iconst 0, 1) := by decide +kernel
theorem dX7_findCouples_43 : decode cX7_findCouples 43 = .ok (.istore 6, 2) := by decide +kernel
theorem dX7_findCouples_45 : decode cX7_findCouples 45 = .ok (.iload 6, 2) := by decide +kernel
theorem dX7_findCouples_47 : decode cX7_findCouples 47 = .ok (.aload_n 0, 1) := by decide +kernel
theorem dX7_findCouples_48 : decode cX7_findCouples 48 = .ok (.getfield 65, 3) := by decide +kernel
theorem dX7_findCouples_51 : decode cX7_findCouples 51 = .ok (.if_icmp .ge 67, 3) := by decide +kernel
theorem dX7_findCouples_54 : decode cX7_findCouples 54 = .ok (.iload 4, 2) := by decide +kernel
theorem dX7_findCouples_56 : decode cX7_findCouples 56 = .ok (.iload 6, 2) := by decide +kernel
theorem dX7_findCouples_58 : decode cX7_findCouples 58 = .ok (.invokestatic 75, 3) := by decide +kernel
theorem dX7_findCouples_61 : decode cX7_findCouples 61 = .ok (.ifCond .eq 51, 3) := by decide +kernel
theorem dX7_findCouples_64 : decode cX7_findCouples 64 = .ok (.aload_n 0, 1) := by decide +kernel
theorem dX7_findCouples_65 : decode cX7_findCouples 65 = .ok (.iload_n 3, 1) := by decide +kernel
theorem dX7_findCouples_66 : decode cX7_findCouples 66 = .ok (.iload 6, 2) := by decide +kernel
theorem dX7_findCouples_68 : decode cX7_findCouples 68 = .ok (.iload_n 1, 1) := by decide +kernel
theorem dX7_findCouples_69 : decode cX7_findCouples 69 = .ok (.invokevirtual 248, 3) := by decide +kernel
theorem dX7_findCouples_72 : decode cX7_findCouples 72 = .ok (.ifCond .ne 6, 3) := by decide +kernel
theorem dX7_findCouples_75 : decode cX7_findCouples 75 = .ok (.goto 37, 3) := by decide +kernel
theorem dX7_findCouples_78 : decode cX7_findCouples 78 = .ok (.iconst 1, 1) := by decide +kernel
theorem dX7_findCouples_79 : decode cX7_findCouples 79 = .ok (.aload_n 0, 1) := by decide +kernel
theorem dX7_findCouples_80 : decode cX7_findCouples 80 = .ok (.getfield 56, 3) := by decide +kernel
theorem dX7_findCouples_83 : decode cX7_findCouples 83 = .ok (.iload 4, 2) := by decide +kernel
theorem dX7_findCouples_85 : decode cX7_findCouples 85 = .ok (.iconst 1, 1) := by decide +kernel
theorem dX7_findCouples_86 : decode cX7_findCouples 86 = .ok (.iload 6, 2) := by decide +kernel
theorem dX7_findCouples_88 : decode cX7_findCouples 88 = .ok (.ishl, 1) := by decide +kernel
theorem dX7_findCouples_89 : decode cX7_findCouples 89 = .ok (.iconst (-1), 1) := by decide +kernel
theorem dX7_findCouples_90 : decode cX7_findCouples 90 = .ok (.ixor, 1) := by decide +kernel
theorem dX7_findCouples_91 : decode cX7_findCouples 91 = .ok (.iand, 1) := by decide +kernel
theorem dX7_findCouples_92 : decode cX7_findCouples 92 = .ok (.iaload, 1) := by decide +kernel
theorem dX7_findCouples_93 : decode cX7_findCouples 93 = .ok (.iadd, 1) := by decide +kernel
theorem dX7_findCouples_94 : decode cX7_findCouples 94 = .ok (.istore 7, 2) := by decide +kernel
theorem dX7_findCouples_96 : decode cX7_findCouples 96 = .ok (.iload 7, 2) := by decide +kernel
theorem dX7_findCouples_98 : decode cX7_findCouples 98 = .ok (.iload 5, 2) := by decide +kernel
theorem dX7_findCouples_100 : decode cX7_findCouples 100 = .ok (.if_icmp .le 8, 3) := by decide +kernel
theorem dX7_findCouples_103 : decode cX7_findCouples 103 = .ok (.iload 7, 2) := by decide +kernel
theorem dX7_findCouples_105 : decode cX7_findCouples 105 = .ok (.goto 5, 3) := by decide +kernel
theorem dX7_findCouples_108 : decode cX7_findCouples 108 = .ok (.iload 5, 2) := by decide +kernel
theorem dX7_findCouples_110 : decode cX7_findCouples 110 = .ok (.istore 5, 2) := by decide +kernel
theorem dX7_findCouples_112 : decode cX7_findCouples 112 = .ok (.iinc 6 1, 3) := by decide +kernel
theorem dX7_findCouples_115 : decode cX7_findCouples 115 = .ok (.goto (-70), 3) := by decide +kernel
theorem dX7_findCouples_118 : decode cX7_findCouples 118 = .ok (.aload_n 0, 1) := by decide +kernel
theorem dX7_findCouples_119 : decode cX7_findCouples 119 = .ok (.getfield 56, 3) := by decide +kernel
theorem dX7_findCouples_122 : decode cX7_findCouples 122 = .ok (.iload_n 2, 1) := by decide +kernel
theorem dX7_findCouples_123 : decode cX7_findCouples 123 = .ok (.iload 5, 2) := by decide +kernel
theorem dX7_findCouples_125 : decode cX7_findCouples 125 = .ok (.iastore, 1) := by decide +kernel
theorem dX7_findCouples_126 : decode cX7_findCouples 126 = .ok (.iinc 2 1, 3) := by decide +kernel
theorem dX7_findCouples_129 : decode cX7_findCouples 129 = .ok (.goto (-120), 3) := by decide +kernel
theorem dX7_findCouples_132 : decode cX7_findCouples 132 = .ok (.return_, 1) := by decide +kernel
theorem dX7_partnerIn_0 : decode cX7_partnerIn 0 = .ok (.iload_n 1, 1) := by decide +kernel
theorem dX7_partnerIn_1 : decode cX7_partnerIn 1 = .ok (.iconst 1, 1) := by decide +kernel
theorem dX7_partnerIn_2 : decode cX7_partnerIn 2 = .ok (.iload_n 2, 1) := by decide +kernel
theorem dX7_partnerIn_3 : decode cX7_partnerIn 3 = .ok (.ishl, 1) := by decide +kernel
theorem dX7_partnerIn_4 : decode cX7_partnerIn 4 = .ok (.iconst (-1), 1) := by decide +kernel
theorem dX7_partnerIn_5 : decode cX7_partnerIn 5 = .ok (.ixor, 1) := by decide +kernel
theorem dX7_partnerIn_6 : decode cX7_partnerIn 6 = .ok (.iand, 1) := by decide +kernel
theorem dX7_partnerIn_7 : decode cX7_partnerIn 7 = .ok (.istore 4, 2) := by decide +kernel
theorem dX7_partnerIn_9 : decode cX7_partnerIn 9 = .ok (.iconst 0, 1) := by decide +kernel
theorem dX7_partnerIn_10 : decode cX7_partnerIn 10 = .ok (.istore 5, 2) := by decide +kernel
theorem dX7_partnerIn_12 : decode cX7_partnerIn 12 = .ok (.iload 5, 2) := by decide +kernel
theorem dX7_partnerIn_14 : decode cX7_partnerIn 14 = .ok (.aload_n 0, 1) := by decide +kernel
theorem dX7_partnerIn_15 : decode cX7_partnerIn 15 = .ok (.getfield 65, 3) := by decide +kernel
theorem dX7_partnerIn_18 : decode cX7_partnerIn 18 = .ok (.if_icmp .ge 58, 3) := by decide +kernel
theorem dX7_partnerIn_21 : decode cX7_partnerIn 21 = .ok (.iload 4, 2) := by decide +kernel
theorem dX7_partnerIn_23 : decode cX7_partnerIn 23 = .ok (.iload 5, 2) := by decide +kernel
theorem dX7_partnerIn_25 : decode cX7_partnerIn 25 = .ok (.invokestatic 75, 3) := by decide +kernel
theorem dX7_partnerIn_28 : decode cX7_partnerIn 28 = .ok (.ifCond .eq 42, 3) := by decide +kernel
theorem dX7_partnerIn_31 : decode cX7_partnerIn 31 = .ok (.aload_n 0, 1) := by decide +kernel
theorem dX7_partnerIn_32 : decode cX7_partnerIn 32 = .ok (.iload_n 2, 1) := by decide +kernel
theorem dX7_partnerIn_33 : decode cX7_partnerIn 33 = .ok (.iload 5, 2) := by decide +kernel
theorem dX7_partnerIn_35 : decode cX7_partnerIn 35 = .ok (.iload_n 3, 1) := by decide +kernel
theorem dX7_partnerIn_36 : decode cX7_partnerIn 36 = .ok (.invokevirtual 248, 3) := by decide +kernel
theorem dX7_partnerIn_39 : decode cX7_partnerIn 39 = .ok (.ifCond .eq 31, 3) := by decide +kernel
theorem dX7_partnerIn_42 : decode cX7_partnerIn 42 = .ok (.iconst 1, 1) := by decide +kernel
theorem dX7_partnerIn_43 : decode cX7_partnerIn 43 = .ok (.aload_n 0, 1) := by decide +kernel
theorem dX7_partnerIn_44 : decode cX7_partnerIn 44 = .ok (.getfield 56, 3) := by decide +kernel
theorem dX7_partnerIn_47 : decode cX7_partnerIn 47 = .ok (.iload 4, 2) := by decide +kernel
theorem dX7_partnerIn_49 : decode cX7_partnerIn 49 = .ok (.iconst 1, 1) := by decide +kernel
theorem dX7_partnerIn_50 : decode cX7_partnerIn 50 = .ok (.iload 5, 2) := by decide +kernel
theorem dX7_partnerIn_52 : decode cX7_partnerIn 52 = .ok (.ishl, 1) := by decide +kernel
theorem dX7_partnerIn_53 : decode cX7_partnerIn 53 = .ok (.iconst (-1), 1) := by decide +kernel
theorem dX7_partnerIn_54 : decode cX7_partnerIn 54 = .ok (.ixor, 1) := by decide +kernel
theorem dX7_partnerIn_55 : decode cX7_partnerIn 55 = .ok (.iand, 1) := by decide +kernel
theorem dX7_partnerIn_56 : decode cX7_partnerIn 56 = .ok (.iaload, 1) := by decide +kernel
theorem dX7_partnerIn_57 : decode cX7_partnerIn 57 = .ok (.iadd, 1) := by decide +kernel
theorem dX7_partnerIn_58 : decode cX7_partnerIn 58 = .ok (.aload_n 0, 1) := by decide +kernel
theorem dX7_partnerIn_59 : decode cX7_partnerIn 59 = .ok (.getfield 56, 3) := by decide +kernel
theorem dX7_partnerIn_62 : decode cX7_partnerIn 62 = .ok (.iload_n 1, 1) := by decide +kernel
theorem dX7_partnerIn_63 : decode cX7_partnerIn 63 = .ok (.iaload, 1) := by decide +kernel
theorem dX7_partnerIn_64 : decode cX7_partnerIn 64 = .ok (.if_icmp .ne 6, 3) := by decide +kernel
theorem dX7_partnerIn_67 : decode cX7_partnerIn 67 = .ok (.iload 5, 2) := by decide +kernel
theorem dX7_partnerIn_69 : decode cX7_partnerIn 69 = .ok (.ireturn, 1) := by decide +kernel
theorem dX7_partnerIn_70 : decode cX7_partnerIn 70 = .ok (.iinc 5 1, 3) := by decide +kernel
theorem dX7_partnerIn_73 : decode cX7_partnerIn 73 = .ok (.goto (-61), 3) := by decide +kernel
theorem dX7_partnerIn_76 : decode cX7_partnerIn 76 = .ok (.bipush (-9), 2) := by decide +kernel
theorem dX7_partnerIn_78 : decode cX7_partnerIn 78 = .ok (.ireturn, 1) := by decide +kernel
theorem dX7_partnerOf_0 : decode cX7_partnerOf 0 = .ok (.iconst 1, 1) := by decide +kernel
theorem dX7_partnerOf_1 : decode cX7_partnerOf 1 = .ok (.aload_n 0, 1) := by decide +kernel
theorem dX7_partnerOf_2 : decode cX7_partnerOf 2 = .ok (.getfield 65, 3) := by decide +kernel
theorem dX7_partnerOf_5 : decode cX7_partnerOf 5 = .ok (.ishl, 1) := by decide +kernel
theorem dX7_partnerOf_6 : decode cX7_partnerOf 6 = .ok (.iconst 1, 1) := by decide +kernel
theorem dX7_partnerOf_7 : decode cX7_partnerOf 7 = .ok (.isub, 1) := by decide +kernel
theorem dX7_partnerOf_8 : decode cX7_partnerOf 8 = .ok (.istore_n 3, 1) := by decide +kernel
theorem dX7_partnerOf_9 : decode cX7_partnerOf 9 = .ok (.iload_n 3, 1) := by decide +kernel
theorem dX7_partnerOf_10 : decode cX7_partnerOf 10 = .ok (.ifCond .eq 68, 3) := by decide +kernel
theorem dX7_partnerOf_13 : decode cX7_partnerOf 13 = .ok (.iload_n 3, 1) := by decide +kernel
theorem dX7_partnerOf_14 : decode cX7_partnerOf 14 = .ok (.invokestatic 245, 3) := by decide +kernel
theorem dX7_partnerOf_17 : decode cX7_partnerOf 17 = .ok (.istore 4, 2) := by decide +kernel
theorem dX7_partnerOf_19 : decode cX7_partnerOf 19 = .ok (.aload_n 0, 1) := by decide +kernel
theorem dX7_partnerOf_20 : decode cX7_partnerOf 20 = .ok (.iload_n 3, 1) := by decide +kernel
theorem dX7_partnerOf_21 : decode cX7_partnerOf 21 = .ok (.iload 4, 2) := by decide +kernel
theorem dX7_partnerOf_23 : decode cX7_partnerOf 23 = .ok (.iload_n 2, 1) := by decide +kernel
theorem dX7_partnerOf_24 : decode cX7_partnerOf 24 = .ok (.invokevirtual 251, 3) := by decide +kernel
theorem dX7_partnerOf_27 : decode cX7_partnerOf 27 = .ok (.istore 5, 2) := by decide +kernel
theorem dX7_partnerOf_29 : decode cX7_partnerOf 29 = .ok (.iload 4, 2) := by decide +kernel
theorem dX7_partnerOf_31 : decode cX7_partnerOf 31 = .ok (.iload_n 1, 1) := by decide +kernel
theorem dX7_partnerOf_32 : decode cX7_partnerOf 32 = .ok (.if_icmp .ne 6, 3) := by decide +kernel
theorem dX7_partnerOf_35 : decode cX7_partnerOf 35 = .ok (.iload 5, 2) := by decide +kernel
theorem dX7_partnerOf_37 : decode cX7_partnerOf 37 = .ok (.ireturn, 1) := by decide +kernel
theorem dX7_partnerOf_38 : decode cX7_partnerOf 38 = .ok (.iload 5, 2) := by decide +kernel
theorem dX7_partnerOf_40 : decode cX7_partnerOf 40 = .ok (.iload_n 1, 1) := by decide +kernel
theorem dX7_partnerOf_41 : decode cX7_partnerOf 41 = .ok (.if_icmp .ne 6, 3) := by decide +kernel
theorem dX7_partnerOf_44 : decode cX7_partnerOf 44 = .ok (.iload 4, 2) := by decide +kernel
theorem dX7_partnerOf_46 : decode cX7_partnerOf 46 = .ok (.ireturn, 1) := by decide +kernel
theorem dX7_partnerOf_47 : decode cX7_partnerOf 47 = .ok (.iload_n 3, 1) := by decide +kernel
theorem dX7_partnerOf_48 : decode cX7_partnerOf 48 = .ok (.iload 5, 2) := by decide +kernel
theorem dX7_partnerOf_50 : decode cX7_partnerOf 50 = .ok (.ifCond .ge 12, 3) := by decide +kernel
theorem dX7_partnerOf_53 : decode cX7_partnerOf 53 = .ok (.iconst 1, 1) := by decide +kernel
theorem dX7_partnerOf_54 : decode cX7_partnerOf 54 = .ok (.iload 4, 2) := by decide +kernel
theorem dX7_partnerOf_56 : decode cX7_partnerOf 56 = .ok (.ishl, 1) := by decide +kernel
theorem dX7_partnerOf_57 : decode cX7_partnerOf 57 = .ok (.iconst (-1), 1) := by decide +kernel
theorem dX7_partnerOf_58 : decode cX7_partnerOf 58 = .ok (.ixor, 1) := by decide +kernel
theorem dX7_partnerOf_59 : decode cX7_partnerOf 59 = .ok (.goto 14, 3) := by decide +kernel
theorem dX7_partnerOf_62 : decode cX7_partnerOf 62 = .ok (.iconst 1, 1) := by decide +kernel
theorem dX7_partnerOf_63 : decode cX7_partnerOf 63 = .ok (.iload 4, 2) := by decide +kernel
theorem dX7_partnerOf_65 : decode cX7_partnerOf 65 = .ok (.ishl, 1) := by decide +kernel
theorem dX7_partnerOf_66 : decode cX7_partnerOf 66 = .ok (.iconst 1, 1) := by decide +kernel
theorem dX7_partnerOf_67 : decode cX7_partnerOf 67 = .ok (.iload 5, 2) := by decide +kernel
theorem dX7_partnerOf_69 : decode cX7_partnerOf 69 = .ok (.ishl, 1) := by decide +kernel
theorem dX7_partnerOf_70 : decode cX7_partnerOf 70 = .ok (.ior, 1) := by decide +kernel
theorem dX7_partnerOf_71 : decode cX7_partnerOf 71 = .ok (.iconst (-1), 1) := by decide +kernel
theorem dX7_partnerOf_72 : decode cX7_partnerOf 72 = .ok (.ixor, 1) := by decide +kernel
theorem dX7_partnerOf_73 : decode cX7_partnerOf 73 = .ok (.iand, 1) := by decide +kernel
theorem dX7_partnerOf_74 : decode cX7_partnerOf 74 = .ok (.istore_n 3, 1) := by decide +kernel
theorem dX7_partnerOf_75 : decode cX7_partnerOf 75 = .ok (.goto (-66), 3) := by decide +kernel
theorem dX7_partnerOf_78 : decode cX7_partnerOf 78 = .ok (.bipush (-9), 2) := by decide +kernel
theorem dX7_partnerOf_80 : decode cX7_partnerOf 80 = .ok (.ireturn, 1) := by decide +kernel
theorem dX7_couples_0 : decode cX7_couples 0 = .ok (.iload_n 1, 1) := by decide +kernel
theorem dX7_couples_1 : decode cX7_couples 1 = .ok (.iconst 0, 1) := by decide +kernel
theorem dX7_couples_2 : decode cX7_couples 2 = .ok (.bipush 99, 2) := by decide +kernel
theorem dX7_couples_4 : decode cX7_couples 4 = .ok (.invokestatic 82, 3) := by decide +kernel
theorem dX7_couples_7 : decode cX7_couples 7 = .ok (.istore_n 3, 1) := by decide +kernel
theorem dX7_couples_8 : decode cX7_couples 8 = .ok (.iload_n 3, 1) := by decide +kernel
theorem dX7_couples_9 : decode cX7_couples 9 = .ok (.ifCond .ne 18, 3) := by decide +kernel
theorem dX7_couples_12 : decode cX7_couples 12 = .ok (.iload_n 2, 1) := by decide +kernel
theorem dX7_couples_13 : decode cX7_couples 13 = .ok (.iconst (-1), 1) := by decide +kernel
theorem dX7_couples_14 : decode cX7_couples 14 = .ok (.if_icmp .eq 13, 3) := by decide +kernel
theorem dX7_couples_17 : decode cX7_couples 17 = .ok (.aload_n 0, 1) := by decide +kernel
theorem dX7_couples_18 : decode cX7_couples 18 = .ok (.iload_n 2, 1) := by decide +kernel
theorem dX7_couples_19 : decode cX7_couples 19 = .ok (.invokevirtual 71, 3) := by decide +kernel
theorem dX7_couples_22 : decode cX7_couples 22 = .ok (.ifCond .ne 5, 3) := by decide +kernel
theorem dX7_couples_25 : decode cX7_couples 25 = .ok (.iconst (-1), 1) := by decide +kernel
theorem dX7_couples_26 : decode cX7_couples 26 = .ok (.istore_n 3, 1) := by decide +kernel
theorem dX7_couples_27 : decode cX7_couples 27 = .ok (.iload_n 3, 1) := by decide +kernel
theorem dX7_couples_28 : decode cX7_couples 28 = .ok (.ifCond .eq 9, 3) := by decide +kernel
theorem dX7_couples_31 : decode cX7_couples 31 = .ok (.aload_n 0, 1) := by decide +kernel
theorem dX7_couples_32 : decode cX7_couples 32 = .ok (.iload_n 3, 1) := by decide +kernel
theorem dX7_couples_33 : decode cX7_couples 33 = .ok (.invokevirtual 89, 3) := by decide +kernel
theorem dX7_couples_36 : decode cX7_couples 36 = .ok (.ireturn, 1) := by decide +kernel
theorem dX7_couples_37 : decode cX7_couples 37 = .ok (.aload_n 0, 1) := by decide +kernel
theorem dX7_couples_38 : decode cX7_couples 38 = .ok (.iload_n 1, 1) := by decide +kernel
theorem dX7_couples_39 : decode cX7_couples 39 = .ok (.invokevirtual 254, 3) := by decide +kernel
theorem dX7_couples_42 : decode cX7_couples 42 = .ok (.iload_n 2, 1) := by decide +kernel
theorem dX7_couples_43 : decode cX7_couples 43 = .ok (.ifCond .ge 19, 3) := by decide +kernel
theorem dX7_couples_46 : decode cX7_couples 46 = .ok (.aload_n 0, 1) := by decide +kernel
theorem dX7_couples_47 : decode cX7_couples 47 = .ok (.getfield 56, 3) := by decide +kernel
theorem dX7_couples_50 : decode cX7_couples 50 = .ok (.iconst 1, 1) := by decide +kernel
theorem dX7_couples_51 : decode cX7_couples 51 = .ok (.aload_n 0, 1) := by decide +kernel
theorem dX7_couples_52 : decode cX7_couples 52 = .ok (.getfield 65, 3) := by decide +kernel
theorem dX7_couples_55 : decode cX7_couples 55 = .ok (.ishl, 1) := by decide +kernel
theorem dX7_couples_56 : decode cX7_couples 56 = .ok (.iconst 1, 1) := by decide +kernel
theorem dX7_couples_57 : decode cX7_couples 57 = .ok (.isub, 1) := by decide +kernel
theorem dX7_couples_58 : decode cX7_couples 58 = .ok (.iaload, 1) := by decide +kernel
theorem dX7_couples_59 : decode cX7_couples 59 = .ok (.goto 9, 3) := by decide +kernel
theorem dX7_couples_62 : decode cX7_couples 62 = .ok (.aload_n 0, 1) := by decide +kernel
theorem dX7_couples_63 : decode cX7_couples 63 = .ok (.iload_n 2, 1) := by decide +kernel
theorem dX7_couples_64 : decode cX7_couples 64 = .ok (.iload_n 1, 1) := by decide +kernel
theorem dX7_couples_65 : decode cX7_couples 65 = .ok (.invokevirtual 257, 3) := by decide +kernel
theorem dX7_couples_68 : decode cX7_couples 68 = .ok (.ireturn, 1) := by decide +kernel
theorem dX7_turned_0 : decode cX7_turned 0 = .ok (.iload_n 0, 1) := by decide +kernel
theorem dX7_turned_1 : decode cX7_turned 1 = .ok (.iconst 1, 1) := by decide +kernel
theorem dX7_turned_2 : decode cX7_turned 2 = .ok (.iload_n 1, 1) := by decide +kernel
theorem dX7_turned_3 : decode cX7_turned 3 = .ok (.ishl, 1) := by decide +kernel
theorem dX7_turned_4 : decode cX7_turned 4 = .ok (.iconst (-1), 1) := by decide +kernel
theorem dX7_turned_5 : decode cX7_turned 5 = .ok (.ixor, 1) := by decide +kernel
theorem dX7_turned_6 : decode cX7_turned 6 = .ok (.iand, 1) := by decide +kernel
theorem dX7_turned_7 : decode cX7_turned 7 = .ok (.iconst 1, 1) := by decide +kernel
theorem dX7_turned_8 : decode cX7_turned 8 = .ok (.iload_n 2, 1) := by decide +kernel
theorem dX7_turned_9 : decode cX7_turned 9 = .ok (.ishl, 1) := by decide +kernel
theorem dX7_turned_10 : decode cX7_turned 10 = .ok (.iconst (-1), 1) := by decide +kernel
theorem dX7_turned_11 : decode cX7_turned 11 = .ok (.ixor, 1) := by decide +kernel
theorem dX7_turned_12 : decode cX7_turned 12 = .ok (.iand, 1) := by decide +kernel
theorem dX7_turned_13 : decode cX7_turned 13 = .ok (.istore_n 3, 1) := by decide +kernel
theorem dX7_turned_14 : decode cX7_turned 14 = .ok (.iload_n 3, 1) := by decide +kernel
theorem dX7_turned_15 : decode cX7_turned 15 = .ok (.iload_n 0, 1) := by decide +kernel
theorem dX7_turned_16 : decode cX7_turned 16 = .ok (.iload_n 1, 1) := by decide +kernel
theorem dX7_turned_17 : decode cX7_turned 17 = .ok (.ishr, 1) := by decide +kernel
theorem dX7_turned_18 : decode cX7_turned 18 = .ok (.iconst 1, 1) := by decide +kernel
theorem dX7_turned_19 : decode cX7_turned 19 = .ok (.iand, 1) := by decide +kernel
theorem dX7_turned_20 : decode cX7_turned 20 = .ok (.iload_n 2, 1) := by decide +kernel
theorem dX7_turned_21 : decode cX7_turned 21 = .ok (.ishl, 1) := by decide +kernel
theorem dX7_turned_22 : decode cX7_turned 22 = .ok (.ior, 1) := by decide +kernel
theorem dX7_turned_23 : decode cX7_turned 23 = .ok (.iload_n 0, 1) := by decide +kernel
theorem dX7_turned_24 : decode cX7_turned 24 = .ok (.iload_n 2, 1) := by decide +kernel
theorem dX7_turned_25 : decode cX7_turned 25 = .ok (.ishr, 1) := by decide +kernel
theorem dX7_turned_26 : decode cX7_turned 26 = .ok (.iconst 1, 1) := by decide +kernel
theorem dX7_turned_27 : decode cX7_turned 27 = .ok (.iand, 1) := by decide +kernel
theorem dX7_turned_28 : decode cX7_turned 28 = .ok (.iload_n 1, 1) := by decide +kernel
theorem dX7_turned_29 : decode cX7_turned 29 = .ok (.ishl, 1) := by decide +kernel
theorem dX7_turned_30 : decode cX7_turned 30 = .ok (.ior, 1) := by decide +kernel
theorem dX7_turned_31 : decode cX7_turned 31 = .ok (.ireturn, 1) := by decide +kernel
theorem dX7_exchanges_0 : decode cX7_exchanges 0 = .ok (.aload_n 1, 1) := by decide +kernel
theorem dX7_exchanges_1 : decode cX7_exchanges 1 = .ok (.iload_n 2, 1) := by decide +kernel
theorem dX7_exchanges_2 : decode cX7_exchanges 2 = .ok (.iaload, 1) := by decide +kernel
theorem dX7_exchanges_3 : decode cX7_exchanges 3 = .ok (.istore 4, 2) := by decide +kernel
theorem dX7_exchanges_5 : decode cX7_exchanges 5 = .ok (.aload_n 1, 1) := by decide +kernel
theorem dX7_exchanges_6 : decode cX7_exchanges 6 = .ok (.iload_n 2, 1) := by decide +kernel
theorem dX7_exchanges_7 : decode cX7_exchanges 7 = .ok (.aload_n 1, 1) := by decide +kernel
theorem dX7_exchanges_8 : decode cX7_exchanges 8 = .ok (.iload_n 3, 1) := by decide +kernel
theorem dX7_exchanges_9 : decode cX7_exchanges 9 = .ok (.iaload, 1) := by decide +kernel
theorem dX7_exchanges_10 : decode cX7_exchanges 10 = .ok (.iastore, 1) := by decide +kernel
theorem dX7_exchanges_11 : decode cX7_exchanges 11 = .ok (.aload_n 1, 1) := by decide +kernel
theorem dX7_exchanges_12 : decode cX7_exchanges 12 = .ok (.iload_n 3, 1) := by decide +kernel
theorem dX7_exchanges_13 : decode cX7_exchanges 13 = .ok (.iload 4, 2) := by decide +kernel
theorem dX7_exchanges_15 : decode cX7_exchanges 15 = .ok (.iastore, 1) := by decide +kernel
theorem dX7_exchanges_16 : decode cX7_exchanges 16 = .ok (.iconst 0, 1) := by decide +kernel
theorem dX7_exchanges_17 : decode cX7_exchanges 17 = .ok (.istore 5, 2) := by decide +kernel
theorem dX7_exchanges_19 : decode cX7_exchanges 19 = .ok (.iload 5, 2) := by decide +kernel
theorem dX7_exchanges_21 : decode cX7_exchanges 21 = .ok (.aload_n 0, 1) := by decide +kernel
theorem dX7_exchanges_22 : decode cX7_exchanges 22 = .ok (.getfield 65, 3) := by decide +kernel
theorem dX7_exchanges_25 : decode cX7_exchanges 25 = .ok (.if_icmp .ge 22, 3) := by decide +kernel
theorem dX7_exchanges_28 : decode cX7_exchanges 28 = .ok (.aload_n 1, 1) := by decide +kernel
theorem dX7_exchanges_29 : decode cX7_exchanges 29 = .ok (.iload 5, 2) := by decide +kernel
theorem dX7_exchanges_31 : decode cX7_exchanges 31 = .ok (.aload_n 1, 1) := by decide +kernel
theorem dX7_exchanges_32 : decode cX7_exchanges 32 = .ok (.iload 5, 2) := by decide +kernel
theorem dX7_exchanges_34 : decode cX7_exchanges 34 = .ok (.iaload, 1) := by decide +kernel
theorem dX7_exchanges_35 : decode cX7_exchanges 35 = .ok (.iload_n 2, 1) := by decide +kernel
theorem dX7_exchanges_36 : decode cX7_exchanges 36 = .ok (.iload_n 3, 1) := by decide +kernel
theorem dX7_exchanges_37 : decode cX7_exchanges 37 = .ok (.invokestatic 260, 3) := by decide +kernel
theorem dX7_exchanges_40 : decode cX7_exchanges 40 = .ok (.iastore, 1) := by decide +kernel
theorem dX7_exchanges_41 : decode cX7_exchanges 41 = .ok (.iinc 5 1, 3) := by decide +kernel
theorem dX7_exchanges_44 : decode cX7_exchanges 44 = .ok (.goto (-25), 3) := by decide +kernel
theorem dX7_exchanges_47 : decode cX7_exchanges 47 = .ok (.return_, 1) := by decide +kernel
theorem dX7_moneyChanged_0 : decode cX7_moneyChanged 0 = .ok (.aload_n 0, 1) := by decide +kernel
theorem dX7_moneyChanged_1 : decode cX7_moneyChanged 1 = .ok (.invokevirtual 263, 3) := by decide +kernel
theorem dX7_moneyChanged_4 : decode cX7_moneyChanged 4 = .ok (.aload_n 0, 1) := by decide +kernel
theorem dX7_moneyChanged_5 : decode cX7_moneyChanged 5 = .ok (.aload_n 0, 1) := by decide +kernel
theorem dX7_moneyChanged_6 : decode cX7_moneyChanged 6 = .ok (.getfield 22, 3) := by decide +kernel
theorem dX7_moneyChanged_9 : decode cX7_moneyChanged 9 = .ok (.iload_n 1, 1) := by decide +kernel
theorem dX7_moneyChanged_10 : decode cX7_moneyChanged 10 = .ok (.iload_n 2, 1) := by decide +kernel
theorem dX7_moneyChanged_11 : decode cX7_moneyChanged 11 = .ok (.invokevirtual 266, 3) := by decide +kernel
theorem dX7_moneyChanged_14 : decode cX7_moneyChanged 14 = .ok (.aload_n 0, 1) := by decide +kernel
theorem dX7_moneyChanged_15 : decode cX7_moneyChanged 15 = .ok (.aload_n 0, 1) := by decide +kernel
theorem dX7_moneyChanged_16 : decode cX7_moneyChanged 16 = .ok (.getfield 25, 3) := by decide +kernel
theorem dX7_moneyChanged_19 : decode cX7_moneyChanged 19 = .ok (.iload_n 1, 1) := by decide +kernel
theorem dX7_moneyChanged_20 : decode cX7_moneyChanged 20 = .ok (.iload_n 2, 1) := by decide +kernel
theorem dX7_moneyChanged_21 : decode cX7_moneyChanged 21 = .ok (.invokevirtual 266, 3) := by decide +kernel
theorem dX7_moneyChanged_24 : decode cX7_moneyChanged 24 = .ok (.aload_n 0, 1) := by decide +kernel
theorem dX7_moneyChanged_25 : decode cX7_moneyChanged 25 = .ok (.iload_n 1, 1) := by decide +kernel
theorem dX7_moneyChanged_26 : decode cX7_moneyChanged 26 = .ok (.iload_n 3, 1) := by decide +kernel
theorem dX7_moneyChanged_27 : decode cX7_moneyChanged 27 = .ok (.invokevirtual 199, 3) := by decide +kernel
theorem dX7_moneyChanged_30 : decode cX7_moneyChanged 30 = .ok (.istore 4, 2) := by decide +kernel
theorem dX7_moneyChanged_32 : decode cX7_moneyChanged 32 = .ok (.aload_n 0, 1) := by decide +kernel
theorem dX7_moneyChanged_33 : decode cX7_moneyChanged 33 = .ok (.invokevirtual 270, 3) := by decide +kernel
theorem dX7_moneyChanged_36 : decode cX7_moneyChanged 36 = .ok (.iload 4, 2) := by decide +kernel
theorem dX7_moneyChanged_38 : decode cX7_moneyChanged 38 = .ok (.ireturn, 1) := by decide +kernel
theorem dX7_buys_0 : decode cX7_buys 0 = .ok (.aload_n 0, 1) := by decide +kernel
theorem dX7_buys_1 : decode cX7_buys 1 = .ok (.iload_n 1, 1) := by decide +kernel
theorem dX7_buys_2 : decode cX7_buys 2 = .ok (.invokevirtual 71, 3) := by decide +kernel
theorem dX7_buys_5 : decode cX7_buys 5 = .ok (.ifCond .ne 7, 3) := by decide +kernel
theorem dX7_buys_8 : decode cX7_buys 8 = .ok (.iconst (-1), 1) := by decide +kernel
theorem dX7_buys_9 : decode cX7_buys 9 = .ok (.goto 7, 3) := by decide +kernel
theorem dX7_buys_12 : decode cX7_buys 12 = .ok (.iload_n 2, 1) := by decide +kernel
theorem dX7_buys_13 : decode cX7_buys 13 = .ok (.invokestatic 229, 3) := by decide +kernel
theorem dX7_buys_16 : decode cX7_buys 16 = .ok (.istore_n 3, 1) := by decide +kernel
theorem dX7_buys_17 : decode cX7_buys 17 = .ok (.iload_n 3, 1) := by decide +kernel
theorem dX7_buys_18 : decode cX7_buys 18 = .ok (.ifCond .eq 9, 3) := by decide +kernel
theorem dX7_buys_21 : decode cX7_buys 21 = .ok (.aload_n 0, 1) := by decide +kernel
theorem dX7_buys_22 : decode cX7_buys 22 = .ok (.iload_n 3, 1) := by decide +kernel
theorem dX7_buys_23 : decode cX7_buys 23 = .ok (.invokevirtual 89, 3) := by decide +kernel
theorem dX7_buys_26 : decode cX7_buys 26 = .ok (.ireturn, 1) := by decide +kernel
theorem dX7_buys_27 : decode cX7_buys 27 = .ok (.bipush (-9), 2) := by decide +kernel
theorem dX7_buys_29 : decode cX7_buys 29 = .ok (.istore 4, 2) := by decide +kernel
theorem dX7_buys_31 : decode cX7_buys 31 = .ok (.aload_n 0, 1) := by decide +kernel
theorem dX7_buys_32 : decode cX7_buys 32 = .ok (.iload_n 1, 1) := by decide +kernel
theorem dX7_buys_33 : decode cX7_buys 33 = .ok (.iload_n 2, 1) := by decide +kernel
theorem dX7_buys_34 : decode cX7_buys 34 = .ok (.invokevirtual 199, 3) := by decide +kernel
theorem dX7_buys_37 : decode cX7_buys 37 = .ok (.istore 5, 2) := by decide +kernel
theorem dX7_buys_39 : decode cX7_buys 39 = .ok (.iconst 0, 1) := by decide +kernel
theorem dX7_buys_40 : decode cX7_buys 40 = .ok (.istore 6, 2) := by decide +kernel
theorem dX7_buys_42 : decode cX7_buys 42 = .ok (.iload 6, 2) := by decide +kernel
theorem dX7_buys_44 : decode cX7_buys 44 = .ok (.aload_n 0, 1) := by decide +kernel
theorem dX7_buys_45 : decode cX7_buys 45 = .ok (.getfield 65, 3) := by decide +kernel
theorem dX7_buys_48 : decode cX7_buys 48 = .ok (.if_icmp .ge 48, 3) := by decide +kernel
theorem dX7_buys_51 : decode cX7_buys 51 = .ok (.iload 6, 2) := by decide +kernel
theorem dX7_buys_53 : decode cX7_buys 53 = .ok (.iload_n 1, 1) := by decide +kernel
theorem dX7_buys_54 : decode cX7_buys 54 = .ok (.if_icmp .ne 8, 3) := by decide +kernel
theorem dX7_buys_57 : decode cX7_buys 57 = .ok (.bipush (-9), 2) := by decide +kernel
theorem dX7_buys_59 : decode cX7_buys 59 = .ok (.goto 11, 3) := by decide +kernel
theorem dX7_buys_62 : decode cX7_buys 62 = .ok (.aload_n 0, 1) := by decide +kernel
theorem dX7_buys_63 : decode cX7_buys 63 = .ok (.iload_n 1, 1) := by decide +kernel
theorem dX7_buys_64 : decode cX7_buys 64 = .ok (.iload 6, 2) := by decide +kernel
theorem dX7_buys_66 : decode cX7_buys 66 = .ok (.iload_n 2, 1) := by decide +kernel
theorem dX7_buys_67 : decode cX7_buys 67 = .ok (.invokevirtual 273, 3) := by decide +kernel
theorem dX7_buys_70 : decode cX7_buys 70 = .ok (.istore 7, 2) := by decide +kernel
theorem dX7_buys_72 : decode cX7_buys 72 = .ok (.iload 7, 2) := by decide +kernel
theorem dX7_buys_74 : decode cX7_buys 74 = .ok (.iload 5, 2) := by decide +kernel
theorem dX7_buys_76 : decode cX7_buys 76 = .ok (.if_icmp .gt 6, 3) := by decide +kernel
theorem dX7_buys_79 : decode cX7_buys 79 = .ok (.goto 11, 3) := by decide +kernel
theorem dX7_buys_82 : decode cX7_buys 82 = .ok (.iload 6, 2) := by decide +kernel
theorem dX7_buys_84 : decode cX7_buys 84 = .ok (.istore 4, 2) := by decide +kernel
theorem dX7_buys_86 : decode cX7_buys 86 = .ok (.iload 7, 2) := by decide +kernel
theorem dX7_buys_88 : decode cX7_buys 88 = .ok (.istore 5, 2) := by decide +kernel
theorem dX7_buys_90 : decode cX7_buys 90 = .ok (.iinc 6 1, 3) := by decide +kernel
theorem dX7_buys_93 : decode cX7_buys 93 = .ok (.goto (-51), 3) := by decide +kernel
theorem dX7_buys_96 : decode cX7_buys 96 = .ok (.iload 4, 2) := by decide +kernel
theorem dX7_buys_98 : decode cX7_buys 98 = .ok (.ireturn, 1) := by decide +kernel
theorem dX7_matters_0 : decode cX7_matters 0 = .ok (.iload_n 1, 1) := by decide +kernel
theorem dX7_matters_1 : decode cX7_matters 1 = .ok (.iconst 0, 1) := by decide +kernel
theorem dX7_matters_2 : decode cX7_matters 2 = .ok (.iconst 1, 1) := by decide +kernel
theorem dX7_matters_3 : decode cX7_matters 3 = .ok (.invokestatic 100, 3) := by decide +kernel
theorem dX7_matters_6 : decode cX7_matters 6 = .ok (.ifCond .ne 10, 3) := by decide +kernel
theorem dX7_matters_9 : decode cX7_matters 9 = .ok (.aload_n 0, 1) := by decide +kernel
theorem dX7_matters_10 : decode cX7_matters 10 = .ok (.bipush (-2), 2) := by decide +kernel
theorem dX7_matters_12 : decode cX7_matters 12 = .ok (.invokevirtual 89, 3) := by decide +kernel
theorem dX7_matters_15 : decode cX7_matters 15 = .ok (.ireturn, 1) := by decide +kernel
theorem dX7_matters_16 : decode cX7_matters 16 = .ok (.bipush (-9), 2) := by decide +kernel
theorem dX7_matters_18 : decode cX7_matters 18 = .ok (.istore_n 2, 1) := by decide +kernel
theorem dX7_matters_19 : decode cX7_matters 19 = .ok (.bipush (-9), 2) := by decide +kernel
theorem dX7_matters_21 : decode cX7_matters 21 = .ok (.istore_n 3, 1) := by decide +kernel
theorem dX7_matters_22 : decode cX7_matters 22 = .ok (.iconst 0, 1) := by decide +kernel
theorem dX7_matters_23 : decode cX7_matters 23 = .ok (.istore 4, 2) := by decide +kernel
theorem dX7_matters_25 : decode cX7_matters 25 = .ok (.iload 4, 2) := by decide +kernel
theorem dX7_matters_27 : decode cX7_matters 27 = .ok (.aload_n 0, 1) := by decide +kernel
theorem dX7_matters_28 : decode cX7_matters 28 = .ok (.getfield 65, 3) := by decide +kernel
theorem dX7_matters_31 : decode cX7_matters 31 = .ok (.if_icmp .ge 44, 3) := by decide +kernel
theorem dX7_matters_34 : decode cX7_matters 34 = .ok (.aload_n 0, 1) := by decide +kernel
theorem dX7_matters_35 : decode cX7_matters 35 = .ok (.invokevirtual 276, 3) := by decide +kernel
theorem dX7_matters_38 : decode cX7_matters 38 = .ok (.aload_n 0, 1) := by decide +kernel
theorem dX7_matters_39 : decode cX7_matters 39 = .ok (.iload 4, 2) := by decide +kernel
theorem dX7_matters_41 : decode cX7_matters 41 = .ok (.invokevirtual 181, 3) := by decide +kernel
theorem dX7_matters_44 : decode cX7_matters 44 = .ok (.invokestatic 184, 3) := by decide +kernel
theorem dX7_matters_47 : decode cX7_matters 47 = .ok (.isub, 1) := by decide +kernel
theorem dX7_matters_48 : decode cX7_matters 48 = .ok (.istore 5, 2) := by decide +kernel
theorem dX7_matters_50 : decode cX7_matters 50 = .ok (.iload_n 2, 1) := by decide +kernel
theorem dX7_matters_51 : decode cX7_matters 51 = .ok (.ifCond .lt 12, 3) := by decide +kernel
theorem dX7_matters_54 : decode cX7_matters 54 = .ok (.iload 5, 2) := by decide +kernel
theorem dX7_matters_56 : decode cX7_matters 56 = .ok (.iload_n 3, 1) := by decide +kernel
theorem dX7_matters_57 : decode cX7_matters 57 = .ok (.if_icmp .lt 6, 3) := by decide +kernel
theorem dX7_matters_60 : decode cX7_matters 60 = .ok (.goto 9, 3) := by decide +kernel
theorem dX7_matters_63 : decode cX7_matters 63 = .ok (.iload 4, 2) := by decide +kernel
theorem dX7_matters_65 : decode cX7_matters 65 = .ok (.istore_n 2, 1) := by decide +kernel
theorem dX7_matters_66 : decode cX7_matters 66 = .ok (.iload 5, 2) := by decide +kernel
theorem dX7_matters_68 : decode cX7_matters 68 = .ok (.istore_n 3, 1) := by decide +kernel
theorem dX7_matters_69 : decode cX7_matters 69 = .ok (.iinc 4 1, 3) := by decide +kernel
theorem dX7_matters_72 : decode cX7_matters 72 = .ok (.goto (-47), 3) := by decide +kernel
theorem dX7_matters_75 : decode cX7_matters 75 = .ok (.iload_n 1, 1) := by decide +kernel
theorem dX7_matters_76 : decode cX7_matters 76 = .ok (.ifCond .ne 7, 3) := by decide +kernel
theorem dX7_matters_79 : decode cX7_matters 79 = .ok (.iload_n 2, 1) := by decide +kernel
theorem dX7_matters_80 : decode cX7_matters 80 = .ok (.goto 4, 3) := by decide +kernel
theorem dX7_matters_83 : decode cX7_matters 83 = .ok (.iload_n 3, 1) := by decide +kernel
theorem dX7_matters_84 : decode cX7_matters 84 = .ok (.ireturn, 1) := by decide +kernel
theorem dX7_divisor_0 : decode cX7_divisor 0 = .ok (.lload_n 0, 1) := by decide +kernel
theorem dX7_divisor_1 : decode cX7_divisor 1 = .ok (.lstore 4, 2) := by decide +kernel
theorem dX7_divisor_3 : decode cX7_divisor 3 = .ok (.lload_n 2, 1) := by decide +kernel
theorem dX7_divisor_4 : decode cX7_divisor 4 = .ok (.lstore 6, 2) := by decide +kernel
theorem dX7_divisor_6 : decode cX7_divisor 6 = .ok (.lload 6, 2) := by decide +kernel
theorem dX7_divisor_8 : decode cX7_divisor 8 = .ok (.lconst 0, 1) := by decide +kernel
theorem dX7_divisor_9 : decode cX7_divisor 9 = .ok (.lcmp, 1) := by decide +kernel
theorem dX7_divisor_10 : decode cX7_divisor 10 = .ok (.ifCond .eq 21, 3) := by decide +kernel
theorem dX7_divisor_13 : decode cX7_divisor 13 = .ok (.lload 4, 2) := by decide +kernel
theorem dX7_divisor_15 : decode cX7_divisor 15 = .ok (.lload 6, 2) := by decide +kernel
theorem dX7_divisor_17 : decode cX7_divisor 17 = .ok (.lrem, 1) := by decide +kernel
theorem dX7_divisor_18 : decode cX7_divisor 18 = .ok (.lstore 8, 2) := by decide +kernel
theorem dX7_divisor_20 : decode cX7_divisor 20 = .ok (.lload 6, 2) := by decide +kernel
theorem dX7_divisor_22 : decode cX7_divisor 22 = .ok (.lstore 4, 2) := by decide +kernel
theorem dX7_divisor_24 : decode cX7_divisor 24 = .ok (.lload 8, 2) := by decide +kernel
theorem dX7_divisor_26 : decode cX7_divisor 26 = .ok (.lstore 6, 2) := by decide +kernel
theorem dX7_divisor_28 : decode cX7_divisor 28 = .ok (.goto (-22), 3) := by decide +kernel
theorem dX7_divisor_31 : decode cX7_divisor 31 = .ok (.lload 4, 2) := by decide +kernel
theorem dX7_divisor_33 : decode cX7_divisor 33 = .ok (.lreturn, 1) := by decide +kernel
theorem dX7_partOf_0 : decode cX7_partOf 0 = .ok (.iload 4, 2) := by decide +kernel
theorem dX7_partOf_2 : decode cX7_partOf 2 = .ok (.ifCond .ne 7, 3) := by decide +kernel
theorem dX7_partOf_5 : decode cX7_partOf 5 = .ok (.lload_n 0, 1) := by decide +kernel
theorem dX7_partOf_6 : decode cX7_partOf 6 = .ok (.goto 4, 3) := by decide +kernel
theorem dX7_partOf_9 : decode cX7_partOf 9 = .ok (.lload_n 2, 1) := by decide +kernel
theorem dX7_partOf_10 : decode cX7_partOf 10 = .ok (.lload_n 0, 1) := by decide +kernel
theorem dX7_partOf_11 : decode cX7_partOf 11 = .ok (.lload_n 2, 1) := by decide +kernel
theorem dX7_partOf_12 : decode cX7_partOf 12 = .ok (.invokestatic 279, 3) := by decide +kernel
theorem dX7_partOf_15 : decode cX7_partOf 15 = .ok (.ldiv, 1) := by decide +kernel
theorem dX7_partOf_16 : decode cX7_partOf 16 = .ok (.lreturn, 1) := by decide +kernel
theorem dX7_deaths_0 : decode cX7_deaths 0 = .ok (.aload_n 0, 1) := by decide +kernel
theorem dX7_deaths_1 : decode cX7_deaths 1 = .ok (.iload_n 1, 1) := by decide +kernel
theorem dX7_deaths_2 : decode cX7_deaths 2 = .ok (.iload_n 2, 1) := by decide +kernel
theorem dX7_deaths_3 : decode cX7_deaths 3 = .ok (.invokevirtual 119, 3) := by decide +kernel
theorem dX7_deaths_6 : decode cX7_deaths 6 = .ok (.ifCond .ne 7, 3) := by decide +kernel
theorem dX7_deaths_9 : decode cX7_deaths 9 = .ok (.iconst (-1), 1) := by decide +kernel
theorem dX7_deaths_10 : decode cX7_deaths 10 = .ok (.goto 64, 3) := by decide +kernel
theorem dX7_deaths_13 : decode cX7_deaths 13 = .ok (.iload_n 3, 1) := by decide +kernel
theorem dX7_deaths_14 : decode cX7_deaths 14 = .ok (.ifCond .lt 14, 3) := by decide +kernel
theorem dX7_deaths_17 : decode cX7_deaths 17 = .ok (.iload 5, 2) := by decide +kernel
theorem dX7_deaths_19 : decode cX7_deaths 19 = .ok (.ifCond .lt 9, 3) := by decide +kernel
theorem dX7_deaths_22 : decode cX7_deaths 22 = .ok (.iload 4, 2) := by decide +kernel
theorem dX7_deaths_24 : decode cX7_deaths 24 = .ok (.iconst 2, 1) := by decide +kernel
theorem dX7_deaths_25 : decode cX7_deaths 25 = .ok (.if_icmp .ge 8, 3) := by decide +kernel
theorem dX7_deaths_28 : decode cX7_deaths 28 = .ok (.bipush (-4), 2) := by decide +kernel
theorem dX7_deaths_30 : decode cX7_deaths 30 = .ok (.goto 44, 3) := by decide +kernel
theorem dX7_deaths_33 : decode cX7_deaths 33 = .ok (.iload_n 3, 1) := by decide +kernel
theorem dX7_deaths_34 : decode cX7_deaths 34 = .ok (.bipush 7, 2) := by decide +kernel
theorem dX7_deaths_36 : decode cX7_deaths 36 = .ok (.if_icmp .gt 17, 3) := by decide +kernel
theorem dX7_deaths_39 : decode cX7_deaths 39 = .ok (.iload 4, 2) := by decide +kernel
theorem dX7_deaths_41 : decode cX7_deaths 41 = .ok (.bipush 20, 2) := by decide +kernel
theorem dX7_deaths_43 : decode cX7_deaths 43 = .ok (.if_icmp .gt 10, 3) := by decide +kernel
theorem dX7_deaths_46 : decode cX7_deaths 46 = .ok (.iload 5, 2) := by decide +kernel
theorem dX7_deaths_48 : decode cX7_deaths 48 = .ok (.bipush 99, 2) := by decide +kernel
theorem dX7_deaths_50 : decode cX7_deaths 50 = .ok (.if_icmp .le 8, 3) := by decide +kernel
theorem dX7_deaths_53 : decode cX7_deaths 53 = .ok (.bipush (-6), 2) := by decide +kernel
theorem dX7_deaths_55 : decode cX7_deaths 55 = .ok (.goto 19, 3) := by decide +kernel
theorem dX7_deaths_58 : decode cX7_deaths 58 = .ok (.iload 6, 2) := by decide +kernel
theorem dX7_deaths_60 : decode cX7_deaths 60 = .ok (.iconst 0, 1) := by decide +kernel
theorem dX7_deaths_61 : decode cX7_deaths 61 = .ok (.iconst 1, 1) := by decide +kernel
theorem dX7_deaths_62 : decode cX7_deaths 62 = .ok (.invokestatic 100, 3) := by decide +kernel
theorem dX7_deaths_65 : decode cX7_deaths 65 = .ok (.ifCond .ne 8, 3) := by decide +kernel
theorem dX7_deaths_68 : decode cX7_deaths 68 = .ok (.bipush (-2), 2) := by decide +kernel
theorem dX7_deaths_70 : decode cX7_deaths 70 = .ok (.goto 4, 3) := by decide +kernel
theorem dX7_deaths_73 : decode cX7_deaths 73 = .ok (.iconst 0, 1) := by decide +kernel
theorem dX7_deaths_74 : decode cX7_deaths 74 = .ok (.istore 7, 2) := by decide +kernel
theorem dX7_deaths_76 : decode cX7_deaths 76 = .ok (.iload 7, 2) := by decide +kernel
theorem dX7_deaths_78 : decode cX7_deaths 78 = .ok (.ifCond .eq 10, 3) := by decide +kernel
theorem dX7_deaths_81 : decode cX7_deaths 81 = .ok (.aload_n 0, 1) := by decide +kernel
theorem dX7_deaths_82 : decode cX7_deaths 82 = .ok (.iload 7, 2) := by decide +kernel
theorem dX7_deaths_84 : decode cX7_deaths 84 = .ok (.invokevirtual 283, 3) := by decide +kernel
theorem dX7_deaths_87 : decode cX7_deaths 87 = .ok (.lreturn, 1) := by decide +kernel
theorem dX7_deaths_88 : decode cX7_deaths 88 = .ok (.lconst 0, 1) := by decide +kernel
theorem dX7_deaths_89 : decode cX7_deaths 89 = .ok (.lstore 8, 2) := by decide +kernel
theorem dX7_deaths_91 : decode cX7_deaths 91 = .ok (.lconst 1, 1) := by decide +kernel
theorem dX7_deaths_92 : decode cX7_deaths 92 = .ok (.lstore 10, 2) := by decide +kernel
theorem dX7_deaths_94 : decode cX7_deaths 94 = .ok (.iconst 0, 1) := by decide +kernel
theorem dX7_deaths_95 : decode cX7_deaths 95 = .ok (.istore 12, 2) := by decide +kernel
theorem dX7_deaths_97 : decode cX7_deaths 97 = .ok (.iload 12, 2) := by decide +kernel
theorem dX7_deaths_99 : decode cX7_deaths 99 = .ok (.iload_n 3, 1) := by decide +kernel
theorem dX7_deaths_100 : decode cX7_deaths 100 = .ok (.if_icmp .ge 17, 3) := by decide +kernel
theorem dX7_deaths_103 : decode cX7_deaths 103 = .ok (.lload 10, 2) := by decide +kernel
theorem dX7_deaths_105 : decode cX7_deaths 105 = .ok (.iload 4, 2) := by decide +kernel
theorem dX7_deaths_107 : decode cX7_deaths 107 = .ok (.i2l, 1) := by decide +kernel
theorem dX7_deaths_108 : decode cX7_deaths 108 = .ok (.lmul, 1) := by decide +kernel
theorem dX7_deaths_109 : decode cX7_deaths 109 = .ok (.lstore 10, 2) := by decide +kernel
theorem dX7_deaths_111 : decode cX7_deaths 111 = .ok (.iinc 12 1, 3) := by decide +kernel
theorem dX7_deaths_114 : decode cX7_deaths 114 = .ok (.goto (-17), 3) := by decide +kernel
theorem dX7_deaths_117 : decode cX7_deaths 117 = .ok (.iconst 0, 1) := by decide +kernel
theorem dX7_deaths_118 : decode cX7_deaths 118 = .ok (.istore 12, 2) := by decide +kernel
theorem dX7_deaths_120 : decode cX7_deaths 120 = .ok (.iload 12, 2) := by decide +kernel
theorem dX7_deaths_122 : decode cX7_deaths 122 = .ok (.iconst 1, 1) := by decide +kernel
theorem dX7_deaths_123 : decode cX7_deaths 123 = .ok (.iload_n 3, 1) := by decide +kernel
theorem dX7_deaths_124 : decode cX7_deaths 124 = .ok (.ishl, 1) := by decide +kernel
theorem dX7_deaths_125 : decode cX7_deaths 125 = .ok (.if_icmp .ge 111, 3) := by decide +kernel
theorem dX7_deaths_128 : decode cX7_deaths 128 = .ok (.aload_n 0, 1) := by decide +kernel
theorem dX7_deaths_129 : decode cX7_deaths 129 = .ok (.invokevirtual 190, 3) := by decide +kernel
theorem dX7_deaths_132 : decode cX7_deaths 132 = .ok (.lconst 1, 1) := by decide +kernel
theorem dX7_deaths_133 : decode cX7_deaths 133 = .ok (.lstore 13, 2) := by decide +kernel
theorem dX7_deaths_135 : decode cX7_deaths 135 = .ok (.iconst 0, 1) := by decide +kernel
theorem dX7_deaths_136 : decode cX7_deaths 136 = .ok (.istore 15, 2) := by decide +kernel
theorem dX7_deaths_138 : decode cX7_deaths 138 = .ok (.iload 15, 2) := by decide +kernel
theorem dX7_deaths_140 : decode cX7_deaths 140 = .ok (.iload_n 3, 1) := by decide +kernel
theorem dX7_deaths_141 : decode cX7_deaths 141 = .ok (.if_icmp .ge 57, 3) := by decide +kernel
theorem dX7_deaths_144 : decode cX7_deaths 144 = .ok (.lload 13, 2) := by decide +kernel
theorem dX7_deaths_146 : decode cX7_deaths 146 = .ok (.iload 12, 2) := by decide +kernel
theorem dX7_deaths_148 : decode cX7_deaths 148 = .ok (.iload 15, 2) := by decide +kernel
theorem dX7_deaths_150 : decode cX7_deaths 150 = .ok (.invokestatic 75, 3) := by decide +kernel
theorem dX7_deaths_153 : decode cX7_deaths 153 = .ok (.ifCond .eq 7, 3) := by decide +kernel
theorem dX7_deaths_156 : decode cX7_deaths 156 = .ok (.lconst 1, 1) := by decide +kernel
theorem dX7_deaths_157 : decode cX7_deaths 157 = .ok (.goto 8, 3) := by decide +kernel
theorem dX7_deaths_160 : decode cX7_deaths 160 = .ok (.iload 4, 2) := by decide +kernel
theorem dX7_deaths_162 : decode cX7_deaths 162 = .ok (.iconst 1, 1) := by decide +kernel
theorem dX7_deaths_163 : decode cX7_deaths 163 = .ok (.isub, 1) := by decide +kernel
theorem dX7_deaths_164 : decode cX7_deaths 164 = .ok (.i2l, 1) := by decide +kernel
theorem dX7_deaths_165 : decode cX7_deaths 165 = .ok (.lmul, 1) := by decide +kernel
theorem dX7_deaths_166 : decode cX7_deaths 166 = .ok (.lstore 13, 2) := by decide +kernel
theorem dX7_deaths_168 : decode cX7_deaths 168 = .ok (.aload_n 0, 1) := by decide +kernel
theorem dX7_deaths_169 : decode cX7_deaths 169 = .ok (.iload 12, 2) := by decide +kernel
theorem dX7_deaths_171 : decode cX7_deaths 171 = .ok (.iload 15, 2) := by decide +kernel
theorem dX7_deaths_173 : decode cX7_deaths 173 = .ok (.invokestatic 75, 3) := by decide +kernel
theorem dX7_deaths_176 : decode cX7_deaths 176 = .ok (.ifCond .eq 7, 3) := by decide +kernel
theorem dX7_deaths_179 : decode cX7_deaths 179 = .ok (.iload_n 1, 1) := by decide +kernel
theorem dX7_deaths_180 : decode cX7_deaths 180 = .ok (.goto 5, 3) := by decide +kernel
theorem dX7_deaths_183 : decode cX7_deaths 183 = .ok (.bipush (-9), 2) := by decide +kernel
theorem dX7_deaths_185 : decode cX7_deaths 185 = .ok (.putfield 28, 3) := by decide +kernel
theorem dX7_deaths_188 : decode cX7_deaths 188 = .ok (.aload_n 0, 1) := by decide +kernel
theorem dX7_deaths_189 : decode cX7_deaths 189 = .ok (.invokevirtual 178, 3) := by decide +kernel
theorem dX7_deaths_192 : decode cX7_deaths 192 = .ok (.iinc 15 1, 3) := by decide +kernel
theorem dX7_deaths_195 : decode cX7_deaths 195 = .ok (.goto (-57), 3) := by decide +kernel
theorem dX7_deaths_198 : decode cX7_deaths 198 = .ok (.aload_n 0, 1) := by decide +kernel
theorem dX7_deaths_199 : decode cX7_deaths 199 = .ok (.bipush (-9), 2) := by decide +kernel
theorem dX7_deaths_201 : decode cX7_deaths 201 = .ok (.putfield 28, 3) := by decide +kernel
theorem dX7_deaths_204 : decode cX7_deaths 204 = .ok (.lload 8, 2) := by decide +kernel
theorem dX7_deaths_206 : decode cX7_deaths 206 = .ok (.aload_n 0, 1) := by decide +kernel
theorem dX7_deaths_207 : decode cX7_deaths 207 = .ok (.getfield 19, 3) := by decide +kernel
theorem dX7_deaths_210 : decode cX7_deaths 210 = .ok (.iload_n 2, 1) := by decide +kernel
theorem dX7_deaths_211 : decode cX7_deaths 211 = .ok (.iaload, 1) := by decide +kernel
theorem dX7_deaths_212 : decode cX7_deaths 212 = .ok (.iload 5, 2) := by decide +kernel
theorem dX7_deaths_214 : decode cX7_deaths 214 = .ok (.if_icmp .lt 8, 3) := by decide +kernel
theorem dX7_deaths_217 : decode cX7_deaths 217 = .ok (.lload 13, 2) := by decide +kernel
theorem dX7_deaths_219 : decode cX7_deaths 219 = .ok (.goto 4, 3) := by decide +kernel
theorem dX7_deaths_222 : decode cX7_deaths 222 = .ok (.lconst 0, 1) := by decide +kernel
theorem dX7_deaths_223 : decode cX7_deaths 223 = .ok (.ladd, 1) := by decide +kernel
theorem dX7_deaths_224 : decode cX7_deaths 224 = .ok (.lstore 8, 2) := by decide +kernel
theorem dX7_deaths_226 : decode cX7_deaths 226 = .ok (.aload_n 0, 1) := by decide +kernel
theorem dX7_deaths_227 : decode cX7_deaths 227 = .ok (.invokevirtual 193, 3) := by decide +kernel
theorem dX7_deaths_230 : decode cX7_deaths 230 = .ok (.iinc 12 1, 3) := by decide +kernel
theorem dX7_deaths_233 : decode cX7_deaths 233 = .ok (.goto (-113), 3) := by decide +kernel
theorem dX7_deaths_236 : decode cX7_deaths 236 = .ok (.lload 8, 2) := by decide +kernel
theorem dX7_deaths_238 : decode cX7_deaths 238 = .ok (.lload 10, 2) := by decide +kernel
theorem dX7_deaths_240 : decode cX7_deaths 240 = .ok (.iload 6, 2) := by decide +kernel
theorem dX7_deaths_242 : decode cX7_deaths 242 = .ok (.invokestatic 287, 3) := by decide +kernel
theorem dX7_deaths_245 : decode cX7_deaths 245 = .ok (.lreturn, 1) := by decide +kernel
theorem dX7_mean_0 : decode cX7_mean 0 = .ok (.iload_n 1, 1) := by decide +kernel
theorem dX7_mean_1 : decode cX7_mean 1 = .ok (.iconst 0, 1) := by decide +kernel
theorem dX7_mean_2 : decode cX7_mean 2 = .ok (.iconst 1, 1) := by decide +kernel
theorem dX7_mean_3 : decode cX7_mean 3 = .ok (.invokestatic 100, 3) := by decide +kernel
theorem dX7_mean_6 : decode cX7_mean 6 = .ok (.ifCond .ne 10, 3) := by decide +kernel
theorem dX7_mean_9 : decode cX7_mean 9 = .ok (.aload_n 0, 1) := by decide +kernel
theorem dX7_mean_10 : decode cX7_mean 10 = .ok (.bipush (-2), 2) := by decide +kernel
theorem dX7_mean_12 : decode cX7_mean 12 = .ok (.invokevirtual 283, 3) := by decide +kernel
theorem dX7_mean_15 : decode cX7_mean 15 = .ok (.lreturn, 1) := by decide +kernel
theorem dX7_mean_16 : decode cX7_mean 16 = .ok (.aload_n 0, 1) := by decide +kernel
theorem dX7_mean_17 : decode cX7_mean 17 = .ok (.getfield 65, 3) := by decide +kernel
theorem dX7_mean_20 : decode cX7_mean 20 = .ok (.ifCond .ne 8, 3) := by decide +kernel
theorem dX7_mean_23 : decode cX7_mean 23 = .ok (.iload_n 1, 1) := by decide +kernel
theorem dX7_mean_24 : decode cX7_mean 24 = .ok (.i2l, 1) := by decide +kernel
theorem dX7_mean_25 : decode cX7_mean 25 = .ok (.goto 17, 3) := by decide +kernel
theorem dX7_mean_28 : decode cX7_mean 28 = .ok (.aload_n 0, 1) := by decide +kernel
theorem dX7_mean_29 : decode cX7_mean 29 = .ok (.invokevirtual 187, 3) := by decide +kernel
theorem dX7_mean_32 : decode cX7_mean 32 = .ok (.i2l, 1) := by decide +kernel
theorem dX7_mean_33 : decode cX7_mean 33 = .ok (.aload_n 0, 1) := by decide +kernel
theorem dX7_mean_34 : decode cX7_mean 34 = .ok (.getfield 65, 3) := by decide +kernel
theorem dX7_mean_37 : decode cX7_mean 37 = .ok (.i2l, 1) := by decide +kernel
theorem dX7_mean_38 : decode cX7_mean 38 = .ok (.iload_n 1, 1) := by decide +kernel
theorem dX7_mean_39 : decode cX7_mean 39 = .ok (.invokestatic 287, 3) := by decide +kernel
theorem dX7_mean_42 : decode cX7_mean 42 = .ok (.lreturn, 1) := by decide +kernel
theorem dX7_with_0 : decode cX7_with 0 = .ok (.iload_n 0, 1) := by decide +kernel
theorem dX7_with_1 : decode cX7_with 1 = .ok (.iconst 1, 1) := by decide +kernel
theorem dX7_with_2 : decode cX7_with 2 = .ok (.iload_n 1, 1) := by decide +kernel
theorem dX7_with_3 : decode cX7_with 3 = .ok (.ishl, 1) := by decide +kernel
theorem dX7_with_4 : decode cX7_with 4 = .ok (.iconst (-1), 1) := by decide +kernel
theorem dX7_with_5 : decode cX7_with 5 = .ok (.ixor, 1) := by decide +kernel
theorem dX7_with_6 : decode cX7_with 6 = .ok (.iand, 1) := by decide +kernel
theorem dX7_with_7 : decode cX7_with 7 = .ok (.iload_n 2, 1) := by decide +kernel
theorem dX7_with_8 : decode cX7_with 8 = .ok (.iload_n 1, 1) := by decide +kernel
theorem dX7_with_9 : decode cX7_with 9 = .ok (.ishl, 1) := by decide +kernel
theorem dX7_with_10 : decode cX7_with 10 = .ok (.ior, 1) := by decide +kernel
theorem dX7_with_11 : decode cX7_with 11 = .ok (.ireturn, 1) := by decide +kernel
theorem dX7_findTwo_0 : decode cX7_findTwo 0 = .ok (.iconst 0, 1) := by decide +kernel
theorem dX7_findTwo_1 : decode cX7_findTwo 1 = .ok (.istore 4, 2) := by decide +kernel
theorem dX7_findTwo_3 : decode cX7_findTwo 3 = .ok (.iload 4, 2) := by decide +kernel
theorem dX7_findTwo_5 : decode cX7_findTwo 5 = .ok (.iconst 4, 1) := by decide +kernel
theorem dX7_findTwo_6 : decode cX7_findTwo 6 = .ok (.if_icmp .ge 94, 3) := by decide +kernel
theorem dX7_findTwo_9 : decode cX7_findTwo 9 = .ok (.aload_n 0, 1) := by decide +kernel
theorem dX7_findTwo_10 : decode cX7_findTwo 10 = .ok (.invokevirtual 190, 3) := by decide +kernel
theorem dX7_findTwo_13 : decode cX7_findTwo 13 = .ok (.aload_n 0, 1) := by decide +kernel
theorem dX7_findTwo_14 : decode cX7_findTwo 14 = .ok (.getfield 22, 3) := by decide +kernel
theorem dX7_findTwo_17 : decode cX7_findTwo 17 = .ok (.iload_n 1, 1) := by decide +kernel
theorem dX7_findTwo_18 : decode cX7_findTwo 18 = .ok (.aload_n 0, 1) := by decide +kernel
theorem dX7_findTwo_19 : decode cX7_findTwo 19 = .ok (.getfield 22, 3) := by decide +kernel
theorem dX7_findTwo_22 : decode cX7_findTwo 22 = .ok (.iload_n 1, 1) := by decide +kernel
theorem dX7_findTwo_23 : decode cX7_findTwo 23 = .ok (.iaload, 1) := by decide +kernel
theorem dX7_findTwo_24 : decode cX7_findTwo 24 = .ok (.iload_n 2, 1) := by decide +kernel
theorem dX7_findTwo_25 : decode cX7_findTwo 25 = .ok (.iload 4, 2) := by decide +kernel
theorem dX7_findTwo_27 : decode cX7_findTwo 27 = .ok (.iconst 2, 1) := by decide +kernel
theorem dX7_findTwo_28 : decode cX7_findTwo 28 = .ok (.idiv, 1) := by decide +kernel
theorem dX7_findTwo_29 : decode cX7_findTwo 29 = .ok (.invokestatic 291, 3) := by decide +kernel
theorem dX7_findTwo_32 : decode cX7_findTwo 32 = .ok (.iastore, 1) := by decide +kernel
theorem dX7_findTwo_33 : decode cX7_findTwo 33 = .ok (.aload_n 0, 1) := by decide +kernel
theorem dX7_findTwo_34 : decode cX7_findTwo 34 = .ok (.getfield 22, 3) := by decide +kernel
theorem dX7_findTwo_37 : decode cX7_findTwo 37 = .ok (.iload_n 2, 1) := by decide +kernel
theorem dX7_findTwo_38 : decode cX7_findTwo 38 = .ok (.aload_n 0, 1) := by decide +kernel
theorem dX7_findTwo_39 : decode cX7_findTwo 39 = .ok (.getfield 22, 3) := by decide +kernel
theorem dX7_findTwo_42 : decode cX7_findTwo 42 = .ok (.iload_n 2, 1) := by decide +kernel
theorem dX7_findTwo_43 : decode cX7_findTwo 43 = .ok (.iaload, 1) := by decide +kernel
theorem dX7_findTwo_44 : decode cX7_findTwo 44 = .ok (.iload_n 1, 1) := by decide +kernel
theorem dX7_findTwo_45 : decode cX7_findTwo 45 = .ok (.iload 4, 2) := by decide +kernel
theorem dX7_findTwo_47 : decode cX7_findTwo 47 = .ok (.iconst 2, 1) := by decide +kernel
theorem dX7_findTwo_48 : decode cX7_findTwo 48 = .ok (.irem, 1) := by decide +kernel
theorem dX7_findTwo_49 : decode cX7_findTwo 49 = .ok (.invokestatic 291, 3) := by decide +kernel
theorem dX7_findTwo_52 : decode cX7_findTwo 52 = .ok (.iastore, 1) := by decide +kernel
theorem dX7_findTwo_53 : decode cX7_findTwo 53 = .ok (.aload_n 0, 1) := by decide +kernel
theorem dX7_findTwo_54 : decode cX7_findTwo 54 = .ok (.iload_n 3, 1) := by decide +kernel
theorem dX7_findTwo_55 : decode cX7_findTwo 55 = .ok (.invokevirtual 129, 3) := by decide +kernel
theorem dX7_findTwo_58 : decode cX7_findTwo 58 = .ok (.aload_n 0, 1) := by decide +kernel
theorem dX7_findTwo_59 : decode cX7_findTwo 59 = .ok (.getfield 59, 3) := by decide +kernel
theorem dX7_findTwo_62 : decode cX7_findTwo 62 = .ok (.iconst 2, 1) := by decide +kernel
theorem dX7_findTwo_63 : decode cX7_findTwo 63 = .ok (.iload 4, 2) := by decide +kernel
theorem dX7_findTwo_65 : decode cX7_findTwo 65 = .ok (.imul, 1) := by decide +kernel
theorem dX7_findTwo_66 : decode cX7_findTwo 66 = .ok (.aload_n 0, 1) := by decide +kernel
theorem dX7_findTwo_67 : decode cX7_findTwo 67 = .ok (.getfield 19, 3) := by decide +kernel
theorem dX7_findTwo_70 : decode cX7_findTwo 70 = .ok (.iload_n 1, 1) := by decide +kernel
theorem dX7_findTwo_71 : decode cX7_findTwo 71 = .ok (.iaload, 1) := by decide +kernel
theorem dX7_findTwo_72 : decode cX7_findTwo 72 = .ok (.iastore, 1) := by decide +kernel
theorem dX7_findTwo_73 : decode cX7_findTwo 73 = .ok (.aload_n 0, 1) := by decide +kernel
theorem dX7_findTwo_74 : decode cX7_findTwo 74 = .ok (.getfield 59, 3) := by decide +kernel
theorem dX7_findTwo_77 : decode cX7_findTwo 77 = .ok (.iconst 2, 1) := by decide +kernel
theorem dX7_findTwo_78 : decode cX7_findTwo 78 = .ok (.iload 4, 2) := by decide +kernel
theorem dX7_findTwo_80 : decode cX7_findTwo 80 = .ok (.imul, 1) := by decide +kernel
theorem dX7_findTwo_81 : decode cX7_findTwo 81 = .ok (.iconst 1, 1) := by decide +kernel
theorem dX7_findTwo_82 : decode cX7_findTwo 82 = .ok (.iadd, 1) := by decide +kernel
theorem dX7_findTwo_83 : decode cX7_findTwo 83 = .ok (.aload_n 0, 1) := by decide +kernel
theorem dX7_findTwo_84 : decode cX7_findTwo 84 = .ok (.getfield 19, 3) := by decide +kernel
theorem dX7_findTwo_87 : decode cX7_findTwo 87 = .ok (.iload_n 2, 1) := by decide +kernel
theorem dX7_findTwo_88 : decode cX7_findTwo 88 = .ok (.iaload, 1) := by decide +kernel
theorem dX7_findTwo_89 : decode cX7_findTwo 89 = .ok (.iastore, 1) := by decide +kernel
theorem dX7_findTwo_90 : decode cX7_findTwo 90 = .ok (.aload_n 0, 1) := by decide +kernel
theorem dX7_findTwo_91 : decode cX7_findTwo 91 = .ok (.invokevirtual 193, 3) := by decide +kernel
theorem dX7_findTwo_94 : decode cX7_findTwo 94 = .ok (.iinc 4 1, 3) := by decide +kernel
theorem dX7_findTwo_97 : decode cX7_findTwo 97 = .ok (.goto (-94), 3) := by decide +kernel
theorem dX7_findTwo_100 : decode cX7_findTwo 100 = .ok (.return_, 1) := by decide +kernel
theorem dX7_two_0 : decode cX7_two 0 = .ok (.aload_n 0, 1) := by decide +kernel
theorem dX7_two_1 : decode cX7_two 1 = .ok (.iload_n 1, 1) := by decide +kernel
theorem dX7_two_2 : decode cX7_two 2 = .ok (.iload_n 2, 1) := by decide +kernel
theorem dX7_two_3 : decode cX7_two 3 = .ok (.invokevirtual 119, 3) := by decide +kernel
theorem dX7_two_6 : decode cX7_two 6 = .ok (.ifCond .ne 7, 3) := by decide +kernel
theorem dX7_two_9 : decode cX7_two 9 = .ok (.iconst (-1), 1) := by decide +kernel
theorem dX7_two_10 : decode cX7_two 10 = .ok (.goto 7, 3) := by decide +kernel
theorem dX7_two_13 : decode cX7_two 13 = .ok (.iload_n 3, 1) := by decide +kernel
theorem dX7_two_14 : decode cX7_two 14 = .ok (.invokestatic 229, 3) := by decide +kernel
theorem dX7_two_17 : decode cX7_two 17 = .ok (.istore 4, 2) := by decide +kernel
theorem dX7_two_19 : decode cX7_two 19 = .ok (.iload 4, 2) := by decide +kernel
theorem dX7_two_21 : decode cX7_two 21 = .ok (.ifCond .eq 10, 3) := by decide +kernel
theorem dX7_two_24 : decode cX7_two 24 = .ok (.aload_n 0, 1) := by decide +kernel
theorem dX7_two_25 : decode cX7_two 25 = .ok (.iload 4, 2) := by decide +kernel
theorem dX7_two_27 : decode cX7_two 27 = .ok (.invokevirtual 89, 3) := by decide +kernel
theorem dX7_two_30 : decode cX7_two 30 = .ok (.ireturn, 1) := by decide +kernel
theorem dX7_two_31 : decode cX7_two 31 = .ok (.aload_n 0, 1) := by decide +kernel
theorem dX7_two_32 : decode cX7_two 32 = .ok (.iload_n 1, 1) := by decide +kernel
theorem dX7_two_33 : decode cX7_two 33 = .ok (.iload_n 2, 1) := by decide +kernel
theorem dX7_two_34 : decode cX7_two 34 = .ok (.iload_n 3, 1) := by decide +kernel
theorem dX7_two_35 : decode cX7_two 35 = .ok (.invokevirtual 294, 3) := by decide +kernel
theorem dX7_two_38 : decode cX7_two 38 = .ok (.iconst 0, 1) := by decide +kernel
theorem dX7_two_39 : decode cX7_two 39 = .ok (.istore 5, 2) := by decide +kernel
theorem dX7_two_41 : decode cX7_two 41 = .ok (.iload 5, 2) := by decide +kernel
theorem dX7_two_43 : decode cX7_two 43 = .ok (.iconst 4, 1) := by decide +kernel
theorem dX7_two_44 : decode cX7_two 44 = .ok (.if_icmp .ge 72, 3) := by decide +kernel
theorem dX7_two_47 : decode cX7_two 47 = .ok (.aload_n 0, 1) := by decide +kernel
theorem dX7_two_48 : decode cX7_two 48 = .ok (.getfield 59, 3) := by decide +kernel
theorem dX7_two_51 : decode cX7_two 51 = .ok (.iconst 2, 1) := by decide +kernel
theorem dX7_two_52 : decode cX7_two 52 = .ok (.iload 5, 2) := by decide +kernel
theorem dX7_two_54 : decode cX7_two 54 = .ok (.iconst 2, 1) := by decide +kernel
theorem dX7_two_55 : decode cX7_two 55 = .ok (.ixor, 1) := by decide +kernel
theorem dX7_two_56 : decode cX7_two 56 = .ok (.imul, 1) := by decide +kernel
theorem dX7_two_57 : decode cX7_two 57 = .ok (.iaload, 1) := by decide +kernel
theorem dX7_two_58 : decode cX7_two 58 = .ok (.aload_n 0, 1) := by decide +kernel
theorem dX7_two_59 : decode cX7_two 59 = .ok (.getfield 59, 3) := by decide +kernel
theorem dX7_two_62 : decode cX7_two 62 = .ok (.iconst 2, 1) := by decide +kernel
theorem dX7_two_63 : decode cX7_two 63 = .ok (.iload 5, 2) := by decide +kernel
theorem dX7_two_65 : decode cX7_two 65 = .ok (.imul, 1) := by decide +kernel
theorem dX7_two_66 : decode cX7_two 66 = .ok (.iaload, 1) := by decide +kernel
theorem dX7_two_67 : decode cX7_two 67 = .ok (.if_icmp .gt 43, 3) := by decide +kernel
theorem dX7_two_70 : decode cX7_two 70 = .ok (.aload_n 0, 1) := by decide +kernel
theorem dX7_two_71 : decode cX7_two 71 = .ok (.getfield 59, 3) := by decide +kernel
theorem dX7_two_74 : decode cX7_two 74 = .ok (.iconst 2, 1) := by decide +kernel
theorem dX7_two_75 : decode cX7_two 75 = .ok (.iload 5, 2) := by decide +kernel
theorem dX7_two_77 : decode cX7_two 77 = .ok (.iconst 1, 1) := by decide +kernel
theorem dX7_two_78 : decode cX7_two 78 = .ok (.ixor, 1) := by decide +kernel
theorem dX7_two_79 : decode cX7_two 79 = .ok (.imul, 1) := by decide +kernel
theorem dX7_two_80 : decode cX7_two 80 = .ok (.iconst 1, 1) := by decide +kernel
theorem dX7_two_81 : decode cX7_two 81 = .ok (.iadd, 1) := by decide +kernel
theorem dX7_two_82 : decode cX7_two 82 = .ok (.iaload, 1) := by decide +kernel
theorem dX7_two_83 : decode cX7_two 83 = .ok (.aload_n 0, 1) := by decide +kernel
theorem dX7_two_84 : decode cX7_two 84 = .ok (.getfield 59, 3) := by decide +kernel
theorem dX7_two_87 : decode cX7_two 87 = .ok (.iconst 2, 1) := by decide +kernel
theorem dX7_two_88 : decode cX7_two 88 = .ok (.iload 5, 2) := by decide +kernel
theorem dX7_two_90 : decode cX7_two 90 = .ok (.imul, 1) := by decide +kernel
theorem dX7_two_91 : decode cX7_two 91 = .ok (.iconst 1, 1) := by decide +kernel
theorem dX7_two_92 : decode cX7_two 92 = .ok (.iadd, 1) := by decide +kernel
theorem dX7_two_93 : decode cX7_two 93 = .ok (.iaload, 1) := by decide +kernel
theorem dX7_two_94 : decode cX7_two 94 = .ok (.if_icmp .gt 16, 3) := by decide +kernel
theorem dX7_two_97 : decode cX7_two 97 = .ok (.bipush 10, 2) := by decide +kernel
theorem dX7_two_99 : decode cX7_two 99 = .ok (.iload 5, 2) := by decide +kernel
theorem dX7_two_101 : decode cX7_two 101 = .ok (.iconst 2, 1) := by decide +kernel
theorem dX7_two_102 : decode cX7_two 102 = .ok (.idiv, 1) := by decide +kernel
theorem dX7_two_103 : decode cX7_two 103 = .ok (.imul, 1) := by decide +kernel
theorem dX7_two_104 : decode cX7_two 104 = .ok (.iload 5, 2) := by decide +kernel
theorem dX7_two_106 : decode cX7_two 106 = .ok (.iconst 2, 1) := by decide +kernel
theorem dX7_two_107 : decode cX7_two 107 = .ok (.irem, 1) := by decide +kernel
theorem dX7_two_108 : decode cX7_two 108 = .ok (.iadd, 1) := by decide +kernel
theorem dX7_two_109 : decode cX7_two 109 = .ok (.ireturn, 1) := by decide +kernel
theorem dX7_two_110 : decode cX7_two 110 = .ok (.iinc 5 1, 3) := by decide +kernel
theorem dX7_two_113 : decode cX7_two 113 = .ok (.goto (-72), 3) := by decide +kernel
theorem dX7_two_116 : decode cX7_two 116 = .ok (.bipush (-9), 2) := by decide +kernel
theorem dX7_two_118 : decode cX7_two 118 = .ok (.ireturn, 1) := by decide +kernel
theorem dX7_isSo_0 : decode cX7_isSo 0 = .ok (.aload_n 0, 1) := by decide +kernel
theorem dX7_isSo_1 : decode cX7_isSo 1 = .ok (.invokevirtual 190, 3) := by decide +kernel
theorem dX7_isSo_4 : decode cX7_isSo 4 = .ok (.iconst 1, 1) := by decide +kernel
theorem dX7_isSo_5 : decode cX7_isSo 5 = .ok (.istore_n 2, 1) := by decide +kernel
theorem dX7_isSo_6 : decode cX7_isSo 6 = .ok (.iconst 0, 1) := by decide +kernel
theorem dX7_isSo_7 : decode cX7_isSo 7 = .ok (.istore_n 3, 1) := by decide +kernel
theorem dX7_isSo_8 : decode cX7_isSo 8 = .ok (.iload_n 3, 1) := by decide +kernel
theorem dX7_isSo_9 : decode cX7_isSo 9 = .ok (.aload_n 0, 1) := by decide +kernel
theorem dX7_isSo_10 : decode cX7_isSo 10 = .ok (.getfield 297, 3) := by decide +kernel
theorem dX7_isSo_13 : decode cX7_isSo 13 = .ok (.if_icmp .ge 38, 3) := by decide +kernel
theorem dX7_isSo_16 : decode cX7_isSo 16 = .ok (.iload_n 2, 1) := by decide +kernel
theorem dX7_isSo_17 : decode cX7_isSo 17 = .ok (.ifCond .eq 34, 3) := by decide +kernel
theorem dX7_isSo_20 : decode cX7_isSo 20 = .ok (.aload_n 0, 1) := by decide +kernel
theorem dX7_isSo_21 : decode cX7_isSo 21 = .ok (.getfield 19, 3) := by decide +kernel
theorem dX7_isSo_24 : decode cX7_isSo 24 = .ok (.iload_n 1, 1) := by decide +kernel
theorem dX7_isSo_25 : decode cX7_isSo 25 = .ok (.iaload, 1) := by decide +kernel
theorem dX7_isSo_26 : decode cX7_isSo 26 = .ok (.aload_n 0, 1) := by decide +kernel
theorem dX7_isSo_27 : decode cX7_isSo 27 = .ok (.getfield 62, 3) := by decide +kernel
theorem dX7_isSo_30 : decode cX7_isSo 30 = .ok (.iload_n 3, 1) := by decide +kernel
theorem dX7_isSo_31 : decode cX7_isSo 31 = .ok (.iaload, 1) := by decide +kernel
theorem dX7_isSo_32 : decode cX7_isSo 32 = .ok (.if_icmp .ne 7, 3) := by decide +kernel
theorem dX7_isSo_35 : decode cX7_isSo 35 = .ok (.iconst 1, 1) := by decide +kernel
theorem dX7_isSo_36 : decode cX7_isSo 36 = .ok (.goto 4, 3) := by decide +kernel
theorem dX7_isSo_39 : decode cX7_isSo 39 = .ok (.iconst 0, 1) := by decide +kernel
theorem dX7_isSo_40 : decode cX7_isSo 40 = .ok (.istore_n 2, 1) := by decide +kernel
theorem dX7_isSo_41 : decode cX7_isSo 41 = .ok (.aload_n 0, 1) := by decide +kernel
theorem dX7_isSo_42 : decode cX7_isSo 42 = .ok (.invokevirtual 178, 3) := by decide +kernel
theorem dX7_isSo_45 : decode cX7_isSo 45 = .ok (.iinc 3 1, 3) := by decide +kernel
theorem dX7_isSo_48 : decode cX7_isSo 48 = .ok (.goto (-40), 3) := by decide +kernel
theorem dX7_isSo_51 : decode cX7_isSo 51 = .ok (.aload_n 0, 1) := by decide +kernel
theorem dX7_isSo_52 : decode cX7_isSo 52 = .ok (.invokevirtual 193, 3) := by decide +kernel
theorem dX7_isSo_55 : decode cX7_isSo 55 = .ok (.iload_n 2, 1) := by decide +kernel
theorem dX7_isSo_56 : decode cX7_isSo 56 = .ok (.ireturn, 1) := by decide +kernel
theorem dX7_bitsFor_0 : decode cX7_bitsFor 0 = .ok (.aload_n 1, 1) := by decide +kernel
theorem dX7_bitsFor_1 : decode cX7_bitsFor 1 = .ok (.iload_n 2, 1) := by decide +kernel
theorem dX7_bitsFor_2 : decode cX7_bitsFor 2 = .ok (.iaload, 1) := by decide +kernel
theorem dX7_bitsFor_3 : decode cX7_bitsFor 3 = .ok (.istore 4, 2) := by decide +kernel
theorem dX7_bitsFor_5 : decode cX7_bitsFor 5 = .ok (.iconst 0, 1) := by decide +kernel
theorem dX7_bitsFor_6 : decode cX7_bitsFor 6 = .ok (.istore 5, 2) := by decide +kernel
theorem dX7_bitsFor_8 : decode cX7_bitsFor 8 = .ok (.iconst 0, 1) := by decide +kernel
theorem dX7_bitsFor_9 : decode cX7_bitsFor 9 = .ok (.istore 6, 2) := by decide +kernel
theorem dX7_bitsFor_11 : decode cX7_bitsFor 11 = .ok (.iload 6, 2) := by decide +kernel
theorem dX7_bitsFor_13 : decode cX7_bitsFor 13 = .ok (.iload_n 3, 1) := by decide +kernel
theorem dX7_bitsFor_14 : decode cX7_bitsFor 14 = .ok (.if_icmp .ge 35, 3) := by decide +kernel
theorem dX7_bitsFor_17 : decode cX7_bitsFor 17 = .ok (.aload_n 1, 1) := by decide +kernel
theorem dX7_bitsFor_18 : decode cX7_bitsFor 18 = .ok (.iload_n 2, 1) := by decide +kernel
theorem dX7_bitsFor_19 : decode cX7_bitsFor 19 = .ok (.iload 6, 2) := by decide +kernel
theorem dX7_bitsFor_21 : decode cX7_bitsFor 21 = .ok (.iastore, 1) := by decide +kernel
theorem dX7_bitsFor_22 : decode cX7_bitsFor 22 = .ok (.iload 5, 2) := by decide +kernel
theorem dX7_bitsFor_24 : decode cX7_bitsFor 24 = .ok (.aload_n 0, 1) := by decide +kernel
theorem dX7_bitsFor_25 : decode cX7_bitsFor 25 = .ok (.iload_n 2, 1) := by decide +kernel
theorem dX7_bitsFor_26 : decode cX7_bitsFor 26 = .ok (.invokevirtual 300, 3) := by decide +kernel
theorem dX7_bitsFor_29 : decode cX7_bitsFor 29 = .ok (.ifCond .eq 10, 3) := by decide +kernel
theorem dX7_bitsFor_32 : decode cX7_bitsFor 32 = .ok (.iconst 1, 1) := by decide +kernel
theorem dX7_bitsFor_33 : decode cX7_bitsFor 33 = .ok (.iload 6, 2) := by decide +kernel
theorem dX7_bitsFor_35 : decode cX7_bitsFor 35 = .ok (.ishl, 1) := by decide +kernel
theorem dX7_bitsFor_36 : decode cX7_bitsFor 36 = .ok (.goto 4, 3) := by decide +kernel
theorem dX7_bitsFor_39 : decode cX7_bitsFor 39 = .ok (.iconst 0, 1) := by decide +kernel
theorem dX7_bitsFor_40 : decode cX7_bitsFor 40 = .ok (.ior, 1) := by decide +kernel
theorem dX7_bitsFor_41 : decode cX7_bitsFor 41 = .ok (.istore 5, 2) := by decide +kernel
theorem dX7_bitsFor_43 : decode cX7_bitsFor 43 = .ok (.iinc 6 1, 3) := by decide +kernel
theorem dX7_bitsFor_46 : decode cX7_bitsFor 46 = .ok (.goto (-35), 3) := by decide +kernel
theorem dX7_bitsFor_49 : decode cX7_bitsFor 49 = .ok (.aload_n 1, 1) := by decide +kernel
theorem dX7_bitsFor_50 : decode cX7_bitsFor 50 = .ok (.iload_n 2, 1) := by decide +kernel
theorem dX7_bitsFor_51 : decode cX7_bitsFor 51 = .ok (.iload 4, 2) := by decide +kernel
theorem dX7_bitsFor_53 : decode cX7_bitsFor 53 = .ok (.iastore, 1) := by decide +kernel
theorem dX7_bitsFor_54 : decode cX7_bitsFor 54 = .ok (.iload 5, 2) := by decide +kernel
theorem dX7_bitsFor_56 : decode cX7_bitsFor 56 = .ok (.ireturn, 1) := by decide +kernel
theorem dX7_whatIs_0 : decode cX7_whatIs 0 = .ok (.aload_n 0, 1) := by decide +kernel
theorem dX7_whatIs_1 : decode cX7_whatIs 1 = .ok (.iload_n 1, 1) := by decide +kernel
theorem dX7_whatIs_2 : decode cX7_whatIs 2 = .ok (.invokevirtual 71, 3) := by decide +kernel
theorem dX7_whatIs_5 : decode cX7_whatIs 5 = .ok (.ifCond .ne 7, 3) := by decide +kernel
theorem dX7_whatIs_8 : decode cX7_whatIs 8 = .ok (.iconst (-1), 1) := by decide +kernel
theorem dX7_whatIs_9 : decode cX7_whatIs 9 = .ok (.goto 18, 3) := by decide +kernel
theorem dX7_whatIs_12 : decode cX7_whatIs 12 = .ok (.iload_n 2, 1) := by decide +kernel
theorem dX7_whatIs_13 : decode cX7_whatIs 13 = .ok (.iconst 0, 1) := by decide +kernel
theorem dX7_whatIs_14 : decode cX7_whatIs 14 = .ok (.iconst 1, 1) := by decide +kernel
theorem dX7_whatIs_15 : decode cX7_whatIs 15 = .ok (.invokestatic 100, 3) := by decide +kernel
theorem dX7_whatIs_18 : decode cX7_whatIs 18 = .ok (.ifCond .ne 8, 3) := by decide +kernel
theorem dX7_whatIs_21 : decode cX7_whatIs 21 = .ok (.bipush (-2), 2) := by decide +kernel
theorem dX7_whatIs_23 : decode cX7_whatIs 23 = .ok (.goto 4, 3) := by decide +kernel
theorem dX7_whatIs_26 : decode cX7_whatIs 26 = .ok (.iconst 0, 1) := by decide +kernel
theorem dX7_whatIs_27 : decode cX7_whatIs 27 = .ok (.istore_n 3, 1) := by decide +kernel
theorem dX7_whatIs_28 : decode cX7_whatIs 28 = .ok (.iload_n 3, 1) := by decide +kernel
theorem dX7_whatIs_29 : decode cX7_whatIs 29 = .ok (.ifCond .eq 9, 3) := by decide +kernel
theorem dX7_whatIs_32 : decode cX7_whatIs 32 = .ok (.aload_n 0, 1) := by decide +kernel
theorem dX7_whatIs_33 : decode cX7_whatIs 33 = .ok (.iload_n 3, 1) := by decide +kernel
theorem dX7_whatIs_34 : decode cX7_whatIs 34 = .ok (.invokevirtual 89, 3) := by decide +kernel
theorem dX7_whatIs_37 : decode cX7_whatIs 37 = .ok (.ireturn, 1) := by decide +kernel
theorem dX7_whatIs_38 : decode cX7_whatIs 38 = .ok (.iload_n 2, 1) := by decide +kernel
theorem dX7_whatIs_39 : decode cX7_whatIs 39 = .ok (.ifCond .ne 17, 3) := by decide +kernel
theorem dX7_whatIs_42 : decode cX7_whatIs 42 = .ok (.aload_n 0, 1) := by decide +kernel
theorem dX7_whatIs_43 : decode cX7_whatIs 43 = .ok (.aload_n 0, 1) := by decide +kernel
theorem dX7_whatIs_44 : decode cX7_whatIs 44 = .ok (.getfield 13, 3) := by decide +kernel
theorem dX7_whatIs_47 : decode cX7_whatIs 47 = .ok (.iload_n 1, 1) := by decide +kernel
theorem dX7_whatIs_48 : decode cX7_whatIs 48 = .ok (.bipush 6, 2) := by decide +kernel
theorem dX7_whatIs_50 : decode cX7_whatIs 50 = .ok (.invokevirtual 303, 3) := by decide +kernel
theorem dX7_whatIs_53 : decode cX7_whatIs 53 = .ok (.goto 14, 3) := by decide +kernel
theorem dX7_whatIs_56 : decode cX7_whatIs 56 = .ok (.aload_n 0, 1) := by decide +kernel
theorem dX7_whatIs_57 : decode cX7_whatIs 57 = .ok (.aload_n 0, 1) := by decide +kernel
theorem dX7_whatIs_58 : decode cX7_whatIs 58 = .ok (.getfield 16, 3) := by decide +kernel
theorem dX7_whatIs_61 : decode cX7_whatIs 61 = .ok (.iload_n 1, 1) := by decide +kernel
theorem dX7_whatIs_62 : decode cX7_whatIs 62 = .ok (.bipush 10, 2) := by decide +kernel
theorem dX7_whatIs_64 : decode cX7_whatIs 64 = .ok (.invokevirtual 303, 3) := by decide +kernel
theorem dX7_whatIs_67 : decode cX7_whatIs 67 = .ok (.ireturn, 1) := by decide +kernel
theorem dX7_row_0 : decode cX7_row 0 = .ok (.iload_n 1, 1) := by decide +kernel
theorem dX7_row_1 : decode cX7_row 1 = .ok (.iconst 0, 1) := by decide +kernel
theorem dX7_row_2 : decode cX7_row 2 = .ok (.bipush 99, 2) := by decide +kernel
theorem dX7_row_4 : decode cX7_row 4 = .ok (.invokestatic 82, 3) := by decide +kernel
theorem dX7_row_7 : decode cX7_row 7 = .ok (.istore_n 2, 1) := by decide +kernel
theorem dX7_row_8 : decode cX7_row 8 = .ok (.iload_n 2, 1) := by decide +kernel
theorem dX7_row_9 : decode cX7_row 9 = .ok (.ifCond .ne 15, 3) := by decide +kernel
theorem dX7_row_12 : decode cX7_row 12 = .ok (.aload_n 0, 1) := by decide +kernel
theorem dX7_row_13 : decode cX7_row 13 = .ok (.getfield 297, 3) := by decide +kernel
theorem dX7_row_16 : decode cX7_row 16 = .ok (.bipush 16, 2) := by decide +kernel
theorem dX7_row_18 : decode cX7_row 18 = .ok (.if_icmp .ne 6, 3) := by decide +kernel
theorem dX7_row_21 : decode cX7_row 21 = .ok (.bipush (-6), 2) := by decide +kernel
theorem dX7_row_23 : decode cX7_row 23 = .ok (.istore_n 2, 1) := by decide +kernel
theorem dX7_row_24 : decode cX7_row 24 = .ok (.iload_n 2, 1) := by decide +kernel
theorem dX7_row_25 : decode cX7_row 25 = .ok (.ifCond .eq 9, 3) := by decide +kernel
theorem dX7_row_28 : decode cX7_row 28 = .ok (.aload_n 0, 1) := by decide +kernel
theorem dX7_row_29 : decode cX7_row 29 = .ok (.iload_n 2, 1) := by decide +kernel
theorem dX7_row_30 : decode cX7_row 30 = .ok (.invokevirtual 89, 3) := by decide +kernel
theorem dX7_row_33 : decode cX7_row 33 = .ok (.ireturn, 1) := by decide +kernel
theorem dX7_row_34 : decode cX7_row 34 = .ok (.aload_n 0, 1) := by decide +kernel
theorem dX7_row_35 : decode cX7_row 35 = .ok (.getfield 62, 3) := by decide +kernel
theorem dX7_row_38 : decode cX7_row 38 = .ok (.aload_n 0, 1) := by decide +kernel
theorem dX7_row_39 : decode cX7_row 39 = .ok (.getfield 297, 3) := by decide +kernel
theorem dX7_row_42 : decode cX7_row 42 = .ok (.iload_n 1, 1) := by decide +kernel
theorem dX7_row_43 : decode cX7_row 43 = .ok (.iastore, 1) := by decide +kernel
theorem dX7_row_44 : decode cX7_row 44 = .ok (.aload_n 0, 1) := by decide +kernel
theorem dX7_row_45 : decode cX7_row 45 = .ok (.dup, 1) := by decide +kernel
theorem dX7_row_46 : decode cX7_row 46 = .ok (.getfield 297, 3) := by decide +kernel
theorem dX7_row_49 : decode cX7_row 49 = .ok (.iconst 1, 1) := by decide +kernel
theorem dX7_row_50 : decode cX7_row 50 = .ok (.iadd, 1) := by decide +kernel
theorem dX7_row_51 : decode cX7_row 51 = .ok (.putfield 297, 3) := by decide +kernel
theorem dX7_row_54 : decode cX7_row 54 = .ok (.aload_n 0, 1) := by decide +kernel
theorem dX7_row_55 : decode cX7_row 55 = .ok (.getfield 297, 3) := by decide +kernel
theorem dX7_row_58 : decode cX7_row 58 = .ok (.ireturn, 1) := by decide +kernel
theorem dX7_judge_0 : decode cX7_judge 0 = .ok (.aload_n 0, 1) := by decide +kernel
theorem dX7_judge_1 : decode cX7_judge 1 = .ok (.getfield 297, 3) := by decide +kernel
theorem dX7_judge_4 : decode cX7_judge 4 = .ok (.istore_n 1, 1) := by decide +kernel
theorem dX7_judge_5 : decode cX7_judge 5 = .ok (.aload_n 0, 1) := by decide +kernel
theorem dX7_judge_6 : decode cX7_judge 6 = .ok (.iconst 0, 1) := by decide +kernel
theorem dX7_judge_7 : decode cX7_judge 7 = .ok (.putfield 297, 3) := by decide +kernel
theorem dX7_judge_10 : decode cX7_judge 10 = .ok (.iconst 0, 1) := by decide +kernel
theorem dX7_judge_11 : decode cX7_judge 11 = .ok (.istore_n 2, 1) := by decide +kernel
theorem dX7_judge_12 : decode cX7_judge 12 = .ok (.iload_n 2, 1) := by decide +kernel
theorem dX7_judge_13 : decode cX7_judge 13 = .ok (.iload_n 1, 1) := by decide +kernel
theorem dX7_judge_14 : decode cX7_judge 14 = .ok (.if_icmp .ge 34, 3) := by decide +kernel
theorem dX7_judge_17 : decode cX7_judge 17 = .ok (.iload_n 2, 1) := by decide +kernel
theorem dX7_judge_18 : decode cX7_judge 18 = .ok (.aload_n 0, 1) := by decide +kernel
theorem dX7_judge_19 : decode cX7_judge 19 = .ok (.getfield 65, 3) := by decide +kernel
theorem dX7_judge_22 : decode cX7_judge 22 = .ok (.if_icmp .ge 18, 3) := by decide +kernel
theorem dX7_judge_25 : decode cX7_judge 25 = .ok (.aload_n 0, 1) := by decide +kernel
theorem dX7_judge_26 : decode cX7_judge 26 = .ok (.getfield 19, 3) := by decide +kernel
theorem dX7_judge_29 : decode cX7_judge 29 = .ok (.iload_n 2, 1) := by decide +kernel
theorem dX7_judge_30 : decode cX7_judge 30 = .ok (.iaload, 1) := by decide +kernel
theorem dX7_judge_31 : decode cX7_judge 31 = .ok (.aload_n 0, 1) := by decide +kernel
theorem dX7_judge_32 : decode cX7_judge 32 = .ok (.getfield 62, 3) := by decide +kernel
theorem dX7_judge_35 : decode cX7_judge 35 = .ok (.iload_n 2, 1) := by decide +kernel
theorem dX7_judge_36 : decode cX7_judge 36 = .ok (.iaload, 1) := by decide +kernel
theorem dX7_judge_37 : decode cX7_judge 37 = .ok (.if_icmp .eq 5, 3) := by decide +kernel
theorem dX7_judge_40 : decode cX7_judge 40 = .ok (.iload_n 2, 1) := by decide +kernel
theorem dX7_judge_41 : decode cX7_judge 41 = .ok (.ireturn, 1) := by decide +kernel
theorem dX7_judge_42 : decode cX7_judge 42 = .ok (.iinc 2 1, 3) := by decide +kernel
theorem dX7_judge_45 : decode cX7_judge 45 = .ok (.goto (-33), 3) := by decide +kernel
theorem dX7_judge_48 : decode cX7_judge 48 = .ok (.bipush (-9), 2) := by decide +kernel
theorem dX7_judge_50 : decode cX7_judge 50 = .ok (.ireturn, 1) := by decide +kernel
theorem dX7_clear_0 : decode cX7_clear 0 = .ok (.aload_n 0, 1) := by decide +kernel
theorem dX7_clear_1 : decode cX7_clear 1 = .ok (.getfield 297, 3) := by decide +kernel
theorem dX7_clear_4 : decode cX7_clear 4 = .ok (.istore_n 1, 1) := by decide +kernel
theorem dX7_clear_5 : decode cX7_clear 5 = .ok (.aload_n 0, 1) := by decide +kernel
theorem dX7_clear_6 : decode cX7_clear 6 = .ok (.iconst 0, 1) := by decide +kernel
theorem dX7_clear_7 : decode cX7_clear 7 = .ok (.putfield 297, 3) := by decide +kernel
theorem dX7_clear_10 : decode cX7_clear 10 = .ok (.iload_n 1, 1) := by decide +kernel
theorem dX7_clear_11 : decode cX7_clear 11 = .ok (.ireturn, 1) := by decide +kernel
theorem dX7_draw_0 : decode cX7_draw 0 = .ok (.aload_n 0, 1) := by decide +kernel
theorem dX7_draw_1 : decode cX7_draw 1 = .ok (.aload_n 0, 1) := by decide +kernel
theorem dX7_draw_2 : decode cX7_draw 2 = .ok (.getfield 307, 3) := by decide +kernel
theorem dX7_draw_5 : decode cX7_draw 5 = .ok (.ldc_w 310, 3) := by decide +kernel
theorem dX7_draw_8 : decode cX7_draw 8 = .ok (.imul, 1) := by decide +kernel
theorem dX7_draw_9 : decode cX7_draw 9 = .ok (.ldc_w 311, 3) := by decide +kernel
theorem dX7_draw_12 : decode cX7_draw 12 = .ok (.iadd, 1) := by decide +kernel
theorem dX7_draw_13 : decode cX7_draw 13 = .ok (.putfield 307, 3) := by decide +kernel
theorem dX7_draw_16 : decode cX7_draw 16 = .ok (.aload_n 0, 1) := by decide +kernel
theorem dX7_draw_17 : decode cX7_draw 17 = .ok (.getfield 307, 3) := by decide +kernel
theorem dX7_draw_20 : decode cX7_draw 20 = .ok (.ldc_w 312, 3) := by decide +kernel
theorem dX7_draw_23 : decode cX7_draw 23 = .ok (.iand, 1) := by decide +kernel
theorem dX7_draw_24 : decode cX7_draw 24 = .ok (.sipush 256, 3) := by decide +kernel
theorem dX7_draw_27 : decode cX7_draw 27 = .ok (.idiv, 1) := by decide +kernel
theorem dX7_draw_28 : decode cX7_draw 28 = .ok (.iload_n 1, 1) := by decide +kernel
theorem dX7_draw_29 : decode cX7_draw 29 = .ok (.irem, 1) := by decide +kernel
theorem dX7_draw_30 : decode cX7_draw 30 = .ok (.ireturn, 1) := by decide +kernel
theorem dX7_lots_0 : decode cX7_lots 0 = .ok (.iload_n 1, 1) := by decide +kernel
theorem dX7_lots_1 : decode cX7_lots 1 = .ok (.iconst 1, 1) := by decide +kernel
theorem dX7_lots_2 : decode cX7_lots 2 = .ok (.bipush 20, 2) := by decide +kernel
theorem dX7_lots_4 : decode cX7_lots 4 = .ok (.invokestatic 82, 3) := by decide +kernel
theorem dX7_lots_7 : decode cX7_lots 7 = .ok (.istore 4, 2) := by decide +kernel
theorem dX7_lots_9 : decode cX7_lots 9 = .ok (.iload 4, 2) := by decide +kernel
theorem dX7_lots_11 : decode cX7_lots 11 = .ok (.ifCond .ne 16, 3) := by decide +kernel
theorem dX7_lots_14 : decode cX7_lots 14 = .ok (.iload_n 3, 1) := by decide +kernel
theorem dX7_lots_15 : decode cX7_lots 15 = .ok (.iconst 0, 1) := by decide +kernel
theorem dX7_lots_16 : decode cX7_lots 16 = .ok (.iconst 1, 1) := by decide +kernel
theorem dX7_lots_17 : decode cX7_lots 17 = .ok (.invokestatic 100, 3) := by decide +kernel
theorem dX7_lots_20 : decode cX7_lots 20 = .ok (.ifCond .ne 7, 3) := by decide +kernel
theorem dX7_lots_23 : decode cX7_lots 23 = .ok (.bipush (-2), 2) := by decide +kernel
theorem dX7_lots_25 : decode cX7_lots 25 = .ok (.istore 4, 2) := by decide +kernel
theorem dX7_lots_27 : decode cX7_lots 27 = .ok (.iload 4, 2) := by decide +kernel
theorem dX7_lots_29 : decode cX7_lots 29 = .ok (.ifCond .eq 10, 3) := by decide +kernel
theorem dX7_lots_32 : decode cX7_lots 32 = .ok (.aload_n 0, 1) := by decide +kernel
theorem dX7_lots_33 : decode cX7_lots 33 = .ok (.iload 4, 2) := by decide +kernel
theorem dX7_lots_35 : decode cX7_lots 35 = .ok (.invokevirtual 89, 3) := by decide +kernel
theorem dX7_lots_38 : decode cX7_lots 38 = .ok (.ireturn, 1) := by decide +kernel
theorem dX7_lots_39 : decode cX7_lots 39 = .ok (.aload_n 0, 1) := by decide +kernel
theorem dX7_lots_40 : decode cX7_lots 40 = .ok (.iload_n 2, 1) := by decide +kernel
theorem dX7_lots_41 : decode cX7_lots 41 = .ok (.putfield 307, 3) := by decide +kernel
theorem dX7_lots_44 : decode cX7_lots 44 = .ok (.iconst 0, 1) := by decide +kernel
theorem dX7_lots_45 : decode cX7_lots 45 = .ok (.istore 5, 2) := by decide +kernel
theorem dX7_lots_47 : decode cX7_lots 47 = .ok (.iconst 0, 1) := by decide +kernel
theorem dX7_lots_48 : decode cX7_lots 48 = .ok (.istore 6, 2) := by decide +kernel
theorem dX7_lots_50 : decode cX7_lots 50 = .ok (.iload 6, 2) := by decide +kernel
theorem dX7_lots_52 : decode cX7_lots 52 = .ok (.iload_n 1, 1) := by decide +kernel
theorem dX7_lots_53 : decode cX7_lots 53 = .ok (.if_icmp .ge 131, 3) := by decide +kernel
theorem dX7_lots_56 : decode cX7_lots 56 = .ok (.aload_n 0, 1) := by decide +kernel
theorem dX7_lots_57 : decode cX7_lots 57 = .ok (.invokevirtual 190, 3) := by decide +kernel
theorem dX7_lots_60 : decode cX7_lots 60 = .ok (.iconst 0, 1) := by decide +kernel
theorem dX7_lots_61 : decode cX7_lots 61 = .ok (.istore 7, 2) := by decide +kernel
theorem dX7_lots_63 : decode cX7_lots 63 = .ok (.iload 7, 2) := by decide +kernel
theorem dX7_lots_65 : decode cX7_lots 65 = .ok (.aload_n 0, 1) := by decide +kernel
theorem dX7_lots_66 : decode cX7_lots 66 = .ok (.getfield 65, 3) := by decide +kernel
theorem dX7_lots_69 : decode cX7_lots 69 = .ok (.if_icmp .ge 79, 3) := by decide +kernel
theorem dX7_lots_72 : decode cX7_lots 72 = .ok (.iload 7, 2) := by decide +kernel
theorem dX7_lots_74 : decode cX7_lots 74 = .ok (.iconst 1, 1) := by decide +kernel
theorem dX7_lots_75 : decode cX7_lots 75 = .ok (.iadd, 1) := by decide +kernel
theorem dX7_lots_76 : decode cX7_lots 76 = .ok (.istore 8, 2) := by decide +kernel
theorem dX7_lots_78 : decode cX7_lots 78 = .ok (.iload 8, 2) := by decide +kernel
theorem dX7_lots_80 : decode cX7_lots 80 = .ok (.aload_n 0, 1) := by decide +kernel
theorem dX7_lots_81 : decode cX7_lots 81 = .ok (.getfield 65, 3) := by decide +kernel
theorem dX7_lots_84 : decode cX7_lots 84 = .ok (.if_icmp .ge 58, 3) := by decide +kernel
theorem dX7_lots_87 : decode cX7_lots 87 = .ok (.aload_n 0, 1) := by decide +kernel
theorem dX7_lots_88 : decode cX7_lots 88 = .ok (.iconst 2, 1) := by decide +kernel
theorem dX7_lots_89 : decode cX7_lots 89 = .ok (.invokevirtual 313, 3) := by decide +kernel
theorem dX7_lots_92 : decode cX7_lots 92 = .ok (.istore 9, 2) := by decide +kernel
theorem dX7_lots_94 : decode cX7_lots 94 = .ok (.aload_n 0, 1) := by decide +kernel
theorem dX7_lots_95 : decode cX7_lots 95 = .ok (.getfield 22, 3) := by decide +kernel
theorem dX7_lots_98 : decode cX7_lots 98 = .ok (.iload 7, 2) := by decide +kernel
theorem dX7_lots_100 : decode cX7_lots 100 = .ok (.aload_n 0, 1) := by decide +kernel
theorem dX7_lots_101 : decode cX7_lots 101 = .ok (.getfield 22, 3) := by decide +kernel
theorem dX7_lots_104 : decode cX7_lots 104 = .ok (.iload 7, 2) := by decide +kernel
theorem dX7_lots_106 : decode cX7_lots 106 = .ok (.iaload, 1) := by decide +kernel
theorem dX7_lots_107 : decode cX7_lots 107 = .ok (.iload 8, 2) := by decide +kernel
theorem dX7_lots_109 : decode cX7_lots 109 = .ok (.iload 9, 2) := by decide +kernel
theorem dX7_lots_111 : decode cX7_lots 111 = .ok (.invokestatic 291, 3) := by decide +kernel
theorem dX7_lots_114 : decode cX7_lots 114 = .ok (.iastore, 1) := by decide +kernel
theorem dX7_lots_115 : decode cX7_lots 115 = .ok (.aload_n 0, 1) := by decide +kernel
theorem dX7_lots_116 : decode cX7_lots 116 = .ok (.getfield 22, 3) := by decide +kernel
theorem dX7_lots_119 : decode cX7_lots 119 = .ok (.iload 8, 2) := by decide +kernel
theorem dX7_lots_121 : decode cX7_lots 121 = .ok (.aload_n 0, 1) := by decide +kernel
theorem dX7_lots_122 : decode cX7_lots 122 = .ok (.getfield 22, 3) := by decide +kernel
theorem dX7_lots_125 : decode cX7_lots 125 = .ok (.iload 8, 2) := by decide +kernel
theorem dX7_lots_127 : decode cX7_lots 127 = .ok (.iaload, 1) := by decide +kernel
theorem dX7_lots_128 : decode cX7_lots 128 = .ok (.iload 7, 2) := by decide +kernel
theorem dX7_lots_130 : decode cX7_lots 130 = .ok (.iload 9, 2) := by decide +kernel
theorem dX7_lots_132 : decode cX7_lots 132 = .ok (.invokestatic 291, 3) := by decide +kernel
theorem dX7_lots_135 : decode cX7_lots 135 = .ok (.iastore, 1) := by decide +kernel
theorem dX7_lots_136 : decode cX7_lots 136 = .ok (.iinc 8 1, 3) := by decide +kernel
theorem dX7_lots_139 : decode cX7_lots 139 = .ok (.goto (-61), 3) := by decide +kernel
theorem dX7_lots_142 : decode cX7_lots 142 = .ok (.iinc 7 1, 3) := by decide +kernel
theorem dX7_lots_145 : decode cX7_lots 145 = .ok (.goto (-82), 3) := by decide +kernel
theorem dX7_lots_148 : decode cX7_lots 148 = .ok (.aload_n 0, 1) := by decide +kernel
theorem dX7_lots_149 : decode cX7_lots 149 = .ok (.bipush 10, 2) := by decide +kernel
theorem dX7_lots_151 : decode cX7_lots 151 = .ok (.invokevirtual 129, 3) := by decide +kernel
theorem dX7_lots_154 : decode cX7_lots 154 = .ok (.iload 5, 2) := by decide +kernel
theorem dX7_lots_156 : decode cX7_lots 156 = .ok (.iload_n 3, 1) := by decide +kernel
theorem dX7_lots_157 : decode cX7_lots 157 = .ok (.ifCond .ne 10, 3) := by decide +kernel
theorem dX7_lots_160 : decode cX7_lots 160 = .ok (.aload_n 0, 1) := by decide +kernel
theorem dX7_lots_161 : decode cX7_lots 161 = .ok (.invokevirtual 187, 3) := by decide +kernel
theorem dX7_lots_164 : decode cX7_lots 164 = .ok (.goto 7, 3) := by decide +kernel
theorem dX7_lots_167 : decode cX7_lots 167 = .ok (.aload_n 0, 1) := by decide +kernel
theorem dX7_lots_168 : decode cX7_lots 168 = .ok (.invokevirtual 276, 3) := by decide +kernel
theorem dX7_lots_171 : decode cX7_lots 171 = .ok (.iadd, 1) := by decide +kernel
theorem dX7_lots_172 : decode cX7_lots 172 = .ok (.istore 5, 2) := by decide +kernel
theorem dX7_lots_174 : decode cX7_lots 174 = .ok (.aload_n 0, 1) := by decide +kernel
theorem dX7_lots_175 : decode cX7_lots 175 = .ok (.invokevirtual 193, 3) := by decide +kernel
theorem dX7_lots_178 : decode cX7_lots 178 = .ok (.iinc 6 1, 3) := by decide +kernel
theorem dX7_lots_181 : decode cX7_lots 181 = .ok (.goto (-131), 3) := by decide +kernel
theorem dX7_lots_184 : decode cX7_lots 184 = .ok (.iload 5, 2) := by decide +kernel
theorem dX7_lots_186 : decode cX7_lots 186 = .ok (.ireturn, 1) := by decide +kernel
theorem dX7_count_0 : decode cX7_count 0 = .ok (.iload_n 1, 1) := by decide +kernel
theorem dX7_count_1 : decode cX7_count 1 = .ok (.bipush 11, 2) := by decide +kernel
theorem dX7_count_3 : decode cX7_count 3 = .ok (.bipush 16, 2) := by decide +kernel
theorem dX7_count_5 : decode cX7_count 5 = .ok (.invokestatic 100, 3) := by decide +kernel
theorem dX7_count_8 : decode cX7_count 8 = .ok (.ifCond .eq 13, 3) := by decide +kernel
theorem dX7_count_11 : decode cX7_count 11 = .ok (.aload_n 0, 1) := by decide +kernel
theorem dX7_count_12 : decode cX7_count 12 = .ok (.getfield 7, 3) := by decide +kernel
theorem dX7_count_15 : decode cX7_count 15 = .ok (.iload_n 1, 1) := by decide +kernel
theorem dX7_count_16 : decode cX7_count 16 = .ok (.bipush 10, 2) := by decide +kernel
theorem dX7_count_18 : decode cX7_count 18 = .ok (.isub, 1) := by decide +kernel
theorem dX7_count_19 : decode cX7_count 19 = .ok (.iaload, 1) := by decide +kernel
theorem dX7_count_20 : decode cX7_count 20 = .ok (.ireturn, 1) := by decide +kernel
theorem dX7_count_21 : decode cX7_count 21 = .ok (.iconst 0, 1) := by decide +kernel
theorem dX7_count_22 : decode cX7_count 22 = .ok (.istore_n 2, 1) := by decide +kernel
theorem dX7_count_23 : decode cX7_count 23 = .ok (.iload_n 1, 1) := by decide +kernel
theorem dX7_count_24 : decode cX7_count 24 = .ok (.tableswitch 140 0 7 #[48, 53, 58, 63, 93, 125, 130, 135], 48) := by decide +kernel
theorem dX7_count_72 : decode cX7_count 72 = .ok (.aload_n 0, 1) := by decide +kernel
theorem dX7_count_73 : decode cX7_count 73 = .ok (.getfield 65, 3) := by decide +kernel
theorem dX7_count_76 : decode cX7_count 76 = .ok (.ireturn, 1) := by decide +kernel
theorem dX7_count_77 : decode cX7_count 77 = .ok (.aload_n 0, 1) := by decide +kernel
theorem dX7_count_78 : decode cX7_count 78 = .ok (.getfield 126, 3) := by decide +kernel
theorem dX7_count_81 : decode cX7_count 81 = .ok (.ireturn, 1) := by decide +kernel
theorem dX7_count_82 : decode cX7_count 82 = .ok (.aload_n 0, 1) := by decide +kernel
theorem dX7_count_83 : decode cX7_count 83 = .ok (.invokevirtual 187, 3) := by decide +kernel
theorem dX7_count_86 : decode cX7_count 86 = .ok (.ireturn, 1) := by decide +kernel
theorem dX7_count_87 : decode cX7_count 87 = .ok (.iconst 0, 1) := by decide +kernel
theorem dX7_count_88 : decode cX7_count 88 = .ok (.istore_n 3, 1) := by decide +kernel
theorem dX7_count_89 : decode cX7_count 89 = .ok (.iload_n 3, 1) := by decide +kernel
theorem dX7_count_90 : decode cX7_count 90 = .ok (.aload_n 0, 1) := by decide +kernel
theorem dX7_count_91 : decode cX7_count 91 = .ok (.getfield 65, 3) := by decide +kernel
theorem dX7_count_94 : decode cX7_count 94 = .ok (.if_icmp .ge 21, 3) := by decide +kernel
theorem dX7_count_97 : decode cX7_count 97 = .ok (.iload_n 2, 1) := by decide +kernel
theorem dX7_count_98 : decode cX7_count 98 = .ok (.aload_n 0, 1) := by decide +kernel
theorem dX7_count_99 : decode cX7_count 99 = .ok (.getfield 22, 3) := by decide +kernel
theorem dX7_count_102 : decode cX7_count 102 = .ok (.iload_n 3, 1) := by decide +kernel
theorem dX7_count_103 : decode cX7_count 103 = .ok (.iaload, 1) := by decide +kernel
theorem dX7_count_104 : decode cX7_count 104 = .ok (.invokestatic 184, 3) := by decide +kernel
theorem dX7_count_107 : decode cX7_count 107 = .ok (.iadd, 1) := by decide +kernel
theorem dX7_count_108 : decode cX7_count 108 = .ok (.istore_n 2, 1) := by decide +kernel
theorem dX7_count_109 : decode cX7_count 109 = .ok (.iinc 3 1, 3) := by decide +kernel
theorem dX7_count_112 : decode cX7_count 112 = .ok (.goto (-23), 3) := by decide +kernel
theorem dX7_count_115 : decode cX7_count 115 = .ok (.iload_n 2, 1) := by decide +kernel
theorem dX7_count_116 : decode cX7_count 116 = .ok (.ireturn, 1) := by decide +kernel
theorem dX7_count_117 : decode cX7_count 117 = .ok (.iconst 0, 1) := by decide +kernel
theorem dX7_count_118 : decode cX7_count 118 = .ok (.istore_n 3, 1) := by decide +kernel
theorem dX7_count_119 : decode cX7_count 119 = .ok (.iload_n 3, 1) := by decide +kernel
theorem dX7_count_120 : decode cX7_count 120 = .ok (.aload_n 0, 1) := by decide +kernel
theorem dX7_count_121 : decode cX7_count 121 = .ok (.getfield 65, 3) := by decide +kernel
theorem dX7_count_124 : decode cX7_count 124 = .ok (.if_icmp .ge 21, 3) := by decide +kernel
theorem dX7_count_127 : decode cX7_count 127 = .ok (.iload_n 2, 1) := by decide +kernel
theorem dX7_count_128 : decode cX7_count 128 = .ok (.aload_n 0, 1) := by decide +kernel
theorem dX7_count_129 : decode cX7_count 129 = .ok (.getfield 25, 3) := by decide +kernel
theorem dX7_count_132 : decode cX7_count 132 = .ok (.iload_n 3, 1) := by decide +kernel
theorem dX7_count_133 : decode cX7_count 133 = .ok (.iaload, 1) := by decide +kernel
theorem dX7_count_134 : decode cX7_count 134 = .ok (.invokestatic 184, 3) := by decide +kernel
theorem dX7_count_137 : decode cX7_count 137 = .ok (.iadd, 1) := by decide +kernel
theorem dX7_count_138 : decode cX7_count 138 = .ok (.istore_n 2, 1) := by decide +kernel
theorem dX7_count_139 : decode cX7_count 139 = .ok (.iinc 3 1, 3) := by decide +kernel
theorem dX7_count_142 : decode cX7_count 142 = .ok (.goto (-23), 3) := by decide +kernel
theorem dX7_count_145 : decode cX7_count 145 = .ok (.iload_n 2, 1) := by decide +kernel
theorem dX7_count_146 : decode cX7_count 146 = .ok (.iconst 2, 1) := by decide +kernel
theorem dX7_count_147 : decode cX7_count 147 = .ok (.idiv, 1) := by decide +kernel
theorem dX7_count_148 : decode cX7_count 148 = .ok (.ireturn, 1) := by decide +kernel
theorem dX7_count_149 : decode cX7_count 149 = .ok (.aload_n 0, 1) := by decide +kernel
theorem dX7_count_150 : decode cX7_count 150 = .ok (.invokevirtual 276, 3) := by decide +kernel
theorem dX7_count_153 : decode cX7_count 153 = .ok (.ireturn, 1) := by decide +kernel
theorem dX7_count_154 : decode cX7_count 154 = .ok (.aload_n 0, 1) := by decide +kernel
theorem dX7_count_155 : decode cX7_count 155 = .ok (.getfield 297, 3) := by decide +kernel
theorem dX7_count_158 : decode cX7_count 158 = .ok (.ireturn, 1) := by decide +kernel
theorem dX7_count_159 : decode cX7_count 159 = .ok (.aload_n 0, 1) := by decide +kernel
theorem dX7_count_160 : decode cX7_count 160 = .ok (.getfield 86, 3) := by decide +kernel
theorem dX7_count_163 : decode cX7_count 163 = .ok (.ireturn, 1) := by decide +kernel
theorem dX7_count_164 : decode cX7_count 164 = .ok (.bipush (-9), 2) := by decide +kernel
theorem dX7_count_166 : decode cX7_count 166 = .ok (.ireturn, 1) := by decide +kernel
