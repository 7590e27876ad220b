theorem dX6_init_0 : decode cX6_init 0 = .ok (.aload_n 0, 1) := by decide +kernel
theorem dX6_init_1 : decode cX6_init 1 = .ok (.invokespecial 1, 3) := by decide +kernel
theorem dX6_init_4 : decode cX6_init 4 = .ok (.aload_n 0, 1) := by decide +kernel
theorem dX6_init_5 : decode cX6_init 5 = .ok (.new 7, 3) := by decide +kernel
theorem dX6_init_8 : decode cX6_init 8 = .ok (.dup, 1) := by decide +kernel
theorem dX6_init_9 : decode cX6_init 9 = .ok (.invokespecial 9, 3) := by decide +kernel
theorem dX6_init_12 : decode cX6_init 12 = .ok (.putfield 10, 3) := by decide +kernel
theorem dX6_init_15 : decode cX6_init 15 = .ok (.aload_n 0, 1) := by decide +kernel
theorem dX6_init_16 : decode cX6_init 16 = .ok (.new 7, 3) := by decide +kernel
theorem dX6_init_19 : decode cX6_init 19 = .ok (.dup, 1) := by decide +kernel
theorem dX6_init_20 : decode cX6_init 20 = .ok (.invokespecial 9, 3) := by decide +kernel
theorem dX6_init_23 : decode cX6_init 23 = .ok (.putfield 16, 3) := by decide +kernel
theorem dX6_init_26 : decode cX6_init 26 = .ok (.aload_n 0, 1) := by decide +kernel
theorem dX6_init_27 : decode cX6_init 27 = .ok (.new 7, 3) := by decide +kernel
theorem dX6_init_30 : decode cX6_init 30 = .ok (.dup, 1) := by decide +kernel
theorem dX6_init_31 : decode cX6_init 31 = .ok (.invokespecial 9, 3) := by decide +kernel
theorem dX6_init_34 : decode cX6_init 34 = .ok (.putfield 19, 3) := by decide +kernel
theorem dX6_init_37 : decode cX6_init 37 = .ok (.aload_n 0, 1) := by decide +kernel
theorem dX6_init_38 : decode cX6_init 38 = .ok (.new 7, 3) := by decide +kernel
theorem dX6_init_41 : decode cX6_init 41 = .ok (.dup, 1) := by decide +kernel
theorem dX6_init_42 : decode cX6_init 42 = .ok (.invokespecial 9, 3) := by decide +kernel
theorem dX6_init_45 : decode cX6_init 45 = .ok (.putfield 22, 3) := by decide +kernel
theorem dX6_init_48 : decode cX6_init 48 = .ok (.aload_n 0, 1) := by decide +kernel
theorem dX6_init_49 : decode cX6_init 49 = .ok (.new 25, 3) := by decide +kernel
theorem dX6_init_52 : decode cX6_init 52 = .ok (.dup, 1) := by decide +kernel
theorem dX6_init_53 : decode cX6_init 53 = .ok (.invokespecial 27, 3) := by decide +kernel
theorem dX6_init_56 : decode cX6_init 56 = .ok (.putfield 28, 3) := by decide +kernel
theorem dX6_init_59 : decode cX6_init 59 = .ok (.aload_n 0, 1) := by decide +kernel
theorem dX6_init_60 : decode cX6_init 60 = .ok (.bipush 16, 2) := by decide +kernel
theorem dX6_init_62 : decode cX6_init 62 = .ok (.newarray .int, 2) := by decide +kernel
theorem dX6_init_64 : decode cX6_init 64 = .ok (.putfield 32, 3) := by decide +kernel
theorem dX6_init_67 : decode cX6_init 67 = .ok (.aload_n 0, 1) := by decide +kernel
theorem dX6_init_68 : decode cX6_init 68 = .ok (.bipush 7, 2) := by decide +kernel
theorem dX6_init_70 : decode cX6_init 70 = .ok (.newarray .int, 2) := by decide +kernel
theorem dX6_init_72 : decode cX6_init 72 = .ok (.putfield 36, 3) := by decide +kernel
theorem dX6_init_75 : decode cX6_init 75 = .ok (.aload_n 0, 1) := by decide +kernel
theorem dX6_init_76 : decode cX6_init 76 = .ok (.new 39, 3) := by decide +kernel
theorem dX6_init_79 : decode cX6_init 79 = .ok (.dup, 1) := by decide +kernel
theorem dX6_init_80 : decode cX6_init 80 = .ok (.invokespecial 41, 3) := by decide +kernel
theorem dX6_init_83 : decode cX6_init 83 = .ok (.putfield 42, 3) := by decide +kernel
theorem dX6_init_86 : decode cX6_init 86 = .ok (.aload_n 0, 1) := by decide +kernel
theorem dX6_init_87 : decode cX6_init 87 = .ok (.new 46, 3) := by decide +kernel
theorem dX6_init_90 : decode cX6_init 90 = .ok (.dup, 1) := by decide +kernel
theorem dX6_init_91 : decode cX6_init 91 = .ok (.invokespecial 48, 3) := by decide +kernel
theorem dX6_init_94 : decode cX6_init 94 = .ok (.putfield 49, 3) := by decide +kernel
theorem dX6_init_97 : decode cX6_init 97 = .ok (.aload_n 0, 1) := by decide +kernel
theorem dX6_init_98 : decode cX6_init 98 = .ok (.new 53, 3) := by decide +kernel
theorem dX6_init_101 : decode cX6_init 101 = .ok (.dup, 1) := by decide +kernel
theorem dX6_init_102 : decode cX6_init 102 = .ok (.invokespecial 55, 3) := by decide +kernel
theorem dX6_init_105 : decode cX6_init 105 = .ok (.putfield 56, 3) := by decide +kernel
theorem dX6_init_108 : decode cX6_init 108 = .ok (.aload_n 0, 1) := by decide +kernel
theorem dX6_init_109 : decode cX6_init 109 = .ok (.new 60, 3) := by decide +kernel
theorem dX6_init_112 : decode cX6_init 112 = .ok (.dup, 1) := by decide +kernel
theorem dX6_init_113 : decode cX6_init 113 = .ok (.invokespecial 62, 3) := by decide +kernel
theorem dX6_init_116 : decode cX6_init 116 = .ok (.putfield 63, 3) := by decide +kernel
theorem dX6_init_119 : decode cX6_init 119 = .ok (.aload_n 0, 1) := by decide +kernel
theorem dX6_init_120 : decode cX6_init 120 = .ok (.iconst 4, 1) := by decide +kernel
theorem dX6_init_121 : decode cX6_init 121 = .ok (.newarray .int, 2) := by decide +kernel
theorem dX6_init_123 : decode cX6_init 123 = .ok (.putfield 67, 3) := by decide +kernel
theorem dX6_init_126 : decode cX6_init 126 = .ok (.aload_n 0, 1) := by decide +kernel
theorem dX6_init_127 : decode cX6_init 127 = .ok (.iconst 4, 1) := by decide +kernel
theorem dX6_init_128 : decode cX6_init 128 = .ok (.newarray .int, 2) := by decide +kernel
theorem dX6_init_130 : decode cX6_init 130 = .ok (.putfield 70, 3) := by decide +kernel
theorem dX6_init_133 : decode cX6_init 133 = .ok (.return_, 1) := by decide +kernel
theorem dX6_letter_0 : decode cX6_letter 0 = .ok (.iload_n 1, 1) := by decide +kernel
theorem dX6_letter_1 : decode cX6_letter 1 = .ok (.iconst 0, 1) := by decide +kernel
theorem dX6_letter_2 : decode cX6_letter 2 = .ok (.sipush 255, 3) := by decide +kernel
theorem dX6_letter_5 : decode cX6_letter 5 = .ok (.invokestatic 73, 3) := by decide +kernel
theorem dX6_letter_8 : decode cX6_letter 8 = .ok (.aload_n 0, 1) := by decide +kernel
theorem dX6_letter_9 : decode cX6_letter 9 = .ok (.getfield 28, 3) := by decide +kernel
theorem dX6_letter_12 : decode cX6_letter 12 = .ok (.invokevirtual 77, 3) := by decide +kernel
theorem dX6_letter_15 : decode cX6_letter 15 = .ok (.ifCond .eq 8, 3) := by decide +kernel
theorem dX6_letter_18 : decode cX6_letter 18 = .ok (.bipush (-6), 2) := by decide +kernel
theorem dX6_letter_20 : decode cX6_letter 20 = .ok (.goto 4, 3) := by decide +kernel
theorem dX6_letter_23 : decode cX6_letter 23 = .ok (.iconst 0, 1) := by decide +kernel
theorem dX6_letter_24 : decode cX6_letter 24 = .ok (.iconst 0, 1) := by decide +kernel
theorem dX6_letter_25 : decode cX6_letter 25 = .ok (.invokestatic 81, 3) := by decide +kernel
theorem dX6_letter_28 : decode cX6_letter 28 = .ok (.istore_n 2, 1) := by decide +kernel
theorem dX6_letter_29 : decode cX6_letter 29 = .ok (.iload_n 2, 1) := by decide +kernel
theorem dX6_letter_30 : decode cX6_letter 30 = .ok (.ifCond .eq 9, 3) := by decide +kernel
theorem dX6_letter_33 : decode cX6_letter 33 = .ok (.aload_n 0, 1) := by decide +kernel
theorem dX6_letter_34 : decode cX6_letter 34 = .ok (.iload_n 2, 1) := by decide +kernel
theorem dX6_letter_35 : decode cX6_letter 35 = .ok (.invokevirtual 84, 3) := by decide +kernel
theorem dX6_letter_38 : decode cX6_letter 38 = .ok (.ireturn, 1) := by decide +kernel
theorem dX6_letter_39 : decode cX6_letter 39 = .ok (.aload_n 0, 1) := by decide +kernel
theorem dX6_letter_40 : decode cX6_letter 40 = .ok (.getfield 28, 3) := by decide +kernel
theorem dX6_letter_43 : decode cX6_letter 43 = .ok (.iload_n 1, 1) := by decide +kernel
theorem dX6_letter_44 : decode cX6_letter 44 = .ok (.invokevirtual 88, 3) := by decide +kernel
theorem dX6_letter_47 : decode cX6_letter 47 = .ok (.aload_n 0, 1) := by decide +kernel
theorem dX6_letter_48 : decode cX6_letter 48 = .ok (.getfield 28, 3) := by decide +kernel
theorem dX6_letter_51 : decode cX6_letter 51 = .ok (.getfield 92, 3) := by decide +kernel
theorem dX6_letter_54 : decode cX6_letter 54 = .ok (.ireturn, 1) := by decide +kernel
theorem dX6_county_0 : decode cX6_county 0 = .ok (.aload_n 0, 1) := by decide +kernel
theorem dX6_county_1 : decode cX6_county 1 = .ok (.getfield 28, 3) := by decide +kernel
theorem dX6_county_4 : decode cX6_county 4 = .ok (.invokevirtual 96, 3) := by decide +kernel
theorem dX6_county_7 : decode cX6_county 7 = .ok (.istore_n 1, 1) := by decide +kernel
theorem dX6_county_8 : decode cX6_county 8 = .ok (.sipush (-1000), 3) := by decide +kernel
theorem dX6_county_11 : decode cX6_county 11 = .ok (.iload_n 1, 1) := by decide +kernel
theorem dX6_county_12 : decode cX6_county 12 = .ok (.isub, 1) := by decide +kernel
theorem dX6_county_13 : decode cX6_county 13 = .ok (.istore_n 2, 1) := by decide +kernel
theorem dX6_county_14 : decode cX6_county 14 = .ok (.iload_n 1, 1) := by decide +kernel
theorem dX6_county_15 : decode cX6_county 15 = .ok (.ifCond .ge 41, 3) := by decide +kernel
theorem dX6_county_18 : decode cX6_county 18 = .ok (.aload_n 0, 1) := by decide +kernel
theorem dX6_county_19 : decode cX6_county 19 = .ok (.getfield 19, 3) := by decide +kernel
theorem dX6_county_22 : decode cX6_county 22 = .ok (.aload_n 0, 1) := by decide +kernel
theorem dX6_county_23 : decode cX6_county 23 = .ok (.getfield 10, 3) := by decide +kernel
theorem dX6_county_26 : decode cX6_county 26 = .ok (.invokevirtual 100, 3) := by decide +kernel
theorem dX6_county_29 : decode cX6_county 29 = .ok (.aload_n 0, 1) := by decide +kernel
theorem dX6_county_30 : decode cX6_county 30 = .ok (.getfield 28, 3) := by decide +kernel
theorem dX6_county_33 : decode cX6_county 33 = .ok (.aload_n 0, 1) := by decide +kernel
theorem dX6_county_34 : decode cX6_county 34 = .ok (.getfield 19, 3) := by decide +kernel
theorem dX6_county_37 : decode cX6_county 37 = .ok (.invokevirtual 104, 3) := by decide +kernel
theorem dX6_county_40 : decode cX6_county 40 = .ok (.istore_n 2, 1) := by decide +kernel
theorem dX6_county_41 : decode cX6_county 41 = .ok (.iload_n 2, 1) := by decide +kernel
theorem dX6_county_42 : decode cX6_county 42 = .ok (.ifCond .lt 14, 3) := by decide +kernel
theorem dX6_county_45 : decode cX6_county 45 = .ok (.aload_n 0, 1) := by decide +kernel
theorem dX6_county_46 : decode cX6_county 46 = .ok (.getfield 10, 3) := by decide +kernel
theorem dX6_county_49 : decode cX6_county 49 = .ok (.aload_n 0, 1) := by decide +kernel
theorem dX6_county_50 : decode cX6_county 50 = .ok (.getfield 19, 3) := by decide +kernel
theorem dX6_county_53 : decode cX6_county 53 = .ok (.invokevirtual 100, 3) := by decide +kernel
theorem dX6_county_56 : decode cX6_county 56 = .ok (.aload_n 0, 1) := by decide +kernel
theorem dX6_county_57 : decode cX6_county 57 = .ok (.getfield 28, 3) := by decide +kernel
theorem dX6_county_60 : decode cX6_county 60 = .ok (.invokevirtual 108, 3) := by decide +kernel
theorem dX6_county_63 : decode cX6_county 63 = .ok (.iload_n 2, 1) := by decide +kernel
theorem dX6_county_64 : decode cX6_county 64 = .ok (.ireturn, 1) := by decide +kernel
theorem dX6_person_0 : decode cX6_person 0 = .ok (.aload_n 0, 1) := by decide +kernel
theorem dX6_person_1 : decode cX6_person 1 = .ok (.iload_n 1, 1) := by decide +kernel
theorem dX6_person_2 : decode cX6_person 2 = .ok (.invokevirtual 111, 3) := by decide +kernel
theorem dX6_person_5 : decode cX6_person 5 = .ok (.iload_n 2, 1) := by decide +kernel
theorem dX6_person_6 : decode cX6_person 6 = .ok (.iconst 4, 1) := by decide +kernel
theorem dX6_person_7 : decode cX6_person 7 = .ok (.invokestatic 114, 3) := by decide +kernel
theorem dX6_person_10 : decode cX6_person 10 = .ok (.iconst 0, 1) := by decide +kernel
theorem dX6_person_11 : decode cX6_person 11 = .ok (.invokestatic 81, 3) := by decide +kernel
theorem dX6_person_14 : decode cX6_person 14 = .ok (.istore_n 3, 1) := by decide +kernel
theorem dX6_person_15 : decode cX6_person 15 = .ok (.iload_n 3, 1) := by decide +kernel
theorem dX6_person_16 : decode cX6_person 16 = .ok (.ifCond .eq 9, 3) := by decide +kernel
theorem dX6_person_19 : decode cX6_person 19 = .ok (.aload_n 0, 1) := by decide +kernel
theorem dX6_person_20 : decode cX6_person 20 = .ok (.iload_n 3, 1) := by decide +kernel
theorem dX6_person_21 : decode cX6_person 21 = .ok (.invokevirtual 84, 3) := by decide +kernel
theorem dX6_person_24 : decode cX6_person 24 = .ok (.ireturn, 1) := by decide +kernel
theorem dX6_person_25 : decode cX6_person 25 = .ok (.iload_n 2, 1) := by decide +kernel
theorem dX6_person_26 : decode cX6_person 26 = .ok (.tableswitch 72 0 3 #[30, 40, 50, 60], 30) := by decide +kernel
theorem dX6_person_56 : decode cX6_person 56 = .ok (.aload_n 0, 1) := by decide +kernel
theorem dX6_person_57 : decode cX6_person 57 = .ok (.getfield 10, 3) := by decide +kernel
theorem dX6_person_60 : decode cX6_person 60 = .ok (.getfield 118, 3) := by decide +kernel
theorem dX6_person_63 : decode cX6_person 63 = .ok (.iload_n 1, 1) := by decide +kernel
theorem dX6_person_64 : decode cX6_person 64 = .ok (.iaload, 1) := by decide +kernel
theorem dX6_person_65 : decode cX6_person 65 = .ok (.ireturn, 1) := by decide +kernel
theorem dX6_person_66 : decode cX6_person 66 = .ok (.aload_n 0, 1) := by decide +kernel
theorem dX6_person_67 : decode cX6_person 67 = .ok (.getfield 10, 3) := by decide +kernel
theorem dX6_person_70 : decode cX6_person 70 = .ok (.getfield 121, 3) := by decide +kernel
theorem dX6_person_73 : decode cX6_person 73 = .ok (.iload_n 1, 1) := by decide +kernel
theorem dX6_person_74 : decode cX6_person 74 = .ok (.iaload, 1) := by decide +kernel
theorem dX6_person_75 : decode cX6_person 75 = .ok (.ireturn, 1) := by decide +kernel
theorem dX6_person_76 : decode cX6_person 76 = .ok (.aload_n 0, 1) := by decide +kernel
theorem dX6_person_77 : decode cX6_person 77 = .ok (.getfield 10, 3) := by decide +kernel
theorem dX6_person_80 : decode cX6_person 80 = .ok (.getfield 124, 3) := by decide +kernel
theorem dX6_person_83 : decode cX6_person 83 = .ok (.iload_n 1, 1) := by decide +kernel
theorem dX6_person_84 : decode cX6_person 84 = .ok (.iaload, 1) := by decide +kernel
theorem dX6_person_85 : decode cX6_person 85 = .ok (.ireturn, 1) := by decide +kernel
theorem dX6_person_86 : decode cX6_person 86 = .ok (.aload_n 0, 1) := by decide +kernel
theorem dX6_person_87 : decode cX6_person 87 = .ok (.getfield 10, 3) := by decide +kernel
theorem dX6_person_90 : decode cX6_person 90 = .ok (.iload_n 1, 1) := by decide +kernel
theorem dX6_person_91 : decode cX6_person 91 = .ok (.invokevirtual 127, 3) := by decide +kernel
theorem dX6_person_94 : decode cX6_person 94 = .ok (.invokestatic 130, 3) := by decide +kernel
theorem dX6_person_97 : decode cX6_person 97 = .ok (.ireturn, 1) := by decide +kernel
theorem dX6_person_98 : decode cX6_person 98 = .ok (.aload_n 0, 1) := by decide +kernel
theorem dX6_person_99 : decode cX6_person 99 = .ok (.getfield 10, 3) := by decide +kernel
theorem dX6_person_102 : decode cX6_person 102 = .ok (.getfield 135, 3) := by decide +kernel
theorem dX6_person_105 : decode cX6_person 105 = .ok (.iload_n 1, 1) := by decide +kernel
theorem dX6_person_106 : decode cX6_person 106 = .ok (.iaload, 1) := by decide +kernel
theorem dX6_person_107 : decode cX6_person 107 = .ok (.invokestatic 130, 3) := by decide +kernel
theorem dX6_person_110 : decode cX6_person 110 = .ok (.ireturn, 1) := by decide +kernel
theorem dX6_tie_0 : decode cX6_tie 0 = .ok (.aload_n 0, 1) := by decide +kernel
theorem dX6_tie_1 : decode cX6_tie 1 = .ok (.iload_n 1, 1) := by decide +kernel
theorem dX6_tie_2 : decode cX6_tie 2 = .ok (.iload_n 2, 1) := by decide +kernel
theorem dX6_tie_3 : decode cX6_tie 3 = .ok (.invokevirtual 138, 3) := by decide +kernel
theorem dX6_tie_6 : decode cX6_tie 6 = .ok (.iload_n 3, 1) := by decide +kernel
theorem dX6_tie_7 : decode cX6_tie 7 = .ok (.iconst 3, 1) := by decide +kernel
theorem dX6_tie_8 : decode cX6_tie 8 = .ok (.invokestatic 114, 3) := by decide +kernel
theorem dX6_tie_11 : decode cX6_tie 11 = .ok (.iconst 0, 1) := by decide +kernel
theorem dX6_tie_12 : decode cX6_tie 12 = .ok (.invokestatic 81, 3) := by decide +kernel
theorem dX6_tie_15 : decode cX6_tie 15 = .ok (.istore 4, 2) := by decide +kernel
theorem dX6_tie_17 : decode cX6_tie 17 = .ok (.iload 4, 2) := by decide +kernel
theorem dX6_tie_19 : decode cX6_tie 19 = .ok (.ifCond .eq 10, 3) := by decide +kernel
theorem dX6_tie_22 : decode cX6_tie 22 = .ok (.aload_n 0, 1) := by decide +kernel
theorem dX6_tie_23 : decode cX6_tie 23 = .ok (.iload 4, 2) := by decide +kernel
theorem dX6_tie_25 : decode cX6_tie 25 = .ok (.invokevirtual 84, 3) := by decide +kernel
theorem dX6_tie_28 : decode cX6_tie 28 = .ok (.ireturn, 1) := by decide +kernel
theorem dX6_tie_29 : decode cX6_tie 29 = .ok (.iload_n 3, 1) := by decide +kernel
theorem dX6_tie_30 : decode cX6_tie 30 = .ok (.tableswitch 65 0 2 #[26, 39, 52], 26) := by decide +kernel
theorem dX6_tie_56 : decode cX6_tie 56 = .ok (.aload_n 0, 1) := by decide +kernel
theorem dX6_tie_57 : decode cX6_tie 57 = .ok (.getfield 10, 3) := by decide +kernel
theorem dX6_tie_60 : decode cX6_tie 60 = .ok (.iload_n 1, 1) := by decide +kernel
theorem dX6_tie_61 : decode cX6_tie 61 = .ok (.iload_n 2, 1) := by decide +kernel
theorem dX6_tie_62 : decode cX6_tie 62 = .ok (.invokevirtual 141, 3) := by decide +kernel
theorem dX6_tie_65 : decode cX6_tie 65 = .ok (.invokestatic 145, 3) := by decide +kernel
theorem dX6_tie_68 : decode cX6_tie 68 = .ok (.ireturn, 1) := by decide +kernel
theorem dX6_tie_69 : decode cX6_tie 69 = .ok (.aload_n 0, 1) := by decide +kernel
theorem dX6_tie_70 : decode cX6_tie 70 = .ok (.getfield 10, 3) := by decide +kernel
theorem dX6_tie_73 : decode cX6_tie 73 = .ok (.iload_n 1, 1) := by decide +kernel
theorem dX6_tie_74 : decode cX6_tie 74 = .ok (.iload_n 2, 1) := by decide +kernel
theorem dX6_tie_75 : decode cX6_tie 75 = .ok (.invokevirtual 149, 3) := by decide +kernel
theorem dX6_tie_78 : decode cX6_tie 78 = .ok (.invokestatic 145, 3) := by decide +kernel
theorem dX6_tie_81 : decode cX6_tie 81 = .ok (.ireturn, 1) := by decide +kernel
theorem dX6_tie_82 : decode cX6_tie 82 = .ok (.aload_n 0, 1) := by decide +kernel
theorem dX6_tie_83 : decode cX6_tie 83 = .ok (.getfield 10, 3) := by decide +kernel
theorem dX6_tie_86 : decode cX6_tie 86 = .ok (.iload_n 1, 1) := by decide +kernel
theorem dX6_tie_87 : decode cX6_tie 87 = .ok (.iload_n 2, 1) := by decide +kernel
theorem dX6_tie_88 : decode cX6_tie 88 = .ok (.invokevirtual 152, 3) := by decide +kernel
theorem dX6_tie_91 : decode cX6_tie 91 = .ok (.invokestatic 145, 3) := by decide +kernel
theorem dX6_tie_94 : decode cX6_tie 94 = .ok (.ireturn, 1) := by decide +kernel
theorem dX6_tie_95 : decode cX6_tie 95 = .ok (.aload_n 0, 1) := by decide +kernel
theorem dX6_tie_96 : decode cX6_tie 96 = .ok (.getfield 10, 3) := by decide +kernel
theorem dX6_tie_99 : decode cX6_tie 99 = .ok (.iload_n 1, 1) := by decide +kernel
theorem dX6_tie_100 : decode cX6_tie 100 = .ok (.iload_n 2, 1) := by decide +kernel
theorem dX6_tie_101 : decode cX6_tie 101 = .ok (.invokevirtual 155, 3) := by decide +kernel
theorem dX6_tie_104 : decode cX6_tie 104 = .ok (.ireturn, 1) := by decide +kernel
theorem dX6_signs_0 : decode cX6_signs 0 = .ok (.aload_n 0, 1) := by decide +kernel
theorem dX6_signs_1 : decode cX6_signs 1 = .ok (.iload_n 1, 1) := by decide +kernel
theorem dX6_signs_2 : decode cX6_signs 2 = .ok (.iload_n 2, 1) := by decide +kernel
theorem dX6_signs_3 : decode cX6_signs 3 = .ok (.invokevirtual 138, 3) := by decide +kernel
theorem dX6_signs_6 : decode cX6_signs 6 = .ok (.istore_n 3, 1) := by decide +kernel
theorem dX6_signs_7 : decode cX6_signs 7 = .ok (.iload_n 3, 1) := by decide +kernel
theorem dX6_signs_8 : decode cX6_signs 8 = .ok (.ifCond .eq 9, 3) := by decide +kernel
theorem dX6_signs_11 : decode cX6_signs 11 = .ok (.aload_n 0, 1) := by decide +kernel
theorem dX6_signs_12 : decode cX6_signs 12 = .ok (.iload_n 3, 1) := by decide +kernel
theorem dX6_signs_13 : decode cX6_signs 13 = .ok (.invokevirtual 84, 3) := by decide +kernel
theorem dX6_signs_16 : decode cX6_signs 16 = .ok (.ireturn, 1) := by decide +kernel
theorem dX6_signs_17 : decode cX6_signs 17 = .ok (.aload_n 0, 1) := by decide +kernel
theorem dX6_signs_18 : decode cX6_signs 18 = .ok (.getfield 10, 3) := by decide +kernel
theorem dX6_signs_21 : decode cX6_signs 21 = .ok (.iload_n 1, 1) := by decide +kernel
theorem dX6_signs_22 : decode cX6_signs 22 = .ok (.iload_n 2, 1) := by decide +kernel
theorem dX6_signs_23 : decode cX6_signs 23 = .ok (.invokevirtual 158, 3) := by decide +kernel
theorem dX6_signs_26 : decode cX6_signs 26 = .ok (.pop, 1) := by decide +kernel
theorem dX6_signs_27 : decode cX6_signs 27 = .ok (.aload_n 0, 1) := by decide +kernel
theorem dX6_signs_28 : decode cX6_signs 28 = .ok (.getfield 10, 3) := by decide +kernel
theorem dX6_signs_31 : decode cX6_signs 31 = .ok (.iload_n 1, 1) := by decide +kernel
theorem dX6_signs_32 : decode cX6_signs 32 = .ok (.iload_n 2, 1) := by decide +kernel
theorem dX6_signs_33 : decode cX6_signs 33 = .ok (.invokevirtual 141, 3) := by decide +kernel
theorem dX6_signs_36 : decode cX6_signs 36 = .ok (.invokestatic 145, 3) := by decide +kernel
theorem dX6_signs_39 : decode cX6_signs 39 = .ok (.ireturn, 1) := by decide +kernel
theorem dX6_feuds_0 : decode cX6_feuds 0 = .ok (.aload_n 0, 1) := by decide +kernel
theorem dX6_feuds_1 : decode cX6_feuds 1 = .ok (.iload_n 1, 1) := by decide +kernel
theorem dX6_feuds_2 : decode cX6_feuds 2 = .ok (.iload_n 2, 1) := by decide +kernel
theorem dX6_feuds_3 : decode cX6_feuds 3 = .ok (.invokevirtual 138, 3) := by decide +kernel
theorem dX6_feuds_6 : decode cX6_feuds 6 = .ok (.istore_n 3, 1) := by decide +kernel
theorem dX6_feuds_7 : decode cX6_feuds 7 = .ok (.iload_n 3, 1) := by decide +kernel
theorem dX6_feuds_8 : decode cX6_feuds 8 = .ok (.ifCond .eq 9, 3) := by decide +kernel
theorem dX6_feuds_11 : decode cX6_feuds 11 = .ok (.aload_n 0, 1) := by decide +kernel
theorem dX6_feuds_12 : decode cX6_feuds 12 = .ok (.iload_n 3, 1) := by decide +kernel
theorem dX6_feuds_13 : decode cX6_feuds 13 = .ok (.invokevirtual 84, 3) := by decide +kernel
theorem dX6_feuds_16 : decode cX6_feuds 16 = .ok (.ireturn, 1) := by decide +kernel
theorem dX6_feuds_17 : decode cX6_feuds 17 = .ok (.aload_n 0, 1) := by decide +kernel
theorem dX6_feuds_18 : decode cX6_feuds 18 = .ok (.getfield 10, 3) := by decide +kernel
theorem dX6_feuds_21 : decode cX6_feuds 21 = .ok (.iload_n 1, 1) := by decide +kernel
theorem dX6_feuds_22 : decode cX6_feuds 22 = .ok (.iload_n 2, 1) := by decide +kernel
theorem dX6_feuds_23 : decode cX6_feuds 23 = .ok (.invokevirtual 161, 3) := by decide +kernel
theorem dX6_feuds_26 : decode cX6_feuds 26 = .ok (.pop, 1) := by decide +kernel
theorem dX6_feuds_27 : decode cX6_feuds 27 = .ok (.aload_n 0, 1) := by decide +kernel
theorem dX6_feuds_28 : decode cX6_feuds 28 = .ok (.getfield 10, 3) := by decide +kernel
theorem dX6_feuds_31 : decode cX6_feuds 31 = .ok (.iload_n 1, 1) := by decide +kernel
theorem dX6_feuds_32 : decode cX6_feuds 32 = .ok (.iload_n 2, 1) := by decide +kernel
theorem dX6_feuds_33 : decode cX6_feuds 33 = .ok (.invokevirtual 149, 3) := by decide +kernel
theorem dX6_feuds_36 : decode cX6_feuds 36 = .ok (.invokestatic 145, 3) := by decide +kernel
theorem dX6_feuds_39 : decode cX6_feuds 39 = .ok (.ireturn, 1) := by decide +kernel
theorem dX6_gets_0 : decode cX6_gets 0 = .ok (.aload_n 0, 1) := by decide +kernel
theorem dX6_gets_1 : decode cX6_gets 1 = .ok (.iload_n 1, 1) := by decide +kernel
theorem dX6_gets_2 : decode cX6_gets 2 = .ok (.invokevirtual 111, 3) := by decide +kernel
theorem dX6_gets_5 : decode cX6_gets 5 = .ok (.iload_n 2, 1) := by decide +kernel
theorem dX6_gets_6 : decode cX6_gets 6 = .ok (.iconst 0, 1) := by decide +kernel
theorem dX6_gets_7 : decode cX6_gets 7 = .ok (.bipush 99, 2) := by decide +kernel
theorem dX6_gets_9 : decode cX6_gets 9 = .ok (.invokestatic 73, 3) := by decide +kernel
theorem dX6_gets_12 : decode cX6_gets 12 = .ok (.iconst 0, 1) := by decide +kernel
theorem dX6_gets_13 : decode cX6_gets 13 = .ok (.invokestatic 81, 3) := by decide +kernel
theorem dX6_gets_16 : decode cX6_gets 16 = .ok (.istore_n 3, 1) := by decide +kernel
theorem dX6_gets_17 : decode cX6_gets 17 = .ok (.iload_n 3, 1) := by decide +kernel
theorem dX6_gets_18 : decode cX6_gets 18 = .ok (.ifCond .eq 9, 3) := by decide +kernel
theorem dX6_gets_21 : decode cX6_gets 21 = .ok (.aload_n 0, 1) := by decide +kernel
theorem dX6_gets_22 : decode cX6_gets 22 = .ok (.iload_n 3, 1) := by decide +kernel
theorem dX6_gets_23 : decode cX6_gets 23 = .ok (.invokevirtual 84, 3) := by decide +kernel
theorem dX6_gets_26 : decode cX6_gets 26 = .ok (.ireturn, 1) := by decide +kernel
theorem dX6_gets_27 : decode cX6_gets 27 = .ok (.aload_n 0, 1) := by decide +kernel
theorem dX6_gets_28 : decode cX6_gets 28 = .ok (.getfield 10, 3) := by decide +kernel
theorem dX6_gets_31 : decode cX6_gets 31 = .ok (.getfield 124, 3) := by decide +kernel
theorem dX6_gets_34 : decode cX6_gets 34 = .ok (.iload_n 1, 1) := by decide +kernel
theorem dX6_gets_35 : decode cX6_gets 35 = .ok (.iaload, 1) := by decide +kernel
theorem dX6_gets_36 : decode cX6_gets 36 = .ok (.istore 4, 2) := by decide +kernel
theorem dX6_gets_38 : decode cX6_gets 38 = .ok (.aload_n 0, 1) := by decide +kernel
theorem dX6_gets_39 : decode cX6_gets 39 = .ok (.getfield 10, 3) := by decide +kernel
theorem dX6_gets_42 : decode cX6_gets 42 = .ok (.getfield 124, 3) := by decide +kernel
theorem dX6_gets_45 : decode cX6_gets 45 = .ok (.iload_n 1, 1) := by decide +kernel
theorem dX6_gets_46 : decode cX6_gets 46 = .ok (.iload_n 2, 1) := by decide +kernel
theorem dX6_gets_47 : decode cX6_gets 47 = .ok (.iastore, 1) := by decide +kernel
theorem dX6_gets_48 : decode cX6_gets 48 = .ok (.iload 4, 2) := by decide +kernel
theorem dX6_gets_50 : decode cX6_gets 50 = .ok (.ireturn, 1) := by decide +kernel
theorem dX6_turn_0 : decode cX6_turn 0 = .ok (.aload_n 0, 1) := by decide +kernel
theorem dX6_turn_1 : decode cX6_turn 1 = .ok (.iload_n 1, 1) := by decide +kernel
theorem dX6_turn_2 : decode cX6_turn 2 = .ok (.invokevirtual 111, 3) := by decide +kernel
theorem dX6_turn_5 : decode cX6_turn 5 = .ok (.iload_n 2, 1) := by decide +kernel
theorem dX6_turn_6 : decode cX6_turn 6 = .ok (.iconst 5, 1) := by decide +kernel
theorem dX6_turn_7 : decode cX6_turn 7 = .ok (.invokestatic 114, 3) := by decide +kernel
theorem dX6_turn_10 : decode cX6_turn 10 = .ok (.iload_n 3, 1) := by decide +kernel
theorem dX6_turn_11 : decode cX6_turn 11 = .ok (.iconst 0, 1) := by decide +kernel
theorem dX6_turn_12 : decode cX6_turn 12 = .ok (.bipush 9, 2) := by decide +kernel
theorem dX6_turn_14 : decode cX6_turn 14 = .ok (.invokestatic 73, 3) := by decide +kernel
theorem dX6_turn_17 : decode cX6_turn 17 = .ok (.invokestatic 81, 3) := by decide +kernel
theorem dX6_turn_20 : decode cX6_turn 20 = .ok (.istore 4, 2) := by decide +kernel
theorem dX6_turn_22 : decode cX6_turn 22 = .ok (.iload 4, 2) := by decide +kernel
theorem dX6_turn_24 : decode cX6_turn 24 = .ok (.ifCond .eq 10, 3) := by decide +kernel
theorem dX6_turn_27 : decode cX6_turn 27 = .ok (.aload_n 0, 1) := by decide +kernel
theorem dX6_turn_28 : decode cX6_turn 28 = .ok (.iload 4, 2) := by decide +kernel
theorem dX6_turn_30 : decode cX6_turn 30 = .ok (.invokevirtual 84, 3) := by decide +kernel
theorem dX6_turn_33 : decode cX6_turn 33 = .ok (.ireturn, 1) := by decide +kernel
theorem dX6_turn_34 : decode cX6_turn 34 = .ok (.bipush 10, 2) := by decide +kernel
theorem dX6_turn_36 : decode cX6_turn 36 = .ok (.aload_n 0, 1) := by decide +kernel
theorem dX6_turn_37 : decode cX6_turn 37 = .ok (.getfield 10, 3) := by decide +kernel
theorem dX6_turn_40 : decode cX6_turn 40 = .ok (.getfield 118, 3) := by decide +kernel
theorem dX6_turn_43 : decode cX6_turn 43 = .ok (.iload_n 1, 1) := by decide +kernel
theorem dX6_turn_44 : decode cX6_turn 44 = .ok (.iaload, 1) := by decide +kernel
theorem dX6_turn_45 : decode cX6_turn 45 = .ok (.imul, 1) := by decide +kernel
theorem dX6_turn_46 : decode cX6_turn 46 = .ok (.aload_n 0, 1) := by decide +kernel
theorem dX6_turn_47 : decode cX6_turn 47 = .ok (.getfield 10, 3) := by decide +kernel
theorem dX6_turn_50 : decode cX6_turn 50 = .ok (.getfield 121, 3) := by decide +kernel
theorem dX6_turn_53 : decode cX6_turn 53 = .ok (.iload_n 1, 1) := by decide +kernel
theorem dX6_turn_54 : decode cX6_turn 54 = .ok (.iaload, 1) := by decide +kernel
theorem dX6_turn_55 : decode cX6_turn 55 = .ok (.iadd, 1) := by decide +kernel
theorem dX6_turn_56 : decode cX6_turn 56 = .ok (.istore 5, 2) := by decide +kernel
theorem dX6_turn_58 : decode cX6_turn 58 = .ok (.aload_n 0, 1) := by decide +kernel
theorem dX6_turn_59 : decode cX6_turn 59 = .ok (.getfield 10, 3) := by decide +kernel
theorem dX6_turn_62 : decode cX6_turn 62 = .ok (.getfield 118, 3) := by decide +kernel
theorem dX6_turn_65 : decode cX6_turn 65 = .ok (.iload_n 1, 1) := by decide +kernel
theorem dX6_turn_66 : decode cX6_turn 66 = .ok (.iload_n 2, 1) := by decide +kernel
theorem dX6_turn_67 : decode cX6_turn 67 = .ok (.iastore, 1) := by decide +kernel
theorem dX6_turn_68 : decode cX6_turn 68 = .ok (.aload_n 0, 1) := by decide +kernel
theorem dX6_turn_69 : decode cX6_turn 69 = .ok (.getfield 10, 3) := by decide +kernel
theorem dX6_turn_72 : decode cX6_turn 72 = .ok (.getfield 121, 3) := by decide +kernel
theorem dX6_turn_75 : decode cX6_turn 75 = .ok (.iload_n 1, 1) := by decide +kernel
theorem dX6_turn_76 : decode cX6_turn 76 = .ok (.iload_n 3, 1) := by decide +kernel
theorem dX6_turn_77 : decode cX6_turn 77 = .ok (.iastore, 1) := by decide +kernel
theorem dX6_turn_78 : decode cX6_turn 78 = .ok (.iload 5, 2) := by decide +kernel
theorem dX6_turn_80 : decode cX6_turn 80 = .ok (.ireturn, 1) := by decide +kernel
theorem dX6_years_0 : decode cX6_years 0 = .ok (.iload_n 1, 1) := by decide +kernel
theorem dX6_years_1 : decode cX6_years 1 = .ok (.iconst 1, 1) := by decide +kernel
theorem dX6_years_2 : decode cX6_years 2 = .ok (.bipush 60, 2) := by decide +kernel
theorem dX6_years_4 : decode cX6_years 4 = .ok (.invokestatic 73, 3) := by decide +kernel
theorem dX6_years_7 : decode cX6_years 7 = .ok (.aload_n 0, 1) := by decide +kernel
theorem dX6_years_8 : decode cX6_years 8 = .ok (.getfield 10, 3) := by decide +kernel
theorem dX6_years_11 : decode cX6_years 11 = .ok (.iload_n 1, 1) := by decide +kernel
theorem dX6_years_12 : decode cX6_years 12 = .ok (.invokevirtual 164, 3) := by decide +kernel
theorem dX6_years_15 : decode cX6_years 15 = .ok (.ifCond .eq 7, 3) := by decide +kernel
theorem dX6_years_18 : decode cX6_years 18 = .ok (.iconst 0, 1) := by decide +kernel
theorem dX6_years_19 : decode cX6_years 19 = .ok (.goto 5, 3) := by decide +kernel
theorem dX6_years_22 : decode cX6_years 22 = .ok (.bipush (-6), 2) := by decide +kernel
theorem dX6_years_24 : decode cX6_years 24 = .ok (.iconst 0, 1) := by decide +kernel
theorem dX6_years_25 : decode cX6_years 25 = .ok (.invokestatic 81, 3) := by decide +kernel
theorem dX6_years_28 : decode cX6_years 28 = .ok (.istore_n 2, 1) := by decide +kernel
theorem dX6_years_29 : decode cX6_years 29 = .ok (.iload_n 2, 1) := by decide +kernel
theorem dX6_years_30 : decode cX6_years 30 = .ok (.ifCond .eq 9, 3) := by decide +kernel
theorem dX6_years_33 : decode cX6_years 33 = .ok (.aload_n 0, 1) := by decide +kernel
theorem dX6_years_34 : decode cX6_years 34 = .ok (.iload_n 2, 1) := by decide +kernel
theorem dX6_years_35 : decode cX6_years 35 = .ok (.invokevirtual 84, 3) := by decide +kernel
theorem dX6_years_38 : decode cX6_years 38 = .ok (.ireturn, 1) := by decide +kernel
theorem dX6_years_39 : decode cX6_years 39 = .ok (.aload_n 0, 1) := by decide +kernel
theorem dX6_years_40 : decode cX6_years 40 = .ok (.getfield 10, 3) := by decide +kernel
theorem dX6_years_43 : decode cX6_years 43 = .ok (.iload_n 1, 1) := by decide +kernel
theorem dX6_years_44 : decode cX6_years 44 = .ok (.invokevirtual 168, 3) := by decide +kernel
theorem dX6_years_47 : decode cX6_years 47 = .ok (.pop, 1) := by decide +kernel
theorem dX6_years_48 : decode cX6_years 48 = .ok (.aload_n 0, 1) := by decide +kernel
theorem dX6_years_49 : decode cX6_years 49 = .ok (.getfield 10, 3) := by decide +kernel
theorem dX6_years_52 : decode cX6_years 52 = .ok (.invokevirtual 171, 3) := by decide +kernel
theorem dX6_years_55 : decode cX6_years 55 = .ok (.ireturn, 1) := by decide +kernel
theorem dX6_hasThen_0 : decode cX6_hasThen 0 = .ok (.aload_n 0, 1) := by decide +kernel
theorem dX6_hasThen_1 : decode cX6_hasThen 1 = .ok (.iload_n 1, 1) := by decide +kernel
theorem dX6_hasThen_2 : decode cX6_hasThen 2 = .ok (.invokevirtual 111, 3) := by decide +kernel
theorem dX6_hasThen_5 : decode cX6_hasThen 5 = .ok (.iload_n 2, 1) := by decide +kernel
theorem dX6_hasThen_6 : decode cX6_hasThen 6 = .ok (.iconst 0, 1) := by decide +kernel
theorem dX6_hasThen_7 : decode cX6_hasThen 7 = .ok (.bipush 60, 2) := by decide +kernel
theorem dX6_hasThen_9 : decode cX6_hasThen 9 = .ok (.invokestatic 73, 3) := by decide +kernel
theorem dX6_hasThen_12 : decode cX6_hasThen 12 = .ok (.iload_n 3, 1) := by decide +kernel
theorem dX6_hasThen_13 : decode cX6_hasThen 13 = .ok (.iconst 1, 1) := by decide +kernel
theorem dX6_hasThen_14 : decode cX6_hasThen 14 = .ok (.invokestatic 114, 3) := by decide +kernel
theorem dX6_hasThen_17 : decode cX6_hasThen 17 = .ok (.invokestatic 81, 3) := by decide +kernel
theorem dX6_hasThen_20 : decode cX6_hasThen 20 = .ok (.istore 4, 2) := by decide +kernel
theorem dX6_hasThen_22 : decode cX6_hasThen 22 = .ok (.iload 4, 2) := by decide +kernel
theorem dX6_hasThen_24 : decode cX6_hasThen 24 = .ok (.ifCond .eq 10, 3) := by decide +kernel
theorem dX6_hasThen_27 : decode cX6_hasThen 27 = .ok (.aload_n 0, 1) := by decide +kernel
theorem dX6_hasThen_28 : decode cX6_hasThen 28 = .ok (.iload 4, 2) := by decide +kernel
theorem dX6_hasThen_30 : decode cX6_hasThen 30 = .ok (.invokevirtual 84, 3) := by decide +kernel
theorem dX6_hasThen_33 : decode cX6_hasThen 33 = .ok (.ireturn, 1) := by decide +kernel
theorem dX6_hasThen_34 : decode cX6_hasThen 34 = .ok (.aload_n 0, 1) := by decide +kernel
theorem dX6_hasThen_35 : decode cX6_hasThen 35 = .ok (.iload_n 2, 1) := by decide +kernel
theorem dX6_hasThen_36 : decode cX6_hasThen 36 = .ok (.invokevirtual 174, 3) := by decide +kernel
theorem dX6_hasThen_39 : decode cX6_hasThen 39 = .ok (.iload_n 3, 1) := by decide +kernel
theorem dX6_hasThen_40 : decode cX6_hasThen 40 = .ok (.ifCond .ne 15, 3) := by decide +kernel
theorem dX6_hasThen_43 : decode cX6_hasThen 43 = .ok (.aload_n 0, 1) := by decide +kernel
theorem dX6_hasThen_44 : decode cX6_hasThen 44 = .ok (.getfield 19, 3) := by decide +kernel
theorem dX6_hasThen_47 : decode cX6_hasThen 47 = .ok (.getfield 124, 3) := by decide +kernel
theorem dX6_hasThen_50 : decode cX6_hasThen 50 = .ok (.iload_n 1, 1) := by decide +kernel
theorem dX6_hasThen_51 : decode cX6_hasThen 51 = .ok (.iaload, 1) := by decide +kernel
theorem dX6_hasThen_52 : decode cX6_hasThen 52 = .ok (.goto 14, 3) := by decide +kernel
theorem dX6_hasThen_55 : decode cX6_hasThen 55 = .ok (.aload_n 0, 1) := by decide +kernel
theorem dX6_hasThen_56 : decode cX6_hasThen 56 = .ok (.getfield 19, 3) := by decide +kernel
theorem dX6_hasThen_59 : decode cX6_hasThen 59 = .ok (.iload_n 1, 1) := by decide +kernel
theorem dX6_hasThen_60 : decode cX6_hasThen 60 = .ok (.invokevirtual 127, 3) := by decide +kernel
theorem dX6_hasThen_63 : decode cX6_hasThen 63 = .ok (.invokestatic 130, 3) := by decide +kernel
theorem dX6_hasThen_66 : decode cX6_hasThen 66 = .ok (.ireturn, 1) := by decide +kernel
theorem dX6_areKin_0 : decode cX6_areKin 0 = .ok (.aload_n 0, 1) := by decide +kernel
theorem dX6_areKin_1 : decode cX6_areKin 1 = .ok (.iload_n 1, 1) := by decide +kernel
theorem dX6_areKin_2 : decode cX6_areKin 2 = .ok (.iload_n 2, 1) := by decide +kernel
theorem dX6_areKin_3 : decode cX6_areKin 3 = .ok (.invokevirtual 138, 3) := by decide +kernel
theorem dX6_areKin_6 : decode cX6_areKin 6 = .ok (.iload_n 3, 1) := by decide +kernel
theorem dX6_areKin_7 : decode cX6_areKin 7 = .ok (.iconst 0, 1) := by decide +kernel
theorem dX6_areKin_8 : decode cX6_areKin 8 = .ok (.bipush 60, 2) := by decide +kernel
theorem dX6_areKin_10 : decode cX6_areKin 10 = .ok (.invokestatic 73, 3) := by decide +kernel
theorem dX6_areKin_13 : decode cX6_areKin 13 = .ok (.iconst 0, 1) := by decide +kernel
theorem dX6_areKin_14 : decode cX6_areKin 14 = .ok (.invokestatic 81, 3) := by decide +kernel
theorem dX6_areKin_17 : decode cX6_areKin 17 = .ok (.istore 4, 2) := by decide +kernel
theorem dX6_areKin_19 : decode cX6_areKin 19 = .ok (.iload 4, 2) := by decide +kernel
theorem dX6_areKin_21 : decode cX6_areKin 21 = .ok (.ifCond .eq 10, 3) := by decide +kernel
theorem dX6_areKin_24 : decode cX6_areKin 24 = .ok (.aload_n 0, 1) := by decide +kernel
theorem dX6_areKin_25 : decode cX6_areKin 25 = .ok (.iload 4, 2) := by decide +kernel
theorem dX6_areKin_27 : decode cX6_areKin 27 = .ok (.invokevirtual 84, 3) := by decide +kernel
theorem dX6_areKin_30 : decode cX6_areKin 30 = .ok (.ireturn, 1) := by decide +kernel
theorem dX6_areKin_31 : decode cX6_areKin 31 = .ok (.aload_n 0, 1) := by decide +kernel
theorem dX6_areKin_32 : decode cX6_areKin 32 = .ok (.iload_n 3, 1) := by decide +kernel
theorem dX6_areKin_33 : decode cX6_areKin 33 = .ok (.invokevirtual 174, 3) := by decide +kernel
theorem dX6_areKin_36 : decode cX6_areKin 36 = .ok (.aload_n 0, 1) := by decide +kernel
theorem dX6_areKin_37 : decode cX6_areKin 37 = .ok (.getfield 19, 3) := by decide +kernel
theorem dX6_areKin_40 : decode cX6_areKin 40 = .ok (.iload_n 1, 1) := by decide +kernel
theorem dX6_areKin_41 : decode cX6_areKin 41 = .ok (.iload_n 2, 1) := by decide +kernel
theorem dX6_areKin_42 : decode cX6_areKin 42 = .ok (.invokevirtual 152, 3) := by decide +kernel
theorem dX6_areKin_45 : decode cX6_areKin 45 = .ok (.invokestatic 145, 3) := by decide +kernel
theorem dX6_areKin_48 : decode cX6_areKin 48 = .ok (.ireturn, 1) := by decide +kernel
theorem dX6_allMoney_0 : decode cX6_allMoney 0 = .ok (.iload_n 1, 1) := by decide +kernel
theorem dX6_allMoney_1 : decode cX6_allMoney 1 = .ok (.iconst 0, 1) := by decide +kernel
theorem dX6_allMoney_2 : decode cX6_allMoney 2 = .ok (.bipush 60, 2) := by decide +kernel
theorem dX6_allMoney_4 : decode cX6_allMoney 4 = .ok (.invokestatic 73, 3) := by decide +kernel
theorem dX6_allMoney_7 : decode cX6_allMoney 7 = .ok (.istore_n 2, 1) := by decide +kernel
theorem dX6_allMoney_8 : decode cX6_allMoney 8 = .ok (.iload_n 2, 1) := by decide +kernel
theorem dX6_allMoney_9 : decode cX6_allMoney 9 = .ok (.ifCond .eq 9, 3) := by decide +kernel
theorem dX6_allMoney_12 : decode cX6_allMoney 12 = .ok (.aload_n 0, 1) := by decide +kernel
theorem dX6_allMoney_13 : decode cX6_allMoney 13 = .ok (.iload_n 2, 1) := by decide +kernel
theorem dX6_allMoney_14 : decode cX6_allMoney 14 = .ok (.invokevirtual 84, 3) := by decide +kernel
theorem dX6_allMoney_17 : decode cX6_allMoney 17 = .ok (.ireturn, 1) := by decide +kernel
theorem dX6_allMoney_18 : decode cX6_allMoney 18 = .ok (.aload_n 0, 1) := by decide +kernel
theorem dX6_allMoney_19 : decode cX6_allMoney 19 = .ok (.iload_n 1, 1) := by decide +kernel
theorem dX6_allMoney_20 : decode cX6_allMoney 20 = .ok (.invokevirtual 174, 3) := by decide +kernel
theorem dX6_allMoney_23 : decode cX6_allMoney 23 = .ok (.aload_n 0, 1) := by decide +kernel
theorem dX6_allMoney_24 : decode cX6_allMoney 24 = .ok (.getfield 19, 3) := by decide +kernel
theorem dX6_allMoney_27 : decode cX6_allMoney 27 = .ok (.invokevirtual 171, 3) := by decide +kernel
theorem dX6_allMoney_30 : decode cX6_allMoney 30 = .ok (.ireturn, 1) := by decide +kernel
theorem dX6_ruined_0 : decode cX6_ruined 0 = .ok (.aload_n 0, 1) := by decide +kernel
theorem dX6_ruined_1 : decode cX6_ruined 1 = .ok (.iload_n 1, 1) := by decide +kernel
theorem dX6_ruined_2 : decode cX6_ruined 2 = .ok (.invokevirtual 111, 3) := by decide +kernel
theorem dX6_ruined_5 : decode cX6_ruined 5 = .ok (.istore_n 2, 1) := by decide +kernel
theorem dX6_ruined_6 : decode cX6_ruined 6 = .ok (.iload_n 2, 1) := by decide +kernel
theorem dX6_ruined_7 : decode cX6_ruined 7 = .ok (.ifCond .eq 9, 3) := by decide +kernel
theorem dX6_ruined_10 : decode cX6_ruined 10 = .ok (.aload_n 0, 1) := by decide +kernel
theorem dX6_ruined_11 : decode cX6_ruined 11 = .ok (.iload_n 2, 1) := by decide +kernel
theorem dX6_ruined_12 : decode cX6_ruined 12 = .ok (.invokevirtual 84, 3) := by decide +kernel
theorem dX6_ruined_15 : decode cX6_ruined 15 = .ok (.ireturn, 1) := by decide +kernel
theorem dX6_ruined_16 : decode cX6_ruined 16 = .ok (.aload_n 0, 1) := by decide +kernel
theorem dX6_ruined_17 : decode cX6_ruined 17 = .ok (.getfield 19, 3) := by decide +kernel
theorem dX6_ruined_20 : decode cX6_ruined 20 = .ok (.aload_n 0, 1) := by decide +kernel
theorem dX6_ruined_21 : decode cX6_ruined 21 = .ok (.getfield 10, 3) := by decide +kernel
theorem dX6_ruined_24 : decode cX6_ruined 24 = .ok (.invokevirtual 100, 3) := by decide +kernel
theorem dX6_ruined_27 : decode cX6_ruined 27 = .ok (.iconst 0, 1) := by decide +kernel
theorem dX6_ruined_28 : decode cX6_ruined 28 = .ok (.istore_n 3, 1) := by decide +kernel
theorem dX6_ruined_29 : decode cX6_ruined 29 = .ok (.iload_n 3, 1) := by decide +kernel
theorem dX6_ruined_30 : decode cX6_ruined 30 = .ok (.bipush 60, 2) := by decide +kernel
theorem dX6_ruined_32 : decode cX6_ruined 32 = .ok (.if_icmp .gt 31, 3) := by decide +kernel
theorem dX6_ruined_35 : decode cX6_ruined 35 = .ok (.aload_n 0, 1) := by decide +kernel
theorem dX6_ruined_36 : decode cX6_ruined 36 = .ok (.getfield 19, 3) := by decide +kernel
theorem dX6_ruined_39 : decode cX6_ruined 39 = .ok (.getfield 124, 3) := by decide +kernel
theorem dX6_ruined_42 : decode cX6_ruined 42 = .ok (.iload_n 1, 1) := by decide +kernel
theorem dX6_ruined_43 : decode cX6_ruined 43 = .ok (.iaload, 1) := by decide +kernel
theorem dX6_ruined_44 : decode cX6_ruined 44 = .ok (.ifCond .ne 5, 3) := by decide +kernel
theorem dX6_ruined_47 : decode cX6_ruined 47 = .ok (.iload_n 3, 1) := by decide +kernel
theorem dX6_ruined_48 : decode cX6_ruined 48 = .ok (.ireturn, 1) := by decide +kernel
theorem dX6_ruined_49 : decode cX6_ruined 49 = .ok (.aload_n 0, 1) := by decide +kernel
theorem dX6_ruined_50 : decode cX6_ruined 50 = .ok (.getfield 19, 3) := by decide +kernel
theorem dX6_ruined_53 : decode cX6_ruined 53 = .ok (.iconst (-1), 1) := by decide +kernel
theorem dX6_ruined_54 : decode cX6_ruined 54 = .ok (.invokevirtual 177, 3) := by decide +kernel
theorem dX6_ruined_57 : decode cX6_ruined 57 = .ok (.iinc 3 1, 3) := by decide +kernel
theorem dX6_ruined_60 : decode cX6_ruined 60 = .ok (.goto (-31), 3) := by decide +kernel
theorem dX6_ruined_63 : decode cX6_ruined 63 = .ok (.bipush (-9), 2) := by decide +kernel
theorem dX6_ruined_65 : decode cX6_ruined 65 = .ok (.ireturn, 1) := by decide +kernel
theorem dX6_first_0 : decode cX6_first 0 = .ok (.iload_n 1, 1) := by decide +kernel
theorem dX6_first_1 : decode cX6_first 1 = .ok (.iconst 2, 1) := by decide +kernel
theorem dX6_first_2 : decode cX6_first 2 = .ok (.invokestatic 114, 3) := by decide +kernel
theorem dX6_first_5 : decode cX6_first 5 = .ok (.istore_n 2, 1) := by decide +kernel
theorem dX6_first_6 : decode cX6_first 6 = .ok (.iload_n 2, 1) := by decide +kernel
theorem dX6_first_7 : decode cX6_first 7 = .ok (.ifCond .eq 9, 3) := by decide +kernel
theorem dX6_first_10 : decode cX6_first 10 = .ok (.aload_n 0, 1) := by decide +kernel
theorem dX6_first_11 : decode cX6_first 11 = .ok (.iload_n 2, 1) := by decide +kernel
theorem dX6_first_12 : decode cX6_first 12 = .ok (.invokevirtual 84, 3) := by decide +kernel
theorem dX6_first_15 : decode cX6_first 15 = .ok (.ireturn, 1) := by decide +kernel
theorem dX6_first_16 : decode cX6_first 16 = .ok (.iload_n 1, 1) := by decide +kernel
theorem dX6_first_17 : decode cX6_first 17 = .ok (.iconst 2, 1) := by decide +kernel
theorem dX6_first_18 : decode cX6_first 18 = .ok (.if_icmp .ne 10, 3) := by decide +kernel
theorem dX6_first_21 : decode cX6_first 21 = .ok (.aload_n 0, 1) := by decide +kernel
theorem dX6_first_22 : decode cX6_first 22 = .ok (.invokevirtual 180, 3) := by decide +kernel
theorem dX6_first_25 : decode cX6_first 25 = .ok (.goto 8, 3) := by decide +kernel
theorem dX6_first_28 : decode cX6_first 28 = .ok (.aload_n 0, 1) := by decide +kernel
theorem dX6_first_29 : decode cX6_first 29 = .ok (.iload_n 1, 1) := by decide +kernel
theorem dX6_first_30 : decode cX6_first 30 = .ok (.invokevirtual 183, 3) := by decide +kernel
theorem dX6_first_33 : decode cX6_first 33 = .ok (.ireturn, 1) := by decide +kernel
theorem dX6_richest_0 : decode cX6_richest 0 = .ok (.iload_n 1, 1) := by decide +kernel
theorem dX6_richest_1 : decode cX6_richest 1 = .ok (.iconst 0, 1) := by decide +kernel
theorem dX6_richest_2 : decode cX6_richest 2 = .ok (.bipush 60, 2) := by decide +kernel
theorem dX6_richest_4 : decode cX6_richest 4 = .ok (.invokestatic 73, 3) := by decide +kernel
theorem dX6_richest_7 : decode cX6_richest 7 = .ok (.istore_n 2, 1) := by decide +kernel
theorem dX6_richest_8 : decode cX6_richest 8 = .ok (.iload_n 2, 1) := by decide +kernel
theorem dX6_richest_9 : decode cX6_richest 9 = .ok (.ifCond .eq 9, 3) := by decide +kernel
theorem dX6_richest_12 : decode cX6_richest 12 = .ok (.aload_n 0, 1) := by decide +kernel
theorem dX6_richest_13 : decode cX6_richest 13 = .ok (.iload_n 2, 1) := by decide +kernel
theorem dX6_richest_14 : decode cX6_richest 14 = .ok (.invokevirtual 84, 3) := by decide +kernel
theorem dX6_richest_17 : decode cX6_richest 17 = .ok (.ireturn, 1) := by decide +kernel
theorem dX6_richest_18 : decode cX6_richest 18 = .ok (.aload_n 0, 1) := by decide +kernel
theorem dX6_richest_19 : decode cX6_richest 19 = .ok (.iload_n 1, 1) := by decide +kernel
theorem dX6_richest_20 : decode cX6_richest 20 = .ok (.invokevirtual 174, 3) := by decide +kernel
theorem dX6_richest_23 : decode cX6_richest 23 = .ok (.bipush (-9), 2) := by decide +kernel
theorem dX6_richest_25 : decode cX6_richest 25 = .ok (.istore_n 3, 1) := by decide +kernel
theorem dX6_richest_26 : decode cX6_richest 26 = .ok (.iconst (-1), 1) := by decide +kernel
theorem dX6_richest_27 : decode cX6_richest 27 = .ok (.istore 4, 2) := by decide +kernel
theorem dX6_richest_29 : decode cX6_richest 29 = .ok (.iconst 0, 1) := by decide +kernel
theorem dX6_richest_30 : decode cX6_richest 30 = .ok (.istore 5, 2) := by decide +kernel
theorem dX6_richest_32 : decode cX6_richest 32 = .ok (.iload 5, 2) := by decide +kernel
theorem dX6_richest_34 : decode cX6_richest 34 = .ok (.aload_n 0, 1) := by decide +kernel
theorem dX6_richest_35 : decode cX6_richest 35 = .ok (.getfield 19, 3) := by decide +kernel
theorem dX6_richest_38 : decode cX6_richest 38 = .ok (.getfield 186, 3) := by decide +kernel
theorem dX6_richest_41 : decode cX6_richest 41 = .ok (.if_icmp .ge 39, 3) := by decide +kernel
theorem dX6_richest_44 : decode cX6_richest 44 = .ok (.aload_n 0, 1) := by decide +kernel
theorem dX6_richest_45 : decode cX6_richest 45 = .ok (.getfield 19, 3) := by decide +kernel
theorem dX6_richest_48 : decode cX6_richest 48 = .ok (.getfield 124, 3) := by decide +kernel
theorem dX6_richest_51 : decode cX6_richest 51 = .ok (.iload 5, 2) := by decide +kernel
theorem dX6_richest_53 : decode cX6_richest 53 = .ok (.iaload, 1) := by decide +kernel
theorem dX6_richest_54 : decode cX6_richest 54 = .ok (.iload 4, 2) := by decide +kernel
theorem dX6_richest_56 : decode cX6_richest 56 = .ok (.if_icmp .le 18, 3) := by decide +kernel
theorem dX6_richest_59 : decode cX6_richest 59 = .ok (.aload_n 0, 1) := by decide +kernel
theorem dX6_richest_60 : decode cX6_richest 60 = .ok (.getfield 19, 3) := by decide +kernel
theorem dX6_richest_63 : decode cX6_richest 63 = .ok (.getfield 124, 3) := by decide +kernel
theorem dX6_richest_66 : decode cX6_richest 66 = .ok (.iload 5, 2) := by decide +kernel
theorem dX6_richest_68 : decode cX6_richest 68 = .ok (.iaload, 1) := by decide +kernel
theorem dX6_richest_69 : decode cX6_richest 69 = .ok (.istore 4, 2) := by decide +kernel
theorem dX6_richest_71 : decode cX6_richest 71 = .ok (.iload 5, 2) := by decide +kernel
theorem dX6_richest_73 : decode cX6_richest 73 = .ok (.istore_n 3, 1) := by decide +kernel
theorem dX6_richest_74 : decode cX6_richest 74 = .ok (.iinc 5 1, 3) := by decide +kernel
theorem dX6_richest_77 : decode cX6_richest 77 = .ok (.goto (-45), 3) := by decide +kernel
theorem dX6_richest_80 : decode cX6_richest 80 = .ok (.iload_n 3, 1) := by decide +kernel
theorem dX6_richest_81 : decode cX6_richest 81 = .ok (.ireturn, 1) := by decide +kernel
theorem dX6_kin_0 : decode cX6_kin 0 = .ok (.aload_n 0, 1) := by decide +kernel
theorem dX6_kin_1 : decode cX6_kin 1 = .ok (.iload_n 1, 1) := by decide +kernel
theorem dX6_kin_2 : decode cX6_kin 2 = .ok (.invokevirtual 111, 3) := by decide +kernel
theorem dX6_kin_5 : decode cX6_kin 5 = .ok (.iload_n 2, 1) := by decide +kernel
theorem dX6_kin_6 : decode cX6_kin 6 = .ok (.iconst 1, 1) := by decide +kernel
theorem dX6_kin_7 : decode cX6_kin 7 = .ok (.invokestatic 114, 3) := by decide +kernel
theorem dX6_kin_10 : decode cX6_kin 10 = .ok (.iconst 0, 1) := by decide +kernel
theorem dX6_kin_11 : decode cX6_kin 11 = .ok (.invokestatic 81, 3) := by decide +kernel
theorem dX6_kin_14 : decode cX6_kin 14 = .ok (.istore_n 3, 1) := by decide +kernel
theorem dX6_kin_15 : decode cX6_kin 15 = .ok (.iload_n 3, 1) := by decide +kernel
theorem dX6_kin_16 : decode cX6_kin 16 = .ok (.ifCond .eq 9, 3) := by decide +kernel
theorem dX6_kin_19 : decode cX6_kin 19 = .ok (.aload_n 0, 1) := by decide +kernel
theorem dX6_kin_20 : decode cX6_kin 20 = .ok (.iload_n 3, 1) := by decide +kernel
theorem dX6_kin_21 : decode cX6_kin 21 = .ok (.invokevirtual 84, 3) := by decide +kernel
theorem dX6_kin_24 : decode cX6_kin 24 = .ok (.ireturn, 1) := by decide +kernel
theorem dX6_kin_25 : decode cX6_kin 25 = .ok (.iload_n 2, 1) := by decide +kernel
theorem dX6_kin_26 : decode cX6_kin 26 = .ok (.ifCond .ne 12, 3) := by decide +kernel
theorem dX6_kin_29 : decode cX6_kin 29 = .ok (.aload_n 0, 1) := by decide +kernel
theorem dX6_kin_30 : decode cX6_kin 30 = .ok (.getfield 10, 3) := by decide +kernel
theorem dX6_kin_33 : decode cX6_kin 33 = .ok (.iload_n 1, 1) := by decide +kernel
theorem dX6_kin_34 : decode cX6_kin 34 = .ok (.invokevirtual 127, 3) := by decide +kernel
theorem dX6_kin_37 : decode cX6_kin 37 = .ok (.ireturn, 1) := by decide +kernel
theorem dX6_kin_38 : decode cX6_kin 38 = .ok (.aload_n 0, 1) := by decide +kernel
theorem dX6_kin_39 : decode cX6_kin 39 = .ok (.getfield 42, 3) := by decide +kernel
theorem dX6_kin_42 : decode cX6_kin 42 = .ok (.aload_n 0, 1) := by decide +kernel
theorem dX6_kin_43 : decode cX6_kin 43 = .ok (.getfield 10, 3) := by decide +kernel
theorem dX6_kin_46 : decode cX6_kin 46 = .ok (.invokevirtual 189, 3) := by decide +kernel
theorem dX6_kin_49 : decode cX6_kin 49 = .ok (.aload_n 0, 1) := by decide +kernel
theorem dX6_kin_50 : decode cX6_kin 50 = .ok (.getfield 42, 3) := by decide +kernel
theorem dX6_kin_53 : decode cX6_kin 53 = .ok (.iload_n 1, 1) := by decide +kernel
theorem dX6_kin_54 : decode cX6_kin 54 = .ok (.invokevirtual 192, 3) := by decide +kernel
theorem dX6_kin_57 : decode cX6_kin 57 = .ok (.ireturn, 1) := by decide +kernel
theorem dX6_removed_0 : decode cX6_removed 0 = .ok (.aload_n 0, 1) := by decide +kernel
theorem dX6_removed_1 : decode cX6_removed 1 = .ok (.iload_n 1, 1) := by decide +kernel
theorem dX6_removed_2 : decode cX6_removed 2 = .ok (.iload_n 2, 1) := by decide +kernel
theorem dX6_removed_3 : decode cX6_removed 3 = .ok (.invokevirtual 138, 3) := by decide +kernel
theorem dX6_removed_6 : decode cX6_removed 6 = .ok (.istore_n 3, 1) := by decide +kernel
theorem dX6_removed_7 : decode cX6_removed 7 = .ok (.iload_n 3, 1) := by decide +kernel
theorem dX6_removed_8 : decode cX6_removed 8 = .ok (.ifCond .eq 9, 3) := by decide +kernel
theorem dX6_removed_11 : decode cX6_removed 11 = .ok (.aload_n 0, 1) := by decide +kernel
theorem dX6_removed_12 : decode cX6_removed 12 = .ok (.iload_n 3, 1) := by decide +kernel
theorem dX6_removed_13 : decode cX6_removed 13 = .ok (.invokevirtual 84, 3) := by decide +kernel
theorem dX6_removed_16 : decode cX6_removed 16 = .ok (.ireturn, 1) := by decide +kernel
theorem dX6_removed_17 : decode cX6_removed 17 = .ok (.aload_n 0, 1) := by decide +kernel
theorem dX6_removed_18 : decode cX6_removed 18 = .ok (.getfield 42, 3) := by decide +kernel
theorem dX6_removed_21 : decode cX6_removed 21 = .ok (.aload_n 0, 1) := by decide +kernel
theorem dX6_removed_22 : decode cX6_removed 22 = .ok (.getfield 10, 3) := by decide +kernel
theorem dX6_removed_25 : decode cX6_removed 25 = .ok (.invokevirtual 189, 3) := by decide +kernel
theorem dX6_removed_28 : decode cX6_removed 28 = .ok (.aload_n 0, 1) := by decide +kernel
theorem dX6_removed_29 : decode cX6_removed 29 = .ok (.getfield 42, 3) := by decide +kernel
theorem dX6_removed_32 : decode cX6_removed 32 = .ok (.iload_n 1, 1) := by decide +kernel
theorem dX6_removed_33 : decode cX6_removed 33 = .ok (.iload_n 2, 1) := by decide +kernel
theorem dX6_removed_34 : decode cX6_removed 34 = .ok (.invokevirtual 195, 3) := by decide +kernel
theorem dX6_removed_37 : decode cX6_removed 37 = .ok (.ireturn, 1) := by decide +kernel
theorem dX6_farthest_0 : decode cX6_farthest 0 = .ok (.iload_n 1, 1) := by decide +kernel
theorem dX6_farthest_1 : decode cX6_farthest 1 = .ok (.iconst 1, 1) := by decide +kernel
theorem dX6_farthest_2 : decode cX6_farthest 2 = .ok (.invokestatic 114, 3) := by decide +kernel
theorem dX6_farthest_5 : decode cX6_farthest 5 = .ok (.istore_n 2, 1) := by decide +kernel
theorem dX6_farthest_6 : decode cX6_farthest 6 = .ok (.iload_n 2, 1) := by decide +kernel
theorem dX6_farthest_7 : decode cX6_farthest 7 = .ok (.ifCond .eq 9, 3) := by decide +kernel
theorem dX6_farthest_10 : decode cX6_farthest 10 = .ok (.aload_n 0, 1) := by decide +kernel
theorem dX6_farthest_11 : decode cX6_farthest 11 = .ok (.iload_n 2, 1) := by decide +kernel
theorem dX6_farthest_12 : decode cX6_farthest 12 = .ok (.invokevirtual 84, 3) := by decide +kernel
theorem dX6_farthest_15 : decode cX6_farthest 15 = .ok (.ireturn, 1) := by decide +kernel
theorem dX6_farthest_16 : decode cX6_farthest 16 = .ok (.aload_n 0, 1) := by decide +kernel
theorem dX6_farthest_17 : decode cX6_farthest 17 = .ok (.getfield 42, 3) := by decide +kernel
theorem dX6_farthest_20 : decode cX6_farthest 20 = .ok (.aload_n 0, 1) := by decide +kernel
theorem dX6_farthest_21 : decode cX6_farthest 21 = .ok (.getfield 10, 3) := by decide +kernel
theorem dX6_farthest_24 : decode cX6_farthest 24 = .ok (.invokevirtual 189, 3) := by decide +kernel
theorem dX6_farthest_27 : decode cX6_farthest 27 = .ok (.bipush (-9), 2) := by decide +kernel
theorem dX6_farthest_29 : decode cX6_farthest 29 = .ok (.istore_n 3, 1) := by decide +kernel
theorem dX6_farthest_30 : decode cX6_farthest 30 = .ok (.bipush (-9), 2) := by decide +kernel
theorem dX6_farthest_32 : decode cX6_farthest 32 = .ok (.istore 4, 2) := by decide +kernel
theorem dX6_farthest_34 : decode cX6_farthest 34 = .ok (.iconst 0, 1) := by decide +kernel
theorem dX6_farthest_35 : decode cX6_farthest 35 = .ok (.istore 5, 2) := by decide +kernel
theorem dX6_farthest_37 : decode cX6_farthest 37 = .ok (.iload 5, 2) := by decide +kernel
theorem dX6_farthest_39 : decode cX6_farthest 39 = .ok (.aload_n 0, 1) := by decide +kernel
theorem dX6_farthest_40 : decode cX6_farthest 40 = .ok (.getfield 10, 3) := by decide +kernel
theorem dX6_farthest_43 : decode cX6_farthest 43 = .ok (.getfield 186, 3) := by decide +kernel
theorem dX6_farthest_46 : decode cX6_farthest 46 = .ok (.if_icmp .ge 65, 3) := by decide +kernel
theorem dX6_farthest_49 : decode cX6_farthest 49 = .ok (.iload 5, 2) := by decide +kernel
theorem dX6_farthest_51 : decode cX6_farthest 51 = .ok (.iconst 1, 1) := by decide +kernel
theorem dX6_farthest_52 : decode cX6_farthest 52 = .ok (.iadd, 1) := by decide +kernel
theorem dX6_farthest_53 : decode cX6_farthest 53 = .ok (.istore 6, 2) := by decide +kernel
theorem dX6_farthest_55 : decode cX6_farthest 55 = .ok (.iload 6, 2) := by decide +kernel
theorem dX6_farthest_57 : decode cX6_farthest 57 = .ok (.aload_n 0, 1) := by decide +kernel
theorem dX6_farthest_58 : decode cX6_farthest 58 = .ok (.getfield 10, 3) := by decide +kernel
theorem dX6_farthest_61 : decode cX6_farthest 61 = .ok (.getfield 186, 3) := by decide +kernel
theorem dX6_farthest_64 : decode cX6_farthest 64 = .ok (.if_icmp .ge 41, 3) := by decide +kernel
theorem dX6_farthest_67 : decode cX6_farthest 67 = .ok (.aload_n 0, 1) := by decide +kernel
theorem dX6_farthest_68 : decode cX6_farthest 68 = .ok (.getfield 42, 3) := by decide +kernel
theorem dX6_farthest_71 : decode cX6_farthest 71 = .ok (.iload 5, 2) := by decide +kernel
theorem dX6_farthest_73 : decode cX6_farthest 73 = .ok (.iload 6, 2) := by decide +kernel
theorem dX6_farthest_75 : decode cX6_farthest 75 = .ok (.invokevirtual 195, 3) := by decide +kernel
theorem dX6_farthest_78 : decode cX6_farthest 78 = .ok (.istore 7, 2) := by decide +kernel
theorem dX6_farthest_80 : decode cX6_farthest 80 = .ok (.iload 7, 2) := by decide +kernel
theorem dX6_farthest_82 : decode cX6_farthest 82 = .ok (.iload_n 3, 1) := by decide +kernel
theorem dX6_farthest_83 : decode cX6_farthest 83 = .ok (.if_icmp .le 16, 3) := by decide +kernel
theorem dX6_farthest_86 : decode cX6_farthest 86 = .ok (.iload 7, 2) := by decide +kernel
theorem dX6_farthest_88 : decode cX6_farthest 88 = .ok (.istore_n 3, 1) := by decide +kernel
theorem dX6_farthest_89 : decode cX6_farthest 89 = .ok (.bipush 10, 2) := by decide +kernel
theorem dX6_farthest_91 : decode cX6_farthest 91 = .ok (.iload 5, 2) := by decide +kernel
theorem dX6_farthest_93 : decode cX6_farthest 93 = .ok (.imul, 1) := by decide +kernel
theorem dX6_farthest_94 : decode cX6_farthest 94 = .ok (.iload 6, 2) := by decide +kernel
theorem dX6_farthest_96 : decode cX6_farthest 96 = .ok (.iadd, 1) := by decide +kernel
theorem dX6_farthest_97 : decode cX6_farthest 97 = .ok (.istore 4, 2) := by decide +kernel
theorem dX6_farthest_99 : decode cX6_farthest 99 = .ok (.iinc 6 1, 3) := by decide +kernel
theorem dX6_farthest_102 : decode cX6_farthest 102 = .ok (.goto (-47), 3) := by decide +kernel
theorem dX6_farthest_105 : decode cX6_farthest 105 = .ok (.iinc 5 1, 3) := by decide +kernel
theorem dX6_farthest_108 : decode cX6_farthest 108 = .ok (.goto (-71), 3) := by decide +kernel
theorem dX6_farthest_111 : decode cX6_farthest 111 = .ok (.iload_n 1, 1) := by decide +kernel
theorem dX6_farthest_112 : decode cX6_farthest 112 = .ok (.ifCond .ne 8, 3) := by decide +kernel
theorem dX6_farthest_115 : decode cX6_farthest 115 = .ok (.iload 4, 2) := by decide +kernel
theorem dX6_farthest_117 : decode cX6_farthest 117 = .ok (.goto 4, 3) := by decide +kernel
theorem dX6_farthest_120 : decode cX6_farthest 120 = .ok (.iload_n 3, 1) := by decide +kernel
theorem dX6_farthest_121 : decode cX6_farthest 121 = .ok (.ireturn, 1) := by decide +kernel
theorem dX6_groups_0 : decode cX6_groups 0 = .ok (.iload_n 1, 1) := by decide +kernel
theorem dX6_groups_1 : decode cX6_groups 1 = .ok (.iconst 2, 1) := by decide +kernel
theorem dX6_groups_2 : decode cX6_groups 2 = .ok (.invokestatic 114, 3) := by decide +kernel
theorem dX6_groups_5 : decode cX6_groups 5 = .ok (.istore_n 2, 1) := by decide +kernel
theorem dX6_groups_6 : decode cX6_groups 6 = .ok (.iload_n 2, 1) := by decide +kernel
theorem dX6_groups_7 : decode cX6_groups 7 = .ok (.ifCond .eq 9, 3) := by decide +kernel
theorem dX6_groups_10 : decode cX6_groups 10 = .ok (.aload_n 0, 1) := by decide +kernel
theorem dX6_groups_11 : decode cX6_groups 11 = .ok (.iload_n 2, 1) := by decide +kernel
theorem dX6_groups_12 : decode cX6_groups 12 = .ok (.invokevirtual 84, 3) := by decide +kernel
theorem dX6_groups_15 : decode cX6_groups 15 = .ok (.ireturn, 1) := by decide +kernel
theorem dX6_groups_16 : decode cX6_groups 16 = .ok (.aload_n 0, 1) := by decide +kernel
theorem dX6_groups_17 : decode cX6_groups 17 = .ok (.getfield 42, 3) := by decide +kernel
theorem dX6_groups_20 : decode cX6_groups 20 = .ok (.aload_n 0, 1) := by decide +kernel
theorem dX6_groups_21 : decode cX6_groups 21 = .ok (.getfield 10, 3) := by decide +kernel
theorem dX6_groups_24 : decode cX6_groups 24 = .ok (.invokevirtual 189, 3) := by decide +kernel
theorem dX6_groups_27 : decode cX6_groups 27 = .ok (.iload_n 1, 1) := by decide +kernel
theorem dX6_groups_28 : decode cX6_groups 28 = .ok (.lookupswitch 44 #[(0, 28), (1, 36)], 28) := by decide +kernel
theorem dX6_groups_56 : decode cX6_groups 56 = .ok (.aload_n 0, 1) := by decide +kernel
theorem dX6_groups_57 : decode cX6_groups 57 = .ok (.getfield 42, 3) := by decide +kernel
theorem dX6_groups_60 : decode cX6_groups 60 = .ok (.invokevirtual 198, 3) := by decide +kernel
theorem dX6_groups_63 : decode cX6_groups 63 = .ok (.ireturn, 1) := by decide +kernel
theorem dX6_groups_64 : decode cX6_groups 64 = .ok (.aload_n 0, 1) := by decide +kernel
theorem dX6_groups_65 : decode cX6_groups 65 = .ok (.getfield 42, 3) := by decide +kernel
theorem dX6_groups_68 : decode cX6_groups 68 = .ok (.invokevirtual 201, 3) := by decide +kernel
theorem dX6_groups_71 : decode cX6_groups 71 = .ok (.ireturn, 1) := by decide +kernel
theorem dX6_groups_72 : decode cX6_groups 72 = .ok (.aload_n 0, 1) := by decide +kernel
theorem dX6_groups_73 : decode cX6_groups 73 = .ok (.getfield 42, 3) := by decide +kernel
theorem dX6_groups_76 : decode cX6_groups 76 = .ok (.invokevirtual 204, 3) := by decide +kernel
theorem dX6_groups_79 : decode cX6_groups 79 = .ok (.ireturn, 1) := by decide +kernel
theorem dX6_clan_0 : decode cX6_clan 0 = .ok (.iload_n 1, 1) := by decide +kernel
theorem dX6_clan_1 : decode cX6_clan 1 = .ok (.iconst 1, 1) := by decide +kernel
theorem dX6_clan_2 : decode cX6_clan 2 = .ok (.invokestatic 114, 3) := by decide +kernel
theorem dX6_clan_5 : decode cX6_clan 5 = .ok (.istore_n 2, 1) := by decide +kernel
theorem dX6_clan_6 : decode cX6_clan 6 = .ok (.iload_n 2, 1) := by decide +kernel
theorem dX6_clan_7 : decode cX6_clan 7 = .ok (.ifCond .eq 9, 3) := by decide +kernel
theorem dX6_clan_10 : decode cX6_clan 10 = .ok (.aload_n 0, 1) := by decide +kernel
theorem dX6_clan_11 : decode cX6_clan 11 = .ok (.iload_n 2, 1) := by decide +kernel
theorem dX6_clan_12 : decode cX6_clan 12 = .ok (.invokevirtual 84, 3) := by decide +kernel
theorem dX6_clan_15 : decode cX6_clan 15 = .ok (.ireturn, 1) := by decide +kernel
theorem dX6_clan_16 : decode cX6_clan 16 = .ok (.aload_n 0, 1) := by decide +kernel
theorem dX6_clan_17 : decode cX6_clan 17 = .ok (.getfield 42, 3) := by decide +kernel
theorem dX6_clan_20 : decode cX6_clan 20 = .ok (.aload_n 0, 1) := by decide +kernel
theorem dX6_clan_21 : decode cX6_clan 21 = .ok (.getfield 10, 3) := by decide +kernel
theorem dX6_clan_24 : decode cX6_clan 24 = .ok (.invokevirtual 189, 3) := by decide +kernel
theorem dX6_clan_27 : decode cX6_clan 27 = .ok (.aload_n 0, 1) := by decide +kernel
theorem dX6_clan_28 : decode cX6_clan 28 = .ok (.getfield 42, 3) := by decide +kernel
theorem dX6_clan_31 : decode cX6_clan 31 = .ok (.invokevirtual 207, 3) := by decide +kernel
theorem dX6_clan_34 : decode cX6_clan 34 = .ok (.istore_n 3, 1) := by decide +kernel
theorem dX6_clan_35 : decode cX6_clan 35 = .ok (.iload_n 1, 1) := by decide +kernel
theorem dX6_clan_36 : decode cX6_clan 36 = .ok (.ifCond .ne 7, 3) := by decide +kernel
theorem dX6_clan_39 : decode cX6_clan 39 = .ok (.iload_n 3, 1) := by decide +kernel
theorem dX6_clan_40 : decode cX6_clan 40 = .ok (.goto 7, 3) := by decide +kernel
theorem dX6_clan_43 : decode cX6_clan 43 = .ok (.iload_n 3, 1) := by decide +kernel
theorem dX6_clan_44 : decode cX6_clan 44 = .ok (.invokestatic 130, 3) := by decide +kernel
theorem dX6_clan_47 : decode cX6_clan 47 = .ok (.ireturn, 1) := by decide +kernel
theorem dX6_bestSign_0 : decode cX6_bestSign 0 = .ok (.aload_n 0, 1) := by decide +kernel
theorem dX6_bestSign_1 : decode cX6_bestSign 1 = .ok (.iconst 0, 1) := by decide +kernel
theorem dX6_bestSign_2 : decode cX6_bestSign 2 = .ok (.iload_n 1, 1) := by decide +kernel
theorem dX6_bestSign_3 : decode cX6_bestSign 3 = .ok (.iload_n 2, 1) := by decide +kernel
theorem dX6_bestSign_4 : decode cX6_bestSign 4 = .ok (.invokevirtual 210, 3) := by decide +kernel
theorem dX6_bestSign_7 : decode cX6_bestSign 7 = .ok (.ireturn, 1) := by decide +kernel
theorem dX6_bestCut_0 : decode cX6_bestCut 0 = .ok (.aload_n 0, 1) := by decide +kernel
theorem dX6_bestCut_1 : decode cX6_bestCut 1 = .ok (.iconst 1, 1) := by decide +kernel
theorem dX6_bestCut_2 : decode cX6_bestCut 2 = .ok (.iload_n 1, 1) := by decide +kernel
theorem dX6_bestCut_3 : decode cX6_bestCut 3 = .ok (.iload_n 2, 1) := by decide +kernel
theorem dX6_bestCut_4 : decode cX6_bestCut 4 = .ok (.invokevirtual 210, 3) := by decide +kernel
theorem dX6_bestCut_7 : decode cX6_bestCut 7 = .ok (.ireturn, 1) := by decide +kernel
theorem dX6_feudCosts_0 : decode cX6_feudCosts 0 = .ok (.aload_n 0, 1) := by decide +kernel
theorem dX6_feudCosts_1 : decode cX6_feudCosts 1 = .ok (.iload_n 1, 1) := by decide +kernel
theorem dX6_feudCosts_2 : decode cX6_feudCosts 2 = .ok (.iload_n 2, 1) := by decide +kernel
theorem dX6_feudCosts_3 : decode cX6_feudCosts 3 = .ok (.invokevirtual 138, 3) := by decide +kernel
theorem dX6_feudCosts_6 : decode cX6_feudCosts 6 = .ok (.iload_n 3, 1) := by decide +kernel
theorem dX6_feudCosts_7 : decode cX6_feudCosts 7 = .ok (.iconst 0, 1) := by decide +kernel
theorem dX6_feudCosts_8 : decode cX6_feudCosts 8 = .ok (.bipush 60, 2) := by decide +kernel
theorem dX6_feudCosts_10 : decode cX6_feudCosts 10 = .ok (.invokestatic 73, 3) := by decide +kernel
theorem dX6_feudCosts_13 : decode cX6_feudCosts 13 = .ok (.iconst 0, 1) := by decide +kernel
theorem dX6_feudCosts_14 : decode cX6_feudCosts 14 = .ok (.invokestatic 81, 3) := by decide +kernel
theorem dX6_feudCosts_17 : decode cX6_feudCosts 17 = .ok (.istore 4, 2) := by decide +kernel
theorem dX6_feudCosts_19 : decode cX6_feudCosts 19 = .ok (.iload 4, 2) := by decide +kernel
theorem dX6_feudCosts_21 : decode cX6_feudCosts 21 = .ok (.ifCond .eq 13, 3) := by decide +kernel
theorem dX6_feudCosts_24 : decode cX6_feudCosts 24 = .ok (.ldc 213, 2) := by decide +kernel
theorem dX6_feudCosts_26 : decode cX6_feudCosts 26 = .ok (.aload_n 0, 1) := by decide +kernel
theorem dX6_feudCosts_27 : decode cX6_feudCosts 27 = .ok (.iload 4, 2) := by decide +kernel
theorem dX6_feudCosts_29 : decode cX6_feudCosts 29 = .ok (.invokevirtual 84, 3) := by decide +kernel
theorem dX6_feudCosts_32 : decode cX6_feudCosts 32 = .ok (.isub, 1) := by decide +kernel
theorem dX6_feudCosts_33 : decode cX6_feudCosts 33 = .ok (.ireturn, 1) := by decide +kernel
theorem dX6_feudCosts_34 : decode cX6_feudCosts 34 = .ok (.aload_n 0, 1) := by decide +kernel
theorem dX6_feudCosts_35 : decode cX6_feudCosts 35 = .ok (.iload_n 1, 1) := by decide +kernel
theorem dX6_feudCosts_36 : decode cX6_feudCosts 36 = .ok (.iload_n 2, 1) := by decide +kernel
theorem dX6_feudCosts_37 : decode cX6_feudCosts 37 = .ok (.iconst 0, 1) := by decide +kernel
theorem dX6_feudCosts_38 : decode cX6_feudCosts 38 = .ok (.iload_n 3, 1) := by decide +kernel
theorem dX6_feudCosts_39 : decode cX6_feudCosts 39 = .ok (.invokevirtual 214, 3) := by decide +kernel
theorem dX6_feudCosts_42 : decode cX6_feudCosts 42 = .ok (.aload_n 0, 1) := by decide +kernel
theorem dX6_feudCosts_43 : decode cX6_feudCosts 43 = .ok (.iload_n 1, 1) := by decide +kernel
theorem dX6_feudCosts_44 : decode cX6_feudCosts 44 = .ok (.iload_n 2, 1) := by decide +kernel
theorem dX6_feudCosts_45 : decode cX6_feudCosts 45 = .ok (.iconst 1, 1) := by decide +kernel
theorem dX6_feudCosts_46 : decode cX6_feudCosts 46 = .ok (.iload_n 3, 1) := by decide +kernel
theorem dX6_feudCosts_47 : decode cX6_feudCosts 47 = .ok (.invokevirtual 214, 3) := by decide +kernel
theorem dX6_feudCosts_50 : decode cX6_feudCosts 50 = .ok (.isub, 1) := by decide +kernel
theorem dX6_feudCosts_51 : decode cX6_feudCosts 51 = .ok (.ireturn, 1) := by decide +kernel
theorem dX6_peace_0 : decode cX6_peace 0 = .ok (.iconst 0, 1) := by decide +kernel
theorem dX6_peace_1 : decode cX6_peace 1 = .ok (.istore_n 1, 1) := by decide +kernel
theorem dX6_peace_2 : decode cX6_peace 2 = .ok (.iload_n 1, 1) := by decide +kernel
theorem dX6_peace_3 : decode cX6_peace 3 = .ok (.aload_n 0, 1) := by decide +kernel
theorem dX6_peace_4 : decode cX6_peace 4 = .ok (.getfield 10, 3) := by decide +kernel
theorem dX6_peace_7 : decode cX6_peace 7 = .ok (.getfield 186, 3) := by decide +kernel
theorem dX6_peace_10 : decode cX6_peace 10 = .ok (.if_icmp .ge 73, 3) := by decide +kernel
theorem dX6_peace_13 : decode cX6_peace 13 = .ok (.iload_n 1, 1) := by decide +kernel
theorem dX6_peace_14 : decode cX6_peace 14 = .ok (.iconst 1, 1) := by decide +kernel
theorem dX6_peace_15 : decode cX6_peace 15 = .ok (.iadd, 1) := by decide +kernel
theorem dX6_peace_16 : decode cX6_peace 16 = .ok (.istore_n 2, 1) := by decide +kernel
theorem dX6_peace_17 : decode cX6_peace 17 = .ok (.iload_n 2, 1) := by decide +kernel
theorem dX6_peace_18 : decode cX6_peace 18 = .ok (.aload_n 0, 1) := by decide +kernel
theorem dX6_peace_19 : decode cX6_peace 19 = .ok (.getfield 10, 3) := by decide +kernel
theorem dX6_peace_22 : decode cX6_peace 22 = .ok (.getfield 186, 3) := by decide +kernel
theorem dX6_peace_25 : decode cX6_peace 25 = .ok (.if_icmp .ge 52, 3) := by decide +kernel
theorem dX6_peace_28 : decode cX6_peace 28 = .ok (.aload_n 0, 1) := by decide +kernel
theorem dX6_peace_29 : decode cX6_peace 29 = .ok (.getfield 10, 3) := by decide +kernel
theorem dX6_peace_32 : decode cX6_peace 32 = .ok (.iload_n 1, 1) := by decide +kernel
theorem dX6_peace_33 : decode cX6_peace 33 = .ok (.iload_n 2, 1) := by decide +kernel
theorem dX6_peace_34 : decode cX6_peace 34 = .ok (.invokevirtual 149, 3) := by decide +kernel
theorem dX6_peace_37 : decode cX6_peace 37 = .ok (.ifCond .eq 34, 3) := by decide +kernel
theorem dX6_peace_40 : decode cX6_peace 40 = .ok (.aload_n 0, 1) := by decide +kernel
theorem dX6_peace_41 : decode cX6_peace 41 = .ok (.getfield 10, 3) := by decide +kernel
theorem dX6_peace_44 : decode cX6_peace 44 = .ok (.iload_n 1, 1) := by decide +kernel
theorem dX6_peace_45 : decode cX6_peace 45 = .ok (.iload_n 2, 1) := by decide +kernel
theorem dX6_peace_46 : decode cX6_peace 46 = .ok (.invokevirtual 141, 3) := by decide +kernel
theorem dX6_peace_49 : decode cX6_peace 49 = .ok (.ifCond .eq 22, 3) := by decide +kernel
theorem dX6_peace_52 : decode cX6_peace 52 = .ok (.aload_n 0, 1) := by decide +kernel
theorem dX6_peace_53 : decode cX6_peace 53 = .ok (.getfield 10, 3) := by decide +kernel
theorem dX6_peace_56 : decode cX6_peace 56 = .ok (.iload_n 2, 1) := by decide +kernel
theorem dX6_peace_57 : decode cX6_peace 57 = .ok (.iload_n 1, 1) := by decide +kernel
theorem dX6_peace_58 : decode cX6_peace 58 = .ok (.invokevirtual 141, 3) := by decide +kernel
theorem dX6_peace_61 : decode cX6_peace 61 = .ok (.ifCond .eq 10, 3) := by decide +kernel
theorem dX6_peace_64 : decode cX6_peace 64 = .ok (.bipush 10, 2) := by decide +kernel
theorem dX6_peace_66 : decode cX6_peace 66 = .ok (.iload_n 1, 1) := by decide +kernel
theorem dX6_peace_67 : decode cX6_peace 67 = .ok (.imul, 1) := by decide +kernel
theorem dX6_peace_68 : decode cX6_peace 68 = .ok (.iload_n 2, 1) := by decide +kernel
theorem dX6_peace_69 : decode cX6_peace 69 = .ok (.iadd, 1) := by decide +kernel
theorem dX6_peace_70 : decode cX6_peace 70 = .ok (.ireturn, 1) := by decide +kernel
theorem dX6_peace_71 : decode cX6_peace 71 = .ok (.iinc 2 1, 3) := by decide +kernel
theorem dX6_peace_74 : decode cX6_peace 74 = .ok (.goto (-57), 3) := by decide +kernel
theorem dX6_peace_77 : decode cX6_peace 77 = .ok (.iinc 1 1, 3) := by decide +kernel
theorem dX6_peace_80 : decode cX6_peace 80 = .ok (.goto (-78), 3) := by decide +kernel
theorem dX6_peace_83 : decode cX6_peace 83 = .ok (.bipush (-9), 2) := by decide +kernel
theorem dX6_peace_85 : decode cX6_peace 85 = .ok (.ireturn, 1) := by decide +kernel
theorem dX6_will_0 : decode cX6_will 0 = .ok (.aload_n 0, 1) := by decide +kernel
theorem dX6_will_1 : decode cX6_will 1 = .ok (.iload_n 1, 1) := by decide +kernel
theorem dX6_will_2 : decode cX6_will 2 = .ok (.iload_n 2, 1) := by decide +kernel
theorem dX6_will_3 : decode cX6_will 3 = .ok (.invokevirtual 138, 3) := by decide +kernel
theorem dX6_will_6 : decode cX6_will 6 = .ok (.istore_n 3, 1) := by decide +kernel
theorem dX6_will_7 : decode cX6_will 7 = .ok (.iload_n 3, 1) := by decide +kernel
theorem dX6_will_8 : decode cX6_will 8 = .ok (.ifCond .eq 9, 3) := by decide +kernel
theorem dX6_will_11 : decode cX6_will 11 = .ok (.aload_n 0, 1) := by decide +kernel
theorem dX6_will_12 : decode cX6_will 12 = .ok (.iload_n 3, 1) := by decide +kernel
theorem dX6_will_13 : decode cX6_will 13 = .ok (.invokevirtual 84, 3) := by decide +kernel
theorem dX6_will_16 : decode cX6_will 16 = .ok (.ireturn, 1) := by decide +kernel
theorem dX6_will_17 : decode cX6_will 17 = .ok (.aload_n 0, 1) := by decide +kernel
theorem dX6_will_18 : decode cX6_will 18 = .ok (.getfield 10, 3) := by decide +kernel
theorem dX6_will_21 : decode cX6_will 21 = .ok (.iload_n 1, 1) := by decide +kernel
theorem dX6_will_22 : decode cX6_will 22 = .ok (.invokevirtual 127, 3) := by decide +kernel
theorem dX6_will_25 : decode cX6_will 25 = .ok (.istore 4, 2) := by decide +kernel
theorem dX6_will_27 : decode cX6_will 27 = .ok (.iload 4, 2) := by decide +kernel
theorem dX6_will_29 : decode cX6_will 29 = .ok (.invokestatic 130, 3) := by decide +kernel
theorem dX6_will_32 : decode cX6_will 32 = .ok (.istore 5, 2) := by decide +kernel
theorem dX6_will_34 : decode cX6_will 34 = .ok (.iload 5, 2) := by decide +kernel
theorem dX6_will_36 : decode cX6_will 36 = .ok (.ifCond .eq 12, 3) := by decide +kernel
theorem dX6_will_39 : decode cX6_will 39 = .ok (.iload 4, 2) := by decide +kernel
theorem dX6_will_41 : decode cX6_will 41 = .ok (.iload_n 2, 1) := by decide +kernel
theorem dX6_will_42 : decode cX6_will 42 = .ok (.invokestatic 218, 3) := by decide +kernel
theorem dX6_will_45 : decode cX6_will 45 = .ok (.ifCond .ne 6, 3) := by decide +kernel
theorem dX6_will_48 : decode cX6_will 48 = .ok (.bipush (-9), 2) := by decide +kernel
theorem dX6_will_50 : decode cX6_will 50 = .ok (.ireturn, 1) := by decide +kernel
theorem dX6_will_51 : decode cX6_will 51 = .ok (.iload 4, 2) := by decide +kernel
theorem dX6_will_53 : decode cX6_will 53 = .ok (.iconst 1, 1) := by decide +kernel
theorem dX6_will_54 : decode cX6_will 54 = .ok (.iload_n 2, 1) := by decide +kernel
theorem dX6_will_55 : decode cX6_will 55 = .ok (.ishl, 1) := by decide +kernel
theorem dX6_will_56 : decode cX6_will 56 = .ok (.iconst 1, 1) := by decide +kernel
theorem dX6_will_57 : decode cX6_will 57 = .ok (.isub, 1) := by decide +kernel
theorem dX6_will_58 : decode cX6_will 58 = .ok (.iand, 1) := by decide +kernel
theorem dX6_will_59 : decode cX6_will 59 = .ok (.invokestatic 130, 3) := by decide +kernel
theorem dX6_will_62 : decode cX6_will 62 = .ok (.istore 6, 2) := by decide +kernel
theorem dX6_will_64 : decode cX6_will 64 = .ok (.aload_n 0, 1) := by decide +kernel
theorem dX6_will_65 : decode cX6_will 65 = .ok (.getfield 10, 3) := by decide +kernel
theorem dX6_will_68 : decode cX6_will 68 = .ok (.getfield 124, 3) := by decide +kernel
theorem dX6_will_71 : decode cX6_will 71 = .ok (.iload_n 1, 1) := by decide +kernel
theorem dX6_will_72 : decode cX6_will 72 = .ok (.iaload, 1) := by decide +kernel
theorem dX6_will_73 : decode cX6_will 73 = .ok (.iload 5, 2) := by decide +kernel
theorem dX6_will_75 : decode cX6_will 75 = .ok (.idiv, 1) := by decide +kernel
theorem dX6_will_76 : decode cX6_will 76 = .ok (.iload 6, 2) := by decide +kernel
theorem dX6_will_78 : decode cX6_will 78 = .ok (.aload_n 0, 1) := by decide +kernel
theorem dX6_will_79 : decode cX6_will 79 = .ok (.getfield 10, 3) := by decide +kernel
theorem dX6_will_82 : decode cX6_will 82 = .ok (.getfield 124, 3) := by decide +kernel
theorem dX6_will_85 : decode cX6_will 85 = .ok (.iload_n 1, 1) := by decide +kernel
theorem dX6_will_86 : decode cX6_will 86 = .ok (.iaload, 1) := by decide +kernel
theorem dX6_will_87 : decode cX6_will 87 = .ok (.iload 5, 2) := by decide +kernel
theorem dX6_will_89 : decode cX6_will 89 = .ok (.irem, 1) := by decide +kernel
theorem dX6_will_90 : decode cX6_will 90 = .ok (.if_icmp .ge 7, 3) := by decide +kernel
theorem dX6_will_93 : decode cX6_will 93 = .ok (.iconst 1, 1) := by decide +kernel
theorem dX6_will_94 : decode cX6_will 94 = .ok (.goto 4, 3) := by decide +kernel
theorem dX6_will_97 : decode cX6_will 97 = .ok (.iconst 0, 1) := by decide +kernel
theorem dX6_will_98 : decode cX6_will 98 = .ok (.invokestatic 145, 3) := by decide +kernel
theorem dX6_will_101 : decode cX6_will 101 = .ok (.iadd, 1) := by decide +kernel
theorem dX6_will_102 : decode cX6_will 102 = .ok (.ireturn, 1) := by decide +kernel
theorem dX6_rooms_0 : decode cX6_rooms 0 = .ok (.iload_n 1, 1) := by decide +kernel
theorem dX6_rooms_1 : decode cX6_rooms 1 = .ok (.iconst (-1), 1) := by decide +kernel
theorem dX6_rooms_2 : decode cX6_rooms 2 = .ok (.if_icmp .ne 7, 3) := by decide +kernel
theorem dX6_rooms_5 : decode cX6_rooms 5 = .ok (.iconst 0, 1) := by decide +kernel
theorem dX6_rooms_6 : decode cX6_rooms 6 = .ok (.goto 8, 3) := by decide +kernel
theorem dX6_rooms_9 : decode cX6_rooms 9 = .ok (.aload_n 0, 1) := by decide +kernel
theorem dX6_rooms_10 : decode cX6_rooms 10 = .ok (.iload_n 1, 1) := by decide +kernel
theorem dX6_rooms_11 : decode cX6_rooms 11 = .ok (.invokevirtual 111, 3) := by decide +kernel
theorem dX6_rooms_14 : decode cX6_rooms 14 = .ok (.istore_n 2, 1) := by decide +kernel
theorem dX6_rooms_15 : decode cX6_rooms 15 = .ok (.iload_n 2, 1) := by decide +kernel
theorem dX6_rooms_16 : decode cX6_rooms 16 = .ok (.ifCond .eq 9, 3) := by decide +kernel
theorem dX6_rooms_19 : decode cX6_rooms 19 = .ok (.aload_n 0, 1) := by decide +kernel
theorem dX6_rooms_20 : decode cX6_rooms 20 = .ok (.iload_n 2, 1) := by decide +kernel
theorem dX6_rooms_21 : decode cX6_rooms 21 = .ok (.invokevirtual 84, 3) := by decide +kernel
theorem dX6_rooms_24 : decode cX6_rooms 24 = .ok (.ireturn, 1) := by decide +kernel
theorem dX6_rooms_25 : decode cX6_rooms 25 = .ok (.aload_n 0, 1) := by decide +kernel
theorem dX6_rooms_26 : decode cX6_rooms 26 = .ok (.getfield 49, 3) := by decide +kernel
theorem dX6_rooms_29 : decode cX6_rooms 29 = .ok (.aload_n 0, 1) := by decide +kernel
theorem dX6_rooms_30 : decode cX6_rooms 30 = .ok (.getfield 10, 3) := by decide +kernel
theorem dX6_rooms_33 : decode cX6_rooms 33 = .ok (.invokevirtual 221, 3) := by decide +kernel
theorem dX6_rooms_36 : decode cX6_rooms 36 = .ok (.istore_n 3, 1) := by decide +kernel
theorem dX6_rooms_37 : decode cX6_rooms 37 = .ok (.iload_n 1, 1) := by decide +kernel
theorem dX6_rooms_38 : decode cX6_rooms 38 = .ok (.iconst (-1), 1) := by decide +kernel
theorem dX6_rooms_39 : decode cX6_rooms 39 = .ok (.if_icmp .ne 7, 3) := by decide +kernel
theorem dX6_rooms_42 : decode cX6_rooms 42 = .ok (.iload_n 3, 1) := by decide +kernel
theorem dX6_rooms_43 : decode cX6_rooms 43 = .ok (.goto 11, 3) := by decide +kernel
theorem dX6_rooms_46 : decode cX6_rooms 46 = .ok (.aload_n 0, 1) := by decide +kernel
theorem dX6_rooms_47 : decode cX6_rooms 47 = .ok (.getfield 49, 3) := by decide +kernel
theorem dX6_rooms_50 : decode cX6_rooms 50 = .ok (.iload_n 1, 1) := by decide +kernel
theorem dX6_rooms_51 : decode cX6_rooms 51 = .ok (.invokevirtual 224, 3) := by decide +kernel
theorem dX6_rooms_54 : decode cX6_rooms 54 = .ok (.ireturn, 1) := by decide +kernel
theorem dX6_couples_0 : decode cX6_couples 0 = .ok (.iload_n 1, 1) := by decide +kernel
theorem dX6_couples_1 : decode cX6_couples 1 = .ok (.iconst 0, 1) := by decide +kernel
theorem dX6_couples_2 : decode cX6_couples 2 = .ok (.bipush 99, 2) := by decide +kernel
theorem dX6_couples_4 : decode cX6_couples 4 = .ok (.invokestatic 73, 3) := by decide +kernel
theorem dX6_couples_7 : decode cX6_couples 7 = .ok (.iload_n 2, 1) := by decide +kernel
theorem dX6_couples_8 : decode cX6_couples 8 = .ok (.iconst (-1), 1) := by decide +kernel
theorem dX6_couples_9 : decode cX6_couples 9 = .ok (.if_icmp .ne 7, 3) := by decide +kernel
theorem dX6_couples_12 : decode cX6_couples 12 = .ok (.iconst 0, 1) := by decide +kernel
theorem dX6_couples_13 : decode cX6_couples 13 = .ok (.goto 8, 3) := by decide +kernel
theorem dX6_couples_16 : decode cX6_couples 16 = .ok (.aload_n 0, 1) := by decide +kernel
theorem dX6_couples_17 : decode cX6_couples 17 = .ok (.iload_n 2, 1) := by decide +kernel
theorem dX6_couples_18 : decode cX6_couples 18 = .ok (.invokevirtual 111, 3) := by decide +kernel
theorem dX6_couples_21 : decode cX6_couples 21 = .ok (.iconst 0, 1) := by decide +kernel
theorem dX6_couples_22 : decode cX6_couples 22 = .ok (.invokestatic 81, 3) := by decide +kernel
theorem dX6_couples_25 : decode cX6_couples 25 = .ok (.istore_n 3, 1) := by decide +kernel
theorem dX6_couples_26 : decode cX6_couples 26 = .ok (.iload_n 3, 1) := by decide +kernel
theorem dX6_couples_27 : decode cX6_couples 27 = .ok (.ifCond .eq 9, 3) := by decide +kernel
theorem dX6_couples_30 : decode cX6_couples 30 = .ok (.aload_n 0, 1) := by decide +kernel
theorem dX6_couples_31 : decode cX6_couples 31 = .ok (.iload_n 3, 1) := by decide +kernel
theorem dX6_couples_32 : decode cX6_couples 32 = .ok (.invokevirtual 84, 3) := by decide +kernel
theorem dX6_couples_35 : decode cX6_couples 35 = .ok (.ireturn, 1) := by decide +kernel
theorem dX6_couples_36 : decode cX6_couples 36 = .ok (.aload_n 0, 1) := by decide +kernel
theorem dX6_couples_37 : decode cX6_couples 37 = .ok (.getfield 56, 3) := by decide +kernel
theorem dX6_couples_40 : decode cX6_couples 40 = .ok (.aload_n 0, 1) := by decide +kernel
theorem dX6_couples_41 : decode cX6_couples 41 = .ok (.getfield 10, 3) := by decide +kernel
theorem dX6_couples_44 : decode cX6_couples 44 = .ok (.iload_n 1, 1) := by decide +kernel
theorem dX6_couples_45 : decode cX6_couples 45 = .ok (.invokevirtual 227, 3) := by decide +kernel
theorem dX6_couples_48 : decode cX6_couples 48 = .ok (.istore 4, 2) := by decide +kernel
theorem dX6_couples_50 : decode cX6_couples 50 = .ok (.iload_n 2, 1) := by decide +kernel
theorem dX6_couples_51 : decode cX6_couples 51 = .ok (.iconst (-1), 1) := by decide +kernel
theorem dX6_couples_52 : decode cX6_couples 52 = .ok (.if_icmp .ne 8, 3) := by decide +kernel
theorem dX6_couples_55 : decode cX6_couples 55 = .ok (.iload 4, 2) := by decide +kernel
theorem dX6_couples_57 : decode cX6_couples 57 = .ok (.goto 11, 3) := by decide +kernel
theorem dX6_couples_60 : decode cX6_couples 60 = .ok (.aload_n 0, 1) := by decide +kernel
theorem dX6_couples_61 : decode cX6_couples 61 = .ok (.getfield 56, 3) := by decide +kernel
theorem dX6_couples_64 : decode cX6_couples 64 = .ok (.iload_n 2, 1) := by decide +kernel
theorem dX6_couples_65 : decode cX6_couples 65 = .ok (.invokevirtual 231, 3) := by decide +kernel
theorem dX6_couples_68 : decode cX6_couples 68 = .ok (.ireturn, 1) := by decide +kernel
theorem dX6_buys_0 : decode cX6_buys 0 = .ok (.aload_n 0, 1) := by decide +kernel
theorem dX6_buys_1 : decode cX6_buys 1 = .ok (.iconst 2, 1) := by decide +kernel
theorem dX6_buys_2 : decode cX6_buys 2 = .ok (.iload_n 1, 1) := by decide +kernel
theorem dX6_buys_3 : decode cX6_buys 3 = .ok (.iload_n 2, 1) := by decide +kernel
theorem dX6_buys_4 : decode cX6_buys 4 = .ok (.invokevirtual 210, 3) := by decide +kernel
theorem dX6_buys_7 : decode cX6_buys 7 = .ok (.ireturn, 1) := by decide +kernel
theorem dX6_matters_0 : decode cX6_matters 0 = .ok (.iload_n 1, 1) := by decide +kernel
theorem dX6_matters_1 : decode cX6_matters 1 = .ok (.iconst 1, 1) := by decide +kernel
theorem dX6_matters_2 : decode cX6_matters 2 = .ok (.invokestatic 114, 3) := by decide +kernel
theorem dX6_matters_5 : decode cX6_matters 5 = .ok (.istore_n 2, 1) := by decide +kernel
theorem dX6_matters_6 : decode cX6_matters 6 = .ok (.iload_n 2, 1) := by decide +kernel
theorem dX6_matters_7 : decode cX6_matters 7 = .ok (.ifCond .eq 9, 3) := by decide +kernel
theorem dX6_matters_10 : decode cX6_matters 10 = .ok (.aload_n 0, 1) := by decide +kernel
theorem dX6_matters_11 : decode cX6_matters 11 = .ok (.iload_n 2, 1) := by decide +kernel
theorem dX6_matters_12 : decode cX6_matters 12 = .ok (.invokevirtual 84, 3) := by decide +kernel
theorem dX6_matters_15 : decode cX6_matters 15 = .ok (.ireturn, 1) := by decide +kernel
theorem dX6_matters_16 : decode cX6_matters 16 = .ok (.aload_n 0, 1) := by decide +kernel
theorem dX6_matters_17 : decode cX6_matters 17 = .ok (.getfield 10, 3) := by decide +kernel
theorem dX6_matters_20 : decode cX6_matters 20 = .ok (.invokevirtual 234, 3) := by decide +kernel
theorem dX6_matters_23 : decode cX6_matters 23 = .ok (.istore_n 3, 1) := by decide +kernel
theorem dX6_matters_24 : decode cX6_matters 24 = .ok (.bipush (-9), 2) := by decide +kernel
theorem dX6_matters_26 : decode cX6_matters 26 = .ok (.istore 4, 2) := by decide +kernel
theorem dX6_matters_28 : decode cX6_matters 28 = .ok (.bipush (-9), 2) := by decide +kernel
theorem dX6_matters_30 : decode cX6_matters 30 = .ok (.istore 5, 2) := by decide +kernel
theorem dX6_matters_32 : decode cX6_matters 32 = .ok (.iconst 0, 1) := by decide +kernel
theorem dX6_matters_33 : decode cX6_matters 33 = .ok (.istore 6, 2) := by decide +kernel
theorem dX6_matters_35 : decode cX6_matters 35 = .ok (.iload 6, 2) := by decide +kernel
theorem dX6_matters_37 : decode cX6_matters 37 = .ok (.aload_n 0, 1) := by decide +kernel
theorem dX6_matters_38 : decode cX6_matters 38 = .ok (.getfield 10, 3) := by decide +kernel
theorem dX6_matters_41 : decode cX6_matters 41 = .ok (.getfield 186, 3) := by decide +kernel
theorem dX6_matters_44 : decode cX6_matters 44 = .ok (.if_icmp .ge 47, 3) := by decide +kernel
theorem dX6_matters_47 : decode cX6_matters 47 = .ok (.iload_n 3, 1) := by decide +kernel
theorem dX6_matters_48 : decode cX6_matters 48 = .ok (.aload_n 0, 1) := by decide +kernel
theorem dX6_matters_49 : decode cX6_matters 49 = .ok (.getfield 10, 3) := by decide +kernel
theorem dX6_matters_52 : decode cX6_matters 52 = .ok (.iload 6, 2) := by decide +kernel
theorem dX6_matters_54 : decode cX6_matters 54 = .ok (.invokevirtual 127, 3) := by decide +kernel
theorem dX6_matters_57 : decode cX6_matters 57 = .ok (.invokestatic 130, 3) := by decide +kernel
theorem dX6_matters_60 : decode cX6_matters 60 = .ok (.isub, 1) := by decide +kernel
theorem dX6_matters_61 : decode cX6_matters 61 = .ok (.istore 7, 2) := by decide +kernel
theorem dX6_matters_63 : decode cX6_matters 63 = .ok (.iload 4, 2) := by decide +kernel
theorem dX6_matters_65 : decode cX6_matters 65 = .ok (.bipush (-9), 2) := by decide +kernel
theorem dX6_matters_67 : decode cX6_matters 67 = .ok (.if_icmp .eq 10, 3) := by decide +kernel
theorem dX6_matters_70 : decode cX6_matters 70 = .ok (.iload 7, 2) := by decide +kernel
theorem dX6_matters_72 : decode cX6_matters 72 = .ok (.iload 5, 2) := by decide +kernel
theorem dX6_matters_74 : decode cX6_matters 74 = .ok (.if_icmp .ge 11, 3) := by decide +kernel
theorem dX6_matters_77 : decode cX6_matters 77 = .ok (.iload 6, 2) := by decide +kernel
theorem dX6_matters_79 : decode cX6_matters 79 = .ok (.istore 4, 2) := by decide +kernel
theorem dX6_matters_81 : decode cX6_matters 81 = .ok (.iload 7, 2) := by decide +kernel
theorem dX6_matters_83 : decode cX6_matters 83 = .ok (.istore 5, 2) := by decide +kernel
theorem dX6_matters_85 : decode cX6_matters 85 = .ok (.iinc 6 1, 3) := by decide +kernel
theorem dX6_matters_88 : decode cX6_matters 88 = .ok (.goto (-53), 3) := by decide +kernel
theorem dX6_matters_91 : decode cX6_matters 91 = .ok (.iload_n 1, 1) := by decide +kernel
theorem dX6_matters_92 : decode cX6_matters 92 = .ok (.ifCond .ne 8, 3) := by decide +kernel
theorem dX6_matters_95 : decode cX6_matters 95 = .ok (.iload 4, 2) := by decide +kernel
theorem dX6_matters_97 : decode cX6_matters 97 = .ok (.goto 5, 3) := by decide +kernel
theorem dX6_matters_100 : decode cX6_matters 100 = .ok (.iload 5, 2) := by decide +kernel
theorem dX6_matters_102 : decode cX6_matters 102 = .ok (.ireturn, 1) := by decide +kernel
theorem dX6_deaths_0 : decode cX6_deaths 0 = .ok (.aload_n 0, 1) := by decide +kernel
theorem dX6_deaths_1 : decode cX6_deaths 1 = .ok (.iload_n 1, 1) := by decide +kernel
theorem dX6_deaths_2 : decode cX6_deaths 2 = .ok (.iload_n 2, 1) := by decide +kernel
theorem dX6_deaths_3 : decode cX6_deaths 3 = .ok (.invokevirtual 138, 3) := by decide +kernel
theorem dX6_deaths_6 : decode cX6_deaths 6 = .ok (.iload_n 3, 1) := by decide +kernel
theorem dX6_deaths_7 : decode cX6_deaths 7 = .ok (.iload 4, 2) := by decide +kernel
theorem dX6_deaths_9 : decode cX6_deaths 9 = .ok (.iload 5, 2) := by decide +kernel
theorem dX6_deaths_11 : decode cX6_deaths 11 = .ok (.invokestatic 237, 3) := by decide +kernel
theorem dX6_deaths_14 : decode cX6_deaths 14 = .ok (.iload 6, 2) := by decide +kernel
theorem dX6_deaths_16 : decode cX6_deaths 16 = .ok (.iconst 1, 1) := by decide +kernel
theorem dX6_deaths_17 : decode cX6_deaths 17 = .ok (.invokestatic 114, 3) := by decide +kernel
theorem dX6_deaths_20 : decode cX6_deaths 20 = .ok (.invokestatic 81, 3) := by decide +kernel
theorem dX6_deaths_23 : decode cX6_deaths 23 = .ok (.istore 7, 2) := by decide +kernel
theorem dX6_deaths_25 : decode cX6_deaths 25 = .ok (.iload 7, 2) := by decide +kernel
theorem dX6_deaths_27 : decode cX6_deaths 27 = .ok (.ifCond .eq 15, 3) := by decide +kernel
theorem dX6_deaths_30 : decode cX6_deaths 30 = .ok (.ldc2_w 240, 3) := by decide +kernel
theorem dX6_deaths_33 : decode cX6_deaths 33 = .ok (.aload_n 0, 1) := by decide +kernel
theorem dX6_deaths_34 : decode cX6_deaths 34 = .ok (.iload 7, 2) := by decide +kernel
theorem dX6_deaths_36 : decode cX6_deaths 36 = .ok (.invokevirtual 84, 3) := by decide +kernel
theorem dX6_deaths_39 : decode cX6_deaths 39 = .ok (.i2l, 1) := by decide +kernel
theorem dX6_deaths_40 : decode cX6_deaths 40 = .ok (.lsub, 1) := by decide +kernel
theorem dX6_deaths_41 : decode cX6_deaths 41 = .ok (.lreturn, 1) := by decide +kernel
theorem dX6_deaths_42 : decode cX6_deaths 42 = .ok (.aload_n 0, 1) := by decide +kernel
theorem dX6_deaths_43 : decode cX6_deaths 43 = .ok (.getfield 63, 3) := by decide +kernel
theorem dX6_deaths_46 : decode cX6_deaths 46 = .ok (.aload_n 0, 1) := by decide +kernel
theorem dX6_deaths_47 : decode cX6_deaths 47 = .ok (.getfield 10, 3) := by decide +kernel
theorem dX6_deaths_50 : decode cX6_deaths 50 = .ok (.iload_n 1, 1) := by decide +kernel
theorem dX6_deaths_51 : decode cX6_deaths 51 = .ok (.iload_n 2, 1) := by decide +kernel
theorem dX6_deaths_52 : decode cX6_deaths 52 = .ok (.iload_n 3, 1) := by decide +kernel
theorem dX6_deaths_53 : decode cX6_deaths 53 = .ok (.iload 4, 2) := by decide +kernel
theorem dX6_deaths_55 : decode cX6_deaths 55 = .ok (.iload 5, 2) := by decide +kernel
theorem dX6_deaths_57 : decode cX6_deaths 57 = .ok (.invokevirtual 242, 3) := by decide +kernel
theorem dX6_deaths_60 : decode cX6_deaths 60 = .ok (.lstore 8, 2) := by decide +kernel
theorem dX6_deaths_62 : decode cX6_deaths 62 = .ok (.lload 8, 2) := by decide +kernel
theorem dX6_deaths_64 : decode cX6_deaths 64 = .ok (.iload_n 3, 1) := by decide +kernel
theorem dX6_deaths_65 : decode cX6_deaths 65 = .ok (.iload 4, 2) := by decide +kernel
theorem dX6_deaths_67 : decode cX6_deaths 67 = .ok (.invokestatic 246, 3) := by decide +kernel
theorem dX6_deaths_70 : decode cX6_deaths 70 = .ok (.iload 6, 2) := by decide +kernel
theorem dX6_deaths_72 : decode cX6_deaths 72 = .ok (.invokestatic 250, 3) := by decide +kernel
theorem dX6_deaths_75 : decode cX6_deaths 75 = .ok (.lreturn, 1) := by decide +kernel
theorem dX6_mean_0 : decode cX6_mean 0 = .ok (.iload_n 1, 1) := by decide +kernel
theorem dX6_mean_1 : decode cX6_mean 1 = .ok (.iconst 1, 1) := by decide +kernel
theorem dX6_mean_2 : decode cX6_mean 2 = .ok (.invokestatic 114, 3) := by decide +kernel
theorem dX6_mean_5 : decode cX6_mean 5 = .ok (.istore_n 2, 1) := by decide +kernel
theorem dX6_mean_6 : decode cX6_mean 6 = .ok (.iload_n 2, 1) := by decide +kernel
theorem dX6_mean_7 : decode cX6_mean 7 = .ok (.ifCond .eq 14, 3) := by decide +kernel
theorem dX6_mean_10 : decode cX6_mean 10 = .ok (.ldc2_w 240, 3) := by decide +kernel
theorem dX6_mean_13 : decode cX6_mean 13 = .ok (.aload_n 0, 1) := by decide +kernel
theorem dX6_mean_14 : decode cX6_mean 14 = .ok (.iload_n 2, 1) := by decide +kernel
theorem dX6_mean_15 : decode cX6_mean 15 = .ok (.invokevirtual 84, 3) := by decide +kernel
theorem dX6_mean_18 : decode cX6_mean 18 = .ok (.i2l, 1) := by decide +kernel
theorem dX6_mean_19 : decode cX6_mean 19 = .ok (.lsub, 1) := by decide +kernel
theorem dX6_mean_20 : decode cX6_mean 20 = .ok (.lreturn, 1) := by decide +kernel
theorem dX6_mean_21 : decode cX6_mean 21 = .ok (.aload_n 0, 1) := by decide +kernel
theorem dX6_mean_22 : decode cX6_mean 22 = .ok (.getfield 10, 3) := by decide +kernel
theorem dX6_mean_25 : decode cX6_mean 25 = .ok (.invokevirtual 171, 3) := by decide +kernel
theorem dX6_mean_28 : decode cX6_mean 28 = .ok (.i2l, 1) := by decide +kernel
theorem dX6_mean_29 : decode cX6_mean 29 = .ok (.iconst 1, 1) := by decide +kernel
theorem dX6_mean_30 : decode cX6_mean 30 = .ok (.aload_n 0, 1) := by decide +kernel
theorem dX6_mean_31 : decode cX6_mean 31 = .ok (.getfield 10, 3) := by decide +kernel
theorem dX6_mean_34 : decode cX6_mean 34 = .ok (.getfield 186, 3) := by decide +kernel
theorem dX6_mean_37 : decode cX6_mean 37 = .ok (.invokestatic 254, 3) := by decide +kernel
theorem dX6_mean_40 : decode cX6_mean 40 = .ok (.i2l, 1) := by decide +kernel
theorem dX6_mean_41 : decode cX6_mean 41 = .ok (.iload_n 1, 1) := by decide +kernel
theorem dX6_mean_42 : decode cX6_mean 42 = .ok (.invokestatic 250, 3) := by decide +kernel
theorem dX6_mean_45 : decode cX6_mean 45 = .ok (.lreturn, 1) := by decide +kernel
theorem dX6_two_0 : decode cX6_two 0 = .ok (.aload_n 0, 1) := by decide +kernel
theorem dX6_two_1 : decode cX6_two 1 = .ok (.iload_n 1, 1) := by decide +kernel
theorem dX6_two_2 : decode cX6_two 2 = .ok (.iload_n 2, 1) := by decide +kernel
theorem dX6_two_3 : decode cX6_two 3 = .ok (.invokevirtual 138, 3) := by decide +kernel
theorem dX6_two_6 : decode cX6_two 6 = .ok (.iload_n 3, 1) := by decide +kernel
theorem dX6_two_7 : decode cX6_two 7 = .ok (.iconst 0, 1) := by decide +kernel
theorem dX6_two_8 : decode cX6_two 8 = .ok (.bipush 20, 2) := by decide +kernel
theorem dX6_two_10 : decode cX6_two 10 = .ok (.invokestatic 73, 3) := by decide +kernel
theorem dX6_two_13 : decode cX6_two 13 = .ok (.iconst 0, 1) := by decide +kernel
theorem dX6_two_14 : decode cX6_two 14 = .ok (.invokestatic 81, 3) := by decide +kernel
theorem dX6_two_17 : decode cX6_two 17 = .ok (.istore 4, 2) := by decide +kernel
theorem dX6_two_19 : decode cX6_two 19 = .ok (.iload 4, 2) := by decide +kernel
theorem dX6_two_21 : decode cX6_two 21 = .ok (.ifCond .eq 10, 3) := by decide +kernel
theorem dX6_two_24 : decode cX6_two 24 = .ok (.aload_n 0, 1) := by decide +kernel
theorem dX6_two_25 : decode cX6_two 25 = .ok (.iload 4, 2) := by decide +kernel
theorem dX6_two_27 : decode cX6_two 27 = .ok (.invokevirtual 84, 3) := by decide +kernel
theorem dX6_two_30 : decode cX6_two 30 = .ok (.ireturn, 1) := by decide +kernel
theorem dX6_two_31 : decode cX6_two 31 = .ok (.iconst 0, 1) := by decide +kernel
theorem dX6_two_32 : decode cX6_two 32 = .ok (.istore 5, 2) := by decide +kernel
theorem dX6_two_34 : decode cX6_two 34 = .ok (.iload 5, 2) := by decide +kernel
theorem dX6_two_36 : decode cX6_two 36 = .ok (.iconst 4, 1) := by decide +kernel
theorem dX6_two_37 : decode cX6_two 37 = .ok (.if_icmp .ge 105, 3) := by decide +kernel
theorem dX6_two_40 : decode cX6_two 40 = .ok (.aload_n 0, 1) := by decide +kernel
theorem dX6_two_41 : decode cX6_two 41 = .ok (.getfield 19, 3) := by decide +kernel
theorem dX6_two_44 : decode cX6_two 44 = .ok (.aload_n 0, 1) := by decide +kernel
theorem dX6_two_45 : decode cX6_two 45 = .ok (.getfield 10, 3) := by decide +kernel
theorem dX6_two_48 : decode cX6_two 48 = .ok (.invokevirtual 100, 3) := by decide +kernel
theorem dX6_two_51 : decode cX6_two 51 = .ok (.aload_n 0, 1) := by decide +kernel
theorem dX6_two_52 : decode cX6_two 52 = .ok (.getfield 19, 3) := by decide +kernel
theorem dX6_two_55 : decode cX6_two 55 = .ok (.iload_n 1, 1) := by decide +kernel
theorem dX6_two_56 : decode cX6_two 56 = .ok (.iload_n 2, 1) := by decide +kernel
theorem dX6_two_57 : decode cX6_two 57 = .ok (.iload 5, 2) := by decide +kernel
theorem dX6_two_59 : decode cX6_two 59 = .ok (.iconst 2, 1) := by decide +kernel
theorem dX6_two_60 : decode cX6_two 60 = .ok (.if_icmp .lt 7, 3) := by decide +kernel
theorem dX6_two_63 : decode cX6_two 63 = .ok (.iconst 1, 1) := by decide +kernel
theorem dX6_two_64 : decode cX6_two 64 = .ok (.goto 4, 3) := by decide +kernel
theorem dX6_two_67 : decode cX6_two 67 = .ok (.iconst 0, 1) := by decide +kernel
theorem dX6_two_68 : decode cX6_two 68 = .ok (.invokevirtual 259, 3) := by decide +kernel
theorem dX6_two_71 : decode cX6_two 71 = .ok (.pop, 1) := by decide +kernel
theorem dX6_two_72 : decode cX6_two 72 = .ok (.aload_n 0, 1) := by decide +kernel
theorem dX6_two_73 : decode cX6_two 73 = .ok (.getfield 19, 3) := by decide +kernel
theorem dX6_two_76 : decode cX6_two 76 = .ok (.iload_n 2, 1) := by decide +kernel
theorem dX6_two_77 : decode cX6_two 77 = .ok (.iload_n 1, 1) := by decide +kernel
theorem dX6_two_78 : decode cX6_two 78 = .ok (.iload 5, 2) := by decide +kernel
theorem dX6_two_80 : decode cX6_two 80 = .ok (.iconst 2, 1) := by decide +kernel
theorem dX6_two_81 : decode cX6_two 81 = .ok (.irem, 1) := by decide +kernel
theorem dX6_two_82 : decode cX6_two 82 = .ok (.iconst 1, 1) := by decide +kernel
theorem dX6_two_83 : decode cX6_two 83 = .ok (.if_icmp .ne 7, 3) := by decide +kernel
theorem dX6_two_86 : decode cX6_two 86 = .ok (.iconst 1, 1) := by decide +kernel
theorem dX6_two_87 : decode cX6_two 87 = .ok (.goto 4, 3) := by decide +kernel
theorem dX6_two_90 : decode cX6_two 90 = .ok (.iconst 0, 1) := by decide +kernel
theorem dX6_two_91 : decode cX6_two 91 = .ok (.invokevirtual 259, 3) := by decide +kernel
theorem dX6_two_94 : decode cX6_two 94 = .ok (.pop, 1) := by decide +kernel
theorem dX6_two_95 : decode cX6_two 95 = .ok (.aload_n 0, 1) := by decide +kernel
theorem dX6_two_96 : decode cX6_two 96 = .ok (.getfield 19, 3) := by decide +kernel
theorem dX6_two_99 : decode cX6_two 99 = .ok (.iload_n 3, 1) := by decide +kernel
theorem dX6_two_100 : decode cX6_two 100 = .ok (.invokevirtual 168, 3) := by decide +kernel
theorem dX6_two_103 : decode cX6_two 103 = .ok (.pop, 1) := by decide +kernel
theorem dX6_two_104 : decode cX6_two 104 = .ok (.aload_n 0, 1) := by decide +kernel
theorem dX6_two_105 : decode cX6_two 105 = .ok (.getfield 67, 3) := by decide +kernel
theorem dX6_two_108 : decode cX6_two 108 = .ok (.iload 5, 2) := by decide +kernel
theorem dX6_two_110 : decode cX6_two 110 = .ok (.aload_n 0, 1) := by decide +kernel
theorem dX6_two_111 : decode cX6_two 111 = .ok (.getfield 19, 3) := by decide +kernel
theorem dX6_two_114 : decode cX6_two 114 = .ok (.getfield 124, 3) := by decide +kernel
theorem dX6_two_117 : decode cX6_two 117 = .ok (.iload_n 1, 1) := by decide +kernel
theorem dX6_two_118 : decode cX6_two 118 = .ok (.iaload, 1) := by decide +kernel
theorem dX6_two_119 : decode cX6_two 119 = .ok (.iastore, 1) := by decide +kernel
theorem dX6_two_120 : decode cX6_two 120 = .ok (.aload_n 0, 1) := by decide +kernel
theorem dX6_two_121 : decode cX6_two 121 = .ok (.getfield 70, 3) := by decide +kernel
theorem dX6_two_124 : decode cX6_two 124 = .ok (.iload 5, 2) := by decide +kernel
theorem dX6_two_126 : decode cX6_two 126 = .ok (.aload_n 0, 1) := by decide +kernel
theorem dX6_two_127 : decode cX6_two 127 = .ok (.getfield 19, 3) := by decide +kernel
theorem dX6_two_130 : decode cX6_two 130 = .ok (.getfield 124, 3) := by decide +kernel
theorem dX6_two_133 : decode cX6_two 133 = .ok (.iload_n 2, 1) := by decide +kernel
theorem dX6_two_134 : decode cX6_two 134 = .ok (.iaload, 1) := by decide +kernel
theorem dX6_two_135 : decode cX6_two 135 = .ok (.iastore, 1) := by decide +kernel
theorem dX6_two_136 : decode cX6_two 136 = .ok (.iinc 5 1, 3) := by decide +kernel
theorem dX6_two_139 : decode cX6_two 139 = .ok (.goto (-105), 3) := by decide +kernel
theorem dX6_two_142 : decode cX6_two 142 = .ok (.iconst 0, 1) := by decide +kernel
theorem dX6_two_143 : decode cX6_two 143 = .ok (.istore 5, 2) := by decide +kernel
theorem dX6_two_145 : decode cX6_two 145 = .ok (.iload 5, 2) := by decide +kernel
theorem dX6_two_147 : decode cX6_two 147 = .ok (.iconst 4, 1) := by decide +kernel
theorem dX6_two_148 : decode cX6_two 148 = .ok (.if_icmp .ge 60, 3) := by decide +kernel
theorem dX6_two_151 : decode cX6_two 151 = .ok (.aload_n 0, 1) := by decide +kernel
theorem dX6_two_152 : decode cX6_two 152 = .ok (.getfield 67, 3) := by decide +kernel
theorem dX6_two_155 : decode cX6_two 155 = .ok (.iload 5, 2) := by decide +kernel
theorem dX6_two_157 : decode cX6_two 157 = .ok (.iaload, 1) := by decide +kernel
theorem dX6_two_158 : decode cX6_two 158 = .ok (.aload_n 0, 1) := by decide +kernel
theorem dX6_two_159 : decode cX6_two 159 = .ok (.getfield 67, 3) := by decide +kernel
theorem dX6_two_162 : decode cX6_two 162 = .ok (.iload 5, 2) := by decide +kernel
theorem dX6_two_164 : decode cX6_two 164 = .ok (.iconst 2, 1) := by decide +kernel
theorem dX6_two_165 : decode cX6_two 165 = .ok (.ixor, 1) := by decide +kernel
theorem dX6_two_166 : decode cX6_two 166 = .ok (.iaload, 1) := by decide +kernel
theorem dX6_two_167 : decode cX6_two 167 = .ok (.if_icmp .lt 35, 3) := by decide +kernel
theorem dX6_two_170 : decode cX6_two 170 = .ok (.aload_n 0, 1) := by decide +kernel
theorem dX6_two_171 : decode cX6_two 171 = .ok (.getfield 70, 3) := by decide +kernel
theorem dX6_two_174 : decode cX6_two 174 = .ok (.iload 5, 2) := by decide +kernel
theorem dX6_two_176 : decode cX6_two 176 = .ok (.iaload, 1) := by decide +kernel
theorem dX6_two_177 : decode cX6_two 177 = .ok (.aload_n 0, 1) := by decide +kernel
theorem dX6_two_178 : decode cX6_two 178 = .ok (.getfield 70, 3) := by decide +kernel
theorem dX6_two_181 : decode cX6_two 181 = .ok (.iload 5, 2) := by decide +kernel
theorem dX6_two_183 : decode cX6_two 183 = .ok (.iconst 1, 1) := by decide +kernel
theorem dX6_two_184 : decode cX6_two 184 = .ok (.ixor, 1) := by decide +kernel
theorem dX6_two_185 : decode cX6_two 185 = .ok (.iaload, 1) := by decide +kernel
theorem dX6_two_186 : decode cX6_two 186 = .ok (.if_icmp .lt 16, 3) := by decide +kernel
theorem dX6_two_189 : decode cX6_two 189 = .ok (.bipush 10, 2) := by decide +kernel
theorem dX6_two_191 : decode cX6_two 191 = .ok (.iload 5, 2) := by decide +kernel
theorem dX6_two_193 : decode cX6_two 193 = .ok (.iconst 2, 1) := by decide +kernel
theorem dX6_two_194 : decode cX6_two 194 = .ok (.idiv, 1) := by decide +kernel
theorem dX6_two_195 : decode cX6_two 195 = .ok (.imul, 1) := by decide +kernel
theorem dX6_two_196 : decode cX6_two 196 = .ok (.iload 5, 2) := by decide +kernel
theorem dX6_two_198 : decode cX6_two 198 = .ok (.iconst 2, 1) := by decide +kernel
theorem dX6_two_199 : decode cX6_two 199 = .ok (.irem, 1) := by decide +kernel
theorem dX6_two_200 : decode cX6_two 200 = .ok (.iadd, 1) := by decide +kernel
theorem dX6_two_201 : decode cX6_two 201 = .ok (.ireturn, 1) := by decide +kernel
theorem dX6_two_202 : decode cX6_two 202 = .ok (.iinc 5 1, 3) := by decide +kernel
theorem dX6_two_205 : decode cX6_two 205 = .ok (.goto (-60), 3) := by decide +kernel
theorem dX6_two_208 : decode cX6_two 208 = .ok (.bipush (-9), 2) := by decide +kernel
theorem dX6_two_210 : decode cX6_two 210 = .ok (.ireturn, 1) := by decide +kernel
theorem dX6_whatIs_0 : decode cX6_whatIs 0 = .ok (.aload_n 0, 1) := by decide +kernel
theorem dX6_whatIs_1 : decode cX6_whatIs 1 = .ok (.iload_n 1, 1) := by decide +kernel
theorem dX6_whatIs_2 : decode cX6_whatIs 2 = .ok (.invokevirtual 111, 3) := by decide +kernel
theorem dX6_whatIs_5 : decode cX6_whatIs 5 = .ok (.iload_n 2, 1) := by decide +kernel
theorem dX6_whatIs_6 : decode cX6_whatIs 6 = .ok (.iconst 1, 1) := by decide +kernel
theorem dX6_whatIs_7 : decode cX6_whatIs 7 = .ok (.invokestatic 114, 3) := by decide +kernel
theorem dX6_whatIs_10 : decode cX6_whatIs 10 = .ok (.iconst 0, 1) := by decide +kernel
theorem dX6_whatIs_11 : decode cX6_whatIs 11 = .ok (.invokestatic 81, 3) := by decide +kernel
theorem dX6_whatIs_14 : decode cX6_whatIs 14 = .ok (.istore_n 3, 1) := by decide +kernel
theorem dX6_whatIs_15 : decode cX6_whatIs 15 = .ok (.iload_n 3, 1) := by decide +kernel
theorem dX6_whatIs_16 : decode cX6_whatIs 16 = .ok (.ifCond .eq 9, 3) := by decide +kernel
theorem dX6_whatIs_19 : decode cX6_whatIs 19 = .ok (.aload_n 0, 1) := by decide +kernel
theorem dX6_whatIs_20 : decode cX6_whatIs 20 = .ok (.iload_n 3, 1) := by decide +kernel
theorem dX6_whatIs_21 : decode cX6_whatIs 21 = .ok (.invokevirtual 84, 3) := by decide +kernel
theorem dX6_whatIs_24 : decode cX6_whatIs 24 = .ok (.ireturn, 1) := by decide +kernel
theorem dX6_whatIs_25 : decode cX6_whatIs 25 = .ok (.iload_n 2, 1) := by decide +kernel
theorem dX6_whatIs_26 : decode cX6_whatIs 26 = .ok (.ifCond .ne 7, 3) := by decide +kernel
theorem dX6_whatIs_29 : decode cX6_whatIs 29 = .ok (.iconst 5, 1) := by decide +kernel
theorem dX6_whatIs_30 : decode cX6_whatIs 30 = .ok (.goto 5, 3) := by decide +kernel
theorem dX6_whatIs_33 : decode cX6_whatIs 33 = .ok (.bipush 9, 2) := by decide +kernel
theorem dX6_whatIs_35 : decode cX6_whatIs 35 = .ok (.istore 4, 2) := by decide +kernel
theorem dX6_whatIs_37 : decode cX6_whatIs 37 = .ok (.iconst 0, 1) := by decide +kernel
theorem dX6_whatIs_38 : decode cX6_whatIs 38 = .ok (.istore 5, 2) := by decide +kernel
theorem dX6_whatIs_40 : decode cX6_whatIs 40 = .ok (.iconst 0, 1) := by decide +kernel
theorem dX6_whatIs_41 : decode cX6_whatIs 41 = .ok (.istore 6, 2) := by decide +kernel
theorem dX6_whatIs_43 : decode cX6_whatIs 43 = .ok (.iload 6, 2) := by decide +kernel
theorem dX6_whatIs_45 : decode cX6_whatIs 45 = .ok (.iload 4, 2) := by decide +kernel
theorem dX6_whatIs_47 : decode cX6_whatIs 47 = .ok (.if_icmp .gt 65, 3) := by decide +kernel
theorem dX6_whatIs_50 : decode cX6_whatIs 50 = .ok (.aload_n 0, 1) := by decide +kernel
theorem dX6_whatIs_51 : decode cX6_whatIs 51 = .ok (.getfield 19, 3) := by decide +kernel
theorem dX6_whatIs_54 : decode cX6_whatIs 54 = .ok (.aload_n 0, 1) := by decide +kernel
theorem dX6_whatIs_55 : decode cX6_whatIs 55 = .ok (.getfield 10, 3) := by decide +kernel
theorem dX6_whatIs_58 : decode cX6_whatIs 58 = .ok (.invokevirtual 100, 3) := by decide +kernel
theorem dX6_whatIs_61 : decode cX6_whatIs 61 = .ok (.iload_n 2, 1) := by decide +kernel
theorem dX6_whatIs_62 : decode cX6_whatIs 62 = .ok (.ifCond .ne 17, 3) := by decide +kernel
theorem dX6_whatIs_65 : decode cX6_whatIs 65 = .ok (.aload_n 0, 1) := by decide +kernel
theorem dX6_whatIs_66 : decode cX6_whatIs 66 = .ok (.getfield 19, 3) := by decide +kernel
theorem dX6_whatIs_69 : decode cX6_whatIs 69 = .ok (.getfield 118, 3) := by decide +kernel
theorem dX6_whatIs_72 : decode cX6_whatIs 72 = .ok (.iload_n 1, 1) := by decide +kernel
theorem dX6_whatIs_73 : decode cX6_whatIs 73 = .ok (.iload 6, 2) := by decide +kernel
theorem dX6_whatIs_75 : decode cX6_whatIs 75 = .ok (.iastore, 1) := by decide +kernel
theorem dX6_whatIs_76 : decode cX6_whatIs 76 = .ok (.goto 14, 3) := by decide +kernel
theorem dX6_whatIs_79 : decode cX6_whatIs 79 = .ok (.aload_n 0, 1) := by decide +kernel
theorem dX6_whatIs_80 : decode cX6_whatIs 80 = .ok (.getfield 19, 3) := by decide +kernel
theorem dX6_whatIs_83 : decode cX6_whatIs 83 = .ok (.getfield 121, 3) := by decide +kernel
theorem dX6_whatIs_86 : decode cX6_whatIs 86 = .ok (.iload_n 1, 1) := by decide +kernel
theorem dX6_whatIs_87 : decode cX6_whatIs 87 = .ok (.iload 6, 2) := by decide +kernel
theorem dX6_whatIs_89 : decode cX6_whatIs 89 = .ok (.iastore, 1) := by decide +kernel
theorem dX6_whatIs_90 : decode cX6_whatIs 90 = .ok (.iload 5, 2) := by decide +kernel
theorem dX6_whatIs_92 : decode cX6_whatIs 92 = .ok (.aload_n 0, 1) := by decide +kernel
theorem dX6_whatIs_93 : decode cX6_whatIs 93 = .ok (.iload_n 1, 1) := by decide +kernel
theorem dX6_whatIs_94 : decode cX6_whatIs 94 = .ok (.invokevirtual 263, 3) := by decide +kernel
theorem dX6_whatIs_97 : decode cX6_whatIs 97 = .ok (.invokestatic 145, 3) := by decide +kernel
theorem dX6_whatIs_100 : decode cX6_whatIs 100 = .ok (.iload 6, 2) := by decide +kernel
theorem dX6_whatIs_102 : decode cX6_whatIs 102 = .ok (.ishl, 1) := by decide +kernel
theorem dX6_whatIs_103 : decode cX6_whatIs 103 = .ok (.ior, 1) := by decide +kernel
theorem dX6_whatIs_104 : decode cX6_whatIs 104 = .ok (.istore 5, 2) := by decide +kernel
theorem dX6_whatIs_106 : decode cX6_whatIs 106 = .ok (.iinc 6 1, 3) := by decide +kernel
theorem dX6_whatIs_109 : decode cX6_whatIs 109 = .ok (.goto (-66), 3) := by decide +kernel
theorem dX6_whatIs_112 : decode cX6_whatIs 112 = .ok (.iload 5, 2) := by decide +kernel
theorem dX6_whatIs_114 : decode cX6_whatIs 114 = .ok (.ireturn, 1) := by decide +kernel
theorem dX6_row_0 : decode cX6_row 0 = .ok (.iload_n 1, 1) := by decide +kernel
theorem dX6_row_1 : decode cX6_row 1 = .ok (.iconst 0, 1) := by decide +kernel
theorem dX6_row_2 : decode cX6_row 2 = .ok (.bipush 99, 2) := by decide +kernel
theorem dX6_row_4 : decode cX6_row 4 = .ok (.invokestatic 73, 3) := by decide +kernel
theorem dX6_row_7 : decode cX6_row 7 = .ok (.aload_n 0, 1) := by decide +kernel
theorem dX6_row_8 : decode cX6_row 8 = .ok (.getfield 266, 3) := by decide +kernel
theorem dX6_row_11 : decode cX6_row 11 = .ok (.bipush 16, 2) := by decide +kernel
theorem dX6_row_13 : decode cX6_row 13 = .ok (.if_icmp .lt 8, 3) := by decide +kernel
theorem dX6_row_16 : decode cX6_row 16 = .ok (.bipush (-6), 2) := by decide +kernel
theorem dX6_row_18 : decode cX6_row 18 = .ok (.goto 4, 3) := by decide +kernel
theorem dX6_row_21 : decode cX6_row 21 = .ok (.iconst 0, 1) := by decide +kernel
theorem dX6_row_22 : decode cX6_row 22 = .ok (.iconst 0, 1) := by decide +kernel
theorem dX6_row_23 : decode cX6_row 23 = .ok (.invokestatic 81, 3) := by decide +kernel
theorem dX6_row_26 : decode cX6_row 26 = .ok (.istore_n 2, 1) := by decide +kernel
theorem dX6_row_27 : decode cX6_row 27 = .ok (.iload_n 2, 1) := by decide +kernel
theorem dX6_row_28 : decode cX6_row 28 = .ok (.ifCond .eq 9, 3) := by decide +kernel
theorem dX6_row_31 : decode cX6_row 31 = .ok (.aload_n 0, 1) := by decide +kernel
theorem dX6_row_32 : decode cX6_row 32 = .ok (.iload_n 2, 1) := by decide +kernel
theorem dX6_row_33 : decode cX6_row 33 = .ok (.invokevirtual 84, 3) := by decide +kernel
theorem dX6_row_36 : decode cX6_row 36 = .ok (.ireturn, 1) := by decide +kernel
theorem dX6_row_37 : decode cX6_row 37 = .ok (.aload_n 0, 1) := by decide +kernel
theorem dX6_row_38 : decode cX6_row 38 = .ok (.getfield 32, 3) := by decide +kernel
theorem dX6_row_41 : decode cX6_row 41 = .ok (.aload_n 0, 1) := by decide +kernel
theorem dX6_row_42 : decode cX6_row 42 = .ok (.getfield 266, 3) := by decide +kernel
theorem dX6_row_45 : decode cX6_row 45 = .ok (.iload_n 1, 1) := by decide +kernel
theorem dX6_row_46 : decode cX6_row 46 = .ok (.iastore, 1) := by decide +kernel
theorem dX6_row_47 : decode cX6_row 47 = .ok (.aload_n 0, 1) := by decide +kernel
theorem dX6_row_48 : decode cX6_row 48 = .ok (.dup, 1) := by decide +kernel
theorem dX6_row_49 : decode cX6_row 49 = .ok (.getfield 266, 3) := by decide +kernel
theorem dX6_row_52 : decode cX6_row 52 = .ok (.iconst 1, 1) := by decide +kernel
theorem dX6_row_53 : decode cX6_row 53 = .ok (.iadd, 1) := by decide +kernel
theorem dX6_row_54 : decode cX6_row 54 = .ok (.putfield 266, 3) := by decide +kernel
theorem dX6_row_57 : decode cX6_row 57 = .ok (.aload_n 0, 1) := by decide +kernel
theorem dX6_row_58 : decode cX6_row 58 = .ok (.getfield 266, 3) := by decide +kernel
theorem dX6_row_61 : decode cX6_row 61 = .ok (.ireturn, 1) := by decide +kernel
theorem dX6_judge_0 : decode cX6_judge 0 = .ok (.bipush (-9), 2) := by decide +kernel
theorem dX6_judge_2 : decode cX6_judge 2 = .ok (.istore_n 1, 1) := by decide +kernel
theorem dX6_judge_3 : decode cX6_judge 3 = .ok (.iconst 0, 1) := by decide +kernel
theorem dX6_judge_4 : decode cX6_judge 4 = .ok (.istore_n 2, 1) := by decide +kernel
theorem dX6_judge_5 : decode cX6_judge 5 = .ok (.iload_n 2, 1) := by decide +kernel
theorem dX6_judge_6 : decode cX6_judge 6 = .ok (.aload_n 0, 1) := by decide +kernel
theorem dX6_judge_7 : decode cX6_judge 7 = .ok (.getfield 266, 3) := by decide +kernel
theorem dX6_judge_10 : decode cX6_judge 10 = .ok (.if_icmp .ge 46, 3) := by decide +kernel
theorem dX6_judge_13 : decode cX6_judge 13 = .ok (.iload_n 1, 1) := by decide +kernel
theorem dX6_judge_14 : decode cX6_judge 14 = .ok (.bipush (-9), 2) := by decide +kernel
theorem dX6_judge_16 : decode cX6_judge 16 = .ok (.if_icmp .ne 40, 3) := by decide +kernel
theorem dX6_judge_19 : decode cX6_judge 19 = .ok (.aload_n 0, 1) := by decide +kernel
theorem dX6_judge_20 : decode cX6_judge 20 = .ok (.getfield 10, 3) := by decide +kernel
theorem dX6_judge_23 : decode cX6_judge 23 = .ok (.iload_n 2, 1) := by decide +kernel
theorem dX6_judge_24 : decode cX6_judge 24 = .ok (.invokevirtual 269, 3) := by decide +kernel
theorem dX6_judge_27 : decode cX6_judge 27 = .ok (.ifCond .eq 21, 3) := by decide +kernel
theorem dX6_judge_30 : decode cX6_judge 30 = .ok (.aload_n 0, 1) := by decide +kernel
theorem dX6_judge_31 : decode cX6_judge 31 = .ok (.getfield 10, 3) := by decide +kernel
theorem dX6_judge_34 : decode cX6_judge 34 = .ok (.getfield 124, 3) := by decide +kernel
theorem dX6_judge_37 : decode cX6_judge 37 = .ok (.iload_n 2, 1) := by decide +kernel
theorem dX6_judge_38 : decode cX6_judge 38 = .ok (.iaload, 1) := by decide +kernel
theorem dX6_judge_39 : decode cX6_judge 39 = .ok (.aload_n 0, 1) := by decide +kernel
theorem dX6_judge_40 : decode cX6_judge 40 = .ok (.getfield 32, 3) := by decide +kernel
theorem dX6_judge_43 : decode cX6_judge 43 = .ok (.iload_n 2, 1) := by decide +kernel
theorem dX6_judge_44 : decode cX6_judge 44 = .ok (.iaload, 1) := by decide +kernel
theorem dX6_judge_45 : decode cX6_judge 45 = .ok (.if_icmp .eq 5, 3) := by decide +kernel
theorem dX6_judge_48 : decode cX6_judge 48 = .ok (.iload_n 2, 1) := by decide +kernel
theorem dX6_judge_49 : decode cX6_judge 49 = .ok (.istore_n 1, 1) := by decide +kernel
theorem dX6_judge_50 : decode cX6_judge 50 = .ok (.iinc 2 1, 3) := by decide +kernel
theorem dX6_judge_53 : decode cX6_judge 53 = .ok (.goto (-48), 3) := by decide +kernel
theorem dX6_judge_56 : decode cX6_judge 56 = .ok (.aload_n 0, 1) := by decide +kernel
theorem dX6_judge_57 : decode cX6_judge 57 = .ok (.iconst 0, 1) := by decide +kernel
theorem dX6_judge_58 : decode cX6_judge 58 = .ok (.putfield 266, 3) := by decide +kernel
theorem dX6_judge_61 : decode cX6_judge 61 = .ok (.iload_n 1, 1) := by decide +kernel
theorem dX6_judge_62 : decode cX6_judge 62 = .ok (.ireturn, 1) := by decide +kernel
theorem dX6_clear_0 : decode cX6_clear 0 = .ok (.aload_n 0, 1) := by decide +kernel
theorem dX6_clear_1 : decode cX6_clear 1 = .ok (.getfield 266, 3) := by decide +kernel
theorem dX6_clear_4 : decode cX6_clear 4 = .ok (.istore_n 1, 1) := by decide +kernel
theorem dX6_clear_5 : decode cX6_clear 5 = .ok (.aload_n 0, 1) := by decide +kernel
theorem dX6_clear_6 : decode cX6_clear 6 = .ok (.iconst 0, 1) := by decide +kernel
theorem dX6_clear_7 : decode cX6_clear 7 = .ok (.putfield 266, 3) := by decide +kernel
theorem dX6_clear_10 : decode cX6_clear 10 = .ok (.iload_n 1, 1) := by decide +kernel
theorem dX6_clear_11 : decode cX6_clear 11 = .ok (.ireturn, 1) := by decide +kernel
theorem dX6_lots_0 : decode cX6_lots 0 = .ok (.iload_n 1, 1) := by decide +kernel
theorem dX6_lots_1 : decode cX6_lots 1 = .ok (.iconst 1, 1) := by decide +kernel
theorem dX6_lots_2 : decode cX6_lots 2 = .ok (.bipush 20, 2) := by decide +kernel
theorem dX6_lots_4 : decode cX6_lots 4 = .ok (.invokestatic 73, 3) := by decide +kernel
theorem dX6_lots_7 : decode cX6_lots 7 = .ok (.iload_n 3, 1) := by decide +kernel
theorem dX6_lots_8 : decode cX6_lots 8 = .ok (.iconst 1, 1) := by decide +kernel
theorem dX6_lots_9 : decode cX6_lots 9 = .ok (.invokestatic 114, 3) := by decide +kernel
theorem dX6_lots_12 : decode cX6_lots 12 = .ok (.iconst 0, 1) := by decide +kernel
theorem dX6_lots_13 : decode cX6_lots 13 = .ok (.invokestatic 81, 3) := by decide +kernel
theorem dX6_lots_16 : decode cX6_lots 16 = .ok (.istore 4, 2) := by decide +kernel
theorem dX6_lots_18 : decode cX6_lots 18 = .ok (.iload 4, 2) := by decide +kernel
theorem dX6_lots_20 : decode cX6_lots 20 = .ok (.ifCond .eq 10, 3) := by decide +kernel
theorem dX6_lots_23 : decode cX6_lots 23 = .ok (.aload_n 0, 1) := by decide +kernel
theorem dX6_lots_24 : decode cX6_lots 24 = .ok (.iload 4, 2) := by decide +kernel
theorem dX6_lots_26 : decode cX6_lots 26 = .ok (.invokevirtual 84, 3) := by decide +kernel
theorem dX6_lots_29 : decode cX6_lots 29 = .ok (.ireturn, 1) := by decide +kernel
theorem dX6_lots_30 : decode cX6_lots 30 = .ok (.iload_n 2, 1) := by decide +kernel
theorem dX6_lots_31 : decode cX6_lots 31 = .ok (.istore 5, 2) := by decide +kernel
theorem dX6_lots_33 : decode cX6_lots 33 = .ok (.iconst 0, 1) := by decide +kernel
theorem dX6_lots_34 : decode cX6_lots 34 = .ok (.istore 6, 2) := by decide +kernel
theorem dX6_lots_36 : decode cX6_lots 36 = .ok (.iconst 0, 1) := by decide +kernel
theorem dX6_lots_37 : decode cX6_lots 37 = .ok (.istore 7, 2) := by decide +kernel
theorem dX6_lots_39 : decode cX6_lots 39 = .ok (.iload 7, 2) := by decide +kernel
theorem dX6_lots_41 : decode cX6_lots 41 = .ok (.iload_n 1, 1) := by decide +kernel
theorem dX6_lots_42 : decode cX6_lots 42 = .ok (.if_icmp .ge 64, 3) := by decide +kernel
theorem dX6_lots_45 : decode cX6_lots 45 = .ok (.aload_n 0, 1) := by decide +kernel
theorem dX6_lots_46 : decode cX6_lots 46 = .ok (.getfield 19, 3) := by decide +kernel
theorem dX6_lots_49 : decode cX6_lots 49 = .ok (.aload_n 0, 1) := by decide +kernel
theorem dX6_lots_50 : decode cX6_lots 50 = .ok (.getfield 10, 3) := by decide +kernel
theorem dX6_lots_53 : decode cX6_lots 53 = .ok (.invokevirtual 100, 3) := by decide +kernel
theorem dX6_lots_56 : decode cX6_lots 56 = .ok (.aload_n 0, 1) := by decide +kernel
theorem dX6_lots_57 : decode cX6_lots 57 = .ok (.iload 5, 2) := by decide +kernel
theorem dX6_lots_59 : decode cX6_lots 59 = .ok (.invokevirtual 272, 3) := by decide +kernel
theorem dX6_lots_62 : decode cX6_lots 62 = .ok (.istore 5, 2) := by decide +kernel
theorem dX6_lots_64 : decode cX6_lots 64 = .ok (.aload_n 0, 1) := by decide +kernel
theorem dX6_lots_65 : decode cX6_lots 65 = .ok (.getfield 19, 3) := by decide +kernel
theorem dX6_lots_68 : decode cX6_lots 68 = .ok (.bipush 10, 2) := by decide +kernel
theorem dX6_lots_70 : decode cX6_lots 70 = .ok (.invokevirtual 168, 3) := by decide +kernel
theorem dX6_lots_73 : decode cX6_lots 73 = .ok (.pop, 1) := by decide +kernel
theorem dX6_lots_74 : decode cX6_lots 74 = .ok (.iload 6, 2) := by decide +kernel
theorem dX6_lots_76 : decode cX6_lots 76 = .ok (.iload_n 3, 1) := by decide +kernel
theorem dX6_lots_77 : decode cX6_lots 77 = .ok (.ifCond .ne 13, 3) := by decide +kernel
theorem dX6_lots_80 : decode cX6_lots 80 = .ok (.aload_n 0, 1) := by decide +kernel
theorem dX6_lots_81 : decode cX6_lots 81 = .ok (.getfield 19, 3) := by decide +kernel
theorem dX6_lots_84 : decode cX6_lots 84 = .ok (.invokevirtual 171, 3) := by decide +kernel
theorem dX6_lots_87 : decode cX6_lots 87 = .ok (.goto 10, 3) := by decide +kernel
theorem dX6_lots_90 : decode cX6_lots 90 = .ok (.aload_n 0, 1) := by decide +kernel
theorem dX6_lots_91 : decode cX6_lots 91 = .ok (.getfield 19, 3) := by decide +kernel
theorem dX6_lots_94 : decode cX6_lots 94 = .ok (.invokevirtual 234, 3) := by decide +kernel
theorem dX6_lots_97 : decode cX6_lots 97 = .ok (.iadd, 1) := by decide +kernel
theorem dX6_lots_98 : decode cX6_lots 98 = .ok (.istore 6, 2) := by decide +kernel
theorem dX6_lots_100 : decode cX6_lots 100 = .ok (.iinc 7 1, 3) := by decide +kernel
theorem dX6_lots_103 : decode cX6_lots 103 = .ok (.goto (-64), 3) := by decide +kernel
theorem dX6_lots_106 : decode cX6_lots 106 = .ok (.iload 6, 2) := by decide +kernel
theorem dX6_lots_108 : decode cX6_lots 108 = .ok (.ireturn, 1) := by decide +kernel
theorem dX6_image_0 : decode cX6_image 0 = .ok (.aload_n 0, 1) := by decide +kernel
theorem dX6_image_1 : decode cX6_image 1 = .ok (.getfield 16, 3) := by decide +kernel
theorem dX6_image_4 : decode cX6_image 4 = .ok (.aload_n 0, 1) := by decide +kernel
theorem dX6_image_5 : decode cX6_image 5 = .ok (.getfield 10, 3) := by decide +kernel
theorem dX6_image_8 : decode cX6_image 8 = .ok (.invokevirtual 100, 3) := by decide +kernel
theorem dX6_image_11 : decode cX6_image 11 = .ok (.aload_n 0, 1) := by decide +kernel
theorem dX6_image_12 : decode cX6_image 12 = .ok (.iconst 1, 1) := by decide +kernel
theorem dX6_image_13 : decode cX6_image 13 = .ok (.putfield 275, 3) := by decide +kernel
theorem dX6_image_16 : decode cX6_image 16 = .ok (.aload_n 0, 1) := by decide +kernel
theorem dX6_image_17 : decode cX6_image 17 = .ok (.getfield 10, 3) := by decide +kernel
theorem dX6_image_20 : decode cX6_image 20 = .ok (.getfield 279, 3) := by decide +kernel
theorem dX6_image_23 : decode cX6_image 23 = .ok (.ireturn, 1) := by decide +kernel
theorem dX6_on_0 : decode cX6_on 0 = .ok (.aload_n 0, 1) := by decide +kernel
theorem dX6_on_1 : decode cX6_on 1 = .ok (.getfield 275, 3) := by decide +kernel
theorem dX6_on_4 : decode cX6_on 4 = .ok (.ifCond .ne 10, 3) := by decide +kernel
theorem dX6_on_7 : decode cX6_on 7 = .ok (.aload_n 0, 1) := by decide +kernel
theorem dX6_on_8 : decode cX6_on 8 = .ok (.bipush (-3), 2) := by decide +kernel
theorem dX6_on_10 : decode cX6_on 10 = .ok (.invokevirtual 84, 3) := by decide +kernel
theorem dX6_on_13 : decode cX6_on 13 = .ok (.ireturn, 1) := by decide +kernel
theorem dX6_on_14 : decode cX6_on 14 = .ok (.aload_n 0, 1) := by decide +kernel
theorem dX6_on_15 : decode cX6_on 15 = .ok (.getfield 10, 3) := by decide +kernel
theorem dX6_on_18 : decode cX6_on 18 = .ok (.aload_n 0, 1) := by decide +kernel
theorem dX6_on_19 : decode cX6_on 19 = .ok (.getfield 16, 3) := by decide +kernel
theorem dX6_on_22 : decode cX6_on 22 = .ok (.invokevirtual 100, 3) := by decide +kernel
theorem dX6_on_25 : decode cX6_on 25 = .ok (.aload_n 0, 1) := by decide +kernel
theorem dX6_on_26 : decode cX6_on 26 = .ok (.getfield 10, 3) := by decide +kernel
theorem dX6_on_29 : decode cX6_on 29 = .ok (.getfield 279, 3) := by decide +kernel
theorem dX6_on_32 : decode cX6_on 32 = .ok (.ireturn, 1) := by decide +kernel
theorem dX6_count_0 : decode cX6_count 0 = .ok (.iload_n 1, 1) := by decide +kernel
theorem dX6_count_1 : decode cX6_count 1 = .ok (.tableswitch 108 0 7 #[47, 55, 63, 71, 79, 87, 95, 100], 47) := by decide +kernel
theorem dX6_count_48 : decode cX6_count 48 = .ok (.aload_n 0, 1) := by decide +kernel
theorem dX6_count_49 : decode cX6_count 49 = .ok (.getfield 10, 3) := by decide +kernel
theorem dX6_count_52 : decode cX6_count 52 = .ok (.getfield 186, 3) := by decide +kernel
theorem dX6_count_55 : decode cX6_count 55 = .ok (.ireturn, 1) := by decide +kernel
theorem dX6_count_56 : decode cX6_count 56 = .ok (.aload_n 0, 1) := by decide +kernel
theorem dX6_count_57 : decode cX6_count 57 = .ok (.getfield 10, 3) := by decide +kernel
theorem dX6_count_60 : decode cX6_count 60 = .ok (.getfield 279, 3) := by decide +kernel
theorem dX6_count_63 : decode cX6_count 63 = .ok (.ireturn, 1) := by decide +kernel
theorem dX6_count_64 : decode cX6_count 64 = .ok (.aload_n 0, 1) := by decide +kernel
theorem dX6_count_65 : decode cX6_count 65 = .ok (.getfield 10, 3) := by decide +kernel
theorem dX6_count_68 : decode cX6_count 68 = .ok (.invokevirtual 171, 3) := by decide +kernel
theorem dX6_count_71 : decode cX6_count 71 = .ok (.ireturn, 1) := by decide +kernel
theorem dX6_count_72 : decode cX6_count 72 = .ok (.aload_n 0, 1) := by decide +kernel
theorem dX6_count_73 : decode cX6_count 73 = .ok (.getfield 10, 3) := by decide +kernel
theorem dX6_count_76 : decode cX6_count 76 = .ok (.invokevirtual 282, 3) := by decide +kernel
theorem dX6_count_79 : decode cX6_count 79 = .ok (.ireturn, 1) := by decide +kernel
theorem dX6_count_80 : decode cX6_count 80 = .ok (.aload_n 0, 1) := by decide +kernel
theorem dX6_count_81 : decode cX6_count 81 = .ok (.getfield 10, 3) := by decide +kernel
theorem dX6_count_84 : decode cX6_count 84 = .ok (.invokevirtual 285, 3) := by decide +kernel
theorem dX6_count_87 : decode cX6_count 87 = .ok (.ireturn, 1) := by decide +kernel
theorem dX6_count_88 : decode cX6_count 88 = .ok (.aload_n 0, 1) := by decide +kernel
theorem dX6_count_89 : decode cX6_count 89 = .ok (.getfield 10, 3) := by decide +kernel
theorem dX6_count_92 : decode cX6_count 92 = .ok (.invokevirtual 234, 3) := by decide +kernel
theorem dX6_count_95 : decode cX6_count 95 = .ok (.ireturn, 1) := by decide +kernel
theorem dX6_count_96 : decode cX6_count 96 = .ok (.aload_n 0, 1) := by decide +kernel
theorem dX6_count_97 : decode cX6_count 97 = .ok (.getfield 266, 3) := by decide +kernel
theorem dX6_count_100 : decode cX6_count 100 = .ok (.ireturn, 1) := by decide +kernel
theorem dX6_count_101 : decode cX6_count 101 = .ok (.aload_n 0, 1) := by decide +kernel
theorem dX6_count_102 : decode cX6_count 102 = .ok (.getfield 28, 3) := by decide +kernel
theorem dX6_count_105 : decode cX6_count 105 = .ok (.getfield 92, 3) := by decide +kernel
theorem dX6_count_108 : decode cX6_count 108 = .ok (.ireturn, 1) := by decide +kernel
theorem dX6_count_109 : decode cX6_count 109 = .ok (.iload_n 1, 1) := by decide +kernel
theorem dX6_count_110 : decode cX6_count 110 = .ok (.bipush 10, 2) := by decide +kernel
theorem dX6_count_112 : decode cX6_count 112 = .ok (.if_icmp .le 21, 3) := by decide +kernel
theorem dX6_count_115 : decode cX6_count 115 = .ok (.iload_n 1, 1) := by decide +kernel
theorem dX6_count_116 : decode cX6_count 116 = .ok (.bipush 16, 2) := by decide +kernel
theorem dX6_count_118 : decode cX6_count 118 = .ok (.if_icmp .gt 15, 3) := by decide +kernel
theorem dX6_count_121 : decode cX6_count 121 = .ok (.aload_n 0, 1) := by decide +kernel
theorem dX6_count_122 : decode cX6_count 122 = .ok (.getfield 36, 3) := by decide +kernel
theorem dX6_count_125 : decode cX6_count 125 = .ok (.iload_n 1, 1) := by decide +kernel
theorem dX6_count_126 : decode cX6_count 126 = .ok (.bipush 10, 2) := by decide +kernel
theorem dX6_count_128 : decode cX6_count 128 = .ok (.isub, 1) := by decide +kernel
theorem dX6_count_129 : decode cX6_count 129 = .ok (.iaload, 1) := by decide +kernel
theorem dX6_count_130 : decode cX6_count 130 = .ok (.goto 5, 3) := by decide +kernel
theorem dX6_count_133 : decode cX6_count 133 = .ok (.bipush (-9), 2) := by decide +kernel
theorem dX6_count_135 : decode cX6_count 135 = .ok (.ireturn, 1) := by decide +kernel
theorem dX6_refuse_0 : decode cX6_refuse 0 = .ok (.iload_n 1, 1) := by decide +kernel
theorem dX6_refuse_1 : decode cX6_refuse 1 = .ok (.ifCond .ge 20, 3) := by decide +kernel
theorem dX6_refuse_4 : decode cX6_refuse 4 = .ok (.iload_n 1, 1) := by decide +kernel
theorem dX6_refuse_5 : decode cX6_refuse 5 = .ok (.bipush (-6), 2) := by decide +kernel
theorem dX6_refuse_7 : decode cX6_refuse 7 = .ok (.if_icmp .lt 14, 3) := by decide +kernel
theorem dX6_refuse_10 : decode cX6_refuse 10 = .ok (.aload_n 0, 1) := by decide +kernel
theorem dX6_refuse_11 : decode cX6_refuse 11 = .ok (.getfield 36, 3) := by decide +kernel
theorem dX6_refuse_14 : decode cX6_refuse 14 = .ok (.iload_n 1, 1) := by decide +kernel
theorem dX6_refuse_15 : decode cX6_refuse 15 = .ok (.ineg, 1) := by decide +kernel
theorem dX6_refuse_16 : decode cX6_refuse 16 = .ok (.dup2, 1) := by decide +kernel
theorem dX6_refuse_17 : decode cX6_refuse 17 = .ok (.iaload, 1) := by decide +kernel
theorem dX6_refuse_18 : decode cX6_refuse 18 = .ok (.iconst 1, 1) := by decide +kernel
theorem dX6_refuse_19 : decode cX6_refuse 19 = .ok (.iadd, 1) := by decide +kernel
theorem dX6_refuse_20 : decode cX6_refuse 20 = .ok (.iastore, 1) := by decide +kernel
theorem dX6_refuse_21 : decode cX6_refuse 21 = .ok (.iload_n 1, 1) := by decide +kernel
theorem dX6_refuse_22 : decode cX6_refuse 22 = .ok (.ireturn, 1) := by decide +kernel
theorem dX6_firstOf_0 : decode cX6_firstOf 0 = .ok (.iload_n 0, 1) := by decide +kernel
theorem dX6_firstOf_1 : decode cX6_firstOf 1 = .ok (.ifCond .eq 5, 3) := by decide +kernel
theorem dX6_firstOf_4 : decode cX6_firstOf 4 = .ok (.iload_n 0, 1) := by decide +kernel
theorem dX6_firstOf_5 : decode cX6_firstOf 5 = .ok (.ireturn, 1) := by decide +kernel
theorem dX6_firstOf_6 : decode cX6_firstOf 6 = .ok (.iload_n 1, 1) := by decide +kernel
theorem dX6_firstOf_7 : decode cX6_firstOf 7 = .ok (.ifCond .eq 7, 3) := by decide +kernel
theorem dX6_firstOf_10 : decode cX6_firstOf 10 = .ok (.iload_n 1, 1) := by decide +kernel
theorem dX6_firstOf_11 : decode cX6_firstOf 11 = .ok (.goto 4, 3) := by decide +kernel
theorem dX6_firstOf_14 : decode cX6_firstOf 14 = .ok (.iload_n 2, 1) := by decide +kernel
theorem dX6_firstOf_15 : decode cX6_firstOf 15 = .ok (.ireturn, 1) := by decide +kernel
theorem dX6_outside_0 : decode cX6_outside 0 = .ok (.iload_n 0, 1) := by decide +kernel
theorem dX6_outside_1 : decode cX6_outside 1 = .ok (.iload_n 1, 1) := by decide +kernel
theorem dX6_outside_2 : decode cX6_outside 2 = .ok (.if_icmp .ge 6, 3) := by decide +kernel
theorem dX6_outside_5 : decode cX6_outside 5 = .ok (.bipush (-4), 2) := by decide +kernel
theorem dX6_outside_7 : decode cX6_outside 7 = .ok (.ireturn, 1) := by decide +kernel
theorem dX6_outside_8 : decode cX6_outside 8 = .ok (.iload_n 0, 1) := by decide +kernel
theorem dX6_outside_9 : decode cX6_outside 9 = .ok (.iload_n 2, 1) := by decide +kernel
theorem dX6_outside_10 : decode cX6_outside 10 = .ok (.if_icmp .le 8, 3) := by decide +kernel
theorem dX6_outside_13 : decode cX6_outside 13 = .ok (.bipush (-6), 2) := by decide +kernel
theorem dX6_outside_15 : decode cX6_outside 15 = .ok (.goto 4, 3) := by decide +kernel
theorem dX6_outside_18 : decode cX6_outside 18 = .ok (.iconst 0, 1) := by decide +kernel
theorem dX6_outside_19 : decode cX6_outside 19 = .ok (.ireturn, 1) := by decide +kernel
theorem dX6_otherThan_0 : decode cX6_otherThan 0 = .ok (.iload_n 0, 1) := by decide +kernel
theorem dX6_otherThan_1 : decode cX6_otherThan 1 = .ok (.ifCond .lt 8, 3) := by decide +kernel
theorem dX6_otherThan_4 : decode cX6_otherThan 4 = .ok (.iload_n 0, 1) := by decide +kernel
theorem dX6_otherThan_5 : decode cX6_otherThan 5 = .ok (.iload_n 1, 1) := by decide +kernel
theorem dX6_otherThan_6 : decode cX6_otherThan 6 = .ok (.if_icmp .le 8, 3) := by decide +kernel
theorem dX6_otherThan_9 : decode cX6_otherThan 9 = .ok (.bipush (-2), 2) := by decide +kernel
theorem dX6_otherThan_11 : decode cX6_otherThan 11 = .ok (.goto 4, 3) := by decide +kernel
theorem dX6_otherThan_14 : decode cX6_otherThan 14 = .ok (.iconst 0, 1) := by decide +kernel
theorem dX6_otherThan_15 : decode cX6_otherThan 15 = .ok (.ireturn, 1) := by decide +kernel
theorem dX6_nobody_0 : decode cX6_nobody 0 = .ok (.aload_n 0, 1) := by decide +kernel
theorem dX6_nobody_1 : decode cX6_nobody 1 = .ok (.getfield 10, 3) := by decide +kernel
theorem dX6_nobody_4 : decode cX6_nobody 4 = .ok (.iload_n 1, 1) := by decide +kernel
theorem dX6_nobody_5 : decode cX6_nobody 5 = .ok (.invokevirtual 269, 3) := by decide +kernel
theorem dX6_nobody_8 : decode cX6_nobody 8 = .ok (.ifCond .eq 7, 3) := by decide +kernel
theorem dX6_nobody_11 : decode cX6_nobody 11 = .ok (.iconst 0, 1) := by decide +kernel
theorem dX6_nobody_12 : decode cX6_nobody 12 = .ok (.goto 4, 3) := by decide +kernel
theorem dX6_nobody_15 : decode cX6_nobody 15 = .ok (.iconst (-1), 1) := by decide +kernel
theorem dX6_nobody_16 : decode cX6_nobody 16 = .ok (.ireturn, 1) := by decide +kernel
theorem dX6_notTwo_0 : decode cX6_notTwo 0 = .ok (.aload_n 0, 1) := by decide +kernel
theorem dX6_notTwo_1 : decode cX6_notTwo 1 = .ok (.getfield 10, 3) := by decide +kernel
theorem dX6_notTwo_4 : decode cX6_notTwo 4 = .ok (.iload_n 1, 1) := by decide +kernel
theorem dX6_notTwo_5 : decode cX6_notTwo 5 = .ok (.iload_n 2, 1) := by decide +kernel
theorem dX6_notTwo_6 : decode cX6_notTwo 6 = .ok (.invokevirtual 288, 3) := by decide +kernel
theorem dX6_notTwo_9 : decode cX6_notTwo 9 = .ok (.ifCond .eq 7, 3) := by decide +kernel
theorem dX6_notTwo_12 : decode cX6_notTwo 12 = .ok (.iconst 0, 1) := by decide +kernel
theorem dX6_notTwo_13 : decode cX6_notTwo 13 = .ok (.goto 4, 3) := by decide +kernel
theorem dX6_notTwo_16 : decode cX6_notTwo 16 = .ok (.iconst (-1), 1) := by decide +kernel
theorem dX6_notTwo_17 : decode cX6_notTwo 17 = .ok (.ireturn, 1) := by decide +kernel
theorem dX6_notOdds_0 : decode cX6_notOdds 0 = .ok (.iload_n 0, 1) := by decide +kernel
theorem dX6_notOdds_1 : decode cX6_notOdds 1 = .ok (.ifCond .lt 12, 3) := by decide +kernel
theorem dX6_notOdds_4 : decode cX6_notOdds 4 = .ok (.iload_n 2, 1) := by decide +kernel
theorem dX6_notOdds_5 : decode cX6_notOdds 5 = .ok (.ifCond .lt 8, 3) := by decide +kernel
theorem dX6_notOdds_8 : decode cX6_notOdds 8 = .ok (.iload_n 1, 1) := by decide +kernel
theorem dX6_notOdds_9 : decode cX6_notOdds 9 = .ok (.iconst 2, 1) := by decide +kernel
theorem dX6_notOdds_10 : decode cX6_notOdds 10 = .ok (.if_icmp .ge 6, 3) := by decide +kernel
theorem dX6_notOdds_13 : decode cX6_notOdds 13 = .ok (.bipush (-4), 2) := by decide +kernel
theorem dX6_notOdds_15 : decode cX6_notOdds 15 = .ok (.ireturn, 1) := by decide +kernel
theorem dX6_notOdds_16 : decode cX6_notOdds 16 = .ok (.iload_n 0, 1) := by decide +kernel
theorem dX6_notOdds_17 : decode cX6_notOdds 17 = .ok (.bipush 7, 2) := by decide +kernel
theorem dX6_notOdds_19 : decode cX6_notOdds 19 = .ok (.if_icmp .gt 15, 3) := by decide +kernel
theorem dX6_notOdds_22 : decode cX6_notOdds 22 = .ok (.iload_n 1, 1) := by decide +kernel
theorem dX6_notOdds_23 : decode cX6_notOdds 23 = .ok (.bipush 20, 2) := by decide +kernel
theorem dX6_notOdds_25 : decode cX6_notOdds 25 = .ok (.if_icmp .gt 9, 3) := by decide +kernel
theorem dX6_notOdds_28 : decode cX6_notOdds 28 = .ok (.iload_n 2, 1) := by decide +kernel
theorem dX6_notOdds_29 : decode cX6_notOdds 29 = .ok (.bipush 99, 2) := by decide +kernel
theorem dX6_notOdds_31 : decode cX6_notOdds 31 = .ok (.if_icmp .le 8, 3) := by decide +kernel
theorem dX6_notOdds_34 : decode cX6_notOdds 34 = .ok (.bipush (-6), 2) := by decide +kernel
theorem dX6_notOdds_36 : decode cX6_notOdds 36 = .ok (.goto 4, 3) := by decide +kernel
theorem dX6_notOdds_39 : decode cX6_notOdds 39 = .ok (.iconst 0, 1) := by decide +kernel
theorem dX6_notOdds_40 : decode cX6_notOdds 40 = .ok (.ireturn, 1) := by decide +kernel
theorem dX6_bit_0 : decode cX6_bit 0 = .ok (.iload_n 0, 1) := by decide +kernel
theorem dX6_bit_1 : decode cX6_bit 1 = .ok (.ifCond .eq 7, 3) := by decide +kernel
theorem dX6_bit_4 : decode cX6_bit 4 = .ok (.iconst 1, 1) := by decide +kernel
theorem dX6_bit_5 : decode cX6_bit 5 = .ok (.goto 4, 3) := by decide +kernel
theorem dX6_bit_8 : decode cX6_bit 8 = .ok (.iconst 0, 1) := by decide +kernel
theorem dX6_bit_9 : decode cX6_bit 9 = .ok (.ireturn, 1) := by decide +kernel
theorem dX6_isIn_0 : decode cX6_isIn 0 = .ok (.iload_n 0, 1) := by decide +kernel
theorem dX6_isIn_1 : decode cX6_isIn 1 = .ok (.iload_n 1, 1) := by decide +kernel
theorem dX6_isIn_2 : decode cX6_isIn 2 = .ok (.ishr, 1) := by decide +kernel
theorem dX6_isIn_3 : decode cX6_isIn 3 = .ok (.iconst 1, 1) := by decide +kernel
theorem dX6_isIn_4 : decode cX6_isIn 4 = .ok (.iand, 1) := by decide +kernel
theorem dX6_isIn_5 : decode cX6_isIn 5 = .ok (.iconst 1, 1) := by decide +kernel
theorem dX6_isIn_6 : decode cX6_isIn 6 = .ok (.if_icmp .ne 7, 3) := by decide +kernel
theorem dX6_isIn_9 : decode cX6_isIn 9 = .ok (.iconst 1, 1) := by decide +kernel
theorem dX6_isIn_10 : decode cX6_isIn 10 = .ok (.goto 4, 3) := by decide +kernel
theorem dX6_isIn_13 : decode cX6_isIn 13 = .ok (.iconst 0, 1) := by decide +kernel
theorem dX6_isIn_14 : decode cX6_isIn 14 = .ok (.ireturn, 1) := by decide +kernel
theorem dX6_thinkAhead_0 : decode cX6_thinkAhead 0 = .ok (.aload_n 0, 1) := by decide +kernel
theorem dX6_thinkAhead_1 : decode cX6_thinkAhead 1 = .ok (.getfield 19, 3) := by decide +kernel
theorem dX6_thinkAhead_4 : decode cX6_thinkAhead 4 = .ok (.aload_n 0, 1) := by decide +kernel
theorem dX6_thinkAhead_5 : decode cX6_thinkAhead 5 = .ok (.getfield 10, 3) := by decide +kernel
theorem dX6_thinkAhead_8 : decode cX6_thinkAhead 8 = .ok (.invokevirtual 100, 3) := by decide +kernel
theorem dX6_thinkAhead_11 : decode cX6_thinkAhead 11 = .ok (.aload_n 0, 1) := by decide +kernel
theorem dX6_thinkAhead_12 : decode cX6_thinkAhead 12 = .ok (.getfield 19, 3) := by decide +kernel
theorem dX6_thinkAhead_15 : decode cX6_thinkAhead 15 = .ok (.iload_n 1, 1) := by decide +kernel
theorem dX6_thinkAhead_16 : decode cX6_thinkAhead 16 = .ok (.invokevirtual 168, 3) := by decide +kernel
theorem dX6_thinkAhead_19 : decode cX6_thinkAhead 19 = .ok (.pop, 1) := by decide +kernel
theorem dX6_thinkAhead_20 : decode cX6_thinkAhead 20 = .ok (.return_, 1) := by decide +kernel
theorem dX6_steadyAfter_0 : decode cX6_steadyAfter 0 = .ok (.aload_n 0, 1) := by decide +kernel
theorem dX6_steadyAfter_1 : decode cX6_steadyAfter 1 = .ok (.getfield 19, 3) := by decide +kernel
theorem dX6_steadyAfter_4 : decode cX6_steadyAfter 4 = .ok (.aload_n 0, 1) := by decide +kernel
theorem dX6_steadyAfter_5 : decode cX6_steadyAfter 5 = .ok (.getfield 10, 3) := by decide +kernel
theorem dX6_steadyAfter_8 : decode cX6_steadyAfter 8 = .ok (.invokevirtual 100, 3) := by decide +kernel
theorem dX6_steadyAfter_11 : decode cX6_steadyAfter 11 = .ok (.iconst 0, 1) := by decide +kernel
theorem dX6_steadyAfter_12 : decode cX6_steadyAfter 12 = .ok (.istore_n 1, 1) := by decide +kernel
theorem dX6_steadyAfter_13 : decode cX6_steadyAfter 13 = .ok (.iload_n 1, 1) := by decide +kernel
theorem dX6_steadyAfter_14 : decode cX6_steadyAfter 14 = .ok (.bipush 60, 2) := by decide +kernel
theorem dX6_steadyAfter_16 : decode cX6_steadyAfter 16 = .ok (.if_icmp .gt 44, 3) := by decide +kernel
theorem dX6_steadyAfter_19 : decode cX6_steadyAfter 19 = .ok (.aload_n 0, 1) := by decide +kernel
theorem dX6_steadyAfter_20 : decode cX6_steadyAfter 20 = .ok (.getfield 22, 3) := by decide +kernel
theorem dX6_steadyAfter_23 : decode cX6_steadyAfter 23 = .ok (.aload_n 0, 1) := by decide +kernel
theorem dX6_steadyAfter_24 : decode cX6_steadyAfter 24 = .ok (.getfield 19, 3) := by decide +kernel
theorem dX6_steadyAfter_27 : decode cX6_steadyAfter 27 = .ok (.invokevirtual 100, 3) := by decide +kernel
theorem dX6_steadyAfter_30 : decode cX6_steadyAfter 30 = .ok (.aload_n 0, 1) := by decide +kernel
theorem dX6_steadyAfter_31 : decode cX6_steadyAfter 31 = .ok (.getfield 19, 3) := by decide +kernel
theorem dX6_steadyAfter_34 : decode cX6_steadyAfter 34 = .ok (.iconst (-1), 1) := by decide +kernel
theorem dX6_steadyAfter_35 : decode cX6_steadyAfter 35 = .ok (.invokevirtual 177, 3) := by decide +kernel
theorem dX6_steadyAfter_38 : decode cX6_steadyAfter 38 = .ok (.aload_n 0, 1) := by decide +kernel
theorem dX6_steadyAfter_39 : decode cX6_steadyAfter 39 = .ok (.getfield 19, 3) := by decide +kernel
theorem dX6_steadyAfter_42 : decode cX6_steadyAfter 42 = .ok (.aload_n 0, 1) := by decide +kernel
theorem dX6_steadyAfter_43 : decode cX6_steadyAfter 43 = .ok (.getfield 22, 3) := by decide +kernel
theorem dX6_steadyAfter_46 : decode cX6_steadyAfter 46 = .ok (.invokevirtual 291, 3) := by decide +kernel
theorem dX6_steadyAfter_49 : decode cX6_steadyAfter 49 = .ok (.ifCond .eq 5, 3) := by decide +kernel
theorem dX6_steadyAfter_52 : decode cX6_steadyAfter 52 = .ok (.iload_n 1, 1) := by decide +kernel
theorem dX6_steadyAfter_53 : decode cX6_steadyAfter 53 = .ok (.ireturn, 1) := by decide +kernel
theorem dX6_steadyAfter_54 : decode cX6_steadyAfter 54 = .ok (.iinc 1 1, 3) := by decide +kernel
theorem dX6_steadyAfter_57 : decode cX6_steadyAfter 57 = .ok (.goto (-44), 3) := by decide +kernel
theorem dX6_steadyAfter_60 : decode cX6_steadyAfter 60 = .ok (.bipush (-9), 2) := by decide +kernel
theorem dX6_steadyAfter_62 : decode cX6_steadyAfter 62 = .ok (.ireturn, 1) := by decide +kernel
theorem dX6_firstRuin_0 : decode cX6_firstRuin 0 = .ok (.aload_n 0, 1) := by decide +kernel
theorem dX6_firstRuin_1 : decode cX6_firstRuin 1 = .ok (.getfield 19, 3) := by decide +kernel
theorem dX6_firstRuin_4 : decode cX6_firstRuin 4 = .ok (.aload_n 0, 1) := by decide +kernel
theorem dX6_firstRuin_5 : decode cX6_firstRuin 5 = .ok (.getfield 10, 3) := by decide +kernel
theorem dX6_firstRuin_8 : decode cX6_firstRuin 8 = .ok (.invokevirtual 100, 3) := by decide +kernel
theorem dX6_firstRuin_11 : decode cX6_firstRuin 11 = .ok (.iconst 1, 1) := by decide +kernel
theorem dX6_firstRuin_12 : decode cX6_firstRuin 12 = .ok (.istore_n 2, 1) := by decide +kernel
theorem dX6_firstRuin_13 : decode cX6_firstRuin 13 = .ok (.iload_n 2, 1) := by decide +kernel
theorem dX6_firstRuin_14 : decode cX6_firstRuin 14 = .ok (.bipush 60, 2) := by decide +kernel
theorem dX6_firstRuin_16 : decode cX6_firstRuin 16 = .ok (.if_icmp .gt 70, 3) := by decide +kernel
theorem dX6_firstRuin_19 : decode cX6_firstRuin 19 = .ok (.aload_n 0, 1) := by decide +kernel
theorem dX6_firstRuin_20 : decode cX6_firstRuin 20 = .ok (.getfield 19, 3) := by decide +kernel
theorem dX6_firstRuin_23 : decode cX6_firstRuin 23 = .ok (.iconst (-1), 1) := by decide +kernel
theorem dX6_firstRuin_24 : decode cX6_firstRuin 24 = .ok (.invokevirtual 177, 3) := by decide +kernel
theorem dX6_firstRuin_27 : decode cX6_firstRuin 27 = .ok (.iconst 0, 1) := by decide +kernel
theorem dX6_firstRuin_28 : decode cX6_firstRuin 28 = .ok (.istore_n 3, 1) := by decide +kernel
theorem dX6_firstRuin_29 : decode cX6_firstRuin 29 = .ok (.iload_n 3, 1) := by decide +kernel
theorem dX6_firstRuin_30 : decode cX6_firstRuin 30 = .ok (.aload_n 0, 1) := by decide +kernel
theorem dX6_firstRuin_31 : decode cX6_firstRuin 31 = .ok (.getfield 10, 3) := by decide +kernel
theorem dX6_firstRuin_34 : decode cX6_firstRuin 34 = .ok (.getfield 186, 3) := by decide +kernel
theorem dX6_firstRuin_37 : decode cX6_firstRuin 37 = .ok (.if_icmp .ge 43, 3) := by decide +kernel
theorem dX6_firstRuin_40 : decode cX6_firstRuin 40 = .ok (.aload_n 0, 1) := by decide +kernel
theorem dX6_firstRuin_41 : decode cX6_firstRuin 41 = .ok (.getfield 10, 3) := by decide +kernel
theorem dX6_firstRuin_44 : decode cX6_firstRuin 44 = .ok (.getfield 124, 3) := by decide +kernel
theorem dX6_firstRuin_47 : decode cX6_firstRuin 47 = .ok (.iload_n 3, 1) := by decide +kernel
theorem dX6_firstRuin_48 : decode cX6_firstRuin 48 = .ok (.iaload, 1) := by decide +kernel
theorem dX6_firstRuin_49 : decode cX6_firstRuin 49 = .ok (.ifCond .le 25, 3) := by decide +kernel
theorem dX6_firstRuin_52 : decode cX6_firstRuin 52 = .ok (.aload_n 0, 1) := by decide +kernel
theorem dX6_firstRuin_53 : decode cX6_firstRuin 53 = .ok (.getfield 19, 3) := by decide +kernel
theorem dX6_firstRuin_56 : decode cX6_firstRuin 56 = .ok (.getfield 124, 3) := by decide +kernel
theorem dX6_firstRuin_59 : decode cX6_firstRuin 59 = .ok (.iload_n 3, 1) := by decide +kernel
theorem dX6_firstRuin_60 : decode cX6_firstRuin 60 = .ok (.iaload, 1) := by decide +kernel
theorem dX6_firstRuin_61 : decode cX6_firstRuin 61 = .ok (.ifCond .ne 13, 3) := by decide +kernel
theorem dX6_firstRuin_64 : decode cX6_firstRuin 64 = .ok (.iload_n 1, 1) := by decide +kernel
theorem dX6_firstRuin_65 : decode cX6_firstRuin 65 = .ok (.ifCond .ne 7, 3) := by decide +kernel
theorem dX6_firstRuin_68 : decode cX6_firstRuin 68 = .ok (.iload_n 3, 1) := by decide +kernel
theorem dX6_firstRuin_69 : decode cX6_firstRuin 69 = .ok (.goto 4, 3) := by decide +kernel
theorem dX6_firstRuin_72 : decode cX6_firstRuin 72 = .ok (.iload_n 2, 1) := by decide +kernel
theorem dX6_firstRuin_73 : decode cX6_firstRuin 73 = .ok (.ireturn, 1) := by decide +kernel
theorem dX6_firstRuin_74 : decode cX6_firstRuin 74 = .ok (.iinc 3 1, 3) := by decide +kernel
theorem dX6_firstRuin_77 : decode cX6_firstRuin 77 = .ok (.goto (-48), 3) := by decide +kernel
theorem dX6_firstRuin_80 : decode cX6_firstRuin 80 = .ok (.iinc 2 1, 3) := by decide +kernel
theorem dX6_firstRuin_83 : decode cX6_firstRuin 83 = .ok (.goto (-70), 3) := by decide +kernel
theorem dX6_firstRuin_86 : decode cX6_firstRuin 86 = .ok (.bipush (-9), 2) := by decide +kernel
theorem dX6_firstRuin_88 : decode cX6_firstRuin 88 = .ok (.ireturn, 1) := by decide +kernel
theorem dX6_bestChange_0 : decode cX6_bestChange 0 = .ok (.aload_n 0, 1) := by decide +kernel
theorem dX6_bestChange_1 : decode cX6_bestChange 1 = .ok (.iload_n 2, 1) := by decide +kernel
theorem dX6_bestChange_2 : decode cX6_bestChange 2 = .ok (.invokevirtual 111, 3) := by decide +kernel
theorem dX6_bestChange_5 : decode cX6_bestChange 5 = .ok (.iload_n 3, 1) := by decide +kernel
theorem dX6_bestChange_6 : decode cX6_bestChange 6 = .ok (.iconst 0, 1) := by decide +kernel
theorem dX6_bestChange_7 : decode cX6_bestChange 7 = .ok (.bipush 20, 2) := by decide +kernel
theorem dX6_bestChange_9 : decode cX6_bestChange 9 = .ok (.invokestatic 73, 3) := by decide +kernel
theorem dX6_bestChange_12 : decode cX6_bestChange 12 = .ok (.iconst 0, 1) := by decide +kernel
theorem dX6_bestChange_13 : decode cX6_bestChange 13 = .ok (.invokestatic 81, 3) := by decide +kernel
theorem dX6_bestChange_16 : decode cX6_bestChange 16 = .ok (.istore 4, 2) := by decide +kernel
theorem dX6_bestChange_18 : decode cX6_bestChange 18 = .ok (.iload 4, 2) := by decide +kernel
theorem dX6_bestChange_20 : decode cX6_bestChange 20 = .ok (.ifCond .eq 10, 3) := by decide +kernel
theorem dX6_bestChange_23 : decode cX6_bestChange 23 = .ok (.aload_n 0, 1) := by decide +kernel
theorem dX6_bestChange_24 : decode cX6_bestChange 24 = .ok (.iload 4, 2) := by decide +kernel
theorem dX6_bestChange_26 : decode cX6_bestChange 26 = .ok (.invokevirtual 84, 3) := by decide +kernel
theorem dX6_bestChange_29 : decode cX6_bestChange 29 = .ok (.ireturn, 1) := by decide +kernel
theorem dX6_bestChange_30 : decode cX6_bestChange 30 = .ok (.aload_n 0, 1) := by decide +kernel
theorem dX6_bestChange_31 : decode cX6_bestChange 31 = .ok (.iload_n 3, 1) := by decide +kernel
theorem dX6_bestChange_32 : decode cX6_bestChange 32 = .ok (.invokevirtual 174, 3) := by decide +kernel
theorem dX6_bestChange_35 : decode cX6_bestChange 35 = .ok (.aload_n 0, 1) := by decide +kernel
theorem dX6_bestChange_36 : decode cX6_bestChange 36 = .ok (.getfield 19, 3) := by decide +kernel
theorem dX6_bestChange_39 : decode cX6_bestChange 39 = .ok (.getfield 124, 3) := by decide +kernel
theorem dX6_bestChange_42 : decode cX6_bestChange 42 = .ok (.iload_n 2, 1) := by decide +kernel
theorem dX6_bestChange_43 : decode cX6_bestChange 43 = .ok (.iaload, 1) := by decide +kernel
theorem dX6_bestChange_44 : decode cX6_bestChange 44 = .ok (.istore 5, 2) := by decide +kernel
theorem dX6_bestChange_46 : decode cX6_bestChange 46 = .ok (.bipush (-9), 2) := by decide +kernel
theorem dX6_bestChange_48 : decode cX6_bestChange 48 = .ok (.istore 6, 2) := by decide +kernel
theorem dX6_bestChange_50 : decode cX6_bestChange 50 = .ok (.iconst 0, 1) := by decide +kernel
theorem dX6_bestChange_51 : decode cX6_bestChange 51 = .ok (.istore 7, 2) := by decide +kernel
theorem dX6_bestChange_53 : decode cX6_bestChange 53 = .ok (.iload 7, 2) := by decide +kernel
theorem dX6_bestChange_55 : decode cX6_bestChange 55 = .ok (.aload_n 0, 1) := by decide +kernel
theorem dX6_bestChange_56 : decode cX6_bestChange 56 = .ok (.getfield 10, 3) := by decide +kernel
theorem dX6_bestChange_59 : decode cX6_bestChange 59 = .ok (.getfield 186, 3) := by decide +kernel
theorem dX6_bestChange_62 : decode cX6_bestChange 62 = .ok (.if_icmp .ge 77, 3) := by decide +kernel
theorem dX6_bestChange_65 : decode cX6_bestChange 65 = .ok (.aload_n 0, 1) := by decide +kernel
theorem dX6_bestChange_66 : decode cX6_bestChange 66 = .ok (.iload_n 1, 1) := by decide +kernel
theorem dX6_bestChange_67 : decode cX6_bestChange 67 = .ok (.iload_n 2, 1) := by decide +kernel
theorem dX6_bestChange_68 : decode cX6_bestChange 68 = .ok (.iload 7, 2) := by decide +kernel
theorem dX6_bestChange_70 : decode cX6_bestChange 70 = .ok (.invokevirtual 295, 3) := by decide +kernel
theorem dX6_bestChange_73 : decode cX6_bestChange 73 = .ok (.ifCond .eq 60, 3) := by decide +kernel
theorem dX6_bestChange_76 : decode cX6_bestChange 76 = .ok (.aload_n 0, 1) := by decide +kernel
theorem dX6_bestChange_77 : decode cX6_bestChange 77 = .ok (.getfield 19, 3) := by decide +kernel
theorem dX6_bestChange_80 : decode cX6_bestChange 80 = .ok (.aload_n 0, 1) := by decide +kernel
theorem dX6_bestChange_81 : decode cX6_bestChange 81 = .ok (.getfield 10, 3) := by decide +kernel
theorem dX6_bestChange_84 : decode cX6_bestChange 84 = .ok (.invokevirtual 100, 3) := by decide +kernel
theorem dX6_bestChange_87 : decode cX6_bestChange 87 = .ok (.aload_n 0, 1) := by decide +kernel
theorem dX6_bestChange_88 : decode cX6_bestChange 88 = .ok (.iload_n 1, 1) := by decide +kernel
theorem dX6_bestChange_89 : decode cX6_bestChange 89 = .ok (.iload_n 2, 1) := by decide +kernel
theorem dX6_bestChange_90 : decode cX6_bestChange 90 = .ok (.iload 7, 2) := by decide +kernel
theorem dX6_bestChange_92 : decode cX6_bestChange 92 = .ok (.invokevirtual 299, 3) := by decide +kernel
theorem dX6_bestChange_95 : decode cX6_bestChange 95 = .ok (.aload_n 0, 1) := by decide +kernel
theorem dX6_bestChange_96 : decode cX6_bestChange 96 = .ok (.getfield 19, 3) := by decide +kernel
theorem dX6_bestChange_99 : decode cX6_bestChange 99 = .ok (.iload_n 3, 1) := by decide +kernel
theorem dX6_bestChange_100 : decode cX6_bestChange 100 = .ok (.invokevirtual 168, 3) := by decide +kernel
theorem dX6_bestChange_103 : decode cX6_bestChange 103 = .ok (.pop, 1) := by decide +kernel
theorem dX6_bestChange_104 : decode cX6_bestChange 104 = .ok (.aload_n 0, 1) := by decide +kernel
theorem dX6_bestChange_105 : decode cX6_bestChange 105 = .ok (.getfield 19, 3) := by decide +kernel
theorem dX6_bestChange_108 : decode cX6_bestChange 108 = .ok (.getfield 124, 3) := by decide +kernel
theorem dX6_bestChange_111 : decode cX6_bestChange 111 = .ok (.iload_n 2, 1) := by decide +kernel
theorem dX6_bestChange_112 : decode cX6_bestChange 112 = .ok (.iaload, 1) := by decide +kernel
theorem dX6_bestChange_113 : decode cX6_bestChange 113 = .ok (.iload 5, 2) := by decide +kernel
theorem dX6_bestChange_115 : decode cX6_bestChange 115 = .ok (.if_icmp .le 18, 3) := by decide +kernel
theorem dX6_bestChange_118 : decode cX6_bestChange 118 = .ok (.aload_n 0, 1) := by decide +kernel
theorem dX6_bestChange_119 : decode cX6_bestChange 119 = .ok (.getfield 19, 3) := by decide +kernel
theorem dX6_bestChange_122 : decode cX6_bestChange 122 = .ok (.getfield 124, 3) := by decide +kernel
theorem dX6_bestChange_125 : decode cX6_bestChange 125 = .ok (.iload_n 2, 1) := by decide +kernel
theorem dX6_bestChange_126 : decode cX6_bestChange 126 = .ok (.iaload, 1) := by decide +kernel
theorem dX6_bestChange_127 : decode cX6_bestChange 127 = .ok (.istore 5, 2) := by decide +kernel
theorem dX6_bestChange_129 : decode cX6_bestChange 129 = .ok (.iload 7, 2) := by decide +kernel
theorem dX6_bestChange_131 : decode cX6_bestChange 131 = .ok (.istore 6, 2) := by decide +kernel
theorem dX6_bestChange_133 : decode cX6_bestChange 133 = .ok (.iinc 7 1, 3) := by decide +kernel
theorem dX6_bestChange_136 : decode cX6_bestChange 136 = .ok (.goto (-83), 3) := by decide +kernel
theorem dX6_bestChange_139 : decode cX6_bestChange 139 = .ok (.iload 6, 2) := by decide +kernel
theorem dX6_bestChange_141 : decode cX6_bestChange 141 = .ok (.ireturn, 1) := by decide +kernel
theorem dX6_mayChange_0 : decode cX6_mayChange 0 = .ok (.iload_n 1, 1) := by decide +kernel
theorem dX6_mayChange_1 : decode cX6_mayChange 1 = .ok (.lookupswitch 79 #[(0, 27), (1, 69)], 27) := by decide +kernel
theorem dX6_mayChange_28 : decode cX6_mayChange 28 = .ok (.aload_n 0, 1) := by decide +kernel
theorem dX6_mayChange_29 : decode cX6_mayChange 29 = .ok (.getfield 10, 3) := by decide +kernel
theorem dX6_mayChange_32 : decode cX6_mayChange 32 = .ok (.iload_n 3, 1) := by decide +kernel
theorem dX6_mayChange_33 : decode cX6_mayChange 33 = .ok (.iload_n 2, 1) := by decide +kernel
theorem dX6_mayChange_34 : decode cX6_mayChange 34 = .ok (.invokevirtual 141, 3) := by decide +kernel
theorem dX6_mayChange_37 : decode cX6_mayChange 37 = .ok (.ifCond .eq 31, 3) := by decide +kernel
theorem dX6_mayChange_40 : decode cX6_mayChange 40 = .ok (.aload_n 0, 1) := by decide +kernel
theorem dX6_mayChange_41 : decode cX6_mayChange 41 = .ok (.getfield 10, 3) := by decide +kernel
theorem dX6_mayChange_44 : decode cX6_mayChange 44 = .ok (.iload_n 2, 1) := by decide +kernel
theorem dX6_mayChange_45 : decode cX6_mayChange 45 = .ok (.iload_n 3, 1) := by decide +kernel
theorem dX6_mayChange_46 : decode cX6_mayChange 46 = .ok (.invokevirtual 141, 3) := by decide +kernel
theorem dX6_mayChange_49 : decode cX6_mayChange 49 = .ok (.ifCond .ne 19, 3) := by decide +kernel
theorem dX6_mayChange_52 : decode cX6_mayChange 52 = .ok (.aload_n 0, 1) := by decide +kernel
theorem dX6_mayChange_53 : decode cX6_mayChange 53 = .ok (.getfield 10, 3) := by decide +kernel
theorem dX6_mayChange_56 : decode cX6_mayChange 56 = .ok (.iload_n 2, 1) := by decide +kernel
theorem dX6_mayChange_57 : decode cX6_mayChange 57 = .ok (.iload_n 3, 1) := by decide +kernel
theorem dX6_mayChange_58 : decode cX6_mayChange 58 = .ok (.invokevirtual 149, 3) := by decide +kernel
theorem dX6_mayChange_61 : decode cX6_mayChange 61 = .ok (.ifCond .ne 7, 3) := by decide +kernel
theorem dX6_mayChange_64 : decode cX6_mayChange 64 = .ok (.iconst 1, 1) := by decide +kernel
theorem dX6_mayChange_65 : decode cX6_mayChange 65 = .ok (.goto 4, 3) := by decide +kernel
theorem dX6_mayChange_68 : decode cX6_mayChange 68 = .ok (.iconst 0, 1) := by decide +kernel
theorem dX6_mayChange_69 : decode cX6_mayChange 69 = .ok (.ireturn, 1) := by decide +kernel
theorem dX6_mayChange_70 : decode cX6_mayChange 70 = .ok (.aload_n 0, 1) := by decide +kernel
theorem dX6_mayChange_71 : decode cX6_mayChange 71 = .ok (.getfield 10, 3) := by decide +kernel
theorem dX6_mayChange_74 : decode cX6_mayChange 74 = .ok (.iload_n 2, 1) := by decide +kernel
theorem dX6_mayChange_75 : decode cX6_mayChange 75 = .ok (.iload_n 3, 1) := by decide +kernel
theorem dX6_mayChange_76 : decode cX6_mayChange 76 = .ok (.invokevirtual 152, 3) := by decide +kernel
theorem dX6_mayChange_79 : decode cX6_mayChange 79 = .ok (.ireturn, 1) := by decide +kernel
theorem dX6_mayChange_80 : decode cX6_mayChange 80 = .ok (.iload_n 2, 1) := by decide +kernel
theorem dX6_mayChange_81 : decode cX6_mayChange 81 = .ok (.iload_n 3, 1) := by decide +kernel
theorem dX6_mayChange_82 : decode cX6_mayChange 82 = .ok (.if_icmp .eq 7, 3) := by decide +kernel
theorem dX6_mayChange_85 : decode cX6_mayChange 85 = .ok (.iconst 1, 1) := by decide +kernel
theorem dX6_mayChange_86 : decode cX6_mayChange 86 = .ok (.goto 4, 3) := by decide +kernel
theorem dX6_mayChange_89 : decode cX6_mayChange 89 = .ok (.iconst 0, 1) := by decide +kernel
theorem dX6_mayChange_90 : decode cX6_mayChange 90 = .ok (.ireturn, 1) := by decide +kernel
theorem dX6_makeChange_0 : decode cX6_makeChange 0 = .ok (.iload_n 1, 1) := by decide +kernel
theorem dX6_makeChange_1 : decode cX6_makeChange 1 = .ok (.iconst 2, 1) := by decide +kernel
theorem dX6_makeChange_2 : decode cX6_makeChange 2 = .ok (.if_icmp .ne 15, 3) := by decide +kernel
theorem dX6_makeChange_5 : decode cX6_makeChange 5 = .ok (.aload_n 0, 1) := by decide +kernel
theorem dX6_makeChange_6 : decode cX6_makeChange 6 = .ok (.getfield 19, 3) := by decide +kernel
theorem dX6_makeChange_9 : decode cX6_makeChange 9 = .ok (.iload_n 2, 1) := by decide +kernel
theorem dX6_makeChange_10 : decode cX6_makeChange 10 = .ok (.iload_n 3, 1) := by decide +kernel
theorem dX6_makeChange_11 : decode cX6_makeChange 11 = .ok (.invokevirtual 303, 3) := by decide +kernel
theorem dX6_makeChange_14 : decode cX6_makeChange 14 = .ok (.goto 22, 3) := by decide +kernel
theorem dX6_makeChange_17 : decode cX6_makeChange 17 = .ok (.aload_n 0, 1) := by decide +kernel
theorem dX6_makeChange_18 : decode cX6_makeChange 18 = .ok (.getfield 19, 3) := by decide +kernel
theorem dX6_makeChange_21 : decode cX6_makeChange 21 = .ok (.iload_n 2, 1) := by decide +kernel
theorem dX6_makeChange_22 : decode cX6_makeChange 22 = .ok (.iload_n 3, 1) := by decide +kernel
theorem dX6_makeChange_23 : decode cX6_makeChange 23 = .ok (.iload_n 1, 1) := by decide +kernel
theorem dX6_makeChange_24 : decode cX6_makeChange 24 = .ok (.ifCond .ne 7, 3) := by decide +kernel
theorem dX6_makeChange_27 : decode cX6_makeChange 27 = .ok (.iconst 1, 1) := by decide +kernel
theorem dX6_makeChange_28 : decode cX6_makeChange 28 = .ok (.goto 4, 3) := by decide +kernel
theorem dX6_makeChange_31 : decode cX6_makeChange 31 = .ok (.iconst 0, 1) := by decide +kernel
theorem dX6_makeChange_32 : decode cX6_makeChange 32 = .ok (.invokevirtual 259, 3) := by decide +kernel
theorem dX6_makeChange_35 : decode cX6_makeChange 35 = .ok (.pop, 1) := by decide +kernel
theorem dX6_makeChange_36 : decode cX6_makeChange 36 = .ok (.return_, 1) := by decide +kernel
theorem dX6_wealthWithFeud_0 : decode cX6_wealthWithFeud 0 = .ok (.aload_n 0, 1) := by decide +kernel
theorem dX6_wealthWithFeud_1 : decode cX6_wealthWithFeud 1 = .ok (.getfield 19, 3) := by decide +kernel
theorem dX6_wealthWithFeud_4 : decode cX6_wealthWithFeud 4 = .ok (.aload_n 0, 1) := by decide +kernel
theorem dX6_wealthWithFeud_5 : decode cX6_wealthWithFeud 5 = .ok (.getfield 10, 3) := by decide +kernel
theorem dX6_wealthWithFeud_8 : decode cX6_wealthWithFeud 8 = .ok (.invokevirtual 100, 3) := by decide +kernel
theorem dX6_wealthWithFeud_11 : decode cX6_wealthWithFeud 11 = .ok (.aload_n 0, 1) := by decide +kernel
theorem dX6_wealthWithFeud_12 : decode cX6_wealthWithFeud 12 = .ok (.getfield 19, 3) := by decide +kernel
theorem dX6_wealthWithFeud_15 : decode cX6_wealthWithFeud 15 = .ok (.iload_n 1, 1) := by decide +kernel
theorem dX6_wealthWithFeud_16 : decode cX6_wealthWithFeud 16 = .ok (.iload_n 2, 1) := by decide +kernel
theorem dX6_wealthWithFeud_17 : decode cX6_wealthWithFeud 17 = .ok (.iload_n 3, 1) := by decide +kernel
theorem dX6_wealthWithFeud_18 : decode cX6_wealthWithFeud 18 = .ok (.invokevirtual 307, 3) := by decide +kernel
theorem dX6_wealthWithFeud_21 : decode cX6_wealthWithFeud 21 = .ok (.pop, 1) := by decide +kernel
theorem dX6_wealthWithFeud_22 : decode cX6_wealthWithFeud 22 = .ok (.aload_n 0, 1) := by decide +kernel
theorem dX6_wealthWithFeud_23 : decode cX6_wealthWithFeud 23 = .ok (.getfield 19, 3) := by decide +kernel
theorem dX6_wealthWithFeud_26 : decode cX6_wealthWithFeud 26 = .ok (.iload 4, 2) := by decide +kernel
theorem dX6_wealthWithFeud_28 : decode cX6_wealthWithFeud 28 = .ok (.invokevirtual 168, 3) := by decide +kernel
theorem dX6_wealthWithFeud_31 : decode cX6_wealthWithFeud 31 = .ok (.pop, 1) := by decide +kernel
theorem dX6_wealthWithFeud_32 : decode cX6_wealthWithFeud 32 = .ok (.aload_n 0, 1) := by decide +kernel
theorem dX6_wealthWithFeud_33 : decode cX6_wealthWithFeud 33 = .ok (.getfield 19, 3) := by decide +kernel
theorem dX6_wealthWithFeud_36 : decode cX6_wealthWithFeud 36 = .ok (.invokevirtual 171, 3) := by decide +kernel
theorem dX6_wealthWithFeud_39 : decode cX6_wealthWithFeud 39 = .ok (.ireturn, 1) := by decide +kernel
theorem dX6_goesAsTold_0 : decode cX6_goesAsTold 0 = .ok (.iconst 0, 1) := by decide +kernel
theorem dX6_goesAsTold_1 : decode cX6_goesAsTold 1 = .ok (.istore_n 2, 1) := by decide +kernel
theorem dX6_goesAsTold_2 : decode cX6_goesAsTold 2 = .ok (.iload_n 2, 1) := by decide +kernel
theorem dX6_goesAsTold_3 : decode cX6_goesAsTold 3 = .ok (.aload_n 0, 1) := by decide +kernel
theorem dX6_goesAsTold_4 : decode cX6_goesAsTold 4 = .ok (.getfield 266, 3) := by decide +kernel
theorem dX6_goesAsTold_7 : decode cX6_goesAsTold 7 = .ok (.if_icmp .ge 41, 3) := by decide +kernel
theorem dX6_goesAsTold_10 : decode cX6_goesAsTold 10 = .ok (.iload_n 2, 1) := by decide +kernel
theorem dX6_goesAsTold_11 : decode cX6_goesAsTold 11 = .ok (.ifCond .le 11, 3) := by decide +kernel
theorem dX6_goesAsTold_14 : decode cX6_goesAsTold 14 = .ok (.aload_n 0, 1) := by decide +kernel
theorem dX6_goesAsTold_15 : decode cX6_goesAsTold 15 = .ok (.getfield 19, 3) := by decide +kernel
theorem dX6_goesAsTold_18 : decode cX6_goesAsTold 18 = .ok (.iconst (-1), 1) := by decide +kernel
theorem dX6_goesAsTold_19 : decode cX6_goesAsTold 19 = .ok (.invokevirtual 177, 3) := by decide +kernel
theorem dX6_goesAsTold_22 : decode cX6_goesAsTold 22 = .ok (.aload_n 0, 1) := by decide +kernel
theorem dX6_goesAsTold_23 : decode cX6_goesAsTold 23 = .ok (.getfield 19, 3) := by decide +kernel
theorem dX6_goesAsTold_26 : decode cX6_goesAsTold 26 = .ok (.getfield 124, 3) := by decide +kernel
theorem dX6_goesAsTold_29 : decode cX6_goesAsTold 29 = .ok (.iload_n 1, 1) := by decide +kernel
theorem dX6_goesAsTold_30 : decode cX6_goesAsTold 30 = .ok (.iaload, 1) := by decide +kernel
theorem dX6_goesAsTold_31 : decode cX6_goesAsTold 31 = .ok (.aload_n 0, 1) := by decide +kernel
theorem dX6_goesAsTold_32 : decode cX6_goesAsTold 32 = .ok (.getfield 32, 3) := by decide +kernel
theorem dX6_goesAsTold_35 : decode cX6_goesAsTold 35 = .ok (.iload_n 2, 1) := by decide +kernel
theorem dX6_goesAsTold_36 : decode cX6_goesAsTold 36 = .ok (.iaload, 1) := by decide +kernel
theorem dX6_goesAsTold_37 : decode cX6_goesAsTold 37 = .ok (.if_icmp .eq 5, 3) := by decide +kernel
theorem dX6_goesAsTold_40 : decode cX6_goesAsTold 40 = .ok (.iconst 0, 1) := by decide +kernel
theorem dX6_goesAsTold_41 : decode cX6_goesAsTold 41 = .ok (.ireturn, 1) := by decide +kernel
theorem dX6_goesAsTold_42 : decode cX6_goesAsTold 42 = .ok (.iinc 2 1, 3) := by decide +kernel
theorem dX6_goesAsTold_45 : decode cX6_goesAsTold 45 = .ok (.goto (-43), 3) := by decide +kernel
theorem dX6_goesAsTold_48 : decode cX6_goesAsTold 48 = .ok (.iconst 1, 1) := by decide +kernel
theorem dX6_goesAsTold_49 : decode cX6_goesAsTold 49 = .ok (.ireturn, 1) := by decide +kernel
theorem dX6_drawSignings_0 : decode cX6_drawSignings 0 = .ok (.iload_n 1, 1) := by decide +kernel
theorem dX6_drawSignings_1 : decode cX6_drawSignings 1 = .ok (.istore_n 2, 1) := by decide +kernel
theorem dX6_drawSignings_2 : decode cX6_drawSignings 2 = .ok (.iconst 0, 1) := by decide +kernel
theorem dX6_drawSignings_3 : decode cX6_drawSignings 3 = .ok (.istore_n 3, 1) := by decide +kernel
theorem dX6_drawSignings_4 : decode cX6_drawSignings 4 = .ok (.iload_n 3, 1) := by decide +kernel
theorem dX6_drawSignings_5 : decode cX6_drawSignings 5 = .ok (.aload_n 0, 1) := by decide +kernel
theorem dX6_drawSignings_6 : decode cX6_drawSignings 6 = .ok (.getfield 19, 3) := by decide +kernel
theorem dX6_drawSignings_9 : decode cX6_drawSignings 9 = .ok (.getfield 186, 3) := by decide +kernel
theorem dX6_drawSignings_12 : decode cX6_drawSignings 12 = .ok (.if_icmp .ge 90, 3) := by decide +kernel
theorem dX6_drawSignings_15 : decode cX6_drawSignings 15 = .ok (.iload_n 3, 1) := by decide +kernel
theorem dX6_drawSignings_16 : decode cX6_drawSignings 16 = .ok (.iconst 1, 1) := by decide +kernel
theorem dX6_drawSignings_17 : decode cX6_drawSignings 17 = .ok (.iadd, 1) := by decide +kernel
theorem dX6_drawSignings_18 : decode cX6_drawSignings 18 = .ok (.istore 4, 2) := by decide +kernel
theorem dX6_drawSignings_20 : decode cX6_drawSignings 20 = .ok (.iload 4, 2) := by decide +kernel
theorem dX6_drawSignings_22 : decode cX6_drawSignings 22 = .ok (.aload_n 0, 1) := by decide +kernel
theorem dX6_drawSignings_23 : decode cX6_drawSignings 23 = .ok (.getfield 19, 3) := by decide +kernel
theorem dX6_drawSignings_26 : decode cX6_drawSignings 26 = .ok (.getfield 186, 3) := by decide +kernel
theorem dX6_drawSignings_29 : decode cX6_drawSignings 29 = .ok (.if_icmp .ge 67, 3) := by decide +kernel
theorem dX6_drawSignings_32 : decode cX6_drawSignings 32 = .ok (.iload_n 2, 1) := by decide +kernel
theorem dX6_drawSignings_33 : decode cX6_drawSignings 33 = .ok (.ldc_w 310, 3) := by decide +kernel
theorem dX6_drawSignings_36 : decode cX6_drawSignings 36 = .ok (.imul, 1) := by decide +kernel
theorem dX6_drawSignings_37 : decode cX6_drawSignings 37 = .ok (.ldc_w 311, 3) := by decide +kernel
theorem dX6_drawSignings_40 : decode cX6_drawSignings 40 = .ok (.iadd, 1) := by decide +kernel
theorem dX6_drawSignings_41 : decode cX6_drawSignings 41 = .ok (.istore_n 2, 1) := by decide +kernel
theorem dX6_drawSignings_42 : decode cX6_drawSignings 42 = .ok (.iload_n 2, 1) := by decide +kernel
theorem dX6_drawSignings_43 : decode cX6_drawSignings 43 = .ok (.ldc_w 312, 3) := by decide +kernel
theorem dX6_drawSignings_46 : decode cX6_drawSignings 46 = .ok (.iand, 1) := by decide +kernel
theorem dX6_drawSignings_47 : decode cX6_drawSignings 47 = .ok (.sipush 256, 3) := by decide +kernel
theorem dX6_drawSignings_50 : decode cX6_drawSignings 50 = .ok (.idiv, 1) := by decide +kernel
theorem dX6_drawSignings_51 : decode cX6_drawSignings 51 = .ok (.iconst 2, 1) := by decide +kernel
theorem dX6_drawSignings_52 : decode cX6_drawSignings 52 = .ok (.irem, 1) := by decide +kernel
theorem dX6_drawSignings_53 : decode cX6_drawSignings 53 = .ok (.iconst 1, 1) := by decide +kernel
theorem dX6_drawSignings_54 : decode cX6_drawSignings 54 = .ok (.if_icmp .ne 7, 3) := by decide +kernel
theorem dX6_drawSignings_57 : decode cX6_drawSignings 57 = .ok (.iconst 1, 1) := by decide +kernel
theorem dX6_drawSignings_58 : decode cX6_drawSignings 58 = .ok (.goto 4, 3) := by decide +kernel
theorem dX6_drawSignings_61 : decode cX6_drawSignings 61 = .ok (.iconst 0, 1) := by decide +kernel
theorem dX6_drawSignings_62 : decode cX6_drawSignings 62 = .ok (.istore 5, 2) := by decide +kernel
theorem dX6_drawSignings_64 : decode cX6_drawSignings 64 = .ok (.aload_n 0, 1) := by decide +kernel
theorem dX6_drawSignings_65 : decode cX6_drawSignings 65 = .ok (.getfield 19, 3) := by decide +kernel
theorem dX6_drawSignings_68 : decode cX6_drawSignings 68 = .ok (.iload_n 3, 1) := by decide +kernel
theorem dX6_drawSignings_69 : decode cX6_drawSignings 69 = .ok (.iload 4, 2) := by decide +kernel
theorem dX6_drawSignings_71 : decode cX6_drawSignings 71 = .ok (.iload 5, 2) := by decide +kernel
theorem dX6_drawSignings_73 : decode cX6_drawSignings 73 = .ok (.invokevirtual 259, 3) := by decide +kernel
theorem dX6_drawSignings_76 : decode cX6_drawSignings 76 = .ok (.pop, 1) := by decide +kernel
theorem dX6_drawSignings_77 : decode cX6_drawSignings 77 = .ok (.aload_n 0, 1) := by decide +kernel
theorem dX6_drawSignings_78 : decode cX6_drawSignings 78 = .ok (.getfield 19, 3) := by decide +kernel
theorem dX6_drawSignings_81 : decode cX6_drawSignings 81 = .ok (.iload 4, 2) := by decide +kernel
theorem dX6_drawSignings_83 : decode cX6_drawSignings 83 = .ok (.iload_n 3, 1) := by decide +kernel
theorem dX6_drawSignings_84 : decode cX6_drawSignings 84 = .ok (.iload 5, 2) := by decide +kernel
theorem dX6_drawSignings_86 : decode cX6_drawSignings 86 = .ok (.invokevirtual 259, 3) := by decide +kernel
theorem dX6_drawSignings_89 : decode cX6_drawSignings 89 = .ok (.pop, 1) := by decide +kernel
theorem dX6_drawSignings_90 : decode cX6_drawSignings 90 = .ok (.iinc 4 1, 3) := by decide +kernel
theorem dX6_drawSignings_93 : decode cX6_drawSignings 93 = .ok (.goto (-73), 3) := by decide +kernel
theorem dX6_drawSignings_96 : decode cX6_drawSignings 96 = .ok (.iinc 3 1, 3) := by decide +kernel
theorem dX6_drawSignings_99 : decode cX6_drawSignings 99 = .ok (.goto (-95), 3) := by decide +kernel
theorem dX6_drawSignings_102 : decode cX6_drawSignings 102 = .ok (.iload_n 2, 1) := by decide +kernel
theorem dX6_drawSignings_103 : decode cX6_drawSignings 103 = .ok (.ireturn, 1) := by decide +kernel
theorem dX6_partOf_0 : decode cX6_partOf 0 = .ok (.lload_n 0, 1) := by decide +kernel
theorem dX6_partOf_1 : decode cX6_partOf 1 = .ok (.lload_n 2, 1) := by decide +kernel
theorem dX6_partOf_2 : decode cX6_partOf 2 = .ok (.invokestatic 313, 3) := by decide +kernel
theorem dX6_partOf_5 : decode cX6_partOf 5 = .ok (.lstore 5, 2) := by decide +kernel
theorem dX6_partOf_7 : decode cX6_partOf 7 = .ok (.lload 5, 2) := by decide +kernel
theorem dX6_partOf_9 : decode cX6_partOf 9 = .ok (.lconst 0, 1) := by decide +kernel
theorem dX6_partOf_10 : decode cX6_partOf 10 = .ok (.lcmp, 1) := by decide +kernel
theorem dX6_partOf_11 : decode cX6_partOf 11 = .ok (.ifCond .ne 5, 3) := by decide +kernel
theorem dX6_partOf_14 : decode cX6_partOf 14 = .ok (.lconst 0, 1) := by decide +kernel
theorem dX6_partOf_15 : decode cX6_partOf 15 = .ok (.lreturn, 1) := by decide +kernel
theorem dX6_partOf_16 : decode cX6_partOf 16 = .ok (.iload 4, 2) := by decide +kernel
theorem dX6_partOf_18 : decode cX6_partOf 18 = .ok (.ifCond .ne 7, 3) := by decide +kernel
theorem dX6_partOf_21 : decode cX6_partOf 21 = .ok (.lload_n 0, 1) := by decide +kernel
theorem dX6_partOf_22 : decode cX6_partOf 22 = .ok (.goto 4, 3) := by decide +kernel
theorem dX6_partOf_25 : decode cX6_partOf 25 = .ok (.lload_n 2, 1) := by decide +kernel
theorem dX6_partOf_26 : decode cX6_partOf 26 = .ok (.lload 5, 2) := by decide +kernel
theorem dX6_partOf_28 : decode cX6_partOf 28 = .ok (.ldiv, 1) := by decide +kernel
theorem dX6_partOf_29 : decode cX6_partOf 29 = .ok (.lreturn, 1) := by decide +kernel
theorem dX6_commonDivisor_0 : decode cX6_commonDivisor 0 = .ok (.lload_n 0, 1) := by decide +kernel
theorem dX6_commonDivisor_1 : decode cX6_commonDivisor 1 = .ok (.lstore 4, 2) := by decide +kernel
theorem dX6_commonDivisor_3 : decode cX6_commonDivisor 3 = .ok (.lload_n 2, 1) := by decide +kernel
theorem dX6_commonDivisor_4 : decode cX6_commonDivisor 4 = .ok (.lstore 6, 2) := by decide +kernel
theorem dX6_commonDivisor_6 : decode cX6_commonDivisor 6 = .ok (.iconst 0, 1) := by decide +kernel
theorem dX6_commonDivisor_7 : decode cX6_commonDivisor 7 = .ok (.istore 8, 2) := by decide +kernel
theorem dX6_commonDivisor_9 : decode cX6_commonDivisor 9 = .ok (.iload 8, 2) := by decide +kernel
theorem dX6_commonDivisor_11 : decode cX6_commonDivisor 11 = .ok (.bipush 100, 2) := by decide +kernel
theorem dX6_commonDivisor_13 : decode cX6_commonDivisor 13 = .ok (.if_icmp .ge 31, 3) := by decide +kernel
theorem dX6_commonDivisor_16 : decode cX6_commonDivisor 16 = .ok (.lload 6, 2) := by decide +kernel
theorem dX6_commonDivisor_18 : decode cX6_commonDivisor 18 = .ok (.lconst 0, 1) := by decide +kernel
theorem dX6_commonDivisor_19 : decode cX6_commonDivisor 19 = .ok (.lcmp, 1) := by decide +kernel
theorem dX6_commonDivisor_20 : decode cX6_commonDivisor 20 = .ok (.ifCond .eq 24, 3) := by decide +kernel
theorem dX6_commonDivisor_23 : decode cX6_commonDivisor 23 = .ok (.lload 4, 2) := by decide +kernel
theorem dX6_commonDivisor_25 : decode cX6_commonDivisor 25 = .ok (.lload 6, 2) := by decide +kernel
theorem dX6_commonDivisor_27 : decode cX6_commonDivisor 27 = .ok (.lrem, 1) := by decide +kernel
theorem dX6_commonDivisor_28 : decode cX6_commonDivisor 28 = .ok (.lstore 9, 2) := by decide +kernel
theorem dX6_commonDivisor_30 : decode cX6_commonDivisor 30 = .ok (.lload 6, 2) := by decide +kernel
theorem dX6_commonDivisor_32 : decode cX6_commonDivisor 32 = .ok (.lstore 4, 2) := by decide +kernel
theorem dX6_commonDivisor_34 : decode cX6_commonDivisor 34 = .ok (.lload 9, 2) := by decide +kernel
theorem dX6_commonDivisor_36 : decode cX6_commonDivisor 36 = .ok (.lstore 6, 2) := by decide +kernel
theorem dX6_commonDivisor_38 : decode cX6_commonDivisor 38 = .ok (.iinc 8 1, 3) := by decide +kernel
theorem dX6_commonDivisor_41 : decode cX6_commonDivisor 41 = .ok (.goto (-32), 3) := by decide +kernel
theorem dX6_commonDivisor_44 : decode cX6_commonDivisor 44 = .ok (.lload 4, 2) := by decide +kernel
theorem dX6_commonDivisor_46 : decode cX6_commonDivisor 46 = .ok (.lreturn, 1) := by decide +kernel
