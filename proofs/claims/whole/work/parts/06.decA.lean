theorem dX0_init_0 : decode cX0_init 0 = .ok (.aload_n 0, 1) := by decide +kernel
theorem dX0_init_1 : decode cX0_init 1 = .ok (.invokespecial 3, 3) := by decide +kernel
theorem dX0_init_4 : decode cX0_init 4 = .ok (.aload_n 0, 1) := by decide +kernel
theorem dX0_init_5 : decode cX0_init 5 = .ok (.bipush 8, 2) := by decide +kernel
theorem dX0_init_7 : decode cX0_init 7 = .ok (.newarray .int, 2) := by decide +kernel
theorem dX0_init_9 : decode cX0_init 9 = .ok (.putfield 9, 3) := by decide +kernel
theorem dX0_init_12 : decode cX0_init 12 = .ok (.aload_n 0, 1) := by decide +kernel
theorem dX0_init_13 : decode cX0_init 13 = .ok (.bipush 8, 2) := by decide +kernel
theorem dX0_init_15 : decode cX0_init 15 = .ok (.newarray .int, 2) := by decide +kernel
theorem dX0_init_17 : decode cX0_init 17 = .ok (.putfield 15, 3) := by decide +kernel
theorem dX0_init_20 : decode cX0_init 20 = .ok (.aload_n 0, 1) := by decide +kernel
theorem dX0_init_21 : decode cX0_init 21 = .ok (.bipush 8, 2) := by decide +kernel
theorem dX0_init_23 : decode cX0_init 23 = .ok (.newarray .int, 2) := by decide +kernel
theorem dX0_init_25 : decode cX0_init 25 = .ok (.putfield 18, 3) := by decide +kernel
theorem dX0_init_28 : decode cX0_init 28 = .ok (.aload_n 0, 1) := by decide +kernel
theorem dX0_init_29 : decode cX0_init 29 = .ok (.bipush 8, 2) := by decide +kernel
theorem dX0_init_31 : decode cX0_init 31 = .ok (.newarray .int, 2) := by decide +kernel
theorem dX0_init_33 : decode cX0_init 33 = .ok (.putfield 21, 3) := by decide +kernel
theorem dX0_init_36 : decode cX0_init 36 = .ok (.aload_n 0, 1) := by decide +kernel
theorem dX0_init_37 : decode cX0_init 37 = .ok (.bipush 8, 2) := by decide +kernel
theorem dX0_init_39 : decode cX0_init 39 = .ok (.newarray .int, 2) := by decide +kernel
theorem dX0_init_41 : decode cX0_init 41 = .ok (.putfield 24, 3) := by decide +kernel
theorem dX0_init_44 : decode cX0_init 44 = .ok (.return_, 1) := by decide +kernel
theorem dX0_become_0 : decode cX0_become 0 = .ok (.aload_n 1, 1) := by decide +kernel
theorem dX0_become_1 : decode cX0_become 1 = .ok (.getfield 9, 3) := by decide +kernel
theorem dX0_become_4 : decode cX0_become 4 = .ok (.iconst 0, 1) := by decide +kernel
theorem dX0_become_5 : decode cX0_become 5 = .ok (.aload_n 0, 1) := by decide +kernel
theorem dX0_become_6 : decode cX0_become 6 = .ok (.getfield 9, 3) := by decide +kernel
theorem dX0_become_9 : decode cX0_become 9 = .ok (.iconst 0, 1) := by decide +kernel
theorem dX0_become_10 : decode cX0_become 10 = .ok (.bipush 8, 2) := by decide +kernel
theorem dX0_become_12 : decode cX0_become 12 = .ok (.invokestatic 27, 3) := by decide +kernel
theorem dX0_become_15 : decode cX0_become 15 = .ok (.aload_n 1, 1) := by decide +kernel
theorem dX0_become_16 : decode cX0_become 16 = .ok (.getfield 15, 3) := by decide +kernel
theorem dX0_become_19 : decode cX0_become 19 = .ok (.iconst 0, 1) := by decide +kernel
theorem dX0_become_20 : decode cX0_become 20 = .ok (.aload_n 0, 1) := by decide +kernel
theorem dX0_become_21 : decode cX0_become 21 = .ok (.getfield 15, 3) := by decide +kernel
theorem dX0_become_24 : decode cX0_become 24 = .ok (.iconst 0, 1) := by decide +kernel
theorem dX0_become_25 : decode cX0_become 25 = .ok (.bipush 8, 2) := by decide +kernel
theorem dX0_become_27 : decode cX0_become 27 = .ok (.invokestatic 27, 3) := by decide +kernel
theorem dX0_become_30 : decode cX0_become 30 = .ok (.aload_n 1, 1) := by decide +kernel
theorem dX0_become_31 : decode cX0_become 31 = .ok (.getfield 18, 3) := by decide +kernel
theorem dX0_become_34 : decode cX0_become 34 = .ok (.iconst 0, 1) := by decide +kernel
theorem dX0_become_35 : decode cX0_become 35 = .ok (.aload_n 0, 1) := by decide +kernel
theorem dX0_become_36 : decode cX0_become 36 = .ok (.getfield 18, 3) := by decide +kernel
theorem dX0_become_39 : decode cX0_become 39 = .ok (.iconst 0, 1) := by decide +kernel
theorem dX0_become_40 : decode cX0_become 40 = .ok (.bipush 8, 2) := by decide +kernel
theorem dX0_become_42 : decode cX0_become 42 = .ok (.invokestatic 27, 3) := by decide +kernel
theorem dX0_become_45 : decode cX0_become 45 = .ok (.aload_n 1, 1) := by decide +kernel
theorem dX0_become_46 : decode cX0_become 46 = .ok (.getfield 21, 3) := by decide +kernel
theorem dX0_become_49 : decode cX0_become 49 = .ok (.iconst 0, 1) := by decide +kernel
theorem dX0_become_50 : decode cX0_become 50 = .ok (.aload_n 0, 1) := by decide +kernel
theorem dX0_become_51 : decode cX0_become 51 = .ok (.getfield 21, 3) := by decide +kernel
theorem dX0_become_54 : decode cX0_become 54 = .ok (.iconst 0, 1) := by decide +kernel
theorem dX0_become_55 : decode cX0_become 55 = .ok (.bipush 8, 2) := by decide +kernel
theorem dX0_become_57 : decode cX0_become 57 = .ok (.invokestatic 27, 3) := by decide +kernel
theorem dX0_become_60 : decode cX0_become 60 = .ok (.aload_n 1, 1) := by decide +kernel
theorem dX0_become_61 : decode cX0_become 61 = .ok (.getfield 24, 3) := by decide +kernel
theorem dX0_become_64 : decode cX0_become 64 = .ok (.iconst 0, 1) := by decide +kernel
theorem dX0_become_65 : decode cX0_become 65 = .ok (.aload_n 0, 1) := by decide +kernel
theorem dX0_become_66 : decode cX0_become 66 = .ok (.getfield 24, 3) := by decide +kernel
theorem dX0_become_69 : decode cX0_become 69 = .ok (.iconst 0, 1) := by decide +kernel
theorem dX0_become_70 : decode cX0_become 70 = .ok (.bipush 8, 2) := by decide +kernel
theorem dX0_become_72 : decode cX0_become 72 = .ok (.invokestatic 27, 3) := by decide +kernel
theorem dX0_become_75 : decode cX0_become 75 = .ok (.aload_n 0, 1) := by decide +kernel
theorem dX0_become_76 : decode cX0_become 76 = .ok (.aload_n 1, 1) := by decide +kernel
theorem dX0_become_77 : decode cX0_become 77 = .ok (.getfield 33, 3) := by decide +kernel
theorem dX0_become_80 : decode cX0_become 80 = .ok (.putfield 33, 3) := by decide +kernel
theorem dX0_become_83 : decode cX0_become 83 = .ok (.aload_n 0, 1) := by decide +kernel
theorem dX0_become_84 : decode cX0_become 84 = .ok (.aload_n 1, 1) := by decide +kernel
theorem dX0_become_85 : decode cX0_become 85 = .ok (.getfield 37, 3) := by decide +kernel
theorem dX0_become_88 : decode cX0_become 88 = .ok (.putfield 37, 3) := by decide +kernel
theorem dX0_become_91 : decode cX0_become 91 = .ok (.return_, 1) := by decide +kernel
theorem dX0_isAs_0 : decode cX0_isAs 0 = .ok (.iconst 0, 1) := by decide +kernel
theorem dX0_isAs_1 : decode cX0_isAs 1 = .ok (.istore_n 2, 1) := by decide +kernel
theorem dX0_isAs_2 : decode cX0_isAs 2 = .ok (.iload_n 2, 1) := by decide +kernel
theorem dX0_isAs_3 : decode cX0_isAs 3 = .ok (.aload_n 0, 1) := by decide +kernel
theorem dX0_isAs_4 : decode cX0_isAs 4 = .ok (.getfield 33, 3) := by decide +kernel
theorem dX0_isAs_7 : decode cX0_isAs 7 = .ok (.if_icmp .ge 41, 3) := by decide +kernel
theorem dX0_isAs_10 : decode cX0_isAs 10 = .ok (.aload_n 0, 1) := by decide +kernel
theorem dX0_isAs_11 : decode cX0_isAs 11 = .ok (.getfield 18, 3) := by decide +kernel
theorem dX0_isAs_14 : decode cX0_isAs 14 = .ok (.iload_n 2, 1) := by decide +kernel
theorem dX0_isAs_15 : decode cX0_isAs 15 = .ok (.iaload, 1) := by decide +kernel
theorem dX0_isAs_16 : decode cX0_isAs 16 = .ok (.aload_n 1, 1) := by decide +kernel
theorem dX0_isAs_17 : decode cX0_isAs 17 = .ok (.getfield 18, 3) := by decide +kernel
theorem dX0_isAs_20 : decode cX0_isAs 20 = .ok (.iload_n 2, 1) := by decide +kernel
theorem dX0_isAs_21 : decode cX0_isAs 21 = .ok (.iaload, 1) := by decide +kernel
theorem dX0_isAs_22 : decode cX0_isAs 22 = .ok (.if_icmp .ne 18, 3) := by decide +kernel
theorem dX0_isAs_25 : decode cX0_isAs 25 = .ok (.aload_n 0, 1) := by decide +kernel
theorem dX0_isAs_26 : decode cX0_isAs 26 = .ok (.getfield 21, 3) := by decide +kernel
theorem dX0_isAs_29 : decode cX0_isAs 29 = .ok (.iload_n 2, 1) := by decide +kernel
theorem dX0_isAs_30 : decode cX0_isAs 30 = .ok (.iaload, 1) := by decide +kernel
theorem dX0_isAs_31 : decode cX0_isAs 31 = .ok (.aload_n 1, 1) := by decide +kernel
theorem dX0_isAs_32 : decode cX0_isAs 32 = .ok (.getfield 21, 3) := by decide +kernel
theorem dX0_isAs_35 : decode cX0_isAs 35 = .ok (.iload_n 2, 1) := by decide +kernel
theorem dX0_isAs_36 : decode cX0_isAs 36 = .ok (.iaload, 1) := by decide +kernel
theorem dX0_isAs_37 : decode cX0_isAs 37 = .ok (.if_icmp .eq 5, 3) := by decide +kernel
theorem dX0_isAs_40 : decode cX0_isAs 40 = .ok (.iconst 0, 1) := by decide +kernel
theorem dX0_isAs_41 : decode cX0_isAs 41 = .ok (.ireturn, 1) := by decide +kernel
theorem dX0_isAs_42 : decode cX0_isAs 42 = .ok (.iinc 2 1, 3) := by decide +kernel
theorem dX0_isAs_45 : decode cX0_isAs 45 = .ok (.goto (-43), 3) := by decide +kernel
theorem dX0_isAs_48 : decode cX0_isAs 48 = .ok (.iconst 1, 1) := by decide +kernel
theorem dX0_isAs_49 : decode cX0_isAs 49 = .ok (.ireturn, 1) := by decide +kernel
theorem dX0_has_0 : decode cX0_has 0 = .ok (.iload_n 1, 1) := by decide +kernel
theorem dX0_has_1 : decode cX0_has 1 = .ok (.ifCond .lt 15, 3) := by decide +kernel
theorem dX0_has_4 : decode cX0_has 4 = .ok (.iload_n 1, 1) := by decide +kernel
theorem dX0_has_5 : decode cX0_has 5 = .ok (.aload_n 0, 1) := by decide +kernel
theorem dX0_has_6 : decode cX0_has 6 = .ok (.getfield 33, 3) := by decide +kernel
theorem dX0_has_9 : decode cX0_has 9 = .ok (.if_icmp .ge 7, 3) := by decide +kernel
theorem dX0_has_12 : decode cX0_has 12 = .ok (.iconst 1, 1) := by decide +kernel
theorem dX0_has_13 : decode cX0_has 13 = .ok (.goto 4, 3) := by decide +kernel
theorem dX0_has_16 : decode cX0_has 16 = .ok (.iconst 0, 1) := by decide +kernel
theorem dX0_has_17 : decode cX0_has 17 = .ok (.ireturn, 1) := by decide +kernel
theorem dX0_hasTwo_0 : decode cX0_hasTwo 0 = .ok (.aload_n 0, 1) := by decide +kernel
theorem dX0_hasTwo_1 : decode cX0_hasTwo 1 = .ok (.iload_n 1, 1) := by decide +kernel
theorem dX0_hasTwo_2 : decode cX0_hasTwo 2 = .ok (.invokevirtual 40, 3) := by decide +kernel
theorem dX0_hasTwo_5 : decode cX0_hasTwo 5 = .ok (.ifCond .eq 20, 3) := by decide +kernel
theorem dX0_hasTwo_8 : decode cX0_hasTwo 8 = .ok (.aload_n 0, 1) := by decide +kernel
theorem dX0_hasTwo_9 : decode cX0_hasTwo 9 = .ok (.iload_n 2, 1) := by decide +kernel
theorem dX0_hasTwo_10 : decode cX0_hasTwo 10 = .ok (.invokevirtual 40, 3) := by decide +kernel
theorem dX0_hasTwo_13 : decode cX0_hasTwo 13 = .ok (.ifCond .eq 12, 3) := by decide +kernel
theorem dX0_hasTwo_16 : decode cX0_hasTwo 16 = .ok (.iload_n 1, 1) := by decide +kernel
theorem dX0_hasTwo_17 : decode cX0_hasTwo 17 = .ok (.iload_n 2, 1) := by decide +kernel
theorem dX0_hasTwo_18 : decode cX0_hasTwo 18 = .ok (.if_icmp .eq 7, 3) := by decide +kernel
theorem dX0_hasTwo_21 : decode cX0_hasTwo 21 = .ok (.iconst 1, 1) := by decide +kernel
theorem dX0_hasTwo_22 : decode cX0_hasTwo 22 = .ok (.goto 4, 3) := by decide +kernel
theorem dX0_hasTwo_25 : decode cX0_hasTwo 25 = .ok (.iconst 0, 1) := by decide +kernel
theorem dX0_hasTwo_26 : decode cX0_hasTwo 26 = .ok (.ireturn, 1) := by decide +kernel
theorem dX0_welcome_0 : decode cX0_welcome 0 = .ok (.aload_n 0, 1) := by decide +kernel
theorem dX0_welcome_1 : decode cX0_welcome 1 = .ok (.getfield 33, 3) := by decide +kernel
theorem dX0_welcome_4 : decode cX0_welcome 4 = .ok (.bipush 8, 2) := by decide +kernel
theorem dX0_welcome_6 : decode cX0_welcome 6 = .ok (.if_icmp .lt 5, 3) := by decide +kernel
theorem dX0_welcome_9 : decode cX0_welcome 9 = .ok (.iconst 0, 1) := by decide +kernel
theorem dX0_welcome_10 : decode cX0_welcome 10 = .ok (.ireturn, 1) := by decide +kernel
theorem dX0_welcome_11 : decode cX0_welcome 11 = .ok (.aload_n 0, 1) := by decide +kernel
theorem dX0_welcome_12 : decode cX0_welcome 12 = .ok (.getfield 9, 3) := by decide +kernel
theorem dX0_welcome_15 : decode cX0_welcome 15 = .ok (.aload_n 0, 1) := by decide +kernel
theorem dX0_welcome_16 : decode cX0_welcome 16 = .ok (.getfield 33, 3) := by decide +kernel
theorem dX0_welcome_19 : decode cX0_welcome 19 = .ok (.iload_n 1, 1) := by decide +kernel
theorem dX0_welcome_20 : decode cX0_welcome 20 = .ok (.iastore, 1) := by decide +kernel
theorem dX0_welcome_21 : decode cX0_welcome 21 = .ok (.aload_n 0, 1) := by decide +kernel
theorem dX0_welcome_22 : decode cX0_welcome 22 = .ok (.getfield 15, 3) := by decide +kernel
theorem dX0_welcome_25 : decode cX0_welcome 25 = .ok (.aload_n 0, 1) := by decide +kernel
theorem dX0_welcome_26 : decode cX0_welcome 26 = .ok (.getfield 33, 3) := by decide +kernel
theorem dX0_welcome_29 : decode cX0_welcome 29 = .ok (.iload_n 2, 1) := by decide +kernel
theorem dX0_welcome_30 : decode cX0_welcome 30 = .ok (.iastore, 1) := by decide +kernel
theorem dX0_welcome_31 : decode cX0_welcome 31 = .ok (.aload_n 0, 1) := by decide +kernel
theorem dX0_welcome_32 : decode cX0_welcome 32 = .ok (.getfield 18, 3) := by decide +kernel
theorem dX0_welcome_35 : decode cX0_welcome 35 = .ok (.aload_n 0, 1) := by decide +kernel
theorem dX0_welcome_36 : decode cX0_welcome 36 = .ok (.getfield 33, 3) := by decide +kernel
theorem dX0_welcome_39 : decode cX0_welcome 39 = .ok (.iload_n 3, 1) := by decide +kernel
theorem dX0_welcome_40 : decode cX0_welcome 40 = .ok (.iastore, 1) := by decide +kernel
theorem dX0_welcome_41 : decode cX0_welcome 41 = .ok (.aload_n 0, 1) := by decide +kernel
theorem dX0_welcome_42 : decode cX0_welcome 42 = .ok (.dup, 1) := by decide +kernel
theorem dX0_welcome_43 : decode cX0_welcome 43 = .ok (.getfield 33, 3) := by decide +kernel
theorem dX0_welcome_46 : decode cX0_welcome 46 = .ok (.iconst 1, 1) := by decide +kernel
theorem dX0_welcome_47 : decode cX0_welcome 47 = .ok (.iadd, 1) := by decide +kernel
theorem dX0_welcome_48 : decode cX0_welcome 48 = .ok (.putfield 33, 3) := by decide +kernel
theorem dX0_welcome_51 : decode cX0_welcome 51 = .ok (.iconst 1, 1) := by decide +kernel
theorem dX0_welcome_52 : decode cX0_welcome 52 = .ok (.ireturn, 1) := by decide +kernel
theorem dX0_enrich_0 : decode cX0_enrich 0 = .ok (.aload_n 0, 1) := by decide +kernel
theorem dX0_enrich_1 : decode cX0_enrich 1 = .ok (.iload_n 1, 1) := by decide +kernel
theorem dX0_enrich_2 : decode cX0_enrich 2 = .ok (.invokevirtual 40, 3) := by decide +kernel
theorem dX0_enrich_5 : decode cX0_enrich 5 = .ok (.ifCond .ne 5, 3) := by decide +kernel
theorem dX0_enrich_8 : decode cX0_enrich 8 = .ok (.iconst 0, 1) := by decide +kernel
theorem dX0_enrich_9 : decode cX0_enrich 9 = .ok (.ireturn, 1) := by decide +kernel
theorem dX0_enrich_10 : decode cX0_enrich 10 = .ok (.aload_n 0, 1) := by decide +kernel
theorem dX0_enrich_11 : decode cX0_enrich 11 = .ok (.getfield 18, 3) := by decide +kernel
theorem dX0_enrich_14 : decode cX0_enrich 14 = .ok (.iload_n 1, 1) := by decide +kernel
theorem dX0_enrich_15 : decode cX0_enrich 15 = .ok (.iload_n 2, 1) := by decide +kernel
theorem dX0_enrich_16 : decode cX0_enrich 16 = .ok (.iastore, 1) := by decide +kernel
theorem dX0_enrich_17 : decode cX0_enrich 17 = .ok (.iconst 1, 1) := by decide +kernel
theorem dX0_enrich_18 : decode cX0_enrich 18 = .ok (.ireturn, 1) := by decide +kernel
theorem dX0_hasSigned_0 : decode cX0_hasSigned 0 = .ok (.aload_n 0, 1) := by decide +kernel
theorem dX0_hasSigned_1 : decode cX0_hasSigned 1 = .ok (.iload_n 1, 1) := by decide +kernel
theorem dX0_hasSigned_2 : decode cX0_hasSigned 2 = .ok (.iload_n 2, 1) := by decide +kernel
theorem dX0_hasSigned_3 : decode cX0_hasSigned 3 = .ok (.invokevirtual 44, 3) := by decide +kernel
theorem dX0_hasSigned_6 : decode cX0_hasSigned 6 = .ok (.ifCond .eq 20, 3) := by decide +kernel
theorem dX0_hasSigned_9 : decode cX0_hasSigned 9 = .ok (.aload_n 0, 1) := by decide +kernel
theorem dX0_hasSigned_10 : decode cX0_hasSigned 10 = .ok (.getfield 21, 3) := by decide +kernel
theorem dX0_hasSigned_13 : decode cX0_hasSigned 13 = .ok (.iload_n 1, 1) := by decide +kernel
theorem dX0_hasSigned_14 : decode cX0_hasSigned 14 = .ok (.iaload, 1) := by decide +kernel
theorem dX0_hasSigned_15 : decode cX0_hasSigned 15 = .ok (.iload_n 2, 1) := by decide +kernel
theorem dX0_hasSigned_16 : decode cX0_hasSigned 16 = .ok (.invokestatic 48, 3) := by decide +kernel
theorem dX0_hasSigned_19 : decode cX0_hasSigned 19 = .ok (.ifCond .eq 7, 3) := by decide +kernel
theorem dX0_hasSigned_22 : decode cX0_hasSigned 22 = .ok (.iconst 1, 1) := by decide +kernel
theorem dX0_hasSigned_23 : decode cX0_hasSigned 23 = .ok (.goto 4, 3) := by decide +kernel
theorem dX0_hasSigned_26 : decode cX0_hasSigned 26 = .ok (.iconst 0, 1) := by decide +kernel
theorem dX0_hasSigned_27 : decode cX0_hasSigned 27 = .ok (.ireturn, 1) := by decide +kernel
theorem dX0_atFeud_0 : decode cX0_atFeud 0 = .ok (.aload_n 0, 1) := by decide +kernel
theorem dX0_atFeud_1 : decode cX0_atFeud 1 = .ok (.iload_n 1, 1) := by decide +kernel
theorem dX0_atFeud_2 : decode cX0_atFeud 2 = .ok (.iload_n 2, 1) := by decide +kernel
theorem dX0_atFeud_3 : decode cX0_atFeud 3 = .ok (.invokevirtual 44, 3) := by decide +kernel
theorem dX0_atFeud_6 : decode cX0_atFeud 6 = .ok (.ifCond .eq 20, 3) := by decide +kernel
theorem dX0_atFeud_9 : decode cX0_atFeud 9 = .ok (.aload_n 0, 1) := by decide +kernel
theorem dX0_atFeud_10 : decode cX0_atFeud 10 = .ok (.getfield 24, 3) := by decide +kernel
theorem dX0_atFeud_13 : decode cX0_atFeud 13 = .ok (.iload_n 1, 1) := by decide +kernel
theorem dX0_atFeud_14 : decode cX0_atFeud 14 = .ok (.iaload, 1) := by decide +kernel
theorem dX0_atFeud_15 : decode cX0_atFeud 15 = .ok (.iload_n 2, 1) := by decide +kernel
theorem dX0_atFeud_16 : decode cX0_atFeud 16 = .ok (.invokestatic 48, 3) := by decide +kernel
theorem dX0_atFeud_19 : decode cX0_atFeud 19 = .ok (.ifCond .eq 7, 3) := by decide +kernel
theorem dX0_atFeud_22 : decode cX0_atFeud 22 = .ok (.iconst 1, 1) := by decide +kernel
theorem dX0_atFeud_23 : decode cX0_atFeud 23 = .ok (.goto 4, 3) := by decide +kernel
theorem dX0_atFeud_26 : decode cX0_atFeud 26 = .ok (.iconst 0, 1) := by decide +kernel
theorem dX0_atFeud_27 : decode cX0_atFeud 27 = .ok (.ireturn, 1) := by decide +kernel
theorem dX0_isKin_0 : decode cX0_isKin 0 = .ok (.aload_n 0, 1) := by decide +kernel
theorem dX0_isKin_1 : decode cX0_isKin 1 = .ok (.iload_n 1, 1) := by decide +kernel
theorem dX0_isKin_2 : decode cX0_isKin 2 = .ok (.iload_n 2, 1) := by decide +kernel
theorem dX0_isKin_3 : decode cX0_isKin 3 = .ok (.invokevirtual 44, 3) := by decide +kernel
theorem dX0_isKin_6 : decode cX0_isKin 6 = .ok (.ifCond .eq 19, 3) := by decide +kernel
theorem dX0_isKin_9 : decode cX0_isKin 9 = .ok (.aload_n 0, 1) := by decide +kernel
theorem dX0_isKin_10 : decode cX0_isKin 10 = .ok (.iload_n 1, 1) := by decide +kernel
theorem dX0_isKin_11 : decode cX0_isKin 11 = .ok (.invokevirtual 51, 3) := by decide +kernel
theorem dX0_isKin_14 : decode cX0_isKin 14 = .ok (.iload_n 2, 1) := by decide +kernel
theorem dX0_isKin_15 : decode cX0_isKin 15 = .ok (.invokestatic 48, 3) := by decide +kernel
theorem dX0_isKin_18 : decode cX0_isKin 18 = .ok (.ifCond .eq 7, 3) := by decide +kernel
theorem dX0_isKin_21 : decode cX0_isKin 21 = .ok (.iconst 1, 1) := by decide +kernel
theorem dX0_isKin_22 : decode cX0_isKin 22 = .ok (.goto 4, 3) := by decide +kernel
theorem dX0_isKin_25 : decode cX0_isKin 25 = .ok (.iconst 0, 1) := by decide +kernel
theorem dX0_isKin_26 : decode cX0_isKin 26 = .ok (.ireturn, 1) := by decide +kernel
theorem dX0_kinOf_0 : decode cX0_kinOf 0 = .ok (.aload_n 0, 1) := by decide +kernel
theorem dX0_kinOf_1 : decode cX0_kinOf 1 = .ok (.iload_n 1, 1) := by decide +kernel
theorem dX0_kinOf_2 : decode cX0_kinOf 2 = .ok (.invokevirtual 40, 3) := by decide +kernel
theorem dX0_kinOf_5 : decode cX0_kinOf 5 = .ok (.ifCond .ne 5, 3) := by decide +kernel
theorem dX0_kinOf_8 : decode cX0_kinOf 8 = .ok (.iconst 0, 1) := by decide +kernel
theorem dX0_kinOf_9 : decode cX0_kinOf 9 = .ok (.ireturn, 1) := by decide +kernel
theorem dX0_kinOf_10 : decode cX0_kinOf 10 = .ok (.aload_n 0, 1) := by decide +kernel
theorem dX0_kinOf_11 : decode cX0_kinOf 11 = .ok (.getfield 21, 3) := by decide +kernel
theorem dX0_kinOf_14 : decode cX0_kinOf 14 = .ok (.iload_n 1, 1) := by decide +kernel
theorem dX0_kinOf_15 : decode cX0_kinOf 15 = .ok (.iaload, 1) := by decide +kernel
theorem dX0_kinOf_16 : decode cX0_kinOf 16 = .ok (.aload_n 0, 1) := by decide +kernel
theorem dX0_kinOf_17 : decode cX0_kinOf 17 = .ok (.getfield 24, 3) := by decide +kernel
theorem dX0_kinOf_20 : decode cX0_kinOf 20 = .ok (.iload_n 1, 1) := by decide +kernel
theorem dX0_kinOf_21 : decode cX0_kinOf 21 = .ok (.iaload, 1) := by decide +kernel
theorem dX0_kinOf_22 : decode cX0_kinOf 22 = .ok (.iconst (-1), 1) := by decide +kernel
theorem dX0_kinOf_23 : decode cX0_kinOf 23 = .ok (.ixor, 1) := by decide +kernel
theorem dX0_kinOf_24 : decode cX0_kinOf 24 = .ok (.iand, 1) := by decide +kernel
theorem dX0_kinOf_25 : decode cX0_kinOf 25 = .ok (.istore_n 2, 1) := by decide +kernel
theorem dX0_kinOf_26 : decode cX0_kinOf 26 = .ok (.iconst 0, 1) := by decide +kernel
theorem dX0_kinOf_27 : decode cX0_kinOf 27 = .ok (.istore_n 3, 1) := by decide +kernel
theorem dX0_kinOf_28 : decode cX0_kinOf 28 = .ok (.iload_n 3, 1) := by decide +kernel
theorem dX0_kinOf_29 : decode cX0_kinOf 29 = .ok (.aload_n 0, 1) := by decide +kernel
theorem dX0_kinOf_30 : decode cX0_kinOf 30 = .ok (.getfield 33, 3) := by decide +kernel
theorem dX0_kinOf_33 : decode cX0_kinOf 33 = .ok (.if_icmp .ge 30, 3) := by decide +kernel
theorem dX0_kinOf_36 : decode cX0_kinOf 36 = .ok (.aload_n 0, 1) := by decide +kernel
theorem dX0_kinOf_37 : decode cX0_kinOf 37 = .ok (.getfield 21, 3) := by decide +kernel
theorem dX0_kinOf_40 : decode cX0_kinOf 40 = .ok (.iload_n 3, 1) := by decide +kernel
theorem dX0_kinOf_41 : decode cX0_kinOf 41 = .ok (.iaload, 1) := by decide +kernel
theorem dX0_kinOf_42 : decode cX0_kinOf 42 = .ok (.iload_n 1, 1) := by decide +kernel
theorem dX0_kinOf_43 : decode cX0_kinOf 43 = .ok (.invokestatic 48, 3) := by decide +kernel
theorem dX0_kinOf_46 : decode cX0_kinOf 46 = .ok (.ifCond .ne 11, 3) := by decide +kernel
theorem dX0_kinOf_49 : decode cX0_kinOf 49 = .ok (.iload_n 2, 1) := by decide +kernel
theorem dX0_kinOf_50 : decode cX0_kinOf 50 = .ok (.iconst 1, 1) := by decide +kernel
theorem dX0_kinOf_51 : decode cX0_kinOf 51 = .ok (.iload_n 3, 1) := by decide +kernel
theorem dX0_kinOf_52 : decode cX0_kinOf 52 = .ok (.ishl, 1) := by decide +kernel
theorem dX0_kinOf_53 : decode cX0_kinOf 53 = .ok (.iconst (-1), 1) := by decide +kernel
theorem dX0_kinOf_54 : decode cX0_kinOf 54 = .ok (.ixor, 1) := by decide +kernel
theorem dX0_kinOf_55 : decode cX0_kinOf 55 = .ok (.iand, 1) := by decide +kernel
theorem dX0_kinOf_56 : decode cX0_kinOf 56 = .ok (.istore_n 2, 1) := by decide +kernel
theorem dX0_kinOf_57 : decode cX0_kinOf 57 = .ok (.iinc 3 1, 3) := by decide +kernel
theorem dX0_kinOf_60 : decode cX0_kinOf 60 = .ok (.goto (-32), 3) := by decide +kernel
theorem dX0_kinOf_63 : decode cX0_kinOf 63 = .ok (.iload_n 2, 1) := by decide +kernel
theorem dX0_kinOf_64 : decode cX0_kinOf 64 = .ok (.ireturn, 1) := by decide +kernel
theorem dX0_turnSigning_0 : decode cX0_turnSigning 0 = .ok (.aload_n 0, 1) := by decide +kernel
theorem dX0_turnSigning_1 : decode cX0_turnSigning 1 = .ok (.iload_n 1, 1) := by decide +kernel
theorem dX0_turnSigning_2 : decode cX0_turnSigning 2 = .ok (.iload_n 2, 1) := by decide +kernel
theorem dX0_turnSigning_3 : decode cX0_turnSigning 3 = .ok (.aload_n 0, 1) := by decide +kernel
theorem dX0_turnSigning_4 : decode cX0_turnSigning 4 = .ok (.iload_n 1, 1) := by decide +kernel
theorem dX0_turnSigning_5 : decode cX0_turnSigning 5 = .ok (.iload_n 2, 1) := by decide +kernel
theorem dX0_turnSigning_6 : decode cX0_turnSigning 6 = .ok (.invokevirtual 55, 3) := by decide +kernel
theorem dX0_turnSigning_9 : decode cX0_turnSigning 9 = .ok (.ifCond .ne 7, 3) := by decide +kernel
theorem dX0_turnSigning_12 : decode cX0_turnSigning 12 = .ok (.iconst 1, 1) := by decide +kernel
theorem dX0_turnSigning_13 : decode cX0_turnSigning 13 = .ok (.goto 4, 3) := by decide +kernel
theorem dX0_turnSigning_16 : decode cX0_turnSigning 16 = .ok (.iconst 0, 1) := by decide +kernel
theorem dX0_turnSigning_17 : decode cX0_turnSigning 17 = .ok (.invokevirtual 58, 3) := by decide +kernel
theorem dX0_turnSigning_20 : decode cX0_turnSigning 20 = .ok (.ireturn, 1) := by decide +kernel
theorem dX0_setSigning_0 : decode cX0_setSigning 0 = .ok (.aload_n 0, 1) := by decide +kernel
theorem dX0_setSigning_1 : decode cX0_setSigning 1 = .ok (.iload_n 1, 1) := by decide +kernel
theorem dX0_setSigning_2 : decode cX0_setSigning 2 = .ok (.iload_n 2, 1) := by decide +kernel
theorem dX0_setSigning_3 : decode cX0_setSigning 3 = .ok (.invokevirtual 44, 3) := by decide +kernel
theorem dX0_setSigning_6 : decode cX0_setSigning 6 = .ok (.ifCond .ne 5, 3) := by decide +kernel
theorem dX0_setSigning_9 : decode cX0_setSigning 9 = .ok (.iconst 0, 1) := by decide +kernel
theorem dX0_setSigning_10 : decode cX0_setSigning 10 = .ok (.ireturn, 1) := by decide +kernel
theorem dX0_setSigning_11 : decode cX0_setSigning 11 = .ok (.aload_n 0, 1) := by decide +kernel
theorem dX0_setSigning_12 : decode cX0_setSigning 12 = .ok (.getfield 21, 3) := by decide +kernel
theorem dX0_setSigning_15 : decode cX0_setSigning 15 = .ok (.iload_n 1, 1) := by decide +kernel
theorem dX0_setSigning_16 : decode cX0_setSigning 16 = .ok (.aload_n 0, 1) := by decide +kernel
theorem dX0_setSigning_17 : decode cX0_setSigning 17 = .ok (.getfield 21, 3) := by decide +kernel
theorem dX0_setSigning_20 : decode cX0_setSigning 20 = .ok (.iload_n 1, 1) := by decide +kernel
theorem dX0_setSigning_21 : decode cX0_setSigning 21 = .ok (.iaload, 1) := by decide +kernel
theorem dX0_setSigning_22 : decode cX0_setSigning 22 = .ok (.iload_n 2, 1) := by decide +kernel
theorem dX0_setSigning_23 : decode cX0_setSigning 23 = .ok (.iload_n 3, 1) := by decide +kernel
theorem dX0_setSigning_24 : decode cX0_setSigning 24 = .ok (.invokestatic 62, 3) := by decide +kernel
theorem dX0_setSigning_27 : decode cX0_setSigning 27 = .ok (.iastore, 1) := by decide +kernel
theorem dX0_setSigning_28 : decode cX0_setSigning 28 = .ok (.iconst 1, 1) := by decide +kernel
theorem dX0_setSigning_29 : decode cX0_setSigning 29 = .ok (.ireturn, 1) := by decide +kernel
theorem dX0_signBoth_0 : decode cX0_signBoth 0 = .ok (.aload_n 0, 1) := by decide +kernel
theorem dX0_signBoth_1 : decode cX0_signBoth 1 = .ok (.iload_n 1, 1) := by decide +kernel
theorem dX0_signBoth_2 : decode cX0_signBoth 2 = .ok (.iload_n 2, 1) := by decide +kernel
theorem dX0_signBoth_3 : decode cX0_signBoth 3 = .ok (.iconst 1, 1) := by decide +kernel
theorem dX0_signBoth_4 : decode cX0_signBoth 4 = .ok (.invokevirtual 58, 3) := by decide +kernel
theorem dX0_signBoth_7 : decode cX0_signBoth 7 = .ok (.ifCond .eq 17, 3) := by decide +kernel
theorem dX0_signBoth_10 : decode cX0_signBoth 10 = .ok (.aload_n 0, 1) := by decide +kernel
theorem dX0_signBoth_11 : decode cX0_signBoth 11 = .ok (.iload_n 2, 1) := by decide +kernel
theorem dX0_signBoth_12 : decode cX0_signBoth 12 = .ok (.iload_n 1, 1) := by decide +kernel
theorem dX0_signBoth_13 : decode cX0_signBoth 13 = .ok (.iconst 1, 1) := by decide +kernel
theorem dX0_signBoth_14 : decode cX0_signBoth 14 = .ok (.invokevirtual 58, 3) := by decide +kernel
theorem dX0_signBoth_17 : decode cX0_signBoth 17 = .ok (.ifCond .eq 7, 3) := by decide +kernel
theorem dX0_signBoth_20 : decode cX0_signBoth 20 = .ok (.iconst 1, 1) := by decide +kernel
theorem dX0_signBoth_21 : decode cX0_signBoth 21 = .ok (.goto 4, 3) := by decide +kernel
theorem dX0_signBoth_24 : decode cX0_signBoth 24 = .ok (.iconst 0, 1) := by decide +kernel
theorem dX0_signBoth_25 : decode cX0_signBoth 25 = .ok (.ireturn, 1) := by decide +kernel
theorem dX0_turnFeud_0 : decode cX0_turnFeud 0 = .ok (.aload_n 0, 1) := by decide +kernel
theorem dX0_turnFeud_1 : decode cX0_turnFeud 1 = .ok (.iload_n 1, 1) := by decide +kernel
theorem dX0_turnFeud_2 : decode cX0_turnFeud 2 = .ok (.iload_n 2, 1) := by decide +kernel
theorem dX0_turnFeud_3 : decode cX0_turnFeud 3 = .ok (.aload_n 0, 1) := by decide +kernel
theorem dX0_turnFeud_4 : decode cX0_turnFeud 4 = .ok (.iload_n 1, 1) := by decide +kernel
theorem dX0_turnFeud_5 : decode cX0_turnFeud 5 = .ok (.iload_n 2, 1) := by decide +kernel
theorem dX0_turnFeud_6 : decode cX0_turnFeud 6 = .ok (.invokevirtual 66, 3) := by decide +kernel
theorem dX0_turnFeud_9 : decode cX0_turnFeud 9 = .ok (.ifCond .ne 7, 3) := by decide +kernel
theorem dX0_turnFeud_12 : decode cX0_turnFeud 12 = .ok (.iconst 1, 1) := by decide +kernel
theorem dX0_turnFeud_13 : decode cX0_turnFeud 13 = .ok (.goto 4, 3) := by decide +kernel
theorem dX0_turnFeud_16 : decode cX0_turnFeud 16 = .ok (.iconst 0, 1) := by decide +kernel
theorem dX0_turnFeud_17 : decode cX0_turnFeud 17 = .ok (.invokevirtual 69, 3) := by decide +kernel
theorem dX0_turnFeud_20 : decode cX0_turnFeud 20 = .ok (.ireturn, 1) := by decide +kernel
theorem dX0_setFeud_0 : decode cX0_setFeud 0 = .ok (.aload_n 0, 1) := by decide +kernel
theorem dX0_setFeud_1 : decode cX0_setFeud 1 = .ok (.iload_n 1, 1) := by decide +kernel
theorem dX0_setFeud_2 : decode cX0_setFeud 2 = .ok (.iload_n 2, 1) := by decide +kernel
theorem dX0_setFeud_3 : decode cX0_setFeud 3 = .ok (.invokevirtual 44, 3) := by decide +kernel
theorem dX0_setFeud_6 : decode cX0_setFeud 6 = .ok (.ifCond .ne 5, 3) := by decide +kernel
theorem dX0_setFeud_9 : decode cX0_setFeud 9 = .ok (.iconst 0, 1) := by decide +kernel
theorem dX0_setFeud_10 : decode cX0_setFeud 10 = .ok (.ireturn, 1) := by decide +kernel
theorem dX0_setFeud_11 : decode cX0_setFeud 11 = .ok (.aload_n 0, 1) := by decide +kernel
theorem dX0_setFeud_12 : decode cX0_setFeud 12 = .ok (.getfield 24, 3) := by decide +kernel
theorem dX0_setFeud_15 : decode cX0_setFeud 15 = .ok (.iload_n 1, 1) := by decide +kernel
theorem dX0_setFeud_16 : decode cX0_setFeud 16 = .ok (.aload_n 0, 1) := by decide +kernel
theorem dX0_setFeud_17 : decode cX0_setFeud 17 = .ok (.getfield 24, 3) := by decide +kernel
theorem dX0_setFeud_20 : decode cX0_setFeud 20 = .ok (.iload_n 1, 1) := by decide +kernel
theorem dX0_setFeud_21 : decode cX0_setFeud 21 = .ok (.iaload, 1) := by decide +kernel
theorem dX0_setFeud_22 : decode cX0_setFeud 22 = .ok (.iload_n 2, 1) := by decide +kernel
theorem dX0_setFeud_23 : decode cX0_setFeud 23 = .ok (.iload_n 3, 1) := by decide +kernel
theorem dX0_setFeud_24 : decode cX0_setFeud 24 = .ok (.invokestatic 62, 3) := by decide +kernel
theorem dX0_setFeud_27 : decode cX0_setFeud 27 = .ok (.iastore, 1) := by decide +kernel
theorem dX0_setFeud_28 : decode cX0_setFeud 28 = .ok (.aload_n 0, 1) := by decide +kernel
theorem dX0_setFeud_29 : decode cX0_setFeud 29 = .ok (.getfield 24, 3) := by decide +kernel
theorem dX0_setFeud_32 : decode cX0_setFeud 32 = .ok (.iload_n 2, 1) := by decide +kernel
theorem dX0_setFeud_33 : decode cX0_setFeud 33 = .ok (.aload_n 0, 1) := by decide +kernel
theorem dX0_setFeud_34 : decode cX0_setFeud 34 = .ok (.getfield 24, 3) := by decide +kernel
theorem dX0_setFeud_37 : decode cX0_setFeud 37 = .ok (.iload_n 2, 1) := by decide +kernel
theorem dX0_setFeud_38 : decode cX0_setFeud 38 = .ok (.iaload, 1) := by decide +kernel
theorem dX0_setFeud_39 : decode cX0_setFeud 39 = .ok (.iload_n 1, 1) := by decide +kernel
theorem dX0_setFeud_40 : decode cX0_setFeud 40 = .ok (.iload_n 3, 1) := by decide +kernel
theorem dX0_setFeud_41 : decode cX0_setFeud 41 = .ok (.invokestatic 62, 3) := by decide +kernel
theorem dX0_setFeud_44 : decode cX0_setFeud 44 = .ok (.iastore, 1) := by decide +kernel
theorem dX0_setFeud_45 : decode cX0_setFeud 45 = .ok (.iconst 1, 1) := by decide +kernel
theorem dX0_setFeud_46 : decode cX0_setFeud 46 = .ok (.ireturn, 1) := by decide +kernel
theorem dX0_withBit_0 : decode cX0_withBit 0 = .ok (.iload_n 2, 1) := by decide +kernel
theorem dX0_withBit_1 : decode cX0_withBit 1 = .ok (.ifCond .eq 11, 3) := by decide +kernel
theorem dX0_withBit_4 : decode cX0_withBit 4 = .ok (.iload_n 0, 1) := by decide +kernel
theorem dX0_withBit_5 : decode cX0_withBit 5 = .ok (.iconst 1, 1) := by decide +kernel
theorem dX0_withBit_6 : decode cX0_withBit 6 = .ok (.iload_n 1, 1) := by decide +kernel
theorem dX0_withBit_7 : decode cX0_withBit 7 = .ok (.ishl, 1) := by decide +kernel
theorem dX0_withBit_8 : decode cX0_withBit 8 = .ok (.ior, 1) := by decide +kernel
theorem dX0_withBit_9 : decode cX0_withBit 9 = .ok (.goto 10, 3) := by decide +kernel
theorem dX0_withBit_12 : decode cX0_withBit 12 = .ok (.iload_n 0, 1) := by decide +kernel
theorem dX0_withBit_13 : decode cX0_withBit 13 = .ok (.iconst 1, 1) := by decide +kernel
theorem dX0_withBit_14 : decode cX0_withBit 14 = .ok (.iload_n 1, 1) := by decide +kernel
theorem dX0_withBit_15 : decode cX0_withBit 15 = .ok (.ishl, 1) := by decide +kernel
theorem dX0_withBit_16 : decode cX0_withBit 16 = .ok (.iconst (-1), 1) := by decide +kernel
theorem dX0_withBit_17 : decode cX0_withBit 17 = .ok (.ixor, 1) := by decide +kernel
theorem dX0_withBit_18 : decode cX0_withBit 18 = .ok (.iand, 1) := by decide +kernel
theorem dX0_withBit_19 : decode cX0_withBit 19 = .ok (.ireturn, 1) := by decide +kernel
theorem dX0_changePlaces_0 : decode cX0_changePlaces 0 = .ok (.aload_n 0, 1) := by decide +kernel
theorem dX0_changePlaces_1 : decode cX0_changePlaces 1 = .ok (.iload_n 1, 1) := by decide +kernel
theorem dX0_changePlaces_2 : decode cX0_changePlaces 2 = .ok (.iload_n 2, 1) := by decide +kernel
theorem dX0_changePlaces_3 : decode cX0_changePlaces 3 = .ok (.invokevirtual 44, 3) := by decide +kernel
theorem dX0_changePlaces_6 : decode cX0_changePlaces 6 = .ok (.ifCond .ne 4, 3) := by decide +kernel
theorem dX0_changePlaces_9 : decode cX0_changePlaces 9 = .ok (.return_, 1) := by decide +kernel
theorem dX0_changePlaces_10 : decode cX0_changePlaces 10 = .ok (.aload_n 0, 1) := by decide +kernel
theorem dX0_changePlaces_11 : decode cX0_changePlaces 11 = .ok (.aload_n 0, 1) := by decide +kernel
theorem dX0_changePlaces_12 : decode cX0_changePlaces 12 = .ok (.getfield 21, 3) := by decide +kernel
theorem dX0_changePlaces_15 : decode cX0_changePlaces 15 = .ok (.iload_n 1, 1) := by decide +kernel
theorem dX0_changePlaces_16 : decode cX0_changePlaces 16 = .ok (.iload_n 2, 1) := by decide +kernel
theorem dX0_changePlaces_17 : decode cX0_changePlaces 17 = .ok (.invokevirtual 72, 3) := by decide +kernel
theorem dX0_changePlaces_20 : decode cX0_changePlaces 20 = .ok (.aload_n 0, 1) := by decide +kernel
theorem dX0_changePlaces_21 : decode cX0_changePlaces 21 = .ok (.aload_n 0, 1) := by decide +kernel
theorem dX0_changePlaces_22 : decode cX0_changePlaces 22 = .ok (.getfield 24, 3) := by decide +kernel
theorem dX0_changePlaces_25 : decode cX0_changePlaces 25 = .ok (.iload_n 1, 1) := by decide +kernel
theorem dX0_changePlaces_26 : decode cX0_changePlaces 26 = .ok (.iload_n 2, 1) := by decide +kernel
theorem dX0_changePlaces_27 : decode cX0_changePlaces 27 = .ok (.invokevirtual 72, 3) := by decide +kernel
theorem dX0_changePlaces_30 : decode cX0_changePlaces 30 = .ok (.return_, 1) := by decide +kernel
theorem dX0_changeIn_0 : decode cX0_changeIn 0 = .ok (.aload_n 1, 1) := by decide +kernel
theorem dX0_changeIn_1 : decode cX0_changeIn 1 = .ok (.iload_n 2, 1) := by decide +kernel
theorem dX0_changeIn_2 : decode cX0_changeIn 2 = .ok (.iaload, 1) := by decide +kernel
theorem dX0_changeIn_3 : decode cX0_changeIn 3 = .ok (.istore 4, 2) := by decide +kernel
theorem dX0_changeIn_5 : decode cX0_changeIn 5 = .ok (.aload_n 1, 1) := by decide +kernel
theorem dX0_changeIn_6 : decode cX0_changeIn 6 = .ok (.iload_n 2, 1) := by decide +kernel
theorem dX0_changeIn_7 : decode cX0_changeIn 7 = .ok (.aload_n 1, 1) := by decide +kernel
theorem dX0_changeIn_8 : decode cX0_changeIn 8 = .ok (.iload_n 3, 1) := by decide +kernel
theorem dX0_changeIn_9 : decode cX0_changeIn 9 = .ok (.iaload, 1) := by decide +kernel
theorem dX0_changeIn_10 : decode cX0_changeIn 10 = .ok (.iastore, 1) := by decide +kernel
theorem dX0_changeIn_11 : decode cX0_changeIn 11 = .ok (.aload_n 1, 1) := by decide +kernel
theorem dX0_changeIn_12 : decode cX0_changeIn 12 = .ok (.iload_n 3, 1) := by decide +kernel
theorem dX0_changeIn_13 : decode cX0_changeIn 13 = .ok (.iload 4, 2) := by decide +kernel
theorem dX0_changeIn_15 : decode cX0_changeIn 15 = .ok (.iastore, 1) := by decide +kernel
theorem dX0_changeIn_16 : decode cX0_changeIn 16 = .ok (.iconst 0, 1) := by decide +kernel
theorem dX0_changeIn_17 : decode cX0_changeIn 17 = .ok (.istore 5, 2) := by decide +kernel
theorem dX0_changeIn_19 : decode cX0_changeIn 19 = .ok (.iload 5, 2) := by decide +kernel
theorem dX0_changeIn_21 : decode cX0_changeIn 21 = .ok (.aload_n 0, 1) := by decide +kernel
theorem dX0_changeIn_22 : decode cX0_changeIn 22 = .ok (.getfield 33, 3) := by decide +kernel
theorem dX0_changeIn_25 : decode cX0_changeIn 25 = .ok (.if_icmp .ge 42, 3) := by decide +kernel
theorem dX0_changeIn_28 : decode cX0_changeIn 28 = .ok (.aload_n 1, 1) := by decide +kernel
theorem dX0_changeIn_29 : decode cX0_changeIn 29 = .ok (.iload 5, 2) := by decide +kernel
theorem dX0_changeIn_31 : decode cX0_changeIn 31 = .ok (.iaload, 1) := by decide +kernel
theorem dX0_changeIn_32 : decode cX0_changeIn 32 = .ok (.iload_n 2, 1) := by decide +kernel
theorem dX0_changeIn_33 : decode cX0_changeIn 33 = .ok (.ishr, 1) := by decide +kernel
theorem dX0_changeIn_34 : decode cX0_changeIn 34 = .ok (.aload_n 1, 1) := by decide +kernel
theorem dX0_changeIn_35 : decode cX0_changeIn 35 = .ok (.iload 5, 2) := by decide +kernel
theorem dX0_changeIn_37 : decode cX0_changeIn 37 = .ok (.iaload, 1) := by decide +kernel
theorem dX0_changeIn_38 : decode cX0_changeIn 38 = .ok (.iload_n 3, 1) := by decide +kernel
theorem dX0_changeIn_39 : decode cX0_changeIn 39 = .ok (.ishr, 1) := by decide +kernel
theorem dX0_changeIn_40 : decode cX0_changeIn 40 = .ok (.ixor, 1) := by decide +kernel
theorem dX0_changeIn_41 : decode cX0_changeIn 41 = .ok (.iconst 1, 1) := by decide +kernel
theorem dX0_changeIn_42 : decode cX0_changeIn 42 = .ok (.iand, 1) := by decide +kernel
theorem dX0_changeIn_43 : decode cX0_changeIn 43 = .ok (.istore 6, 2) := by decide +kernel
theorem dX0_changeIn_45 : decode cX0_changeIn 45 = .ok (.aload_n 1, 1) := by decide +kernel
theorem dX0_changeIn_46 : decode cX0_changeIn 46 = .ok (.iload 5, 2) := by decide +kernel
theorem dX0_changeIn_48 : decode cX0_changeIn 48 = .ok (.dup2, 1) := by decide +kernel
theorem dX0_changeIn_49 : decode cX0_changeIn 49 = .ok (.iaload, 1) := by decide +kernel
theorem dX0_changeIn_50 : decode cX0_changeIn 50 = .ok (.iload 6, 2) := by decide +kernel
theorem dX0_changeIn_52 : decode cX0_changeIn 52 = .ok (.iload_n 2, 1) := by decide +kernel
theorem dX0_changeIn_53 : decode cX0_changeIn 53 = .ok (.ishl, 1) := by decide +kernel
theorem dX0_changeIn_54 : decode cX0_changeIn 54 = .ok (.iload 6, 2) := by decide +kernel
theorem dX0_changeIn_56 : decode cX0_changeIn 56 = .ok (.iload_n 3, 1) := by decide +kernel
theorem dX0_changeIn_57 : decode cX0_changeIn 57 = .ok (.ishl, 1) := by decide +kernel
theorem dX0_changeIn_58 : decode cX0_changeIn 58 = .ok (.ior, 1) := by decide +kernel
theorem dX0_changeIn_59 : decode cX0_changeIn 59 = .ok (.ixor, 1) := by decide +kernel
theorem dX0_changeIn_60 : decode cX0_changeIn 60 = .ok (.iastore, 1) := by decide +kernel
theorem dX0_changeIn_61 : decode cX0_changeIn 61 = .ok (.iinc 5 1, 3) := by decide +kernel
theorem dX0_changeIn_64 : decode cX0_changeIn 64 = .ok (.goto (-45), 3) := by decide +kernel
theorem dX0_changeIn_67 : decode cX0_changeIn 67 = .ok (.return_, 1) := by decide +kernel
theorem dX0_dues_0 : decode cX0_dues 0 = .ok (.iconst 1, 1) := by decide +kernel
theorem dX0_dues_1 : decode cX0_dues 1 = .ok (.aload_n 0, 1) := by decide +kernel
theorem dX0_dues_2 : decode cX0_dues 2 = .ok (.getfield 15, 3) := by decide +kernel
theorem dX0_dues_5 : decode cX0_dues 5 = .ok (.iload_n 1, 1) := by decide +kernel
theorem dX0_dues_6 : decode cX0_dues 6 = .ok (.iaload, 1) := by decide +kernel
theorem dX0_dues_7 : decode cX0_dues 7 = .ok (.iconst 3, 1) := by decide +kernel
theorem dX0_dues_8 : decode cX0_dues 8 = .ok (.idiv, 1) := by decide +kernel
theorem dX0_dues_9 : decode cX0_dues 9 = .ok (.iadd, 1) := by decide +kernel
theorem dX0_dues_10 : decode cX0_dues 10 = .ok (.istore_n 3, 1) := by decide +kernel
theorem dX0_dues_11 : decode cX0_dues 11 = .ok (.aload_n 0, 1) := by decide +kernel
theorem dX0_dues_12 : decode cX0_dues 12 = .ok (.getfield 18, 3) := by decide +kernel
theorem dX0_dues_15 : decode cX0_dues 15 = .ok (.iload_n 2, 1) := by decide +kernel
theorem dX0_dues_16 : decode cX0_dues 16 = .ok (.iaload, 1) := by decide +kernel
theorem dX0_dues_17 : decode cX0_dues 17 = .ok (.aload_n 0, 1) := by decide +kernel
theorem dX0_dues_18 : decode cX0_dues 18 = .ok (.getfield 18, 3) := by decide +kernel
theorem dX0_dues_21 : decode cX0_dues 21 = .ok (.iload_n 1, 1) := by decide +kernel
theorem dX0_dues_22 : decode cX0_dues 22 = .ok (.iaload, 1) := by decide +kernel
theorem dX0_dues_23 : decode cX0_dues 23 = .ok (.if_icmp .ge 7, 3) := by decide +kernel
theorem dX0_dues_26 : decode cX0_dues 26 = .ok (.iconst 1, 1) := by decide +kernel
theorem dX0_dues_27 : decode cX0_dues 27 = .ok (.goto 4, 3) := by decide +kernel
theorem dX0_dues_30 : decode cX0_dues 30 = .ok (.iconst 0, 1) := by decide +kernel
theorem dX0_dues_31 : decode cX0_dues 31 = .ok (.istore 4, 2) := by decide +kernel
theorem dX0_dues_33 : decode cX0_dues 33 = .ok (.aload_n 0, 1) := by decide +kernel
theorem dX0_dues_34 : decode cX0_dues 34 = .ok (.getfield 9, 3) := by decide +kernel
theorem dX0_dues_37 : decode cX0_dues 37 = .ok (.iload_n 1, 1) := by decide +kernel
theorem dX0_dues_38 : decode cX0_dues 38 = .ok (.iaload, 1) := by decide +kernel
theorem dX0_dues_39 : decode cX0_dues 39 = .ok (.tableswitch 49 1 5 #[33, 35, 37, 40, 44], 33) := by decide +kernel
theorem dX0_dues_72 : decode cX0_dues 72 = .ok (.iload_n 3, 1) := by decide +kernel
theorem dX0_dues_73 : decode cX0_dues 73 = .ok (.ireturn, 1) := by decide +kernel
theorem dX0_dues_74 : decode cX0_dues 74 = .ok (.iconst 0, 1) := by decide +kernel
theorem dX0_dues_75 : decode cX0_dues 75 = .ok (.ireturn, 1) := by decide +kernel
theorem dX0_dues_76 : decode cX0_dues 76 = .ok (.iload 4, 2) := by decide +kernel
theorem dX0_dues_78 : decode cX0_dues 78 = .ok (.ireturn, 1) := by decide +kernel
theorem dX0_dues_79 : decode cX0_dues 79 = .ok (.iconst 2, 1) := by decide +kernel
theorem dX0_dues_80 : decode cX0_dues 80 = .ok (.iload_n 3, 1) := by decide +kernel
theorem dX0_dues_81 : decode cX0_dues 81 = .ok (.imul, 1) := by decide +kernel
theorem dX0_dues_82 : decode cX0_dues 82 = .ok (.ireturn, 1) := by decide +kernel
theorem dX0_dues_83 : decode cX0_dues 83 = .ok (.iload 4, 2) := by decide +kernel
theorem dX0_dues_85 : decode cX0_dues 85 = .ok (.iconst 1, 1) := by decide +kernel
theorem dX0_dues_86 : decode cX0_dues 86 = .ok (.iadd, 1) := by decide +kernel
theorem dX0_dues_87 : decode cX0_dues 87 = .ok (.ireturn, 1) := by decide +kernel
theorem dX0_dues_88 : decode cX0_dues 88 = .ok (.iconst 1, 1) := by decide +kernel
theorem dX0_dues_89 : decode cX0_dues 89 = .ok (.ireturn, 1) := by decide +kernel
theorem dX0_mayPass_0 : decode cX0_mayPass 0 = .ok (.iload_n 1, 1) := by decide +kernel
theorem dX0_mayPass_1 : decode cX0_mayPass 1 = .ok (.iconst 1, 1) := by decide +kernel
theorem dX0_mayPass_2 : decode cX0_mayPass 2 = .ok (.if_icmp .lt 25, 3) := by decide +kernel
theorem dX0_mayPass_5 : decode cX0_mayPass 5 = .ok (.iload_n 1, 1) := by decide +kernel
theorem dX0_mayPass_6 : decode cX0_mayPass 6 = .ok (.bipush 60, 2) := by decide +kernel
theorem dX0_mayPass_8 : decode cX0_mayPass 8 = .ok (.if_icmp .gt 19, 3) := by decide +kernel
theorem dX0_mayPass_11 : decode cX0_mayPass 11 = .ok (.aload_n 0, 1) := by decide +kernel
theorem dX0_mayPass_12 : decode cX0_mayPass 12 = .ok (.getfield 37, 3) := by decide +kernel
theorem dX0_mayPass_15 : decode cX0_mayPass 15 = .ok (.iload_n 1, 1) := by decide +kernel
theorem dX0_mayPass_16 : decode cX0_mayPass 16 = .ok (.iadd, 1) := by decide +kernel
theorem dX0_mayPass_17 : decode cX0_mayPass 17 = .ok (.sipush 999, 3) := by decide +kernel
theorem dX0_mayPass_20 : decode cX0_mayPass 20 = .ok (.if_icmp .gt 7, 3) := by decide +kernel
theorem dX0_mayPass_23 : decode cX0_mayPass 23 = .ok (.iconst 1, 1) := by decide +kernel
theorem dX0_mayPass_24 : decode cX0_mayPass 24 = .ok (.goto 4, 3) := by decide +kernel
theorem dX0_mayPass_27 : decode cX0_mayPass 27 = .ok (.iconst 0, 1) := by decide +kernel
theorem dX0_mayPass_28 : decode cX0_mayPass 28 = .ok (.ireturn, 1) := by decide +kernel
theorem dX0_passYears_0 : decode cX0_passYears 0 = .ok (.iconst 0, 1) := by decide +kernel
theorem dX0_passYears_1 : decode cX0_passYears 1 = .ok (.istore_n 2, 1) := by decide +kernel
theorem dX0_passYears_2 : decode cX0_passYears 2 = .ok (.iload_n 2, 1) := by decide +kernel
theorem dX0_passYears_3 : decode cX0_passYears 3 = .ok (.iload_n 1, 1) := by decide +kernel
theorem dX0_passYears_4 : decode cX0_passYears 4 = .ok (.if_icmp .ge 14, 3) := by decide +kernel
theorem dX0_passYears_7 : decode cX0_passYears 7 = .ok (.aload_n 0, 1) := by decide +kernel
theorem dX0_passYears_8 : decode cX0_passYears 8 = .ok (.iconst (-1), 1) := by decide +kernel
theorem dX0_passYears_9 : decode cX0_passYears 9 = .ok (.invokevirtual 76, 3) := by decide +kernel
theorem dX0_passYears_12 : decode cX0_passYears 12 = .ok (.iinc 2 1, 3) := by decide +kernel
theorem dX0_passYears_15 : decode cX0_passYears 15 = .ok (.goto (-13), 3) := by decide +kernel
theorem dX0_passYears_18 : decode cX0_passYears 18 = .ok (.iconst 1, 1) := by decide +kernel
theorem dX0_passYears_19 : decode cX0_passYears 19 = .ok (.ireturn, 1) := by decide +kernel
theorem dX0_passYear_0 : decode cX0_passYear 0 = .ok (.aload_n 0, 1) := by decide +kernel
theorem dX0_passYear_1 : decode cX0_passYear 1 = .ok (.dup, 1) := by decide +kernel
theorem dX0_passYear_2 : decode cX0_passYear 2 = .ok (.getfield 37, 3) := by decide +kernel
theorem dX0_passYear_5 : decode cX0_passYear 5 = .ok (.iconst 1, 1) := by decide +kernel
theorem dX0_passYear_6 : decode cX0_passYear 6 = .ok (.iadd, 1) := by decide +kernel
theorem dX0_passYear_7 : decode cX0_passYear 7 = .ok (.putfield 37, 3) := by decide +kernel
theorem dX0_passYear_10 : decode cX0_passYear 10 = .ok (.iconst 0, 1) := by decide +kernel
theorem dX0_passYear_11 : decode cX0_passYear 11 = .ok (.istore_n 2, 1) := by decide +kernel
theorem dX0_passYear_12 : decode cX0_passYear 12 = .ok (.iload_n 2, 1) := by decide +kernel
theorem dX0_passYear_13 : decode cX0_passYear 13 = .ok (.aload_n 0, 1) := by decide +kernel
theorem dX0_passYear_14 : decode cX0_passYear 14 = .ok (.getfield 33, 3) := by decide +kernel
theorem dX0_passYear_17 : decode cX0_passYear 17 = .ok (.if_icmp .ge 68, 3) := by decide +kernel
theorem dX0_passYear_20 : decode cX0_passYear 20 = .ok (.iload_n 2, 1) := by decide +kernel
theorem dX0_passYear_21 : decode cX0_passYear 21 = .ok (.iload_n 1, 1) := by decide +kernel
theorem dX0_passYear_22 : decode cX0_passYear 22 = .ok (.if_icmp .ne 7, 3) := by decide +kernel
theorem dX0_passYear_25 : decode cX0_passYear 25 = .ok (.iconst 0, 1) := by decide +kernel
theorem dX0_passYear_26 : decode cX0_passYear 26 = .ok (.goto 8, 3) := by decide +kernel
theorem dX0_passYear_29 : decode cX0_passYear 29 = .ok (.aload_n 0, 1) := by decide +kernel
theorem dX0_passYear_30 : decode cX0_passYear 30 = .ok (.iload_n 2, 1) := by decide +kernel
theorem dX0_passYear_31 : decode cX0_passYear 31 = .ok (.invokevirtual 51, 3) := by decide +kernel
theorem dX0_passYear_34 : decode cX0_passYear 34 = .ok (.istore_n 3, 1) := by decide +kernel
theorem dX0_passYear_35 : decode cX0_passYear 35 = .ok (.iconst 0, 1) := by decide +kernel
theorem dX0_passYear_36 : decode cX0_passYear 36 = .ok (.istore 4, 2) := by decide +kernel
theorem dX0_passYear_38 : decode cX0_passYear 38 = .ok (.iload 4, 2) := by decide +kernel
theorem dX0_passYear_40 : decode cX0_passYear 40 = .ok (.aload_n 0, 1) := by decide +kernel
theorem dX0_passYear_41 : decode cX0_passYear 41 = .ok (.getfield 33, 3) := by decide +kernel
theorem dX0_passYear_44 : decode cX0_passYear 44 = .ok (.if_icmp .ge 35, 3) := by decide +kernel
theorem dX0_passYear_47 : decode cX0_passYear 47 = .ok (.iload_n 3, 1) := by decide +kernel
theorem dX0_passYear_48 : decode cX0_passYear 48 = .ok (.ifCond .eq 31, 3) := by decide +kernel
theorem dX0_passYear_51 : decode cX0_passYear 51 = .ok (.iload_n 3, 1) := by decide +kernel
theorem dX0_passYear_52 : decode cX0_passYear 52 = .ok (.iload 4, 2) := by decide +kernel
theorem dX0_passYear_54 : decode cX0_passYear 54 = .ok (.invokestatic 48, 3) := by decide +kernel
theorem dX0_passYear_57 : decode cX0_passYear 57 = .ok (.ifCond .eq 16, 3) := by decide +kernel
theorem dX0_passYear_60 : decode cX0_passYear 60 = .ok (.iload 4, 2) := by decide +kernel
theorem dX0_passYear_62 : decode cX0_passYear 62 = .ok (.iload_n 1, 1) := by decide +kernel
theorem dX0_passYear_63 : decode cX0_passYear 63 = .ok (.if_icmp .eq 10, 3) := by decide +kernel
theorem dX0_passYear_66 : decode cX0_passYear 66 = .ok (.aload_n 0, 1) := by decide +kernel
theorem dX0_passYear_67 : decode cX0_passYear 67 = .ok (.iload_n 2, 1) := by decide +kernel
theorem dX0_passYear_68 : decode cX0_passYear 68 = .ok (.iload 4, 2) := by decide +kernel
theorem dX0_passYear_70 : decode cX0_passYear 70 = .ok (.invokevirtual 80, 3) := by decide +kernel
theorem dX0_passYear_73 : decode cX0_passYear 73 = .ok (.iinc 4 1, 3) := by decide +kernel
theorem dX0_passYear_76 : decode cX0_passYear 76 = .ok (.goto (-38), 3) := by decide +kernel
theorem dX0_passYear_79 : decode cX0_passYear 79 = .ok (.iinc 2 1, 3) := by decide +kernel
theorem dX0_passYear_82 : decode cX0_passYear 82 = .ok (.goto (-70), 3) := by decide +kernel
theorem dX0_passYear_85 : decode cX0_passYear 85 = .ok (.return_, 1) := by decide +kernel
theorem dX0_pay_0 : decode cX0_pay 0 = .ok (.aload_n 0, 1) := by decide +kernel
theorem dX0_pay_1 : decode cX0_pay 1 = .ok (.iload_n 1, 1) := by decide +kernel
theorem dX0_pay_2 : decode cX0_pay 2 = .ok (.iload_n 2, 1) := by decide +kernel
theorem dX0_pay_3 : decode cX0_pay 3 = .ok (.invokevirtual 84, 3) := by decide +kernel
theorem dX0_pay_6 : decode cX0_pay 6 = .ok (.istore_n 3, 1) := by decide +kernel
theorem dX0_pay_7 : decode cX0_pay 7 = .ok (.aload_n 0, 1) := by decide +kernel
theorem dX0_pay_8 : decode cX0_pay 8 = .ok (.getfield 18, 3) := by decide +kernel
theorem dX0_pay_11 : decode cX0_pay 11 = .ok (.iload_n 1, 1) := by decide +kernel
theorem dX0_pay_12 : decode cX0_pay 12 = .ok (.iaload, 1) := by decide +kernel
theorem dX0_pay_13 : decode cX0_pay 13 = .ok (.iload_n 3, 1) := by decide +kernel
theorem dX0_pay_14 : decode cX0_pay 14 = .ok (.if_icmp .ge 18, 3) := by decide +kernel
theorem dX0_pay_17 : decode cX0_pay 17 = .ok (.aload_n 0, 1) := by decide +kernel
theorem dX0_pay_18 : decode cX0_pay 18 = .ok (.getfield 21, 3) := by decide +kernel
theorem dX0_pay_21 : decode cX0_pay 21 = .ok (.iload_n 1, 1) := by decide +kernel
theorem dX0_pay_22 : decode cX0_pay 22 = .ok (.dup2, 1) := by decide +kernel
theorem dX0_pay_23 : decode cX0_pay 23 = .ok (.iaload, 1) := by decide +kernel
theorem dX0_pay_24 : decode cX0_pay 24 = .ok (.iconst 1, 1) := by decide +kernel
theorem dX0_pay_25 : decode cX0_pay 25 = .ok (.iload_n 2, 1) := by decide +kernel
theorem dX0_pay_26 : decode cX0_pay 26 = .ok (.ishl, 1) := by decide +kernel
theorem dX0_pay_27 : decode cX0_pay 27 = .ok (.iconst (-1), 1) := by decide +kernel
theorem dX0_pay_28 : decode cX0_pay 28 = .ok (.ixor, 1) := by decide +kernel
theorem dX0_pay_29 : decode cX0_pay 29 = .ok (.iand, 1) := by decide +kernel
theorem dX0_pay_30 : decode cX0_pay 30 = .ok (.iastore, 1) := by decide +kernel
theorem dX0_pay_31 : decode cX0_pay 31 = .ok (.return_, 1) := by decide +kernel
theorem dX0_pay_32 : decode cX0_pay 32 = .ok (.aload_n 0, 1) := by decide +kernel
theorem dX0_pay_33 : decode cX0_pay 33 = .ok (.getfield 18, 3) := by decide +kernel
theorem dX0_pay_36 : decode cX0_pay 36 = .ok (.iload_n 2, 1) := by decide +kernel
theorem dX0_pay_37 : decode cX0_pay 37 = .ok (.bipush 99, 2) := by decide +kernel
theorem dX0_pay_39 : decode cX0_pay 39 = .ok (.aload_n 0, 1) := by decide +kernel
theorem dX0_pay_40 : decode cX0_pay 40 = .ok (.getfield 18, 3) := by decide +kernel
theorem dX0_pay_43 : decode cX0_pay 43 = .ok (.iload_n 2, 1) := by decide +kernel
theorem dX0_pay_44 : decode cX0_pay 44 = .ok (.iaload, 1) := by decide +kernel
theorem dX0_pay_45 : decode cX0_pay 45 = .ok (.iload_n 3, 1) := by decide +kernel
theorem dX0_pay_46 : decode cX0_pay 46 = .ok (.iadd, 1) := by decide +kernel
theorem dX0_pay_47 : decode cX0_pay 47 = .ok (.invokestatic 88, 3) := by decide +kernel
theorem dX0_pay_50 : decode cX0_pay 50 = .ok (.iastore, 1) := by decide +kernel
theorem dX0_pay_51 : decode cX0_pay 51 = .ok (.aload_n 0, 1) := by decide +kernel
theorem dX0_pay_52 : decode cX0_pay 52 = .ok (.getfield 18, 3) := by decide +kernel
theorem dX0_pay_55 : decode cX0_pay 55 = .ok (.iload_n 1, 1) := by decide +kernel
theorem dX0_pay_56 : decode cX0_pay 56 = .ok (.dup2, 1) := by decide +kernel
theorem dX0_pay_57 : decode cX0_pay 57 = .ok (.iaload, 1) := by decide +kernel
theorem dX0_pay_58 : decode cX0_pay 58 = .ok (.iload_n 3, 1) := by decide +kernel
theorem dX0_pay_59 : decode cX0_pay 59 = .ok (.isub, 1) := by decide +kernel
theorem dX0_pay_60 : decode cX0_pay 60 = .ok (.iastore, 1) := by decide +kernel
theorem dX0_pay_61 : decode cX0_pay 61 = .ok (.return_, 1) := by decide +kernel
theorem dX0_wealth_0 : decode cX0_wealth 0 = .ok (.iconst 0, 1) := by decide +kernel
theorem dX0_wealth_1 : decode cX0_wealth 1 = .ok (.istore_n 1, 1) := by decide +kernel
theorem dX0_wealth_2 : decode cX0_wealth 2 = .ok (.iconst 0, 1) := by decide +kernel
theorem dX0_wealth_3 : decode cX0_wealth 3 = .ok (.istore_n 2, 1) := by decide +kernel
theorem dX0_wealth_4 : decode cX0_wealth 4 = .ok (.iload_n 2, 1) := by decide +kernel
theorem dX0_wealth_5 : decode cX0_wealth 5 = .ok (.aload_n 0, 1) := by decide +kernel
theorem dX0_wealth_6 : decode cX0_wealth 6 = .ok (.getfield 33, 3) := by decide +kernel
theorem dX0_wealth_9 : decode cX0_wealth 9 = .ok (.if_icmp .ge 18, 3) := by decide +kernel
theorem dX0_wealth_12 : decode cX0_wealth 12 = .ok (.iload_n 1, 1) := by decide +kernel
theorem dX0_wealth_13 : decode cX0_wealth 13 = .ok (.aload_n 0, 1) := by decide +kernel
theorem dX0_wealth_14 : decode cX0_wealth 14 = .ok (.getfield 18, 3) := by decide +kernel
theorem dX0_wealth_17 : decode cX0_wealth 17 = .ok (.iload_n 2, 1) := by decide +kernel
theorem dX0_wealth_18 : decode cX0_wealth 18 = .ok (.iaload, 1) := by decide +kernel
theorem dX0_wealth_19 : decode cX0_wealth 19 = .ok (.iadd, 1) := by decide +kernel
theorem dX0_wealth_20 : decode cX0_wealth 20 = .ok (.istore_n 1, 1) := by decide +kernel
theorem dX0_wealth_21 : decode cX0_wealth 21 = .ok (.iinc 2 1, 3) := by decide +kernel
theorem dX0_wealth_24 : decode cX0_wealth 24 = .ok (.goto (-20), 3) := by decide +kernel
theorem dX0_wealth_27 : decode cX0_wealth 27 = .ok (.iload_n 1, 1) := by decide +kernel
theorem dX0_wealth_28 : decode cX0_wealth 28 = .ok (.ireturn, 1) := by decide +kernel
theorem dX0_signings_0 : decode cX0_signings 0 = .ok (.iconst 0, 1) := by decide +kernel
theorem dX0_signings_1 : decode cX0_signings 1 = .ok (.istore_n 1, 1) := by decide +kernel
theorem dX0_signings_2 : decode cX0_signings 2 = .ok (.iconst 0, 1) := by decide +kernel
theorem dX0_signings_3 : decode cX0_signings 3 = .ok (.istore_n 2, 1) := by decide +kernel
theorem dX0_signings_4 : decode cX0_signings 4 = .ok (.iload_n 2, 1) := by decide +kernel
theorem dX0_signings_5 : decode cX0_signings 5 = .ok (.aload_n 0, 1) := by decide +kernel
theorem dX0_signings_6 : decode cX0_signings 6 = .ok (.getfield 33, 3) := by decide +kernel
theorem dX0_signings_9 : decode cX0_signings 9 = .ok (.if_icmp .ge 21, 3) := by decide +kernel
theorem dX0_signings_12 : decode cX0_signings 12 = .ok (.iload_n 1, 1) := by decide +kernel
theorem dX0_signings_13 : decode cX0_signings 13 = .ok (.aload_n 0, 1) := by decide +kernel
theorem dX0_signings_14 : decode cX0_signings 14 = .ok (.getfield 21, 3) := by decide +kernel
theorem dX0_signings_17 : decode cX0_signings 17 = .ok (.iload_n 2, 1) := by decide +kernel
theorem dX0_signings_18 : decode cX0_signings 18 = .ok (.iaload, 1) := by decide +kernel
theorem dX0_signings_19 : decode cX0_signings 19 = .ok (.invokestatic 93, 3) := by decide +kernel
theorem dX0_signings_22 : decode cX0_signings 22 = .ok (.iadd, 1) := by decide +kernel
theorem dX0_signings_23 : decode cX0_signings 23 = .ok (.istore_n 1, 1) := by decide +kernel
theorem dX0_signings_24 : decode cX0_signings 24 = .ok (.iinc 2 1, 3) := by decide +kernel
theorem dX0_signings_27 : decode cX0_signings 27 = .ok (.goto (-23), 3) := by decide +kernel
theorem dX0_signings_30 : decode cX0_signings 30 = .ok (.iload_n 1, 1) := by decide +kernel
theorem dX0_signings_31 : decode cX0_signings 31 = .ok (.ireturn, 1) := by decide +kernel
theorem dX0_feudTwos_0 : decode cX0_feudTwos 0 = .ok (.iconst 0, 1) := by decide +kernel
theorem dX0_feudTwos_1 : decode cX0_feudTwos 1 = .ok (.istore_n 1, 1) := by decide +kernel
theorem dX0_feudTwos_2 : decode cX0_feudTwos 2 = .ok (.iconst 0, 1) := by decide +kernel
theorem dX0_feudTwos_3 : decode cX0_feudTwos 3 = .ok (.istore_n 2, 1) := by decide +kernel
theorem dX0_feudTwos_4 : decode cX0_feudTwos 4 = .ok (.iload_n 2, 1) := by decide +kernel
theorem dX0_feudTwos_5 : decode cX0_feudTwos 5 = .ok (.aload_n 0, 1) := by decide +kernel
theorem dX0_feudTwos_6 : decode cX0_feudTwos 6 = .ok (.getfield 33, 3) := by decide +kernel
theorem dX0_feudTwos_9 : decode cX0_feudTwos 9 = .ok (.if_icmp .ge 21, 3) := by decide +kernel
theorem dX0_feudTwos_12 : decode cX0_feudTwos 12 = .ok (.iload_n 1, 1) := by decide +kernel
theorem dX0_feudTwos_13 : decode cX0_feudTwos 13 = .ok (.aload_n 0, 1) := by decide +kernel
theorem dX0_feudTwos_14 : decode cX0_feudTwos 14 = .ok (.getfield 24, 3) := by decide +kernel
theorem dX0_feudTwos_17 : decode cX0_feudTwos 17 = .ok (.iload_n 2, 1) := by decide +kernel
theorem dX0_feudTwos_18 : decode cX0_feudTwos 18 = .ok (.iaload, 1) := by decide +kernel
theorem dX0_feudTwos_19 : decode cX0_feudTwos 19 = .ok (.invokestatic 93, 3) := by decide +kernel
theorem dX0_feudTwos_22 : decode cX0_feudTwos 22 = .ok (.iadd, 1) := by decide +kernel
theorem dX0_feudTwos_23 : decode cX0_feudTwos 23 = .ok (.istore_n 1, 1) := by decide +kernel
theorem dX0_feudTwos_24 : decode cX0_feudTwos 24 = .ok (.iinc 2 1, 3) := by decide +kernel
theorem dX0_feudTwos_27 : decode cX0_feudTwos 27 = .ok (.goto (-23), 3) := by decide +kernel
theorem dX0_feudTwos_30 : decode cX0_feudTwos 30 = .ok (.iload_n 1, 1) := by decide +kernel
theorem dX0_feudTwos_31 : decode cX0_feudTwos 31 = .ok (.iconst 2, 1) := by decide +kernel
theorem dX0_feudTwos_32 : decode cX0_feudTwos 32 = .ok (.idiv, 1) := by decide +kernel
theorem dX0_feudTwos_33 : decode cX0_feudTwos 33 = .ok (.ireturn, 1) := by decide +kernel
theorem dX0_kinTwos_0 : decode cX0_kinTwos 0 = .ok (.iconst 0, 1) := by decide +kernel
theorem dX0_kinTwos_1 : decode cX0_kinTwos 1 = .ok (.istore_n 1, 1) := by decide +kernel
theorem dX0_kinTwos_2 : decode cX0_kinTwos 2 = .ok (.iconst 0, 1) := by decide +kernel
theorem dX0_kinTwos_3 : decode cX0_kinTwos 3 = .ok (.istore_n 2, 1) := by decide +kernel
theorem dX0_kinTwos_4 : decode cX0_kinTwos 4 = .ok (.iload_n 2, 1) := by decide +kernel
theorem dX0_kinTwos_5 : decode cX0_kinTwos 5 = .ok (.aload_n 0, 1) := by decide +kernel
theorem dX0_kinTwos_6 : decode cX0_kinTwos 6 = .ok (.getfield 33, 3) := by decide +kernel
theorem dX0_kinTwos_9 : decode cX0_kinTwos 9 = .ok (.if_icmp .ge 20, 3) := by decide +kernel
theorem dX0_kinTwos_12 : decode cX0_kinTwos 12 = .ok (.iload_n 1, 1) := by decide +kernel
theorem dX0_kinTwos_13 : decode cX0_kinTwos 13 = .ok (.aload_n 0, 1) := by decide +kernel
theorem dX0_kinTwos_14 : decode cX0_kinTwos 14 = .ok (.iload_n 2, 1) := by decide +kernel
theorem dX0_kinTwos_15 : decode cX0_kinTwos 15 = .ok (.invokevirtual 51, 3) := by decide +kernel
theorem dX0_kinTwos_18 : decode cX0_kinTwos 18 = .ok (.invokestatic 93, 3) := by decide +kernel
theorem dX0_kinTwos_21 : decode cX0_kinTwos 21 = .ok (.iadd, 1) := by decide +kernel
theorem dX0_kinTwos_22 : decode cX0_kinTwos 22 = .ok (.istore_n 1, 1) := by decide +kernel
theorem dX0_kinTwos_23 : decode cX0_kinTwos 23 = .ok (.iinc 2 1, 3) := by decide +kernel
theorem dX0_kinTwos_26 : decode cX0_kinTwos 26 = .ok (.goto (-22), 3) := by decide +kernel
theorem dX0_kinTwos_29 : decode cX0_kinTwos 29 = .ok (.iload_n 1, 1) := by decide +kernel
theorem dX0_kinTwos_30 : decode cX0_kinTwos 30 = .ok (.iconst 2, 1) := by decide +kernel
theorem dX0_kinTwos_31 : decode cX0_kinTwos 31 = .ok (.idiv, 1) := by decide +kernel
theorem dX0_kinTwos_32 : decode cX0_kinTwos 32 = .ok (.ireturn, 1) := by decide +kernel
theorem dX1_init_0 : decode cX1_init 0 = .ok (.aload_n 0, 1) := by decide +kernel
theorem dX1_init_1 : decode cX1_init 1 = .ok (.invokespecial 3, 3) := by decide +kernel
theorem dX1_init_4 : decode cX1_init 4 = .ok (.aload_n 0, 1) := by decide +kernel
theorem dX1_init_5 : decode cX1_init 5 = .ok (.bipush 96, 2) := by decide +kernel
theorem dX1_init_7 : decode cX1_init 7 = .ok (.newarray .int, 2) := by decide +kernel
theorem dX1_init_9 : decode cX1_init 9 = .ok (.putfield 9, 3) := by decide +kernel
theorem dX1_init_12 : decode cX1_init 12 = .ok (.return_, 1) := by decide +kernel
theorem dX1_isFull_0 : decode cX1_isFull 0 = .ok (.aload_n 0, 1) := by decide +kernel
theorem dX1_isFull_1 : decode cX1_isFull 1 = .ok (.getfield 15, 3) := by decide +kernel
theorem dX1_isFull_4 : decode cX1_isFull 4 = .ok (.bipush 96, 2) := by decide +kernel
theorem dX1_isFull_6 : decode cX1_isFull 6 = .ok (.if_icmp .lt 7, 3) := by decide +kernel
theorem dX1_isFull_9 : decode cX1_isFull 9 = .ok (.iconst 1, 1) := by decide +kernel
theorem dX1_isFull_10 : decode cX1_isFull 10 = .ok (.goto 4, 3) := by decide +kernel
theorem dX1_isFull_13 : decode cX1_isFull 13 = .ok (.iconst 0, 1) := by decide +kernel
theorem dX1_isFull_14 : decode cX1_isFull 14 = .ok (.ireturn, 1) := by decide +kernel
theorem dX1_add_0 : decode cX1_add 0 = .ok (.aload_n 0, 1) := by decide +kernel
theorem dX1_add_1 : decode cX1_add 1 = .ok (.invokevirtual 19, 3) := by decide +kernel
theorem dX1_add_4 : decode cX1_add 4 = .ok (.ifCond .ne 23, 3) := by decide +kernel
theorem dX1_add_7 : decode cX1_add 7 = .ok (.aload_n 0, 1) := by decide +kernel
theorem dX1_add_8 : decode cX1_add 8 = .ok (.getfield 9, 3) := by decide +kernel
theorem dX1_add_11 : decode cX1_add 11 = .ok (.aload_n 0, 1) := by decide +kernel
theorem dX1_add_12 : decode cX1_add 12 = .ok (.getfield 15, 3) := by decide +kernel
theorem dX1_add_15 : decode cX1_add 15 = .ok (.iload_n 1, 1) := by decide +kernel
theorem dX1_add_16 : decode cX1_add 16 = .ok (.iastore, 1) := by decide +kernel
theorem dX1_add_17 : decode cX1_add 17 = .ok (.aload_n 0, 1) := by decide +kernel
theorem dX1_add_18 : decode cX1_add 18 = .ok (.dup, 1) := by decide +kernel
theorem dX1_add_19 : decode cX1_add 19 = .ok (.getfield 15, 3) := by decide +kernel
theorem dX1_add_22 : decode cX1_add 22 = .ok (.iconst 1, 1) := by decide +kernel
theorem dX1_add_23 : decode cX1_add 23 = .ok (.iadd, 1) := by decide +kernel
theorem dX1_add_24 : decode cX1_add 24 = .ok (.putfield 15, 3) := by decide +kernel
theorem dX1_add_27 : decode cX1_add 27 = .ok (.return_, 1) := by decide +kernel
theorem dX1_drop_0 : decode cX1_drop 0 = .ok (.aload_n 0, 1) := by decide +kernel
theorem dX1_drop_1 : decode cX1_drop 1 = .ok (.iconst 0, 1) := by decide +kernel
theorem dX1_drop_2 : decode cX1_drop 2 = .ok (.putfield 15, 3) := by decide +kernel
theorem dX1_drop_5 : decode cX1_drop 5 = .ok (.return_, 1) := by decide +kernel
theorem dX1_at_0 : decode cX1_at 0 = .ok (.iload_n 1, 1) := by decide +kernel
theorem dX1_at_1 : decode cX1_at 1 = .ok (.ifCond .lt 20, 3) := by decide +kernel
theorem dX1_at_4 : decode cX1_at 4 = .ok (.iload_n 1, 1) := by decide +kernel
theorem dX1_at_5 : decode cX1_at 5 = .ok (.aload_n 0, 1) := by decide +kernel
theorem dX1_at_6 : decode cX1_at 6 = .ok (.getfield 15, 3) := by decide +kernel
theorem dX1_at_9 : decode cX1_at 9 = .ok (.if_icmp .ge 12, 3) := by decide +kernel
theorem dX1_at_12 : decode cX1_at 12 = .ok (.aload_n 0, 1) := by decide +kernel
theorem dX1_at_13 : decode cX1_at 13 = .ok (.getfield 9, 3) := by decide +kernel
theorem dX1_at_16 : decode cX1_at 16 = .ok (.iload_n 1, 1) := by decide +kernel
theorem dX1_at_17 : decode cX1_at 17 = .ok (.iaload, 1) := by decide +kernel
theorem dX1_at_18 : decode cX1_at 18 = .ok (.goto 4, 3) := by decide +kernel
theorem dX1_at_21 : decode cX1_at 21 = .ok (.iconst (-1), 1) := by decide +kernel
theorem dX1_at_22 : decode cX1_at 22 = .ok (.ireturn, 1) := by decide +kernel
theorem dX1_badForm_0 : decode cX1_badForm 0 = .ok (.aload_n 0, 1) := by decide +kernel
theorem dX1_badForm_1 : decode cX1_badForm 1 = .ok (.getfield 15, 3) := by decide +kernel
theorem dX1_badForm_4 : decode cX1_badForm 4 = .ok (.ifCond .ne 5, 3) := by decide +kernel
theorem dX1_badForm_7 : decode cX1_badForm 7 = .ok (.iconst 0, 1) := by decide +kernel
theorem dX1_badForm_8 : decode cX1_badForm 8 = .ok (.ireturn, 1) := by decide +kernel
theorem dX1_badForm_9 : decode cX1_badForm 9 = .ok (.iconst 0, 1) := by decide +kernel
theorem dX1_badForm_10 : decode cX1_badForm 10 = .ok (.istore_n 1, 1) := by decide +kernel
theorem dX1_badForm_11 : decode cX1_badForm 11 = .ok (.iload_n 1, 1) := by decide +kernel
theorem dX1_badForm_12 : decode cX1_badForm 12 = .ok (.aload_n 0, 1) := by decide +kernel
theorem dX1_badForm_13 : decode cX1_badForm 13 = .ok (.getfield 15, 3) := by decide +kernel
theorem dX1_badForm_16 : decode cX1_badForm 16 = .ok (.if_icmp .ge 35, 3) := by decide +kernel
theorem dX1_badForm_19 : decode cX1_badForm 19 = .ok (.aload_n 0, 1) := by decide +kernel
theorem dX1_badForm_20 : decode cX1_badForm 20 = .ok (.iload_n 1, 1) := by decide +kernel
theorem dX1_badForm_21 : decode cX1_badForm 21 = .ok (.invokevirtual 23, 3) := by decide +kernel
theorem dX1_badForm_24 : decode cX1_badForm 24 = .ok (.istore_n 2, 1) := by decide +kernel
theorem dX1_badForm_25 : decode cX1_badForm 25 = .ok (.iload_n 2, 1) := by decide +kernel
theorem dX1_badForm_26 : decode cX1_badForm 26 = .ok (.ifCond .gt 5, 3) := by decide +kernel
theorem dX1_badForm_29 : decode cX1_badForm 29 = .ok (.iload_n 1, 1) := by decide +kernel
theorem dX1_badForm_30 : decode cX1_badForm 30 = .ok (.ireturn, 1) := by decide +kernel
theorem dX1_badForm_31 : decode cX1_badForm 31 = .ok (.aload_n 0, 1) := by decide +kernel
theorem dX1_badForm_32 : decode cX1_badForm 32 = .ok (.iload_n 1, 1) := by decide +kernel
theorem dX1_badForm_33 : decode cX1_badForm 33 = .ok (.iload_n 2, 1) := by decide +kernel
theorem dX1_badForm_34 : decode cX1_badForm 34 = .ok (.invokevirtual 27, 3) := by decide +kernel
theorem dX1_badForm_37 : decode cX1_badForm 37 = .ok (.istore_n 3, 1) := by decide +kernel
theorem dX1_badForm_38 : decode cX1_badForm 38 = .ok (.iload_n 3, 1) := by decide +kernel
theorem dX1_badForm_39 : decode cX1_badForm 39 = .ok (.ifCond .lt 5, 3) := by decide +kernel
theorem dX1_badForm_42 : decode cX1_badForm 42 = .ok (.iload_n 3, 1) := by decide +kernel
theorem dX1_badForm_43 : decode cX1_badForm 43 = .ok (.ireturn, 1) := by decide +kernel
theorem dX1_badForm_44 : decode cX1_badForm 44 = .ok (.iload_n 1, 1) := by decide +kernel
theorem dX1_badForm_45 : decode cX1_badForm 45 = .ok (.iload_n 2, 1) := by decide +kernel
theorem dX1_badForm_46 : decode cX1_badForm 46 = .ok (.iadd, 1) := by decide +kernel
theorem dX1_badForm_47 : decode cX1_badForm 47 = .ok (.istore_n 1, 1) := by decide +kernel
theorem dX1_badForm_48 : decode cX1_badForm 48 = .ok (.goto (-37), 3) := by decide +kernel
theorem dX1_badForm_51 : decode cX1_badForm 51 = .ok (.iconst (-1), 1) := by decide +kernel
theorem dX1_badForm_52 : decode cX1_badForm 52 = .ok (.ireturn, 1) := by decide +kernel
theorem dX1_lengthFrom_0 : decode cX1_lengthFrom 0 = .ok (.aload_n 0, 1) := by decide +kernel
theorem dX1_lengthFrom_1 : decode cX1_lengthFrom 1 = .ok (.iload_n 1, 1) := by decide +kernel
theorem dX1_lengthFrom_2 : decode cX1_lengthFrom 2 = .ok (.invokevirtual 31, 3) := by decide +kernel
theorem dX1_lengthFrom_5 : decode cX1_lengthFrom 5 = .ok (.lookupswitch 66 #[(98, 64), (102, 64), (109, 62), (112, 59), (115, 64), (121, 64)], 59) := by decide +kernel
theorem dX1_lengthFrom_64 : decode cX1_lengthFrom 64 = .ok (.bipush 6, 2) := by decide +kernel
theorem dX1_lengthFrom_66 : decode cX1_lengthFrom 66 = .ok (.ireturn, 1) := by decide +kernel
theorem dX1_lengthFrom_67 : decode cX1_lengthFrom 67 = .ok (.iconst 5, 1) := by decide +kernel
theorem dX1_lengthFrom_68 : decode cX1_lengthFrom 68 = .ok (.ireturn, 1) := by decide +kernel
theorem dX1_lengthFrom_69 : decode cX1_lengthFrom 69 = .ok (.iconst 4, 1) := by decide +kernel
theorem dX1_lengthFrom_70 : decode cX1_lengthFrom 70 = .ok (.ireturn, 1) := by decide +kernel
theorem dX1_lengthFrom_71 : decode cX1_lengthFrom 71 = .ok (.iconst 0, 1) := by decide +kernel
theorem dX1_lengthFrom_72 : decode cX1_lengthFrom 72 = .ok (.ireturn, 1) := by decide +kernel
theorem dX1_badWithin_0 : decode cX1_badWithin 0 = .ok (.iload_n 1, 1) := by decide +kernel
theorem dX1_badWithin_1 : decode cX1_badWithin 1 = .ok (.iload_n 2, 1) := by decide +kernel
theorem dX1_badWithin_2 : decode cX1_badWithin 2 = .ok (.iadd, 1) := by decide +kernel
theorem dX1_badWithin_3 : decode cX1_badWithin 3 = .ok (.iconst 1, 1) := by decide +kernel
theorem dX1_badWithin_4 : decode cX1_badWithin 4 = .ok (.isub, 1) := by decide +kernel
theorem dX1_badWithin_5 : decode cX1_badWithin 5 = .ok (.istore_n 3, 1) := by decide +kernel
theorem dX1_badWithin_6 : decode cX1_badWithin 6 = .ok (.iload_n 1, 1) := by decide +kernel
theorem dX1_badWithin_7 : decode cX1_badWithin 7 = .ok (.iconst 1, 1) := by decide +kernel
theorem dX1_badWithin_8 : decode cX1_badWithin 8 = .ok (.iadd, 1) := by decide +kernel
theorem dX1_badWithin_9 : decode cX1_badWithin 9 = .ok (.istore 4, 2) := by decide +kernel
theorem dX1_badWithin_11 : decode cX1_badWithin 11 = .ok (.iload 4, 2) := by decide +kernel
theorem dX1_badWithin_13 : decode cX1_badWithin 13 = .ok (.iload_n 3, 1) := by decide +kernel
theorem dX1_badWithin_14 : decode cX1_badWithin 14 = .ok (.if_icmp .ge 66, 3) := by decide +kernel
theorem dX1_badWithin_17 : decode cX1_badWithin 17 = .ok (.iload 4, 2) := by decide +kernel
theorem dX1_badWithin_19 : decode cX1_badWithin 19 = .ok (.iload_n 1, 1) := by decide +kernel
theorem dX1_badWithin_20 : decode cX1_badWithin 20 = .ok (.iconst 1, 1) := by decide +kernel
theorem dX1_badWithin_21 : decode cX1_badWithin 21 = .ok (.iadd, 1) := by decide +kernel
theorem dX1_badWithin_22 : decode cX1_badWithin 22 = .ok (.if_icmp .ne 17, 3) := by decide +kernel
theorem dX1_badWithin_25 : decode cX1_badWithin 25 = .ok (.aload_n 0, 1) := by decide +kernel
theorem dX1_badWithin_26 : decode cX1_badWithin 26 = .ok (.iload_n 1, 1) := by decide +kernel
theorem dX1_badWithin_27 : decode cX1_badWithin 27 = .ok (.invokevirtual 31, 3) := by decide +kernel
theorem dX1_badWithin_30 : decode cX1_badWithin 30 = .ok (.bipush 112, 2) := by decide +kernel
theorem dX1_badWithin_32 : decode cX1_badWithin 32 = .ok (.if_icmp .ne 7, 3) := by decide +kernel
theorem dX1_badWithin_35 : decode cX1_badWithin 35 = .ok (.iconst 1, 1) := by decide +kernel
theorem dX1_badWithin_36 : decode cX1_badWithin 36 = .ok (.goto 4, 3) := by decide +kernel
theorem dX1_badWithin_39 : decode cX1_badWithin 39 = .ok (.iconst 0, 1) := by decide +kernel
theorem dX1_badWithin_40 : decode cX1_badWithin 40 = .ok (.istore 5, 2) := by decide +kernel
theorem dX1_badWithin_42 : decode cX1_badWithin 42 = .ok (.iload 5, 2) := by decide +kernel
theorem dX1_badWithin_44 : decode cX1_badWithin 44 = .ok (.ifCond .eq 15, 3) := by decide +kernel
theorem dX1_badWithin_47 : decode cX1_badWithin 47 = .ok (.aload_n 0, 1) := by decide +kernel
theorem dX1_badWithin_48 : decode cX1_badWithin 48 = .ok (.iload 4, 2) := by decide +kernel
theorem dX1_badWithin_50 : decode cX1_badWithin 50 = .ok (.invokevirtual 34, 3) := by decide +kernel
theorem dX1_badWithin_53 : decode cX1_badWithin 53 = .ok (.ifCond .ge 21, 3) := by decide +kernel
theorem dX1_badWithin_56 : decode cX1_badWithin 56 = .ok (.goto 15, 3) := by decide +kernel
theorem dX1_badWithin_59 : decode cX1_badWithin 59 = .ok (.aload_n 0, 1) := by decide +kernel
theorem dX1_badWithin_60 : decode cX1_badWithin 60 = .ok (.iload 4, 2) := by decide +kernel
theorem dX1_badWithin_62 : decode cX1_badWithin 62 = .ok (.invokevirtual 31, 3) := by decide +kernel
theorem dX1_badWithin_65 : decode cX1_badWithin 65 = .ok (.invokestatic 37, 3) := by decide +kernel
theorem dX1_badWithin_68 : decode cX1_badWithin 68 = .ok (.ifCond .ne 6, 3) := by decide +kernel
theorem dX1_badWithin_71 : decode cX1_badWithin 71 = .ok (.iload 4, 2) := by decide +kernel
theorem dX1_badWithin_73 : decode cX1_badWithin 73 = .ok (.ireturn, 1) := by decide +kernel
theorem dX1_badWithin_74 : decode cX1_badWithin 74 = .ok (.iinc 4 1, 3) := by decide +kernel
theorem dX1_badWithin_77 : decode cX1_badWithin 77 = .ok (.goto (-66), 3) := by decide +kernel
theorem dX1_badWithin_80 : decode cX1_badWithin 80 = .ok (.aload_n 0, 1) := by decide +kernel
theorem dX1_badWithin_81 : decode cX1_badWithin 81 = .ok (.iload_n 3, 1) := by decide +kernel
theorem dX1_badWithin_82 : decode cX1_badWithin 82 = .ok (.invokevirtual 31, 3) := by decide +kernel
theorem dX1_badWithin_85 : decode cX1_badWithin 85 = .ok (.bipush 59, 2) := by decide +kernel
theorem dX1_badWithin_87 : decode cX1_badWithin 87 = .ok (.if_icmp .ne 7, 3) := by decide +kernel
theorem dX1_badWithin_90 : decode cX1_badWithin 90 = .ok (.iconst (-1), 1) := by decide +kernel
theorem dX1_badWithin_91 : decode cX1_badWithin 91 = .ok (.goto 4, 3) := by decide +kernel
theorem dX1_badWithin_94 : decode cX1_badWithin 94 = .ok (.iload_n 3, 1) := by decide +kernel
theorem dX1_badWithin_95 : decode cX1_badWithin 95 = .ok (.ireturn, 1) := by decide +kernel
theorem dX1_kindAt_0 : decode cX1_kindAt 0 = .ok (.aload_n 0, 1) := by decide +kernel
theorem dX1_kindAt_1 : decode cX1_kindAt 1 = .ok (.iload_n 1, 1) := by decide +kernel
theorem dX1_kindAt_2 : decode cX1_kindAt 2 = .ok (.invokevirtual 31, 3) := by decide +kernel
theorem dX1_kindAt_5 : decode cX1_kindAt 5 = .ok (.istore_n 2, 1) := by decide +kernel
theorem dX1_kindAt_6 : decode cX1_kindAt 6 = .ok (.iload_n 2, 1) := by decide +kernel
theorem dX1_kindAt_7 : decode cX1_kindAt 7 = .ok (.ifCond .ge 7, 3) := by decide +kernel
theorem dX1_kindAt_10 : decode cX1_kindAt 10 = .ok (.iconst (-1), 1) := by decide +kernel
theorem dX1_kindAt_11 : decode cX1_kindAt 11 = .ok (.goto 10, 3) := by decide +kernel
theorem dX1_kindAt_14 : decode cX1_kindAt 14 = .ok (.ldc 41, 2) := by decide +kernel
theorem dX1_kindAt_16 : decode cX1_kindAt 16 = .ok (.iload_n 2, 1) := by decide +kernel
theorem dX1_kindAt_17 : decode cX1_kindAt 17 = .ok (.i2c, 1) := by decide +kernel
theorem dX1_kindAt_18 : decode cX1_kindAt 18 = .ok (.invokevirtual 43, 3) := by decide +kernel
theorem dX1_kindAt_21 : decode cX1_kindAt 21 = .ok (.ireturn, 1) := by decide +kernel
theorem dX1_isDigit_0 : decode cX1_isDigit 0 = .ok (.iload_n 0, 1) := by decide +kernel
theorem dX1_isDigit_1 : decode cX1_isDigit 1 = .ok (.bipush 48, 2) := by decide +kernel
theorem dX1_isDigit_3 : decode cX1_isDigit 3 = .ok (.if_icmp .lt 13, 3) := by decide +kernel
theorem dX1_isDigit_6 : decode cX1_isDigit 6 = .ok (.iload_n 0, 1) := by decide +kernel
theorem dX1_isDigit_7 : decode cX1_isDigit 7 = .ok (.bipush 57, 2) := by decide +kernel
theorem dX1_isDigit_9 : decode cX1_isDigit 9 = .ok (.if_icmp .gt 7, 3) := by decide +kernel
theorem dX1_isDigit_12 : decode cX1_isDigit 12 = .ok (.iconst 1, 1) := by decide +kernel
theorem dX1_isDigit_13 : decode cX1_isDigit 13 = .ok (.goto 4, 3) := by decide +kernel
theorem dX1_isDigit_16 : decode cX1_isDigit 16 = .ok (.iconst 0, 1) := by decide +kernel
theorem dX1_isDigit_17 : decode cX1_isDigit 17 = .ok (.ireturn, 1) := by decide +kernel
theorem dX1_digitAt_0 : decode cX1_digitAt 0 = .ok (.aload_n 0, 1) := by decide +kernel
theorem dX1_digitAt_1 : decode cX1_digitAt 1 = .ok (.iload_n 1, 1) := by decide +kernel
theorem dX1_digitAt_2 : decode cX1_digitAt 2 = .ok (.invokevirtual 31, 3) := by decide +kernel
theorem dX1_digitAt_5 : decode cX1_digitAt 5 = .ok (.bipush 48, 2) := by decide +kernel
theorem dX1_digitAt_7 : decode cX1_digitAt 7 = .ok (.isub, 1) := by decide +kernel
theorem dX1_digitAt_8 : decode cX1_digitAt 8 = .ok (.ireturn, 1) := by decide +kernel
theorem dX1_numberAt_0 : decode cX1_numberAt 0 = .ok (.bipush 10, 2) := by decide +kernel
theorem dX1_numberAt_2 : decode cX1_numberAt 2 = .ok (.aload_n 0, 1) := by decide +kernel
theorem dX1_numberAt_3 : decode cX1_numberAt 3 = .ok (.iload_n 1, 1) := by decide +kernel
theorem dX1_numberAt_4 : decode cX1_numberAt 4 = .ok (.invokevirtual 48, 3) := by decide +kernel
theorem dX1_numberAt_7 : decode cX1_numberAt 7 = .ok (.imul, 1) := by decide +kernel
theorem dX1_numberAt_8 : decode cX1_numberAt 8 = .ok (.aload_n 0, 1) := by decide +kernel
theorem dX1_numberAt_9 : decode cX1_numberAt 9 = .ok (.iload_n 1, 1) := by decide +kernel
theorem dX1_numberAt_10 : decode cX1_numberAt 10 = .ok (.iconst 1, 1) := by decide +kernel
theorem dX1_numberAt_11 : decode cX1_numberAt 11 = .ok (.iadd, 1) := by decide +kernel
theorem dX1_numberAt_12 : decode cX1_numberAt 12 = .ok (.invokevirtual 48, 3) := by decide +kernel
theorem dX1_numberAt_15 : decode cX1_numberAt 15 = .ok (.iadd, 1) := by decide +kernel
theorem dX1_numberAt_16 : decode cX1_numberAt 16 = .ok (.ireturn, 1) := by decide +kernel
theorem dX1_tellAll_0 : decode cX1_tellAll 0 = .ok (.iconst 0, 1) := by decide +kernel
theorem dX1_tellAll_1 : decode cX1_tellAll 1 = .ok (.istore_n 2, 1) := by decide +kernel
theorem dX1_tellAll_2 : decode cX1_tellAll 2 = .ok (.iconst 0, 1) := by decide +kernel
theorem dX1_tellAll_3 : decode cX1_tellAll 3 = .ok (.istore_n 3, 1) := by decide +kernel
theorem dX1_tellAll_4 : decode cX1_tellAll 4 = .ok (.iload_n 3, 1) := by decide +kernel
theorem dX1_tellAll_5 : decode cX1_tellAll 5 = .ok (.aload_n 0, 1) := by decide +kernel
theorem dX1_tellAll_6 : decode cX1_tellAll 6 = .ok (.getfield 15, 3) := by decide +kernel
theorem dX1_tellAll_9 : decode cX1_tellAll 9 = .ok (.if_icmp .ge 41, 3) := by decide +kernel
theorem dX1_tellAll_12 : decode cX1_tellAll 12 = .ok (.aload_n 0, 1) := by decide +kernel
theorem dX1_tellAll_13 : decode cX1_tellAll 13 = .ok (.iload_n 3, 1) := by decide +kernel
theorem dX1_tellAll_14 : decode cX1_tellAll 14 = .ok (.invokevirtual 23, 3) := by decide +kernel
theorem dX1_tellAll_17 : decode cX1_tellAll 17 = .ok (.istore 4, 2) := by decide +kernel
theorem dX1_tellAll_19 : decode cX1_tellAll 19 = .ok (.iload 4, 2) := by decide +kernel
theorem dX1_tellAll_21 : decode cX1_tellAll 21 = .ok (.ifCond .le 12, 3) := by decide +kernel
theorem dX1_tellAll_24 : decode cX1_tellAll 24 = .ok (.aload_n 0, 1) := by decide +kernel
theorem dX1_tellAll_25 : decode cX1_tellAll 25 = .ok (.aload_n 1, 1) := by decide +kernel
theorem dX1_tellAll_26 : decode cX1_tellAll 26 = .ok (.iload_n 3, 1) := by decide +kernel
theorem dX1_tellAll_27 : decode cX1_tellAll 27 = .ok (.invokevirtual 51, 3) := by decide +kernel
theorem dX1_tellAll_30 : decode cX1_tellAll 30 = .ok (.ifCond .ne 9, 3) := by decide +kernel
theorem dX1_tellAll_33 : decode cX1_tellAll 33 = .ok (.sipush (-2000), 3) := by decide +kernel
theorem dX1_tellAll_36 : decode cX1_tellAll 36 = .ok (.iload_n 3, 1) := by decide +kernel
theorem dX1_tellAll_37 : decode cX1_tellAll 37 = .ok (.isub, 1) := by decide +kernel
theorem dX1_tellAll_38 : decode cX1_tellAll 38 = .ok (.ireturn, 1) := by decide +kernel
theorem dX1_tellAll_39 : decode cX1_tellAll 39 = .ok (.iinc 2 1, 3) := by decide +kernel
theorem dX1_tellAll_42 : decode cX1_tellAll 42 = .ok (.iload_n 3, 1) := by decide +kernel
theorem dX1_tellAll_43 : decode cX1_tellAll 43 = .ok (.iload 4, 2) := by decide +kernel
theorem dX1_tellAll_45 : decode cX1_tellAll 45 = .ok (.iadd, 1) := by decide +kernel
theorem dX1_tellAll_46 : decode cX1_tellAll 46 = .ok (.istore_n 3, 1) := by decide +kernel
theorem dX1_tellAll_47 : decode cX1_tellAll 47 = .ok (.goto (-43), 3) := by decide +kernel
theorem dX1_tellAll_50 : decode cX1_tellAll 50 = .ok (.iload_n 2, 1) := by decide +kernel
theorem dX1_tellAll_51 : decode cX1_tellAll 51 = .ok (.ireturn, 1) := by decide +kernel
theorem dX1_tellOne_0 : decode cX1_tellOne 0 = .ok (.aload_n 0, 1) := by decide +kernel
theorem dX1_tellOne_1 : decode cX1_tellOne 1 = .ok (.iload_n 2, 1) := by decide +kernel
theorem dX1_tellOne_2 : decode cX1_tellOne 2 = .ok (.iconst 1, 1) := by decide +kernel
theorem dX1_tellOne_3 : decode cX1_tellOne 3 = .ok (.iadd, 1) := by decide +kernel
theorem dX1_tellOne_4 : decode cX1_tellOne 4 = .ok (.invokevirtual 48, 3) := by decide +kernel
theorem dX1_tellOne_7 : decode cX1_tellOne 7 = .ok (.istore_n 3, 1) := by decide +kernel
theorem dX1_tellOne_8 : decode cX1_tellOne 8 = .ok (.aload_n 0, 1) := by decide +kernel
theorem dX1_tellOne_9 : decode cX1_tellOne 9 = .ok (.iload_n 2, 1) := by decide +kernel
theorem dX1_tellOne_10 : decode cX1_tellOne 10 = .ok (.iconst 2, 1) := by decide +kernel
theorem dX1_tellOne_11 : decode cX1_tellOne 11 = .ok (.iadd, 1) := by decide +kernel
theorem dX1_tellOne_12 : decode cX1_tellOne 12 = .ok (.invokevirtual 48, 3) := by decide +kernel
theorem dX1_tellOne_15 : decode cX1_tellOne 15 = .ok (.istore 4, 2) := by decide +kernel
theorem dX1_tellOne_17 : decode cX1_tellOne 17 = .ok (.aload_n 0, 1) := by decide +kernel
theorem dX1_tellOne_18 : decode cX1_tellOne 18 = .ok (.iload_n 2, 1) := by decide +kernel
theorem dX1_tellOne_19 : decode cX1_tellOne 19 = .ok (.invokevirtual 31, 3) := by decide +kernel
theorem dX1_tellOne_22 : decode cX1_tellOne 22 = .ok (.lookupswitch 108 #[(98, 79), (102, 87), (109, 95), (112, 50), (115, 71)], 50) := by decide +kernel
theorem dX1_tellOne_72 : decode cX1_tellOne 72 = .ok (.aload_n 1, 1) := by decide +kernel
theorem dX1_tellOne_73 : decode cX1_tellOne 73 = .ok (.aload_n 0, 1) := by decide +kernel
theorem dX1_tellOne_74 : decode cX1_tellOne 74 = .ok (.iload_n 2, 1) := by decide +kernel
theorem dX1_tellOne_75 : decode cX1_tellOne 75 = .ok (.iconst 1, 1) := by decide +kernel
theorem dX1_tellOne_76 : decode cX1_tellOne 76 = .ok (.iadd, 1) := by decide +kernel
theorem dX1_tellOne_77 : decode cX1_tellOne 77 = .ok (.invokevirtual 34, 3) := by decide +kernel
theorem dX1_tellOne_80 : decode cX1_tellOne 80 = .ok (.iload 4, 2) := by decide +kernel
theorem dX1_tellOne_82 : decode cX1_tellOne 82 = .ok (.aload_n 0, 1) := by decide +kernel
theorem dX1_tellOne_83 : decode cX1_tellOne 83 = .ok (.iload_n 2, 1) := by decide +kernel
theorem dX1_tellOne_84 : decode cX1_tellOne 84 = .ok (.iconst 3, 1) := by decide +kernel
theorem dX1_tellOne_85 : decode cX1_tellOne 85 = .ok (.iadd, 1) := by decide +kernel
theorem dX1_tellOne_86 : decode cX1_tellOne 86 = .ok (.invokevirtual 55, 3) := by decide +kernel
theorem dX1_tellOne_89 : decode cX1_tellOne 89 = .ok (.invokevirtual 58, 3) := by decide +kernel
theorem dX1_tellOne_92 : decode cX1_tellOne 92 = .ok (.ireturn, 1) := by decide +kernel
theorem dX1_tellOne_93 : decode cX1_tellOne 93 = .ok (.aload_n 1, 1) := by decide +kernel
theorem dX1_tellOne_94 : decode cX1_tellOne 94 = .ok (.iload_n 3, 1) := by decide +kernel
theorem dX1_tellOne_95 : decode cX1_tellOne 95 = .ok (.iload 4, 2) := by decide +kernel
theorem dX1_tellOne_97 : decode cX1_tellOne 97 = .ok (.invokevirtual 64, 3) := by decide +kernel
theorem dX1_tellOne_100 : decode cX1_tellOne 100 = .ok (.ireturn, 1) := by decide +kernel
theorem dX1_tellOne_101 : decode cX1_tellOne 101 = .ok (.aload_n 1, 1) := by decide +kernel
theorem dX1_tellOne_102 : decode cX1_tellOne 102 = .ok (.iload_n 3, 1) := by decide +kernel
theorem dX1_tellOne_103 : decode cX1_tellOne 103 = .ok (.iload 4, 2) := by decide +kernel
theorem dX1_tellOne_105 : decode cX1_tellOne 105 = .ok (.invokevirtual 68, 3) := by decide +kernel
theorem dX1_tellOne_108 : decode cX1_tellOne 108 = .ok (.ireturn, 1) := by decide +kernel
theorem dX1_tellOne_109 : decode cX1_tellOne 109 = .ok (.aload_n 1, 1) := by decide +kernel
theorem dX1_tellOne_110 : decode cX1_tellOne 110 = .ok (.iload_n 3, 1) := by decide +kernel
theorem dX1_tellOne_111 : decode cX1_tellOne 111 = .ok (.iload 4, 2) := by decide +kernel
theorem dX1_tellOne_113 : decode cX1_tellOne 113 = .ok (.invokevirtual 71, 3) := by decide +kernel
theorem dX1_tellOne_116 : decode cX1_tellOne 116 = .ok (.ireturn, 1) := by decide +kernel
theorem dX1_tellOne_117 : decode cX1_tellOne 117 = .ok (.aload_n 1, 1) := by decide +kernel
theorem dX1_tellOne_118 : decode cX1_tellOne 118 = .ok (.iload_n 3, 1) := by decide +kernel
theorem dX1_tellOne_119 : decode cX1_tellOne 119 = .ok (.aload_n 0, 1) := by decide +kernel
theorem dX1_tellOne_120 : decode cX1_tellOne 120 = .ok (.iload_n 2, 1) := by decide +kernel
theorem dX1_tellOne_121 : decode cX1_tellOne 121 = .ok (.iconst 2, 1) := by decide +kernel
theorem dX1_tellOne_122 : decode cX1_tellOne 122 = .ok (.iadd, 1) := by decide +kernel
theorem dX1_tellOne_123 : decode cX1_tellOne 123 = .ok (.invokevirtual 55, 3) := by decide +kernel
theorem dX1_tellOne_126 : decode cX1_tellOne 126 = .ok (.invokevirtual 74, 3) := by decide +kernel
theorem dX1_tellOne_129 : decode cX1_tellOne 129 = .ok (.ireturn, 1) := by decide +kernel
theorem dX1_tellOne_130 : decode cX1_tellOne 130 = .ok (.aload_n 1, 1) := by decide +kernel
theorem dX1_tellOne_131 : decode cX1_tellOne 131 = .ok (.aload_n 0, 1) := by decide +kernel
theorem dX1_tellOne_132 : decode cX1_tellOne 132 = .ok (.iload_n 2, 1) := by decide +kernel
theorem dX1_tellOne_133 : decode cX1_tellOne 133 = .ok (.iconst 1, 1) := by decide +kernel
theorem dX1_tellOne_134 : decode cX1_tellOne 134 = .ok (.iadd, 1) := by decide +kernel
theorem dX1_tellOne_135 : decode cX1_tellOne 135 = .ok (.invokevirtual 55, 3) := by decide +kernel
theorem dX1_tellOne_138 : decode cX1_tellOne 138 = .ok (.invokevirtual 77, 3) := by decide +kernel
theorem dX1_tellOne_141 : decode cX1_tellOne 141 = .ok (.ifCond .eq 21, 3) := by decide +kernel
theorem dX1_tellOne_144 : decode cX1_tellOne 144 = .ok (.aload_n 1, 1) := by decide +kernel
theorem dX1_tellOne_145 : decode cX1_tellOne 145 = .ok (.aload_n 0, 1) := by decide +kernel
theorem dX1_tellOne_146 : decode cX1_tellOne 146 = .ok (.iload_n 2, 1) := by decide +kernel
theorem dX1_tellOne_147 : decode cX1_tellOne 147 = .ok (.iconst 1, 1) := by decide +kernel
theorem dX1_tellOne_148 : decode cX1_tellOne 148 = .ok (.iadd, 1) := by decide +kernel
theorem dX1_tellOne_149 : decode cX1_tellOne 149 = .ok (.invokevirtual 55, 3) := by decide +kernel
theorem dX1_tellOne_152 : decode cX1_tellOne 152 = .ok (.invokevirtual 80, 3) := by decide +kernel
theorem dX1_tellOne_155 : decode cX1_tellOne 155 = .ok (.ifCond .eq 7, 3) := by decide +kernel
theorem dX1_tellOne_158 : decode cX1_tellOne 158 = .ok (.iconst 1, 1) := by decide +kernel
theorem dX1_tellOne_159 : decode cX1_tellOne 159 = .ok (.goto 4, 3) := by decide +kernel
theorem dX1_tellOne_162 : decode cX1_tellOne 162 = .ok (.iconst 0, 1) := by decide +kernel
theorem dX1_tellOne_163 : decode cX1_tellOne 163 = .ok (.ireturn, 1) := by decide +kernel
theorem dX2_init_0 : decode cX2_init 0 = .ok (.aload_n 0, 1) := by decide +kernel
theorem dX2_init_1 : decode cX2_init 1 = .ok (.invokespecial 3, 3) := by decide +kernel
theorem dX2_init_4 : decode cX2_init 4 = .ok (.aload_n 0, 1) := by decide +kernel
theorem dX2_init_5 : decode cX2_init 5 = .ok (.bipush 8, 2) := by decide +kernel
theorem dX2_init_7 : decode cX2_init 7 = .ok (.anewarray 9, 3) := by decide +kernel
theorem dX2_init_10 : decode cX2_init 10 = .ok (.putfield 11, 3) := by decide +kernel
theorem dX2_init_13 : decode cX2_init 13 = .ok (.iconst 0, 1) := by decide +kernel
theorem dX2_init_14 : decode cX2_init 14 = .ok (.istore_n 1, 1) := by decide +kernel
theorem dX2_init_15 : decode cX2_init 15 = .ok (.iload_n 1, 1) := by decide +kernel
theorem dX2_init_16 : decode cX2_init 16 = .ok (.bipush 7, 2) := by decide +kernel
theorem dX2_init_18 : decode cX2_init 18 = .ok (.if_icmp .gt 22, 3) := by decide +kernel
theorem dX2_init_21 : decode cX2_init 21 = .ok (.aload_n 0, 1) := by decide +kernel
theorem dX2_init_22 : decode cX2_init 22 = .ok (.getfield 11, 3) := by decide +kernel
theorem dX2_init_25 : decode cX2_init 25 = .ok (.iload_n 1, 1) := by decide +kernel
theorem dX2_init_26 : decode cX2_init 26 = .ok (.new 9, 3) := by decide +kernel
theorem dX2_init_29 : decode cX2_init 29 = .ok (.dup, 1) := by decide +kernel
theorem dX2_init_30 : decode cX2_init 30 = .ok (.invokespecial 17, 3) := by decide +kernel
theorem dX2_init_33 : decode cX2_init 33 = .ok (.aastore, 1) := by decide +kernel
theorem dX2_init_34 : decode cX2_init 34 = .ok (.iinc 1 1, 3) := by decide +kernel
theorem dX2_init_37 : decode cX2_init 37 = .ok (.goto (-22), 3) := by decide +kernel
theorem dX2_init_40 : decode cX2_init 40 = .ok (.return_, 1) := by decide +kernel
theorem dX2_goodWays_0 : decode cX2_goodWays 0 = .ok (.aload_n 0, 1) := by decide +kernel
theorem dX2_goodWays_1 : decode cX2_goodWays 1 = .ok (.iload_n 2, 1) := by decide +kernel
theorem dX2_goodWays_2 : decode cX2_goodWays 2 = .ok (.putfield 18, 3) := by decide +kernel
theorem dX2_goodWays_5 : decode cX2_goodWays 5 = .ok (.aload_n 0, 1) := by decide +kernel
theorem dX2_goodWays_6 : decode cX2_goodWays 6 = .ok (.iload_n 3, 1) := by decide +kernel
theorem dX2_goodWays_7 : decode cX2_goodWays 7 = .ok (.putfield 22, 3) := by decide +kernel
theorem dX2_goodWays_10 : decode cX2_goodWays 10 = .ok (.aload_n 0, 1) := by decide +kernel
theorem dX2_goodWays_11 : decode cX2_goodWays 11 = .ok (.iload 4, 2) := by decide +kernel
theorem dX2_goodWays_13 : decode cX2_goodWays 13 = .ok (.putfield 25, 3) := by decide +kernel
theorem dX2_goodWays_16 : decode cX2_goodWays 16 = .ok (.aload_n 0, 1) := by decide +kernel
theorem dX2_goodWays_17 : decode cX2_goodWays 17 = .ok (.iload 5, 2) := by decide +kernel
theorem dX2_goodWays_19 : decode cX2_goodWays 19 = .ok (.iconst 1, 1) := by decide +kernel
theorem dX2_goodWays_20 : decode cX2_goodWays 20 = .ok (.isub, 1) := by decide +kernel
theorem dX2_goodWays_21 : decode cX2_goodWays 21 = .ok (.putfield 28, 3) := by decide +kernel
theorem dX2_goodWays_24 : decode cX2_goodWays 24 = .ok (.aload_n 0, 1) := by decide +kernel
theorem dX2_goodWays_25 : decode cX2_goodWays 25 = .ok (.iload 6, 2) := by decide +kernel
theorem dX2_goodWays_27 : decode cX2_goodWays 27 = .ok (.putfield 31, 3) := by decide +kernel
theorem dX2_goodWays_30 : decode cX2_goodWays 30 = .ok (.aload_n 0, 1) := by decide +kernel
theorem dX2_goodWays_31 : decode cX2_goodWays 31 = .ok (.getfield 11, 3) := by decide +kernel
theorem dX2_goodWays_34 : decode cX2_goodWays 34 = .ok (.iconst 0, 1) := by decide +kernel
theorem dX2_goodWays_35 : decode cX2_goodWays 35 = .ok (.aaload, 1) := by decide +kernel
theorem dX2_goodWays_36 : decode cX2_goodWays 36 = .ok (.aload_n 1, 1) := by decide +kernel
theorem dX2_goodWays_37 : decode cX2_goodWays 37 = .ok (.invokevirtual 34, 3) := by decide +kernel
theorem dX2_goodWays_40 : decode cX2_goodWays 40 = .ok (.aload_n 0, 1) := by decide +kernel
theorem dX2_goodWays_41 : decode cX2_goodWays 41 = .ok (.iconst 0, 1) := by decide +kernel
theorem dX2_goodWays_42 : decode cX2_goodWays 42 = .ok (.invokevirtual 38, 3) := by decide +kernel
theorem dX2_goodWays_45 : decode cX2_goodWays 45 = .ok (.lreturn, 1) := by decide +kernel
theorem dX2_allWays_0 : decode cX2_allWays 0 = .ok (.lconst 1, 1) := by decide +kernel
theorem dX2_allWays_1 : decode cX2_allWays 1 = .ok (.lstore_n 2, 1) := by decide +kernel
theorem dX2_allWays_2 : decode cX2_allWays 2 = .ok (.iconst 0, 1) := by decide +kernel
theorem dX2_allWays_3 : decode cX2_allWays 3 = .ok (.istore 4, 2) := by decide +kernel
theorem dX2_allWays_5 : decode cX2_allWays 5 = .ok (.iload 4, 2) := by decide +kernel
theorem dX2_allWays_7 : decode cX2_allWays 7 = .ok (.iload_n 0, 1) := by decide +kernel
theorem dX2_allWays_8 : decode cX2_allWays 8 = .ok (.if_icmp .ge 14, 3) := by decide +kernel
theorem dX2_allWays_11 : decode cX2_allWays 11 = .ok (.lload_n 2, 1) := by decide +kernel
theorem dX2_allWays_12 : decode cX2_allWays 12 = .ok (.iload_n 1, 1) := by decide +kernel
theorem dX2_allWays_13 : decode cX2_allWays 13 = .ok (.i2l, 1) := by decide +kernel
theorem dX2_allWays_14 : decode cX2_allWays 14 = .ok (.lmul, 1) := by decide +kernel
theorem dX2_allWays_15 : decode cX2_allWays 15 = .ok (.lstore_n 2, 1) := by decide +kernel
theorem dX2_allWays_16 : decode cX2_allWays 16 = .ok (.iinc 4 1, 3) := by decide +kernel
theorem dX2_allWays_19 : decode cX2_allWays 19 = .ok (.goto (-14), 3) := by decide +kernel
theorem dX2_allWays_22 : decode cX2_allWays 22 = .ok (.lload_n 2, 1) := by decide +kernel
theorem dX2_allWays_23 : decode cX2_allWays 23 = .ok (.lreturn, 1) := by decide +kernel
theorem dX2_waysFrom_0 : decode cX2_waysFrom 0 = .ok (.iload_n 1, 1) := by decide +kernel
theorem dX2_waysFrom_1 : decode cX2_waysFrom 1 = .ok (.ifCond .lt 9, 3) := by decide +kernel
theorem dX2_waysFrom_4 : decode cX2_waysFrom 4 = .ok (.iload_n 1, 1) := by decide +kernel
theorem dX2_waysFrom_5 : decode cX2_waysFrom 5 = .ok (.bipush 7, 2) := by decide +kernel
theorem dX2_waysFrom_7 : decode cX2_waysFrom 7 = .ok (.if_icmp .le 5, 3) := by decide +kernel
theorem dX2_waysFrom_10 : decode cX2_waysFrom 10 = .ok (.lconst 0, 1) := by decide +kernel
theorem dX2_waysFrom_11 : decode cX2_waysFrom 11 = .ok (.lreturn, 1) := by decide +kernel
theorem dX2_waysFrom_12 : decode cX2_waysFrom 12 = .ok (.aload_n 0, 1) := by decide +kernel
theorem dX2_waysFrom_13 : decode cX2_waysFrom 13 = .ok (.getfield 11, 3) := by decide +kernel
theorem dX2_waysFrom_16 : decode cX2_waysFrom 16 = .ok (.iload_n 1, 1) := by decide +kernel
theorem dX2_waysFrom_17 : decode cX2_waysFrom 17 = .ok (.aaload, 1) := by decide +kernel
theorem dX2_waysFrom_18 : decode cX2_waysFrom 18 = .ok (.astore_n 2, 1) := by decide +kernel
theorem dX2_waysFrom_19 : decode cX2_waysFrom 19 = .ok (.iload_n 1, 1) := by decide +kernel
theorem dX2_waysFrom_20 : decode cX2_waysFrom 20 = .ok (.aload_n 0, 1) := by decide +kernel
theorem dX2_waysFrom_21 : decode cX2_waysFrom 21 = .ok (.getfield 25, 3) := by decide +kernel
theorem dX2_waysFrom_24 : decode cX2_waysFrom 24 = .ok (.if_icmp .ge 9, 3) := by decide +kernel
theorem dX2_waysFrom_27 : decode cX2_waysFrom 27 = .ok (.iload_n 1, 1) := by decide +kernel
theorem dX2_waysFrom_28 : decode cX2_waysFrom 28 = .ok (.bipush 7, 2) := by decide +kernel
theorem dX2_waysFrom_30 : decode cX2_waysFrom 30 = .ok (.if_icmp .lt 36, 3) := by decide +kernel
theorem dX2_waysFrom_33 : decode cX2_waysFrom 33 = .ok (.aload_n 2, 1) := by decide +kernel
theorem dX2_waysFrom_34 : decode cX2_waysFrom 34 = .ok (.aload_n 0, 1) := by decide +kernel
theorem dX2_waysFrom_35 : decode cX2_waysFrom 35 = .ok (.getfield 22, 3) := by decide +kernel
theorem dX2_waysFrom_38 : decode cX2_waysFrom 38 = .ok (.invokevirtual 42, 3) := by decide +kernel
theorem dX2_waysFrom_41 : decode cX2_waysFrom 41 = .ok (.ifCond .eq 23, 3) := by decide +kernel
theorem dX2_waysFrom_44 : decode cX2_waysFrom 44 = .ok (.aload_n 2, 1) := by decide +kernel
theorem dX2_waysFrom_45 : decode cX2_waysFrom 45 = .ok (.getfield 46, 3) := by decide +kernel
theorem dX2_waysFrom_48 : decode cX2_waysFrom 48 = .ok (.aload_n 0, 1) := by decide +kernel
theorem dX2_waysFrom_49 : decode cX2_waysFrom 49 = .ok (.getfield 22, 3) := by decide +kernel
theorem dX2_waysFrom_52 : decode cX2_waysFrom 52 = .ok (.iaload, 1) := by decide +kernel
theorem dX2_waysFrom_53 : decode cX2_waysFrom 53 = .ok (.aload_n 0, 1) := by decide +kernel
theorem dX2_waysFrom_54 : decode cX2_waysFrom 54 = .ok (.getfield 31, 3) := by decide +kernel
theorem dX2_waysFrom_57 : decode cX2_waysFrom 57 = .ok (.if_icmp .lt 7, 3) := by decide +kernel
theorem dX2_waysFrom_60 : decode cX2_waysFrom 60 = .ok (.lconst 1, 1) := by decide +kernel
theorem dX2_waysFrom_61 : decode cX2_waysFrom 61 = .ok (.goto 4, 3) := by decide +kernel
theorem dX2_waysFrom_64 : decode cX2_waysFrom 64 = .ok (.lconst 0, 1) := by decide +kernel
theorem dX2_waysFrom_65 : decode cX2_waysFrom 65 = .ok (.lreturn, 1) := by decide +kernel
theorem dX2_waysFrom_66 : decode cX2_waysFrom 66 = .ok (.aload_n 0, 1) := by decide +kernel
theorem dX2_waysFrom_67 : decode cX2_waysFrom 67 = .ok (.getfield 11, 3) := by decide +kernel
theorem dX2_waysFrom_70 : decode cX2_waysFrom 70 = .ok (.iload_n 1, 1) := by decide +kernel
theorem dX2_waysFrom_71 : decode cX2_waysFrom 71 = .ok (.iconst 1, 1) := by decide +kernel
theorem dX2_waysFrom_72 : decode cX2_waysFrom 72 = .ok (.iadd, 1) := by decide +kernel
theorem dX2_waysFrom_73 : decode cX2_waysFrom 73 = .ok (.aaload, 1) := by decide +kernel
theorem dX2_waysFrom_74 : decode cX2_waysFrom 74 = .ok (.astore_n 3, 1) := by decide +kernel
theorem dX2_waysFrom_75 : decode cX2_waysFrom 75 = .ok (.aload_n 3, 1) := by decide +kernel
theorem dX2_waysFrom_76 : decode cX2_waysFrom 76 = .ok (.aload_n 2, 1) := by decide +kernel
theorem dX2_waysFrom_77 : decode cX2_waysFrom 77 = .ok (.invokevirtual 34, 3) := by decide +kernel
theorem dX2_waysFrom_80 : decode cX2_waysFrom 80 = .ok (.aload_n 3, 1) := by decide +kernel
theorem dX2_waysFrom_81 : decode cX2_waysFrom 81 = .ok (.aload_n 0, 1) := by decide +kernel
theorem dX2_waysFrom_82 : decode cX2_waysFrom 82 = .ok (.getfield 18, 3) := by decide +kernel
theorem dX2_waysFrom_85 : decode cX2_waysFrom 85 = .ok (.invokevirtual 50, 3) := by decide +kernel
theorem dX2_waysFrom_88 : decode cX2_waysFrom 88 = .ok (.aload_n 0, 1) := by decide +kernel
theorem dX2_waysFrom_89 : decode cX2_waysFrom 89 = .ok (.iload_n 1, 1) := by decide +kernel
theorem dX2_waysFrom_90 : decode cX2_waysFrom 90 = .ok (.iconst 1, 1) := by decide +kernel
theorem dX2_waysFrom_91 : decode cX2_waysFrom 91 = .ok (.iadd, 1) := by decide +kernel
theorem dX2_waysFrom_92 : decode cX2_waysFrom 92 = .ok (.invokevirtual 38, 3) := by decide +kernel
theorem dX2_waysFrom_95 : decode cX2_waysFrom 95 = .ok (.lstore 4, 2) := by decide +kernel
theorem dX2_waysFrom_97 : decode cX2_waysFrom 97 = .ok (.aload_n 3, 1) := by decide +kernel
theorem dX2_waysFrom_98 : decode cX2_waysFrom 98 = .ok (.aload_n 2, 1) := by decide +kernel
theorem dX2_waysFrom_99 : decode cX2_waysFrom 99 = .ok (.invokevirtual 34, 3) := by decide +kernel
theorem dX2_waysFrom_102 : decode cX2_waysFrom 102 = .ok (.aload_n 3, 1) := by decide +kernel
theorem dX2_waysFrom_103 : decode cX2_waysFrom 103 = .ok (.iconst (-1), 1) := by decide +kernel
theorem dX2_waysFrom_104 : decode cX2_waysFrom 104 = .ok (.invokevirtual 50, 3) := by decide +kernel
theorem dX2_waysFrom_107 : decode cX2_waysFrom 107 = .ok (.lload 4, 2) := by decide +kernel
theorem dX2_waysFrom_109 : decode cX2_waysFrom 109 = .ok (.aload_n 0, 1) := by decide +kernel
theorem dX2_waysFrom_110 : decode cX2_waysFrom 110 = .ok (.getfield 28, 3) := by decide +kernel
theorem dX2_waysFrom_113 : decode cX2_waysFrom 113 = .ok (.i2l, 1) := by decide +kernel
theorem dX2_waysFrom_114 : decode cX2_waysFrom 114 = .ok (.aload_n 0, 1) := by decide +kernel
theorem dX2_waysFrom_115 : decode cX2_waysFrom 115 = .ok (.iload_n 1, 1) := by decide +kernel
theorem dX2_waysFrom_116 : decode cX2_waysFrom 116 = .ok (.iconst 1, 1) := by decide +kernel
theorem dX2_waysFrom_117 : decode cX2_waysFrom 117 = .ok (.iadd, 1) := by decide +kernel
theorem dX2_waysFrom_118 : decode cX2_waysFrom 118 = .ok (.invokevirtual 38, 3) := by decide +kernel
theorem dX2_waysFrom_121 : decode cX2_waysFrom 121 = .ok (.lmul, 1) := by decide +kernel
theorem dX2_waysFrom_122 : decode cX2_waysFrom 122 = .ok (.ladd, 1) := by decide +kernel
theorem dX2_waysFrom_123 : decode cX2_waysFrom 123 = .ok (.lreturn, 1) := by decide +kernel
theorem dX3_init_0 : decode cX3_init 0 = .ok (.aload_n 0, 1) := by decide +kernel
theorem dX3_init_1 : decode cX3_init 1 = .ok (.invokespecial 3, 3) := by decide +kernel
theorem dX3_init_4 : decode cX3_init 4 = .ok (.aload_n 0, 1) := by decide +kernel
theorem dX3_init_5 : decode cX3_init 5 = .ok (.sipush 256, 3) := by decide +kernel
theorem dX3_init_8 : decode cX3_init 8 = .ok (.newarray .int, 2) := by decide +kernel
theorem dX3_init_10 : decode cX3_init 10 = .ok (.putfield 9, 3) := by decide +kernel
theorem dX3_init_13 : decode cX3_init 13 = .ok (.aload_n 0, 1) := by decide +kernel
theorem dX3_init_14 : decode cX3_init 14 = .ok (.bipush 8, 2) := by decide +kernel
theorem dX3_init_16 : decode cX3_init 16 = .ok (.newarray .int, 2) := by decide +kernel
theorem dX3_init_18 : decode cX3_init 18 = .ok (.putfield 15, 3) := by decide +kernel
theorem dX3_init_21 : decode cX3_init 21 = .ok (.aload_n 0, 1) := by decide +kernel
theorem dX3_init_22 : decode cX3_init 22 = .ok (.bipush 8, 2) := by decide +kernel
theorem dX3_init_24 : decode cX3_init 24 = .ok (.newarray .int, 2) := by decide +kernel
theorem dX3_init_26 : decode cX3_init 26 = .ok (.putfield 18, 3) := by decide +kernel
theorem dX3_init_29 : decode cX3_init 29 = .ok (.return_, 1) := by decide +kernel
theorem dX3_pairAll_0 : decode cX3_pairAll 0 = .ok (.aload_n 0, 1) := by decide +kernel
theorem dX3_pairAll_1 : decode cX3_pairAll 1 = .ok (.aload_n 1, 1) := by decide +kernel
theorem dX3_pairAll_2 : decode cX3_pairAll 2 = .ok (.getfield 21, 3) := by decide +kernel
theorem dX3_pairAll_5 : decode cX3_pairAll 5 = .ok (.putfield 27, 3) := by decide +kernel
theorem dX3_pairAll_8 : decode cX3_pairAll 8 = .ok (.iconst 0, 1) := by decide +kernel
theorem dX3_pairAll_9 : decode cX3_pairAll 9 = .ok (.istore_n 3, 1) := by decide +kernel
theorem dX3_pairAll_10 : decode cX3_pairAll 10 = .ok (.iload_n 3, 1) := by decide +kernel
theorem dX3_pairAll_11 : decode cX3_pairAll 11 = .ok (.aload_n 0, 1) := by decide +kernel
theorem dX3_pairAll_12 : decode cX3_pairAll 12 = .ok (.getfield 27, 3) := by decide +kernel
theorem dX3_pairAll_15 : decode cX3_pairAll 15 = .ok (.if_icmp .ge 21, 3) := by decide +kernel
theorem dX3_pairAll_18 : decode cX3_pairAll 18 = .ok (.aload_n 0, 1) := by decide +kernel
theorem dX3_pairAll_19 : decode cX3_pairAll 19 = .ok (.getfield 15, 3) := by decide +kernel
theorem dX3_pairAll_22 : decode cX3_pairAll 22 = .ok (.iload_n 3, 1) := by decide +kernel
theorem dX3_pairAll_23 : decode cX3_pairAll 23 = .ok (.aload_n 1, 1) := by decide +kernel
theorem dX3_pairAll_24 : decode cX3_pairAll 24 = .ok (.iload_n 3, 1) := by decide +kernel
theorem dX3_pairAll_25 : decode cX3_pairAll 25 = .ok (.iload_n 2, 1) := by decide +kernel
theorem dX3_pairAll_26 : decode cX3_pairAll 26 = .ok (.invokestatic 28, 3) := by decide +kernel
theorem dX3_pairAll_29 : decode cX3_pairAll 29 = .ok (.iastore, 1) := by decide +kernel
theorem dX3_pairAll_30 : decode cX3_pairAll 30 = .ok (.iinc 3 1, 3) := by decide +kernel
theorem dX3_pairAll_33 : decode cX3_pairAll 33 = .ok (.goto (-23), 3) := by decide +kernel
theorem dX3_pairAll_36 : decode cX3_pairAll 36 = .ok (.iconst 1, 1) := by decide +kernel
theorem dX3_pairAll_37 : decode cX3_pairAll 37 = .ok (.aload_n 0, 1) := by decide +kernel
theorem dX3_pairAll_38 : decode cX3_pairAll 38 = .ok (.getfield 27, 3) := by decide +kernel
theorem dX3_pairAll_41 : decode cX3_pairAll 41 = .ok (.ishl, 1) := by decide +kernel
theorem dX3_pairAll_42 : decode cX3_pairAll 42 = .ok (.istore_n 3, 1) := by decide +kernel
theorem dX3_pairAll_43 : decode cX3_pairAll 43 = .ok (.aload_n 0, 1) := by decide +kernel
theorem dX3_pairAll_44 : decode cX3_pairAll 44 = .ok (.getfield 9, 3) := by decide +kernel
theorem dX3_pairAll_47 : decode cX3_pairAll 47 = .ok (.iconst 0, 1) := by decide +kernel
theorem dX3_pairAll_48 : decode cX3_pairAll 48 = .ok (.iconst 0, 1) := by decide +kernel
theorem dX3_pairAll_49 : decode cX3_pairAll 49 = .ok (.iastore, 1) := by decide +kernel
theorem dX3_pairAll_50 : decode cX3_pairAll 50 = .ok (.iconst 1, 1) := by decide +kernel
theorem dX3_pairAll_51 : decode cX3_pairAll 51 = .ok (.istore 4, 2) := by decide +kernel
theorem dX3_pairAll_53 : decode cX3_pairAll 53 = .ok (.iload 4, 2) := by decide +kernel
theorem dX3_pairAll_55 : decode cX3_pairAll 55 = .ok (.iload_n 3, 1) := by decide +kernel
theorem dX3_pairAll_56 : decode cX3_pairAll 56 = .ok (.if_icmp .ge 32, 3) := by decide +kernel
theorem dX3_pairAll_59 : decode cX3_pairAll 59 = .ok (.iload 4, 2) := by decide +kernel
theorem dX3_pairAll_61 : decode cX3_pairAll 61 = .ok (.aload_n 0, 1) := by decide +kernel
theorem dX3_pairAll_62 : decode cX3_pairAll 62 = .ok (.getfield 9, 3) := by decide +kernel
theorem dX3_pairAll_65 : decode cX3_pairAll 65 = .ok (.arraylength, 1) := by decide +kernel
theorem dX3_pairAll_66 : decode cX3_pairAll 66 = .ok (.if_icmp .ge 22, 3) := by decide +kernel
theorem dX3_pairAll_69 : decode cX3_pairAll 69 = .ok (.aload_n 0, 1) := by decide +kernel
theorem dX3_pairAll_70 : decode cX3_pairAll 70 = .ok (.getfield 9, 3) := by decide +kernel
theorem dX3_pairAll_73 : decode cX3_pairAll 73 = .ok (.iload 4, 2) := by decide +kernel
theorem dX3_pairAll_75 : decode cX3_pairAll 75 = .ok (.aload_n 0, 1) := by decide +kernel
theorem dX3_pairAll_76 : decode cX3_pairAll 76 = .ok (.iload 4, 2) := by decide +kernel
theorem dX3_pairAll_78 : decode cX3_pairAll 78 = .ok (.invokevirtual 32, 3) := by decide +kernel
theorem dX3_pairAll_81 : decode cX3_pairAll 81 = .ok (.iastore, 1) := by decide +kernel
theorem dX3_pairAll_82 : decode cX3_pairAll 82 = .ok (.iinc 4 1, 3) := by decide +kernel
theorem dX3_pairAll_85 : decode cX3_pairAll 85 = .ok (.goto (-32), 3) := by decide +kernel
theorem dX3_pairAll_88 : decode cX3_pairAll 88 = .ok (.aload_n 0, 1) := by decide +kernel
theorem dX3_pairAll_89 : decode cX3_pairAll 89 = .ok (.iload_n 3, 1) := by decide +kernel
theorem dX3_pairAll_90 : decode cX3_pairAll 90 = .ok (.iconst 1, 1) := by decide +kernel
theorem dX3_pairAll_91 : decode cX3_pairAll 91 = .ok (.isub, 1) := by decide +kernel
theorem dX3_pairAll_92 : decode cX3_pairAll 92 = .ok (.invokevirtual 36, 3) := by decide +kernel
theorem dX3_pairAll_95 : decode cX3_pairAll 95 = .ok (.aload_n 0, 1) := by decide +kernel
theorem dX3_pairAll_96 : decode cX3_pairAll 96 = .ok (.getfield 9, 3) := by decide +kernel
theorem dX3_pairAll_99 : decode cX3_pairAll 99 = .ok (.iload_n 3, 1) := by decide +kernel
theorem dX3_pairAll_100 : decode cX3_pairAll 100 = .ok (.iconst 1, 1) := by decide +kernel
theorem dX3_pairAll_101 : decode cX3_pairAll 101 = .ok (.isub, 1) := by decide +kernel
theorem dX3_pairAll_102 : decode cX3_pairAll 102 = .ok (.iaload, 1) := by decide +kernel
theorem dX3_pairAll_103 : decode cX3_pairAll 103 = .ok (.ireturn, 1) := by decide +kernel
theorem dX3_fitting_0 : decode cX3_fitting 0 = .ok (.iconst 0, 1) := by decide +kernel
theorem dX3_fitting_1 : decode cX3_fitting 1 = .ok (.istore_n 3, 1) := by decide +kernel
theorem dX3_fitting_2 : decode cX3_fitting 2 = .ok (.iconst 0, 1) := by decide +kernel
theorem dX3_fitting_3 : decode cX3_fitting 3 = .ok (.istore 4, 2) := by decide +kernel
theorem dX3_fitting_5 : decode cX3_fitting 5 = .ok (.iload 4, 2) := by decide +kernel
theorem dX3_fitting_7 : decode cX3_fitting 7 = .ok (.aload_n 0, 1) := by decide +kernel
theorem dX3_fitting_8 : decode cX3_fitting 8 = .ok (.getfield 21, 3) := by decide +kernel
theorem dX3_fitting_11 : decode cX3_fitting 11 = .ok (.if_icmp .ge 65, 3) := by decide +kernel
theorem dX3_fitting_14 : decode cX3_fitting 14 = .ok (.aload_n 0, 1) := by decide +kernel
theorem dX3_fitting_15 : decode cX3_fitting 15 = .ok (.getfield 40, 3) := by decide +kernel
theorem dX3_fitting_18 : decode cX3_fitting 18 = .ok (.iload_n 1, 1) := by decide +kernel
theorem dX3_fitting_19 : decode cX3_fitting 19 = .ok (.iaload, 1) := by decide +kernel
theorem dX3_fitting_20 : decode cX3_fitting 20 = .ok (.aload_n 0, 1) := by decide +kernel
theorem dX3_fitting_21 : decode cX3_fitting 21 = .ok (.getfield 40, 3) := by decide +kernel
theorem dX3_fitting_24 : decode cX3_fitting 24 = .ok (.iload 4, 2) := by decide +kernel
theorem dX3_fitting_26 : decode cX3_fitting 26 = .ok (.iaload, 1) := by decide +kernel
theorem dX3_fitting_27 : decode cX3_fitting 27 = .ok (.isub, 1) := by decide +kernel
theorem dX3_fitting_28 : decode cX3_fitting 28 = .ok (.invokestatic 43, 3) := by decide +kernel
theorem dX3_fitting_31 : decode cX3_fitting 31 = .ok (.iload_n 2, 1) := by decide +kernel
theorem dX3_fitting_32 : decode cX3_fitting 32 = .ok (.if_icmp .gt 7, 3) := by decide +kernel
theorem dX3_fitting_35 : decode cX3_fitting 35 = .ok (.iconst 1, 1) := by decide +kernel
theorem dX3_fitting_36 : decode cX3_fitting 36 = .ok (.goto 4, 3) := by decide +kernel
theorem dX3_fitting_39 : decode cX3_fitting 39 = .ok (.iconst 0, 1) := by decide +kernel
theorem dX3_fitting_40 : decode cX3_fitting 40 = .ok (.istore 5, 2) := by decide +kernel
theorem dX3_fitting_42 : decode cX3_fitting 42 = .ok (.iload 4, 2) := by decide +kernel
theorem dX3_fitting_44 : decode cX3_fitting 44 = .ok (.iload_n 1, 1) := by decide +kernel
theorem dX3_fitting_45 : decode cX3_fitting 45 = .ok (.if_icmp .eq 25, 3) := by decide +kernel
theorem dX3_fitting_48 : decode cX3_fitting 48 = .ok (.iload 5, 2) := by decide +kernel
theorem dX3_fitting_50 : decode cX3_fitting 50 = .ok (.ifCond .eq 20, 3) := by decide +kernel
theorem dX3_fitting_53 : decode cX3_fitting 53 = .ok (.aload_n 0, 1) := by decide +kernel
theorem dX3_fitting_54 : decode cX3_fitting 54 = .ok (.iload_n 1, 1) := by decide +kernel
theorem dX3_fitting_55 : decode cX3_fitting 55 = .ok (.iload 4, 2) := by decide +kernel
theorem dX3_fitting_57 : decode cX3_fitting 57 = .ok (.invokevirtual 48, 3) := by decide +kernel
theorem dX3_fitting_60 : decode cX3_fitting 60 = .ok (.ifCond .ne 10, 3) := by decide +kernel
theorem dX3_fitting_63 : decode cX3_fitting 63 = .ok (.iload_n 3, 1) := by decide +kernel
theorem dX3_fitting_64 : decode cX3_fitting 64 = .ok (.iconst 1, 1) := by decide +kernel
theorem dX3_fitting_65 : decode cX3_fitting 65 = .ok (.iload 4, 2) := by decide +kernel
theorem dX3_fitting_67 : decode cX3_fitting 67 = .ok (.ishl, 1) := by decide +kernel
theorem dX3_fitting_68 : decode cX3_fitting 68 = .ok (.ior, 1) := by decide +kernel
theorem dX3_fitting_69 : decode cX3_fitting 69 = .ok (.istore_n 3, 1) := by decide +kernel
theorem dX3_fitting_70 : decode cX3_fitting 70 = .ok (.iinc 4 1, 3) := by decide +kernel
theorem dX3_fitting_73 : decode cX3_fitting 73 = .ok (.goto (-68), 3) := by decide +kernel
theorem dX3_fitting_76 : decode cX3_fitting 76 = .ok (.iload_n 3, 1) := by decide +kernel
theorem dX3_fitting_77 : decode cX3_fitting 77 = .ok (.ireturn, 1) := by decide +kernel
theorem dX3_mostOf_0 : decode cX3_mostOf 0 = .ok (.aload_n 0, 1) := by decide +kernel
theorem dX3_mostOf_1 : decode cX3_mostOf 1 = .ok (.iload_n 1, 1) := by decide +kernel
theorem dX3_mostOf_2 : decode cX3_mostOf 2 = .ok (.invokevirtual 52, 3) := by decide +kernel
theorem dX3_mostOf_5 : decode cX3_mostOf 5 = .ok (.istore_n 2, 1) := by decide +kernel
theorem dX3_mostOf_6 : decode cX3_mostOf 6 = .ok (.iload_n 1, 1) := by decide +kernel
theorem dX3_mostOf_7 : decode cX3_mostOf 7 = .ok (.iconst 1, 1) := by decide +kernel
theorem dX3_mostOf_8 : decode cX3_mostOf 8 = .ok (.iload_n 2, 1) := by decide +kernel
theorem dX3_mostOf_9 : decode cX3_mostOf 9 = .ok (.ishl, 1) := by decide +kernel
theorem dX3_mostOf_10 : decode cX3_mostOf 10 = .ok (.iconst (-1), 1) := by decide +kernel
theorem dX3_mostOf_11 : decode cX3_mostOf 11 = .ok (.ixor, 1) := by decide +kernel
theorem dX3_mostOf_12 : decode cX3_mostOf 12 = .ok (.iand, 1) := by decide +kernel
theorem dX3_mostOf_13 : decode cX3_mostOf 13 = .ok (.istore_n 3, 1) := by decide +kernel
theorem dX3_mostOf_14 : decode cX3_mostOf 14 = .ok (.aload_n 0, 1) := by decide +kernel
theorem dX3_mostOf_15 : decode cX3_mostOf 15 = .ok (.getfield 9, 3) := by decide +kernel
theorem dX3_mostOf_18 : decode cX3_mostOf 18 = .ok (.iload_n 3, 1) := by decide +kernel
theorem dX3_mostOf_19 : decode cX3_mostOf 19 = .ok (.iaload, 1) := by decide +kernel
theorem dX3_mostOf_20 : decode cX3_mostOf 20 = .ok (.istore 4, 2) := by decide +kernel
theorem dX3_mostOf_22 : decode cX3_mostOf 22 = .ok (.iload_n 2, 1) := by decide +kernel
theorem dX3_mostOf_23 : decode cX3_mostOf 23 = .ok (.iconst 1, 1) := by decide +kernel
theorem dX3_mostOf_24 : decode cX3_mostOf 24 = .ok (.iadd, 1) := by decide +kernel
theorem dX3_mostOf_25 : decode cX3_mostOf 25 = .ok (.istore 5, 2) := by decide +kernel
theorem dX3_mostOf_27 : decode cX3_mostOf 27 = .ok (.iload 5, 2) := by decide +kernel
theorem dX3_mostOf_29 : decode cX3_mostOf 29 = .ok (.aload_n 0, 1) := by decide +kernel
theorem dX3_mostOf_30 : decode cX3_mostOf 30 = .ok (.getfield 27, 3) := by decide +kernel
theorem dX3_mostOf_33 : decode cX3_mostOf 33 = .ok (.if_icmp .ge 47, 3) := by decide +kernel
theorem dX3_mostOf_36 : decode cX3_mostOf 36 = .ok (.aload_n 0, 1) := by decide +kernel
theorem dX3_mostOf_37 : decode cX3_mostOf 37 = .ok (.getfield 15, 3) := by decide +kernel
theorem dX3_mostOf_40 : decode cX3_mostOf 40 = .ok (.iload_n 2, 1) := by decide +kernel
theorem dX3_mostOf_41 : decode cX3_mostOf 41 = .ok (.iaload, 1) := by decide +kernel
theorem dX3_mostOf_42 : decode cX3_mostOf 42 = .ok (.iload_n 3, 1) := by decide +kernel
theorem dX3_mostOf_43 : decode cX3_mostOf 43 = .ok (.iand, 1) := by decide +kernel
theorem dX3_mostOf_44 : decode cX3_mostOf 44 = .ok (.iload 5, 2) := by decide +kernel
theorem dX3_mostOf_46 : decode cX3_mostOf 46 = .ok (.invokestatic 55, 3) := by decide +kernel
theorem dX3_mostOf_49 : decode cX3_mostOf 49 = .ok (.ifCond .eq 25, 3) := by decide +kernel
theorem dX3_mostOf_52 : decode cX3_mostOf 52 = .ok (.iload 4, 2) := by decide +kernel
theorem dX3_mostOf_54 : decode cX3_mostOf 54 = .ok (.iconst 1, 1) := by decide +kernel
theorem dX3_mostOf_55 : decode cX3_mostOf 55 = .ok (.aload_n 0, 1) := by decide +kernel
theorem dX3_mostOf_56 : decode cX3_mostOf 56 = .ok (.getfield 9, 3) := by decide +kernel
theorem dX3_mostOf_59 : decode cX3_mostOf 59 = .ok (.iload_n 3, 1) := by decide +kernel
theorem dX3_mostOf_60 : decode cX3_mostOf 60 = .ok (.iconst 1, 1) := by decide +kernel
theorem dX3_mostOf_61 : decode cX3_mostOf 61 = .ok (.iload 5, 2) := by decide +kernel
theorem dX3_mostOf_63 : decode cX3_mostOf 63 = .ok (.ishl, 1) := by decide +kernel
theorem dX3_mostOf_64 : decode cX3_mostOf 64 = .ok (.iconst (-1), 1) := by decide +kernel
theorem dX3_mostOf_65 : decode cX3_mostOf 65 = .ok (.ixor, 1) := by decide +kernel
theorem dX3_mostOf_66 : decode cX3_mostOf 66 = .ok (.iand, 1) := by decide +kernel
theorem dX3_mostOf_67 : decode cX3_mostOf 67 = .ok (.iaload, 1) := by decide +kernel
theorem dX3_mostOf_68 : decode cX3_mostOf 68 = .ok (.iadd, 1) := by decide +kernel
theorem dX3_mostOf_69 : decode cX3_mostOf 69 = .ok (.invokestatic 58, 3) := by decide +kernel
theorem dX3_mostOf_72 : decode cX3_mostOf 72 = .ok (.istore 4, 2) := by decide +kernel
theorem dX3_mostOf_74 : decode cX3_mostOf 74 = .ok (.iinc 5 1, 3) := by decide +kernel
theorem dX3_mostOf_77 : decode cX3_mostOf 77 = .ok (.goto (-50), 3) := by decide +kernel
theorem dX3_mostOf_80 : decode cX3_mostOf 80 = .ok (.iload 4, 2) := by decide +kernel
theorem dX3_mostOf_82 : decode cX3_mostOf 82 = .ok (.ireturn, 1) := by decide +kernel
theorem dX3_leastIn_0 : decode cX3_leastIn 0 = .ok (.iconst 0, 1) := by decide +kernel
theorem dX3_leastIn_1 : decode cX3_leastIn 1 = .ok (.istore_n 2, 1) := by decide +kernel
theorem dX3_leastIn_2 : decode cX3_leastIn 2 = .ok (.iload_n 2, 1) := by decide +kernel
theorem dX3_leastIn_3 : decode cX3_leastIn 3 = .ok (.aload_n 0, 1) := by decide +kernel
theorem dX3_leastIn_4 : decode cX3_leastIn 4 = .ok (.getfield 27, 3) := by decide +kernel
theorem dX3_leastIn_7 : decode cX3_leastIn 7 = .ok (.iconst 1, 1) := by decide +kernel
theorem dX3_leastIn_8 : decode cX3_leastIn 8 = .ok (.isub, 1) := by decide +kernel
theorem dX3_leastIn_9 : decode cX3_leastIn 9 = .ok (.if_icmp .ge 17, 3) := by decide +kernel
theorem dX3_leastIn_12 : decode cX3_leastIn 12 = .ok (.iload_n 1, 1) := by decide +kernel
theorem dX3_leastIn_13 : decode cX3_leastIn 13 = .ok (.iload_n 2, 1) := by decide +kernel
theorem dX3_leastIn_14 : decode cX3_leastIn 14 = .ok (.invokestatic 55, 3) := by decide +kernel
theorem dX3_leastIn_17 : decode cX3_leastIn 17 = .ok (.ifCond .ne 9, 3) := by decide +kernel
theorem dX3_leastIn_20 : decode cX3_leastIn 20 = .ok (.iinc 2 1, 3) := by decide +kernel
theorem dX3_leastIn_23 : decode cX3_leastIn 23 = .ok (.goto (-21), 3) := by decide +kernel
theorem dX3_leastIn_26 : decode cX3_leastIn 26 = .ok (.iload_n 2, 1) := by decide +kernel
theorem dX3_leastIn_27 : decode cX3_leastIn 27 = .ok (.ireturn, 1) := by decide +kernel
theorem dX3_choose_0 : decode cX3_choose 0 = .ok (.aload_n 0, 1) := by decide +kernel
theorem dX3_choose_1 : decode cX3_choose 1 = .ok (.getfield 18, 3) := by decide +kernel
theorem dX3_choose_4 : decode cX3_choose 4 = .ok (.bipush (-9), 2) := by decide +kernel
theorem dX3_choose_6 : decode cX3_choose 6 = .ok (.invokestatic 62, 3) := by decide +kernel
theorem dX3_choose_9 : decode cX3_choose 9 = .ok (.iload_n 1, 1) := by decide +kernel
theorem dX3_choose_10 : decode cX3_choose 10 = .ok (.istore_n 2, 1) := by decide +kernel
theorem dX3_choose_11 : decode cX3_choose 11 = .ok (.iconst 0, 1) := by decide +kernel
theorem dX3_choose_12 : decode cX3_choose 12 = .ok (.istore_n 3, 1) := by decide +kernel
theorem dX3_choose_13 : decode cX3_choose 13 = .ok (.iload_n 3, 1) := by decide +kernel
theorem dX3_choose_14 : decode cX3_choose 14 = .ok (.aload_n 0, 1) := by decide +kernel
theorem dX3_choose_15 : decode cX3_choose 15 = .ok (.getfield 27, 3) := by decide +kernel
theorem dX3_choose_18 : decode cX3_choose 18 = .ok (.if_icmp .ge 72, 3) := by decide +kernel
theorem dX3_choose_21 : decode cX3_choose 21 = .ok (.iload_n 2, 1) := by decide +kernel
theorem dX3_choose_22 : decode cX3_choose 22 = .ok (.iload_n 3, 1) := by decide +kernel
theorem dX3_choose_23 : decode cX3_choose 23 = .ok (.invokestatic 55, 3) := by decide +kernel
theorem dX3_choose_26 : decode cX3_choose 26 = .ok (.ifCond .eq 58, 3) := by decide +kernel
theorem dX3_choose_29 : decode cX3_choose 29 = .ok (.aload_n 0, 1) := by decide +kernel
theorem dX3_choose_30 : decode cX3_choose 30 = .ok (.iload_n 3, 1) := by decide +kernel
theorem dX3_choose_31 : decode cX3_choose 31 = .ok (.iload_n 2, 1) := by decide +kernel
theorem dX3_choose_32 : decode cX3_choose 32 = .ok (.invokevirtual 68, 3) := by decide +kernel
theorem dX3_choose_35 : decode cX3_choose 35 = .ok (.istore 4, 2) := by decide +kernel
theorem dX3_choose_37 : decode cX3_choose 37 = .ok (.iload_n 2, 1) := by decide +kernel
theorem dX3_choose_38 : decode cX3_choose 38 = .ok (.iconst 1, 1) := by decide +kernel
theorem dX3_choose_39 : decode cX3_choose 39 = .ok (.iload_n 3, 1) := by decide +kernel
theorem dX3_choose_40 : decode cX3_choose 40 = .ok (.ishl, 1) := by decide +kernel
theorem dX3_choose_41 : decode cX3_choose 41 = .ok (.iconst (-1), 1) := by decide +kernel
theorem dX3_choose_42 : decode cX3_choose 42 = .ok (.ixor, 1) := by decide +kernel
theorem dX3_choose_43 : decode cX3_choose 43 = .ok (.iand, 1) := by decide +kernel
theorem dX3_choose_44 : decode cX3_choose 44 = .ok (.istore_n 2, 1) := by decide +kernel
theorem dX3_choose_45 : decode cX3_choose 45 = .ok (.iload 4, 2) := by decide +kernel
theorem dX3_choose_47 : decode cX3_choose 47 = .ok (.ifCond .lt 37, 3) := by decide +kernel
theorem dX3_choose_50 : decode cX3_choose 50 = .ok (.iload 4, 2) := by decide +kernel
theorem dX3_choose_52 : decode cX3_choose 52 = .ok (.aload_n 0, 1) := by decide +kernel
theorem dX3_choose_53 : decode cX3_choose 53 = .ok (.getfield 27, 3) := by decide +kernel
theorem dX3_choose_56 : decode cX3_choose 56 = .ok (.if_icmp .ge 28, 3) := by decide +kernel
theorem dX3_choose_59 : decode cX3_choose 59 = .ok (.aload_n 0, 1) := by decide +kernel
theorem dX3_choose_60 : decode cX3_choose 60 = .ok (.getfield 18, 3) := by decide +kernel
theorem dX3_choose_63 : decode cX3_choose 63 = .ok (.iload_n 3, 1) := by decide +kernel
theorem dX3_choose_64 : decode cX3_choose 64 = .ok (.iload 4, 2) := by decide +kernel
theorem dX3_choose_66 : decode cX3_choose 66 = .ok (.iastore, 1) := by decide +kernel
theorem dX3_choose_67 : decode cX3_choose 67 = .ok (.aload_n 0, 1) := by decide +kernel
theorem dX3_choose_68 : decode cX3_choose 68 = .ok (.getfield 18, 3) := by decide +kernel
theorem dX3_choose_71 : decode cX3_choose 71 = .ok (.iload 4, 2) := by decide +kernel
theorem dX3_choose_73 : decode cX3_choose 73 = .ok (.iload_n 3, 1) := by decide +kernel
theorem dX3_choose_74 : decode cX3_choose 74 = .ok (.iastore, 1) := by decide +kernel
theorem dX3_choose_75 : decode cX3_choose 75 = .ok (.iload_n 2, 1) := by decide +kernel
theorem dX3_choose_76 : decode cX3_choose 76 = .ok (.iconst 1, 1) := by decide +kernel
theorem dX3_choose_77 : decode cX3_choose 77 = .ok (.iload 4, 2) := by decide +kernel
theorem dX3_choose_79 : decode cX3_choose 79 = .ok (.ishl, 1) := by decide +kernel
theorem dX3_choose_80 : decode cX3_choose 80 = .ok (.iconst (-1), 1) := by decide +kernel
theorem dX3_choose_81 : decode cX3_choose 81 = .ok (.ixor, 1) := by decide +kernel
theorem dX3_choose_82 : decode cX3_choose 82 = .ok (.iand, 1) := by decide +kernel
theorem dX3_choose_83 : decode cX3_choose 83 = .ok (.istore_n 2, 1) := by decide +kernel
theorem dX3_choose_84 : decode cX3_choose 84 = .ok (.iinc 3 1, 3) := by decide +kernel
theorem dX3_choose_87 : decode cX3_choose 87 = .ok (.goto (-74), 3) := by decide +kernel
theorem dX3_choose_90 : decode cX3_choose 90 = .ok (.return_, 1) := by decide +kernel
theorem dX3_leastPartner_0 : decode cX3_leastPartner 0 = .ok (.iload_n 2, 1) := by decide +kernel
theorem dX3_leastPartner_1 : decode cX3_leastPartner 1 = .ok (.iconst 1, 1) := by decide +kernel
theorem dX3_leastPartner_2 : decode cX3_leastPartner 2 = .ok (.iload_n 1, 1) := by decide +kernel
theorem dX3_leastPartner_3 : decode cX3_leastPartner 3 = .ok (.ishl, 1) := by decide +kernel
theorem dX3_leastPartner_4 : decode cX3_leastPartner 4 = .ok (.iconst (-1), 1) := by decide +kernel
theorem dX3_leastPartner_5 : decode cX3_leastPartner 5 = .ok (.ixor, 1) := by decide +kernel
theorem dX3_leastPartner_6 : decode cX3_leastPartner 6 = .ok (.iand, 1) := by decide +kernel
theorem dX3_leastPartner_7 : decode cX3_leastPartner 7 = .ok (.istore_n 3, 1) := by decide +kernel
theorem dX3_leastPartner_8 : decode cX3_leastPartner 8 = .ok (.iload_n 1, 1) := by decide +kernel
theorem dX3_leastPartner_9 : decode cX3_leastPartner 9 = .ok (.iconst 1, 1) := by decide +kernel
theorem dX3_leastPartner_10 : decode cX3_leastPartner 10 = .ok (.iadd, 1) := by decide +kernel
theorem dX3_leastPartner_11 : decode cX3_leastPartner 11 = .ok (.istore 4, 2) := by decide +kernel
theorem dX3_leastPartner_13 : decode cX3_leastPartner 13 = .ok (.iload 4, 2) := by decide +kernel
theorem dX3_leastPartner_15 : decode cX3_leastPartner 15 = .ok (.aload_n 0, 1) := by decide +kernel
theorem dX3_leastPartner_16 : decode cX3_leastPartner 16 = .ok (.getfield 27, 3) := by decide +kernel
theorem dX3_leastPartner_19 : decode cX3_leastPartner 19 = .ok (.if_icmp .ge 52, 3) := by decide +kernel
theorem dX3_leastPartner_22 : decode cX3_leastPartner 22 = .ok (.aload_n 0, 1) := by decide +kernel
theorem dX3_leastPartner_23 : decode cX3_leastPartner 23 = .ok (.getfield 15, 3) := by decide +kernel
theorem dX3_leastPartner_26 : decode cX3_leastPartner 26 = .ok (.iload_n 1, 1) := by decide +kernel
theorem dX3_leastPartner_27 : decode cX3_leastPartner 27 = .ok (.iaload, 1) := by decide +kernel
theorem dX3_leastPartner_28 : decode cX3_leastPartner 28 = .ok (.iload_n 3, 1) := by decide +kernel
theorem dX3_leastPartner_29 : decode cX3_leastPartner 29 = .ok (.iand, 1) := by decide +kernel
theorem dX3_leastPartner_30 : decode cX3_leastPartner 30 = .ok (.iload 4, 2) := by decide +kernel
theorem dX3_leastPartner_32 : decode cX3_leastPartner 32 = .ok (.invokestatic 55, 3) := by decide +kernel
theorem dX3_leastPartner_35 : decode cX3_leastPartner 35 = .ok (.ifCond .eq 30, 3) := by decide +kernel
theorem dX3_leastPartner_38 : decode cX3_leastPartner 38 = .ok (.iconst 1, 1) := by decide +kernel
theorem dX3_leastPartner_39 : decode cX3_leastPartner 39 = .ok (.aload_n 0, 1) := by decide +kernel
theorem dX3_leastPartner_40 : decode cX3_leastPartner 40 = .ok (.getfield 9, 3) := by decide +kernel
theorem dX3_leastPartner_43 : decode cX3_leastPartner 43 = .ok (.iload_n 3, 1) := by decide +kernel
theorem dX3_leastPartner_44 : decode cX3_leastPartner 44 = .ok (.iconst 1, 1) := by decide +kernel
theorem dX3_leastPartner_45 : decode cX3_leastPartner 45 = .ok (.iload 4, 2) := by decide +kernel
theorem dX3_leastPartner_47 : decode cX3_leastPartner 47 = .ok (.ishl, 1) := by decide +kernel
theorem dX3_leastPartner_48 : decode cX3_leastPartner 48 = .ok (.iconst (-1), 1) := by decide +kernel
theorem dX3_leastPartner_49 : decode cX3_leastPartner 49 = .ok (.ixor, 1) := by decide +kernel
theorem dX3_leastPartner_50 : decode cX3_leastPartner 50 = .ok (.iand, 1) := by decide +kernel
theorem dX3_leastPartner_51 : decode cX3_leastPartner 51 = .ok (.iaload, 1) := by decide +kernel
theorem dX3_leastPartner_52 : decode cX3_leastPartner 52 = .ok (.iadd, 1) := by decide +kernel
theorem dX3_leastPartner_53 : decode cX3_leastPartner 53 = .ok (.aload_n 0, 1) := by decide +kernel
theorem dX3_leastPartner_54 : decode cX3_leastPartner 54 = .ok (.getfield 9, 3) := by decide +kernel
theorem dX3_leastPartner_57 : decode cX3_leastPartner 57 = .ok (.iload_n 2, 1) := by decide +kernel
theorem dX3_leastPartner_58 : decode cX3_leastPartner 58 = .ok (.iaload, 1) := by decide +kernel
theorem dX3_leastPartner_59 : decode cX3_leastPartner 59 = .ok (.if_icmp .ne 6, 3) := by decide +kernel
theorem dX3_leastPartner_62 : decode cX3_leastPartner 62 = .ok (.iload 4, 2) := by decide +kernel
theorem dX3_leastPartner_64 : decode cX3_leastPartner 64 = .ok (.ireturn, 1) := by decide +kernel
theorem dX3_leastPartner_65 : decode cX3_leastPartner 65 = .ok (.iinc 4 1, 3) := by decide +kernel
theorem dX3_leastPartner_68 : decode cX3_leastPartner 68 = .ok (.goto (-55), 3) := by decide +kernel
theorem dX3_leastPartner_71 : decode cX3_leastPartner 71 = .ok (.bipush (-9), 2) := by decide +kernel
theorem dX3_leastPartner_73 : decode cX3_leastPartner 73 = .ok (.ireturn, 1) := by decide +kernel
theorem dX3_partnerOf_0 : decode cX3_partnerOf 0 = .ok (.iload_n 1, 1) := by decide +kernel
theorem dX3_partnerOf_1 : decode cX3_partnerOf 1 = .ok (.ifCond .lt 20, 3) := by decide +kernel
theorem dX3_partnerOf_4 : decode cX3_partnerOf 4 = .ok (.iload_n 1, 1) := by decide +kernel
theorem dX3_partnerOf_5 : decode cX3_partnerOf 5 = .ok (.aload_n 0, 1) := by decide +kernel
theorem dX3_partnerOf_6 : decode cX3_partnerOf 6 = .ok (.getfield 27, 3) := by decide +kernel
theorem dX3_partnerOf_9 : decode cX3_partnerOf 9 = .ok (.if_icmp .ge 12, 3) := by decide +kernel
theorem dX3_partnerOf_12 : decode cX3_partnerOf 12 = .ok (.aload_n 0, 1) := by decide +kernel
theorem dX3_partnerOf_13 : decode cX3_partnerOf 13 = .ok (.getfield 18, 3) := by decide +kernel
theorem dX3_partnerOf_16 : decode cX3_partnerOf 16 = .ok (.iload_n 1, 1) := by decide +kernel
theorem dX3_partnerOf_17 : decode cX3_partnerOf 17 = .ok (.iaload, 1) := by decide +kernel
theorem dX3_partnerOf_18 : decode cX3_partnerOf 18 = .ok (.goto 5, 3) := by decide +kernel
theorem dX3_partnerOf_21 : decode cX3_partnerOf 21 = .ok (.bipush (-9), 2) := by decide +kernel
theorem dX3_partnerOf_23 : decode cX3_partnerOf 23 = .ok (.ireturn, 1) := by decide +kernel
theorem dX4_init_0 : decode cX4_init 0 = .ok (.aload_n 0, 1) := by decide +kernel
theorem dX4_init_1 : decode cX4_init 1 = .ok (.invokespecial 3, 3) := by decide +kernel
theorem dX4_init_4 : decode cX4_init 4 = .ok (.aload_n 0, 1) := by decide +kernel
theorem dX4_init_5 : decode cX4_init 5 = .ok (.bipush 8, 2) := by decide +kernel
theorem dX4_init_7 : decode cX4_init 7 = .ok (.newarray .int, 2) := by decide +kernel
theorem dX4_init_9 : decode cX4_init 9 = .ok (.putfield 9, 3) := by decide +kernel
theorem dX4_init_12 : decode cX4_init 12 = .ok (.aload_n 0, 1) := by decide +kernel
theorem dX4_init_13 : decode cX4_init 13 = .ok (.bipush 8, 2) := by decide +kernel
theorem dX4_init_15 : decode cX4_init 15 = .ok (.newarray .int, 2) := by decide +kernel
theorem dX4_init_17 : decode cX4_init 17 = .ok (.putfield 15, 3) := by decide +kernel
theorem dX4_init_20 : decode cX4_init 20 = .ok (.return_, 1) := by decide +kernel
theorem dX4_seatAll_0 : decode cX4_seatAll 0 = .ok (.aload_n 0, 1) := by decide +kernel
theorem dX4_seatAll_1 : decode cX4_seatAll 1 = .ok (.aload_n 1, 1) := by decide +kernel
theorem dX4_seatAll_2 : decode cX4_seatAll 2 = .ok (.getfield 18, 3) := by decide +kernel
theorem dX4_seatAll_5 : decode cX4_seatAll 5 = .ok (.putfield 24, 3) := by decide +kernel
theorem dX4_seatAll_8 : decode cX4_seatAll 8 = .ok (.aload_n 1, 1) := by decide +kernel
theorem dX4_seatAll_9 : decode cX4_seatAll 9 = .ok (.getfield 25, 3) := by decide +kernel
theorem dX4_seatAll_12 : decode cX4_seatAll 12 = .ok (.iconst 0, 1) := by decide +kernel
theorem dX4_seatAll_13 : decode cX4_seatAll 13 = .ok (.aload_n 0, 1) := by decide +kernel
theorem dX4_seatAll_14 : decode cX4_seatAll 14 = .ok (.getfield 15, 3) := by decide +kernel
theorem dX4_seatAll_17 : decode cX4_seatAll 17 = .ok (.iconst 0, 1) := by decide +kernel
theorem dX4_seatAll_18 : decode cX4_seatAll 18 = .ok (.bipush 8, 2) := by decide +kernel
theorem dX4_seatAll_20 : decode cX4_seatAll 20 = .ok (.invokestatic 26, 3) := by decide +kernel
theorem dX4_seatAll_23 : decode cX4_seatAll 23 = .ok (.aload_n 0, 1) := by decide +kernel
theorem dX4_seatAll_24 : decode cX4_seatAll 24 = .ok (.getfield 9, 3) := by decide +kernel
theorem dX4_seatAll_27 : decode cX4_seatAll 27 = .ok (.iconst 0, 1) := by decide +kernel
theorem dX4_seatAll_28 : decode cX4_seatAll 28 = .ok (.invokestatic 32, 3) := by decide +kernel
theorem dX4_seatAll_31 : decode cX4_seatAll 31 = .ok (.iconst 0, 1) := by decide +kernel
theorem dX4_seatAll_32 : decode cX4_seatAll 32 = .ok (.istore_n 2, 1) := by decide +kernel
theorem dX4_seatAll_33 : decode cX4_seatAll 33 = .ok (.iload_n 2, 1) := by decide +kernel
theorem dX4_seatAll_34 : decode cX4_seatAll 34 = .ok (.aload_n 0, 1) := by decide +kernel
theorem dX4_seatAll_35 : decode cX4_seatAll 35 = .ok (.getfield 24, 3) := by decide +kernel
theorem dX4_seatAll_38 : decode cX4_seatAll 38 = .ok (.if_icmp .ge 21, 3) := by decide +kernel
theorem dX4_seatAll_41 : decode cX4_seatAll 41 = .ok (.aload_n 0, 1) := by decide +kernel
theorem dX4_seatAll_42 : decode cX4_seatAll 42 = .ok (.iconst 0, 1) := by decide +kernel
theorem dX4_seatAll_43 : decode cX4_seatAll 43 = .ok (.iconst 0, 1) := by decide +kernel
theorem dX4_seatAll_44 : decode cX4_seatAll 44 = .ok (.iload_n 2, 1) := by decide +kernel
theorem dX4_seatAll_45 : decode cX4_seatAll 45 = .ok (.invokevirtual 38, 3) := by decide +kernel
theorem dX4_seatAll_48 : decode cX4_seatAll 48 = .ok (.ifCond .eq 5, 3) := by decide +kernel
theorem dX4_seatAll_51 : decode cX4_seatAll 51 = .ok (.iload_n 2, 1) := by decide +kernel
theorem dX4_seatAll_52 : decode cX4_seatAll 52 = .ok (.ireturn, 1) := by decide +kernel
theorem dX4_seatAll_53 : decode cX4_seatAll 53 = .ok (.iinc 2 1, 3) := by decide +kernel
theorem dX4_seatAll_56 : decode cX4_seatAll 56 = .ok (.goto (-23), 3) := by decide +kernel
theorem dX4_seatAll_59 : decode cX4_seatAll 59 = .ok (.aload_n 0, 1) := by decide +kernel
theorem dX4_seatAll_60 : decode cX4_seatAll 60 = .ok (.iconst 0, 1) := by decide +kernel
theorem dX4_seatAll_61 : decode cX4_seatAll 61 = .ok (.iconst 0, 1) := by decide +kernel
theorem dX4_seatAll_62 : decode cX4_seatAll 62 = .ok (.aload_n 0, 1) := by decide +kernel
theorem dX4_seatAll_63 : decode cX4_seatAll 63 = .ok (.getfield 24, 3) := by decide +kernel
theorem dX4_seatAll_66 : decode cX4_seatAll 66 = .ok (.invokevirtual 38, 3) := by decide +kernel
theorem dX4_seatAll_69 : decode cX4_seatAll 69 = .ok (.pop, 1) := by decide +kernel
theorem dX4_seatAll_70 : decode cX4_seatAll 70 = .ok (.aload_n 0, 1) := by decide +kernel
theorem dX4_seatAll_71 : decode cX4_seatAll 71 = .ok (.getfield 24, 3) := by decide +kernel
theorem dX4_seatAll_74 : decode cX4_seatAll 74 = .ok (.ireturn, 1) := by decide +kernel
theorem dX4_seatFrom_0 : decode cX4_seatFrom 0 = .ok (.iload_n 1, 1) := by decide +kernel
theorem dX4_seatFrom_1 : decode cX4_seatFrom 1 = .ok (.aload_n 0, 1) := by decide +kernel
theorem dX4_seatFrom_2 : decode cX4_seatFrom 2 = .ok (.getfield 24, 3) := by decide +kernel
theorem dX4_seatFrom_5 : decode cX4_seatFrom 5 = .ok (.if_icmp .ge 9, 3) := by decide +kernel
theorem dX4_seatFrom_8 : decode cX4_seatFrom 8 = .ok (.iload_n 1, 1) := by decide +kernel
theorem dX4_seatFrom_9 : decode cX4_seatFrom 9 = .ok (.bipush 8, 2) := by decide +kernel
theorem dX4_seatFrom_11 : decode cX4_seatFrom 11 = .ok (.if_icmp .lt 5, 3) := by decide +kernel
theorem dX4_seatFrom_14 : decode cX4_seatFrom 14 = .ok (.iconst 1, 1) := by decide +kernel
theorem dX4_seatFrom_15 : decode cX4_seatFrom 15 = .ok (.ireturn, 1) := by decide +kernel
theorem dX4_seatFrom_16 : decode cX4_seatFrom 16 = .ok (.iconst 0, 1) := by decide +kernel
theorem dX4_seatFrom_17 : decode cX4_seatFrom 17 = .ok (.istore 4, 2) := by decide +kernel
theorem dX4_seatFrom_19 : decode cX4_seatFrom 19 = .ok (.iload 4, 2) := by decide +kernel
theorem dX4_seatFrom_21 : decode cX4_seatFrom 21 = .ok (.iload_n 2, 1) := by decide +kernel
theorem dX4_seatFrom_22 : decode cX4_seatFrom 22 = .ok (.if_icmp .gt 88, 3) := by decide +kernel
theorem dX4_seatFrom_25 : decode cX4_seatFrom 25 = .ok (.iload 4, 2) := by decide +kernel
theorem dX4_seatFrom_27 : decode cX4_seatFrom 27 = .ok (.iload_n 3, 1) := by decide +kernel
theorem dX4_seatFrom_28 : decode cX4_seatFrom 28 = .ok (.if_icmp .ge 82, 3) := by decide +kernel
theorem dX4_seatFrom_31 : decode cX4_seatFrom 31 = .ok (.iload 4, 2) := by decide +kernel
theorem dX4_seatFrom_33 : decode cX4_seatFrom 33 = .ok (.bipush 8, 2) := by decide +kernel
theorem dX4_seatFrom_35 : decode cX4_seatFrom 35 = .ok (.if_icmp .ge 75, 3) := by decide +kernel
theorem dX4_seatFrom_38 : decode cX4_seatFrom 38 = .ok (.aload_n 0, 1) := by decide +kernel
theorem dX4_seatFrom_39 : decode cX4_seatFrom 39 = .ok (.getfield 9, 3) := by decide +kernel
theorem dX4_seatFrom_42 : decode cX4_seatFrom 42 = .ok (.iload 4, 2) := by decide +kernel
theorem dX4_seatFrom_44 : decode cX4_seatFrom 44 = .ok (.iaload, 1) := by decide +kernel
theorem dX4_seatFrom_45 : decode cX4_seatFrom 45 = .ok (.aload_n 0, 1) := by decide +kernel
theorem dX4_seatFrom_46 : decode cX4_seatFrom 46 = .ok (.getfield 15, 3) := by decide +kernel
theorem dX4_seatFrom_49 : decode cX4_seatFrom 49 = .ok (.iload_n 1, 1) := by decide +kernel
theorem dX4_seatFrom_50 : decode cX4_seatFrom 50 = .ok (.iaload, 1) := by decide +kernel
theorem dX4_seatFrom_51 : decode cX4_seatFrom 51 = .ok (.iand, 1) := by decide +kernel
theorem dX4_seatFrom_52 : decode cX4_seatFrom 52 = .ok (.ifCond .ne 52, 3) := by decide +kernel
theorem dX4_seatFrom_55 : decode cX4_seatFrom 55 = .ok (.aload_n 0, 1) := by decide +kernel
theorem dX4_seatFrom_56 : decode cX4_seatFrom 56 = .ok (.getfield 9, 3) := by decide +kernel
theorem dX4_seatFrom_59 : decode cX4_seatFrom 59 = .ok (.iload 4, 2) := by decide +kernel
theorem dX4_seatFrom_61 : decode cX4_seatFrom 61 = .ok (.dup2, 1) := by decide +kernel
theorem dX4_seatFrom_62 : decode cX4_seatFrom 62 = .ok (.iaload, 1) := by decide +kernel
theorem dX4_seatFrom_63 : decode cX4_seatFrom 63 = .ok (.iconst 1, 1) := by decide +kernel
theorem dX4_seatFrom_64 : decode cX4_seatFrom 64 = .ok (.iload_n 1, 1) := by decide +kernel
theorem dX4_seatFrom_65 : decode cX4_seatFrom 65 = .ok (.ishl, 1) := by decide +kernel
theorem dX4_seatFrom_66 : decode cX4_seatFrom 66 = .ok (.ior, 1) := by decide +kernel
theorem dX4_seatFrom_67 : decode cX4_seatFrom 67 = .ok (.iastore, 1) := by decide +kernel
theorem dX4_seatFrom_68 : decode cX4_seatFrom 68 = .ok (.aload_n 0, 1) := by decide +kernel
theorem dX4_seatFrom_69 : decode cX4_seatFrom 69 = .ok (.iload_n 1, 1) := by decide +kernel
theorem dX4_seatFrom_70 : decode cX4_seatFrom 70 = .ok (.iconst 1, 1) := by decide +kernel
theorem dX4_seatFrom_71 : decode cX4_seatFrom 71 = .ok (.iadd, 1) := by decide +kernel
theorem dX4_seatFrom_72 : decode cX4_seatFrom 72 = .ok (.iload_n 2, 1) := by decide +kernel
theorem dX4_seatFrom_73 : decode cX4_seatFrom 73 = .ok (.iload 4, 2) := by decide +kernel
theorem dX4_seatFrom_75 : decode cX4_seatFrom 75 = .ok (.iconst 1, 1) := by decide +kernel
theorem dX4_seatFrom_76 : decode cX4_seatFrom 76 = .ok (.iadd, 1) := by decide +kernel
theorem dX4_seatFrom_77 : decode cX4_seatFrom 77 = .ok (.invokestatic 42, 3) := by decide +kernel
theorem dX4_seatFrom_80 : decode cX4_seatFrom 80 = .ok (.iload_n 3, 1) := by decide +kernel
theorem dX4_seatFrom_81 : decode cX4_seatFrom 81 = .ok (.invokevirtual 38, 3) := by decide +kernel
theorem dX4_seatFrom_84 : decode cX4_seatFrom 84 = .ok (.ifCond .eq 5, 3) := by decide +kernel
theorem dX4_seatFrom_87 : decode cX4_seatFrom 87 = .ok (.iconst 1, 1) := by decide +kernel
theorem dX4_seatFrom_88 : decode cX4_seatFrom 88 = .ok (.ireturn, 1) := by decide +kernel
theorem dX4_seatFrom_89 : decode cX4_seatFrom 89 = .ok (.aload_n 0, 1) := by decide +kernel
theorem dX4_seatFrom_90 : decode cX4_seatFrom 90 = .ok (.getfield 9, 3) := by decide +kernel
theorem dX4_seatFrom_93 : decode cX4_seatFrom 93 = .ok (.iload 4, 2) := by decide +kernel
theorem dX4_seatFrom_95 : decode cX4_seatFrom 95 = .ok (.dup2, 1) := by decide +kernel
theorem dX4_seatFrom_96 : decode cX4_seatFrom 96 = .ok (.iaload, 1) := by decide +kernel
theorem dX4_seatFrom_97 : decode cX4_seatFrom 97 = .ok (.iconst 1, 1) := by decide +kernel
theorem dX4_seatFrom_98 : decode cX4_seatFrom 98 = .ok (.iload_n 1, 1) := by decide +kernel
theorem dX4_seatFrom_99 : decode cX4_seatFrom 99 = .ok (.ishl, 1) := by decide +kernel
theorem dX4_seatFrom_100 : decode cX4_seatFrom 100 = .ok (.iconst (-1), 1) := by decide +kernel
theorem dX4_seatFrom_101 : decode cX4_seatFrom 101 = .ok (.ixor, 1) := by decide +kernel
theorem dX4_seatFrom_102 : decode cX4_seatFrom 102 = .ok (.iand, 1) := by decide +kernel
theorem dX4_seatFrom_103 : decode cX4_seatFrom 103 = .ok (.iastore, 1) := by decide +kernel
theorem dX4_seatFrom_104 : decode cX4_seatFrom 104 = .ok (.iinc 4 1, 3) := by decide +kernel
theorem dX4_seatFrom_107 : decode cX4_seatFrom 107 = .ok (.goto (-88), 3) := by decide +kernel
theorem dX4_seatFrom_110 : decode cX4_seatFrom 110 = .ok (.iconst 0, 1) := by decide +kernel
theorem dX4_seatFrom_111 : decode cX4_seatFrom 111 = .ok (.ireturn, 1) := by decide +kernel
theorem dX4_roomOf_0 : decode cX4_roomOf 0 = .ok (.iconst 0, 1) := by decide +kernel
theorem dX4_roomOf_1 : decode cX4_roomOf 1 = .ok (.istore_n 2, 1) := by decide +kernel
theorem dX4_roomOf_2 : decode cX4_roomOf 2 = .ok (.iload_n 2, 1) := by decide +kernel
theorem dX4_roomOf_3 : decode cX4_roomOf 3 = .ok (.bipush 8, 2) := by decide +kernel
theorem dX4_roomOf_5 : decode cX4_roomOf 5 = .ok (.if_icmp .ge 24, 3) := by decide +kernel
theorem dX4_roomOf_8 : decode cX4_roomOf 8 = .ok (.aload_n 0, 1) := by decide +kernel
theorem dX4_roomOf_9 : decode cX4_roomOf 9 = .ok (.getfield 9, 3) := by decide +kernel
theorem dX4_roomOf_12 : decode cX4_roomOf 12 = .ok (.iload_n 2, 1) := by decide +kernel
theorem dX4_roomOf_13 : decode cX4_roomOf 13 = .ok (.iaload, 1) := by decide +kernel
theorem dX4_roomOf_14 : decode cX4_roomOf 14 = .ok (.iload_n 1, 1) := by decide +kernel
theorem dX4_roomOf_15 : decode cX4_roomOf 15 = .ok (.invokestatic 48, 3) := by decide +kernel
theorem dX4_roomOf_18 : decode cX4_roomOf 18 = .ok (.ifCond .eq 5, 3) := by decide +kernel
theorem dX4_roomOf_21 : decode cX4_roomOf 21 = .ok (.iload_n 2, 1) := by decide +kernel
theorem dX4_roomOf_22 : decode cX4_roomOf 22 = .ok (.ireturn, 1) := by decide +kernel
theorem dX4_roomOf_23 : decode cX4_roomOf 23 = .ok (.iinc 2 1, 3) := by decide +kernel
theorem dX4_roomOf_26 : decode cX4_roomOf 26 = .ok (.goto (-24), 3) := by decide +kernel
theorem dX4_roomOf_29 : decode cX4_roomOf 29 = .ok (.bipush (-9), 2) := by decide +kernel
theorem dX4_roomOf_31 : decode cX4_roomOf 31 = .ok (.ireturn, 1) := by decide +kernel
theorem dX5_init_0 : decode cX5_init 0 = .ok (.aload_n 0, 1) := by decide +kernel
theorem dX5_init_1 : decode cX5_init 1 = .ok (.invokespecial 3, 3) := by decide +kernel
theorem dX5_init_4 : decode cX5_init 4 = .ok (.aload_n 0, 1) := by decide +kernel
theorem dX5_init_5 : decode cX5_init 5 = .ok (.bipush 8, 2) := by decide +kernel
theorem dX5_init_7 : decode cX5_init 7 = .ok (.newarray .int, 2) := by decide +kernel
theorem dX5_init_9 : decode cX5_init 9 = .ok (.putfield 9, 3) := by decide +kernel
theorem dX5_init_12 : decode cX5_init 12 = .ok (.return_, 1) := by decide +kernel
theorem dX5_read_0 : decode cX5_read 0 = .ok (.aload_n 0, 1) := by decide +kernel
theorem dX5_read_1 : decode cX5_read 1 = .ok (.aload_n 1, 1) := by decide +kernel
theorem dX5_read_2 : decode cX5_read 2 = .ok (.getfield 15, 3) := by decide +kernel
theorem dX5_read_5 : decode cX5_read 5 = .ok (.putfield 21, 3) := by decide +kernel
theorem dX5_read_8 : decode cX5_read 8 = .ok (.iconst 0, 1) := by decide +kernel
theorem dX5_read_9 : decode cX5_read 9 = .ok (.istore_n 2, 1) := by decide +kernel
theorem dX5_read_10 : decode cX5_read 10 = .ok (.iload_n 2, 1) := by decide +kernel
theorem dX5_read_11 : decode cX5_read 11 = .ok (.aload_n 0, 1) := by decide +kernel
theorem dX5_read_12 : decode cX5_read 12 = .ok (.getfield 21, 3) := by decide +kernel
theorem dX5_read_15 : decode cX5_read 15 = .ok (.if_icmp .ge 20, 3) := by decide +kernel
theorem dX5_read_18 : decode cX5_read 18 = .ok (.aload_n 0, 1) := by decide +kernel
theorem dX5_read_19 : decode cX5_read 19 = .ok (.getfield 9, 3) := by decide +kernel
theorem dX5_read_22 : decode cX5_read 22 = .ok (.iload_n 2, 1) := by decide +kernel
theorem dX5_read_23 : decode cX5_read 23 = .ok (.aload_n 1, 1) := by decide +kernel
theorem dX5_read_24 : decode cX5_read 24 = .ok (.iload_n 2, 1) := by decide +kernel
theorem dX5_read_25 : decode cX5_read 25 = .ok (.invokevirtual 22, 3) := by decide +kernel
theorem dX5_read_28 : decode cX5_read 28 = .ok (.iastore, 1) := by decide +kernel
theorem dX5_read_29 : decode cX5_read 29 = .ok (.iinc 2 1, 3) := by decide +kernel
theorem dX5_read_32 : decode cX5_read 32 = .ok (.goto (-22), 3) := by decide +kernel
theorem dX5_read_35 : decode cX5_read 35 = .ok (.return_, 1) := by decide +kernel
theorem dX5_spread_0 : decode cX5_spread 0 = .ok (.iload_n 1, 1) := by decide +kernel
theorem dX5_spread_1 : decode cX5_spread 1 = .ok (.istore_n 2, 1) := by decide +kernel
theorem dX5_spread_2 : decode cX5_spread 2 = .ok (.iconst 0, 1) := by decide +kernel
theorem dX5_spread_3 : decode cX5_spread 3 = .ok (.istore_n 3, 1) := by decide +kernel
theorem dX5_spread_4 : decode cX5_spread 4 = .ok (.iload_n 3, 1) := by decide +kernel
theorem dX5_spread_5 : decode cX5_spread 5 = .ok (.aload_n 0, 1) := by decide +kernel
theorem dX5_spread_6 : decode cX5_spread 6 = .ok (.getfield 21, 3) := by decide +kernel
theorem dX5_spread_9 : decode cX5_spread 9 = .ok (.if_icmp .ge 26, 3) := by decide +kernel
theorem dX5_spread_12 : decode cX5_spread 12 = .ok (.iload_n 1, 1) := by decide +kernel
theorem dX5_spread_13 : decode cX5_spread 13 = .ok (.iload_n 3, 1) := by decide +kernel
theorem dX5_spread_14 : decode cX5_spread 14 = .ok (.invokestatic 26, 3) := by decide +kernel
theorem dX5_spread_17 : decode cX5_spread 17 = .ok (.ifCond .eq 12, 3) := by decide +kernel
theorem dX5_spread_20 : decode cX5_spread 20 = .ok (.iload_n 2, 1) := by decide +kernel
theorem dX5_spread_21 : decode cX5_spread 21 = .ok (.aload_n 0, 1) := by decide +kernel
theorem dX5_spread_22 : decode cX5_spread 22 = .ok (.getfield 9, 3) := by decide +kernel
theorem dX5_spread_25 : decode cX5_spread 25 = .ok (.iload_n 3, 1) := by decide +kernel
theorem dX5_spread_26 : decode cX5_spread 26 = .ok (.iaload, 1) := by decide +kernel
theorem dX5_spread_27 : decode cX5_spread 27 = .ok (.ior, 1) := by decide +kernel
theorem dX5_spread_28 : decode cX5_spread 28 = .ok (.istore_n 2, 1) := by decide +kernel
theorem dX5_spread_29 : decode cX5_spread 29 = .ok (.iinc 3 1, 3) := by decide +kernel
theorem dX5_spread_32 : decode cX5_spread 32 = .ok (.goto (-28), 3) := by decide +kernel
theorem dX5_spread_35 : decode cX5_spread 35 = .ok (.iload_n 2, 1) := by decide +kernel
theorem dX5_spread_36 : decode cX5_spread 36 = .ok (.ireturn, 1) := by decide +kernel
theorem dX5_steps_0 : decode cX5_steps 0 = .ok (.iconst 1, 1) := by decide +kernel
theorem dX5_steps_1 : decode cX5_steps 1 = .ok (.iload_n 1, 1) := by decide +kernel
theorem dX5_steps_2 : decode cX5_steps 2 = .ok (.ishl, 1) := by decide +kernel
theorem dX5_steps_3 : decode cX5_steps 3 = .ok (.istore_n 3, 1) := by decide +kernel
theorem dX5_steps_4 : decode cX5_steps 4 = .ok (.iconst 1, 1) := by decide +kernel
theorem dX5_steps_5 : decode cX5_steps 5 = .ok (.istore 4, 2) := by decide +kernel
theorem dX5_steps_7 : decode cX5_steps 7 = .ok (.iload 4, 2) := by decide +kernel
theorem dX5_steps_9 : decode cX5_steps 9 = .ok (.aload_n 0, 1) := by decide +kernel
theorem dX5_steps_10 : decode cX5_steps 10 = .ok (.getfield 21, 3) := by decide +kernel
theorem dX5_steps_13 : decode cX5_steps 13 = .ok (.if_icmp .ge 26, 3) := by decide +kernel
theorem dX5_steps_16 : decode cX5_steps 16 = .ok (.aload_n 0, 1) := by decide +kernel
theorem dX5_steps_17 : decode cX5_steps 17 = .ok (.iload_n 3, 1) := by decide +kernel
theorem dX5_steps_18 : decode cX5_steps 18 = .ok (.invokevirtual 30, 3) := by decide +kernel
theorem dX5_steps_21 : decode cX5_steps 21 = .ok (.istore_n 3, 1) := by decide +kernel
theorem dX5_steps_22 : decode cX5_steps 22 = .ok (.iload_n 3, 1) := by decide +kernel
theorem dX5_steps_23 : decode cX5_steps 23 = .ok (.iload_n 2, 1) := by decide +kernel
theorem dX5_steps_24 : decode cX5_steps 24 = .ok (.invokestatic 26, 3) := by decide +kernel
theorem dX5_steps_27 : decode cX5_steps 27 = .ok (.ifCond .eq 6, 3) := by decide +kernel
theorem dX5_steps_30 : decode cX5_steps 30 = .ok (.iload 4, 2) := by decide +kernel
theorem dX5_steps_32 : decode cX5_steps 32 = .ok (.ireturn, 1) := by decide +kernel
theorem dX5_steps_33 : decode cX5_steps 33 = .ok (.iinc 4 1, 3) := by decide +kernel
theorem dX5_steps_36 : decode cX5_steps 36 = .ok (.goto (-29), 3) := by decide +kernel
theorem dX5_steps_39 : decode cX5_steps 39 = .ok (.bipush (-9), 2) := by decide +kernel
theorem dX5_steps_41 : decode cX5_steps 41 = .ok (.ireturn, 1) := by decide +kernel
theorem dX5_reachOf_0 : decode cX5_reachOf 0 = .ok (.iconst 1, 1) := by decide +kernel
theorem dX5_reachOf_1 : decode cX5_reachOf 1 = .ok (.iload_n 1, 1) := by decide +kernel
theorem dX5_reachOf_2 : decode cX5_reachOf 2 = .ok (.ishl, 1) := by decide +kernel
theorem dX5_reachOf_3 : decode cX5_reachOf 3 = .ok (.istore_n 2, 1) := by decide +kernel
theorem dX5_reachOf_4 : decode cX5_reachOf 4 = .ok (.iconst 1, 1) := by decide +kernel
theorem dX5_reachOf_5 : decode cX5_reachOf 5 = .ok (.istore_n 3, 1) := by decide +kernel
theorem dX5_reachOf_6 : decode cX5_reachOf 6 = .ok (.iload_n 3, 1) := by decide +kernel
theorem dX5_reachOf_7 : decode cX5_reachOf 7 = .ok (.aload_n 0, 1) := by decide +kernel
theorem dX5_reachOf_8 : decode cX5_reachOf 8 = .ok (.getfield 21, 3) := by decide +kernel
theorem dX5_reachOf_11 : decode cX5_reachOf 11 = .ok (.if_icmp .ge 15, 3) := by decide +kernel
theorem dX5_reachOf_14 : decode cX5_reachOf 14 = .ok (.aload_n 0, 1) := by decide +kernel
theorem dX5_reachOf_15 : decode cX5_reachOf 15 = .ok (.iload_n 2, 1) := by decide +kernel
theorem dX5_reachOf_16 : decode cX5_reachOf 16 = .ok (.invokevirtual 30, 3) := by decide +kernel
theorem dX5_reachOf_19 : decode cX5_reachOf 19 = .ok (.istore_n 2, 1) := by decide +kernel
theorem dX5_reachOf_20 : decode cX5_reachOf 20 = .ok (.iinc 3 1, 3) := by decide +kernel
theorem dX5_reachOf_23 : decode cX5_reachOf 23 = .ok (.goto (-17), 3) := by decide +kernel
theorem dX5_reachOf_26 : decode cX5_reachOf 26 = .ok (.iload_n 2, 1) := by decide +kernel
theorem dX5_reachOf_27 : decode cX5_reachOf 27 = .ok (.ireturn, 1) := by decide +kernel
theorem dX5_howManyGroups_0 : decode cX5_howManyGroups 0 = .ok (.iconst 0, 1) := by decide +kernel
theorem dX5_howManyGroups_1 : decode cX5_howManyGroups 1 = .ok (.istore_n 1, 1) := by decide +kernel
theorem dX5_howManyGroups_2 : decode cX5_howManyGroups 2 = .ok (.iconst 0, 1) := by decide +kernel
theorem dX5_howManyGroups_3 : decode cX5_howManyGroups 3 = .ok (.istore_n 2, 1) := by decide +kernel
theorem dX5_howManyGroups_4 : decode cX5_howManyGroups 4 = .ok (.iconst 0, 1) := by decide +kernel
theorem dX5_howManyGroups_5 : decode cX5_howManyGroups 5 = .ok (.istore_n 3, 1) := by decide +kernel
theorem dX5_howManyGroups_6 : decode cX5_howManyGroups 6 = .ok (.iload_n 3, 1) := by decide +kernel
theorem dX5_howManyGroups_7 : decode cX5_howManyGroups 7 = .ok (.aload_n 0, 1) := by decide +kernel
theorem dX5_howManyGroups_8 : decode cX5_howManyGroups 8 = .ok (.getfield 21, 3) := by decide +kernel
theorem dX5_howManyGroups_11 : decode cX5_howManyGroups 11 = .ok (.if_icmp .ge 28, 3) := by decide +kernel
theorem dX5_howManyGroups_14 : decode cX5_howManyGroups 14 = .ok (.iload_n 2, 1) := by decide +kernel
theorem dX5_howManyGroups_15 : decode cX5_howManyGroups 15 = .ok (.iload_n 3, 1) := by decide +kernel
theorem dX5_howManyGroups_16 : decode cX5_howManyGroups 16 = .ok (.invokestatic 26, 3) := by decide +kernel
theorem dX5_howManyGroups_19 : decode cX5_howManyGroups 19 = .ok (.ifCond .ne 14, 3) := by decide +kernel
theorem dX5_howManyGroups_22 : decode cX5_howManyGroups 22 = .ok (.iinc 1 1, 3) := by decide +kernel
theorem dX5_howManyGroups_25 : decode cX5_howManyGroups 25 = .ok (.iload_n 2, 1) := by decide +kernel
theorem dX5_howManyGroups_26 : decode cX5_howManyGroups 26 = .ok (.aload_n 0, 1) := by decide +kernel
theorem dX5_howManyGroups_27 : decode cX5_howManyGroups 27 = .ok (.iload_n 3, 1) := by decide +kernel
theorem dX5_howManyGroups_28 : decode cX5_howManyGroups 28 = .ok (.invokevirtual 33, 3) := by decide +kernel
theorem dX5_howManyGroups_31 : decode cX5_howManyGroups 31 = .ok (.ior, 1) := by decide +kernel
theorem dX5_howManyGroups_32 : decode cX5_howManyGroups 32 = .ok (.istore_n 2, 1) := by decide +kernel
theorem dX5_howManyGroups_33 : decode cX5_howManyGroups 33 = .ok (.iinc 3 1, 3) := by decide +kernel
theorem dX5_howManyGroups_36 : decode cX5_howManyGroups 36 = .ok (.goto (-30), 3) := by decide +kernel
theorem dX5_howManyGroups_39 : decode cX5_howManyGroups 39 = .ok (.iload_n 1, 1) := by decide +kernel
theorem dX5_howManyGroups_40 : decode cX5_howManyGroups 40 = .ok (.ireturn, 1) := by decide +kernel
theorem dX5_mostInGroup_0 : decode cX5_mostInGroup 0 = .ok (.iconst 0, 1) := by decide +kernel
theorem dX5_mostInGroup_1 : decode cX5_mostInGroup 1 = .ok (.istore_n 1, 1) := by decide +kernel
theorem dX5_mostInGroup_2 : decode cX5_mostInGroup 2 = .ok (.iconst 0, 1) := by decide +kernel
theorem dX5_mostInGroup_3 : decode cX5_mostInGroup 3 = .ok (.istore_n 2, 1) := by decide +kernel
theorem dX5_mostInGroup_4 : decode cX5_mostInGroup 4 = .ok (.iload_n 2, 1) := by decide +kernel
theorem dX5_mostInGroup_5 : decode cX5_mostInGroup 5 = .ok (.aload_n 0, 1) := by decide +kernel
theorem dX5_mostInGroup_6 : decode cX5_mostInGroup 6 = .ok (.getfield 21, 3) := by decide +kernel
theorem dX5_mostInGroup_9 : decode cX5_mostInGroup 9 = .ok (.if_icmp .ge 22, 3) := by decide +kernel
theorem dX5_mostInGroup_12 : decode cX5_mostInGroup 12 = .ok (.iload_n 1, 1) := by decide +kernel
theorem dX5_mostInGroup_13 : decode cX5_mostInGroup 13 = .ok (.aload_n 0, 1) := by decide +kernel
theorem dX5_mostInGroup_14 : decode cX5_mostInGroup 14 = .ok (.iload_n 2, 1) := by decide +kernel
theorem dX5_mostInGroup_15 : decode cX5_mostInGroup 15 = .ok (.invokevirtual 33, 3) := by decide +kernel
theorem dX5_mostInGroup_18 : decode cX5_mostInGroup 18 = .ok (.invokestatic 36, 3) := by decide +kernel
theorem dX5_mostInGroup_21 : decode cX5_mostInGroup 21 = .ok (.invokestatic 41, 3) := by decide +kernel
theorem dX5_mostInGroup_24 : decode cX5_mostInGroup 24 = .ok (.istore_n 1, 1) := by decide +kernel
theorem dX5_mostInGroup_25 : decode cX5_mostInGroup 25 = .ok (.iinc 2 1, 3) := by decide +kernel
theorem dX5_mostInGroup_28 : decode cX5_mostInGroup 28 = .ok (.goto (-24), 3) := by decide +kernel
theorem dX5_mostInGroup_31 : decode cX5_mostInGroup 31 = .ok (.iload_n 1, 1) := by decide +kernel
theorem dX5_mostInGroup_32 : decode cX5_mostInGroup 32 = .ok (.ireturn, 1) := by decide +kernel
theorem dX5_threes_0 : decode cX5_threes 0 = .ok (.iconst 0, 1) := by decide +kernel
theorem dX5_threes_1 : decode cX5_threes 1 = .ok (.istore_n 1, 1) := by decide +kernel
theorem dX5_threes_2 : decode cX5_threes 2 = .ok (.iconst 0, 1) := by decide +kernel
theorem dX5_threes_3 : decode cX5_threes 3 = .ok (.istore_n 2, 1) := by decide +kernel
theorem dX5_threes_4 : decode cX5_threes 4 = .ok (.iload_n 2, 1) := by decide +kernel
theorem dX5_threes_5 : decode cX5_threes 5 = .ok (.aload_n 0, 1) := by decide +kernel
theorem dX5_threes_6 : decode cX5_threes 6 = .ok (.getfield 21, 3) := by decide +kernel
theorem dX5_threes_9 : decode cX5_threes 9 = .ok (.if_icmp .ge 57, 3) := by decide +kernel
theorem dX5_threes_12 : decode cX5_threes 12 = .ok (.iconst 0, 1) := by decide +kernel
theorem dX5_threes_13 : decode cX5_threes 13 = .ok (.istore_n 3, 1) := by decide +kernel
theorem dX5_threes_14 : decode cX5_threes 14 = .ok (.iload_n 3, 1) := by decide +kernel
theorem dX5_threes_15 : decode cX5_threes 15 = .ok (.aload_n 0, 1) := by decide +kernel
theorem dX5_threes_16 : decode cX5_threes 16 = .ok (.getfield 21, 3) := by decide +kernel
theorem dX5_threes_19 : decode cX5_threes 19 = .ok (.if_icmp .ge 41, 3) := by decide +kernel
theorem dX5_threes_22 : decode cX5_threes 22 = .ok (.aload_n 0, 1) := by decide +kernel
theorem dX5_threes_23 : decode cX5_threes 23 = .ok (.getfield 9, 3) := by decide +kernel
theorem dX5_threes_26 : decode cX5_threes 26 = .ok (.iload_n 2, 1) := by decide +kernel
theorem dX5_threes_27 : decode cX5_threes 27 = .ok (.iaload, 1) := by decide +kernel
theorem dX5_threes_28 : decode cX5_threes 28 = .ok (.iload_n 3, 1) := by decide +kernel
theorem dX5_threes_29 : decode cX5_threes 29 = .ok (.invokestatic 26, 3) := by decide +kernel
theorem dX5_threes_32 : decode cX5_threes 32 = .ok (.ifCond .eq 22, 3) := by decide +kernel
theorem dX5_threes_35 : decode cX5_threes 35 = .ok (.iload_n 1, 1) := by decide +kernel
theorem dX5_threes_36 : decode cX5_threes 36 = .ok (.aload_n 0, 1) := by decide +kernel
theorem dX5_threes_37 : decode cX5_threes 37 = .ok (.getfield 9, 3) := by decide +kernel
theorem dX5_threes_40 : decode cX5_threes 40 = .ok (.iload_n 2, 1) := by decide +kernel
theorem dX5_threes_41 : decode cX5_threes 41 = .ok (.iaload, 1) := by decide +kernel
theorem dX5_threes_42 : decode cX5_threes 42 = .ok (.aload_n 0, 1) := by decide +kernel
theorem dX5_threes_43 : decode cX5_threes 43 = .ok (.getfield 9, 3) := by decide +kernel
theorem dX5_threes_46 : decode cX5_threes 46 = .ok (.iload_n 3, 1) := by decide +kernel
theorem dX5_threes_47 : decode cX5_threes 47 = .ok (.iaload, 1) := by decide +kernel
theorem dX5_threes_48 : decode cX5_threes 48 = .ok (.iand, 1) := by decide +kernel
theorem dX5_threes_49 : decode cX5_threes 49 = .ok (.invokestatic 36, 3) := by decide +kernel
theorem dX5_threes_52 : decode cX5_threes 52 = .ok (.iadd, 1) := by decide +kernel
theorem dX5_threes_53 : decode cX5_threes 53 = .ok (.istore_n 1, 1) := by decide +kernel
theorem dX5_threes_54 : decode cX5_threes 54 = .ok (.iinc 3 1, 3) := by decide +kernel
theorem dX5_threes_57 : decode cX5_threes 57 = .ok (.goto (-43), 3) := by decide +kernel
theorem dX5_threes_60 : decode cX5_threes 60 = .ok (.iinc 2 1, 3) := by decide +kernel
theorem dX5_threes_63 : decode cX5_threes 63 = .ok (.goto (-59), 3) := by decide +kernel
theorem dX5_threes_66 : decode cX5_threes 66 = .ok (.iload_n 1, 1) := by decide +kernel
theorem dX5_threes_67 : decode cX5_threes 67 = .ok (.bipush 6, 2) := by decide +kernel
theorem dX5_threes_69 : decode cX5_threes 69 = .ok (.idiv, 1) := by decide +kernel
theorem dX5_threes_70 : decode cX5_threes 70 = .ok (.ireturn, 1) := by decide +kernel
theorem dX5_greatestClan_0 : decode cX5_greatestClan 0 = .ok (.iconst 0, 1) := by decide +kernel
theorem dX5_greatestClan_1 : decode cX5_greatestClan 1 = .ok (.istore_n 1, 1) := by decide +kernel
theorem dX5_greatestClan_2 : decode cX5_greatestClan 2 = .ok (.iconst 1, 1) := by decide +kernel
theorem dX5_greatestClan_3 : decode cX5_greatestClan 3 = .ok (.aload_n 0, 1) := by decide +kernel
theorem dX5_greatestClan_4 : decode cX5_greatestClan 4 = .ok (.getfield 21, 3) := by decide +kernel
theorem dX5_greatestClan_7 : decode cX5_greatestClan 7 = .ok (.ishl, 1) := by decide +kernel
theorem dX5_greatestClan_8 : decode cX5_greatestClan 8 = .ok (.istore_n 2, 1) := by decide +kernel
theorem dX5_greatestClan_9 : decode cX5_greatestClan 9 = .ok (.iconst 1, 1) := by decide +kernel
theorem dX5_greatestClan_10 : decode cX5_greatestClan 10 = .ok (.istore_n 3, 1) := by decide +kernel
theorem dX5_greatestClan_11 : decode cX5_greatestClan 11 = .ok (.iload_n 3, 1) := by decide +kernel
theorem dX5_greatestClan_12 : decode cX5_greatestClan 12 = .ok (.iload_n 2, 1) := by decide +kernel
theorem dX5_greatestClan_13 : decode cX5_greatestClan 13 = .ok (.if_icmp .ge 30, 3) := by decide +kernel
theorem dX5_greatestClan_16 : decode cX5_greatestClan 16 = .ok (.iload_n 3, 1) := by decide +kernel
theorem dX5_greatestClan_17 : decode cX5_greatestClan 17 = .ok (.invokestatic 36, 3) := by decide +kernel
theorem dX5_greatestClan_20 : decode cX5_greatestClan 20 = .ok (.iload_n 1, 1) := by decide +kernel
theorem dX5_greatestClan_21 : decode cX5_greatestClan 21 = .ok (.invokestatic 36, 3) := by decide +kernel
theorem dX5_greatestClan_24 : decode cX5_greatestClan 24 = .ok (.if_icmp .le 13, 3) := by decide +kernel
theorem dX5_greatestClan_27 : decode cX5_greatestClan 27 = .ok (.aload_n 0, 1) := by decide +kernel
theorem dX5_greatestClan_28 : decode cX5_greatestClan 28 = .ok (.iload_n 3, 1) := by decide +kernel
theorem dX5_greatestClan_29 : decode cX5_greatestClan 29 = .ok (.invokevirtual 47, 3) := by decide +kernel
theorem dX5_greatestClan_32 : decode cX5_greatestClan 32 = .ok (.ifCond .eq 5, 3) := by decide +kernel
theorem dX5_greatestClan_35 : decode cX5_greatestClan 35 = .ok (.iload_n 3, 1) := by decide +kernel
theorem dX5_greatestClan_36 : decode cX5_greatestClan 36 = .ok (.istore_n 1, 1) := by decide +kernel
theorem dX5_greatestClan_37 : decode cX5_greatestClan 37 = .ok (.iinc 3 1, 3) := by decide +kernel
theorem dX5_greatestClan_40 : decode cX5_greatestClan 40 = .ok (.goto (-29), 3) := by decide +kernel
theorem dX5_greatestClan_43 : decode cX5_greatestClan 43 = .ok (.iload_n 1, 1) := by decide +kernel
theorem dX5_greatestClan_44 : decode cX5_greatestClan 44 = .ok (.ireturn, 1) := by decide +kernel
theorem dX5_isClan_0 : decode cX5_isClan 0 = .ok (.iconst 0, 1) := by decide +kernel
theorem dX5_isClan_1 : decode cX5_isClan 1 = .ok (.istore_n 2, 1) := by decide +kernel
theorem dX5_isClan_2 : decode cX5_isClan 2 = .ok (.iload_n 2, 1) := by decide +kernel
theorem dX5_isClan_3 : decode cX5_isClan 3 = .ok (.aload_n 0, 1) := by decide +kernel
theorem dX5_isClan_4 : decode cX5_isClan 4 = .ok (.getfield 21, 3) := by decide +kernel
theorem dX5_isClan_7 : decode cX5_isClan 7 = .ok (.if_icmp .ge 38, 3) := by decide +kernel
theorem dX5_isClan_10 : decode cX5_isClan 10 = .ok (.iload_n 1, 1) := by decide +kernel
theorem dX5_isClan_11 : decode cX5_isClan 11 = .ok (.iload_n 2, 1) := by decide +kernel
theorem dX5_isClan_12 : decode cX5_isClan 12 = .ok (.invokestatic 26, 3) := by decide +kernel
theorem dX5_isClan_15 : decode cX5_isClan 15 = .ok (.ifCond .eq 24, 3) := by decide +kernel
theorem dX5_isClan_18 : decode cX5_isClan 18 = .ok (.iload_n 1, 1) := by decide +kernel
theorem dX5_isClan_19 : decode cX5_isClan 19 = .ok (.iconst 1, 1) := by decide +kernel
theorem dX5_isClan_20 : decode cX5_isClan 20 = .ok (.iload_n 2, 1) := by decide +kernel
theorem dX5_isClan_21 : decode cX5_isClan 21 = .ok (.ishl, 1) := by decide +kernel
theorem dX5_isClan_22 : decode cX5_isClan 22 = .ok (.iconst (-1), 1) := by decide +kernel
theorem dX5_isClan_23 : decode cX5_isClan 23 = .ok (.ixor, 1) := by decide +kernel
theorem dX5_isClan_24 : decode cX5_isClan 24 = .ok (.iand, 1) := by decide +kernel
theorem dX5_isClan_25 : decode cX5_isClan 25 = .ok (.aload_n 0, 1) := by decide +kernel
theorem dX5_isClan_26 : decode cX5_isClan 26 = .ok (.getfield 9, 3) := by decide +kernel
theorem dX5_isClan_29 : decode cX5_isClan 29 = .ok (.iload_n 2, 1) := by decide +kernel
theorem dX5_isClan_30 : decode cX5_isClan 30 = .ok (.iaload, 1) := by decide +kernel
theorem dX5_isClan_31 : decode cX5_isClan 31 = .ok (.iconst (-1), 1) := by decide +kernel
theorem dX5_isClan_32 : decode cX5_isClan 32 = .ok (.ixor, 1) := by decide +kernel
theorem dX5_isClan_33 : decode cX5_isClan 33 = .ok (.iand, 1) := by decide +kernel
theorem dX5_isClan_34 : decode cX5_isClan 34 = .ok (.ifCond .eq 5, 3) := by decide +kernel
theorem dX5_isClan_37 : decode cX5_isClan 37 = .ok (.iconst 0, 1) := by decide +kernel
theorem dX5_isClan_38 : decode cX5_isClan 38 = .ok (.ireturn, 1) := by decide +kernel
theorem dX5_isClan_39 : decode cX5_isClan 39 = .ok (.iinc 2 1, 3) := by decide +kernel
theorem dX5_isClan_42 : decode cX5_isClan 42 = .ok (.goto (-40), 3) := by decide +kernel
theorem dX5_isClan_45 : decode cX5_isClan 45 = .ok (.iconst 1, 1) := by decide +kernel
theorem dX5_isClan_46 : decode cX5_isClan 46 = .ok (.ireturn, 1) := by decide +kernel
