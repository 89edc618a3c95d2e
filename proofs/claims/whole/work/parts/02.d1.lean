theorem dX3_firstUnsafe_46 : decode cX3_firstUnsafe 46 = .ok (.getfield 9, 3) := by decide +kernel
theorem dX3_firstUnsafe_49 : decode cX3_firstUnsafe 49 = .ok (.invokevirtual 60, 3) := by decide +kernel
theorem dX3_firstUnsafe_52 : decode cX3_firstUnsafe 52 = .ok (.iload_n 2, 1) := by decide +kernel
theorem dX3_firstUnsafe_53 : decode cX3_firstUnsafe 53 = .ok (.ifCond .ne 5, 3) := by decide +kernel
theorem dX3_firstUnsafe_56 : decode cX3_firstUnsafe 56 = .ok (.iload_n 1, 1) := by decide +kernel
theorem dX3_firstUnsafe_57 : decode cX3_firstUnsafe 57 = .ok (.ireturn, 1) := by decide +kernel
theorem dX3_firstUnsafe_58 : decode cX3_firstUnsafe 58 = .ok (.iinc 1 1, 3) := by decide +kernel
theorem dX3_firstUnsafe_61 : decode cX3_firstUnsafe 61 = .ok (.goto (-59), 3) := by decide +kernel
theorem dX3_firstUnsafe_64 : decode cX3_firstUnsafe 64 = .ok (.iconst (-1), 1) := by decide +kernel
theorem dX3_firstUnsafe_65 : decode cX3_firstUnsafe 65 = .ok (.ireturn, 1) := by decide +kernel
theorem dX3_letFall_0 : decode cX3_letFall 0 = .ok (.aload_n 0, 1) := by decide +kernel
theorem dX3_letFall_1 : decode cX3_letFall 1 = .ok (.getfield 21, 3) := by decide +kernel
theorem dX3_letFall_4 : decode cX3_letFall 4 = .ok (.getfield 48, 3) := by decide +kernel
theorem dX3_letFall_7 : decode cX3_letFall 7 = .ok (.iload_n 1, 1) := by decide +kernel
theorem dX3_letFall_8 : decode cX3_letFall 8 = .ok (.iconst 0, 1) := by decide +kernel
theorem dX3_letFall_9 : decode cX3_letFall 9 = .ok (.bastore, 1) := by decide +kernel
theorem dX3_letFall_10 : decode cX3_letFall 10 = .ok (.aload_n 0, 1) := by decide +kernel
theorem dX3_letFall_11 : decode cX3_letFall 11 = .ok (.getfield 27, 3) := by decide +kernel
theorem dX3_letFall_14 : decode cX3_letFall 14 = .ok (.iload_n 1, 1) := by decide +kernel
theorem dX3_letFall_15 : decode cX3_letFall 15 = .ok (.invokevirtual 63, 3) := by decide +kernel
theorem dX3_letFall_18 : decode cX3_letFall 18 = .ok (.iconst 0, 1) := by decide +kernel
theorem dX3_letFall_19 : decode cX3_letFall 19 = .ok (.istore_n 2, 1) := by decide +kernel
theorem dX3_letFall_20 : decode cX3_letFall 20 = .ok (.iload_n 2, 1) := by decide +kernel
theorem dX3_letFall_21 : decode cX3_letFall 21 = .ok (.aload_n 0, 1) := by decide +kernel
theorem dX3_letFall_22 : decode cX3_letFall 22 = .ok (.getfield 26, 3) := by decide +kernel
theorem dX3_letFall_25 : decode cX3_letFall 25 = .ok (.getfield 37, 3) := by decide +kernel
theorem dX3_letFall_28 : decode cX3_letFall 28 = .ok (.if_icmp .ge 51, 3) := by decide +kernel
theorem dX3_letFall_31 : decode cX3_letFall 31 = .ok (.aload_n 0, 1) := by decide +kernel
theorem dX3_letFall_32 : decode cX3_letFall 32 = .ok (.getfield 26, 3) := by decide +kernel
theorem dX3_letFall_35 : decode cX3_letFall 35 = .ok (.iload_n 2, 1) := by decide +kernel
theorem dX3_letFall_36 : decode cX3_letFall 36 = .ok (.iload_n 1, 1) := by decide +kernel
theorem dX3_letFall_37 : decode cX3_letFall 37 = .ok (.invokevirtual 40, 3) := by decide +kernel
theorem dX3_letFall_40 : decode cX3_letFall 40 = .ok (.ifCond .eq 33, 3) := by decide +kernel
theorem dX3_letFall_43 : decode cX3_letFall 43 = .ok (.aload_n 0, 1) := by decide +kernel
theorem dX3_letFall_44 : decode cX3_letFall 44 = .ok (.getfield 9, 3) := by decide +kernel
theorem dX3_letFall_47 : decode cX3_letFall 47 = .ok (.iload_n 2, 1) := by decide +kernel
theorem dX3_letFall_48 : decode cX3_letFall 48 = .ok (.iload_n 1, 1) := by decide +kernel
theorem dX3_letFall_49 : decode cX3_letFall 49 = .ok (.iconst (-1), 1) := by decide +kernel
theorem dX3_letFall_50 : decode cX3_letFall 50 = .ok (.invokevirtual 68, 3) := by decide +kernel
theorem dX3_letFall_53 : decode cX3_letFall 53 = .ok (.aload_n 0, 1) := by decide +kernel
theorem dX3_letFall_54 : decode cX3_letFall 54 = .ok (.getfield 26, 3) := by decide +kernel
theorem dX3_letFall_57 : decode cX3_letFall 57 = .ok (.iload_n 2, 1) := by decide +kernel
theorem dX3_letFall_58 : decode cX3_letFall 58 = .ok (.invokevirtual 44, 3) := by decide +kernel
theorem dX3_letFall_61 : decode cX3_letFall 61 = .ok (.ifCond .eq 12, 3) := by decide +kernel
theorem dX3_letFall_64 : decode cX3_letFall 64 = .ok (.aload_n 0, 1) := by decide +kernel
theorem dX3_letFall_65 : decode cX3_letFall 65 = .ok (.getfield 27, 3) := by decide +kernel
theorem dX3_letFall_68 : decode cX3_letFall 68 = .ok (.iload_n 2, 1) := by decide +kernel
theorem dX3_letFall_69 : decode cX3_letFall 69 = .ok (.iload_n 1, 1) := by decide +kernel
theorem dX3_letFall_70 : decode cX3_letFall 70 = .ok (.invokevirtual 72, 3) := by decide +kernel
theorem dX3_letFall_73 : decode cX3_letFall 73 = .ok (.iinc 2 1, 3) := by decide +kernel
theorem dX3_letFall_76 : decode cX3_letFall 76 = .ok (.goto (-56), 3) := by decide +kernel
theorem dX3_letFall_79 : decode cX3_letFall 79 = .ok (.return_, 1) := by decide +kernel
theorem dX3_allFindHosts_0 : decode cX3_allFindHosts 0 = .ok (.aload_n 0, 1) := by decide +kernel
theorem dX3_allFindHosts_1 : decode cX3_allFindHosts 1 = .ok (.getfield 27, 3) := by decide +kernel
theorem dX3_allFindHosts_4 : decode cX3_allFindHosts 4 = .ok (.aload_n 0, 1) := by decide +kernel
theorem dX3_allFindHosts_5 : decode cX3_allFindHosts 5 = .ok (.getfield 27, 3) := by decide +kernel
theorem dX3_allFindHosts_8 : decode cX3_allFindHosts 8 = .ok (.invokevirtual 76, 3) := by decide +kernel
theorem dX3_allFindHosts_11 : decode cX3_allFindHosts 11 = .ok (.invokevirtual 80, 3) := by decide +kernel
theorem dX3_allFindHosts_14 : decode cX3_allFindHosts 14 = .ok (.iconst 0, 1) := by decide +kernel
theorem dX3_allFindHosts_15 : decode cX3_allFindHosts 15 = .ok (.istore_n 1, 1) := by decide +kernel
theorem dX3_allFindHosts_16 : decode cX3_allFindHosts 16 = .ok (.iload_n 1, 1) := by decide +kernel
theorem dX3_allFindHosts_17 : decode cX3_allFindHosts 17 = .ok (.sipush 10000, 3) := by decide +kernel
theorem dX3_allFindHosts_20 : decode cX3_allFindHosts 20 = .ok (.if_icmp .ge 69, 3) := by decide +kernel
theorem dX3_allFindHosts_23 : decode cX3_allFindHosts 23 = .ok (.aload_n 0, 1) := by decide +kernel
theorem dX3_allFindHosts_24 : decode cX3_allFindHosts 24 = .ok (.getfield 27, 3) := by decide +kernel
theorem dX3_allFindHosts_27 : decode cX3_allFindHosts 27 = .ok (.getfield 83, 3) := by decide +kernel
theorem dX3_allFindHosts_30 : decode cX3_allFindHosts 30 = .ok (.ifCond .le 59, 3) := by decide +kernel
theorem dX3_allFindHosts_33 : decode cX3_allFindHosts 33 = .ok (.aload_n 0, 1) := by decide +kernel
theorem dX3_allFindHosts_34 : decode cX3_allFindHosts 34 = .ok (.getfield 27, 3) := by decide +kernel
theorem dX3_allFindHosts_37 : decode cX3_allFindHosts 37 = .ok (.dup, 1) := by decide +kernel
theorem dX3_allFindHosts_38 : decode cX3_allFindHosts 38 = .ok (.getfield 83, 3) := by decide +kernel
theorem dX3_allFindHosts_41 : decode cX3_allFindHosts 41 = .ok (.iconst 1, 1) := by decide +kernel
theorem dX3_allFindHosts_42 : decode cX3_allFindHosts 42 = .ok (.isub, 1) := by decide +kernel
theorem dX3_allFindHosts_43 : decode cX3_allFindHosts 43 = .ok (.putfield 83, 3) := by decide +kernel
theorem dX3_allFindHosts_46 : decode cX3_allFindHosts 46 = .ok (.aload_n 0, 1) := by decide +kernel
theorem dX3_allFindHosts_47 : decode cX3_allFindHosts 47 = .ok (.getfield 27, 3) := by decide +kernel
theorem dX3_allFindHosts_50 : decode cX3_allFindHosts 50 = .ok (.getfield 86, 3) := by decide +kernel
theorem dX3_allFindHosts_53 : decode cX3_allFindHosts 53 = .ok (.aload_n 0, 1) := by decide +kernel
theorem dX3_allFindHosts_54 : decode cX3_allFindHosts 54 = .ok (.getfield 27, 3) := by decide +kernel
theorem dX3_allFindHosts_57 : decode cX3_allFindHosts 57 = .ok (.getfield 83, 3) := by decide +kernel
theorem dX3_allFindHosts_60 : decode cX3_allFindHosts 60 = .ok (.iaload, 1) := by decide +kernel
theorem dX3_allFindHosts_61 : decode cX3_allFindHosts 61 = .ok (.istore_n 2, 1) := by decide +kernel
theorem dX3_allFindHosts_62 : decode cX3_allFindHosts 62 = .ok (.aload_n 0, 1) := by decide +kernel
theorem dX3_allFindHosts_63 : decode cX3_allFindHosts 63 = .ok (.getfield 27, 3) := by decide +kernel
theorem dX3_allFindHosts_66 : decode cX3_allFindHosts 66 = .ok (.iload_n 2, 1) := by decide +kernel
theorem dX3_allFindHosts_67 : decode cX3_allFindHosts 67 = .ok (.invokevirtual 90, 3) := by decide +kernel
theorem dX3_allFindHosts_70 : decode cX3_allFindHosts 70 = .ok (.ifCond .eq 5, 3) := by decide +kernel
theorem dX3_allFindHosts_73 : decode cX3_allFindHosts 73 = .ok (.iconst 1, 1) := by decide +kernel
theorem dX3_allFindHosts_74 : decode cX3_allFindHosts 74 = .ok (.ireturn, 1) := by decide +kernel
theorem dX3_allFindHosts_75 : decode cX3_allFindHosts 75 = .ok (.aload_n 0, 1) := by decide +kernel
theorem dX3_allFindHosts_76 : decode cX3_allFindHosts 76 = .ok (.getfield 27, 3) := by decide +kernel
theorem dX3_allFindHosts_79 : decode cX3_allFindHosts 79 = .ok (.iload_n 2, 1) := by decide +kernel
theorem dX3_allFindHosts_80 : decode cX3_allFindHosts 80 = .ok (.invokevirtual 93, 3) := by decide +kernel
theorem dX3_allFindHosts_83 : decode cX3_allFindHosts 83 = .ok (.iinc 1 1, 3) := by decide +kernel
theorem dX3_allFindHosts_86 : decode cX3_allFindHosts 86 = .ok (.goto (-70), 3) := by decide +kernel
theorem dX3_allFindHosts_89 : decode cX3_allFindHosts 89 = .ok (.iconst 0, 1) := by decide +kernel
theorem dX3_allFindHosts_90 : decode cX3_allFindHosts 90 = .ok (.ireturn, 1) := by decide +kernel
theorem dX4_init_0 : decode cX4_init 0 = .ok (.aload_n 0, 1) := by decide +kernel
theorem dX4_init_1 : decode cX4_init 1 = .ok (.invokespecial 3, 3) := by decide +kernel
theorem dX4_init_4 : decode cX4_init 4 = .ok (.aload_n 0, 1) := by decide +kernel
theorem dX4_init_5 : decode cX4_init 5 = .ok (.bipush 30, 2) := by decide +kernel
theorem dX4_init_7 : decode cX4_init 7 = .ok (.newarray .int, 2) := by decide +kernel
theorem dX4_init_9 : decode cX4_init 9 = .ok (.putfield 9, 3) := by decide +kernel
theorem dX4_init_12 : decode cX4_init 12 = .ok (.aload_n 0, 1) := by decide +kernel
theorem dX4_init_13 : decode cX4_init 13 = .ok (.bipush 80, 2) := by decide +kernel
theorem dX4_init_15 : decode cX4_init 15 = .ok (.newarray .int, 2) := by decide +kernel
theorem dX4_init_17 : decode cX4_init 17 = .ok (.putfield 15, 3) := by decide +kernel
theorem dX4_init_20 : decode cX4_init 20 = .ok (.aload_n 0, 1) := by decide +kernel
theorem dX4_init_21 : decode cX4_init 21 = .ok (.bipush 40, 2) := by decide +kernel
theorem dX4_init_23 : decode cX4_init 23 = .ok (.newarray .int, 2) := by decide +kernel
theorem dX4_init_25 : decode cX4_init 25 = .ok (.putfield 18, 3) := by decide +kernel
theorem dX4_init_28 : decode cX4_init 28 = .ok (.aload_n 0, 1) := by decide +kernel
theorem dX4_init_29 : decode cX4_init 29 = .ok (.bipush 80, 2) := by decide +kernel
theorem dX4_init_31 : decode cX4_init 31 = .ok (.newarray .int, 2) := by decide +kernel
theorem dX4_init_33 : decode cX4_init 33 = .ok (.putfield 21, 3) := by decide +kernel
theorem dX4_init_36 : decode cX4_init 36 = .ok (.aload_n 0, 1) := by decide +kernel
theorem dX4_init_37 : decode cX4_init 37 = .ok (.bipush 40, 2) := by decide +kernel
theorem dX4_init_39 : decode cX4_init 39 = .ok (.newarray .int, 2) := by decide +kernel
theorem dX4_init_41 : decode cX4_init 41 = .ok (.putfield 24, 3) := by decide +kernel
theorem dX4_init_44 : decode cX4_init 44 = .ok (.aload_n 0, 1) := by decide +kernel
theorem dX4_init_45 : decode cX4_init 45 = .ok (.bipush 40, 2) := by decide +kernel
theorem dX4_init_47 : decode cX4_init 47 = .ok (.newarray .int, 2) := by decide +kernel
theorem dX4_init_49 : decode cX4_init 49 = .ok (.putfield 27, 3) := by decide +kernel
theorem dX4_init_52 : decode cX4_init 52 = .ok (.aload_n 0, 1) := by decide +kernel
theorem dX4_init_53 : decode cX4_init 53 = .ok (.aload_n 1, 1) := by decide +kernel
theorem dX4_init_54 : decode cX4_init 54 = .ok (.putfield 30, 3) := by decide +kernel
theorem dX4_init_57 : decode cX4_init 57 = .ok (.aload_n 0, 1) := by decide +kernel
theorem dX4_init_58 : decode cX4_init 58 = .ok (.aload_n 2, 1) := by decide +kernel
theorem dX4_init_59 : decode cX4_init 59 = .ok (.putfield 34, 3) := by decide +kernel
theorem dX4_init_62 : decode cX4_init 62 = .ok (.aload_n 0, 1) := by decide +kernel
theorem dX4_init_63 : decode cX4_init 63 = .ok (.aload_n 3, 1) := by decide +kernel
theorem dX4_init_64 : decode cX4_init 64 = .ok (.putfield 38, 3) := by decide +kernel
theorem dX4_init_67 : decode cX4_init 67 = .ok (.return_, 1) := by decide +kernel
theorem dX4_recount_0 : decode cX4_recount 0 = .ok (.aload_n 0, 1) := by decide +kernel
theorem dX4_recount_1 : decode cX4_recount 1 = .ok (.getfield 30, 3) := by decide +kernel
theorem dX4_recount_4 : decode cX4_recount 4 = .ok (.getfield 41, 3) := by decide +kernel
theorem dX4_recount_7 : decode cX4_recount 7 = .ok (.iconst 0, 1) := by decide +kernel
theorem dX4_recount_8 : decode cX4_recount 8 = .ok (.aload_n 0, 1) := by decide +kernel
theorem dX4_recount_9 : decode cX4_recount 9 = .ok (.getfield 9, 3) := by decide +kernel
theorem dX4_recount_12 : decode cX4_recount 12 = .ok (.iconst 0, 1) := by decide +kernel
theorem dX4_recount_13 : decode cX4_recount 13 = .ok (.aload_n 0, 1) := by decide +kernel
theorem dX4_recount_14 : decode cX4_recount 14 = .ok (.getfield 9, 3) := by decide +kernel
theorem dX4_recount_17 : decode cX4_recount 17 = .ok (.arraylength, 1) := by decide +kernel
theorem dX4_recount_18 : decode cX4_recount 18 = .ok (.invokestatic 46, 3) := by decide +kernel
theorem dX4_recount_21 : decode cX4_recount 21 = .ok (.aload_n 0, 1) := by decide +kernel
theorem dX4_recount_22 : decode cX4_recount 22 = .ok (.getfield 15, 3) := by decide +kernel
theorem dX4_recount_25 : decode cX4_recount 25 = .ok (.iconst 0, 1) := by decide +kernel
theorem dX4_recount_26 : decode cX4_recount 26 = .ok (.invokestatic 52, 3) := by decide +kernel
theorem dX4_recount_29 : decode cX4_recount 29 = .ok (.aload_n 0, 1) := by decide +kernel
theorem dX4_recount_30 : decode cX4_recount 30 = .ok (.getfield 18, 3) := by decide +kernel
theorem dX4_recount_33 : decode cX4_recount 33 = .ok (.iconst 0, 1) := by decide +kernel
theorem dX4_recount_34 : decode cX4_recount 34 = .ok (.invokestatic 52, 3) := by decide +kernel
theorem dX4_recount_37 : decode cX4_recount 37 = .ok (.aload_n 0, 1) := by decide +kernel
theorem dX4_recount_38 : decode cX4_recount 38 = .ok (.getfield 21, 3) := by decide +kernel
theorem dX4_recount_41 : decode cX4_recount 41 = .ok (.iconst 0, 1) := by decide +kernel
theorem dX4_recount_42 : decode cX4_recount 42 = .ok (.invokestatic 52, 3) := by decide +kernel
theorem dX4_recount_45 : decode cX4_recount 45 = .ok (.aload_n 0, 1) := by decide +kernel
theorem dX4_recount_46 : decode cX4_recount 46 = .ok (.getfield 24, 3) := by decide +kernel
theorem dX4_recount_49 : decode cX4_recount 49 = .ok (.iconst 0, 1) := by decide +kernel
theorem dX4_recount_50 : decode cX4_recount 50 = .ok (.invokestatic 52, 3) := by decide +kernel
theorem dX4_recount_53 : decode cX4_recount 53 = .ok (.aload_n 0, 1) := by decide +kernel
theorem dX4_recount_54 : decode cX4_recount 54 = .ok (.getfield 27, 3) := by decide +kernel
theorem dX4_recount_57 : decode cX4_recount 57 = .ok (.iconst 0, 1) := by decide +kernel
theorem dX4_recount_58 : decode cX4_recount 58 = .ok (.invokestatic 52, 3) := by decide +kernel
theorem dX4_recount_61 : decode cX4_recount 61 = .ok (.iconst 0, 1) := by decide +kernel
theorem dX4_recount_62 : decode cX4_recount 62 = .ok (.istore_n 1, 1) := by decide +kernel
theorem dX4_recount_63 : decode cX4_recount 63 = .ok (.iload_n 1, 1) := by decide +kernel
theorem dX4_recount_64 : decode cX4_recount 64 = .ok (.aload_n 0, 1) := by decide +kernel
theorem dX4_recount_65 : decode cX4_recount 65 = .ok (.getfield 34, 3) := by decide +kernel
theorem dX4_recount_68 : decode cX4_recount 68 = .ok (.getfield 58, 3) := by decide +kernel
theorem dX4_recount_71 : decode cX4_recount 71 = .ok (.if_icmp .ge 37, 3) := by decide +kernel
theorem dX4_recount_74 : decode cX4_recount 74 = .ok (.aload_n 0, 1) := by decide +kernel
theorem dX4_recount_75 : decode cX4_recount 75 = .ok (.getfield 34, 3) := by decide +kernel
theorem dX4_recount_78 : decode cX4_recount 78 = .ok (.getfield 64, 3) := by decide +kernel
theorem dX4_recount_81 : decode cX4_recount 81 = .ok (.iload_n 1, 1) := by decide +kernel
theorem dX4_recount_82 : decode cX4_recount 82 = .ok (.iaload, 1) := by decide +kernel
theorem dX4_recount_83 : decode cX4_recount 83 = .ok (.iconst 1, 1) := by decide +kernel
theorem dX4_recount_84 : decode cX4_recount 84 = .ok (.if_icmp .ne 18, 3) := by decide +kernel
theorem dX4_recount_87 : decode cX4_recount 87 = .ok (.aload_n 0, 1) := by decide +kernel
theorem dX4_recount_88 : decode cX4_recount 88 = .ok (.iload_n 1, 1) := by decide +kernel
theorem dX4_recount_89 : decode cX4_recount 89 = .ok (.aload_n 0, 1) := by decide +kernel
theorem dX4_recount_90 : decode cX4_recount 90 = .ok (.getfield 34, 3) := by decide +kernel
theorem dX4_recount_93 : decode cX4_recount 93 = .ok (.getfield 67, 3) := by decide +kernel
theorem dX4_recount_96 : decode cX4_recount 96 = .ok (.iload_n 1, 1) := by decide +kernel
theorem dX4_recount_97 : decode cX4_recount 97 = .ok (.iaload, 1) := by decide +kernel
theorem dX4_recount_98 : decode cX4_recount 98 = .ok (.iconst 1, 1) := by decide +kernel
theorem dX4_recount_99 : decode cX4_recount 99 = .ok (.invokevirtual 70, 3) := by decide +kernel
theorem dX4_recount_102 : decode cX4_recount 102 = .ok (.iinc 1 1, 3) := by decide +kernel
theorem dX4_recount_105 : decode cX4_recount 105 = .ok (.goto (-42), 3) := by decide +kernel
theorem dX4_recount_108 : decode cX4_recount 108 = .ok (.return_, 1) := by decide +kernel
theorem dX4_tally_0 : decode cX4_tally 0 = .ok (.aload_n 0, 1) := by decide +kernel
theorem dX4_tally_1 : decode cX4_tally 1 = .ok (.getfield 34, 3) := by decide +kernel
theorem dX4_tally_4 : decode cX4_tally 4 = .ok (.iload_n 1, 1) := by decide +kernel
theorem dX4_tally_5 : decode cX4_tally 5 = .ok (.invokevirtual 74, 3) := by decide +kernel
theorem dX4_tally_8 : decode cX4_tally 8 = .ok (.ifCond .eq 14, 3) := by decide +kernel
theorem dX4_tally_11 : decode cX4_tally 11 = .ok (.aload_n 0, 1) := by decide +kernel
theorem dX4_tally_12 : decode cX4_tally 12 = .ok (.getfield 30, 3) := by decide +kernel
theorem dX4_tally_15 : decode cX4_tally 15 = .ok (.iload_n 2, 1) := by decide +kernel
theorem dX4_tally_16 : decode cX4_tally 16 = .ok (.invokevirtual 78, 3) := by decide +kernel
theorem dX4_tally_19 : decode cX4_tally 19 = .ok (.ifCond .ne 4, 3) := by decide +kernel
theorem dX4_tally_22 : decode cX4_tally 22 = .ok (.return_, 1) := by decide +kernel
theorem dX4_tally_23 : decode cX4_tally 23 = .ok (.iconst 0, 1) := by decide +kernel
theorem dX4_tally_24 : decode cX4_tally 24 = .ok (.istore 4, 2) := by decide +kernel
theorem dX4_tally_26 : decode cX4_tally 26 = .ok (.iload 4, 2) := by decide +kernel
theorem dX4_tally_28 : decode cX4_tally 28 = .ok (.iconst 3, 1) := by decide +kernel
theorem dX4_tally_29 : decode cX4_tally 29 = .ok (.if_icmp .ge 39, 3) := by decide +kernel
theorem dX4_tally_32 : decode cX4_tally 32 = .ok (.aload_n 0, 1) := by decide +kernel
theorem dX4_tally_33 : decode cX4_tally 33 = .ok (.getfield 9, 3) := by decide +kernel
theorem dX4_tally_36 : decode cX4_tally 36 = .ok (.iload_n 2, 1) := by decide +kernel
theorem dX4_tally_37 : decode cX4_tally 37 = .ok (.iconst 3, 1) := by decide +kernel
theorem dX4_tally_38 : decode cX4_tally 38 = .ok (.imul, 1) := by decide +kernel
theorem dX4_tally_39 : decode cX4_tally 39 = .ok (.iload 4, 2) := by decide +kernel
theorem dX4_tally_41 : decode cX4_tally 41 = .ok (.iadd, 1) := by decide +kernel
theorem dX4_tally_42 : decode cX4_tally 42 = .ok (.dup2, 1) := by decide +kernel
theorem dX4_tally_43 : decode cX4_tally 43 = .ok (.iaload, 1) := by decide +kernel
theorem dX4_tally_44 : decode cX4_tally 44 = .ok (.iload_n 3, 1) := by decide +kernel
theorem dX4_tally_45 : decode cX4_tally 45 = .ok (.aload_n 0, 1) := by decide +kernel
theorem dX4_tally_46 : decode cX4_tally 46 = .ok (.getfield 34, 3) := by decide +kernel
theorem dX4_tally_49 : decode cX4_tally 49 = .ok (.getfield 79, 3) := by decide +kernel
theorem dX4_tally_52 : decode cX4_tally 52 = .ok (.iload_n 1, 1) := by decide +kernel
theorem dX4_tally_53 : decode cX4_tally 53 = .ok (.iconst 3, 1) := by decide +kernel
theorem dX4_tally_54 : decode cX4_tally 54 = .ok (.imul, 1) := by decide +kernel
theorem dX4_tally_55 : decode cX4_tally 55 = .ok (.iload 4, 2) := by decide +kernel
theorem dX4_tally_57 : decode cX4_tally 57 = .ok (.iadd, 1) := by decide +kernel
theorem dX4_tally_58 : decode cX4_tally 58 = .ok (.iaload, 1) := by decide +kernel
theorem dX4_tally_59 : decode cX4_tally 59 = .ok (.imul, 1) := by decide +kernel
theorem dX4_tally_60 : decode cX4_tally 60 = .ok (.isub, 1) := by decide +kernel
theorem dX4_tally_61 : decode cX4_tally 61 = .ok (.iastore, 1) := by decide +kernel
theorem dX4_tally_62 : decode cX4_tally 62 = .ok (.iinc 4 1, 3) := by decide +kernel
theorem dX4_tally_65 : decode cX4_tally 65 = .ok (.goto (-39), 3) := by decide +kernel
theorem dX4_tally_68 : decode cX4_tally 68 = .ok (.aload_n 0, 1) := by decide +kernel
theorem dX4_tally_69 : decode cX4_tally 69 = .ok (.getfield 34, 3) := by decide +kernel
theorem dX4_tally_72 : decode cX4_tally 72 = .ok (.getfield 82, 3) := by decide +kernel
theorem dX4_tally_75 : decode cX4_tally 75 = .ok (.iload_n 1, 1) := by decide +kernel
theorem dX4_tally_76 : decode cX4_tally 76 = .ok (.iaload, 1) := by decide +kernel
theorem dX4_tally_77 : decode cX4_tally 77 = .ok (.istore 4, 2) := by decide +kernel
theorem dX4_tally_79 : decode cX4_tally 79 = .ok (.aload_n 0, 1) := by decide +kernel
theorem dX4_tally_80 : decode cX4_tally 80 = .ok (.getfield 30, 3) := by decide +kernel
theorem dX4_tally_83 : decode cX4_tally 83 = .ok (.getfield 85, 3) := by decide +kernel
theorem dX4_tally_86 : decode cX4_tally 86 = .ok (.iload_n 2, 1) := by decide +kernel
theorem dX4_tally_87 : decode cX4_tally 87 = .ok (.iaload, 1) := by decide +kernel
theorem dX4_tally_88 : decode cX4_tally 88 = .ok (.bipush 8, 2) := by decide +kernel
theorem dX4_tally_90 : decode cX4_tally 90 = .ok (.imul, 1) := by decide +kernel
theorem dX4_tally_91 : decode cX4_tally 91 = .ok (.iload 4, 2) := by decide +kernel
theorem dX4_tally_93 : decode cX4_tally 93 = .ok (.iadd, 1) := by decide +kernel
theorem dX4_tally_94 : decode cX4_tally 94 = .ok (.istore 5, 2) := by decide +kernel
theorem dX4_tally_96 : decode cX4_tally 96 = .ok (.aload_n 0, 1) := by decide +kernel
theorem dX4_tally_97 : decode cX4_tally 97 = .ok (.getfield 15, 3) := by decide +kernel
theorem dX4_tally_100 : decode cX4_tally 100 = .ok (.iload_n 2, 1) := by decide +kernel
theorem dX4_tally_101 : decode cX4_tally 101 = .ok (.bipush 8, 2) := by decide +kernel
theorem dX4_tally_103 : decode cX4_tally 103 = .ok (.imul, 1) := by decide +kernel
theorem dX4_tally_104 : decode cX4_tally 104 = .ok (.iload 4, 2) := by decide +kernel
theorem dX4_tally_106 : decode cX4_tally 106 = .ok (.iadd, 1) := by decide +kernel
theorem dX4_tally_107 : decode cX4_tally 107 = .ok (.dup2, 1) := by decide +kernel
theorem dX4_tally_108 : decode cX4_tally 108 = .ok (.iaload, 1) := by decide +kernel
theorem dX4_tally_109 : decode cX4_tally 109 = .ok (.iload_n 3, 1) := by decide +kernel
theorem dX4_tally_110 : decode cX4_tally 110 = .ok (.iadd, 1) := by decide +kernel
theorem dX4_tally_111 : decode cX4_tally 111 = .ok (.iastore, 1) := by decide +kernel
theorem dX4_tally_112 : decode cX4_tally 112 = .ok (.aload_n 0, 1) := by decide +kernel
theorem dX4_tally_113 : decode cX4_tally 113 = .ok (.getfield 18, 3) := by decide +kernel
theorem dX4_tally_116 : decode cX4_tally 116 = .ok (.iload 5, 2) := by decide +kernel
theorem dX4_tally_118 : decode cX4_tally 118 = .ok (.dup2, 1) := by decide +kernel
theorem dX4_tally_119 : decode cX4_tally 119 = .ok (.iaload, 1) := by decide +kernel
theorem dX4_tally_120 : decode cX4_tally 120 = .ok (.iload_n 3, 1) := by decide +kernel
theorem dX4_tally_121 : decode cX4_tally 121 = .ok (.iadd, 1) := by decide +kernel
theorem dX4_tally_122 : decode cX4_tally 122 = .ok (.iastore, 1) := by decide +kernel
theorem dX4_tally_123 : decode cX4_tally 123 = .ok (.aload_n 0, 1) := by decide +kernel
theorem dX4_tally_124 : decode cX4_tally 124 = .ok (.getfield 34, 3) := by decide +kernel
theorem dX4_tally_127 : decode cX4_tally 127 = .ok (.getfield 88, 3) := by decide +kernel
theorem dX4_tally_130 : decode cX4_tally 130 = .ok (.iload_n 1, 1) := by decide +kernel
theorem dX4_tally_131 : decode cX4_tally 131 = .ok (.iaload, 1) := by decide +kernel
theorem dX4_tally_132 : decode cX4_tally 132 = .ok (.iconst 1, 1) := by decide +kernel
theorem dX4_tally_133 : decode cX4_tally 133 = .ok (.if_icmp .ne 14, 3) := by decide +kernel
theorem dX4_tally_136 : decode cX4_tally 136 = .ok (.aload_n 0, 1) := by decide +kernel
theorem dX4_tally_137 : decode cX4_tally 137 = .ok (.getfield 24, 3) := by decide +kernel
theorem dX4_tally_140 : decode cX4_tally 140 = .ok (.iload 5, 2) := by decide +kernel
theorem dX4_tally_142 : decode cX4_tally 142 = .ok (.dup2, 1) := by decide +kernel
theorem dX4_tally_143 : decode cX4_tally 143 = .ok (.iaload, 1) := by decide +kernel
theorem dX4_tally_144 : decode cX4_tally 144 = .ok (.iload_n 3, 1) := by decide +kernel
theorem dX4_tally_145 : decode cX4_tally 145 = .ok (.iadd, 1) := by decide +kernel
theorem dX4_tally_146 : decode cX4_tally 146 = .ok (.iastore, 1) := by decide +kernel
theorem dX4_tally_147 : decode cX4_tally 147 = .ok (.aload_n 0, 1) := by decide +kernel
theorem dX4_tally_148 : decode cX4_tally 148 = .ok (.getfield 34, 3) := by decide +kernel
theorem dX4_tally_151 : decode cX4_tally 151 = .ok (.getfield 88, 3) := by decide +kernel
theorem dX4_tally_154 : decode cX4_tally 154 = .ok (.iload_n 1, 1) := by decide +kernel
theorem dX4_tally_155 : decode cX4_tally 155 = .ok (.iaload, 1) := by decide +kernel
theorem dX4_tally_156 : decode cX4_tally 156 = .ok (.iconst 2, 1) := by decide +kernel
theorem dX4_tally_157 : decode cX4_tally 157 = .ok (.if_icmp .ne 14, 3) := by decide +kernel
theorem dX4_tally_160 : decode cX4_tally 160 = .ok (.aload_n 0, 1) := by decide +kernel
theorem dX4_tally_161 : decode cX4_tally 161 = .ok (.getfield 27, 3) := by decide +kernel
theorem dX4_tally_164 : decode cX4_tally 164 = .ok (.iload 5, 2) := by decide +kernel
theorem dX4_tally_166 : decode cX4_tally 166 = .ok (.dup2, 1) := by decide +kernel
theorem dX4_tally_167 : decode cX4_tally 167 = .ok (.iaload, 1) := by decide +kernel
theorem dX4_tally_168 : decode cX4_tally 168 = .ok (.iload_n 3, 1) := by decide +kernel
theorem dX4_tally_169 : decode cX4_tally 169 = .ok (.iadd, 1) := by decide +kernel
theorem dX4_tally_170 : decode cX4_tally 170 = .ok (.iastore, 1) := by decide +kernel
theorem dX4_tally_171 : decode cX4_tally 171 = .ok (.aload_n 0, 1) := by decide +kernel
theorem dX4_tally_172 : decode cX4_tally 172 = .ok (.getfield 34, 3) := by decide +kernel
theorem dX4_tally_175 : decode cX4_tally 175 = .ok (.getfield 88, 3) := by decide +kernel
theorem dX4_tally_178 : decode cX4_tally 178 = .ok (.iload_n 1, 1) := by decide +kernel
theorem dX4_tally_179 : decode cX4_tally 179 = .ok (.iaload, 1) := by decide +kernel
theorem dX4_tally_180 : decode cX4_tally 180 = .ok (.iconst 4, 1) := by decide +kernel
theorem dX4_tally_181 : decode cX4_tally 181 = .ok (.if_icmp .ne 26, 3) := by decide +kernel
theorem dX4_tally_184 : decode cX4_tally 184 = .ok (.aload_n 0, 1) := by decide +kernel
theorem dX4_tally_185 : decode cX4_tally 185 = .ok (.getfield 21, 3) := by decide +kernel
theorem dX4_tally_188 : decode cX4_tally 188 = .ok (.iload_n 2, 1) := by decide +kernel
theorem dX4_tally_189 : decode cX4_tally 189 = .ok (.bipush 8, 2) := by decide +kernel
theorem dX4_tally_191 : decode cX4_tally 191 = .ok (.imul, 1) := by decide +kernel
theorem dX4_tally_192 : decode cX4_tally 192 = .ok (.aload_n 0, 1) := by decide +kernel
theorem dX4_tally_193 : decode cX4_tally 193 = .ok (.getfield 34, 3) := by decide +kernel
theorem dX4_tally_196 : decode cX4_tally 196 = .ok (.getfield 91, 3) := by decide +kernel
theorem dX4_tally_199 : decode cX4_tally 199 = .ok (.iload_n 1, 1) := by decide +kernel
theorem dX4_tally_200 : decode cX4_tally 200 = .ok (.iaload, 1) := by decide +kernel
theorem dX4_tally_201 : decode cX4_tally 201 = .ok (.iadd, 1) := by decide +kernel
theorem dX4_tally_202 : decode cX4_tally 202 = .ok (.dup2, 1) := by decide +kernel
theorem dX4_tally_203 : decode cX4_tally 203 = .ok (.iaload, 1) := by decide +kernel
theorem dX4_tally_204 : decode cX4_tally 204 = .ok (.iload_n 3, 1) := by decide +kernel
theorem dX4_tally_205 : decode cX4_tally 205 = .ok (.iadd, 1) := by decide +kernel
theorem dX4_tally_206 : decode cX4_tally 206 = .ok (.iastore, 1) := by decide +kernel
theorem dX4_tally_207 : decode cX4_tally 207 = .ok (.return_, 1) := by decide +kernel
theorem dX4_fits_0 : decode cX4_fits 0 = .ok (.aload_n 0, 1) := by decide +kernel
theorem dX4_fits_1 : decode cX4_fits 1 = .ok (.iload_n 1, 1) := by decide +kernel
theorem dX4_fits_2 : decode cX4_fits 2 = .ok (.iload_n 2, 1) := by decide +kernel
theorem dX4_fits_3 : decode cX4_fits 3 = .ok (.invokevirtual 94, 3) := by decide +kernel
theorem dX4_fits_6 : decode cX4_fits 6 = .ok (.ifCond .ne 7, 3) := by decide +kernel
theorem dX4_fits_9 : decode cX4_fits 9 = .ok (.iconst 1, 1) := by decide +kernel
theorem dX4_fits_10 : decode cX4_fits 10 = .ok (.goto 4, 3) := by decide +kernel
theorem dX4_fits_13 : decode cX4_fits 13 = .ok (.iconst 0, 1) := by decide +kernel
theorem dX4_fits_14 : decode cX4_fits 14 = .ok (.ireturn, 1) := by decide +kernel
theorem dX4_reason_0 : decode cX4_reason 0 = .ok (.aload_n 0, 1) := by decide +kernel
theorem dX4_reason_1 : decode cX4_reason 1 = .ok (.getfield 30, 3) := by decide +kernel
theorem dX4_reason_4 : decode cX4_reason 4 = .ok (.getfield 98, 3) := by decide +kernel
theorem dX4_reason_7 : decode cX4_reason 7 = .ok (.iload_n 2, 1) := by decide +kernel
theorem dX4_reason_8 : decode cX4_reason 8 = .ok (.baload, 1) := by decide +kernel
theorem dX4_reason_9 : decode cX4_reason 9 = .ok (.ifCond .ne 5, 3) := by decide +kernel
theorem dX4_reason_12 : decode cX4_reason 12 = .ok (.iconst 1, 1) := by decide +kernel
theorem dX4_reason_13 : decode cX4_reason 13 = .ok (.ireturn, 1) := by decide +kernel
theorem dX4_reason_14 : decode cX4_reason 14 = .ok (.aload_n 0, 1) := by decide +kernel
theorem dX4_reason_15 : decode cX4_reason 15 = .ok (.getfield 30, 3) := by decide +kernel
theorem dX4_reason_18 : decode cX4_reason 18 = .ok (.getfield 102, 3) := by decide +kernel
theorem dX4_reason_21 : decode cX4_reason 21 = .ok (.iload_n 2, 1) := by decide +kernel
theorem dX4_reason_22 : decode cX4_reason 22 = .ok (.iaload, 1) := by decide +kernel
theorem dX4_reason_23 : decode cX4_reason 23 = .ok (.aload_n 0, 1) := by decide +kernel
theorem dX4_reason_24 : decode cX4_reason 24 = .ok (.getfield 34, 3) := by decide +kernel
theorem dX4_reason_27 : decode cX4_reason 27 = .ok (.getfield 105, 3) := by decide +kernel
theorem dX4_reason_30 : decode cX4_reason 30 = .ok (.iload_n 1, 1) := by decide +kernel
theorem dX4_reason_31 : decode cX4_reason 31 = .ok (.iaload, 1) := by decide +kernel
theorem dX4_reason_32 : decode cX4_reason 32 = .ok (.iconst (-1), 1) := by decide +kernel
theorem dX4_reason_33 : decode cX4_reason 33 = .ok (.ixor, 1) := by decide +kernel
theorem dX4_reason_34 : decode cX4_reason 34 = .ok (.iand, 1) := by decide +kernel
theorem dX4_reason_35 : decode cX4_reason 35 = .ok (.ifCond .eq 5, 3) := by decide +kernel
theorem dX4_reason_38 : decode cX4_reason 38 = .ok (.iconst 2, 1) := by decide +kernel
theorem dX4_reason_39 : decode cX4_reason 39 = .ok (.ireturn, 1) := by decide +kernel
theorem dX4_reason_40 : decode cX4_reason 40 = .ok (.iconst 0, 1) := by decide +kernel
theorem dX4_reason_41 : decode cX4_reason 41 = .ok (.istore_n 3, 1) := by decide +kernel
theorem dX4_reason_42 : decode cX4_reason 42 = .ok (.iload_n 3, 1) := by decide +kernel
theorem dX4_reason_43 : decode cX4_reason 43 = .ok (.iconst 3, 1) := by decide +kernel
theorem dX4_reason_44 : decode cX4_reason 44 = .ok (.if_icmp .ge 23, 3) := by decide +kernel
theorem dX4_reason_47 : decode cX4_reason 47 = .ok (.aload_n 0, 1) := by decide +kernel
theorem dX4_reason_48 : decode cX4_reason 48 = .ok (.iload_n 1, 1) := by decide +kernel
theorem dX4_reason_49 : decode cX4_reason 49 = .ok (.iload_n 2, 1) := by decide +kernel
theorem dX4_reason_50 : decode cX4_reason 50 = .ok (.iload_n 3, 1) := by decide +kernel
theorem dX4_reason_51 : decode cX4_reason 51 = .ok (.invokevirtual 108, 3) := by decide +kernel
theorem dX4_reason_54 : decode cX4_reason 54 = .ok (.ifCond .le 7, 3) := by decide +kernel
theorem dX4_reason_57 : decode cX4_reason 57 = .ok (.iconst 3, 1) := by decide +kernel
theorem dX4_reason_58 : decode cX4_reason 58 = .ok (.iload_n 3, 1) := by decide +kernel
theorem dX4_reason_59 : decode cX4_reason 59 = .ok (.iadd, 1) := by decide +kernel
theorem dX4_reason_60 : decode cX4_reason 60 = .ok (.ireturn, 1) := by decide +kernel
theorem dX4_reason_61 : decode cX4_reason 61 = .ok (.iinc 3 1, 3) := by decide +kernel
theorem dX4_reason_64 : decode cX4_reason 64 = .ok (.goto (-22), 3) := by decide +kernel
theorem dX4_reason_67 : decode cX4_reason 67 = .ok (.aload_n 0, 1) := by decide +kernel
theorem dX4_reason_68 : decode cX4_reason 68 = .ok (.iload_n 1, 1) := by decide +kernel
theorem dX4_reason_69 : decode cX4_reason 69 = .ok (.iload_n 2, 1) := by decide +kernel
theorem dX4_reason_70 : decode cX4_reason 70 = .ok (.invokevirtual 112, 3) := by decide +kernel
theorem dX4_reason_73 : decode cX4_reason 73 = .ok (.ifCond .eq 6, 3) := by decide +kernel
theorem dX4_reason_76 : decode cX4_reason 76 = .ok (.bipush 6, 2) := by decide +kernel
theorem dX4_reason_78 : decode cX4_reason 78 = .ok (.ireturn, 1) := by decide +kernel
theorem dX4_reason_79 : decode cX4_reason 79 = .ok (.aload_n 0, 1) := by decide +kernel
theorem dX4_reason_80 : decode cX4_reason 80 = .ok (.getfield 34, 3) := by decide +kernel
theorem dX4_reason_83 : decode cX4_reason 83 = .ok (.getfield 88, 3) := by decide +kernel
theorem dX4_reason_86 : decode cX4_reason 86 = .ok (.iload_n 1, 1) := by decide +kernel
theorem dX4_reason_87 : decode cX4_reason 87 = .ok (.iaload, 1) := by decide +kernel
theorem dX4_reason_88 : decode cX4_reason 88 = .ok (.istore_n 3, 1) := by decide +kernel
theorem dX4_reason_89 : decode cX4_reason 89 = .ok (.aload_n 0, 1) := by decide +kernel
theorem dX4_reason_90 : decode cX4_reason 90 = .ok (.iload_n 1, 1) := by decide +kernel
theorem dX4_reason_91 : decode cX4_reason 91 = .ok (.iload_n 2, 1) := by decide +kernel
theorem dX4_reason_92 : decode cX4_reason 92 = .ok (.invokevirtual 116, 3) := by decide +kernel
theorem dX4_reason_95 : decode cX4_reason 95 = .ok (.istore 4, 2) := by decide +kernel
theorem dX4_reason_97 : decode cX4_reason 97 = .ok (.iload_n 3, 1) := by decide +kernel
theorem dX4_reason_98 : decode cX4_reason 98 = .ok (.iconst 4, 1) := by decide +kernel
theorem dX4_reason_99 : decode cX4_reason 99 = .ok (.if_icmp .ne 8, 3) := by decide +kernel
theorem dX4_reason_102 : decode cX4_reason 102 = .ok (.iload 4, 2) := by decide +kernel
theorem dX4_reason_104 : decode cX4_reason 104 = .ok (.ifCond .gt 13, 3) := by decide +kernel
theorem dX4_reason_107 : decode cX4_reason 107 = .ok (.iload_n 3, 1) := by decide +kernel
theorem dX4_reason_108 : decode cX4_reason 108 = .ok (.iconst 5, 1) := by decide +kernel
theorem dX4_reason_109 : decode cX4_reason 109 = .ok (.if_icmp .ne 11, 3) := by decide +kernel
theorem dX4_reason_112 : decode cX4_reason 112 = .ok (.iload 4, 2) := by decide +kernel
theorem dX4_reason_114 : decode cX4_reason 114 = .ok (.ifCond .ne 6, 3) := by decide +kernel
theorem dX4_reason_117 : decode cX4_reason 117 = .ok (.bipush 7, 2) := by decide +kernel
theorem dX4_reason_119 : decode cX4_reason 119 = .ok (.ireturn, 1) := by decide +kernel
theorem dX4_reason_120 : decode cX4_reason 120 = .ok (.aload_n 0, 1) := by decide +kernel
theorem dX4_reason_121 : decode cX4_reason 121 = .ok (.getfield 21, 3) := by decide +kernel
theorem dX4_reason_124 : decode cX4_reason 124 = .ok (.iload_n 2, 1) := by decide +kernel
theorem dX4_reason_125 : decode cX4_reason 125 = .ok (.bipush 8, 2) := by decide +kernel
theorem dX4_reason_127 : decode cX4_reason 127 = .ok (.imul, 1) := by decide +kernel
theorem dX4_reason_128 : decode cX4_reason 128 = .ok (.aload_n 0, 1) := by decide +kernel
theorem dX4_reason_129 : decode cX4_reason 129 = .ok (.getfield 34, 3) := by decide +kernel
theorem dX4_reason_132 : decode cX4_reason 132 = .ok (.getfield 82, 3) := by decide +kernel
theorem dX4_reason_135 : decode cX4_reason 135 = .ok (.iload_n 1, 1) := by decide +kernel
theorem dX4_reason_136 : decode cX4_reason 136 = .ok (.iaload, 1) := by decide +kernel
theorem dX4_reason_137 : decode cX4_reason 137 = .ok (.iadd, 1) := by decide +kernel
theorem dX4_reason_138 : decode cX4_reason 138 = .ok (.iaload, 1) := by decide +kernel
theorem dX4_reason_139 : decode cX4_reason 139 = .ok (.ifCond .le 8, 3) := by decide +kernel
theorem dX4_reason_142 : decode cX4_reason 142 = .ok (.bipush 8, 2) := by decide +kernel
theorem dX4_reason_144 : decode cX4_reason 144 = .ok (.goto 4, 3) := by decide +kernel
theorem dX4_reason_147 : decode cX4_reason 147 = .ok (.iconst 0, 1) := by decide +kernel
theorem dX4_reason_148 : decode cX4_reason 148 = .ok (.ireturn, 1) := by decide +kernel
theorem dX4_tooMuch_0 : decode cX4_tooMuch 0 = .ok (.aload_n 0, 1) := by decide +kernel
theorem dX4_tooMuch_1 : decode cX4_tooMuch 1 = .ok (.getfield 34, 3) := by decide +kernel
theorem dX4_tooMuch_4 : decode cX4_tooMuch 4 = .ok (.getfield 79, 3) := by decide +kernel
theorem dX4_tooMuch_7 : decode cX4_tooMuch 7 = .ok (.iload_n 1, 1) := by decide +kernel
theorem dX4_tooMuch_8 : decode cX4_tooMuch 8 = .ok (.iconst 3, 1) := by decide +kernel
theorem dX4_tooMuch_9 : decode cX4_tooMuch 9 = .ok (.imul, 1) := by decide +kernel
theorem dX4_tooMuch_10 : decode cX4_tooMuch 10 = .ok (.iload_n 3, 1) := by decide +kernel
theorem dX4_tooMuch_11 : decode cX4_tooMuch 11 = .ok (.iadd, 1) := by decide +kernel
theorem dX4_tooMuch_12 : decode cX4_tooMuch 12 = .ok (.iaload, 1) := by decide +kernel
theorem dX4_tooMuch_13 : decode cX4_tooMuch 13 = .ok (.aload_n 0, 1) := by decide +kernel
theorem dX4_tooMuch_14 : decode cX4_tooMuch 14 = .ok (.getfield 9, 3) := by decide +kernel
theorem dX4_tooMuch_17 : decode cX4_tooMuch 17 = .ok (.iload_n 2, 1) := by decide +kernel
theorem dX4_tooMuch_18 : decode cX4_tooMuch 18 = .ok (.iconst 3, 1) := by decide +kernel
theorem dX4_tooMuch_19 : decode cX4_tooMuch 19 = .ok (.imul, 1) := by decide +kernel
theorem dX4_tooMuch_20 : decode cX4_tooMuch 20 = .ok (.iload_n 3, 1) := by decide +kernel
theorem dX4_tooMuch_21 : decode cX4_tooMuch 21 = .ok (.iadd, 1) := by decide +kernel
theorem dX4_tooMuch_22 : decode cX4_tooMuch 22 = .ok (.iaload, 1) := by decide +kernel
theorem dX4_tooMuch_23 : decode cX4_tooMuch 23 = .ok (.isub, 1) := by decide +kernel
theorem dX4_tooMuch_24 : decode cX4_tooMuch 24 = .ok (.ireturn, 1) := by decide +kernel
theorem dX4_isUneven_0 : decode cX4_isUneven 0 = .ok (.aload_n 0, 1) := by decide +kernel
theorem dX4_isUneven_1 : decode cX4_isUneven 1 = .ok (.getfield 34, 3) := by decide +kernel
theorem dX4_isUneven_4 : decode cX4_isUneven 4 = .ok (.getfield 88, 3) := by decide +kernel
theorem dX4_isUneven_7 : decode cX4_isUneven 7 = .ok (.iload_n 1, 1) := by decide +kernel
theorem dX4_isUneven_8 : decode cX4_isUneven 8 = .ok (.iaload, 1) := by decide +kernel
theorem dX4_isUneven_9 : decode cX4_isUneven 9 = .ok (.istore_n 3, 1) := by decide +kernel
theorem dX4_isUneven_10 : decode cX4_isUneven 10 = .ok (.iload_n 3, 1) := by decide +kernel
theorem dX4_isUneven_11 : decode cX4_isUneven 11 = .ok (.iconst 1, 1) := by decide +kernel
theorem dX4_isUneven_12 : decode cX4_isUneven 12 = .ok (.if_icmp .eq 10, 3) := by decide +kernel
theorem dX4_isUneven_15 : decode cX4_isUneven 15 = .ok (.iload_n 3, 1) := by decide +kernel
theorem dX4_isUneven_16 : decode cX4_isUneven 16 = .ok (.iconst 2, 1) := by decide +kernel
theorem dX4_isUneven_17 : decode cX4_isUneven 17 = .ok (.if_icmp .eq 5, 3) := by decide +kernel
theorem dX4_isUneven_20 : decode cX4_isUneven 20 = .ok (.iconst 0, 1) := by decide +kernel
theorem dX4_isUneven_21 : decode cX4_isUneven 21 = .ok (.ireturn, 1) := by decide +kernel
theorem dX4_isUneven_22 : decode cX4_isUneven 22 = .ok (.iload_n 3, 1) := by decide +kernel
theorem dX4_isUneven_23 : decode cX4_isUneven 23 = .ok (.iconst 1, 1) := by decide +kernel
theorem dX4_isUneven_24 : decode cX4_isUneven 24 = .ok (.if_icmp .ne 10, 3) := by decide +kernel
theorem dX4_isUneven_27 : decode cX4_isUneven 27 = .ok (.aload_n 0, 1) := by decide +kernel
theorem dX4_isUneven_28 : decode cX4_isUneven 28 = .ok (.getfield 24, 3) := by decide +kernel
theorem dX4_isUneven_31 : decode cX4_isUneven 31 = .ok (.goto 7, 3) := by decide +kernel
theorem dX4_isUneven_34 : decode cX4_isUneven 34 = .ok (.aload_n 0, 1) := by decide +kernel
theorem dX4_isUneven_35 : decode cX4_isUneven 35 = .ok (.getfield 27, 3) := by decide +kernel
theorem dX4_isUneven_38 : decode cX4_isUneven 38 = .ok (.astore 4, 2) := by decide +kernel
theorem dX4_isUneven_40 : decode cX4_isUneven 40 = .ok (.aload_n 0, 1) := by decide +kernel
theorem dX4_isUneven_41 : decode cX4_isUneven 41 = .ok (.getfield 34, 3) := by decide +kernel
theorem dX4_isUneven_44 : decode cX4_isUneven 44 = .ok (.getfield 82, 3) := by decide +kernel
theorem dX4_isUneven_47 : decode cX4_isUneven 47 = .ok (.iload_n 1, 1) := by decide +kernel
theorem dX4_isUneven_48 : decode cX4_isUneven 48 = .ok (.iaload, 1) := by decide +kernel
theorem dX4_isUneven_49 : decode cX4_isUneven 49 = .ok (.istore 5, 2) := by decide +kernel
theorem dX4_isUneven_51 : decode cX4_isUneven 51 = .ok (.aload 4, 2) := by decide +kernel
theorem dX4_isUneven_53 : decode cX4_isUneven 53 = .ok (.aload_n 0, 1) := by decide +kernel
theorem dX4_isUneven_54 : decode cX4_isUneven 54 = .ok (.getfield 30, 3) := by decide +kernel
theorem dX4_isUneven_57 : decode cX4_isUneven 57 = .ok (.getfield 85, 3) := by decide +kernel
theorem dX4_isUneven_60 : decode cX4_isUneven 60 = .ok (.iload_n 2, 1) := by decide +kernel
theorem dX4_isUneven_61 : decode cX4_isUneven 61 = .ok (.iaload, 1) := by decide +kernel
theorem dX4_isUneven_62 : decode cX4_isUneven 62 = .ok (.bipush 8, 2) := by decide +kernel
theorem dX4_isUneven_64 : decode cX4_isUneven 64 = .ok (.imul, 1) := by decide +kernel
theorem dX4_isUneven_65 : decode cX4_isUneven 65 = .ok (.iload 5, 2) := by decide +kernel
theorem dX4_isUneven_67 : decode cX4_isUneven 67 = .ok (.iadd, 1) := by decide +kernel
theorem dX4_isUneven_68 : decode cX4_isUneven 68 = .ok (.iaload, 1) := by decide +kernel
theorem dX4_isUneven_69 : decode cX4_isUneven 69 = .ok (.istore 6, 2) := by decide +kernel
theorem dX4_isUneven_71 : decode cX4_isUneven 71 = .ok (.iconst 0, 1) := by decide +kernel
theorem dX4_isUneven_72 : decode cX4_isUneven 72 = .ok (.istore 7, 2) := by decide +kernel
theorem dX4_isUneven_74 : decode cX4_isUneven 74 = .ok (.iload 7, 2) := by decide +kernel
theorem dX4_isUneven_76 : decode cX4_isUneven 76 = .ok (.aload_n 0, 1) := by decide +kernel
theorem dX4_isUneven_77 : decode cX4_isUneven 77 = .ok (.getfield 30, 3) := by decide +kernel
theorem dX4_isUneven_80 : decode cX4_isUneven 80 = .ok (.getfield 119, 3) := by decide +kernel
theorem dX4_isUneven_83 : decode cX4_isUneven 83 = .ok (.if_icmp .ge 48, 3) := by decide +kernel
theorem dX4_isUneven_86 : decode cX4_isUneven 86 = .ok (.aload_n 0, 1) := by decide +kernel
theorem dX4_isUneven_87 : decode cX4_isUneven 87 = .ok (.getfield 30, 3) := by decide +kernel
theorem dX4_isUneven_90 : decode cX4_isUneven 90 = .ok (.getfield 98, 3) := by decide +kernel
theorem dX4_isUneven_93 : decode cX4_isUneven 93 = .ok (.iload 7, 2) := by decide +kernel
theorem dX4_isUneven_95 : decode cX4_isUneven 95 = .ok (.baload, 1) := by decide +kernel
theorem dX4_isUneven_96 : decode cX4_isUneven 96 = .ok (.ifCond .eq 29, 3) := by decide +kernel
theorem dX4_isUneven_99 : decode cX4_isUneven 99 = .ok (.iload 6, 2) := by decide +kernel
theorem dX4_isUneven_101 : decode cX4_isUneven 101 = .ok (.aload 4, 2) := by decide +kernel
theorem dX4_isUneven_103 : decode cX4_isUneven 103 = .ok (.aload_n 0, 1) := by decide +kernel
theorem dX4_isUneven_104 : decode cX4_isUneven 104 = .ok (.getfield 30, 3) := by decide +kernel
theorem dX4_isUneven_107 : decode cX4_isUneven 107 = .ok (.getfield 85, 3) := by decide +kernel
theorem dX4_isUneven_110 : decode cX4_isUneven 110 = .ok (.iload 7, 2) := by decide +kernel
theorem dX4_isUneven_112 : decode cX4_isUneven 112 = .ok (.iaload, 1) := by decide +kernel
theorem dX4_isUneven_113 : decode cX4_isUneven 113 = .ok (.bipush 8, 2) := by decide +kernel
theorem dX4_isUneven_115 : decode cX4_isUneven 115 = .ok (.imul, 1) := by decide +kernel
theorem dX4_isUneven_116 : decode cX4_isUneven 116 = .ok (.iload 5, 2) := by decide +kernel
theorem dX4_isUneven_118 : decode cX4_isUneven 118 = .ok (.iadd, 1) := by decide +kernel
theorem dX4_isUneven_119 : decode cX4_isUneven 119 = .ok (.iaload, 1) := by decide +kernel
theorem dX4_isUneven_120 : decode cX4_isUneven 120 = .ok (.if_icmp .le 5, 3) := by decide +kernel
theorem dX4_isUneven_123 : decode cX4_isUneven 123 = .ok (.iconst 1, 1) := by decide +kernel
theorem dX4_isUneven_124 : decode cX4_isUneven 124 = .ok (.ireturn, 1) := by decide +kernel
theorem dX4_isUneven_125 : decode cX4_isUneven 125 = .ok (.iinc 7 1, 3) := by decide +kernel
theorem dX4_isUneven_128 : decode cX4_isUneven 128 = .ok (.goto (-54), 3) := by decide +kernel
theorem dX4_isUneven_131 : decode cX4_isUneven 131 = .ok (.iconst 0, 1) := by decide +kernel
theorem dX4_isUneven_132 : decode cX4_isUneven 132 = .ok (.ireturn, 1) := by decide +kernel
theorem dX4_others_0 : decode cX4_others 0 = .ok (.aload_n 0, 1) := by decide +kernel
theorem dX4_others_1 : decode cX4_others 1 = .ok (.getfield 34, 3) := by decide +kernel
theorem dX4_others_4 : decode cX4_others 4 = .ok (.getfield 88, 3) := by decide +kernel
theorem dX4_others_7 : decode cX4_others 7 = .ok (.iload_n 1, 1) := by decide +kernel
theorem dX4_others_8 : decode cX4_others 8 = .ok (.iaload, 1) := by decide +kernel
theorem dX4_others_9 : decode cX4_others 9 = .ok (.iconst 4, 1) := by decide +kernel
theorem dX4_others_10 : decode cX4_others 10 = .ok (.if_icmp .ne 23, 3) := by decide +kernel
theorem dX4_others_13 : decode cX4_others 13 = .ok (.aload_n 0, 1) := by decide +kernel
theorem dX4_others_14 : decode cX4_others 14 = .ok (.getfield 15, 3) := by decide +kernel
theorem dX4_others_17 : decode cX4_others 17 = .ok (.iload_n 2, 1) := by decide +kernel
theorem dX4_others_18 : decode cX4_others 18 = .ok (.bipush 8, 2) := by decide +kernel
theorem dX4_others_20 : decode cX4_others 20 = .ok (.imul, 1) := by decide +kernel
theorem dX4_others_21 : decode cX4_others 21 = .ok (.aload_n 0, 1) := by decide +kernel
theorem dX4_others_22 : decode cX4_others 22 = .ok (.getfield 34, 3) := by decide +kernel
theorem dX4_others_25 : decode cX4_others 25 = .ok (.getfield 91, 3) := by decide +kernel
theorem dX4_others_28 : decode cX4_others 28 = .ok (.iload_n 1, 1) := by decide +kernel
theorem dX4_others_29 : decode cX4_others 29 = .ok (.iaload, 1) := by decide +kernel
theorem dX4_others_30 : decode cX4_others 30 = .ok (.iadd, 1) := by decide +kernel
theorem dX4_others_31 : decode cX4_others 31 = .ok (.iaload, 1) := by decide +kernel
theorem dX4_others_32 : decode cX4_others 32 = .ok (.ireturn, 1) := by decide +kernel
theorem dX4_others_33 : decode cX4_others 33 = .ok (.aload_n 0, 1) := by decide +kernel
theorem dX4_others_34 : decode cX4_others 34 = .ok (.getfield 34, 3) := by decide +kernel
theorem dX4_others_37 : decode cX4_others 37 = .ok (.getfield 88, 3) := by decide +kernel
theorem dX4_others_40 : decode cX4_others 40 = .ok (.iload_n 1, 1) := by decide +kernel
theorem dX4_others_41 : decode cX4_others 41 = .ok (.iaload, 1) := by decide +kernel
theorem dX4_others_42 : decode cX4_others 42 = .ok (.iconst 5, 1) := by decide +kernel
theorem dX4_others_43 : decode cX4_others 43 = .ok (.if_icmp .ne 31, 3) := by decide +kernel
theorem dX4_others_46 : decode cX4_others 46 = .ok (.aload_n 0, 1) := by decide +kernel
theorem dX4_others_47 : decode cX4_others 47 = .ok (.getfield 18, 3) := by decide +kernel
theorem dX4_others_50 : decode cX4_others 50 = .ok (.aload_n 0, 1) := by decide +kernel
theorem dX4_others_51 : decode cX4_others 51 = .ok (.getfield 30, 3) := by decide +kernel
theorem dX4_others_54 : decode cX4_others 54 = .ok (.getfield 85, 3) := by decide +kernel
theorem dX4_others_57 : decode cX4_others 57 = .ok (.iload_n 2, 1) := by decide +kernel
theorem dX4_others_58 : decode cX4_others 58 = .ok (.iaload, 1) := by decide +kernel
theorem dX4_others_59 : decode cX4_others 59 = .ok (.bipush 8, 2) := by decide +kernel
theorem dX4_others_61 : decode cX4_others 61 = .ok (.imul, 1) := by decide +kernel
theorem dX4_others_62 : decode cX4_others 62 = .ok (.aload_n 0, 1) := by decide +kernel
theorem dX4_others_63 : decode cX4_others 63 = .ok (.getfield 34, 3) := by decide +kernel
theorem dX4_others_66 : decode cX4_others 66 = .ok (.getfield 91, 3) := by decide +kernel
theorem dX4_others_69 : decode cX4_others 69 = .ok (.iload_n 1, 1) := by decide +kernel
theorem dX4_others_70 : decode cX4_others 70 = .ok (.iaload, 1) := by decide +kernel
theorem dX4_others_71 : decode cX4_others 71 = .ok (.iadd, 1) := by decide +kernel
theorem dX4_others_72 : decode cX4_others 72 = .ok (.iaload, 1) := by decide +kernel
theorem dX4_others_73 : decode cX4_others 73 = .ok (.ireturn, 1) := by decide +kernel
theorem dX4_others_74 : decode cX4_others 74 = .ok (.iconst 0, 1) := by decide +kernel
theorem dX4_others_75 : decode cX4_others 75 = .ok (.ireturn, 1) := by decide +kernel
theorem dX4_score_0 : decode cX4_score 0 = .ok (.iconst 0, 1) := by decide +kernel
theorem dX4_score_1 : decode cX4_score 1 = .ok (.istore_n 3, 1) := by decide +kernel
theorem dX4_score_2 : decode cX4_score 2 = .ok (.iconst 0, 1) := by decide +kernel
theorem dX4_score_3 : decode cX4_score 3 = .ok (.istore 4, 2) := by decide +kernel
theorem dX4_score_5 : decode cX4_score 5 = .ok (.iload 4, 2) := by decide +kernel
theorem dX4_score_7 : decode cX4_score 7 = .ok (.iconst 3, 1) := by decide +kernel
theorem dX4_score_8 : decode cX4_score 8 = .ok (.if_icmp .ge 20, 3) := by decide +kernel
theorem dX4_score_11 : decode cX4_score 11 = .ok (.iload_n 3, 1) := by decide +kernel
theorem dX4_score_12 : decode cX4_score 12 = .ok (.aload_n 0, 1) := by decide +kernel
theorem dX4_score_13 : decode cX4_score 13 = .ok (.iload_n 1, 1) := by decide +kernel
theorem dX4_score_14 : decode cX4_score 14 = .ok (.iload_n 2, 1) := by decide +kernel
theorem dX4_score_15 : decode cX4_score 15 = .ok (.iload 4, 2) := by decide +kernel
theorem dX4_score_17 : decode cX4_score 17 = .ok (.invokevirtual 108, 3) := by decide +kernel
theorem dX4_score_20 : decode cX4_score 20 = .ok (.isub, 1) := by decide +kernel
theorem dX4_score_21 : decode cX4_score 21 = .ok (.istore_n 3, 1) := by decide +kernel
theorem dX4_score_22 : decode cX4_score 22 = .ok (.iinc 4 1, 3) := by decide +kernel
theorem dX4_score_25 : decode cX4_score 25 = .ok (.goto (-20), 3) := by decide +kernel
theorem dX4_score_28 : decode cX4_score 28 = .ok (.aload_n 0, 1) := by decide +kernel
theorem dX4_score_29 : decode cX4_score 29 = .ok (.getfield 15, 3) := by decide +kernel
theorem dX4_score_32 : decode cX4_score 32 = .ok (.iload_n 2, 1) := by decide +kernel
theorem dX4_score_33 : decode cX4_score 33 = .ok (.bipush 8, 2) := by decide +kernel
theorem dX4_score_35 : decode cX4_score 35 = .ok (.imul, 1) := by decide +kernel
theorem dX4_score_36 : decode cX4_score 36 = .ok (.aload_n 0, 1) := by decide +kernel
theorem dX4_score_37 : decode cX4_score 37 = .ok (.getfield 34, 3) := by decide +kernel
theorem dX4_score_40 : decode cX4_score 40 = .ok (.getfield 82, 3) := by decide +kernel
theorem dX4_score_43 : decode cX4_score 43 = .ok (.iload_n 1, 1) := by decide +kernel
theorem dX4_score_44 : decode cX4_score 44 = .ok (.iaload, 1) := by decide +kernel
theorem dX4_score_45 : decode cX4_score 45 = .ok (.iadd, 1) := by decide +kernel
theorem dX4_score_46 : decode cX4_score 46 = .ok (.iaload, 1) := by decide +kernel
theorem dX4_score_47 : decode cX4_score 47 = .ok (.istore 4, 2) := by decide +kernel
theorem dX4_score_49 : decode cX4_score 49 = .ok (.aload_n 0, 1) := by decide +kernel
theorem dX4_score_50 : decode cX4_score 50 = .ok (.getfield 38, 3) := by decide +kernel
theorem dX4_score_53 : decode cX4_score 53 = .ok (.iconst 0, 1) := by decide +kernel
theorem dX4_score_54 : decode cX4_score 54 = .ok (.iaload, 1) := by decide +kernel
theorem dX4_score_55 : decode cX4_score 55 = .ok (.iload_n 3, 1) := by decide +kernel
theorem dX4_score_56 : decode cX4_score 56 = .ok (.imul, 1) := by decide +kernel
theorem dX4_score_57 : decode cX4_score 57 = .ok (.aload_n 0, 1) := by decide +kernel
theorem dX4_score_58 : decode cX4_score 58 = .ok (.getfield 38, 3) := by decide +kernel
theorem dX4_score_61 : decode cX4_score 61 = .ok (.iconst 1, 1) := by decide +kernel
theorem dX4_score_62 : decode cX4_score 62 = .ok (.iaload, 1) := by decide +kernel
theorem dX4_score_63 : decode cX4_score 63 = .ok (.iload 4, 2) := by decide +kernel
theorem dX4_score_65 : decode cX4_score 65 = .ok (.imul, 1) := by decide +kernel
theorem dX4_score_66 : decode cX4_score 66 = .ok (.isub, 1) := by decide +kernel
theorem dX4_score_67 : decode cX4_score 67 = .ok (.aload_n 0, 1) := by decide +kernel
theorem dX4_score_68 : decode cX4_score 68 = .ok (.getfield 38, 3) := by decide +kernel
theorem dX4_score_71 : decode cX4_score 71 = .ok (.iconst 2, 1) := by decide +kernel
theorem dX4_score_72 : decode cX4_score 72 = .ok (.iaload, 1) := by decide +kernel
theorem dX4_score_73 : decode cX4_score 73 = .ok (.aload_n 0, 1) := by decide +kernel
theorem dX4_score_74 : decode cX4_score 74 = .ok (.iload_n 1, 1) := by decide +kernel
theorem dX4_score_75 : decode cX4_score 75 = .ok (.iload_n 2, 1) := by decide +kernel
theorem dX4_score_76 : decode cX4_score 76 = .ok (.invokevirtual 116, 3) := by decide +kernel
theorem dX4_score_79 : decode cX4_score 79 = .ok (.imul, 1) := by decide +kernel
theorem dX4_score_80 : decode cX4_score 80 = .ok (.iadd, 1) := by decide +kernel
theorem dX4_score_81 : decode cX4_score 81 = .ok (.ireturn, 1) := by decide +kernel
theorem dX4_bestHost_0 : decode cX4_bestHost 0 = .ok (.iconst (-1), 1) := by decide +kernel
theorem dX4_bestHost_1 : decode cX4_bestHost 1 = .ok (.istore_n 2, 1) := by decide +kernel
theorem dX4_bestHost_2 : decode cX4_bestHost 2 = .ok (.iconst 0, 1) := by decide +kernel
theorem dX4_bestHost_3 : decode cX4_bestHost 3 = .ok (.istore_n 3, 1) := by decide +kernel
theorem dX4_bestHost_4 : decode cX4_bestHost 4 = .ok (.iconst 0, 1) := by decide +kernel
theorem dX4_bestHost_5 : decode cX4_bestHost 5 = .ok (.istore 4, 2) := by decide +kernel
theorem dX4_bestHost_7 : decode cX4_bestHost 7 = .ok (.iload 4, 2) := by decide +kernel
theorem dX4_bestHost_9 : decode cX4_bestHost 9 = .ok (.aload_n 0, 1) := by decide +kernel
theorem dX4_bestHost_10 : decode cX4_bestHost 10 = .ok (.getfield 30, 3) := by decide +kernel
theorem dX4_bestHost_13 : decode cX4_bestHost 13 = .ok (.getfield 119, 3) := by decide +kernel
theorem dX4_bestHost_16 : decode cX4_bestHost 16 = .ok (.if_icmp .ge 45, 3) := by decide +kernel
theorem dX4_bestHost_19 : decode cX4_bestHost 19 = .ok (.aload_n 0, 1) := by decide +kernel
theorem dX4_bestHost_20 : decode cX4_bestHost 20 = .ok (.iload_n 1, 1) := by decide +kernel
theorem dX4_bestHost_21 : decode cX4_bestHost 21 = .ok (.iload 4, 2) := by decide +kernel
theorem dX4_bestHost_23 : decode cX4_bestHost 23 = .ok (.invokevirtual 120, 3) := by decide +kernel
theorem dX4_bestHost_26 : decode cX4_bestHost 26 = .ok (.ifCond .eq 29, 3) := by decide +kernel
theorem dX4_bestHost_29 : decode cX4_bestHost 29 = .ok (.aload_n 0, 1) := by decide +kernel
theorem dX4_bestHost_30 : decode cX4_bestHost 30 = .ok (.iload_n 1, 1) := by decide +kernel
theorem dX4_bestHost_31 : decode cX4_bestHost 31 = .ok (.iload 4, 2) := by decide +kernel
theorem dX4_bestHost_33 : decode cX4_bestHost 33 = .ok (.invokevirtual 123, 3) := by decide +kernel
theorem dX4_bestHost_36 : decode cX4_bestHost 36 = .ok (.istore 5, 2) := by decide +kernel
theorem dX4_bestHost_38 : decode cX4_bestHost 38 = .ok (.iload_n 2, 1) := by decide +kernel
theorem dX4_bestHost_39 : decode cX4_bestHost 39 = .ok (.iconst (-1), 1) := by decide +kernel
theorem dX4_bestHost_40 : decode cX4_bestHost 40 = .ok (.if_icmp .eq 9, 3) := by decide +kernel
theorem dX4_bestHost_43 : decode cX4_bestHost 43 = .ok (.iload 5, 2) := by decide +kernel
theorem dX4_bestHost_45 : decode cX4_bestHost 45 = .ok (.iload_n 3, 1) := by decide +kernel
theorem dX4_bestHost_46 : decode cX4_bestHost 46 = .ok (.if_icmp .le 9, 3) := by decide +kernel
theorem dX4_bestHost_49 : decode cX4_bestHost 49 = .ok (.iload 4, 2) := by decide +kernel
theorem dX4_bestHost_51 : decode cX4_bestHost 51 = .ok (.istore_n 2, 1) := by decide +kernel
theorem dX4_bestHost_52 : decode cX4_bestHost 52 = .ok (.iload 5, 2) := by decide +kernel
theorem dX4_bestHost_54 : decode cX4_bestHost 54 = .ok (.istore_n 3, 1) := by decide +kernel
theorem dX4_bestHost_55 : decode cX4_bestHost 55 = .ok (.iinc 4 1, 3) := by decide +kernel
theorem dX4_bestHost_58 : decode cX4_bestHost 58 = .ok (.goto (-51), 3) := by decide +kernel
theorem dX4_bestHost_61 : decode cX4_bestHost 61 = .ok (.iload_n 2, 1) := by decide +kernel
theorem dX4_bestHost_62 : decode cX4_bestHost 62 = .ok (.ireturn, 1) := by decide +kernel
theorem dX4_firstFit_0 : decode cX4_firstFit 0 = .ok (.iconst 0, 1) := by decide +kernel
theorem dX4_firstFit_1 : decode cX4_firstFit 1 = .ok (.istore_n 2, 1) := by decide +kernel
theorem dX4_firstFit_2 : decode cX4_firstFit 2 = .ok (.iload_n 2, 1) := by decide +kernel
theorem dX4_firstFit_3 : decode cX4_firstFit 3 = .ok (.aload_n 0, 1) := by decide +kernel
theorem dX4_firstFit_4 : decode cX4_firstFit 4 = .ok (.getfield 30, 3) := by decide +kernel
theorem dX4_firstFit_7 : decode cX4_firstFit 7 = .ok (.getfield 119, 3) := by decide +kernel
theorem dX4_firstFit_10 : decode cX4_firstFit 10 = .ok (.if_icmp .ge 20, 3) := by decide +kernel
theorem dX4_firstFit_13 : decode cX4_firstFit 13 = .ok (.aload_n 0, 1) := by decide +kernel
theorem dX4_firstFit_14 : decode cX4_firstFit 14 = .ok (.iload_n 1, 1) := by decide +kernel
theorem dX4_firstFit_15 : decode cX4_firstFit 15 = .ok (.iload_n 2, 1) := by decide +kernel
theorem dX4_firstFit_16 : decode cX4_firstFit 16 = .ok (.invokevirtual 120, 3) := by decide +kernel
theorem dX4_firstFit_19 : decode cX4_firstFit 19 = .ok (.ifCond .eq 5, 3) := by decide +kernel
theorem dX4_firstFit_22 : decode cX4_firstFit 22 = .ok (.iload_n 2, 1) := by decide +kernel
theorem dX4_firstFit_23 : decode cX4_firstFit 23 = .ok (.ireturn, 1) := by decide +kernel
theorem dX4_firstFit_24 : decode cX4_firstFit 24 = .ok (.iinc 2 1, 3) := by decide +kernel
theorem dX4_firstFit_27 : decode cX4_firstFit 27 = .ok (.goto (-25), 3) := by decide +kernel
theorem dX4_firstFit_30 : decode cX4_firstFit 30 = .ok (.iconst (-1), 1) := by decide +kernel
theorem dX4_firstFit_31 : decode cX4_firstFit 31 = .ok (.ireturn, 1) := by decide +kernel
theorem dX5_init_0 : decode cX5_init 0 = .ok (.aload_n 0, 1) := by decide +kernel
theorem dX5_init_1 : decode cX5_init 1 = .ok (.invokespecial 3, 3) := by decide +kernel
theorem dX5_init_4 : decode cX5_init 4 = .ok (.aload_n 0, 1) := by decide +kernel
theorem dX5_init_5 : decode cX5_init 5 = .ok (.bipush 30, 2) := by decide +kernel
theorem dX5_init_7 : decode cX5_init 7 = .ok (.newarray .int, 2) := by decide +kernel
theorem dX5_init_9 : decode cX5_init 9 = .ok (.putfield 9, 3) := by decide +kernel
theorem dX5_init_12 : decode cX5_init 12 = .ok (.aload_n 0, 1) := by decide +kernel
theorem dX5_init_13 : decode cX5_init 13 = .ok (.bipush 10, 2) := by decide +kernel
theorem dX5_init_15 : decode cX5_init 15 = .ok (.newarray .int, 2) := by decide +kernel
theorem dX5_init_17 : decode cX5_init 17 = .ok (.putfield 15, 3) := by decide +kernel
theorem dX5_init_20 : decode cX5_init 20 = .ok (.aload_n 0, 1) := by decide +kernel
theorem dX5_init_21 : decode cX5_init 21 = .ok (.bipush 10, 2) := by decide +kernel
theorem dX5_init_23 : decode cX5_init 23 = .ok (.newarray .int, 2) := by decide +kernel
theorem dX5_init_25 : decode cX5_init 25 = .ok (.putfield 18, 3) := by decide +kernel
theorem dX5_init_28 : decode cX5_init 28 = .ok (.aload_n 0, 1) := by decide +kernel
theorem dX5_init_29 : decode cX5_init 29 = .ok (.bipush 10, 2) := by decide +kernel
theorem dX5_init_31 : decode cX5_init 31 = .ok (.newarray .boolean, 2) := by decide +kernel
theorem dX5_init_33 : decode cX5_init 33 = .ok (.putfield 21, 3) := by decide +kernel
theorem dX5_init_36 : decode cX5_init 36 = .ok (.return_, 1) := by decide +kernel
theorem dX5_has_0 : decode cX5_has 0 = .ok (.iload_n 1, 1) := by decide +kernel
theorem dX5_has_1 : decode cX5_has 1 = .ok (.ifCond .lt 15, 3) := by decide +kernel
theorem dX5_has_4 : decode cX5_has 4 = .ok (.iload_n 1, 1) := by decide +kernel
theorem dX5_has_5 : decode cX5_has 5 = .ok (.aload_n 0, 1) := by decide +kernel
theorem dX5_has_6 : decode cX5_has 6 = .ok (.getfield 25, 3) := by decide +kernel
theorem dX5_has_9 : decode cX5_has 9 = .ok (.if_icmp .ge 7, 3) := by decide +kernel
theorem dX5_has_12 : decode cX5_has 12 = .ok (.iconst 1, 1) := by decide +kernel
theorem dX5_has_13 : decode cX5_has 13 = .ok (.goto 4, 3) := by decide +kernel
theorem dX5_has_16 : decode cX5_has 16 = .ok (.iconst 0, 1) := by decide +kernel
theorem dX5_has_17 : decode cX5_has 17 = .ok (.ireturn, 1) := by decide +kernel
theorem dX5_add_0 : decode cX5_add 0 = .ok (.aload_n 0, 1) := by decide +kernel
theorem dX5_add_1 : decode cX5_add 1 = .ok (.getfield 25, 3) := by decide +kernel
theorem dX5_add_4 : decode cX5_add 4 = .ok (.istore_n 3, 1) := by decide +kernel
theorem dX5_add_5 : decode cX5_add 5 = .ok (.aload_n 0, 1) := by decide +kernel
theorem dX5_add_6 : decode cX5_add 6 = .ok (.getfield 15, 3) := by decide +kernel
theorem dX5_add_9 : decode cX5_add 9 = .ok (.iload_n 3, 1) := by decide +kernel
theorem dX5_add_10 : decode cX5_add 10 = .ok (.iload_n 1, 1) := by decide +kernel
theorem dX5_add_11 : decode cX5_add 11 = .ok (.iastore, 1) := by decide +kernel
theorem dX5_add_12 : decode cX5_add 12 = .ok (.aload_n 0, 1) := by decide +kernel
theorem dX5_add_13 : decode cX5_add 13 = .ok (.getfield 18, 3) := by decide +kernel
theorem dX5_add_16 : decode cX5_add 16 = .ok (.iload_n 3, 1) := by decide +kernel
theorem dX5_add_17 : decode cX5_add 17 = .ok (.iload_n 2, 1) := by decide +kernel
theorem dX5_add_18 : decode cX5_add 18 = .ok (.iastore, 1) := by decide +kernel
theorem dX5_add_19 : decode cX5_add 19 = .ok (.aload_n 0, 1) := by decide +kernel
theorem dX5_add_20 : decode cX5_add 20 = .ok (.getfield 21, 3) := by decide +kernel
theorem dX5_add_23 : decode cX5_add 23 = .ok (.iload_n 3, 1) := by decide +kernel
theorem dX5_add_24 : decode cX5_add 24 = .ok (.iconst 1, 1) := by decide +kernel
theorem dX5_add_25 : decode cX5_add 25 = .ok (.bastore, 1) := by decide +kernel
theorem dX5_add_26 : decode cX5_add 26 = .ok (.aload_n 0, 1) := by decide +kernel
theorem dX5_add_27 : decode cX5_add 27 = .ok (.dup, 1) := by decide +kernel
theorem dX5_add_28 : decode cX5_add 28 = .ok (.getfield 25, 3) := by decide +kernel
theorem dX5_add_31 : decode cX5_add 31 = .ok (.iconst 1, 1) := by decide +kernel
theorem dX5_add_32 : decode cX5_add 32 = .ok (.iadd, 1) := by decide +kernel
theorem dX5_add_33 : decode cX5_add 33 = .ok (.putfield 25, 3) := by decide +kernel
theorem dX5_add_36 : decode cX5_add 36 = .ok (.iload_n 3, 1) := by decide +kernel
theorem dX5_add_37 : decode cX5_add 37 = .ok (.ireturn, 1) := by decide +kernel
theorem dX5_upNow_0 : decode cX5_upNow 0 = .ok (.iconst 0, 1) := by decide +kernel
theorem dX5_upNow_1 : decode cX5_upNow 1 = .ok (.istore_n 1, 1) := by decide +kernel
theorem dX5_upNow_2 : decode cX5_upNow 2 = .ok (.iconst 0, 1) := by decide +kernel
theorem dX5_upNow_3 : decode cX5_upNow 3 = .ok (.istore_n 2, 1) := by decide +kernel
theorem dX5_upNow_4 : decode cX5_upNow 4 = .ok (.iload_n 2, 1) := by decide +kernel
theorem dX5_upNow_5 : decode cX5_upNow 5 = .ok (.aload_n 0, 1) := by decide +kernel
theorem dX5_upNow_6 : decode cX5_upNow 6 = .ok (.getfield 25, 3) := by decide +kernel
theorem dX5_upNow_9 : decode cX5_upNow 9 = .ok (.if_icmp .ge 26, 3) := by decide +kernel
theorem dX5_upNow_12 : decode cX5_upNow 12 = .ok (.iload_n 1, 1) := by decide +kernel
theorem dX5_upNow_13 : decode cX5_upNow 13 = .ok (.aload_n 0, 1) := by decide +kernel
theorem dX5_upNow_14 : decode cX5_upNow 14 = .ok (.getfield 21, 3) := by decide +kernel
theorem dX5_upNow_17 : decode cX5_upNow 17 = .ok (.iload_n 2, 1) := by decide +kernel
theorem dX5_upNow_18 : decode cX5_upNow 18 = .ok (.baload, 1) := by decide +kernel
theorem dX5_upNow_19 : decode cX5_upNow 19 = .ok (.ifCond .eq 7, 3) := by decide +kernel
theorem dX5_upNow_22 : decode cX5_upNow 22 = .ok (.iconst 1, 1) := by decide +kernel
theorem dX5_upNow_23 : decode cX5_upNow 23 = .ok (.goto 4, 3) := by decide +kernel
theorem dX5_upNow_26 : decode cX5_upNow 26 = .ok (.iconst 0, 1) := by decide +kernel
theorem dX5_upNow_27 : decode cX5_upNow 27 = .ok (.iadd, 1) := by decide +kernel
theorem dX5_upNow_28 : decode cX5_upNow 28 = .ok (.istore_n 1, 1) := by decide +kernel
theorem dX5_upNow_29 : decode cX5_upNow 29 = .ok (.iinc 2 1, 3) := by decide +kernel
theorem dX5_upNow_32 : decode cX5_upNow 32 = .ok (.goto (-28), 3) := by decide +kernel
theorem dX5_upNow_35 : decode cX5_upNow 35 = .ok (.iload_n 1, 1) := by decide +kernel
theorem dX5_upNow_36 : decode cX5_upNow 36 = .ok (.ireturn, 1) := by decide +kernel
theorem dX6_init_0 : decode cX6_init 0 = .ok (.aload_n 0, 1) := by decide +kernel
theorem dX6_init_1 : decode cX6_init 1 = .ok (.invokespecial 3, 3) := by decide +kernel
theorem dX6_init_4 : decode cX6_init 4 = .ok (.aload_n 0, 1) := by decide +kernel
theorem dX6_init_5 : decode cX6_init 5 = .ok (.bipush 24, 2) := by decide +kernel
theorem dX6_init_7 : decode cX6_init 7 = .ok (.newarray .int, 2) := by decide +kernel
theorem dX6_init_9 : decode cX6_init 9 = .ok (.putfield 9, 3) := by decide +kernel
theorem dX6_init_12 : decode cX6_init 12 = .ok (.aload_n 0, 1) := by decide +kernel
theorem dX6_init_13 : decode cX6_init 13 = .ok (.bipush 72, 2) := by decide +kernel
theorem dX6_init_15 : decode cX6_init 15 = .ok (.newarray .int, 2) := by decide +kernel
theorem dX6_init_17 : decode cX6_init 17 = .ok (.putfield 15, 3) := by decide +kernel
theorem dX6_init_20 : decode cX6_init 20 = .ok (.aload_n 0, 1) := by decide +kernel
theorem dX6_init_21 : decode cX6_init 21 = .ok (.bipush 24, 2) := by decide +kernel
theorem dX6_init_23 : decode cX6_init 23 = .ok (.newarray .int, 2) := by decide +kernel
theorem dX6_init_25 : decode cX6_init 25 = .ok (.putfield 18, 3) := by decide +kernel
theorem dX6_init_28 : decode cX6_init 28 = .ok (.aload_n 0, 1) := by decide +kernel
theorem dX6_init_29 : decode cX6_init 29 = .ok (.bipush 24, 2) := by decide +kernel
theorem dX6_init_31 : decode cX6_init 31 = .ok (.newarray .int, 2) := by decide +kernel
theorem dX6_init_33 : decode cX6_init 33 = .ok (.putfield 21, 3) := by decide +kernel
theorem dX6_init_36 : decode cX6_init 36 = .ok (.aload_n 0, 1) := by decide +kernel
theorem dX6_init_37 : decode cX6_init 37 = .ok (.bipush 24, 2) := by decide +kernel
theorem dX6_init_39 : decode cX6_init 39 = .ok (.newarray .int, 2) := by decide +kernel
theorem dX6_init_41 : decode cX6_init 41 = .ok (.putfield 24, 3) := by decide +kernel
theorem dX6_init_44 : decode cX6_init 44 = .ok (.aload_n 0, 1) := by decide +kernel
theorem dX6_init_45 : decode cX6_init 45 = .ok (.bipush 24, 2) := by decide +kernel
theorem dX6_init_47 : decode cX6_init 47 = .ok (.newarray .int, 2) := by decide +kernel
theorem dX6_init_49 : decode cX6_init 49 = .ok (.putfield 27, 3) := by decide +kernel
theorem dX6_init_52 : decode cX6_init 52 = .ok (.aload_n 0, 1) := by decide +kernel
theorem dX6_init_53 : decode cX6_init 53 = .ok (.bipush 24, 2) := by decide +kernel
theorem dX6_init_55 : decode cX6_init 55 = .ok (.newarray .int, 2) := by decide +kernel
theorem dX6_init_57 : decode cX6_init 57 = .ok (.putfield 30, 3) := by decide +kernel
theorem dX6_init_60 : decode cX6_init 60 = .ok (.aload_n 0, 1) := by decide +kernel
theorem dX6_init_61 : decode cX6_init 61 = .ok (.bipush 24, 2) := by decide +kernel
theorem dX6_init_63 : decode cX6_init 63 = .ok (.newarray .int, 2) := by decide +kernel
theorem dX6_init_65 : decode cX6_init 65 = .ok (.putfield 33, 3) := by decide +kernel
theorem dX6_init_68 : decode cX6_init 68 = .ok (.aload_n 0, 1) := by decide +kernel
theorem dX6_init_69 : decode cX6_init 69 = .ok (.bipush 24, 2) := by decide +kernel
theorem dX6_init_71 : decode cX6_init 71 = .ok (.newarray .int, 2) := by decide +kernel
theorem dX6_init_73 : decode cX6_init 73 = .ok (.putfield 36, 3) := by decide +kernel
theorem dX6_init_76 : decode cX6_init 76 = .ok (.aload_n 0, 1) := by decide +kernel
theorem dX6_init_77 : decode cX6_init 77 = .ok (.bipush 24, 2) := by decide +kernel
theorem dX6_init_79 : decode cX6_init 79 = .ok (.newarray .int, 2) := by decide +kernel
theorem dX6_init_81 : decode cX6_init 81 = .ok (.putfield 39, 3) := by decide +kernel
theorem dX6_init_84 : decode cX6_init 84 = .ok (.return_, 1) := by decide +kernel
theorem dX6_has_0 : decode cX6_has 0 = .ok (.iload_n 1, 1) := by decide +kernel
theorem dX6_has_1 : decode cX6_has 1 = .ok (.ifCond .lt 15, 3) := by decide +kernel
theorem dX6_has_4 : decode cX6_has 4 = .ok (.iload_n 1, 1) := by decide +kernel
theorem dX6_has_5 : decode cX6_has 5 = .ok (.aload_n 0, 1) := by decide +kernel
theorem dX6_has_6 : decode cX6_has 6 = .ok (.getfield 42, 3) := by decide +kernel
theorem dX6_has_9 : decode cX6_has 9 = .ok (.if_icmp .ge 7, 3) := by decide +kernel
theorem dX6_has_12 : decode cX6_has 12 = .ok (.iconst 1, 1) := by decide +kernel
theorem dX6_has_13 : decode cX6_has 13 = .ok (.goto 4, 3) := by decide +kernel
theorem dX6_has_16 : decode cX6_has 16 = .ok (.iconst 0, 1) := by decide +kernel
theorem dX6_has_17 : decode cX6_has 17 = .ok (.ireturn, 1) := by decide +kernel
theorem dX6_add_0 : decode cX6_add 0 = .ok (.aload_n 0, 1) := by decide +kernel
theorem dX6_add_1 : decode cX6_add 1 = .ok (.getfield 42, 3) := by decide +kernel
theorem dX6_add_4 : decode cX6_add 4 = .ok (.istore 6, 2) := by decide +kernel
theorem dX6_add_6 : decode cX6_add 6 = .ok (.aload_n 0, 1) := by decide +kernel
theorem dX6_add_7 : decode cX6_add 7 = .ok (.getfield 9, 3) := by decide +kernel
theorem dX6_add_10 : decode cX6_add 10 = .ok (.iload 6, 2) := by decide +kernel
theorem dX6_add_12 : decode cX6_add 12 = .ok (.iload_n 1, 1) := by decide +kernel
theorem dX6_add_13 : decode cX6_add 13 = .ok (.iastore, 1) := by decide +kernel
theorem dX6_add_14 : decode cX6_add 14 = .ok (.aload_n 0, 1) := by decide +kernel
theorem dX6_add_15 : decode cX6_add 15 = .ok (.getfield 18, 3) := by decide +kernel
theorem dX6_add_18 : decode cX6_add 18 = .ok (.iload 6, 2) := by decide +kernel
theorem dX6_add_20 : decode cX6_add 20 = .ok (.iload_n 2, 1) := by decide +kernel
theorem dX6_add_21 : decode cX6_add 21 = .ok (.iastore, 1) := by decide +kernel
theorem dX6_add_22 : decode cX6_add 22 = .ok (.aload_n 0, 1) := by decide +kernel
theorem dX6_add_23 : decode cX6_add 23 = .ok (.getfield 21, 3) := by decide +kernel
theorem dX6_add_26 : decode cX6_add 26 = .ok (.iload 6, 2) := by decide +kernel
theorem dX6_add_28 : decode cX6_add 28 = .ok (.iload_n 3, 1) := by decide +kernel
theorem dX6_add_29 : decode cX6_add 29 = .ok (.iastore, 1) := by decide +kernel
theorem dX6_add_30 : decode cX6_add 30 = .ok (.aload_n 0, 1) := by decide +kernel
theorem dX6_add_31 : decode cX6_add 31 = .ok (.getfield 24, 3) := by decide +kernel
theorem dX6_add_34 : decode cX6_add 34 = .ok (.iload 6, 2) := by decide +kernel
theorem dX6_add_36 : decode cX6_add 36 = .ok (.iload 4, 2) := by decide +kernel
theorem dX6_add_38 : decode cX6_add 38 = .ok (.iastore, 1) := by decide +kernel
theorem dX6_add_39 : decode cX6_add 39 = .ok (.aload_n 0, 1) := by decide +kernel
theorem dX6_add_40 : decode cX6_add 40 = .ok (.getfield 27, 3) := by decide +kernel
theorem dX6_add_43 : decode cX6_add 43 = .ok (.iload 6, 2) := by decide +kernel
theorem dX6_add_45 : decode cX6_add 45 = .ok (.iload 5, 2) := by decide +kernel
theorem dX6_add_47 : decode cX6_add 47 = .ok (.iastore, 1) := by decide +kernel
theorem dX6_add_48 : decode cX6_add 48 = .ok (.aload_n 0, 1) := by decide +kernel
theorem dX6_add_49 : decode cX6_add 49 = .ok (.getfield 39, 3) := by decide +kernel
theorem dX6_add_52 : decode cX6_add 52 = .ok (.iload 6, 2) := by decide +kernel
theorem dX6_add_54 : decode cX6_add 54 = .ok (.iconst (-1), 1) := by decide +kernel
theorem dX6_add_55 : decode cX6_add 55 = .ok (.iastore, 1) := by decide +kernel
theorem dX6_add_56 : decode cX6_add 56 = .ok (.aload_n 0, 1) := by decide +kernel
theorem dX6_add_57 : decode cX6_add 57 = .ok (.iload 6, 2) := by decide +kernel
theorem dX6_add_59 : decode cX6_add 59 = .ok (.iconst 0, 1) := by decide +kernel
theorem dX6_add_60 : decode cX6_add 60 = .ok (.invokevirtual 46, 3) := by decide +kernel
theorem dX6_add_63 : decode cX6_add 63 = .ok (.aload_n 0, 1) := by decide +kernel
theorem dX6_add_64 : decode cX6_add 64 = .ok (.dup, 1) := by decide +kernel
theorem dX6_add_65 : decode cX6_add 65 = .ok (.getfield 42, 3) := by decide +kernel
theorem dX6_add_68 : decode cX6_add 68 = .ok (.iconst 1, 1) := by decide +kernel
theorem dX6_add_69 : decode cX6_add 69 = .ok (.iadd, 1) := by decide +kernel
theorem dX6_add_70 : decode cX6_add 70 = .ok (.putfield 42, 3) := by decide +kernel
theorem dX6_add_73 : decode cX6_add 73 = .ok (.iload 6, 2) := by decide +kernel
theorem dX6_add_75 : decode cX6_add 75 = .ok (.ireturn, 1) := by decide +kernel
theorem dX6_settle_0 : decode cX6_settle 0 = .ok (.aload_n 0, 1) := by decide +kernel
theorem dX6_settle_1 : decode cX6_settle 1 = .ok (.dup, 1) := by decide +kernel
theorem dX6_settle_2 : decode cX6_settle 2 = .ok (.getfield 50, 3) := by decide +kernel
theorem dX6_settle_5 : decode cX6_settle 5 = .ok (.iconst 1, 1) := by decide +kernel
theorem dX6_settle_6 : decode cX6_settle 6 = .ok (.iadd, 1) := by decide +kernel
theorem dX6_settle_7 : decode cX6_settle 7 = .ok (.putfield 50, 3) := by decide +kernel
theorem dX6_settle_10 : decode cX6_settle 10 = .ok (.aload_n 0, 1) := by decide +kernel
theorem dX6_settle_11 : decode cX6_settle 11 = .ok (.getfield 30, 3) := by decide +kernel
theorem dX6_settle_14 : decode cX6_settle 14 = .ok (.iload_n 1, 1) := by decide +kernel
theorem dX6_settle_15 : decode cX6_settle 15 = .ok (.iconst 1, 1) := by decide +kernel
theorem dX6_settle_16 : decode cX6_settle 16 = .ok (.iastore, 1) := by decide +kernel
theorem dX6_settle_17 : decode cX6_settle 17 = .ok (.aload_n 0, 1) := by decide +kernel
theorem dX6_settle_18 : decode cX6_settle 18 = .ok (.getfield 33, 3) := by decide +kernel
theorem dX6_settle_21 : decode cX6_settle 21 = .ok (.iload_n 1, 1) := by decide +kernel
theorem dX6_settle_22 : decode cX6_settle 22 = .ok (.iload_n 2, 1) := by decide +kernel
theorem dX6_settle_23 : decode cX6_settle 23 = .ok (.iastore, 1) := by decide +kernel
theorem dX6_settle_24 : decode cX6_settle 24 = .ok (.aload_n 0, 1) := by decide +kernel
theorem dX6_settle_25 : decode cX6_settle 25 = .ok (.getfield 36, 3) := by decide +kernel
theorem dX6_settle_28 : decode cX6_settle 28 = .ok (.iload_n 1, 1) := by decide +kernel
theorem dX6_settle_29 : decode cX6_settle 29 = .ok (.aload_n 0, 1) := by decide +kernel
theorem dX6_settle_30 : decode cX6_settle 30 = .ok (.getfield 50, 3) := by decide +kernel
theorem dX6_settle_33 : decode cX6_settle 33 = .ok (.iastore, 1) := by decide +kernel
theorem dX6_settle_34 : decode cX6_settle 34 = .ok (.return_, 1) := by decide +kernel
theorem dX6_leave_0 : decode cX6_leave 0 = .ok (.aload_n 0, 1) := by decide +kernel
theorem dX6_leave_1 : decode cX6_leave 1 = .ok (.getfield 30, 3) := by decide +kernel
theorem dX6_leave_4 : decode cX6_leave 4 = .ok (.iload_n 1, 1) := by decide +kernel
theorem dX6_leave_5 : decode cX6_leave 5 = .ok (.iload_n 2, 1) := by decide +kernel
theorem dX6_leave_6 : decode cX6_leave 6 = .ok (.iastore, 1) := by decide +kernel
theorem dX6_leave_7 : decode cX6_leave 7 = .ok (.aload_n 0, 1) := by decide +kernel
theorem dX6_leave_8 : decode cX6_leave 8 = .ok (.getfield 33, 3) := by decide +kernel
theorem dX6_leave_11 : decode cX6_leave 11 = .ok (.iload_n 1, 1) := by decide +kernel
theorem dX6_leave_12 : decode cX6_leave 12 = .ok (.iconst (-1), 1) := by decide +kernel
theorem dX6_leave_13 : decode cX6_leave 13 = .ok (.iastore, 1) := by decide +kernel
theorem dX6_leave_14 : decode cX6_leave 14 = .ok (.aload_n 0, 1) := by decide +kernel
theorem dX6_leave_15 : decode cX6_leave 15 = .ok (.getfield 36, 3) := by decide +kernel
theorem dX6_leave_18 : decode cX6_leave 18 = .ok (.iload_n 1, 1) := by decide +kernel
theorem dX6_leave_19 : decode cX6_leave 19 = .ok (.iconst 0, 1) := by decide +kernel
theorem dX6_leave_20 : decode cX6_leave 20 = .ok (.iastore, 1) := by decide +kernel
theorem dX6_leave_21 : decode cX6_leave 21 = .ok (.return_, 1) := by decide +kernel
theorem dX6_standsOn_0 : decode cX6_standsOn 0 = .ok (.aload_n 0, 1) := by decide +kernel
theorem dX6_standsOn_1 : decode cX6_standsOn 1 = .ok (.getfield 30, 3) := by decide +kernel
theorem dX6_standsOn_4 : decode cX6_standsOn 4 = .ok (.iload_n 1, 1) := by decide +kernel
theorem dX6_standsOn_5 : decode cX6_standsOn 5 = .ok (.iaload, 1) := by decide +kernel
theorem dX6_standsOn_6 : decode cX6_standsOn 6 = .ok (.iconst 1, 1) := by decide +kernel
theorem dX6_standsOn_7 : decode cX6_standsOn 7 = .ok (.if_icmp .ne 17, 3) := by decide +kernel
theorem dX6_standsOn_10 : decode cX6_standsOn 10 = .ok (.aload_n 0, 1) := by decide +kernel
theorem dX6_standsOn_11 : decode cX6_standsOn 11 = .ok (.getfield 33, 3) := by decide +kernel
theorem dX6_standsOn_14 : decode cX6_standsOn 14 = .ok (.iload_n 1, 1) := by decide +kernel
theorem dX6_standsOn_15 : decode cX6_standsOn 15 = .ok (.iaload, 1) := by decide +kernel
theorem dX6_standsOn_16 : decode cX6_standsOn 16 = .ok (.iload_n 2, 1) := by decide +kernel
theorem dX6_standsOn_17 : decode cX6_standsOn 17 = .ok (.if_icmp .ne 7, 3) := by decide +kernel
theorem dX6_standsOn_20 : decode cX6_standsOn 20 = .ok (.iconst 1, 1) := by decide +kernel
theorem dX6_standsOn_21 : decode cX6_standsOn 21 = .ok (.goto 4, 3) := by decide +kernel
theorem dX6_standsOn_24 : decode cX6_standsOn 24 = .ok (.iconst 0, 1) := by decide +kernel
theorem dX6_standsOn_25 : decode cX6_standsOn 25 = .ok (.ireturn, 1) := by decide +kernel
theorem dX6_canLeave_0 : decode cX6_canLeave 0 = .ok (.aload_n 0, 1) := by decide +kernel
theorem dX6_canLeave_1 : decode cX6_canLeave 1 = .ok (.getfield 30, 3) := by decide +kernel
theorem dX6_canLeave_4 : decode cX6_canLeave 4 = .ok (.iload_n 1, 1) := by decide +kernel
theorem dX6_canLeave_5 : decode cX6_canLeave 5 = .ok (.iaload, 1) := by decide +kernel
theorem dX6_canLeave_6 : decode cX6_canLeave 6 = .ok (.iconst 1, 1) := by decide +kernel
theorem dX6_canLeave_7 : decode cX6_canLeave 7 = .ok (.if_icmp .ne 17, 3) := by decide +kernel
theorem dX6_canLeave_10 : decode cX6_canLeave 10 = .ok (.aload_n 0, 1) := by decide +kernel
theorem dX6_canLeave_11 : decode cX6_canLeave 11 = .ok (.getfield 9, 3) := by decide +kernel
theorem dX6_canLeave_14 : decode cX6_canLeave 14 = .ok (.iload_n 1, 1) := by decide +kernel
theorem dX6_canLeave_15 : decode cX6_canLeave 15 = .ok (.iaload, 1) := by decide +kernel
theorem dX6_canLeave_16 : decode cX6_canLeave 16 = .ok (.iconst 3, 1) := by decide +kernel
theorem dX6_canLeave_17 : decode cX6_canLeave 17 = .ok (.if_icmp .eq 7, 3) := by decide +kernel
theorem dX6_canLeave_20 : decode cX6_canLeave 20 = .ok (.iconst 1, 1) := by decide +kernel
theorem dX6_canLeave_21 : decode cX6_canLeave 21 = .ok (.goto 4, 3) := by decide +kernel
theorem dX6_canLeave_24 : decode cX6_canLeave 24 = .ok (.iconst 0, 1) := by decide +kernel
theorem dX6_canLeave_25 : decode cX6_canLeave 25 = .ok (.ireturn, 1) := by decide +kernel
theorem dX6_inState_0 : decode cX6_inState 0 = .ok (.iconst 0, 1) := by decide +kernel
theorem dX6_inState_1 : decode cX6_inState 1 = .ok (.istore_n 2, 1) := by decide +kernel
theorem dX6_inState_2 : decode cX6_inState 2 = .ok (.iconst 0, 1) := by decide +kernel
theorem dX6_inState_3 : decode cX6_inState 3 = .ok (.istore_n 3, 1) := by decide +kernel
theorem dX6_inState_4 : decode cX6_inState 4 = .ok (.iload_n 3, 1) := by decide +kernel
theorem dX6_inState_5 : decode cX6_inState 5 = .ok (.aload_n 0, 1) := by decide +kernel
theorem dX6_inState_6 : decode cX6_inState 6 = .ok (.getfield 42, 3) := by decide +kernel
theorem dX6_inState_9 : decode cX6_inState 9 = .ok (.if_icmp .ge 27, 3) := by decide +kernel
theorem dX6_inState_12 : decode cX6_inState 12 = .ok (.iload_n 2, 1) := by decide +kernel
theorem dX6_inState_13 : decode cX6_inState 13 = .ok (.aload_n 0, 1) := by decide +kernel
theorem dX6_inState_14 : decode cX6_inState 14 = .ok (.getfield 30, 3) := by decide +kernel
theorem dX6_inState_17 : decode cX6_inState 17 = .ok (.iload_n 3, 1) := by decide +kernel
theorem dX6_inState_18 : decode cX6_inState 18 = .ok (.iaload, 1) := by decide +kernel
theorem dX6_inState_19 : decode cX6_inState 19 = .ok (.iload_n 1, 1) := by decide +kernel
theorem dX6_inState_20 : decode cX6_inState 20 = .ok (.if_icmp .ne 7, 3) := by decide +kernel
theorem dX6_inState_23 : decode cX6_inState 23 = .ok (.iconst 1, 1) := by decide +kernel
theorem dX6_inState_24 : decode cX6_inState 24 = .ok (.goto 4, 3) := by decide +kernel
theorem dX6_inState_27 : decode cX6_inState 27 = .ok (.iconst 0, 1) := by decide +kernel
theorem dX6_inState_28 : decode cX6_inState 28 = .ok (.iadd, 1) := by decide +kernel
theorem dX6_inState_29 : decode cX6_inState 29 = .ok (.istore_n 2, 1) := by decide +kernel
theorem dX6_inState_30 : decode cX6_inState 30 = .ok (.iinc 3 1, 3) := by decide +kernel
theorem dX6_inState_33 : decode cX6_inState 33 = .ok (.goto (-29), 3) := by decide +kernel
theorem dX6_inState_36 : decode cX6_inState 36 = .ok (.iload_n 2, 1) := by decide +kernel
theorem dX6_inState_37 : decode cX6_inState 37 = .ok (.ireturn, 1) := by decide +kernel
theorem dX6_targets_0 : decode cX6_targets 0 = .ok (.iconst 0, 1) := by decide +kernel
theorem dX6_targets_1 : decode cX6_targets 1 = .ok (.istore_n 1, 1) := by decide +kernel
theorem dX6_targets_2 : decode cX6_targets 2 = .ok (.iconst 0, 1) := by decide +kernel
theorem dX6_targets_3 : decode cX6_targets 3 = .ok (.istore_n 2, 1) := by decide +kernel
theorem dX6_targets_4 : decode cX6_targets 4 = .ok (.iload_n 2, 1) := by decide +kernel
theorem dX6_targets_5 : decode cX6_targets 5 = .ok (.aload_n 0, 1) := by decide +kernel
