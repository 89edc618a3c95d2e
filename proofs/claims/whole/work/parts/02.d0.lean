theorem dX0_init_0 : decode cX0_init 0 = .ok (.aload_n 0, 1) := by decide +kernel
theorem dX0_init_1 : decode cX0_init 1 = .ok (.invokespecial 3, 3) := by decide +kernel
theorem dX0_init_4 : decode cX0_init 4 = .ok (.aload_n 0, 1) := by decide +kernel
theorem dX0_init_5 : decode cX0_init 5 = .ok (.aload_n 1, 1) := by decide +kernel
theorem dX0_init_6 : decode cX0_init 6 = .ok (.putfield 9, 3) := by decide +kernel
theorem dX0_init_9 : decode cX0_init 9 = .ok (.aload_n 0, 1) := by decide +kernel
theorem dX0_init_10 : decode cX0_init 10 = .ok (.aload_n 1, 1) := by decide +kernel
theorem dX0_init_11 : decode cX0_init 11 = .ok (.getfield 15, 3) := by decide +kernel
theorem dX0_init_14 : decode cX0_init 14 = .ok (.putfield 21, 3) := by decide +kernel
theorem dX0_init_17 : decode cX0_init 17 = .ok (.aload_n 0, 1) := by decide +kernel
theorem dX0_init_18 : decode cX0_init 18 = .ok (.aload_n 1, 1) := by decide +kernel
theorem dX0_init_19 : decode cX0_init 19 = .ok (.getfield 22, 3) := by decide +kernel
theorem dX0_init_22 : decode cX0_init 22 = .ok (.putfield 26, 3) := by decide +kernel
theorem dX0_init_25 : decode cX0_init 25 = .ok (.return_, 1) := by decide +kernel
theorem dX0_part_0 : decode cX0_part 0 = .ok (.iload_n 1, 1) := by decide +kernel
theorem dX0_part_1 : decode cX0_part 1 = .ok (.tableswitch 42 0 2 #[27, 32, 37], 27) := by decide +kernel
theorem dX0_part_28 : decode cX0_part 28 = .ok (.aload_n 0, 1) := by decide +kernel
theorem dX0_part_29 : decode cX0_part 29 = .ok (.getfield 27, 3) := by decide +kernel
theorem dX0_part_32 : decode cX0_part 32 = .ok (.ireturn, 1) := by decide +kernel
theorem dX0_part_33 : decode cX0_part 33 = .ok (.aload_n 0, 1) := by decide +kernel
theorem dX0_part_34 : decode cX0_part 34 = .ok (.getfield 31, 3) := by decide +kernel
theorem dX0_part_37 : decode cX0_part 37 = .ok (.ireturn, 1) := by decide +kernel
theorem dX0_part_38 : decode cX0_part 38 = .ok (.aload_n 0, 1) := by decide +kernel
theorem dX0_part_39 : decode cX0_part 39 = .ok (.getfield 34, 3) := by decide +kernel
theorem dX0_part_42 : decode cX0_part 42 = .ok (.ireturn, 1) := by decide +kernel
theorem dX0_part_43 : decode cX0_part 43 = .ok (.aload_n 0, 1) := by decide +kernel
theorem dX0_part_44 : decode cX0_part 44 = .ok (.getfield 37, 3) := by decide +kernel
theorem dX0_part_47 : decode cX0_part 47 = .ok (.ireturn, 1) := by decide +kernel
theorem dX0_find_0 : decode cX0_find 0 = .ok (.aload_n 0, 1) := by decide +kernel
theorem dX0_find_1 : decode cX0_find 1 = .ok (.iconst (-1), 1) := by decide +kernel
theorem dX0_find_2 : decode cX0_find 2 = .ok (.putfield 34, 3) := by decide +kernel
theorem dX0_find_5 : decode cX0_find 5 = .ok (.aload_n 0, 1) := by decide +kernel
theorem dX0_find_6 : decode cX0_find 6 = .ok (.iconst 0, 1) := by decide +kernel
theorem dX0_find_7 : decode cX0_find 7 = .ok (.putfield 37, 3) := by decide +kernel
theorem dX0_find_10 : decode cX0_find 10 = .ok (.aload_n 0, 1) := by decide +kernel
theorem dX0_find_11 : decode cX0_find 11 = .ok (.iload_n 1, 1) := by decide +kernel
theorem dX0_find_12 : decode cX0_find 12 = .ok (.invokevirtual 40, 3) := by decide +kernel
theorem dX0_find_15 : decode cX0_find 15 = .ok (.ifCond .ne 19, 3) := by decide +kernel
theorem dX0_find_18 : decode cX0_find 18 = .ok (.aload_n 0, 1) := by decide +kernel
theorem dX0_find_19 : decode cX0_find 19 = .ok (.iload_n 1, 1) := by decide +kernel
theorem dX0_find_20 : decode cX0_find 20 = .ok (.invokevirtual 44, 3) := by decide +kernel
theorem dX0_find_23 : decode cX0_find 23 = .ok (.ifCond .ne 11, 3) := by decide +kernel
theorem dX0_find_26 : decode cX0_find 26 = .ok (.aload_n 0, 1) := by decide +kernel
theorem dX0_find_27 : decode cX0_find 27 = .ok (.iload_n 1, 1) := by decide +kernel
theorem dX0_find_28 : decode cX0_find 28 = .ok (.invokevirtual 47, 3) := by decide +kernel
theorem dX0_find_31 : decode cX0_find 31 = .ok (.ifCond .eq 7, 3) := by decide +kernel
theorem dX0_find_34 : decode cX0_find 34 = .ok (.iconst 1, 1) := by decide +kernel
theorem dX0_find_35 : decode cX0_find 35 = .ok (.goto 4, 3) := by decide +kernel
theorem dX0_find_38 : decode cX0_find 38 = .ok (.iconst 0, 1) := by decide +kernel
theorem dX0_find_39 : decode cX0_find 39 = .ok (.ireturn, 1) := by decide +kernel
theorem dX0_byTaint_0 : decode cX0_byTaint 0 = .ok (.aload_n 0, 1) := by decide +kernel
theorem dX0_byTaint_1 : decode cX0_byTaint 1 = .ok (.iconst 1, 1) := by decide +kernel
theorem dX0_byTaint_2 : decode cX0_byTaint 2 = .ok (.putfield 27, 3) := by decide +kernel
theorem dX0_byTaint_5 : decode cX0_byTaint 5 = .ok (.aload_n 0, 1) := by decide +kernel
theorem dX0_byTaint_6 : decode cX0_byTaint 6 = .ok (.getfield 26, 3) := by decide +kernel
theorem dX0_byTaint_9 : decode cX0_byTaint 9 = .ok (.getfield 50, 3) := by decide +kernel
theorem dX0_byTaint_12 : decode cX0_byTaint 12 = .ok (.iload_n 1, 1) := by decide +kernel
theorem dX0_byTaint_13 : decode cX0_byTaint 13 = .ok (.iaload, 1) := by decide +kernel
theorem dX0_byTaint_14 : decode cX0_byTaint 14 = .ok (.istore_n 2, 1) := by decide +kernel
theorem dX0_byTaint_15 : decode cX0_byTaint 15 = .ok (.iconst 0, 1) := by decide +kernel
theorem dX0_byTaint_16 : decode cX0_byTaint 16 = .ok (.istore_n 3, 1) := by decide +kernel
theorem dX0_byTaint_17 : decode cX0_byTaint 17 = .ok (.iload_n 3, 1) := by decide +kernel
theorem dX0_byTaint_18 : decode cX0_byTaint 18 = .ok (.bipush 8, 2) := by decide +kernel
theorem dX0_byTaint_20 : decode cX0_byTaint 20 = .ok (.if_icmp .ge 48, 3) := by decide +kernel
theorem dX0_byTaint_23 : decode cX0_byTaint 23 = .ok (.aload_n 0, 1) := by decide +kernel
theorem dX0_byTaint_24 : decode cX0_byTaint 24 = .ok (.getfield 34, 3) := by decide +kernel
theorem dX0_byTaint_27 : decode cX0_byTaint 27 = .ok (.iconst (-1), 1) := by decide +kernel
theorem dX0_byTaint_28 : decode cX0_byTaint 28 = .ok (.if_icmp .ne 40, 3) := by decide +kernel
theorem dX0_byTaint_31 : decode cX0_byTaint 31 = .ok (.aload_n 0, 1) := by decide +kernel
theorem dX0_byTaint_32 : decode cX0_byTaint 32 = .ok (.getfield 26, 3) := by decide +kernel
theorem dX0_byTaint_35 : decode cX0_byTaint 35 = .ok (.getfield 50, 3) := by decide +kernel
theorem dX0_byTaint_38 : decode cX0_byTaint 38 = .ok (.iload_n 1, 1) := by decide +kernel
theorem dX0_byTaint_39 : decode cX0_byTaint 39 = .ok (.iload_n 2, 1) := by decide +kernel
theorem dX0_byTaint_40 : decode cX0_byTaint 40 = .ok (.iconst 1, 1) := by decide +kernel
theorem dX0_byTaint_41 : decode cX0_byTaint 41 = .ok (.iload_n 3, 1) := by decide +kernel
theorem dX0_byTaint_42 : decode cX0_byTaint 42 = .ok (.ishl, 1) := by decide +kernel
theorem dX0_byTaint_43 : decode cX0_byTaint 43 = .ok (.ior, 1) := by decide +kernel
theorem dX0_byTaint_44 : decode cX0_byTaint 44 = .ok (.iastore, 1) := by decide +kernel
theorem dX0_byTaint_45 : decode cX0_byTaint 45 = .ok (.aload_n 0, 1) := by decide +kernel
theorem dX0_byTaint_46 : decode cX0_byTaint 46 = .ok (.iload_n 3, 1) := by decide +kernel
theorem dX0_byTaint_47 : decode cX0_byTaint 47 = .ok (.putfield 31, 3) := by decide +kernel
theorem dX0_byTaint_50 : decode cX0_byTaint 50 = .ok (.aload_n 0, 1) := by decide +kernel
theorem dX0_byTaint_51 : decode cX0_byTaint 51 = .ok (.aload_n 0, 1) := by decide +kernel
theorem dX0_byTaint_52 : decode cX0_byTaint 52 = .ok (.getfield 9, 3) := by decide +kernel
theorem dX0_byTaint_55 : decode cX0_byTaint 55 = .ok (.iload_n 1, 1) := by decide +kernel
theorem dX0_byTaint_56 : decode cX0_byTaint 56 = .ok (.invokevirtual 56, 3) := by decide +kernel
theorem dX0_byTaint_59 : decode cX0_byTaint 59 = .ok (.putfield 34, 3) := by decide +kernel
theorem dX0_byTaint_62 : decode cX0_byTaint 62 = .ok (.iinc 3 1, 3) := by decide +kernel
theorem dX0_byTaint_65 : decode cX0_byTaint 65 = .ok (.goto (-48), 3) := by decide +kernel
theorem dX0_byTaint_68 : decode cX0_byTaint 68 = .ok (.aload_n 0, 1) := by decide +kernel
theorem dX0_byTaint_69 : decode cX0_byTaint 69 = .ok (.getfield 26, 3) := by decide +kernel
theorem dX0_byTaint_72 : decode cX0_byTaint 72 = .ok (.getfield 50, 3) := by decide +kernel
theorem dX0_byTaint_75 : decode cX0_byTaint 75 = .ok (.iload_n 1, 1) := by decide +kernel
theorem dX0_byTaint_76 : decode cX0_byTaint 76 = .ok (.iload_n 2, 1) := by decide +kernel
theorem dX0_byTaint_77 : decode cX0_byTaint 77 = .ok (.iastore, 1) := by decide +kernel
theorem dX0_byTaint_78 : decode cX0_byTaint 78 = .ok (.aload_n 0, 1) := by decide +kernel
theorem dX0_byTaint_79 : decode cX0_byTaint 79 = .ok (.getfield 34, 3) := by decide +kernel
theorem dX0_byTaint_82 : decode cX0_byTaint 82 = .ok (.iconst (-1), 1) := by decide +kernel
theorem dX0_byTaint_83 : decode cX0_byTaint 83 = .ok (.if_icmp .eq 7, 3) := by decide +kernel
theorem dX0_byTaint_86 : decode cX0_byTaint 86 = .ok (.iconst 1, 1) := by decide +kernel
theorem dX0_byTaint_87 : decode cX0_byTaint 87 = .ok (.goto 4, 3) := by decide +kernel
theorem dX0_byTaint_90 : decode cX0_byTaint 90 = .ok (.iconst 0, 1) := by decide +kernel
theorem dX0_byTaint_91 : decode cX0_byTaint 91 = .ok (.ireturn, 1) := by decide +kernel
theorem dX0_byAmount_0 : decode cX0_byAmount 0 = .ok (.aload_n 0, 1) := by decide +kernel
theorem dX0_byAmount_1 : decode cX0_byAmount 1 = .ok (.iconst 2, 1) := by decide +kernel
theorem dX0_byAmount_2 : decode cX0_byAmount 2 = .ok (.putfield 27, 3) := by decide +kernel
theorem dX0_byAmount_5 : decode cX0_byAmount 5 = .ok (.iconst 0, 1) := by decide +kernel
theorem dX0_byAmount_6 : decode cX0_byAmount 6 = .ok (.istore_n 2, 1) := by decide +kernel
theorem dX0_byAmount_7 : decode cX0_byAmount 7 = .ok (.iload_n 2, 1) := by decide +kernel
theorem dX0_byAmount_8 : decode cX0_byAmount 8 = .ok (.aload_n 0, 1) := by decide +kernel
theorem dX0_byAmount_9 : decode cX0_byAmount 9 = .ok (.getfield 21, 3) := by decide +kernel
theorem dX0_byAmount_12 : decode cX0_byAmount 12 = .ok (.getfield 60, 3) := by decide +kernel
theorem dX0_byAmount_15 : decode cX0_byAmount 15 = .ok (.if_icmp .ge 96, 3) := by decide +kernel
theorem dX0_byAmount_18 : decode cX0_byAmount 18 = .ok (.iconst 0, 1) := by decide +kernel
theorem dX0_byAmount_19 : decode cX0_byAmount 19 = .ok (.istore_n 3, 1) := by decide +kernel
theorem dX0_byAmount_20 : decode cX0_byAmount 20 = .ok (.iload_n 3, 1) := by decide +kernel
theorem dX0_byAmount_21 : decode cX0_byAmount 21 = .ok (.iconst 3, 1) := by decide +kernel
theorem dX0_byAmount_22 : decode cX0_byAmount 22 = .ok (.if_icmp .ge 83, 3) := by decide +kernel
theorem dX0_byAmount_25 : decode cX0_byAmount 25 = .ok (.aload_n 0, 1) := by decide +kernel
theorem dX0_byAmount_26 : decode cX0_byAmount 26 = .ok (.getfield 9, 3) := by decide +kernel
theorem dX0_byAmount_29 : decode cX0_byAmount 29 = .ok (.iload_n 1, 1) := by decide +kernel
theorem dX0_byAmount_30 : decode cX0_byAmount 30 = .ok (.iload_n 2, 1) := by decide +kernel
theorem dX0_byAmount_31 : decode cX0_byAmount 31 = .ok (.iload_n 3, 1) := by decide +kernel
theorem dX0_byAmount_32 : decode cX0_byAmount 32 = .ok (.invokevirtual 65, 3) := by decide +kernel
theorem dX0_byAmount_35 : decode cX0_byAmount 35 = .ok (.istore 4, 2) := by decide +kernel
theorem dX0_byAmount_37 : decode cX0_byAmount 37 = .ok (.aload_n 0, 1) := by decide +kernel
theorem dX0_byAmount_38 : decode cX0_byAmount 38 = .ok (.getfield 34, 3) := by decide +kernel
theorem dX0_byAmount_41 : decode cX0_byAmount 41 = .ok (.iconst (-1), 1) := by decide +kernel
theorem dX0_byAmount_42 : decode cX0_byAmount 42 = .ok (.if_icmp .eq 12, 3) := by decide +kernel
theorem dX0_byAmount_45 : decode cX0_byAmount 45 = .ok (.iload 4, 2) := by decide +kernel
theorem dX0_byAmount_47 : decode cX0_byAmount 47 = .ok (.aload_n 0, 1) := by decide +kernel
theorem dX0_byAmount_48 : decode cX0_byAmount 48 = .ok (.getfield 37, 3) := by decide +kernel
theorem dX0_byAmount_51 : decode cX0_byAmount 51 = .ok (.if_icmp .ge 7, 3) := by decide +kernel
theorem dX0_byAmount_54 : decode cX0_byAmount 54 = .ok (.iconst 1, 1) := by decide +kernel
theorem dX0_byAmount_55 : decode cX0_byAmount 55 = .ok (.goto 4, 3) := by decide +kernel
theorem dX0_byAmount_58 : decode cX0_byAmount 58 = .ok (.iconst 0, 1) := by decide +kernel
theorem dX0_byAmount_59 : decode cX0_byAmount 59 = .ok (.istore 5, 2) := by decide +kernel
theorem dX0_byAmount_61 : decode cX0_byAmount 61 = .ok (.iload 4, 2) := by decide +kernel
theorem dX0_byAmount_63 : decode cX0_byAmount 63 = .ok (.ifCond .le 36, 3) := by decide +kernel
theorem dX0_byAmount_66 : decode cX0_byAmount 66 = .ok (.iload 5, 2) := by decide +kernel
theorem dX0_byAmount_68 : decode cX0_byAmount 68 = .ok (.ifCond .eq 31, 3) := by decide +kernel
theorem dX0_byAmount_71 : decode cX0_byAmount 71 = .ok (.aload_n 0, 1) := by decide +kernel
theorem dX0_byAmount_72 : decode cX0_byAmount 72 = .ok (.iload_n 1, 1) := by decide +kernel
theorem dX0_byAmount_73 : decode cX0_byAmount 73 = .ok (.iload_n 2, 1) := by decide +kernel
theorem dX0_byAmount_74 : decode cX0_byAmount 74 = .ok (.iload_n 3, 1) := by decide +kernel
theorem dX0_byAmount_75 : decode cX0_byAmount 75 = .ok (.iload 4, 2) := by decide +kernel
theorem dX0_byAmount_77 : decode cX0_byAmount 77 = .ok (.invokevirtual 69, 3) := by decide +kernel
theorem dX0_byAmount_80 : decode cX0_byAmount 80 = .ok (.ifCond .eq 19, 3) := by decide +kernel
theorem dX0_byAmount_83 : decode cX0_byAmount 83 = .ok (.aload_n 0, 1) := by decide +kernel
theorem dX0_byAmount_84 : decode cX0_byAmount 84 = .ok (.iload_n 3, 1) := by decide +kernel
theorem dX0_byAmount_85 : decode cX0_byAmount 85 = .ok (.putfield 31, 3) := by decide +kernel
theorem dX0_byAmount_88 : decode cX0_byAmount 88 = .ok (.aload_n 0, 1) := by decide +kernel
theorem dX0_byAmount_89 : decode cX0_byAmount 89 = .ok (.iload_n 2, 1) := by decide +kernel
theorem dX0_byAmount_90 : decode cX0_byAmount 90 = .ok (.putfield 34, 3) := by decide +kernel
theorem dX0_byAmount_93 : decode cX0_byAmount 93 = .ok (.aload_n 0, 1) := by decide +kernel
theorem dX0_byAmount_94 : decode cX0_byAmount 94 = .ok (.iload 4, 2) := by decide +kernel
theorem dX0_byAmount_96 : decode cX0_byAmount 96 = .ok (.putfield 37, 3) := by decide +kernel
theorem dX0_byAmount_99 : decode cX0_byAmount 99 = .ok (.iinc 3 1, 3) := by decide +kernel
theorem dX0_byAmount_102 : decode cX0_byAmount 102 = .ok (.goto (-82), 3) := by decide +kernel
theorem dX0_byAmount_105 : decode cX0_byAmount 105 = .ok (.iinc 2 1, 3) := by decide +kernel
theorem dX0_byAmount_108 : decode cX0_byAmount 108 = .ok (.goto (-101), 3) := by decide +kernel
theorem dX0_byAmount_111 : decode cX0_byAmount 111 = .ok (.aload_n 0, 1) := by decide +kernel
theorem dX0_byAmount_112 : decode cX0_byAmount 112 = .ok (.getfield 34, 3) := by decide +kernel
theorem dX0_byAmount_115 : decode cX0_byAmount 115 = .ok (.iconst (-1), 1) := by decide +kernel
theorem dX0_byAmount_116 : decode cX0_byAmount 116 = .ok (.if_icmp .eq 7, 3) := by decide +kernel
theorem dX0_byAmount_119 : decode cX0_byAmount 119 = .ok (.iconst 1, 1) := by decide +kernel
theorem dX0_byAmount_120 : decode cX0_byAmount 120 = .ok (.goto 4, 3) := by decide +kernel
theorem dX0_byAmount_123 : decode cX0_byAmount 123 = .ok (.iconst 0, 1) := by decide +kernel
theorem dX0_byAmount_124 : decode cX0_byAmount 124 = .ok (.ireturn, 1) := by decide +kernel
theorem dX0_fitsWithLess_0 : decode cX0_fitsWithLess 0 = .ok (.aload_n 0, 1) := by decide +kernel
theorem dX0_fitsWithLess_1 : decode cX0_fitsWithLess 1 = .ok (.getfield 26, 3) := by decide +kernel
theorem dX0_fitsWithLess_4 : decode cX0_fitsWithLess 4 = .ok (.getfield 73, 3) := by decide +kernel
theorem dX0_fitsWithLess_7 : decode cX0_fitsWithLess 7 = .ok (.iload_n 1, 1) := by decide +kernel
theorem dX0_fitsWithLess_8 : decode cX0_fitsWithLess 8 = .ok (.iconst 3, 1) := by decide +kernel
theorem dX0_fitsWithLess_9 : decode cX0_fitsWithLess 9 = .ok (.imul, 1) := by decide +kernel
theorem dX0_fitsWithLess_10 : decode cX0_fitsWithLess 10 = .ok (.iload_n 3, 1) := by decide +kernel
theorem dX0_fitsWithLess_11 : decode cX0_fitsWithLess 11 = .ok (.iadd, 1) := by decide +kernel
theorem dX0_fitsWithLess_12 : decode cX0_fitsWithLess 12 = .ok (.dup2, 1) := by decide +kernel
theorem dX0_fitsWithLess_13 : decode cX0_fitsWithLess 13 = .ok (.iaload, 1) := by decide +kernel
theorem dX0_fitsWithLess_14 : decode cX0_fitsWithLess 14 = .ok (.iload 4, 2) := by decide +kernel
theorem dX0_fitsWithLess_16 : decode cX0_fitsWithLess 16 = .ok (.isub, 1) := by decide +kernel
theorem dX0_fitsWithLess_17 : decode cX0_fitsWithLess 17 = .ok (.iastore, 1) := by decide +kernel
theorem dX0_fitsWithLess_18 : decode cX0_fitsWithLess 18 = .ok (.aload_n 0, 1) := by decide +kernel
theorem dX0_fitsWithLess_19 : decode cX0_fitsWithLess 19 = .ok (.getfield 9, 3) := by decide +kernel
theorem dX0_fitsWithLess_22 : decode cX0_fitsWithLess 22 = .ok (.iload_n 1, 1) := by decide +kernel
theorem dX0_fitsWithLess_23 : decode cX0_fitsWithLess 23 = .ok (.iload_n 2, 1) := by decide +kernel
theorem dX0_fitsWithLess_24 : decode cX0_fitsWithLess 24 = .ok (.invokevirtual 76, 3) := by decide +kernel
theorem dX0_fitsWithLess_27 : decode cX0_fitsWithLess 27 = .ok (.istore 5, 2) := by decide +kernel
theorem dX0_fitsWithLess_29 : decode cX0_fitsWithLess 29 = .ok (.aload_n 0, 1) := by decide +kernel
theorem dX0_fitsWithLess_30 : decode cX0_fitsWithLess 30 = .ok (.getfield 26, 3) := by decide +kernel
theorem dX0_fitsWithLess_33 : decode cX0_fitsWithLess 33 = .ok (.getfield 73, 3) := by decide +kernel
theorem dX0_fitsWithLess_36 : decode cX0_fitsWithLess 36 = .ok (.iload_n 1, 1) := by decide +kernel
theorem dX0_fitsWithLess_37 : decode cX0_fitsWithLess 37 = .ok (.iconst 3, 1) := by decide +kernel
theorem dX0_fitsWithLess_38 : decode cX0_fitsWithLess 38 = .ok (.imul, 1) := by decide +kernel
theorem dX0_fitsWithLess_39 : decode cX0_fitsWithLess 39 = .ok (.iload_n 3, 1) := by decide +kernel
theorem dX0_fitsWithLess_40 : decode cX0_fitsWithLess 40 = .ok (.iadd, 1) := by decide +kernel
theorem dX0_fitsWithLess_41 : decode cX0_fitsWithLess 41 = .ok (.dup2, 1) := by decide +kernel
theorem dX0_fitsWithLess_42 : decode cX0_fitsWithLess 42 = .ok (.iaload, 1) := by decide +kernel
theorem dX0_fitsWithLess_43 : decode cX0_fitsWithLess 43 = .ok (.iload 4, 2) := by decide +kernel
theorem dX0_fitsWithLess_45 : decode cX0_fitsWithLess 45 = .ok (.iadd, 1) := by decide +kernel
theorem dX0_fitsWithLess_46 : decode cX0_fitsWithLess 46 = .ok (.iastore, 1) := by decide +kernel
theorem dX0_fitsWithLess_47 : decode cX0_fitsWithLess 47 = .ok (.iload 5, 2) := by decide +kernel
theorem dX0_fitsWithLess_49 : decode cX0_fitsWithLess 49 = .ok (.ireturn, 1) := by decide +kernel
theorem dX0_byGoing_0 : decode cX0_byGoing 0 = .ok (.aload_n 0, 1) := by decide +kernel
theorem dX0_byGoing_1 : decode cX0_byGoing 1 = .ok (.iconst 3, 1) := by decide +kernel
theorem dX0_byGoing_2 : decode cX0_byGoing 2 = .ok (.putfield 27, 3) := by decide +kernel
theorem dX0_byGoing_5 : decode cX0_byGoing 5 = .ok (.iconst 0, 1) := by decide +kernel
theorem dX0_byGoing_6 : decode cX0_byGoing 6 = .ok (.istore_n 2, 1) := by decide +kernel
theorem dX0_byGoing_7 : decode cX0_byGoing 7 = .ok (.iload_n 2, 1) := by decide +kernel
theorem dX0_byGoing_8 : decode cX0_byGoing 8 = .ok (.aload_n 0, 1) := by decide +kernel
theorem dX0_byGoing_9 : decode cX0_byGoing 9 = .ok (.getfield 26, 3) := by decide +kernel
theorem dX0_byGoing_12 : decode cX0_byGoing 12 = .ok (.getfield 80, 3) := by decide +kernel
theorem dX0_byGoing_15 : decode cX0_byGoing 15 = .ok (.if_icmp .ge 83, 3) := by decide +kernel
theorem dX0_byGoing_18 : decode cX0_byGoing 18 = .ok (.aload_n 0, 1) := by decide +kernel
theorem dX0_byGoing_19 : decode cX0_byGoing 19 = .ok (.getfield 34, 3) := by decide +kernel
theorem dX0_byGoing_22 : decode cX0_byGoing 22 = .ok (.iconst (-1), 1) := by decide +kernel
theorem dX0_byGoing_23 : decode cX0_byGoing 23 = .ok (.if_icmp .ne 75, 3) := by decide +kernel
theorem dX0_byGoing_26 : decode cX0_byGoing 26 = .ok (.aload_n 0, 1) := by decide +kernel
theorem dX0_byGoing_27 : decode cX0_byGoing 27 = .ok (.getfield 26, 3) := by decide +kernel
theorem dX0_byGoing_30 : decode cX0_byGoing 30 = .ok (.getfield 81, 3) := by decide +kernel
theorem dX0_byGoing_33 : decode cX0_byGoing 33 = .ok (.iload_n 2, 1) := by decide +kernel
theorem dX0_byGoing_34 : decode cX0_byGoing 34 = .ok (.iaload, 1) := by decide +kernel
theorem dX0_byGoing_35 : decode cX0_byGoing 35 = .ok (.iconst 1, 1) := by decide +kernel
theorem dX0_byGoing_36 : decode cX0_byGoing 36 = .ok (.if_icmp .ne 56, 3) := by decide +kernel
theorem dX0_byGoing_39 : decode cX0_byGoing 39 = .ok (.aload_n 0, 1) := by decide +kernel
theorem dX0_byGoing_40 : decode cX0_byGoing 40 = .ok (.getfield 9, 3) := by decide +kernel
theorem dX0_byGoing_43 : decode cX0_byGoing 43 = .ok (.iload_n 2, 1) := by decide +kernel
theorem dX0_byGoing_44 : decode cX0_byGoing 44 = .ok (.aload_n 0, 1) := by decide +kernel
theorem dX0_byGoing_45 : decode cX0_byGoing 45 = .ok (.getfield 26, 3) := by decide +kernel
theorem dX0_byGoing_48 : decode cX0_byGoing 48 = .ok (.getfield 84, 3) := by decide +kernel
theorem dX0_byGoing_51 : decode cX0_byGoing 51 = .ok (.iload_n 2, 1) := by decide +kernel
theorem dX0_byGoing_52 : decode cX0_byGoing 52 = .ok (.iaload, 1) := by decide +kernel
theorem dX0_byGoing_53 : decode cX0_byGoing 53 = .ok (.iconst (-1), 1) := by decide +kernel
theorem dX0_byGoing_54 : decode cX0_byGoing 54 = .ok (.invokevirtual 86, 3) := by decide +kernel
theorem dX0_byGoing_57 : decode cX0_byGoing 57 = .ok (.aload_n 0, 1) := by decide +kernel
theorem dX0_byGoing_58 : decode cX0_byGoing 58 = .ok (.iload_n 2, 1) := by decide +kernel
theorem dX0_byGoing_59 : decode cX0_byGoing 59 = .ok (.putfield 31, 3) := by decide +kernel
theorem dX0_byGoing_62 : decode cX0_byGoing 62 = .ok (.aload_n 0, 1) := by decide +kernel
theorem dX0_byGoing_63 : decode cX0_byGoing 63 = .ok (.aload_n 0, 1) := by decide +kernel
theorem dX0_byGoing_64 : decode cX0_byGoing 64 = .ok (.getfield 9, 3) := by decide +kernel
theorem dX0_byGoing_67 : decode cX0_byGoing 67 = .ok (.iload_n 1, 1) := by decide +kernel
theorem dX0_byGoing_68 : decode cX0_byGoing 68 = .ok (.invokevirtual 56, 3) := by decide +kernel
theorem dX0_byGoing_71 : decode cX0_byGoing 71 = .ok (.putfield 34, 3) := by decide +kernel
theorem dX0_byGoing_74 : decode cX0_byGoing 74 = .ok (.aload_n 0, 1) := by decide +kernel
theorem dX0_byGoing_75 : decode cX0_byGoing 75 = .ok (.getfield 9, 3) := by decide +kernel
theorem dX0_byGoing_78 : decode cX0_byGoing 78 = .ok (.iload_n 2, 1) := by decide +kernel
theorem dX0_byGoing_79 : decode cX0_byGoing 79 = .ok (.aload_n 0, 1) := by decide +kernel
theorem dX0_byGoing_80 : decode cX0_byGoing 80 = .ok (.getfield 26, 3) := by decide +kernel
theorem dX0_byGoing_83 : decode cX0_byGoing 83 = .ok (.getfield 84, 3) := by decide +kernel
theorem dX0_byGoing_86 : decode cX0_byGoing 86 = .ok (.iload_n 2, 1) := by decide +kernel
theorem dX0_byGoing_87 : decode cX0_byGoing 87 = .ok (.iaload, 1) := by decide +kernel
theorem dX0_byGoing_88 : decode cX0_byGoing 88 = .ok (.iconst 1, 1) := by decide +kernel
theorem dX0_byGoing_89 : decode cX0_byGoing 89 = .ok (.invokevirtual 86, 3) := by decide +kernel
theorem dX0_byGoing_92 : decode cX0_byGoing 92 = .ok (.iinc 2 1, 3) := by decide +kernel
theorem dX0_byGoing_95 : decode cX0_byGoing 95 = .ok (.goto (-88), 3) := by decide +kernel
theorem dX0_byGoing_98 : decode cX0_byGoing 98 = .ok (.aload_n 0, 1) := by decide +kernel
theorem dX0_byGoing_99 : decode cX0_byGoing 99 = .ok (.getfield 34, 3) := by decide +kernel
theorem dX0_byGoing_102 : decode cX0_byGoing 102 = .ok (.iconst (-1), 1) := by decide +kernel
theorem dX0_byGoing_103 : decode cX0_byGoing 103 = .ok (.if_icmp .eq 7, 3) := by decide +kernel
theorem dX0_byGoing_106 : decode cX0_byGoing 106 = .ok (.iconst 1, 1) := by decide +kernel
theorem dX0_byGoing_107 : decode cX0_byGoing 107 = .ok (.goto 4, 3) := by decide +kernel
theorem dX0_byGoing_110 : decode cX0_byGoing 110 = .ok (.iconst 0, 1) := by decide +kernel
theorem dX0_byGoing_111 : decode cX0_byGoing 111 = .ok (.ireturn, 1) := by decide +kernel
theorem dX1_init_0 : decode cX1_init 0 = .ok (.aload_n 0, 1) := by decide +kernel
theorem dX1_init_1 : decode cX1_init 1 = .ok (.invokespecial 3, 3) := by decide +kernel
theorem dX1_init_4 : decode cX1_init 4 = .ok (.aload_n 0, 1) := by decide +kernel
theorem dX1_init_5 : decode cX1_init 5 = .ok (.bipush 24, 2) := by decide +kernel
theorem dX1_init_7 : decode cX1_init 7 = .ok (.newarray .int, 2) := by decide +kernel
theorem dX1_init_9 : decode cX1_init 9 = .ok (.putfield 9, 3) := by decide +kernel
theorem dX1_init_12 : decode cX1_init 12 = .ok (.aload_n 0, 1) := by decide +kernel
theorem dX1_init_13 : decode cX1_init 13 = .ok (.aload_n 1, 1) := by decide +kernel
theorem dX1_init_14 : decode cX1_init 14 = .ok (.putfield 15, 3) := by decide +kernel
theorem dX1_init_17 : decode cX1_init 17 = .ok (.aload_n 0, 1) := by decide +kernel
theorem dX1_init_18 : decode cX1_init 18 = .ok (.aload_n 1, 1) := by decide +kernel
theorem dX1_init_19 : decode cX1_init 19 = .ok (.getfield 19, 3) := by decide +kernel
theorem dX1_init_22 : decode cX1_init 22 = .ok (.putfield 25, 3) := by decide +kernel
theorem dX1_init_25 : decode cX1_init 25 = .ok (.return_, 1) := by decide +kernel
theorem dX1_bestHost_0 : decode cX1_bestHost 0 = .ok (.aload_n 0, 1) := by decide +kernel
theorem dX1_bestHost_1 : decode cX1_bestHost 1 = .ok (.getfield 25, 3) := by decide +kernel
theorem dX1_bestHost_4 : decode cX1_bestHost 4 = .ok (.getfield 26, 3) := by decide +kernel
theorem dX1_bestHost_7 : decode cX1_bestHost 7 = .ok (.iload_n 1, 1) := by decide +kernel
theorem dX1_bestHost_8 : decode cX1_bestHost 8 = .ok (.iaload, 1) := by decide +kernel
theorem dX1_bestHost_9 : decode cX1_bestHost 9 = .ok (.iconst 3, 1) := by decide +kernel
theorem dX1_bestHost_10 : decode cX1_bestHost 10 = .ok (.if_icmp .ne 5, 3) := by decide +kernel
theorem dX1_bestHost_13 : decode cX1_bestHost 13 = .ok (.iconst (-1), 1) := by decide +kernel
theorem dX1_bestHost_14 : decode cX1_bestHost 14 = .ok (.ireturn, 1) := by decide +kernel
theorem dX1_bestHost_15 : decode cX1_bestHost 15 = .ok (.iconst (-1), 1) := by decide +kernel
theorem dX1_bestHost_16 : decode cX1_bestHost 16 = .ok (.istore_n 2, 1) := by decide +kernel
theorem dX1_bestHost_17 : decode cX1_bestHost 17 = .ok (.iconst 0, 1) := by decide +kernel
theorem dX1_bestHost_18 : decode cX1_bestHost 18 = .ok (.istore_n 3, 1) := by decide +kernel
theorem dX1_bestHost_19 : decode cX1_bestHost 19 = .ok (.iconst 0, 1) := by decide +kernel
theorem dX1_bestHost_20 : decode cX1_bestHost 20 = .ok (.istore 4, 2) := by decide +kernel
theorem dX1_bestHost_22 : decode cX1_bestHost 22 = .ok (.iconst 0, 1) := by decide +kernel
theorem dX1_bestHost_23 : decode cX1_bestHost 23 = .ok (.istore 5, 2) := by decide +kernel
theorem dX1_bestHost_25 : decode cX1_bestHost 25 = .ok (.iload 5, 2) := by decide +kernel
theorem dX1_bestHost_27 : decode cX1_bestHost 27 = .ok (.aload_n 0, 1) := by decide +kernel
theorem dX1_bestHost_28 : decode cX1_bestHost 28 = .ok (.getfield 15, 3) := by decide +kernel
theorem dX1_bestHost_31 : decode cX1_bestHost 31 = .ok (.getfield 31, 3) := by decide +kernel
theorem dX1_bestHost_34 : decode cX1_bestHost 34 = .ok (.getfield 35, 3) := by decide +kernel
theorem dX1_bestHost_37 : decode cX1_bestHost 37 = .ok (.if_icmp .ge 107, 3) := by decide +kernel
theorem dX1_bestHost_40 : decode cX1_bestHost 40 = .ok (.aload_n 0, 1) := by decide +kernel
theorem dX1_bestHost_41 : decode cX1_bestHost 41 = .ok (.iload_n 1, 1) := by decide +kernel
theorem dX1_bestHost_42 : decode cX1_bestHost 42 = .ok (.iload 5, 2) := by decide +kernel
theorem dX1_bestHost_44 : decode cX1_bestHost 44 = .ok (.invokevirtual 41, 3) := by decide +kernel
theorem dX1_bestHost_47 : decode cX1_bestHost 47 = .ok (.istore 6, 2) := by decide +kernel
theorem dX1_bestHost_49 : decode cX1_bestHost 49 = .ok (.aload_n 0, 1) := by decide +kernel
theorem dX1_bestHost_50 : decode cX1_bestHost 50 = .ok (.iload 5, 2) := by decide +kernel
theorem dX1_bestHost_52 : decode cX1_bestHost 52 = .ok (.invokevirtual 45, 3) := by decide +kernel
theorem dX1_bestHost_55 : decode cX1_bestHost 55 = .ok (.iload 6, 2) := by decide +kernel
theorem dX1_bestHost_57 : decode cX1_bestHost 57 = .ok (.ifCond .eq 81, 3) := by decide +kernel
theorem dX1_bestHost_60 : decode cX1_bestHost 60 = .ok (.aload_n 0, 1) := by decide +kernel
theorem dX1_bestHost_61 : decode cX1_bestHost 61 = .ok (.getfield 49, 3) := by decide +kernel
theorem dX1_bestHost_64 : decode cX1_bestHost 64 = .ok (.ifCond .le 74, 3) := by decide +kernel
theorem dX1_bestHost_67 : decode cX1_bestHost 67 = .ok (.aload_n 0, 1) := by decide +kernel
theorem dX1_bestHost_68 : decode cX1_bestHost 68 = .ok (.getfield 25, 3) := by decide +kernel
theorem dX1_bestHost_71 : decode cX1_bestHost 71 = .ok (.getfield 52, 3) := by decide +kernel
theorem dX1_bestHost_74 : decode cX1_bestHost 74 = .ok (.aload_n 0, 1) := by decide +kernel
theorem dX1_bestHost_75 : decode cX1_bestHost 75 = .ok (.getfield 9, 3) := by decide +kernel
theorem dX1_bestHost_78 : decode cX1_bestHost 78 = .ok (.aload_n 0, 1) := by decide +kernel
theorem dX1_bestHost_79 : decode cX1_bestHost 79 = .ok (.getfield 49, 3) := by decide +kernel
theorem dX1_bestHost_82 : decode cX1_bestHost 82 = .ok (.iconst 1, 1) := by decide +kernel
theorem dX1_bestHost_83 : decode cX1_bestHost 83 = .ok (.isub, 1) := by decide +kernel
theorem dX1_bestHost_84 : decode cX1_bestHost 84 = .ok (.iaload, 1) := by decide +kernel
theorem dX1_bestHost_85 : decode cX1_bestHost 85 = .ok (.iaload, 1) := by decide +kernel
theorem dX1_bestHost_86 : decode cX1_bestHost 86 = .ok (.istore 7, 2) := by decide +kernel
theorem dX1_bestHost_88 : decode cX1_bestHost 88 = .ok (.iload 7, 2) := by decide +kernel
theorem dX1_bestHost_90 : decode cX1_bestHost 90 = .ok (.iload_n 3, 1) := by decide +kernel
theorem dX1_bestHost_91 : decode cX1_bestHost 91 = .ok (.if_icmp .ne 16, 3) := by decide +kernel
theorem dX1_bestHost_94 : decode cX1_bestHost 94 = .ok (.aload_n 0, 1) := by decide +kernel
theorem dX1_bestHost_95 : decode cX1_bestHost 95 = .ok (.getfield 49, 3) := by decide +kernel
theorem dX1_bestHost_98 : decode cX1_bestHost 98 = .ok (.iload 4, 2) := by decide +kernel
theorem dX1_bestHost_100 : decode cX1_bestHost 100 = .ok (.if_icmp .ge 7, 3) := by decide +kernel
theorem dX1_bestHost_103 : decode cX1_bestHost 103 = .ok (.iconst 1, 1) := by decide +kernel
theorem dX1_bestHost_104 : decode cX1_bestHost 104 = .ok (.goto 4, 3) := by decide +kernel
theorem dX1_bestHost_107 : decode cX1_bestHost 107 = .ok (.iconst 0, 1) := by decide +kernel
theorem dX1_bestHost_108 : decode cX1_bestHost 108 = .ok (.istore 8, 2) := by decide +kernel
theorem dX1_bestHost_110 : decode cX1_bestHost 110 = .ok (.iload_n 2, 1) := by decide +kernel
theorem dX1_bestHost_111 : decode cX1_bestHost 111 = .ok (.iconst (-1), 1) := by decide +kernel
theorem dX1_bestHost_112 : decode cX1_bestHost 112 = .ok (.if_icmp .eq 14, 3) := by decide +kernel
theorem dX1_bestHost_115 : decode cX1_bestHost 115 = .ok (.iload 7, 2) := by decide +kernel
theorem dX1_bestHost_117 : decode cX1_bestHost 117 = .ok (.iload_n 3, 1) := by decide +kernel
theorem dX1_bestHost_118 : decode cX1_bestHost 118 = .ok (.if_icmp .lt 8, 3) := by decide +kernel
theorem dX1_bestHost_121 : decode cX1_bestHost 121 = .ok (.iload 8, 2) := by decide +kernel
theorem dX1_bestHost_123 : decode cX1_bestHost 123 = .ok (.ifCond .eq 15, 3) := by decide +kernel
theorem dX1_bestHost_126 : decode cX1_bestHost 126 = .ok (.iload 5, 2) := by decide +kernel
theorem dX1_bestHost_128 : decode cX1_bestHost 128 = .ok (.istore_n 2, 1) := by decide +kernel
theorem dX1_bestHost_129 : decode cX1_bestHost 129 = .ok (.iload 7, 2) := by decide +kernel
theorem dX1_bestHost_131 : decode cX1_bestHost 131 = .ok (.istore_n 3, 1) := by decide +kernel
theorem dX1_bestHost_132 : decode cX1_bestHost 132 = .ok (.aload_n 0, 1) := by decide +kernel
theorem dX1_bestHost_133 : decode cX1_bestHost 133 = .ok (.getfield 49, 3) := by decide +kernel
theorem dX1_bestHost_136 : decode cX1_bestHost 136 = .ok (.istore 4, 2) := by decide +kernel
theorem dX1_bestHost_138 : decode cX1_bestHost 138 = .ok (.iinc 5 1, 3) := by decide +kernel
theorem dX1_bestHost_141 : decode cX1_bestHost 141 = .ok (.goto (-116), 3) := by decide +kernel
theorem dX1_bestHost_144 : decode cX1_bestHost 144 = .ok (.iload_n 2, 1) := by decide +kernel
theorem dX1_bestHost_145 : decode cX1_bestHost 145 = .ok (.ireturn, 1) := by decide +kernel
theorem dX1_clear_0 : decode cX1_clear 0 = .ok (.aload_n 0, 1) := by decide +kernel
theorem dX1_clear_1 : decode cX1_clear 1 = .ok (.iconst 0, 1) := by decide +kernel
theorem dX1_clear_2 : decode cX1_clear 2 = .ok (.putfield 49, 3) := by decide +kernel
theorem dX1_clear_5 : decode cX1_clear 5 = .ok (.aload_n 0, 1) := by decide +kernel
theorem dX1_clear_6 : decode cX1_clear 6 = .ok (.getfield 49, 3) := by decide +kernel
theorem dX1_clear_9 : decode cX1_clear 9 = .ok (.bipush 24, 2) := by decide +kernel
theorem dX1_clear_11 : decode cX1_clear 11 = .ok (.if_icmp .ge 62, 3) := by decide +kernel
theorem dX1_clear_14 : decode cX1_clear 14 = .ok (.aload_n 0, 1) := by decide +kernel
theorem dX1_clear_15 : decode cX1_clear 15 = .ok (.getfield 15, 3) := by decide +kernel
theorem dX1_clear_18 : decode cX1_clear 18 = .ok (.iload_n 1, 1) := by decide +kernel
theorem dX1_clear_19 : decode cX1_clear 19 = .ok (.iload_n 2, 1) := by decide +kernel
theorem dX1_clear_20 : decode cX1_clear 20 = .ok (.invokevirtual 55, 3) := by decide +kernel
theorem dX1_clear_23 : decode cX1_clear 23 = .ok (.ifCond .ne 50, 3) := by decide +kernel
theorem dX1_clear_26 : decode cX1_clear 26 = .ok (.aload_n 0, 1) := by decide +kernel
theorem dX1_clear_27 : decode cX1_clear 27 = .ok (.iload_n 1, 1) := by decide +kernel
theorem dX1_clear_28 : decode cX1_clear 28 = .ok (.iload_n 2, 1) := by decide +kernel
theorem dX1_clear_29 : decode cX1_clear 29 = .ok (.invokevirtual 58, 3) := by decide +kernel
theorem dX1_clear_32 : decode cX1_clear 32 = .ok (.istore_n 3, 1) := by decide +kernel
theorem dX1_clear_33 : decode cX1_clear 33 = .ok (.iload_n 3, 1) := by decide +kernel
theorem dX1_clear_34 : decode cX1_clear 34 = .ok (.iconst (-1), 1) := by decide +kernel
theorem dX1_clear_35 : decode cX1_clear 35 = .ok (.if_icmp .ne 5, 3) := by decide +kernel
theorem dX1_clear_38 : decode cX1_clear 38 = .ok (.iconst 0, 1) := by decide +kernel
theorem dX1_clear_39 : decode cX1_clear 39 = .ok (.ireturn, 1) := by decide +kernel
theorem dX1_clear_40 : decode cX1_clear 40 = .ok (.aload_n 0, 1) := by decide +kernel
theorem dX1_clear_41 : decode cX1_clear 41 = .ok (.getfield 15, 3) := by decide +kernel
theorem dX1_clear_44 : decode cX1_clear 44 = .ok (.iload_n 3, 1) := by decide +kernel
theorem dX1_clear_45 : decode cX1_clear 45 = .ok (.iload_n 2, 1) := by decide +kernel
theorem dX1_clear_46 : decode cX1_clear 46 = .ok (.iconst (-1), 1) := by decide +kernel
theorem dX1_clear_47 : decode cX1_clear 47 = .ok (.invokevirtual 62, 3) := by decide +kernel
theorem dX1_clear_50 : decode cX1_clear 50 = .ok (.aload_n 0, 1) := by decide +kernel
theorem dX1_clear_51 : decode cX1_clear 51 = .ok (.getfield 9, 3) := by decide +kernel
theorem dX1_clear_54 : decode cX1_clear 54 = .ok (.aload_n 0, 1) := by decide +kernel
theorem dX1_clear_55 : decode cX1_clear 55 = .ok (.getfield 49, 3) := by decide +kernel
theorem dX1_clear_58 : decode cX1_clear 58 = .ok (.iload_n 3, 1) := by decide +kernel
theorem dX1_clear_59 : decode cX1_clear 59 = .ok (.iastore, 1) := by decide +kernel
theorem dX1_clear_60 : decode cX1_clear 60 = .ok (.aload_n 0, 1) := by decide +kernel
theorem dX1_clear_61 : decode cX1_clear 61 = .ok (.dup, 1) := by decide +kernel
theorem dX1_clear_62 : decode cX1_clear 62 = .ok (.getfield 49, 3) := by decide +kernel
theorem dX1_clear_65 : decode cX1_clear 65 = .ok (.iconst 1, 1) := by decide +kernel
theorem dX1_clear_66 : decode cX1_clear 66 = .ok (.iadd, 1) := by decide +kernel
theorem dX1_clear_67 : decode cX1_clear 67 = .ok (.putfield 49, 3) := by decide +kernel
theorem dX1_clear_70 : decode cX1_clear 70 = .ok (.goto (-65), 3) := by decide +kernel
theorem dX1_clear_73 : decode cX1_clear 73 = .ok (.aload_n 0, 1) := by decide +kernel
theorem dX1_clear_74 : decode cX1_clear 74 = .ok (.getfield 15, 3) := by decide +kernel
theorem dX1_clear_77 : decode cX1_clear 77 = .ok (.iload_n 1, 1) := by decide +kernel
theorem dX1_clear_78 : decode cX1_clear 78 = .ok (.iload_n 2, 1) := by decide +kernel
theorem dX1_clear_79 : decode cX1_clear 79 = .ok (.invokevirtual 55, 3) := by decide +kernel
theorem dX1_clear_82 : decode cX1_clear 82 = .ok (.ireturn, 1) := by decide +kernel
theorem dX1_putBack_0 : decode cX1_putBack 0 = .ok (.iconst 0, 1) := by decide +kernel
theorem dX1_putBack_1 : decode cX1_putBack 1 = .ok (.istore_n 2, 1) := by decide +kernel
theorem dX1_putBack_2 : decode cX1_putBack 2 = .ok (.iload_n 2, 1) := by decide +kernel
theorem dX1_putBack_3 : decode cX1_putBack 3 = .ok (.aload_n 0, 1) := by decide +kernel
theorem dX1_putBack_4 : decode cX1_putBack 4 = .ok (.getfield 49, 3) := by decide +kernel
theorem dX1_putBack_7 : decode cX1_putBack 7 = .ok (.if_icmp .ge 24, 3) := by decide +kernel
theorem dX1_putBack_10 : decode cX1_putBack 10 = .ok (.aload_n 0, 1) := by decide +kernel
theorem dX1_putBack_11 : decode cX1_putBack 11 = .ok (.getfield 15, 3) := by decide +kernel
theorem dX1_putBack_14 : decode cX1_putBack 14 = .ok (.aload_n 0, 1) := by decide +kernel
theorem dX1_putBack_15 : decode cX1_putBack 15 = .ok (.getfield 9, 3) := by decide +kernel
theorem dX1_putBack_18 : decode cX1_putBack 18 = .ok (.iload_n 2, 1) := by decide +kernel
theorem dX1_putBack_19 : decode cX1_putBack 19 = .ok (.iaload, 1) := by decide +kernel
theorem dX1_putBack_20 : decode cX1_putBack 20 = .ok (.iload_n 1, 1) := by decide +kernel
theorem dX1_putBack_21 : decode cX1_putBack 21 = .ok (.iconst 1, 1) := by decide +kernel
theorem dX1_putBack_22 : decode cX1_putBack 22 = .ok (.invokevirtual 62, 3) := by decide +kernel
theorem dX1_putBack_25 : decode cX1_putBack 25 = .ok (.iinc 2 1, 3) := by decide +kernel
theorem dX1_putBack_28 : decode cX1_putBack 28 = .ok (.goto (-26), 3) := by decide +kernel
theorem dX1_putBack_31 : decode cX1_putBack 31 = .ok (.return_, 1) := by decide +kernel
theorem dX1_nextToGo_0 : decode cX1_nextToGo 0 = .ok (.iconst (-1), 1) := by decide +kernel
theorem dX1_nextToGo_1 : decode cX1_nextToGo 1 = .ok (.istore_n 3, 1) := by decide +kernel
theorem dX1_nextToGo_2 : decode cX1_nextToGo 2 = .ok (.iconst 0, 1) := by decide +kernel
theorem dX1_nextToGo_3 : decode cX1_nextToGo 3 = .ok (.istore 4, 2) := by decide +kernel
theorem dX1_nextToGo_5 : decode cX1_nextToGo 5 = .ok (.iload 4, 2) := by decide +kernel
theorem dX1_nextToGo_7 : decode cX1_nextToGo 7 = .ok (.aload_n 0, 1) := by decide +kernel
theorem dX1_nextToGo_8 : decode cX1_nextToGo 8 = .ok (.getfield 25, 3) := by decide +kernel
theorem dX1_nextToGo_11 : decode cX1_nextToGo 11 = .ok (.getfield 66, 3) := by decide +kernel
theorem dX1_nextToGo_14 : decode cX1_nextToGo 14 = .ok (.if_icmp .ge 95, 3) := by decide +kernel
theorem dX1_nextToGo_17 : decode cX1_nextToGo 17 = .ok (.aload_n 0, 1) := by decide +kernel
theorem dX1_nextToGo_18 : decode cX1_nextToGo 18 = .ok (.getfield 25, 3) := by decide +kernel
theorem dX1_nextToGo_21 : decode cX1_nextToGo 21 = .ok (.iload 4, 2) := by decide +kernel
theorem dX1_nextToGo_23 : decode cX1_nextToGo 23 = .ok (.iload_n 2, 1) := by decide +kernel
theorem dX1_nextToGo_24 : decode cX1_nextToGo 24 = .ok (.invokevirtual 67, 3) := by decide +kernel
theorem dX1_nextToGo_27 : decode cX1_nextToGo 27 = .ok (.ifCond .eq 41, 3) := by decide +kernel
theorem dX1_nextToGo_30 : decode cX1_nextToGo 30 = .ok (.aload_n 0, 1) := by decide +kernel
theorem dX1_nextToGo_31 : decode cX1_nextToGo 31 = .ok (.getfield 25, 3) := by decide +kernel
theorem dX1_nextToGo_34 : decode cX1_nextToGo 34 = .ok (.iload 4, 2) := by decide +kernel
theorem dX1_nextToGo_36 : decode cX1_nextToGo 36 = .ok (.invokevirtual 70, 3) := by decide +kernel
theorem dX1_nextToGo_39 : decode cX1_nextToGo 39 = .ok (.ifCond .eq 29, 3) := by decide +kernel
theorem dX1_nextToGo_42 : decode cX1_nextToGo 42 = .ok (.aload_n 0, 1) := by decide +kernel
theorem dX1_nextToGo_43 : decode cX1_nextToGo 43 = .ok (.getfield 25, 3) := by decide +kernel
theorem dX1_nextToGo_46 : decode cX1_nextToGo 46 = .ok (.getfield 52, 3) := by decide +kernel
theorem dX1_nextToGo_49 : decode cX1_nextToGo 49 = .ok (.iload 4, 2) := by decide +kernel
theorem dX1_nextToGo_51 : decode cX1_nextToGo 51 = .ok (.iaload, 1) := by decide +kernel
theorem dX1_nextToGo_52 : decode cX1_nextToGo 52 = .ok (.aload_n 0, 1) := by decide +kernel
theorem dX1_nextToGo_53 : decode cX1_nextToGo 53 = .ok (.getfield 25, 3) := by decide +kernel
theorem dX1_nextToGo_56 : decode cX1_nextToGo 56 = .ok (.getfield 52, 3) := by decide +kernel
theorem dX1_nextToGo_59 : decode cX1_nextToGo 59 = .ok (.iload_n 1, 1) := by decide +kernel
theorem dX1_nextToGo_60 : decode cX1_nextToGo 60 = .ok (.iaload, 1) := by decide +kernel
theorem dX1_nextToGo_61 : decode cX1_nextToGo 61 = .ok (.if_icmp .ge 7, 3) := by decide +kernel
theorem dX1_nextToGo_64 : decode cX1_nextToGo 64 = .ok (.iconst 1, 1) := by decide +kernel
theorem dX1_nextToGo_65 : decode cX1_nextToGo 65 = .ok (.goto 4, 3) := by decide +kernel
theorem dX1_nextToGo_68 : decode cX1_nextToGo 68 = .ok (.iconst 0, 1) := by decide +kernel
theorem dX1_nextToGo_69 : decode cX1_nextToGo 69 = .ok (.istore 5, 2) := by decide +kernel
theorem dX1_nextToGo_71 : decode cX1_nextToGo 71 = .ok (.iload 5, 2) := by decide +kernel
theorem dX1_nextToGo_73 : decode cX1_nextToGo 73 = .ok (.ifCond .eq 30, 3) := by decide +kernel
theorem dX1_nextToGo_76 : decode cX1_nextToGo 76 = .ok (.aload_n 0, 1) := by decide +kernel
theorem dX1_nextToGo_77 : decode cX1_nextToGo 77 = .ok (.iload 4, 2) := by decide +kernel
theorem dX1_nextToGo_79 : decode cX1_nextToGo 79 = .ok (.invokevirtual 74, 3) := by decide +kernel
theorem dX1_nextToGo_82 : decode cX1_nextToGo 82 = .ok (.ifCond .eq 21, 3) := by decide +kernel
theorem dX1_nextToGo_85 : decode cX1_nextToGo 85 = .ok (.iload_n 3, 1) := by decide +kernel
theorem dX1_nextToGo_86 : decode cX1_nextToGo 86 = .ok (.iconst (-1), 1) := by decide +kernel
theorem dX1_nextToGo_87 : decode cX1_nextToGo 87 = .ok (.if_icmp .eq 13, 3) := by decide +kernel
theorem dX1_nextToGo_90 : decode cX1_nextToGo 90 = .ok (.aload_n 0, 1) := by decide +kernel
theorem dX1_nextToGo_91 : decode cX1_nextToGo 91 = .ok (.iload 4, 2) := by decide +kernel
theorem dX1_nextToGo_93 : decode cX1_nextToGo 93 = .ok (.iload_n 3, 1) := by decide +kernel
theorem dX1_nextToGo_94 : decode cX1_nextToGo 94 = .ok (.invokevirtual 77, 3) := by decide +kernel
theorem dX1_nextToGo_97 : decode cX1_nextToGo 97 = .ok (.ifCond .eq 6, 3) := by decide +kernel
theorem dX1_nextToGo_100 : decode cX1_nextToGo 100 = .ok (.iload 4, 2) := by decide +kernel
theorem dX1_nextToGo_102 : decode cX1_nextToGo 102 = .ok (.istore_n 3, 1) := by decide +kernel
theorem dX1_nextToGo_103 : decode cX1_nextToGo 103 = .ok (.iinc 4 1, 3) := by decide +kernel
theorem dX1_nextToGo_106 : decode cX1_nextToGo 106 = .ok (.goto (-101), 3) := by decide +kernel
theorem dX1_nextToGo_109 : decode cX1_nextToGo 109 = .ok (.iload_n 3, 1) := by decide +kernel
theorem dX1_nextToGo_110 : decode cX1_nextToGo 110 = .ok (.ireturn, 1) := by decide +kernel
theorem dX1_isYetToGo_0 : decode cX1_isYetToGo 0 = .ok (.aload_n 0, 1) := by decide +kernel
theorem dX1_isYetToGo_1 : decode cX1_isYetToGo 1 = .ok (.getfield 49, 3) := by decide +kernel
theorem dX1_isYetToGo_4 : decode cX1_isYetToGo 4 = .ok (.ifCond .eq 22, 3) := by decide +kernel
theorem dX1_isYetToGo_7 : decode cX1_isYetToGo 7 = .ok (.aload_n 0, 1) := by decide +kernel
theorem dX1_isYetToGo_8 : decode cX1_isYetToGo 8 = .ok (.aload_n 0, 1) := by decide +kernel
theorem dX1_isYetToGo_9 : decode cX1_isYetToGo 9 = .ok (.getfield 9, 3) := by decide +kernel
theorem dX1_isYetToGo_12 : decode cX1_isYetToGo 12 = .ok (.aload_n 0, 1) := by decide +kernel
theorem dX1_isYetToGo_13 : decode cX1_isYetToGo 13 = .ok (.getfield 49, 3) := by decide +kernel
theorem dX1_isYetToGo_16 : decode cX1_isYetToGo 16 = .ok (.iconst 1, 1) := by decide +kernel
theorem dX1_isYetToGo_17 : decode cX1_isYetToGo 17 = .ok (.isub, 1) := by decide +kernel
theorem dX1_isYetToGo_18 : decode cX1_isYetToGo 18 = .ok (.iaload, 1) := by decide +kernel
theorem dX1_isYetToGo_19 : decode cX1_isYetToGo 19 = .ok (.iload_n 1, 1) := by decide +kernel
theorem dX1_isYetToGo_20 : decode cX1_isYetToGo 20 = .ok (.invokevirtual 77, 3) := by decide +kernel
theorem dX1_isYetToGo_23 : decode cX1_isYetToGo 23 = .ok (.ifCond .eq 7, 3) := by decide +kernel
theorem dX1_isYetToGo_26 : decode cX1_isYetToGo 26 = .ok (.iconst 1, 1) := by decide +kernel
theorem dX1_isYetToGo_27 : decode cX1_isYetToGo 27 = .ok (.goto 4, 3) := by decide +kernel
theorem dX1_isYetToGo_30 : decode cX1_isYetToGo 30 = .ok (.iconst 0, 1) := by decide +kernel
theorem dX1_isYetToGo_31 : decode cX1_isYetToGo 31 = .ok (.ireturn, 1) := by decide +kernel
theorem dX1_goesBefore_0 : decode cX1_goesBefore 0 = .ok (.aload_n 0, 1) := by decide +kernel
theorem dX1_goesBefore_1 : decode cX1_goesBefore 1 = .ok (.getfield 25, 3) := by decide +kernel
theorem dX1_goesBefore_4 : decode cX1_goesBefore 4 = .ok (.getfield 52, 3) := by decide +kernel
theorem dX1_goesBefore_7 : decode cX1_goesBefore 7 = .ok (.iload_n 1, 1) := by decide +kernel
theorem dX1_goesBefore_8 : decode cX1_goesBefore 8 = .ok (.iaload, 1) := by decide +kernel
theorem dX1_goesBefore_9 : decode cX1_goesBefore 9 = .ok (.aload_n 0, 1) := by decide +kernel
theorem dX1_goesBefore_10 : decode cX1_goesBefore 10 = .ok (.getfield 25, 3) := by decide +kernel
theorem dX1_goesBefore_13 : decode cX1_goesBefore 13 = .ok (.getfield 52, 3) := by decide +kernel
theorem dX1_goesBefore_16 : decode cX1_goesBefore 16 = .ok (.iload_n 2, 1) := by decide +kernel
theorem dX1_goesBefore_17 : decode cX1_goesBefore 17 = .ok (.iaload, 1) := by decide +kernel
theorem dX1_goesBefore_18 : decode cX1_goesBefore 18 = .ok (.if_icmp .eq 30, 3) := by decide +kernel
theorem dX1_goesBefore_21 : decode cX1_goesBefore 21 = .ok (.aload_n 0, 1) := by decide +kernel
theorem dX1_goesBefore_22 : decode cX1_goesBefore 22 = .ok (.getfield 25, 3) := by decide +kernel
theorem dX1_goesBefore_25 : decode cX1_goesBefore 25 = .ok (.getfield 52, 3) := by decide +kernel
theorem dX1_goesBefore_28 : decode cX1_goesBefore 28 = .ok (.iload_n 1, 1) := by decide +kernel
theorem dX1_goesBefore_29 : decode cX1_goesBefore 29 = .ok (.iaload, 1) := by decide +kernel
theorem dX1_goesBefore_30 : decode cX1_goesBefore 30 = .ok (.aload_n 0, 1) := by decide +kernel
theorem dX1_goesBefore_31 : decode cX1_goesBefore 31 = .ok (.getfield 25, 3) := by decide +kernel
theorem dX1_goesBefore_34 : decode cX1_goesBefore 34 = .ok (.getfield 52, 3) := by decide +kernel
theorem dX1_goesBefore_37 : decode cX1_goesBefore 37 = .ok (.iload_n 2, 1) := by decide +kernel
theorem dX1_goesBefore_38 : decode cX1_goesBefore 38 = .ok (.iaload, 1) := by decide +kernel
theorem dX1_goesBefore_39 : decode cX1_goesBefore 39 = .ok (.if_icmp .ge 7, 3) := by decide +kernel
theorem dX1_goesBefore_42 : decode cX1_goesBefore 42 = .ok (.iconst 1, 1) := by decide +kernel
theorem dX1_goesBefore_43 : decode cX1_goesBefore 43 = .ok (.goto 4, 3) := by decide +kernel
theorem dX1_goesBefore_46 : decode cX1_goesBefore 46 = .ok (.iconst 0, 1) := by decide +kernel
theorem dX1_goesBefore_47 : decode cX1_goesBefore 47 = .ok (.ireturn, 1) := by decide +kernel
theorem dX1_goesBefore_48 : decode cX1_goesBefore 48 = .ok (.aload_n 0, 1) := by decide +kernel
theorem dX1_goesBefore_49 : decode cX1_goesBefore 49 = .ok (.getfield 25, 3) := by decide +kernel
theorem dX1_goesBefore_52 : decode cX1_goesBefore 52 = .ok (.getfield 80, 3) := by decide +kernel
theorem dX1_goesBefore_55 : decode cX1_goesBefore 55 = .ok (.iload_n 1, 1) := by decide +kernel
theorem dX1_goesBefore_56 : decode cX1_goesBefore 56 = .ok (.iaload, 1) := by decide +kernel
theorem dX1_goesBefore_57 : decode cX1_goesBefore 57 = .ok (.aload_n 0, 1) := by decide +kernel
theorem dX1_goesBefore_58 : decode cX1_goesBefore 58 = .ok (.getfield 25, 3) := by decide +kernel
theorem dX1_goesBefore_61 : decode cX1_goesBefore 61 = .ok (.getfield 80, 3) := by decide +kernel
theorem dX1_goesBefore_64 : decode cX1_goesBefore 64 = .ok (.iload_n 2, 1) := by decide +kernel
theorem dX1_goesBefore_65 : decode cX1_goesBefore 65 = .ok (.iaload, 1) := by decide +kernel
theorem dX1_goesBefore_66 : decode cX1_goesBefore 66 = .ok (.if_icmp .le 7, 3) := by decide +kernel
theorem dX1_goesBefore_69 : decode cX1_goesBefore 69 = .ok (.iconst 1, 1) := by decide +kernel
theorem dX1_goesBefore_70 : decode cX1_goesBefore 70 = .ok (.goto 4, 3) := by decide +kernel
theorem dX1_goesBefore_73 : decode cX1_goesBefore 73 = .ok (.iconst 0, 1) := by decide +kernel
theorem dX1_goesBefore_74 : decode cX1_goesBefore 74 = .ok (.ireturn, 1) := by decide +kernel
theorem dX2_init_0 : decode cX2_init 0 = .ok (.aload_n 0, 1) := by decide +kernel
theorem dX2_init_1 : decode cX2_init 1 = .ok (.invokespecial 3, 3) := by decide +kernel
theorem dX2_init_4 : decode cX2_init 4 = .ok (.aload_n 0, 1) := by decide +kernel
theorem dX2_init_5 : decode cX2_init 5 = .ok (.iconst 4, 1) := by decide +kernel
theorem dX2_init_6 : decode cX2_init 6 = .ok (.newarray .int, 2) := by decide +kernel
theorem dX2_init_8 : decode cX2_init 8 = .ok (.putfield 11, 3) := by decide +kernel
theorem dX2_init_11 : decode cX2_init 11 = .ok (.aload_n 0, 1) := by decide +kernel
theorem dX2_init_12 : decode cX2_init 12 = .ok (.iconst 4, 1) := by decide +kernel
theorem dX2_init_13 : decode cX2_init 13 = .ok (.newarray .int, 2) := by decide +kernel
theorem dX2_init_15 : decode cX2_init 15 = .ok (.putfield 15, 3) := by decide +kernel
theorem dX2_init_18 : decode cX2_init 18 = .ok (.aload_n 0, 1) := by decide +kernel
theorem dX2_init_19 : decode cX2_init 19 = .ok (.sipush 10000, 3) := by decide +kernel
theorem dX2_init_22 : decode cX2_init 22 = .ok (.newarray .int, 2) := by decide +kernel
theorem dX2_init_24 : decode cX2_init 24 = .ok (.putfield 18, 3) := by decide +kernel
theorem dX2_init_27 : decode cX2_init 27 = .ok (.aload_n 0, 1) := by decide +kernel
theorem dX2_init_28 : decode cX2_init 28 = .ok (.sipush 10000, 3) := by decide +kernel
theorem dX2_init_31 : decode cX2_init 31 = .ok (.newarray .int, 2) := by decide +kernel
theorem dX2_init_33 : decode cX2_init 33 = .ok (.putfield 21, 3) := by decide +kernel
theorem dX2_init_36 : decode cX2_init 36 = .ok (.aload_n 0, 1) := by decide +kernel
theorem dX2_init_37 : decode cX2_init 37 = .ok (.aload_n 1, 1) := by decide +kernel
theorem dX2_init_38 : decode cX2_init 38 = .ok (.putfield 24, 3) := by decide +kernel
theorem dX2_init_41 : decode cX2_init 41 = .ok (.return_, 1) := by decide +kernel
theorem dX2_begin_0 : decode cX2_begin 0 = .ok (.aload_n 0, 1) := by decide +kernel
theorem dX2_begin_1 : decode cX2_begin 1 = .ok (.iconst 0, 1) := by decide +kernel
theorem dX2_begin_2 : decode cX2_begin 2 = .ok (.putfield 28, 3) := by decide +kernel
theorem dX2_begin_5 : decode cX2_begin 5 = .ok (.aload_n 0, 1) := by decide +kernel
theorem dX2_begin_6 : decode cX2_begin 6 = .ok (.iload_n 1, 1) := by decide +kernel
theorem dX2_begin_7 : decode cX2_begin 7 = .ok (.putfield 32, 3) := by decide +kernel
theorem dX2_begin_10 : decode cX2_begin 10 = .ok (.return_, 1) := by decide +kernel
theorem dX2_join_0 : decode cX2_join 0 = .ok (.aload_n 0, 1) := by decide +kernel
theorem dX2_join_1 : decode cX2_join 1 = .ok (.getfield 28, 3) := by decide +kernel
theorem dX2_join_4 : decode cX2_join 4 = .ok (.iconst 4, 1) := by decide +kernel
theorem dX2_join_5 : decode cX2_join 5 = .ok (.if_icmp .ge 42, 3) := by decide +kernel
theorem dX2_join_8 : decode cX2_join 8 = .ok (.iload_n 2, 1) := by decide +kernel
theorem dX2_join_9 : decode cX2_join 9 = .ok (.bipush 10, 2) := by decide +kernel
theorem dX2_join_11 : decode cX2_join 11 = .ok (.invokestatic 35, 3) := by decide +kernel
theorem dX2_join_14 : decode cX2_join 14 = .ok (.ifCond .eq 33, 3) := by decide +kernel
theorem dX2_join_17 : decode cX2_join 17 = .ok (.aload_n 0, 1) := by decide +kernel
theorem dX2_join_18 : decode cX2_join 18 = .ok (.getfield 11, 3) := by decide +kernel
theorem dX2_join_21 : decode cX2_join 21 = .ok (.aload_n 0, 1) := by decide +kernel
theorem dX2_join_22 : decode cX2_join 22 = .ok (.getfield 28, 3) := by decide +kernel
theorem dX2_join_25 : decode cX2_join 25 = .ok (.iload_n 1, 1) := by decide +kernel
theorem dX2_join_26 : decode cX2_join 26 = .ok (.iastore, 1) := by decide +kernel
theorem dX2_join_27 : decode cX2_join 27 = .ok (.aload_n 0, 1) := by decide +kernel
theorem dX2_join_28 : decode cX2_join 28 = .ok (.getfield 15, 3) := by decide +kernel
theorem dX2_join_31 : decode cX2_join 31 = .ok (.aload_n 0, 1) := by decide +kernel
theorem dX2_join_32 : decode cX2_join 32 = .ok (.getfield 28, 3) := by decide +kernel
theorem dX2_join_35 : decode cX2_join 35 = .ok (.iload_n 2, 1) := by decide +kernel
theorem dX2_join_36 : decode cX2_join 36 = .ok (.iastore, 1) := by decide +kernel
theorem dX2_join_37 : decode cX2_join 37 = .ok (.aload_n 0, 1) := by decide +kernel
theorem dX2_join_38 : decode cX2_join 38 = .ok (.dup, 1) := by decide +kernel
theorem dX2_join_39 : decode cX2_join 39 = .ok (.getfield 28, 3) := by decide +kernel
theorem dX2_join_42 : decode cX2_join 42 = .ok (.iconst 1, 1) := by decide +kernel
theorem dX2_join_43 : decode cX2_join 43 = .ok (.iadd, 1) := by decide +kernel
theorem dX2_join_44 : decode cX2_join 44 = .ok (.putfield 28, 3) := by decide +kernel
theorem dX2_join_47 : decode cX2_join 47 = .ok (.return_, 1) := by decide +kernel
theorem dX2_code_0 : decode cX2_code 0 = .ok (.iconst 0, 1) := by decide +kernel
theorem dX2_code_1 : decode cX2_code 1 = .ok (.istore_n 1, 1) := by decide +kernel
theorem dX2_code_2 : decode cX2_code 2 = .ok (.iconst 0, 1) := by decide +kernel
theorem dX2_code_3 : decode cX2_code 3 = .ok (.istore_n 2, 1) := by decide +kernel
theorem dX2_code_4 : decode cX2_code 4 = .ok (.iload_n 2, 1) := by decide +kernel
theorem dX2_code_5 : decode cX2_code 5 = .ok (.aload_n 0, 1) := by decide +kernel
theorem dX2_code_6 : decode cX2_code 6 = .ok (.getfield 28, 3) := by decide +kernel
theorem dX2_code_9 : decode cX2_code 9 = .ok (.if_icmp .ge 24, 3) := by decide +kernel
theorem dX2_code_12 : decode cX2_code 12 = .ok (.iload_n 1, 1) := by decide +kernel
theorem dX2_code_13 : decode cX2_code 13 = .ok (.aload_n 0, 1) := by decide +kernel
theorem dX2_code_14 : decode cX2_code 14 = .ok (.getfield 15, 3) := by decide +kernel
theorem dX2_code_17 : decode cX2_code 17 = .ok (.iload_n 2, 1) := by decide +kernel
theorem dX2_code_18 : decode cX2_code 18 = .ok (.iaload, 1) := by decide +kernel
theorem dX2_code_19 : decode cX2_code 19 = .ok (.getstatic 39, 3) := by decide +kernel
theorem dX2_code_22 : decode cX2_code 22 = .ok (.iload_n 2, 1) := by decide +kernel
theorem dX2_code_23 : decode cX2_code 23 = .ok (.iaload, 1) := by decide +kernel
theorem dX2_code_24 : decode cX2_code 24 = .ok (.imul, 1) := by decide +kernel
theorem dX2_code_25 : decode cX2_code 25 = .ok (.iadd, 1) := by decide +kernel
theorem dX2_code_26 : decode cX2_code 26 = .ok (.istore_n 1, 1) := by decide +kernel
theorem dX2_code_27 : decode cX2_code 27 = .ok (.iinc 2 1, 3) := by decide +kernel
theorem dX2_code_30 : decode cX2_code 30 = .ok (.goto (-26), 3) := by decide +kernel
theorem dX2_code_33 : decode cX2_code 33 = .ok (.iload_n 1, 1) := by decide +kernel
theorem dX2_code_34 : decode cX2_code 34 = .ok (.ireturn, 1) := by decide +kernel
theorem dX2_hostIn_0 : decode cX2_hostIn 0 = .ok (.iload_n 1, 1) := by decide +kernel
theorem dX2_hostIn_1 : decode cX2_hostIn 1 = .ok (.istore_n 3, 1) := by decide +kernel
theorem dX2_hostIn_2 : decode cX2_hostIn 2 = .ok (.iconst 0, 1) := by decide +kernel
theorem dX2_hostIn_3 : decode cX2_hostIn 3 = .ok (.istore 4, 2) := by decide +kernel
theorem dX2_hostIn_5 : decode cX2_hostIn 5 = .ok (.iload 4, 2) := by decide +kernel
theorem dX2_hostIn_7 : decode cX2_hostIn 7 = .ok (.iload_n 2, 1) := by decide +kernel
theorem dX2_hostIn_8 : decode cX2_hostIn 8 = .ok (.if_icmp .ge 14, 3) := by decide +kernel
theorem dX2_hostIn_11 : decode cX2_hostIn 11 = .ok (.iload_n 3, 1) := by decide +kernel
theorem dX2_hostIn_12 : decode cX2_hostIn 12 = .ok (.bipush 10, 2) := by decide +kernel
theorem dX2_hostIn_14 : decode cX2_hostIn 14 = .ok (.idiv, 1) := by decide +kernel
theorem dX2_hostIn_15 : decode cX2_hostIn 15 = .ok (.istore_n 3, 1) := by decide +kernel
theorem dX2_hostIn_16 : decode cX2_hostIn 16 = .ok (.iinc 4 1, 3) := by decide +kernel
theorem dX2_hostIn_19 : decode cX2_hostIn 19 = .ok (.goto (-14), 3) := by decide +kernel
theorem dX2_hostIn_22 : decode cX2_hostIn 22 = .ok (.iload_n 3, 1) := by decide +kernel
theorem dX2_hostIn_23 : decode cX2_hostIn 23 = .ok (.bipush 10, 2) := by decide +kernel
theorem dX2_hostIn_25 : decode cX2_hostIn 25 = .ok (.irem, 1) := by decide +kernel
theorem dX2_hostIn_26 : decode cX2_hostIn 26 = .ok (.ireturn, 1) := by decide +kernel
theorem dX2_before_0 : decode cX2_before 0 = .ok (.iload_n 1, 1) := by decide +kernel
theorem dX2_before_1 : decode cX2_before 1 = .ok (.sipush 10000, 3) := by decide +kernel
theorem dX2_before_4 : decode cX2_before 4 = .ok (.invokestatic 35, 3) := by decide +kernel
theorem dX2_before_7 : decode cX2_before 7 = .ok (.ifCond .eq 12, 3) := by decide +kernel
theorem dX2_before_10 : decode cX2_before 10 = .ok (.aload_n 0, 1) := by decide +kernel
theorem dX2_before_11 : decode cX2_before 11 = .ok (.getfield 21, 3) := by decide +kernel
theorem dX2_before_14 : decode cX2_before 14 = .ok (.iload_n 1, 1) := by decide +kernel
theorem dX2_before_15 : decode cX2_before 15 = .ok (.iaload, 1) := by decide +kernel
theorem dX2_before_16 : decode cX2_before 16 = .ok (.goto 4, 3) := by decide +kernel
theorem dX2_before_19 : decode cX2_before 19 = .ok (.iload_n 1, 1) := by decide +kernel
theorem dX2_before_20 : decode cX2_before 20 = .ok (.ireturn, 1) := by decide +kernel
theorem dX2_lookFrom_0 : decode cX2_lookFrom 0 = .ok (.iconst 0, 1) := by decide +kernel
theorem dX2_lookFrom_1 : decode cX2_lookFrom 1 = .ok (.istore_n 2, 1) := by decide +kernel
theorem dX2_lookFrom_2 : decode cX2_lookFrom 2 = .ok (.iload_n 2, 1) := by decide +kernel
theorem dX2_lookFrom_3 : decode cX2_lookFrom 3 = .ok (.getstatic 39, 3) := by decide +kernel
theorem dX2_lookFrom_6 : decode cX2_lookFrom 6 = .ok (.aload_n 0, 1) := by decide +kernel
theorem dX2_lookFrom_7 : decode cX2_lookFrom 7 = .ok (.getfield 28, 3) := by decide +kernel
theorem dX2_lookFrom_10 : decode cX2_lookFrom 10 = .ok (.iaload, 1) := by decide +kernel
theorem dX2_lookFrom_11 : decode cX2_lookFrom 11 = .ok (.if_icmp .ge 16, 3) := by decide +kernel
theorem dX2_lookFrom_14 : decode cX2_lookFrom 14 = .ok (.aload_n 0, 1) := by decide +kernel
theorem dX2_lookFrom_15 : decode cX2_lookFrom 15 = .ok (.getfield 21, 3) := by decide +kernel
theorem dX2_lookFrom_18 : decode cX2_lookFrom 18 = .ok (.iload_n 2, 1) := by decide +kernel
theorem dX2_lookFrom_19 : decode cX2_lookFrom 19 = .ok (.iconst (-1), 1) := by decide +kernel
theorem dX2_lookFrom_20 : decode cX2_lookFrom 20 = .ok (.iastore, 1) := by decide +kernel
theorem dX2_lookFrom_21 : decode cX2_lookFrom 21 = .ok (.iinc 2 1, 3) := by decide +kernel
theorem dX2_lookFrom_24 : decode cX2_lookFrom 24 = .ok (.goto (-22), 3) := by decide +kernel
theorem dX2_lookFrom_27 : decode cX2_lookFrom 27 = .ok (.aload_n 0, 1) := by decide +kernel
theorem dX2_lookFrom_28 : decode cX2_lookFrom 28 = .ok (.iconst 0, 1) := by decide +kernel
theorem dX2_lookFrom_29 : decode cX2_lookFrom 29 = .ok (.putfield 42, 3) := by decide +kernel
theorem dX2_lookFrom_32 : decode cX2_lookFrom 32 = .ok (.aload_n 0, 1) := by decide +kernel
theorem dX2_lookFrom_33 : decode cX2_lookFrom 33 = .ok (.iload_n 1, 1) := by decide +kernel
theorem dX2_lookFrom_34 : decode cX2_lookFrom 34 = .ok (.iload_n 1, 1) := by decide +kernel
theorem dX2_lookFrom_35 : decode cX2_lookFrom 35 = .ok (.invokevirtual 45, 3) := by decide +kernel
theorem dX2_lookFrom_38 : decode cX2_lookFrom 38 = .ok (.return_, 1) := by decide +kernel
theorem dX2_isUnseen_0 : decode cX2_isUnseen 0 = .ok (.iload_n 1, 1) := by decide +kernel
theorem dX2_isUnseen_1 : decode cX2_isUnseen 1 = .ok (.sipush 10000, 3) := by decide +kernel
theorem dX2_isUnseen_4 : decode cX2_isUnseen 4 = .ok (.invokestatic 35, 3) := by decide +kernel
theorem dX2_isUnseen_7 : decode cX2_isUnseen 7 = .ok (.ifCond .eq 17, 3) := by decide +kernel
theorem dX2_isUnseen_10 : decode cX2_isUnseen 10 = .ok (.aload_n 0, 1) := by decide +kernel
theorem dX2_isUnseen_11 : decode cX2_isUnseen 11 = .ok (.getfield 21, 3) := by decide +kernel
theorem dX2_isUnseen_14 : decode cX2_isUnseen 14 = .ok (.iload_n 1, 1) := by decide +kernel
theorem dX2_isUnseen_15 : decode cX2_isUnseen 15 = .ok (.iaload, 1) := by decide +kernel
theorem dX2_isUnseen_16 : decode cX2_isUnseen 16 = .ok (.iconst (-1), 1) := by decide +kernel
theorem dX2_isUnseen_17 : decode cX2_isUnseen 17 = .ok (.if_icmp .ne 7, 3) := by decide +kernel
theorem dX2_isUnseen_20 : decode cX2_isUnseen 20 = .ok (.iconst 1, 1) := by decide +kernel
theorem dX2_isUnseen_21 : decode cX2_isUnseen 21 = .ok (.goto 4, 3) := by decide +kernel
theorem dX2_isUnseen_24 : decode cX2_isUnseen 24 = .ok (.iconst 0, 1) := by decide +kernel
theorem dX2_isUnseen_25 : decode cX2_isUnseen 25 = .ok (.ireturn, 1) := by decide +kernel
theorem dX2_see_0 : decode cX2_see 0 = .ok (.aload_n 0, 1) := by decide +kernel
theorem dX2_see_1 : decode cX2_see 1 = .ok (.iload_n 1, 1) := by decide +kernel
theorem dX2_see_2 : decode cX2_see 2 = .ok (.invokevirtual 49, 3) := by decide +kernel
theorem dX2_see_5 : decode cX2_see 5 = .ok (.ifCond .eq 40, 3) := by decide +kernel
theorem dX2_see_8 : decode cX2_see 8 = .ok (.aload_n 0, 1) := by decide +kernel
theorem dX2_see_9 : decode cX2_see 9 = .ok (.getfield 42, 3) := by decide +kernel
theorem dX2_see_12 : decode cX2_see 12 = .ok (.sipush 10000, 3) := by decide +kernel
theorem dX2_see_15 : decode cX2_see 15 = .ok (.if_icmp .ge 30, 3) := by decide +kernel
theorem dX2_see_18 : decode cX2_see 18 = .ok (.aload_n 0, 1) := by decide +kernel
theorem dX2_see_19 : decode cX2_see 19 = .ok (.getfield 21, 3) := by decide +kernel
theorem dX2_see_22 : decode cX2_see 22 = .ok (.iload_n 1, 1) := by decide +kernel
theorem dX2_see_23 : decode cX2_see 23 = .ok (.iload_n 2, 1) := by decide +kernel
theorem dX2_see_24 : decode cX2_see 24 = .ok (.iastore, 1) := by decide +kernel
theorem dX2_see_25 : decode cX2_see 25 = .ok (.aload_n 0, 1) := by decide +kernel
theorem dX2_see_26 : decode cX2_see 26 = .ok (.getfield 18, 3) := by decide +kernel
theorem dX2_see_29 : decode cX2_see 29 = .ok (.aload_n 0, 1) := by decide +kernel
theorem dX2_see_30 : decode cX2_see 30 = .ok (.getfield 42, 3) := by decide +kernel
theorem dX2_see_33 : decode cX2_see 33 = .ok (.iload_n 1, 1) := by decide +kernel
theorem dX2_see_34 : decode cX2_see 34 = .ok (.iastore, 1) := by decide +kernel
theorem dX2_see_35 : decode cX2_see 35 = .ok (.aload_n 0, 1) := by decide +kernel
theorem dX2_see_36 : decode cX2_see 36 = .ok (.dup, 1) := by decide +kernel
theorem dX2_see_37 : decode cX2_see 37 = .ok (.getfield 42, 3) := by decide +kernel
theorem dX2_see_40 : decode cX2_see 40 = .ok (.iconst 1, 1) := by decide +kernel
theorem dX2_see_41 : decode cX2_see 41 = .ok (.iadd, 1) := by decide +kernel
theorem dX2_see_42 : decode cX2_see 42 = .ok (.putfield 42, 3) := by decide +kernel
theorem dX2_see_45 : decode cX2_see 45 = .ok (.return_, 1) := by decide +kernel
theorem dX2_lineUpNext_0 : decode cX2_lineUpNext 0 = .ok (.iconst 0, 1) := by decide +kernel
theorem dX2_lineUpNext_1 : decode cX2_lineUpNext 1 = .ok (.istore_n 2, 1) := by decide +kernel
theorem dX2_lineUpNext_2 : decode cX2_lineUpNext 2 = .ok (.iload_n 2, 1) := by decide +kernel
theorem dX2_lineUpNext_3 : decode cX2_lineUpNext 3 = .ok (.aload_n 0, 1) := by decide +kernel
theorem dX2_lineUpNext_4 : decode cX2_lineUpNext 4 = .ok (.getfield 28, 3) := by decide +kernel
theorem dX2_lineUpNext_7 : decode cX2_lineUpNext 7 = .ok (.if_icmp .ge 20, 3) := by decide +kernel
theorem dX2_lineUpNext_10 : decode cX2_lineUpNext 10 = .ok (.aload_n 0, 1) := by decide +kernel
theorem dX2_lineUpNext_11 : decode cX2_lineUpNext 11 = .ok (.iload_n 2, 1) := by decide +kernel
theorem dX2_lineUpNext_12 : decode cX2_lineUpNext 12 = .ok (.aload_n 0, 1) := by decide +kernel
theorem dX2_lineUpNext_13 : decode cX2_lineUpNext 13 = .ok (.iload_n 1, 1) := by decide +kernel
theorem dX2_lineUpNext_14 : decode cX2_lineUpNext 14 = .ok (.iload_n 2, 1) := by decide +kernel
theorem dX2_lineUpNext_15 : decode cX2_lineUpNext 15 = .ok (.invokevirtual 53, 3) := by decide +kernel
theorem dX2_lineUpNext_18 : decode cX2_lineUpNext 18 = .ok (.invokevirtual 57, 3) := by decide +kernel
theorem dX2_lineUpNext_21 : decode cX2_lineUpNext 21 = .ok (.iinc 2 1, 3) := by decide +kernel
theorem dX2_lineUpNext_24 : decode cX2_lineUpNext 24 = .ok (.goto (-22), 3) := by decide +kernel
theorem dX2_lineUpNext_27 : decode cX2_lineUpNext 27 = .ok (.iconst 0, 1) := by decide +kernel
theorem dX2_lineUpNext_28 : decode cX2_lineUpNext 28 = .ok (.istore_n 2, 1) := by decide +kernel
theorem dX2_lineUpNext_29 : decode cX2_lineUpNext 29 = .ok (.iload_n 2, 1) := by decide +kernel
theorem dX2_lineUpNext_30 : decode cX2_lineUpNext 30 = .ok (.aload_n 0, 1) := by decide +kernel
theorem dX2_lineUpNext_31 : decode cX2_lineUpNext 31 = .ok (.getfield 28, 3) := by decide +kernel
theorem dX2_lineUpNext_34 : decode cX2_lineUpNext 34 = .ok (.if_icmp .ge 119, 3) := by decide +kernel
theorem dX2_lineUpNext_37 : decode cX2_lineUpNext 37 = .ok (.aload_n 0, 1) := by decide +kernel
theorem dX2_lineUpNext_38 : decode cX2_lineUpNext 38 = .ok (.getfield 15, 3) := by decide +kernel
theorem dX2_lineUpNext_41 : decode cX2_lineUpNext 41 = .ok (.iload_n 2, 1) := by decide +kernel
theorem dX2_lineUpNext_42 : decode cX2_lineUpNext 42 = .ok (.iaload, 1) := by decide +kernel
theorem dX2_lineUpNext_43 : decode cX2_lineUpNext 43 = .ok (.istore_n 3, 1) := by decide +kernel
theorem dX2_lineUpNext_44 : decode cX2_lineUpNext 44 = .ok (.aload_n 0, 1) := by decide +kernel
theorem dX2_lineUpNext_45 : decode cX2_lineUpNext 45 = .ok (.getfield 32, 3) := by decide +kernel
theorem dX2_lineUpNext_48 : decode cX2_lineUpNext 48 = .ok (.iconst (-1), 1) := by decide +kernel
theorem dX2_lineUpNext_49 : decode cX2_lineUpNext 49 = .ok (.if_icmp .eq 11, 3) := by decide +kernel
theorem dX2_lineUpNext_52 : decode cX2_lineUpNext 52 = .ok (.iload_n 3, 1) := by decide +kernel
theorem dX2_lineUpNext_53 : decode cX2_lineUpNext 53 = .ok (.aload_n 0, 1) := by decide +kernel
theorem dX2_lineUpNext_54 : decode cX2_lineUpNext 54 = .ok (.getfield 32, 3) := by decide +kernel
theorem dX2_lineUpNext_57 : decode cX2_lineUpNext 57 = .ok (.if_icmp .ne 90, 3) := by decide +kernel
theorem dX2_lineUpNext_60 : decode cX2_lineUpNext 60 = .ok (.aload_n 0, 1) := by decide +kernel
theorem dX2_lineUpNext_61 : decode cX2_lineUpNext 61 = .ok (.iload_n 2, 1) := by decide +kernel
theorem dX2_lineUpNext_62 : decode cX2_lineUpNext 62 = .ok (.aload_n 0, 1) := by decide +kernel
theorem dX2_lineUpNext_63 : decode cX2_lineUpNext 63 = .ok (.getfield 32, 3) := by decide +kernel
theorem dX2_lineUpNext_66 : decode cX2_lineUpNext 66 = .ok (.invokevirtual 57, 3) := by decide +kernel
theorem dX2_lineUpNext_69 : decode cX2_lineUpNext 69 = .ok (.iconst 0, 1) := by decide +kernel
theorem dX2_lineUpNext_70 : decode cX2_lineUpNext 70 = .ok (.istore 4, 2) := by decide +kernel
theorem dX2_lineUpNext_72 : decode cX2_lineUpNext 72 = .ok (.iload 4, 2) := by decide +kernel
theorem dX2_lineUpNext_74 : decode cX2_lineUpNext 74 = .ok (.aload_n 0, 1) := by decide +kernel
theorem dX2_lineUpNext_75 : decode cX2_lineUpNext 75 = .ok (.getfield 24, 3) := by decide +kernel
theorem dX2_lineUpNext_78 : decode cX2_lineUpNext 78 = .ok (.getfield 60, 3) := by decide +kernel
theorem dX2_lineUpNext_81 : decode cX2_lineUpNext 81 = .ok (.getfield 66, 3) := by decide +kernel
theorem dX2_lineUpNext_84 : decode cX2_lineUpNext 84 = .ok (.if_icmp .ge 57, 3) := by decide +kernel
theorem dX2_lineUpNext_87 : decode cX2_lineUpNext 87 = .ok (.iload_n 1, 1) := by decide +kernel
theorem dX2_lineUpNext_88 : decode cX2_lineUpNext 88 = .ok (.iload 4, 2) := by decide +kernel
theorem dX2_lineUpNext_90 : decode cX2_lineUpNext 90 = .ok (.iload_n 3, 1) := by decide +kernel
theorem dX2_lineUpNext_91 : decode cX2_lineUpNext 91 = .ok (.isub, 1) := by decide +kernel
theorem dX2_lineUpNext_92 : decode cX2_lineUpNext 92 = .ok (.getstatic 39, 3) := by decide +kernel
theorem dX2_lineUpNext_95 : decode cX2_lineUpNext 95 = .ok (.iload_n 2, 1) := by decide +kernel
theorem dX2_lineUpNext_96 : decode cX2_lineUpNext 96 = .ok (.iaload, 1) := by decide +kernel
theorem dX2_lineUpNext_97 : decode cX2_lineUpNext 97 = .ok (.imul, 1) := by decide +kernel
theorem dX2_lineUpNext_98 : decode cX2_lineUpNext 98 = .ok (.iadd, 1) := by decide +kernel
theorem dX2_lineUpNext_99 : decode cX2_lineUpNext 99 = .ok (.istore 5, 2) := by decide +kernel
theorem dX2_lineUpNext_101 : decode cX2_lineUpNext 101 = .ok (.aload_n 0, 1) := by decide +kernel
theorem dX2_lineUpNext_102 : decode cX2_lineUpNext 102 = .ok (.iload 5, 2) := by decide +kernel
theorem dX2_lineUpNext_104 : decode cX2_lineUpNext 104 = .ok (.invokevirtual 49, 3) := by decide +kernel
theorem dX2_lineUpNext_107 : decode cX2_lineUpNext 107 = .ok (.ifCond .eq 28, 3) := by decide +kernel
theorem dX2_lineUpNext_110 : decode cX2_lineUpNext 110 = .ok (.aload_n 0, 1) := by decide +kernel
theorem dX2_lineUpNext_111 : decode cX2_lineUpNext 111 = .ok (.getfield 24, 3) := by decide +kernel
theorem dX2_lineUpNext_114 : decode cX2_lineUpNext 114 = .ok (.aload_n 0, 1) := by decide +kernel
theorem dX2_lineUpNext_115 : decode cX2_lineUpNext 115 = .ok (.getfield 11, 3) := by decide +kernel
theorem dX2_lineUpNext_118 : decode cX2_lineUpNext 118 = .ok (.iload_n 2, 1) := by decide +kernel
theorem dX2_lineUpNext_119 : decode cX2_lineUpNext 119 = .ok (.iaload, 1) := by decide +kernel
theorem dX2_lineUpNext_120 : decode cX2_lineUpNext 120 = .ok (.iload 4, 2) := by decide +kernel
theorem dX2_lineUpNext_122 : decode cX2_lineUpNext 122 = .ok (.invokevirtual 71, 3) := by decide +kernel
theorem dX2_lineUpNext_125 : decode cX2_lineUpNext 125 = .ok (.ifCond .eq 10, 3) := by decide +kernel
theorem dX2_lineUpNext_128 : decode cX2_lineUpNext 128 = .ok (.aload_n 0, 1) := by decide +kernel
theorem dX2_lineUpNext_129 : decode cX2_lineUpNext 129 = .ok (.iload 5, 2) := by decide +kernel
theorem dX2_lineUpNext_131 : decode cX2_lineUpNext 131 = .ok (.iload_n 1, 1) := by decide +kernel
theorem dX2_lineUpNext_132 : decode cX2_lineUpNext 132 = .ok (.invokevirtual 45, 3) := by decide +kernel
theorem dX2_lineUpNext_135 : decode cX2_lineUpNext 135 = .ok (.iinc 4 1, 3) := by decide +kernel
theorem dX2_lineUpNext_138 : decode cX2_lineUpNext 138 = .ok (.goto (-66), 3) := by decide +kernel
theorem dX2_lineUpNext_141 : decode cX2_lineUpNext 141 = .ok (.aload_n 0, 1) := by decide +kernel
theorem dX2_lineUpNext_142 : decode cX2_lineUpNext 142 = .ok (.iload_n 2, 1) := by decide +kernel
theorem dX2_lineUpNext_143 : decode cX2_lineUpNext 143 = .ok (.iload_n 3, 1) := by decide +kernel
theorem dX2_lineUpNext_144 : decode cX2_lineUpNext 144 = .ok (.invokevirtual 57, 3) := by decide +kernel
theorem dX2_lineUpNext_147 : decode cX2_lineUpNext 147 = .ok (.iinc 2 1, 3) := by decide +kernel
theorem dX2_lineUpNext_150 : decode cX2_lineUpNext 150 = .ok (.goto (-121), 3) := by decide +kernel
theorem dX2_lineUpNext_153 : decode cX2_lineUpNext 153 = .ok (.return_, 1) := by decide +kernel
theorem dX2_put_0 : decode cX2_put 0 = .ok (.iload_n 2, 1) := by decide +kernel
theorem dX2_put_1 : decode cX2_put 1 = .ok (.aload_n 0, 1) := by decide +kernel
theorem dX2_put_2 : decode cX2_put 2 = .ok (.getfield 15, 3) := by decide +kernel
theorem dX2_put_5 : decode cX2_put 5 = .ok (.iload_n 1, 1) := by decide +kernel
theorem dX2_put_6 : decode cX2_put 6 = .ok (.iaload, 1) := by decide +kernel
theorem dX2_put_7 : decode cX2_put 7 = .ok (.if_icmp .ne 4, 3) := by decide +kernel
theorem dX2_put_10 : decode cX2_put 10 = .ok (.return_, 1) := by decide +kernel
theorem dX2_put_11 : decode cX2_put 11 = .ok (.aload_n 0, 1) := by decide +kernel
theorem dX2_put_12 : decode cX2_put 12 = .ok (.getfield 15, 3) := by decide +kernel
theorem dX2_put_15 : decode cX2_put 15 = .ok (.iload_n 1, 1) := by decide +kernel
theorem dX2_put_16 : decode cX2_put 16 = .ok (.iaload, 1) := by decide +kernel
theorem dX2_put_17 : decode cX2_put 17 = .ok (.aload_n 0, 1) := by decide +kernel
theorem dX2_put_18 : decode cX2_put 18 = .ok (.getfield 32, 3) := by decide +kernel
theorem dX2_put_21 : decode cX2_put 21 = .ok (.if_icmp .eq 23, 3) := by decide +kernel
theorem dX2_put_24 : decode cX2_put 24 = .ok (.aload_n 0, 1) := by decide +kernel
theorem dX2_put_25 : decode cX2_put 25 = .ok (.getfield 24, 3) := by decide +kernel
theorem dX2_put_28 : decode cX2_put 28 = .ok (.aload_n 0, 1) := by decide +kernel
theorem dX2_put_29 : decode cX2_put 29 = .ok (.getfield 11, 3) := by decide +kernel
theorem dX2_put_32 : decode cX2_put 32 = .ok (.iload_n 1, 1) := by decide +kernel
theorem dX2_put_33 : decode cX2_put 33 = .ok (.iaload, 1) := by decide +kernel
theorem dX2_put_34 : decode cX2_put 34 = .ok (.aload_n 0, 1) := by decide +kernel
theorem dX2_put_35 : decode cX2_put 35 = .ok (.getfield 15, 3) := by decide +kernel
theorem dX2_put_38 : decode cX2_put 38 = .ok (.iload_n 1, 1) := by decide +kernel
theorem dX2_put_39 : decode cX2_put 39 = .ok (.iaload, 1) := by decide +kernel
theorem dX2_put_40 : decode cX2_put 40 = .ok (.iconst (-1), 1) := by decide +kernel
theorem dX2_put_41 : decode cX2_put 41 = .ok (.invokevirtual 74, 3) := by decide +kernel
theorem dX2_put_44 : decode cX2_put 44 = .ok (.aload_n 0, 1) := by decide +kernel
theorem dX2_put_45 : decode cX2_put 45 = .ok (.getfield 15, 3) := by decide +kernel
theorem dX2_put_48 : decode cX2_put 48 = .ok (.iload_n 1, 1) := by decide +kernel
theorem dX2_put_49 : decode cX2_put 49 = .ok (.iload_n 2, 1) := by decide +kernel
theorem dX2_put_50 : decode cX2_put 50 = .ok (.iastore, 1) := by decide +kernel
theorem dX2_put_51 : decode cX2_put 51 = .ok (.iload_n 2, 1) := by decide +kernel
theorem dX2_put_52 : decode cX2_put 52 = .ok (.aload_n 0, 1) := by decide +kernel
theorem dX2_put_53 : decode cX2_put 53 = .ok (.getfield 32, 3) := by decide +kernel
theorem dX2_put_56 : decode cX2_put 56 = .ok (.if_icmp .eq 18, 3) := by decide +kernel
theorem dX2_put_59 : decode cX2_put 59 = .ok (.aload_n 0, 1) := by decide +kernel
theorem dX2_put_60 : decode cX2_put 60 = .ok (.getfield 24, 3) := by decide +kernel
theorem dX2_put_63 : decode cX2_put 63 = .ok (.aload_n 0, 1) := by decide +kernel
theorem dX2_put_64 : decode cX2_put 64 = .ok (.getfield 11, 3) := by decide +kernel
theorem dX2_put_67 : decode cX2_put 67 = .ok (.iload_n 1, 1) := by decide +kernel
theorem dX2_put_68 : decode cX2_put 68 = .ok (.iaload, 1) := by decide +kernel
theorem dX2_put_69 : decode cX2_put 69 = .ok (.iload_n 2, 1) := by decide +kernel
theorem dX2_put_70 : decode cX2_put 70 = .ok (.iconst 1, 1) := by decide +kernel
theorem dX2_put_71 : decode cX2_put 71 = .ok (.invokevirtual 74, 3) := by decide +kernel
theorem dX2_put_74 : decode cX2_put 74 = .ok (.return_, 1) := by decide +kernel
theorem dX2_allLeftFallen_0 : decode cX2_allLeftFallen 0 = .ok (.iconst 0, 1) := by decide +kernel
theorem dX2_allLeftFallen_1 : decode cX2_allLeftFallen 1 = .ok (.istore_n 2, 1) := by decide +kernel
theorem dX2_allLeftFallen_2 : decode cX2_allLeftFallen 2 = .ok (.iload_n 2, 1) := by decide +kernel
theorem dX2_allLeftFallen_3 : decode cX2_allLeftFallen 3 = .ok (.aload_n 0, 1) := by decide +kernel
theorem dX2_allLeftFallen_4 : decode cX2_allLeftFallen 4 = .ok (.getfield 28, 3) := by decide +kernel
theorem dX2_allLeftFallen_7 : decode cX2_allLeftFallen 7 = .ok (.if_icmp .ge 24, 3) := by decide +kernel
theorem dX2_allLeftFallen_10 : decode cX2_allLeftFallen 10 = .ok (.aload_n 0, 1) := by decide +kernel
theorem dX2_allLeftFallen_11 : decode cX2_allLeftFallen 11 = .ok (.iload_n 1, 1) := by decide +kernel
theorem dX2_allLeftFallen_12 : decode cX2_allLeftFallen 12 = .ok (.iload_n 2, 1) := by decide +kernel
theorem dX2_allLeftFallen_13 : decode cX2_allLeftFallen 13 = .ok (.invokevirtual 53, 3) := by decide +kernel
theorem dX2_allLeftFallen_16 : decode cX2_allLeftFallen 16 = .ok (.aload_n 0, 1) := by decide +kernel
theorem dX2_allLeftFallen_17 : decode cX2_allLeftFallen 17 = .ok (.getfield 32, 3) := by decide +kernel
theorem dX2_allLeftFallen_20 : decode cX2_allLeftFallen 20 = .ok (.if_icmp .ne 5, 3) := by decide +kernel
theorem dX2_allLeftFallen_23 : decode cX2_allLeftFallen 23 = .ok (.iconst 0, 1) := by decide +kernel
theorem dX2_allLeftFallen_24 : decode cX2_allLeftFallen 24 = .ok (.ireturn, 1) := by decide +kernel
theorem dX2_allLeftFallen_25 : decode cX2_allLeftFallen 25 = .ok (.iinc 2 1, 3) := by decide +kernel
theorem dX2_allLeftFallen_28 : decode cX2_allLeftFallen 28 = .ok (.goto (-26), 3) := by decide +kernel
theorem dX2_allLeftFallen_31 : decode cX2_allLeftFallen 31 = .ok (.iconst 1, 1) := by decide +kernel
theorem dX2_allLeftFallen_32 : decode cX2_allLeftFallen 32 = .ok (.ireturn, 1) := by decide +kernel
theorem dX3_init_0 : decode cX3_init 0 = .ok (.aload_n 0, 1) := by decide +kernel
theorem dX3_init_1 : decode cX3_init 1 = .ok (.invokespecial 3, 3) := by decide +kernel
theorem dX3_init_4 : decode cX3_init 4 = .ok (.aload_n 0, 1) := by decide +kernel
theorem dX3_init_5 : decode cX3_init 5 = .ok (.aload_n 1, 1) := by decide +kernel
theorem dX3_init_6 : decode cX3_init 6 = .ok (.putfield 9, 3) := by decide +kernel
theorem dX3_init_9 : decode cX3_init 9 = .ok (.aload_n 0, 1) := by decide +kernel
theorem dX3_init_10 : decode cX3_init 10 = .ok (.aload_n 1, 1) := by decide +kernel
theorem dX3_init_11 : decode cX3_init 11 = .ok (.getfield 15, 3) := by decide +kernel
theorem dX3_init_14 : decode cX3_init 14 = .ok (.putfield 21, 3) := by decide +kernel
theorem dX3_init_17 : decode cX3_init 17 = .ok (.aload_n 0, 1) := by decide +kernel
theorem dX3_init_18 : decode cX3_init 18 = .ok (.aload_n 1, 1) := by decide +kernel
theorem dX3_init_19 : decode cX3_init 19 = .ok (.getfield 22, 3) := by decide +kernel
theorem dX3_init_22 : decode cX3_init 22 = .ok (.putfield 26, 3) := by decide +kernel
theorem dX3_init_25 : decode cX3_init 25 = .ok (.aload_n 0, 1) := by decide +kernel
theorem dX3_init_26 : decode cX3_init 26 = .ok (.aload_n 2, 1) := by decide +kernel
theorem dX3_init_27 : decode cX3_init 27 = .ok (.putfield 27, 3) := by decide +kernel
theorem dX3_init_30 : decode cX3_init 30 = .ok (.return_, 1) := by decide +kernel
theorem dX3_isTooMuch_0 : decode cX3_isTooMuch 0 = .ok (.iconst 0, 1) := by decide +kernel
theorem dX3_isTooMuch_1 : decode cX3_isTooMuch 1 = .ok (.istore_n 1, 1) := by decide +kernel
theorem dX3_isTooMuch_2 : decode cX3_isTooMuch 2 = .ok (.iload_n 1, 1) := by decide +kernel
theorem dX3_isTooMuch_3 : decode cX3_isTooMuch 3 = .ok (.aload_n 0, 1) := by decide +kernel
theorem dX3_isTooMuch_4 : decode cX3_isTooMuch 4 = .ok (.getfield 21, 3) := by decide +kernel
theorem dX3_isTooMuch_7 : decode cX3_isTooMuch 7 = .ok (.getfield 31, 3) := by decide +kernel
theorem dX3_isTooMuch_10 : decode cX3_isTooMuch 10 = .ok (.if_icmp .ge 68, 3) := by decide +kernel
theorem dX3_isTooMuch_13 : decode cX3_isTooMuch 13 = .ok (.iconst 0, 1) := by decide +kernel
theorem dX3_isTooMuch_14 : decode cX3_isTooMuch 14 = .ok (.istore_n 2, 1) := by decide +kernel
theorem dX3_isTooMuch_15 : decode cX3_isTooMuch 15 = .ok (.iconst 0, 1) := by decide +kernel
theorem dX3_isTooMuch_16 : decode cX3_isTooMuch 16 = .ok (.istore_n 3, 1) := by decide +kernel
theorem dX3_isTooMuch_17 : decode cX3_isTooMuch 17 = .ok (.iload_n 3, 1) := by decide +kernel
theorem dX3_isTooMuch_18 : decode cX3_isTooMuch 18 = .ok (.aload_n 0, 1) := by decide +kernel
theorem dX3_isTooMuch_19 : decode cX3_isTooMuch 19 = .ok (.getfield 26, 3) := by decide +kernel
theorem dX3_isTooMuch_22 : decode cX3_isTooMuch 22 = .ok (.getfield 37, 3) := by decide +kernel
theorem dX3_isTooMuch_25 : decode cX3_isTooMuch 25 = .ok (.if_icmp .ge 40, 3) := by decide +kernel
theorem dX3_isTooMuch_28 : decode cX3_isTooMuch 28 = .ok (.iload_n 2, 1) := by decide +kernel
theorem dX3_isTooMuch_29 : decode cX3_isTooMuch 29 = .ok (.aload_n 0, 1) := by decide +kernel
theorem dX3_isTooMuch_30 : decode cX3_isTooMuch 30 = .ok (.getfield 26, 3) := by decide +kernel
theorem dX3_isTooMuch_33 : decode cX3_isTooMuch 33 = .ok (.iload_n 3, 1) := by decide +kernel
theorem dX3_isTooMuch_34 : decode cX3_isTooMuch 34 = .ok (.iload_n 1, 1) := by decide +kernel
theorem dX3_isTooMuch_35 : decode cX3_isTooMuch 35 = .ok (.invokevirtual 40, 3) := by decide +kernel
theorem dX3_isTooMuch_38 : decode cX3_isTooMuch 38 = .ok (.ifCond .eq 18, 3) := by decide +kernel
theorem dX3_isTooMuch_41 : decode cX3_isTooMuch 41 = .ok (.aload_n 0, 1) := by decide +kernel
theorem dX3_isTooMuch_42 : decode cX3_isTooMuch 42 = .ok (.getfield 26, 3) := by decide +kernel
theorem dX3_isTooMuch_45 : decode cX3_isTooMuch 45 = .ok (.iload_n 3, 1) := by decide +kernel
theorem dX3_isTooMuch_46 : decode cX3_isTooMuch 46 = .ok (.invokevirtual 44, 3) := by decide +kernel
theorem dX3_isTooMuch_49 : decode cX3_isTooMuch 49 = .ok (.ifCond .eq 7, 3) := by decide +kernel
theorem dX3_isTooMuch_52 : decode cX3_isTooMuch 52 = .ok (.iconst 1, 1) := by decide +kernel
theorem dX3_isTooMuch_53 : decode cX3_isTooMuch 53 = .ok (.goto 4, 3) := by decide +kernel
theorem dX3_isTooMuch_56 : decode cX3_isTooMuch 56 = .ok (.iconst 0, 1) := by decide +kernel
theorem dX3_isTooMuch_57 : decode cX3_isTooMuch 57 = .ok (.iadd, 1) := by decide +kernel
theorem dX3_isTooMuch_58 : decode cX3_isTooMuch 58 = .ok (.istore_n 2, 1) := by decide +kernel
theorem dX3_isTooMuch_59 : decode cX3_isTooMuch 59 = .ok (.iinc 3 1, 3) := by decide +kernel
theorem dX3_isTooMuch_62 : decode cX3_isTooMuch 62 = .ok (.goto (-45), 3) := by decide +kernel
theorem dX3_isTooMuch_65 : decode cX3_isTooMuch 65 = .ok (.iload_n 2, 1) := by decide +kernel
theorem dX3_isTooMuch_66 : decode cX3_isTooMuch 66 = .ok (.iconst 4, 1) := by decide +kernel
theorem dX3_isTooMuch_67 : decode cX3_isTooMuch 67 = .ok (.if_icmp .le 5, 3) := by decide +kernel
theorem dX3_isTooMuch_70 : decode cX3_isTooMuch 70 = .ok (.iconst 1, 1) := by decide +kernel
theorem dX3_isTooMuch_71 : decode cX3_isTooMuch 71 = .ok (.ireturn, 1) := by decide +kernel
theorem dX3_isTooMuch_72 : decode cX3_isTooMuch 72 = .ok (.iinc 1 1, 3) := by decide +kernel
theorem dX3_isTooMuch_75 : decode cX3_isTooMuch 75 = .ok (.goto (-73), 3) := by decide +kernel
theorem dX3_isTooMuch_78 : decode cX3_isTooMuch 78 = .ok (.iconst 0, 1) := by decide +kernel
theorem dX3_isTooMuch_79 : decode cX3_isTooMuch 79 = .ok (.ireturn, 1) := by decide +kernel
theorem dX3_firstUnsafe_0 : decode cX3_firstUnsafe 0 = .ok (.iconst 0, 1) := by decide +kernel
theorem dX3_firstUnsafe_1 : decode cX3_firstUnsafe 1 = .ok (.istore_n 1, 1) := by decide +kernel
theorem dX3_firstUnsafe_2 : decode cX3_firstUnsafe 2 = .ok (.iload_n 1, 1) := by decide +kernel
theorem dX3_firstUnsafe_3 : decode cX3_firstUnsafe 3 = .ok (.aload_n 0, 1) := by decide +kernel
theorem dX3_firstUnsafe_4 : decode cX3_firstUnsafe 4 = .ok (.getfield 21, 3) := by decide +kernel
theorem dX3_firstUnsafe_7 : decode cX3_firstUnsafe 7 = .ok (.getfield 31, 3) := by decide +kernel
theorem dX3_firstUnsafe_10 : decode cX3_firstUnsafe 10 = .ok (.if_icmp .ge 54, 3) := by decide +kernel
theorem dX3_firstUnsafe_13 : decode cX3_firstUnsafe 13 = .ok (.aload_n 0, 1) := by decide +kernel
theorem dX3_firstUnsafe_14 : decode cX3_firstUnsafe 14 = .ok (.getfield 21, 3) := by decide +kernel
theorem dX3_firstUnsafe_17 : decode cX3_firstUnsafe 17 = .ok (.getfield 48, 3) := by decide +kernel
theorem dX3_firstUnsafe_20 : decode cX3_firstUnsafe 20 = .ok (.iload_n 1, 1) := by decide +kernel
theorem dX3_firstUnsafe_21 : decode cX3_firstUnsafe 21 = .ok (.baload, 1) := by decide +kernel
theorem dX3_firstUnsafe_22 : decode cX3_firstUnsafe 22 = .ok (.ifCond .eq 36, 3) := by decide +kernel
theorem dX3_firstUnsafe_25 : decode cX3_firstUnsafe 25 = .ok (.aload_n 0, 1) := by decide +kernel
theorem dX3_firstUnsafe_26 : decode cX3_firstUnsafe 26 = .ok (.iload_n 1, 1) := by decide +kernel
theorem dX3_firstUnsafe_27 : decode cX3_firstUnsafe 27 = .ok (.invokevirtual 52, 3) := by decide +kernel
theorem dX3_firstUnsafe_30 : decode cX3_firstUnsafe 30 = .ok (.aload_n 0, 1) := by decide +kernel
theorem dX3_firstUnsafe_31 : decode cX3_firstUnsafe 31 = .ok (.invokevirtual 56, 3) := by decide +kernel
theorem dX3_firstUnsafe_34 : decode cX3_firstUnsafe 34 = .ok (.istore_n 2, 1) := by decide +kernel
theorem dX3_firstUnsafe_35 : decode cX3_firstUnsafe 35 = .ok (.aload_n 0, 1) := by decide +kernel
theorem dX3_firstUnsafe_36 : decode cX3_firstUnsafe 36 = .ok (.getfield 21, 3) := by decide +kernel
theorem dX3_firstUnsafe_39 : decode cX3_firstUnsafe 39 = .ok (.getfield 48, 3) := by decide +kernel
theorem dX3_firstUnsafe_42 : decode cX3_firstUnsafe 42 = .ok (.iload_n 1, 1) := by decide +kernel
theorem dX3_firstUnsafe_43 : decode cX3_firstUnsafe 43 = .ok (.iconst 1, 1) := by decide +kernel
theorem dX3_firstUnsafe_44 : decode cX3_firstUnsafe 44 = .ok (.bastore, 1) := by decide +kernel
theorem dX3_firstUnsafe_45 : decode cX3_firstUnsafe 45 = .ok (.aload_n 0, 1) := by decide +kernel
