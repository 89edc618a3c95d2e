theorem dX11_keep_81 : decode cX11_keep 81 = .ok (.iastore, 1) := by decide +kernel
theorem dX11_keep_82 : decode cX11_keep 82 = .ok (.iinc 1 1, 3) := by decide +kernel
theorem dX11_keep_85 : decode cX11_keep 85 = .ok (.goto (-31), 3) := by decide +kernel
theorem dX11_keep_88 : decode cX11_keep 88 = .ok (.aload_n 0, 1) := by decide +kernel
theorem dX11_keep_89 : decode cX11_keep 89 = .ok (.dup, 1) := by decide +kernel
theorem dX11_keep_90 : decode cX11_keep 90 = .ok (.getfield 54, 3) := by decide +kernel
theorem dX11_keep_93 : decode cX11_keep 93 = .ok (.iconst 1, 1) := by decide +kernel
theorem dX11_keep_94 : decode cX11_keep 94 = .ok (.iadd, 1) := by decide +kernel
theorem dX11_keep_95 : decode cX11_keep 95 = .ok (.putfield 54, 3) := by decide +kernel
theorem dX11_keep_98 : decode cX11_keep 98 = .ok (.return_, 1) := by decide +kernel
theorem dX11_undo_0 : decode cX11_undo 0 = .ok (.aload_n 0, 1) := by decide +kernel
theorem dX11_undo_1 : decode cX11_undo 1 = .ok (.getfield 54, 3) := by decide +kernel
theorem dX11_undo_4 : decode cX11_undo 4 = .ok (.ifCond .ne 6, 3) := by decide +kernel
theorem dX11_undo_7 : decode cX11_undo 7 = .ok (.bipush (-2), 2) := by decide +kernel
theorem dX11_undo_9 : decode cX11_undo 9 = .ok (.ireturn, 1) := by decide +kernel
theorem dX11_undo_10 : decode cX11_undo 10 = .ok (.aload_n 0, 1) := by decide +kernel
theorem dX11_undo_11 : decode cX11_undo 11 = .ok (.dup, 1) := by decide +kernel
theorem dX11_undo_12 : decode cX11_undo 12 = .ok (.getfield 54, 3) := by decide +kernel
theorem dX11_undo_15 : decode cX11_undo 15 = .ok (.iconst 1, 1) := by decide +kernel
theorem dX11_undo_16 : decode cX11_undo 16 = .ok (.isub, 1) := by decide +kernel
theorem dX11_undo_17 : decode cX11_undo 17 = .ok (.putfield 54, 3) := by decide +kernel
theorem dX11_undo_20 : decode cX11_undo 20 = .ok (.iconst 0, 1) := by decide +kernel
theorem dX11_undo_21 : decode cX11_undo 21 = .ok (.istore_n 1, 1) := by decide +kernel
theorem dX11_undo_22 : decode cX11_undo 22 = .ok (.iload_n 1, 1) := by decide +kernel
theorem dX11_undo_23 : decode cX11_undo 23 = .ok (.sipush 354, 3) := by decide +kernel
theorem dX11_undo_26 : decode cX11_undo 26 = .ok (.if_icmp .ge 30, 3) := by decide +kernel
theorem dX11_undo_29 : decode cX11_undo 29 = .ok (.aload_n 0, 1) := by decide +kernel
theorem dX11_undo_30 : decode cX11_undo 30 = .ok (.getfield 7, 3) := by decide +kernel
theorem dX11_undo_33 : decode cX11_undo 33 = .ok (.iload_n 1, 1) := by decide +kernel
theorem dX11_undo_34 : decode cX11_undo 34 = .ok (.aload_n 0, 1) := by decide +kernel
theorem dX11_undo_35 : decode cX11_undo 35 = .ok (.getfield 13, 3) := by decide +kernel
theorem dX11_undo_38 : decode cX11_undo 38 = .ok (.sipush 354, 3) := by decide +kernel
theorem dX11_undo_41 : decode cX11_undo 41 = .ok (.aload_n 0, 1) := by decide +kernel
theorem dX11_undo_42 : decode cX11_undo 42 = .ok (.getfield 54, 3) := by decide +kernel
theorem dX11_undo_45 : decode cX11_undo 45 = .ok (.imul, 1) := by decide +kernel
theorem dX11_undo_46 : decode cX11_undo 46 = .ok (.iload_n 1, 1) := by decide +kernel
theorem dX11_undo_47 : decode cX11_undo 47 = .ok (.iadd, 1) := by decide +kernel
theorem dX11_undo_48 : decode cX11_undo 48 = .ok (.iaload, 1) := by decide +kernel
theorem dX11_undo_49 : decode cX11_undo 49 = .ok (.iastore, 1) := by decide +kernel
theorem dX11_undo_50 : decode cX11_undo 50 = .ok (.iinc 1 1, 3) := by decide +kernel
theorem dX11_undo_53 : decode cX11_undo 53 = .ok (.goto (-31), 3) := by decide +kernel
theorem dX11_undo_56 : decode cX11_undo 56 = .ok (.aload_n 0, 1) := by decide +kernel
theorem dX11_undo_57 : decode cX11_undo 57 = .ok (.getfield 54, 3) := by decide +kernel
theorem dX11_undo_60 : decode cX11_undo 60 = .ok (.ireturn, 1) := by decide +kernel
theorem dX11_areAmounts_0 : decode cX11_areAmounts 0 = .ok (.iload_n 0, 1) := by decide +kernel
theorem dX11_areAmounts_1 : decode cX11_areAmounts 1 = .ok (.iconst 0, 1) := by decide +kernel
theorem dX11_areAmounts_2 : decode cX11_areAmounts 2 = .ok (.sipush 1000, 3) := by decide +kernel
theorem dX11_areAmounts_5 : decode cX11_areAmounts 5 = .ok (.invokestatic 50, 3) := by decide +kernel
theorem dX11_areAmounts_8 : decode cX11_areAmounts 8 = .ok (.ifCond .eq 29, 3) := by decide +kernel
theorem dX11_areAmounts_11 : decode cX11_areAmounts 11 = .ok (.iload_n 1, 1) := by decide +kernel
theorem dX11_areAmounts_12 : decode cX11_areAmounts 12 = .ok (.iconst 0, 1) := by decide +kernel
theorem dX11_areAmounts_13 : decode cX11_areAmounts 13 = .ok (.sipush 1000, 3) := by decide +kernel
theorem dX11_areAmounts_16 : decode cX11_areAmounts 16 = .ok (.invokestatic 50, 3) := by decide +kernel
theorem dX11_areAmounts_19 : decode cX11_areAmounts 19 = .ok (.ifCond .eq 18, 3) := by decide +kernel
theorem dX11_areAmounts_22 : decode cX11_areAmounts 22 = .ok (.iload_n 2, 1) := by decide +kernel
theorem dX11_areAmounts_23 : decode cX11_areAmounts 23 = .ok (.iconst 0, 1) := by decide +kernel
theorem dX11_areAmounts_24 : decode cX11_areAmounts 24 = .ok (.sipush 1000, 3) := by decide +kernel
theorem dX11_areAmounts_27 : decode cX11_areAmounts 27 = .ok (.invokestatic 50, 3) := by decide +kernel
theorem dX11_areAmounts_30 : decode cX11_areAmounts 30 = .ok (.ifCond .eq 7, 3) := by decide +kernel
theorem dX11_areAmounts_33 : decode cX11_areAmounts 33 = .ok (.iconst 1, 1) := by decide +kernel
theorem dX11_areAmounts_34 : decode cX11_areAmounts 34 = .ok (.goto 4, 3) := by decide +kernel
theorem dX11_areAmounts_37 : decode cX11_areAmounts 37 = .ok (.iconst 0, 1) := by decide +kernel
theorem dX11_areAmounts_38 : decode cX11_areAmounts 38 = .ok (.ireturn, 1) := by decide +kernel
theorem dX11_host_0 : decode cX11_host 0 = .ok (.iload_n 1, 1) := by decide +kernel
theorem dX11_host_1 : decode cX11_host 1 = .ok (.iload_n 2, 1) := by decide +kernel
theorem dX11_host_2 : decode cX11_host 2 = .ok (.iload_n 3, 1) := by decide +kernel
theorem dX11_host_3 : decode cX11_host 3 = .ok (.invokestatic 58, 3) := by decide +kernel
theorem dX11_host_6 : decode cX11_host 6 = .ok (.ifCond .eq 25, 3) := by decide +kernel
theorem dX11_host_9 : decode cX11_host 9 = .ok (.iload 4, 2) := by decide +kernel
theorem dX11_host_11 : decode cX11_host 11 = .ok (.iconst 0, 1) := by decide +kernel
theorem dX11_host_12 : decode cX11_host 12 = .ok (.iconst 4, 1) := by decide +kernel
theorem dX11_host_13 : decode cX11_host 13 = .ok (.invokestatic 50, 3) := by decide +kernel
theorem dX11_host_16 : decode cX11_host 16 = .ok (.ifCond .eq 15, 3) := by decide +kernel
theorem dX11_host_19 : decode cX11_host 19 = .ok (.iload 5, 2) := by decide +kernel
theorem dX11_host_21 : decode cX11_host 21 = .ok (.iconst 0, 1) := by decide +kernel
theorem dX11_host_22 : decode cX11_host 22 = .ok (.sipush 255, 3) := by decide +kernel
theorem dX11_host_25 : decode cX11_host 25 = .ok (.invokestatic 50, 3) := by decide +kernel
theorem dX11_host_28 : decode cX11_host 28 = .ok (.ifCond .ne 5, 3) := by decide +kernel
theorem dX11_host_31 : decode cX11_host 31 = .ok (.iconst (-1), 1) := by decide +kernel
theorem dX11_host_32 : decode cX11_host 32 = .ok (.ireturn, 1) := by decide +kernel
theorem dX11_host_33 : decode cX11_host 33 = .ok (.aload_n 0, 1) := by decide +kernel
theorem dX11_host_34 : decode cX11_host 34 = .ok (.getfield 7, 3) := by decide +kernel
theorem dX11_host_37 : decode cX11_host 37 = .ok (.iconst 0, 1) := by decide +kernel
theorem dX11_host_38 : decode cX11_host 38 = .ok (.iaload, 1) := by decide +kernel
theorem dX11_host_39 : decode cX11_host 39 = .ok (.bipush 10, 2) := by decide +kernel
theorem dX11_host_41 : decode cX11_host 41 = .ok (.if_icmp .ne 6, 3) := by decide +kernel
theorem dX11_host_44 : decode cX11_host 44 = .ok (.bipush (-2), 2) := by decide +kernel
theorem dX11_host_46 : decode cX11_host 46 = .ok (.ireturn, 1) := by decide +kernel
theorem dX11_host_47 : decode cX11_host 47 = .ok (.aload_n 0, 1) := by decide +kernel
theorem dX11_host_48 : decode cX11_host 48 = .ok (.invokevirtual 61, 3) := by decide +kernel
theorem dX11_host_51 : decode cX11_host 51 = .ok (.aload_n 0, 1) := by decide +kernel
theorem dX11_host_52 : decode cX11_host 52 = .ok (.getfield 7, 3) := by decide +kernel
theorem dX11_host_55 : decode cX11_host 55 = .ok (.iconst 0, 1) := by decide +kernel
theorem dX11_host_56 : decode cX11_host 56 = .ok (.iaload, 1) := by decide +kernel
theorem dX11_host_57 : decode cX11_host 57 = .ok (.istore 6, 2) := by decide +kernel
theorem dX11_host_59 : decode cX11_host 59 = .ok (.aload_n 0, 1) := by decide +kernel
theorem dX11_host_60 : decode cX11_host 60 = .ok (.getfield 7, 3) := by decide +kernel
theorem dX11_host_63 : decode cX11_host 63 = .ok (.bipush 6, 2) := by decide +kernel
theorem dX11_host_65 : decode cX11_host 65 = .ok (.iconst 3, 1) := by decide +kernel
theorem dX11_host_66 : decode cX11_host 66 = .ok (.iload 6, 2) := by decide +kernel
theorem dX11_host_68 : decode cX11_host 68 = .ok (.imul, 1) := by decide +kernel
theorem dX11_host_69 : decode cX11_host 69 = .ok (.iadd, 1) := by decide +kernel
theorem dX11_host_70 : decode cX11_host 70 = .ok (.iload_n 1, 1) := by decide +kernel
theorem dX11_host_71 : decode cX11_host 71 = .ok (.iastore, 1) := by decide +kernel
theorem dX11_host_72 : decode cX11_host 72 = .ok (.aload_n 0, 1) := by decide +kernel
theorem dX11_host_73 : decode cX11_host 73 = .ok (.getfield 7, 3) := by decide +kernel
theorem dX11_host_76 : decode cX11_host 76 = .ok (.bipush 6, 2) := by decide +kernel
theorem dX11_host_78 : decode cX11_host 78 = .ok (.iconst 3, 1) := by decide +kernel
theorem dX11_host_79 : decode cX11_host 79 = .ok (.iload 6, 2) := by decide +kernel
theorem dX11_host_81 : decode cX11_host 81 = .ok (.imul, 1) := by decide +kernel
theorem dX11_host_82 : decode cX11_host 82 = .ok (.iadd, 1) := by decide +kernel
theorem dX11_host_83 : decode cX11_host 83 = .ok (.iconst 1, 1) := by decide +kernel
theorem dX11_host_84 : decode cX11_host 84 = .ok (.iadd, 1) := by decide +kernel
theorem dX11_host_85 : decode cX11_host 85 = .ok (.iload_n 2, 1) := by decide +kernel
theorem dX11_host_86 : decode cX11_host 86 = .ok (.iastore, 1) := by decide +kernel
theorem dX11_host_87 : decode cX11_host 87 = .ok (.aload_n 0, 1) := by decide +kernel
theorem dX11_host_88 : decode cX11_host 88 = .ok (.getfield 7, 3) := by decide +kernel
theorem dX11_host_91 : decode cX11_host 91 = .ok (.bipush 6, 2) := by decide +kernel
theorem dX11_host_93 : decode cX11_host 93 = .ok (.iconst 3, 1) := by decide +kernel
theorem dX11_host_94 : decode cX11_host 94 = .ok (.iload 6, 2) := by decide +kernel
theorem dX11_host_96 : decode cX11_host 96 = .ok (.imul, 1) := by decide +kernel
theorem dX11_host_97 : decode cX11_host 97 = .ok (.iadd, 1) := by decide +kernel
theorem dX11_host_98 : decode cX11_host 98 = .ok (.iconst 2, 1) := by decide +kernel
theorem dX11_host_99 : decode cX11_host 99 = .ok (.iadd, 1) := by decide +kernel
theorem dX11_host_100 : decode cX11_host 100 = .ok (.iload_n 3, 1) := by decide +kernel
theorem dX11_host_101 : decode cX11_host 101 = .ok (.iastore, 1) := by decide +kernel
theorem dX11_host_102 : decode cX11_host 102 = .ok (.aload_n 0, 1) := by decide +kernel
theorem dX11_host_103 : decode cX11_host 103 = .ok (.getfield 7, 3) := by decide +kernel
theorem dX11_host_106 : decode cX11_host 106 = .ok (.bipush 36, 2) := by decide +kernel
theorem dX11_host_108 : decode cX11_host 108 = .ok (.iload 6, 2) := by decide +kernel
theorem dX11_host_110 : decode cX11_host 110 = .ok (.iadd, 1) := by decide +kernel
theorem dX11_host_111 : decode cX11_host 111 = .ok (.iload 4, 2) := by decide +kernel
theorem dX11_host_113 : decode cX11_host 113 = .ok (.iastore, 1) := by decide +kernel
theorem dX11_host_114 : decode cX11_host 114 = .ok (.aload_n 0, 1) := by decide +kernel
theorem dX11_host_115 : decode cX11_host 115 = .ok (.getfield 7, 3) := by decide +kernel
theorem dX11_host_118 : decode cX11_host 118 = .ok (.bipush 46, 2) := by decide +kernel
theorem dX11_host_120 : decode cX11_host 120 = .ok (.iload 6, 2) := by decide +kernel
theorem dX11_host_122 : decode cX11_host 122 = .ok (.iadd, 1) := by decide +kernel
theorem dX11_host_123 : decode cX11_host 123 = .ok (.iload 5, 2) := by decide +kernel
theorem dX11_host_125 : decode cX11_host 125 = .ok (.iastore, 1) := by decide +kernel
theorem dX11_host_126 : decode cX11_host 126 = .ok (.aload_n 0, 1) := by decide +kernel
theorem dX11_host_127 : decode cX11_host 127 = .ok (.getfield 7, 3) := by decide +kernel
theorem dX11_host_130 : decode cX11_host 130 = .ok (.bipush 56, 2) := by decide +kernel
theorem dX11_host_132 : decode cX11_host 132 = .ok (.iload 6, 2) := by decide +kernel
theorem dX11_host_134 : decode cX11_host 134 = .ok (.iadd, 1) := by decide +kernel
theorem dX11_host_135 : decode cX11_host 135 = .ok (.iconst 1, 1) := by decide +kernel
theorem dX11_host_136 : decode cX11_host 136 = .ok (.iastore, 1) := by decide +kernel
theorem dX11_host_137 : decode cX11_host 137 = .ok (.aload_n 0, 1) := by decide +kernel
theorem dX11_host_138 : decode cX11_host 138 = .ok (.getfield 7, 3) := by decide +kernel
theorem dX11_host_141 : decode cX11_host 141 = .ok (.iconst 0, 1) := by decide +kernel
theorem dX11_host_142 : decode cX11_host 142 = .ok (.dup2, 1) := by decide +kernel
theorem dX11_host_143 : decode cX11_host 143 = .ok (.iaload, 1) := by decide +kernel
theorem dX11_host_144 : decode cX11_host 144 = .ok (.iconst 1, 1) := by decide +kernel
theorem dX11_host_145 : decode cX11_host 145 = .ok (.iadd, 1) := by decide +kernel
theorem dX11_host_146 : decode cX11_host 146 = .ok (.iastore, 1) := by decide +kernel
theorem dX11_host_147 : decode cX11_host 147 = .ok (.iload 6, 2) := by decide +kernel
theorem dX11_host_149 : decode cX11_host 149 = .ok (.ireturn, 1) := by decide +kernel
theorem dX11_job_0 : decode cX11_job 0 = .ok (.iload_n 1, 1) := by decide +kernel
theorem dX11_job_1 : decode cX11_job 1 = .ok (.iconst 0, 1) := by decide +kernel
theorem dX11_job_2 : decode cX11_job 2 = .ok (.iconst 5, 1) := by decide +kernel
theorem dX11_job_3 : decode cX11_job 3 = .ok (.invokestatic 50, 3) := by decide +kernel
theorem dX11_job_6 : decode cX11_job 6 = .ok (.ifCond .eq 58, 3) := by decide +kernel
theorem dX11_job_9 : decode cX11_job 9 = .ok (.iload_n 2, 1) := by decide +kernel
theorem dX11_job_10 : decode cX11_job 10 = .ok (.iload_n 3, 1) := by decide +kernel
theorem dX11_job_11 : decode cX11_job 11 = .ok (.iload 4, 2) := by decide +kernel
theorem dX11_job_13 : decode cX11_job 13 = .ok (.invokestatic 58, 3) := by decide +kernel
theorem dX11_job_16 : decode cX11_job 16 = .ok (.ifCond .eq 48, 3) := by decide +kernel
theorem dX11_job_19 : decode cX11_job 19 = .ok (.iload 5, 2) := by decide +kernel
theorem dX11_job_21 : decode cX11_job 21 = .ok (.iconst 0, 1) := by decide +kernel
theorem dX11_job_22 : decode cX11_job 22 = .ok (.bipush 9, 2) := by decide +kernel
theorem dX11_job_24 : decode cX11_job 24 = .ok (.invokestatic 50, 3) := by decide +kernel
theorem dX11_job_27 : decode cX11_job 27 = .ok (.ifCond .eq 37, 3) := by decide +kernel
theorem dX11_job_30 : decode cX11_job 30 = .ok (.iload 6, 2) := by decide +kernel
theorem dX11_job_32 : decode cX11_job 32 = .ok (.iconst 0, 1) := by decide +kernel
theorem dX11_job_33 : decode cX11_job 33 = .ok (.bipush 7, 2) := by decide +kernel
theorem dX11_job_35 : decode cX11_job 35 = .ok (.invokestatic 50, 3) := by decide +kernel
theorem dX11_job_38 : decode cX11_job 38 = .ok (.ifCond .eq 26, 3) := by decide +kernel
theorem dX11_job_41 : decode cX11_job 41 = .ok (.iload 7, 2) := by decide +kernel
theorem dX11_job_43 : decode cX11_job 43 = .ok (.iconst 0, 1) := by decide +kernel
theorem dX11_job_44 : decode cX11_job 44 = .ok (.sipush 255, 3) := by decide +kernel
theorem dX11_job_47 : decode cX11_job 47 = .ok (.invokestatic 50, 3) := by decide +kernel
theorem dX11_job_50 : decode cX11_job 50 = .ok (.ifCond .eq 14, 3) := by decide +kernel
theorem dX11_job_53 : decode cX11_job 53 = .ok (.iload 8, 2) := by decide +kernel
theorem dX11_job_55 : decode cX11_job 55 = .ok (.iconst 0, 1) := by decide +kernel
theorem dX11_job_56 : decode cX11_job 56 = .ok (.bipush 7, 2) := by decide +kernel
theorem dX11_job_58 : decode cX11_job 58 = .ok (.invokestatic 50, 3) := by decide +kernel
theorem dX11_job_61 : decode cX11_job 61 = .ok (.ifCond .ne 5, 3) := by decide +kernel
theorem dX11_job_64 : decode cX11_job 64 = .ok (.iconst (-1), 1) := by decide +kernel
theorem dX11_job_65 : decode cX11_job 65 = .ok (.ireturn, 1) := by decide +kernel
theorem dX11_job_66 : decode cX11_job 66 = .ok (.aload_n 0, 1) := by decide +kernel
theorem dX11_job_67 : decode cX11_job 67 = .ok (.getfield 7, 3) := by decide +kernel
theorem dX11_job_70 : decode cX11_job 70 = .ok (.iconst 1, 1) := by decide +kernel
theorem dX11_job_71 : decode cX11_job 71 = .ok (.iaload, 1) := by decide +kernel
theorem dX11_job_72 : decode cX11_job 72 = .ok (.bipush 24, 2) := by decide +kernel
theorem dX11_job_74 : decode cX11_job 74 = .ok (.if_icmp .ne 6, 3) := by decide +kernel
theorem dX11_job_77 : decode cX11_job 77 = .ok (.bipush (-2), 2) := by decide +kernel
theorem dX11_job_79 : decode cX11_job 79 = .ok (.ireturn, 1) := by decide +kernel
theorem dX11_job_80 : decode cX11_job 80 = .ok (.aload_n 0, 1) := by decide +kernel
theorem dX11_job_81 : decode cX11_job 81 = .ok (.invokevirtual 61, 3) := by decide +kernel
theorem dX11_job_84 : decode cX11_job 84 = .ok (.aload_n 0, 1) := by decide +kernel
theorem dX11_job_85 : decode cX11_job 85 = .ok (.getfield 7, 3) := by decide +kernel
theorem dX11_job_88 : decode cX11_job 88 = .ok (.iconst 1, 1) := by decide +kernel
theorem dX11_job_89 : decode cX11_job 89 = .ok (.iaload, 1) := by decide +kernel
theorem dX11_job_90 : decode cX11_job 90 = .ok (.istore 9, 2) := by decide +kernel
theorem dX11_job_92 : decode cX11_job 92 = .ok (.aload_n 0, 1) := by decide +kernel
theorem dX11_job_93 : decode cX11_job 93 = .ok (.getfield 7, 3) := by decide +kernel
theorem dX11_job_96 : decode cX11_job 96 = .ok (.bipush 66, 2) := by decide +kernel
theorem dX11_job_98 : decode cX11_job 98 = .ok (.iload 9, 2) := by decide +kernel
theorem dX11_job_100 : decode cX11_job 100 = .ok (.iadd, 1) := by decide +kernel
theorem dX11_job_101 : decode cX11_job 101 = .ok (.iload_n 1, 1) := by decide +kernel
theorem dX11_job_102 : decode cX11_job 102 = .ok (.iastore, 1) := by decide +kernel
theorem dX11_job_103 : decode cX11_job 103 = .ok (.aload_n 0, 1) := by decide +kernel
theorem dX11_job_104 : decode cX11_job 104 = .ok (.getfield 7, 3) := by decide +kernel
theorem dX11_job_107 : decode cX11_job 107 = .ok (.bipush 90, 2) := by decide +kernel
theorem dX11_job_109 : decode cX11_job 109 = .ok (.iconst 3, 1) := by decide +kernel
theorem dX11_job_110 : decode cX11_job 110 = .ok (.iload 9, 2) := by decide +kernel
theorem dX11_job_112 : decode cX11_job 112 = .ok (.imul, 1) := by decide +kernel
theorem dX11_job_113 : decode cX11_job 113 = .ok (.iadd, 1) := by decide +kernel
theorem dX11_job_114 : decode cX11_job 114 = .ok (.iload_n 2, 1) := by decide +kernel
theorem dX11_job_115 : decode cX11_job 115 = .ok (.iastore, 1) := by decide +kernel
theorem dX11_job_116 : decode cX11_job 116 = .ok (.aload_n 0, 1) := by decide +kernel
theorem dX11_job_117 : decode cX11_job 117 = .ok (.getfield 7, 3) := by decide +kernel
theorem dX11_job_120 : decode cX11_job 120 = .ok (.bipush 90, 2) := by decide +kernel
theorem dX11_job_122 : decode cX11_job 122 = .ok (.iconst 3, 1) := by decide +kernel
theorem dX11_job_123 : decode cX11_job 123 = .ok (.iload 9, 2) := by decide +kernel
theorem dX11_job_125 : decode cX11_job 125 = .ok (.imul, 1) := by decide +kernel
theorem dX11_job_126 : decode cX11_job 126 = .ok (.iadd, 1) := by decide +kernel
theorem dX11_job_127 : decode cX11_job 127 = .ok (.iconst 1, 1) := by decide +kernel
theorem dX11_job_128 : decode cX11_job 128 = .ok (.iadd, 1) := by decide +kernel
theorem dX11_job_129 : decode cX11_job 129 = .ok (.iload_n 3, 1) := by decide +kernel
theorem dX11_job_130 : decode cX11_job 130 = .ok (.iastore, 1) := by decide +kernel
theorem dX11_job_131 : decode cX11_job 131 = .ok (.aload_n 0, 1) := by decide +kernel
theorem dX11_job_132 : decode cX11_job 132 = .ok (.getfield 7, 3) := by decide +kernel
theorem dX11_job_135 : decode cX11_job 135 = .ok (.bipush 90, 2) := by decide +kernel
theorem dX11_job_137 : decode cX11_job 137 = .ok (.iconst 3, 1) := by decide +kernel
theorem dX11_job_138 : decode cX11_job 138 = .ok (.iload 9, 2) := by decide +kernel
theorem dX11_job_140 : decode cX11_job 140 = .ok (.imul, 1) := by decide +kernel
theorem dX11_job_141 : decode cX11_job 141 = .ok (.iadd, 1) := by decide +kernel
theorem dX11_job_142 : decode cX11_job 142 = .ok (.iconst 2, 1) := by decide +kernel
theorem dX11_job_143 : decode cX11_job 143 = .ok (.iadd, 1) := by decide +kernel
theorem dX11_job_144 : decode cX11_job 144 = .ok (.iload 4, 2) := by decide +kernel
theorem dX11_job_146 : decode cX11_job 146 = .ok (.iastore, 1) := by decide +kernel
theorem dX11_job_147 : decode cX11_job 147 = .ok (.aload_n 0, 1) := by decide +kernel
theorem dX11_job_148 : decode cX11_job 148 = .ok (.getfield 7, 3) := by decide +kernel
theorem dX11_job_151 : decode cX11_job 151 = .ok (.sipush 162, 3) := by decide +kernel
theorem dX11_job_154 : decode cX11_job 154 = .ok (.iload 9, 2) := by decide +kernel
theorem dX11_job_156 : decode cX11_job 156 = .ok (.iadd, 1) := by decide +kernel
theorem dX11_job_157 : decode cX11_job 157 = .ok (.iload 5, 2) := by decide +kernel
theorem dX11_job_159 : decode cX11_job 159 = .ok (.iastore, 1) := by decide +kernel
theorem dX11_job_160 : decode cX11_job 160 = .ok (.aload_n 0, 1) := by decide +kernel
theorem dX11_job_161 : decode cX11_job 161 = .ok (.getfield 7, 3) := by decide +kernel
theorem dX11_job_164 : decode cX11_job 164 = .ok (.sipush 186, 3) := by decide +kernel
theorem dX11_job_167 : decode cX11_job 167 = .ok (.iload 9, 2) := by decide +kernel
theorem dX11_job_169 : decode cX11_job 169 = .ok (.iadd, 1) := by decide +kernel
theorem dX11_job_170 : decode cX11_job 170 = .ok (.iload 6, 2) := by decide +kernel
theorem dX11_job_172 : decode cX11_job 172 = .ok (.iastore, 1) := by decide +kernel
theorem dX11_job_173 : decode cX11_job 173 = .ok (.aload_n 0, 1) := by decide +kernel
theorem dX11_job_174 : decode cX11_job 174 = .ok (.getfield 7, 3) := by decide +kernel
theorem dX11_job_177 : decode cX11_job 177 = .ok (.sipush 210, 3) := by decide +kernel
theorem dX11_job_180 : decode cX11_job 180 = .ok (.iload 9, 2) := by decide +kernel
theorem dX11_job_182 : decode cX11_job 182 = .ok (.iadd, 1) := by decide +kernel
theorem dX11_job_183 : decode cX11_job 183 = .ok (.iload 7, 2) := by decide +kernel
theorem dX11_job_185 : decode cX11_job 185 = .ok (.iastore, 1) := by decide +kernel
theorem dX11_job_186 : decode cX11_job 186 = .ok (.aload_n 0, 1) := by decide +kernel
theorem dX11_job_187 : decode cX11_job 187 = .ok (.getfield 7, 3) := by decide +kernel
theorem dX11_job_190 : decode cX11_job 190 = .ok (.sipush 234, 3) := by decide +kernel
theorem dX11_job_193 : decode cX11_job 193 = .ok (.iload 9, 2) := by decide +kernel
theorem dX11_job_195 : decode cX11_job 195 = .ok (.iadd, 1) := by decide +kernel
theorem dX11_job_196 : decode cX11_job 196 = .ok (.iload 8, 2) := by decide +kernel
theorem dX11_job_198 : decode cX11_job 198 = .ok (.iastore, 1) := by decide +kernel
theorem dX11_job_199 : decode cX11_job 199 = .ok (.aload_n 0, 1) := by decide +kernel
theorem dX11_job_200 : decode cX11_job 200 = .ok (.getfield 7, 3) := by decide +kernel
theorem dX11_job_203 : decode cX11_job 203 = .ok (.sipush 258, 3) := by decide +kernel
theorem dX11_job_206 : decode cX11_job 206 = .ok (.iload 9, 2) := by decide +kernel
theorem dX11_job_208 : decode cX11_job 208 = .ok (.iadd, 1) := by decide +kernel
theorem dX11_job_209 : decode cX11_job 209 = .ok (.iconst 0, 1) := by decide +kernel
theorem dX11_job_210 : decode cX11_job 210 = .ok (.iastore, 1) := by decide +kernel
theorem dX11_job_211 : decode cX11_job 211 = .ok (.aload_n 0, 1) := by decide +kernel
theorem dX11_job_212 : decode cX11_job 212 = .ok (.getfield 7, 3) := by decide +kernel
theorem dX11_job_215 : decode cX11_job 215 = .ok (.sipush 330, 3) := by decide +kernel
theorem dX11_job_218 : decode cX11_job 218 = .ok (.iload 9, 2) := by decide +kernel
theorem dX11_job_220 : decode cX11_job 220 = .ok (.iadd, 1) := by decide +kernel
theorem dX11_job_221 : decode cX11_job 221 = .ok (.iconst (-1), 1) := by decide +kernel
theorem dX11_job_222 : decode cX11_job 222 = .ok (.iastore, 1) := by decide +kernel
theorem dX11_job_223 : decode cX11_job 223 = .ok (.aload_n 0, 1) := by decide +kernel
theorem dX11_job_224 : decode cX11_job 224 = .ok (.getfield 7, 3) := by decide +kernel
theorem dX11_job_227 : decode cX11_job 227 = .ok (.iconst 1, 1) := by decide +kernel
theorem dX11_job_228 : decode cX11_job 228 = .ok (.dup2, 1) := by decide +kernel
theorem dX11_job_229 : decode cX11_job 229 = .ok (.iaload, 1) := by decide +kernel
theorem dX11_job_230 : decode cX11_job 230 = .ok (.iconst 1, 1) := by decide +kernel
theorem dX11_job_231 : decode cX11_job 231 = .ok (.iadd, 1) := by decide +kernel
theorem dX11_job_232 : decode cX11_job 232 = .ok (.iastore, 1) := by decide +kernel
theorem dX11_job_233 : decode cX11_job 233 = .ok (.iload 9, 2) := by decide +kernel
theorem dX11_job_235 : decode cX11_job 235 = .ok (.ireturn, 1) := by decide +kernel
theorem dX11_weight_0 : decode cX11_weight 0 = .ok (.iload_n 1, 1) := by decide +kernel
theorem dX11_weight_1 : decode cX11_weight 1 = .ok (.iconst 0, 1) := by decide +kernel
theorem dX11_weight_2 : decode cX11_weight 2 = .ok (.iconst 2, 1) := by decide +kernel
theorem dX11_weight_3 : decode cX11_weight 3 = .ok (.invokestatic 50, 3) := by decide +kernel
theorem dX11_weight_6 : decode cX11_weight 6 = .ok (.ifCond .eq 14, 3) := by decide +kernel
theorem dX11_weight_9 : decode cX11_weight 9 = .ok (.iload_n 2, 1) := by decide +kernel
theorem dX11_weight_10 : decode cX11_weight 10 = .ok (.bipush (-100), 2) := by decide +kernel
theorem dX11_weight_12 : decode cX11_weight 12 = .ok (.bipush 100, 2) := by decide +kernel
theorem dX11_weight_14 : decode cX11_weight 14 = .ok (.invokestatic 50, 3) := by decide +kernel
theorem dX11_weight_17 : decode cX11_weight 17 = .ok (.ifCond .ne 7, 3) := by decide +kernel
theorem dX11_weight_20 : decode cX11_weight 20 = .ok (.sipush (-1001), 3) := by decide +kernel
theorem dX11_weight_23 : decode cX11_weight 23 = .ok (.ireturn, 1) := by decide +kernel
theorem dX11_weight_24 : decode cX11_weight 24 = .ok (.aload_n 0, 1) := by decide +kernel
theorem dX11_weight_25 : decode cX11_weight 25 = .ok (.invokevirtual 61, 3) := by decide +kernel
theorem dX11_weight_28 : decode cX11_weight 28 = .ok (.aload_n 0, 1) := by decide +kernel
theorem dX11_weight_29 : decode cX11_weight 29 = .ok (.getfield 7, 3) := by decide +kernel
theorem dX11_weight_32 : decode cX11_weight 32 = .ok (.iconst 2, 1) := by decide +kernel
theorem dX11_weight_33 : decode cX11_weight 33 = .ok (.iload_n 1, 1) := by decide +kernel
theorem dX11_weight_34 : decode cX11_weight 34 = .ok (.iadd, 1) := by decide +kernel
theorem dX11_weight_35 : decode cX11_weight 35 = .ok (.iaload, 1) := by decide +kernel
theorem dX11_weight_36 : decode cX11_weight 36 = .ok (.istore_n 3, 1) := by decide +kernel
theorem dX11_weight_37 : decode cX11_weight 37 = .ok (.aload_n 0, 1) := by decide +kernel
theorem dX11_weight_38 : decode cX11_weight 38 = .ok (.getfield 7, 3) := by decide +kernel
theorem dX11_weight_41 : decode cX11_weight 41 = .ok (.iconst 2, 1) := by decide +kernel
theorem dX11_weight_42 : decode cX11_weight 42 = .ok (.iload_n 1, 1) := by decide +kernel
theorem dX11_weight_43 : decode cX11_weight 43 = .ok (.iadd, 1) := by decide +kernel
theorem dX11_weight_44 : decode cX11_weight 44 = .ok (.iload_n 2, 1) := by decide +kernel
theorem dX11_weight_45 : decode cX11_weight 45 = .ok (.iastore, 1) := by decide +kernel
theorem dX11_weight_46 : decode cX11_weight 46 = .ok (.iload_n 3, 1) := by decide +kernel
theorem dX11_weight_47 : decode cX11_weight 47 = .ok (.ireturn, 1) := by decide +kernel
theorem dX11_standsOn_0 : decode cX11_standsOn 0 = .ok (.aload_n 0, 1) := by decide +kernel
theorem dX11_standsOn_1 : decode cX11_standsOn 1 = .ok (.getfield 7, 3) := by decide +kernel
theorem dX11_standsOn_4 : decode cX11_standsOn 4 = .ok (.sipush 258, 3) := by decide +kernel
theorem dX11_standsOn_7 : decode cX11_standsOn 7 = .ok (.iload_n 1, 1) := by decide +kernel
theorem dX11_standsOn_8 : decode cX11_standsOn 8 = .ok (.iadd, 1) := by decide +kernel
theorem dX11_standsOn_9 : decode cX11_standsOn 9 = .ok (.iaload, 1) := by decide +kernel
theorem dX11_standsOn_10 : decode cX11_standsOn 10 = .ok (.iconst 1, 1) := by decide +kernel
theorem dX11_standsOn_11 : decode cX11_standsOn 11 = .ok (.if_icmp .ne 21, 3) := by decide +kernel
theorem dX11_standsOn_14 : decode cX11_standsOn 14 = .ok (.aload_n 0, 1) := by decide +kernel
theorem dX11_standsOn_15 : decode cX11_standsOn 15 = .ok (.getfield 7, 3) := by decide +kernel
theorem dX11_standsOn_18 : decode cX11_standsOn 18 = .ok (.sipush 282, 3) := by decide +kernel
theorem dX11_standsOn_21 : decode cX11_standsOn 21 = .ok (.iload_n 1, 1) := by decide +kernel
theorem dX11_standsOn_22 : decode cX11_standsOn 22 = .ok (.iadd, 1) := by decide +kernel
theorem dX11_standsOn_23 : decode cX11_standsOn 23 = .ok (.iaload, 1) := by decide +kernel
theorem dX11_standsOn_24 : decode cX11_standsOn 24 = .ok (.iload_n 2, 1) := by decide +kernel
theorem dX11_standsOn_25 : decode cX11_standsOn 25 = .ok (.if_icmp .ne 7, 3) := by decide +kernel
theorem dX11_standsOn_28 : decode cX11_standsOn 28 = .ok (.iconst 1, 1) := by decide +kernel
theorem dX11_standsOn_29 : decode cX11_standsOn 29 = .ok (.goto 4, 3) := by decide +kernel
theorem dX11_standsOn_32 : decode cX11_standsOn 32 = .ok (.iconst 0, 1) := by decide +kernel
theorem dX11_standsOn_33 : decode cX11_standsOn 33 = .ok (.ireturn, 1) := by decide +kernel
theorem dX11_standsIn_0 : decode cX11_standsIn 0 = .ok (.aload_n 0, 1) := by decide +kernel
theorem dX11_standsIn_1 : decode cX11_standsIn 1 = .ok (.getfield 7, 3) := by decide +kernel
theorem dX11_standsIn_4 : decode cX11_standsIn 4 = .ok (.sipush 258, 3) := by decide +kernel
theorem dX11_standsIn_7 : decode cX11_standsIn 7 = .ok (.iload_n 1, 1) := by decide +kernel
theorem dX11_standsIn_8 : decode cX11_standsIn 8 = .ok (.iadd, 1) := by decide +kernel
theorem dX11_standsIn_9 : decode cX11_standsIn 9 = .ok (.iaload, 1) := by decide +kernel
theorem dX11_standsIn_10 : decode cX11_standsIn 10 = .ok (.iconst 1, 1) := by decide +kernel
theorem dX11_standsIn_11 : decode cX11_standsIn 11 = .ok (.if_icmp .ne 29, 3) := by decide +kernel
theorem dX11_standsIn_14 : decode cX11_standsIn 14 = .ok (.aload_n 0, 1) := by decide +kernel
theorem dX11_standsIn_15 : decode cX11_standsIn 15 = .ok (.getfield 7, 3) := by decide +kernel
theorem dX11_standsIn_18 : decode cX11_standsIn 18 = .ok (.bipush 36, 2) := by decide +kernel
theorem dX11_standsIn_20 : decode cX11_standsIn 20 = .ok (.aload_n 0, 1) := by decide +kernel
theorem dX11_standsIn_21 : decode cX11_standsIn 21 = .ok (.getfield 7, 3) := by decide +kernel
theorem dX11_standsIn_24 : decode cX11_standsIn 24 = .ok (.sipush 282, 3) := by decide +kernel
theorem dX11_standsIn_27 : decode cX11_standsIn 27 = .ok (.iload_n 1, 1) := by decide +kernel
theorem dX11_standsIn_28 : decode cX11_standsIn 28 = .ok (.iadd, 1) := by decide +kernel
theorem dX11_standsIn_29 : decode cX11_standsIn 29 = .ok (.iaload, 1) := by decide +kernel
theorem dX11_standsIn_30 : decode cX11_standsIn 30 = .ok (.iadd, 1) := by decide +kernel
theorem dX11_standsIn_31 : decode cX11_standsIn 31 = .ok (.iaload, 1) := by decide +kernel
theorem dX11_standsIn_32 : decode cX11_standsIn 32 = .ok (.iload_n 2, 1) := by decide +kernel
theorem dX11_standsIn_33 : decode cX11_standsIn 33 = .ok (.if_icmp .ne 7, 3) := by decide +kernel
theorem dX11_standsIn_36 : decode cX11_standsIn 36 = .ok (.iconst 1, 1) := by decide +kernel
theorem dX11_standsIn_37 : decode cX11_standsIn 37 = .ok (.goto 4, 3) := by decide +kernel
theorem dX11_standsIn_40 : decode cX11_standsIn 40 = .ok (.iconst 0, 1) := by decide +kernel
theorem dX11_standsIn_41 : decode cX11_standsIn 41 = .ok (.ireturn, 1) := by decide +kernel
theorem dX11_leftOf_0 : decode cX11_leftOf 0 = .ok (.aload_n 0, 1) := by decide +kernel
theorem dX11_leftOf_1 : decode cX11_leftOf 1 = .ok (.getfield 7, 3) := by decide +kernel
theorem dX11_leftOf_4 : decode cX11_leftOf 4 = .ok (.bipush 6, 2) := by decide +kernel
theorem dX11_leftOf_6 : decode cX11_leftOf 6 = .ok (.iconst 3, 1) := by decide +kernel
theorem dX11_leftOf_7 : decode cX11_leftOf 7 = .ok (.iload_n 1, 1) := by decide +kernel
theorem dX11_leftOf_8 : decode cX11_leftOf 8 = .ok (.imul, 1) := by decide +kernel
theorem dX11_leftOf_9 : decode cX11_leftOf 9 = .ok (.iadd, 1) := by decide +kernel
theorem dX11_leftOf_10 : decode cX11_leftOf 10 = .ok (.iload_n 2, 1) := by decide +kernel
theorem dX11_leftOf_11 : decode cX11_leftOf 11 = .ok (.iadd, 1) := by decide +kernel
theorem dX11_leftOf_12 : decode cX11_leftOf 12 = .ok (.iaload, 1) := by decide +kernel
theorem dX11_leftOf_13 : decode cX11_leftOf 13 = .ok (.istore 4, 2) := by decide +kernel
theorem dX11_leftOf_15 : decode cX11_leftOf 15 = .ok (.iconst 0, 1) := by decide +kernel
theorem dX11_leftOf_16 : decode cX11_leftOf 16 = .ok (.istore 5, 2) := by decide +kernel
theorem dX11_leftOf_18 : decode cX11_leftOf 18 = .ok (.iload 5, 2) := by decide +kernel
theorem dX11_leftOf_20 : decode cX11_leftOf 20 = .ok (.aload_n 0, 1) := by decide +kernel
theorem dX11_leftOf_21 : decode cX11_leftOf 21 = .ok (.getfield 7, 3) := by decide +kernel
theorem dX11_leftOf_24 : decode cX11_leftOf 24 = .ok (.iconst 1, 1) := by decide +kernel
theorem dX11_leftOf_25 : decode cX11_leftOf 25 = .ok (.iaload, 1) := by decide +kernel
theorem dX11_leftOf_26 : decode cX11_leftOf 26 = .ok (.if_icmp .ge 48, 3) := by decide +kernel
theorem dX11_leftOf_29 : decode cX11_leftOf 29 = .ok (.iload 4, 2) := by decide +kernel
theorem dX11_leftOf_31 : decode cX11_leftOf 31 = .ok (.iload 5, 2) := by decide +kernel
theorem dX11_leftOf_33 : decode cX11_leftOf 33 = .ok (.iload_n 3, 1) := by decide +kernel
theorem dX11_leftOf_34 : decode cX11_leftOf 34 = .ok (.if_icmp .eq 30, 3) := by decide +kernel
theorem dX11_leftOf_37 : decode cX11_leftOf 37 = .ok (.aload_n 0, 1) := by decide +kernel
theorem dX11_leftOf_38 : decode cX11_leftOf 38 = .ok (.iload 5, 2) := by decide +kernel
theorem dX11_leftOf_40 : decode cX11_leftOf 40 = .ok (.iload_n 1, 1) := by decide +kernel
theorem dX11_leftOf_41 : decode cX11_leftOf 41 = .ok (.invokevirtual 64, 3) := by decide +kernel
theorem dX11_leftOf_44 : decode cX11_leftOf 44 = .ok (.ifCond .eq 20, 3) := by decide +kernel
theorem dX11_leftOf_47 : decode cX11_leftOf 47 = .ok (.aload_n 0, 1) := by decide +kernel
theorem dX11_leftOf_48 : decode cX11_leftOf 48 = .ok (.getfield 7, 3) := by decide +kernel
theorem dX11_leftOf_51 : decode cX11_leftOf 51 = .ok (.bipush 90, 2) := by decide +kernel
theorem dX11_leftOf_53 : decode cX11_leftOf 53 = .ok (.iconst 3, 1) := by decide +kernel
theorem dX11_leftOf_54 : decode cX11_leftOf 54 = .ok (.iload 5, 2) := by decide +kernel
theorem dX11_leftOf_56 : decode cX11_leftOf 56 = .ok (.imul, 1) := by decide +kernel
theorem dX11_leftOf_57 : decode cX11_leftOf 57 = .ok (.iadd, 1) := by decide +kernel
theorem dX11_leftOf_58 : decode cX11_leftOf 58 = .ok (.iload_n 2, 1) := by decide +kernel
theorem dX11_leftOf_59 : decode cX11_leftOf 59 = .ok (.iadd, 1) := by decide +kernel
theorem dX11_leftOf_60 : decode cX11_leftOf 60 = .ok (.iaload, 1) := by decide +kernel
theorem dX11_leftOf_61 : decode cX11_leftOf 61 = .ok (.goto 4, 3) := by decide +kernel
theorem dX11_leftOf_64 : decode cX11_leftOf 64 = .ok (.iconst 0, 1) := by decide +kernel
theorem dX11_leftOf_65 : decode cX11_leftOf 65 = .ok (.isub, 1) := by decide +kernel
theorem dX11_leftOf_66 : decode cX11_leftOf 66 = .ok (.istore 4, 2) := by decide +kernel
theorem dX11_leftOf_68 : decode cX11_leftOf 68 = .ok (.iinc 5 1, 3) := by decide +kernel
theorem dX11_leftOf_71 : decode cX11_leftOf 71 = .ok (.goto (-53), 3) := by decide +kernel
theorem dX11_leftOf_74 : decode cX11_leftOf 74 = .ok (.iload 4, 2) := by decide +kernel
theorem dX11_leftOf_76 : decode cX11_leftOf 76 = .ok (.ireturn, 1) := by decide +kernel
theorem dX11_alikeIn_0 : decode cX11_alikeIn 0 = .ok (.iconst 0, 1) := by decide +kernel
theorem dX11_alikeIn_1 : decode cX11_alikeIn 1 = .ok (.istore_n 3, 1) := by decide +kernel
theorem dX11_alikeIn_2 : decode cX11_alikeIn 2 = .ok (.iconst 0, 1) := by decide +kernel
theorem dX11_alikeIn_3 : decode cX11_alikeIn 3 = .ok (.istore 4, 2) := by decide +kernel
theorem dX11_alikeIn_5 : decode cX11_alikeIn 5 = .ok (.iload 4, 2) := by decide +kernel
theorem dX11_alikeIn_7 : decode cX11_alikeIn 7 = .ok (.aload_n 0, 1) := by decide +kernel
theorem dX11_alikeIn_8 : decode cX11_alikeIn 8 = .ok (.getfield 7, 3) := by decide +kernel
theorem dX11_alikeIn_11 : decode cX11_alikeIn 11 = .ok (.iconst 1, 1) := by decide +kernel
theorem dX11_alikeIn_12 : decode cX11_alikeIn 12 = .ok (.iaload, 1) := by decide +kernel
theorem dX11_alikeIn_13 : decode cX11_alikeIn 13 = .ok (.if_icmp .ge 79, 3) := by decide +kernel
theorem dX11_alikeIn_16 : decode cX11_alikeIn 16 = .ok (.iload_n 3, 1) := by decide +kernel
theorem dX11_alikeIn_17 : decode cX11_alikeIn 17 = .ok (.iload 4, 2) := by decide +kernel
theorem dX11_alikeIn_19 : decode cX11_alikeIn 19 = .ok (.iload_n 1, 1) := by decide +kernel
theorem dX11_alikeIn_20 : decode cX11_alikeIn 20 = .ok (.if_icmp .eq 63, 3) := by decide +kernel
theorem dX11_alikeIn_23 : decode cX11_alikeIn 23 = .ok (.aload_n 0, 1) := by decide +kernel
theorem dX11_alikeIn_24 : decode cX11_alikeIn 24 = .ok (.getfield 7, 3) := by decide +kernel
theorem dX11_alikeIn_27 : decode cX11_alikeIn 27 = .ok (.bipush 66, 2) := by decide +kernel
theorem dX11_alikeIn_29 : decode cX11_alikeIn 29 = .ok (.iload 4, 2) := by decide +kernel
theorem dX11_alikeIn_31 : decode cX11_alikeIn 31 = .ok (.iadd, 1) := by decide +kernel
theorem dX11_alikeIn_32 : decode cX11_alikeIn 32 = .ok (.iaload, 1) := by decide +kernel
theorem dX11_alikeIn_33 : decode cX11_alikeIn 33 = .ok (.aload_n 0, 1) := by decide +kernel
theorem dX11_alikeIn_34 : decode cX11_alikeIn 34 = .ok (.getfield 7, 3) := by decide +kernel
theorem dX11_alikeIn_37 : decode cX11_alikeIn 37 = .ok (.bipush 66, 2) := by decide +kernel
theorem dX11_alikeIn_39 : decode cX11_alikeIn 39 = .ok (.iload_n 1, 1) := by decide +kernel
theorem dX11_alikeIn_40 : decode cX11_alikeIn 40 = .ok (.iadd, 1) := by decide +kernel
theorem dX11_alikeIn_41 : decode cX11_alikeIn 41 = .ok (.iaload, 1) := by decide +kernel
theorem dX11_alikeIn_42 : decode cX11_alikeIn 42 = .ok (.if_icmp .ne 41, 3) := by decide +kernel
theorem dX11_alikeIn_45 : decode cX11_alikeIn 45 = .ok (.aload_n 0, 1) := by decide +kernel
theorem dX11_alikeIn_46 : decode cX11_alikeIn 46 = .ok (.getfield 7, 3) := by decide +kernel
theorem dX11_alikeIn_49 : decode cX11_alikeIn 49 = .ok (.sipush 186, 3) := by decide +kernel
theorem dX11_alikeIn_52 : decode cX11_alikeIn 52 = .ok (.iload 4, 2) := by decide +kernel
theorem dX11_alikeIn_54 : decode cX11_alikeIn 54 = .ok (.iadd, 1) := by decide +kernel
theorem dX11_alikeIn_55 : decode cX11_alikeIn 55 = .ok (.iaload, 1) := by decide +kernel
theorem dX11_alikeIn_56 : decode cX11_alikeIn 56 = .ok (.aload_n 0, 1) := by decide +kernel
theorem dX11_alikeIn_57 : decode cX11_alikeIn 57 = .ok (.getfield 7, 3) := by decide +kernel
theorem dX11_alikeIn_60 : decode cX11_alikeIn 60 = .ok (.sipush 186, 3) := by decide +kernel
theorem dX11_alikeIn_63 : decode cX11_alikeIn 63 = .ok (.iload_n 1, 1) := by decide +kernel
theorem dX11_alikeIn_64 : decode cX11_alikeIn 64 = .ok (.iadd, 1) := by decide +kernel
theorem dX11_alikeIn_65 : decode cX11_alikeIn 65 = .ok (.iaload, 1) := by decide +kernel
theorem dX11_alikeIn_66 : decode cX11_alikeIn 66 = .ok (.if_icmp .ne 17, 3) := by decide +kernel
theorem dX11_alikeIn_69 : decode cX11_alikeIn 69 = .ok (.aload_n 0, 1) := by decide +kernel
theorem dX11_alikeIn_70 : decode cX11_alikeIn 70 = .ok (.iload 4, 2) := by decide +kernel
theorem dX11_alikeIn_72 : decode cX11_alikeIn 72 = .ok (.iload_n 2, 1) := by decide +kernel
theorem dX11_alikeIn_73 : decode cX11_alikeIn 73 = .ok (.invokevirtual 68, 3) := by decide +kernel
theorem dX11_alikeIn_76 : decode cX11_alikeIn 76 = .ok (.ifCond .eq 7, 3) := by decide +kernel
theorem dX11_alikeIn_79 : decode cX11_alikeIn 79 = .ok (.iconst 1, 1) := by decide +kernel
theorem dX11_alikeIn_80 : decode cX11_alikeIn 80 = .ok (.goto 4, 3) := by decide +kernel
theorem dX11_alikeIn_83 : decode cX11_alikeIn 83 = .ok (.iconst 0, 1) := by decide +kernel
theorem dX11_alikeIn_84 : decode cX11_alikeIn 84 = .ok (.iadd, 1) := by decide +kernel
theorem dX11_alikeIn_85 : decode cX11_alikeIn 85 = .ok (.istore_n 3, 1) := by decide +kernel
theorem dX11_alikeIn_86 : decode cX11_alikeIn 86 = .ok (.iinc 4 1, 3) := by decide +kernel
theorem dX11_alikeIn_89 : decode cX11_alikeIn 89 = .ok (.goto (-84), 3) := by decide +kernel
theorem dX11_alikeIn_92 : decode cX11_alikeIn 92 = .ok (.iload_n 3, 1) := by decide +kernel
theorem dX11_alikeIn_93 : decode cX11_alikeIn 93 = .ok (.ireturn, 1) := by decide +kernel
theorem dX11_groupOn_0 : decode cX11_groupOn 0 = .ok (.iconst 0, 1) := by decide +kernel
theorem dX11_groupOn_1 : decode cX11_groupOn 1 = .ok (.istore 4, 2) := by decide +kernel
theorem dX11_groupOn_3 : decode cX11_groupOn 3 = .ok (.iconst 0, 1) := by decide +kernel
theorem dX11_groupOn_4 : decode cX11_groupOn 4 = .ok (.istore 5, 2) := by decide +kernel
theorem dX11_groupOn_6 : decode cX11_groupOn 6 = .ok (.iload 5, 2) := by decide +kernel
theorem dX11_groupOn_8 : decode cX11_groupOn 8 = .ok (.aload_n 0, 1) := by decide +kernel
theorem dX11_groupOn_9 : decode cX11_groupOn 9 = .ok (.getfield 7, 3) := by decide +kernel
theorem dX11_groupOn_12 : decode cX11_groupOn 12 = .ok (.iconst 1, 1) := by decide +kernel
theorem dX11_groupOn_13 : decode cX11_groupOn 13 = .ok (.iaload, 1) := by decide +kernel
theorem dX11_groupOn_14 : decode cX11_groupOn 14 = .ok (.if_icmp .ge 50, 3) := by decide +kernel
theorem dX11_groupOn_17 : decode cX11_groupOn 17 = .ok (.iload 4, 2) := by decide +kernel
theorem dX11_groupOn_19 : decode cX11_groupOn 19 = .ok (.iload 5, 2) := by decide +kernel
theorem dX11_groupOn_21 : decode cX11_groupOn 21 = .ok (.iload_n 3, 1) := by decide +kernel
theorem dX11_groupOn_22 : decode cX11_groupOn 22 = .ok (.if_icmp .eq 32, 3) := by decide +kernel
theorem dX11_groupOn_25 : decode cX11_groupOn 25 = .ok (.aload_n 0, 1) := by decide +kernel
theorem dX11_groupOn_26 : decode cX11_groupOn 26 = .ok (.getfield 7, 3) := by decide +kernel
theorem dX11_groupOn_29 : decode cX11_groupOn 29 = .ok (.sipush 186, 3) := by decide +kernel
theorem dX11_groupOn_32 : decode cX11_groupOn 32 = .ok (.iload 5, 2) := by decide +kernel
theorem dX11_groupOn_34 : decode cX11_groupOn 34 = .ok (.iadd, 1) := by decide +kernel
theorem dX11_groupOn_35 : decode cX11_groupOn 35 = .ok (.iaload, 1) := by decide +kernel
theorem dX11_groupOn_36 : decode cX11_groupOn 36 = .ok (.iload_n 1, 1) := by decide +kernel
theorem dX11_groupOn_37 : decode cX11_groupOn 37 = .ok (.if_icmp .ne 17, 3) := by decide +kernel
theorem dX11_groupOn_40 : decode cX11_groupOn 40 = .ok (.aload_n 0, 1) := by decide +kernel
theorem dX11_groupOn_41 : decode cX11_groupOn 41 = .ok (.iload 5, 2) := by decide +kernel
theorem dX11_groupOn_43 : decode cX11_groupOn 43 = .ok (.iload_n 2, 1) := by decide +kernel
theorem dX11_groupOn_44 : decode cX11_groupOn 44 = .ok (.invokevirtual 64, 3) := by decide +kernel
theorem dX11_groupOn_47 : decode cX11_groupOn 47 = .ok (.ifCond .eq 7, 3) := by decide +kernel
theorem dX11_groupOn_50 : decode cX11_groupOn 50 = .ok (.iconst 1, 1) := by decide +kernel
theorem dX11_groupOn_51 : decode cX11_groupOn 51 = .ok (.goto 4, 3) := by decide +kernel
theorem dX11_groupOn_54 : decode cX11_groupOn 54 = .ok (.iconst 0, 1) := by decide +kernel
theorem dX11_groupOn_55 : decode cX11_groupOn 55 = .ok (.iadd, 1) := by decide +kernel
theorem dX11_groupOn_56 : decode cX11_groupOn 56 = .ok (.istore 4, 2) := by decide +kernel
theorem dX11_groupOn_58 : decode cX11_groupOn 58 = .ok (.iinc 5 1, 3) := by decide +kernel
theorem dX11_groupOn_61 : decode cX11_groupOn 61 = .ok (.goto (-55), 3) := by decide +kernel
theorem dX11_groupOn_64 : decode cX11_groupOn 64 = .ok (.iload 4, 2) := by decide +kernel
theorem dX11_groupOn_66 : decode cX11_groupOn 66 = .ok (.ireturn, 1) := by decide +kernel
theorem dX11_groupIn_0 : decode cX11_groupIn 0 = .ok (.iconst 0, 1) := by decide +kernel
theorem dX11_groupIn_1 : decode cX11_groupIn 1 = .ok (.istore 4, 2) := by decide +kernel
theorem dX11_groupIn_3 : decode cX11_groupIn 3 = .ok (.iconst 0, 1) := by decide +kernel
theorem dX11_groupIn_4 : decode cX11_groupIn 4 = .ok (.istore 5, 2) := by decide +kernel
theorem dX11_groupIn_6 : decode cX11_groupIn 6 = .ok (.iload 5, 2) := by decide +kernel
theorem dX11_groupIn_8 : decode cX11_groupIn 8 = .ok (.aload_n 0, 1) := by decide +kernel
theorem dX11_groupIn_9 : decode cX11_groupIn 9 = .ok (.getfield 7, 3) := by decide +kernel
theorem dX11_groupIn_12 : decode cX11_groupIn 12 = .ok (.iconst 1, 1) := by decide +kernel
theorem dX11_groupIn_13 : decode cX11_groupIn 13 = .ok (.iaload, 1) := by decide +kernel
theorem dX11_groupIn_14 : decode cX11_groupIn 14 = .ok (.if_icmp .ge 50, 3) := by decide +kernel
theorem dX11_groupIn_17 : decode cX11_groupIn 17 = .ok (.iload 4, 2) := by decide +kernel
theorem dX11_groupIn_19 : decode cX11_groupIn 19 = .ok (.iload 5, 2) := by decide +kernel
theorem dX11_groupIn_21 : decode cX11_groupIn 21 = .ok (.iload_n 3, 1) := by decide +kernel
theorem dX11_groupIn_22 : decode cX11_groupIn 22 = .ok (.if_icmp .eq 32, 3) := by decide +kernel
theorem dX11_groupIn_25 : decode cX11_groupIn 25 = .ok (.aload_n 0, 1) := by decide +kernel
theorem dX11_groupIn_26 : decode cX11_groupIn 26 = .ok (.getfield 7, 3) := by decide +kernel
theorem dX11_groupIn_29 : decode cX11_groupIn 29 = .ok (.sipush 186, 3) := by decide +kernel
theorem dX11_groupIn_32 : decode cX11_groupIn 32 = .ok (.iload 5, 2) := by decide +kernel
theorem dX11_groupIn_34 : decode cX11_groupIn 34 = .ok (.iadd, 1) := by decide +kernel
theorem dX11_groupIn_35 : decode cX11_groupIn 35 = .ok (.iaload, 1) := by decide +kernel
theorem dX11_groupIn_36 : decode cX11_groupIn 36 = .ok (.iload_n 1, 1) := by decide +kernel
theorem dX11_groupIn_37 : decode cX11_groupIn 37 = .ok (.if_icmp .ne 17, 3) := by decide +kernel
theorem dX11_groupIn_40 : decode cX11_groupIn 40 = .ok (.aload_n 0, 1) := by decide +kernel
theorem dX11_groupIn_41 : decode cX11_groupIn 41 = .ok (.iload 5, 2) := by decide +kernel
theorem dX11_groupIn_43 : decode cX11_groupIn 43 = .ok (.iload_n 2, 1) := by decide +kernel
theorem dX11_groupIn_44 : decode cX11_groupIn 44 = .ok (.invokevirtual 68, 3) := by decide +kernel
theorem dX11_groupIn_47 : decode cX11_groupIn 47 = .ok (.ifCond .eq 7, 3) := by decide +kernel
theorem dX11_groupIn_50 : decode cX11_groupIn 50 = .ok (.iconst 1, 1) := by decide +kernel
theorem dX11_groupIn_51 : decode cX11_groupIn 51 = .ok (.goto 4, 3) := by decide +kernel
theorem dX11_groupIn_54 : decode cX11_groupIn 54 = .ok (.iconst 0, 1) := by decide +kernel
theorem dX11_groupIn_55 : decode cX11_groupIn 55 = .ok (.iadd, 1) := by decide +kernel
theorem dX11_groupIn_56 : decode cX11_groupIn 56 = .ok (.istore 4, 2) := by decide +kernel
theorem dX11_groupIn_58 : decode cX11_groupIn 58 = .ok (.iinc 5 1, 3) := by decide +kernel
theorem dX11_groupIn_61 : decode cX11_groupIn 61 = .ok (.goto (-55), 3) := by decide +kernel
theorem dX11_groupIn_64 : decode cX11_groupIn 64 = .ok (.iload 4, 2) := by decide +kernel
theorem dX11_groupIn_66 : decode cX11_groupIn 66 = .ok (.ireturn, 1) := by decide +kernel
theorem dX11_isCrowded_0 : decode cX11_isCrowded 0 = .ok (.iconst 0, 1) := by decide +kernel
theorem dX11_isCrowded_1 : decode cX11_isCrowded 1 = .ok (.istore_n 3, 1) := by decide +kernel
theorem dX11_isCrowded_2 : decode cX11_isCrowded 2 = .ok (.aload_n 0, 1) := by decide +kernel
theorem dX11_isCrowded_3 : decode cX11_isCrowded 3 = .ok (.iload_n 1, 1) := by decide +kernel
theorem dX11_isCrowded_4 : decode cX11_isCrowded 4 = .ok (.aload_n 0, 1) := by decide +kernel
theorem dX11_isCrowded_5 : decode cX11_isCrowded 5 = .ok (.getfield 7, 3) := by decide +kernel
theorem dX11_isCrowded_8 : decode cX11_isCrowded 8 = .ok (.bipush 36, 2) := by decide +kernel
theorem dX11_isCrowded_10 : decode cX11_isCrowded 10 = .ok (.iload_n 2, 1) := by decide +kernel
theorem dX11_isCrowded_11 : decode cX11_isCrowded 11 = .ok (.iadd, 1) := by decide +kernel
theorem dX11_isCrowded_12 : decode cX11_isCrowded 12 = .ok (.iaload, 1) := by decide +kernel
theorem dX11_isCrowded_13 : decode cX11_isCrowded 13 = .ok (.invokevirtual 71, 3) := by decide +kernel
theorem dX11_isCrowded_16 : decode cX11_isCrowded 16 = .ok (.istore 4, 2) := by decide +kernel
theorem dX11_isCrowded_18 : decode cX11_isCrowded 18 = .ok (.iconst 0, 1) := by decide +kernel
theorem dX11_isCrowded_19 : decode cX11_isCrowded 19 = .ok (.istore 5, 2) := by decide +kernel
theorem dX11_isCrowded_21 : decode cX11_isCrowded 21 = .ok (.iload 5, 2) := by decide +kernel
theorem dX11_isCrowded_23 : decode cX11_isCrowded 23 = .ok (.aload_n 0, 1) := by decide +kernel
theorem dX11_isCrowded_24 : decode cX11_isCrowded 24 = .ok (.getfield 7, 3) := by decide +kernel
theorem dX11_isCrowded_27 : decode cX11_isCrowded 27 = .ok (.iconst 0, 1) := by decide +kernel
theorem dX11_isCrowded_28 : decode cX11_isCrowded 28 = .ok (.iaload, 1) := by decide +kernel
theorem dX11_isCrowded_29 : decode cX11_isCrowded 29 = .ok (.if_icmp .ge 53, 3) := by decide +kernel
theorem dX11_isCrowded_32 : decode cX11_isCrowded 32 = .ok (.iload_n 3, 1) := by decide +kernel
theorem dX11_isCrowded_33 : decode cX11_isCrowded 33 = .ok (.ifCond .ne 37, 3) := by decide +kernel
theorem dX11_isCrowded_36 : decode cX11_isCrowded 36 = .ok (.aload_n 0, 1) := by decide +kernel
theorem dX11_isCrowded_37 : decode cX11_isCrowded 37 = .ok (.getfield 7, 3) := by decide +kernel
theorem dX11_isCrowded_40 : decode cX11_isCrowded 40 = .ok (.bipush 56, 2) := by decide +kernel
theorem dX11_isCrowded_42 : decode cX11_isCrowded 42 = .ok (.iload 5, 2) := by decide +kernel
theorem dX11_isCrowded_44 : decode cX11_isCrowded 44 = .ok (.iadd, 1) := by decide +kernel
theorem dX11_isCrowded_45 : decode cX11_isCrowded 45 = .ok (.iaload, 1) := by decide +kernel
theorem dX11_isCrowded_46 : decode cX11_isCrowded 46 = .ok (.iconst 1, 1) := by decide +kernel
theorem dX11_isCrowded_47 : decode cX11_isCrowded 47 = .ok (.if_icmp .ne 27, 3) := by decide +kernel
theorem dX11_isCrowded_50 : decode cX11_isCrowded 50 = .ok (.iload 4, 2) := by decide +kernel
theorem dX11_isCrowded_52 : decode cX11_isCrowded 52 = .ok (.aload_n 0, 1) := by decide +kernel
theorem dX11_isCrowded_53 : decode cX11_isCrowded 53 = .ok (.iload_n 1, 1) := by decide +kernel
theorem dX11_isCrowded_54 : decode cX11_isCrowded 54 = .ok (.aload_n 0, 1) := by decide +kernel
theorem dX11_isCrowded_55 : decode cX11_isCrowded 55 = .ok (.getfield 7, 3) := by decide +kernel
theorem dX11_isCrowded_58 : decode cX11_isCrowded 58 = .ok (.bipush 36, 2) := by decide +kernel
theorem dX11_isCrowded_60 : decode cX11_isCrowded 60 = .ok (.iload 5, 2) := by decide +kernel
theorem dX11_isCrowded_62 : decode cX11_isCrowded 62 = .ok (.iadd, 1) := by decide +kernel
theorem dX11_isCrowded_63 : decode cX11_isCrowded 63 = .ok (.iaload, 1) := by decide +kernel
theorem dX11_isCrowded_64 : decode cX11_isCrowded 64 = .ok (.invokevirtual 71, 3) := by decide +kernel
theorem dX11_isCrowded_67 : decode cX11_isCrowded 67 = .ok (.if_icmp .le 7, 3) := by decide +kernel
theorem dX11_isCrowded_70 : decode cX11_isCrowded 70 = .ok (.iconst 1, 1) := by decide +kernel
theorem dX11_isCrowded_71 : decode cX11_isCrowded 71 = .ok (.goto 4, 3) := by decide +kernel
theorem dX11_isCrowded_74 : decode cX11_isCrowded 74 = .ok (.iconst 0, 1) := by decide +kernel
theorem dX11_isCrowded_75 : decode cX11_isCrowded 75 = .ok (.istore_n 3, 1) := by decide +kernel
theorem dX11_isCrowded_76 : decode cX11_isCrowded 76 = .ok (.iinc 5 1, 3) := by decide +kernel
theorem dX11_isCrowded_79 : decode cX11_isCrowded 79 = .ok (.goto (-58), 3) := by decide +kernel
theorem dX11_isCrowded_82 : decode cX11_isCrowded 82 = .ok (.iload_n 3, 1) := by decide +kernel
theorem dX11_isCrowded_83 : decode cX11_isCrowded 83 = .ok (.ireturn, 1) := by decide +kernel
theorem dX11_isScared_0 : decode cX11_isScared 0 = .ok (.iconst 0, 1) := by decide +kernel
theorem dX11_isScared_1 : decode cX11_isScared 1 = .ok (.istore_n 3, 1) := by decide +kernel
theorem dX11_isScared_2 : decode cX11_isScared 2 = .ok (.iconst 0, 1) := by decide +kernel
theorem dX11_isScared_3 : decode cX11_isScared 3 = .ok (.istore 4, 2) := by decide +kernel
theorem dX11_isScared_5 : decode cX11_isScared 5 = .ok (.iload 4, 2) := by decide +kernel
theorem dX11_isScared_7 : decode cX11_isScared 7 = .ok (.aload_n 0, 1) := by decide +kernel
theorem dX11_isScared_8 : decode cX11_isScared 8 = .ok (.getfield 7, 3) := by decide +kernel
theorem dX11_isScared_11 : decode cX11_isScared 11 = .ok (.iconst 1, 1) := by decide +kernel
theorem dX11_isScared_12 : decode cX11_isScared 12 = .ok (.iaload, 1) := by decide +kernel
theorem dX11_isScared_13 : decode cX11_isScared 13 = .ok (.if_icmp .ge 73, 3) := by decide +kernel
theorem dX11_isScared_16 : decode cX11_isScared 16 = .ok (.iload_n 3, 1) := by decide +kernel
theorem dX11_isScared_17 : decode cX11_isScared 17 = .ok (.ifCond .ne 57, 3) := by decide +kernel
theorem dX11_isScared_20 : decode cX11_isScared 20 = .ok (.iload 4, 2) := by decide +kernel
theorem dX11_isScared_22 : decode cX11_isScared 22 = .ok (.iload_n 1, 1) := by decide +kernel
theorem dX11_isScared_23 : decode cX11_isScared 23 = .ok (.if_icmp .eq 55, 3) := by decide +kernel
theorem dX11_isScared_26 : decode cX11_isScared 26 = .ok (.aload_n 0, 1) := by decide +kernel
theorem dX11_isScared_27 : decode cX11_isScared 27 = .ok (.iload 4, 2) := by decide +kernel
theorem dX11_isScared_29 : decode cX11_isScared 29 = .ok (.iload_n 2, 1) := by decide +kernel
theorem dX11_isScared_30 : decode cX11_isScared 30 = .ok (.invokevirtual 64, 3) := by decide +kernel
theorem dX11_isScared_33 : decode cX11_isScared 33 = .ok (.ifCond .eq 45, 3) := by decide +kernel
theorem dX11_isScared_36 : decode cX11_isScared 36 = .ok (.aload_n 0, 1) := by decide +kernel
theorem dX11_isScared_37 : decode cX11_isScared 37 = .ok (.getfield 7, 3) := by decide +kernel
theorem dX11_isScared_40 : decode cX11_isScared 40 = .ok (.bipush 66, 2) := by decide +kernel
theorem dX11_isScared_42 : decode cX11_isScared 42 = .ok (.iload 4, 2) := by decide +kernel
theorem dX11_isScared_44 : decode cX11_isScared 44 = .ok (.iadd, 1) := by decide +kernel
theorem dX11_isScared_45 : decode cX11_isScared 45 = .ok (.iaload, 1) := by decide +kernel
theorem dX11_isScared_46 : decode cX11_isScared 46 = .ok (.iconst 4, 1) := by decide +kernel
theorem dX11_isScared_47 : decode cX11_isScared 47 = .ok (.if_icmp .ne 31, 3) := by decide +kernel
theorem dX11_isScared_50 : decode cX11_isScared 50 = .ok (.aload_n 0, 1) := by decide +kernel
theorem dX11_isScared_51 : decode cX11_isScared 51 = .ok (.getfield 7, 3) := by decide +kernel
theorem dX11_isScared_54 : decode cX11_isScared 54 = .ok (.sipush 234, 3) := by decide +kernel
theorem dX11_isScared_57 : decode cX11_isScared 57 = .ok (.iload 4, 2) := by decide +kernel
theorem dX11_isScared_59 : decode cX11_isScared 59 = .ok (.iadd, 1) := by decide +kernel
theorem dX11_isScared_60 : decode cX11_isScared 60 = .ok (.iaload, 1) := by decide +kernel
theorem dX11_isScared_61 : decode cX11_isScared 61 = .ok (.aload_n 0, 1) := by decide +kernel
theorem dX11_isScared_62 : decode cX11_isScared 62 = .ok (.getfield 7, 3) := by decide +kernel
theorem dX11_isScared_65 : decode cX11_isScared 65 = .ok (.sipush 186, 3) := by decide +kernel
theorem dX11_isScared_68 : decode cX11_isScared 68 = .ok (.iload_n 1, 1) := by decide +kernel
theorem dX11_isScared_69 : decode cX11_isScared 69 = .ok (.iadd, 1) := by decide +kernel
theorem dX11_isScared_70 : decode cX11_isScared 70 = .ok (.iaload, 1) := by decide +kernel
theorem dX11_isScared_71 : decode cX11_isScared 71 = .ok (.if_icmp .ne 7, 3) := by decide +kernel
theorem dX11_isScared_74 : decode cX11_isScared 74 = .ok (.iconst 1, 1) := by decide +kernel
theorem dX11_isScared_75 : decode cX11_isScared 75 = .ok (.goto 4, 3) := by decide +kernel
theorem dX11_isScared_78 : decode cX11_isScared 78 = .ok (.iconst 0, 1) := by decide +kernel
theorem dX11_isScared_79 : decode cX11_isScared 79 = .ok (.istore_n 3, 1) := by decide +kernel
theorem dX11_isScared_80 : decode cX11_isScared 80 = .ok (.iinc 4 1, 3) := by decide +kernel
theorem dX11_isScared_83 : decode cX11_isScared 83 = .ok (.goto (-78), 3) := by decide +kernel
theorem dX11_isScared_86 : decode cX11_isScared 86 = .ok (.iload_n 3, 1) := by decide +kernel
theorem dX11_isScared_87 : decode cX11_isScared 87 = .ok (.ireturn, 1) := by decide +kernel
theorem dX11_whyNot_0 : decode cX11_whyNot 0 = .ok (.aload_n 0, 1) := by decide +kernel
theorem dX11_whyNot_1 : decode cX11_whyNot 1 = .ok (.getfield 7, 3) := by decide +kernel
theorem dX11_whyNot_4 : decode cX11_whyNot 4 = .ok (.bipush 56, 2) := by decide +kernel
theorem dX11_whyNot_6 : decode cX11_whyNot 6 = .ok (.iload_n 2, 1) := by decide +kernel
theorem dX11_whyNot_7 : decode cX11_whyNot 7 = .ok (.iadd, 1) := by decide +kernel
theorem dX11_whyNot_8 : decode cX11_whyNot 8 = .ok (.iaload, 1) := by decide +kernel
theorem dX11_whyNot_9 : decode cX11_whyNot 9 = .ok (.ifCond .ne 5, 3) := by decide +kernel
theorem dX11_whyNot_12 : decode cX11_whyNot 12 = .ok (.iconst 1, 1) := by decide +kernel
theorem dX11_whyNot_13 : decode cX11_whyNot 13 = .ok (.ireturn, 1) := by decide +kernel
theorem dX11_whyNot_14 : decode cX11_whyNot 14 = .ok (.aload_n 0, 1) := by decide +kernel
theorem dX11_whyNot_15 : decode cX11_whyNot 15 = .ok (.getfield 7, 3) := by decide +kernel
theorem dX11_whyNot_18 : decode cX11_whyNot 18 = .ok (.bipush 46, 2) := by decide +kernel
theorem dX11_whyNot_20 : decode cX11_whyNot 20 = .ok (.iload_n 2, 1) := by decide +kernel
theorem dX11_whyNot_21 : decode cX11_whyNot 21 = .ok (.iadd, 1) := by decide +kernel
theorem dX11_whyNot_22 : decode cX11_whyNot 22 = .ok (.iaload, 1) := by decide +kernel
theorem dX11_whyNot_23 : decode cX11_whyNot 23 = .ok (.aload_n 0, 1) := by decide +kernel
theorem dX11_whyNot_24 : decode cX11_whyNot 24 = .ok (.getfield 7, 3) := by decide +kernel
theorem dX11_whyNot_27 : decode cX11_whyNot 27 = .ok (.sipush 210, 3) := by decide +kernel
theorem dX11_whyNot_30 : decode cX11_whyNot 30 = .ok (.iload_n 1, 1) := by decide +kernel
theorem dX11_whyNot_31 : decode cX11_whyNot 31 = .ok (.iadd, 1) := by decide +kernel
theorem dX11_whyNot_32 : decode cX11_whyNot 32 = .ok (.iaload, 1) := by decide +kernel
theorem dX11_whyNot_33 : decode cX11_whyNot 33 = .ok (.iconst (-1), 1) := by decide +kernel
theorem dX11_whyNot_34 : decode cX11_whyNot 34 = .ok (.ixor, 1) := by decide +kernel
theorem dX11_whyNot_35 : decode cX11_whyNot 35 = .ok (.iand, 1) := by decide +kernel
theorem dX11_whyNot_36 : decode cX11_whyNot 36 = .ok (.ifCond .eq 5, 3) := by decide +kernel
theorem dX11_whyNot_39 : decode cX11_whyNot 39 = .ok (.iconst 2, 1) := by decide +kernel
theorem dX11_whyNot_40 : decode cX11_whyNot 40 = .ok (.ireturn, 1) := by decide +kernel
theorem dX11_whyNot_41 : decode cX11_whyNot 41 = .ok (.iconst 0, 1) := by decide +kernel
theorem dX11_whyNot_42 : decode cX11_whyNot 42 = .ok (.istore_n 3, 1) := by decide +kernel
theorem dX11_whyNot_43 : decode cX11_whyNot 43 = .ok (.iload_n 3, 1) := by decide +kernel
theorem dX11_whyNot_44 : decode cX11_whyNot 44 = .ok (.iconst 3, 1) := by decide +kernel
theorem dX11_whyNot_45 : decode cX11_whyNot 45 = .ok (.if_icmp .ge 36, 3) := by decide +kernel
theorem dX11_whyNot_48 : decode cX11_whyNot 48 = .ok (.aload_n 0, 1) := by decide +kernel
theorem dX11_whyNot_49 : decode cX11_whyNot 49 = .ok (.getfield 7, 3) := by decide +kernel
theorem dX11_whyNot_52 : decode cX11_whyNot 52 = .ok (.bipush 90, 2) := by decide +kernel
theorem dX11_whyNot_54 : decode cX11_whyNot 54 = .ok (.iconst 3, 1) := by decide +kernel
theorem dX11_whyNot_55 : decode cX11_whyNot 55 = .ok (.iload_n 1, 1) := by decide +kernel
theorem dX11_whyNot_56 : decode cX11_whyNot 56 = .ok (.imul, 1) := by decide +kernel
theorem dX11_whyNot_57 : decode cX11_whyNot 57 = .ok (.iadd, 1) := by decide +kernel
theorem dX11_whyNot_58 : decode cX11_whyNot 58 = .ok (.iload_n 3, 1) := by decide +kernel
theorem dX11_whyNot_59 : decode cX11_whyNot 59 = .ok (.iadd, 1) := by decide +kernel
theorem dX11_whyNot_60 : decode cX11_whyNot 60 = .ok (.iaload, 1) := by decide +kernel
theorem dX11_whyNot_61 : decode cX11_whyNot 61 = .ok (.aload_n 0, 1) := by decide +kernel
theorem dX11_whyNot_62 : decode cX11_whyNot 62 = .ok (.iload_n 2, 1) := by decide +kernel
theorem dX11_whyNot_63 : decode cX11_whyNot 63 = .ok (.iload_n 3, 1) := by decide +kernel
theorem dX11_whyNot_64 : decode cX11_whyNot 64 = .ok (.iload_n 1, 1) := by decide +kernel
theorem dX11_whyNot_65 : decode cX11_whyNot 65 = .ok (.invokevirtual 75, 3) := by decide +kernel
theorem dX11_whyNot_68 : decode cX11_whyNot 68 = .ok (.if_icmp .le 7, 3) := by decide +kernel
theorem dX11_whyNot_71 : decode cX11_whyNot 71 = .ok (.iconst 3, 1) := by decide +kernel
theorem dX11_whyNot_72 : decode cX11_whyNot 72 = .ok (.iload_n 3, 1) := by decide +kernel
theorem dX11_whyNot_73 : decode cX11_whyNot 73 = .ok (.iadd, 1) := by decide +kernel
theorem dX11_whyNot_74 : decode cX11_whyNot 74 = .ok (.ireturn, 1) := by decide +kernel
theorem dX11_whyNot_75 : decode cX11_whyNot 75 = .ok (.iinc 3 1, 3) := by decide +kernel
theorem dX11_whyNot_78 : decode cX11_whyNot 78 = .ok (.goto (-35), 3) := by decide +kernel
theorem dX11_whyNot_81 : decode cX11_whyNot 81 = .ok (.aload_n 0, 1) := by decide +kernel
theorem dX11_whyNot_82 : decode cX11_whyNot 82 = .ok (.getfield 7, 3) := by decide +kernel
theorem dX11_whyNot_85 : decode cX11_whyNot 85 = .ok (.bipush 66, 2) := by decide +kernel
theorem dX11_whyNot_87 : decode cX11_whyNot 87 = .ok (.iload_n 1, 1) := by decide +kernel
theorem dX11_whyNot_88 : decode cX11_whyNot 88 = .ok (.iadd, 1) := by decide +kernel
theorem dX11_whyNot_89 : decode cX11_whyNot 89 = .ok (.iaload, 1) := by decide +kernel
theorem dX11_whyNot_90 : decode cX11_whyNot 90 = .ok (.istore_n 3, 1) := by decide +kernel
theorem dX11_whyNot_91 : decode cX11_whyNot 91 = .ok (.iload_n 3, 1) := by decide +kernel
theorem dX11_whyNot_92 : decode cX11_whyNot 92 = .ok (.iconst 1, 1) := by decide +kernel
theorem dX11_whyNot_93 : decode cX11_whyNot 93 = .ok (.if_icmp .eq 8, 3) := by decide +kernel
theorem dX11_whyNot_96 : decode cX11_whyNot 96 = .ok (.iload_n 3, 1) := by decide +kernel
theorem dX11_whyNot_97 : decode cX11_whyNot 97 = .ok (.iconst 2, 1) := by decide +kernel
theorem dX11_whyNot_98 : decode cX11_whyNot 98 = .ok (.if_icmp .ne 15, 3) := by decide +kernel
theorem dX11_whyNot_101 : decode cX11_whyNot 101 = .ok (.aload_n 0, 1) := by decide +kernel
theorem dX11_whyNot_102 : decode cX11_whyNot 102 = .ok (.iload_n 1, 1) := by decide +kernel
theorem dX11_whyNot_103 : decode cX11_whyNot 103 = .ok (.iload_n 2, 1) := by decide +kernel
theorem dX11_whyNot_104 : decode cX11_whyNot 104 = .ok (.invokevirtual 79, 3) := by decide +kernel
theorem dX11_whyNot_107 : decode cX11_whyNot 107 = .ok (.ifCond .eq 6, 3) := by decide +kernel
theorem dX11_whyNot_110 : decode cX11_whyNot 110 = .ok (.bipush 6, 2) := by decide +kernel
theorem dX11_whyNot_112 : decode cX11_whyNot 112 = .ok (.ireturn, 1) := by decide +kernel
theorem dX11_whyNot_113 : decode cX11_whyNot 113 = .ok (.iload_n 3, 1) := by decide +kernel
theorem dX11_whyNot_114 : decode cX11_whyNot 114 = .ok (.iconst 4, 1) := by decide +kernel
theorem dX11_whyNot_115 : decode cX11_whyNot 115 = .ok (.if_icmp .ne 22, 3) := by decide +kernel
theorem dX11_whyNot_118 : decode cX11_whyNot 118 = .ok (.aload_n 0, 1) := by decide +kernel
theorem dX11_whyNot_119 : decode cX11_whyNot 119 = .ok (.aload_n 0, 1) := by decide +kernel
theorem dX11_whyNot_120 : decode cX11_whyNot 120 = .ok (.getfield 7, 3) := by decide +kernel
theorem dX11_whyNot_123 : decode cX11_whyNot 123 = .ok (.sipush 234, 3) := by decide +kernel
theorem dX11_whyNot_126 : decode cX11_whyNot 126 = .ok (.iload_n 1, 1) := by decide +kernel
theorem dX11_whyNot_127 : decode cX11_whyNot 127 = .ok (.iadd, 1) := by decide +kernel
theorem dX11_whyNot_128 : decode cX11_whyNot 128 = .ok (.iaload, 1) := by decide +kernel
theorem dX11_whyNot_129 : decode cX11_whyNot 129 = .ok (.iload_n 2, 1) := by decide +kernel
theorem dX11_whyNot_130 : decode cX11_whyNot 130 = .ok (.iload_n 1, 1) := by decide +kernel
theorem dX11_whyNot_131 : decode cX11_whyNot 131 = .ok (.invokevirtual 82, 3) := by decide +kernel
theorem dX11_whyNot_134 : decode cX11_whyNot 134 = .ok (.ifCond .gt 35, 3) := by decide +kernel
theorem dX11_whyNot_137 : decode cX11_whyNot 137 = .ok (.iload_n 3, 1) := by decide +kernel
theorem dX11_whyNot_138 : decode cX11_whyNot 138 = .ok (.iconst 5, 1) := by decide +kernel
theorem dX11_whyNot_139 : decode cX11_whyNot 139 = .ok (.if_icmp .ne 33, 3) := by decide +kernel
theorem dX11_whyNot_142 : decode cX11_whyNot 142 = .ok (.aload_n 0, 1) := by decide +kernel
theorem dX11_whyNot_143 : decode cX11_whyNot 143 = .ok (.aload_n 0, 1) := by decide +kernel
theorem dX11_whyNot_144 : decode cX11_whyNot 144 = .ok (.getfield 7, 3) := by decide +kernel
theorem dX11_whyNot_147 : decode cX11_whyNot 147 = .ok (.sipush 234, 3) := by decide +kernel
theorem dX11_whyNot_150 : decode cX11_whyNot 150 = .ok (.iload_n 1, 1) := by decide +kernel
theorem dX11_whyNot_151 : decode cX11_whyNot 151 = .ok (.iadd, 1) := by decide +kernel
theorem dX11_whyNot_152 : decode cX11_whyNot 152 = .ok (.iaload, 1) := by decide +kernel
theorem dX11_whyNot_153 : decode cX11_whyNot 153 = .ok (.aload_n 0, 1) := by decide +kernel
theorem dX11_whyNot_154 : decode cX11_whyNot 154 = .ok (.getfield 7, 3) := by decide +kernel
theorem dX11_whyNot_157 : decode cX11_whyNot 157 = .ok (.bipush 36, 2) := by decide +kernel
theorem dX11_whyNot_159 : decode cX11_whyNot 159 = .ok (.iload_n 2, 1) := by decide +kernel
theorem dX11_whyNot_160 : decode cX11_whyNot 160 = .ok (.iadd, 1) := by decide +kernel
theorem dX11_whyNot_161 : decode cX11_whyNot 161 = .ok (.iaload, 1) := by decide +kernel
theorem dX11_whyNot_162 : decode cX11_whyNot 162 = .ok (.iload_n 1, 1) := by decide +kernel
theorem dX11_whyNot_163 : decode cX11_whyNot 163 = .ok (.invokevirtual 85, 3) := by decide +kernel
theorem dX11_whyNot_166 : decode cX11_whyNot 166 = .ok (.ifCond .ne 6, 3) := by decide +kernel
theorem dX11_whyNot_169 : decode cX11_whyNot 169 = .ok (.bipush 7, 2) := by decide +kernel
theorem dX11_whyNot_171 : decode cX11_whyNot 171 = .ok (.ireturn, 1) := by decide +kernel
theorem dX11_whyNot_172 : decode cX11_whyNot 172 = .ok (.aload_n 0, 1) := by decide +kernel
theorem dX11_whyNot_173 : decode cX11_whyNot 173 = .ok (.iload_n 1, 1) := by decide +kernel
theorem dX11_whyNot_174 : decode cX11_whyNot 174 = .ok (.iload_n 2, 1) := by decide +kernel
theorem dX11_whyNot_175 : decode cX11_whyNot 175 = .ok (.invokevirtual 88, 3) := by decide +kernel
theorem dX11_whyNot_178 : decode cX11_whyNot 178 = .ok (.ifCond .eq 8, 3) := by decide +kernel
theorem dX11_whyNot_181 : decode cX11_whyNot 181 = .ok (.bipush 8, 2) := by decide +kernel
theorem dX11_whyNot_183 : decode cX11_whyNot 183 = .ok (.goto 4, 3) := by decide +kernel
theorem dX11_whyNot_186 : decode cX11_whyNot 186 = .ok (.iconst 0, 1) := by decide +kernel
theorem dX11_whyNot_187 : decode cX11_whyNot 187 = .ok (.ireturn, 1) := by decide +kernel
theorem dX11_why_0 : decode cX11_why 0 = .ok (.aload_n 0, 1) := by decide +kernel
theorem dX11_why_1 : decode cX11_why 1 = .ok (.iload_n 1, 1) := by decide +kernel
theorem dX11_why_2 : decode cX11_why 2 = .ok (.invokevirtual 91, 3) := by decide +kernel
theorem dX11_why_5 : decode cX11_why 5 = .ok (.ifCond .eq 11, 3) := by decide +kernel
theorem dX11_why_8 : decode cX11_why 8 = .ok (.aload_n 0, 1) := by decide +kernel
theorem dX11_why_9 : decode cX11_why 9 = .ok (.iload_n 2, 1) := by decide +kernel
theorem dX11_why_10 : decode cX11_why 10 = .ok (.invokevirtual 95, 3) := by decide +kernel
theorem dX11_why_13 : decode cX11_why 13 = .ok (.ifCond .ne 7, 3) := by decide +kernel
theorem dX11_why_16 : decode cX11_why 16 = .ok (.iconst (-1), 1) := by decide +kernel
theorem dX11_why_17 : decode cX11_why 17 = .ok (.goto 27, 3) := by decide +kernel
theorem dX11_why_20 : decode cX11_why 20 = .ok (.aload_n 0, 1) := by decide +kernel
theorem dX11_why_21 : decode cX11_why 21 = .ok (.getfield 7, 3) := by decide +kernel
theorem dX11_why_24 : decode cX11_why 24 = .ok (.sipush 258, 3) := by decide +kernel
theorem dX11_why_27 : decode cX11_why 27 = .ok (.iload_n 1, 1) := by decide +kernel
theorem dX11_why_28 : decode cX11_why 28 = .ok (.iadd, 1) := by decide +kernel
theorem dX11_why_29 : decode cX11_why 29 = .ok (.iaload, 1) := by decide +kernel
theorem dX11_why_30 : decode cX11_why 30 = .ok (.ifCond .eq 8, 3) := by decide +kernel
theorem dX11_why_33 : decode cX11_why 33 = .ok (.bipush (-2), 2) := by decide +kernel
theorem dX11_why_35 : decode cX11_why 35 = .ok (.goto 9, 3) := by decide +kernel
theorem dX11_why_38 : decode cX11_why 38 = .ok (.aload_n 0, 1) := by decide +kernel
theorem dX11_why_39 : decode cX11_why 39 = .ok (.iload_n 1, 1) := by decide +kernel
theorem dX11_why_40 : decode cX11_why 40 = .ok (.iload_n 2, 1) := by decide +kernel
theorem dX11_why_41 : decode cX11_why 41 = .ok (.invokevirtual 98, 3) := by decide +kernel
theorem dX11_why_44 : decode cX11_why 44 = .ok (.ireturn, 1) := by decide +kernel
theorem dX11_pointsOf_0 : decode cX11_pointsOf 0 = .ok (.iconst 0, 1) := by decide +kernel
theorem dX11_pointsOf_1 : decode cX11_pointsOf 1 = .ok (.istore_n 3, 1) := by decide +kernel
theorem dX11_pointsOf_2 : decode cX11_pointsOf 2 = .ok (.iconst 0, 1) := by decide +kernel
theorem dX11_pointsOf_3 : decode cX11_pointsOf 3 = .ok (.istore 4, 2) := by decide +kernel
theorem dX11_pointsOf_5 : decode cX11_pointsOf 5 = .ok (.iload 4, 2) := by decide +kernel
theorem dX11_pointsOf_7 : decode cX11_pointsOf 7 = .ok (.iconst 3, 1) := by decide +kernel
theorem dX11_pointsOf_8 : decode cX11_pointsOf 8 = .ok (.if_icmp .ge 35, 3) := by decide +kernel
theorem dX11_pointsOf_11 : decode cX11_pointsOf 11 = .ok (.iload_n 3, 1) := by decide +kernel
theorem dX11_pointsOf_12 : decode cX11_pointsOf 12 = .ok (.aload_n 0, 1) := by decide +kernel
theorem dX11_pointsOf_13 : decode cX11_pointsOf 13 = .ok (.iload_n 2, 1) := by decide +kernel
theorem dX11_pointsOf_14 : decode cX11_pointsOf 14 = .ok (.iload 4, 2) := by decide +kernel
theorem dX11_pointsOf_16 : decode cX11_pointsOf 16 = .ok (.iload_n 1, 1) := by decide +kernel
theorem dX11_pointsOf_17 : decode cX11_pointsOf 17 = .ok (.invokevirtual 75, 3) := by decide +kernel
theorem dX11_pointsOf_20 : decode cX11_pointsOf 20 = .ok (.aload_n 0, 1) := by decide +kernel
theorem dX11_pointsOf_21 : decode cX11_pointsOf 21 = .ok (.getfield 7, 3) := by decide +kernel
theorem dX11_pointsOf_24 : decode cX11_pointsOf 24 = .ok (.bipush 90, 2) := by decide +kernel
theorem dX11_pointsOf_26 : decode cX11_pointsOf 26 = .ok (.iconst 3, 1) := by decide +kernel
theorem dX11_pointsOf_27 : decode cX11_pointsOf 27 = .ok (.iload_n 1, 1) := by decide +kernel
theorem dX11_pointsOf_28 : decode cX11_pointsOf 28 = .ok (.imul, 1) := by decide +kernel
theorem dX11_pointsOf_29 : decode cX11_pointsOf 29 = .ok (.iadd, 1) := by decide +kernel
theorem dX11_pointsOf_30 : decode cX11_pointsOf 30 = .ok (.iload 4, 2) := by decide +kernel
theorem dX11_pointsOf_32 : decode cX11_pointsOf 32 = .ok (.iadd, 1) := by decide +kernel
theorem dX11_pointsOf_33 : decode cX11_pointsOf 33 = .ok (.iaload, 1) := by decide +kernel
theorem dX11_pointsOf_34 : decode cX11_pointsOf 34 = .ok (.isub, 1) := by decide +kernel
theorem dX11_pointsOf_35 : decode cX11_pointsOf 35 = .ok (.iadd, 1) := by decide +kernel
theorem dX11_pointsOf_36 : decode cX11_pointsOf 36 = .ok (.istore_n 3, 1) := by decide +kernel
theorem dX11_pointsOf_37 : decode cX11_pointsOf 37 = .ok (.iinc 4 1, 3) := by decide +kernel
theorem dX11_pointsOf_40 : decode cX11_pointsOf 40 = .ok (.goto (-35), 3) := by decide +kernel
theorem dX11_pointsOf_43 : decode cX11_pointsOf 43 = .ok (.aload_n 0, 1) := by decide +kernel
theorem dX11_pointsOf_44 : decode cX11_pointsOf 44 = .ok (.getfield 7, 3) := by decide +kernel
theorem dX11_pointsOf_47 : decode cX11_pointsOf 47 = .ok (.bipush 66, 2) := by decide +kernel
theorem dX11_pointsOf_49 : decode cX11_pointsOf 49 = .ok (.iload_n 1, 1) := by decide +kernel
theorem dX11_pointsOf_50 : decode cX11_pointsOf 50 = .ok (.iadd, 1) := by decide +kernel
theorem dX11_pointsOf_51 : decode cX11_pointsOf 51 = .ok (.iaload, 1) := by decide +kernel
theorem dX11_pointsOf_52 : decode cX11_pointsOf 52 = .ok (.istore 4, 2) := by decide +kernel
theorem dX11_pointsOf_54 : decode cX11_pointsOf 54 = .ok (.iload 4, 2) := by decide +kernel
theorem dX11_pointsOf_56 : decode cX11_pointsOf 56 = .ok (.iconst 4, 1) := by decide +kernel
theorem dX11_pointsOf_57 : decode cX11_pointsOf 57 = .ok (.if_icmp .ne 22, 3) := by decide +kernel
theorem dX11_pointsOf_60 : decode cX11_pointsOf 60 = .ok (.aload_n 0, 1) := by decide +kernel
theorem dX11_pointsOf_61 : decode cX11_pointsOf 61 = .ok (.aload_n 0, 1) := by decide +kernel
theorem dX11_pointsOf_62 : decode cX11_pointsOf 62 = .ok (.getfield 7, 3) := by decide +kernel
theorem dX11_pointsOf_65 : decode cX11_pointsOf 65 = .ok (.sipush 234, 3) := by decide +kernel
theorem dX11_pointsOf_68 : decode cX11_pointsOf 68 = .ok (.iload_n 1, 1) := by decide +kernel
theorem dX11_pointsOf_69 : decode cX11_pointsOf 69 = .ok (.iadd, 1) := by decide +kernel
theorem dX11_pointsOf_70 : decode cX11_pointsOf 70 = .ok (.iaload, 1) := by decide +kernel
theorem dX11_pointsOf_71 : decode cX11_pointsOf 71 = .ok (.iload_n 2, 1) := by decide +kernel
theorem dX11_pointsOf_72 : decode cX11_pointsOf 72 = .ok (.iload_n 1, 1) := by decide +kernel
theorem dX11_pointsOf_73 : decode cX11_pointsOf 73 = .ok (.invokevirtual 82, 3) := by decide +kernel
theorem dX11_pointsOf_76 : decode cX11_pointsOf 76 = .ok (.goto 37, 3) := by decide +kernel
theorem dX11_pointsOf_79 : decode cX11_pointsOf 79 = .ok (.iload 4, 2) := by decide +kernel
theorem dX11_pointsOf_81 : decode cX11_pointsOf 81 = .ok (.iconst 5, 1) := by decide +kernel
theorem dX11_pointsOf_82 : decode cX11_pointsOf 82 = .ok (.if_icmp .ne 30, 3) := by decide +kernel
theorem dX11_pointsOf_85 : decode cX11_pointsOf 85 = .ok (.aload_n 0, 1) := by decide +kernel
theorem dX11_pointsOf_86 : decode cX11_pointsOf 86 = .ok (.aload_n 0, 1) := by decide +kernel
theorem dX11_pointsOf_87 : decode cX11_pointsOf 87 = .ok (.getfield 7, 3) := by decide +kernel
theorem dX11_pointsOf_90 : decode cX11_pointsOf 90 = .ok (.sipush 234, 3) := by decide +kernel
theorem dX11_pointsOf_93 : decode cX11_pointsOf 93 = .ok (.iload_n 1, 1) := by decide +kernel
theorem dX11_pointsOf_94 : decode cX11_pointsOf 94 = .ok (.iadd, 1) := by decide +kernel
theorem dX11_pointsOf_95 : decode cX11_pointsOf 95 = .ok (.iaload, 1) := by decide +kernel
theorem dX11_pointsOf_96 : decode cX11_pointsOf 96 = .ok (.aload_n 0, 1) := by decide +kernel
theorem dX11_pointsOf_97 : decode cX11_pointsOf 97 = .ok (.getfield 7, 3) := by decide +kernel
theorem dX11_pointsOf_100 : decode cX11_pointsOf 100 = .ok (.bipush 36, 2) := by decide +kernel
theorem dX11_pointsOf_102 : decode cX11_pointsOf 102 = .ok (.iload_n 2, 1) := by decide +kernel
theorem dX11_pointsOf_103 : decode cX11_pointsOf 103 = .ok (.iadd, 1) := by decide +kernel
theorem dX11_pointsOf_104 : decode cX11_pointsOf 104 = .ok (.iaload, 1) := by decide +kernel
theorem dX11_pointsOf_105 : decode cX11_pointsOf 105 = .ok (.iload_n 1, 1) := by decide +kernel
theorem dX11_pointsOf_106 : decode cX11_pointsOf 106 = .ok (.invokevirtual 85, 3) := by decide +kernel
theorem dX11_pointsOf_109 : decode cX11_pointsOf 109 = .ok (.goto 4, 3) := by decide +kernel
theorem dX11_pointsOf_112 : decode cX11_pointsOf 112 = .ok (.iconst 0, 1) := by decide +kernel
theorem dX11_pointsOf_113 : decode cX11_pointsOf 113 = .ok (.istore 5, 2) := by decide +kernel
theorem dX11_pointsOf_115 : decode cX11_pointsOf 115 = .ok (.aload_n 0, 1) := by decide +kernel
theorem dX11_pointsOf_116 : decode cX11_pointsOf 116 = .ok (.getfield 7, 3) := by decide +kernel
theorem dX11_pointsOf_119 : decode cX11_pointsOf 119 = .ok (.iconst 2, 1) := by decide +kernel
theorem dX11_pointsOf_120 : decode cX11_pointsOf 120 = .ok (.iaload, 1) := by decide +kernel
theorem dX11_pointsOf_121 : decode cX11_pointsOf 121 = .ok (.iload_n 3, 1) := by decide +kernel
theorem dX11_pointsOf_122 : decode cX11_pointsOf 122 = .ok (.imul, 1) := by decide +kernel
theorem dX11_pointsOf_123 : decode cX11_pointsOf 123 = .ok (.aload_n 0, 1) := by decide +kernel
theorem dX11_pointsOf_124 : decode cX11_pointsOf 124 = .ok (.getfield 7, 3) := by decide +kernel
theorem dX11_pointsOf_127 : decode cX11_pointsOf 127 = .ok (.iconst 3, 1) := by decide +kernel
theorem dX11_pointsOf_128 : decode cX11_pointsOf 128 = .ok (.iaload, 1) := by decide +kernel
theorem dX11_pointsOf_129 : decode cX11_pointsOf 129 = .ok (.aload_n 0, 1) := by decide +kernel
theorem dX11_pointsOf_130 : decode cX11_pointsOf 130 = .ok (.aload_n 0, 1) := by decide +kernel
theorem dX11_pointsOf_131 : decode cX11_pointsOf 131 = .ok (.getfield 7, 3) := by decide +kernel
theorem dX11_pointsOf_134 : decode cX11_pointsOf 134 = .ok (.sipush 186, 3) := by decide +kernel
theorem dX11_pointsOf_137 : decode cX11_pointsOf 137 = .ok (.iload_n 1, 1) := by decide +kernel
theorem dX11_pointsOf_138 : decode cX11_pointsOf 138 = .ok (.iadd, 1) := by decide +kernel
theorem dX11_pointsOf_139 : decode cX11_pointsOf 139 = .ok (.iaload, 1) := by decide +kernel
theorem dX11_pointsOf_140 : decode cX11_pointsOf 140 = .ok (.iload_n 2, 1) := by decide +kernel
theorem dX11_pointsOf_141 : decode cX11_pointsOf 141 = .ok (.iload_n 1, 1) := by decide +kernel
theorem dX11_pointsOf_142 : decode cX11_pointsOf 142 = .ok (.invokevirtual 82, 3) := by decide +kernel
theorem dX11_pointsOf_145 : decode cX11_pointsOf 145 = .ok (.imul, 1) := by decide +kernel
theorem dX11_pointsOf_146 : decode cX11_pointsOf 146 = .ok (.isub, 1) := by decide +kernel
theorem dX11_pointsOf_147 : decode cX11_pointsOf 147 = .ok (.aload_n 0, 1) := by decide +kernel
theorem dX11_pointsOf_148 : decode cX11_pointsOf 148 = .ok (.getfield 7, 3) := by decide +kernel
theorem dX11_pointsOf_151 : decode cX11_pointsOf 151 = .ok (.iconst 4, 1) := by decide +kernel
theorem dX11_pointsOf_152 : decode cX11_pointsOf 152 = .ok (.iaload, 1) := by decide +kernel
theorem dX11_pointsOf_153 : decode cX11_pointsOf 153 = .ok (.iload 5, 2) := by decide +kernel
theorem dX11_pointsOf_155 : decode cX11_pointsOf 155 = .ok (.imul, 1) := by decide +kernel
theorem dX11_pointsOf_156 : decode cX11_pointsOf 156 = .ok (.iadd, 1) := by decide +kernel
theorem dX11_pointsOf_157 : decode cX11_pointsOf 157 = .ok (.ireturn, 1) := by decide +kernel
theorem dX11_points_0 : decode cX11_points 0 = .ok (.aload_n 0, 1) := by decide +kernel
theorem dX11_points_1 : decode cX11_points 1 = .ok (.iload_n 1, 1) := by decide +kernel
theorem dX11_points_2 : decode cX11_points 2 = .ok (.invokevirtual 91, 3) := by decide +kernel
theorem dX11_points_5 : decode cX11_points 5 = .ok (.ifCond .eq 11, 3) := by decide +kernel
theorem dX11_points_8 : decode cX11_points 8 = .ok (.aload_n 0, 1) := by decide +kernel
theorem dX11_points_9 : decode cX11_points 9 = .ok (.iload_n 2, 1) := by decide +kernel
theorem dX11_points_10 : decode cX11_points 10 = .ok (.invokevirtual 95, 3) := by decide +kernel
theorem dX11_points_13 : decode cX11_points 13 = .ok (.ifCond .ne 8, 3) := by decide +kernel
theorem dX11_points_16 : decode cX11_points 16 = .ok (.ldc 101, 2) := by decide +kernel
theorem dX11_points_18 : decode cX11_points 18 = .ok (.goto 27, 3) := by decide +kernel
theorem dX11_points_21 : decode cX11_points 21 = .ok (.aload_n 0, 1) := by decide +kernel
theorem dX11_points_22 : decode cX11_points 22 = .ok (.getfield 7, 3) := by decide +kernel
theorem dX11_points_25 : decode cX11_points 25 = .ok (.sipush 258, 3) := by decide +kernel
theorem dX11_points_28 : decode cX11_points 28 = .ok (.iload_n 1, 1) := by decide +kernel
theorem dX11_points_29 : decode cX11_points 29 = .ok (.iadd, 1) := by decide +kernel
theorem dX11_points_30 : decode cX11_points 30 = .ok (.iaload, 1) := by decide +kernel
theorem dX11_points_31 : decode cX11_points 31 = .ok (.ifCond .eq 8, 3) := by decide +kernel
theorem dX11_points_34 : decode cX11_points 34 = .ok (.ldc 102, 2) := by decide +kernel
theorem dX11_points_36 : decode cX11_points 36 = .ok (.goto 9, 3) := by decide +kernel
theorem dX11_points_39 : decode cX11_points 39 = .ok (.aload_n 0, 1) := by decide +kernel
theorem dX11_points_40 : decode cX11_points 40 = .ok (.iload_n 1, 1) := by decide +kernel
theorem dX11_points_41 : decode cX11_points 41 = .ok (.iload_n 2, 1) := by decide +kernel
theorem dX11_points_42 : decode cX11_points 42 = .ok (.invokevirtual 103, 3) := by decide +kernel
theorem dX11_points_45 : decode cX11_points 45 = .ok (.ireturn, 1) := by decide +kernel
theorem dX11_left_0 : decode cX11_left 0 = .ok (.aload_n 0, 1) := by decide +kernel
theorem dX11_left_1 : decode cX11_left 1 = .ok (.iload_n 1, 1) := by decide +kernel
theorem dX11_left_2 : decode cX11_left 2 = .ok (.invokevirtual 95, 3) := by decide +kernel
theorem dX11_left_5 : decode cX11_left 5 = .ok (.ifCond .eq 22, 3) := by decide +kernel
theorem dX11_left_8 : decode cX11_left 8 = .ok (.iload_n 2, 1) := by decide +kernel
theorem dX11_left_9 : decode cX11_left 9 = .ok (.iconst 0, 1) := by decide +kernel
theorem dX11_left_10 : decode cX11_left 10 = .ok (.iconst 2, 1) := by decide +kernel
theorem dX11_left_11 : decode cX11_left 11 = .ok (.invokestatic 50, 3) := by decide +kernel
theorem dX11_left_14 : decode cX11_left 14 = .ok (.ifCond .eq 13, 3) := by decide +kernel
theorem dX11_left_17 : decode cX11_left 17 = .ok (.aload_n 0, 1) := by decide +kernel
theorem dX11_left_18 : decode cX11_left 18 = .ok (.iload_n 1, 1) := by decide +kernel
theorem dX11_left_19 : decode cX11_left 19 = .ok (.iload_n 2, 1) := by decide +kernel
theorem dX11_left_20 : decode cX11_left 20 = .ok (.iconst (-1), 1) := by decide +kernel
theorem dX11_left_21 : decode cX11_left 21 = .ok (.invokevirtual 75, 3) := by decide +kernel
theorem dX11_left_24 : decode cX11_left 24 = .ok (.goto 4, 3) := by decide +kernel
theorem dX11_left_27 : decode cX11_left 27 = .ok (.iconst (-1), 1) := by decide +kernel
theorem dX11_left_28 : decode cX11_left 28 = .ok (.ireturn, 1) := by decide +kernel
theorem dX11_told_0 : decode cX11_told 0 = .ok (.aload_n 0, 1) := by decide +kernel
theorem dX11_told_1 : decode cX11_told 1 = .ok (.iload_n 1, 1) := by decide +kernel
theorem dX11_told_2 : decode cX11_told 2 = .ok (.invokevirtual 91, 3) := by decide +kernel
theorem dX11_told_5 : decode cX11_told 5 = .ok (.ifCond .eq 12, 3) := by decide +kernel
theorem dX11_told_8 : decode cX11_told 8 = .ok (.iload_n 2, 1) := by decide +kernel
theorem dX11_told_9 : decode cX11_told 9 = .ok (.iconst 0, 1) := by decide +kernel
theorem dX11_told_10 : decode cX11_told 10 = .ok (.iconst 5, 1) := by decide +kernel
theorem dX11_told_11 : decode cX11_told 11 = .ok (.invokestatic 50, 3) := by decide +kernel
theorem dX11_told_14 : decode cX11_told 14 = .ok (.ifCond .ne 5, 3) := by decide +kernel
theorem dX11_told_17 : decode cX11_told 17 = .ok (.iconst (-1), 1) := by decide +kernel
theorem dX11_told_18 : decode cX11_told 18 = .ok (.ireturn, 1) := by decide +kernel
theorem dX11_told_19 : decode cX11_told 19 = .ok (.aload_n 0, 1) := by decide +kernel
theorem dX11_told_20 : decode cX11_told 20 = .ok (.getfield 7, 3) := by decide +kernel
theorem dX11_told_23 : decode cX11_told 23 = .ok (.sipush 258, 3) := by decide +kernel
theorem dX11_told_26 : decode cX11_told 26 = .ok (.iload_n 1, 1) := by decide +kernel
theorem dX11_told_27 : decode cX11_told 27 = .ok (.iadd, 1) := by decide +kernel
theorem dX11_told_28 : decode cX11_told 28 = .ok (.iaload, 1) := by decide +kernel
