/-! decode rows -/
theorem dL_below_0 : decode cL_below 0 = .ok (.iload_n 0, 1) := by decide +kernel
theorem dL_below_1 : decode cL_below 1 = .ok (.ldc 7, 2) := by decide +kernel
theorem dL_below_3 : decode cL_below 3 = .ok (.iand, 1) := by decide +kernel
theorem dL_below_4 : decode cL_below 4 = .ok (.iload_n 1, 1) := by decide +kernel
theorem dL_below_5 : decode cL_below 5 = .ok (.irem, 1) := by decide +kernel
theorem dL_below_6 : decode cL_below 6 = .ok (.ireturn, 1) := by decide +kernel
theorem dL_cell_0 : decode cL_cell 0 = .ok (.iload_n 1, 1) := by decide +kernel
theorem dL_cell_1 : decode cL_cell 1 = .ok (.aload_n 0, 1) := by decide +kernel
theorem dL_cell_2 : decode cL_cell 2 = .ok (.arraylength, 1) := by decide +kernel
theorem dL_cell_3 : decode cL_cell 3 = .ok (.if_icmp .ge 9, 3) := by decide +kernel
theorem dL_cell_6 : decode cL_cell 6 = .ok (.aload_n 0, 1) := by decide +kernel
theorem dL_cell_7 : decode cL_cell 7 = .ok (.iload_n 1, 1) := by decide +kernel
theorem dL_cell_8 : decode cL_cell 8 = .ok (.iaload, 1) := by decide +kernel
theorem dL_cell_9 : decode cL_cell 9 = .ok (.goto 9, 3) := by decide +kernel
theorem dL_cell_12 : decode cL_cell 12 = .ok (.ldc 8, 2) := by decide +kernel
theorem dL_cell_14 : decode cL_cell 14 = .ok (.iload_n 1, 1) := by decide +kernel
theorem dL_cell_15 : decode cL_cell 15 = .ok (.iconst 3, 1) := by decide +kernel
theorem dL_cell_16 : decode cL_cell 16 = .ok (.iadd, 1) := by decide +kernel
theorem dL_cell_17 : decode cL_cell 17 = .ok (.imul, 1) := by decide +kernel
theorem dL_cell_18 : decode cL_cell 18 = .ok (.ireturn, 1) := by decide +kernel
theorem dL_taught_0 : decode cL_taught 0 = .ok (.iconst 5, 1) := by decide +kernel
theorem dL_taught_1 : decode cL_taught 1 = .ok (.newarray .int, 2) := by decide +kernel
theorem dL_taught_3 : decode cL_taught 3 = .ok (.astore_n 2, 1) := by decide +kernel
theorem dL_taught_4 : decode cL_taught 4 = .ok (.iconst 0, 1) := by decide +kernel
theorem dL_taught_5 : decode cL_taught 5 = .ok (.istore_n 3, 1) := by decide +kernel
theorem dL_taught_6 : decode cL_taught 6 = .ok (.iload_n 3, 1) := by decide +kernel
theorem dL_taught_7 : decode cL_taught 7 = .ok (.aload_n 1, 1) := by decide +kernel
theorem dL_taught_8 : decode cL_taught 8 = .ok (.invokevirtual 9, 3) := by decide +kernel
theorem dL_taught_11 : decode cL_taught 11 = .ok (.if_icmp .ge 108, 3) := by decide +kernel
theorem dL_taught_14 : decode cL_taught 14 = .ok (.iconst 0, 1) := by decide +kernel
theorem dL_taught_15 : decode cL_taught 15 = .ok (.istore 4, 2) := by decide +kernel
theorem dL_taught_17 : decode cL_taught 17 = .ok (.iload 4, 2) := by decide +kernel
theorem dL_taught_19 : decode cL_taught 19 = .ok (.iconst 5, 1) := by decide +kernel
theorem dL_taught_20 : decode cL_taught 20 = .ok (.if_icmp .ge 73, 3) := by decide +kernel
theorem dL_taught_23 : decode cL_taught 23 = .ok (.aload_n 2, 1) := by decide +kernel
theorem dL_taught_24 : decode cL_taught 24 = .ok (.iload 4, 2) := by decide +kernel
theorem dL_taught_26 : decode cL_taught 26 = .ok (.iconst 0, 1) := by decide +kernel
theorem dL_taught_27 : decode cL_taught 27 = .ok (.iastore, 1) := by decide +kernel
theorem dL_taught_28 : decode cL_taught 28 = .ok (.iload_n 3, 1) := by decide +kernel
theorem dL_taught_29 : decode cL_taught 29 = .ok (.iconst 4, 1) := by decide +kernel
theorem dL_taught_30 : decode cL_taught 30 = .ok (.iload 4, 2) := by decide +kernel
theorem dL_taught_32 : decode cL_taught 32 = .ok (.imul, 1) := by decide +kernel
theorem dL_taught_33 : decode cL_taught 33 = .ok (.iadd, 1) := by decide +kernel
theorem dL_taught_34 : decode cL_taught 34 = .ok (.istore 5, 2) := by decide +kernel
theorem dL_taught_36 : decode cL_taught 36 = .ok (.iload 5, 2) := by decide +kernel
theorem dL_taught_38 : decode cL_taught 38 = .ok (.iload_n 3, 1) := by decide +kernel
theorem dL_taught_39 : decode cL_taught 39 = .ok (.iconst 4, 1) := by decide +kernel
theorem dL_taught_40 : decode cL_taught 40 = .ok (.iload 4, 2) := by decide +kernel
theorem dL_taught_42 : decode cL_taught 42 = .ok (.imul, 1) := by decide +kernel
theorem dL_taught_43 : decode cL_taught 43 = .ok (.iadd, 1) := by decide +kernel
theorem dL_taught_44 : decode cL_taught 44 = .ok (.iconst 4, 1) := by decide +kernel
theorem dL_taught_45 : decode cL_taught 45 = .ok (.iadd, 1) := by decide +kernel
theorem dL_taught_46 : decode cL_taught 46 = .ok (.if_icmp .ge 41, 3) := by decide +kernel
theorem dL_taught_49 : decode cL_taught 49 = .ok (.aload_n 2, 1) := by decide +kernel
theorem dL_taught_50 : decode cL_taught 50 = .ok (.iload 4, 2) := by decide +kernel
theorem dL_taught_52 : decode cL_taught 52 = .ok (.aload_n 2, 1) := by decide +kernel
theorem dL_taught_53 : decode cL_taught 53 = .ok (.iload 4, 2) := by decide +kernel
theorem dL_taught_55 : decode cL_taught 55 = .ok (.iaload, 1) := by decide +kernel
theorem dL_taught_56 : decode cL_taught 56 = .ok (.bipush 8, 2) := by decide +kernel
theorem dL_taught_58 : decode cL_taught 58 = .ok (.ishl, 1) := by decide +kernel
theorem dL_taught_59 : decode cL_taught 59 = .ok (.iload 5, 2) := by decide +kernel
theorem dL_taught_61 : decode cL_taught 61 = .ok (.aload_n 1, 1) := by decide +kernel
theorem dL_taught_62 : decode cL_taught 62 = .ok (.invokevirtual 9, 3) := by decide +kernel
theorem dL_taught_65 : decode cL_taught 65 = .ok (.if_icmp .ge 12, 3) := by decide +kernel
theorem dL_taught_68 : decode cL_taught 68 = .ok (.aload_n 1, 1) := by decide +kernel
theorem dL_taught_69 : decode cL_taught 69 = .ok (.iload 5, 2) := by decide +kernel
theorem dL_taught_71 : decode cL_taught 71 = .ok (.invokevirtual 15, 3) := by decide +kernel
theorem dL_taught_74 : decode cL_taught 74 = .ok (.goto 5, 3) := by decide +kernel
theorem dL_taught_77 : decode cL_taught 77 = .ok (.bipush 32, 2) := by decide +kernel
theorem dL_taught_79 : decode cL_taught 79 = .ok (.ior, 1) := by decide +kernel
theorem dL_taught_80 : decode cL_taught 80 = .ok (.iastore, 1) := by decide +kernel
theorem dL_taught_81 : decode cL_taught 81 = .ok (.iinc 5 1, 3) := by decide +kernel
theorem dL_taught_84 : decode cL_taught 84 = .ok (.goto (-48), 3) := by decide +kernel
theorem dL_taught_87 : decode cL_taught 87 = .ok (.iinc 4 1, 3) := by decide +kernel
theorem dL_taught_90 : decode cL_taught 90 = .ok (.goto (-73), 3) := by decide +kernel
theorem dL_taught_93 : decode cL_taught 93 = .ok (.aload_n 0, 1) := by decide +kernel
theorem dL_taught_94 : decode cL_taught 94 = .ok (.aload_n 2, 1) := by decide +kernel
theorem dL_taught_95 : decode cL_taught 95 = .ok (.iconst 0, 1) := by decide +kernel
theorem dL_taught_96 : decode cL_taught 96 = .ok (.iaload, 1) := by decide +kernel
theorem dL_taught_97 : decode cL_taught 97 = .ok (.aload_n 2, 1) := by decide +kernel
theorem dL_taught_98 : decode cL_taught 98 = .ok (.iconst 1, 1) := by decide +kernel
theorem dL_taught_99 : decode cL_taught 99 = .ok (.iaload, 1) := by decide +kernel
theorem dL_taught_100 : decode cL_taught 100 = .ok (.aload_n 2, 1) := by decide +kernel
theorem dL_taught_101 : decode cL_taught 101 = .ok (.iconst 2, 1) := by decide +kernel
theorem dL_taught_102 : decode cL_taught 102 = .ok (.iaload, 1) := by decide +kernel
theorem dL_taught_103 : decode cL_taught 103 = .ok (.aload_n 2, 1) := by decide +kernel
theorem dL_taught_104 : decode cL_taught 104 = .ok (.iconst 3, 1) := by decide +kernel
theorem dL_taught_105 : decode cL_taught 105 = .ok (.iaload, 1) := by decide +kernel
theorem dL_taught_106 : decode cL_taught 106 = .ok (.aload_n 2, 1) := by decide +kernel
theorem dL_taught_107 : decode cL_taught 107 = .ok (.iconst 4, 1) := by decide +kernel
theorem dL_taught_108 : decode cL_taught 108 = .ok (.iaload, 1) := by decide +kernel
theorem dL_taught_109 : decode cL_taught 109 = .ok (.invokevirtual 19, 3) := by decide +kernel
theorem dL_taught_112 : decode cL_taught 112 = .ok (.pop, 1) := by decide +kernel
theorem dL_taught_113 : decode cL_taught 113 = .ok (.iinc 3 20, 3) := by decide +kernel
theorem dL_taught_116 : decode cL_taught 116 = .ok (.goto (-110), 3) := by decide +kernel
theorem dL_taught_119 : decode cL_taught 119 = .ok (.aload_n 0, 1) := by decide +kernel
theorem dL_taught_120 : decode cL_taught 120 = .ok (.aload_n 1, 1) := by decide +kernel
theorem dL_taught_121 : decode cL_taught 121 = .ok (.invokevirtual 9, 3) := by decide +kernel
theorem dL_taught_124 : decode cL_taught 124 = .ok (.invokevirtual 25, 3) := by decide +kernel
theorem dL_taught_127 : decode cL_taught 127 = .ok (.pop, 1) := by decide +kernel
theorem dL_taught_128 : decode cL_taught 128 = .ok (.aload_n 0, 1) := by decide +kernel
theorem dL_taught_129 : decode cL_taught 129 = .ok (.invokevirtual 29, 3) := by decide +kernel
theorem dL_taught_132 : decode cL_taught 132 = .ok (.ireturn, 1) := by decide +kernel
theorem dL_sum_0 : decode cL_sum 0 = .ok (.new 32, 3) := by decide +kernel
theorem dL_sum_3 : decode cL_sum 3 = .ok (.dup, 1) := by decide +kernel
theorem dL_sum_4 : decode cL_sum 4 = .ok (.invokespecial 34, 3) := by decide +kernel
theorem dL_sum_7 : decode cL_sum 7 = .ok (.astore_n 2, 1) := by decide +kernel
theorem dL_sum_8 : decode cL_sum 8 = .ok (.iload_n 0, 1) := by decide +kernel
theorem dL_sum_9 : decode cL_sum 9 = .ok (.bipush 19, 2) := by decide +kernel
theorem dL_sum_11 : decode cL_sum 11 = .ok (.invokestatic 35, 3) := by decide +kernel
theorem dL_sum_14 : decode cL_sum 14 = .ok (.istore_n 3, 1) := by decide +kernel
theorem dL_sum_15 : decode cL_sum 15 = .ok (.aload_n 2, 1) := by decide +kernel
theorem dL_sum_16 : decode cL_sum 16 = .ok (.iload_n 3, 1) := by decide +kernel
theorem dL_sum_17 : decode cL_sum 17 = .ok (.iconst 3, 1) := by decide +kernel
theorem dL_sum_18 : decode cL_sum 18 = .ok (.if_icmp .lt 14, 3) := by decide +kernel
theorem dL_sum_21 : decode cL_sum 21 = .ok (.iload_n 1, 1) := by decide +kernel
theorem dL_sum_22 : decode cL_sum 22 = .ok (.iconst 1, 1) := by decide +kernel
theorem dL_sum_23 : decode cL_sum 23 = .ok (.if_icmp .le 13, 3) := by decide +kernel
theorem dL_sum_26 : decode cL_sum 26 = .ok (.iload_n 3, 1) := by decide +kernel
theorem dL_sum_27 : decode cL_sum 27 = .ok (.bipush 11, 2) := by decide +kernel
theorem dL_sum_29 : decode cL_sum 29 = .ok (.if_icmp .le 7, 3) := by decide +kernel
theorem dL_sum_32 : decode cL_sum 32 = .ok (.iconst 0, 1) := by decide +kernel
theorem dL_sum_33 : decode cL_sum 33 = .ok (.goto 34, 3) := by decide +kernel
theorem dL_sum_36 : decode cL_sum 36 = .ok (.iload_n 3, 1) := by decide +kernel
theorem dL_sum_37 : decode cL_sum 37 = .ok (.iconst 4, 1) := by decide +kernel
theorem dL_sum_38 : decode cL_sum 38 = .ok (.if_icmp .ge 7, 3) := by decide +kernel
theorem dL_sum_41 : decode cL_sum 41 = .ok (.iconst 1, 1) := by decide +kernel
theorem dL_sum_42 : decode cL_sum 42 = .ok (.goto 25, 3) := by decide +kernel
theorem dL_sum_45 : decode cL_sum 45 = .ok (.iload_n 3, 1) := by decide +kernel
theorem dL_sum_46 : decode cL_sum 46 = .ok (.bipush 12, 2) := by decide +kernel
theorem dL_sum_48 : decode cL_sum 48 = .ok (.if_icmp .ge 12, 3) := by decide +kernel
theorem dL_sum_51 : decode cL_sum 51 = .ok (.iconst 2, 1) := by decide +kernel
theorem dL_sum_52 : decode cL_sum 52 = .ok (.iload_n 3, 1) := by decide +kernel
theorem dL_sum_53 : decode cL_sum 53 = .ok (.bipush 6, 2) := by decide +kernel
theorem dL_sum_55 : decode cL_sum 55 = .ok (.irem, 1) := by decide +kernel
theorem dL_sum_56 : decode cL_sum 56 = .ok (.iadd, 1) := by decide +kernel
theorem dL_sum_57 : decode cL_sum 57 = .ok (.goto 10, 3) := by decide +kernel
theorem dL_sum_60 : decode cL_sum 60 = .ok (.bipush 8, 2) := by decide +kernel
theorem dL_sum_62 : decode cL_sum 62 = .ok (.iload_n 3, 1) := by decide +kernel
theorem dL_sum_63 : decode cL_sum 63 = .ok (.bipush 7, 2) := by decide +kernel
theorem dL_sum_65 : decode cL_sum 65 = .ok (.irem, 1) := by decide +kernel
theorem dL_sum_66 : decode cL_sum 66 = .ok (.iadd, 1) := by decide +kernel
theorem dL_sum_67 : decode cL_sum 67 = .ok (.putfield 41, 3) := by decide +kernel
theorem dL_sum_70 : decode cL_sum 70 = .ok (.aload_n 2, 1) := by decide +kernel
theorem dL_sum_71 : decode cL_sum 71 = .ok (.aload_n 2, 1) := by decide +kernel
theorem dL_sum_72 : decode cL_sum 72 = .ok (.getfield 41, 3) := by decide +kernel
theorem dL_sum_75 : decode cL_sum 75 = .ok (.ifCond .ne 30, 3) := by decide +kernel
theorem dL_sum_78 : decode cL_sum 78 = .ok (.iload_n 0, 1) := by decide +kernel
theorem dL_sum_79 : decode cL_sum 79 = .ok (.iconst 3, 1) := by decide +kernel
theorem dL_sum_80 : decode cL_sum 80 = .ok (.ishr, 1) := by decide +kernel
theorem dL_sum_81 : decode cL_sum 81 = .ok (.iload_n 0, 1) := by decide +kernel
theorem dL_sum_82 : decode cL_sum 82 = .ok (.bipush 7, 2) := by decide +kernel
theorem dL_sum_84 : decode cL_sum 84 = .ok (.ishr, 1) := by decide +kernel
theorem dL_sum_85 : decode cL_sum 85 = .ok (.iconst 5, 1) := by decide +kernel
theorem dL_sum_86 : decode cL_sum 86 = .ok (.invokestatic 35, 3) := by decide +kernel
theorem dL_sum_89 : decode cL_sum 89 = .ok (.ifCond .ne 8, 3) := by decide +kernel
theorem dL_sum_92 : decode cL_sum 92 = .ok (.ldc 45, 2) := by decide +kernel
theorem dL_sum_94 : decode cL_sum 94 = .ok (.goto 5, 3) := by decide +kernel
theorem dL_sum_97 : decode cL_sum 97 = .ok (.bipush 9, 2) := by decide +kernel
theorem dL_sum_99 : decode cL_sum 99 = .ok (.invokestatic 35, 3) := by decide +kernel
theorem dL_sum_102 : decode cL_sum 102 = .ok (.goto 10, 3) := by decide +kernel
theorem dL_sum_105 : decode cL_sum 105 = .ok (.iload_n 0, 1) := by decide +kernel
theorem dL_sum_106 : decode cL_sum 106 = .ok (.iconst 4, 1) := by decide +kernel
theorem dL_sum_107 : decode cL_sum 107 = .ok (.ishr, 1) := by decide +kernel
theorem dL_sum_108 : decode cL_sum 108 = .ok (.iconst 2, 1) := by decide +kernel
theorem dL_sum_109 : decode cL_sum 109 = .ok (.invokestatic 35, 3) := by decide +kernel
theorem dL_sum_112 : decode cL_sum 112 = .ok (.putfield 46, 3) := by decide +kernel
theorem dL_sum_115 : decode cL_sum 115 = .ok (.aload_n 2, 1) := by decide +kernel
theorem dL_sum_116 : decode cL_sum 116 = .ok (.getfield 41, 3) := by decide +kernel
theorem dL_sum_119 : decode cL_sum 119 = .ok (.bipush 8, 2) := by decide +kernel
theorem dL_sum_121 : decode cL_sum 121 = .ok (.if_icmp .lt 18, 3) := by decide +kernel
theorem dL_sum_124 : decode cL_sum 124 = .ok (.aload_n 2, 1) := by decide +kernel
theorem dL_sum_125 : decode cL_sum 125 = .ok (.iload_n 0, 1) := by decide +kernel
theorem dL_sum_126 : decode cL_sum 126 = .ok (.iconst 3, 1) := by decide +kernel
theorem dL_sum_127 : decode cL_sum 127 = .ok (.imul, 1) := by decide +kernel
theorem dL_sum_128 : decode cL_sum 128 = .ok (.iconst 1, 1) := by decide +kernel
theorem dL_sum_129 : decode cL_sum 129 = .ok (.iadd, 1) := by decide +kernel
theorem dL_sum_130 : decode cL_sum 130 = .ok (.iload_n 1, 1) := by decide +kernel
theorem dL_sum_131 : decode cL_sum 131 = .ok (.iconst 1, 1) := by decide +kernel
theorem dL_sum_132 : decode cL_sum 132 = .ok (.iadd, 1) := by decide +kernel
theorem dL_sum_133 : decode cL_sum 133 = .ok (.invokestatic 49, 3) := by decide +kernel
theorem dL_sum_136 : decode cL_sum 136 = .ok (.putfield 53, 3) := by decide +kernel
theorem dL_sum_139 : decode cL_sum 139 = .ok (.aload_n 2, 1) := by decide +kernel
theorem dL_sum_140 : decode cL_sum 140 = .ok (.getfield 41, 3) := by decide +kernel
theorem dL_sum_143 : decode cL_sum 143 = .ok (.bipush 9, 2) := by decide +kernel
theorem dL_sum_145 : decode cL_sum 145 = .ok (.if_icmp .lt 18, 3) := by decide +kernel
theorem dL_sum_148 : decode cL_sum 148 = .ok (.aload_n 2, 1) := by decide +kernel
theorem dL_sum_149 : decode cL_sum 149 = .ok (.iload_n 0, 1) := by decide +kernel
theorem dL_sum_150 : decode cL_sum 150 = .ok (.iconst 5, 1) := by decide +kernel
theorem dL_sum_151 : decode cL_sum 151 = .ok (.imul, 1) := by decide +kernel
theorem dL_sum_152 : decode cL_sum 152 = .ok (.iconst 2, 1) := by decide +kernel
theorem dL_sum_153 : decode cL_sum 153 = .ok (.iadd, 1) := by decide +kernel
theorem dL_sum_154 : decode cL_sum 154 = .ok (.iload_n 1, 1) := by decide +kernel
theorem dL_sum_155 : decode cL_sum 155 = .ok (.iconst 1, 1) := by decide +kernel
theorem dL_sum_156 : decode cL_sum 156 = .ok (.iadd, 1) := by decide +kernel
theorem dL_sum_157 : decode cL_sum 157 = .ok (.invokestatic 49, 3) := by decide +kernel
theorem dL_sum_160 : decode cL_sum 160 = .ok (.putfield 57, 3) := by decide +kernel
theorem dL_sum_163 : decode cL_sum 163 = .ok (.aload_n 2, 1) := by decide +kernel
theorem dL_sum_164 : decode cL_sum 164 = .ok (.areturn, 1) := by decide +kernel
theorem dL_test_0 : decode cL_test 0 = .ok (.new 32, 3) := by decide +kernel
theorem dL_test_3 : decode cL_test 3 = .ok (.dup, 1) := by decide +kernel
theorem dL_test_4 : decode cL_test 4 = .ok (.invokespecial 34, 3) := by decide +kernel
theorem dL_test_7 : decode cL_test 7 = .ok (.astore_n 2, 1) := by decide +kernel
theorem dL_test_8 : decode cL_test 8 = .ok (.iload_n 0, 1) := by decide +kernel
theorem dL_test_9 : decode cL_test 9 = .ok (.iconst 1, 1) := by decide +kernel
theorem dL_test_10 : decode cL_test 10 = .ok (.ishr, 1) := by decide +kernel
theorem dL_test_11 : decode cL_test 11 = .ok (.bipush 13, 2) := by decide +kernel
theorem dL_test_13 : decode cL_test 13 = .ok (.invokestatic 35, 3) := by decide +kernel
theorem dL_test_16 : decode cL_test 16 = .ok (.istore_n 3, 1) := by decide +kernel
theorem dL_test_17 : decode cL_test 17 = .ok (.aload_n 2, 1) := by decide +kernel
theorem dL_test_18 : decode cL_test 18 = .ok (.iload_n 3, 1) := by decide +kernel
theorem dL_test_19 : decode cL_test 19 = .ok (.bipush 8, 2) := by decide +kernel
theorem dL_test_21 : decode cL_test 21 = .ok (.if_icmp .lt 14, 3) := by decide +kernel
theorem dL_test_24 : decode cL_test 24 = .ok (.iload_n 1, 1) := by decide +kernel
theorem dL_test_25 : decode cL_test 25 = .ok (.iconst 1, 1) := by decide +kernel
theorem dL_test_26 : decode cL_test 26 = .ok (.if_icmp .le 18, 3) := by decide +kernel
theorem dL_test_29 : decode cL_test 29 = .ok (.iload_n 3, 1) := by decide +kernel
theorem dL_test_30 : decode cL_test 30 = .ok (.bipush 8, 2) := by decide +kernel
theorem dL_test_32 : decode cL_test 32 = .ok (.if_icmp .le 12, 3) := by decide +kernel
theorem dL_test_35 : decode cL_test 35 = .ok (.bipush 20, 2) := by decide +kernel
theorem dL_test_37 : decode cL_test 37 = .ok (.iload_n 3, 1) := by decide +kernel
theorem dL_test_38 : decode cL_test 38 = .ok (.iconst 5, 1) := by decide +kernel
theorem dL_test_39 : decode cL_test 39 = .ok (.irem, 1) := by decide +kernel
theorem dL_test_40 : decode cL_test 40 = .ok (.iadd, 1) := by decide +kernel
theorem dL_test_41 : decode cL_test 41 = .ok (.goto 20, 3) := by decide +kernel
theorem dL_test_44 : decode cL_test 44 = .ok (.iload_n 3, 1) := by decide +kernel
theorem dL_test_45 : decode cL_test 45 = .ok (.bipush 9, 2) := by decide +kernel
theorem dL_test_47 : decode cL_test 47 = .ok (.if_icmp .ge 8, 3) := by decide +kernel
theorem dL_test_50 : decode cL_test 50 = .ok (.bipush 25, 2) := by decide +kernel
theorem dL_test_52 : decode cL_test 52 = .ok (.goto 9, 3) := by decide +kernel
theorem dL_test_55 : decode cL_test 55 = .ok (.bipush 26, 2) := by decide +kernel
theorem dL_test_57 : decode cL_test 57 = .ok (.iload_n 3, 1) := by decide +kernel
theorem dL_test_58 : decode cL_test 58 = .ok (.iconst 3, 1) := by decide +kernel
theorem dL_test_59 : decode cL_test 59 = .ok (.irem, 1) := by decide +kernel
theorem dL_test_60 : decode cL_test 60 = .ok (.iadd, 1) := by decide +kernel
theorem dL_test_61 : decode cL_test 61 = .ok (.putfield 41, 3) := by decide +kernel
theorem dL_test_64 : decode cL_test 64 = .ok (.aload_n 2, 1) := by decide +kernel
theorem dL_test_65 : decode cL_test 65 = .ok (.getfield 41, 3) := by decide +kernel
theorem dL_test_68 : decode cL_test 68 = .ok (.bipush 25, 2) := by decide +kernel
theorem dL_test_70 : decode cL_test 70 = .ok (.if_icmp .ge 37, 3) := by decide +kernel
theorem dL_test_73 : decode cL_test 73 = .ok (.aload_n 2, 1) := by decide +kernel
theorem dL_test_74 : decode cL_test 74 = .ok (.iload_n 0, 1) := by decide +kernel
theorem dL_test_75 : decode cL_test 75 = .ok (.iconst 3, 1) := by decide +kernel
theorem dL_test_76 : decode cL_test 76 = .ok (.imul, 1) := by decide +kernel
theorem dL_test_77 : decode cL_test 77 = .ok (.bipush 7, 2) := by decide +kernel
theorem dL_test_79 : decode cL_test 79 = .ok (.iadd, 1) := by decide +kernel
theorem dL_test_80 : decode cL_test 80 = .ok (.iload_n 1, 1) := by decide +kernel
theorem dL_test_81 : decode cL_test 81 = .ok (.iconst 1, 1) := by decide +kernel
theorem dL_test_82 : decode cL_test 82 = .ok (.iadd, 1) := by decide +kernel
theorem dL_test_83 : decode cL_test 83 = .ok (.invokestatic 49, 3) := by decide +kernel
theorem dL_test_86 : decode cL_test 86 = .ok (.putfield 53, 3) := by decide +kernel
theorem dL_test_89 : decode cL_test 89 = .ok (.aload_n 2, 1) := by decide +kernel
theorem dL_test_90 : decode cL_test 90 = .ok (.iload_n 0, 1) := by decide +kernel
theorem dL_test_91 : decode cL_test 91 = .ok (.iconst 5, 1) := by decide +kernel
theorem dL_test_92 : decode cL_test 92 = .ok (.imul, 1) := by decide +kernel
theorem dL_test_93 : decode cL_test 93 = .ok (.iconst 1, 1) := by decide +kernel
theorem dL_test_94 : decode cL_test 94 = .ok (.iadd, 1) := by decide +kernel
theorem dL_test_95 : decode cL_test 95 = .ok (.iload_n 1, 1) := by decide +kernel
theorem dL_test_96 : decode cL_test 96 = .ok (.iconst 1, 1) := by decide +kernel
theorem dL_test_97 : decode cL_test 97 = .ok (.iadd, 1) := by decide +kernel
theorem dL_test_98 : decode cL_test 98 = .ok (.invokestatic 49, 3) := by decide +kernel
theorem dL_test_101 : decode cL_test 101 = .ok (.putfield 57, 3) := by decide +kernel
theorem dL_test_104 : decode cL_test 104 = .ok (.goto 52, 3) := by decide +kernel
theorem dL_test_107 : decode cL_test 107 = .ok (.aload_n 2, 1) := by decide +kernel
theorem dL_test_108 : decode cL_test 108 = .ok (.getfield 41, 3) := by decide +kernel
theorem dL_test_111 : decode cL_test 111 = .ok (.bipush 25, 2) := by decide +kernel
theorem dL_test_113 : decode cL_test 113 = .ok (.if_icmp .le 43, 3) := by decide +kernel
theorem dL_test_116 : decode cL_test 116 = .ok (.aload_n 2, 1) := by decide +kernel
theorem dL_test_117 : decode cL_test 117 = .ok (.iload_n 0, 1) := by decide +kernel
theorem dL_test_118 : decode cL_test 118 = .ok (.iconst 3, 1) := by decide +kernel
theorem dL_test_119 : decode cL_test 119 = .ok (.imul, 1) := by decide +kernel
theorem dL_test_120 : decode cL_test 120 = .ok (.iconst 5, 1) := by decide +kernel
theorem dL_test_121 : decode cL_test 121 = .ok (.iadd, 1) := by decide +kernel
theorem dL_test_122 : decode cL_test 122 = .ok (.iload_n 1, 1) := by decide +kernel
theorem dL_test_123 : decode cL_test 123 = .ok (.iconst 1, 1) := by decide +kernel
theorem dL_test_124 : decode cL_test 124 = .ok (.iadd, 1) := by decide +kernel
theorem dL_test_125 : decode cL_test 125 = .ok (.invokestatic 60, 3) := by decide +kernel
theorem dL_test_128 : decode cL_test 128 = .ok (.putfield 53, 3) := by decide +kernel
theorem dL_test_131 : decode cL_test 131 = .ok (.aload_n 2, 1) := by decide +kernel
theorem dL_test_132 : decode cL_test 132 = .ok (.getfield 41, 3) := by decide +kernel
theorem dL_test_135 : decode cL_test 135 = .ok (.bipush 26, 2) := by decide +kernel
theorem dL_test_137 : decode cL_test 137 = .ok (.if_icmp .le 19, 3) := by decide +kernel
theorem dL_test_140 : decode cL_test 140 = .ok (.aload_n 2, 1) := by decide +kernel
theorem dL_test_141 : decode cL_test 141 = .ok (.iload_n 0, 1) := by decide +kernel
theorem dL_test_142 : decode cL_test 142 = .ok (.bipush 7, 2) := by decide +kernel
theorem dL_test_144 : decode cL_test 144 = .ok (.imul, 1) := by decide +kernel
theorem dL_test_145 : decode cL_test 145 = .ok (.iconst 3, 1) := by decide +kernel
theorem dL_test_146 : decode cL_test 146 = .ok (.iadd, 1) := by decide +kernel
theorem dL_test_147 : decode cL_test 147 = .ok (.iload_n 1, 1) := by decide +kernel
theorem dL_test_148 : decode cL_test 148 = .ok (.iconst 1, 1) := by decide +kernel
theorem dL_test_149 : decode cL_test 149 = .ok (.iadd, 1) := by decide +kernel
theorem dL_test_150 : decode cL_test 150 = .ok (.invokestatic 60, 3) := by decide +kernel
theorem dL_test_153 : decode cL_test 153 = .ok (.putfield 57, 3) := by decide +kernel
theorem dL_test_156 : decode cL_test 156 = .ok (.aload_n 2, 1) := by decide +kernel
theorem dL_test_157 : decode cL_test 157 = .ok (.areturn, 1) := by decide +kernel
theorem dL_told_0 : decode cL_told 0 = .ok (.new 63, 3) := by decide +kernel
theorem dL_told_3 : decode cL_told 3 = .ok (.dup, 1) := by decide +kernel
theorem dL_told_4 : decode cL_told 4 = .ok (.invokespecial 65, 3) := by decide +kernel
theorem dL_told_7 : decode cL_told 7 = .ok (.astore_n 3, 1) := by decide +kernel
theorem dL_told_8 : decode cL_told 8 = .ok (.aload_n 3, 1) := by decide +kernel
theorem dL_told_9 : decode cL_told 9 = .ok (.iconst 2, 1) := by decide +kernel
theorem dL_told_10 : decode cL_told 10 = .ok (.aload_n 0, 1) := by decide +kernel
theorem dL_told_11 : decode cL_told 11 = .ok (.iconst 0, 1) := by decide +kernel
theorem dL_told_12 : decode cL_told 12 = .ok (.invokestatic 66, 3) := by decide +kernel
theorem dL_told_15 : decode cL_told 15 = .ok (.iload_n 1, 1) := by decide +kernel
theorem dL_told_16 : decode cL_told 16 = .ok (.iconst 1, 1) := by decide +kernel
theorem dL_told_17 : decode cL_told 17 = .ok (.isub, 1) := by decide +kernel
theorem dL_told_18 : decode cL_told 18 = .ok (.invokestatic 35, 3) := by decide +kernel
theorem dL_told_21 : decode cL_told 21 = .ok (.iadd, 1) := by decide +kernel
theorem dL_told_22 : decode cL_told 22 = .ok (.putfield 70, 3) := by decide +kernel
theorem dL_told_25 : decode cL_told 25 = .ok (.aload_n 0, 1) := by decide +kernel
theorem dL_told_26 : decode cL_told 26 = .ok (.iconst 1, 1) := by decide +kernel
theorem dL_told_27 : decode cL_told 27 = .ok (.invokestatic 66, 3) := by decide +kernel
theorem dL_told_30 : decode cL_told 30 = .ok (.iconst 3, 1) := by decide +kernel
theorem dL_told_31 : decode cL_told 31 = .ok (.invokestatic 35, 3) := by decide +kernel
theorem dL_told_34 : decode cL_told 34 = .ok (.ifCond .ne 71, 3) := by decide +kernel
theorem dL_told_37 : decode cL_told 37 = .ok (.aload_n 2, 1) := by decide +kernel
theorem dL_told_38 : decode cL_told 38 = .ok (.ldc 73, 2) := by decide +kernel
theorem dL_told_40 : decode cL_told 40 = .ok (.invokevirtual 75, 3) := by decide +kernel
theorem dL_told_43 : decode cL_told 43 = .ok (.pop, 1) := by decide +kernel
theorem dL_told_44 : decode cL_told 44 = .ok (.iconst 0, 1) := by decide +kernel
theorem dL_told_45 : decode cL_told 45 = .ok (.istore 4, 2) := by decide +kernel
theorem dL_told_47 : decode cL_told 47 = .ok (.iload 4, 2) := by decide +kernel
theorem dL_told_49 : decode cL_told 49 = .ok (.iconst 3, 1) := by decide +kernel
theorem dL_told_50 : decode cL_told 50 = .ok (.if_icmp .ge 48, 3) := by decide +kernel
theorem dL_told_53 : decode cL_told 53 = .ok (.aload_n 3, 1) := by decide +kernel
theorem dL_told_54 : decode cL_told 54 = .ok (.getfield 81, 3) := by decide +kernel
theorem dL_told_57 : decode cL_told 57 = .ok (.iload 4, 2) := by decide +kernel
theorem dL_told_59 : decode cL_told 59 = .ok (.aload_n 0, 1) := by decide +kernel
theorem dL_told_60 : decode cL_told 60 = .ok (.iconst 2, 1) := by decide +kernel
theorem dL_told_61 : decode cL_told 61 = .ok (.invokestatic 66, 3) := by decide +kernel
theorem dL_told_64 : decode cL_told 64 = .ok (.iconst 3, 1) := by decide +kernel
theorem dL_told_65 : decode cL_told 65 = .ok (.iload 4, 2) := by decide +kernel
theorem dL_told_67 : decode cL_told 67 = .ok (.imul, 1) := by decide +kernel
theorem dL_told_68 : decode cL_told 68 = .ok (.ishr, 1) := by decide +kernel
theorem dL_told_69 : decode cL_told 69 = .ok (.bipush 10, 2) := by decide +kernel
theorem dL_told_71 : decode cL_told 71 = .ok (.invokestatic 35, 3) := by decide +kernel
theorem dL_told_74 : decode cL_told 74 = .ok (.iastore, 1) := by decide +kernel
theorem dL_told_75 : decode cL_told 75 = .ok (.aload_n 2, 1) := by decide +kernel
theorem dL_told_76 : decode cL_told 76 = .ok (.ldc 85, 2) := by decide +kernel
theorem dL_told_78 : decode cL_told 78 = .ok (.invokevirtual 75, 3) := by decide +kernel
theorem dL_told_81 : decode cL_told 81 = .ok (.aload_n 3, 1) := by decide +kernel
theorem dL_told_82 : decode cL_told 82 = .ok (.getfield 81, 3) := by decide +kernel
theorem dL_told_85 : decode cL_told 85 = .ok (.iload 4, 2) := by decide +kernel
theorem dL_told_87 : decode cL_told 87 = .ok (.iaload, 1) := by decide +kernel
theorem dL_told_88 : decode cL_told 88 = .ok (.invokevirtual 87, 3) := by decide +kernel
theorem dL_told_91 : decode cL_told 91 = .ok (.pop, 1) := by decide +kernel
theorem dL_told_92 : decode cL_told 92 = .ok (.iinc 4 1, 3) := by decide +kernel
theorem dL_told_95 : decode cL_told 95 = .ok (.goto (-48), 3) := by decide +kernel
theorem dL_told_98 : decode cL_told 98 = .ok (.aload_n 2, 1) := by decide +kernel
theorem dL_told_99 : decode cL_told 99 = .ok (.ldc 90, 2) := by decide +kernel
theorem dL_told_101 : decode cL_told 101 = .ok (.invokevirtual 75, 3) := by decide +kernel
theorem dL_told_104 : decode cL_told 104 = .ok (.pop, 1) := by decide +kernel
theorem dL_told_105 : decode cL_told 105 = .ok (.iconst 0, 1) := by decide +kernel
theorem dL_told_106 : decode cL_told 106 = .ok (.istore 4, 2) := by decide +kernel
theorem dL_told_108 : decode cL_told 108 = .ok (.iload 4, 2) := by decide +kernel
theorem dL_told_110 : decode cL_told 110 = .ok (.aload_n 3, 1) := by decide +kernel
theorem dL_told_111 : decode cL_told 111 = .ok (.getfield 70, 3) := by decide +kernel
theorem dL_told_114 : decode cL_told 114 = .ok (.if_icmp .ge 82, 3) := by decide +kernel
theorem dL_told_117 : decode cL_told 117 = .ok (.aload_n 3, 1) := by decide +kernel
theorem dL_told_118 : decode cL_told 118 = .ok (.getfield 92, 3) := by decide +kernel
theorem dL_told_121 : decode cL_told 121 = .ok (.iload 4, 2) := by decide +kernel
theorem dL_told_123 : decode cL_told 123 = .ok (.iconst 1, 1) := by decide +kernel
theorem dL_told_124 : decode cL_told 124 = .ok (.aload_n 0, 1) := by decide +kernel
theorem dL_told_125 : decode cL_told 125 = .ok (.iconst 3, 1) := by decide +kernel
theorem dL_told_126 : decode cL_told 126 = .ok (.iload 4, 2) := by decide +kernel
theorem dL_told_128 : decode cL_told 128 = .ok (.iadd, 1) := by decide +kernel
theorem dL_told_129 : decode cL_told 129 = .ok (.invokestatic 66, 3) := by decide +kernel
theorem dL_told_132 : decode cL_told 132 = .ok (.iconst 2, 1) := by decide +kernel
theorem dL_told_133 : decode cL_told 133 = .ok (.ishr, 1) := by decide +kernel
theorem dL_told_134 : decode cL_told 134 = .ok (.aload_n 0, 1) := by decide +kernel
theorem dL_told_135 : decode cL_told 135 = .ok (.iconst 1, 1) := by decide +kernel
theorem dL_told_136 : decode cL_told 136 = .ok (.invokestatic 66, 3) := by decide +kernel
theorem dL_told_139 : decode cL_told 139 = .ok (.iconst 2, 1) := by decide +kernel
theorem dL_told_140 : decode cL_told 140 = .ok (.invokestatic 35, 3) := by decide +kernel
theorem dL_told_143 : decode cL_told 143 = .ok (.ifCond .ne 9, 3) := by decide +kernel
theorem dL_told_146 : decode cL_told 146 = .ok (.sipush 999, 3) := by decide +kernel
theorem dL_told_149 : decode cL_told 149 = .ok (.goto 4, 3) := by decide +kernel
theorem dL_told_152 : decode cL_told 152 = .ok (.iconst 4, 1) := by decide +kernel
theorem dL_told_153 : decode cL_told 153 = .ok (.invokestatic 35, 3) := by decide +kernel
theorem dL_told_156 : decode cL_told 156 = .ok (.iadd, 1) := by decide +kernel
theorem dL_told_157 : decode cL_told 157 = .ok (.iastore, 1) := by decide +kernel
theorem dL_told_158 : decode cL_told 158 = .ok (.aload_n 2, 1) := by decide +kernel
theorem dL_told_159 : decode cL_told 159 = .ok (.ldc 95, 2) := by decide +kernel
theorem dL_told_161 : decode cL_told 161 = .ok (.invokevirtual 75, 3) := by decide +kernel
theorem dL_told_164 : decode cL_told 164 = .ok (.iload 4, 2) := by decide +kernel
theorem dL_told_166 : decode cL_told 166 = .ok (.invokevirtual 87, 3) := by decide +kernel
theorem dL_told_169 : decode cL_told 169 = .ok (.ldc 97, 2) := by decide +kernel
theorem dL_told_171 : decode cL_told 171 = .ok (.invokevirtual 75, 3) := by decide +kernel
theorem dL_told_174 : decode cL_told 174 = .ok (.aload_n 3, 1) := by decide +kernel
theorem dL_told_175 : decode cL_told 175 = .ok (.getfield 92, 3) := by decide +kernel
theorem dL_told_178 : decode cL_told 178 = .ok (.iload 4, 2) := by decide +kernel
theorem dL_told_180 : decode cL_told 180 = .ok (.iaload, 1) := by decide +kernel
theorem dL_told_181 : decode cL_told 181 = .ok (.invokevirtual 87, 3) := by decide +kernel
theorem dL_told_184 : decode cL_told 184 = .ok (.ldc 90, 2) := by decide +kernel
theorem dL_told_186 : decode cL_told 186 = .ok (.invokevirtual 75, 3) := by decide +kernel
theorem dL_told_189 : decode cL_told 189 = .ok (.pop, 1) := by decide +kernel
theorem dL_told_190 : decode cL_told 190 = .ok (.iinc 4 1, 3) := by decide +kernel
theorem dL_told_193 : decode cL_told 193 = .ok (.goto (-85), 3) := by decide +kernel
theorem dL_told_196 : decode cL_told 196 = .ok (.aload_n 0, 1) := by decide +kernel
theorem dL_told_197 : decode cL_told 197 = .ok (.bipush 15, 2) := by decide +kernel
theorem dL_told_199 : decode cL_told 199 = .ok (.invokestatic 66, 3) := by decide +kernel
theorem dL_told_202 : decode cL_told 202 = .ok (.iconst 5, 1) := by decide +kernel
theorem dL_told_203 : decode cL_told 203 = .ok (.invokestatic 35, 3) := by decide +kernel
theorem dL_told_206 : decode cL_told 206 = .ok (.istore 4, 2) := by decide +kernel
theorem dL_told_208 : decode cL_told 208 = .ok (.iconst 0, 1) := by decide +kernel
theorem dL_told_209 : decode cL_told 209 = .ok (.istore 5, 2) := by decide +kernel
theorem dL_told_211 : decode cL_told 211 = .ok (.iload 5, 2) := by decide +kernel
theorem dL_told_213 : decode cL_told 213 = .ok (.iload 4, 2) := by decide +kernel
theorem dL_told_215 : decode cL_told 215 = .ok (.if_icmp .ge 206, 3) := by decide +kernel
theorem dL_told_218 : decode cL_told 218 = .ok (.aload_n 0, 1) := by decide +kernel
theorem dL_told_219 : decode cL_told 219 = .ok (.iconst 4, 1) := by decide +kernel
theorem dL_told_220 : decode cL_told 220 = .ok (.iload 5, 2) := by decide +kernel
theorem dL_told_222 : decode cL_told 222 = .ok (.iadd, 1) := by decide +kernel
theorem dL_told_223 : decode cL_told 223 = .ok (.invokestatic 66, 3) := by decide +kernel
theorem dL_told_226 : decode cL_told 226 = .ok (.iconst 3, 1) := by decide +kernel
theorem dL_told_227 : decode cL_told 227 = .ok (.ishr, 1) := by decide +kernel
theorem dL_told_228 : decode cL_told 228 = .ok (.bipush 17, 2) := by decide +kernel
theorem dL_told_230 : decode cL_told 230 = .ok (.iload 5, 2) := by decide +kernel
theorem dL_told_232 : decode cL_told 232 = .ok (.imul, 1) := by decide +kernel
theorem dL_told_233 : decode cL_told 233 = .ok (.iadd, 1) := by decide +kernel
theorem dL_told_234 : decode cL_told 234 = .ok (.istore 6, 2) := by decide +kernel
theorem dL_told_236 : decode cL_told 236 = .ok (.iload 6, 2) := by decide +kernel
theorem dL_told_238 : decode cL_told 238 = .ok (.iconst 3, 1) := by decide +kernel
theorem dL_told_239 : decode cL_told 239 = .ok (.invokestatic 35, 3) := by decide +kernel
theorem dL_told_242 : decode cL_told 242 = .ok (.istore 7, 2) := by decide +kernel
theorem dL_told_244 : decode cL_told 244 = .ok (.iload 5, 2) := by decide +kernel
theorem dL_told_246 : decode cL_told 246 = .ok (.iconst 1, 1) := by decide +kernel
theorem dL_told_247 : decode cL_told 247 = .ok (.iadd, 1) := by decide +kernel
theorem dL_told_248 : decode cL_told 248 = .ok (.iload 4, 2) := by decide +kernel
theorem dL_told_250 : decode cL_told 250 = .ok (.if_icmp .ne 18, 3) := by decide +kernel
theorem dL_told_253 : decode cL_told 253 = .ok (.iload 6, 2) := by decide +kernel
theorem dL_told_255 : decode cL_told 255 = .ok (.iconst 2, 1) := by decide +kernel
theorem dL_told_256 : decode cL_told 256 = .ok (.ishr, 1) := by decide +kernel
theorem dL_told_257 : decode cL_told 257 = .ok (.iconst 3, 1) := by decide +kernel
theorem dL_told_258 : decode cL_told 258 = .ok (.invokestatic 35, 3) := by decide +kernel
theorem dL_told_261 : decode cL_told 261 = .ok (.ifCond .ne 7, 3) := by decide +kernel
theorem dL_told_264 : decode cL_told 264 = .ok (.aconst_null, 1) := by decide +kernel
theorem dL_told_265 : decode cL_told 265 = .ok (.goto 11, 3) := by decide +kernel
theorem dL_told_268 : decode cL_told 268 = .ok (.iload 6, 2) := by decide +kernel
theorem dL_told_270 : decode cL_told 270 = .ok (.iconst 3, 1) := by decide +kernel
theorem dL_told_271 : decode cL_told 271 = .ok (.ishr, 1) := by decide +kernel
theorem dL_told_272 : decode cL_told 272 = .ok (.iconst 0, 1) := by decide +kernel
theorem dL_told_273 : decode cL_told 273 = .ok (.invokestatic 60, 3) := by decide +kernel
theorem dL_told_276 : decode cL_told 276 = .ok (.astore 8, 2) := by decide +kernel
theorem dL_told_278 : decode cL_told 278 = .ok (.aload_n 3, 1) := by decide +kernel
theorem dL_told_279 : decode cL_told 279 = .ok (.aload_n 3, 1) := by decide +kernel
theorem dL_told_280 : decode cL_told 280 = .ok (.getfield 99, 3) := by decide +kernel
theorem dL_told_283 : decode cL_told 283 = .ok (.iload 7, 2) := by decide +kernel
theorem dL_told_285 : decode cL_told 285 = .ok (.invokestatic 102, 3) := by decide +kernel
theorem dL_told_288 : decode cL_told 288 = .ok (.putfield 99, 3) := by decide +kernel
theorem dL_told_291 : decode cL_told 291 = .ok (.iload 5, 2) := by decide +kernel
theorem dL_told_293 : decode cL_told 293 = .ok (.iconst 1, 1) := by decide +kernel
theorem dL_told_294 : decode cL_told 294 = .ok (.iadd, 1) := by decide +kernel
theorem dL_told_295 : decode cL_told 295 = .ok (.anewarray 32, 3) := by decide +kernel
theorem dL_told_298 : decode cL_told 298 = .ok (.astore 9, 2) := by decide +kernel
theorem dL_told_300 : decode cL_told 300 = .ok (.iconst 0, 1) := by decide +kernel
theorem dL_told_301 : decode cL_told 301 = .ok (.istore 10, 2) := by decide +kernel
theorem dL_told_303 : decode cL_told 303 = .ok (.iload 10, 2) := by decide +kernel
theorem dL_told_305 : decode cL_told 305 = .ok (.iload 5, 2) := by decide +kernel
theorem dL_told_307 : decode cL_told 307 = .ok (.if_icmp .ge 21, 3) := by decide +kernel
theorem dL_told_310 : decode cL_told 310 = .ok (.aload 9, 2) := by decide +kernel
theorem dL_told_312 : decode cL_told 312 = .ok (.iload 10, 2) := by decide +kernel
theorem dL_told_314 : decode cL_told 314 = .ok (.aload_n 3, 1) := by decide +kernel
theorem dL_told_315 : decode cL_told 315 = .ok (.getfield 106, 3) := by decide +kernel
theorem dL_told_318 : decode cL_told 318 = .ok (.iload 10, 2) := by decide +kernel
theorem dL_told_320 : decode cL_told 320 = .ok (.aaload, 1) := by decide +kernel
theorem dL_told_321 : decode cL_told 321 = .ok (.aastore, 1) := by decide +kernel
theorem dL_told_322 : decode cL_told 322 = .ok (.iinc 10 1, 3) := by decide +kernel
theorem dL_told_325 : decode cL_told 325 = .ok (.goto (-22), 3) := by decide +kernel
theorem dL_told_328 : decode cL_told 328 = .ok (.aload 9, 2) := by decide +kernel
theorem dL_told_330 : decode cL_told 330 = .ok (.iload 5, 2) := by decide +kernel
theorem dL_told_332 : decode cL_told 332 = .ok (.aload 8, 2) := by decide +kernel
theorem dL_told_334 : decode cL_told 334 = .ok (.aastore, 1) := by decide +kernel
theorem dL_told_335 : decode cL_told 335 = .ok (.aload_n 3, 1) := by decide +kernel
theorem dL_told_336 : decode cL_told 336 = .ok (.aload 9, 2) := by decide +kernel
theorem dL_told_338 : decode cL_told 338 = .ok (.putfield 106, 3) := by decide +kernel
theorem dL_told_341 : decode cL_told 341 = .ok (.aload_n 2, 1) := by decide +kernel
theorem dL_told_342 : decode cL_told 342 = .ok (.ldc 110, 2) := by decide +kernel
theorem dL_told_344 : decode cL_told 344 = .ok (.invokevirtual 75, 3) := by decide +kernel
theorem dL_told_347 : decode cL_told 347 = .ok (.iload 7, 2) := by decide +kernel
theorem dL_told_349 : decode cL_told 349 = .ok (.ifCond .ne 8, 3) := by decide +kernel
theorem dL_told_352 : decode cL_told 352 = .ok (.ldc 112, 2) := by decide +kernel
theorem dL_told_354 : decode cL_told 354 = .ok (.goto 16, 3) := by decide +kernel
theorem dL_told_357 : decode cL_told 357 = .ok (.iload 7, 2) := by decide +kernel
theorem dL_told_359 : decode cL_told 359 = .ok (.iconst 1, 1) := by decide +kernel
theorem dL_told_360 : decode cL_told 360 = .ok (.if_icmp .ne 8, 3) := by decide +kernel
theorem dL_told_363 : decode cL_told 363 = .ok (.ldc 114, 2) := by decide +kernel
theorem dL_told_365 : decode cL_told 365 = .ok (.goto 5, 3) := by decide +kernel
theorem dL_told_368 : decode cL_told 368 = .ok (.ldc 116, 2) := by decide +kernel
theorem dL_told_370 : decode cL_told 370 = .ok (.invokevirtual 75, 3) := by decide +kernel
theorem dL_told_373 : decode cL_told 373 = .ok (.aload 8, 2) := by decide +kernel
theorem dL_told_375 : decode cL_told 375 = .ok (.ifnonnull 8, 3) := by decide +kernel
theorem dL_told_378 : decode cL_told 378 = .ok (.ldc 118, 2) := by decide +kernel
theorem dL_told_380 : decode cL_told 380 = .ok (.goto 26, 3) := by decide +kernel
theorem dL_told_383 : decode cL_told 383 = .ok (.new 76, 3) := by decide +kernel
theorem dL_told_386 : decode cL_told 386 = .ok (.dup, 1) := by decide +kernel
theorem dL_told_387 : decode cL_told 387 = .ok (.invokespecial 120, 3) := by decide +kernel
theorem dL_told_390 : decode cL_told 390 = .ok (.ldc 121, 2) := by decide +kernel
theorem dL_told_392 : decode cL_told 392 = .ok (.invokevirtual 75, 3) := by decide +kernel
theorem dL_told_395 : decode cL_told 395 = .ok (.aload 8, 2) := by decide +kernel
theorem dL_told_397 : decode cL_told 397 = .ok (.invokevirtual 123, 3) := by decide +kernel
theorem dL_told_400 : decode cL_told 400 = .ok (.invokevirtual 75, 3) := by decide +kernel
theorem dL_told_403 : decode cL_told 403 = .ok (.invokevirtual 127, 3) := by decide +kernel
theorem dL_told_406 : decode cL_told 406 = .ok (.invokevirtual 75, 3) := by decide +kernel
theorem dL_told_409 : decode cL_told 409 = .ok (.ldc 90, 2) := by decide +kernel
theorem dL_told_411 : decode cL_told 411 = .ok (.invokevirtual 75, 3) := by decide +kernel
theorem dL_told_414 : decode cL_told 414 = .ok (.pop, 1) := by decide +kernel
theorem dL_told_415 : decode cL_told 415 = .ok (.iinc 5 1, 3) := by decide +kernel
theorem dL_told_418 : decode cL_told 418 = .ok (.goto (-207), 3) := by decide +kernel
theorem dL_told_421 : decode cL_told 421 = .ok (.aload_n 3, 1) := by decide +kernel
theorem dL_told_422 : decode cL_told 422 = .ok (.areturn, 1) := by decide +kernel
theorem dL_act_0 : decode cL_act 0 = .ok (.iload_n 2, 1) := by decide +kernel
theorem dL_act_1 : decode cL_act 1 = .ok (.iconst 3, 1) := by decide +kernel
theorem dL_act_2 : decode cL_act 2 = .ok (.ishr, 1) := by decide +kernel
theorem dL_act_3 : decode cL_act 3 = .ok (.aload_n 1, 1) := by decide +kernel
theorem dL_act_4 : decode cL_act 4 = .ok (.getfield 70, 3) := by decide +kernel
theorem dL_act_7 : decode cL_act 7 = .ok (.invokestatic 35, 3) := by decide +kernel
theorem dL_act_10 : decode cL_act 10 = .ok (.istore_n 3, 1) := by decide +kernel
theorem dL_act_11 : decode cL_act 11 = .ok (.iload_n 2, 1) := by decide +kernel
theorem dL_act_12 : decode cL_act 12 = .ok (.bipush 9, 2) := by decide +kernel
theorem dL_act_14 : decode cL_act 14 = .ok (.invokestatic 35, 3) := by decide +kernel
theorem dL_act_17 : decode cL_act 17 = .ok (.tableswitch 200 0 4 #[35, 96, 96, 96, 147], 35) := by decide +kernel
theorem dL_act_52 : decode cL_act 52 = .ok (.iload_n 2, 1) := by decide +kernel
theorem dL_act_53 : decode cL_act 53 = .ok (.bipush 6, 2) := by decide +kernel
theorem dL_act_55 : decode cL_act 55 = .ok (.ishr, 1) := by decide +kernel
theorem dL_act_56 : decode cL_act 56 = .ok (.iconst 3, 1) := by decide +kernel
theorem dL_act_57 : decode cL_act 57 = .ok (.invokestatic 35, 3) := by decide +kernel
theorem dL_act_60 : decode cL_act 60 = .ok (.ifCond .le 5, 3) := by decide +kernel
theorem dL_act_63 : decode cL_act 63 = .ok (.iconst 1, 1) := by decide +kernel
theorem dL_act_64 : decode cL_act 64 = .ok (.ireturn, 1) := by decide +kernel
theorem dL_act_65 : decode cL_act 65 = .ok (.aload_n 1, 1) := by decide +kernel
theorem dL_act_66 : decode cL_act 66 = .ok (.getfield 130, 3) := by decide +kernel
theorem dL_act_69 : decode cL_act 69 = .ok (.iload_n 3, 1) := by decide +kernel
theorem dL_act_70 : decode cL_act 70 = .ok (.aload_n 1, 1) := by decide +kernel
theorem dL_act_71 : decode cL_act 71 = .ok (.getfield 130, 3) := by decide +kernel
theorem dL_act_74 : decode cL_act 74 = .ok (.iload_n 3, 1) := by decide +kernel
theorem dL_act_75 : decode cL_act 75 = .ok (.baload, 1) := by decide +kernel
theorem dL_act_76 : decode cL_act 76 = .ok (.ifCond .ne 7, 3) := by decide +kernel
theorem dL_act_79 : decode cL_act 79 = .ok (.iconst 1, 1) := by decide +kernel
theorem dL_act_80 : decode cL_act 80 = .ok (.goto 4, 3) := by decide +kernel
theorem dL_act_83 : decode cL_act 83 = .ok (.iconst 0, 1) := by decide +kernel
theorem dL_act_84 : decode cL_act 84 = .ok (.bastore, 1) := by decide +kernel
theorem dL_act_85 : decode cL_act 85 = .ok (.aload_n 0, 1) := by decide +kernel
theorem dL_act_86 : decode cL_act 86 = .ok (.iload_n 3, 1) := by decide +kernel
theorem dL_act_87 : decode cL_act 87 = .ok (.invokevirtual 134, 3) := by decide +kernel
theorem dL_act_90 : decode cL_act 90 = .ok (.aload_n 1, 1) := by decide +kernel
theorem dL_act_91 : decode cL_act 91 = .ok (.getfield 130, 3) := by decide +kernel
theorem dL_act_94 : decode cL_act 94 = .ok (.iload_n 3, 1) := by decide +kernel
theorem dL_act_95 : decode cL_act 95 = .ok (.baload, 1) := by decide +kernel
theorem dL_act_96 : decode cL_act 96 = .ok (.ifCond .ne 7, 3) := by decide +kernel
theorem dL_act_99 : decode cL_act 99 = .ok (.iconst 1, 1) := by decide +kernel
theorem dL_act_100 : decode cL_act 100 = .ok (.goto 4, 3) := by decide +kernel
theorem dL_act_103 : decode cL_act 103 = .ok (.iconst 0, 1) := by decide +kernel
theorem dL_act_104 : decode cL_act 104 = .ok (.if_icmp .ne 7, 3) := by decide +kernel
theorem dL_act_107 : decode cL_act 107 = .ok (.iconst 1, 1) := by decide +kernel
theorem dL_act_108 : decode cL_act 108 = .ok (.goto 4, 3) := by decide +kernel
theorem dL_act_111 : decode cL_act 111 = .ok (.iconst 0, 1) := by decide +kernel
theorem dL_act_112 : decode cL_act 112 = .ok (.ireturn, 1) := by decide +kernel
theorem dL_act_113 : decode cL_act 113 = .ok (.aload_n 1, 1) := by decide +kernel
theorem dL_act_114 : decode cL_act 114 = .ok (.invokevirtual 138, 3) := by decide +kernel
theorem dL_act_117 : decode cL_act 117 = .ok (.istore 4, 2) := by decide +kernel
theorem dL_act_119 : decode cL_act 119 = .ok (.iload 4, 2) := by decide +kernel
theorem dL_act_121 : decode cL_act 121 = .ok (.ifCond .eq 7, 3) := by decide +kernel
theorem dL_act_124 : decode cL_act 124 = .ok (.aload_n 1, 1) := by decide +kernel
theorem dL_act_125 : decode cL_act 125 = .ok (.invokevirtual 142, 3) := by decide +kernel
theorem dL_act_128 : decode cL_act 128 = .ok (.aload_n 0, 1) := by decide +kernel
theorem dL_act_129 : decode cL_act 129 = .ok (.invokevirtual 145, 3) := by decide +kernel
theorem dL_act_132 : decode cL_act 132 = .ok (.aload_n 1, 1) := by decide +kernel
theorem dL_act_133 : decode cL_act 133 = .ok (.invokevirtual 148, 3) := by decide +kernel
theorem dL_act_136 : decode cL_act 136 = .ok (.arraylength, 1) := by decide +kernel
theorem dL_act_137 : decode cL_act 137 = .ok (.if_icmp .ne 12, 3) := by decide +kernel
theorem dL_act_140 : decode cL_act 140 = .ok (.iload 4, 2) := by decide +kernel
theorem dL_act_142 : decode cL_act 142 = .ok (.ifCond .eq 7, 3) := by decide +kernel
theorem dL_act_145 : decode cL_act 145 = .ok (.iconst 1, 1) := by decide +kernel
theorem dL_act_146 : decode cL_act 146 = .ok (.goto 4, 3) := by decide +kernel
theorem dL_act_149 : decode cL_act 149 = .ok (.iconst 0, 1) := by decide +kernel
theorem dL_act_150 : decode cL_act 150 = .ok (.ireturn, 1) := by decide +kernel
theorem dL_act_151 : decode cL_act 151 = .ok (.astore 5, 2) := by decide +kernel
theorem dL_act_153 : decode cL_act 153 = .ok (.iload 4, 2) := by decide +kernel
theorem dL_act_155 : decode cL_act 155 = .ok (.ifCond .ne 7, 3) := by decide +kernel
theorem dL_act_158 : decode cL_act 158 = .ok (.iconst 1, 1) := by decide +kernel
theorem dL_act_159 : decode cL_act 159 = .ok (.goto 4, 3) := by decide +kernel
theorem dL_act_162 : decode cL_act 162 = .ok (.iconst 0, 1) := by decide +kernel
theorem dL_act_163 : decode cL_act 163 = .ok (.ireturn, 1) := by decide +kernel
theorem dL_act_164 : decode cL_act 164 = .ok (.aload_n 1, 1) := by decide +kernel
theorem dL_act_165 : decode cL_act 165 = .ok (.invokevirtual 154, 3) := by decide +kernel
theorem dL_act_168 : decode cL_act 168 = .ok (.ifCond .le 7, 3) := by decide +kernel
theorem dL_act_171 : decode cL_act 171 = .ok (.iconst 1, 1) := by decide +kernel
theorem dL_act_172 : decode cL_act 172 = .ok (.goto 4, 3) := by decide +kernel
theorem dL_act_175 : decode cL_act 175 = .ok (.iconst 0, 1) := by decide +kernel
theorem dL_act_176 : decode cL_act 176 = .ok (.istore 4, 2) := by decide +kernel
theorem dL_act_178 : decode cL_act 178 = .ok (.aload_n 1, 1) := by decide +kernel
theorem dL_act_179 : decode cL_act 179 = .ok (.invokevirtual 157, 3) := by decide +kernel
theorem dL_act_182 : decode cL_act 182 = .ok (.istore 5, 2) := by decide +kernel
theorem dL_act_184 : decode cL_act 184 = .ok (.aload_n 0, 1) := by decide +kernel
theorem dL_act_185 : decode cL_act 185 = .ok (.invokevirtual 160, 3) := by decide +kernel
theorem dL_act_188 : decode cL_act 188 = .ok (.iload 5, 2) := by decide +kernel
theorem dL_act_190 : decode cL_act 190 = .ok (.if_icmp .ne 12, 3) := by decide +kernel
theorem dL_act_193 : decode cL_act 193 = .ok (.iload 4, 2) := by decide +kernel
theorem dL_act_195 : decode cL_act 195 = .ok (.ifCond .eq 7, 3) := by decide +kernel
theorem dL_act_198 : decode cL_act 198 = .ok (.iconst 1, 1) := by decide +kernel
theorem dL_act_199 : decode cL_act 199 = .ok (.goto 4, 3) := by decide +kernel
theorem dL_act_202 : decode cL_act 202 = .ok (.iconst 0, 1) := by decide +kernel
theorem dL_act_203 : decode cL_act 203 = .ok (.ireturn, 1) := by decide +kernel
theorem dL_act_204 : decode cL_act 204 = .ok (.astore 6, 2) := by decide +kernel
theorem dL_act_206 : decode cL_act 206 = .ok (.iload 4, 2) := by decide +kernel
theorem dL_act_208 : decode cL_act 208 = .ok (.ifCond .ne 7, 3) := by decide +kernel
theorem dL_act_211 : decode cL_act 211 = .ok (.iconst 1, 1) := by decide +kernel
theorem dL_act_212 : decode cL_act 212 = .ok (.goto 4, 3) := by decide +kernel
theorem dL_act_215 : decode cL_act 215 = .ok (.iconst 0, 1) := by decide +kernel
theorem dL_act_216 : decode cL_act 216 = .ok (.ireturn, 1) := by decide +kernel
theorem dL_act_217 : decode cL_act 217 = .ok (.aload_n 1, 1) := by decide +kernel
theorem dL_act_218 : decode cL_act 218 = .ok (.invokevirtual 148, 3) := by decide +kernel
theorem dL_act_221 : decode cL_act 221 = .ok (.astore 4, 2) := by decide +kernel
theorem dL_act_223 : decode cL_act 223 = .ok (.aload 4, 2) := by decide +kernel
theorem dL_act_225 : decode cL_act 225 = .ok (.arraylength, 1) := by decide +kernel
theorem dL_act_226 : decode cL_act 226 = .ok (.ifCond .ne 5, 3) := by decide +kernel
theorem dL_act_229 : decode cL_act 229 = .ok (.iconst 1, 1) := by decide +kernel
theorem dL_act_230 : decode cL_act 230 = .ok (.ireturn, 1) := by decide +kernel
theorem dL_act_231 : decode cL_act 231 = .ok (.iload_n 2, 1) := by decide +kernel
theorem dL_act_232 : decode cL_act 232 = .ok (.iconst 5, 1) := by decide +kernel
theorem dL_act_233 : decode cL_act 233 = .ok (.ishr, 1) := by decide +kernel
theorem dL_act_234 : decode cL_act 234 = .ok (.aload 4, 2) := by decide +kernel
theorem dL_act_236 : decode cL_act 236 = .ok (.arraylength, 1) := by decide +kernel
theorem dL_act_237 : decode cL_act 237 = .ok (.invokestatic 35, 3) := by decide +kernel
theorem dL_act_240 : decode cL_act 240 = .ok (.istore 5, 2) := by decide +kernel
theorem dL_act_242 : decode cL_act 242 = .ok (.aload 4, 2) := by decide +kernel
theorem dL_act_244 : decode cL_act 244 = .ok (.iload 5, 2) := by decide +kernel
theorem dL_act_246 : decode cL_act 246 = .ok (.aaload, 1) := by decide +kernel
theorem dL_act_247 : decode cL_act 247 = .ok (.iconst 3, 1) := by decide +kernel
theorem dL_act_248 : decode cL_act 248 = .ok (.iaload, 1) := by decide +kernel
theorem dL_act_249 : decode cL_act 249 = .ok (.ifCond .ge 7, 3) := by decide +kernel
theorem dL_act_252 : decode cL_act 252 = .ok (.iconst 1, 1) := by decide +kernel
theorem dL_act_253 : decode cL_act 253 = .ok (.goto 4, 3) := by decide +kernel
theorem dL_act_256 : decode cL_act 256 = .ok (.iconst 0, 1) := by decide +kernel
theorem dL_act_257 : decode cL_act 257 = .ok (.istore 6, 2) := by decide +kernel
theorem dL_act_259 : decode cL_act 259 = .ok (.iload_n 2, 1) := by decide +kernel
theorem dL_act_260 : decode cL_act 260 = .ok (.bipush 7, 2) := by decide +kernel
theorem dL_act_262 : decode cL_act 262 = .ok (.ishr, 1) := by decide +kernel
theorem dL_act_263 : decode cL_act 263 = .ok (.iconst 3, 1) := by decide +kernel
theorem dL_act_264 : decode cL_act 264 = .ok (.invokestatic 35, 3) := by decide +kernel
theorem dL_act_267 : decode cL_act 267 = .ok (.istore 7, 2) := by decide +kernel
theorem dL_act_269 : decode cL_act 269 = .ok (.iload 6, 2) := by decide +kernel
theorem dL_act_271 : decode cL_act 271 = .ok (.ifCond .eq 12, 3) := by decide +kernel
theorem dL_act_274 : decode cL_act 274 = .ok (.aload 4, 2) := by decide +kernel
theorem dL_act_276 : decode cL_act 276 = .ok (.iload 5, 2) := by decide +kernel
theorem dL_act_278 : decode cL_act 278 = .ok (.aaload, 1) := by decide +kernel
theorem dL_act_279 : decode cL_act 279 = .ok (.iconst 3, 1) := by decide +kernel
theorem dL_act_280 : decode cL_act 280 = .ok (.iload 7, 2) := by decide +kernel
theorem dL_act_282 : decode cL_act 282 = .ok (.iastore, 1) := by decide +kernel
theorem dL_act_283 : decode cL_act 283 = .ok (.aload_n 0, 1) := by decide +kernel
theorem dL_act_284 : decode cL_act 284 = .ok (.iload 5, 2) := by decide +kernel
theorem dL_act_286 : decode cL_act 286 = .ok (.iload 7, 2) := by decide +kernel
theorem dL_act_288 : decode cL_act 288 = .ok (.invokevirtual 163, 3) := by decide +kernel
theorem dL_act_291 : decode cL_act 291 = .ok (.aload_n 1, 1) := by decide +kernel
theorem dL_act_292 : decode cL_act 292 = .ok (.invokevirtual 154, 3) := by decide +kernel
theorem dL_act_295 : decode cL_act 295 = .ok (.if_icmp .ne 12, 3) := by decide +kernel
theorem dL_act_298 : decode cL_act 298 = .ok (.iload 6, 2) := by decide +kernel
theorem dL_act_300 : decode cL_act 300 = .ok (.ifCond .eq 7, 3) := by decide +kernel
theorem dL_act_303 : decode cL_act 303 = .ok (.iconst 1, 1) := by decide +kernel
theorem dL_act_304 : decode cL_act 304 = .ok (.goto 4, 3) := by decide +kernel
theorem dL_act_307 : decode cL_act 307 = .ok (.iconst 0, 1) := by decide +kernel
theorem dL_act_308 : decode cL_act 308 = .ok (.ireturn, 1) := by decide +kernel
theorem dL_act_309 : decode cL_act 309 = .ok (.astore 8, 2) := by decide +kernel
theorem dL_act_311 : decode cL_act 311 = .ok (.iload 6, 2) := by decide +kernel
theorem dL_act_313 : decode cL_act 313 = .ok (.ifCond .ne 7, 3) := by decide +kernel
theorem dL_act_316 : decode cL_act 316 = .ok (.iconst 1, 1) := by decide +kernel
theorem dL_act_317 : decode cL_act 317 = .ok (.goto 4, 3) := by decide +kernel
theorem dL_act_320 : decode cL_act 320 = .ok (.iconst 0, 1) := by decide +kernel
theorem dL_act_321 : decode cL_act 321 = .ok (.ireturn, 1) := by decide +kernel
theorem dL_law_0 : decode cL_law 0 = .ok (.new 20, 3) := by decide +kernel
theorem dL_law_3 : decode cL_law 3 = .ok (.dup, 1) := by decide +kernel
theorem dL_law_4 : decode cL_law 4 = .ok (.invokespecial 166, 3) := by decide +kernel
theorem dL_law_7 : decode cL_law 7 = .ok (.astore_n 1, 1) := by decide +kernel
theorem dL_law_8 : decode cL_law 8 = .ok (.new 76, 3) := by decide +kernel
theorem dL_law_11 : decode cL_law 11 = .ok (.dup, 1) := by decide +kernel
theorem dL_law_12 : decode cL_law 12 = .ok (.invokespecial 120, 3) := by decide +kernel
theorem dL_law_15 : decode cL_law 15 = .ok (.astore_n 2, 1) := by decide +kernel
theorem dL_law_16 : decode cL_law 16 = .ok (.aload_n 0, 1) := by decide +kernel
theorem dL_law_17 : decode cL_law 17 = .ok (.bipush 6, 2) := by decide +kernel
theorem dL_law_19 : decode cL_law 19 = .ok (.aload_n 2, 1) := by decide +kernel
theorem dL_law_20 : decode cL_law 20 = .ok (.invokestatic 167, 3) := by decide +kernel
theorem dL_law_23 : decode cL_law 23 = .ok (.astore_n 3, 1) := by decide +kernel
theorem dL_law_24 : decode cL_law 24 = .ok (.aload_n 1, 1) := by decide +kernel
theorem dL_law_25 : decode cL_law 25 = .ok (.aload_n 2, 1) := by decide +kernel
theorem dL_law_26 : decode cL_law 26 = .ok (.invokevirtual 127, 3) := by decide +kernel
theorem dL_law_29 : decode cL_law 29 = .ok (.invokestatic 171, 3) := by decide +kernel
theorem dL_law_32 : decode cL_law 32 = .ok (.ifCond .eq 5, 3) := by decide +kernel
theorem dL_law_35 : decode cL_law 35 = .ok (.iconst 0, 1) := by decide +kernel
theorem dL_law_36 : decode cL_law 36 = .ok (.ireturn, 1) := by decide +kernel
theorem dL_law_37 : decode cL_law 37 = .ok (.iconst 0, 1) := by decide +kernel
theorem dL_law_38 : decode cL_law 38 = .ok (.istore 4, 2) := by decide +kernel
theorem dL_law_40 : decode cL_law 40 = .ok (.iload 4, 2) := by decide +kernel
theorem dL_law_42 : decode cL_law 42 = .ok (.bipush 9, 2) := by decide +kernel
theorem dL_law_44 : decode cL_law 44 = .ok (.if_icmp .ge 618, 3) := by decide +kernel
theorem dL_law_47 : decode cL_law 47 = .ok (.aload_n 0, 1) := by decide +kernel
theorem dL_law_48 : decode cL_law 48 = .ok (.iconst 2, 1) := by decide +kernel
theorem dL_law_49 : decode cL_law 49 = .ok (.iload 4, 2) := by decide +kernel
theorem dL_law_51 : decode cL_law 51 = .ok (.iadd, 1) := by decide +kernel
theorem dL_law_52 : decode cL_law 52 = .ok (.invokestatic 66, 3) := by decide +kernel
theorem dL_law_55 : decode cL_law 55 = .ok (.iconst 1, 1) := by decide +kernel
theorem dL_law_56 : decode cL_law 56 = .ok (.ishr, 1) := by decide +kernel
theorem dL_law_57 : decode cL_law 57 = .ok (.bipush 53, 2) := by decide +kernel
theorem dL_law_59 : decode cL_law 59 = .ok (.iload 4, 2) := by decide +kernel
theorem dL_law_61 : decode cL_law 61 = .ok (.imul, 1) := by decide +kernel
theorem dL_law_62 : decode cL_law 62 = .ok (.iadd, 1) := by decide +kernel
theorem dL_law_63 : decode cL_law 63 = .ok (.istore 5, 2) := by decide +kernel
theorem dL_law_65 : decode cL_law 65 = .ok (.aload_n 1, 1) := by decide +kernel
theorem dL_law_66 : decode cL_law 66 = .ok (.aload_n 3, 1) := by decide +kernel
theorem dL_law_67 : decode cL_law 67 = .ok (.iload 5, 2) := by decide +kernel
theorem dL_law_69 : decode cL_law 69 = .ok (.invokestatic 175, 3) := by decide +kernel
theorem dL_law_72 : decode cL_law 72 = .ok (.ifCond .ne 5, 3) := by decide +kernel
theorem dL_law_75 : decode cL_law 75 = .ok (.iconst 0, 1) := by decide +kernel
theorem dL_law_76 : decode cL_law 76 = .ok (.ireturn, 1) := by decide +kernel
theorem dL_law_77 : decode cL_law 77 = .ok (.aload_n 1, 1) := by decide +kernel
theorem dL_law_78 : decode cL_law 78 = .ok (.invokevirtual 179, 3) := by decide +kernel
theorem dL_law_81 : decode cL_law 81 = .ok (.lstore 6, 2) := by decide +kernel
theorem dL_law_83 : decode cL_law 83 = .ok (.aload_n 1, 1) := by decide +kernel
theorem dL_law_84 : decode cL_law 84 = .ok (.invokevirtual 183, 3) := by decide +kernel
theorem dL_law_87 : decode cL_law 87 = .ok (.istore 8, 2) := by decide +kernel
theorem dL_law_89 : decode cL_law 89 = .ok (.iconst 0, 1) := by decide +kernel
theorem dL_law_90 : decode cL_law 90 = .ok (.istore 9, 2) := by decide +kernel
theorem dL_law_92 : decode cL_law 92 = .ok (.iconst 0, 1) := by decide +kernel
theorem dL_law_93 : decode cL_law 93 = .ok (.istore 10, 2) := by decide +kernel
theorem dL_law_95 : decode cL_law 95 = .ok (.iconst 0, 1) := by decide +kernel
theorem dL_law_96 : decode cL_law 96 = .ok (.istore 11, 2) := by decide +kernel
theorem dL_law_98 : decode cL_law 98 = .ok (.iconst 0, 1) := by decide +kernel
theorem dL_law_99 : decode cL_law 99 = .ok (.istore 12, 2) := by decide +kernel
theorem dL_law_101 : decode cL_law 101 = .ok (.iconst 0, 1) := by decide +kernel
theorem dL_law_102 : decode cL_law 102 = .ok (.istore 13, 2) := by decide +kernel
theorem dL_law_104 : decode cL_law 104 = .ok (.iload 13, 2) := by decide +kernel
theorem dL_law_106 : decode cL_law 106 = .ok (.iload 8, 2) := by decide +kernel
theorem dL_law_108 : decode cL_law 108 = .ok (.if_icmp .ge 292, 3) := by decide +kernel
theorem dL_law_111 : decode cL_law 111 = .ok (.iload 9, 2) := by decide +kernel
theorem dL_law_113 : decode cL_law 113 = .ok (.aload_n 1, 1) := by decide +kernel
theorem dL_law_114 : decode cL_law 114 = .ok (.iload 13, 2) := by decide +kernel
theorem dL_law_116 : decode cL_law 116 = .ok (.invokevirtual 185, 3) := by decide +kernel
theorem dL_law_119 : decode cL_law 119 = .ok (.iadd, 1) := by decide +kernel
theorem dL_law_120 : decode cL_law 120 = .ok (.istore 9, 2) := by decide +kernel
theorem dL_law_122 : decode cL_law 122 = .ok (.iload 10, 2) := by decide +kernel
theorem dL_law_124 : decode cL_law 124 = .ok (.aload_n 1, 1) := by decide +kernel
theorem dL_law_125 : decode cL_law 125 = .ok (.iload 13, 2) := by decide +kernel
theorem dL_law_127 : decode cL_law 127 = .ok (.invokevirtual 188, 3) := by decide +kernel
theorem dL_law_130 : decode cL_law 130 = .ok (.iadd, 1) := by decide +kernel
theorem dL_law_131 : decode cL_law 131 = .ok (.istore 10, 2) := by decide +kernel
theorem dL_law_133 : decode cL_law 133 = .ok (.iload 11, 2) := by decide +kernel
theorem dL_law_135 : decode cL_law 135 = .ok (.aload_n 1, 1) := by decide +kernel
theorem dL_law_136 : decode cL_law 136 = .ok (.iload 13, 2) := by decide +kernel
theorem dL_law_138 : decode cL_law 138 = .ok (.invokevirtual 191, 3) := by decide +kernel
theorem dL_law_141 : decode cL_law 141 = .ok (.iadd, 1) := by decide +kernel
theorem dL_law_142 : decode cL_law 142 = .ok (.istore 11, 2) := by decide +kernel
theorem dL_law_144 : decode cL_law 144 = .ok (.iload 12, 2) := by decide +kernel
theorem dL_law_146 : decode cL_law 146 = .ok (.aload_n 1, 1) := by decide +kernel
theorem dL_law_147 : decode cL_law 147 = .ok (.iload 13, 2) := by decide +kernel
theorem dL_law_149 : decode cL_law 149 = .ok (.invokevirtual 194, 3) := by decide +kernel
theorem dL_law_152 : decode cL_law 152 = .ok (.ifCond .eq 7, 3) := by decide +kernel
theorem dL_law_155 : decode cL_law 155 = .ok (.iconst 1, 1) := by decide +kernel
theorem dL_law_156 : decode cL_law 156 = .ok (.goto 4, 3) := by decide +kernel
theorem dL_law_159 : decode cL_law 159 = .ok (.iconst 0, 1) := by decide +kernel
theorem dL_law_160 : decode cL_law 160 = .ok (.iadd, 1) := by decide +kernel
theorem dL_law_161 : decode cL_law 161 = .ok (.istore 12, 2) := by decide +kernel
theorem dL_law_163 : decode cL_law 163 = .ok (.iconst 0, 1) := by decide +kernel
theorem dL_law_164 : decode cL_law 164 = .ok (.istore 14, 2) := by decide +kernel
theorem dL_law_166 : decode cL_law 166 = .ok (.iconst 0, 1) := by decide +kernel
theorem dL_law_167 : decode cL_law 167 = .ok (.istore 15, 2) := by decide +kernel
theorem dL_law_169 : decode cL_law 169 = .ok (.iconst 0, 1) := by decide +kernel
theorem dL_law_170 : decode cL_law 170 = .ok (.istore 16, 2) := by decide +kernel
theorem dL_law_172 : decode cL_law 172 = .ok (.iload 16, 2) := by decide +kernel
theorem dL_law_174 : decode cL_law 174 = .ok (.iload 8, 2) := by decide +kernel
theorem dL_law_176 : decode cL_law 176 = .ok (.if_icmp .ge 74, 3) := by decide +kernel
theorem dL_law_179 : decode cL_law 179 = .ok (.iload 14, 2) := by decide +kernel
theorem dL_law_181 : decode cL_law 181 = .ok (.aload_n 1, 1) := by decide +kernel
theorem dL_law_182 : decode cL_law 182 = .ok (.iload 13, 2) := by decide +kernel
theorem dL_law_184 : decode cL_law 184 = .ok (.iload 16, 2) := by decide +kernel
theorem dL_law_186 : decode cL_law 186 = .ok (.invokevirtual 197, 3) := by decide +kernel
theorem dL_law_189 : decode cL_law 189 = .ok (.iadd, 1) := by decide +kernel
theorem dL_law_190 : decode cL_law 190 = .ok (.istore 14, 2) := by decide +kernel
theorem dL_law_192 : decode cL_law 192 = .ok (.iload 15, 2) := by decide +kernel
theorem dL_law_194 : decode cL_law 194 = .ok (.aload_n 1, 1) := by decide +kernel
theorem dL_law_195 : decode cL_law 195 = .ok (.iload 13, 2) := by decide +kernel
theorem dL_law_197 : decode cL_law 197 = .ok (.iload 16, 2) := by decide +kernel
theorem dL_law_199 : decode cL_law 199 = .ok (.invokevirtual 197, 3) := by decide +kernel
theorem dL_law_202 : decode cL_law 202 = .ok (.aload_n 1, 1) := by decide +kernel
theorem dL_law_203 : decode cL_law 203 = .ok (.iload 16, 2) := by decide +kernel
theorem dL_law_205 : decode cL_law 205 = .ok (.invokevirtual 200, 3) := by decide +kernel
theorem dL_law_208 : decode cL_law 208 = .ok (.imul, 1) := by decide +kernel
theorem dL_law_209 : decode cL_law 209 = .ok (.iadd, 1) := by decide +kernel
theorem dL_law_210 : decode cL_law 210 = .ok (.istore 15, 2) := by decide +kernel
theorem dL_law_212 : decode cL_law 212 = .ok (.aload_n 1, 1) := by decide +kernel
theorem dL_law_213 : decode cL_law 213 = .ok (.iload 13, 2) := by decide +kernel
theorem dL_law_215 : decode cL_law 215 = .ok (.iload 16, 2) := by decide +kernel
theorem dL_law_217 : decode cL_law 217 = .ok (.invokevirtual 197, 3) := by decide +kernel
theorem dL_law_220 : decode cL_law 220 = .ok (.aload_n 1, 1) := by decide +kernel
theorem dL_law_221 : decode cL_law 221 = .ok (.iload 16, 2) := by decide +kernel
theorem dL_law_223 : decode cL_law 223 = .ok (.iload 13, 2) := by decide +kernel
theorem dL_law_225 : decode cL_law 225 = .ok (.invokevirtual 197, 3) := by decide +kernel
theorem dL_law_228 : decode cL_law 228 = .ok (.if_icmp .ne 14, 3) := by decide +kernel
theorem dL_law_231 : decode cL_law 231 = .ok (.aload_n 1, 1) := by decide +kernel
theorem dL_law_232 : decode cL_law 232 = .ok (.iload 13, 2) := by decide +kernel
theorem dL_law_234 : decode cL_law 234 = .ok (.iload 13, 2) := by decide +kernel
theorem dL_law_236 : decode cL_law 236 = .ok (.invokevirtual 197, 3) := by decide +kernel
theorem dL_law_239 : decode cL_law 239 = .ok (.ifCond .eq 5, 3) := by decide +kernel
theorem dL_law_242 : decode cL_law 242 = .ok (.iconst 0, 1) := by decide +kernel
theorem dL_law_243 : decode cL_law 243 = .ok (.ireturn, 1) := by decide +kernel
theorem dL_law_244 : decode cL_law 244 = .ok (.iinc 16 1, 3) := by decide +kernel
theorem dL_law_247 : decode cL_law 247 = .ok (.goto (-75), 3) := by decide +kernel
theorem dL_law_250 : decode cL_law 250 = .ok (.aload_n 1, 1) := by decide +kernel
theorem dL_law_251 : decode cL_law 251 = .ok (.iload 13, 2) := by decide +kernel
theorem dL_law_253 : decode cL_law 253 = .ok (.invokevirtual 203, 3) := by decide +kernel
theorem dL_law_256 : decode cL_law 256 = .ok (.istore 16, 2) := by decide +kernel
theorem dL_law_258 : decode cL_law 258 = .ok (.iload 15, 2) := by decide +kernel
theorem dL_law_260 : decode cL_law 260 = .ok (.aload_n 1, 1) := by decide +kernel
theorem dL_law_261 : decode cL_law 261 = .ok (.iload 13, 2) := by decide +kernel
theorem dL_law_263 : decode cL_law 263 = .ok (.invokevirtual 206, 3) := by decide +kernel
theorem dL_law_266 : decode cL_law 266 = .ok (.if_icmp .ne 98, 3) := by decide +kernel
theorem dL_law_269 : decode cL_law 269 = .ok (.iload 14, 2) := by decide +kernel
theorem dL_law_271 : decode cL_law 271 = .ok (.aload_n 1, 1) := by decide +kernel
theorem dL_law_272 : decode cL_law 272 = .ok (.invokevirtual 209, 3) := by decide +kernel
theorem dL_law_275 : decode cL_law 275 = .ok (.if_icmp .gt 89, 3) := by decide +kernel
theorem dL_law_278 : decode cL_law 278 = .ok (.aload_n 1, 1) := by decide +kernel
theorem dL_law_279 : decode cL_law 279 = .ok (.iload 13, 2) := by decide +kernel
theorem dL_law_281 : decode cL_law 281 = .ok (.invokevirtual 185, 3) := by decide +kernel
theorem dL_law_284 : decode cL_law 284 = .ok (.aload_n 1, 1) := by decide +kernel
theorem dL_law_285 : decode cL_law 285 = .ok (.iload 13, 2) := by decide +kernel
theorem dL_law_287 : decode cL_law 287 = .ok (.invokevirtual 212, 3) := by decide +kernel
theorem dL_law_290 : decode cL_law 290 = .ok (.iadd, 1) := by decide +kernel
theorem dL_law_291 : decode cL_law 291 = .ok (.aload_n 1, 1) := by decide +kernel
theorem dL_law_292 : decode cL_law 292 = .ok (.iload 13, 2) := by decide +kernel
theorem dL_law_294 : decode cL_law 294 = .ok (.invokevirtual 188, 3) := by decide +kernel
theorem dL_law_297 : decode cL_law 297 = .ok (.iadd, 1) := by decide +kernel
theorem dL_law_298 : decode cL_law 298 = .ok (.iload 14, 2) := by decide +kernel
theorem dL_law_300 : decode cL_law 300 = .ok (.if_icmp .gt 64, 3) := by decide +kernel
theorem dL_law_303 : decode cL_law 303 = .ok (.iload 14, 2) := by decide +kernel
theorem dL_law_305 : decode cL_law 305 = .ok (.aload_n 1, 1) := by decide +kernel
theorem dL_law_306 : decode cL_law 306 = .ok (.iload 13, 2) := by decide +kernel
theorem dL_law_308 : decode cL_law 308 = .ok (.invokevirtual 215, 3) := by decide +kernel
theorem dL_law_311 : decode cL_law 311 = .ok (.iadd, 1) := by decide +kernel
theorem dL_law_312 : decode cL_law 312 = .ok (.aload_n 1, 1) := by decide +kernel
theorem dL_law_313 : decode cL_law 313 = .ok (.invokevirtual 209, 3) := by decide +kernel
theorem dL_law_316 : decode cL_law 316 = .ok (.if_icmp .gt 48, 3) := by decide +kernel
theorem dL_law_319 : decode cL_law 319 = .ok (.aload_n 1, 1) := by decide +kernel
theorem dL_law_320 : decode cL_law 320 = .ok (.iload 13, 2) := by decide +kernel
theorem dL_law_322 : decode cL_law 322 = .ok (.invokevirtual 191, 3) := by decide +kernel
theorem dL_law_325 : decode cL_law 325 = .ok (.iload 14, 2) := by decide +kernel
theorem dL_law_327 : decode cL_law 327 = .ok (.if_icmp .gt 37, 3) := by decide +kernel
theorem dL_law_330 : decode cL_law 330 = .ok (.aload_n 1, 1) := by decide +kernel
theorem dL_law_331 : decode cL_law 331 = .ok (.iload 13, 2) := by decide +kernel
theorem dL_law_333 : decode cL_law 333 = .ok (.invokevirtual 191, 3) := by decide +kernel
theorem dL_law_336 : decode cL_law 336 = .ok (.iload 14, 2) := by decide +kernel
theorem dL_law_338 : decode cL_law 338 = .ok (.ineg, 1) := by decide +kernel
theorem dL_law_339 : decode cL_law 339 = .ok (.if_icmp .lt 25, 3) := by decide +kernel
theorem dL_law_342 : decode cL_law 342 = .ok (.aload_n 1, 1) := by decide +kernel
theorem dL_law_343 : decode cL_law 343 = .ok (.iload 13, 2) := by decide +kernel
theorem dL_law_345 : decode cL_law 345 = .ok (.invokevirtual 218, 3) := by decide +kernel
theorem dL_law_348 : decode cL_law 348 = .ok (.iload 14, 2) := by decide +kernel
theorem dL_law_350 : decode cL_law 350 = .ok (.if_icmp .gt 14, 3) := by decide +kernel
theorem dL_law_353 : decode cL_law 353 = .ok (.aload_n 1, 1) := by decide +kernel
theorem dL_law_354 : decode cL_law 354 = .ok (.iload 16, 2) := by decide +kernel
theorem dL_law_356 : decode cL_law 356 = .ok (.invokevirtual 221, 3) := by decide +kernel
theorem dL_law_359 : decode cL_law 359 = .ok (.iload 13, 2) := by decide +kernel
theorem dL_law_361 : decode cL_law 361 = .ok (.if_icmp .eq 5, 3) := by decide +kernel
theorem dL_law_364 : decode cL_law 364 = .ok (.iconst 0, 1) := by decide +kernel
theorem dL_law_365 : decode cL_law 365 = .ok (.ireturn, 1) := by decide +kernel
theorem dL_law_366 : decode cL_law 366 = .ok (.iload 16, 2) := by decide +kernel
theorem dL_law_368 : decode cL_law 368 = .ok (.ifCond .le 26, 3) := by decide +kernel
theorem dL_law_371 : decode cL_law 371 = .ok (.aload_n 1, 1) := by decide +kernel
theorem dL_law_372 : decode cL_law 372 = .ok (.aload_n 1, 1) := by decide +kernel
theorem dL_law_373 : decode cL_law 373 = .ok (.iload 16, 2) := by decide +kernel
theorem dL_law_375 : decode cL_law 375 = .ok (.iconst 1, 1) := by decide +kernel
theorem dL_law_376 : decode cL_law 376 = .ok (.isub, 1) := by decide +kernel
theorem dL_law_377 : decode cL_law 377 = .ok (.invokevirtual 221, 3) := by decide +kernel
theorem dL_law_380 : decode cL_law 380 = .ok (.invokevirtual 200, 3) := by decide +kernel
theorem dL_law_383 : decode cL_law 383 = .ok (.aload_n 1, 1) := by decide +kernel
theorem dL_law_384 : decode cL_law 384 = .ok (.iload 13, 2) := by decide +kernel
theorem dL_law_386 : decode cL_law 386 = .ok (.invokevirtual 200, 3) := by decide +kernel
theorem dL_law_389 : decode cL_law 389 = .ok (.if_icmp .ge 5, 3) := by decide +kernel
theorem dL_law_392 : decode cL_law 392 = .ok (.iconst 0, 1) := by decide +kernel
theorem dL_law_393 : decode cL_law 393 = .ok (.ireturn, 1) := by decide +kernel
theorem dL_law_394 : decode cL_law 394 = .ok (.iinc 13 1, 3) := by decide +kernel
theorem dL_law_397 : decode cL_law 397 = .ok (.goto (-293), 3) := by decide +kernel
theorem dL_law_400 : decode cL_law 400 = .ok (.iload 9, 2) := by decide +kernel
theorem dL_law_402 : decode cL_law 402 = .ok (.iload 10, 2) := by decide +kernel
theorem dL_law_404 : decode cL_law 404 = .ok (.if_icmp .ne 17, 3) := by decide +kernel
theorem dL_law_407 : decode cL_law 407 = .ok (.iload 11, 2) := by decide +kernel
theorem dL_law_409 : decode cL_law 409 = .ok (.ifCond .ne 12, 3) := by decide +kernel
theorem dL_law_412 : decode cL_law 412 = .ok (.iload 12, 2) := by decide +kernel
theorem dL_law_414 : decode cL_law 414 = .ok (.aload_n 1, 1) := by decide +kernel
theorem dL_law_415 : decode cL_law 415 = .ok (.invokevirtual 224, 3) := by decide +kernel
theorem dL_law_418 : decode cL_law 418 = .ok (.if_icmp .eq 5, 3) := by decide +kernel
theorem dL_law_421 : decode cL_law 421 = .ok (.iconst 0, 1) := by decide +kernel
theorem dL_law_422 : decode cL_law 422 = .ok (.ireturn, 1) := by decide +kernel
theorem dL_law_423 : decode cL_law 423 = .ok (.iconst 1, 1) := by decide +kernel
theorem dL_law_424 : decode cL_law 424 = .ok (.iload 5, 2) := by decide +kernel
theorem dL_law_426 : decode cL_law 426 = .ok (.iconst 4, 1) := by decide +kernel
theorem dL_law_427 : decode cL_law 427 = .ok (.ishr, 1) := by decide +kernel
theorem dL_law_428 : decode cL_law 428 = .ok (.iconst 3, 1) := by decide +kernel
theorem dL_law_429 : decode cL_law 429 = .ok (.invokestatic 35, 3) := by decide +kernel
theorem dL_law_432 : decode cL_law 432 = .ok (.iadd, 1) := by decide +kernel
theorem dL_law_433 : decode cL_law 433 = .ok (.istore 13, 2) := by decide +kernel
theorem dL_law_435 : decode cL_law 435 = .ok (.aload_n 1, 1) := by decide +kernel
theorem dL_law_436 : decode cL_law 436 = .ok (.iload 13, 2) := by decide +kernel
theorem dL_law_438 : decode cL_law 438 = .ok (.invokevirtual 227, 3) := by decide +kernel
theorem dL_law_441 : decode cL_law 441 = .ok (.istore 14, 2) := by decide +kernel
theorem dL_law_443 : decode cL_law 443 = .ok (.aload_n 1, 1) := by decide +kernel
theorem dL_law_444 : decode cL_law 444 = .ok (.iload 14, 2) := by decide +kernel
theorem dL_law_446 : decode cL_law 446 = .ok (.iload 13, 2) := by decide +kernel
theorem dL_law_448 : decode cL_law 448 = .ok (.invokevirtual 230, 3) := by decide +kernel
theorem dL_law_451 : decode cL_law 451 = .ok (.istore 15, 2) := by decide +kernel
theorem dL_law_453 : decode cL_law 453 = .ok (.iconst 0, 1) := by decide +kernel
theorem dL_law_454 : decode cL_law 454 = .ok (.istore 16, 2) := by decide +kernel
theorem dL_law_456 : decode cL_law 456 = .ok (.iload 16, 2) := by decide +kernel
theorem dL_law_458 : decode cL_law 458 = .ok (.iload 8, 2) := by decide +kernel
theorem dL_law_460 : decode cL_law 460 = .ok (.if_icmp .ge 24, 3) := by decide +kernel
theorem dL_law_463 : decode cL_law 463 = .ok (.aload_n 1, 1) := by decide +kernel
theorem dL_law_464 : decode cL_law 464 = .ok (.iload 16, 2) := by decide +kernel
theorem dL_law_466 : decode cL_law 466 = .ok (.iload 13, 2) := by decide +kernel
theorem dL_law_468 : decode cL_law 468 = .ok (.invokevirtual 230, 3) := by decide +kernel
theorem dL_law_471 : decode cL_law 471 = .ok (.iload 15, 2) := by decide +kernel
theorem dL_law_473 : decode cL_law 473 = .ok (.if_icmp .le 5, 3) := by decide +kernel
theorem dL_law_476 : decode cL_law 476 = .ok (.iconst 0, 1) := by decide +kernel
theorem dL_law_477 : decode cL_law 477 = .ok (.ireturn, 1) := by decide +kernel
theorem dL_law_478 : decode cL_law 478 = .ok (.iinc 16 1, 3) := by decide +kernel
theorem dL_law_481 : decode cL_law 481 = .ok (.goto (-25), 3) := by decide +kernel
theorem dL_law_484 : decode cL_law 484 = .ok (.aload_n 1, 1) := by decide +kernel
theorem dL_law_485 : decode cL_law 485 = .ok (.invokevirtual 179, 3) := by decide +kernel
theorem dL_law_488 : decode cL_law 488 = .ok (.lload 6, 2) := by decide +kernel
theorem dL_law_490 : decode cL_law 490 = .ok (.lcmp, 1) := by decide +kernel
theorem dL_law_491 : decode cL_law 491 = .ok (.ifCond .eq 5, 3) := by decide +kernel
theorem dL_law_494 : decode cL_law 494 = .ok (.iconst 0, 1) := by decide +kernel
theorem dL_law_495 : decode cL_law 495 = .ok (.ireturn, 1) := by decide +kernel
theorem dL_law_496 : decode cL_law 496 = .ok (.aload_n 1, 1) := by decide +kernel
theorem dL_law_497 : decode cL_law 497 = .ok (.invokevirtual 233, 3) := by decide +kernel
theorem dL_law_500 : decode cL_law 500 = .ok (.ifCond .le 72, 3) := by decide +kernel
theorem dL_law_503 : decode cL_law 503 = .ok (.iconst 0, 1) := by decide +kernel
theorem dL_law_504 : decode cL_law 504 = .ok (.istore 16, 2) := by decide +kernel
theorem dL_law_506 : decode cL_law 506 = .ok (.iconst 0, 1) := by decide +kernel
theorem dL_law_507 : decode cL_law 507 = .ok (.istore 17, 2) := by decide +kernel
theorem dL_law_509 : decode cL_law 509 = .ok (.iload 17, 2) := by decide +kernel
theorem dL_law_511 : decode cL_law 511 = .ok (.aload_n 1, 1) := by decide +kernel
theorem dL_law_512 : decode cL_law 512 = .ok (.invokevirtual 236, 3) := by decide +kernel
theorem dL_law_515 : decode cL_law 515 = .ok (.if_icmp .ge 37, 3) := by decide +kernel
theorem dL_law_518 : decode cL_law 518 = .ok (.iload 16, 2) := by decide +kernel
theorem dL_law_520 : decode cL_law 520 = .ok (.aload_n 1, 1) := by decide +kernel
theorem dL_law_521 : decode cL_law 521 = .ok (.iload 17, 2) := by decide +kernel
theorem dL_law_523 : decode cL_law 523 = .ok (.invokestatic 239, 3) := by decide +kernel
theorem dL_law_526 : decode cL_law 526 = .ok (.ifCond .eq 16, 3) := by decide +kernel
theorem dL_law_529 : decode cL_law 529 = .ok (.aload_n 1, 1) := by decide +kernel
theorem dL_law_530 : decode cL_law 530 = .ok (.iload 17, 2) := by decide +kernel
theorem dL_law_532 : decode cL_law 532 = .ok (.invokevirtual 243, 3) := by decide +kernel
theorem dL_law_535 : decode cL_law 535 = .ok (.ifCond .ne 7, 3) := by decide +kernel
theorem dL_law_538 : decode cL_law 538 = .ok (.iconst 1, 1) := by decide +kernel
theorem dL_law_539 : decode cL_law 539 = .ok (.goto 4, 3) := by decide +kernel
theorem dL_law_542 : decode cL_law 542 = .ok (.iconst 0, 1) := by decide +kernel
theorem dL_law_543 : decode cL_law 543 = .ok (.iadd, 1) := by decide +kernel
theorem dL_law_544 : decode cL_law 544 = .ok (.istore 16, 2) := by decide +kernel
theorem dL_law_546 : decode cL_law 546 = .ok (.iinc 17 1, 3) := by decide +kernel
theorem dL_law_549 : decode cL_law 549 = .ok (.goto (-40), 3) := by decide +kernel
theorem dL_law_552 : decode cL_law 552 = .ok (.aload_n 1, 1) := by decide +kernel
theorem dL_law_553 : decode cL_law 553 = .ok (.invokevirtual 160, 3) := by decide +kernel
theorem dL_law_556 : decode cL_law 556 = .ok (.iload 16, 2) := by decide +kernel
theorem dL_law_558 : decode cL_law 558 = .ok (.if_icmp .ne 12, 3) := by decide +kernel
theorem dL_law_561 : decode cL_law 561 = .ok (.aload_n 3, 1) := by decide +kernel
theorem dL_law_562 : decode cL_law 562 = .ok (.invokevirtual 157, 3) := by decide +kernel
theorem dL_law_565 : decode cL_law 565 = .ok (.iload 16, 2) := by decide +kernel
theorem dL_law_567 : decode cL_law 567 = .ok (.if_icmp .eq 5, 3) := by decide +kernel
theorem dL_law_570 : decode cL_law 570 = .ok (.iconst 0, 1) := by decide +kernel
theorem dL_law_571 : decode cL_law 571 = .ok (.ireturn, 1) := by decide +kernel
theorem dL_law_572 : decode cL_law 572 = .ok (.iconst 1, 1) := by decide +kernel
theorem dL_law_573 : decode cL_law 573 = .ok (.istore 16, 2) := by decide +kernel
theorem dL_law_575 : decode cL_law 575 = .ok (.iconst 0, 1) := by decide +kernel
theorem dL_law_576 : decode cL_law 576 = .ok (.istore 17, 2) := by decide +kernel
theorem dL_law_578 : decode cL_law 578 = .ok (.iload 17, 2) := by decide +kernel
theorem dL_law_580 : decode cL_law 580 = .ok (.iload 13, 2) := by decide +kernel
theorem dL_law_582 : decode cL_law 582 = .ok (.if_icmp .ge 51, 3) := by decide +kernel
theorem dL_law_585 : decode cL_law 585 = .ok (.iload 16, 2) := by decide +kernel
theorem dL_law_587 : decode cL_law 587 = .ok (.ifCond .eq 46, 3) := by decide +kernel
theorem dL_law_590 : decode cL_law 590 = .ok (.iload 12, 2) := by decide +kernel
theorem dL_law_592 : decode cL_law 592 = .ok (.iconst 1, 1) := by decide +kernel
theorem dL_law_593 : decode cL_law 593 = .ok (.if_icmp .le 16, 3) := by decide +kernel
theorem dL_law_596 : decode cL_law 596 = .ok (.aload_n 1, 1) := by decide +kernel
theorem dL_law_597 : decode cL_law 597 = .ok (.invokevirtual 209, 3) := by decide +kernel
theorem dL_law_600 : decode cL_law 600 = .ok (.bipush 20, 2) := by decide +kernel
theorem dL_law_602 : decode cL_law 602 = .ok (.if_icmp .ge 7, 3) := by decide +kernel
theorem dL_law_605 : decode cL_law 605 = .ok (.iconst 1, 1) := by decide +kernel
theorem dL_law_606 : decode cL_law 606 = .ok (.goto 4, 3) := by decide +kernel
theorem dL_law_609 : decode cL_law 609 = .ok (.iconst 0, 1) := by decide +kernel
theorem dL_law_610 : decode cL_law 610 = .ok (.istore 16, 2) := by decide +kernel
theorem dL_law_612 : decode cL_law 612 = .ok (.iload 16, 2) := by decide +kernel
theorem dL_law_614 : decode cL_law 614 = .ok (.ifCond .eq 13, 3) := by decide +kernel
theorem dL_law_617 : decode cL_law 617 = .ok (.aload_n 1, 1) := by decide +kernel
theorem dL_law_618 : decode cL_law 618 = .ok (.aload_n 3, 1) := by decide +kernel
theorem dL_law_619 : decode cL_law 619 = .ok (.invokestatic 246, 3) := by decide +kernel
theorem dL_law_622 : decode cL_law 622 = .ok (.ifCond .ne 5, 3) := by decide +kernel
theorem dL_law_625 : decode cL_law 625 = .ok (.iconst 0, 1) := by decide +kernel
theorem dL_law_626 : decode cL_law 626 = .ok (.ireturn, 1) := by decide +kernel
theorem dL_law_627 : decode cL_law 627 = .ok (.iinc 17 1, 3) := by decide +kernel
theorem dL_law_630 : decode cL_law 630 = .ok (.goto (-52), 3) := by decide +kernel
theorem dL_law_633 : decode cL_law 633 = .ok (.aload_n 1, 1) := by decide +kernel
theorem dL_law_634 : decode cL_law 634 = .ok (.iconst 0, 1) := by decide +kernel
theorem dL_law_635 : decode cL_law 635 = .ok (.invokevirtual 221, 3) := by decide +kernel
theorem dL_law_638 : decode cL_law 638 = .ok (.iload 14, 2) := by decide +kernel
theorem dL_law_640 : decode cL_law 640 = .ok (.if_icmp .ne 14, 3) := by decide +kernel
theorem dL_law_643 : decode cL_law 643 = .ok (.aload_n 1, 1) := by decide +kernel
theorem dL_law_644 : decode cL_law 644 = .ok (.iload 14, 2) := by decide +kernel
theorem dL_law_646 : decode cL_law 646 = .ok (.invokevirtual 200, 3) := by decide +kernel
theorem dL_law_649 : decode cL_law 649 = .ok (.iload 15, 2) := by decide +kernel
theorem dL_law_651 : decode cL_law 651 = .ok (.if_icmp .eq 5, 3) := by decide +kernel
theorem dL_law_654 : decode cL_law 654 = .ok (.iconst 0, 1) := by decide +kernel
theorem dL_law_655 : decode cL_law 655 = .ok (.ireturn, 1) := by decide +kernel
theorem dL_law_656 : decode cL_law 656 = .ok (.iinc 4 1, 3) := by decide +kernel
theorem dL_law_659 : decode cL_law 659 = .ok (.goto (-619), 3) := by decide +kernel
theorem dL_law_662 : decode cL_law 662 = .ok (.aload_n 3, 1) := by decide +kernel
theorem dL_law_663 : decode cL_law 663 = .ok (.aload_n 1, 1) := by decide +kernel
theorem dL_law_664 : decode cL_law 664 = .ok (.invokevirtual 250, 3) := by decide +kernel
theorem dL_law_667 : decode cL_law 667 = .ok (.ireturn, 1) := by decide +kernel
theorem dL_isOpen_0 : decode cL_isOpen 0 = .ok (.aload_n 0, 1) := by decide +kernel
theorem dL_isOpen_1 : decode cL_isOpen 1 = .ok (.iload_n 1, 1) := by decide +kernel
theorem dL_isOpen_2 : decode cL_isOpen 2 = .ok (.invokevirtual 254, 3) := by decide +kernel
theorem dL_isOpen_5 : decode cL_isOpen 5 = .ok (.ifCond .ge 7, 3) := by decide +kernel
theorem dL_isOpen_8 : decode cL_isOpen 8 = .ok (.iconst 1, 1) := by decide +kernel
theorem dL_isOpen_9 : decode cL_isOpen 9 = .ok (.goto 4, 3) := by decide +kernel
theorem dL_isOpen_12 : decode cL_isOpen 12 = .ok (.iconst 0, 1) := by decide +kernel
theorem dL_isOpen_13 : decode cL_isOpen 13 = .ok (.ireturn, 1) := by decide +kernel
theorem dL_isOpen_14 : decode cL_isOpen 14 = .ok (.astore_n 2, 1) := by decide +kernel
theorem dL_isOpen_15 : decode cL_isOpen 15 = .ok (.iconst 1, 1) := by decide +kernel
theorem dL_isOpen_16 : decode cL_isOpen 16 = .ok (.ireturn, 1) := by decide +kernel
theorem dL_pairs_0 : decode cL_pairs 0 = .ok (.aload_n 0, 1) := by decide +kernel
theorem dL_pairs_1 : decode cL_pairs 1 = .ok (.invokevirtual 183, 3) := by decide +kernel
theorem dL_pairs_4 : decode cL_pairs 4 = .ok (.istore_n 2, 1) := by decide +kernel
theorem dL_pairs_5 : decode cL_pairs 5 = .ok (.iload_n 2, 1) := by decide +kernel
theorem dL_pairs_6 : decode cL_pairs 6 = .ok (.newarray .int, 2) := by decide +kernel
theorem dL_pairs_8 : decode cL_pairs 8 = .ok (.astore_n 3, 1) := by decide +kernel
theorem dL_pairs_9 : decode cL_pairs 9 = .ok (.iload_n 2, 1) := by decide +kernel
theorem dL_pairs_10 : decode cL_pairs 10 = .ok (.newarray .int, 2) := by decide +kernel
theorem dL_pairs_12 : decode cL_pairs 12 = .ok (.astore 4, 2) := by decide +kernel
theorem dL_pairs_14 : decode cL_pairs 14 = .ok (.iload_n 2, 1) := by decide +kernel
theorem dL_pairs_15 : decode cL_pairs 15 = .ok (.newarray .int, 2) := by decide +kernel
theorem dL_pairs_17 : decode cL_pairs 17 = .ok (.astore 5, 2) := by decide +kernel
theorem dL_pairs_19 : decode cL_pairs 19 = .ok (.iload_n 2, 1) := by decide +kernel
theorem dL_pairs_20 : decode cL_pairs 20 = .ok (.newarray .int, 2) := by decide +kernel
theorem dL_pairs_22 : decode cL_pairs 22 = .ok (.astore 6, 2) := by decide +kernel
theorem dL_pairs_24 : decode cL_pairs 24 = .ok (.iload_n 2, 1) := by decide +kernel
theorem dL_pairs_25 : decode cL_pairs 25 = .ok (.newarray .int, 2) := by decide +kernel
theorem dL_pairs_27 : decode cL_pairs 27 = .ok (.astore 7, 2) := by decide +kernel
theorem dL_pairs_29 : decode cL_pairs 29 = .ok (.iconst 0, 1) := by decide +kernel
theorem dL_pairs_30 : decode cL_pairs 30 = .ok (.istore 8, 2) := by decide +kernel
theorem dL_pairs_32 : decode cL_pairs 32 = .ok (.iload 8, 2) := by decide +kernel
theorem dL_pairs_34 : decode cL_pairs 34 = .ok (.iload_n 2, 1) := by decide +kernel
theorem dL_pairs_35 : decode cL_pairs 35 = .ok (.if_icmp .ge 73, 3) := by decide +kernel
theorem dL_pairs_38 : decode cL_pairs 38 = .ok (.aload 4, 2) := by decide +kernel
theorem dL_pairs_40 : decode cL_pairs 40 = .ok (.iload 8, 2) := by decide +kernel
theorem dL_pairs_42 : decode cL_pairs 42 = .ok (.aload_n 0, 1) := by decide +kernel
theorem dL_pairs_43 : decode cL_pairs 43 = .ok (.iload 8, 2) := by decide +kernel
theorem dL_pairs_45 : decode cL_pairs 45 = .ok (.invokevirtual 200, 3) := by decide +kernel
theorem dL_pairs_48 : decode cL_pairs 48 = .ok (.iastore, 1) := by decide +kernel
theorem dL_pairs_49 : decode cL_pairs 49 = .ok (.aload 5, 2) := by decide +kernel
theorem dL_pairs_51 : decode cL_pairs 51 = .ok (.iload 8, 2) := by decide +kernel
theorem dL_pairs_53 : decode cL_pairs 53 = .ok (.aload_n 0, 1) := by decide +kernel
theorem dL_pairs_54 : decode cL_pairs 54 = .ok (.iload 8, 2) := by decide +kernel
theorem dL_pairs_56 : decode cL_pairs 56 = .ok (.invokevirtual 191, 3) := by decide +kernel
theorem dL_pairs_59 : decode cL_pairs 59 = .ok (.iastore, 1) := by decide +kernel
theorem dL_pairs_60 : decode cL_pairs 60 = .ok (.aload 6, 2) := by decide +kernel
theorem dL_pairs_62 : decode cL_pairs 62 = .ok (.iload 8, 2) := by decide +kernel
theorem dL_pairs_64 : decode cL_pairs 64 = .ok (.aload_n 0, 1) := by decide +kernel
theorem dL_pairs_65 : decode cL_pairs 65 = .ok (.iload 8, 2) := by decide +kernel
theorem dL_pairs_67 : decode cL_pairs 67 = .ok (.invokevirtual 218, 3) := by decide +kernel
theorem dL_pairs_70 : decode cL_pairs 70 = .ok (.iastore, 1) := by decide +kernel
theorem dL_pairs_71 : decode cL_pairs 71 = .ok (.aload 7, 2) := by decide +kernel
theorem dL_pairs_73 : decode cL_pairs 73 = .ok (.iload 8, 2) := by decide +kernel
theorem dL_pairs_75 : decode cL_pairs 75 = .ok (.aload_n 0, 1) := by decide +kernel
theorem dL_pairs_76 : decode cL_pairs 76 = .ok (.iload 8, 2) := by decide +kernel
theorem dL_pairs_78 : decode cL_pairs 78 = .ok (.invokevirtual 215, 3) := by decide +kernel
theorem dL_pairs_81 : decode cL_pairs 81 = .ok (.iastore, 1) := by decide +kernel
theorem dL_pairs_82 : decode cL_pairs 82 = .ok (.aload_n 3, 1) := by decide +kernel
theorem dL_pairs_83 : decode cL_pairs 83 = .ok (.iload 8, 2) := by decide +kernel
theorem dL_pairs_85 : decode cL_pairs 85 = .ok (.aload_n 0, 1) := by decide +kernel
theorem dL_pairs_86 : decode cL_pairs 86 = .ok (.iload 8, 2) := by decide +kernel
theorem dL_pairs_88 : decode cL_pairs 88 = .ok (.invokevirtual 257, 3) := by decide +kernel
theorem dL_pairs_91 : decode cL_pairs 91 = .ok (.iastore, 1) := by decide +kernel
theorem dL_pairs_92 : decode cL_pairs 92 = .ok (.goto 10, 3) := by decide +kernel
theorem dL_pairs_95 : decode cL_pairs 95 = .ok (.astore 9, 2) := by decide +kernel
theorem dL_pairs_97 : decode cL_pairs 97 = .ok (.aload_n 3, 1) := by decide +kernel
theorem dL_pairs_98 : decode cL_pairs 98 = .ok (.iload 8, 2) := by decide +kernel
theorem dL_pairs_100 : decode cL_pairs 100 = .ok (.iconst (-1), 1) := by decide +kernel
theorem dL_pairs_101 : decode cL_pairs 101 = .ok (.iastore, 1) := by decide +kernel
theorem dL_pairs_102 : decode cL_pairs 102 = .ok (.iinc 8 1, 3) := by decide +kernel
theorem dL_pairs_105 : decode cL_pairs 105 = .ok (.goto (-73), 3) := by decide +kernel
theorem dL_pairs_108 : decode cL_pairs 108 = .ok (.aload_n 0, 1) := by decide +kernel
theorem dL_pairs_109 : decode cL_pairs 109 = .ok (.invokevirtual 260, 3) := by decide +kernel
theorem dL_pairs_112 : decode cL_pairs 112 = .ok (.istore 8, 2) := by decide +kernel
theorem dL_pairs_114 : decode cL_pairs 114 = .ok (.iconst 0, 1) := by decide +kernel
theorem dL_pairs_115 : decode cL_pairs 115 = .ok (.istore 9, 2) := by decide +kernel
theorem dL_pairs_117 : decode cL_pairs 117 = .ok (.aload_n 0, 1) := by decide +kernel
theorem dL_pairs_118 : decode cL_pairs 118 = .ok (.invokevirtual 145, 3) := by decide +kernel
theorem dL_pairs_121 : decode cL_pairs 121 = .ok (.istore 10, 2) := by decide +kernel
theorem dL_pairs_123 : decode cL_pairs 123 = .ok (.aload_n 1, 1) := by decide +kernel
theorem dL_pairs_124 : decode cL_pairs 124 = .ok (.invokevirtual 142, 3) := by decide +kernel
theorem dL_pairs_127 : decode cL_pairs 127 = .ok (.iload 10, 2) := by decide +kernel
theorem dL_pairs_129 : decode cL_pairs 129 = .ok (.aload_n 0, 1) := by decide +kernel
theorem dL_pairs_130 : decode cL_pairs 130 = .ok (.invokevirtual 224, 3) := by decide +kernel
theorem dL_pairs_133 : decode cL_pairs 133 = .ok (.iconst 2, 1) := by decide +kernel
theorem dL_pairs_134 : decode cL_pairs 134 = .ok (.idiv, 1) := by decide +kernel
theorem dL_pairs_135 : decode cL_pairs 135 = .ok (.if_icmp .ne 12, 3) := by decide +kernel
theorem dL_pairs_138 : decode cL_pairs 138 = .ok (.aload_n 0, 1) := by decide +kernel
theorem dL_pairs_139 : decode cL_pairs 139 = .ok (.invokevirtual 233, 3) := by decide +kernel
theorem dL_pairs_142 : decode cL_pairs 142 = .ok (.iload 10, 2) := by decide +kernel
theorem dL_pairs_144 : decode cL_pairs 144 = .ok (.if_icmp .eq 5, 3) := by decide +kernel
theorem dL_pairs_147 : decode cL_pairs 147 = .ok (.iconst 0, 1) := by decide +kernel
theorem dL_pairs_148 : decode cL_pairs 148 = .ok (.ireturn, 1) := by decide +kernel
theorem dL_pairs_149 : decode cL_pairs 149 = .ok (.iconst (-1), 1) := by decide +kernel
theorem dL_pairs_150 : decode cL_pairs 150 = .ok (.istore 11, 2) := by decide +kernel
theorem dL_pairs_152 : decode cL_pairs 152 = .ok (.iconst 0, 1) := by decide +kernel
theorem dL_pairs_153 : decode cL_pairs 153 = .ok (.istore 12, 2) := by decide +kernel
theorem dL_pairs_155 : decode cL_pairs 155 = .ok (.iload 12, 2) := by decide +kernel
theorem dL_pairs_157 : decode cL_pairs 157 = .ok (.iload_n 2, 1) := by decide +kernel
theorem dL_pairs_158 : decode cL_pairs 158 = .ok (.if_icmp .ge 143, 3) := by decide +kernel
theorem dL_pairs_161 : decode cL_pairs 161 = .ok (.aload_n 0, 1) := by decide +kernel
theorem dL_pairs_162 : decode cL_pairs 162 = .ok (.iload 12, 2) := by decide +kernel
theorem dL_pairs_164 : decode cL_pairs 164 = .ok (.invokevirtual 194, 3) := by decide +kernel
theorem dL_pairs_167 : decode cL_pairs 167 = .ok (.ifCond .ne 27, 3) := by decide +kernel
theorem dL_pairs_170 : decode cL_pairs 170 = .ok (.aload_n 3, 1) := by decide +kernel
theorem dL_pairs_171 : decode cL_pairs 171 = .ok (.iload 12, 2) := by decide +kernel
theorem dL_pairs_173 : decode cL_pairs 173 = .ok (.iaload, 1) := by decide +kernel
theorem dL_pairs_174 : decode cL_pairs 174 = .ok (.iconst (-1), 1) := by decide +kernel
theorem dL_pairs_175 : decode cL_pairs 175 = .ok (.if_icmp .ne 17, 3) := by decide +kernel
theorem dL_pairs_178 : decode cL_pairs 178 = .ok (.aload_n 0, 1) := by decide +kernel
theorem dL_pairs_179 : decode cL_pairs 179 = .ok (.iload 12, 2) := by decide +kernel
theorem dL_pairs_181 : decode cL_pairs 181 = .ok (.invokevirtual 215, 3) := by decide +kernel
theorem dL_pairs_184 : decode cL_pairs 184 = .ok (.aload 7, 2) := by decide +kernel
theorem dL_pairs_186 : decode cL_pairs 186 = .ok (.iload 12, 2) := by decide +kernel
theorem dL_pairs_188 : decode cL_pairs 188 = .ok (.iaload, 1) := by decide +kernel
theorem dL_pairs_189 : decode cL_pairs 189 = .ok (.if_icmp .eq 106, 3) := by decide +kernel
theorem dL_pairs_192 : decode cL_pairs 192 = .ok (.iconst 0, 1) := by decide +kernel
theorem dL_pairs_193 : decode cL_pairs 193 = .ok (.ireturn, 1) := by decide +kernel
theorem dL_pairs_194 : decode cL_pairs 194 = .ok (.aload_n 3, 1) := by decide +kernel
theorem dL_pairs_195 : decode cL_pairs 195 = .ok (.iload 12, 2) := by decide +kernel
theorem dL_pairs_197 : decode cL_pairs 197 = .ok (.iaload, 1) := by decide +kernel
theorem dL_pairs_198 : decode cL_pairs 198 = .ok (.iconst (-1), 1) := by decide +kernel
theorem dL_pairs_199 : decode cL_pairs 199 = .ok (.if_icmp .ne 56, 3) := by decide +kernel
theorem dL_pairs_202 : decode cL_pairs 202 = .ok (.iload 11, 2) := by decide +kernel
theorem dL_pairs_204 : decode cL_pairs 204 = .ok (.ifCond .ge 42, 3) := by decide +kernel
theorem dL_pairs_207 : decode cL_pairs 207 = .ok (.aload_n 0, 1) := by decide +kernel
theorem dL_pairs_208 : decode cL_pairs 208 = .ok (.invokevirtual 263, 3) := by decide +kernel
theorem dL_pairs_211 : decode cL_pairs 211 = .ok (.iload 12, 2) := by decide +kernel
theorem dL_pairs_213 : decode cL_pairs 213 = .ok (.if_icmp .ne 33, 3) := by decide +kernel
theorem dL_pairs_216 : decode cL_pairs 216 = .ok (.aload_n 0, 1) := by decide +kernel
theorem dL_pairs_217 : decode cL_pairs 217 = .ok (.iload 12, 2) := by decide +kernel
theorem dL_pairs_219 : decode cL_pairs 219 = .ok (.invokevirtual 215, 3) := by decide +kernel
theorem dL_pairs_222 : decode cL_pairs 222 = .ok (.aload 7, 2) := by decide +kernel
theorem dL_pairs_224 : decode cL_pairs 224 = .ok (.iload 12, 2) := by decide +kernel
theorem dL_pairs_226 : decode cL_pairs 226 = .ok (.iaload, 1) := by decide +kernel
theorem dL_pairs_227 : decode cL_pairs 227 = .ok (.iconst 1, 1) := by decide +kernel
theorem dL_pairs_228 : decode cL_pairs 228 = .ok (.iadd, 1) := by decide +kernel
theorem dL_pairs_229 : decode cL_pairs 229 = .ok (.if_icmp .ne 17, 3) := by decide +kernel
theorem dL_pairs_232 : decode cL_pairs 232 = .ok (.aload_n 0, 1) := by decide +kernel
theorem dL_pairs_233 : decode cL_pairs 233 = .ok (.iload 12, 2) := by decide +kernel
theorem dL_pairs_235 : decode cL_pairs 235 = .ok (.invokevirtual 200, 3) := by decide +kernel
theorem dL_pairs_238 : decode cL_pairs 238 = .ok (.aload 4, 2) := by decide +kernel
theorem dL_pairs_240 : decode cL_pairs 240 = .ok (.iload 12, 2) := by decide +kernel
theorem dL_pairs_242 : decode cL_pairs 242 = .ok (.iaload, 1) := by decide +kernel
theorem dL_pairs_243 : decode cL_pairs 243 = .ok (.if_icmp .ge 5, 3) := by decide +kernel
theorem dL_pairs_246 : decode cL_pairs 246 = .ok (.iconst 0, 1) := by decide +kernel
theorem dL_pairs_247 : decode cL_pairs 247 = .ok (.ireturn, 1) := by decide +kernel
theorem dL_pairs_248 : decode cL_pairs 248 = .ok (.iload 12, 2) := by decide +kernel
theorem dL_pairs_250 : decode cL_pairs 250 = .ok (.istore 11, 2) := by decide +kernel
theorem dL_pairs_252 : decode cL_pairs 252 = .ok (.goto 43, 3) := by decide +kernel
theorem dL_pairs_255 : decode cL_pairs 255 = .ok (.aload_n 3, 1) := by decide +kernel
theorem dL_pairs_256 : decode cL_pairs 256 = .ok (.aload_n 3, 1) := by decide +kernel
theorem dL_pairs_257 : decode cL_pairs 257 = .ok (.iload 12, 2) := by decide +kernel
theorem dL_pairs_259 : decode cL_pairs 259 = .ok (.iaload, 1) := by decide +kernel
theorem dL_pairs_260 : decode cL_pairs 260 = .ok (.iaload, 1) := by decide +kernel
theorem dL_pairs_261 : decode cL_pairs 261 = .ok (.iload 12, 2) := by decide +kernel
theorem dL_pairs_263 : decode cL_pairs 263 = .ok (.if_icmp .ne 30, 3) := by decide +kernel
theorem dL_pairs_266 : decode cL_pairs 266 = .ok (.aload_n 0, 1) := by decide +kernel
theorem dL_pairs_267 : decode cL_pairs 267 = .ok (.iload 12, 2) := by decide +kernel
theorem dL_pairs_269 : decode cL_pairs 269 = .ok (.invokevirtual 266, 3) := by decide +kernel
theorem dL_pairs_272 : decode cL_pairs 272 = .ok (.aload_n 3, 1) := by decide +kernel
theorem dL_pairs_273 : decode cL_pairs 273 = .ok (.iload 12, 2) := by decide +kernel
theorem dL_pairs_275 : decode cL_pairs 275 = .ok (.iaload, 1) := by decide +kernel
theorem dL_pairs_276 : decode cL_pairs 276 = .ok (.if_icmp .ne 17, 3) := by decide +kernel
theorem dL_pairs_279 : decode cL_pairs 279 = .ok (.aload_n 0, 1) := by decide +kernel
theorem dL_pairs_280 : decode cL_pairs 280 = .ok (.iload 12, 2) := by decide +kernel
theorem dL_pairs_282 : decode cL_pairs 282 = .ok (.invokevirtual 215, 3) := by decide +kernel
theorem dL_pairs_285 : decode cL_pairs 285 = .ok (.aload 7, 2) := by decide +kernel
theorem dL_pairs_287 : decode cL_pairs 287 = .ok (.iload 12, 2) := by decide +kernel
theorem dL_pairs_289 : decode cL_pairs 289 = .ok (.iaload, 1) := by decide +kernel
theorem dL_pairs_290 : decode cL_pairs 290 = .ok (.if_icmp .eq 5, 3) := by decide +kernel
theorem dL_pairs_293 : decode cL_pairs 293 = .ok (.iconst 0, 1) := by decide +kernel
theorem dL_pairs_294 : decode cL_pairs 294 = .ok (.ireturn, 1) := by decide +kernel
theorem dL_pairs_295 : decode cL_pairs 295 = .ok (.iinc 12 1, 3) := by decide +kernel
theorem dL_pairs_298 : decode cL_pairs 298 = .ok (.goto (-143), 3) := by decide +kernel
theorem dL_pairs_301 : decode cL_pairs 301 = .ok (.iload 11, 2) := by decide +kernel
theorem dL_pairs_303 : decode cL_pairs 303 = .ok (.ifCond .lt 7, 3) := by decide +kernel
theorem dL_pairs_306 : decode cL_pairs 306 = .ok (.iconst 1, 1) := by decide +kernel
theorem dL_pairs_307 : decode cL_pairs 307 = .ok (.goto 4, 3) := by decide +kernel
theorem dL_pairs_310 : decode cL_pairs 310 = .ok (.iconst 0, 1) := by decide +kernel
theorem dL_pairs_311 : decode cL_pairs 311 = .ok (.aload_n 0, 1) := by decide +kernel
theorem dL_pairs_312 : decode cL_pairs 312 = .ok (.invokevirtual 224, 3) := by decide +kernel
theorem dL_pairs_315 : decode cL_pairs 315 = .ok (.iconst 2, 1) := by decide +kernel
theorem dL_pairs_316 : decode cL_pairs 316 = .ok (.irem, 1) := by decide +kernel
theorem dL_pairs_317 : decode cL_pairs 317 = .ok (.iconst 1, 1) := by decide +kernel
theorem dL_pairs_318 : decode cL_pairs 318 = .ok (.if_icmp .ne 7, 3) := by decide +kernel
theorem dL_pairs_321 : decode cL_pairs 321 = .ok (.iconst 1, 1) := by decide +kernel
theorem dL_pairs_322 : decode cL_pairs 322 = .ok (.goto 4, 3) := by decide +kernel
theorem dL_pairs_325 : decode cL_pairs 325 = .ok (.iconst 0, 1) := by decide +kernel
theorem dL_pairs_326 : decode cL_pairs 326 = .ok (.if_icmp .eq 5, 3) := by decide +kernel
theorem dL_pairs_329 : decode cL_pairs 329 = .ok (.iconst 0, 1) := by decide +kernel
theorem dL_pairs_330 : decode cL_pairs 330 = .ok (.ireturn, 1) := by decide +kernel
theorem dL_pairs_331 : decode cL_pairs 331 = .ok (.iconst 0, 1) := by decide +kernel
theorem dL_pairs_332 : decode cL_pairs 332 = .ok (.istore 12, 2) := by decide +kernel
theorem dL_pairs_334 : decode cL_pairs 334 = .ok (.iload 12, 2) := by decide +kernel
theorem dL_pairs_336 : decode cL_pairs 336 = .ok (.iload_n 2, 1) := by decide +kernel
theorem dL_pairs_337 : decode cL_pairs 337 = .ok (.if_icmp .ge 38, 3) := by decide +kernel
theorem dL_pairs_340 : decode cL_pairs 340 = .ok (.iload 11, 2) := by decide +kernel
theorem dL_pairs_342 : decode cL_pairs 342 = .ok (.ifCond .lt 27, 3) := by decide +kernel
theorem dL_pairs_345 : decode cL_pairs 345 = .ok (.aload_n 0, 1) := by decide +kernel
theorem dL_pairs_346 : decode cL_pairs 346 = .ok (.iload 12, 2) := by decide +kernel
theorem dL_pairs_348 : decode cL_pairs 348 = .ok (.invokevirtual 194, 3) := by decide +kernel
theorem dL_pairs_351 : decode cL_pairs 351 = .ok (.ifCond .eq 18, 3) := by decide +kernel
theorem dL_pairs_354 : decode cL_pairs 354 = .ok (.aload 7, 2) := by decide +kernel
theorem dL_pairs_356 : decode cL_pairs 356 = .ok (.iload 12, 2) := by decide +kernel
theorem dL_pairs_358 : decode cL_pairs 358 = .ok (.iaload, 1) := by decide +kernel
theorem dL_pairs_359 : decode cL_pairs 359 = .ok (.aload 7, 2) := by decide +kernel
theorem dL_pairs_361 : decode cL_pairs 361 = .ok (.iload 11, 2) := by decide +kernel
theorem dL_pairs_363 : decode cL_pairs 363 = .ok (.iaload, 1) := by decide +kernel
theorem dL_pairs_364 : decode cL_pairs 364 = .ok (.if_icmp .ge 5, 3) := by decide +kernel
theorem dL_pairs_367 : decode cL_pairs 367 = .ok (.iconst 0, 1) := by decide +kernel
theorem dL_pairs_368 : decode cL_pairs 368 = .ok (.ireturn, 1) := by decide +kernel
theorem dL_pairs_369 : decode cL_pairs 369 = .ok (.iinc 12 1, 3) := by decide +kernel
theorem dL_pairs_372 : decode cL_pairs 372 = .ok (.goto (-38), 3) := by decide +kernel
theorem dL_pairs_375 : decode cL_pairs 375 = .ok (.iconst 0, 1) := by decide +kernel
theorem dL_pairs_376 : decode cL_pairs 376 = .ok (.istore 12, 2) := by decide +kernel
theorem dL_pairs_378 : decode cL_pairs 378 = .ok (.iload 12, 2) := by decide +kernel
theorem dL_pairs_380 : decode cL_pairs 380 = .ok (.iload 10, 2) := by decide +kernel
theorem dL_pairs_382 : decode cL_pairs 382 = .ok (.if_icmp .ge 162, 3) := by decide +kernel
theorem dL_pairs_385 : decode cL_pairs 385 = .ok (.aload_n 0, 1) := by decide +kernel
theorem dL_pairs_386 : decode cL_pairs 386 = .ok (.iload 12, 2) := by decide +kernel
theorem dL_pairs_388 : decode cL_pairs 388 = .ok (.invokevirtual 269, 3) := by decide +kernel
theorem dL_pairs_391 : decode cL_pairs 391 = .ok (.istore 13, 2) := by decide +kernel
theorem dL_pairs_393 : decode cL_pairs 393 = .ok (.aload_n 0, 1) := by decide +kernel
theorem dL_pairs_394 : decode cL_pairs 394 = .ok (.iload 12, 2) := by decide +kernel
theorem dL_pairs_396 : decode cL_pairs 396 = .ok (.invokevirtual 272, 3) := by decide +kernel
theorem dL_pairs_399 : decode cL_pairs 399 = .ok (.istore 14, 2) := by decide +kernel
theorem dL_pairs_401 : decode cL_pairs 401 = .ok (.iload 9, 2) := by decide +kernel
theorem dL_pairs_403 : decode cL_pairs 403 = .ok (.aload_n 0, 1) := by decide +kernel
theorem dL_pairs_404 : decode cL_pairs 404 = .ok (.iload 13, 2) := by decide +kernel
theorem dL_pairs_406 : decode cL_pairs 406 = .ok (.iload 14, 2) := by decide +kernel
theorem dL_pairs_408 : decode cL_pairs 408 = .ok (.invokevirtual 197, 3) := by decide +kernel
theorem dL_pairs_411 : decode cL_pairs 411 = .ok (.iconst 1, 1) := by decide +kernel
theorem dL_pairs_412 : decode cL_pairs 412 = .ok (.if_icmp .le 7, 3) := by decide +kernel
theorem dL_pairs_415 : decode cL_pairs 415 = .ok (.iconst 1, 1) := by decide +kernel
theorem dL_pairs_416 : decode cL_pairs 416 = .ok (.goto 4, 3) := by decide +kernel
theorem dL_pairs_419 : decode cL_pairs 419 = .ok (.iconst 0, 1) := by decide +kernel
theorem dL_pairs_420 : decode cL_pairs 420 = .ok (.iadd, 1) := by decide +kernel
theorem dL_pairs_421 : decode cL_pairs 421 = .ok (.istore 9, 2) := by decide +kernel
theorem dL_pairs_423 : decode cL_pairs 423 = .ok (.aload 5, 2) := by decide +kernel
theorem dL_pairs_425 : decode cL_pairs 425 = .ok (.iload 13, 2) := by decide +kernel
theorem dL_pairs_427 : decode cL_pairs 427 = .ok (.iaload, 1) := by decide +kernel
theorem dL_pairs_428 : decode cL_pairs 428 = .ok (.aload 5, 2) := by decide +kernel
theorem dL_pairs_430 : decode cL_pairs 430 = .ok (.iload 14, 2) := by decide +kernel
theorem dL_pairs_432 : decode cL_pairs 432 = .ok (.iaload, 1) := by decide +kernel
theorem dL_pairs_433 : decode cL_pairs 433 = .ok (.if_icmp .gt 35, 3) := by decide +kernel
theorem dL_pairs_436 : decode cL_pairs 436 = .ok (.aload_n 0, 1) := by decide +kernel
theorem dL_pairs_437 : decode cL_pairs 437 = .ok (.iload 13, 2) := by decide +kernel
theorem dL_pairs_439 : decode cL_pairs 439 = .ok (.invokevirtual 191, 3) := by decide +kernel
theorem dL_pairs_442 : decode cL_pairs 442 = .ok (.aload 5, 2) := by decide +kernel
theorem dL_pairs_444 : decode cL_pairs 444 = .ok (.iload 13, 2) := by decide +kernel
theorem dL_pairs_446 : decode cL_pairs 446 = .ok (.iaload, 1) := by decide +kernel
theorem dL_pairs_447 : decode cL_pairs 447 = .ok (.iconst 1, 1) := by decide +kernel
theorem dL_pairs_448 : decode cL_pairs 448 = .ok (.iadd, 1) := by decide +kernel
theorem dL_pairs_449 : decode cL_pairs 449 = .ok (.if_icmp .ne 19, 3) := by decide +kernel
theorem dL_pairs_452 : decode cL_pairs 452 = .ok (.aload_n 0, 1) := by decide +kernel
theorem dL_pairs_453 : decode cL_pairs 453 = .ok (.iload 14, 2) := by decide +kernel
theorem dL_pairs_455 : decode cL_pairs 455 = .ok (.invokevirtual 191, 3) := by decide +kernel
theorem dL_pairs_458 : decode cL_pairs 458 = .ok (.aload 5, 2) := by decide +kernel
theorem dL_pairs_460 : decode cL_pairs 460 = .ok (.iload 14, 2) := by decide +kernel
theorem dL_pairs_462 : decode cL_pairs 462 = .ok (.iaload, 1) := by decide +kernel
theorem dL_pairs_463 : decode cL_pairs 463 = .ok (.iconst 1, 1) := by decide +kernel
theorem dL_pairs_464 : decode cL_pairs 464 = .ok (.isub, 1) := by decide +kernel
theorem dL_pairs_465 : decode cL_pairs 465 = .ok (.if_icmp .eq 5, 3) := by decide +kernel
theorem dL_pairs_468 : decode cL_pairs 468 = .ok (.iconst 0, 1) := by decide +kernel
theorem dL_pairs_469 : decode cL_pairs 469 = .ok (.ireturn, 1) := by decide +kernel
theorem dL_pairs_470 : decode cL_pairs 470 = .ok (.aload_n 0, 1) := by decide +kernel
theorem dL_pairs_471 : decode cL_pairs 471 = .ok (.iload 13, 2) := by decide +kernel
theorem dL_pairs_473 : decode cL_pairs 473 = .ok (.invokevirtual 218, 3) := by decide +kernel
theorem dL_pairs_476 : decode cL_pairs 476 = .ok (.aload 6, 2) := by decide +kernel
theorem dL_pairs_478 : decode cL_pairs 478 = .ok (.iload 13, 2) := by decide +kernel
theorem dL_pairs_480 : decode cL_pairs 480 = .ok (.iaload, 1) := by decide +kernel
theorem dL_pairs_481 : decode cL_pairs 481 = .ok (.isub, 1) := by decide +kernel
theorem dL_pairs_482 : decode cL_pairs 482 = .ok (.aload 4, 2) := by decide +kernel
theorem dL_pairs_484 : decode cL_pairs 484 = .ok (.iload 13, 2) := by decide +kernel
theorem dL_pairs_486 : decode cL_pairs 486 = .ok (.iaload, 1) := by decide +kernel
theorem dL_pairs_487 : decode cL_pairs 487 = .ok (.aload 4, 2) := by decide +kernel
theorem dL_pairs_489 : decode cL_pairs 489 = .ok (.iload 14, 2) := by decide +kernel
theorem dL_pairs_491 : decode cL_pairs 491 = .ok (.iaload, 1) := by decide +kernel
theorem dL_pairs_492 : decode cL_pairs 492 = .ok (.if_icmp .le 7, 3) := by decide +kernel
theorem dL_pairs_495 : decode cL_pairs 495 = .ok (.iconst 1, 1) := by decide +kernel
theorem dL_pairs_496 : decode cL_pairs 496 = .ok (.goto 4, 3) := by decide +kernel
theorem dL_pairs_499 : decode cL_pairs 499 = .ok (.iconst 0, 1) := by decide +kernel
theorem dL_pairs_500 : decode cL_pairs 500 = .ok (.if_icmp .ne 36, 3) := by decide +kernel
theorem dL_pairs_503 : decode cL_pairs 503 = .ok (.aload_n 0, 1) := by decide +kernel
theorem dL_pairs_504 : decode cL_pairs 504 = .ok (.iload 14, 2) := by decide +kernel
theorem dL_pairs_506 : decode cL_pairs 506 = .ok (.invokevirtual 218, 3) := by decide +kernel
theorem dL_pairs_509 : decode cL_pairs 509 = .ok (.aload 6, 2) := by decide +kernel
theorem dL_pairs_511 : decode cL_pairs 511 = .ok (.iload 14, 2) := by decide +kernel
theorem dL_pairs_513 : decode cL_pairs 513 = .ok (.iaload, 1) := by decide +kernel
theorem dL_pairs_514 : decode cL_pairs 514 = .ok (.isub, 1) := by decide +kernel
theorem dL_pairs_515 : decode cL_pairs 515 = .ok (.aload 4, 2) := by decide +kernel
theorem dL_pairs_517 : decode cL_pairs 517 = .ok (.iload 14, 2) := by decide +kernel
theorem dL_pairs_519 : decode cL_pairs 519 = .ok (.iaload, 1) := by decide +kernel
theorem dL_pairs_520 : decode cL_pairs 520 = .ok (.aload 4, 2) := by decide +kernel
theorem dL_pairs_522 : decode cL_pairs 522 = .ok (.iload 13, 2) := by decide +kernel
theorem dL_pairs_524 : decode cL_pairs 524 = .ok (.iaload, 1) := by decide +kernel
theorem dL_pairs_525 : decode cL_pairs 525 = .ok (.if_icmp .le 7, 3) := by decide +kernel
theorem dL_pairs_528 : decode cL_pairs 528 = .ok (.iconst 1, 1) := by decide +kernel
theorem dL_pairs_529 : decode cL_pairs 529 = .ok (.goto 4, 3) := by decide +kernel
theorem dL_pairs_532 : decode cL_pairs 532 = .ok (.iconst 0, 1) := by decide +kernel
theorem dL_pairs_533 : decode cL_pairs 533 = .ok (.if_icmp .eq 5, 3) := by decide +kernel
theorem dL_pairs_536 : decode cL_pairs 536 = .ok (.iconst 0, 1) := by decide +kernel
theorem dL_pairs_537 : decode cL_pairs 537 = .ok (.ireturn, 1) := by decide +kernel
theorem dL_pairs_538 : decode cL_pairs 538 = .ok (.iinc 12 1, 3) := by decide +kernel
theorem dL_pairs_541 : decode cL_pairs 541 = .ok (.goto (-163), 3) := by decide +kernel
theorem dL_pairs_544 : decode cL_pairs 544 = .ok (.aload_n 0, 1) := by decide +kernel
theorem dL_pairs_545 : decode cL_pairs 545 = .ok (.invokevirtual 160, 3) := by decide +kernel
theorem dL_pairs_548 : decode cL_pairs 548 = .ok (.istore 12, 2) := by decide +kernel
theorem dL_pairs_550 : decode cL_pairs 550 = .ok (.iload 9, 2) := by decide +kernel
theorem dL_pairs_552 : decode cL_pairs 552 = .ok (.iload 8, 2) := by decide +kernel
theorem dL_pairs_554 : decode cL_pairs 554 = .ok (.if_icmp .ne 16, 3) := by decide +kernel
theorem dL_pairs_557 : decode cL_pairs 557 = .ok (.aload_n 1, 1) := by decide +kernel
theorem dL_pairs_558 : decode cL_pairs 558 = .ok (.invokevirtual 157, 3) := by decide +kernel
theorem dL_pairs_561 : decode cL_pairs 561 = .ok (.iload 12, 2) := by decide +kernel
theorem dL_pairs_563 : decode cL_pairs 563 = .ok (.if_icmp .ne 7, 3) := by decide +kernel
theorem dL_pairs_566 : decode cL_pairs 566 = .ok (.iconst 1, 1) := by decide +kernel
theorem dL_pairs_567 : decode cL_pairs 567 = .ok (.goto 4, 3) := by decide +kernel
theorem dL_pairs_570 : decode cL_pairs 570 = .ok (.iconst 0, 1) := by decide +kernel
theorem dL_pairs_571 : decode cL_pairs 571 = .ok (.ireturn, 1) := by decide +kernel
