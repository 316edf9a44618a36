/-! decode rows -/
theorem dX9_init_0 : decode cX9_init 0 = .ok (.aload_n 0, 1) := by decide +kernel
theorem dX9_init_1 : decode cX9_init 1 = .ok (.invokespecial 1, 3) := by decide +kernel
theorem dX9_init_4 : decode cX9_init 4 = .ok (.aload_n 0, 1) := by decide +kernel
theorem dX9_init_5 : decode cX9_init 5 = .ok (.sipush 2000, 3) := by decide +kernel
theorem dX9_init_8 : decode cX9_init 8 = .ok (.newarray .int, 2) := by decide +kernel
theorem dX9_init_10 : decode cX9_init 10 = .ok (.putfield 9, 3) := by decide +kernel
theorem dX9_init_13 : decode cX9_init 13 = .ok (.aload_n 0, 1) := by decide +kernel
theorem dX9_init_14 : decode cX9_init 14 = .ok (.iconst (-1), 1) := by decide +kernel
theorem dX9_init_15 : decode cX9_init 15 = .ok (.putfield 13, 3) := by decide +kernel
theorem dX9_init_18 : decode cX9_init 18 = .ok (.aload_n 0, 1) := by decide +kernel
theorem dX9_init_19 : decode cX9_init 19 = .ok (.new 17, 3) := by decide +kernel
theorem dX9_init_22 : decode cX9_init 22 = .ok (.dup, 1) := by decide +kernel
theorem dX9_init_23 : decode cX9_init 23 = .ok (.invokespecial 19, 3) := by decide +kernel
theorem dX9_init_26 : decode cX9_init 26 = .ok (.putfield 20, 3) := by decide +kernel
theorem dX9_init_29 : decode cX9_init 29 = .ok (.aload_n 0, 1) := by decide +kernel
theorem dX9_init_30 : decode cX9_init 30 = .ok (.sipush 401, 3) := by decide +kernel
theorem dX9_init_33 : decode cX9_init 33 = .ok (.newarray .int, 2) := by decide +kernel
theorem dX9_init_35 : decode cX9_init 35 = .ok (.putfield 24, 3) := by decide +kernel
theorem dX9_init_38 : decode cX9_init 38 = .ok (.aload_n 0, 1) := by decide +kernel
theorem dX9_init_39 : decode cX9_init 39 = .ok (.sipush 401, 3) := by decide +kernel
theorem dX9_init_42 : decode cX9_init 42 = .ok (.newarray .int, 2) := by decide +kernel
theorem dX9_init_44 : decode cX9_init 44 = .ok (.putfield 27, 3) := by decide +kernel
theorem dX9_init_47 : decode cX9_init 47 = .ok (.aload_n 0, 1) := by decide +kernel
theorem dX9_init_48 : decode cX9_init 48 = .ok (.sipush 401, 3) := by decide +kernel
theorem dX9_init_51 : decode cX9_init 51 = .ok (.newarray .int, 2) := by decide +kernel
theorem dX9_init_53 : decode cX9_init 53 = .ok (.putfield 30, 3) := by decide +kernel
theorem dX9_init_56 : decode cX9_init 56 = .ok (.aload_n 0, 1) := by decide +kernel
theorem dX9_init_57 : decode cX9_init 57 = .ok (.sipush 401, 3) := by decide +kernel
theorem dX9_init_60 : decode cX9_init 60 = .ok (.newarray .long, 2) := by decide +kernel
theorem dX9_init_62 : decode cX9_init 62 = .ok (.putfield 33, 3) := by decide +kernel
theorem dX9_init_65 : decode cX9_init 65 = .ok (.aload_n 0, 1) := by decide +kernel
theorem dX9_init_66 : decode cX9_init 66 = .ok (.new 37, 3) := by decide +kernel
theorem dX9_init_69 : decode cX9_init 69 = .ok (.dup, 1) := by decide +kernel
theorem dX9_init_70 : decode cX9_init 70 = .ok (.invokespecial 39, 3) := by decide +kernel
theorem dX9_init_73 : decode cX9_init 73 = .ok (.putfield 40, 3) := by decide +kernel
theorem dX9_init_76 : decode cX9_init 76 = .ok (.aload_n 0, 1) := by decide +kernel
theorem dX9_init_77 : decode cX9_init 77 = .ok (.new 37, 3) := by decide +kernel
theorem dX9_init_80 : decode cX9_init 80 = .ok (.dup, 1) := by decide +kernel
theorem dX9_init_81 : decode cX9_init 81 = .ok (.invokespecial 39, 3) := by decide +kernel
theorem dX9_init_84 : decode cX9_init 84 = .ok (.putfield 44, 3) := by decide +kernel
theorem dX9_init_87 : decode cX9_init 87 = .ok (.aload_n 0, 1) := by decide +kernel
theorem dX9_init_88 : decode cX9_init 88 = .ok (.bipush 12, 2) := by decide +kernel
theorem dX9_init_90 : decode cX9_init 90 = .ok (.newarray .int, 2) := by decide +kernel
theorem dX9_init_92 : decode cX9_init 92 = .ok (.putfield 47, 3) := by decide +kernel
theorem dX9_init_95 : decode cX9_init 95 = .ok (.aload_n 0, 1) := by decide +kernel
theorem dX9_init_96 : decode cX9_init 96 = .ok (.sipush 4096, 3) := by decide +kernel
theorem dX9_init_99 : decode cX9_init 99 = .ok (.newarray .int, 2) := by decide +kernel
theorem dX9_init_101 : decode cX9_init 101 = .ok (.putfield 50, 3) := by decide +kernel
theorem dX9_init_104 : decode cX9_init 104 = .ok (.aload_n 0, 1) := by decide +kernel
theorem dX9_init_105 : decode cX9_init 105 = .ok (.bipush 6, 2) := by decide +kernel
theorem dX9_init_107 : decode cX9_init 107 = .ok (.newarray .int, 2) := by decide +kernel
theorem dX9_init_109 : decode cX9_init 109 = .ok (.putfield 53, 3) := by decide +kernel
theorem dX9_init_112 : decode cX9_init 112 = .ok (.aload_n 0, 1) := by decide +kernel
theorem dX9_init_113 : decode cX9_init 113 = .ok (.bipush 6, 2) := by decide +kernel
theorem dX9_init_115 : decode cX9_init 115 = .ok (.newarray .int, 2) := by decide +kernel
theorem dX9_init_117 : decode cX9_init 117 = .ok (.putfield 56, 3) := by decide +kernel
theorem dX9_init_120 : decode cX9_init 120 = .ok (.aload_n 0, 1) := by decide +kernel
theorem dX9_init_121 : decode cX9_init 121 = .ok (.sipush 800, 3) := by decide +kernel
theorem dX9_init_124 : decode cX9_init 124 = .ok (.newarray .int, 2) := by decide +kernel
theorem dX9_init_126 : decode cX9_init 126 = .ok (.putfield 59, 3) := by decide +kernel
theorem dX9_init_129 : decode cX9_init 129 = .ok (.return_, 1) := by decide +kernel
theorem dX9_thrown_0 : decode cX9_thrown 0 = .ok (.aload_n 0, 1) := by decide +kernel
theorem dX9_thrown_1 : decode cX9_thrown 1 = .ok (.getfield 62, 3) := by decide +kernel
theorem dX9_thrown_4 : decode cX9_thrown 4 = .ok (.ireturn, 1) := by decide +kernel
theorem dX9_no_0 : decode cX9_no 0 = .ok (.aload_n 0, 1) := by decide +kernel
theorem dX9_no_1 : decode cX9_no 1 = .ok (.iload_n 1, 1) := by decide +kernel
theorem dX9_no_2 : decode cX9_no 2 = .ok (.putfield 62, 3) := by decide +kernel
theorem dX9_no_5 : decode cX9_no 5 = .ok (.iconst 0, 1) := by decide +kernel
theorem dX9_no_6 : decode cX9_no 6 = .ok (.ireturn, 1) := by decide +kernel
theorem dX9_isNot_0 : decode cX9_isNot 0 = .ok (.aload_n 0, 1) := by decide +kernel
theorem dX9_isNot_1 : decode cX9_isNot 1 = .ok (.iload_n 1, 1) := by decide +kernel
theorem dX9_isNot_2 : decode cX9_isNot 2 = .ok (.putfield 62, 3) := by decide +kernel
theorem dX9_isNot_5 : decode cX9_isNot 5 = .ok (.iconst 0, 1) := by decide +kernel
theorem dX9_isNot_6 : decode cX9_isNot 6 = .ok (.ireturn, 1) := by decide +kernel
theorem dX9_ok_0 : decode cX9_ok 0 = .ok (.aload_n 0, 1) := by decide +kernel
theorem dX9_ok_1 : decode cX9_ok 1 = .ok (.iconst 0, 1) := by decide +kernel
theorem dX9_ok_2 : decode cX9_ok 2 = .ok (.putfield 62, 3) := by decide +kernel
theorem dX9_ok_5 : decode cX9_ok 5 = .ok (.iload_n 1, 1) := by decide +kernel
theorem dX9_ok_6 : decode cX9_ok 6 = .ok (.ireturn, 1) := by decide +kernel
theorem dX9_isIn_0 : decode cX9_isIn 0 = .ok (.iload_n 0, 1) := by decide +kernel
theorem dX9_isIn_1 : decode cX9_isIn 1 = .ok (.iload_n 1, 1) := by decide +kernel
theorem dX9_isIn_2 : decode cX9_isIn 2 = .ok (.if_icmp .lt 12, 3) := by decide +kernel
theorem dX9_isIn_5 : decode cX9_isIn 5 = .ok (.iload_n 0, 1) := by decide +kernel
theorem dX9_isIn_6 : decode cX9_isIn 6 = .ok (.iload_n 2, 1) := by decide +kernel
theorem dX9_isIn_7 : decode cX9_isIn 7 = .ok (.if_icmp .gt 7, 3) := by decide +kernel
theorem dX9_isIn_10 : decode cX9_isIn 10 = .ok (.iconst 1, 1) := by decide +kernel
theorem dX9_isIn_11 : decode cX9_isIn 11 = .ok (.goto 4, 3) := by decide +kernel
theorem dX9_isIn_14 : decode cX9_isIn 14 = .ok (.iconst 0, 1) := by decide +kernel
theorem dX9_isIn_15 : decode cX9_isIn 15 = .ok (.ireturn, 1) := by decide +kernel
theorem dX9_isOne_0 : decode cX9_isOne 0 = .ok (.iload_n 1, 1) := by decide +kernel
theorem dX9_isOne_1 : decode cX9_isOne 1 = .ok (.iconst 0, 1) := by decide +kernel
theorem dX9_isOne_2 : decode cX9_isOne 2 = .ok (.aload_n 0, 1) := by decide +kernel
theorem dX9_isOne_3 : decode cX9_isOne 3 = .ok (.getfield 20, 3) := by decide +kernel
theorem dX9_isOne_6 : decode cX9_isOne 6 = .ok (.getfield 65, 3) := by decide +kernel
theorem dX9_isOne_9 : decode cX9_isOne 9 = .ok (.iconst 1, 1) := by decide +kernel
theorem dX9_isOne_10 : decode cX9_isOne 10 = .ok (.isub, 1) := by decide +kernel
theorem dX9_isOne_11 : decode cX9_isOne 11 = .ok (.invokestatic 68, 3) := by decide +kernel
theorem dX9_isOne_14 : decode cX9_isOne 14 = .ok (.ireturn, 1) := by decide +kernel
theorem dX9_ofMet_0 : decode cX9_ofMet 0 = .ok (.iconst 0, 1) := by decide +kernel
theorem dX9_ofMet_1 : decode cX9_ofMet 1 = .ok (.istore_n 3, 1) := by decide +kernel
theorem dX9_ofMet_2 : decode cX9_ofMet 2 = .ok (.iconst 0, 1) := by decide +kernel
theorem dX9_ofMet_3 : decode cX9_ofMet 3 = .ok (.istore 4, 2) := by decide +kernel
theorem dX9_ofMet_5 : decode cX9_ofMet 5 = .ok (.iload 4, 2) := by decide +kernel
theorem dX9_ofMet_7 : decode cX9_ofMet 7 = .ok (.aload_n 0, 1) := by decide +kernel
theorem dX9_ofMet_8 : decode cX9_ofMet 8 = .ok (.getfield 20, 3) := by decide +kernel
theorem dX9_ofMet_11 : decode cX9_ofMet 11 = .ok (.getfield 65, 3) := by decide +kernel
theorem dX9_ofMet_14 : decode cX9_ofMet 14 = .ok (.if_icmp .ge 27, 3) := by decide +kernel
theorem dX9_ofMet_17 : decode cX9_ofMet 17 = .ok (.iload_n 3, 1) := by decide +kernel
theorem dX9_ofMet_18 : decode cX9_ofMet 18 = .ok (.aload_n 1, 1) := by decide +kernel
theorem dX9_ofMet_19 : decode cX9_ofMet 19 = .ok (.iload_n 2, 1) := by decide +kernel
theorem dX9_ofMet_20 : decode cX9_ofMet 20 = .ok (.iload 4, 2) := by decide +kernel
theorem dX9_ofMet_22 : decode cX9_ofMet 22 = .ok (.invokevirtual 72, 3) := by decide +kernel
theorem dX9_ofMet_25 : decode cX9_ofMet 25 = .ok (.aload_n 1, 1) := by decide +kernel
theorem dX9_ofMet_26 : decode cX9_ofMet 26 = .ok (.getfield 76, 3) := by decide +kernel
theorem dX9_ofMet_29 : decode cX9_ofMet 29 = .ok (.iload 4, 2) := by decide +kernel
theorem dX9_ofMet_31 : decode cX9_ofMet 31 = .ok (.iaload, 1) := by decide +kernel
theorem dX9_ofMet_32 : decode cX9_ofMet 32 = .ok (.imul, 1) := by decide +kernel
theorem dX9_ofMet_33 : decode cX9_ofMet 33 = .ok (.iadd, 1) := by decide +kernel
theorem dX9_ofMet_34 : decode cX9_ofMet 34 = .ok (.istore_n 3, 1) := by decide +kernel
theorem dX9_ofMet_35 : decode cX9_ofMet 35 = .ok (.iinc 4 1, 3) := by decide +kernel
theorem dX9_ofMet_38 : decode cX9_ofMet 38 = .ok (.goto (-33), 3) := by decide +kernel
theorem dX9_ofMet_41 : decode cX9_ofMet 41 = .ok (.iload_n 3, 1) := by decide +kernel
theorem dX9_ofMet_42 : decode cX9_ofMet 42 = .ok (.ireturn, 1) := by decide +kernel
theorem dX9_isAhead_0 : decode cX9_isAhead 0 = .ok (.aload_n 1, 1) := by decide +kernel
theorem dX9_isAhead_1 : decode cX9_isAhead 1 = .ok (.getfield 76, 3) := by decide +kernel
theorem dX9_isAhead_4 : decode cX9_isAhead 4 = .ok (.iload_n 2, 1) := by decide +kernel
theorem dX9_isAhead_5 : decode cX9_isAhead 5 = .ok (.iaload, 1) := by decide +kernel
theorem dX9_isAhead_6 : decode cX9_isAhead 6 = .ok (.aload_n 1, 1) := by decide +kernel
theorem dX9_isAhead_7 : decode cX9_isAhead 7 = .ok (.getfield 76, 3) := by decide +kernel
theorem dX9_isAhead_10 : decode cX9_isAhead 10 = .ok (.iload_n 3, 1) := by decide +kernel
theorem dX9_isAhead_11 : decode cX9_isAhead 11 = .ok (.iaload, 1) := by decide +kernel
theorem dX9_isAhead_12 : decode cX9_isAhead 12 = .ok (.if_icmp .eq 24, 3) := by decide +kernel
theorem dX9_isAhead_15 : decode cX9_isAhead 15 = .ok (.aload_n 1, 1) := by decide +kernel
theorem dX9_isAhead_16 : decode cX9_isAhead 16 = .ok (.getfield 76, 3) := by decide +kernel
theorem dX9_isAhead_19 : decode cX9_isAhead 19 = .ok (.iload_n 2, 1) := by decide +kernel
theorem dX9_isAhead_20 : decode cX9_isAhead 20 = .ok (.iaload, 1) := by decide +kernel
theorem dX9_isAhead_21 : decode cX9_isAhead 21 = .ok (.aload_n 1, 1) := by decide +kernel
theorem dX9_isAhead_22 : decode cX9_isAhead 22 = .ok (.getfield 76, 3) := by decide +kernel
theorem dX9_isAhead_25 : decode cX9_isAhead 25 = .ok (.iload_n 3, 1) := by decide +kernel
theorem dX9_isAhead_26 : decode cX9_isAhead 26 = .ok (.iaload, 1) := by decide +kernel
theorem dX9_isAhead_27 : decode cX9_isAhead 27 = .ok (.if_icmp .le 7, 3) := by decide +kernel
theorem dX9_isAhead_30 : decode cX9_isAhead 30 = .ok (.iconst 1, 1) := by decide +kernel
theorem dX9_isAhead_31 : decode cX9_isAhead 31 = .ok (.goto 4, 3) := by decide +kernel
theorem dX9_isAhead_34 : decode cX9_isAhead 34 = .ok (.iconst 0, 1) := by decide +kernel
theorem dX9_isAhead_35 : decode cX9_isAhead 35 = .ok (.ireturn, 1) := by decide +kernel
theorem dX9_isAhead_36 : decode cX9_isAhead 36 = .ok (.aload_n 0, 1) := by decide +kernel
theorem dX9_isAhead_37 : decode cX9_isAhead 37 = .ok (.aload_n 1, 1) := by decide +kernel
theorem dX9_isAhead_38 : decode cX9_isAhead 38 = .ok (.iload_n 2, 1) := by decide +kernel
theorem dX9_isAhead_39 : decode cX9_isAhead 39 = .ok (.invokevirtual 79, 3) := by decide +kernel
theorem dX9_isAhead_42 : decode cX9_isAhead 42 = .ok (.aload_n 0, 1) := by decide +kernel
theorem dX9_isAhead_43 : decode cX9_isAhead 43 = .ok (.aload_n 1, 1) := by decide +kernel
theorem dX9_isAhead_44 : decode cX9_isAhead 44 = .ok (.iload_n 3, 1) := by decide +kernel
theorem dX9_isAhead_45 : decode cX9_isAhead 45 = .ok (.invokevirtual 79, 3) := by decide +kernel
theorem dX9_isAhead_48 : decode cX9_isAhead 48 = .ok (.isub, 1) := by decide +kernel
theorem dX9_isAhead_49 : decode cX9_isAhead 49 = .ok (.istore 4, 2) := by decide +kernel
theorem dX9_isAhead_51 : decode cX9_isAhead 51 = .ok (.iload 4, 2) := by decide +kernel
theorem dX9_isAhead_53 : decode cX9_isAhead 53 = .ok (.ifCond .eq 14, 3) := by decide +kernel
theorem dX9_isAhead_56 : decode cX9_isAhead 56 = .ok (.iload 4, 2) := by decide +kernel
theorem dX9_isAhead_58 : decode cX9_isAhead 58 = .ok (.ifCond .le 7, 3) := by decide +kernel
theorem dX9_isAhead_61 : decode cX9_isAhead 61 = .ok (.iconst 1, 1) := by decide +kernel
theorem dX9_isAhead_62 : decode cX9_isAhead 62 = .ok (.goto 4, 3) := by decide +kernel
theorem dX9_isAhead_65 : decode cX9_isAhead 65 = .ok (.iconst 0, 1) := by decide +kernel
theorem dX9_isAhead_66 : decode cX9_isAhead 66 = .ok (.ireturn, 1) := by decide +kernel
theorem dX9_isAhead_67 : decode cX9_isAhead 67 = .ok (.aload_n 0, 1) := by decide +kernel
theorem dX9_isAhead_68 : decode cX9_isAhead 68 = .ok (.getfield 20, 3) := by decide +kernel
theorem dX9_isAhead_71 : decode cX9_isAhead 71 = .ok (.getfield 83, 3) := by decide +kernel
theorem dX9_isAhead_74 : decode cX9_isAhead 74 = .ok (.iload_n 2, 1) := by decide +kernel
theorem dX9_isAhead_75 : decode cX9_isAhead 75 = .ok (.iaload, 1) := by decide +kernel
theorem dX9_isAhead_76 : decode cX9_isAhead 76 = .ok (.aload_n 0, 1) := by decide +kernel
theorem dX9_isAhead_77 : decode cX9_isAhead 77 = .ok (.getfield 20, 3) := by decide +kernel
theorem dX9_isAhead_80 : decode cX9_isAhead 80 = .ok (.getfield 83, 3) := by decide +kernel
theorem dX9_isAhead_83 : decode cX9_isAhead 83 = .ok (.iload_n 3, 1) := by decide +kernel
theorem dX9_isAhead_84 : decode cX9_isAhead 84 = .ok (.iaload, 1) := by decide +kernel
theorem dX9_isAhead_85 : decode cX9_isAhead 85 = .ok (.if_icmp .eq 32, 3) := by decide +kernel
theorem dX9_isAhead_88 : decode cX9_isAhead 88 = .ok (.aload_n 0, 1) := by decide +kernel
theorem dX9_isAhead_89 : decode cX9_isAhead 89 = .ok (.getfield 20, 3) := by decide +kernel
theorem dX9_isAhead_92 : decode cX9_isAhead 92 = .ok (.getfield 83, 3) := by decide +kernel
theorem dX9_isAhead_95 : decode cX9_isAhead 95 = .ok (.iload_n 2, 1) := by decide +kernel
theorem dX9_isAhead_96 : decode cX9_isAhead 96 = .ok (.iaload, 1) := by decide +kernel
theorem dX9_isAhead_97 : decode cX9_isAhead 97 = .ok (.aload_n 0, 1) := by decide +kernel
theorem dX9_isAhead_98 : decode cX9_isAhead 98 = .ok (.getfield 20, 3) := by decide +kernel
theorem dX9_isAhead_101 : decode cX9_isAhead 101 = .ok (.getfield 83, 3) := by decide +kernel
theorem dX9_isAhead_104 : decode cX9_isAhead 104 = .ok (.iload_n 3, 1) := by decide +kernel
theorem dX9_isAhead_105 : decode cX9_isAhead 105 = .ok (.iaload, 1) := by decide +kernel
theorem dX9_isAhead_106 : decode cX9_isAhead 106 = .ok (.if_icmp .le 7, 3) := by decide +kernel
theorem dX9_isAhead_109 : decode cX9_isAhead 109 = .ok (.iconst 1, 1) := by decide +kernel
theorem dX9_isAhead_110 : decode cX9_isAhead 110 = .ok (.goto 17, 3) := by decide +kernel
theorem dX9_isAhead_113 : decode cX9_isAhead 113 = .ok (.iconst 0, 1) := by decide +kernel
theorem dX9_isAhead_114 : decode cX9_isAhead 114 = .ok (.goto 13, 3) := by decide +kernel
theorem dX9_isAhead_117 : decode cX9_isAhead 117 = .ok (.iload_n 2, 1) := by decide +kernel
theorem dX9_isAhead_118 : decode cX9_isAhead 118 = .ok (.iload_n 3, 1) := by decide +kernel
theorem dX9_isAhead_119 : decode cX9_isAhead 119 = .ok (.if_icmp .ge 7, 3) := by decide +kernel
theorem dX9_isAhead_122 : decode cX9_isAhead 122 = .ok (.iconst 1, 1) := by decide +kernel
theorem dX9_isAhead_123 : decode cX9_isAhead 123 = .ok (.goto 4, 3) := by decide +kernel
theorem dX9_isAhead_126 : decode cX9_isAhead 126 = .ok (.iconst 0, 1) := by decide +kernel
theorem dX9_isAhead_127 : decode cX9_isAhead 127 = .ok (.ireturn, 1) := by decide +kernel
theorem dX9_rank_0 : decode cX9_rank 0 = .ok (.iconst 0, 1) := by decide +kernel
theorem dX9_rank_1 : decode cX9_rank 1 = .ok (.istore_n 3, 1) := by decide +kernel
theorem dX9_rank_2 : decode cX9_rank 2 = .ok (.iconst 0, 1) := by decide +kernel
theorem dX9_rank_3 : decode cX9_rank 3 = .ok (.istore 4, 2) := by decide +kernel
theorem dX9_rank_5 : decode cX9_rank 5 = .ok (.iload 4, 2) := by decide +kernel
theorem dX9_rank_7 : decode cX9_rank 7 = .ok (.aload_n 0, 1) := by decide +kernel
theorem dX9_rank_8 : decode cX9_rank 8 = .ok (.getfield 20, 3) := by decide +kernel
theorem dX9_rank_11 : decode cX9_rank 11 = .ok (.getfield 65, 3) := by decide +kernel
theorem dX9_rank_14 : decode cX9_rank 14 = .ok (.if_icmp .ge 34, 3) := by decide +kernel
theorem dX9_rank_17 : decode cX9_rank 17 = .ok (.iload_n 3, 1) := by decide +kernel
theorem dX9_rank_18 : decode cX9_rank 18 = .ok (.iload 4, 2) := by decide +kernel
theorem dX9_rank_20 : decode cX9_rank 20 = .ok (.iload_n 2, 1) := by decide +kernel
theorem dX9_rank_21 : decode cX9_rank 21 = .ok (.if_icmp .eq 18, 3) := by decide +kernel
theorem dX9_rank_24 : decode cX9_rank 24 = .ok (.aload_n 0, 1) := by decide +kernel
theorem dX9_rank_25 : decode cX9_rank 25 = .ok (.aload_n 1, 1) := by decide +kernel
theorem dX9_rank_26 : decode cX9_rank 26 = .ok (.iload 4, 2) := by decide +kernel
theorem dX9_rank_28 : decode cX9_rank 28 = .ok (.iload_n 2, 1) := by decide +kernel
theorem dX9_rank_29 : decode cX9_rank 29 = .ok (.invokevirtual 86, 3) := by decide +kernel
theorem dX9_rank_32 : decode cX9_rank 32 = .ok (.ifCond .eq 7, 3) := by decide +kernel
theorem dX9_rank_35 : decode cX9_rank 35 = .ok (.iconst 1, 1) := by decide +kernel
theorem dX9_rank_36 : decode cX9_rank 36 = .ok (.goto 4, 3) := by decide +kernel
theorem dX9_rank_39 : decode cX9_rank 39 = .ok (.iconst 0, 1) := by decide +kernel
theorem dX9_rank_40 : decode cX9_rank 40 = .ok (.iadd, 1) := by decide +kernel
theorem dX9_rank_41 : decode cX9_rank 41 = .ok (.istore_n 3, 1) := by decide +kernel
theorem dX9_rank_42 : decode cX9_rank 42 = .ok (.iinc 4 1, 3) := by decide +kernel
theorem dX9_rank_45 : decode cX9_rank 45 = .ok (.goto (-40), 3) := by decide +kernel
theorem dX9_rank_48 : decode cX9_rank 48 = .ok (.iload_n 3, 1) := by decide +kernel
theorem dX9_rank_49 : decode cX9_rank 49 = .ok (.ireturn, 1) := by decide +kernel
theorem dX9_at_0 : decode cX9_at 0 = .ok (.iconst 0, 1) := by decide +kernel
theorem dX9_at_1 : decode cX9_at 1 = .ok (.istore_n 3, 1) := by decide +kernel
theorem dX9_at_2 : decode cX9_at 2 = .ok (.aload_n 0, 1) := by decide +kernel
theorem dX9_at_3 : decode cX9_at 3 = .ok (.aload_n 1, 1) := by decide +kernel
theorem dX9_at_4 : decode cX9_at 4 = .ok (.iload_n 3, 1) := by decide +kernel
theorem dX9_at_5 : decode cX9_at 5 = .ok (.invokevirtual 90, 3) := by decide +kernel
theorem dX9_at_8 : decode cX9_at 8 = .ok (.iload_n 2, 1) := by decide +kernel
theorem dX9_at_9 : decode cX9_at 9 = .ok (.if_icmp .eq 9, 3) := by decide +kernel
theorem dX9_at_12 : decode cX9_at 12 = .ok (.iinc 3 1, 3) := by decide +kernel
theorem dX9_at_15 : decode cX9_at 15 = .ok (.goto (-13), 3) := by decide +kernel
theorem dX9_at_18 : decode cX9_at 18 = .ok (.iload_n 3, 1) := by decide +kernel
theorem dX9_at_19 : decode cX9_at 19 = .ok (.ireturn, 1) := by decide +kernel
theorem dX9_in_0 : decode cX9_in 0 = .ok (.iconst 0, 1) := by decide +kernel
theorem dX9_in_1 : decode cX9_in 1 = .ok (.istore_n 2, 1) := by decide +kernel
theorem dX9_in_2 : decode cX9_in 2 = .ok (.iconst 0, 1) := by decide +kernel
theorem dX9_in_3 : decode cX9_in 3 = .ok (.istore_n 3, 1) := by decide +kernel
theorem dX9_in_4 : decode cX9_in 4 = .ok (.iload_n 3, 1) := by decide +kernel
theorem dX9_in_5 : decode cX9_in 5 = .ok (.aload_n 0, 1) := by decide +kernel
theorem dX9_in_6 : decode cX9_in 6 = .ok (.getfield 20, 3) := by decide +kernel
theorem dX9_in_9 : decode cX9_in 9 = .ok (.getfield 65, 3) := by decide +kernel
theorem dX9_in_12 : decode cX9_in 12 = .ok (.if_icmp .ge 26, 3) := by decide +kernel
theorem dX9_in_15 : decode cX9_in 15 = .ok (.iload_n 2, 1) := by decide +kernel
theorem dX9_in_16 : decode cX9_in 16 = .ok (.aload_n 1, 1) := by decide +kernel
theorem dX9_in_17 : decode cX9_in 17 = .ok (.getfield 93, 3) := by decide +kernel
theorem dX9_in_20 : decode cX9_in 20 = .ok (.iload_n 3, 1) := by decide +kernel
theorem dX9_in_21 : decode cX9_in 21 = .ok (.baload, 1) := by decide +kernel
theorem dX9_in_22 : decode cX9_in 22 = .ok (.ifCond .eq 7, 3) := by decide +kernel
theorem dX9_in_25 : decode cX9_in 25 = .ok (.iconst 0, 1) := by decide +kernel
theorem dX9_in_26 : decode cX9_in 26 = .ok (.goto 4, 3) := by decide +kernel
theorem dX9_in_29 : decode cX9_in 29 = .ok (.iconst 1, 1) := by decide +kernel
theorem dX9_in_30 : decode cX9_in 30 = .ok (.iadd, 1) := by decide +kernel
theorem dX9_in_31 : decode cX9_in 31 = .ok (.istore_n 2, 1) := by decide +kernel
theorem dX9_in_32 : decode cX9_in 32 = .ok (.iinc 3 1, 3) := by decide +kernel
theorem dX9_in_35 : decode cX9_in 35 = .ok (.goto (-31), 3) := by decide +kernel
theorem dX9_in_38 : decode cX9_in 38 = .ok (.iload_n 2, 1) := by decide +kernel
theorem dX9_in_39 : decode cX9_in 39 = .ok (.ireturn, 1) := by decide +kernel
theorem dX9_canPair_0 : decode cX9_canPair 0 = .ok (.aload_n 1, 1) := by decide +kernel
theorem dX9_canPair_1 : decode cX9_canPair 1 = .ok (.invokevirtual 97, 3) := by decide +kernel
theorem dX9_canPair_4 : decode cX9_canPair 4 = .ok (.ifCond .ne 25, 3) := by decide +kernel
theorem dX9_canPair_7 : decode cX9_canPair 7 = .ok (.aload_n 1, 1) := by decide +kernel
theorem dX9_canPair_8 : decode cX9_canPair 8 = .ok (.getfield 101, 3) := by decide +kernel
theorem dX9_canPair_11 : decode cX9_canPair 11 = .ok (.bipush 20, 2) := by decide +kernel
theorem dX9_canPair_13 : decode cX9_canPair 13 = .ok (.if_icmp .ge 16, 3) := by decide +kernel
theorem dX9_canPair_16 : decode cX9_canPair 16 = .ok (.aload_n 0, 1) := by decide +kernel
theorem dX9_canPair_17 : decode cX9_canPair 17 = .ok (.aload_n 1, 1) := by decide +kernel
theorem dX9_canPair_18 : decode cX9_canPair 18 = .ok (.invokevirtual 104, 3) := by decide +kernel
theorem dX9_canPair_21 : decode cX9_canPair 21 = .ok (.iconst 1, 1) := by decide +kernel
theorem dX9_canPair_22 : decode cX9_canPair 22 = .ok (.if_icmp .le 7, 3) := by decide +kernel
theorem dX9_canPair_25 : decode cX9_canPair 25 = .ok (.iconst 1, 1) := by decide +kernel
theorem dX9_canPair_26 : decode cX9_canPair 26 = .ok (.goto 4, 3) := by decide +kernel
theorem dX9_canPair_29 : decode cX9_canPair 29 = .ok (.iconst 0, 1) := by decide +kernel
theorem dX9_canPair_30 : decode cX9_canPair 30 = .ok (.ireturn, 1) := by decide +kernel
theorem dX9_layRow_0 : decode cX9_layRow 0 = .ok (.aload_n 0, 1) := by decide +kernel
theorem dX9_layRow_1 : decode cX9_layRow 1 = .ok (.iconst 0, 1) := by decide +kernel
theorem dX9_layRow_2 : decode cX9_layRow 2 = .ok (.putfield 108, 3) := by decide +kernel
theorem dX9_layRow_5 : decode cX9_layRow 5 = .ok (.iconst 0, 1) := by decide +kernel
theorem dX9_layRow_6 : decode cX9_layRow 6 = .ok (.istore_n 2, 1) := by decide +kernel
theorem dX9_layRow_7 : decode cX9_layRow 7 = .ok (.iload_n 2, 1) := by decide +kernel
theorem dX9_layRow_8 : decode cX9_layRow 8 = .ok (.aload_n 0, 1) := by decide +kernel
theorem dX9_layRow_9 : decode cX9_layRow 9 = .ok (.getfield 20, 3) := by decide +kernel
theorem dX9_layRow_12 : decode cX9_layRow 12 = .ok (.getfield 65, 3) := by decide +kernel
theorem dX9_layRow_15 : decode cX9_layRow 15 = .ok (.if_icmp .ge 48, 3) := by decide +kernel
theorem dX9_layRow_18 : decode cX9_layRow 18 = .ok (.aload_n 0, 1) := by decide +kernel
theorem dX9_layRow_19 : decode cX9_layRow 19 = .ok (.aload_n 1, 1) := by decide +kernel
theorem dX9_layRow_20 : decode cX9_layRow 20 = .ok (.iload_n 2, 1) := by decide +kernel
theorem dX9_layRow_21 : decode cX9_layRow 21 = .ok (.invokevirtual 111, 3) := by decide +kernel
theorem dX9_layRow_24 : decode cX9_layRow 24 = .ok (.istore_n 3, 1) := by decide +kernel
theorem dX9_layRow_25 : decode cX9_layRow 25 = .ok (.aload_n 1, 1) := by decide +kernel
theorem dX9_layRow_26 : decode cX9_layRow 26 = .ok (.getfield 93, 3) := by decide +kernel
theorem dX9_layRow_29 : decode cX9_layRow 29 = .ok (.iload_n 3, 1) := by decide +kernel
theorem dX9_layRow_30 : decode cX9_layRow 30 = .ok (.baload, 1) := by decide +kernel
theorem dX9_layRow_31 : decode cX9_layRow 31 = .ok (.ifCond .eq 6, 3) := by decide +kernel
theorem dX9_layRow_34 : decode cX9_layRow 34 = .ok (.goto 23, 3) := by decide +kernel
theorem dX9_layRow_37 : decode cX9_layRow 37 = .ok (.aload_n 0, 1) := by decide +kernel
theorem dX9_layRow_38 : decode cX9_layRow 38 = .ok (.getfield 47, 3) := by decide +kernel
theorem dX9_layRow_41 : decode cX9_layRow 41 = .ok (.aload_n 0, 1) := by decide +kernel
theorem dX9_layRow_42 : decode cX9_layRow 42 = .ok (.getfield 108, 3) := by decide +kernel
theorem dX9_layRow_45 : decode cX9_layRow 45 = .ok (.iload_n 3, 1) := by decide +kernel
theorem dX9_layRow_46 : decode cX9_layRow 46 = .ok (.iastore, 1) := by decide +kernel
theorem dX9_layRow_47 : decode cX9_layRow 47 = .ok (.aload_n 0, 1) := by decide +kernel
theorem dX9_layRow_48 : decode cX9_layRow 48 = .ok (.dup, 1) := by decide +kernel
theorem dX9_layRow_49 : decode cX9_layRow 49 = .ok (.getfield 108, 3) := by decide +kernel
theorem dX9_layRow_52 : decode cX9_layRow 52 = .ok (.iconst 1, 1) := by decide +kernel
theorem dX9_layRow_53 : decode cX9_layRow 53 = .ok (.iadd, 1) := by decide +kernel
theorem dX9_layRow_54 : decode cX9_layRow 54 = .ok (.putfield 108, 3) := by decide +kernel
theorem dX9_layRow_57 : decode cX9_layRow 57 = .ok (.iinc 2 1, 3) := by decide +kernel
theorem dX9_layRow_60 : decode cX9_layRow 60 = .ok (.goto (-53), 3) := by decide +kernel
theorem dX9_layRow_63 : decode cX9_layRow 63 = .ok (.return_, 1) := by decide +kernel
theorem dX9_letRest_0 : decode cX9_letRest 0 = .ok (.aload_n 0, 1) := by decide +kernel
theorem dX9_letRest_1 : decode cX9_letRest 1 = .ok (.iconst (-1), 1) := by decide +kernel
theorem dX9_letRest_2 : decode cX9_letRest 2 = .ok (.putfield 114, 3) := by decide +kernel
theorem dX9_letRest_5 : decode cX9_letRest 5 = .ok (.aload_n 0, 1) := by decide +kernel
theorem dX9_letRest_6 : decode cX9_letRest 6 = .ok (.getfield 108, 3) := by decide +kernel
theorem dX9_letRest_9 : decode cX9_letRest 9 = .ok (.iconst 2, 1) := by decide +kernel
theorem dX9_letRest_10 : decode cX9_letRest 10 = .ok (.irem, 1) := by decide +kernel
theorem dX9_letRest_11 : decode cX9_letRest 11 = .ok (.ifCond .ne 4, 3) := by decide +kernel
theorem dX9_letRest_14 : decode cX9_letRest 14 = .ok (.return_, 1) := by decide +kernel
theorem dX9_letRest_15 : decode cX9_letRest 15 = .ok (.iconst 0, 1) := by decide +kernel
theorem dX9_letRest_16 : decode cX9_letRest 16 = .ok (.istore_n 2, 1) := by decide +kernel
theorem dX9_letRest_17 : decode cX9_letRest 17 = .ok (.iconst 1, 1) := by decide +kernel
theorem dX9_letRest_18 : decode cX9_letRest 18 = .ok (.istore_n 3, 1) := by decide +kernel
theorem dX9_letRest_19 : decode cX9_letRest 19 = .ok (.iload_n 3, 1) := by decide +kernel
theorem dX9_letRest_20 : decode cX9_letRest 20 = .ok (.aload_n 0, 1) := by decide +kernel
theorem dX9_letRest_21 : decode cX9_letRest 21 = .ok (.getfield 108, 3) := by decide +kernel
theorem dX9_letRest_24 : decode cX9_letRest 24 = .ok (.if_icmp .ge 36, 3) := by decide +kernel
theorem dX9_letRest_27 : decode cX9_letRest 27 = .ok (.aload_n 1, 1) := by decide +kernel
theorem dX9_letRest_28 : decode cX9_letRest 28 = .ok (.getfield 117, 3) := by decide +kernel
theorem dX9_letRest_31 : decode cX9_letRest 31 = .ok (.aload_n 0, 1) := by decide +kernel
theorem dX9_letRest_32 : decode cX9_letRest 32 = .ok (.getfield 47, 3) := by decide +kernel
theorem dX9_letRest_35 : decode cX9_letRest 35 = .ok (.iload_n 3, 1) := by decide +kernel
theorem dX9_letRest_36 : decode cX9_letRest 36 = .ok (.iaload, 1) := by decide +kernel
theorem dX9_letRest_37 : decode cX9_letRest 37 = .ok (.iaload, 1) := by decide +kernel
theorem dX9_letRest_38 : decode cX9_letRest 38 = .ok (.aload_n 1, 1) := by decide +kernel
theorem dX9_letRest_39 : decode cX9_letRest 39 = .ok (.getfield 117, 3) := by decide +kernel
theorem dX9_letRest_42 : decode cX9_letRest 42 = .ok (.aload_n 0, 1) := by decide +kernel
theorem dX9_letRest_43 : decode cX9_letRest 43 = .ok (.getfield 47, 3) := by decide +kernel
theorem dX9_letRest_46 : decode cX9_letRest 46 = .ok (.iload_n 2, 1) := by decide +kernel
theorem dX9_letRest_47 : decode cX9_letRest 47 = .ok (.iaload, 1) := by decide +kernel
theorem dX9_letRest_48 : decode cX9_letRest 48 = .ok (.iaload, 1) := by decide +kernel
theorem dX9_letRest_49 : decode cX9_letRest 49 = .ok (.if_icmp .gt 5, 3) := by decide +kernel
theorem dX9_letRest_52 : decode cX9_letRest 52 = .ok (.iload_n 3, 1) := by decide +kernel
theorem dX9_letRest_53 : decode cX9_letRest 53 = .ok (.istore_n 2, 1) := by decide +kernel
theorem dX9_letRest_54 : decode cX9_letRest 54 = .ok (.iinc 3 1, 3) := by decide +kernel
theorem dX9_letRest_57 : decode cX9_letRest 57 = .ok (.goto (-38), 3) := by decide +kernel
theorem dX9_letRest_60 : decode cX9_letRest 60 = .ok (.aload_n 0, 1) := by decide +kernel
theorem dX9_letRest_61 : decode cX9_letRest 61 = .ok (.aload_n 0, 1) := by decide +kernel
theorem dX9_letRest_62 : decode cX9_letRest 62 = .ok (.getfield 47, 3) := by decide +kernel
theorem dX9_letRest_65 : decode cX9_letRest 65 = .ok (.iload_n 2, 1) := by decide +kernel
theorem dX9_letRest_66 : decode cX9_letRest 66 = .ok (.iaload, 1) := by decide +kernel
theorem dX9_letRest_67 : decode cX9_letRest 67 = .ok (.putfield 114, 3) := by decide +kernel
theorem dX9_letRest_70 : decode cX9_letRest 70 = .ok (.iload_n 2, 1) := by decide +kernel
theorem dX9_letRest_71 : decode cX9_letRest 71 = .ok (.istore_n 3, 1) := by decide +kernel
theorem dX9_letRest_72 : decode cX9_letRest 72 = .ok (.iload_n 3, 1) := by decide +kernel
theorem dX9_letRest_73 : decode cX9_letRest 73 = .ok (.iconst 1, 1) := by decide +kernel
theorem dX9_letRest_74 : decode cX9_letRest 74 = .ok (.iadd, 1) := by decide +kernel
theorem dX9_letRest_75 : decode cX9_letRest 75 = .ok (.aload_n 0, 1) := by decide +kernel
theorem dX9_letRest_76 : decode cX9_letRest 76 = .ok (.getfield 108, 3) := by decide +kernel
theorem dX9_letRest_79 : decode cX9_letRest 79 = .ok (.if_icmp .ge 23, 3) := by decide +kernel
theorem dX9_letRest_82 : decode cX9_letRest 82 = .ok (.aload_n 0, 1) := by decide +kernel
theorem dX9_letRest_83 : decode cX9_letRest 83 = .ok (.getfield 47, 3) := by decide +kernel
theorem dX9_letRest_86 : decode cX9_letRest 86 = .ok (.iload_n 3, 1) := by decide +kernel
theorem dX9_letRest_87 : decode cX9_letRest 87 = .ok (.aload_n 0, 1) := by decide +kernel
theorem dX9_letRest_88 : decode cX9_letRest 88 = .ok (.getfield 47, 3) := by decide +kernel
theorem dX9_letRest_91 : decode cX9_letRest 91 = .ok (.iload_n 3, 1) := by decide +kernel
theorem dX9_letRest_92 : decode cX9_letRest 92 = .ok (.iconst 1, 1) := by decide +kernel
theorem dX9_letRest_93 : decode cX9_letRest 93 = .ok (.iadd, 1) := by decide +kernel
theorem dX9_letRest_94 : decode cX9_letRest 94 = .ok (.iaload, 1) := by decide +kernel
theorem dX9_letRest_95 : decode cX9_letRest 95 = .ok (.iastore, 1) := by decide +kernel
theorem dX9_letRest_96 : decode cX9_letRest 96 = .ok (.iinc 3 1, 3) := by decide +kernel
theorem dX9_letRest_99 : decode cX9_letRest 99 = .ok (.goto (-27), 3) := by decide +kernel
theorem dX9_letRest_102 : decode cX9_letRest 102 = .ok (.aload_n 0, 1) := by decide +kernel
theorem dX9_letRest_103 : decode cX9_letRest 103 = .ok (.dup, 1) := by decide +kernel
theorem dX9_letRest_104 : decode cX9_letRest 104 = .ok (.getfield 108, 3) := by decide +kernel
theorem dX9_letRest_107 : decode cX9_letRest 107 = .ok (.iconst 1, 1) := by decide +kernel
theorem dX9_letRest_108 : decode cX9_letRest 108 = .ok (.isub, 1) := by decide +kernel
theorem dX9_letRest_109 : decode cX9_letRest 109 = .ok (.putfield 108, 3) := by decide +kernel
theorem dX9_letRest_112 : decode cX9_letRest 112 = .ok (.return_, 1) := by decide +kernel
theorem dX9_rematch_0 : decode cX9_rematch 0 = .ok (.aload_n 1, 1) := by decide +kernel
theorem dX9_rematch_1 : decode cX9_rematch 1 = .ok (.aload_n 0, 1) := by decide +kernel
theorem dX9_rematch_2 : decode cX9_rematch 2 = .ok (.getfield 47, 3) := by decide +kernel
theorem dX9_rematch_5 : decode cX9_rematch 5 = .ok (.iload_n 2, 1) := by decide +kernel
theorem dX9_rematch_6 : decode cX9_rematch 6 = .ok (.iaload, 1) := by decide +kernel
theorem dX9_rematch_7 : decode cX9_rematch 7 = .ok (.aload_n 0, 1) := by decide +kernel
theorem dX9_rematch_8 : decode cX9_rematch 8 = .ok (.getfield 47, 3) := by decide +kernel
theorem dX9_rematch_11 : decode cX9_rematch 11 = .ok (.iload_n 3, 1) := by decide +kernel
theorem dX9_rematch_12 : decode cX9_rematch 12 = .ok (.iaload, 1) := by decide +kernel
theorem dX9_rematch_13 : decode cX9_rematch 13 = .ok (.invokevirtual 72, 3) := by decide +kernel
theorem dX9_rematch_16 : decode cX9_rematch 16 = .ok (.ifCond .le 7, 3) := by decide +kernel
theorem dX9_rematch_19 : decode cX9_rematch 19 = .ok (.iconst 1, 1) := by decide +kernel
theorem dX9_rematch_20 : decode cX9_rematch 20 = .ok (.goto 4, 3) := by decide +kernel
theorem dX9_rematch_23 : decode cX9_rematch 23 = .ok (.iconst 0, 1) := by decide +kernel
theorem dX9_rematch_24 : decode cX9_rematch 24 = .ok (.ireturn, 1) := by decide +kernel
theorem dX9_lowest_0 : decode cX9_lowest 0 = .ok (.iconst 0, 1) := by decide +kernel
theorem dX9_lowest_1 : decode cX9_lowest 1 = .ok (.istore_n 2, 1) := by decide +kernel
theorem dX9_lowest_2 : decode cX9_lowest 2 = .ok (.iload_n 1, 1) := by decide +kernel
theorem dX9_lowest_3 : decode cX9_lowest 3 = .ok (.iload_n 2, 1) := by decide +kernel
theorem dX9_lowest_4 : decode cX9_lowest 4 = .ok (.ishr, 1) := by decide +kernel
theorem dX9_lowest_5 : decode cX9_lowest 5 = .ok (.iconst 1, 1) := by decide +kernel
theorem dX9_lowest_6 : decode cX9_lowest 6 = .ok (.iand, 1) := by decide +kernel
theorem dX9_lowest_7 : decode cX9_lowest 7 = .ok (.ifCond .ne 9, 3) := by decide +kernel
theorem dX9_lowest_10 : decode cX9_lowest 10 = .ok (.iinc 2 1, 3) := by decide +kernel
theorem dX9_lowest_13 : decode cX9_lowest 13 = .ok (.goto (-11), 3) := by decide +kernel
theorem dX9_lowest_16 : decode cX9_lowest 16 = .ok (.iload_n 2, 1) := by decide +kernel
theorem dX9_lowest_17 : decode cX9_lowest 17 = .ok (.ireturn, 1) := by decide +kernel
theorem dX9_partner_0 : decode cX9_partner 0 = .ok (.aload_n 0, 1) := by decide +kernel
theorem dX9_partner_1 : decode cX9_partner 1 = .ok (.iload_n 2, 1) := by decide +kernel
theorem dX9_partner_2 : decode cX9_partner 2 = .ok (.invokevirtual 119, 3) := by decide +kernel
theorem dX9_partner_5 : decode cX9_partner 5 = .ok (.istore_n 3, 1) := by decide +kernel
theorem dX9_partner_6 : decode cX9_partner 6 = .ok (.iconst (-1), 1) := by decide +kernel
theorem dX9_partner_7 : decode cX9_partner 7 = .ok (.istore 4, 2) := by decide +kernel
theorem dX9_partner_9 : decode cX9_partner 9 = .ok (.bipush 99, 2) := by decide +kernel
theorem dX9_partner_11 : decode cX9_partner 11 = .ok (.istore 5, 2) := by decide +kernel
theorem dX9_partner_13 : decode cX9_partner 13 = .ok (.iload_n 3, 1) := by decide +kernel
theorem dX9_partner_14 : decode cX9_partner 14 = .ok (.iconst 1, 1) := by decide +kernel
theorem dX9_partner_15 : decode cX9_partner 15 = .ok (.iadd, 1) := by decide +kernel
theorem dX9_partner_16 : decode cX9_partner 16 = .ok (.istore 6, 2) := by decide +kernel
theorem dX9_partner_18 : decode cX9_partner 18 = .ok (.iload 6, 2) := by decide +kernel
theorem dX9_partner_20 : decode cX9_partner 20 = .ok (.aload_n 0, 1) := by decide +kernel
theorem dX9_partner_21 : decode cX9_partner 21 = .ok (.getfield 108, 3) := by decide +kernel
theorem dX9_partner_24 : decode cX9_partner 24 = .ok (.if_icmp .ge 69, 3) := by decide +kernel
theorem dX9_partner_27 : decode cX9_partner 27 = .ok (.iload_n 2, 1) := by decide +kernel
theorem dX9_partner_28 : decode cX9_partner 28 = .ok (.iload 6, 2) := by decide +kernel
theorem dX9_partner_30 : decode cX9_partner 30 = .ok (.ishr, 1) := by decide +kernel
theorem dX9_partner_31 : decode cX9_partner 31 = .ok (.iconst 1, 1) := by decide +kernel
theorem dX9_partner_32 : decode cX9_partner 32 = .ok (.iand, 1) := by decide +kernel
theorem dX9_partner_33 : decode cX9_partner 33 = .ok (.ifCond .ne 6, 3) := by decide +kernel
theorem dX9_partner_36 : decode cX9_partner 36 = .ok (.goto 51, 3) := by decide +kernel
theorem dX9_partner_39 : decode cX9_partner 39 = .ok (.aload_n 0, 1) := by decide +kernel
theorem dX9_partner_40 : decode cX9_partner 40 = .ok (.aload_n 1, 1) := by decide +kernel
theorem dX9_partner_41 : decode cX9_partner 41 = .ok (.iload_n 3, 1) := by decide +kernel
theorem dX9_partner_42 : decode cX9_partner 42 = .ok (.iload 6, 2) := by decide +kernel
theorem dX9_partner_44 : decode cX9_partner 44 = .ok (.invokevirtual 123, 3) := by decide +kernel
theorem dX9_partner_47 : decode cX9_partner 47 = .ok (.aload_n 0, 1) := by decide +kernel
theorem dX9_partner_48 : decode cX9_partner 48 = .ok (.getfield 50, 3) := by decide +kernel
theorem dX9_partner_51 : decode cX9_partner 51 = .ok (.iload_n 2, 1) := by decide +kernel
theorem dX9_partner_52 : decode cX9_partner 52 = .ok (.iconst 1, 1) := by decide +kernel
theorem dX9_partner_53 : decode cX9_partner 53 = .ok (.iload_n 3, 1) := by decide +kernel
theorem dX9_partner_54 : decode cX9_partner 54 = .ok (.ishl, 1) := by decide +kernel
theorem dX9_partner_55 : decode cX9_partner 55 = .ok (.iconst (-1), 1) := by decide +kernel
theorem dX9_partner_56 : decode cX9_partner 56 = .ok (.ixor, 1) := by decide +kernel
theorem dX9_partner_57 : decode cX9_partner 57 = .ok (.iand, 1) := by decide +kernel
theorem dX9_partner_58 : decode cX9_partner 58 = .ok (.iconst 1, 1) := by decide +kernel
theorem dX9_partner_59 : decode cX9_partner 59 = .ok (.iload 6, 2) := by decide +kernel
theorem dX9_partner_61 : decode cX9_partner 61 = .ok (.ishl, 1) := by decide +kernel
theorem dX9_partner_62 : decode cX9_partner 62 = .ok (.iconst (-1), 1) := by decide +kernel
theorem dX9_partner_63 : decode cX9_partner 63 = .ok (.ixor, 1) := by decide +kernel
theorem dX9_partner_64 : decode cX9_partner 64 = .ok (.iand, 1) := by decide +kernel
theorem dX9_partner_65 : decode cX9_partner 65 = .ok (.iaload, 1) := by decide +kernel
theorem dX9_partner_66 : decode cX9_partner 66 = .ok (.iadd, 1) := by decide +kernel
theorem dX9_partner_67 : decode cX9_partner 67 = .ok (.istore 7, 2) := by decide +kernel
theorem dX9_partner_69 : decode cX9_partner 69 = .ok (.iload 7, 2) := by decide +kernel
theorem dX9_partner_71 : decode cX9_partner 71 = .ok (.iload 5, 2) := by decide +kernel
theorem dX9_partner_73 : decode cX9_partner 73 = .ok (.if_icmp .lt 6, 3) := by decide +kernel
theorem dX9_partner_76 : decode cX9_partner 76 = .ok (.goto 11, 3) := by decide +kernel
theorem dX9_partner_79 : decode cX9_partner 79 = .ok (.iload 6, 2) := by decide +kernel
theorem dX9_partner_81 : decode cX9_partner 81 = .ok (.istore 4, 2) := by decide +kernel
theorem dX9_partner_83 : decode cX9_partner 83 = .ok (.iload 7, 2) := by decide +kernel
theorem dX9_partner_85 : decode cX9_partner 85 = .ok (.istore 5, 2) := by decide +kernel
theorem dX9_partner_87 : decode cX9_partner 87 = .ok (.iinc 6 1, 3) := by decide +kernel
theorem dX9_partner_90 : decode cX9_partner 90 = .ok (.goto (-72), 3) := by decide +kernel
theorem dX9_partner_93 : decode cX9_partner 93 = .ok (.aload_n 0, 1) := by decide +kernel
theorem dX9_partner_94 : decode cX9_partner 94 = .ok (.getfield 50, 3) := by decide +kernel
theorem dX9_partner_97 : decode cX9_partner 97 = .ok (.iload_n 2, 1) := by decide +kernel
theorem dX9_partner_98 : decode cX9_partner 98 = .ok (.iload 5, 2) := by decide +kernel
theorem dX9_partner_100 : decode cX9_partner 100 = .ok (.iastore, 1) := by decide +kernel
theorem dX9_partner_101 : decode cX9_partner 101 = .ok (.iload 4, 2) := by decide +kernel
theorem dX9_partner_103 : decode cX9_partner 103 = .ok (.ireturn, 1) := by decide +kernel
theorem dX9_pairs_0 : decode cX9_pairs 0 = .ok (.aload_n 0, 1) := by decide +kernel
theorem dX9_pairs_1 : decode cX9_pairs 1 = .ok (.aload_n 1, 1) := by decide +kernel
theorem dX9_pairs_2 : decode cX9_pairs 2 = .ok (.invokevirtual 127, 3) := by decide +kernel
theorem dX9_pairs_5 : decode cX9_pairs 5 = .ok (.aload_n 0, 1) := by decide +kernel
theorem dX9_pairs_6 : decode cX9_pairs 6 = .ok (.aload_n 1, 1) := by decide +kernel
theorem dX9_pairs_7 : decode cX9_pairs 7 = .ok (.invokevirtual 131, 3) := by decide +kernel
theorem dX9_pairs_10 : decode cX9_pairs 10 = .ok (.aload_n 0, 1) := by decide +kernel
theorem dX9_pairs_11 : decode cX9_pairs 11 = .ok (.getfield 50, 3) := by decide +kernel
theorem dX9_pairs_14 : decode cX9_pairs 14 = .ok (.iconst 0, 1) := by decide +kernel
theorem dX9_pairs_15 : decode cX9_pairs 15 = .ok (.iconst 0, 1) := by decide +kernel
theorem dX9_pairs_16 : decode cX9_pairs 16 = .ok (.iastore, 1) := by decide +kernel
theorem dX9_pairs_17 : decode cX9_pairs 17 = .ok (.iconst 1, 1) := by decide +kernel
theorem dX9_pairs_18 : decode cX9_pairs 18 = .ok (.istore_n 2, 1) := by decide +kernel
theorem dX9_pairs_19 : decode cX9_pairs 19 = .ok (.iload_n 2, 1) := by decide +kernel
theorem dX9_pairs_20 : decode cX9_pairs 20 = .ok (.iconst 1, 1) := by decide +kernel
theorem dX9_pairs_21 : decode cX9_pairs 21 = .ok (.aload_n 0, 1) := by decide +kernel
theorem dX9_pairs_22 : decode cX9_pairs 22 = .ok (.getfield 108, 3) := by decide +kernel
theorem dX9_pairs_25 : decode cX9_pairs 25 = .ok (.ishl, 1) := by decide +kernel
theorem dX9_pairs_26 : decode cX9_pairs 26 = .ok (.if_icmp .ge 25, 3) := by decide +kernel
theorem dX9_pairs_29 : decode cX9_pairs 29 = .ok (.iload_n 2, 1) := by decide +kernel
theorem dX9_pairs_30 : decode cX9_pairs 30 = .ok (.invokestatic 134, 3) := by decide +kernel
theorem dX9_pairs_33 : decode cX9_pairs 33 = .ok (.iconst 2, 1) := by decide +kernel
theorem dX9_pairs_34 : decode cX9_pairs 34 = .ok (.irem, 1) := by decide +kernel
theorem dX9_pairs_35 : decode cX9_pairs 35 = .ok (.ifCond .ne 10, 3) := by decide +kernel
theorem dX9_pairs_38 : decode cX9_pairs 38 = .ok (.aload_n 0, 1) := by decide +kernel
theorem dX9_pairs_39 : decode cX9_pairs 39 = .ok (.aload_n 1, 1) := by decide +kernel
theorem dX9_pairs_40 : decode cX9_pairs 40 = .ok (.iload_n 2, 1) := by decide +kernel
theorem dX9_pairs_41 : decode cX9_pairs 41 = .ok (.invokevirtual 139, 3) := by decide +kernel
theorem dX9_pairs_44 : decode cX9_pairs 44 = .ok (.pop, 1) := by decide +kernel
theorem dX9_pairs_45 : decode cX9_pairs 45 = .ok (.iinc 2 1, 3) := by decide +kernel
theorem dX9_pairs_48 : decode cX9_pairs 48 = .ok (.goto (-29), 3) := by decide +kernel
theorem dX9_pairs_51 : decode cX9_pairs 51 = .ok (.iconst 1, 1) := by decide +kernel
theorem dX9_pairs_52 : decode cX9_pairs 52 = .ok (.aload_n 0, 1) := by decide +kernel
theorem dX9_pairs_53 : decode cX9_pairs 53 = .ok (.getfield 108, 3) := by decide +kernel
theorem dX9_pairs_56 : decode cX9_pairs 56 = .ok (.ishl, 1) := by decide +kernel
theorem dX9_pairs_57 : decode cX9_pairs 57 = .ok (.iconst 1, 1) := by decide +kernel
theorem dX9_pairs_58 : decode cX9_pairs 58 = .ok (.isub, 1) := by decide +kernel
theorem dX9_pairs_59 : decode cX9_pairs 59 = .ok (.istore_n 2, 1) := by decide +kernel
theorem dX9_pairs_60 : decode cX9_pairs 60 = .ok (.iconst 0, 1) := by decide +kernel
theorem dX9_pairs_61 : decode cX9_pairs 61 = .ok (.istore_n 3, 1) := by decide +kernel
theorem dX9_pairs_62 : decode cX9_pairs 62 = .ok (.iload_n 2, 1) := by decide +kernel
theorem dX9_pairs_63 : decode cX9_pairs 63 = .ok (.ifCond .le 66, 3) := by decide +kernel
theorem dX9_pairs_66 : decode cX9_pairs 66 = .ok (.aload_n 0, 1) := by decide +kernel
theorem dX9_pairs_67 : decode cX9_pairs 67 = .ok (.iload_n 2, 1) := by decide +kernel
theorem dX9_pairs_68 : decode cX9_pairs 68 = .ok (.invokevirtual 119, 3) := by decide +kernel
theorem dX9_pairs_71 : decode cX9_pairs 71 = .ok (.istore 4, 2) := by decide +kernel
theorem dX9_pairs_73 : decode cX9_pairs 73 = .ok (.aload_n 0, 1) := by decide +kernel
theorem dX9_pairs_74 : decode cX9_pairs 74 = .ok (.aload_n 1, 1) := by decide +kernel
theorem dX9_pairs_75 : decode cX9_pairs 75 = .ok (.iload_n 2, 1) := by decide +kernel
theorem dX9_pairs_76 : decode cX9_pairs 76 = .ok (.invokevirtual 139, 3) := by decide +kernel
theorem dX9_pairs_79 : decode cX9_pairs 79 = .ok (.istore 5, 2) := by decide +kernel
theorem dX9_pairs_81 : decode cX9_pairs 81 = .ok (.aload_n 0, 1) := by decide +kernel
theorem dX9_pairs_82 : decode cX9_pairs 82 = .ok (.getfield 53, 3) := by decide +kernel
theorem dX9_pairs_85 : decode cX9_pairs 85 = .ok (.iload_n 3, 1) := by decide +kernel
theorem dX9_pairs_86 : decode cX9_pairs 86 = .ok (.aload_n 0, 1) := by decide +kernel
theorem dX9_pairs_87 : decode cX9_pairs 87 = .ok (.getfield 47, 3) := by decide +kernel
theorem dX9_pairs_90 : decode cX9_pairs 90 = .ok (.iload 4, 2) := by decide +kernel
theorem dX9_pairs_92 : decode cX9_pairs 92 = .ok (.iaload, 1) := by decide +kernel
theorem dX9_pairs_93 : decode cX9_pairs 93 = .ok (.iastore, 1) := by decide +kernel
theorem dX9_pairs_94 : decode cX9_pairs 94 = .ok (.aload_n 0, 1) := by decide +kernel
theorem dX9_pairs_95 : decode cX9_pairs 95 = .ok (.getfield 56, 3) := by decide +kernel
theorem dX9_pairs_98 : decode cX9_pairs 98 = .ok (.iload_n 3, 1) := by decide +kernel
theorem dX9_pairs_99 : decode cX9_pairs 99 = .ok (.aload_n 0, 1) := by decide +kernel
theorem dX9_pairs_100 : decode cX9_pairs 100 = .ok (.getfield 47, 3) := by decide +kernel
theorem dX9_pairs_103 : decode cX9_pairs 103 = .ok (.iload 5, 2) := by decide +kernel
theorem dX9_pairs_105 : decode cX9_pairs 105 = .ok (.iaload, 1) := by decide +kernel
theorem dX9_pairs_106 : decode cX9_pairs 106 = .ok (.iastore, 1) := by decide +kernel
theorem dX9_pairs_107 : decode cX9_pairs 107 = .ok (.iinc 3 1, 3) := by decide +kernel
theorem dX9_pairs_110 : decode cX9_pairs 110 = .ok (.iload_n 2, 1) := by decide +kernel
theorem dX9_pairs_111 : decode cX9_pairs 111 = .ok (.iconst 1, 1) := by decide +kernel
theorem dX9_pairs_112 : decode cX9_pairs 112 = .ok (.iload 4, 2) := by decide +kernel
theorem dX9_pairs_114 : decode cX9_pairs 114 = .ok (.ishl, 1) := by decide +kernel
theorem dX9_pairs_115 : decode cX9_pairs 115 = .ok (.iconst (-1), 1) := by decide +kernel
theorem dX9_pairs_116 : decode cX9_pairs 116 = .ok (.ixor, 1) := by decide +kernel
theorem dX9_pairs_117 : decode cX9_pairs 117 = .ok (.iconst 1, 1) := by decide +kernel
theorem dX9_pairs_118 : decode cX9_pairs 118 = .ok (.iload 5, 2) := by decide +kernel
theorem dX9_pairs_120 : decode cX9_pairs 120 = .ok (.ishl, 1) := by decide +kernel
theorem dX9_pairs_121 : decode cX9_pairs 121 = .ok (.iconst (-1), 1) := by decide +kernel
theorem dX9_pairs_122 : decode cX9_pairs 122 = .ok (.ixor, 1) := by decide +kernel
theorem dX9_pairs_123 : decode cX9_pairs 123 = .ok (.iand, 1) := by decide +kernel
theorem dX9_pairs_124 : decode cX9_pairs 124 = .ok (.iand, 1) := by decide +kernel
theorem dX9_pairs_125 : decode cX9_pairs 125 = .ok (.istore_n 2, 1) := by decide +kernel
theorem dX9_pairs_126 : decode cX9_pairs 126 = .ok (.goto (-64), 3) := by decide +kernel
theorem dX9_pairs_129 : decode cX9_pairs 129 = .ok (.iload_n 3, 1) := by decide +kernel
theorem dX9_pairs_130 : decode cX9_pairs 130 = .ok (.ireturn, 1) := by decide +kernel
theorem dX9_isFirstRed_0 : decode cX9_isFirstRed 0 = .ok (.aload_n 1, 1) := by decide +kernel
theorem dX9_isFirstRed_1 : decode cX9_isFirstRed 1 = .ok (.getfield 142, 3) := by decide +kernel
theorem dX9_isFirstRed_4 : decode cX9_isFirstRed 4 = .ok (.iload_n 2, 1) := by decide +kernel
theorem dX9_isFirstRed_5 : decode cX9_isFirstRed 5 = .ok (.iaload, 1) := by decide +kernel
theorem dX9_isFirstRed_6 : decode cX9_isFirstRed 6 = .ok (.aload_n 1, 1) := by decide +kernel
theorem dX9_isFirstRed_7 : decode cX9_isFirstRed 7 = .ok (.getfield 142, 3) := by decide +kernel
theorem dX9_isFirstRed_10 : decode cX9_isFirstRed 10 = .ok (.iload_n 3, 1) := by decide +kernel
theorem dX9_isFirstRed_11 : decode cX9_isFirstRed 11 = .ok (.iaload, 1) := by decide +kernel
theorem dX9_isFirstRed_12 : decode cX9_isFirstRed 12 = .ok (.if_icmp .eq 24, 3) := by decide +kernel
theorem dX9_isFirstRed_15 : decode cX9_isFirstRed 15 = .ok (.aload_n 1, 1) := by decide +kernel
theorem dX9_isFirstRed_16 : decode cX9_isFirstRed 16 = .ok (.getfield 142, 3) := by decide +kernel
theorem dX9_isFirstRed_19 : decode cX9_isFirstRed 19 = .ok (.iload_n 2, 1) := by decide +kernel
theorem dX9_isFirstRed_20 : decode cX9_isFirstRed 20 = .ok (.iaload, 1) := by decide +kernel
theorem dX9_isFirstRed_21 : decode cX9_isFirstRed 21 = .ok (.aload_n 1, 1) := by decide +kernel
theorem dX9_isFirstRed_22 : decode cX9_isFirstRed 22 = .ok (.getfield 142, 3) := by decide +kernel
theorem dX9_isFirstRed_25 : decode cX9_isFirstRed 25 = .ok (.iload_n 3, 1) := by decide +kernel
theorem dX9_isFirstRed_26 : decode cX9_isFirstRed 26 = .ok (.iaload, 1) := by decide +kernel
theorem dX9_isFirstRed_27 : decode cX9_isFirstRed 27 = .ok (.if_icmp .ge 7, 3) := by decide +kernel
theorem dX9_isFirstRed_30 : decode cX9_isFirstRed 30 = .ok (.iconst 1, 1) := by decide +kernel
theorem dX9_isFirstRed_31 : decode cX9_isFirstRed 31 = .ok (.goto 4, 3) := by decide +kernel
theorem dX9_isFirstRed_34 : decode cX9_isFirstRed 34 = .ok (.iconst 0, 1) := by decide +kernel
theorem dX9_isFirstRed_35 : decode cX9_isFirstRed 35 = .ok (.ireturn, 1) := by decide +kernel
theorem dX9_isFirstRed_36 : decode cX9_isFirstRed 36 = .ok (.aload_n 1, 1) := by decide +kernel
theorem dX9_isFirstRed_37 : decode cX9_isFirstRed 37 = .ok (.getfield 145, 3) := by decide +kernel
theorem dX9_isFirstRed_40 : decode cX9_isFirstRed 40 = .ok (.iload_n 2, 1) := by decide +kernel
theorem dX9_isFirstRed_41 : decode cX9_isFirstRed 41 = .ok (.iaload, 1) := by decide +kernel
theorem dX9_isFirstRed_42 : decode cX9_isFirstRed 42 = .ok (.iconst (-1), 1) := by decide +kernel
theorem dX9_isFirstRed_43 : decode cX9_isFirstRed 43 = .ok (.if_icmp .eq 13, 3) := by decide +kernel
theorem dX9_isFirstRed_46 : decode cX9_isFirstRed 46 = .ok (.aload_n 1, 1) := by decide +kernel
theorem dX9_isFirstRed_47 : decode cX9_isFirstRed 47 = .ok (.getfield 145, 3) := by decide +kernel
theorem dX9_isFirstRed_50 : decode cX9_isFirstRed 50 = .ok (.iload_n 3, 1) := by decide +kernel
theorem dX9_isFirstRed_51 : decode cX9_isFirstRed 51 = .ok (.iaload, 1) := by decide +kernel
theorem dX9_isFirstRed_52 : decode cX9_isFirstRed 52 = .ok (.iconst (-1), 1) := by decide +kernel
theorem dX9_isFirstRed_53 : decode cX9_isFirstRed 53 = .ok (.if_icmp .eq 7, 3) := by decide +kernel
theorem dX9_isFirstRed_56 : decode cX9_isFirstRed 56 = .ok (.iconst 1, 1) := by decide +kernel
theorem dX9_isFirstRed_57 : decode cX9_isFirstRed 57 = .ok (.goto 4, 3) := by decide +kernel
theorem dX9_isFirstRed_60 : decode cX9_isFirstRed 60 = .ok (.iconst 0, 1) := by decide +kernel
theorem dX9_isFirstRed_61 : decode cX9_isFirstRed 61 = .ok (.ireturn, 1) := by decide +kernel
theorem dX9_giveBelts_0 : decode cX9_giveBelts 0 = .ok (.aload_n 1, 1) := by decide +kernel
theorem dX9_giveBelts_1 : decode cX9_giveBelts 1 = .ok (.getfield 142, 3) := by decide +kernel
theorem dX9_giveBelts_4 : decode cX9_giveBelts 4 = .ok (.iload_n 2, 1) := by decide +kernel
theorem dX9_giveBelts_5 : decode cX9_giveBelts 5 = .ok (.dup2, 1) := by decide +kernel
theorem dX9_giveBelts_6 : decode cX9_giveBelts 6 = .ok (.iaload, 1) := by decide +kernel
theorem dX9_giveBelts_7 : decode cX9_giveBelts 7 = .ok (.iconst 1, 1) := by decide +kernel
theorem dX9_giveBelts_8 : decode cX9_giveBelts 8 = .ok (.iadd, 1) := by decide +kernel
theorem dX9_giveBelts_9 : decode cX9_giveBelts 9 = .ok (.iastore, 1) := by decide +kernel
theorem dX9_giveBelts_10 : decode cX9_giveBelts 10 = .ok (.aload_n 1, 1) := by decide +kernel
theorem dX9_giveBelts_11 : decode cX9_giveBelts 11 = .ok (.getfield 145, 3) := by decide +kernel
theorem dX9_giveBelts_14 : decode cX9_giveBelts 14 = .ok (.iload_n 2, 1) := by decide +kernel
theorem dX9_giveBelts_15 : decode cX9_giveBelts 15 = .ok (.iconst 1, 1) := by decide +kernel
theorem dX9_giveBelts_16 : decode cX9_giveBelts 16 = .ok (.iastore, 1) := by decide +kernel
theorem dX9_giveBelts_17 : decode cX9_giveBelts 17 = .ok (.aload_n 1, 1) := by decide +kernel
theorem dX9_giveBelts_18 : decode cX9_giveBelts 18 = .ok (.getfield 142, 3) := by decide +kernel
theorem dX9_giveBelts_21 : decode cX9_giveBelts 21 = .ok (.iload_n 3, 1) := by decide +kernel
theorem dX9_giveBelts_22 : decode cX9_giveBelts 22 = .ok (.dup2, 1) := by decide +kernel
theorem dX9_giveBelts_23 : decode cX9_giveBelts 23 = .ok (.iaload, 1) := by decide +kernel
theorem dX9_giveBelts_24 : decode cX9_giveBelts 24 = .ok (.iconst 1, 1) := by decide +kernel
theorem dX9_giveBelts_25 : decode cX9_giveBelts 25 = .ok (.isub, 1) := by decide +kernel
theorem dX9_giveBelts_26 : decode cX9_giveBelts 26 = .ok (.iastore, 1) := by decide +kernel
theorem dX9_giveBelts_27 : decode cX9_giveBelts 27 = .ok (.aload_n 1, 1) := by decide +kernel
theorem dX9_giveBelts_28 : decode cX9_giveBelts 28 = .ok (.getfield 145, 3) := by decide +kernel
theorem dX9_giveBelts_31 : decode cX9_giveBelts 31 = .ok (.iload_n 3, 1) := by decide +kernel
theorem dX9_giveBelts_32 : decode cX9_giveBelts 32 = .ok (.iconst (-1), 1) := by decide +kernel
theorem dX9_giveBelts_33 : decode cX9_giveBelts 33 = .ok (.iastore, 1) := by decide +kernel
theorem dX9_giveBelts_34 : decode cX9_giveBelts 34 = .ok (.return_, 1) := by decide +kernel
theorem dX9_pair_0 : decode cX9_pair 0 = .ok (.aload_n 0, 1) := by decide +kernel
theorem dX9_pair_1 : decode cX9_pair 1 = .ok (.aload_n 1, 1) := by decide +kernel
theorem dX9_pair_2 : decode cX9_pair 2 = .ok (.invokevirtual 148, 3) := by decide +kernel
theorem dX9_pair_5 : decode cX9_pair 5 = .ok (.istore_n 2, 1) := by decide +kernel
theorem dX9_pair_6 : decode cX9_pair 6 = .ok (.aload_n 1, 1) := by decide +kernel
theorem dX9_pair_7 : decode cX9_pair 7 = .ok (.iload_n 2, 1) := by decide +kernel
theorem dX9_pair_8 : decode cX9_pair 8 = .ok (.putfield 151, 3) := by decide +kernel
theorem dX9_pair_11 : decode cX9_pair 11 = .ok (.aload_n 1, 1) := by decide +kernel
theorem dX9_pair_12 : decode cX9_pair 12 = .ok (.aload_n 0, 1) := by decide +kernel
theorem dX9_pair_13 : decode cX9_pair 13 = .ok (.getfield 114, 3) := by decide +kernel
theorem dX9_pair_16 : decode cX9_pair 16 = .ok (.putfield 154, 3) := by decide +kernel
theorem dX9_pair_19 : decode cX9_pair 19 = .ok (.iconst 0, 1) := by decide +kernel
theorem dX9_pair_20 : decode cX9_pair 20 = .ok (.istore_n 3, 1) := by decide +kernel
theorem dX9_pair_21 : decode cX9_pair 21 = .ok (.iload_n 3, 1) := by decide +kernel
theorem dX9_pair_22 : decode cX9_pair 22 = .ok (.iload_n 2, 1) := by decide +kernel
theorem dX9_pair_23 : decode cX9_pair 23 = .ok (.if_icmp .ge 154, 3) := by decide +kernel
theorem dX9_pair_26 : decode cX9_pair 26 = .ok (.aload_n 0, 1) := by decide +kernel
theorem dX9_pair_27 : decode cX9_pair 27 = .ok (.getfield 53, 3) := by decide +kernel
theorem dX9_pair_30 : decode cX9_pair 30 = .ok (.iload_n 3, 1) := by decide +kernel
theorem dX9_pair_31 : decode cX9_pair 31 = .ok (.iaload, 1) := by decide +kernel
theorem dX9_pair_32 : decode cX9_pair 32 = .ok (.istore 4, 2) := by decide +kernel
theorem dX9_pair_34 : decode cX9_pair 34 = .ok (.aload_n 0, 1) := by decide +kernel
theorem dX9_pair_35 : decode cX9_pair 35 = .ok (.getfield 56, 3) := by decide +kernel
theorem dX9_pair_38 : decode cX9_pair 38 = .ok (.iload_n 3, 1) := by decide +kernel
theorem dX9_pair_39 : decode cX9_pair 39 = .ok (.iaload, 1) := by decide +kernel
theorem dX9_pair_40 : decode cX9_pair 40 = .ok (.istore 5, 2) := by decide +kernel
theorem dX9_pair_42 : decode cX9_pair 42 = .ok (.aload_n 1, 1) := by decide +kernel
theorem dX9_pair_43 : decode cX9_pair 43 = .ok (.getfield 76, 3) := by decide +kernel
theorem dX9_pair_46 : decode cX9_pair 46 = .ok (.iload 4, 2) := by decide +kernel
theorem dX9_pair_48 : decode cX9_pair 48 = .ok (.iaload, 1) := by decide +kernel
theorem dX9_pair_49 : decode cX9_pair 49 = .ok (.aload_n 1, 1) := by decide +kernel
theorem dX9_pair_50 : decode cX9_pair 50 = .ok (.getfield 76, 3) := by decide +kernel
theorem dX9_pair_53 : decode cX9_pair 53 = .ok (.iload 5, 2) := by decide +kernel
theorem dX9_pair_55 : decode cX9_pair 55 = .ok (.iaload, 1) := by decide +kernel
theorem dX9_pair_56 : decode cX9_pair 56 = .ok (.if_icmp .eq 36, 3) := by decide +kernel
theorem dX9_pair_59 : decode cX9_pair 59 = .ok (.aload_n 1, 1) := by decide +kernel
theorem dX9_pair_60 : decode cX9_pair 60 = .ok (.getfield 157, 3) := by decide +kernel
theorem dX9_pair_63 : decode cX9_pair 63 = .ok (.aload_n 1, 1) := by decide +kernel
theorem dX9_pair_64 : decode cX9_pair 64 = .ok (.getfield 76, 3) := by decide +kernel
theorem dX9_pair_67 : decode cX9_pair 67 = .ok (.iload 4, 2) := by decide +kernel
theorem dX9_pair_69 : decode cX9_pair 69 = .ok (.iaload, 1) := by decide +kernel
theorem dX9_pair_70 : decode cX9_pair 70 = .ok (.aload_n 1, 1) := by decide +kernel
theorem dX9_pair_71 : decode cX9_pair 71 = .ok (.getfield 76, 3) := by decide +kernel
theorem dX9_pair_74 : decode cX9_pair 74 = .ok (.iload 5, 2) := by decide +kernel
theorem dX9_pair_76 : decode cX9_pair 76 = .ok (.iaload, 1) := by decide +kernel
theorem dX9_pair_77 : decode cX9_pair 77 = .ok (.if_icmp .le 8, 3) := by decide +kernel
theorem dX9_pair_80 : decode cX9_pair 80 = .ok (.iload 4, 2) := by decide +kernel
theorem dX9_pair_82 : decode cX9_pair 82 = .ok (.goto 5, 3) := by decide +kernel
theorem dX9_pair_85 : decode cX9_pair 85 = .ok (.iload 5, 2) := by decide +kernel
theorem dX9_pair_87 : decode cX9_pair 87 = .ok (.dup2, 1) := by decide +kernel
theorem dX9_pair_88 : decode cX9_pair 88 = .ok (.iaload, 1) := by decide +kernel
theorem dX9_pair_89 : decode cX9_pair 89 = .ok (.iconst 1, 1) := by decide +kernel
theorem dX9_pair_90 : decode cX9_pair 90 = .ok (.iadd, 1) := by decide +kernel
theorem dX9_pair_91 : decode cX9_pair 91 = .ok (.iastore, 1) := by decide +kernel
theorem dX9_pair_92 : decode cX9_pair 92 = .ok (.aload_n 0, 1) := by decide +kernel
theorem dX9_pair_93 : decode cX9_pair 93 = .ok (.aload_n 1, 1) := by decide +kernel
theorem dX9_pair_94 : decode cX9_pair 94 = .ok (.iload 4, 2) := by decide +kernel
theorem dX9_pair_96 : decode cX9_pair 96 = .ok (.iload 5, 2) := by decide +kernel
theorem dX9_pair_98 : decode cX9_pair 98 = .ok (.invokevirtual 160, 3) := by decide +kernel
theorem dX9_pair_101 : decode cX9_pair 101 = .ok (.istore 6, 2) := by decide +kernel
theorem dX9_pair_103 : decode cX9_pair 103 = .ok (.aload_n 1, 1) := by decide +kernel
theorem dX9_pair_104 : decode cX9_pair 104 = .ok (.getfield 163, 3) := by decide +kernel
theorem dX9_pair_107 : decode cX9_pair 107 = .ok (.iload_n 3, 1) := by decide +kernel
theorem dX9_pair_108 : decode cX9_pair 108 = .ok (.iload 6, 2) := by decide +kernel
theorem dX9_pair_110 : decode cX9_pair 110 = .ok (.ifCond .eq 8, 3) := by decide +kernel
theorem dX9_pair_113 : decode cX9_pair 113 = .ok (.iload 4, 2) := by decide +kernel
theorem dX9_pair_115 : decode cX9_pair 115 = .ok (.goto 5, 3) := by decide +kernel
theorem dX9_pair_118 : decode cX9_pair 118 = .ok (.iload 5, 2) := by decide +kernel
theorem dX9_pair_120 : decode cX9_pair 120 = .ok (.iastore, 1) := by decide +kernel
theorem dX9_pair_121 : decode cX9_pair 121 = .ok (.aload_n 1, 1) := by decide +kernel
theorem dX9_pair_122 : decode cX9_pair 122 = .ok (.getfield 166, 3) := by decide +kernel
theorem dX9_pair_125 : decode cX9_pair 125 = .ok (.iload_n 3, 1) := by decide +kernel
theorem dX9_pair_126 : decode cX9_pair 126 = .ok (.iload 6, 2) := by decide +kernel
theorem dX9_pair_128 : decode cX9_pair 128 = .ok (.ifCond .eq 8, 3) := by decide +kernel
theorem dX9_pair_131 : decode cX9_pair 131 = .ok (.iload 5, 2) := by decide +kernel
theorem dX9_pair_133 : decode cX9_pair 133 = .ok (.goto 5, 3) := by decide +kernel
theorem dX9_pair_136 : decode cX9_pair 136 = .ok (.iload 4, 2) := by decide +kernel
theorem dX9_pair_138 : decode cX9_pair 138 = .ok (.iastore, 1) := by decide +kernel
theorem dX9_pair_139 : decode cX9_pair 139 = .ok (.aload_n 0, 1) := by decide +kernel
theorem dX9_pair_140 : decode cX9_pair 140 = .ok (.aload_n 1, 1) := by decide +kernel
theorem dX9_pair_141 : decode cX9_pair 141 = .ok (.aload_n 1, 1) := by decide +kernel
theorem dX9_pair_142 : decode cX9_pair 142 = .ok (.getfield 163, 3) := by decide +kernel
theorem dX9_pair_145 : decode cX9_pair 145 = .ok (.iload_n 3, 1) := by decide +kernel
theorem dX9_pair_146 : decode cX9_pair 146 = .ok (.iaload, 1) := by decide +kernel
theorem dX9_pair_147 : decode cX9_pair 147 = .ok (.aload_n 1, 1) := by decide +kernel
theorem dX9_pair_148 : decode cX9_pair 148 = .ok (.getfield 166, 3) := by decide +kernel
theorem dX9_pair_151 : decode cX9_pair 151 = .ok (.iload_n 3, 1) := by decide +kernel
theorem dX9_pair_152 : decode cX9_pair 152 = .ok (.iaload, 1) := by decide +kernel
theorem dX9_pair_153 : decode cX9_pair 153 = .ok (.invokevirtual 169, 3) := by decide +kernel
theorem dX9_pair_156 : decode cX9_pair 156 = .ok (.aload_n 1, 1) := by decide +kernel
theorem dX9_pair_157 : decode cX9_pair 157 = .ok (.iload 4, 2) := by decide +kernel
theorem dX9_pair_159 : decode cX9_pair 159 = .ok (.iload 5, 2) := by decide +kernel
theorem dX9_pair_161 : decode cX9_pair 161 = .ok (.invokevirtual 173, 3) := by decide +kernel
theorem dX9_pair_164 : decode cX9_pair 164 = .ok (.aload_n 1, 1) := by decide +kernel
theorem dX9_pair_165 : decode cX9_pair 165 = .ok (.getfield 177, 3) := by decide +kernel
theorem dX9_pair_168 : decode cX9_pair 168 = .ok (.iload_n 3, 1) := by decide +kernel
theorem dX9_pair_169 : decode cX9_pair 169 = .ok (.iconst (-1), 1) := by decide +kernel
theorem dX9_pair_170 : decode cX9_pair 170 = .ok (.iastore, 1) := by decide +kernel
theorem dX9_pair_171 : decode cX9_pair 171 = .ok (.iinc 3 1, 3) := by decide +kernel
theorem dX9_pair_174 : decode cX9_pair 174 = .ok (.goto (-153), 3) := by decide +kernel
theorem dX9_pair_177 : decode cX9_pair 177 = .ok (.aload_n 0, 1) := by decide +kernel
theorem dX9_pair_178 : decode cX9_pair 178 = .ok (.getfield 114, 3) := by decide +kernel
theorem dX9_pair_181 : decode cX9_pair 181 = .ok (.iconst (-1), 1) := by decide +kernel
theorem dX9_pair_182 : decode cX9_pair 182 = .ok (.if_icmp .eq 37, 3) := by decide +kernel
theorem dX9_pair_185 : decode cX9_pair 185 = .ok (.aload_n 1, 1) := by decide +kernel
theorem dX9_pair_186 : decode cX9_pair 186 = .ok (.getfield 117, 3) := by decide +kernel
theorem dX9_pair_189 : decode cX9_pair 189 = .ok (.aload_n 0, 1) := by decide +kernel
theorem dX9_pair_190 : decode cX9_pair 190 = .ok (.getfield 114, 3) := by decide +kernel
theorem dX9_pair_193 : decode cX9_pair 193 = .ok (.dup2, 1) := by decide +kernel
theorem dX9_pair_194 : decode cX9_pair 194 = .ok (.iaload, 1) := by decide +kernel
theorem dX9_pair_195 : decode cX9_pair 195 = .ok (.iconst 1, 1) := by decide +kernel
theorem dX9_pair_196 : decode cX9_pair 196 = .ok (.iadd, 1) := by decide +kernel
theorem dX9_pair_197 : decode cX9_pair 197 = .ok (.iastore, 1) := by decide +kernel
theorem dX9_pair_198 : decode cX9_pair 198 = .ok (.aload_n 1, 1) := by decide +kernel
theorem dX9_pair_199 : decode cX9_pair 199 = .ok (.getfield 76, 3) := by decide +kernel
theorem dX9_pair_202 : decode cX9_pair 202 = .ok (.aload_n 0, 1) := by decide +kernel
theorem dX9_pair_203 : decode cX9_pair 203 = .ok (.getfield 114, 3) := by decide +kernel
theorem dX9_pair_206 : decode cX9_pair 206 = .ok (.dup2, 1) := by decide +kernel
theorem dX9_pair_207 : decode cX9_pair 207 = .ok (.iaload, 1) := by decide +kernel
theorem dX9_pair_208 : decode cX9_pair 208 = .ok (.aload_n 0, 1) := by decide +kernel
theorem dX9_pair_209 : decode cX9_pair 209 = .ok (.getfield 20, 3) := by decide +kernel
theorem dX9_pair_212 : decode cX9_pair 212 = .ok (.getfield 180, 3) := by decide +kernel
theorem dX9_pair_215 : decode cX9_pair 215 = .ok (.iconst 2, 1) := by decide +kernel
theorem dX9_pair_216 : decode cX9_pair 216 = .ok (.iaload, 1) := by decide +kernel
theorem dX9_pair_217 : decode cX9_pair 217 = .ok (.iadd, 1) := by decide +kernel
theorem dX9_pair_218 : decode cX9_pair 218 = .ok (.iastore, 1) := by decide +kernel
theorem dX9_pair_219 : decode cX9_pair 219 = .ok (.aload_n 1, 1) := by decide +kernel
theorem dX9_pair_220 : decode cX9_pair 220 = .ok (.dup, 1) := by decide +kernel
theorem dX9_pair_221 : decode cX9_pair 221 = .ok (.getfield 101, 3) := by decide +kernel
theorem dX9_pair_224 : decode cX9_pair 224 = .ok (.iconst 1, 1) := by decide +kernel
theorem dX9_pair_225 : decode cX9_pair 225 = .ok (.iadd, 1) := by decide +kernel
theorem dX9_pair_226 : decode cX9_pair 226 = .ok (.putfield 101, 3) := by decide +kernel
theorem dX9_pair_229 : decode cX9_pair 229 = .ok (.return_, 1) := by decide +kernel
theorem dX9_tell_0 : decode cX9_tell 0 = .ok (.aload_n 1, 1) := by decide +kernel
theorem dX9_tell_1 : decode cX9_tell 1 = .ok (.getfield 177, 3) := by decide +kernel
theorem dX9_tell_4 : decode cX9_tell 4 = .ok (.iload_n 2, 1) := by decide +kernel
theorem dX9_tell_5 : decode cX9_tell 5 = .ok (.iload_n 3, 1) := by decide +kernel
theorem dX9_tell_6 : decode cX9_tell 6 = .ok (.iastore, 1) := by decide +kernel
theorem dX9_tell_7 : decode cX9_tell 7 = .ok (.iload_n 3, 1) := by decide +kernel
theorem dX9_tell_8 : decode cX9_tell 8 = .ok (.ifCond .ne 12, 3) := by decide +kernel
theorem dX9_tell_11 : decode cX9_tell 11 = .ok (.aload_n 1, 1) := by decide +kernel
theorem dX9_tell_12 : decode cX9_tell 12 = .ok (.getfield 163, 3) := by decide +kernel
theorem dX9_tell_15 : decode cX9_tell 15 = .ok (.iload_n 2, 1) := by decide +kernel
theorem dX9_tell_16 : decode cX9_tell 16 = .ok (.iaload, 1) := by decide +kernel
theorem dX9_tell_17 : decode cX9_tell 17 = .ok (.goto 9, 3) := by decide +kernel
theorem dX9_tell_20 : decode cX9_tell 20 = .ok (.aload_n 1, 1) := by decide +kernel
theorem dX9_tell_21 : decode cX9_tell 21 = .ok (.getfield 166, 3) := by decide +kernel
theorem dX9_tell_24 : decode cX9_tell 24 = .ok (.iload_n 2, 1) := by decide +kernel
theorem dX9_tell_25 : decode cX9_tell 25 = .ok (.iaload, 1) := by decide +kernel
theorem dX9_tell_26 : decode cX9_tell 26 = .ok (.istore 4, 2) := by decide +kernel
theorem dX9_tell_28 : decode cX9_tell 28 = .ok (.iload_n 3, 1) := by decide +kernel
theorem dX9_tell_29 : decode cX9_tell 29 = .ok (.ifCond .ne 12, 3) := by decide +kernel
theorem dX9_tell_32 : decode cX9_tell 32 = .ok (.aload_n 1, 1) := by decide +kernel
theorem dX9_tell_33 : decode cX9_tell 33 = .ok (.getfield 166, 3) := by decide +kernel
theorem dX9_tell_36 : decode cX9_tell 36 = .ok (.iload_n 2, 1) := by decide +kernel
theorem dX9_tell_37 : decode cX9_tell 37 = .ok (.iaload, 1) := by decide +kernel
theorem dX9_tell_38 : decode cX9_tell 38 = .ok (.goto 9, 3) := by decide +kernel
theorem dX9_tell_41 : decode cX9_tell 41 = .ok (.aload_n 1, 1) := by decide +kernel
theorem dX9_tell_42 : decode cX9_tell 42 = .ok (.getfield 163, 3) := by decide +kernel
theorem dX9_tell_45 : decode cX9_tell 45 = .ok (.iload_n 2, 1) := by decide +kernel
theorem dX9_tell_46 : decode cX9_tell 46 = .ok (.iaload, 1) := by decide +kernel
theorem dX9_tell_47 : decode cX9_tell 47 = .ok (.istore 5, 2) := by decide +kernel
theorem dX9_tell_49 : decode cX9_tell 49 = .ok (.iload_n 3, 1) := by decide +kernel
theorem dX9_tell_50 : decode cX9_tell 50 = .ok (.iconst 1, 1) := by decide +kernel
theorem dX9_tell_51 : decode cX9_tell 51 = .ok (.if_icmp .ne 64, 3) := by decide +kernel
theorem dX9_tell_54 : decode cX9_tell 54 = .ok (.aload_n 1, 1) := by decide +kernel
theorem dX9_tell_55 : decode cX9_tell 55 = .ok (.getfield 183, 3) := by decide +kernel
theorem dX9_tell_58 : decode cX9_tell 58 = .ok (.iload 4, 2) := by decide +kernel
theorem dX9_tell_60 : decode cX9_tell 60 = .ok (.dup2, 1) := by decide +kernel
theorem dX9_tell_61 : decode cX9_tell 61 = .ok (.iaload, 1) := by decide +kernel
theorem dX9_tell_62 : decode cX9_tell 62 = .ok (.iconst 1, 1) := by decide +kernel
theorem dX9_tell_63 : decode cX9_tell 63 = .ok (.iadd, 1) := by decide +kernel
theorem dX9_tell_64 : decode cX9_tell 64 = .ok (.iastore, 1) := by decide +kernel
theorem dX9_tell_65 : decode cX9_tell 65 = .ok (.aload_n 1, 1) := by decide +kernel
theorem dX9_tell_66 : decode cX9_tell 66 = .ok (.getfield 183, 3) := by decide +kernel
theorem dX9_tell_69 : decode cX9_tell 69 = .ok (.iload 5, 2) := by decide +kernel
theorem dX9_tell_71 : decode cX9_tell 71 = .ok (.dup2, 1) := by decide +kernel
theorem dX9_tell_72 : decode cX9_tell 72 = .ok (.iaload, 1) := by decide +kernel
theorem dX9_tell_73 : decode cX9_tell 73 = .ok (.iconst 1, 1) := by decide +kernel
theorem dX9_tell_74 : decode cX9_tell 74 = .ok (.iadd, 1) := by decide +kernel
theorem dX9_tell_75 : decode cX9_tell 75 = .ok (.iastore, 1) := by decide +kernel
theorem dX9_tell_76 : decode cX9_tell 76 = .ok (.aload_n 1, 1) := by decide +kernel
theorem dX9_tell_77 : decode cX9_tell 77 = .ok (.getfield 76, 3) := by decide +kernel
theorem dX9_tell_80 : decode cX9_tell 80 = .ok (.iload 4, 2) := by decide +kernel
theorem dX9_tell_82 : decode cX9_tell 82 = .ok (.dup2, 1) := by decide +kernel
theorem dX9_tell_83 : decode cX9_tell 83 = .ok (.iaload, 1) := by decide +kernel
theorem dX9_tell_84 : decode cX9_tell 84 = .ok (.aload_n 0, 1) := by decide +kernel
theorem dX9_tell_85 : decode cX9_tell 85 = .ok (.getfield 20, 3) := by decide +kernel
theorem dX9_tell_88 : decode cX9_tell 88 = .ok (.getfield 180, 3) := by decide +kernel
theorem dX9_tell_91 : decode cX9_tell 91 = .ok (.iconst 1, 1) := by decide +kernel
theorem dX9_tell_92 : decode cX9_tell 92 = .ok (.iaload, 1) := by decide +kernel
theorem dX9_tell_93 : decode cX9_tell 93 = .ok (.iadd, 1) := by decide +kernel
theorem dX9_tell_94 : decode cX9_tell 94 = .ok (.iastore, 1) := by decide +kernel
theorem dX9_tell_95 : decode cX9_tell 95 = .ok (.aload_n 1, 1) := by decide +kernel
theorem dX9_tell_96 : decode cX9_tell 96 = .ok (.getfield 76, 3) := by decide +kernel
theorem dX9_tell_99 : decode cX9_tell 99 = .ok (.iload 5, 2) := by decide +kernel
theorem dX9_tell_101 : decode cX9_tell 101 = .ok (.dup2, 1) := by decide +kernel
theorem dX9_tell_102 : decode cX9_tell 102 = .ok (.iaload, 1) := by decide +kernel
theorem dX9_tell_103 : decode cX9_tell 103 = .ok (.aload_n 0, 1) := by decide +kernel
theorem dX9_tell_104 : decode cX9_tell 104 = .ok (.getfield 20, 3) := by decide +kernel
theorem dX9_tell_107 : decode cX9_tell 107 = .ok (.getfield 180, 3) := by decide +kernel
theorem dX9_tell_110 : decode cX9_tell 110 = .ok (.iconst 1, 1) := by decide +kernel
theorem dX9_tell_111 : decode cX9_tell 111 = .ok (.iaload, 1) := by decide +kernel
theorem dX9_tell_112 : decode cX9_tell 112 = .ok (.iadd, 1) := by decide +kernel
theorem dX9_tell_113 : decode cX9_tell 113 = .ok (.iastore, 1) := by decide +kernel
theorem dX9_tell_114 : decode cX9_tell 114 = .ok (.return_, 1) := by decide +kernel
theorem dX9_tell_115 : decode cX9_tell 115 = .ok (.aload_n 1, 1) := by decide +kernel
theorem dX9_tell_116 : decode cX9_tell 116 = .ok (.getfield 186, 3) := by decide +kernel
theorem dX9_tell_119 : decode cX9_tell 119 = .ok (.iload 4, 2) := by decide +kernel
theorem dX9_tell_121 : decode cX9_tell 121 = .ok (.dup2, 1) := by decide +kernel
theorem dX9_tell_122 : decode cX9_tell 122 = .ok (.iaload, 1) := by decide +kernel
theorem dX9_tell_123 : decode cX9_tell 123 = .ok (.iconst 1, 1) := by decide +kernel
theorem dX9_tell_124 : decode cX9_tell 124 = .ok (.iadd, 1) := by decide +kernel
theorem dX9_tell_125 : decode cX9_tell 125 = .ok (.iastore, 1) := by decide +kernel
theorem dX9_tell_126 : decode cX9_tell 126 = .ok (.aload_n 1, 1) := by decide +kernel
theorem dX9_tell_127 : decode cX9_tell 127 = .ok (.getfield 76, 3) := by decide +kernel
theorem dX9_tell_130 : decode cX9_tell 130 = .ok (.iload 4, 2) := by decide +kernel
theorem dX9_tell_132 : decode cX9_tell 132 = .ok (.dup2, 1) := by decide +kernel
theorem dX9_tell_133 : decode cX9_tell 133 = .ok (.iaload, 1) := by decide +kernel
theorem dX9_tell_134 : decode cX9_tell 134 = .ok (.aload_n 0, 1) := by decide +kernel
theorem dX9_tell_135 : decode cX9_tell 135 = .ok (.getfield 20, 3) := by decide +kernel
theorem dX9_tell_138 : decode cX9_tell 138 = .ok (.getfield 180, 3) := by decide +kernel
theorem dX9_tell_141 : decode cX9_tell 141 = .ok (.iconst 0, 1) := by decide +kernel
theorem dX9_tell_142 : decode cX9_tell 142 = .ok (.iaload, 1) := by decide +kernel
theorem dX9_tell_143 : decode cX9_tell 143 = .ok (.iadd, 1) := by decide +kernel
theorem dX9_tell_144 : decode cX9_tell 144 = .ok (.iastore, 1) := by decide +kernel
theorem dX9_tell_145 : decode cX9_tell 145 = .ok (.aload_n 1, 1) := by decide +kernel
theorem dX9_tell_146 : decode cX9_tell 146 = .ok (.getfield 189, 3) := by decide +kernel
theorem dX9_tell_149 : decode cX9_tell 149 = .ok (.iload 5, 2) := by decide +kernel
theorem dX9_tell_151 : decode cX9_tell 151 = .ok (.dup2, 1) := by decide +kernel
theorem dX9_tell_152 : decode cX9_tell 152 = .ok (.iaload, 1) := by decide +kernel
theorem dX9_tell_153 : decode cX9_tell 153 = .ok (.iconst 1, 1) := by decide +kernel
theorem dX9_tell_154 : decode cX9_tell 154 = .ok (.iadd, 1) := by decide +kernel
theorem dX9_tell_155 : decode cX9_tell 155 = .ok (.iastore, 1) := by decide +kernel
theorem dX9_tell_156 : decode cX9_tell 156 = .ok (.return_, 1) := by decide +kernel
theorem dX9_ruled_0 : decode cX9_ruled 0 = .ok (.iconst 0, 1) := by decide +kernel
theorem dX9_ruled_1 : decode cX9_ruled 1 = .ok (.istore_n 3, 1) := by decide +kernel
theorem dX9_ruled_2 : decode cX9_ruled 2 = .ok (.iload_n 3, 1) := by decide +kernel
theorem dX9_ruled_3 : decode cX9_ruled 3 = .ok (.aload_n 0, 1) := by decide +kernel
theorem dX9_ruled_4 : decode cX9_ruled 4 = .ok (.getfield 20, 3) := by decide +kernel
theorem dX9_ruled_7 : decode cX9_ruled 7 = .ok (.getfield 192, 3) := by decide +kernel
theorem dX9_ruled_10 : decode cX9_ruled 10 = .ok (.if_icmp .ge 29, 3) := by decide +kernel
theorem dX9_ruled_13 : decode cX9_ruled 13 = .ok (.aload_n 0, 1) := by decide +kernel
theorem dX9_ruled_14 : decode cX9_ruled 14 = .ok (.aload_n 1, 1) := by decide +kernel
theorem dX9_ruled_15 : decode cX9_ruled 15 = .ok (.iload_n 2, 1) := by decide +kernel
theorem dX9_ruled_16 : decode cX9_ruled 16 = .ok (.iload_n 3, 1) := by decide +kernel
theorem dX9_ruled_17 : decode cX9_ruled 17 = .ok (.invokevirtual 195, 3) := by decide +kernel
theorem dX9_ruled_20 : decode cX9_ruled 20 = .ok (.ifCond .eq 13, 3) := by decide +kernel
theorem dX9_ruled_23 : decode cX9_ruled 23 = .ok (.aload_n 0, 1) := by decide +kernel
theorem dX9_ruled_24 : decode cX9_ruled 24 = .ok (.getfield 20, 3) := by decide +kernel
theorem dX9_ruled_27 : decode cX9_ruled 27 = .ok (.getfield 198, 3) := by decide +kernel
theorem dX9_ruled_30 : decode cX9_ruled 30 = .ok (.iload_n 3, 1) := by decide +kernel
theorem dX9_ruled_31 : decode cX9_ruled 31 = .ok (.iaload, 1) := by decide +kernel
theorem dX9_ruled_32 : decode cX9_ruled 32 = .ok (.ireturn, 1) := by decide +kernel
theorem dX9_ruled_33 : decode cX9_ruled 33 = .ok (.iinc 3 1, 3) := by decide +kernel
theorem dX9_ruled_36 : decode cX9_ruled 36 = .ok (.goto (-34), 3) := by decide +kernel
theorem dX9_ruled_39 : decode cX9_ruled 39 = .ok (.iconst 1, 1) := by decide +kernel
theorem dX9_ruled_40 : decode cX9_ruled 40 = .ok (.ireturn, 1) := by decide +kernel
theorem dX9_tellAll_0 : decode cX9_tellAll 0 = .ok (.iconst 0, 1) := by decide +kernel
theorem dX9_tellAll_1 : decode cX9_tellAll 1 = .ok (.istore_n 2, 1) := by decide +kernel
theorem dX9_tellAll_2 : decode cX9_tellAll 2 = .ok (.iconst 0, 1) := by decide +kernel
theorem dX9_tellAll_3 : decode cX9_tellAll 3 = .ok (.istore_n 3, 1) := by decide +kernel
theorem dX9_tellAll_4 : decode cX9_tellAll 4 = .ok (.iload_n 3, 1) := by decide +kernel
theorem dX9_tellAll_5 : decode cX9_tellAll 5 = .ok (.aload_n 1, 1) := by decide +kernel
theorem dX9_tellAll_6 : decode cX9_tellAll 6 = .ok (.getfield 151, 3) := by decide +kernel
theorem dX9_tellAll_9 : decode cX9_tellAll 9 = .ok (.if_icmp .ge 51, 3) := by decide +kernel
theorem dX9_tellAll_12 : decode cX9_tellAll 12 = .ok (.aload_n 1, 1) := by decide +kernel
theorem dX9_tellAll_13 : decode cX9_tellAll 13 = .ok (.getfield 177, 3) := by decide +kernel
theorem dX9_tellAll_16 : decode cX9_tellAll 16 = .ok (.iload_n 3, 1) := by decide +kernel
theorem dX9_tellAll_17 : decode cX9_tellAll 17 = .ok (.iaload, 1) := by decide +kernel
theorem dX9_tellAll_18 : decode cX9_tellAll 18 = .ok (.iconst (-1), 1) := by decide +kernel
theorem dX9_tellAll_19 : decode cX9_tellAll 19 = .ok (.if_icmp .eq 6, 3) := by decide +kernel
theorem dX9_tellAll_22 : decode cX9_tellAll 22 = .ok (.goto 32, 3) := by decide +kernel
theorem dX9_tellAll_25 : decode cX9_tellAll 25 = .ok (.aload_n 0, 1) := by decide +kernel
theorem dX9_tellAll_26 : decode cX9_tellAll 26 = .ok (.aload_n 1, 1) := by decide +kernel
theorem dX9_tellAll_27 : decode cX9_tellAll 27 = .ok (.iload_n 3, 1) := by decide +kernel
theorem dX9_tellAll_28 : decode cX9_tellAll 28 = .ok (.invokevirtual 201, 3) := by decide +kernel
theorem dX9_tellAll_31 : decode cX9_tellAll 31 = .ok (.istore 4, 2) := by decide +kernel
theorem dX9_tellAll_33 : decode cX9_tellAll 33 = .ok (.aload_n 0, 1) := by decide +kernel
theorem dX9_tellAll_34 : decode cX9_tellAll 34 = .ok (.aload_n 1, 1) := by decide +kernel
theorem dX9_tellAll_35 : decode cX9_tellAll 35 = .ok (.iload_n 3, 1) := by decide +kernel
theorem dX9_tellAll_36 : decode cX9_tellAll 36 = .ok (.iload 4, 2) := by decide +kernel
theorem dX9_tellAll_38 : decode cX9_tellAll 38 = .ok (.invokevirtual 204, 3) := by decide +kernel
theorem dX9_tellAll_41 : decode cX9_tellAll 41 = .ok (.iload_n 2, 1) := by decide +kernel
theorem dX9_tellAll_42 : decode cX9_tellAll 42 = .ok (.iload 4, 2) := by decide +kernel
theorem dX9_tellAll_44 : decode cX9_tellAll 44 = .ok (.ifCond .ne 7, 3) := by decide +kernel
theorem dX9_tellAll_47 : decode cX9_tellAll 47 = .ok (.iconst 1, 1) := by decide +kernel
theorem dX9_tellAll_48 : decode cX9_tellAll 48 = .ok (.goto 4, 3) := by decide +kernel
theorem dX9_tellAll_51 : decode cX9_tellAll 51 = .ok (.iconst 0, 1) := by decide +kernel
theorem dX9_tellAll_52 : decode cX9_tellAll 52 = .ok (.iadd, 1) := by decide +kernel
theorem dX9_tellAll_53 : decode cX9_tellAll 53 = .ok (.istore_n 2, 1) := by decide +kernel
theorem dX9_tellAll_54 : decode cX9_tellAll 54 = .ok (.iinc 3 1, 3) := by decide +kernel
theorem dX9_tellAll_57 : decode cX9_tellAll 57 = .ok (.goto (-53), 3) := by decide +kernel
theorem dX9_tellAll_60 : decode cX9_tellAll 60 = .ok (.iload_n 2, 1) := by decide +kernel
theorem dX9_tellAll_61 : decode cX9_tellAll 61 = .ok (.ireturn, 1) := by decide +kernel
theorem dX9_goAhead_0 : decode cX9_goAhead 0 = .ok (.aload_n 0, 1) := by decide +kernel
theorem dX9_goAhead_1 : decode cX9_goAhead 1 = .ok (.getfield 44, 3) := by decide +kernel
theorem dX9_goAhead_4 : decode cX9_goAhead 4 = .ok (.aload_n 0, 1) := by decide +kernel
theorem dX9_goAhead_5 : decode cX9_goAhead 5 = .ok (.getfield 40, 3) := by decide +kernel
theorem dX9_goAhead_8 : decode cX9_goAhead 8 = .ok (.invokevirtual 207, 3) := by decide +kernel
theorem dX9_goAhead_11 : decode cX9_goAhead 11 = .ok (.aload_n 0, 1) := by decide +kernel
theorem dX9_goAhead_12 : decode cX9_goAhead 12 = .ok (.aload_n 0, 1) := by decide +kernel
theorem dX9_goAhead_13 : decode cX9_goAhead 13 = .ok (.getfield 44, 3) := by decide +kernel
theorem dX9_goAhead_16 : decode cX9_goAhead 16 = .ok (.invokevirtual 210, 3) := by decide +kernel
theorem dX9_goAhead_19 : decode cX9_goAhead 19 = .ok (.pop, 1) := by decide +kernel
theorem dX9_goAhead_20 : decode cX9_goAhead 20 = .ok (.iconst 0, 1) := by decide +kernel
theorem dX9_goAhead_21 : decode cX9_goAhead 21 = .ok (.istore_n 2, 1) := by decide +kernel
theorem dX9_goAhead_22 : decode cX9_goAhead 22 = .ok (.iload_n 2, 1) := by decide +kernel
theorem dX9_goAhead_23 : decode cX9_goAhead 23 = .ok (.iload_n 1, 1) := by decide +kernel
theorem dX9_goAhead_24 : decode cX9_goAhead 24 = .ok (.if_icmp .ge 37, 3) := by decide +kernel
theorem dX9_goAhead_27 : decode cX9_goAhead 27 = .ok (.aload_n 0, 1) := by decide +kernel
theorem dX9_goAhead_28 : decode cX9_goAhead 28 = .ok (.aload_n 0, 1) := by decide +kernel
theorem dX9_goAhead_29 : decode cX9_goAhead 29 = .ok (.getfield 44, 3) := by decide +kernel
theorem dX9_goAhead_32 : decode cX9_goAhead 32 = .ok (.invokevirtual 213, 3) := by decide +kernel
theorem dX9_goAhead_35 : decode cX9_goAhead 35 = .ok (.ifCond .eq 26, 3) := by decide +kernel
theorem dX9_goAhead_38 : decode cX9_goAhead 38 = .ok (.aload_n 0, 1) := by decide +kernel
theorem dX9_goAhead_39 : decode cX9_goAhead 39 = .ok (.aload_n 0, 1) := by decide +kernel
theorem dX9_goAhead_40 : decode cX9_goAhead 40 = .ok (.getfield 44, 3) := by decide +kernel
theorem dX9_goAhead_43 : decode cX9_goAhead 43 = .ok (.invokevirtual 217, 3) := by decide +kernel
theorem dX9_goAhead_46 : decode cX9_goAhead 46 = .ok (.aload_n 0, 1) := by decide +kernel
theorem dX9_goAhead_47 : decode cX9_goAhead 47 = .ok (.aload_n 0, 1) := by decide +kernel
theorem dX9_goAhead_48 : decode cX9_goAhead 48 = .ok (.getfield 44, 3) := by decide +kernel
theorem dX9_goAhead_51 : decode cX9_goAhead 51 = .ok (.invokevirtual 210, 3) := by decide +kernel
theorem dX9_goAhead_54 : decode cX9_goAhead 54 = .ok (.pop, 1) := by decide +kernel
theorem dX9_goAhead_55 : decode cX9_goAhead 55 = .ok (.iinc 2 1, 3) := by decide +kernel
theorem dX9_goAhead_58 : decode cX9_goAhead 58 = .ok (.goto (-36), 3) := by decide +kernel
theorem dX9_goAhead_61 : decode cX9_goAhead 61 = .ok (.return_, 1) := by decide +kernel
theorem dX9_ask_0 : decode cX9_ask 0 = .ok (.iload_n 3, 1) := by decide +kernel
theorem dX9_ask_1 : decode cX9_ask 1 = .ok (.bipush 100, 2) := by decide +kernel
theorem dX9_ask_3 : decode cX9_ask 3 = .ok (.if_icmp .ne 6, 3) := by decide +kernel
theorem dX9_ask_6 : decode cX9_ask 6 = .ok (.iload 4, 2) := by decide +kernel
theorem dX9_ask_8 : decode cX9_ask 8 = .ok (.ireturn, 1) := by decide +kernel
theorem dX9_ask_9 : decode cX9_ask 9 = .ok (.iload_n 3, 1) := by decide +kernel
theorem dX9_ask_10 : decode cX9_ask 10 = .ok (.bipush 10, 2) := by decide +kernel
theorem dX9_ask_12 : decode cX9_ask 12 = .ok (.if_icmp .ne 10, 3) := by decide +kernel
theorem dX9_ask_15 : decode cX9_ask 15 = .ok (.aload_n 1, 1) := by decide +kernel
theorem dX9_ask_16 : decode cX9_ask 16 = .ok (.getfield 101, 3) := by decide +kernel
theorem dX9_ask_19 : decode cX9_ask 19 = .ok (.iconst 1, 1) := by decide +kernel
theorem dX9_ask_20 : decode cX9_ask 20 = .ok (.isub, 1) := by decide +kernel
theorem dX9_ask_21 : decode cX9_ask 21 = .ok (.ireturn, 1) := by decide +kernel
theorem dX9_ask_22 : decode cX9_ask 22 = .ok (.iload_n 3, 1) := by decide +kernel
theorem dX9_ask_23 : decode cX9_ask 23 = .ok (.bipush 12, 2) := by decide +kernel
theorem dX9_ask_25 : decode cX9_ask 25 = .ok (.if_icmp .ne 29, 3) := by decide +kernel
theorem dX9_ask_28 : decode cX9_ask 28 = .ok (.aload_n 1, 1) := by decide +kernel
theorem dX9_ask_29 : decode cX9_ask 29 = .ok (.aload_n 1, 1) := by decide +kernel
theorem dX9_ask_30 : decode cX9_ask 30 = .ok (.getfield 163, 3) := by decide +kernel
theorem dX9_ask_33 : decode cX9_ask 33 = .ok (.iload_n 2, 1) := by decide +kernel
theorem dX9_ask_34 : decode cX9_ask 34 = .ok (.iaload, 1) := by decide +kernel
theorem dX9_ask_35 : decode cX9_ask 35 = .ok (.aload_n 1, 1) := by decide +kernel
theorem dX9_ask_36 : decode cX9_ask 36 = .ok (.getfield 166, 3) := by decide +kernel
theorem dX9_ask_39 : decode cX9_ask 39 = .ok (.iload_n 2, 1) := by decide +kernel
theorem dX9_ask_40 : decode cX9_ask 40 = .ok (.iaload, 1) := by decide +kernel
theorem dX9_ask_41 : decode cX9_ask 41 = .ok (.invokevirtual 72, 3) := by decide +kernel
theorem dX9_ask_44 : decode cX9_ask 44 = .ok (.iconst 1, 1) := by decide +kernel
theorem dX9_ask_45 : decode cX9_ask 45 = .ok (.if_icmp .le 7, 3) := by decide +kernel
theorem dX9_ask_48 : decode cX9_ask 48 = .ok (.iconst 1, 1) := by decide +kernel
theorem dX9_ask_49 : decode cX9_ask 49 = .ok (.goto 4, 3) := by decide +kernel
theorem dX9_ask_52 : decode cX9_ask 52 = .ok (.iconst 0, 1) := by decide +kernel
theorem dX9_ask_53 : decode cX9_ask 53 = .ok (.ireturn, 1) := by decide +kernel
theorem dX9_ask_54 : decode cX9_ask 54 = .ok (.iload 4, 2) := by decide +kernel
theorem dX9_ask_56 : decode cX9_ask 56 = .ok (.bipush 6, 2) := by decide +kernel
theorem dX9_ask_58 : decode cX9_ask 58 = .ok (.if_icmp .ne 12, 3) := by decide +kernel
theorem dX9_ask_61 : decode cX9_ask 61 = .ok (.aload_n 1, 1) := by decide +kernel
theorem dX9_ask_62 : decode cX9_ask 62 = .ok (.getfield 163, 3) := by decide +kernel
theorem dX9_ask_65 : decode cX9_ask 65 = .ok (.iload_n 2, 1) := by decide +kernel
theorem dX9_ask_66 : decode cX9_ask 66 = .ok (.iaload, 1) := by decide +kernel
theorem dX9_ask_67 : decode cX9_ask 67 = .ok (.goto 9, 3) := by decide +kernel
theorem dX9_ask_70 : decode cX9_ask 70 = .ok (.aload_n 1, 1) := by decide +kernel
theorem dX9_ask_71 : decode cX9_ask 71 = .ok (.getfield 166, 3) := by decide +kernel
theorem dX9_ask_74 : decode cX9_ask 74 = .ok (.iload_n 2, 1) := by decide +kernel
theorem dX9_ask_75 : decode cX9_ask 75 = .ok (.iaload, 1) := by decide +kernel
theorem dX9_ask_76 : decode cX9_ask 76 = .ok (.istore 5, 2) := by decide +kernel
theorem dX9_ask_78 : decode cX9_ask 78 = .ok (.iload_n 3, 1) := by decide +kernel
theorem dX9_ask_79 : decode cX9_ask 79 = .ok (.tableswitch 112 1 14 #[69, 80, 112, 112, 112, 112, 112, 112, 112, 112, 88, 112, 96, 104], 69) := by decide +kernel
theorem dX9_ask_148 : decode cX9_ask 148 = .ok (.aload_n 0, 1) := by decide +kernel
theorem dX9_ask_149 : decode cX9_ask 149 = .ok (.getfield 20, 3) := by decide +kernel
theorem dX9_ask_152 : decode cX9_ask 152 = .ok (.getfield 83, 3) := by decide +kernel
theorem dX9_ask_155 : decode cX9_ask 155 = .ok (.iload 5, 2) := by decide +kernel
theorem dX9_ask_157 : decode cX9_ask 157 = .ok (.iaload, 1) := by decide +kernel
theorem dX9_ask_158 : decode cX9_ask 158 = .ok (.ireturn, 1) := by decide +kernel
theorem dX9_ask_159 : decode cX9_ask 159 = .ok (.aload_n 1, 1) := by decide +kernel
theorem dX9_ask_160 : decode cX9_ask 160 = .ok (.getfield 76, 3) := by decide +kernel
theorem dX9_ask_163 : decode cX9_ask 163 = .ok (.iload 5, 2) := by decide +kernel
theorem dX9_ask_165 : decode cX9_ask 165 = .ok (.iaload, 1) := by decide +kernel
theorem dX9_ask_166 : decode cX9_ask 166 = .ok (.ireturn, 1) := by decide +kernel
theorem dX9_ask_167 : decode cX9_ask 167 = .ok (.aload_n 1, 1) := by decide +kernel
theorem dX9_ask_168 : decode cX9_ask 168 = .ok (.getfield 186, 3) := by decide +kernel
theorem dX9_ask_171 : decode cX9_ask 171 = .ok (.iload 5, 2) := by decide +kernel
theorem dX9_ask_173 : decode cX9_ask 173 = .ok (.iaload, 1) := by decide +kernel
theorem dX9_ask_174 : decode cX9_ask 174 = .ok (.ireturn, 1) := by decide +kernel
theorem dX9_ask_175 : decode cX9_ask 175 = .ok (.aload_n 1, 1) := by decide +kernel
theorem dX9_ask_176 : decode cX9_ask 176 = .ok (.getfield 142, 3) := by decide +kernel
theorem dX9_ask_179 : decode cX9_ask 179 = .ok (.iload 5, 2) := by decide +kernel
theorem dX9_ask_181 : decode cX9_ask 181 = .ok (.iaload, 1) := by decide +kernel
theorem dX9_ask_182 : decode cX9_ask 182 = .ok (.ireturn, 1) := by decide +kernel
theorem dX9_ask_183 : decode cX9_ask 183 = .ok (.aload_n 1, 1) := by decide +kernel
theorem dX9_ask_184 : decode cX9_ask 184 = .ok (.getfield 157, 3) := by decide +kernel
theorem dX9_ask_187 : decode cX9_ask 187 = .ok (.iload 5, 2) := by decide +kernel
theorem dX9_ask_189 : decode cX9_ask 189 = .ok (.iaload, 1) := by decide +kernel
theorem dX9_ask_190 : decode cX9_ask 190 = .ok (.ireturn, 1) := by decide +kernel
theorem dX9_ask_191 : decode cX9_ask 191 = .ok (.aload_n 1, 1) := by decide +kernel
theorem dX9_ask_192 : decode cX9_ask 192 = .ok (.getfield 117, 3) := by decide +kernel
theorem dX9_ask_195 : decode cX9_ask 195 = .ok (.iload 5, 2) := by decide +kernel
theorem dX9_ask_197 : decode cX9_ask 197 = .ok (.iaload, 1) := by decide +kernel
theorem dX9_ask_198 : decode cX9_ask 198 = .ok (.ireturn, 1) := by decide +kernel
theorem dX9_isAsked_0 : decode cX9_isAsked 0 = .ok (.iload_n 0, 1) := by decide +kernel
theorem dX9_isAsked_1 : decode cX9_isAsked 1 = .ok (.bipush 100, 2) := by decide +kernel
theorem dX9_isAsked_3 : decode cX9_isAsked 3 = .ok (.if_icmp .eq 22, 3) := by decide +kernel
theorem dX9_isAsked_6 : decode cX9_isAsked 6 = .ok (.iload_n 0, 1) := by decide +kernel
theorem dX9_isAsked_7 : decode cX9_isAsked 7 = .ok (.bipush 10, 2) := by decide +kernel
theorem dX9_isAsked_9 : decode cX9_isAsked 9 = .ok (.if_icmp .eq 16, 3) := by decide +kernel
theorem dX9_isAsked_12 : decode cX9_isAsked 12 = .ok (.iload_n 0, 1) := by decide +kernel
theorem dX9_isAsked_13 : decode cX9_isAsked 13 = .ok (.bipush 12, 2) := by decide +kernel
theorem dX9_isAsked_15 : decode cX9_isAsked 15 = .ok (.if_icmp .eq 10, 3) := by decide +kernel
theorem dX9_isAsked_18 : decode cX9_isAsked 18 = .ok (.iload_n 0, 1) := by decide +kernel
theorem dX9_isAsked_19 : decode cX9_isAsked 19 = .ok (.invokestatic 220, 3) := by decide +kernel
theorem dX9_isAsked_22 : decode cX9_isAsked 22 = .ok (.ifCond .eq 7, 3) := by decide +kernel
theorem dX9_isAsked_25 : decode cX9_isAsked 25 = .ok (.iconst 1, 1) := by decide +kernel
theorem dX9_isAsked_26 : decode cX9_isAsked 26 = .ok (.goto 4, 3) := by decide +kernel
theorem dX9_isAsked_29 : decode cX9_isAsked 29 = .ok (.iconst 0, 1) := by decide +kernel
theorem dX9_isAsked_30 : decode cX9_isAsked 30 = .ok (.ireturn, 1) := by decide +kernel
theorem dX9_isSided_0 : decode cX9_isSided 0 = .ok (.iload_n 0, 1) := by decide +kernel
theorem dX9_isSided_1 : decode cX9_isSided 1 = .ok (.iconst 1, 1) := by decide +kernel
theorem dX9_isSided_2 : decode cX9_isSided 2 = .ok (.if_icmp .eq 31, 3) := by decide +kernel
theorem dX9_isSided_5 : decode cX9_isSided 5 = .ok (.iload_n 0, 1) := by decide +kernel
theorem dX9_isSided_6 : decode cX9_isSided 6 = .ok (.iconst 2, 1) := by decide +kernel
theorem dX9_isSided_7 : decode cX9_isSided 7 = .ok (.if_icmp .eq 26, 3) := by decide +kernel
theorem dX9_isSided_10 : decode cX9_isSided 10 = .ok (.iload_n 0, 1) := by decide +kernel
theorem dX9_isSided_11 : decode cX9_isSided 11 = .ok (.bipush 11, 2) := by decide +kernel
theorem dX9_isSided_13 : decode cX9_isSided 13 = .ok (.if_icmp .eq 20, 3) := by decide +kernel
theorem dX9_isSided_16 : decode cX9_isSided 16 = .ok (.iload_n 0, 1) := by decide +kernel
theorem dX9_isSided_17 : decode cX9_isSided 17 = .ok (.bipush 13, 2) := by decide +kernel
theorem dX9_isSided_19 : decode cX9_isSided 19 = .ok (.if_icmp .eq 14, 3) := by decide +kernel
theorem dX9_isSided_22 : decode cX9_isSided 22 = .ok (.iload_n 0, 1) := by decide +kernel
theorem dX9_isSided_23 : decode cX9_isSided 23 = .ok (.bipush 14, 2) := by decide +kernel
theorem dX9_isSided_25 : decode cX9_isSided 25 = .ok (.if_icmp .eq 8, 3) := by decide +kernel
theorem dX9_isSided_28 : decode cX9_isSided 28 = .ok (.iload_n 0, 1) := by decide +kernel
theorem dX9_isSided_29 : decode cX9_isSided 29 = .ok (.iconst 4, 1) := by decide +kernel
theorem dX9_isSided_30 : decode cX9_isSided 30 = .ok (.if_icmp .ne 7, 3) := by decide +kernel
theorem dX9_isSided_33 : decode cX9_isSided 33 = .ok (.iconst 1, 1) := by decide +kernel
theorem dX9_isSided_34 : decode cX9_isSided 34 = .ok (.goto 4, 3) := by decide +kernel
theorem dX9_isSided_37 : decode cX9_isSided 37 = .ok (.iconst 0, 1) := by decide +kernel
theorem dX9_isSided_38 : decode cX9_isSided 38 = .ok (.ireturn, 1) := by decide +kernel
theorem dX9_one_0 : decode cX9_one 0 = .ok (.iload_n 0, 1) := by decide +kernel
theorem dX9_one_1 : decode cX9_one 1 = .ok (.ifCond .eq 7, 3) := by decide +kernel
theorem dX9_one_4 : decode cX9_one 4 = .ok (.iconst 1, 1) := by decide +kernel
theorem dX9_one_5 : decode cX9_one 5 = .ok (.goto 4, 3) := by decide +kernel
theorem dX9_one_8 : decode cX9_one 8 = .ok (.iconst 0, 1) := by decide +kernel
theorem dX9_one_9 : decode cX9_one 9 = .ok (.ireturn, 1) := by decide +kernel
theorem dX9_reckon_0 : decode cX9_reckon 0 = .ok (.iload_n 0, 1) := by decide +kernel
theorem dX9_reckon_1 : decode cX9_reckon 1 = .ok (.lookupswitch 217 #[(16, 213), (18, 131), (19, 137), (101, 107), (102, 111), (103, 115), (104, 119), (106, 143), (107, 157), (108, 171), (109, 185), (110, 199)], 107) := by decide +kernel
theorem dX9_reckon_108 : decode cX9_reckon 108 = .ok (.iload_n 1, 1) := by decide +kernel
theorem dX9_reckon_109 : decode cX9_reckon 109 = .ok (.iload_n 2, 1) := by decide +kernel
theorem dX9_reckon_110 : decode cX9_reckon 110 = .ok (.iadd, 1) := by decide +kernel
theorem dX9_reckon_111 : decode cX9_reckon 111 = .ok (.ireturn, 1) := by decide +kernel
theorem dX9_reckon_112 : decode cX9_reckon 112 = .ok (.iload_n 1, 1) := by decide +kernel
theorem dX9_reckon_113 : decode cX9_reckon 113 = .ok (.iload_n 2, 1) := by decide +kernel
theorem dX9_reckon_114 : decode cX9_reckon 114 = .ok (.isub, 1) := by decide +kernel
theorem dX9_reckon_115 : decode cX9_reckon 115 = .ok (.ireturn, 1) := by decide +kernel
theorem dX9_reckon_116 : decode cX9_reckon 116 = .ok (.iload_n 1, 1) := by decide +kernel
theorem dX9_reckon_117 : decode cX9_reckon 117 = .ok (.iload_n 2, 1) := by decide +kernel
theorem dX9_reckon_118 : decode cX9_reckon 118 = .ok (.imul, 1) := by decide +kernel
theorem dX9_reckon_119 : decode cX9_reckon 119 = .ok (.ireturn, 1) := by decide +kernel
theorem dX9_reckon_120 : decode cX9_reckon 120 = .ok (.iload_n 2, 1) := by decide +kernel
theorem dX9_reckon_121 : decode cX9_reckon 121 = .ok (.ifCond .ne 7, 3) := by decide +kernel
theorem dX9_reckon_124 : decode cX9_reckon 124 = .ok (.iconst 0, 1) := by decide +kernel
theorem dX9_reckon_125 : decode cX9_reckon 125 = .ok (.goto 6, 3) := by decide +kernel
theorem dX9_reckon_128 : decode cX9_reckon 128 = .ok (.iload_n 1, 1) := by decide +kernel
theorem dX9_reckon_129 : decode cX9_reckon 129 = .ok (.iload_n 2, 1) := by decide +kernel
theorem dX9_reckon_130 : decode cX9_reckon 130 = .ok (.idiv, 1) := by decide +kernel
theorem dX9_reckon_131 : decode cX9_reckon 131 = .ok (.ireturn, 1) := by decide +kernel
theorem dX9_reckon_132 : decode cX9_reckon 132 = .ok (.iload_n 1, 1) := by decide +kernel
theorem dX9_reckon_133 : decode cX9_reckon 133 = .ok (.iload_n 2, 1) := by decide +kernel
theorem dX9_reckon_134 : decode cX9_reckon 134 = .ok (.invokestatic 224, 3) := by decide +kernel
theorem dX9_reckon_137 : decode cX9_reckon 137 = .ok (.ireturn, 1) := by decide +kernel
theorem dX9_reckon_138 : decode cX9_reckon 138 = .ok (.iload_n 1, 1) := by decide +kernel
theorem dX9_reckon_139 : decode cX9_reckon 139 = .ok (.iload_n 2, 1) := by decide +kernel
theorem dX9_reckon_140 : decode cX9_reckon 140 = .ok (.invokestatic 229, 3) := by decide +kernel
theorem dX9_reckon_143 : decode cX9_reckon 143 = .ok (.ireturn, 1) := by decide +kernel
theorem dX9_reckon_144 : decode cX9_reckon 144 = .ok (.iload_n 1, 1) := by decide +kernel
theorem dX9_reckon_145 : decode cX9_reckon 145 = .ok (.iload_n 2, 1) := by decide +kernel
theorem dX9_reckon_146 : decode cX9_reckon 146 = .ok (.if_icmp .ge 7, 3) := by decide +kernel
theorem dX9_reckon_149 : decode cX9_reckon 149 = .ok (.iconst 1, 1) := by decide +kernel
theorem dX9_reckon_150 : decode cX9_reckon 150 = .ok (.goto 4, 3) := by decide +kernel
theorem dX9_reckon_153 : decode cX9_reckon 153 = .ok (.iconst 0, 1) := by decide +kernel
theorem dX9_reckon_154 : decode cX9_reckon 154 = .ok (.invokestatic 232, 3) := by decide +kernel
theorem dX9_reckon_157 : decode cX9_reckon 157 = .ok (.ireturn, 1) := by decide +kernel
theorem dX9_reckon_158 : decode cX9_reckon 158 = .ok (.iload_n 1, 1) := by decide +kernel
theorem dX9_reckon_159 : decode cX9_reckon 159 = .ok (.iload_n 2, 1) := by decide +kernel
theorem dX9_reckon_160 : decode cX9_reckon 160 = .ok (.if_icmp .le 7, 3) := by decide +kernel
theorem dX9_reckon_163 : decode cX9_reckon 163 = .ok (.iconst 1, 1) := by decide +kernel
theorem dX9_reckon_164 : decode cX9_reckon 164 = .ok (.goto 4, 3) := by decide +kernel
theorem dX9_reckon_167 : decode cX9_reckon 167 = .ok (.iconst 0, 1) := by decide +kernel
theorem dX9_reckon_168 : decode cX9_reckon 168 = .ok (.invokestatic 232, 3) := by decide +kernel
theorem dX9_reckon_171 : decode cX9_reckon 171 = .ok (.ireturn, 1) := by decide +kernel
theorem dX9_reckon_172 : decode cX9_reckon 172 = .ok (.iload_n 1, 1) := by decide +kernel
theorem dX9_reckon_173 : decode cX9_reckon 173 = .ok (.iload_n 2, 1) := by decide +kernel
theorem dX9_reckon_174 : decode cX9_reckon 174 = .ok (.if_icmp .ne 7, 3) := by decide +kernel
theorem dX9_reckon_177 : decode cX9_reckon 177 = .ok (.iconst 1, 1) := by decide +kernel
theorem dX9_reckon_178 : decode cX9_reckon 178 = .ok (.goto 4, 3) := by decide +kernel
theorem dX9_reckon_181 : decode cX9_reckon 181 = .ok (.iconst 0, 1) := by decide +kernel
theorem dX9_reckon_182 : decode cX9_reckon 182 = .ok (.invokestatic 232, 3) := by decide +kernel
theorem dX9_reckon_185 : decode cX9_reckon 185 = .ok (.ireturn, 1) := by decide +kernel
theorem dX9_reckon_186 : decode cX9_reckon 186 = .ok (.iload_n 1, 1) := by decide +kernel
theorem dX9_reckon_187 : decode cX9_reckon 187 = .ok (.iload_n 2, 1) := by decide +kernel
theorem dX9_reckon_188 : decode cX9_reckon 188 = .ok (.if_icmp .gt 7, 3) := by decide +kernel
theorem dX9_reckon_191 : decode cX9_reckon 191 = .ok (.iconst 1, 1) := by decide +kernel
theorem dX9_reckon_192 : decode cX9_reckon 192 = .ok (.goto 4, 3) := by decide +kernel
theorem dX9_reckon_195 : decode cX9_reckon 195 = .ok (.iconst 0, 1) := by decide +kernel
theorem dX9_reckon_196 : decode cX9_reckon 196 = .ok (.invokestatic 232, 3) := by decide +kernel
theorem dX9_reckon_199 : decode cX9_reckon 199 = .ok (.ireturn, 1) := by decide +kernel
theorem dX9_reckon_200 : decode cX9_reckon 200 = .ok (.iload_n 1, 1) := by decide +kernel
theorem dX9_reckon_201 : decode cX9_reckon 201 = .ok (.iload_n 2, 1) := by decide +kernel
theorem dX9_reckon_202 : decode cX9_reckon 202 = .ok (.if_icmp .lt 7, 3) := by decide +kernel
theorem dX9_reckon_205 : decode cX9_reckon 205 = .ok (.iconst 1, 1) := by decide +kernel
theorem dX9_reckon_206 : decode cX9_reckon 206 = .ok (.goto 4, 3) := by decide +kernel
theorem dX9_reckon_209 : decode cX9_reckon 209 = .ok (.iconst 0, 1) := by decide +kernel
theorem dX9_reckon_210 : decode cX9_reckon 210 = .ok (.invokestatic 232, 3) := by decide +kernel
theorem dX9_reckon_213 : decode cX9_reckon 213 = .ok (.ireturn, 1) := by decide +kernel
theorem dX9_reckon_214 : decode cX9_reckon 214 = .ok (.iload_n 1, 1) := by decide +kernel
theorem dX9_reckon_215 : decode cX9_reckon 215 = .ok (.iload_n 2, 1) := by decide +kernel
theorem dX9_reckon_216 : decode cX9_reckon 216 = .ok (.iand, 1) := by decide +kernel
theorem dX9_reckon_217 : decode cX9_reckon 217 = .ok (.ireturn, 1) := by decide +kernel
theorem dX9_reckon_218 : decode cX9_reckon 218 = .ok (.iload_n 1, 1) := by decide +kernel
theorem dX9_reckon_219 : decode cX9_reckon 219 = .ok (.iload_n 2, 1) := by decide +kernel
theorem dX9_reckon_220 : decode cX9_reckon 220 = .ok (.ior, 1) := by decide +kernel
theorem dX9_reckon_221 : decode cX9_reckon 221 = .ok (.ireturn, 1) := by decide +kernel
theorem dX9_holds_0 : decode cX9_holds 0 = .ok (.iconst 0, 1) := by decide +kernel
theorem dX9_holds_1 : decode cX9_holds 1 = .ok (.istore 4, 2) := by decide +kernel
theorem dX9_holds_3 : decode cX9_holds 3 = .ok (.aload_n 0, 1) := by decide +kernel
theorem dX9_holds_4 : decode cX9_holds 4 = .ok (.getfield 20, 3) := by decide +kernel
theorem dX9_holds_7 : decode cX9_holds 7 = .ok (.getfield 236, 3) := by decide +kernel
theorem dX9_holds_10 : decode cX9_holds 10 = .ok (.iload_n 3, 1) := by decide +kernel
theorem dX9_holds_11 : decode cX9_holds 11 = .ok (.iaload, 1) := by decide +kernel
theorem dX9_holds_12 : decode cX9_holds 12 = .ok (.istore 5, 2) := by decide +kernel
theorem dX9_holds_14 : decode cX9_holds 14 = .ok (.iload 5, 2) := by decide +kernel
theorem dX9_holds_16 : decode cX9_holds 16 = .ok (.aload_n 0, 1) := by decide +kernel
theorem dX9_holds_17 : decode cX9_holds 17 = .ok (.getfield 20, 3) := by decide +kernel
theorem dX9_holds_20 : decode cX9_holds 20 = .ok (.getfield 239, 3) := by decide +kernel
theorem dX9_holds_23 : decode cX9_holds 23 = .ok (.iload_n 3, 1) := by decide +kernel
theorem dX9_holds_24 : decode cX9_holds 24 = .ok (.iaload, 1) := by decide +kernel
theorem dX9_holds_25 : decode cX9_holds 25 = .ok (.if_icmp .ge 152, 3) := by decide +kernel
theorem dX9_holds_28 : decode cX9_holds 28 = .ok (.aload_n 0, 1) := by decide +kernel
theorem dX9_holds_29 : decode cX9_holds 29 = .ok (.getfield 20, 3) := by decide +kernel
theorem dX9_holds_32 : decode cX9_holds 32 = .ok (.getfield 242, 3) := by decide +kernel
theorem dX9_holds_35 : decode cX9_holds 35 = .ok (.iload 5, 2) := by decide +kernel
theorem dX9_holds_37 : decode cX9_holds 37 = .ok (.iaload, 1) := by decide +kernel
theorem dX9_holds_38 : decode cX9_holds 38 = .ok (.istore 6, 2) := by decide +kernel
theorem dX9_holds_40 : decode cX9_holds 40 = .ok (.iload 6, 2) := by decide +kernel
theorem dX9_holds_42 : decode cX9_holds 42 = .ok (.invokestatic 245, 3) := by decide +kernel
theorem dX9_holds_45 : decode cX9_holds 45 = .ok (.ifCond .eq 34, 3) := by decide +kernel
theorem dX9_holds_48 : decode cX9_holds 48 = .ok (.aload_n 0, 1) := by decide +kernel
theorem dX9_holds_49 : decode cX9_holds 49 = .ok (.getfield 59, 3) := by decide +kernel
theorem dX9_holds_52 : decode cX9_holds 52 = .ok (.iload 4, 2) := by decide +kernel
theorem dX9_holds_54 : decode cX9_holds 54 = .ok (.aload_n 0, 1) := by decide +kernel
theorem dX9_holds_55 : decode cX9_holds 55 = .ok (.aload_n 1, 1) := by decide +kernel
theorem dX9_holds_56 : decode cX9_holds 56 = .ok (.iload_n 2, 1) := by decide +kernel
theorem dX9_holds_57 : decode cX9_holds 57 = .ok (.iload 6, 2) := by decide +kernel
theorem dX9_holds_59 : decode cX9_holds 59 = .ok (.aload_n 0, 1) := by decide +kernel
theorem dX9_holds_60 : decode cX9_holds 60 = .ok (.getfield 20, 3) := by decide +kernel
theorem dX9_holds_63 : decode cX9_holds 63 = .ok (.getfield 248, 3) := by decide +kernel
theorem dX9_holds_66 : decode cX9_holds 66 = .ok (.iload 5, 2) := by decide +kernel
theorem dX9_holds_68 : decode cX9_holds 68 = .ok (.iaload, 1) := by decide +kernel
theorem dX9_holds_69 : decode cX9_holds 69 = .ok (.invokevirtual 251, 3) := by decide +kernel
theorem dX9_holds_72 : decode cX9_holds 72 = .ok (.iastore, 1) := by decide +kernel
theorem dX9_holds_73 : decode cX9_holds 73 = .ok (.iinc 4 1, 3) := by decide +kernel
theorem dX9_holds_76 : decode cX9_holds 76 = .ok (.goto 95, 3) := by decide +kernel
theorem dX9_holds_79 : decode cX9_holds 79 = .ok (.iload 6, 2) := by decide +kernel
theorem dX9_holds_81 : decode cX9_holds 81 = .ok (.bipush 105, 2) := by decide +kernel
theorem dX9_holds_83 : decode cX9_holds 83 = .ok (.if_icmp .ne 25, 3) := by decide +kernel
theorem dX9_holds_86 : decode cX9_holds 86 = .ok (.aload_n 0, 1) := by decide +kernel
theorem dX9_holds_87 : decode cX9_holds 87 = .ok (.getfield 59, 3) := by decide +kernel
theorem dX9_holds_90 : decode cX9_holds 90 = .ok (.iload 4, 2) := by decide +kernel
theorem dX9_holds_92 : decode cX9_holds 92 = .ok (.iconst 1, 1) := by decide +kernel
theorem dX9_holds_93 : decode cX9_holds 93 = .ok (.isub, 1) := by decide +kernel
theorem dX9_holds_94 : decode cX9_holds 94 = .ok (.aload_n 0, 1) := by decide +kernel
theorem dX9_holds_95 : decode cX9_holds 95 = .ok (.getfield 59, 3) := by decide +kernel
theorem dX9_holds_98 : decode cX9_holds 98 = .ok (.iload 4, 2) := by decide +kernel
theorem dX9_holds_100 : decode cX9_holds 100 = .ok (.iconst 1, 1) := by decide +kernel
theorem dX9_holds_101 : decode cX9_holds 101 = .ok (.isub, 1) := by decide +kernel
theorem dX9_holds_102 : decode cX9_holds 102 = .ok (.iaload, 1) := by decide +kernel
theorem dX9_holds_103 : decode cX9_holds 103 = .ok (.ineg, 1) := by decide +kernel
theorem dX9_holds_104 : decode cX9_holds 104 = .ok (.iastore, 1) := by decide +kernel
theorem dX9_holds_105 : decode cX9_holds 105 = .ok (.goto 66, 3) := by decide +kernel
theorem dX9_holds_108 : decode cX9_holds 108 = .ok (.iload 6, 2) := by decide +kernel
theorem dX9_holds_110 : decode cX9_holds 110 = .ok (.bipush 15, 2) := by decide +kernel
theorem dX9_holds_112 : decode cX9_holds 112 = .ok (.if_icmp .ne 26, 3) := by decide +kernel
theorem dX9_holds_115 : decode cX9_holds 115 = .ok (.aload_n 0, 1) := by decide +kernel
theorem dX9_holds_116 : decode cX9_holds 116 = .ok (.getfield 59, 3) := by decide +kernel
theorem dX9_holds_119 : decode cX9_holds 119 = .ok (.iload 4, 2) := by decide +kernel
theorem dX9_holds_121 : decode cX9_holds 121 = .ok (.iconst 1, 1) := by decide +kernel
theorem dX9_holds_122 : decode cX9_holds 122 = .ok (.isub, 1) := by decide +kernel
theorem dX9_holds_123 : decode cX9_holds 123 = .ok (.iconst 1, 1) := by decide +kernel
theorem dX9_holds_124 : decode cX9_holds 124 = .ok (.aload_n 0, 1) := by decide +kernel
theorem dX9_holds_125 : decode cX9_holds 125 = .ok (.getfield 59, 3) := by decide +kernel
theorem dX9_holds_128 : decode cX9_holds 128 = .ok (.iload 4, 2) := by decide +kernel
theorem dX9_holds_130 : decode cX9_holds 130 = .ok (.iconst 1, 1) := by decide +kernel
theorem dX9_holds_131 : decode cX9_holds 131 = .ok (.isub, 1) := by decide +kernel
theorem dX9_holds_132 : decode cX9_holds 132 = .ok (.iaload, 1) := by decide +kernel
theorem dX9_holds_133 : decode cX9_holds 133 = .ok (.isub, 1) := by decide +kernel
theorem dX9_holds_134 : decode cX9_holds 134 = .ok (.iastore, 1) := by decide +kernel
theorem dX9_holds_135 : decode cX9_holds 135 = .ok (.goto 36, 3) := by decide +kernel
theorem dX9_holds_138 : decode cX9_holds 138 = .ok (.iinc 4 (-1), 3) := by decide +kernel
theorem dX9_holds_141 : decode cX9_holds 141 = .ok (.aload_n 0, 1) := by decide +kernel
theorem dX9_holds_142 : decode cX9_holds 142 = .ok (.getfield 59, 3) := by decide +kernel
theorem dX9_holds_145 : decode cX9_holds 145 = .ok (.iload 4, 2) := by decide +kernel
theorem dX9_holds_147 : decode cX9_holds 147 = .ok (.iconst 1, 1) := by decide +kernel
theorem dX9_holds_148 : decode cX9_holds 148 = .ok (.isub, 1) := by decide +kernel
theorem dX9_holds_149 : decode cX9_holds 149 = .ok (.iload 6, 2) := by decide +kernel
theorem dX9_holds_151 : decode cX9_holds 151 = .ok (.aload_n 0, 1) := by decide +kernel
theorem dX9_holds_152 : decode cX9_holds 152 = .ok (.getfield 59, 3) := by decide +kernel
theorem dX9_holds_155 : decode cX9_holds 155 = .ok (.iload 4, 2) := by decide +kernel
theorem dX9_holds_157 : decode cX9_holds 157 = .ok (.iconst 1, 1) := by decide +kernel
theorem dX9_holds_158 : decode cX9_holds 158 = .ok (.isub, 1) := by decide +kernel
theorem dX9_holds_159 : decode cX9_holds 159 = .ok (.iaload, 1) := by decide +kernel
theorem dX9_holds_160 : decode cX9_holds 160 = .ok (.aload_n 0, 1) := by decide +kernel
theorem dX9_holds_161 : decode cX9_holds 161 = .ok (.getfield 59, 3) := by decide +kernel
theorem dX9_holds_164 : decode cX9_holds 164 = .ok (.iload 4, 2) := by decide +kernel
theorem dX9_holds_166 : decode cX9_holds 166 = .ok (.iaload, 1) := by decide +kernel
theorem dX9_holds_167 : decode cX9_holds 167 = .ok (.invokestatic 255, 3) := by decide +kernel
theorem dX9_holds_170 : decode cX9_holds 170 = .ok (.iastore, 1) := by decide +kernel
theorem dX9_holds_171 : decode cX9_holds 171 = .ok (.iinc 5 1, 3) := by decide +kernel
theorem dX9_holds_174 : decode cX9_holds 174 = .ok (.goto (-160), 3) := by decide +kernel
theorem dX9_holds_177 : decode cX9_holds 177 = .ok (.iload 4, 2) := by decide +kernel
theorem dX9_holds_179 : decode cX9_holds 179 = .ok (.ifCond .eq 13, 3) := by decide +kernel
theorem dX9_holds_182 : decode cX9_holds 182 = .ok (.aload_n 0, 1) := by decide +kernel
theorem dX9_holds_183 : decode cX9_holds 183 = .ok (.getfield 59, 3) := by decide +kernel
theorem dX9_holds_186 : decode cX9_holds 186 = .ok (.iconst 0, 1) := by decide +kernel
theorem dX9_holds_187 : decode cX9_holds 187 = .ok (.iaload, 1) := by decide +kernel
theorem dX9_holds_188 : decode cX9_holds 188 = .ok (.iconst 1, 1) := by decide +kernel
theorem dX9_holds_189 : decode cX9_holds 189 = .ok (.if_icmp .ne 7, 3) := by decide +kernel
theorem dX9_holds_192 : decode cX9_holds 192 = .ok (.iconst 1, 1) := by decide +kernel
theorem dX9_holds_193 : decode cX9_holds 193 = .ok (.goto 4, 3) := by decide +kernel
theorem dX9_holds_196 : decode cX9_holds 196 = .ok (.iconst 0, 1) := by decide +kernel
theorem dX9_holds_197 : decode cX9_holds 197 = .ok (.ireturn, 1) := by decide +kernel
theorem dX9_byteOf_0 : decode cX9_byteOf 0 = .ok (.iload_n 1, 1) := by decide +kernel
theorem dX9_byteOf_1 : decode cX9_byteOf 1 = .ok (.aload_n 0, 1) := by decide +kernel
theorem dX9_byteOf_2 : decode cX9_byteOf 2 = .ok (.getfield 259, 3) := by decide +kernel
theorem dX9_byteOf_5 : decode cX9_byteOf 5 = .ok (.if_icmp .ge 12, 3) := by decide +kernel
theorem dX9_byteOf_8 : decode cX9_byteOf 8 = .ok (.aload_n 0, 1) := by decide +kernel
theorem dX9_byteOf_9 : decode cX9_byteOf 9 = .ok (.getfield 9, 3) := by decide +kernel
theorem dX9_byteOf_12 : decode cX9_byteOf 12 = .ok (.iload_n 1, 1) := by decide +kernel
theorem dX9_byteOf_13 : decode cX9_byteOf 13 = .ok (.iaload, 1) := by decide +kernel
theorem dX9_byteOf_14 : decode cX9_byteOf 14 = .ok (.goto 4, 3) := by decide +kernel
theorem dX9_byteOf_17 : decode cX9_byteOf 17 = .ok (.iconst (-1), 1) := by decide +kernel
theorem dX9_byteOf_18 : decode cX9_byteOf 18 = .ok (.ireturn, 1) := by decide +kernel
theorem dX9_isSmall_0 : decode cX9_isSmall 0 = .ok (.iload_n 0, 1) := by decide +kernel
theorem dX9_isSmall_1 : decode cX9_isSmall 1 = .ok (.bipush 97, 2) := by decide +kernel
theorem dX9_isSmall_3 : decode cX9_isSmall 3 = .ok (.if_icmp .lt 13, 3) := by decide +kernel
theorem dX9_isSmall_6 : decode cX9_isSmall 6 = .ok (.iload_n 0, 1) := by decide +kernel
theorem dX9_isSmall_7 : decode cX9_isSmall 7 = .ok (.bipush 122, 2) := by decide +kernel
theorem dX9_isSmall_9 : decode cX9_isSmall 9 = .ok (.if_icmp .gt 7, 3) := by decide +kernel
theorem dX9_isSmall_12 : decode cX9_isSmall 12 = .ok (.iconst 1, 1) := by decide +kernel
theorem dX9_isSmall_13 : decode cX9_isSmall 13 = .ok (.goto 4, 3) := by decide +kernel
theorem dX9_isSmall_16 : decode cX9_isSmall 16 = .ok (.iconst 0, 1) := by decide +kernel
theorem dX9_isSmall_17 : decode cX9_isSmall 17 = .ok (.ireturn, 1) := by decide +kernel
theorem dX9_isDigit_0 : decode cX9_isDigit 0 = .ok (.iload_n 0, 1) := by decide +kernel
theorem dX9_isDigit_1 : decode cX9_isDigit 1 = .ok (.bipush 48, 2) := by decide +kernel
theorem dX9_isDigit_3 : decode cX9_isDigit 3 = .ok (.if_icmp .lt 13, 3) := by decide +kernel
theorem dX9_isDigit_6 : decode cX9_isDigit 6 = .ok (.iload_n 0, 1) := by decide +kernel
theorem dX9_isDigit_7 : decode cX9_isDigit 7 = .ok (.bipush 57, 2) := by decide +kernel
theorem dX9_isDigit_9 : decode cX9_isDigit 9 = .ok (.if_icmp .gt 7, 3) := by decide +kernel
theorem dX9_isDigit_12 : decode cX9_isDigit 12 = .ok (.iconst 1, 1) := by decide +kernel
theorem dX9_isDigit_13 : decode cX9_isDigit 13 = .ok (.goto 4, 3) := by decide +kernel
theorem dX9_isDigit_16 : decode cX9_isDigit 16 = .ok (.iconst 0, 1) := by decide +kernel
theorem dX9_isDigit_17 : decode cX9_isDigit 17 = .ok (.ireturn, 1) := by decide +kernel
theorem dX9_endOf_0 : decode cX9_endOf 0 = .ok (.aload_n 0, 1) := by decide +kernel
theorem dX9_endOf_1 : decode cX9_endOf 1 = .ok (.iload_n 1, 1) := by decide +kernel
theorem dX9_endOf_2 : decode cX9_endOf 2 = .ok (.invokevirtual 262, 3) := by decide +kernel
theorem dX9_endOf_5 : decode cX9_endOf 5 = .ok (.istore_n 2, 1) := by decide +kernel
theorem dX9_endOf_6 : decode cX9_endOf 6 = .ok (.iload_n 1, 1) := by decide +kernel
theorem dX9_endOf_7 : decode cX9_endOf 7 = .ok (.iconst 1, 1) := by decide +kernel
theorem dX9_endOf_8 : decode cX9_endOf 8 = .ok (.iadd, 1) := by decide +kernel
theorem dX9_endOf_9 : decode cX9_endOf 9 = .ok (.istore_n 3, 1) := by decide +kernel
theorem dX9_endOf_10 : decode cX9_endOf 10 = .ok (.iload_n 2, 1) := by decide +kernel
theorem dX9_endOf_11 : decode cX9_endOf 11 = .ok (.invokestatic 265, 3) := by decide +kernel
theorem dX9_endOf_14 : decode cX9_endOf 14 = .ok (.ifCond .eq 31, 3) := by decide +kernel
theorem dX9_endOf_17 : decode cX9_endOf 17 = .ok (.aload_n 0, 1) := by decide +kernel
theorem dX9_endOf_18 : decode cX9_endOf 18 = .ok (.iload_n 3, 1) := by decide +kernel
theorem dX9_endOf_19 : decode cX9_endOf 19 = .ok (.invokevirtual 262, 3) := by decide +kernel
theorem dX9_endOf_22 : decode cX9_endOf 22 = .ok (.invokestatic 265, 3) := by decide +kernel
theorem dX9_endOf_25 : decode cX9_endOf 25 = .ok (.ifCond .ne 14, 3) := by decide +kernel
theorem dX9_endOf_28 : decode cX9_endOf 28 = .ok (.aload_n 0, 1) := by decide +kernel
theorem dX9_endOf_29 : decode cX9_endOf 29 = .ok (.iload_n 3, 1) := by decide +kernel
theorem dX9_endOf_30 : decode cX9_endOf 30 = .ok (.invokevirtual 262, 3) := by decide +kernel
theorem dX9_endOf_33 : decode cX9_endOf 33 = .ok (.invokestatic 268, 3) := by decide +kernel
theorem dX9_endOf_36 : decode cX9_endOf 36 = .ok (.ifCond .eq 9, 3) := by decide +kernel
theorem dX9_endOf_39 : decode cX9_endOf 39 = .ok (.iinc 3 1, 3) := by decide +kernel
theorem dX9_endOf_42 : decode cX9_endOf 42 = .ok (.goto (-25), 3) := by decide +kernel
theorem dX9_endOf_45 : decode cX9_endOf 45 = .ok (.iload_n 2, 1) := by decide +kernel
theorem dX9_endOf_46 : decode cX9_endOf 46 = .ok (.invokestatic 268, 3) := by decide +kernel
theorem dX9_endOf_49 : decode cX9_endOf 49 = .ok (.ifCond .eq 20, 3) := by decide +kernel
theorem dX9_endOf_52 : decode cX9_endOf 52 = .ok (.aload_n 0, 1) := by decide +kernel
theorem dX9_endOf_53 : decode cX9_endOf 53 = .ok (.iload_n 3, 1) := by decide +kernel
theorem dX9_endOf_54 : decode cX9_endOf 54 = .ok (.invokevirtual 262, 3) := by decide +kernel
theorem dX9_endOf_57 : decode cX9_endOf 57 = .ok (.invokestatic 268, 3) := by decide +kernel
theorem dX9_endOf_60 : decode cX9_endOf 60 = .ok (.ifCond .eq 9, 3) := by decide +kernel
theorem dX9_endOf_63 : decode cX9_endOf 63 = .ok (.iinc 3 1, 3) := by decide +kernel
theorem dX9_endOf_66 : decode cX9_endOf 66 = .ok (.goto (-14), 3) := by decide +kernel
theorem dX9_endOf_69 : decode cX9_endOf 69 = .ok (.iload_n 2, 1) := by decide +kernel
theorem dX9_endOf_70 : decode cX9_endOf 70 = .ok (.bipush 60, 2) := by decide +kernel
theorem dX9_endOf_72 : decode cX9_endOf 72 = .ok (.if_icmp .eq 9, 3) := by decide +kernel
theorem dX9_endOf_75 : decode cX9_endOf 75 = .ok (.iload_n 2, 1) := by decide +kernel
theorem dX9_endOf_76 : decode cX9_endOf 76 = .ok (.bipush 62, 2) := by decide +kernel
theorem dX9_endOf_78 : decode cX9_endOf 78 = .ok (.if_icmp .ne 16, 3) := by decide +kernel
theorem dX9_endOf_81 : decode cX9_endOf 81 = .ok (.aload_n 0, 1) := by decide +kernel
theorem dX9_endOf_82 : decode cX9_endOf 82 = .ok (.iload_n 3, 1) := by decide +kernel
theorem dX9_endOf_83 : decode cX9_endOf 83 = .ok (.invokevirtual 262, 3) := by decide +kernel
theorem dX9_endOf_86 : decode cX9_endOf 86 = .ok (.bipush 61, 2) := by decide +kernel
theorem dX9_endOf_88 : decode cX9_endOf 88 = .ok (.if_icmp .ne 6, 3) := by decide +kernel
theorem dX9_endOf_91 : decode cX9_endOf 91 = .ok (.iinc 3 1, 3) := by decide +kernel
theorem dX9_endOf_94 : decode cX9_endOf 94 = .ok (.iload_n 3, 1) := by decide +kernel
theorem dX9_endOf_95 : decode cX9_endOf 95 = .ok (.ireturn, 1) := by decide +kernel
theorem dX9_kindOf_0 : decode cX9_kindOf 0 = .ok (.aload_n 0, 1) := by decide +kernel
theorem dX9_kindOf_1 : decode cX9_kindOf 1 = .ok (.iload_n 2, 1) := by decide +kernel
theorem dX9_kindOf_2 : decode cX9_kindOf 2 = .ok (.invokevirtual 262, 3) := by decide +kernel
theorem dX9_kindOf_5 : decode cX9_kindOf 5 = .ok (.istore 4, 2) := by decide +kernel
theorem dX9_kindOf_7 : decode cX9_kindOf 7 = .ok (.iload 4, 2) := by decide +kernel
theorem dX9_kindOf_9 : decode cX9_kindOf 9 = .ok (.iconst (-1), 1) := by decide +kernel
theorem dX9_kindOf_10 : decode cX9_kindOf 10 = .ok (.if_icmp .ne 6, 3) := by decide +kernel
theorem dX9_kindOf_13 : decode cX9_kindOf 13 = .ok (.bipush 33, 2) := by decide +kernel
theorem dX9_kindOf_15 : decode cX9_kindOf 15 = .ok (.ireturn, 1) := by decide +kernel
theorem dX9_kindOf_16 : decode cX9_kindOf 16 = .ok (.iload 4, 2) := by decide +kernel
theorem dX9_kindOf_18 : decode cX9_kindOf 18 = .ok (.invokestatic 268, 3) := by decide +kernel
theorem dX9_kindOf_21 : decode cX9_kindOf 21 = .ok (.ifCond .eq 24, 3) := by decide +kernel
theorem dX9_kindOf_24 : decode cX9_kindOf 24 = .ok (.iload_n 3, 1) := by decide +kernel
theorem dX9_kindOf_25 : decode cX9_kindOf 25 = .ok (.iload_n 2, 1) := by decide +kernel
theorem dX9_kindOf_26 : decode cX9_kindOf 26 = .ok (.isub, 1) := by decide +kernel
theorem dX9_kindOf_27 : decode cX9_kindOf 27 = .ok (.bipush 6, 2) := by decide +kernel
theorem dX9_kindOf_29 : decode cX9_kindOf 29 = .ok (.if_icmp .le 8, 3) := by decide +kernel
theorem dX9_kindOf_32 : decode cX9_kindOf 32 = .ok (.bipush 32, 2) := by decide +kernel
theorem dX9_kindOf_34 : decode cX9_kindOf 34 = .ok (.goto 10, 3) := by decide +kernel
theorem dX9_kindOf_37 : decode cX9_kindOf 37 = .ok (.aload_n 0, 1) := by decide +kernel
theorem dX9_kindOf_38 : decode cX9_kindOf 38 = .ok (.iload_n 1, 1) := by decide +kernel
theorem dX9_kindOf_39 : decode cX9_kindOf 39 = .ok (.iload_n 2, 1) := by decide +kernel
theorem dX9_kindOf_40 : decode cX9_kindOf 40 = .ok (.iload_n 3, 1) := by decide +kernel
theorem dX9_kindOf_41 : decode cX9_kindOf 41 = .ok (.invokevirtual 271, 3) := by decide +kernel
theorem dX9_kindOf_44 : decode cX9_kindOf 44 = .ok (.ireturn, 1) := by decide +kernel
theorem dX9_kindOf_45 : decode cX9_kindOf 45 = .ok (.iload 4, 2) := by decide +kernel
theorem dX9_kindOf_47 : decode cX9_kindOf 47 = .ok (.invokestatic 265, 3) := by decide +kernel
theorem dX9_kindOf_50 : decode cX9_kindOf 50 = .ok (.ifCond .eq 24, 3) := by decide +kernel
theorem dX9_kindOf_53 : decode cX9_kindOf 53 = .ok (.iload_n 3, 1) := by decide +kernel
theorem dX9_kindOf_54 : decode cX9_kindOf 54 = .ok (.iload_n 2, 1) := by decide +kernel
theorem dX9_kindOf_55 : decode cX9_kindOf 55 = .ok (.isub, 1) := by decide +kernel
theorem dX9_kindOf_56 : decode cX9_kindOf 56 = .ok (.bipush 10, 2) := by decide +kernel
theorem dX9_kindOf_58 : decode cX9_kindOf 58 = .ok (.if_icmp .le 8, 3) := by decide +kernel
theorem dX9_kindOf_61 : decode cX9_kindOf 61 = .ok (.bipush 32, 2) := by decide +kernel
theorem dX9_kindOf_63 : decode cX9_kindOf 63 = .ok (.goto 10, 3) := by decide +kernel
theorem dX9_kindOf_66 : decode cX9_kindOf 66 = .ok (.aload_n 0, 1) := by decide +kernel
theorem dX9_kindOf_67 : decode cX9_kindOf 67 = .ok (.iload_n 1, 1) := by decide +kernel
theorem dX9_kindOf_68 : decode cX9_kindOf 68 = .ok (.iload_n 2, 1) := by decide +kernel
theorem dX9_kindOf_69 : decode cX9_kindOf 69 = .ok (.iload_n 3, 1) := by decide +kernel
theorem dX9_kindOf_70 : decode cX9_kindOf 70 = .ok (.invokevirtual 274, 3) := by decide +kernel
theorem dX9_kindOf_73 : decode cX9_kindOf 73 = .ok (.ireturn, 1) := by decide +kernel
theorem dX9_kindOf_74 : decode cX9_kindOf 74 = .ok (.iload_n 3, 1) := by decide +kernel
theorem dX9_kindOf_75 : decode cX9_kindOf 75 = .ok (.iload_n 2, 1) := by decide +kernel
theorem dX9_kindOf_76 : decode cX9_kindOf 76 = .ok (.isub, 1) := by decide +kernel
theorem dX9_kindOf_77 : decode cX9_kindOf 77 = .ok (.iconst 2, 1) := by decide +kernel
theorem dX9_kindOf_78 : decode cX9_kindOf 78 = .ok (.if_icmp .ne 10, 3) := by decide +kernel
theorem dX9_kindOf_81 : decode cX9_kindOf 81 = .ok (.sipush 256, 3) := by decide +kernel
theorem dX9_kindOf_84 : decode cX9_kindOf 84 = .ok (.iload 4, 2) := by decide +kernel
theorem dX9_kindOf_86 : decode cX9_kindOf 86 = .ok (.iadd, 1) := by decide +kernel
theorem dX9_kindOf_87 : decode cX9_kindOf 87 = .ok (.ireturn, 1) := by decide +kernel
theorem dX9_kindOf_88 : decode cX9_kindOf 88 = .ok (.iload 4, 2) := by decide +kernel
theorem dX9_kindOf_90 : decode cX9_kindOf 90 = .ok (.bipush 40, 2) := by decide +kernel
theorem dX9_kindOf_92 : decode cX9_kindOf 92 = .ok (.if_icmp .eq 87, 3) := by decide +kernel
theorem dX9_kindOf_95 : decode cX9_kindOf 95 = .ok (.iload 4, 2) := by decide +kernel
theorem dX9_kindOf_97 : decode cX9_kindOf 97 = .ok (.bipush 41, 2) := by decide +kernel
theorem dX9_kindOf_99 : decode cX9_kindOf 99 = .ok (.if_icmp .eq 80, 3) := by decide +kernel
theorem dX9_kindOf_102 : decode cX9_kindOf 102 = .ok (.iload 4, 2) := by decide +kernel
theorem dX9_kindOf_104 : decode cX9_kindOf 104 = .ok (.bipush 91, 2) := by decide +kernel
theorem dX9_kindOf_106 : decode cX9_kindOf 106 = .ok (.if_icmp .eq 73, 3) := by decide +kernel
theorem dX9_kindOf_109 : decode cX9_kindOf 109 = .ok (.iload 4, 2) := by decide +kernel
theorem dX9_kindOf_111 : decode cX9_kindOf 111 = .ok (.bipush 93, 2) := by decide +kernel
theorem dX9_kindOf_113 : decode cX9_kindOf 113 = .ok (.if_icmp .eq 66, 3) := by decide +kernel
theorem dX9_kindOf_116 : decode cX9_kindOf 116 = .ok (.iload 4, 2) := by decide +kernel
theorem dX9_kindOf_118 : decode cX9_kindOf 118 = .ok (.bipush 59, 2) := by decide +kernel
theorem dX9_kindOf_120 : decode cX9_kindOf 120 = .ok (.if_icmp .eq 59, 3) := by decide +kernel
theorem dX9_kindOf_123 : decode cX9_kindOf 123 = .ok (.iload 4, 2) := by decide +kernel
theorem dX9_kindOf_125 : decode cX9_kindOf 125 = .ok (.bipush 44, 2) := by decide +kernel
theorem dX9_kindOf_127 : decode cX9_kindOf 127 = .ok (.if_icmp .eq 52, 3) := by decide +kernel
theorem dX9_kindOf_130 : decode cX9_kindOf 130 = .ok (.iload 4, 2) := by decide +kernel
theorem dX9_kindOf_132 : decode cX9_kindOf 132 = .ok (.bipush 43, 2) := by decide +kernel
theorem dX9_kindOf_134 : decode cX9_kindOf 134 = .ok (.if_icmp .eq 45, 3) := by decide +kernel
theorem dX9_kindOf_137 : decode cX9_kindOf 137 = .ok (.iload 4, 2) := by decide +kernel
theorem dX9_kindOf_139 : decode cX9_kindOf 139 = .ok (.bipush 45, 2) := by decide +kernel
theorem dX9_kindOf_141 : decode cX9_kindOf 141 = .ok (.if_icmp .eq 38, 3) := by decide +kernel
theorem dX9_kindOf_144 : decode cX9_kindOf 144 = .ok (.iload 4, 2) := by decide +kernel
theorem dX9_kindOf_146 : decode cX9_kindOf 146 = .ok (.bipush 42, 2) := by decide +kernel
theorem dX9_kindOf_148 : decode cX9_kindOf 148 = .ok (.if_icmp .eq 31, 3) := by decide +kernel
theorem dX9_kindOf_151 : decode cX9_kindOf 151 = .ok (.iload 4, 2) := by decide +kernel
theorem dX9_kindOf_153 : decode cX9_kindOf 153 = .ok (.bipush 47, 2) := by decide +kernel
theorem dX9_kindOf_155 : decode cX9_kindOf 155 = .ok (.if_icmp .eq 24, 3) := by decide +kernel
theorem dX9_kindOf_158 : decode cX9_kindOf 158 = .ok (.iload 4, 2) := by decide +kernel
theorem dX9_kindOf_160 : decode cX9_kindOf 160 = .ok (.bipush 60, 2) := by decide +kernel
theorem dX9_kindOf_162 : decode cX9_kindOf 162 = .ok (.if_icmp .eq 17, 3) := by decide +kernel
theorem dX9_kindOf_165 : decode cX9_kindOf 165 = .ok (.iload 4, 2) := by decide +kernel
theorem dX9_kindOf_167 : decode cX9_kindOf 167 = .ok (.bipush 62, 2) := by decide +kernel
theorem dX9_kindOf_169 : decode cX9_kindOf 169 = .ok (.if_icmp .eq 10, 3) := by decide +kernel
theorem dX9_kindOf_172 : decode cX9_kindOf 172 = .ok (.iload 4, 2) := by decide +kernel
theorem dX9_kindOf_174 : decode cX9_kindOf 174 = .ok (.bipush 61, 2) := by decide +kernel
theorem dX9_kindOf_176 : decode cX9_kindOf 176 = .ok (.if_icmp .ne 8, 3) := by decide +kernel
theorem dX9_kindOf_179 : decode cX9_kindOf 179 = .ok (.iload 4, 2) := by decide +kernel
theorem dX9_kindOf_181 : decode cX9_kindOf 181 = .ok (.goto 5, 3) := by decide +kernel
theorem dX9_kindOf_184 : decode cX9_kindOf 184 = .ok (.bipush 32, 2) := by decide +kernel
theorem dX9_kindOf_186 : decode cX9_kindOf 186 = .ok (.ireturn, 1) := by decide +kernel
theorem dX9_numberAt_0 : decode cX9_numberAt 0 = .ok (.iconst 0, 1) := by decide +kernel
theorem dX9_numberAt_1 : decode cX9_numberAt 1 = .ok (.istore 4, 2) := by decide +kernel
theorem dX9_numberAt_3 : decode cX9_numberAt 3 = .ok (.iload_n 2, 1) := by decide +kernel
theorem dX9_numberAt_4 : decode cX9_numberAt 4 = .ok (.istore 5, 2) := by decide +kernel
theorem dX9_numberAt_6 : decode cX9_numberAt 6 = .ok (.iload 5, 2) := by decide +kernel
theorem dX9_numberAt_8 : decode cX9_numberAt 8 = .ok (.iload_n 3, 1) := by decide +kernel
theorem dX9_numberAt_9 : decode cX9_numberAt 9 = .ok (.if_icmp .ge 27, 3) := by decide +kernel
theorem dX9_numberAt_12 : decode cX9_numberAt 12 = .ok (.bipush 10, 2) := by decide +kernel
theorem dX9_numberAt_14 : decode cX9_numberAt 14 = .ok (.iload 4, 2) := by decide +kernel
theorem dX9_numberAt_16 : decode cX9_numberAt 16 = .ok (.imul, 1) := by decide +kernel
theorem dX9_numberAt_17 : decode cX9_numberAt 17 = .ok (.aload_n 0, 1) := by decide +kernel
theorem dX9_numberAt_18 : decode cX9_numberAt 18 = .ok (.getfield 9, 3) := by decide +kernel
theorem dX9_numberAt_21 : decode cX9_numberAt 21 = .ok (.iload 5, 2) := by decide +kernel
theorem dX9_numberAt_23 : decode cX9_numberAt 23 = .ok (.iaload, 1) := by decide +kernel
theorem dX9_numberAt_24 : decode cX9_numberAt 24 = .ok (.iadd, 1) := by decide +kernel
theorem dX9_numberAt_25 : decode cX9_numberAt 25 = .ok (.bipush 48, 2) := by decide +kernel
theorem dX9_numberAt_27 : decode cX9_numberAt 27 = .ok (.isub, 1) := by decide +kernel
theorem dX9_numberAt_28 : decode cX9_numberAt 28 = .ok (.istore 4, 2) := by decide +kernel
theorem dX9_numberAt_30 : decode cX9_numberAt 30 = .ok (.iinc 5 1, 3) := by decide +kernel
theorem dX9_numberAt_33 : decode cX9_numberAt 33 = .ok (.goto (-27), 3) := by decide +kernel
theorem dX9_numberAt_36 : decode cX9_numberAt 36 = .ok (.aload_n 0, 1) := by decide +kernel
theorem dX9_numberAt_37 : decode cX9_numberAt 37 = .ok (.getfield 33, 3) := by decide +kernel
theorem dX9_numberAt_40 : decode cX9_numberAt 40 = .ok (.iload_n 1, 1) := by decide +kernel
theorem dX9_numberAt_41 : decode cX9_numberAt 41 = .ok (.iload 4, 2) := by decide +kernel
theorem dX9_numberAt_43 : decode cX9_numberAt 43 = .ok (.i2l, 1) := by decide +kernel
theorem dX9_numberAt_44 : decode cX9_numberAt 44 = .ok (.lastore, 1) := by decide +kernel
theorem dX9_numberAt_45 : decode cX9_numberAt 45 = .ok (.bipush 31, 2) := by decide +kernel
theorem dX9_numberAt_47 : decode cX9_numberAt 47 = .ok (.ireturn, 1) := by decide +kernel
theorem dX9_letter_0 : decode cX9_letter 0 = .ok (.iload_n 0, 1) := by decide +kernel
theorem dX9_letter_1 : decode cX9_letter 1 = .ok (.invokestatic 265, 3) := by decide +kernel
theorem dX9_letter_4 : decode cX9_letter 4 = .ok (.ifCond .eq 12, 3) := by decide +kernel
theorem dX9_letter_7 : decode cX9_letter 7 = .ok (.iload_n 0, 1) := by decide +kernel
theorem dX9_letter_8 : decode cX9_letter 8 = .ok (.bipush 97, 2) := by decide +kernel
theorem dX9_letter_10 : decode cX9_letter 10 = .ok (.isub, 1) := by decide +kernel
theorem dX9_letter_11 : decode cX9_letter 11 = .ok (.iconst 1, 1) := by decide +kernel
theorem dX9_letter_12 : decode cX9_letter 12 = .ok (.iadd, 1) := by decide +kernel
theorem dX9_letter_13 : decode cX9_letter 13 = .ok (.goto 10, 3) := by decide +kernel
theorem dX9_letter_16 : decode cX9_letter 16 = .ok (.iload_n 0, 1) := by decide +kernel
theorem dX9_letter_17 : decode cX9_letter 17 = .ok (.bipush 48, 2) := by decide +kernel
theorem dX9_letter_19 : decode cX9_letter 19 = .ok (.isub, 1) := by decide +kernel
theorem dX9_letter_20 : decode cX9_letter 20 = .ok (.bipush 27, 2) := by decide +kernel
theorem dX9_letter_22 : decode cX9_letter 22 = .ok (.iadd, 1) := by decide +kernel
theorem dX9_letter_23 : decode cX9_letter 23 = .ok (.ireturn, 1) := by decide +kernel
theorem dX9_nameOf_0 : decode cX9_nameOf 0 = .ok (.lconst 0, 1) := by decide +kernel
theorem dX9_nameOf_1 : decode cX9_nameOf 1 = .ok (.lstore_n 1, 1) := by decide +kernel
theorem dX9_nameOf_2 : decode cX9_nameOf 2 = .ok (.iconst 0, 1) := by decide +kernel
theorem dX9_nameOf_3 : decode cX9_nameOf 3 = .ok (.istore_n 3, 1) := by decide +kernel
theorem dX9_nameOf_4 : decode cX9_nameOf 4 = .ok (.iload_n 3, 1) := by decide +kernel
theorem dX9_nameOf_5 : decode cX9_nameOf 5 = .ok (.aload_n 0, 1) := by decide +kernel
theorem dX9_nameOf_6 : decode cX9_nameOf 6 = .ok (.invokevirtual 277, 3) := by decide +kernel
theorem dX9_nameOf_9 : decode cX9_nameOf 9 = .ok (.if_icmp .ge 25, 3) := by decide +kernel
theorem dX9_nameOf_12 : decode cX9_nameOf 12 = .ok (.ldc2_w 282, 3) := by decide +kernel
theorem dX9_nameOf_15 : decode cX9_nameOf 15 = .ok (.lload_n 1, 1) := by decide +kernel
theorem dX9_nameOf_16 : decode cX9_nameOf 16 = .ok (.lmul, 1) := by decide +kernel
theorem dX9_nameOf_17 : decode cX9_nameOf 17 = .ok (.aload_n 0, 1) := by decide +kernel
theorem dX9_nameOf_18 : decode cX9_nameOf 18 = .ok (.iload_n 3, 1) := by decide +kernel
theorem dX9_nameOf_19 : decode cX9_nameOf 19 = .ok (.invokevirtual 284, 3) := by decide +kernel
theorem dX9_nameOf_22 : decode cX9_nameOf 22 = .ok (.invokestatic 288, 3) := by decide +kernel
theorem dX9_nameOf_25 : decode cX9_nameOf 25 = .ok (.i2l, 1) := by decide +kernel
theorem dX9_nameOf_26 : decode cX9_nameOf 26 = .ok (.ladd, 1) := by decide +kernel
theorem dX9_nameOf_27 : decode cX9_nameOf 27 = .ok (.lstore_n 1, 1) := by decide +kernel
theorem dX9_nameOf_28 : decode cX9_nameOf 28 = .ok (.iinc 3 1, 3) := by decide +kernel
theorem dX9_nameOf_31 : decode cX9_nameOf 31 = .ok (.goto (-27), 3) := by decide +kernel
theorem dX9_nameOf_34 : decode cX9_nameOf 34 = .ok (.lload_n 1, 1) := by decide +kernel
theorem dX9_nameOf_35 : decode cX9_nameOf 35 = .ok (.lreturn, 1) := by decide +kernel
theorem dX9_wordAt_0 : decode cX9_wordAt 0 = .ok (.lconst 0, 1) := by decide +kernel
theorem dX9_wordAt_1 : decode cX9_wordAt 1 = .ok (.lstore 4, 2) := by decide +kernel
theorem dX9_wordAt_3 : decode cX9_wordAt 3 = .ok (.iload_n 2, 1) := by decide +kernel
theorem dX9_wordAt_4 : decode cX9_wordAt 4 = .ok (.istore 6, 2) := by decide +kernel
theorem dX9_wordAt_6 : decode cX9_wordAt 6 = .ok (.iload 6, 2) := by decide +kernel
theorem dX9_wordAt_8 : decode cX9_wordAt 8 = .ok (.iload_n 3, 1) := by decide +kernel
theorem dX9_wordAt_9 : decode cX9_wordAt 9 = .ok (.if_icmp .ge 29, 3) := by decide +kernel
theorem dX9_wordAt_12 : decode cX9_wordAt 12 = .ok (.ldc2_w 282, 3) := by decide +kernel
theorem dX9_wordAt_15 : decode cX9_wordAt 15 = .ok (.lload 4, 2) := by decide +kernel
theorem dX9_wordAt_17 : decode cX9_wordAt 17 = .ok (.lmul, 1) := by decide +kernel
theorem dX9_wordAt_18 : decode cX9_wordAt 18 = .ok (.aload_n 0, 1) := by decide +kernel
theorem dX9_wordAt_19 : decode cX9_wordAt 19 = .ok (.getfield 9, 3) := by decide +kernel
theorem dX9_wordAt_22 : decode cX9_wordAt 22 = .ok (.iload 6, 2) := by decide +kernel
theorem dX9_wordAt_24 : decode cX9_wordAt 24 = .ok (.iaload, 1) := by decide +kernel
theorem dX9_wordAt_25 : decode cX9_wordAt 25 = .ok (.invokestatic 288, 3) := by decide +kernel
theorem dX9_wordAt_28 : decode cX9_wordAt 28 = .ok (.i2l, 1) := by decide +kernel
theorem dX9_wordAt_29 : decode cX9_wordAt 29 = .ok (.ladd, 1) := by decide +kernel
theorem dX9_wordAt_30 : decode cX9_wordAt 30 = .ok (.lstore 4, 2) := by decide +kernel
theorem dX9_wordAt_32 : decode cX9_wordAt 32 = .ok (.iinc 6 1, 3) := by decide +kernel
theorem dX9_wordAt_35 : decode cX9_wordAt 35 = .ok (.goto (-29), 3) := by decide +kernel
theorem dX9_wordAt_38 : decode cX9_wordAt 38 = .ok (.aload_n 0, 1) := by decide +kernel
theorem dX9_wordAt_39 : decode cX9_wordAt 39 = .ok (.getfield 33, 3) := by decide +kernel
theorem dX9_wordAt_42 : decode cX9_wordAt 42 = .ok (.iload_n 1, 1) := by decide +kernel
theorem dX9_wordAt_43 : decode cX9_wordAt 43 = .ok (.lload 4, 2) := by decide +kernel
theorem dX9_wordAt_45 : decode cX9_wordAt 45 = .ok (.lastore, 1) := by decide +kernel
theorem dX9_wordAt_46 : decode cX9_wordAt 46 = .ok (.iconst 0, 1) := by decide +kernel
theorem dX9_wordAt_47 : decode cX9_wordAt 47 = .ok (.istore 6, 2) := by decide +kernel
theorem dX9_wordAt_49 : decode cX9_wordAt 49 = .ok (.iload 6, 2) := by decide +kernel
theorem dX9_wordAt_51 : decode cX9_wordAt 51 = .ok (.getstatic 291, 3) := by decide +kernel
theorem dX9_wordAt_54 : decode cX9_wordAt 54 = .ok (.arraylength, 1) := by decide +kernel
theorem dX9_wordAt_55 : decode cX9_wordAt 55 = .ok (.if_icmp .ge 27, 3) := by decide +kernel
theorem dX9_wordAt_58 : decode cX9_wordAt 58 = .ok (.getstatic 291, 3) := by decide +kernel
theorem dX9_wordAt_61 : decode cX9_wordAt 61 = .ok (.iload 6, 2) := by decide +kernel
theorem dX9_wordAt_63 : decode cX9_wordAt 63 = .ok (.aaload, 1) := by decide +kernel
theorem dX9_wordAt_64 : decode cX9_wordAt 64 = .ok (.invokestatic 295, 3) := by decide +kernel
theorem dX9_wordAt_67 : decode cX9_wordAt 67 = .ok (.lload 4, 2) := by decide +kernel
theorem dX9_wordAt_69 : decode cX9_wordAt 69 = .ok (.lcmp, 1) := by decide +kernel
theorem dX9_wordAt_70 : decode cX9_wordAt 70 = .ok (.ifCond .ne 6, 3) := by decide +kernel
theorem dX9_wordAt_73 : decode cX9_wordAt 73 = .ok (.iload 6, 2) := by decide +kernel
theorem dX9_wordAt_75 : decode cX9_wordAt 75 = .ok (.ireturn, 1) := by decide +kernel
theorem dX9_wordAt_76 : decode cX9_wordAt 76 = .ok (.iinc 6 1, 3) := by decide +kernel
theorem dX9_wordAt_79 : decode cX9_wordAt 79 = .ok (.goto (-30), 3) := by decide +kernel
theorem dX9_wordAt_82 : decode cX9_wordAt 82 = .ok (.bipush 30, 2) := by decide +kernel
theorem dX9_wordAt_84 : decode cX9_wordAt 84 = .ok (.ireturn, 1) := by decide +kernel
theorem dX9_cutIntoTokens_0 : decode cX9_cutIntoTokens 0 = .ok (.iconst 0, 1) := by decide +kernel
theorem dX9_cutIntoTokens_1 : decode cX9_cutIntoTokens 1 = .ok (.istore_n 1, 1) := by decide +kernel
theorem dX9_cutIntoTokens_2 : decode cX9_cutIntoTokens 2 = .ok (.iconst 0, 1) := by decide +kernel
theorem dX9_cutIntoTokens_3 : decode cX9_cutIntoTokens 3 = .ok (.istore_n 2, 1) := by decide +kernel
theorem dX9_cutIntoTokens_4 : decode cX9_cutIntoTokens 4 = .ok (.iload_n 2, 1) := by decide +kernel
theorem dX9_cutIntoTokens_5 : decode cX9_cutIntoTokens 5 = .ok (.sipush 400, 3) := by decide +kernel
theorem dX9_cutIntoTokens_8 : decode cX9_cutIntoTokens 8 = .ok (.if_icmp .gt 119, 3) := by decide +kernel
theorem dX9_cutIntoTokens_11 : decode cX9_cutIntoTokens 11 = .ok (.aload_n 0, 1) := by decide +kernel
theorem dX9_cutIntoTokens_12 : decode cX9_cutIntoTokens 12 = .ok (.iload_n 1, 1) := by decide +kernel
theorem dX9_cutIntoTokens_13 : decode cX9_cutIntoTokens 13 = .ok (.invokevirtual 262, 3) := by decide +kernel
theorem dX9_cutIntoTokens_16 : decode cX9_cutIntoTokens 16 = .ok (.bipush 32, 2) := by decide +kernel
theorem dX9_cutIntoTokens_18 : decode cX9_cutIntoTokens 18 = .ok (.if_icmp .eq 13, 3) := by decide +kernel
theorem dX9_cutIntoTokens_21 : decode cX9_cutIntoTokens 21 = .ok (.aload_n 0, 1) := by decide +kernel
theorem dX9_cutIntoTokens_22 : decode cX9_cutIntoTokens 22 = .ok (.iload_n 1, 1) := by decide +kernel
theorem dX9_cutIntoTokens_23 : decode cX9_cutIntoTokens 23 = .ok (.invokevirtual 262, 3) := by decide +kernel
theorem dX9_cutIntoTokens_26 : decode cX9_cutIntoTokens 26 = .ok (.bipush 10, 2) := by decide +kernel
theorem dX9_cutIntoTokens_28 : decode cX9_cutIntoTokens 28 = .ok (.if_icmp .ne 9, 3) := by decide +kernel
theorem dX9_cutIntoTokens_31 : decode cX9_cutIntoTokens 31 = .ok (.iinc 1 1, 3) := by decide +kernel
theorem dX9_cutIntoTokens_34 : decode cX9_cutIntoTokens 34 = .ok (.goto (-23), 3) := by decide +kernel
theorem dX9_cutIntoTokens_37 : decode cX9_cutIntoTokens 37 = .ok (.aload_n 0, 1) := by decide +kernel
theorem dX9_cutIntoTokens_38 : decode cX9_cutIntoTokens 38 = .ok (.iload_n 1, 1) := by decide +kernel
theorem dX9_cutIntoTokens_39 : decode cX9_cutIntoTokens 39 = .ok (.invokevirtual 299, 3) := by decide +kernel
theorem dX9_cutIntoTokens_42 : decode cX9_cutIntoTokens 42 = .ok (.istore_n 3, 1) := by decide +kernel
theorem dX9_cutIntoTokens_43 : decode cX9_cutIntoTokens 43 = .ok (.aload_n 0, 1) := by decide +kernel
theorem dX9_cutIntoTokens_44 : decode cX9_cutIntoTokens 44 = .ok (.getfield 27, 3) := by decide +kernel
theorem dX9_cutIntoTokens_47 : decode cX9_cutIntoTokens 47 = .ok (.iload_n 2, 1) := by decide +kernel
theorem dX9_cutIntoTokens_48 : decode cX9_cutIntoTokens 48 = .ok (.iload_n 1, 1) := by decide +kernel
theorem dX9_cutIntoTokens_49 : decode cX9_cutIntoTokens 49 = .ok (.iastore, 1) := by decide +kernel
theorem dX9_cutIntoTokens_50 : decode cX9_cutIntoTokens 50 = .ok (.aload_n 0, 1) := by decide +kernel
theorem dX9_cutIntoTokens_51 : decode cX9_cutIntoTokens 51 = .ok (.getfield 30, 3) := by decide +kernel
theorem dX9_cutIntoTokens_54 : decode cX9_cutIntoTokens 54 = .ok (.iload_n 2, 1) := by decide +kernel
theorem dX9_cutIntoTokens_55 : decode cX9_cutIntoTokens 55 = .ok (.iconst 0, 1) := by decide +kernel
theorem dX9_cutIntoTokens_56 : decode cX9_cutIntoTokens 56 = .ok (.iastore, 1) := by decide +kernel
theorem dX9_cutIntoTokens_57 : decode cX9_cutIntoTokens 57 = .ok (.aload_n 0, 1) := by decide +kernel
theorem dX9_cutIntoTokens_58 : decode cX9_cutIntoTokens 58 = .ok (.getfield 24, 3) := by decide +kernel
theorem dX9_cutIntoTokens_61 : decode cX9_cutIntoTokens 61 = .ok (.iload_n 2, 1) := by decide +kernel
theorem dX9_cutIntoTokens_62 : decode cX9_cutIntoTokens 62 = .ok (.aload_n 0, 1) := by decide +kernel
theorem dX9_cutIntoTokens_63 : decode cX9_cutIntoTokens 63 = .ok (.iload_n 2, 1) := by decide +kernel
theorem dX9_cutIntoTokens_64 : decode cX9_cutIntoTokens 64 = .ok (.iload_n 1, 1) := by decide +kernel
theorem dX9_cutIntoTokens_65 : decode cX9_cutIntoTokens 65 = .ok (.iload_n 3, 1) := by decide +kernel
theorem dX9_cutIntoTokens_66 : decode cX9_cutIntoTokens 66 = .ok (.invokevirtual 302, 3) := by decide +kernel
theorem dX9_cutIntoTokens_69 : decode cX9_cutIntoTokens 69 = .ok (.iastore, 1) := by decide +kernel
theorem dX9_cutIntoTokens_70 : decode cX9_cutIntoTokens 70 = .ok (.iload_n 2, 1) := by decide +kernel
theorem dX9_cutIntoTokens_71 : decode cX9_cutIntoTokens 71 = .ok (.sipush 400, 3) := by decide +kernel
theorem dX9_cutIntoTokens_74 : decode cX9_cutIntoTokens 74 = .ok (.if_icmp .ne 22, 3) := by decide +kernel
theorem dX9_cutIntoTokens_77 : decode cX9_cutIntoTokens 77 = .ok (.aload_n 0, 1) := by decide +kernel
theorem dX9_cutIntoTokens_78 : decode cX9_cutIntoTokens 78 = .ok (.getfield 24, 3) := by decide +kernel
theorem dX9_cutIntoTokens_81 : decode cX9_cutIntoTokens 81 = .ok (.iload_n 2, 1) := by decide +kernel
theorem dX9_cutIntoTokens_82 : decode cX9_cutIntoTokens 82 = .ok (.iaload, 1) := by decide +kernel
theorem dX9_cutIntoTokens_83 : decode cX9_cutIntoTokens 83 = .ok (.bipush 33, 2) := by decide +kernel
theorem dX9_cutIntoTokens_85 : decode cX9_cutIntoTokens 85 = .ok (.if_icmp .eq 11, 3) := by decide +kernel
theorem dX9_cutIntoTokens_88 : decode cX9_cutIntoTokens 88 = .ok (.aload_n 0, 1) := by decide +kernel
theorem dX9_cutIntoTokens_89 : decode cX9_cutIntoTokens 89 = .ok (.getfield 24, 3) := by decide +kernel
theorem dX9_cutIntoTokens_92 : decode cX9_cutIntoTokens 92 = .ok (.iload_n 2, 1) := by decide +kernel
theorem dX9_cutIntoTokens_93 : decode cX9_cutIntoTokens 93 = .ok (.bipush 32, 2) := by decide +kernel
theorem dX9_cutIntoTokens_95 : decode cX9_cutIntoTokens 95 = .ok (.iastore, 1) := by decide +kernel
theorem dX9_cutIntoTokens_96 : decode cX9_cutIntoTokens 96 = .ok (.aload_n 0, 1) := by decide +kernel
theorem dX9_cutIntoTokens_97 : decode cX9_cutIntoTokens 97 = .ok (.getfield 24, 3) := by decide +kernel
theorem dX9_cutIntoTokens_100 : decode cX9_cutIntoTokens 100 = .ok (.iload_n 2, 1) := by decide +kernel
theorem dX9_cutIntoTokens_101 : decode cX9_cutIntoTokens 101 = .ok (.iaload, 1) := by decide +kernel
theorem dX9_cutIntoTokens_102 : decode cX9_cutIntoTokens 102 = .ok (.bipush 32, 2) := by decide +kernel
theorem dX9_cutIntoTokens_104 : decode cX9_cutIntoTokens 104 = .ok (.if_icmp .eq 14, 3) := by decide +kernel
theorem dX9_cutIntoTokens_107 : decode cX9_cutIntoTokens 107 = .ok (.aload_n 0, 1) := by decide +kernel
theorem dX9_cutIntoTokens_108 : decode cX9_cutIntoTokens 108 = .ok (.getfield 24, 3) := by decide +kernel
theorem dX9_cutIntoTokens_111 : decode cX9_cutIntoTokens 111 = .ok (.iload_n 2, 1) := by decide +kernel
theorem dX9_cutIntoTokens_112 : decode cX9_cutIntoTokens 112 = .ok (.iaload, 1) := by decide +kernel
theorem dX9_cutIntoTokens_113 : decode cX9_cutIntoTokens 113 = .ok (.bipush 33, 2) := by decide +kernel
theorem dX9_cutIntoTokens_115 : decode cX9_cutIntoTokens 115 = .ok (.if_icmp .ne 4, 3) := by decide +kernel
theorem dX9_cutIntoTokens_118 : decode cX9_cutIntoTokens 118 = .ok (.return_, 1) := by decide +kernel
theorem dX9_cutIntoTokens_119 : decode cX9_cutIntoTokens 119 = .ok (.iload_n 3, 1) := by decide +kernel
theorem dX9_cutIntoTokens_120 : decode cX9_cutIntoTokens 120 = .ok (.istore_n 1, 1) := by decide +kernel
theorem dX9_cutIntoTokens_121 : decode cX9_cutIntoTokens 121 = .ok (.iinc 2 1, 3) := by decide +kernel
theorem dX9_cutIntoTokens_124 : decode cX9_cutIntoTokens 124 = .ok (.goto (-120), 3) := by decide +kernel
theorem dX9_cutIntoTokens_127 : decode cX9_cutIntoTokens 127 = .ok (.return_, 1) := by decide +kernel
theorem dX9_eat_0 : decode cX9_eat 0 = .ok (.aload_n 0, 1) := by decide +kernel
theorem dX9_eat_1 : decode cX9_eat 1 = .ok (.getfield 24, 3) := by decide +kernel
theorem dX9_eat_4 : decode cX9_eat 4 = .ok (.aload_n 0, 1) := by decide +kernel
theorem dX9_eat_5 : decode cX9_eat 5 = .ok (.getfield 305, 3) := by decide +kernel
theorem dX9_eat_8 : decode cX9_eat 8 = .ok (.iaload, 1) := by decide +kernel
theorem dX9_eat_9 : decode cX9_eat 9 = .ok (.iload_n 1, 1) := by decide +kernel
theorem dX9_eat_10 : decode cX9_eat 10 = .ok (.if_icmp .eq 5, 3) := by decide +kernel
theorem dX9_eat_13 : decode cX9_eat 13 = .ok (.iconst 0, 1) := by decide +kernel
theorem dX9_eat_14 : decode cX9_eat 14 = .ok (.ireturn, 1) := by decide +kernel
theorem dX9_eat_15 : decode cX9_eat 15 = .ok (.aload_n 0, 1) := by decide +kernel
theorem dX9_eat_16 : decode cX9_eat 16 = .ok (.dup, 1) := by decide +kernel
theorem dX9_eat_17 : decode cX9_eat 17 = .ok (.getfield 305, 3) := by decide +kernel
theorem dX9_eat_20 : decode cX9_eat 20 = .ok (.iconst 1, 1) := by decide +kernel
theorem dX9_eat_21 : decode cX9_eat 21 = .ok (.iadd, 1) := by decide +kernel
theorem dX9_eat_22 : decode cX9_eat 22 = .ok (.putfield 305, 3) := by decide +kernel
theorem dX9_eat_25 : decode cX9_eat 25 = .ok (.iconst 1, 1) := by decide +kernel
theorem dX9_eat_26 : decode cX9_eat 26 = .ok (.ireturn, 1) := by decide +kernel
theorem dX9_eatAs_0 : decode cX9_eatAs 0 = .ok (.aload_n 0, 1) := by decide +kernel
theorem dX9_eatAs_1 : decode cX9_eatAs 1 = .ok (.getfield 30, 3) := by decide +kernel
theorem dX9_eatAs_4 : decode cX9_eatAs 4 = .ok (.aload_n 0, 1) := by decide +kernel
theorem dX9_eatAs_5 : decode cX9_eatAs 5 = .ok (.getfield 305, 3) := by decide +kernel
theorem dX9_eatAs_8 : decode cX9_eatAs 8 = .ok (.iload_n 2, 1) := by decide +kernel
theorem dX9_eatAs_9 : decode cX9_eatAs 9 = .ok (.iastore, 1) := by decide +kernel
theorem dX9_eatAs_10 : decode cX9_eatAs 10 = .ok (.aload_n 0, 1) := by decide +kernel
theorem dX9_eatAs_11 : decode cX9_eatAs 11 = .ok (.iload_n 1, 1) := by decide +kernel
theorem dX9_eatAs_12 : decode cX9_eatAs 12 = .ok (.invokevirtual 308, 3) := by decide +kernel
theorem dX9_eatAs_15 : decode cX9_eatAs 15 = .ok (.ireturn, 1) := by decide +kernel
theorem dX9_deeper_0 : decode cX9_deeper 0 = .ok (.aload_n 0, 1) := by decide +kernel
theorem dX9_deeper_1 : decode cX9_deeper 1 = .ok (.getfield 311, 3) := by decide +kernel
theorem dX9_deeper_4 : decode cX9_deeper 4 = .ok (.bipush 8, 2) := by decide +kernel
theorem dX9_deeper_6 : decode cX9_deeper 6 = .ok (.if_icmp .eq 11, 3) := by decide +kernel
theorem dX9_deeper_9 : decode cX9_deeper 9 = .ok (.aload_n 0, 1) := by decide +kernel
theorem dX9_deeper_10 : decode cX9_deeper 10 = .ok (.iload_n 1, 1) := by decide +kernel
theorem dX9_deeper_11 : decode cX9_deeper 11 = .ok (.invokevirtual 308, 3) := by decide +kernel
theorem dX9_deeper_14 : decode cX9_deeper 14 = .ok (.ifCond .ne 5, 3) := by decide +kernel
theorem dX9_deeper_17 : decode cX9_deeper 17 = .ok (.iconst 0, 1) := by decide +kernel
theorem dX9_deeper_18 : decode cX9_deeper 18 = .ok (.ireturn, 1) := by decide +kernel
theorem dX9_deeper_19 : decode cX9_deeper 19 = .ok (.aload_n 0, 1) := by decide +kernel
theorem dX9_deeper_20 : decode cX9_deeper 20 = .ok (.dup, 1) := by decide +kernel
theorem dX9_deeper_21 : decode cX9_deeper 21 = .ok (.getfield 311, 3) := by decide +kernel
theorem dX9_deeper_24 : decode cX9_deeper 24 = .ok (.iconst 1, 1) := by decide +kernel
theorem dX9_deeper_25 : decode cX9_deeper 25 = .ok (.iadd, 1) := by decide +kernel
theorem dX9_deeper_26 : decode cX9_deeper 26 = .ok (.putfield 311, 3) := by decide +kernel
theorem dX9_deeper_29 : decode cX9_deeper 29 = .ok (.iconst 1, 1) := by decide +kernel
theorem dX9_deeper_30 : decode cX9_deeper 30 = .ok (.ireturn, 1) := by decide +kernel
theorem dX9_closes_0 : decode cX9_closes 0 = .ok (.aload_n 0, 1) := by decide +kernel
theorem dX9_closes_1 : decode cX9_closes 1 = .ok (.iload_n 1, 1) := by decide +kernel
theorem dX9_closes_2 : decode cX9_closes 2 = .ok (.invokevirtual 308, 3) := by decide +kernel
theorem dX9_closes_5 : decode cX9_closes 5 = .ok (.ifCond .ne 5, 3) := by decide +kernel
theorem dX9_closes_8 : decode cX9_closes 8 = .ok (.iconst 0, 1) := by decide +kernel
theorem dX9_closes_9 : decode cX9_closes 9 = .ok (.ireturn, 1) := by decide +kernel
theorem dX9_closes_10 : decode cX9_closes 10 = .ok (.aload_n 0, 1) := by decide +kernel
theorem dX9_closes_11 : decode cX9_closes 11 = .ok (.dup, 1) := by decide +kernel
theorem dX9_closes_12 : decode cX9_closes 12 = .ok (.getfield 311, 3) := by decide +kernel
theorem dX9_closes_15 : decode cX9_closes 15 = .ok (.iconst 1, 1) := by decide +kernel
theorem dX9_closes_16 : decode cX9_closes 16 = .ok (.isub, 1) := by decide +kernel
theorem dX9_closes_17 : decode cX9_closes 17 = .ok (.putfield 311, 3) := by decide +kernel
theorem dX9_closes_20 : decode cX9_closes 20 = .ok (.iconst 1, 1) := by decide +kernel
theorem dX9_closes_21 : decode cX9_closes 21 = .ok (.ireturn, 1) := by decide +kernel
theorem dX9_put_0 : decode cX9_put 0 = .ok (.aload_n 1, 1) := by decide +kernel
theorem dX9_put_1 : decode cX9_put 1 = .ok (.getfield 242, 3) := by decide +kernel
theorem dX9_put_4 : decode cX9_put 4 = .ok (.aload_n 1, 1) := by decide +kernel
theorem dX9_put_5 : decode cX9_put 5 = .ok (.getfield 314, 3) := by decide +kernel
theorem dX9_put_8 : decode cX9_put 8 = .ok (.iload_n 2, 1) := by decide +kernel
theorem dX9_put_9 : decode cX9_put 9 = .ok (.iastore, 1) := by decide +kernel
theorem dX9_put_10 : decode cX9_put 10 = .ok (.aload_n 1, 1) := by decide +kernel
theorem dX9_put_11 : decode cX9_put 11 = .ok (.getfield 248, 3) := by decide +kernel
theorem dX9_put_14 : decode cX9_put 14 = .ok (.aload_n 1, 1) := by decide +kernel
theorem dX9_put_15 : decode cX9_put 15 = .ok (.getfield 314, 3) := by decide +kernel
theorem dX9_put_18 : decode cX9_put 18 = .ok (.iload_n 3, 1) := by decide +kernel
theorem dX9_put_19 : decode cX9_put 19 = .ok (.iastore, 1) := by decide +kernel
theorem dX9_put_20 : decode cX9_put 20 = .ok (.aload_n 1, 1) := by decide +kernel
theorem dX9_put_21 : decode cX9_put 21 = .ok (.dup, 1) := by decide +kernel
theorem dX9_put_22 : decode cX9_put 22 = .ok (.getfield 314, 3) := by decide +kernel
theorem dX9_put_25 : decode cX9_put 25 = .ok (.iconst 1, 1) := by decide +kernel
theorem dX9_put_26 : decode cX9_put 26 = .ok (.iadd, 1) := by decide +kernel
theorem dX9_put_27 : decode cX9_put 27 = .ok (.putfield 314, 3) := by decide +kernel
theorem dX9_put_30 : decode cX9_put 30 = .ok (.return_, 1) := by decide +kernel
theorem dX9_isTest_0 : decode cX9_isTest 0 = .ok (.aload_n 0, 1) := by decide +kernel
theorem dX9_isTest_1 : decode cX9_isTest 1 = .ok (.aload_n 1, 1) := by decide +kernel
theorem dX9_isTest_2 : decode cX9_isTest 2 = .ok (.invokevirtual 317, 3) := by decide +kernel
theorem dX9_isTest_5 : decode cX9_isTest 5 = .ok (.ifCond .ne 5, 3) := by decide +kernel
theorem dX9_isTest_8 : decode cX9_isTest 8 = .ok (.iconst 0, 1) := by decide +kernel
theorem dX9_isTest_9 : decode cX9_isTest 9 = .ok (.ireturn, 1) := by decide +kernel
theorem dX9_isTest_10 : decode cX9_isTest 10 = .ok (.aload_n 0, 1) := by decide +kernel
theorem dX9_isTest_11 : decode cX9_isTest 11 = .ok (.bipush 17, 2) := by decide +kernel
theorem dX9_isTest_13 : decode cX9_isTest 13 = .ok (.invokevirtual 308, 3) := by decide +kernel
theorem dX9_isTest_16 : decode cX9_isTest 16 = .ok (.ifCond .eq 24, 3) := by decide +kernel
theorem dX9_isTest_19 : decode cX9_isTest 19 = .ok (.aload_n 0, 1) := by decide +kernel
theorem dX9_isTest_20 : decode cX9_isTest 20 = .ok (.aload_n 1, 1) := by decide +kernel
theorem dX9_isTest_21 : decode cX9_isTest 21 = .ok (.invokevirtual 317, 3) := by decide +kernel
theorem dX9_isTest_24 : decode cX9_isTest 24 = .ok (.ifCond .ne 5, 3) := by decide +kernel
theorem dX9_isTest_27 : decode cX9_isTest 27 = .ok (.iconst 0, 1) := by decide +kernel
theorem dX9_isTest_28 : decode cX9_isTest 28 = .ok (.ireturn, 1) := by decide +kernel
theorem dX9_isTest_29 : decode cX9_isTest 29 = .ok (.aload_n 0, 1) := by decide +kernel
theorem dX9_isTest_30 : decode cX9_isTest 30 = .ok (.aload_n 1, 1) := by decide +kernel
theorem dX9_isTest_31 : decode cX9_isTest 31 = .ok (.bipush 17, 2) := by decide +kernel
theorem dX9_isTest_33 : decode cX9_isTest 33 = .ok (.iconst 0, 1) := by decide +kernel
theorem dX9_isTest_34 : decode cX9_isTest 34 = .ok (.invokevirtual 321, 3) := by decide +kernel
theorem dX9_isTest_37 : decode cX9_isTest 37 = .ok (.goto (-27), 3) := by decide +kernel
theorem dX9_isTest_40 : decode cX9_isTest 40 = .ok (.iconst 1, 1) := by decide +kernel
theorem dX9_isTest_41 : decode cX9_isTest 41 = .ok (.ireturn, 1) := by decide +kernel
theorem dX9_isBoth_0 : decode cX9_isBoth 0 = .ok (.aload_n 0, 1) := by decide +kernel
theorem dX9_isBoth_1 : decode cX9_isBoth 1 = .ok (.aload_n 1, 1) := by decide +kernel
theorem dX9_isBoth_2 : decode cX9_isBoth 2 = .ok (.invokevirtual 325, 3) := by decide +kernel
theorem dX9_isBoth_5 : decode cX9_isBoth 5 = .ok (.ifCond .ne 5, 3) := by decide +kernel
theorem dX9_isBoth_8 : decode cX9_isBoth 8 = .ok (.iconst 0, 1) := by decide +kernel
theorem dX9_isBoth_9 : decode cX9_isBoth 9 = .ok (.ireturn, 1) := by decide +kernel
theorem dX9_isBoth_10 : decode cX9_isBoth 10 = .ok (.aload_n 0, 1) := by decide +kernel
theorem dX9_isBoth_11 : decode cX9_isBoth 11 = .ok (.bipush 16, 2) := by decide +kernel
theorem dX9_isBoth_13 : decode cX9_isBoth 13 = .ok (.invokevirtual 308, 3) := by decide +kernel
theorem dX9_isBoth_16 : decode cX9_isBoth 16 = .ok (.ifCond .eq 24, 3) := by decide +kernel
theorem dX9_isBoth_19 : decode cX9_isBoth 19 = .ok (.aload_n 0, 1) := by decide +kernel
theorem dX9_isBoth_20 : decode cX9_isBoth 20 = .ok (.aload_n 1, 1) := by decide +kernel
theorem dX9_isBoth_21 : decode cX9_isBoth 21 = .ok (.invokevirtual 325, 3) := by decide +kernel
theorem dX9_isBoth_24 : decode cX9_isBoth 24 = .ok (.ifCond .ne 5, 3) := by decide +kernel
theorem dX9_isBoth_27 : decode cX9_isBoth 27 = .ok (.iconst 0, 1) := by decide +kernel
theorem dX9_isBoth_28 : decode cX9_isBoth 28 = .ok (.ireturn, 1) := by decide +kernel
theorem dX9_isBoth_29 : decode cX9_isBoth 29 = .ok (.aload_n 0, 1) := by decide +kernel
theorem dX9_isBoth_30 : decode cX9_isBoth 30 = .ok (.aload_n 1, 1) := by decide +kernel
theorem dX9_isBoth_31 : decode cX9_isBoth 31 = .ok (.bipush 16, 2) := by decide +kernel
theorem dX9_isBoth_33 : decode cX9_isBoth 33 = .ok (.iconst 0, 1) := by decide +kernel
theorem dX9_isBoth_34 : decode cX9_isBoth 34 = .ok (.invokevirtual 321, 3) := by decide +kernel
theorem dX9_isBoth_37 : decode cX9_isBoth 37 = .ok (.goto (-27), 3) := by decide +kernel
theorem dX9_isBoth_40 : decode cX9_isBoth 40 = .ok (.iconst 1, 1) := by decide +kernel
theorem dX9_isBoth_41 : decode cX9_isBoth 41 = .ok (.ireturn, 1) := by decide +kernel
theorem dX9_isSingle_0 : decode cX9_isSingle 0 = .ok (.aload_n 0, 1) := by decide +kernel
theorem dX9_isSingle_1 : decode cX9_isSingle 1 = .ok (.getfield 24, 3) := by decide +kernel
theorem dX9_isSingle_4 : decode cX9_isSingle 4 = .ok (.aload_n 0, 1) := by decide +kernel
theorem dX9_isSingle_5 : decode cX9_isSingle 5 = .ok (.getfield 305, 3) := by decide +kernel
theorem dX9_isSingle_8 : decode cX9_isSingle 8 = .ok (.iaload, 1) := by decide +kernel
theorem dX9_isSingle_9 : decode cX9_isSingle 9 = .ok (.bipush 15, 2) := by decide +kernel
theorem dX9_isSingle_11 : decode cX9_isSingle 11 = .ok (.if_icmp .ne 42, 3) := by decide +kernel
theorem dX9_isSingle_14 : decode cX9_isSingle 14 = .ok (.aload_n 0, 1) := by decide +kernel
theorem dX9_isSingle_15 : decode cX9_isSingle 15 = .ok (.bipush 15, 2) := by decide +kernel
theorem dX9_isSingle_17 : decode cX9_isSingle 17 = .ok (.invokevirtual 328, 3) := by decide +kernel
theorem dX9_isSingle_20 : decode cX9_isSingle 20 = .ok (.ifCond .eq 11, 3) := by decide +kernel
theorem dX9_isSingle_23 : decode cX9_isSingle 23 = .ok (.aload_n 0, 1) := by decide +kernel
theorem dX9_isSingle_24 : decode cX9_isSingle 24 = .ok (.aload_n 1, 1) := by decide +kernel
theorem dX9_isSingle_25 : decode cX9_isSingle 25 = .ok (.invokevirtual 325, 3) := by decide +kernel
theorem dX9_isSingle_28 : decode cX9_isSingle 28 = .ok (.ifCond .ne 5, 3) := by decide +kernel
theorem dX9_isSingle_31 : decode cX9_isSingle 31 = .ok (.iconst 0, 1) := by decide +kernel
theorem dX9_isSingle_32 : decode cX9_isSingle 32 = .ok (.ireturn, 1) := by decide +kernel
theorem dX9_isSingle_33 : decode cX9_isSingle 33 = .ok (.aload_n 0, 1) := by decide +kernel
theorem dX9_isSingle_34 : decode cX9_isSingle 34 = .ok (.dup, 1) := by decide +kernel
theorem dX9_isSingle_35 : decode cX9_isSingle 35 = .ok (.getfield 311, 3) := by decide +kernel
theorem dX9_isSingle_38 : decode cX9_isSingle 38 = .ok (.iconst 1, 1) := by decide +kernel
theorem dX9_isSingle_39 : decode cX9_isSingle 39 = .ok (.isub, 1) := by decide +kernel
theorem dX9_isSingle_40 : decode cX9_isSingle 40 = .ok (.putfield 311, 3) := by decide +kernel
theorem dX9_isSingle_43 : decode cX9_isSingle 43 = .ok (.aload_n 0, 1) := by decide +kernel
theorem dX9_isSingle_44 : decode cX9_isSingle 44 = .ok (.aload_n 1, 1) := by decide +kernel
theorem dX9_isSingle_45 : decode cX9_isSingle 45 = .ok (.bipush 15, 2) := by decide +kernel
theorem dX9_isSingle_47 : decode cX9_isSingle 47 = .ok (.iconst 0, 1) := by decide +kernel
theorem dX9_isSingle_48 : decode cX9_isSingle 48 = .ok (.invokevirtual 321, 3) := by decide +kernel
theorem dX9_isSingle_51 : decode cX9_isSingle 51 = .ok (.iconst 1, 1) := by decide +kernel
theorem dX9_isSingle_52 : decode cX9_isSingle 52 = .ok (.ireturn, 1) := by decide +kernel
theorem dX9_isSingle_53 : decode cX9_isSingle 53 = .ok (.aload_n 0, 1) := by decide +kernel
theorem dX9_isSingle_54 : decode cX9_isSingle 54 = .ok (.getfield 24, 3) := by decide +kernel
theorem dX9_isSingle_57 : decode cX9_isSingle 57 = .ok (.aload_n 0, 1) := by decide +kernel
theorem dX9_isSingle_58 : decode cX9_isSingle 58 = .ok (.getfield 305, 3) := by decide +kernel
theorem dX9_isSingle_61 : decode cX9_isSingle 61 = .ok (.iaload, 1) := by decide +kernel
theorem dX9_isSingle_62 : decode cX9_isSingle 62 = .ok (.bipush 91, 2) := by decide +kernel
theorem dX9_isSingle_64 : decode cX9_isSingle 64 = .ok (.if_icmp .ne 35, 3) := by decide +kernel
theorem dX9_isSingle_67 : decode cX9_isSingle 67 = .ok (.aload_n 0, 1) := by decide +kernel
theorem dX9_isSingle_68 : decode cX9_isSingle 68 = .ok (.bipush 91, 2) := by decide +kernel
theorem dX9_isSingle_70 : decode cX9_isSingle 70 = .ok (.invokevirtual 328, 3) := by decide +kernel
theorem dX9_isSingle_73 : decode cX9_isSingle 73 = .ok (.ifCond .eq 24, 3) := by decide +kernel
theorem dX9_isSingle_76 : decode cX9_isSingle 76 = .ok (.aload_n 0, 1) := by decide +kernel
theorem dX9_isSingle_77 : decode cX9_isSingle 77 = .ok (.aload_n 1, 1) := by decide +kernel
theorem dX9_isSingle_78 : decode cX9_isSingle 78 = .ok (.invokevirtual 331, 3) := by decide +kernel
theorem dX9_isSingle_81 : decode cX9_isSingle 81 = .ok (.ifCond .eq 16, 3) := by decide +kernel
theorem dX9_isSingle_84 : decode cX9_isSingle 84 = .ok (.aload_n 0, 1) := by decide +kernel
theorem dX9_isSingle_85 : decode cX9_isSingle 85 = .ok (.bipush 93, 2) := by decide +kernel
theorem dX9_isSingle_87 : decode cX9_isSingle 87 = .ok (.invokevirtual 334, 3) := by decide +kernel
theorem dX9_isSingle_90 : decode cX9_isSingle 90 = .ok (.ifCond .eq 7, 3) := by decide +kernel
theorem dX9_isSingle_93 : decode cX9_isSingle 93 = .ok (.iconst 1, 1) := by decide +kernel
theorem dX9_isSingle_94 : decode cX9_isSingle 94 = .ok (.goto 4, 3) := by decide +kernel
theorem dX9_isSingle_97 : decode cX9_isSingle 97 = .ok (.iconst 0, 1) := by decide +kernel
theorem dX9_isSingle_98 : decode cX9_isSingle 98 = .ok (.ireturn, 1) := by decide +kernel
theorem dX9_isSingle_99 : decode cX9_isSingle 99 = .ok (.aload_n 0, 1) := by decide +kernel
theorem dX9_isSingle_100 : decode cX9_isSingle 100 = .ok (.getfield 24, 3) := by decide +kernel
theorem dX9_isSingle_103 : decode cX9_isSingle 103 = .ok (.aload_n 0, 1) := by decide +kernel
theorem dX9_isSingle_104 : decode cX9_isSingle 104 = .ok (.getfield 305, 3) := by decide +kernel
theorem dX9_isSingle_107 : decode cX9_isSingle 107 = .ok (.iaload, 1) := by decide +kernel
theorem dX9_isSingle_108 : decode cX9_isSingle 108 = .ok (.bipush 12, 2) := by decide +kernel
theorem dX9_isSingle_110 : decode cX9_isSingle 110 = .ok (.if_icmp .eq 9, 3) := by decide +kernel
theorem dX9_isSingle_113 : decode cX9_isSingle 113 = .ok (.aload_n 0, 1) := by decide +kernel
theorem dX9_isSingle_114 : decode cX9_isSingle 114 = .ok (.aload_n 1, 1) := by decide +kernel
theorem dX9_isSingle_115 : decode cX9_isSingle 115 = .ok (.invokevirtual 337, 3) := by decide +kernel
theorem dX9_isSingle_118 : decode cX9_isSingle 118 = .ok (.ireturn, 1) := by decide +kernel
theorem dX9_isSingle_119 : decode cX9_isSingle 119 = .ok (.aload_n 0, 1) := by decide +kernel
theorem dX9_isSingle_120 : decode cX9_isSingle 120 = .ok (.aload_n 1, 1) := by decide +kernel
theorem dX9_isSingle_121 : decode cX9_isSingle 121 = .ok (.bipush 12, 2) := by decide +kernel
theorem dX9_isSingle_123 : decode cX9_isSingle 123 = .ok (.iconst 0, 1) := by decide +kernel
theorem dX9_isSingle_124 : decode cX9_isSingle 124 = .ok (.invokevirtual 321, 3) := by decide +kernel
theorem dX9_isSingle_127 : decode cX9_isSingle 127 = .ok (.aload_n 0, 1) := by decide +kernel
theorem dX9_isSingle_128 : decode cX9_isSingle 128 = .ok (.bipush 12, 2) := by decide +kernel
theorem dX9_isSingle_130 : decode cX9_isSingle 130 = .ok (.invokevirtual 308, 3) := by decide +kernel
theorem dX9_isSingle_133 : decode cX9_isSingle 133 = .ok (.ireturn, 1) := by decide +kernel
theorem dX9_isCompare_0 : decode cX9_isCompare 0 = .ok (.aload_n 0, 1) := by decide +kernel
theorem dX9_isCompare_1 : decode cX9_isCompare 1 = .ok (.aload_n 1, 1) := by decide +kernel
theorem dX9_isCompare_2 : decode cX9_isCompare 2 = .ok (.invokevirtual 340, 3) := by decide +kernel
theorem dX9_isCompare_5 : decode cX9_isCompare 5 = .ok (.ifCond .ne 5, 3) := by decide +kernel
theorem dX9_isCompare_8 : decode cX9_isCompare 8 = .ok (.iconst 0, 1) := by decide +kernel
theorem dX9_isCompare_9 : decode cX9_isCompare 9 = .ok (.ireturn, 1) := by decide +kernel
theorem dX9_isCompare_10 : decode cX9_isCompare 10 = .ok (.aload_n 0, 1) := by decide +kernel
theorem dX9_isCompare_11 : decode cX9_isCompare 11 = .ok (.getfield 24, 3) := by decide +kernel
theorem dX9_isCompare_14 : decode cX9_isCompare 14 = .ok (.aload_n 0, 1) := by decide +kernel
theorem dX9_isCompare_15 : decode cX9_isCompare 15 = .ok (.getfield 305, 3) := by decide +kernel
theorem dX9_isCompare_18 : decode cX9_isCompare 18 = .ok (.iaload, 1) := by decide +kernel
theorem dX9_isCompare_19 : decode cX9_isCompare 19 = .ok (.istore_n 2, 1) := by decide +kernel
theorem dX9_isCompare_20 : decode cX9_isCompare 20 = .ok (.iload_n 2, 1) := by decide +kernel
theorem dX9_isCompare_21 : decode cX9_isCompare 21 = .ok (.bipush 60, 2) := by decide +kernel
theorem dX9_isCompare_23 : decode cX9_isCompare 23 = .ok (.if_icmp .ne 8, 3) := by decide +kernel
theorem dX9_isCompare_26 : decode cX9_isCompare 26 = .ok (.bipush 106, 2) := by decide +kernel
theorem dX9_isCompare_28 : decode cX9_isCompare 28 = .ok (.goto 50, 3) := by decide +kernel
theorem dX9_isCompare_31 : decode cX9_isCompare 31 = .ok (.iload_n 2, 1) := by decide +kernel
theorem dX9_isCompare_32 : decode cX9_isCompare 32 = .ok (.bipush 62, 2) := by decide +kernel
theorem dX9_isCompare_34 : decode cX9_isCompare 34 = .ok (.if_icmp .ne 8, 3) := by decide +kernel
theorem dX9_isCompare_37 : decode cX9_isCompare 37 = .ok (.bipush 107, 2) := by decide +kernel
theorem dX9_isCompare_39 : decode cX9_isCompare 39 = .ok (.goto 39, 3) := by decide +kernel
theorem dX9_isCompare_42 : decode cX9_isCompare 42 = .ok (.iload_n 2, 1) := by decide +kernel
theorem dX9_isCompare_43 : decode cX9_isCompare 43 = .ok (.bipush 61, 2) := by decide +kernel
theorem dX9_isCompare_45 : decode cX9_isCompare 45 = .ok (.if_icmp .ne 8, 3) := by decide +kernel
theorem dX9_isCompare_48 : decode cX9_isCompare 48 = .ok (.bipush 108, 2) := by decide +kernel
theorem dX9_isCompare_50 : decode cX9_isCompare 50 = .ok (.goto 28, 3) := by decide +kernel
theorem dX9_isCompare_53 : decode cX9_isCompare 53 = .ok (.iload_n 2, 1) := by decide +kernel
theorem dX9_isCompare_54 : decode cX9_isCompare 54 = .ok (.sipush 316, 3) := by decide +kernel
theorem dX9_isCompare_57 : decode cX9_isCompare 57 = .ok (.if_icmp .ne 8, 3) := by decide +kernel
theorem dX9_isCompare_60 : decode cX9_isCompare 60 = .ok (.bipush 109, 2) := by decide +kernel
theorem dX9_isCompare_62 : decode cX9_isCompare 62 = .ok (.goto 16, 3) := by decide +kernel
theorem dX9_isCompare_65 : decode cX9_isCompare 65 = .ok (.iload_n 2, 1) := by decide +kernel
theorem dX9_isCompare_66 : decode cX9_isCompare 66 = .ok (.sipush 318, 3) := by decide +kernel
theorem dX9_isCompare_69 : decode cX9_isCompare 69 = .ok (.if_icmp .ne 8, 3) := by decide +kernel
theorem dX9_isCompare_72 : decode cX9_isCompare 72 = .ok (.bipush 110, 2) := by decide +kernel
theorem dX9_isCompare_74 : decode cX9_isCompare 74 = .ok (.goto 4, 3) := by decide +kernel
theorem dX9_isCompare_77 : decode cX9_isCompare 77 = .ok (.iconst (-1), 1) := by decide +kernel
theorem dX9_isCompare_78 : decode cX9_isCompare 78 = .ok (.istore_n 3, 1) := by decide +kernel
theorem dX9_isCompare_79 : decode cX9_isCompare 79 = .ok (.iload_n 3, 1) := by decide +kernel
theorem dX9_isCompare_80 : decode cX9_isCompare 80 = .ok (.iconst (-1), 1) := by decide +kernel
theorem dX9_isCompare_81 : decode cX9_isCompare 81 = .ok (.if_icmp .ne 5, 3) := by decide +kernel
theorem dX9_isCompare_84 : decode cX9_isCompare 84 = .ok (.iconst 0, 1) := by decide +kernel
theorem dX9_isCompare_85 : decode cX9_isCompare 85 = .ok (.ireturn, 1) := by decide +kernel
theorem dX9_isCompare_86 : decode cX9_isCompare 86 = .ok (.aload_n 0, 1) := by decide +kernel
theorem dX9_isCompare_87 : decode cX9_isCompare 87 = .ok (.dup, 1) := by decide +kernel
theorem dX9_isCompare_88 : decode cX9_isCompare 88 = .ok (.getfield 305, 3) := by decide +kernel
theorem dX9_isCompare_91 : decode cX9_isCompare 91 = .ok (.iconst 1, 1) := by decide +kernel
theorem dX9_isCompare_92 : decode cX9_isCompare 92 = .ok (.iadd, 1) := by decide +kernel
theorem dX9_isCompare_93 : decode cX9_isCompare 93 = .ok (.putfield 305, 3) := by decide +kernel
theorem dX9_isCompare_96 : decode cX9_isCompare 96 = .ok (.aload_n 0, 1) := by decide +kernel
theorem dX9_isCompare_97 : decode cX9_isCompare 97 = .ok (.aload_n 1, 1) := by decide +kernel
theorem dX9_isCompare_98 : decode cX9_isCompare 98 = .ok (.invokevirtual 340, 3) := by decide +kernel
theorem dX9_isCompare_101 : decode cX9_isCompare 101 = .ok (.ifCond .ne 5, 3) := by decide +kernel
theorem dX9_isCompare_104 : decode cX9_isCompare 104 = .ok (.iconst 0, 1) := by decide +kernel
theorem dX9_isCompare_105 : decode cX9_isCompare 105 = .ok (.ireturn, 1) := by decide +kernel
theorem dX9_isCompare_106 : decode cX9_isCompare 106 = .ok (.aload_n 0, 1) := by decide +kernel
theorem dX9_isCompare_107 : decode cX9_isCompare 107 = .ok (.aload_n 1, 1) := by decide +kernel
theorem dX9_isCompare_108 : decode cX9_isCompare 108 = .ok (.iload_n 3, 1) := by decide +kernel
theorem dX9_isCompare_109 : decode cX9_isCompare 109 = .ok (.iconst 0, 1) := by decide +kernel
theorem dX9_isCompare_110 : decode cX9_isCompare 110 = .ok (.invokevirtual 321, 3) := by decide +kernel
theorem dX9_isCompare_113 : decode cX9_isCompare 113 = .ok (.iconst 1, 1) := by decide +kernel
theorem dX9_isCompare_114 : decode cX9_isCompare 114 = .ok (.ireturn, 1) := by decide +kernel
theorem dX9_isSum_0 : decode cX9_isSum 0 = .ok (.aload_n 0, 1) := by decide +kernel
theorem dX9_isSum_1 : decode cX9_isSum 1 = .ok (.aload_n 1, 1) := by decide +kernel
theorem dX9_isSum_2 : decode cX9_isSum 2 = .ok (.invokevirtual 343, 3) := by decide +kernel
theorem dX9_isSum_5 : decode cX9_isSum 5 = .ok (.ifCond .ne 5, 3) := by decide +kernel
theorem dX9_isSum_8 : decode cX9_isSum 8 = .ok (.iconst 0, 1) := by decide +kernel
theorem dX9_isSum_9 : decode cX9_isSum 9 = .ok (.ireturn, 1) := by decide +kernel
theorem dX9_isSum_10 : decode cX9_isSum 10 = .ok (.aload_n 0, 1) := by decide +kernel
theorem dX9_isSum_11 : decode cX9_isSum 11 = .ok (.getfield 24, 3) := by decide +kernel
theorem dX9_isSum_14 : decode cX9_isSum 14 = .ok (.aload_n 0, 1) := by decide +kernel
theorem dX9_isSum_15 : decode cX9_isSum 15 = .ok (.getfield 305, 3) := by decide +kernel
theorem dX9_isSum_18 : decode cX9_isSum 18 = .ok (.iaload, 1) := by decide +kernel
theorem dX9_isSum_19 : decode cX9_isSum 19 = .ok (.bipush 43, 2) := by decide +kernel
theorem dX9_isSum_21 : decode cX9_isSum 21 = .ok (.if_icmp .eq 17, 3) := by decide +kernel
theorem dX9_isSum_24 : decode cX9_isSum 24 = .ok (.aload_n 0, 1) := by decide +kernel
theorem dX9_isSum_25 : decode cX9_isSum 25 = .ok (.getfield 24, 3) := by decide +kernel
theorem dX9_isSum_28 : decode cX9_isSum 28 = .ok (.aload_n 0, 1) := by decide +kernel
theorem dX9_isSum_29 : decode cX9_isSum 29 = .ok (.getfield 305, 3) := by decide +kernel
theorem dX9_isSum_32 : decode cX9_isSum 32 = .ok (.iaload, 1) := by decide +kernel
theorem dX9_isSum_33 : decode cX9_isSum 33 = .ok (.bipush 45, 2) := by decide +kernel
theorem dX9_isSum_35 : decode cX9_isSum 35 = .ok (.if_icmp .ne 55, 3) := by decide +kernel
theorem dX9_isSum_38 : decode cX9_isSum 38 = .ok (.aload_n 0, 1) := by decide +kernel
theorem dX9_isSum_39 : decode cX9_isSum 39 = .ok (.getfield 24, 3) := by decide +kernel
theorem dX9_isSum_42 : decode cX9_isSum 42 = .ok (.aload_n 0, 1) := by decide +kernel
theorem dX9_isSum_43 : decode cX9_isSum 43 = .ok (.getfield 305, 3) := by decide +kernel
theorem dX9_isSum_46 : decode cX9_isSum 46 = .ok (.iaload, 1) := by decide +kernel
theorem dX9_isSum_47 : decode cX9_isSum 47 = .ok (.bipush 43, 2) := by decide +kernel
theorem dX9_isSum_49 : decode cX9_isSum 49 = .ok (.if_icmp .ne 8, 3) := by decide +kernel
theorem dX9_isSum_52 : decode cX9_isSum 52 = .ok (.bipush 101, 2) := by decide +kernel
theorem dX9_isSum_54 : decode cX9_isSum 54 = .ok (.goto 5, 3) := by decide +kernel
theorem dX9_isSum_57 : decode cX9_isSum 57 = .ok (.bipush 102, 2) := by decide +kernel
theorem dX9_isSum_59 : decode cX9_isSum 59 = .ok (.istore_n 2, 1) := by decide +kernel
theorem dX9_isSum_60 : decode cX9_isSum 60 = .ok (.aload_n 0, 1) := by decide +kernel
theorem dX9_isSum_61 : decode cX9_isSum 61 = .ok (.dup, 1) := by decide +kernel
theorem dX9_isSum_62 : decode cX9_isSum 62 = .ok (.getfield 305, 3) := by decide +kernel
theorem dX9_isSum_65 : decode cX9_isSum 65 = .ok (.iconst 1, 1) := by decide +kernel
theorem dX9_isSum_66 : decode cX9_isSum 66 = .ok (.iadd, 1) := by decide +kernel
theorem dX9_isSum_67 : decode cX9_isSum 67 = .ok (.putfield 305, 3) := by decide +kernel
theorem dX9_isSum_70 : decode cX9_isSum 70 = .ok (.aload_n 0, 1) := by decide +kernel
theorem dX9_isSum_71 : decode cX9_isSum 71 = .ok (.aload_n 1, 1) := by decide +kernel
theorem dX9_isSum_72 : decode cX9_isSum 72 = .ok (.invokevirtual 343, 3) := by decide +kernel
theorem dX9_isSum_75 : decode cX9_isSum 75 = .ok (.ifCond .ne 5, 3) := by decide +kernel
theorem dX9_isSum_78 : decode cX9_isSum 78 = .ok (.iconst 0, 1) := by decide +kernel
theorem dX9_isSum_79 : decode cX9_isSum 79 = .ok (.ireturn, 1) := by decide +kernel
theorem dX9_isSum_80 : decode cX9_isSum 80 = .ok (.aload_n 0, 1) := by decide +kernel
theorem dX9_isSum_81 : decode cX9_isSum 81 = .ok (.aload_n 1, 1) := by decide +kernel
theorem dX9_isSum_82 : decode cX9_isSum 82 = .ok (.iload_n 2, 1) := by decide +kernel
theorem dX9_isSum_83 : decode cX9_isSum 83 = .ok (.iconst 0, 1) := by decide +kernel
theorem dX9_isSum_84 : decode cX9_isSum 84 = .ok (.invokevirtual 321, 3) := by decide +kernel
theorem dX9_isSum_87 : decode cX9_isSum 87 = .ok (.goto (-77), 3) := by decide +kernel
theorem dX9_isSum_90 : decode cX9_isSum 90 = .ok (.iconst 1, 1) := by decide +kernel
theorem dX9_isSum_91 : decode cX9_isSum 91 = .ok (.ireturn, 1) := by decide +kernel
theorem dX9_isProduct_0 : decode cX9_isProduct 0 = .ok (.aload_n 0, 1) := by decide +kernel
theorem dX9_isProduct_1 : decode cX9_isProduct 1 = .ok (.aload_n 1, 1) := by decide +kernel
theorem dX9_isProduct_2 : decode cX9_isProduct 2 = .ok (.invokevirtual 346, 3) := by decide +kernel
theorem dX9_isProduct_5 : decode cX9_isProduct 5 = .ok (.ifCond .ne 5, 3) := by decide +kernel
theorem dX9_isProduct_8 : decode cX9_isProduct 8 = .ok (.iconst 0, 1) := by decide +kernel
theorem dX9_isProduct_9 : decode cX9_isProduct 9 = .ok (.ireturn, 1) := by decide +kernel
theorem dX9_isProduct_10 : decode cX9_isProduct 10 = .ok (.aload_n 0, 1) := by decide +kernel
theorem dX9_isProduct_11 : decode cX9_isProduct 11 = .ok (.getfield 24, 3) := by decide +kernel
theorem dX9_isProduct_14 : decode cX9_isProduct 14 = .ok (.aload_n 0, 1) := by decide +kernel
theorem dX9_isProduct_15 : decode cX9_isProduct 15 = .ok (.getfield 305, 3) := by decide +kernel
theorem dX9_isProduct_18 : decode cX9_isProduct 18 = .ok (.iaload, 1) := by decide +kernel
theorem dX9_isProduct_19 : decode cX9_isProduct 19 = .ok (.bipush 42, 2) := by decide +kernel
theorem dX9_isProduct_21 : decode cX9_isProduct 21 = .ok (.if_icmp .eq 17, 3) := by decide +kernel
theorem dX9_isProduct_24 : decode cX9_isProduct 24 = .ok (.aload_n 0, 1) := by decide +kernel
theorem dX9_isProduct_25 : decode cX9_isProduct 25 = .ok (.getfield 24, 3) := by decide +kernel
theorem dX9_isProduct_28 : decode cX9_isProduct 28 = .ok (.aload_n 0, 1) := by decide +kernel
theorem dX9_isProduct_29 : decode cX9_isProduct 29 = .ok (.getfield 305, 3) := by decide +kernel
theorem dX9_isProduct_32 : decode cX9_isProduct 32 = .ok (.iaload, 1) := by decide +kernel
theorem dX9_isProduct_33 : decode cX9_isProduct 33 = .ok (.bipush 47, 2) := by decide +kernel
theorem dX9_isProduct_35 : decode cX9_isProduct 35 = .ok (.if_icmp .ne 55, 3) := by decide +kernel
theorem dX9_isProduct_38 : decode cX9_isProduct 38 = .ok (.aload_n 0, 1) := by decide +kernel
theorem dX9_isProduct_39 : decode cX9_isProduct 39 = .ok (.getfield 24, 3) := by decide +kernel
theorem dX9_isProduct_42 : decode cX9_isProduct 42 = .ok (.aload_n 0, 1) := by decide +kernel
theorem dX9_isProduct_43 : decode cX9_isProduct 43 = .ok (.getfield 305, 3) := by decide +kernel
theorem dX9_isProduct_46 : decode cX9_isProduct 46 = .ok (.iaload, 1) := by decide +kernel
theorem dX9_isProduct_47 : decode cX9_isProduct 47 = .ok (.bipush 42, 2) := by decide +kernel
theorem dX9_isProduct_49 : decode cX9_isProduct 49 = .ok (.if_icmp .ne 8, 3) := by decide +kernel
theorem dX9_isProduct_52 : decode cX9_isProduct 52 = .ok (.bipush 103, 2) := by decide +kernel
theorem dX9_isProduct_54 : decode cX9_isProduct 54 = .ok (.goto 5, 3) := by decide +kernel
theorem dX9_isProduct_57 : decode cX9_isProduct 57 = .ok (.bipush 104, 2) := by decide +kernel
theorem dX9_isProduct_59 : decode cX9_isProduct 59 = .ok (.istore_n 2, 1) := by decide +kernel
theorem dX9_isProduct_60 : decode cX9_isProduct 60 = .ok (.aload_n 0, 1) := by decide +kernel
theorem dX9_isProduct_61 : decode cX9_isProduct 61 = .ok (.dup, 1) := by decide +kernel
theorem dX9_isProduct_62 : decode cX9_isProduct 62 = .ok (.getfield 305, 3) := by decide +kernel
theorem dX9_isProduct_65 : decode cX9_isProduct 65 = .ok (.iconst 1, 1) := by decide +kernel
theorem dX9_isProduct_66 : decode cX9_isProduct 66 = .ok (.iadd, 1) := by decide +kernel
theorem dX9_isProduct_67 : decode cX9_isProduct 67 = .ok (.putfield 305, 3) := by decide +kernel
theorem dX9_isProduct_70 : decode cX9_isProduct 70 = .ok (.aload_n 0, 1) := by decide +kernel
theorem dX9_isProduct_71 : decode cX9_isProduct 71 = .ok (.aload_n 1, 1) := by decide +kernel
theorem dX9_isProduct_72 : decode cX9_isProduct 72 = .ok (.invokevirtual 346, 3) := by decide +kernel
theorem dX9_isProduct_75 : decode cX9_isProduct 75 = .ok (.ifCond .ne 5, 3) := by decide +kernel
theorem dX9_isProduct_78 : decode cX9_isProduct 78 = .ok (.iconst 0, 1) := by decide +kernel
theorem dX9_isProduct_79 : decode cX9_isProduct 79 = .ok (.ireturn, 1) := by decide +kernel
theorem dX9_isProduct_80 : decode cX9_isProduct 80 = .ok (.aload_n 0, 1) := by decide +kernel
theorem dX9_isProduct_81 : decode cX9_isProduct 81 = .ok (.aload_n 1, 1) := by decide +kernel
theorem dX9_isProduct_82 : decode cX9_isProduct 82 = .ok (.iload_n 2, 1) := by decide +kernel
theorem dX9_isProduct_83 : decode cX9_isProduct 83 = .ok (.iconst 0, 1) := by decide +kernel
theorem dX9_isProduct_84 : decode cX9_isProduct 84 = .ok (.invokevirtual 321, 3) := by decide +kernel
theorem dX9_isProduct_87 : decode cX9_isProduct 87 = .ok (.goto (-77), 3) := by decide +kernel
theorem dX9_isProduct_90 : decode cX9_isProduct 90 = .ok (.iconst 1, 1) := by decide +kernel
theorem dX9_isProduct_91 : decode cX9_isProduct 91 = .ok (.ireturn, 1) := by decide +kernel
theorem dX9_isValue_0 : decode cX9_isValue 0 = .ok (.aload_n 0, 1) := by decide +kernel
theorem dX9_isValue_1 : decode cX9_isValue 1 = .ok (.getfield 24, 3) := by decide +kernel
theorem dX9_isValue_4 : decode cX9_isValue 4 = .ok (.aload_n 0, 1) := by decide +kernel
theorem dX9_isValue_5 : decode cX9_isValue 5 = .ok (.getfield 305, 3) := by decide +kernel
theorem dX9_isValue_8 : decode cX9_isValue 8 = .ok (.iaload, 1) := by decide +kernel
theorem dX9_isValue_9 : decode cX9_isValue 9 = .ok (.istore_n 2, 1) := by decide +kernel
theorem dX9_isValue_10 : decode cX9_isValue 10 = .ok (.iload_n 2, 1) := by decide +kernel
theorem dX9_isValue_11 : decode cX9_isValue 11 = .ok (.bipush 45, 2) := by decide +kernel
theorem dX9_isValue_13 : decode cX9_isValue 13 = .ok (.if_icmp .ne 42, 3) := by decide +kernel
theorem dX9_isValue_16 : decode cX9_isValue 16 = .ok (.aload_n 0, 1) := by decide +kernel
theorem dX9_isValue_17 : decode cX9_isValue 17 = .ok (.bipush 45, 2) := by decide +kernel
theorem dX9_isValue_19 : decode cX9_isValue 19 = .ok (.invokevirtual 328, 3) := by decide +kernel
theorem dX9_isValue_22 : decode cX9_isValue 22 = .ok (.ifCond .eq 11, 3) := by decide +kernel
theorem dX9_isValue_25 : decode cX9_isValue 25 = .ok (.aload_n 0, 1) := by decide +kernel
theorem dX9_isValue_26 : decode cX9_isValue 26 = .ok (.aload_n 1, 1) := by decide +kernel
theorem dX9_isValue_27 : decode cX9_isValue 27 = .ok (.invokevirtual 346, 3) := by decide +kernel
theorem dX9_isValue_30 : decode cX9_isValue 30 = .ok (.ifCond .ne 5, 3) := by decide +kernel
theorem dX9_isValue_33 : decode cX9_isValue 33 = .ok (.iconst 0, 1) := by decide +kernel
theorem dX9_isValue_34 : decode cX9_isValue 34 = .ok (.ireturn, 1) := by decide +kernel
theorem dX9_isValue_35 : decode cX9_isValue 35 = .ok (.aload_n 0, 1) := by decide +kernel
theorem dX9_isValue_36 : decode cX9_isValue 36 = .ok (.dup, 1) := by decide +kernel
theorem dX9_isValue_37 : decode cX9_isValue 37 = .ok (.getfield 311, 3) := by decide +kernel
theorem dX9_isValue_40 : decode cX9_isValue 40 = .ok (.iconst 1, 1) := by decide +kernel
theorem dX9_isValue_41 : decode cX9_isValue 41 = .ok (.isub, 1) := by decide +kernel
theorem dX9_isValue_42 : decode cX9_isValue 42 = .ok (.putfield 311, 3) := by decide +kernel
theorem dX9_isValue_45 : decode cX9_isValue 45 = .ok (.aload_n 0, 1) := by decide +kernel
theorem dX9_isValue_46 : decode cX9_isValue 46 = .ok (.aload_n 1, 1) := by decide +kernel
theorem dX9_isValue_47 : decode cX9_isValue 47 = .ok (.bipush 105, 2) := by decide +kernel
theorem dX9_isValue_49 : decode cX9_isValue 49 = .ok (.iconst 0, 1) := by decide +kernel
theorem dX9_isValue_50 : decode cX9_isValue 50 = .ok (.invokevirtual 321, 3) := by decide +kernel
theorem dX9_isValue_53 : decode cX9_isValue 53 = .ok (.iconst 1, 1) := by decide +kernel
theorem dX9_isValue_54 : decode cX9_isValue 54 = .ok (.ireturn, 1) := by decide +kernel
theorem dX9_isValue_55 : decode cX9_isValue 55 = .ok (.iload_n 2, 1) := by decide +kernel
theorem dX9_isValue_56 : decode cX9_isValue 56 = .ok (.bipush 40, 2) := by decide +kernel
theorem dX9_isValue_58 : decode cX9_isValue 58 = .ok (.if_icmp .ne 35, 3) := by decide +kernel
theorem dX9_isValue_61 : decode cX9_isValue 61 = .ok (.aload_n 0, 1) := by decide +kernel
theorem dX9_isValue_62 : decode cX9_isValue 62 = .ok (.bipush 40, 2) := by decide +kernel
theorem dX9_isValue_64 : decode cX9_isValue 64 = .ok (.invokevirtual 328, 3) := by decide +kernel
theorem dX9_isValue_67 : decode cX9_isValue 67 = .ok (.ifCond .eq 24, 3) := by decide +kernel
theorem dX9_isValue_70 : decode cX9_isValue 70 = .ok (.aload_n 0, 1) := by decide +kernel
theorem dX9_isValue_71 : decode cX9_isValue 71 = .ok (.aload_n 1, 1) := by decide +kernel
theorem dX9_isValue_72 : decode cX9_isValue 72 = .ok (.invokevirtual 340, 3) := by decide +kernel
theorem dX9_isValue_75 : decode cX9_isValue 75 = .ok (.ifCond .eq 16, 3) := by decide +kernel
theorem dX9_isValue_78 : decode cX9_isValue 78 = .ok (.aload_n 0, 1) := by decide +kernel
theorem dX9_isValue_79 : decode cX9_isValue 79 = .ok (.bipush 41, 2) := by decide +kernel
theorem dX9_isValue_81 : decode cX9_isValue 81 = .ok (.invokevirtual 334, 3) := by decide +kernel
theorem dX9_isValue_84 : decode cX9_isValue 84 = .ok (.ifCond .eq 7, 3) := by decide +kernel
theorem dX9_isValue_87 : decode cX9_isValue 87 = .ok (.iconst 1, 1) := by decide +kernel
theorem dX9_isValue_88 : decode cX9_isValue 88 = .ok (.goto 4, 3) := by decide +kernel
theorem dX9_isValue_91 : decode cX9_isValue 91 = .ok (.iconst 0, 1) := by decide +kernel
theorem dX9_isValue_92 : decode cX9_isValue 92 = .ok (.ireturn, 1) := by decide +kernel
theorem dX9_isValue_93 : decode cX9_isValue 93 = .ok (.iload_n 2, 1) := by decide +kernel
theorem dX9_isValue_94 : decode cX9_isValue 94 = .ok (.bipush 18, 2) := by decide +kernel
theorem dX9_isValue_96 : decode cX9_isValue 96 = .ok (.if_icmp .eq 9, 3) := by decide +kernel
theorem dX9_isValue_99 : decode cX9_isValue 99 = .ok (.iload_n 2, 1) := by decide +kernel
theorem dX9_isValue_100 : decode cX9_isValue 100 = .ok (.bipush 19, 2) := by decide +kernel
theorem dX9_isValue_102 : decode cX9_isValue 102 = .ok (.if_icmp .ne 10, 3) := by decide +kernel
theorem dX9_isValue_105 : decode cX9_isValue 105 = .ok (.aload_n 0, 1) := by decide +kernel
theorem dX9_isValue_106 : decode cX9_isValue 106 = .ok (.aload_n 1, 1) := by decide +kernel
theorem dX9_isValue_107 : decode cX9_isValue 107 = .ok (.iload_n 2, 1) := by decide +kernel
theorem dX9_isValue_108 : decode cX9_isValue 108 = .ok (.invokevirtual 349, 3) := by decide +kernel
theorem dX9_isValue_111 : decode cX9_isValue 111 = .ok (.ireturn, 1) := by decide +kernel
theorem dX9_isValue_112 : decode cX9_isValue 112 = .ok (.iload_n 2, 1) := by decide +kernel
theorem dX9_isValue_113 : decode cX9_isValue 113 = .ok (.invokestatic 220, 3) := by decide +kernel
theorem dX9_isValue_116 : decode cX9_isValue 116 = .ok (.ifCond .eq 10, 3) := by decide +kernel
theorem dX9_isValue_119 : decode cX9_isValue 119 = .ok (.aload_n 0, 1) := by decide +kernel
theorem dX9_isValue_120 : decode cX9_isValue 120 = .ok (.aload_n 1, 1) := by decide +kernel
theorem dX9_isValue_121 : decode cX9_isValue 121 = .ok (.iload_n 2, 1) := by decide +kernel
theorem dX9_isValue_122 : decode cX9_isValue 122 = .ok (.invokevirtual 353, 3) := by decide +kernel
theorem dX9_isValue_125 : decode cX9_isValue 125 = .ok (.ireturn, 1) := by decide +kernel
theorem dX9_isValue_126 : decode cX9_isValue 126 = .ok (.iload_n 2, 1) := by decide +kernel
theorem dX9_isValue_127 : decode cX9_isValue 127 = .ok (.bipush 31, 2) := by decide +kernel
theorem dX9_isValue_129 : decode cX9_isValue 129 = .ok (.if_icmp .ne 20, 3) := by decide +kernel
theorem dX9_isValue_132 : decode cX9_isValue 132 = .ok (.aload_n 0, 1) := by decide +kernel
theorem dX9_isValue_133 : decode cX9_isValue 133 = .ok (.aload_n 1, 1) := by decide +kernel
theorem dX9_isValue_134 : decode cX9_isValue 134 = .ok (.bipush 100, 2) := by decide +kernel
theorem dX9_isValue_136 : decode cX9_isValue 136 = .ok (.aload_n 0, 1) := by decide +kernel
theorem dX9_isValue_137 : decode cX9_isValue 137 = .ok (.getfield 33, 3) := by decide +kernel
theorem dX9_isValue_140 : decode cX9_isValue 140 = .ok (.aload_n 0, 1) := by decide +kernel
theorem dX9_isValue_141 : decode cX9_isValue 141 = .ok (.getfield 305, 3) := by decide +kernel
theorem dX9_isValue_144 : decode cX9_isValue 144 = .ok (.laload, 1) := by decide +kernel
theorem dX9_isValue_145 : decode cX9_isValue 145 = .ok (.l2i, 1) := by decide +kernel
theorem dX9_isValue_146 : decode cX9_isValue 146 = .ok (.invokevirtual 321, 3) := by decide +kernel
theorem dX9_isValue_149 : decode cX9_isValue 149 = .ok (.iload_n 2, 1) := by decide +kernel
theorem dX9_isValue_150 : decode cX9_isValue 150 = .ok (.bipush 10, 2) := by decide +kernel
theorem dX9_isValue_152 : decode cX9_isValue 152 = .ok (.if_icmp .ne 11, 3) := by decide +kernel
theorem dX9_isValue_155 : decode cX9_isValue 155 = .ok (.aload_n 0, 1) := by decide +kernel
theorem dX9_isValue_156 : decode cX9_isValue 156 = .ok (.aload_n 1, 1) := by decide +kernel
theorem dX9_isValue_157 : decode cX9_isValue 157 = .ok (.bipush 10, 2) := by decide +kernel
theorem dX9_isValue_159 : decode cX9_isValue 159 = .ok (.iconst 0, 1) := by decide +kernel
theorem dX9_isValue_160 : decode cX9_isValue 160 = .ok (.invokevirtual 321, 3) := by decide +kernel
theorem dX9_isValue_163 : decode cX9_isValue 163 = .ok (.iload_n 2, 1) := by decide +kernel
theorem dX9_isValue_164 : decode cX9_isValue 164 = .ok (.bipush 31, 2) := by decide +kernel
theorem dX9_isValue_166 : decode cX9_isValue 166 = .ok (.if_icmp .eq 11, 3) := by decide +kernel
theorem dX9_isValue_169 : decode cX9_isValue 169 = .ok (.iload_n 2, 1) := by decide +kernel
theorem dX9_isValue_170 : decode cX9_isValue 170 = .ok (.bipush 10, 2) := by decide +kernel
theorem dX9_isValue_172 : decode cX9_isValue 172 = .ok (.if_icmp .eq 5, 3) := by decide +kernel
theorem dX9_isValue_175 : decode cX9_isValue 175 = .ok (.iconst 0, 1) := by decide +kernel
theorem dX9_isValue_176 : decode cX9_isValue 176 = .ok (.ireturn, 1) := by decide +kernel
theorem dX9_isValue_177 : decode cX9_isValue 177 = .ok (.aload_n 0, 1) := by decide +kernel
theorem dX9_isValue_178 : decode cX9_isValue 178 = .ok (.dup, 1) := by decide +kernel
theorem dX9_isValue_179 : decode cX9_isValue 179 = .ok (.getfield 305, 3) := by decide +kernel
theorem dX9_isValue_182 : decode cX9_isValue 182 = .ok (.iconst 1, 1) := by decide +kernel
theorem dX9_isValue_183 : decode cX9_isValue 183 = .ok (.iadd, 1) := by decide +kernel
theorem dX9_isValue_184 : decode cX9_isValue 184 = .ok (.putfield 305, 3) := by decide +kernel
theorem dX9_isValue_187 : decode cX9_isValue 187 = .ok (.iconst 1, 1) := by decide +kernel
theorem dX9_isValue_188 : decode cX9_isValue 188 = .ok (.ireturn, 1) := by decide +kernel
theorem dX9_isOfSide_0 : decode cX9_isOfSide 0 = .ok (.aload_n 0, 1) := by decide +kernel
theorem dX9_isOfSide_1 : decode cX9_isOfSide 1 = .ok (.dup, 1) := by decide +kernel
theorem dX9_isOfSide_2 : decode cX9_isOfSide 2 = .ok (.getfield 305, 3) := by decide +kernel
theorem dX9_isOfSide_5 : decode cX9_isOfSide 5 = .ok (.iconst 1, 1) := by decide +kernel
theorem dX9_isOfSide_6 : decode cX9_isOfSide 6 = .ok (.iadd, 1) := by decide +kernel
theorem dX9_isOfSide_7 : decode cX9_isOfSide 7 = .ok (.putfield 305, 3) := by decide +kernel
theorem dX9_isOfSide_10 : decode cX9_isOfSide 10 = .ok (.aload_n 0, 1) := by decide +kernel
theorem dX9_isOfSide_11 : decode cX9_isOfSide 11 = .ok (.aload_n 1, 1) := by decide +kernel
theorem dX9_isOfSide_12 : decode cX9_isOfSide 12 = .ok (.iload_n 2, 1) := by decide +kernel
theorem dX9_isOfSide_13 : decode cX9_isOfSide 13 = .ok (.aload_n 0, 1) := by decide +kernel
theorem dX9_isOfSide_14 : decode cX9_isOfSide 14 = .ok (.getfield 24, 3) := by decide +kernel
theorem dX9_isOfSide_17 : decode cX9_isOfSide 17 = .ok (.aload_n 0, 1) := by decide +kernel
theorem dX9_isOfSide_18 : decode cX9_isOfSide 18 = .ok (.getfield 305, 3) := by decide +kernel
theorem dX9_isOfSide_21 : decode cX9_isOfSide 21 = .ok (.iaload, 1) := by decide +kernel
theorem dX9_isOfSide_22 : decode cX9_isOfSide 22 = .ok (.invokevirtual 321, 3) := by decide +kernel
theorem dX9_isOfSide_25 : decode cX9_isOfSide 25 = .ok (.aload_n 0, 1) := by decide +kernel
theorem dX9_isOfSide_26 : decode cX9_isOfSide 26 = .ok (.bipush 6, 2) := by decide +kernel
theorem dX9_isOfSide_28 : decode cX9_isOfSide 28 = .ok (.invokevirtual 308, 3) := by decide +kernel
theorem dX9_isOfSide_31 : decode cX9_isOfSide 31 = .ok (.ifCond .ne 12, 3) := by decide +kernel
theorem dX9_isOfSide_34 : decode cX9_isOfSide 34 = .ok (.aload_n 0, 1) := by decide +kernel
theorem dX9_isOfSide_35 : decode cX9_isOfSide 35 = .ok (.bipush 7, 2) := by decide +kernel
theorem dX9_isOfSide_37 : decode cX9_isOfSide 37 = .ok (.invokevirtual 308, 3) := by decide +kernel
theorem dX9_isOfSide_40 : decode cX9_isOfSide 40 = .ok (.ifCond .eq 7, 3) := by decide +kernel
theorem dX9_isOfSide_43 : decode cX9_isOfSide 43 = .ok (.iconst 1, 1) := by decide +kernel
theorem dX9_isOfSide_44 : decode cX9_isOfSide 44 = .ok (.goto 4, 3) := by decide +kernel
theorem dX9_isOfSide_47 : decode cX9_isOfSide 47 = .ok (.iconst 0, 1) := by decide +kernel
theorem dX9_isOfSide_48 : decode cX9_isOfSide 48 = .ok (.ireturn, 1) := by decide +kernel
theorem dX9_isOfTwo_0 : decode cX9_isOfTwo 0 = .ok (.aload_n 0, 1) := by decide +kernel
theorem dX9_isOfTwo_1 : decode cX9_isOfTwo 1 = .ok (.dup, 1) := by decide +kernel
theorem dX9_isOfTwo_2 : decode cX9_isOfTwo 2 = .ok (.getfield 305, 3) := by decide +kernel
theorem dX9_isOfTwo_5 : decode cX9_isOfTwo 5 = .ok (.iconst 1, 1) := by decide +kernel
theorem dX9_isOfTwo_6 : decode cX9_isOfTwo 6 = .ok (.iadd, 1) := by decide +kernel
theorem dX9_isOfTwo_7 : decode cX9_isOfTwo 7 = .ok (.putfield 305, 3) := by decide +kernel
theorem dX9_isOfTwo_10 : decode cX9_isOfTwo 10 = .ok (.aload_n 0, 1) := by decide +kernel
theorem dX9_isOfTwo_11 : decode cX9_isOfTwo 11 = .ok (.bipush 40, 2) := by decide +kernel
theorem dX9_isOfTwo_13 : decode cX9_isOfTwo 13 = .ok (.invokevirtual 328, 3) := by decide +kernel
theorem dX9_isOfTwo_16 : decode cX9_isOfTwo 16 = .ok (.ifCond .eq 37, 3) := by decide +kernel
theorem dX9_isOfTwo_19 : decode cX9_isOfTwo 19 = .ok (.aload_n 0, 1) := by decide +kernel
theorem dX9_isOfTwo_20 : decode cX9_isOfTwo 20 = .ok (.aload_n 1, 1) := by decide +kernel
theorem dX9_isOfTwo_21 : decode cX9_isOfTwo 21 = .ok (.invokevirtual 340, 3) := by decide +kernel
theorem dX9_isOfTwo_24 : decode cX9_isOfTwo 24 = .ok (.ifCond .eq 29, 3) := by decide +kernel
theorem dX9_isOfTwo_27 : decode cX9_isOfTwo 27 = .ok (.aload_n 0, 1) := by decide +kernel
theorem dX9_isOfTwo_28 : decode cX9_isOfTwo 28 = .ok (.bipush 44, 2) := by decide +kernel
theorem dX9_isOfTwo_30 : decode cX9_isOfTwo 30 = .ok (.invokevirtual 308, 3) := by decide +kernel
theorem dX9_isOfTwo_33 : decode cX9_isOfTwo 33 = .ok (.ifCond .eq 20, 3) := by decide +kernel
theorem dX9_isOfTwo_36 : decode cX9_isOfTwo 36 = .ok (.aload_n 0, 1) := by decide +kernel
theorem dX9_isOfTwo_37 : decode cX9_isOfTwo 37 = .ok (.aload_n 1, 1) := by decide +kernel
theorem dX9_isOfTwo_38 : decode cX9_isOfTwo 38 = .ok (.invokevirtual 340, 3) := by decide +kernel
theorem dX9_isOfTwo_41 : decode cX9_isOfTwo 41 = .ok (.ifCond .eq 12, 3) := by decide +kernel
theorem dX9_isOfTwo_44 : decode cX9_isOfTwo 44 = .ok (.aload_n 0, 1) := by decide +kernel
theorem dX9_isOfTwo_45 : decode cX9_isOfTwo 45 = .ok (.bipush 41, 2) := by decide +kernel
theorem dX9_isOfTwo_47 : decode cX9_isOfTwo 47 = .ok (.invokevirtual 334, 3) := by decide +kernel
theorem dX9_isOfTwo_50 : decode cX9_isOfTwo 50 = .ok (.ifCond .ne 5, 3) := by decide +kernel
theorem dX9_isOfTwo_53 : decode cX9_isOfTwo 53 = .ok (.iconst 0, 1) := by decide +kernel
theorem dX9_isOfTwo_54 : decode cX9_isOfTwo 54 = .ok (.ireturn, 1) := by decide +kernel
theorem dX9_isOfTwo_55 : decode cX9_isOfTwo 55 = .ok (.aload_n 0, 1) := by decide +kernel
theorem dX9_isOfTwo_56 : decode cX9_isOfTwo 56 = .ok (.aload_n 1, 1) := by decide +kernel
theorem dX9_isOfTwo_57 : decode cX9_isOfTwo 57 = .ok (.iload_n 2, 1) := by decide +kernel
theorem dX9_isOfTwo_58 : decode cX9_isOfTwo 58 = .ok (.iconst 0, 1) := by decide +kernel
theorem dX9_isOfTwo_59 : decode cX9_isOfTwo 59 = .ok (.invokevirtual 321, 3) := by decide +kernel
theorem dX9_isOfTwo_62 : decode cX9_isOfTwo 62 = .ok (.iconst 1, 1) := by decide +kernel
theorem dX9_isOfTwo_63 : decode cX9_isOfTwo 63 = .ok (.ireturn, 1) := by decide +kernel
theorem dX9_isLine_0 : decode cX9_isLine 0 = .ok (.aload_n 0, 1) := by decide +kernel
theorem dX9_isLine_1 : decode cX9_isLine 1 = .ok (.getfield 24, 3) := by decide +kernel
theorem dX9_isLine_4 : decode cX9_isLine 4 = .ok (.aload_n 0, 1) := by decide +kernel
theorem dX9_isLine_5 : decode cX9_isLine 5 = .ok (.getfield 305, 3) := by decide +kernel
theorem dX9_isLine_8 : decode cX9_isLine 8 = .ok (.iaload, 1) := by decide +kernel
theorem dX9_isLine_9 : decode cX9_isLine 9 = .ok (.istore_n 2, 1) := by decide +kernel
theorem dX9_isLine_10 : decode cX9_isLine 10 = .ok (.iload_n 2, 1) := by decide +kernel
theorem dX9_isLine_11 : decode cX9_isLine 11 = .ok (.ifCond .ne 47, 3) := by decide +kernel
theorem dX9_isLine_14 : decode cX9_isLine 14 = .ok (.aload_n 0, 1) := by decide +kernel
theorem dX9_isLine_15 : decode cX9_isLine 15 = .ok (.dup, 1) := by decide +kernel
theorem dX9_isLine_16 : decode cX9_isLine 16 = .ok (.getfield 305, 3) := by decide +kernel
theorem dX9_isLine_19 : decode cX9_isLine 19 = .ok (.iconst 1, 1) := by decide +kernel
theorem dX9_isLine_20 : decode cX9_isLine 20 = .ok (.iadd, 1) := by decide +kernel
theorem dX9_isLine_21 : decode cX9_isLine 21 = .ok (.putfield 305, 3) := by decide +kernel
theorem dX9_isLine_24 : decode cX9_isLine 24 = .ok (.aload_n 0, 1) := by decide +kernel
theorem dX9_isLine_25 : decode cX9_isLine 25 = .ok (.bipush 30, 2) := by decide +kernel
theorem dX9_isLine_27 : decode cX9_isLine 27 = .ok (.iconst 1, 1) := by decide +kernel
theorem dX9_isLine_28 : decode cX9_isLine 28 = .ok (.invokevirtual 356, 3) := by decide +kernel
theorem dX9_isLine_31 : decode cX9_isLine 31 = .ok (.ifCond .eq 25, 3) := by decide +kernel
theorem dX9_isLine_34 : decode cX9_isLine 34 = .ok (.aload_n 0, 1) := by decide +kernel
theorem dX9_isLine_35 : decode cX9_isLine 35 = .ok (.iconst 1, 1) := by decide +kernel
theorem dX9_isLine_36 : decode cX9_isLine 36 = .ok (.invokevirtual 308, 3) := by decide +kernel
theorem dX9_isLine_39 : decode cX9_isLine 39 = .ok (.ifCond .eq 17, 3) := by decide +kernel
theorem dX9_isLine_42 : decode cX9_isLine 42 = .ok (.aload_n 0, 1) := by decide +kernel
theorem dX9_isLine_43 : decode cX9_isLine 43 = .ok (.bipush 31, 2) := by decide +kernel
theorem dX9_isLine_45 : decode cX9_isLine 45 = .ok (.iconst 3, 1) := by decide +kernel
theorem dX9_isLine_46 : decode cX9_isLine 46 = .ok (.invokevirtual 356, 3) := by decide +kernel
theorem dX9_isLine_49 : decode cX9_isLine 49 = .ok (.ifCond .eq 7, 3) := by decide +kernel
theorem dX9_isLine_52 : decode cX9_isLine 52 = .ok (.iconst 1, 1) := by decide +kernel
theorem dX9_isLine_53 : decode cX9_isLine 53 = .ok (.goto 4, 3) := by decide +kernel
theorem dX9_isLine_56 : decode cX9_isLine 56 = .ok (.iconst 0, 1) := by decide +kernel
theorem dX9_isLine_57 : decode cX9_isLine 57 = .ok (.ireturn, 1) := by decide +kernel
theorem dX9_isLine_58 : decode cX9_isLine 58 = .ok (.iload_n 2, 1) := by decide +kernel
theorem dX9_isLine_59 : decode cX9_isLine 59 = .ok (.iconst 2, 1) := by decide +kernel
theorem dX9_isLine_60 : decode cX9_isLine 60 = .ok (.if_icmp .ne 50, 3) := by decide +kernel
theorem dX9_isLine_63 : decode cX9_isLine 63 = .ok (.aload_n 0, 1) := by decide +kernel
theorem dX9_isLine_64 : decode cX9_isLine 64 = .ok (.dup, 1) := by decide +kernel
theorem dX9_isLine_65 : decode cX9_isLine 65 = .ok (.getfield 305, 3) := by decide +kernel
theorem dX9_isLine_68 : decode cX9_isLine 68 = .ok (.iconst 1, 1) := by decide +kernel
theorem dX9_isLine_69 : decode cX9_isLine 69 = .ok (.iadd, 1) := by decide +kernel
theorem dX9_isLine_70 : decode cX9_isLine 70 = .ok (.putfield 305, 3) := by decide +kernel
theorem dX9_isLine_73 : decode cX9_isLine 73 = .ok (.aload_n 0, 1) := by decide +kernel
theorem dX9_isLine_74 : decode cX9_isLine 74 = .ok (.bipush 31, 2) := by decide +kernel
theorem dX9_isLine_76 : decode cX9_isLine 76 = .ok (.iconst 4, 1) := by decide +kernel
theorem dX9_isLine_77 : decode cX9_isLine 77 = .ok (.invokevirtual 356, 3) := by decide +kernel
theorem dX9_isLine_80 : decode cX9_isLine 80 = .ok (.ifCond .eq 28, 3) := by decide +kernel
theorem dX9_isLine_83 : decode cX9_isLine 83 = .ok (.aload_n 0, 1) := by decide +kernel
theorem dX9_isLine_84 : decode cX9_isLine 84 = .ok (.bipush 31, 2) := by decide +kernel
theorem dX9_isLine_86 : decode cX9_isLine 86 = .ok (.iconst 5, 1) := by decide +kernel
theorem dX9_isLine_87 : decode cX9_isLine 87 = .ok (.invokevirtual 356, 3) := by decide +kernel
theorem dX9_isLine_90 : decode cX9_isLine 90 = .ok (.ifCond .eq 18, 3) := by decide +kernel
theorem dX9_isLine_93 : decode cX9_isLine 93 = .ok (.aload_n 0, 1) := by decide +kernel
theorem dX9_isLine_94 : decode cX9_isLine 94 = .ok (.bipush 31, 2) := by decide +kernel
theorem dX9_isLine_96 : decode cX9_isLine 96 = .ok (.bipush 6, 2) := by decide +kernel
theorem dX9_isLine_98 : decode cX9_isLine 98 = .ok (.invokevirtual 356, 3) := by decide +kernel
theorem dX9_isLine_101 : decode cX9_isLine 101 = .ok (.ifCond .eq 7, 3) := by decide +kernel
theorem dX9_isLine_104 : decode cX9_isLine 104 = .ok (.iconst 1, 1) := by decide +kernel
theorem dX9_isLine_105 : decode cX9_isLine 105 = .ok (.goto 4, 3) := by decide +kernel
theorem dX9_isLine_108 : decode cX9_isLine 108 = .ok (.iconst 0, 1) := by decide +kernel
theorem dX9_isLine_109 : decode cX9_isLine 109 = .ok (.ireturn, 1) := by decide +kernel
theorem dX9_isLine_110 : decode cX9_isLine 110 = .ok (.iload_n 2, 1) := by decide +kernel
theorem dX9_isLine_111 : decode cX9_isLine 111 = .ok (.iconst 5, 1) := by decide +kernel
theorem dX9_isLine_112 : decode cX9_isLine 112 = .ok (.if_icmp .ne 15, 3) := by decide +kernel
theorem dX9_isLine_115 : decode cX9_isLine 115 = .ok (.aload_n 0, 1) := by decide +kernel
theorem dX9_isLine_116 : decode cX9_isLine 116 = .ok (.aload_n 1, 1) := by decide +kernel
theorem dX9_isLine_117 : decode cX9_isLine 117 = .ok (.invokevirtual 360, 3) := by decide +kernel
theorem dX9_isLine_120 : decode cX9_isLine 120 = .ok (.ifCond .eq 7, 3) := by decide +kernel
theorem dX9_isLine_123 : decode cX9_isLine 123 = .ok (.iconst 1, 1) := by decide +kernel
theorem dX9_isLine_124 : decode cX9_isLine 124 = .ok (.goto 4, 3) := by decide +kernel
theorem dX9_isLine_127 : decode cX9_isLine 127 = .ok (.iconst 0, 1) := by decide +kernel
theorem dX9_isLine_128 : decode cX9_isLine 128 = .ok (.ireturn, 1) := by decide +kernel
theorem dX9_isOutcome_0 : decode cX9_isOutcome 0 = .ok (.aload_n 0, 1) := by decide +kernel
theorem dX9_isOutcome_1 : decode cX9_isOutcome 1 = .ok (.aload_n 0, 1) := by decide +kernel
theorem dX9_isOutcome_2 : decode cX9_isOutcome 2 = .ok (.getfield 24, 3) := by decide +kernel
theorem dX9_isOutcome_5 : decode cX9_isOutcome 5 = .ok (.aload_n 0, 1) := by decide +kernel
theorem dX9_isOutcome_6 : decode cX9_isOutcome 6 = .ok (.getfield 305, 3) := by decide +kernel
theorem dX9_isOutcome_9 : decode cX9_isOutcome 9 = .ok (.iaload, 1) := by decide +kernel
theorem dX9_isOutcome_10 : decode cX9_isOutcome 10 = .ok (.bipush 6, 2) := by decide +kernel
theorem dX9_isOutcome_12 : decode cX9_isOutcome 12 = .ok (.if_icmp .ne 7, 3) := by decide +kernel
theorem dX9_isOutcome_15 : decode cX9_isOutcome 15 = .ok (.iconst 0, 1) := by decide +kernel
theorem dX9_isOutcome_16 : decode cX9_isOutcome 16 = .ok (.goto 22, 3) := by decide +kernel
theorem dX9_isOutcome_19 : decode cX9_isOutcome 19 = .ok (.aload_n 0, 1) := by decide +kernel
theorem dX9_isOutcome_20 : decode cX9_isOutcome 20 = .ok (.getfield 24, 3) := by decide +kernel
theorem dX9_isOutcome_23 : decode cX9_isOutcome 23 = .ok (.aload_n 0, 1) := by decide +kernel
theorem dX9_isOutcome_24 : decode cX9_isOutcome 24 = .ok (.getfield 305, 3) := by decide +kernel
theorem dX9_isOutcome_27 : decode cX9_isOutcome 27 = .ok (.iaload, 1) := by decide +kernel
theorem dX9_isOutcome_28 : decode cX9_isOutcome 28 = .ok (.bipush 7, 2) := by decide +kernel
theorem dX9_isOutcome_30 : decode cX9_isOutcome 30 = .ok (.if_icmp .ne 7, 3) := by decide +kernel
theorem dX9_isOutcome_33 : decode cX9_isOutcome 33 = .ok (.iconst 2, 1) := by decide +kernel
theorem dX9_isOutcome_34 : decode cX9_isOutcome 34 = .ok (.goto 4, 3) := by decide +kernel
theorem dX9_isOutcome_37 : decode cX9_isOutcome 37 = .ok (.iconst 1, 1) := by decide +kernel
theorem dX9_isOutcome_38 : decode cX9_isOutcome 38 = .ok (.putfield 363, 3) := by decide +kernel
theorem dX9_isOutcome_41 : decode cX9_isOutcome 41 = .ok (.aload_n 0, 1) := by decide +kernel
theorem dX9_isOutcome_42 : decode cX9_isOutcome 42 = .ok (.getfield 363, 3) := by decide +kernel
theorem dX9_isOutcome_45 : decode cX9_isOutcome 45 = .ok (.iconst 1, 1) := by decide +kernel
theorem dX9_isOutcome_46 : decode cX9_isOutcome 46 = .ok (.if_icmp .ne 9, 3) := by decide +kernel
theorem dX9_isOutcome_49 : decode cX9_isOutcome 49 = .ok (.aload_n 0, 1) := by decide +kernel
theorem dX9_isOutcome_50 : decode cX9_isOutcome 50 = .ok (.iconst 3, 1) := by decide +kernel
theorem dX9_isOutcome_51 : decode cX9_isOutcome 51 = .ok (.invokevirtual 308, 3) := by decide +kernel
theorem dX9_isOutcome_54 : decode cX9_isOutcome 54 = .ok (.ireturn, 1) := by decide +kernel
theorem dX9_isOutcome_55 : decode cX9_isOutcome 55 = .ok (.aload_n 0, 1) := by decide +kernel
theorem dX9_isOutcome_56 : decode cX9_isOutcome 56 = .ok (.dup, 1) := by decide +kernel
theorem dX9_isOutcome_57 : decode cX9_isOutcome 57 = .ok (.getfield 305, 3) := by decide +kernel
theorem dX9_isOutcome_60 : decode cX9_isOutcome 60 = .ok (.iconst 1, 1) := by decide +kernel
theorem dX9_isOutcome_61 : decode cX9_isOutcome 61 = .ok (.iadd, 1) := by decide +kernel
theorem dX9_isOutcome_62 : decode cX9_isOutcome 62 = .ok (.putfield 305, 3) := by decide +kernel
theorem dX9_isOutcome_65 : decode cX9_isOutcome 65 = .ok (.aload_n 0, 1) := by decide +kernel
theorem dX9_isOutcome_66 : decode cX9_isOutcome 66 = .ok (.bipush 8, 2) := by decide +kernel
theorem dX9_isOutcome_68 : decode cX9_isOutcome 68 = .ok (.invokevirtual 308, 3) := by decide +kernel
theorem dX9_isOutcome_71 : decode cX9_isOutcome 71 = .ok (.ireturn, 1) := by decide +kernel
theorem dX9_isRule_0 : decode cX9_isRule 0 = .ok (.aload_n 0, 1) := by decide +kernel
theorem dX9_isRule_1 : decode cX9_isRule 1 = .ok (.getfield 30, 3) := by decide +kernel
theorem dX9_isRule_4 : decode cX9_isRule 4 = .ok (.aload_n 0, 1) := by decide +kernel
theorem dX9_isRule_5 : decode cX9_isRule 5 = .ok (.getfield 305, 3) := by decide +kernel
theorem dX9_isRule_8 : decode cX9_isRule 8 = .ok (.iconst 2, 1) := by decide +kernel
theorem dX9_isRule_9 : decode cX9_isRule 9 = .ok (.iastore, 1) := by decide +kernel
theorem dX9_isRule_10 : decode cX9_isRule 10 = .ok (.aload_n 0, 1) := by decide +kernel
theorem dX9_isRule_11 : decode cX9_isRule 11 = .ok (.dup, 1) := by decide +kernel
theorem dX9_isRule_12 : decode cX9_isRule 12 = .ok (.getfield 305, 3) := by decide +kernel
theorem dX9_isRule_15 : decode cX9_isRule 15 = .ok (.iconst 1, 1) := by decide +kernel
theorem dX9_isRule_16 : decode cX9_isRule 16 = .ok (.iadd, 1) := by decide +kernel
theorem dX9_isRule_17 : decode cX9_isRule 17 = .ok (.putfield 305, 3) := by decide +kernel
theorem dX9_isRule_20 : decode cX9_isRule 20 = .ok (.bipush 15, 2) := by decide +kernel
theorem dX9_isRule_22 : decode cX9_isRule 22 = .ok (.aload_n 0, 1) := by decide +kernel
theorem dX9_isRule_23 : decode cX9_isRule 23 = .ok (.getfield 366, 3) := by decide +kernel
theorem dX9_isRule_26 : decode cX9_isRule 26 = .ok (.invokestatic 224, 3) := by decide +kernel
theorem dX9_isRule_29 : decode cX9_isRule 29 = .ok (.istore_n 2, 1) := by decide +kernel
theorem dX9_isRule_30 : decode cX9_isRule 30 = .ok (.aload_n 0, 1) := by decide +kernel
theorem dX9_isRule_31 : decode cX9_isRule 31 = .ok (.dup, 1) := by decide +kernel
theorem dX9_isRule_32 : decode cX9_isRule 32 = .ok (.getfield 366, 3) := by decide +kernel
theorem dX9_isRule_35 : decode cX9_isRule 35 = .ok (.iconst 1, 1) := by decide +kernel
theorem dX9_isRule_36 : decode cX9_isRule 36 = .ok (.iadd, 1) := by decide +kernel
theorem dX9_isRule_37 : decode cX9_isRule 37 = .ok (.putfield 366, 3) := by decide +kernel
theorem dX9_isRule_40 : decode cX9_isRule 40 = .ok (.aload_n 0, 1) := by decide +kernel
theorem dX9_isRule_41 : decode cX9_isRule 41 = .ok (.invokevirtual 369, 3) := by decide +kernel
theorem dX9_isRule_44 : decode cX9_isRule 44 = .ok (.ifCond .ne 5, 3) := by decide +kernel
theorem dX9_isRule_47 : decode cX9_isRule 47 = .ok (.iconst 0, 1) := by decide +kernel
theorem dX9_isRule_48 : decode cX9_isRule 48 = .ok (.ireturn, 1) := by decide +kernel
theorem dX9_isRule_49 : decode cX9_isRule 49 = .ok (.aload_n 1, 1) := by decide +kernel
theorem dX9_isRule_50 : decode cX9_isRule 50 = .ok (.getfield 198, 3) := by decide +kernel
theorem dX9_isRule_53 : decode cX9_isRule 53 = .ok (.iload_n 2, 1) := by decide +kernel
theorem dX9_isRule_54 : decode cX9_isRule 54 = .ok (.aload_n 0, 1) := by decide +kernel
theorem dX9_isRule_55 : decode cX9_isRule 55 = .ok (.getfield 363, 3) := by decide +kernel
theorem dX9_isRule_58 : decode cX9_isRule 58 = .ok (.iastore, 1) := by decide +kernel
theorem dX9_isRule_59 : decode cX9_isRule 59 = .ok (.aload_n 1, 1) := by decide +kernel
theorem dX9_isRule_60 : decode cX9_isRule 60 = .ok (.getfield 236, 3) := by decide +kernel
theorem dX9_isRule_63 : decode cX9_isRule 63 = .ok (.iload_n 2, 1) := by decide +kernel
theorem dX9_isRule_64 : decode cX9_isRule 64 = .ok (.aload_n 1, 1) := by decide +kernel
theorem dX9_isRule_65 : decode cX9_isRule 65 = .ok (.getfield 314, 3) := by decide +kernel
theorem dX9_isRule_68 : decode cX9_isRule 68 = .ok (.iastore, 1) := by decide +kernel
theorem dX9_isRule_69 : decode cX9_isRule 69 = .ok (.aload_n 0, 1) := by decide +kernel
theorem dX9_isRule_70 : decode cX9_isRule 70 = .ok (.bipush 9, 2) := by decide +kernel
theorem dX9_isRule_72 : decode cX9_isRule 72 = .ok (.invokevirtual 308, 3) := by decide +kernel
theorem dX9_isRule_75 : decode cX9_isRule 75 = .ok (.ifCond .eq 13, 3) := by decide +kernel
theorem dX9_isRule_78 : decode cX9_isRule 78 = .ok (.aload_n 0, 1) := by decide +kernel
theorem dX9_isRule_79 : decode cX9_isRule 79 = .ok (.aload_n 1, 1) := by decide +kernel
theorem dX9_isRule_80 : decode cX9_isRule 80 = .ok (.invokevirtual 331, 3) := by decide +kernel
theorem dX9_isRule_83 : decode cX9_isRule 83 = .ok (.ifCond .ne 5, 3) := by decide +kernel
theorem dX9_isRule_86 : decode cX9_isRule 86 = .ok (.iconst 0, 1) := by decide +kernel
theorem dX9_isRule_87 : decode cX9_isRule 87 = .ok (.ireturn, 1) := by decide +kernel
theorem dX9_isRule_88 : decode cX9_isRule 88 = .ok (.aload_n 1, 1) := by decide +kernel
theorem dX9_isRule_89 : decode cX9_isRule 89 = .ok (.getfield 239, 3) := by decide +kernel
theorem dX9_isRule_92 : decode cX9_isRule 92 = .ok (.iload_n 2, 1) := by decide +kernel
theorem dX9_isRule_93 : decode cX9_isRule 93 = .ok (.aload_n 1, 1) := by decide +kernel
theorem dX9_isRule_94 : decode cX9_isRule 94 = .ok (.getfield 314, 3) := by decide +kernel
theorem dX9_isRule_97 : decode cX9_isRule 97 = .ok (.iastore, 1) := by decide +kernel
theorem dX9_isRule_98 : decode cX9_isRule 98 = .ok (.iconst 1, 1) := by decide +kernel
theorem dX9_isRule_99 : decode cX9_isRule 99 = .ok (.ireturn, 1) := by decide +kernel
theorem dX9_isBook_0 : decode cX9_isBook 0 = .ok (.aload_n 0, 1) := by decide +kernel
theorem dX9_isBook_1 : decode cX9_isBook 1 = .ok (.getfield 24, 3) := by decide +kernel
theorem dX9_isBook_4 : decode cX9_isBook 4 = .ok (.aload_n 0, 1) := by decide +kernel
theorem dX9_isBook_5 : decode cX9_isBook 5 = .ok (.getfield 305, 3) := by decide +kernel
theorem dX9_isBook_8 : decode cX9_isBook 8 = .ok (.iaload, 1) := by decide +kernel
theorem dX9_isBook_9 : decode cX9_isBook 9 = .ok (.bipush 33, 2) := by decide +kernel
theorem dX9_isBook_11 : decode cX9_isBook 11 = .ok (.if_icmp .eq 22, 3) := by decide +kernel
theorem dX9_isBook_14 : decode cX9_isBook 14 = .ok (.aload_n 0, 1) := by decide +kernel
theorem dX9_isBook_15 : decode cX9_isBook 15 = .ok (.aload_n 1, 1) := by decide +kernel
theorem dX9_isBook_16 : decode cX9_isBook 16 = .ok (.invokevirtual 373, 3) := by decide +kernel
theorem dX9_isBook_19 : decode cX9_isBook 19 = .ok (.ifCond .eq 12, 3) := by decide +kernel
theorem dX9_isBook_22 : decode cX9_isBook 22 = .ok (.aload_n 0, 1) := by decide +kernel
theorem dX9_isBook_23 : decode cX9_isBook 23 = .ok (.bipush 59, 2) := by decide +kernel
theorem dX9_isBook_25 : decode cX9_isBook 25 = .ok (.invokevirtual 308, 3) := by decide +kernel
theorem dX9_isBook_28 : decode cX9_isBook 28 = .ok (.ifCond .ne (-28), 3) := by decide +kernel
theorem dX9_isBook_31 : decode cX9_isBook 31 = .ok (.iconst 0, 1) := by decide +kernel
theorem dX9_isBook_32 : decode cX9_isBook 32 = .ok (.ireturn, 1) := by decide +kernel
theorem dX9_isBook_33 : decode cX9_isBook 33 = .ok (.iconst 1, 1) := by decide +kernel
theorem dX9_isBook_34 : decode cX9_isBook 34 = .ok (.ireturn, 1) := by decide +kernel
theorem dX9_newWrestler_0 : decode cX9_newWrestler 0 = .ok (.iconst 0, 1) := by decide +kernel
theorem dX9_newWrestler_1 : decode cX9_newWrestler 1 = .ok (.istore 4, 2) := by decide +kernel
theorem dX9_newWrestler_3 : decode cX9_newWrestler 3 = .ok (.iload 4, 2) := by decide +kernel
theorem dX9_newWrestler_5 : decode cX9_newWrestler 5 = .ok (.aload_n 1, 1) := by decide +kernel
theorem dX9_newWrestler_6 : decode cX9_newWrestler 6 = .ok (.getfield 65, 3) := by decide +kernel
theorem dX9_newWrestler_9 : decode cX9_newWrestler 9 = .ok (.if_icmp .ge 23, 3) := by decide +kernel
theorem dX9_newWrestler_12 : decode cX9_newWrestler 12 = .ok (.aload_n 1, 1) := by decide +kernel
theorem dX9_newWrestler_13 : decode cX9_newWrestler 13 = .ok (.getfield 376, 3) := by decide +kernel
theorem dX9_newWrestler_16 : decode cX9_newWrestler 16 = .ok (.iload 4, 2) := by decide +kernel
theorem dX9_newWrestler_18 : decode cX9_newWrestler 18 = .ok (.laload, 1) := by decide +kernel
theorem dX9_newWrestler_19 : decode cX9_newWrestler 19 = .ok (.lload_n 2, 1) := by decide +kernel
theorem dX9_newWrestler_20 : decode cX9_newWrestler 20 = .ok (.lcmp, 1) := by decide +kernel
theorem dX9_newWrestler_21 : decode cX9_newWrestler 21 = .ok (.ifCond .ne 5, 3) := by decide +kernel
theorem dX9_newWrestler_24 : decode cX9_newWrestler 24 = .ok (.iconst 2, 1) := by decide +kernel
theorem dX9_newWrestler_25 : decode cX9_newWrestler 25 = .ok (.ireturn, 1) := by decide +kernel
theorem dX9_newWrestler_26 : decode cX9_newWrestler 26 = .ok (.iinc 4 1, 3) := by decide +kernel
theorem dX9_newWrestler_29 : decode cX9_newWrestler 29 = .ok (.goto (-26), 3) := by decide +kernel
theorem dX9_newWrestler_32 : decode cX9_newWrestler 32 = .ok (.aload_n 1, 1) := by decide +kernel
theorem dX9_newWrestler_33 : decode cX9_newWrestler 33 = .ok (.getfield 65, 3) := by decide +kernel
theorem dX9_newWrestler_36 : decode cX9_newWrestler 36 = .ok (.bipush 12, 2) := by decide +kernel
theorem dX9_newWrestler_38 : decode cX9_newWrestler 38 = .ok (.if_icmp .ne 5, 3) := by decide +kernel
theorem dX9_newWrestler_41 : decode cX9_newWrestler 41 = .ok (.iconst 4, 1) := by decide +kernel
theorem dX9_newWrestler_42 : decode cX9_newWrestler 42 = .ok (.ireturn, 1) := by decide +kernel
theorem dX9_newWrestler_43 : decode cX9_newWrestler 43 = .ok (.aload_n 1, 1) := by decide +kernel
theorem dX9_newWrestler_44 : decode cX9_newWrestler 44 = .ok (.getfield 376, 3) := by decide +kernel
theorem dX9_newWrestler_47 : decode cX9_newWrestler 47 = .ok (.aload_n 1, 1) := by decide +kernel
theorem dX9_newWrestler_48 : decode cX9_newWrestler 48 = .ok (.getfield 65, 3) := by decide +kernel
theorem dX9_newWrestler_51 : decode cX9_newWrestler 51 = .ok (.lload_n 2, 1) := by decide +kernel
theorem dX9_newWrestler_52 : decode cX9_newWrestler 52 = .ok (.lastore, 1) := by decide +kernel
theorem dX9_newWrestler_53 : decode cX9_newWrestler 53 = .ok (.aload_n 1, 1) := by decide +kernel
theorem dX9_newWrestler_54 : decode cX9_newWrestler 54 = .ok (.dup, 1) := by decide +kernel
theorem dX9_newWrestler_55 : decode cX9_newWrestler 55 = .ok (.getfield 65, 3) := by decide +kernel
theorem dX9_newWrestler_58 : decode cX9_newWrestler 58 = .ok (.iconst 1, 1) := by decide +kernel
theorem dX9_newWrestler_59 : decode cX9_newWrestler 59 = .ok (.iadd, 1) := by decide +kernel
theorem dX9_newWrestler_60 : decode cX9_newWrestler 60 = .ok (.putfield 65, 3) := by decide +kernel
theorem dX9_newWrestler_63 : decode cX9_newWrestler 63 = .ok (.iconst 0, 1) := by decide +kernel
theorem dX9_newWrestler_64 : decode cX9_newWrestler 64 = .ok (.ireturn, 1) := by decide +kernel
theorem dX9_errorOf_0 : decode cX9_errorOf 0 = .ok (.aload_n 0, 1) := by decide +kernel
theorem dX9_errorOf_1 : decode cX9_errorOf 1 = .ok (.getfield 33, 3) := by decide +kernel
theorem dX9_errorOf_4 : decode cX9_errorOf 4 = .ok (.iload_n 2, 1) := by decide +kernel
theorem dX9_errorOf_5 : decode cX9_errorOf 5 = .ok (.laload, 1) := by decide +kernel
theorem dX9_errorOf_6 : decode cX9_errorOf 6 = .ok (.l2i, 1) := by decide +kernel
theorem dX9_errorOf_7 : decode cX9_errorOf 7 = .ok (.istore_n 3, 1) := by decide +kernel
theorem dX9_errorOf_8 : decode cX9_errorOf 8 = .ok (.aload_n 0, 1) := by decide +kernel
theorem dX9_errorOf_9 : decode cX9_errorOf 9 = .ok (.getfield 30, 3) := by decide +kernel
theorem dX9_errorOf_12 : decode cX9_errorOf 12 = .ok (.iload_n 2, 1) := by decide +kernel
theorem dX9_errorOf_13 : decode cX9_errorOf 13 = .ok (.iaload, 1) := by decide +kernel
theorem dX9_errorOf_14 : decode cX9_errorOf 14 = .ok (.tableswitch 98 0 3 #[30, 32, 44, 69], 30) := by decide +kernel
theorem dX9_errorOf_44 : decode cX9_errorOf 44 = .ok (.iconst 0, 1) := by decide +kernel
theorem dX9_errorOf_45 : decode cX9_errorOf 45 = .ok (.ireturn, 1) := by decide +kernel
theorem dX9_errorOf_46 : decode cX9_errorOf 46 = .ok (.aload_n 0, 1) := by decide +kernel
theorem dX9_errorOf_47 : decode cX9_errorOf 47 = .ok (.aload_n 1, 1) := by decide +kernel
theorem dX9_errorOf_48 : decode cX9_errorOf 48 = .ok (.aload_n 0, 1) := by decide +kernel
theorem dX9_errorOf_49 : decode cX9_errorOf 49 = .ok (.getfield 33, 3) := by decide +kernel
theorem dX9_errorOf_52 : decode cX9_errorOf 52 = .ok (.iload_n 2, 1) := by decide +kernel
theorem dX9_errorOf_53 : decode cX9_errorOf 53 = .ok (.laload, 1) := by decide +kernel
theorem dX9_errorOf_54 : decode cX9_errorOf 54 = .ok (.invokevirtual 379, 3) := by decide +kernel
theorem dX9_errorOf_57 : decode cX9_errorOf 57 = .ok (.ireturn, 1) := by decide +kernel
theorem dX9_errorOf_58 : decode cX9_errorOf 58 = .ok (.aload_n 1, 1) := by decide +kernel
theorem dX9_errorOf_59 : decode cX9_errorOf 59 = .ok (.dup, 1) := by decide +kernel
theorem dX9_errorOf_60 : decode cX9_errorOf 60 = .ok (.getfield 192, 3) := by decide +kernel
theorem dX9_errorOf_63 : decode cX9_errorOf 63 = .ok (.iconst 1, 1) := by decide +kernel
theorem dX9_errorOf_64 : decode cX9_errorOf 64 = .ok (.iadd, 1) := by decide +kernel
theorem dX9_errorOf_65 : decode cX9_errorOf 65 = .ok (.putfield 192, 3) := by decide +kernel
theorem dX9_errorOf_68 : decode cX9_errorOf 68 = .ok (.aload_n 1, 1) := by decide +kernel
theorem dX9_errorOf_69 : decode cX9_errorOf 69 = .ok (.getfield 192, 3) := by decide +kernel
theorem dX9_errorOf_72 : decode cX9_errorOf 72 = .ok (.bipush 16, 2) := by decide +kernel
theorem dX9_errorOf_74 : decode cX9_errorOf 74 = .ok (.if_icmp .le 7, 3) := by decide +kernel
theorem dX9_errorOf_77 : decode cX9_errorOf 77 = .ok (.iconst 4, 1) := by decide +kernel
theorem dX9_errorOf_78 : decode cX9_errorOf 78 = .ok (.goto 4, 3) := by decide +kernel
theorem dX9_errorOf_81 : decode cX9_errorOf 81 = .ok (.iconst 0, 1) := by decide +kernel
theorem dX9_errorOf_82 : decode cX9_errorOf 82 = .ok (.ireturn, 1) := by decide +kernel
theorem dX9_errorOf_83 : decode cX9_errorOf 83 = .ok (.aload_n 1, 1) := by decide +kernel
theorem dX9_errorOf_84 : decode cX9_errorOf 84 = .ok (.getfield 83, 3) := by decide +kernel
theorem dX9_errorOf_87 : decode cX9_errorOf 87 = .ok (.aload_n 1, 1) := by decide +kernel
theorem dX9_errorOf_88 : decode cX9_errorOf 88 = .ok (.getfield 65, 3) := by decide +kernel
theorem dX9_errorOf_91 : decode cX9_errorOf 91 = .ok (.iconst 1, 1) := by decide +kernel
theorem dX9_errorOf_92 : decode cX9_errorOf 92 = .ok (.isub, 1) := by decide +kernel
theorem dX9_errorOf_93 : decode cX9_errorOf 93 = .ok (.iload_n 3, 1) := by decide +kernel
theorem dX9_errorOf_94 : decode cX9_errorOf 94 = .ok (.iastore, 1) := by decide +kernel
theorem dX9_errorOf_95 : decode cX9_errorOf 95 = .ok (.iload_n 3, 1) := by decide +kernel
theorem dX9_errorOf_96 : decode cX9_errorOf 96 = .ok (.iconst 1, 1) := by decide +kernel
theorem dX9_errorOf_97 : decode cX9_errorOf 97 = .ok (.sipush 999, 3) := by decide +kernel
theorem dX9_errorOf_100 : decode cX9_errorOf 100 = .ok (.invokestatic 68, 3) := by decide +kernel
theorem dX9_errorOf_103 : decode cX9_errorOf 103 = .ok (.ifCond .eq 7, 3) := by decide +kernel
theorem dX9_errorOf_106 : decode cX9_errorOf 106 = .ok (.iconst 0, 1) := by decide +kernel
theorem dX9_errorOf_107 : decode cX9_errorOf 107 = .ok (.goto 4, 3) := by decide +kernel
theorem dX9_errorOf_110 : decode cX9_errorOf 110 = .ok (.iconst 5, 1) := by decide +kernel
theorem dX9_errorOf_111 : decode cX9_errorOf 111 = .ok (.ireturn, 1) := by decide +kernel
theorem dX9_errorOf_112 : decode cX9_errorOf 112 = .ok (.aload_n 1, 1) := by decide +kernel
theorem dX9_errorOf_113 : decode cX9_errorOf 113 = .ok (.getfield 180, 3) := by decide +kernel
theorem dX9_errorOf_116 : decode cX9_errorOf 116 = .ok (.aload_n 0, 1) := by decide +kernel
theorem dX9_errorOf_117 : decode cX9_errorOf 117 = .ok (.getfield 30, 3) := by decide +kernel
theorem dX9_errorOf_120 : decode cX9_errorOf 120 = .ok (.iload_n 2, 1) := by decide +kernel
theorem dX9_errorOf_121 : decode cX9_errorOf 121 = .ok (.iaload, 1) := by decide +kernel
theorem dX9_errorOf_122 : decode cX9_errorOf 122 = .ok (.iconst 4, 1) := by decide +kernel
theorem dX9_errorOf_123 : decode cX9_errorOf 123 = .ok (.isub, 1) := by decide +kernel
theorem dX9_errorOf_124 : decode cX9_errorOf 124 = .ok (.iload_n 3, 1) := by decide +kernel
theorem dX9_errorOf_125 : decode cX9_errorOf 125 = .ok (.iastore, 1) := by decide +kernel
theorem dX9_errorOf_126 : decode cX9_errorOf 126 = .ok (.iload_n 3, 1) := by decide +kernel
theorem dX9_errorOf_127 : decode cX9_errorOf 127 = .ok (.iconst 0, 1) := by decide +kernel
theorem dX9_errorOf_128 : decode cX9_errorOf 128 = .ok (.bipush 9, 2) := by decide +kernel
theorem dX9_errorOf_130 : decode cX9_errorOf 130 = .ok (.invokestatic 68, 3) := by decide +kernel
theorem dX9_errorOf_133 : decode cX9_errorOf 133 = .ok (.ifCond .eq 7, 3) := by decide +kernel
theorem dX9_errorOf_136 : decode cX9_errorOf 136 = .ok (.iconst 0, 1) := by decide +kernel
theorem dX9_errorOf_137 : decode cX9_errorOf 137 = .ok (.goto 4, 3) := by decide +kernel
theorem dX9_errorOf_140 : decode cX9_errorOf 140 = .ok (.iconst 5, 1) := by decide +kernel
theorem dX9_errorOf_141 : decode cX9_errorOf 141 = .ok (.ireturn, 1) := by decide +kernel
theorem dX9_read_0 : decode cX9_read 0 = .ok (.aload_n 0, 1) := by decide +kernel
theorem dX9_read_1 : decode cX9_read 1 = .ok (.invokevirtual 383, 3) := by decide +kernel
theorem dX9_read_4 : decode cX9_read 4 = .ok (.aload_n 0, 1) := by decide +kernel
theorem dX9_read_5 : decode cX9_read 5 = .ok (.iconst 0, 1) := by decide +kernel
theorem dX9_read_6 : decode cX9_read 6 = .ok (.putfield 305, 3) := by decide +kernel
theorem dX9_read_9 : decode cX9_read 9 = .ok (.aload_n 0, 1) := by decide +kernel
theorem dX9_read_10 : decode cX9_read 10 = .ok (.iconst 0, 1) := by decide +kernel
theorem dX9_read_11 : decode cX9_read 11 = .ok (.putfield 311, 3) := by decide +kernel
theorem dX9_read_14 : decode cX9_read 14 = .ok (.aload_n 0, 1) := by decide +kernel
theorem dX9_read_15 : decode cX9_read 15 = .ok (.iconst 0, 1) := by decide +kernel
theorem dX9_read_16 : decode cX9_read 16 = .ok (.putfield 366, 3) := by decide +kernel
theorem dX9_read_19 : decode cX9_read 19 = .ok (.aload_n 0, 1) := by decide +kernel
theorem dX9_read_20 : decode cX9_read 20 = .ok (.aload_n 1, 1) := by decide +kernel
theorem dX9_read_21 : decode cX9_read 21 = .ok (.invokevirtual 386, 3) := by decide +kernel
theorem dX9_read_24 : decode cX9_read 24 = .ok (.ifCond .ne 18, 3) := by decide +kernel
theorem dX9_read_27 : decode cX9_read 27 = .ok (.aload_n 0, 1) := by decide +kernel
theorem dX9_read_28 : decode cX9_read 28 = .ok (.aload_n 0, 1) := by decide +kernel
theorem dX9_read_29 : decode cX9_read 29 = .ok (.getfield 27, 3) := by decide +kernel
theorem dX9_read_32 : decode cX9_read 32 = .ok (.aload_n 0, 1) := by decide +kernel
theorem dX9_read_33 : decode cX9_read 33 = .ok (.getfield 305, 3) := by decide +kernel
theorem dX9_read_36 : decode cX9_read 36 = .ok (.iaload, 1) := by decide +kernel
theorem dX9_read_37 : decode cX9_read 37 = .ok (.putfield 13, 3) := by decide +kernel
theorem dX9_read_40 : decode cX9_read 40 = .ok (.iconst 1, 1) := by decide +kernel
theorem dX9_read_41 : decode cX9_read 41 = .ok (.ireturn, 1) := by decide +kernel
theorem dX9_read_42 : decode cX9_read 42 = .ok (.iconst 0, 1) := by decide +kernel
theorem dX9_read_43 : decode cX9_read 43 = .ok (.istore_n 2, 1) := by decide +kernel
theorem dX9_read_44 : decode cX9_read 44 = .ok (.iload_n 2, 1) := by decide +kernel
theorem dX9_read_45 : decode cX9_read 45 = .ok (.aload_n 0, 1) := by decide +kernel
theorem dX9_read_46 : decode cX9_read 46 = .ok (.getfield 305, 3) := by decide +kernel
theorem dX9_read_49 : decode cX9_read 49 = .ok (.if_icmp .ge 35, 3) := by decide +kernel
theorem dX9_read_52 : decode cX9_read 52 = .ok (.aload_n 0, 1) := by decide +kernel
theorem dX9_read_53 : decode cX9_read 53 = .ok (.aload_n 1, 1) := by decide +kernel
theorem dX9_read_54 : decode cX9_read 54 = .ok (.iload_n 2, 1) := by decide +kernel
theorem dX9_read_55 : decode cX9_read 55 = .ok (.invokevirtual 389, 3) := by decide +kernel
theorem dX9_read_58 : decode cX9_read 58 = .ok (.istore_n 3, 1) := by decide +kernel
theorem dX9_read_59 : decode cX9_read 59 = .ok (.iload_n 3, 1) := by decide +kernel
theorem dX9_read_60 : decode cX9_read 60 = .ok (.ifCond .ne 6, 3) := by decide +kernel
theorem dX9_read_63 : decode cX9_read 63 = .ok (.goto 15, 3) := by decide +kernel
theorem dX9_read_66 : decode cX9_read 66 = .ok (.aload_n 0, 1) := by decide +kernel
theorem dX9_read_67 : decode cX9_read 67 = .ok (.aload_n 0, 1) := by decide +kernel
theorem dX9_read_68 : decode cX9_read 68 = .ok (.getfield 27, 3) := by decide +kernel
theorem dX9_read_71 : decode cX9_read 71 = .ok (.iload_n 2, 1) := by decide +kernel
theorem dX9_read_72 : decode cX9_read 72 = .ok (.iaload, 1) := by decide +kernel
theorem dX9_read_73 : decode cX9_read 73 = .ok (.putfield 13, 3) := by decide +kernel
theorem dX9_read_76 : decode cX9_read 76 = .ok (.iload_n 3, 1) := by decide +kernel
theorem dX9_read_77 : decode cX9_read 77 = .ok (.ireturn, 1) := by decide +kernel
theorem dX9_read_78 : decode cX9_read 78 = .ok (.iinc 2 1, 3) := by decide +kernel
theorem dX9_read_81 : decode cX9_read 81 = .ok (.goto (-37), 3) := by decide +kernel
theorem dX9_read_84 : decode cX9_read 84 = .ok (.iconst 0, 1) := by decide +kernel
theorem dX9_read_85 : decode cX9_read 85 = .ok (.ireturn, 1) := by decide +kernel
theorem dX9_feed_0 : decode cX9_feed 0 = .ok (.aload_n 0, 1) := by decide +kernel
theorem dX9_feed_1 : decode cX9_feed 1 = .ok (.iconst 0, 1) := by decide +kernel
theorem dX9_feed_2 : decode cX9_feed 2 = .ok (.putfield 62, 3) := by decide +kernel
theorem dX9_feed_5 : decode cX9_feed 5 = .ok (.aload_n 0, 1) := by decide +kernel
theorem dX9_feed_6 : decode cX9_feed 6 = .ok (.getfield 259, 3) := by decide +kernel
theorem dX9_feed_9 : decode cX9_feed 9 = .ok (.sipush 1980, 3) := by decide +kernel
theorem dX9_feed_12 : decode cX9_feed 12 = .ok (.if_icmp .le 9, 3) := by decide +kernel
theorem dX9_feed_15 : decode cX9_feed 15 = .ok (.aload_n 0, 1) := by decide +kernel
theorem dX9_feed_16 : decode cX9_feed 16 = .ok (.iconst 1, 1) := by decide +kernel
theorem dX9_feed_17 : decode cX9_feed 17 = .ok (.invokevirtual 393, 3) := by decide +kernel
theorem dX9_feed_20 : decode cX9_feed 20 = .ok (.ireturn, 1) := by decide +kernel
theorem dX9_feed_21 : decode cX9_feed 21 = .ok (.iconst 5, 1) := by decide +kernel
theorem dX9_feed_22 : decode cX9_feed 22 = .ok (.newarray .int, 2) := by decide +kernel
theorem dX9_feed_24 : decode cX9_feed 24 = .ok (.dup, 1) := by decide +kernel
theorem dX9_feed_25 : decode cX9_feed 25 = .ok (.iconst 0, 1) := by decide +kernel
theorem dX9_feed_26 : decode cX9_feed 26 = .ok (.iload_n 1, 1) := by decide +kernel
theorem dX9_feed_27 : decode cX9_feed 27 = .ok (.iastore, 1) := by decide +kernel
theorem dX9_feed_28 : decode cX9_feed 28 = .ok (.dup, 1) := by decide +kernel
theorem dX9_feed_29 : decode cX9_feed 29 = .ok (.iconst 1, 1) := by decide +kernel
theorem dX9_feed_30 : decode cX9_feed 30 = .ok (.iload_n 2, 1) := by decide +kernel
theorem dX9_feed_31 : decode cX9_feed 31 = .ok (.iastore, 1) := by decide +kernel
theorem dX9_feed_32 : decode cX9_feed 32 = .ok (.dup, 1) := by decide +kernel
theorem dX9_feed_33 : decode cX9_feed 33 = .ok (.iconst 2, 1) := by decide +kernel
theorem dX9_feed_34 : decode cX9_feed 34 = .ok (.iload_n 3, 1) := by decide +kernel
theorem dX9_feed_35 : decode cX9_feed 35 = .ok (.iastore, 1) := by decide +kernel
theorem dX9_feed_36 : decode cX9_feed 36 = .ok (.dup, 1) := by decide +kernel
theorem dX9_feed_37 : decode cX9_feed 37 = .ok (.iconst 3, 1) := by decide +kernel
theorem dX9_feed_38 : decode cX9_feed 38 = .ok (.iload 4, 2) := by decide +kernel
theorem dX9_feed_40 : decode cX9_feed 40 = .ok (.iastore, 1) := by decide +kernel
theorem dX9_feed_41 : decode cX9_feed 41 = .ok (.dup, 1) := by decide +kernel
theorem dX9_feed_42 : decode cX9_feed 42 = .ok (.iconst 4, 1) := by decide +kernel
theorem dX9_feed_43 : decode cX9_feed 43 = .ok (.iload 5, 2) := by decide +kernel
theorem dX9_feed_45 : decode cX9_feed 45 = .ok (.iastore, 1) := by decide +kernel
theorem dX9_feed_46 : decode cX9_feed 46 = .ok (.astore 6, 2) := by decide +kernel
theorem dX9_feed_48 : decode cX9_feed 48 = .ok (.iconst 0, 1) := by decide +kernel
theorem dX9_feed_49 : decode cX9_feed 49 = .ok (.istore 7, 2) := by decide +kernel
theorem dX9_feed_51 : decode cX9_feed 51 = .ok (.iload 7, 2) := by decide +kernel
theorem dX9_feed_53 : decode cX9_feed 53 = .ok (.bipush 20, 2) := by decide +kernel
theorem dX9_feed_55 : decode cX9_feed 55 = .ok (.if_icmp .ge 43, 3) := by decide +kernel
theorem dX9_feed_58 : decode cX9_feed 58 = .ok (.aload_n 0, 1) := by decide +kernel
theorem dX9_feed_59 : decode cX9_feed 59 = .ok (.getfield 9, 3) := by decide +kernel
theorem dX9_feed_62 : decode cX9_feed 62 = .ok (.aload_n 0, 1) := by decide +kernel
theorem dX9_feed_63 : decode cX9_feed 63 = .ok (.getfield 259, 3) := by decide +kernel
theorem dX9_feed_66 : decode cX9_feed 66 = .ok (.iload 7, 2) := by decide +kernel
theorem dX9_feed_68 : decode cX9_feed 68 = .ok (.iadd, 1) := by decide +kernel
theorem dX9_feed_69 : decode cX9_feed 69 = .ok (.aload 6, 2) := by decide +kernel
theorem dX9_feed_71 : decode cX9_feed 71 = .ok (.iload 7, 2) := by decide +kernel
theorem dX9_feed_73 : decode cX9_feed 73 = .ok (.iconst 4, 1) := by decide +kernel
theorem dX9_feed_74 : decode cX9_feed 74 = .ok (.idiv, 1) := by decide +kernel
theorem dX9_feed_75 : decode cX9_feed 75 = .ok (.iaload, 1) := by decide +kernel
theorem dX9_feed_76 : decode cX9_feed 76 = .ok (.bipush 24, 2) := by decide +kernel
theorem dX9_feed_78 : decode cX9_feed 78 = .ok (.bipush 8, 2) := by decide +kernel
theorem dX9_feed_80 : decode cX9_feed 80 = .ok (.iload 7, 2) := by decide +kernel
theorem dX9_feed_82 : decode cX9_feed 82 = .ok (.iconst 4, 1) := by decide +kernel
theorem dX9_feed_83 : decode cX9_feed 83 = .ok (.irem, 1) := by decide +kernel
theorem dX9_feed_84 : decode cX9_feed 84 = .ok (.imul, 1) := by decide +kernel
theorem dX9_feed_85 : decode cX9_feed 85 = .ok (.isub, 1) := by decide +kernel
theorem dX9_feed_86 : decode cX9_feed 86 = .ok (.ishr, 1) := by decide +kernel
theorem dX9_feed_87 : decode cX9_feed 87 = .ok (.sipush 255, 3) := by decide +kernel
theorem dX9_feed_90 : decode cX9_feed 90 = .ok (.iand, 1) := by decide +kernel
theorem dX9_feed_91 : decode cX9_feed 91 = .ok (.iastore, 1) := by decide +kernel
theorem dX9_feed_92 : decode cX9_feed 92 = .ok (.iinc 7 1, 3) := by decide +kernel
theorem dX9_feed_95 : decode cX9_feed 95 = .ok (.goto (-44), 3) := by decide +kernel
theorem dX9_feed_98 : decode cX9_feed 98 = .ok (.aload_n 0, 1) := by decide +kernel
theorem dX9_feed_99 : decode cX9_feed 99 = .ok (.dup, 1) := by decide +kernel
theorem dX9_feed_100 : decode cX9_feed 100 = .ok (.getfield 259, 3) := by decide +kernel
theorem dX9_feed_103 : decode cX9_feed 103 = .ok (.bipush 20, 2) := by decide +kernel
theorem dX9_feed_105 : decode cX9_feed 105 = .ok (.iadd, 1) := by decide +kernel
theorem dX9_feed_106 : decode cX9_feed 106 = .ok (.putfield 259, 3) := by decide +kernel
theorem dX9_feed_109 : decode cX9_feed 109 = .ok (.aload_n 0, 1) := by decide +kernel
theorem dX9_feed_110 : decode cX9_feed 110 = .ok (.getfield 259, 3) := by decide +kernel
theorem dX9_feed_113 : decode cX9_feed 113 = .ok (.ireturn, 1) := by decide +kernel
theorem dX9_trim_0 : decode cX9_trim 0 = .ok (.aload_n 0, 1) := by decide +kernel
theorem dX9_trim_1 : decode cX9_trim 1 = .ok (.iconst 0, 1) := by decide +kernel
theorem dX9_trim_2 : decode cX9_trim 2 = .ok (.putfield 62, 3) := by decide +kernel
theorem dX9_trim_5 : decode cX9_trim 5 = .ok (.iload_n 1, 1) := by decide +kernel
theorem dX9_trim_6 : decode cX9_trim 6 = .ok (.iconst 0, 1) := by decide +kernel
theorem dX9_trim_7 : decode cX9_trim 7 = .ok (.aload_n 0, 1) := by decide +kernel
theorem dX9_trim_8 : decode cX9_trim 8 = .ok (.getfield 259, 3) := by decide +kernel
theorem dX9_trim_11 : decode cX9_trim 11 = .ok (.invokestatic 68, 3) := by decide +kernel
theorem dX9_trim_14 : decode cX9_trim 14 = .ok (.ifCond .ne 9, 3) := by decide +kernel
theorem dX9_trim_17 : decode cX9_trim 17 = .ok (.aload_n 0, 1) := by decide +kernel
theorem dX9_trim_18 : decode cX9_trim 18 = .ok (.iconst 1, 1) := by decide +kernel
theorem dX9_trim_19 : decode cX9_trim 19 = .ok (.invokevirtual 393, 3) := by decide +kernel
theorem dX9_trim_22 : decode cX9_trim 22 = .ok (.ireturn, 1) := by decide +kernel
theorem dX9_trim_23 : decode cX9_trim 23 = .ok (.aload_n 0, 1) := by decide +kernel
theorem dX9_trim_24 : decode cX9_trim 24 = .ok (.iload_n 1, 1) := by decide +kernel
theorem dX9_trim_25 : decode cX9_trim 25 = .ok (.putfield 259, 3) := by decide +kernel
theorem dX9_trim_28 : decode cX9_trim 28 = .ok (.iload_n 1, 1) := by decide +kernel
theorem dX9_trim_29 : decode cX9_trim 29 = .ok (.ireturn, 1) := by decide +kernel
theorem dX9_teach_0 : decode cX9_teach 0 = .ok (.aload_n 0, 1) := by decide +kernel
theorem dX9_teach_1 : decode cX9_teach 1 = .ok (.iconst 0, 1) := by decide +kernel
theorem dX9_teach_2 : decode cX9_teach 2 = .ok (.putfield 62, 3) := by decide +kernel
theorem dX9_teach_5 : decode cX9_teach 5 = .ok (.aload_n 0, 1) := by decide +kernel
theorem dX9_teach_6 : decode cX9_teach 6 = .ok (.iconst (-1), 1) := by decide +kernel
theorem dX9_teach_7 : decode cX9_teach 7 = .ok (.putfield 13, 3) := by decide +kernel
theorem dX9_teach_10 : decode cX9_teach 10 = .ok (.new 17, 3) := by decide +kernel
theorem dX9_teach_13 : decode cX9_teach 13 = .ok (.dup, 1) := by decide +kernel
theorem dX9_teach_14 : decode cX9_teach 14 = .ok (.invokespecial 19, 3) := by decide +kernel
theorem dX9_teach_17 : decode cX9_teach 17 = .ok (.astore_n 1, 1) := by decide +kernel
theorem dX9_teach_18 : decode cX9_teach 18 = .ok (.aload_n 0, 1) := by decide +kernel
theorem dX9_teach_19 : decode cX9_teach 19 = .ok (.aload_n 1, 1) := by decide +kernel
theorem dX9_teach_20 : decode cX9_teach 20 = .ok (.invokevirtual 396, 3) := by decide +kernel
theorem dX9_teach_23 : decode cX9_teach 23 = .ok (.istore_n 2, 1) := by decide +kernel
theorem dX9_teach_24 : decode cX9_teach 24 = .ok (.aload_n 0, 1) := by decide +kernel
theorem dX9_teach_25 : decode cX9_teach 25 = .ok (.iconst 0, 1) := by decide +kernel
theorem dX9_teach_26 : decode cX9_teach 26 = .ok (.putfield 259, 3) := by decide +kernel
theorem dX9_teach_29 : decode cX9_teach 29 = .ok (.iload_n 2, 1) := by decide +kernel
theorem dX9_teach_30 : decode cX9_teach 30 = .ok (.ifCond .le 5, 3) := by decide +kernel
theorem dX9_teach_33 : decode cX9_teach 33 = .ok (.iload_n 2, 1) := by decide +kernel
theorem dX9_teach_34 : decode cX9_teach 34 = .ok (.ireturn, 1) := by decide +kernel
theorem dX9_teach_35 : decode cX9_teach 35 = .ok (.aload_n 0, 1) := by decide +kernel
theorem dX9_teach_36 : decode cX9_teach 36 = .ok (.aload_n 1, 1) := by decide +kernel
theorem dX9_teach_37 : decode cX9_teach 37 = .ok (.putfield 20, 3) := by decide +kernel
theorem dX9_teach_40 : decode cX9_teach 40 = .ok (.aload_n 0, 1) := by decide +kernel
theorem dX9_teach_41 : decode cX9_teach 41 = .ok (.new 37, 3) := by decide +kernel
theorem dX9_teach_44 : decode cX9_teach 44 = .ok (.dup, 1) := by decide +kernel
theorem dX9_teach_45 : decode cX9_teach 45 = .ok (.invokespecial 39, 3) := by decide +kernel
theorem dX9_teach_48 : decode cX9_teach 48 = .ok (.putfield 40, 3) := by decide +kernel
theorem dX9_teach_51 : decode cX9_teach 51 = .ok (.iconst 0, 1) := by decide +kernel
theorem dX9_teach_52 : decode cX9_teach 52 = .ok (.ireturn, 1) := by decide +kernel
theorem dX9_errorAt_0 : decode cX9_errorAt 0 = .ok (.aload_n 0, 1) := by decide +kernel
theorem dX9_errorAt_1 : decode cX9_errorAt 1 = .ok (.aload_n 0, 1) := by decide +kernel
theorem dX9_errorAt_2 : decode cX9_errorAt 2 = .ok (.getfield 13, 3) := by decide +kernel
theorem dX9_errorAt_5 : decode cX9_errorAt 5 = .ok (.invokevirtual 400, 3) := by decide +kernel
theorem dX9_errorAt_8 : decode cX9_errorAt 8 = .ok (.ireturn, 1) := by decide +kernel
theorem dX9_wrestlers_0 : decode cX9_wrestlers 0 = .ok (.aload_n 0, 1) := by decide +kernel
theorem dX9_wrestlers_1 : decode cX9_wrestlers 1 = .ok (.aload_n 0, 1) := by decide +kernel
theorem dX9_wrestlers_2 : decode cX9_wrestlers 2 = .ok (.getfield 20, 3) := by decide +kernel
theorem dX9_wrestlers_5 : decode cX9_wrestlers 5 = .ok (.getfield 65, 3) := by decide +kernel
theorem dX9_wrestlers_8 : decode cX9_wrestlers 8 = .ok (.invokevirtual 400, 3) := by decide +kernel
theorem dX9_wrestlers_11 : decode cX9_wrestlers 11 = .ok (.ireturn, 1) := by decide +kernel
theorem dX9_wrestlersIn_0 : decode cX9_wrestlersIn 0 = .ok (.aload_n 0, 1) := by decide +kernel
theorem dX9_wrestlersIn_1 : decode cX9_wrestlersIn 1 = .ok (.aload_n 0, 1) := by decide +kernel
theorem dX9_wrestlersIn_2 : decode cX9_wrestlersIn 2 = .ok (.aload_n 0, 1) := by decide +kernel
theorem dX9_wrestlersIn_3 : decode cX9_wrestlersIn 3 = .ok (.getfield 40, 3) := by decide +kernel
theorem dX9_wrestlersIn_6 : decode cX9_wrestlersIn 6 = .ok (.invokevirtual 104, 3) := by decide +kernel
theorem dX9_wrestlersIn_9 : decode cX9_wrestlersIn 9 = .ok (.invokevirtual 400, 3) := by decide +kernel
theorem dX9_wrestlersIn_12 : decode cX9_wrestlersIn 12 = .ok (.ireturn, 1) := by decide +kernel
theorem dX9_rules_0 : decode cX9_rules 0 = .ok (.aload_n 0, 1) := by decide +kernel
theorem dX9_rules_1 : decode cX9_rules 1 = .ok (.aload_n 0, 1) := by decide +kernel
theorem dX9_rules_2 : decode cX9_rules 2 = .ok (.getfield 20, 3) := by decide +kernel
theorem dX9_rules_5 : decode cX9_rules 5 = .ok (.getfield 192, 3) := by decide +kernel
theorem dX9_rules_8 : decode cX9_rules 8 = .ok (.invokevirtual 400, 3) := by decide +kernel
theorem dX9_rules_11 : decode cX9_rules 11 = .ok (.ireturn, 1) := by decide +kernel
theorem dX9_rounds_0 : decode cX9_rounds 0 = .ok (.aload_n 0, 1) := by decide +kernel
theorem dX9_rounds_1 : decode cX9_rounds 1 = .ok (.aload_n 0, 1) := by decide +kernel
theorem dX9_rounds_2 : decode cX9_rounds 2 = .ok (.getfield 40, 3) := by decide +kernel
theorem dX9_rounds_5 : decode cX9_rounds 5 = .ok (.getfield 101, 3) := by decide +kernel
theorem dX9_rounds_8 : decode cX9_rounds 8 = .ok (.invokevirtual 400, 3) := by decide +kernel
theorem dX9_rounds_11 : decode cX9_rounds 11 = .ok (.ireturn, 1) := by decide +kernel
theorem dX9_tapeBytes_0 : decode cX9_tapeBytes 0 = .ok (.aload_n 0, 1) := by decide +kernel
theorem dX9_tapeBytes_1 : decode cX9_tapeBytes 1 = .ok (.aload_n 0, 1) := by decide +kernel
theorem dX9_tapeBytes_2 : decode cX9_tapeBytes 2 = .ok (.getfield 259, 3) := by decide +kernel
theorem dX9_tapeBytes_5 : decode cX9_tapeBytes 5 = .ok (.invokevirtual 400, 3) := by decide +kernel
theorem dX9_tapeBytes_8 : decode cX9_tapeBytes 8 = .ok (.ireturn, 1) := by decide +kernel
theorem dX9_bouts_0 : decode cX9_bouts 0 = .ok (.aload_n 0, 1) := by decide +kernel
theorem dX9_bouts_1 : decode cX9_bouts 1 = .ok (.aload_n 0, 1) := by decide +kernel
theorem dX9_bouts_2 : decode cX9_bouts 2 = .ok (.getfield 40, 3) := by decide +kernel
theorem dX9_bouts_5 : decode cX9_bouts 5 = .ok (.getfield 151, 3) := by decide +kernel
theorem dX9_bouts_8 : decode cX9_bouts 8 = .ok (.invokevirtual 400, 3) := by decide +kernel
theorem dX9_bouts_11 : decode cX9_bouts 11 = .ok (.ireturn, 1) := by decide +kernel
theorem dX9_openBouts_0 : decode cX9_openBouts 0 = .ok (.aload_n 0, 1) := by decide +kernel
theorem dX9_openBouts_1 : decode cX9_openBouts 1 = .ok (.aload_n 0, 1) := by decide +kernel
theorem dX9_openBouts_2 : decode cX9_openBouts 2 = .ok (.getfield 40, 3) := by decide +kernel
theorem dX9_openBouts_5 : decode cX9_openBouts 5 = .ok (.invokevirtual 97, 3) := by decide +kernel
theorem dX9_openBouts_8 : decode cX9_openBouts 8 = .ok (.invokevirtual 400, 3) := by decide +kernel
theorem dX9_openBouts_11 : decode cX9_openBouts 11 = .ok (.ireturn, 1) := by decide +kernel
theorem dX9_of_0 : decode cX9_of 0 = .ok (.aload_n 0, 1) := by decide +kernel
theorem dX9_of_1 : decode cX9_of 1 = .ok (.iconst 0, 1) := by decide +kernel
theorem dX9_of_2 : decode cX9_of 2 = .ok (.putfield 62, 3) := by decide +kernel
theorem dX9_of_5 : decode cX9_of 5 = .ok (.aload_n 0, 1) := by decide +kernel
theorem dX9_of_6 : decode cX9_of 6 = .ok (.iload_n 1, 1) := by decide +kernel
theorem dX9_of_7 : decode cX9_of 7 = .ok (.invokevirtual 403, 3) := by decide +kernel
theorem dX9_of_10 : decode cX9_of 10 = .ok (.ifCond .eq 9, 3) := by decide +kernel
theorem dX9_of_13 : decode cX9_of 13 = .ok (.aload_n 2, 1) := by decide +kernel
theorem dX9_of_14 : decode cX9_of 14 = .ok (.iload_n 1, 1) := by decide +kernel
theorem dX9_of_15 : decode cX9_of 15 = .ok (.iaload, 1) := by decide +kernel
theorem dX9_of_16 : decode cX9_of 16 = .ok (.goto 8, 3) := by decide +kernel
theorem dX9_of_19 : decode cX9_of 19 = .ok (.aload_n 0, 1) := by decide +kernel
theorem dX9_of_20 : decode cX9_of 20 = .ok (.iconst 1, 1) := by decide +kernel
theorem dX9_of_21 : decode cX9_of 21 = .ok (.invokevirtual 393, 3) := by decide +kernel
theorem dX9_of_24 : decode cX9_of 24 = .ok (.ireturn, 1) := by decide +kernel
theorem dX9_strengthOf_0 : decode cX9_strengthOf 0 = .ok (.aload_n 0, 1) := by decide +kernel
theorem dX9_strengthOf_1 : decode cX9_strengthOf 1 = .ok (.iload_n 1, 1) := by decide +kernel
theorem dX9_strengthOf_2 : decode cX9_strengthOf 2 = .ok (.aload_n 0, 1) := by decide +kernel
theorem dX9_strengthOf_3 : decode cX9_strengthOf 3 = .ok (.getfield 20, 3) := by decide +kernel
theorem dX9_strengthOf_6 : decode cX9_strengthOf 6 = .ok (.getfield 83, 3) := by decide +kernel
theorem dX9_strengthOf_9 : decode cX9_strengthOf 9 = .ok (.invokevirtual 406, 3) := by decide +kernel
theorem dX9_strengthOf_12 : decode cX9_strengthOf 12 = .ok (.ireturn, 1) := by decide +kernel
theorem dX9_pointsOf_0 : decode cX9_pointsOf 0 = .ok (.aload_n 0, 1) := by decide +kernel
theorem dX9_pointsOf_1 : decode cX9_pointsOf 1 = .ok (.iload_n 1, 1) := by decide +kernel
theorem dX9_pointsOf_2 : decode cX9_pointsOf 2 = .ok (.aload_n 0, 1) := by decide +kernel
theorem dX9_pointsOf_3 : decode cX9_pointsOf 3 = .ok (.getfield 40, 3) := by decide +kernel
theorem dX9_pointsOf_6 : decode cX9_pointsOf 6 = .ok (.getfield 76, 3) := by decide +kernel
theorem dX9_pointsOf_9 : decode cX9_pointsOf 9 = .ok (.invokevirtual 406, 3) := by decide +kernel
theorem dX9_pointsOf_12 : decode cX9_pointsOf 12 = .ok (.ireturn, 1) := by decide +kernel
theorem dX9_winsOf_0 : decode cX9_winsOf 0 = .ok (.aload_n 0, 1) := by decide +kernel
theorem dX9_winsOf_1 : decode cX9_winsOf 1 = .ok (.iload_n 1, 1) := by decide +kernel
theorem dX9_winsOf_2 : decode cX9_winsOf 2 = .ok (.aload_n 0, 1) := by decide +kernel
theorem dX9_winsOf_3 : decode cX9_winsOf 3 = .ok (.getfield 40, 3) := by decide +kernel
theorem dX9_winsOf_6 : decode cX9_winsOf 6 = .ok (.getfield 186, 3) := by decide +kernel
theorem dX9_winsOf_9 : decode cX9_winsOf 9 = .ok (.invokevirtual 406, 3) := by decide +kernel
theorem dX9_winsOf_12 : decode cX9_winsOf 12 = .ok (.ireturn, 1) := by decide +kernel
theorem dX9_drawsOf_0 : decode cX9_drawsOf 0 = .ok (.aload_n 0, 1) := by decide +kernel
theorem dX9_drawsOf_1 : decode cX9_drawsOf 1 = .ok (.iload_n 1, 1) := by decide +kernel
theorem dX9_drawsOf_2 : decode cX9_drawsOf 2 = .ok (.aload_n 0, 1) := by decide +kernel
theorem dX9_drawsOf_3 : decode cX9_drawsOf 3 = .ok (.getfield 40, 3) := by decide +kernel
theorem dX9_drawsOf_6 : decode cX9_drawsOf 6 = .ok (.getfield 183, 3) := by decide +kernel
theorem dX9_drawsOf_9 : decode cX9_drawsOf 9 = .ok (.invokevirtual 406, 3) := by decide +kernel
theorem dX9_drawsOf_12 : decode cX9_drawsOf 12 = .ok (.ireturn, 1) := by decide +kernel
theorem dX9_lossesOf_0 : decode cX9_lossesOf 0 = .ok (.aload_n 0, 1) := by decide +kernel
theorem dX9_lossesOf_1 : decode cX9_lossesOf 1 = .ok (.iload_n 1, 1) := by decide +kernel
theorem dX9_lossesOf_2 : decode cX9_lossesOf 2 = .ok (.aload_n 0, 1) := by decide +kernel
theorem dX9_lossesOf_3 : decode cX9_lossesOf 3 = .ok (.getfield 40, 3) := by decide +kernel
theorem dX9_lossesOf_6 : decode cX9_lossesOf 6 = .ok (.getfield 189, 3) := by decide +kernel
theorem dX9_lossesOf_9 : decode cX9_lossesOf 9 = .ok (.invokevirtual 406, 3) := by decide +kernel
theorem dX9_lossesOf_12 : decode cX9_lossesOf 12 = .ok (.ireturn, 1) := by decide +kernel
theorem dX9_restsOf_0 : decode cX9_restsOf 0 = .ok (.aload_n 0, 1) := by decide +kernel
theorem dX9_restsOf_1 : decode cX9_restsOf 1 = .ok (.iload_n 1, 1) := by decide +kernel
theorem dX9_restsOf_2 : decode cX9_restsOf 2 = .ok (.aload_n 0, 1) := by decide +kernel
theorem dX9_restsOf_3 : decode cX9_restsOf 3 = .ok (.getfield 40, 3) := by decide +kernel
theorem dX9_restsOf_6 : decode cX9_restsOf 6 = .ok (.getfield 117, 3) := by decide +kernel
theorem dX9_restsOf_9 : decode cX9_restsOf 9 = .ok (.invokevirtual 406, 3) := by decide +kernel
theorem dX9_restsOf_12 : decode cX9_restsOf 12 = .ok (.ireturn, 1) := by decide +kernel
theorem dX9_beltsOf_0 : decode cX9_beltsOf 0 = .ok (.aload_n 0, 1) := by decide +kernel
theorem dX9_beltsOf_1 : decode cX9_beltsOf 1 = .ok (.iload_n 1, 1) := by decide +kernel
theorem dX9_beltsOf_2 : decode cX9_beltsOf 2 = .ok (.aload_n 0, 1) := by decide +kernel
theorem dX9_beltsOf_3 : decode cX9_beltsOf 3 = .ok (.getfield 40, 3) := by decide +kernel
theorem dX9_beltsOf_6 : decode cX9_beltsOf 6 = .ok (.getfield 142, 3) := by decide +kernel
theorem dX9_beltsOf_9 : decode cX9_beltsOf 9 = .ok (.invokevirtual 406, 3) := by decide +kernel
theorem dX9_beltsOf_12 : decode cX9_beltsOf 12 = .ok (.ireturn, 1) := by decide +kernel
theorem dX9_floatsOf_0 : decode cX9_floatsOf 0 = .ok (.aload_n 0, 1) := by decide +kernel
theorem dX9_floatsOf_1 : decode cX9_floatsOf 1 = .ok (.iload_n 1, 1) := by decide +kernel
theorem dX9_floatsOf_2 : decode cX9_floatsOf 2 = .ok (.aload_n 0, 1) := by decide +kernel
theorem dX9_floatsOf_3 : decode cX9_floatsOf 3 = .ok (.getfield 40, 3) := by decide +kernel
theorem dX9_floatsOf_6 : decode cX9_floatsOf 6 = .ok (.getfield 157, 3) := by decide +kernel
theorem dX9_floatsOf_9 : decode cX9_floatsOf 9 = .ok (.invokevirtual 406, 3) := by decide +kernel
theorem dX9_floatsOf_12 : decode cX9_floatsOf 12 = .ok (.ireturn, 1) := by decide +kernel
theorem dX9_pointsOfMet_0 : decode cX9_pointsOfMet 0 = .ok (.aload_n 0, 1) := by decide +kernel
theorem dX9_pointsOfMet_1 : decode cX9_pointsOfMet 1 = .ok (.iconst 0, 1) := by decide +kernel
theorem dX9_pointsOfMet_2 : decode cX9_pointsOfMet 2 = .ok (.putfield 62, 3) := by decide +kernel
theorem dX9_pointsOfMet_5 : decode cX9_pointsOfMet 5 = .ok (.aload_n 0, 1) := by decide +kernel
theorem dX9_pointsOfMet_6 : decode cX9_pointsOfMet 6 = .ok (.iload_n 1, 1) := by decide +kernel
theorem dX9_pointsOfMet_7 : decode cX9_pointsOfMet 7 = .ok (.invokevirtual 403, 3) := by decide +kernel
theorem dX9_pointsOfMet_10 : decode cX9_pointsOfMet 10 = .ok (.ifCond .eq 15, 3) := by decide +kernel
theorem dX9_pointsOfMet_13 : decode cX9_pointsOfMet 13 = .ok (.aload_n 0, 1) := by decide +kernel
theorem dX9_pointsOfMet_14 : decode cX9_pointsOfMet 14 = .ok (.aload_n 0, 1) := by decide +kernel
theorem dX9_pointsOfMet_15 : decode cX9_pointsOfMet 15 = .ok (.getfield 40, 3) := by decide +kernel
theorem dX9_pointsOfMet_18 : decode cX9_pointsOfMet 18 = .ok (.iload_n 1, 1) := by decide +kernel
theorem dX9_pointsOfMet_19 : decode cX9_pointsOfMet 19 = .ok (.invokevirtual 79, 3) := by decide +kernel
theorem dX9_pointsOfMet_22 : decode cX9_pointsOfMet 22 = .ok (.goto 8, 3) := by decide +kernel
theorem dX9_pointsOfMet_25 : decode cX9_pointsOfMet 25 = .ok (.aload_n 0, 1) := by decide +kernel
theorem dX9_pointsOfMet_26 : decode cX9_pointsOfMet 26 = .ok (.iconst 1, 1) := by decide +kernel
theorem dX9_pointsOfMet_27 : decode cX9_pointsOfMet 27 = .ok (.invokevirtual 393, 3) := by decide +kernel
theorem dX9_pointsOfMet_30 : decode cX9_pointsOfMet 30 = .ok (.ireturn, 1) := by decide +kernel
theorem dX9_rankOf_0 : decode cX9_rankOf 0 = .ok (.aload_n 0, 1) := by decide +kernel
theorem dX9_rankOf_1 : decode cX9_rankOf 1 = .ok (.iconst 0, 1) := by decide +kernel
theorem dX9_rankOf_2 : decode cX9_rankOf 2 = .ok (.putfield 62, 3) := by decide +kernel
theorem dX9_rankOf_5 : decode cX9_rankOf 5 = .ok (.aload_n 0, 1) := by decide +kernel
theorem dX9_rankOf_6 : decode cX9_rankOf 6 = .ok (.iload_n 1, 1) := by decide +kernel
theorem dX9_rankOf_7 : decode cX9_rankOf 7 = .ok (.invokevirtual 403, 3) := by decide +kernel
theorem dX9_rankOf_10 : decode cX9_rankOf 10 = .ok (.ifCond .eq 15, 3) := by decide +kernel
theorem dX9_rankOf_13 : decode cX9_rankOf 13 = .ok (.aload_n 0, 1) := by decide +kernel
theorem dX9_rankOf_14 : decode cX9_rankOf 14 = .ok (.aload_n 0, 1) := by decide +kernel
theorem dX9_rankOf_15 : decode cX9_rankOf 15 = .ok (.getfield 40, 3) := by decide +kernel
theorem dX9_rankOf_18 : decode cX9_rankOf 18 = .ok (.iload_n 1, 1) := by decide +kernel
theorem dX9_rankOf_19 : decode cX9_rankOf 19 = .ok (.invokevirtual 90, 3) := by decide +kernel
theorem dX9_rankOf_22 : decode cX9_rankOf 22 = .ok (.goto 8, 3) := by decide +kernel
theorem dX9_rankOf_25 : decode cX9_rankOf 25 = .ok (.aload_n 0, 1) := by decide +kernel
theorem dX9_rankOf_26 : decode cX9_rankOf 26 = .ok (.iconst 1, 1) := by decide +kernel
theorem dX9_rankOf_27 : decode cX9_rankOf 27 = .ok (.invokevirtual 393, 3) := by decide +kernel
theorem dX9_rankOf_30 : decode cX9_rankOf 30 = .ok (.ireturn, 1) := by decide +kernel
theorem dX9_isIn__0 : decode cX9_isIn_ 0 = .ok (.aload_n 0, 1) := by decide +kernel
theorem dX9_isIn__1 : decode cX9_isIn_ 1 = .ok (.iconst 0, 1) := by decide +kernel
theorem dX9_isIn__2 : decode cX9_isIn_ 2 = .ok (.putfield 62, 3) := by decide +kernel
theorem dX9_isIn__5 : decode cX9_isIn_ 5 = .ok (.aload_n 0, 1) := by decide +kernel
theorem dX9_isIn__6 : decode cX9_isIn_ 6 = .ok (.iload_n 1, 1) := by decide +kernel
theorem dX9_isIn__7 : decode cX9_isIn_ 7 = .ok (.invokevirtual 403, 3) := by decide +kernel
theorem dX9_isIn__10 : decode cX9_isIn_ 10 = .ok (.ifCond .eq 23, 3) := by decide +kernel
theorem dX9_isIn__13 : decode cX9_isIn_ 13 = .ok (.aload_n 0, 1) := by decide +kernel
theorem dX9_isIn__14 : decode cX9_isIn_ 14 = .ok (.getfield 40, 3) := by decide +kernel
theorem dX9_isIn__17 : decode cX9_isIn_ 17 = .ok (.getfield 93, 3) := by decide +kernel
theorem dX9_isIn__20 : decode cX9_isIn_ 20 = .ok (.iload_n 1, 1) := by decide +kernel
theorem dX9_isIn__21 : decode cX9_isIn_ 21 = .ok (.baload, 1) := by decide +kernel
theorem dX9_isIn__22 : decode cX9_isIn_ 22 = .ok (.ifCond .ne 7, 3) := by decide +kernel
theorem dX9_isIn__25 : decode cX9_isIn_ 25 = .ok (.iconst 1, 1) := by decide +kernel
theorem dX9_isIn__26 : decode cX9_isIn_ 26 = .ok (.goto 12, 3) := by decide +kernel
theorem dX9_isIn__29 : decode cX9_isIn_ 29 = .ok (.iconst 0, 1) := by decide +kernel
theorem dX9_isIn__30 : decode cX9_isIn_ 30 = .ok (.goto 8, 3) := by decide +kernel
theorem dX9_isIn__33 : decode cX9_isIn_ 33 = .ok (.aload_n 0, 1) := by decide +kernel
theorem dX9_isIn__34 : decode cX9_isIn_ 34 = .ok (.iconst 1, 1) := by decide +kernel
theorem dX9_isIn__35 : decode cX9_isIn_ 35 = .ok (.invokevirtual 410, 3) := by decide +kernel
theorem dX9_isIn__38 : decode cX9_isIn_ 38 = .ok (.ireturn, 1) := by decide +kernel
theorem dX9_wrestlerAt_0 : decode cX9_wrestlerAt 0 = .ok (.aload_n 0, 1) := by decide +kernel
theorem dX9_wrestlerAt_1 : decode cX9_wrestlerAt 1 = .ok (.iconst 0, 1) := by decide +kernel
theorem dX9_wrestlerAt_2 : decode cX9_wrestlerAt 2 = .ok (.putfield 62, 3) := by decide +kernel
theorem dX9_wrestlerAt_5 : decode cX9_wrestlerAt 5 = .ok (.aload_n 0, 1) := by decide +kernel
theorem dX9_wrestlerAt_6 : decode cX9_wrestlerAt 6 = .ok (.iload_n 1, 1) := by decide +kernel
theorem dX9_wrestlerAt_7 : decode cX9_wrestlerAt 7 = .ok (.invokevirtual 403, 3) := by decide +kernel
theorem dX9_wrestlerAt_10 : decode cX9_wrestlerAt 10 = .ok (.ifCond .eq 15, 3) := by decide +kernel
theorem dX9_wrestlerAt_13 : decode cX9_wrestlerAt 13 = .ok (.aload_n 0, 1) := by decide +kernel
theorem dX9_wrestlerAt_14 : decode cX9_wrestlerAt 14 = .ok (.aload_n 0, 1) := by decide +kernel
theorem dX9_wrestlerAt_15 : decode cX9_wrestlerAt 15 = .ok (.getfield 40, 3) := by decide +kernel
theorem dX9_wrestlerAt_18 : decode cX9_wrestlerAt 18 = .ok (.iload_n 1, 1) := by decide +kernel
theorem dX9_wrestlerAt_19 : decode cX9_wrestlerAt 19 = .ok (.invokevirtual 111, 3) := by decide +kernel
theorem dX9_wrestlerAt_22 : decode cX9_wrestlerAt 22 = .ok (.goto 8, 3) := by decide +kernel
theorem dX9_wrestlerAt_25 : decode cX9_wrestlerAt 25 = .ok (.aload_n 0, 1) := by decide +kernel
theorem dX9_wrestlerAt_26 : decode cX9_wrestlerAt 26 = .ok (.iconst 1, 1) := by decide +kernel
theorem dX9_wrestlerAt_27 : decode cX9_wrestlerAt 27 = .ok (.invokevirtual 393, 3) := by decide +kernel
theorem dX9_wrestlerAt_30 : decode cX9_wrestlerAt 30 = .ok (.ireturn, 1) := by decide +kernel
theorem dX9_timesMet_0 : decode cX9_timesMet 0 = .ok (.aload_n 0, 1) := by decide +kernel
theorem dX9_timesMet_1 : decode cX9_timesMet 1 = .ok (.iconst 0, 1) := by decide +kernel
theorem dX9_timesMet_2 : decode cX9_timesMet 2 = .ok (.putfield 62, 3) := by decide +kernel
theorem dX9_timesMet_5 : decode cX9_timesMet 5 = .ok (.aload_n 0, 1) := by decide +kernel
theorem dX9_timesMet_6 : decode cX9_timesMet 6 = .ok (.iload_n 1, 1) := by decide +kernel
theorem dX9_timesMet_7 : decode cX9_timesMet 7 = .ok (.invokevirtual 403, 3) := by decide +kernel
theorem dX9_timesMet_10 : decode cX9_timesMet 10 = .ok (.ifCond .eq 23, 3) := by decide +kernel
theorem dX9_timesMet_13 : decode cX9_timesMet 13 = .ok (.aload_n 0, 1) := by decide +kernel
theorem dX9_timesMet_14 : decode cX9_timesMet 14 = .ok (.iload_n 2, 1) := by decide +kernel
theorem dX9_timesMet_15 : decode cX9_timesMet 15 = .ok (.invokevirtual 403, 3) := by decide +kernel
theorem dX9_timesMet_18 : decode cX9_timesMet 18 = .ok (.ifCond .eq 15, 3) := by decide +kernel
theorem dX9_timesMet_21 : decode cX9_timesMet 21 = .ok (.aload_n 0, 1) := by decide +kernel
theorem dX9_timesMet_22 : decode cX9_timesMet 22 = .ok (.getfield 40, 3) := by decide +kernel
theorem dX9_timesMet_25 : decode cX9_timesMet 25 = .ok (.iload_n 1, 1) := by decide +kernel
theorem dX9_timesMet_26 : decode cX9_timesMet 26 = .ok (.iload_n 2, 1) := by decide +kernel
theorem dX9_timesMet_27 : decode cX9_timesMet 27 = .ok (.invokevirtual 72, 3) := by decide +kernel
theorem dX9_timesMet_30 : decode cX9_timesMet 30 = .ok (.goto 8, 3) := by decide +kernel
theorem dX9_timesMet_33 : decode cX9_timesMet 33 = .ok (.aload_n 0, 1) := by decide +kernel
theorem dX9_timesMet_34 : decode cX9_timesMet 34 = .ok (.iconst 1, 1) := by decide +kernel
theorem dX9_timesMet_35 : decode cX9_timesMet 35 = .ok (.invokevirtual 393, 3) := by decide +kernel
theorem dX9_timesMet_38 : decode cX9_timesMet 38 = .ok (.ireturn, 1) := by decide +kernel
theorem dX9_isBout_0 : decode cX9_isBout 0 = .ok (.iload_n 1, 1) := by decide +kernel
theorem dX9_isBout_1 : decode cX9_isBout 1 = .ok (.iconst 0, 1) := by decide +kernel
theorem dX9_isBout_2 : decode cX9_isBout 2 = .ok (.aload_n 0, 1) := by decide +kernel
theorem dX9_isBout_3 : decode cX9_isBout 3 = .ok (.getfield 40, 3) := by decide +kernel
theorem dX9_isBout_6 : decode cX9_isBout 6 = .ok (.getfield 151, 3) := by decide +kernel
theorem dX9_isBout_9 : decode cX9_isBout 9 = .ok (.iconst 1, 1) := by decide +kernel
theorem dX9_isBout_10 : decode cX9_isBout 10 = .ok (.isub, 1) := by decide +kernel
theorem dX9_isBout_11 : decode cX9_isBout 11 = .ok (.invokestatic 68, 3) := by decide +kernel
theorem dX9_isBout_14 : decode cX9_isBout 14 = .ok (.ireturn, 1) := by decide +kernel
theorem dX9_redOf_0 : decode cX9_redOf 0 = .ok (.aload_n 0, 1) := by decide +kernel
theorem dX9_redOf_1 : decode cX9_redOf 1 = .ok (.iconst 0, 1) := by decide +kernel
theorem dX9_redOf_2 : decode cX9_redOf 2 = .ok (.putfield 62, 3) := by decide +kernel
theorem dX9_redOf_5 : decode cX9_redOf 5 = .ok (.aload_n 0, 1) := by decide +kernel
theorem dX9_redOf_6 : decode cX9_redOf 6 = .ok (.iload_n 1, 1) := by decide +kernel
theorem dX9_redOf_7 : decode cX9_redOf 7 = .ok (.invokevirtual 413, 3) := by decide +kernel
theorem dX9_redOf_10 : decode cX9_redOf 10 = .ok (.ifCond .eq 15, 3) := by decide +kernel
theorem dX9_redOf_13 : decode cX9_redOf 13 = .ok (.aload_n 0, 1) := by decide +kernel
theorem dX9_redOf_14 : decode cX9_redOf 14 = .ok (.getfield 40, 3) := by decide +kernel
theorem dX9_redOf_17 : decode cX9_redOf 17 = .ok (.getfield 163, 3) := by decide +kernel
theorem dX9_redOf_20 : decode cX9_redOf 20 = .ok (.iload_n 1, 1) := by decide +kernel
theorem dX9_redOf_21 : decode cX9_redOf 21 = .ok (.iaload, 1) := by decide +kernel
theorem dX9_redOf_22 : decode cX9_redOf 22 = .ok (.goto 8, 3) := by decide +kernel
theorem dX9_redOf_25 : decode cX9_redOf 25 = .ok (.aload_n 0, 1) := by decide +kernel
theorem dX9_redOf_26 : decode cX9_redOf 26 = .ok (.iconst 1, 1) := by decide +kernel
theorem dX9_redOf_27 : decode cX9_redOf 27 = .ok (.invokevirtual 393, 3) := by decide +kernel
theorem dX9_redOf_30 : decode cX9_redOf 30 = .ok (.ireturn, 1) := by decide +kernel
theorem dX9_blueOf_0 : decode cX9_blueOf 0 = .ok (.aload_n 0, 1) := by decide +kernel
theorem dX9_blueOf_1 : decode cX9_blueOf 1 = .ok (.iconst 0, 1) := by decide +kernel
theorem dX9_blueOf_2 : decode cX9_blueOf 2 = .ok (.putfield 62, 3) := by decide +kernel
theorem dX9_blueOf_5 : decode cX9_blueOf 5 = .ok (.aload_n 0, 1) := by decide +kernel
theorem dX9_blueOf_6 : decode cX9_blueOf 6 = .ok (.iload_n 1, 1) := by decide +kernel
theorem dX9_blueOf_7 : decode cX9_blueOf 7 = .ok (.invokevirtual 413, 3) := by decide +kernel
theorem dX9_blueOf_10 : decode cX9_blueOf 10 = .ok (.ifCond .eq 15, 3) := by decide +kernel
theorem dX9_blueOf_13 : decode cX9_blueOf 13 = .ok (.aload_n 0, 1) := by decide +kernel
theorem dX9_blueOf_14 : decode cX9_blueOf 14 = .ok (.getfield 40, 3) := by decide +kernel
theorem dX9_blueOf_17 : decode cX9_blueOf 17 = .ok (.getfield 166, 3) := by decide +kernel
theorem dX9_blueOf_20 : decode cX9_blueOf 20 = .ok (.iload_n 1, 1) := by decide +kernel
theorem dX9_blueOf_21 : decode cX9_blueOf 21 = .ok (.iaload, 1) := by decide +kernel
theorem dX9_blueOf_22 : decode cX9_blueOf 22 = .ok (.goto 8, 3) := by decide +kernel
theorem dX9_blueOf_25 : decode cX9_blueOf 25 = .ok (.aload_n 0, 1) := by decide +kernel
theorem dX9_blueOf_26 : decode cX9_blueOf 26 = .ok (.iconst 1, 1) := by decide +kernel
theorem dX9_blueOf_27 : decode cX9_blueOf 27 = .ok (.invokevirtual 393, 3) := by decide +kernel
theorem dX9_blueOf_30 : decode cX9_blueOf 30 = .ok (.ireturn, 1) := by decide +kernel
theorem dX9_outcomeOf_0 : decode cX9_outcomeOf 0 = .ok (.aload_n 0, 1) := by decide +kernel
theorem dX9_outcomeOf_1 : decode cX9_outcomeOf 1 = .ok (.iconst 0, 1) := by decide +kernel
theorem dX9_outcomeOf_2 : decode cX9_outcomeOf 2 = .ok (.putfield 62, 3) := by decide +kernel
theorem dX9_outcomeOf_5 : decode cX9_outcomeOf 5 = .ok (.aload_n 0, 1) := by decide +kernel
theorem dX9_outcomeOf_6 : decode cX9_outcomeOf 6 = .ok (.iload_n 1, 1) := by decide +kernel
theorem dX9_outcomeOf_7 : decode cX9_outcomeOf 7 = .ok (.invokevirtual 413, 3) := by decide +kernel
theorem dX9_outcomeOf_10 : decode cX9_outcomeOf 10 = .ok (.ifCond .ne 9, 3) := by decide +kernel
theorem dX9_outcomeOf_13 : decode cX9_outcomeOf 13 = .ok (.aload_n 0, 1) := by decide +kernel
theorem dX9_outcomeOf_14 : decode cX9_outcomeOf 14 = .ok (.iconst 1, 1) := by decide +kernel
theorem dX9_outcomeOf_15 : decode cX9_outcomeOf 15 = .ok (.invokevirtual 393, 3) := by decide +kernel
theorem dX9_outcomeOf_18 : decode cX9_outcomeOf 18 = .ok (.ireturn, 1) := by decide +kernel
theorem dX9_outcomeOf_19 : decode cX9_outcomeOf 19 = .ok (.aload_n 0, 1) := by decide +kernel
theorem dX9_outcomeOf_20 : decode cX9_outcomeOf 20 = .ok (.getfield 40, 3) := by decide +kernel
theorem dX9_outcomeOf_23 : decode cX9_outcomeOf 23 = .ok (.getfield 177, 3) := by decide +kernel
theorem dX9_outcomeOf_26 : decode cX9_outcomeOf 26 = .ok (.iload_n 1, 1) := by decide +kernel
theorem dX9_outcomeOf_27 : decode cX9_outcomeOf 27 = .ok (.iaload, 1) := by decide +kernel
theorem dX9_outcomeOf_28 : decode cX9_outcomeOf 28 = .ok (.iconst (-1), 1) := by decide +kernel
theorem dX9_outcomeOf_29 : decode cX9_outcomeOf 29 = .ok (.if_icmp .ne 11, 3) := by decide +kernel
theorem dX9_outcomeOf_32 : decode cX9_outcomeOf 32 = .ok (.aload_n 0, 1) := by decide +kernel
theorem dX9_outcomeOf_33 : decode cX9_outcomeOf 33 = .ok (.iconst 2, 1) := by decide +kernel
theorem dX9_outcomeOf_34 : decode cX9_outcomeOf 34 = .ok (.invokevirtual 393, 3) := by decide +kernel
theorem dX9_outcomeOf_37 : decode cX9_outcomeOf 37 = .ok (.goto 12, 3) := by decide +kernel
theorem dX9_outcomeOf_40 : decode cX9_outcomeOf 40 = .ok (.aload_n 0, 1) := by decide +kernel
theorem dX9_outcomeOf_41 : decode cX9_outcomeOf 41 = .ok (.getfield 40, 3) := by decide +kernel
theorem dX9_outcomeOf_44 : decode cX9_outcomeOf 44 = .ok (.getfield 177, 3) := by decide +kernel
theorem dX9_outcomeOf_47 : decode cX9_outcomeOf 47 = .ok (.iload_n 1, 1) := by decide +kernel
theorem dX9_outcomeOf_48 : decode cX9_outcomeOf 48 = .ok (.iaload, 1) := by decide +kernel
theorem dX9_outcomeOf_49 : decode cX9_outcomeOf 49 = .ok (.ireturn, 1) := by decide +kernel
theorem dX9_ruledOutcome_0 : decode cX9_ruledOutcome 0 = .ok (.aload_n 0, 1) := by decide +kernel
theorem dX9_ruledOutcome_1 : decode cX9_ruledOutcome 1 = .ok (.iconst 0, 1) := by decide +kernel
theorem dX9_ruledOutcome_2 : decode cX9_ruledOutcome 2 = .ok (.putfield 62, 3) := by decide +kernel
theorem dX9_ruledOutcome_5 : decode cX9_ruledOutcome 5 = .ok (.aload_n 0, 1) := by decide +kernel
theorem dX9_ruledOutcome_6 : decode cX9_ruledOutcome 6 = .ok (.iload_n 1, 1) := by decide +kernel
theorem dX9_ruledOutcome_7 : decode cX9_ruledOutcome 7 = .ok (.invokevirtual 413, 3) := by decide +kernel
theorem dX9_ruledOutcome_10 : decode cX9_ruledOutcome 10 = .ok (.ifCond .eq 15, 3) := by decide +kernel
theorem dX9_ruledOutcome_13 : decode cX9_ruledOutcome 13 = .ok (.aload_n 0, 1) := by decide +kernel
theorem dX9_ruledOutcome_14 : decode cX9_ruledOutcome 14 = .ok (.aload_n 0, 1) := by decide +kernel
theorem dX9_ruledOutcome_15 : decode cX9_ruledOutcome 15 = .ok (.getfield 40, 3) := by decide +kernel
theorem dX9_ruledOutcome_18 : decode cX9_ruledOutcome 18 = .ok (.iload_n 1, 1) := by decide +kernel
theorem dX9_ruledOutcome_19 : decode cX9_ruledOutcome 19 = .ok (.invokevirtual 201, 3) := by decide +kernel
theorem dX9_ruledOutcome_22 : decode cX9_ruledOutcome 22 = .ok (.goto 8, 3) := by decide +kernel
theorem dX9_ruledOutcome_25 : decode cX9_ruledOutcome 25 = .ok (.aload_n 0, 1) := by decide +kernel
theorem dX9_ruledOutcome_26 : decode cX9_ruledOutcome 26 = .ok (.iconst 1, 1) := by decide +kernel
theorem dX9_ruledOutcome_27 : decode cX9_ruledOutcome 27 = .ok (.invokevirtual 393, 3) := by decide +kernel
theorem dX9_ruledOutcome_30 : decode cX9_ruledOutcome 30 = .ok (.ireturn, 1) := by decide +kernel
theorem dX9_opponentOf_0 : decode cX9_opponentOf 0 = .ok (.aload_n 0, 1) := by decide +kernel
theorem dX9_opponentOf_1 : decode cX9_opponentOf 1 = .ok (.iconst 0, 1) := by decide +kernel
theorem dX9_opponentOf_2 : decode cX9_opponentOf 2 = .ok (.putfield 62, 3) := by decide +kernel
theorem dX9_opponentOf_5 : decode cX9_opponentOf 5 = .ok (.aload_n 0, 1) := by decide +kernel
theorem dX9_opponentOf_6 : decode cX9_opponentOf 6 = .ok (.iload_n 1, 1) := by decide +kernel
theorem dX9_opponentOf_7 : decode cX9_opponentOf 7 = .ok (.invokevirtual 403, 3) := by decide +kernel
theorem dX9_opponentOf_10 : decode cX9_opponentOf 10 = .ok (.ifCond .ne 9, 3) := by decide +kernel
theorem dX9_opponentOf_13 : decode cX9_opponentOf 13 = .ok (.aload_n 0, 1) := by decide +kernel
theorem dX9_opponentOf_14 : decode cX9_opponentOf 14 = .ok (.iconst 1, 1) := by decide +kernel
theorem dX9_opponentOf_15 : decode cX9_opponentOf 15 = .ok (.invokevirtual 393, 3) := by decide +kernel
theorem dX9_opponentOf_18 : decode cX9_opponentOf 18 = .ok (.ireturn, 1) := by decide +kernel
theorem dX9_opponentOf_19 : decode cX9_opponentOf 19 = .ok (.iconst 0, 1) := by decide +kernel
theorem dX9_opponentOf_20 : decode cX9_opponentOf 20 = .ok (.istore_n 2, 1) := by decide +kernel
theorem dX9_opponentOf_21 : decode cX9_opponentOf 21 = .ok (.iload_n 2, 1) := by decide +kernel
theorem dX9_opponentOf_22 : decode cX9_opponentOf 22 = .ok (.aload_n 0, 1) := by decide +kernel
theorem dX9_opponentOf_23 : decode cX9_opponentOf 23 = .ok (.getfield 40, 3) := by decide +kernel
theorem dX9_opponentOf_26 : decode cX9_opponentOf 26 = .ok (.getfield 151, 3) := by decide +kernel
theorem dX9_opponentOf_29 : decode cX9_opponentOf 29 = .ok (.if_icmp .ge 55, 3) := by decide +kernel
theorem dX9_opponentOf_32 : decode cX9_opponentOf 32 = .ok (.aload_n 0, 1) := by decide +kernel
theorem dX9_opponentOf_33 : decode cX9_opponentOf 33 = .ok (.getfield 40, 3) := by decide +kernel
theorem dX9_opponentOf_36 : decode cX9_opponentOf 36 = .ok (.getfield 163, 3) := by decide +kernel
theorem dX9_opponentOf_39 : decode cX9_opponentOf 39 = .ok (.iload_n 2, 1) := by decide +kernel
theorem dX9_opponentOf_40 : decode cX9_opponentOf 40 = .ok (.iaload, 1) := by decide +kernel
theorem dX9_opponentOf_41 : decode cX9_opponentOf 41 = .ok (.iload_n 1, 1) := by decide +kernel
theorem dX9_opponentOf_42 : decode cX9_opponentOf 42 = .ok (.if_icmp .ne 13, 3) := by decide +kernel
theorem dX9_opponentOf_45 : decode cX9_opponentOf 45 = .ok (.aload_n 0, 1) := by decide +kernel
theorem dX9_opponentOf_46 : decode cX9_opponentOf 46 = .ok (.getfield 40, 3) := by decide +kernel
theorem dX9_opponentOf_49 : decode cX9_opponentOf 49 = .ok (.getfield 166, 3) := by decide +kernel
theorem dX9_opponentOf_52 : decode cX9_opponentOf 52 = .ok (.iload_n 2, 1) := by decide +kernel
theorem dX9_opponentOf_53 : decode cX9_opponentOf 53 = .ok (.iaload, 1) := by decide +kernel
theorem dX9_opponentOf_54 : decode cX9_opponentOf 54 = .ok (.ireturn, 1) := by decide +kernel
theorem dX9_opponentOf_55 : decode cX9_opponentOf 55 = .ok (.aload_n 0, 1) := by decide +kernel
theorem dX9_opponentOf_56 : decode cX9_opponentOf 56 = .ok (.getfield 40, 3) := by decide +kernel
theorem dX9_opponentOf_59 : decode cX9_opponentOf 59 = .ok (.getfield 166, 3) := by decide +kernel
theorem dX9_opponentOf_62 : decode cX9_opponentOf 62 = .ok (.iload_n 2, 1) := by decide +kernel
theorem dX9_opponentOf_63 : decode cX9_opponentOf 63 = .ok (.iaload, 1) := by decide +kernel
theorem dX9_opponentOf_64 : decode cX9_opponentOf 64 = .ok (.iload_n 1, 1) := by decide +kernel
theorem dX9_opponentOf_65 : decode cX9_opponentOf 65 = .ok (.if_icmp .ne 13, 3) := by decide +kernel
theorem dX9_opponentOf_68 : decode cX9_opponentOf 68 = .ok (.aload_n 0, 1) := by decide +kernel
theorem dX9_opponentOf_69 : decode cX9_opponentOf 69 = .ok (.getfield 40, 3) := by decide +kernel
theorem dX9_opponentOf_72 : decode cX9_opponentOf 72 = .ok (.getfield 163, 3) := by decide +kernel
theorem dX9_opponentOf_75 : decode cX9_opponentOf 75 = .ok (.iload_n 2, 1) := by decide +kernel
theorem dX9_opponentOf_76 : decode cX9_opponentOf 76 = .ok (.iaload, 1) := by decide +kernel
theorem dX9_opponentOf_77 : decode cX9_opponentOf 77 = .ok (.ireturn, 1) := by decide +kernel
theorem dX9_opponentOf_78 : decode cX9_opponentOf 78 = .ok (.iinc 2 1, 3) := by decide +kernel
theorem dX9_opponentOf_81 : decode cX9_opponentOf 81 = .ok (.goto (-60), 3) := by decide +kernel
theorem dX9_opponentOf_84 : decode cX9_opponentOf 84 = .ok (.aload_n 0, 1) := by decide +kernel
theorem dX9_opponentOf_85 : decode cX9_opponentOf 85 = .ok (.iconst 2, 1) := by decide +kernel
theorem dX9_opponentOf_86 : decode cX9_opponentOf 86 = .ok (.invokevirtual 393, 3) := by decide +kernel
theorem dX9_opponentOf_89 : decode cX9_opponentOf 89 = .ok (.ireturn, 1) := by decide +kernel
theorem dX9_restingOne_0 : decode cX9_restingOne 0 = .ok (.aload_n 0, 1) := by decide +kernel
theorem dX9_restingOne_1 : decode cX9_restingOne 1 = .ok (.iconst 0, 1) := by decide +kernel
theorem dX9_restingOne_2 : decode cX9_restingOne 2 = .ok (.putfield 62, 3) := by decide +kernel
theorem dX9_restingOne_5 : decode cX9_restingOne 5 = .ok (.aload_n 0, 1) := by decide +kernel
theorem dX9_restingOne_6 : decode cX9_restingOne 6 = .ok (.getfield 40, 3) := by decide +kernel
theorem dX9_restingOne_9 : decode cX9_restingOne 9 = .ok (.getfield 154, 3) := by decide +kernel
theorem dX9_restingOne_12 : decode cX9_restingOne 12 = .ok (.iconst (-1), 1) := by decide +kernel
theorem dX9_restingOne_13 : decode cX9_restingOne 13 = .ok (.if_icmp .ne 11, 3) := by decide +kernel
theorem dX9_restingOne_16 : decode cX9_restingOne 16 = .ok (.aload_n 0, 1) := by decide +kernel
theorem dX9_restingOne_17 : decode cX9_restingOne 17 = .ok (.iconst 1, 1) := by decide +kernel
theorem dX9_restingOne_18 : decode cX9_restingOne 18 = .ok (.invokevirtual 393, 3) := by decide +kernel
theorem dX9_restingOne_21 : decode cX9_restingOne 21 = .ok (.goto 10, 3) := by decide +kernel
theorem dX9_restingOne_24 : decode cX9_restingOne 24 = .ok (.aload_n 0, 1) := by decide +kernel
theorem dX9_restingOne_25 : decode cX9_restingOne 25 = .ok (.getfield 40, 3) := by decide +kernel
theorem dX9_restingOne_28 : decode cX9_restingOne 28 = .ok (.getfield 154, 3) := by decide +kernel
theorem dX9_restingOne_31 : decode cX9_restingOne 31 = .ok (.ireturn, 1) := by decide +kernel
theorem dX9_pairRound_0 : decode cX9_pairRound 0 = .ok (.aload_n 0, 1) := by decide +kernel
theorem dX9_pairRound_1 : decode cX9_pairRound 1 = .ok (.iconst 0, 1) := by decide +kernel
theorem dX9_pairRound_2 : decode cX9_pairRound 2 = .ok (.putfield 62, 3) := by decide +kernel
theorem dX9_pairRound_5 : decode cX9_pairRound 5 = .ok (.aload_n 0, 1) := by decide +kernel
theorem dX9_pairRound_6 : decode cX9_pairRound 6 = .ok (.aload_n 0, 1) := by decide +kernel
theorem dX9_pairRound_7 : decode cX9_pairRound 7 = .ok (.getfield 40, 3) := by decide +kernel
theorem dX9_pairRound_10 : decode cX9_pairRound 10 = .ok (.invokevirtual 213, 3) := by decide +kernel
theorem dX9_pairRound_13 : decode cX9_pairRound 13 = .ok (.ifCond .ne 9, 3) := by decide +kernel
theorem dX9_pairRound_16 : decode cX9_pairRound 16 = .ok (.aload_n 0, 1) := by decide +kernel
theorem dX9_pairRound_17 : decode cX9_pairRound 17 = .ok (.iconst 1, 1) := by decide +kernel
theorem dX9_pairRound_18 : decode cX9_pairRound 18 = .ok (.invokevirtual 393, 3) := by decide +kernel
theorem dX9_pairRound_21 : decode cX9_pairRound 21 = .ok (.ireturn, 1) := by decide +kernel
theorem dX9_pairRound_22 : decode cX9_pairRound 22 = .ok (.aload_n 0, 1) := by decide +kernel
theorem dX9_pairRound_23 : decode cX9_pairRound 23 = .ok (.aload_n 0, 1) := by decide +kernel
theorem dX9_pairRound_24 : decode cX9_pairRound 24 = .ok (.getfield 40, 3) := by decide +kernel
theorem dX9_pairRound_27 : decode cX9_pairRound 27 = .ok (.invokevirtual 217, 3) := by decide +kernel
theorem dX9_pairRound_30 : decode cX9_pairRound 30 = .ok (.aload_n 0, 1) := by decide +kernel
theorem dX9_pairRound_31 : decode cX9_pairRound 31 = .ok (.getfield 40, 3) := by decide +kernel
theorem dX9_pairRound_34 : decode cX9_pairRound 34 = .ok (.getfield 151, 3) := by decide +kernel
theorem dX9_pairRound_37 : decode cX9_pairRound 37 = .ok (.ireturn, 1) := by decide +kernel
theorem dX9_tell__0 : decode cX9_tell_ 0 = .ok (.aload_n 0, 1) := by decide +kernel
theorem dX9_tell__1 : decode cX9_tell_ 1 = .ok (.iconst 0, 1) := by decide +kernel
theorem dX9_tell__2 : decode cX9_tell_ 2 = .ok (.putfield 62, 3) := by decide +kernel
theorem dX9_tell__5 : decode cX9_tell_ 5 = .ok (.aload_n 0, 1) := by decide +kernel
theorem dX9_tell__6 : decode cX9_tell_ 6 = .ok (.iload_n 1, 1) := by decide +kernel
theorem dX9_tell__7 : decode cX9_tell_ 7 = .ok (.invokevirtual 413, 3) := by decide +kernel
theorem dX9_tell__10 : decode cX9_tell_ 10 = .ok (.ifCond .ne 9, 3) := by decide +kernel
theorem dX9_tell__13 : decode cX9_tell_ 13 = .ok (.aload_n 0, 1) := by decide +kernel
theorem dX9_tell__14 : decode cX9_tell_ 14 = .ok (.iconst 1, 1) := by decide +kernel
theorem dX9_tell__15 : decode cX9_tell_ 15 = .ok (.invokevirtual 393, 3) := by decide +kernel
theorem dX9_tell__18 : decode cX9_tell_ 18 = .ok (.ireturn, 1) := by decide +kernel
theorem dX9_tell__19 : decode cX9_tell_ 19 = .ok (.iload_n 2, 1) := by decide +kernel
theorem dX9_tell__20 : decode cX9_tell_ 20 = .ok (.iconst 0, 1) := by decide +kernel
theorem dX9_tell__21 : decode cX9_tell_ 21 = .ok (.iconst 2, 1) := by decide +kernel
theorem dX9_tell__22 : decode cX9_tell_ 22 = .ok (.invokestatic 68, 3) := by decide +kernel
theorem dX9_tell__25 : decode cX9_tell_ 25 = .ok (.ifCond .ne 9, 3) := by decide +kernel
theorem dX9_tell__28 : decode cX9_tell_ 28 = .ok (.aload_n 0, 1) := by decide +kernel
theorem dX9_tell__29 : decode cX9_tell_ 29 = .ok (.iconst 2, 1) := by decide +kernel
theorem dX9_tell__30 : decode cX9_tell_ 30 = .ok (.invokevirtual 393, 3) := by decide +kernel
theorem dX9_tell__33 : decode cX9_tell_ 33 = .ok (.ireturn, 1) := by decide +kernel
theorem dX9_tell__34 : decode cX9_tell_ 34 = .ok (.aload_n 0, 1) := by decide +kernel
theorem dX9_tell__35 : decode cX9_tell_ 35 = .ok (.getfield 40, 3) := by decide +kernel
theorem dX9_tell__38 : decode cX9_tell_ 38 = .ok (.getfield 177, 3) := by decide +kernel
theorem dX9_tell__41 : decode cX9_tell_ 41 = .ok (.iload_n 1, 1) := by decide +kernel
theorem dX9_tell__42 : decode cX9_tell_ 42 = .ok (.iaload, 1) := by decide +kernel
theorem dX9_tell__43 : decode cX9_tell_ 43 = .ok (.iconst (-1), 1) := by decide +kernel
theorem dX9_tell__44 : decode cX9_tell_ 44 = .ok (.if_icmp .eq 9, 3) := by decide +kernel
theorem dX9_tell__47 : decode cX9_tell_ 47 = .ok (.aload_n 0, 1) := by decide +kernel
theorem dX9_tell__48 : decode cX9_tell_ 48 = .ok (.iconst 3, 1) := by decide +kernel
theorem dX9_tell__49 : decode cX9_tell_ 49 = .ok (.invokevirtual 393, 3) := by decide +kernel
theorem dX9_tell__52 : decode cX9_tell_ 52 = .ok (.ireturn, 1) := by decide +kernel
theorem dX9_tell__53 : decode cX9_tell_ 53 = .ok (.aload_n 0, 1) := by decide +kernel
theorem dX9_tell__54 : decode cX9_tell_ 54 = .ok (.aload_n 0, 1) := by decide +kernel
theorem dX9_tell__55 : decode cX9_tell_ 55 = .ok (.getfield 40, 3) := by decide +kernel
theorem dX9_tell__58 : decode cX9_tell_ 58 = .ok (.iload_n 1, 1) := by decide +kernel
theorem dX9_tell__59 : decode cX9_tell_ 59 = .ok (.iload_n 2, 1) := by decide +kernel
theorem dX9_tell__60 : decode cX9_tell_ 60 = .ok (.invokevirtual 204, 3) := by decide +kernel
theorem dX9_tell__63 : decode cX9_tell_ 63 = .ok (.aload_n 0, 1) := by decide +kernel
theorem dX9_tell__64 : decode cX9_tell_ 64 = .ok (.getfield 40, 3) := by decide +kernel
theorem dX9_tell__67 : decode cX9_tell_ 67 = .ok (.invokevirtual 97, 3) := by decide +kernel
theorem dX9_tell__70 : decode cX9_tell_ 70 = .ok (.ireturn, 1) := by decide +kernel
theorem dX9_tellByRules_0 : decode cX9_tellByRules 0 = .ok (.aload_n 0, 1) := by decide +kernel
theorem dX9_tellByRules_1 : decode cX9_tellByRules 1 = .ok (.iconst 0, 1) := by decide +kernel
theorem dX9_tellByRules_2 : decode cX9_tellByRules 2 = .ok (.putfield 62, 3) := by decide +kernel
theorem dX9_tellByRules_5 : decode cX9_tellByRules 5 = .ok (.aload_n 0, 1) := by decide +kernel
theorem dX9_tellByRules_6 : decode cX9_tellByRules 6 = .ok (.getfield 40, 3) := by decide +kernel
theorem dX9_tellByRules_9 : decode cX9_tellByRules 9 = .ok (.invokevirtual 97, 3) := by decide +kernel
theorem dX9_tellByRules_12 : decode cX9_tellByRules 12 = .ok (.ifCond .ne 11, 3) := by decide +kernel
theorem dX9_tellByRules_15 : decode cX9_tellByRules 15 = .ok (.aload_n 0, 1) := by decide +kernel
theorem dX9_tellByRules_16 : decode cX9_tellByRules 16 = .ok (.iconst 1, 1) := by decide +kernel
theorem dX9_tellByRules_17 : decode cX9_tellByRules 17 = .ok (.invokevirtual 393, 3) := by decide +kernel
theorem dX9_tellByRules_20 : decode cX9_tellByRules 20 = .ok (.goto 11, 3) := by decide +kernel
theorem dX9_tellByRules_23 : decode cX9_tellByRules 23 = .ok (.aload_n 0, 1) := by decide +kernel
theorem dX9_tellByRules_24 : decode cX9_tellByRules 24 = .ok (.aload_n 0, 1) := by decide +kernel
theorem dX9_tellByRules_25 : decode cX9_tellByRules 25 = .ok (.getfield 40, 3) := by decide +kernel
theorem dX9_tellByRules_28 : decode cX9_tellByRules 28 = .ok (.invokevirtual 210, 3) := by decide +kernel
theorem dX9_tellByRules_31 : decode cX9_tellByRules 31 = .ok (.ireturn, 1) := by decide +kernel
theorem dX9_turnIn_0 : decode cX9_turnIn 0 = .ok (.aload_n 0, 1) := by decide +kernel
theorem dX9_turnIn_1 : decode cX9_turnIn 1 = .ok (.iconst 0, 1) := by decide +kernel
theorem dX9_turnIn_2 : decode cX9_turnIn 2 = .ok (.putfield 62, 3) := by decide +kernel
theorem dX9_turnIn_5 : decode cX9_turnIn 5 = .ok (.aload_n 0, 1) := by decide +kernel
theorem dX9_turnIn_6 : decode cX9_turnIn 6 = .ok (.iload_n 1, 1) := by decide +kernel
theorem dX9_turnIn_7 : decode cX9_turnIn 7 = .ok (.invokevirtual 403, 3) := by decide +kernel
theorem dX9_turnIn_10 : decode cX9_turnIn 10 = .ok (.ifCond .ne 9, 3) := by decide +kernel
theorem dX9_turnIn_13 : decode cX9_turnIn 13 = .ok (.aload_n 0, 1) := by decide +kernel
theorem dX9_turnIn_14 : decode cX9_turnIn 14 = .ok (.iconst 1, 1) := by decide +kernel
theorem dX9_turnIn_15 : decode cX9_turnIn 15 = .ok (.invokevirtual 410, 3) := by decide +kernel
theorem dX9_turnIn_18 : decode cX9_turnIn 18 = .ok (.ireturn, 1) := by decide +kernel
theorem dX9_turnIn_19 : decode cX9_turnIn 19 = .ok (.aload_n 0, 1) := by decide +kernel
theorem dX9_turnIn_20 : decode cX9_turnIn 20 = .ok (.getfield 40, 3) := by decide +kernel
theorem dX9_turnIn_23 : decode cX9_turnIn 23 = .ok (.getfield 93, 3) := by decide +kernel
theorem dX9_turnIn_26 : decode cX9_turnIn 26 = .ok (.iload_n 1, 1) := by decide +kernel
theorem dX9_turnIn_27 : decode cX9_turnIn 27 = .ok (.aload_n 0, 1) := by decide +kernel
theorem dX9_turnIn_28 : decode cX9_turnIn 28 = .ok (.getfield 40, 3) := by decide +kernel
theorem dX9_turnIn_31 : decode cX9_turnIn 31 = .ok (.getfield 93, 3) := by decide +kernel
theorem dX9_turnIn_34 : decode cX9_turnIn 34 = .ok (.iload_n 1, 1) := by decide +kernel
theorem dX9_turnIn_35 : decode cX9_turnIn 35 = .ok (.baload, 1) := by decide +kernel
theorem dX9_turnIn_36 : decode cX9_turnIn 36 = .ok (.ifCond .ne 7, 3) := by decide +kernel
theorem dX9_turnIn_39 : decode cX9_turnIn 39 = .ok (.iconst 1, 1) := by decide +kernel
theorem dX9_turnIn_40 : decode cX9_turnIn 40 = .ok (.goto 4, 3) := by decide +kernel
theorem dX9_turnIn_43 : decode cX9_turnIn 43 = .ok (.iconst 0, 1) := by decide +kernel
theorem dX9_turnIn_44 : decode cX9_turnIn 44 = .ok (.bastore, 1) := by decide +kernel
theorem dX9_turnIn_45 : decode cX9_turnIn 45 = .ok (.aload_n 0, 1) := by decide +kernel
theorem dX9_turnIn_46 : decode cX9_turnIn 46 = .ok (.getfield 40, 3) := by decide +kernel
theorem dX9_turnIn_49 : decode cX9_turnIn 49 = .ok (.getfield 93, 3) := by decide +kernel
theorem dX9_turnIn_52 : decode cX9_turnIn 52 = .ok (.iload_n 1, 1) := by decide +kernel
theorem dX9_turnIn_53 : decode cX9_turnIn 53 = .ok (.baload, 1) := by decide +kernel
theorem dX9_turnIn_54 : decode cX9_turnIn 54 = .ok (.ifCond .ne 7, 3) := by decide +kernel
theorem dX9_turnIn_57 : decode cX9_turnIn 57 = .ok (.iconst 1, 1) := by decide +kernel
theorem dX9_turnIn_58 : decode cX9_turnIn 58 = .ok (.goto 4, 3) := by decide +kernel
theorem dX9_turnIn_61 : decode cX9_turnIn 61 = .ok (.iconst 0, 1) := by decide +kernel
theorem dX9_turnIn_62 : decode cX9_turnIn 62 = .ok (.ireturn, 1) := by decide +kernel
theorem dX9_nextOf_0 : decode cX9_nextOf 0 = .ok (.aload_n 0, 1) := by decide +kernel
theorem dX9_nextOf_1 : decode cX9_nextOf 1 = .ok (.aload_n 0, 1) := by decide +kernel
theorem dX9_nextOf_2 : decode cX9_nextOf 2 = .ok (.getfield 40, 3) := by decide +kernel
theorem dX9_nextOf_5 : decode cX9_nextOf 5 = .ok (.invokevirtual 148, 3) := by decide +kernel
theorem dX9_nextOf_8 : decode cX9_nextOf 8 = .ok (.istore_n 2, 1) := by decide +kernel
theorem dX9_nextOf_9 : decode cX9_nextOf 9 = .ok (.iconst 0, 1) := by decide +kernel
theorem dX9_nextOf_10 : decode cX9_nextOf 10 = .ok (.istore_n 3, 1) := by decide +kernel
theorem dX9_nextOf_11 : decode cX9_nextOf 11 = .ok (.iload_n 3, 1) := by decide +kernel
theorem dX9_nextOf_12 : decode cX9_nextOf 12 = .ok (.iload_n 2, 1) := by decide +kernel
theorem dX9_nextOf_13 : decode cX9_nextOf 13 = .ok (.if_icmp .ge 43, 3) := by decide +kernel
theorem dX9_nextOf_16 : decode cX9_nextOf 16 = .ok (.aload_n 0, 1) := by decide +kernel
theorem dX9_nextOf_17 : decode cX9_nextOf 17 = .ok (.getfield 53, 3) := by decide +kernel
theorem dX9_nextOf_20 : decode cX9_nextOf 20 = .ok (.iload_n 3, 1) := by decide +kernel
theorem dX9_nextOf_21 : decode cX9_nextOf 21 = .ok (.iaload, 1) := by decide +kernel
theorem dX9_nextOf_22 : decode cX9_nextOf 22 = .ok (.iload_n 1, 1) := by decide +kernel
theorem dX9_nextOf_23 : decode cX9_nextOf 23 = .ok (.if_icmp .ne 10, 3) := by decide +kernel
theorem dX9_nextOf_26 : decode cX9_nextOf 26 = .ok (.aload_n 0, 1) := by decide +kernel
theorem dX9_nextOf_27 : decode cX9_nextOf 27 = .ok (.getfield 56, 3) := by decide +kernel
theorem dX9_nextOf_30 : decode cX9_nextOf 30 = .ok (.iload_n 3, 1) := by decide +kernel
theorem dX9_nextOf_31 : decode cX9_nextOf 31 = .ok (.iaload, 1) := by decide +kernel
theorem dX9_nextOf_32 : decode cX9_nextOf 32 = .ok (.ireturn, 1) := by decide +kernel
theorem dX9_nextOf_33 : decode cX9_nextOf 33 = .ok (.aload_n 0, 1) := by decide +kernel
theorem dX9_nextOf_34 : decode cX9_nextOf 34 = .ok (.getfield 56, 3) := by decide +kernel
theorem dX9_nextOf_37 : decode cX9_nextOf 37 = .ok (.iload_n 3, 1) := by decide +kernel
theorem dX9_nextOf_38 : decode cX9_nextOf 38 = .ok (.iaload, 1) := by decide +kernel
theorem dX9_nextOf_39 : decode cX9_nextOf 39 = .ok (.iload_n 1, 1) := by decide +kernel
theorem dX9_nextOf_40 : decode cX9_nextOf 40 = .ok (.if_icmp .ne 10, 3) := by decide +kernel
theorem dX9_nextOf_43 : decode cX9_nextOf 43 = .ok (.aload_n 0, 1) := by decide +kernel
theorem dX9_nextOf_44 : decode cX9_nextOf 44 = .ok (.getfield 53, 3) := by decide +kernel
theorem dX9_nextOf_47 : decode cX9_nextOf 47 = .ok (.iload_n 3, 1) := by decide +kernel
theorem dX9_nextOf_48 : decode cX9_nextOf 48 = .ok (.iaload, 1) := by decide +kernel
theorem dX9_nextOf_49 : decode cX9_nextOf 49 = .ok (.ireturn, 1) := by decide +kernel
theorem dX9_nextOf_50 : decode cX9_nextOf 50 = .ok (.iinc 3 1, 3) := by decide +kernel
theorem dX9_nextOf_53 : decode cX9_nextOf 53 = .ok (.goto (-42), 3) := by decide +kernel
theorem dX9_nextOf_56 : decode cX9_nextOf 56 = .ok (.aload_n 0, 1) := by decide +kernel
theorem dX9_nextOf_57 : decode cX9_nextOf 57 = .ok (.iconst 2, 1) := by decide +kernel
theorem dX9_nextOf_58 : decode cX9_nextOf 58 = .ok (.invokevirtual 393, 3) := by decide +kernel
theorem dX9_nextOf_61 : decode cX9_nextOf 61 = .ok (.ireturn, 1) := by decide +kernel
theorem dX9_nextOpponentOf_0 : decode cX9_nextOpponentOf 0 = .ok (.aload_n 0, 1) := by decide +kernel
theorem dX9_nextOpponentOf_1 : decode cX9_nextOpponentOf 1 = .ok (.iconst 0, 1) := by decide +kernel
theorem dX9_nextOpponentOf_2 : decode cX9_nextOpponentOf 2 = .ok (.putfield 62, 3) := by decide +kernel
theorem dX9_nextOpponentOf_5 : decode cX9_nextOpponentOf 5 = .ok (.aload_n 0, 1) := by decide +kernel
theorem dX9_nextOpponentOf_6 : decode cX9_nextOpponentOf 6 = .ok (.iload_n 1, 1) := by decide +kernel
theorem dX9_nextOpponentOf_7 : decode cX9_nextOpponentOf 7 = .ok (.invokevirtual 403, 3) := by decide +kernel
theorem dX9_nextOpponentOf_10 : decode cX9_nextOpponentOf 10 = .ok (.ifCond .ne 9, 3) := by decide +kernel
theorem dX9_nextOpponentOf_13 : decode cX9_nextOpponentOf 13 = .ok (.aload_n 0, 1) := by decide +kernel
theorem dX9_nextOpponentOf_14 : decode cX9_nextOpponentOf 14 = .ok (.iconst 1, 1) := by decide +kernel
theorem dX9_nextOpponentOf_15 : decode cX9_nextOpponentOf 15 = .ok (.invokevirtual 393, 3) := by decide +kernel
theorem dX9_nextOpponentOf_18 : decode cX9_nextOpponentOf 18 = .ok (.ireturn, 1) := by decide +kernel
theorem dX9_nextOpponentOf_19 : decode cX9_nextOpponentOf 19 = .ok (.aload_n 0, 1) := by decide +kernel
theorem dX9_nextOpponentOf_20 : decode cX9_nextOpponentOf 20 = .ok (.aload_n 0, 1) := by decide +kernel
theorem dX9_nextOpponentOf_21 : decode cX9_nextOpponentOf 21 = .ok (.getfield 40, 3) := by decide +kernel
theorem dX9_nextOpponentOf_24 : decode cX9_nextOpponentOf 24 = .ok (.invokevirtual 213, 3) := by decide +kernel
theorem dX9_nextOpponentOf_27 : decode cX9_nextOpponentOf 27 = .ok (.ifCond .eq 11, 3) := by decide +kernel
theorem dX9_nextOpponentOf_30 : decode cX9_nextOpponentOf 30 = .ok (.aload_n 0, 1) := by decide +kernel
theorem dX9_nextOpponentOf_31 : decode cX9_nextOpponentOf 31 = .ok (.iload_n 1, 1) := by decide +kernel
theorem dX9_nextOpponentOf_32 : decode cX9_nextOpponentOf 32 = .ok (.invokevirtual 416, 3) := by decide +kernel
theorem dX9_nextOpponentOf_35 : decode cX9_nextOpponentOf 35 = .ok (.goto 8, 3) := by decide +kernel
theorem dX9_nextOpponentOf_38 : decode cX9_nextOpponentOf 38 = .ok (.aload_n 0, 1) := by decide +kernel
theorem dX9_nextOpponentOf_39 : decode cX9_nextOpponentOf 39 = .ok (.iconst 2, 1) := by decide +kernel
theorem dX9_nextOpponentOf_40 : decode cX9_nextOpponentOf 40 = .ok (.invokevirtual 393, 3) := by decide +kernel
theorem dX9_nextOpponentOf_43 : decode cX9_nextOpponentOf 43 = .ok (.ireturn, 1) := by decide +kernel
theorem dX9_nextRematches_0 : decode cX9_nextRematches 0 = .ok (.aload_n 0, 1) := by decide +kernel
theorem dX9_nextRematches_1 : decode cX9_nextRematches 1 = .ok (.iconst 0, 1) := by decide +kernel
theorem dX9_nextRematches_2 : decode cX9_nextRematches 2 = .ok (.putfield 62, 3) := by decide +kernel
theorem dX9_nextRematches_5 : decode cX9_nextRematches 5 = .ok (.aload_n 0, 1) := by decide +kernel
theorem dX9_nextRematches_6 : decode cX9_nextRematches 6 = .ok (.aload_n 0, 1) := by decide +kernel
theorem dX9_nextRematches_7 : decode cX9_nextRematches 7 = .ok (.getfield 40, 3) := by decide +kernel
theorem dX9_nextRematches_10 : decode cX9_nextRematches 10 = .ok (.invokevirtual 213, 3) := by decide +kernel
theorem dX9_nextRematches_13 : decode cX9_nextRematches 13 = .ok (.ifCond .ne 9, 3) := by decide +kernel
theorem dX9_nextRematches_16 : decode cX9_nextRematches 16 = .ok (.aload_n 0, 1) := by decide +kernel
theorem dX9_nextRematches_17 : decode cX9_nextRematches 17 = .ok (.iconst 1, 1) := by decide +kernel
theorem dX9_nextRematches_18 : decode cX9_nextRematches 18 = .ok (.invokevirtual 393, 3) := by decide +kernel
theorem dX9_nextRematches_21 : decode cX9_nextRematches 21 = .ok (.ireturn, 1) := by decide +kernel
theorem dX9_nextRematches_22 : decode cX9_nextRematches 22 = .ok (.aload_n 0, 1) := by decide +kernel
theorem dX9_nextRematches_23 : decode cX9_nextRematches 23 = .ok (.aload_n 0, 1) := by decide +kernel
theorem dX9_nextRematches_24 : decode cX9_nextRematches 24 = .ok (.getfield 40, 3) := by decide +kernel
theorem dX9_nextRematches_27 : decode cX9_nextRematches 27 = .ok (.invokevirtual 148, 3) := by decide +kernel
theorem dX9_nextRematches_30 : decode cX9_nextRematches 30 = .ok (.istore_n 1, 1) := by decide +kernel
theorem dX9_nextRematches_31 : decode cX9_nextRematches 31 = .ok (.iconst 0, 1) := by decide +kernel
theorem dX9_nextRematches_32 : decode cX9_nextRematches 32 = .ok (.istore_n 2, 1) := by decide +kernel
theorem dX9_nextRematches_33 : decode cX9_nextRematches 33 = .ok (.iconst 0, 1) := by decide +kernel
theorem dX9_nextRematches_34 : decode cX9_nextRematches 34 = .ok (.istore_n 3, 1) := by decide +kernel
theorem dX9_nextRematches_35 : decode cX9_nextRematches 35 = .ok (.iload_n 3, 1) := by decide +kernel
theorem dX9_nextRematches_36 : decode cX9_nextRematches 36 = .ok (.iload_n 1, 1) := by decide +kernel
theorem dX9_nextRematches_37 : decode cX9_nextRematches 37 = .ok (.if_icmp .ge 39, 3) := by decide +kernel
theorem dX9_nextRematches_40 : decode cX9_nextRematches 40 = .ok (.iload_n 2, 1) := by decide +kernel
theorem dX9_nextRematches_41 : decode cX9_nextRematches 41 = .ok (.aload_n 0, 1) := by decide +kernel
theorem dX9_nextRematches_42 : decode cX9_nextRematches 42 = .ok (.getfield 40, 3) := by decide +kernel
theorem dX9_nextRematches_45 : decode cX9_nextRematches 45 = .ok (.aload_n 0, 1) := by decide +kernel
theorem dX9_nextRematches_46 : decode cX9_nextRematches 46 = .ok (.getfield 53, 3) := by decide +kernel
theorem dX9_nextRematches_49 : decode cX9_nextRematches 49 = .ok (.iload_n 3, 1) := by decide +kernel
theorem dX9_nextRematches_50 : decode cX9_nextRematches 50 = .ok (.iaload, 1) := by decide +kernel
theorem dX9_nextRematches_51 : decode cX9_nextRematches 51 = .ok (.aload_n 0, 1) := by decide +kernel
theorem dX9_nextRematches_52 : decode cX9_nextRematches 52 = .ok (.getfield 56, 3) := by decide +kernel
theorem dX9_nextRematches_55 : decode cX9_nextRematches 55 = .ok (.iload_n 3, 1) := by decide +kernel
theorem dX9_nextRematches_56 : decode cX9_nextRematches 56 = .ok (.iaload, 1) := by decide +kernel
theorem dX9_nextRematches_57 : decode cX9_nextRematches 57 = .ok (.invokevirtual 72, 3) := by decide +kernel
theorem dX9_nextRematches_60 : decode cX9_nextRematches 60 = .ok (.ifCond .le 7, 3) := by decide +kernel
theorem dX9_nextRematches_63 : decode cX9_nextRematches 63 = .ok (.iconst 1, 1) := by decide +kernel
theorem dX9_nextRematches_64 : decode cX9_nextRematches 64 = .ok (.goto 4, 3) := by decide +kernel
theorem dX9_nextRematches_67 : decode cX9_nextRematches 67 = .ok (.iconst 0, 1) := by decide +kernel
theorem dX9_nextRematches_68 : decode cX9_nextRematches 68 = .ok (.iadd, 1) := by decide +kernel
theorem dX9_nextRematches_69 : decode cX9_nextRematches 69 = .ok (.istore_n 2, 1) := by decide +kernel
theorem dX9_nextRematches_70 : decode cX9_nextRematches 70 = .ok (.iinc 3 1, 3) := by decide +kernel
theorem dX9_nextRematches_73 : decode cX9_nextRematches 73 = .ok (.goto (-38), 3) := by decide +kernel
theorem dX9_nextRematches_76 : decode cX9_nextRematches 76 = .ok (.iload_n 2, 1) := by decide +kernel
theorem dX9_nextRematches_77 : decode cX9_nextRematches 77 = .ok (.ireturn, 1) := by decide +kernel
theorem dX9_leaderAfter_0 : decode cX9_leaderAfter 0 = .ok (.aload_n 0, 1) := by decide +kernel
theorem dX9_leaderAfter_1 : decode cX9_leaderAfter 1 = .ok (.iconst 0, 1) := by decide +kernel
theorem dX9_leaderAfter_2 : decode cX9_leaderAfter 2 = .ok (.putfield 62, 3) := by decide +kernel
theorem dX9_leaderAfter_5 : decode cX9_leaderAfter 5 = .ok (.iload_n 1, 1) := by decide +kernel
theorem dX9_leaderAfter_6 : decode cX9_leaderAfter 6 = .ok (.iconst 1, 1) := by decide +kernel
theorem dX9_leaderAfter_7 : decode cX9_leaderAfter 7 = .ok (.bipush 10, 2) := by decide +kernel
theorem dX9_leaderAfter_9 : decode cX9_leaderAfter 9 = .ok (.invokestatic 68, 3) := by decide +kernel
theorem dX9_leaderAfter_12 : decode cX9_leaderAfter 12 = .ok (.ifCond .ne 9, 3) := by decide +kernel
theorem dX9_leaderAfter_15 : decode cX9_leaderAfter 15 = .ok (.aload_n 0, 1) := by decide +kernel
theorem dX9_leaderAfter_16 : decode cX9_leaderAfter 16 = .ok (.iconst 1, 1) := by decide +kernel
theorem dX9_leaderAfter_17 : decode cX9_leaderAfter 17 = .ok (.invokevirtual 393, 3) := by decide +kernel
theorem dX9_leaderAfter_20 : decode cX9_leaderAfter 20 = .ok (.ireturn, 1) := by decide +kernel
theorem dX9_leaderAfter_21 : decode cX9_leaderAfter 21 = .ok (.aload_n 0, 1) := by decide +kernel
theorem dX9_leaderAfter_22 : decode cX9_leaderAfter 22 = .ok (.getfield 20, 3) := by decide +kernel
theorem dX9_leaderAfter_25 : decode cX9_leaderAfter 25 = .ok (.getfield 65, 3) := by decide +kernel
theorem dX9_leaderAfter_28 : decode cX9_leaderAfter 28 = .ok (.ifCond .ne 9, 3) := by decide +kernel
theorem dX9_leaderAfter_31 : decode cX9_leaderAfter 31 = .ok (.aload_n 0, 1) := by decide +kernel
theorem dX9_leaderAfter_32 : decode cX9_leaderAfter 32 = .ok (.iconst 2, 1) := by decide +kernel
theorem dX9_leaderAfter_33 : decode cX9_leaderAfter 33 = .ok (.invokevirtual 393, 3) := by decide +kernel
theorem dX9_leaderAfter_36 : decode cX9_leaderAfter 36 = .ok (.ireturn, 1) := by decide +kernel
theorem dX9_leaderAfter_37 : decode cX9_leaderAfter 37 = .ok (.aload_n 0, 1) := by decide +kernel
theorem dX9_leaderAfter_38 : decode cX9_leaderAfter 38 = .ok (.iload_n 1, 1) := by decide +kernel
theorem dX9_leaderAfter_39 : decode cX9_leaderAfter 39 = .ok (.invokevirtual 419, 3) := by decide +kernel
theorem dX9_leaderAfter_42 : decode cX9_leaderAfter 42 = .ok (.aload_n 0, 1) := by decide +kernel
theorem dX9_leaderAfter_43 : decode cX9_leaderAfter 43 = .ok (.aload_n 0, 1) := by decide +kernel
theorem dX9_leaderAfter_44 : decode cX9_leaderAfter 44 = .ok (.getfield 44, 3) := by decide +kernel
theorem dX9_leaderAfter_47 : decode cX9_leaderAfter 47 = .ok (.iconst 0, 1) := by decide +kernel
theorem dX9_leaderAfter_48 : decode cX9_leaderAfter 48 = .ok (.invokevirtual 111, 3) := by decide +kernel
theorem dX9_leaderAfter_51 : decode cX9_leaderAfter 51 = .ok (.ireturn, 1) := by decide +kernel
theorem dX9_pointsAfter_0 : decode cX9_pointsAfter 0 = .ok (.aload_n 0, 1) := by decide +kernel
theorem dX9_pointsAfter_1 : decode cX9_pointsAfter 1 = .ok (.iconst 0, 1) := by decide +kernel
theorem dX9_pointsAfter_2 : decode cX9_pointsAfter 2 = .ok (.putfield 62, 3) := by decide +kernel
theorem dX9_pointsAfter_5 : decode cX9_pointsAfter 5 = .ok (.aload_n 0, 1) := by decide +kernel
theorem dX9_pointsAfter_6 : decode cX9_pointsAfter 6 = .ok (.iload_n 1, 1) := by decide +kernel
theorem dX9_pointsAfter_7 : decode cX9_pointsAfter 7 = .ok (.invokevirtual 403, 3) := by decide +kernel
theorem dX9_pointsAfter_10 : decode cX9_pointsAfter 10 = .ok (.ifCond .ne 9, 3) := by decide +kernel
theorem dX9_pointsAfter_13 : decode cX9_pointsAfter 13 = .ok (.aload_n 0, 1) := by decide +kernel
theorem dX9_pointsAfter_14 : decode cX9_pointsAfter 14 = .ok (.iconst 1, 1) := by decide +kernel
theorem dX9_pointsAfter_15 : decode cX9_pointsAfter 15 = .ok (.invokevirtual 393, 3) := by decide +kernel
theorem dX9_pointsAfter_18 : decode cX9_pointsAfter 18 = .ok (.ireturn, 1) := by decide +kernel
theorem dX9_pointsAfter_19 : decode cX9_pointsAfter 19 = .ok (.iload_n 2, 1) := by decide +kernel
theorem dX9_pointsAfter_20 : decode cX9_pointsAfter 20 = .ok (.iconst 1, 1) := by decide +kernel
theorem dX9_pointsAfter_21 : decode cX9_pointsAfter 21 = .ok (.bipush 10, 2) := by decide +kernel
theorem dX9_pointsAfter_23 : decode cX9_pointsAfter 23 = .ok (.invokestatic 68, 3) := by decide +kernel
theorem dX9_pointsAfter_26 : decode cX9_pointsAfter 26 = .ok (.ifCond .ne 9, 3) := by decide +kernel
theorem dX9_pointsAfter_29 : decode cX9_pointsAfter 29 = .ok (.aload_n 0, 1) := by decide +kernel
theorem dX9_pointsAfter_30 : decode cX9_pointsAfter 30 = .ok (.iconst 2, 1) := by decide +kernel
theorem dX9_pointsAfter_31 : decode cX9_pointsAfter 31 = .ok (.invokevirtual 393, 3) := by decide +kernel
theorem dX9_pointsAfter_34 : decode cX9_pointsAfter 34 = .ok (.ireturn, 1) := by decide +kernel
theorem dX9_pointsAfter_35 : decode cX9_pointsAfter 35 = .ok (.aload_n 0, 1) := by decide +kernel
theorem dX9_pointsAfter_36 : decode cX9_pointsAfter 36 = .ok (.iload_n 2, 1) := by decide +kernel
theorem dX9_pointsAfter_37 : decode cX9_pointsAfter 37 = .ok (.invokevirtual 419, 3) := by decide +kernel
theorem dX9_pointsAfter_40 : decode cX9_pointsAfter 40 = .ok (.aload_n 0, 1) := by decide +kernel
theorem dX9_pointsAfter_41 : decode cX9_pointsAfter 41 = .ok (.getfield 44, 3) := by decide +kernel
theorem dX9_pointsAfter_44 : decode cX9_pointsAfter 44 = .ok (.getfield 76, 3) := by decide +kernel
theorem dX9_pointsAfter_47 : decode cX9_pointsAfter 47 = .ok (.iload_n 1, 1) := by decide +kernel
theorem dX9_pointsAfter_48 : decode cX9_pointsAfter 48 = .ok (.iaload, 1) := by decide +kernel
theorem dX9_pointsAfter_49 : decode cX9_pointsAfter 49 = .ok (.ireturn, 1) := by decide +kernel
theorem dX9_meanPoints_0 : decode cX9_meanPoints 0 = .ok (.aload_n 0, 1) := by decide +kernel
theorem dX9_meanPoints_1 : decode cX9_meanPoints 1 = .ok (.iconst 0, 1) := by decide +kernel
theorem dX9_meanPoints_2 : decode cX9_meanPoints 2 = .ok (.putfield 62, 3) := by decide +kernel
theorem dX9_meanPoints_5 : decode cX9_meanPoints 5 = .ok (.iconst 0, 1) := by decide +kernel
theorem dX9_meanPoints_6 : decode cX9_meanPoints 6 = .ok (.istore_n 1, 1) := by decide +kernel
theorem dX9_meanPoints_7 : decode cX9_meanPoints 7 = .ok (.iconst 0, 1) := by decide +kernel
theorem dX9_meanPoints_8 : decode cX9_meanPoints 8 = .ok (.istore_n 2, 1) := by decide +kernel
theorem dX9_meanPoints_9 : decode cX9_meanPoints 9 = .ok (.iload_n 2, 1) := by decide +kernel
theorem dX9_meanPoints_10 : decode cX9_meanPoints 10 = .ok (.aload_n 0, 1) := by decide +kernel
theorem dX9_meanPoints_11 : decode cX9_meanPoints 11 = .ok (.getfield 20, 3) := by decide +kernel
theorem dX9_meanPoints_14 : decode cX9_meanPoints 14 = .ok (.getfield 65, 3) := by decide +kernel
theorem dX9_meanPoints_17 : decode cX9_meanPoints 17 = .ok (.if_icmp .ge 21, 3) := by decide +kernel
theorem dX9_meanPoints_20 : decode cX9_meanPoints 20 = .ok (.iload_n 1, 1) := by decide +kernel
theorem dX9_meanPoints_21 : decode cX9_meanPoints 21 = .ok (.aload_n 0, 1) := by decide +kernel
theorem dX9_meanPoints_22 : decode cX9_meanPoints 22 = .ok (.getfield 40, 3) := by decide +kernel
theorem dX9_meanPoints_25 : decode cX9_meanPoints 25 = .ok (.getfield 76, 3) := by decide +kernel
theorem dX9_meanPoints_28 : decode cX9_meanPoints 28 = .ok (.iload_n 2, 1) := by decide +kernel
theorem dX9_meanPoints_29 : decode cX9_meanPoints 29 = .ok (.iaload, 1) := by decide +kernel
theorem dX9_meanPoints_30 : decode cX9_meanPoints 30 = .ok (.iadd, 1) := by decide +kernel
theorem dX9_meanPoints_31 : decode cX9_meanPoints 31 = .ok (.istore_n 1, 1) := by decide +kernel
theorem dX9_meanPoints_32 : decode cX9_meanPoints 32 = .ok (.iinc 2 1, 3) := by decide +kernel
theorem dX9_meanPoints_35 : decode cX9_meanPoints 35 = .ok (.goto (-26), 3) := by decide +kernel
theorem dX9_meanPoints_38 : decode cX9_meanPoints 38 = .ok (.aload_n 0, 1) := by decide +kernel
theorem dX9_meanPoints_39 : decode cX9_meanPoints 39 = .ok (.getfield 20, 3) := by decide +kernel
theorem dX9_meanPoints_42 : decode cX9_meanPoints 42 = .ok (.getfield 65, 3) := by decide +kernel
theorem dX9_meanPoints_45 : decode cX9_meanPoints 45 = .ok (.ifCond .ne 7, 3) := by decide +kernel
theorem dX9_meanPoints_48 : decode cX9_meanPoints 48 = .ok (.dconst 0, 1) := by decide +kernel
theorem dX9_meanPoints_49 : decode cX9_meanPoints 49 = .ok (.goto 14, 3) := by decide +kernel
theorem dX9_meanPoints_52 : decode cX9_meanPoints 52 = .ok (.iload_n 1, 1) := by decide +kernel
theorem dX9_meanPoints_53 : decode cX9_meanPoints 53 = .ok (.i2d, 1) := by decide +kernel
theorem dX9_meanPoints_54 : decode cX9_meanPoints 54 = .ok (.aload_n 0, 1) := by decide +kernel
theorem dX9_meanPoints_55 : decode cX9_meanPoints 55 = .ok (.getfield 20, 3) := by decide +kernel
theorem dX9_meanPoints_58 : decode cX9_meanPoints 58 = .ok (.getfield 65, 3) := by decide +kernel
theorem dX9_meanPoints_61 : decode cX9_meanPoints 61 = .ok (.i2d, 1) := by decide +kernel
theorem dX9_meanPoints_62 : decode cX9_meanPoints 62 = .ok (.ddiv, 1) := by decide +kernel
theorem dX9_meanPoints_63 : decode cX9_meanPoints 63 = .ok (.dreturn, 1) := by decide +kernel
theorem dX9_digestOne_0 : decode cX9_digestOne 0 = .ok (.bipush 11, 2) := by decide +kernel
theorem dX9_digestOne_2 : decode cX9_digestOne 2 = .ok (.newarray .int, 2) := by decide +kernel
theorem dX9_digestOne_4 : decode cX9_digestOne 4 = .ok (.dup, 1) := by decide +kernel
theorem dX9_digestOne_5 : decode cX9_digestOne 5 = .ok (.iconst 0, 1) := by decide +kernel
theorem dX9_digestOne_6 : decode cX9_digestOne 6 = .ok (.aload_n 0, 1) := by decide +kernel
theorem dX9_digestOne_7 : decode cX9_digestOne 7 = .ok (.getfield 20, 3) := by decide +kernel
theorem dX9_digestOne_10 : decode cX9_digestOne 10 = .ok (.getfield 83, 3) := by decide +kernel
theorem dX9_digestOne_13 : decode cX9_digestOne 13 = .ok (.iload_n 3, 1) := by decide +kernel
theorem dX9_digestOne_14 : decode cX9_digestOne 14 = .ok (.iaload, 1) := by decide +kernel
theorem dX9_digestOne_15 : decode cX9_digestOne 15 = .ok (.iastore, 1) := by decide +kernel
theorem dX9_digestOne_16 : decode cX9_digestOne 16 = .ok (.dup, 1) := by decide +kernel
theorem dX9_digestOne_17 : decode cX9_digestOne 17 = .ok (.iconst 1, 1) := by decide +kernel
theorem dX9_digestOne_18 : decode cX9_digestOne 18 = .ok (.aload_n 0, 1) := by decide +kernel
theorem dX9_digestOne_19 : decode cX9_digestOne 19 = .ok (.getfield 40, 3) := by decide +kernel
theorem dX9_digestOne_22 : decode cX9_digestOne 22 = .ok (.getfield 76, 3) := by decide +kernel
theorem dX9_digestOne_25 : decode cX9_digestOne 25 = .ok (.iload_n 3, 1) := by decide +kernel
theorem dX9_digestOne_26 : decode cX9_digestOne 26 = .ok (.iaload, 1) := by decide +kernel
theorem dX9_digestOne_27 : decode cX9_digestOne 27 = .ok (.iastore, 1) := by decide +kernel
theorem dX9_digestOne_28 : decode cX9_digestOne 28 = .ok (.dup, 1) := by decide +kernel
theorem dX9_digestOne_29 : decode cX9_digestOne 29 = .ok (.iconst 2, 1) := by decide +kernel
theorem dX9_digestOne_30 : decode cX9_digestOne 30 = .ok (.aload_n 0, 1) := by decide +kernel
theorem dX9_digestOne_31 : decode cX9_digestOne 31 = .ok (.getfield 40, 3) := by decide +kernel
theorem dX9_digestOne_34 : decode cX9_digestOne 34 = .ok (.getfield 186, 3) := by decide +kernel
theorem dX9_digestOne_37 : decode cX9_digestOne 37 = .ok (.iload_n 3, 1) := by decide +kernel
theorem dX9_digestOne_38 : decode cX9_digestOne 38 = .ok (.iaload, 1) := by decide +kernel
theorem dX9_digestOne_39 : decode cX9_digestOne 39 = .ok (.iastore, 1) := by decide +kernel
theorem dX9_digestOne_40 : decode cX9_digestOne 40 = .ok (.dup, 1) := by decide +kernel
theorem dX9_digestOne_41 : decode cX9_digestOne 41 = .ok (.iconst 3, 1) := by decide +kernel
theorem dX9_digestOne_42 : decode cX9_digestOne 42 = .ok (.aload_n 0, 1) := by decide +kernel
theorem dX9_digestOne_43 : decode cX9_digestOne 43 = .ok (.getfield 40, 3) := by decide +kernel
theorem dX9_digestOne_46 : decode cX9_digestOne 46 = .ok (.getfield 183, 3) := by decide +kernel
theorem dX9_digestOne_49 : decode cX9_digestOne 49 = .ok (.iload_n 3, 1) := by decide +kernel
theorem dX9_digestOne_50 : decode cX9_digestOne 50 = .ok (.iaload, 1) := by decide +kernel
theorem dX9_digestOne_51 : decode cX9_digestOne 51 = .ok (.iastore, 1) := by decide +kernel
theorem dX9_digestOne_52 : decode cX9_digestOne 52 = .ok (.dup, 1) := by decide +kernel
theorem dX9_digestOne_53 : decode cX9_digestOne 53 = .ok (.iconst 4, 1) := by decide +kernel
theorem dX9_digestOne_54 : decode cX9_digestOne 54 = .ok (.aload_n 0, 1) := by decide +kernel
theorem dX9_digestOne_55 : decode cX9_digestOne 55 = .ok (.getfield 40, 3) := by decide +kernel
theorem dX9_digestOne_58 : decode cX9_digestOne 58 = .ok (.getfield 189, 3) := by decide +kernel
theorem dX9_digestOne_61 : decode cX9_digestOne 61 = .ok (.iload_n 3, 1) := by decide +kernel
theorem dX9_digestOne_62 : decode cX9_digestOne 62 = .ok (.iaload, 1) := by decide +kernel
theorem dX9_digestOne_63 : decode cX9_digestOne 63 = .ok (.iastore, 1) := by decide +kernel
theorem dX9_digestOne_64 : decode cX9_digestOne 64 = .ok (.dup, 1) := by decide +kernel
theorem dX9_digestOne_65 : decode cX9_digestOne 65 = .ok (.iconst 5, 1) := by decide +kernel
theorem dX9_digestOne_66 : decode cX9_digestOne 66 = .ok (.aload_n 0, 1) := by decide +kernel
theorem dX9_digestOne_67 : decode cX9_digestOne 67 = .ok (.getfield 40, 3) := by decide +kernel
theorem dX9_digestOne_70 : decode cX9_digestOne 70 = .ok (.getfield 117, 3) := by decide +kernel
theorem dX9_digestOne_73 : decode cX9_digestOne 73 = .ok (.iload_n 3, 1) := by decide +kernel
theorem dX9_digestOne_74 : decode cX9_digestOne 74 = .ok (.iaload, 1) := by decide +kernel
theorem dX9_digestOne_75 : decode cX9_digestOne 75 = .ok (.iastore, 1) := by decide +kernel
theorem dX9_digestOne_76 : decode cX9_digestOne 76 = .ok (.dup, 1) := by decide +kernel
theorem dX9_digestOne_77 : decode cX9_digestOne 77 = .ok (.bipush 6, 2) := by decide +kernel
theorem dX9_digestOne_79 : decode cX9_digestOne 79 = .ok (.aload_n 0, 1) := by decide +kernel
theorem dX9_digestOne_80 : decode cX9_digestOne 80 = .ok (.getfield 40, 3) := by decide +kernel
theorem dX9_digestOne_83 : decode cX9_digestOne 83 = .ok (.getfield 142, 3) := by decide +kernel
theorem dX9_digestOne_86 : decode cX9_digestOne 86 = .ok (.iload_n 3, 1) := by decide +kernel
theorem dX9_digestOne_87 : decode cX9_digestOne 87 = .ok (.iaload, 1) := by decide +kernel
theorem dX9_digestOne_88 : decode cX9_digestOne 88 = .ok (.iastore, 1) := by decide +kernel
theorem dX9_digestOne_89 : decode cX9_digestOne 89 = .ok (.dup, 1) := by decide +kernel
theorem dX9_digestOne_90 : decode cX9_digestOne 90 = .ok (.bipush 7, 2) := by decide +kernel
theorem dX9_digestOne_92 : decode cX9_digestOne 92 = .ok (.aload_n 0, 1) := by decide +kernel
theorem dX9_digestOne_93 : decode cX9_digestOne 93 = .ok (.getfield 40, 3) := by decide +kernel
theorem dX9_digestOne_96 : decode cX9_digestOne 96 = .ok (.getfield 157, 3) := by decide +kernel
theorem dX9_digestOne_99 : decode cX9_digestOne 99 = .ok (.iload_n 3, 1) := by decide +kernel
theorem dX9_digestOne_100 : decode cX9_digestOne 100 = .ok (.iaload, 1) := by decide +kernel
theorem dX9_digestOne_101 : decode cX9_digestOne 101 = .ok (.iastore, 1) := by decide +kernel
theorem dX9_digestOne_102 : decode cX9_digestOne 102 = .ok (.dup, 1) := by decide +kernel
theorem dX9_digestOne_103 : decode cX9_digestOne 103 = .ok (.bipush 8, 2) := by decide +kernel
theorem dX9_digestOne_105 : decode cX9_digestOne 105 = .ok (.aload_n 0, 1) := by decide +kernel
theorem dX9_digestOne_106 : decode cX9_digestOne 106 = .ok (.aload_n 0, 1) := by decide +kernel
theorem dX9_digestOne_107 : decode cX9_digestOne 107 = .ok (.getfield 40, 3) := by decide +kernel
theorem dX9_digestOne_110 : decode cX9_digestOne 110 = .ok (.iload_n 3, 1) := by decide +kernel
theorem dX9_digestOne_111 : decode cX9_digestOne 111 = .ok (.invokevirtual 79, 3) := by decide +kernel
theorem dX9_digestOne_114 : decode cX9_digestOne 114 = .ok (.iastore, 1) := by decide +kernel
theorem dX9_digestOne_115 : decode cX9_digestOne 115 = .ok (.dup, 1) := by decide +kernel
theorem dX9_digestOne_116 : decode cX9_digestOne 116 = .ok (.bipush 9, 2) := by decide +kernel
theorem dX9_digestOne_118 : decode cX9_digestOne 118 = .ok (.aload_n 0, 1) := by decide +kernel
theorem dX9_digestOne_119 : decode cX9_digestOne 119 = .ok (.aload_n 0, 1) := by decide +kernel
theorem dX9_digestOne_120 : decode cX9_digestOne 120 = .ok (.getfield 40, 3) := by decide +kernel
theorem dX9_digestOne_123 : decode cX9_digestOne 123 = .ok (.iload_n 3, 1) := by decide +kernel
theorem dX9_digestOne_124 : decode cX9_digestOne 124 = .ok (.invokevirtual 90, 3) := by decide +kernel
theorem dX9_digestOne_127 : decode cX9_digestOne 127 = .ok (.iastore, 1) := by decide +kernel
theorem dX9_digestOne_128 : decode cX9_digestOne 128 = .ok (.dup, 1) := by decide +kernel
theorem dX9_digestOne_129 : decode cX9_digestOne 129 = .ok (.bipush 10, 2) := by decide +kernel
theorem dX9_digestOne_131 : decode cX9_digestOne 131 = .ok (.aload_n 0, 1) := by decide +kernel
theorem dX9_digestOne_132 : decode cX9_digestOne 132 = .ok (.getfield 40, 3) := by decide +kernel
theorem dX9_digestOne_135 : decode cX9_digestOne 135 = .ok (.getfield 93, 3) := by decide +kernel
theorem dX9_digestOne_138 : decode cX9_digestOne 138 = .ok (.iload_n 3, 1) := by decide +kernel
theorem dX9_digestOne_139 : decode cX9_digestOne 139 = .ok (.baload, 1) := by decide +kernel
theorem dX9_digestOne_140 : decode cX9_digestOne 140 = .ok (.ifCond .ne 7, 3) := by decide +kernel
theorem dX9_digestOne_143 : decode cX9_digestOne 143 = .ok (.iconst 1, 1) := by decide +kernel
theorem dX9_digestOne_144 : decode cX9_digestOne 144 = .ok (.goto 4, 3) := by decide +kernel
theorem dX9_digestOne_147 : decode cX9_digestOne 147 = .ok (.iconst 0, 1) := by decide +kernel
theorem dX9_digestOne_148 : decode cX9_digestOne 148 = .ok (.invokestatic 232, 3) := by decide +kernel
theorem dX9_digestOne_151 : decode cX9_digestOne 151 = .ok (.iastore, 1) := by decide +kernel
theorem dX9_digestOne_152 : decode cX9_digestOne 152 = .ok (.astore 4, 2) := by decide +kernel
theorem dX9_digestOne_154 : decode cX9_digestOne 154 = .ok (.lload_n 1, 1) := by decide +kernel
theorem dX9_digestOne_155 : decode cX9_digestOne 155 = .ok (.lstore 5, 2) := by decide +kernel
theorem dX9_digestOne_157 : decode cX9_digestOne 157 = .ok (.aload 4, 2) := by decide +kernel
theorem dX9_digestOne_159 : decode cX9_digestOne 159 = .ok (.astore 7, 2) := by decide +kernel
theorem dX9_digestOne_161 : decode cX9_digestOne 161 = .ok (.aload 7, 2) := by decide +kernel
theorem dX9_digestOne_163 : decode cX9_digestOne 163 = .ok (.arraylength, 1) := by decide +kernel
theorem dX9_digestOne_164 : decode cX9_digestOne 164 = .ok (.istore 8, 2) := by decide +kernel
theorem dX9_digestOne_166 : decode cX9_digestOne 166 = .ok (.iconst 0, 1) := by decide +kernel
theorem dX9_digestOne_167 : decode cX9_digestOne 167 = .ok (.istore 9, 2) := by decide +kernel
theorem dX9_digestOne_169 : decode cX9_digestOne 169 = .ok (.iload 9, 2) := by decide +kernel
theorem dX9_digestOne_171 : decode cX9_digestOne 171 = .ok (.iload 8, 2) := by decide +kernel
theorem dX9_digestOne_173 : decode cX9_digestOne 173 = .ok (.if_icmp .ge 28, 3) := by decide +kernel
theorem dX9_digestOne_176 : decode cX9_digestOne 176 = .ok (.aload 7, 2) := by decide +kernel
theorem dX9_digestOne_178 : decode cX9_digestOne 178 = .ok (.iload 9, 2) := by decide +kernel
theorem dX9_digestOne_180 : decode cX9_digestOne 180 = .ok (.iaload, 1) := by decide +kernel
theorem dX9_digestOne_181 : decode cX9_digestOne 181 = .ok (.istore 10, 2) := by decide +kernel
theorem dX9_digestOne_183 : decode cX9_digestOne 183 = .ok (.lload 5, 2) := by decide +kernel
theorem dX9_digestOne_185 : decode cX9_digestOne 185 = .ok (.ldc2_w 423, 3) := by decide +kernel
theorem dX9_digestOne_188 : decode cX9_digestOne 188 = .ok (.lmul, 1) := by decide +kernel
theorem dX9_digestOne_189 : decode cX9_digestOne 189 = .ok (.iload 10, 2) := by decide +kernel
theorem dX9_digestOne_191 : decode cX9_digestOne 191 = .ok (.i2l, 1) := by decide +kernel
theorem dX9_digestOne_192 : decode cX9_digestOne 192 = .ok (.ladd, 1) := by decide +kernel
theorem dX9_digestOne_193 : decode cX9_digestOne 193 = .ok (.lstore 5, 2) := by decide +kernel
theorem dX9_digestOne_195 : decode cX9_digestOne 195 = .ok (.iinc 9 1, 3) := by decide +kernel
theorem dX9_digestOne_198 : decode cX9_digestOne 198 = .ok (.goto (-29), 3) := by decide +kernel
theorem dX9_digestOne_201 : decode cX9_digestOne 201 = .ok (.iconst 0, 1) := by decide +kernel
theorem dX9_digestOne_202 : decode cX9_digestOne 202 = .ok (.istore 7, 2) := by decide +kernel
theorem dX9_digestOne_204 : decode cX9_digestOne 204 = .ok (.iload 7, 2) := by decide +kernel
theorem dX9_digestOne_206 : decode cX9_digestOne 206 = .ok (.aload_n 0, 1) := by decide +kernel
theorem dX9_digestOne_207 : decode cX9_digestOne 207 = .ok (.getfield 20, 3) := by decide +kernel
theorem dX9_digestOne_210 : decode cX9_digestOne 210 = .ok (.getfield 65, 3) := by decide +kernel
theorem dX9_digestOne_213 : decode cX9_digestOne 213 = .ok (.if_icmp .ge 29, 3) := by decide +kernel
theorem dX9_digestOne_216 : decode cX9_digestOne 216 = .ok (.lload 5, 2) := by decide +kernel
theorem dX9_digestOne_218 : decode cX9_digestOne 218 = .ok (.ldc2_w 423, 3) := by decide +kernel
theorem dX9_digestOne_221 : decode cX9_digestOne 221 = .ok (.lmul, 1) := by decide +kernel
theorem dX9_digestOne_222 : decode cX9_digestOne 222 = .ok (.aload_n 0, 1) := by decide +kernel
theorem dX9_digestOne_223 : decode cX9_digestOne 223 = .ok (.getfield 40, 3) := by decide +kernel
theorem dX9_digestOne_226 : decode cX9_digestOne 226 = .ok (.iload_n 3, 1) := by decide +kernel
theorem dX9_digestOne_227 : decode cX9_digestOne 227 = .ok (.iload 7, 2) := by decide +kernel
theorem dX9_digestOne_229 : decode cX9_digestOne 229 = .ok (.invokevirtual 72, 3) := by decide +kernel
theorem dX9_digestOne_232 : decode cX9_digestOne 232 = .ok (.i2l, 1) := by decide +kernel
theorem dX9_digestOne_233 : decode cX9_digestOne 233 = .ok (.ladd, 1) := by decide +kernel
theorem dX9_digestOne_234 : decode cX9_digestOne 234 = .ok (.lstore 5, 2) := by decide +kernel
theorem dX9_digestOne_236 : decode cX9_digestOne 236 = .ok (.iinc 7 1, 3) := by decide +kernel
theorem dX9_digestOne_239 : decode cX9_digestOne 239 = .ok (.goto (-35), 3) := by decide +kernel
theorem dX9_digestOne_242 : decode cX9_digestOne 242 = .ok (.lload 5, 2) := by decide +kernel
theorem dX9_digestOne_244 : decode cX9_digestOne 244 = .ok (.lreturn, 1) := by decide +kernel
theorem dX9_digest_0 : decode cX9_digest 0 = .ok (.aload_n 0, 1) := by decide +kernel
theorem dX9_digest_1 : decode cX9_digest 1 = .ok (.iconst 0, 1) := by decide +kernel
theorem dX9_digest_2 : decode cX9_digest 2 = .ok (.putfield 62, 3) := by decide +kernel
theorem dX9_digest_5 : decode cX9_digest 5 = .ok (.bipush 7, 2) := by decide +kernel
theorem dX9_digest_7 : decode cX9_digest 7 = .ok (.newarray .int, 2) := by decide +kernel
theorem dX9_digest_9 : decode cX9_digest 9 = .ok (.dup, 1) := by decide +kernel
theorem dX9_digest_10 : decode cX9_digest 10 = .ok (.iconst 0, 1) := by decide +kernel
theorem dX9_digest_11 : decode cX9_digest 11 = .ok (.aload_n 0, 1) := by decide +kernel
theorem dX9_digest_12 : decode cX9_digest 12 = .ok (.getfield 20, 3) := by decide +kernel
theorem dX9_digest_15 : decode cX9_digest 15 = .ok (.getfield 65, 3) := by decide +kernel
theorem dX9_digest_18 : decode cX9_digest 18 = .ok (.iastore, 1) := by decide +kernel
theorem dX9_digest_19 : decode cX9_digest 19 = .ok (.dup, 1) := by decide +kernel
theorem dX9_digest_20 : decode cX9_digest 20 = .ok (.iconst 1, 1) := by decide +kernel
theorem dX9_digest_21 : decode cX9_digest 21 = .ok (.aload_n 0, 1) := by decide +kernel
theorem dX9_digest_22 : decode cX9_digest 22 = .ok (.aload_n 0, 1) := by decide +kernel
theorem dX9_digest_23 : decode cX9_digest 23 = .ok (.getfield 40, 3) := by decide +kernel
theorem dX9_digest_26 : decode cX9_digest 26 = .ok (.invokevirtual 104, 3) := by decide +kernel
theorem dX9_digest_29 : decode cX9_digest 29 = .ok (.iastore, 1) := by decide +kernel
theorem dX9_digest_30 : decode cX9_digest 30 = .ok (.dup, 1) := by decide +kernel
theorem dX9_digest_31 : decode cX9_digest 31 = .ok (.iconst 2, 1) := by decide +kernel
theorem dX9_digest_32 : decode cX9_digest 32 = .ok (.aload_n 0, 1) := by decide +kernel
theorem dX9_digest_33 : decode cX9_digest 33 = .ok (.getfield 20, 3) := by decide +kernel
theorem dX9_digest_36 : decode cX9_digest 36 = .ok (.getfield 192, 3) := by decide +kernel
theorem dX9_digest_39 : decode cX9_digest 39 = .ok (.iastore, 1) := by decide +kernel
theorem dX9_digest_40 : decode cX9_digest 40 = .ok (.dup, 1) := by decide +kernel
theorem dX9_digest_41 : decode cX9_digest 41 = .ok (.iconst 3, 1) := by decide +kernel
theorem dX9_digest_42 : decode cX9_digest 42 = .ok (.aload_n 0, 1) := by decide +kernel
theorem dX9_digest_43 : decode cX9_digest 43 = .ok (.getfield 40, 3) := by decide +kernel
theorem dX9_digest_46 : decode cX9_digest 46 = .ok (.getfield 101, 3) := by decide +kernel
theorem dX9_digest_49 : decode cX9_digest 49 = .ok (.iastore, 1) := by decide +kernel
theorem dX9_digest_50 : decode cX9_digest 50 = .ok (.dup, 1) := by decide +kernel
theorem dX9_digest_51 : decode cX9_digest 51 = .ok (.iconst 4, 1) := by decide +kernel
theorem dX9_digest_52 : decode cX9_digest 52 = .ok (.aload_n 0, 1) := by decide +kernel
theorem dX9_digest_53 : decode cX9_digest 53 = .ok (.getfield 259, 3) := by decide +kernel
theorem dX9_digest_56 : decode cX9_digest 56 = .ok (.iastore, 1) := by decide +kernel
theorem dX9_digest_57 : decode cX9_digest 57 = .ok (.dup, 1) := by decide +kernel
theorem dX9_digest_58 : decode cX9_digest 58 = .ok (.iconst 5, 1) := by decide +kernel
theorem dX9_digest_59 : decode cX9_digest 59 = .ok (.aload_n 0, 1) := by decide +kernel
theorem dX9_digest_60 : decode cX9_digest 60 = .ok (.getfield 40, 3) := by decide +kernel
theorem dX9_digest_63 : decode cX9_digest 63 = .ok (.getfield 151, 3) := by decide +kernel
theorem dX9_digest_66 : decode cX9_digest 66 = .ok (.iastore, 1) := by decide +kernel
theorem dX9_digest_67 : decode cX9_digest 67 = .ok (.dup, 1) := by decide +kernel
theorem dX9_digest_68 : decode cX9_digest 68 = .ok (.bipush 6, 2) := by decide +kernel
theorem dX9_digest_70 : decode cX9_digest 70 = .ok (.aload_n 0, 1) := by decide +kernel
theorem dX9_digest_71 : decode cX9_digest 71 = .ok (.getfield 40, 3) := by decide +kernel
theorem dX9_digest_74 : decode cX9_digest 74 = .ok (.invokevirtual 97, 3) := by decide +kernel
theorem dX9_digest_77 : decode cX9_digest 77 = .ok (.iastore, 1) := by decide +kernel
theorem dX9_digest_78 : decode cX9_digest 78 = .ok (.astore_n 1, 1) := by decide +kernel
theorem dX9_digest_79 : decode cX9_digest 79 = .ok (.ldc2_w 425, 3) := by decide +kernel
theorem dX9_digest_82 : decode cX9_digest 82 = .ok (.lstore_n 2, 1) := by decide +kernel
theorem dX9_digest_83 : decode cX9_digest 83 = .ok (.aload_n 1, 1) := by decide +kernel
theorem dX9_digest_84 : decode cX9_digest 84 = .ok (.astore 4, 2) := by decide +kernel
theorem dX9_digest_86 : decode cX9_digest 86 = .ok (.aload 4, 2) := by decide +kernel
theorem dX9_digest_88 : decode cX9_digest 88 = .ok (.arraylength, 1) := by decide +kernel
theorem dX9_digest_89 : decode cX9_digest 89 = .ok (.istore 5, 2) := by decide +kernel
theorem dX9_digest_91 : decode cX9_digest 91 = .ok (.iconst 0, 1) := by decide +kernel
theorem dX9_digest_92 : decode cX9_digest 92 = .ok (.istore 6, 2) := by decide +kernel
theorem dX9_digest_94 : decode cX9_digest 94 = .ok (.iload 6, 2) := by decide +kernel
theorem dX9_digest_96 : decode cX9_digest 96 = .ok (.iload 5, 2) := by decide +kernel
theorem dX9_digest_98 : decode cX9_digest 98 = .ok (.if_icmp .ge 26, 3) := by decide +kernel
theorem dX9_digest_101 : decode cX9_digest 101 = .ok (.aload 4, 2) := by decide +kernel
theorem dX9_digest_103 : decode cX9_digest 103 = .ok (.iload 6, 2) := by decide +kernel
theorem dX9_digest_105 : decode cX9_digest 105 = .ok (.iaload, 1) := by decide +kernel
theorem dX9_digest_106 : decode cX9_digest 106 = .ok (.istore 7, 2) := by decide +kernel
theorem dX9_digest_108 : decode cX9_digest 108 = .ok (.lload_n 2, 1) := by decide +kernel
theorem dX9_digest_109 : decode cX9_digest 109 = .ok (.ldc2_w 423, 3) := by decide +kernel
theorem dX9_digest_112 : decode cX9_digest 112 = .ok (.lmul, 1) := by decide +kernel
theorem dX9_digest_113 : decode cX9_digest 113 = .ok (.iload 7, 2) := by decide +kernel
theorem dX9_digest_115 : decode cX9_digest 115 = .ok (.i2l, 1) := by decide +kernel
theorem dX9_digest_116 : decode cX9_digest 116 = .ok (.ladd, 1) := by decide +kernel
theorem dX9_digest_117 : decode cX9_digest 117 = .ok (.lstore_n 2, 1) := by decide +kernel
theorem dX9_digest_118 : decode cX9_digest 118 = .ok (.iinc 6 1, 3) := by decide +kernel
theorem dX9_digest_121 : decode cX9_digest 121 = .ok (.goto (-27), 3) := by decide +kernel
theorem dX9_digest_124 : decode cX9_digest 124 = .ok (.iconst 0, 1) := by decide +kernel
theorem dX9_digest_125 : decode cX9_digest 125 = .ok (.istore 4, 2) := by decide +kernel
theorem dX9_digest_127 : decode cX9_digest 127 = .ok (.iload 4, 2) := by decide +kernel
theorem dX9_digest_129 : decode cX9_digest 129 = .ok (.aload_n 0, 1) := by decide +kernel
theorem dX9_digest_130 : decode cX9_digest 130 = .ok (.getfield 20, 3) := by decide +kernel
theorem dX9_digest_133 : decode cX9_digest 133 = .ok (.getfield 65, 3) := by decide +kernel
theorem dX9_digest_136 : decode cX9_digest 136 = .ok (.if_icmp .ge 17, 3) := by decide +kernel
theorem dX9_digest_139 : decode cX9_digest 139 = .ok (.aload_n 0, 1) := by decide +kernel
theorem dX9_digest_140 : decode cX9_digest 140 = .ok (.lload_n 2, 1) := by decide +kernel
theorem dX9_digest_141 : decode cX9_digest 141 = .ok (.iload 4, 2) := by decide +kernel
theorem dX9_digest_143 : decode cX9_digest 143 = .ok (.invokevirtual 427, 3) := by decide +kernel
theorem dX9_digest_146 : decode cX9_digest 146 = .ok (.lstore_n 2, 1) := by decide +kernel
theorem dX9_digest_147 : decode cX9_digest 147 = .ok (.iinc 4 1, 3) := by decide +kernel
theorem dX9_digest_150 : decode cX9_digest 150 = .ok (.goto (-23), 3) := by decide +kernel
theorem dX9_digest_153 : decode cX9_digest 153 = .ok (.iconst 0, 1) := by decide +kernel
theorem dX9_digest_154 : decode cX9_digest 154 = .ok (.istore 4, 2) := by decide +kernel
theorem dX9_digest_156 : decode cX9_digest 156 = .ok (.iload 4, 2) := by decide +kernel
theorem dX9_digest_158 : decode cX9_digest 158 = .ok (.aload_n 0, 1) := by decide +kernel
theorem dX9_digest_159 : decode cX9_digest 159 = .ok (.getfield 40, 3) := by decide +kernel
theorem dX9_digest_162 : decode cX9_digest 162 = .ok (.getfield 151, 3) := by decide +kernel
theorem dX9_digest_165 : decode cX9_digest 165 = .ok (.if_icmp .ge 59, 3) := by decide +kernel
theorem dX9_digest_168 : decode cX9_digest 168 = .ok (.lload_n 2, 1) := by decide +kernel
theorem dX9_digest_169 : decode cX9_digest 169 = .ok (.ldc2_w 423, 3) := by decide +kernel
theorem dX9_digest_172 : decode cX9_digest 172 = .ok (.lmul, 1) := by decide +kernel
theorem dX9_digest_173 : decode cX9_digest 173 = .ok (.aload_n 0, 1) := by decide +kernel
theorem dX9_digest_174 : decode cX9_digest 174 = .ok (.getfield 40, 3) := by decide +kernel
theorem dX9_digest_177 : decode cX9_digest 177 = .ok (.getfield 163, 3) := by decide +kernel
theorem dX9_digest_180 : decode cX9_digest 180 = .ok (.iload 4, 2) := by decide +kernel
theorem dX9_digest_182 : decode cX9_digest 182 = .ok (.iaload, 1) := by decide +kernel
theorem dX9_digest_183 : decode cX9_digest 183 = .ok (.i2l, 1) := by decide +kernel
theorem dX9_digest_184 : decode cX9_digest 184 = .ok (.ladd, 1) := by decide +kernel
theorem dX9_digest_185 : decode cX9_digest 185 = .ok (.ldc2_w 423, 3) := by decide +kernel
theorem dX9_digest_188 : decode cX9_digest 188 = .ok (.lmul, 1) := by decide +kernel
theorem dX9_digest_189 : decode cX9_digest 189 = .ok (.aload_n 0, 1) := by decide +kernel
theorem dX9_digest_190 : decode cX9_digest 190 = .ok (.getfield 40, 3) := by decide +kernel
theorem dX9_digest_193 : decode cX9_digest 193 = .ok (.getfield 166, 3) := by decide +kernel
theorem dX9_digest_196 : decode cX9_digest 196 = .ok (.iload 4, 2) := by decide +kernel
theorem dX9_digest_198 : decode cX9_digest 198 = .ok (.iaload, 1) := by decide +kernel
theorem dX9_digest_199 : decode cX9_digest 199 = .ok (.i2l, 1) := by decide +kernel
theorem dX9_digest_200 : decode cX9_digest 200 = .ok (.ladd, 1) := by decide +kernel
theorem dX9_digest_201 : decode cX9_digest 201 = .ok (.ldc2_w 423, 3) := by decide +kernel
theorem dX9_digest_204 : decode cX9_digest 204 = .ok (.lmul, 1) := by decide +kernel
theorem dX9_digest_205 : decode cX9_digest 205 = .ok (.aload_n 0, 1) := by decide +kernel
theorem dX9_digest_206 : decode cX9_digest 206 = .ok (.getfield 40, 3) := by decide +kernel
theorem dX9_digest_209 : decode cX9_digest 209 = .ok (.getfield 177, 3) := by decide +kernel
theorem dX9_digest_212 : decode cX9_digest 212 = .ok (.iload 4, 2) := by decide +kernel
theorem dX9_digest_214 : decode cX9_digest 214 = .ok (.iaload, 1) := by decide +kernel
theorem dX9_digest_215 : decode cX9_digest 215 = .ok (.i2l, 1) := by decide +kernel
theorem dX9_digest_216 : decode cX9_digest 216 = .ok (.ladd, 1) := by decide +kernel
theorem dX9_digest_217 : decode cX9_digest 217 = .ok (.lstore_n 2, 1) := by decide +kernel
theorem dX9_digest_218 : decode cX9_digest 218 = .ok (.iinc 4 1, 3) := by decide +kernel
theorem dX9_digest_221 : decode cX9_digest 221 = .ok (.goto (-65), 3) := by decide +kernel
theorem dX9_digest_224 : decode cX9_digest 224 = .ok (.lload_n 2, 1) := by decide +kernel
theorem dX9_digest_225 : decode cX9_digest 225 = .ok (.lreturn, 1) := by decide +kernel
