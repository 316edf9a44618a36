/-! decode rows -/
theorem dX2_init_0 : decode cX2_init 0 = .ok (.aload_n 0, 1) := by decide +kernel
theorem dX2_init_1 : decode cX2_init 1 = .ok (.invokespecial 3, 3) := by decide +kernel
theorem dX2_init_4 : decode cX2_init 4 = .ok (.aload_n 0, 1) := by decide +kernel
theorem dX2_init_5 : decode cX2_init 5 = .ok (.new 9, 3) := by decide +kernel
theorem dX2_init_8 : decode cX2_init 8 = .ok (.dup, 1) := by decide +kernel
theorem dX2_init_9 : decode cX2_init 9 = .ok (.invokespecial 11, 3) := by decide +kernel
theorem dX2_init_12 : decode cX2_init 12 = .ok (.putfield 12, 3) := by decide +kernel
theorem dX2_init_15 : decode cX2_init 15 = .ok (.aload_n 0, 1) := by decide +kernel
theorem dX2_init_16 : decode cX2_init 16 = .ok (.new 18, 3) := by decide +kernel
theorem dX2_init_19 : decode cX2_init 19 = .ok (.dup, 1) := by decide +kernel
theorem dX2_init_20 : decode cX2_init 20 = .ok (.invokespecial 20, 3) := by decide +kernel
theorem dX2_init_23 : decode cX2_init 23 = .ok (.putfield 21, 3) := by decide +kernel
theorem dX2_init_26 : decode cX2_init 26 = .ok (.aload_n 0, 1) := by decide +kernel
theorem dX2_init_27 : decode cX2_init 27 = .ok (.bipush 12, 2) := by decide +kernel
theorem dX2_init_29 : decode cX2_init 29 = .ok (.newarray .int, 2) := by decide +kernel
theorem dX2_init_31 : decode cX2_init 31 = .ok (.putfield 25, 3) := by decide +kernel
theorem dX2_init_34 : decode cX2_init 34 = .ok (.aload_n 0, 1) := by decide +kernel
theorem dX2_init_35 : decode cX2_init 35 = .ok (.bipush 12, 2) := by decide +kernel
theorem dX2_init_37 : decode cX2_init 37 = .ok (.newarray .int, 2) := by decide +kernel
theorem dX2_init_39 : decode cX2_init 39 = .ok (.putfield 29, 3) := by decide +kernel
theorem dX2_init_42 : decode cX2_init 42 = .ok (.aload_n 0, 1) := by decide +kernel
theorem dX2_init_43 : decode cX2_init 43 = .ok (.iconst 3, 1) := by decide +kernel
theorem dX2_init_44 : decode cX2_init 44 = .ok (.newarray .int, 2) := by decide +kernel
theorem dX2_init_46 : decode cX2_init 46 = .ok (.putfield 32, 3) := by decide +kernel
theorem dX2_init_49 : decode cX2_init 49 = .ok (.aload_n 0, 1) := by decide +kernel
theorem dX2_init_50 : decode cX2_init 50 = .ok (.iconst 0, 1) := by decide +kernel
theorem dX2_init_51 : decode cX2_init 51 = .ok (.putfield 35, 3) := by decide +kernel
theorem dX2_init_54 : decode cX2_init 54 = .ok (.aload_n 0, 1) := by decide +kernel
theorem dX2_init_55 : decode cX2_init 55 = .ok (.iconst 0, 1) := by decide +kernel
theorem dX2_init_56 : decode cX2_init 56 = .ok (.putfield 39, 3) := by decide +kernel
theorem dX2_init_59 : decode cX2_init 59 = .ok (.aload_n 0, 1) := by decide +kernel
theorem dX2_init_60 : decode cX2_init 60 = .ok (.iconst 0, 1) := by decide +kernel
theorem dX2_init_61 : decode cX2_init 61 = .ok (.putfield 42, 3) := by decide +kernel
theorem dX2_init_64 : decode cX2_init 64 = .ok (.aload_n 0, 1) := by decide +kernel
theorem dX2_init_65 : decode cX2_init 65 = .ok (.iconst (-1), 1) := by decide +kernel
theorem dX2_init_66 : decode cX2_init 66 = .ok (.putfield 45, 3) := by decide +kernel
theorem dX2_init_69 : decode cX2_init 69 = .ok (.return_, 1) := by decide +kernel
theorem dX2_read_0 : decode cX2_read 0 = .ok (.aload_n 0, 1) := by decide +kernel
theorem dX2_read_1 : decode cX2_read 1 = .ok (.invokevirtual 48, 3) := by decide +kernel
theorem dX2_read_4 : decode cX2_read 4 = .ok (.iconst 1, 1) := by decide +kernel
theorem dX2_read_5 : decode cX2_read 5 = .ok (.istore_n 1, 1) := by decide +kernel
theorem dX2_read_6 : decode cX2_read 6 = .ok (.iconst 0, 1) := by decide +kernel
theorem dX2_read_7 : decode cX2_read 7 = .ok (.istore_n 2, 1) := by decide +kernel
theorem dX2_read_8 : decode cX2_read 8 = .ok (.iload_n 1, 1) := by decide +kernel
theorem dX2_read_9 : decode cX2_read 9 = .ok (.ifCond .eq 103, 3) := by decide +kernel
theorem dX2_read_12 : decode cX2_read 12 = .ok (.iload_n 2, 1) := by decide +kernel
theorem dX2_read_13 : decode cX2_read 13 = .ok (.sipush 400, 3) := by decide +kernel
theorem dX2_read_16 : decode cX2_read 16 = .ok (.if_icmp .ge 96, 3) := by decide +kernel
theorem dX2_read_19 : decode cX2_read 19 = .ok (.aload_n 0, 1) := by decide +kernel
theorem dX2_read_20 : decode cX2_read 20 = .ok (.getstatic 51, 3) := by decide +kernel
theorem dX2_read_23 : decode cX2_read 23 = .ok (.invokevirtual 57, 3) := by decide +kernel
theorem dX2_read_26 : decode cX2_read 26 = .ok (.ifCond .ne 86, 3) := by decide +kernel
theorem dX2_read_29 : decode cX2_read 29 = .ok (.aload_n 0, 1) := by decide +kernel
theorem dX2_read_30 : decode cX2_read 30 = .ok (.getstatic 61, 3) := by decide +kernel
theorem dX2_read_33 : decode cX2_read 33 = .ok (.invokevirtual 64, 3) := by decide +kernel
theorem dX2_read_36 : decode cX2_read 36 = .ok (.ifCond .eq 10, 3) := by decide +kernel
theorem dX2_read_39 : decode cX2_read 39 = .ok (.aload_n 0, 1) := by decide +kernel
theorem dX2_read_40 : decode cX2_read 40 = .ok (.invokevirtual 67, 3) := by decide +kernel
theorem dX2_read_43 : decode cX2_read 43 = .ok (.goto 42, 3) := by decide +kernel
theorem dX2_read_46 : decode cX2_read 46 = .ok (.aload_n 0, 1) := by decide +kernel
theorem dX2_read_47 : decode cX2_read 47 = .ok (.getstatic 71, 3) := by decide +kernel
theorem dX2_read_50 : decode cX2_read 50 = .ok (.invokevirtual 64, 3) := by decide +kernel
theorem dX2_read_53 : decode cX2_read 53 = .ok (.ifCond .eq 10, 3) := by decide +kernel
theorem dX2_read_56 : decode cX2_read 56 = .ok (.aload_n 0, 1) := by decide +kernel
theorem dX2_read_57 : decode cX2_read 57 = .ok (.invokevirtual 74, 3) := by decide +kernel
theorem dX2_read_60 : decode cX2_read 60 = .ok (.goto 25, 3) := by decide +kernel
theorem dX2_read_63 : decode cX2_read 63 = .ok (.aload_n 0, 1) := by decide +kernel
theorem dX2_read_64 : decode cX2_read 64 = .ok (.getstatic 77, 3) := by decide +kernel
theorem dX2_read_67 : decode cX2_read 67 = .ok (.invokevirtual 64, 3) := by decide +kernel
theorem dX2_read_70 : decode cX2_read 70 = .ok (.ifCond .eq 14, 3) := by decide +kernel
theorem dX2_read_73 : decode cX2_read 73 = .ok (.aload_n 0, 1) := by decide +kernel
theorem dX2_read_74 : decode cX2_read 74 = .ok (.invokevirtual 80, 3) := by decide +kernel
theorem dX2_read_77 : decode cX2_read 77 = .ok (.ifCond .eq 7, 3) := by decide +kernel
theorem dX2_read_80 : decode cX2_read 80 = .ok (.iconst 1, 1) := by decide +kernel
theorem dX2_read_81 : decode cX2_read 81 = .ok (.goto 4, 3) := by decide +kernel
theorem dX2_read_84 : decode cX2_read 84 = .ok (.iconst 0, 1) := by decide +kernel
theorem dX2_read_85 : decode cX2_read 85 = .ok (.istore_n 1, 1) := by decide +kernel
theorem dX2_read_86 : decode cX2_read 86 = .ok (.iload_n 1, 1) := by decide +kernel
theorem dX2_read_87 : decode cX2_read 87 = .ok (.ifCond .eq 17, 3) := by decide +kernel
theorem dX2_read_90 : decode cX2_read 90 = .ok (.aload_n 0, 1) := by decide +kernel
theorem dX2_read_91 : decode cX2_read 91 = .ok (.getstatic 83, 3) := by decide +kernel
theorem dX2_read_94 : decode cX2_read 94 = .ok (.invokevirtual 64, 3) := by decide +kernel
theorem dX2_read_97 : decode cX2_read 97 = .ok (.ifCond .eq 7, 3) := by decide +kernel
theorem dX2_read_100 : decode cX2_read 100 = .ok (.iconst 1, 1) := by decide +kernel
theorem dX2_read_101 : decode cX2_read 101 = .ok (.goto 4, 3) := by decide +kernel
theorem dX2_read_104 : decode cX2_read 104 = .ok (.iconst 0, 1) := by decide +kernel
theorem dX2_read_105 : decode cX2_read 105 = .ok (.istore_n 1, 1) := by decide +kernel
theorem dX2_read_106 : decode cX2_read 106 = .ok (.iinc 2 1, 3) := by decide +kernel
theorem dX2_read_109 : decode cX2_read 109 = .ok (.goto (-101), 3) := by decide +kernel
theorem dX2_read_112 : decode cX2_read 112 = .ok (.iload_n 1, 1) := by decide +kernel
theorem dX2_read_113 : decode cX2_read 113 = .ok (.ifCond .ne 23, 3) := by decide +kernel
theorem dX2_read_116 : decode cX2_read 116 = .ok (.aload_n 0, 1) := by decide +kernel
theorem dX2_read_117 : decode cX2_read 117 = .ok (.iconst 1, 1) := by decide +kernel
theorem dX2_read_118 : decode cX2_read 118 = .ok (.putfield 42, 3) := by decide +kernel
theorem dX2_read_121 : decode cX2_read 121 = .ok (.aload_n 0, 1) := by decide +kernel
theorem dX2_read_122 : decode cX2_read 122 = .ok (.aload_n 0, 1) := by decide +kernel
theorem dX2_read_123 : decode cX2_read 123 = .ok (.getfield 12, 3) := by decide +kernel
theorem dX2_read_126 : decode cX2_read 126 = .ok (.aload_n 0, 1) := by decide +kernel
theorem dX2_read_127 : decode cX2_read 127 = .ok (.getfield 39, 3) := by decide +kernel
theorem dX2_read_130 : decode cX2_read 130 = .ok (.invokevirtual 86, 3) := by decide +kernel
theorem dX2_read_133 : decode cX2_read 133 = .ok (.putfield 45, 3) := by decide +kernel
theorem dX2_read_136 : decode cX2_read 136 = .ok (.aload_n 0, 1) := by decide +kernel
theorem dX2_read_137 : decode cX2_read 137 = .ok (.getfield 42, 3) := by decide +kernel
theorem dX2_read_140 : decode cX2_read 140 = .ok (.ireturn, 1) := by decide +kernel
theorem dX2_begin_0 : decode cX2_begin 0 = .ok (.aload_n 0, 1) := by decide +kernel
theorem dX2_begin_1 : decode cX2_begin 1 = .ok (.getfield 12, 3) := by decide +kernel
theorem dX2_begin_4 : decode cX2_begin 4 = .ok (.invokevirtual 90, 3) := by decide +kernel
theorem dX2_begin_7 : decode cX2_begin 7 = .ok (.aload_n 0, 1) := by decide +kernel
theorem dX2_begin_8 : decode cX2_begin 8 = .ok (.iconst 0, 1) := by decide +kernel
theorem dX2_begin_9 : decode cX2_begin 9 = .ok (.putfield 39, 3) := by decide +kernel
theorem dX2_begin_12 : decode cX2_begin 12 = .ok (.aload_n 0, 1) := by decide +kernel
theorem dX2_begin_13 : decode cX2_begin 13 = .ok (.iconst 0, 1) := by decide +kernel
theorem dX2_begin_14 : decode cX2_begin 14 = .ok (.putfield 42, 3) := by decide +kernel
theorem dX2_begin_17 : decode cX2_begin 17 = .ok (.aload_n 0, 1) := by decide +kernel
theorem dX2_begin_18 : decode cX2_begin 18 = .ok (.iconst (-1), 1) := by decide +kernel
theorem dX2_begin_19 : decode cX2_begin 19 = .ok (.putfield 45, 3) := by decide +kernel
theorem dX2_begin_22 : decode cX2_begin 22 = .ok (.aload_n 0, 1) := by decide +kernel
theorem dX2_begin_23 : decode cX2_begin 23 = .ok (.iconst 0, 1) := by decide +kernel
theorem dX2_begin_24 : decode cX2_begin 24 = .ok (.putfield 35, 3) := by decide +kernel
theorem dX2_begin_27 : decode cX2_begin 27 = .ok (.aload_n 0, 1) := by decide +kernel
theorem dX2_begin_28 : decode cX2_begin 28 = .ok (.getfield 32, 3) := by decide +kernel
theorem dX2_begin_31 : decode cX2_begin 31 = .ok (.iconst 0, 1) := by decide +kernel
theorem dX2_begin_32 : decode cX2_begin 32 = .ok (.iconst 2, 1) := by decide +kernel
theorem dX2_begin_33 : decode cX2_begin 33 = .ok (.iastore, 1) := by decide +kernel
theorem dX2_begin_34 : decode cX2_begin 34 = .ok (.aload_n 0, 1) := by decide +kernel
theorem dX2_begin_35 : decode cX2_begin 35 = .ok (.getfield 32, 3) := by decide +kernel
theorem dX2_begin_38 : decode cX2_begin 38 = .ok (.iconst 1, 1) := by decide +kernel
theorem dX2_begin_39 : decode cX2_begin 39 = .ok (.iconst 1, 1) := by decide +kernel
theorem dX2_begin_40 : decode cX2_begin 40 = .ok (.iastore, 1) := by decide +kernel
theorem dX2_begin_41 : decode cX2_begin 41 = .ok (.aload_n 0, 1) := by decide +kernel
theorem dX2_begin_42 : decode cX2_begin 42 = .ok (.getfield 32, 3) := by decide +kernel
theorem dX2_begin_45 : decode cX2_begin 45 = .ok (.iconst 2, 1) := by decide +kernel
theorem dX2_begin_46 : decode cX2_begin 46 = .ok (.iconst 2, 1) := by decide +kernel
theorem dX2_begin_47 : decode cX2_begin 47 = .ok (.iastore, 1) := by decide +kernel
theorem dX2_begin_48 : decode cX2_begin 48 = .ok (.aload_n 0, 1) := by decide +kernel
theorem dX2_begin_49 : decode cX2_begin 49 = .ok (.getfield 21, 3) := by decide +kernel
theorem dX2_begin_52 : decode cX2_begin 52 = .ok (.invokevirtual 93, 3) := by decide +kernel
theorem dX2_begin_55 : decode cX2_begin 55 = .ok (.return_, 1) := by decide +kernel
theorem dX2_readWrestler_0 : decode cX2_readWrestler 0 = .ok (.aload_n 0, 1) := by decide +kernel
theorem dX2_readWrestler_1 : decode cX2_readWrestler 1 = .ok (.getstatic 96, 3) := by decide +kernel
theorem dX2_readWrestler_4 : decode cX2_readWrestler 4 = .ok (.invokevirtual 57, 3) := by decide +kernel
theorem dX2_readWrestler_7 : decode cX2_readWrestler 7 = .ok (.ifCond .ne 5, 3) := by decide +kernel
theorem dX2_readWrestler_10 : decode cX2_readWrestler 10 = .ok (.iconst 0, 1) := by decide +kernel
theorem dX2_readWrestler_11 : decode cX2_readWrestler 11 = .ok (.ireturn, 1) := by decide +kernel
theorem dX2_readWrestler_12 : decode cX2_readWrestler 12 = .ok (.aload_n 0, 1) := by decide +kernel
theorem dX2_readWrestler_13 : decode cX2_readWrestler 13 = .ok (.invokevirtual 99, 3) := by decide +kernel
theorem dX2_readWrestler_16 : decode cX2_readWrestler 16 = .ok (.aload_n 0, 1) := by decide +kernel
theorem dX2_readWrestler_17 : decode cX2_readWrestler 17 = .ok (.getfield 39, 3) := by decide +kernel
theorem dX2_readWrestler_20 : decode cX2_readWrestler 20 = .ok (.istore_n 1, 1) := by decide +kernel
theorem dX2_readWrestler_21 : decode cX2_readWrestler 21 = .ok (.aload_n 0, 1) := by decide +kernel
theorem dX2_readWrestler_22 : decode cX2_readWrestler 22 = .ok (.dup, 1) := by decide +kernel
theorem dX2_readWrestler_23 : decode cX2_readWrestler 23 = .ok (.getfield 39, 3) := by decide +kernel
theorem dX2_readWrestler_26 : decode cX2_readWrestler 26 = .ok (.iconst 1, 1) := by decide +kernel
theorem dX2_readWrestler_27 : decode cX2_readWrestler 27 = .ok (.iadd, 1) := by decide +kernel
theorem dX2_readWrestler_28 : decode cX2_readWrestler 28 = .ok (.putfield 39, 3) := by decide +kernel
theorem dX2_readWrestler_31 : decode cX2_readWrestler 31 = .ok (.aload_n 0, 1) := by decide +kernel
theorem dX2_readWrestler_32 : decode cX2_readWrestler 32 = .ok (.getstatic 102, 3) := by decide +kernel
theorem dX2_readWrestler_35 : decode cX2_readWrestler 35 = .ok (.invokevirtual 64, 3) := by decide +kernel
theorem dX2_readWrestler_38 : decode cX2_readWrestler 38 = .ok (.ifCond .eq 13, 3) := by decide +kernel
theorem dX2_readWrestler_41 : decode cX2_readWrestler 41 = .ok (.aload_n 0, 1) := by decide +kernel
theorem dX2_readWrestler_42 : decode cX2_readWrestler 42 = .ok (.getstatic 105, 3) := by decide +kernel
theorem dX2_readWrestler_45 : decode cX2_readWrestler 45 = .ok (.invokevirtual 57, 3) := by decide +kernel
theorem dX2_readWrestler_48 : decode cX2_readWrestler 48 = .ok (.ifCond .ne 5, 3) := by decide +kernel
theorem dX2_readWrestler_51 : decode cX2_readWrestler 51 = .ok (.iconst 0, 1) := by decide +kernel
theorem dX2_readWrestler_52 : decode cX2_readWrestler 52 = .ok (.ireturn, 1) := by decide +kernel
theorem dX2_readWrestler_53 : decode cX2_readWrestler 53 = .ok (.aload_n 0, 1) := by decide +kernel
theorem dX2_readWrestler_54 : decode cX2_readWrestler 54 = .ok (.iconst 1, 1) := by decide +kernel
theorem dX2_readWrestler_55 : decode cX2_readWrestler 55 = .ok (.sipush 999, 3) := by decide +kernel
theorem dX2_readWrestler_58 : decode cX2_readWrestler 58 = .ok (.invokevirtual 108, 3) := by decide +kernel
theorem dX2_readWrestler_61 : decode cX2_readWrestler 61 = .ok (.istore_n 2, 1) := by decide +kernel
theorem dX2_readWrestler_62 : decode cX2_readWrestler 62 = .ok (.aload_n 0, 1) := by decide +kernel
theorem dX2_readWrestler_63 : decode cX2_readWrestler 63 = .ok (.getfield 35, 3) := by decide +kernel
theorem dX2_readWrestler_66 : decode cX2_readWrestler 66 = .ok (.bipush 12, 2) := by decide +kernel
theorem dX2_readWrestler_68 : decode cX2_readWrestler 68 = .ok (.if_icmp .ge 33, 3) := by decide +kernel
theorem dX2_readWrestler_71 : decode cX2_readWrestler 71 = .ok (.aload_n 0, 1) := by decide +kernel
theorem dX2_readWrestler_72 : decode cX2_readWrestler 72 = .ok (.getfield 29, 3) := by decide +kernel
theorem dX2_readWrestler_75 : decode cX2_readWrestler 75 = .ok (.aload_n 0, 1) := by decide +kernel
theorem dX2_readWrestler_76 : decode cX2_readWrestler 76 = .ok (.getfield 35, 3) := by decide +kernel
theorem dX2_readWrestler_79 : decode cX2_readWrestler 79 = .ok (.iload_n 1, 1) := by decide +kernel
theorem dX2_readWrestler_80 : decode cX2_readWrestler 80 = .ok (.iastore, 1) := by decide +kernel
theorem dX2_readWrestler_81 : decode cX2_readWrestler 81 = .ok (.aload_n 0, 1) := by decide +kernel
theorem dX2_readWrestler_82 : decode cX2_readWrestler 82 = .ok (.getfield 25, 3) := by decide +kernel
theorem dX2_readWrestler_85 : decode cX2_readWrestler 85 = .ok (.aload_n 0, 1) := by decide +kernel
theorem dX2_readWrestler_86 : decode cX2_readWrestler 86 = .ok (.getfield 35, 3) := by decide +kernel
theorem dX2_readWrestler_89 : decode cX2_readWrestler 89 = .ok (.iload_n 2, 1) := by decide +kernel
theorem dX2_readWrestler_90 : decode cX2_readWrestler 90 = .ok (.iastore, 1) := by decide +kernel
theorem dX2_readWrestler_91 : decode cX2_readWrestler 91 = .ok (.aload_n 0, 1) := by decide +kernel
theorem dX2_readWrestler_92 : decode cX2_readWrestler 92 = .ok (.dup, 1) := by decide +kernel
theorem dX2_readWrestler_93 : decode cX2_readWrestler 93 = .ok (.getfield 35, 3) := by decide +kernel
theorem dX2_readWrestler_96 : decode cX2_readWrestler 96 = .ok (.iconst 1, 1) := by decide +kernel
theorem dX2_readWrestler_97 : decode cX2_readWrestler 97 = .ok (.iadd, 1) := by decide +kernel
theorem dX2_readWrestler_98 : decode cX2_readWrestler 98 = .ok (.putfield 35, 3) := by decide +kernel
theorem dX2_readWrestler_101 : decode cX2_readWrestler 101 = .ok (.iconst 1, 1) := by decide +kernel
theorem dX2_readWrestler_102 : decode cX2_readWrestler 102 = .ok (.ireturn, 1) := by decide +kernel
theorem dX2_checkName_0 : decode cX2_checkName 0 = .ok (.iconst 0, 1) := by decide +kernel
theorem dX2_checkName_1 : decode cX2_checkName 1 = .ok (.istore_n 1, 1) := by decide +kernel
theorem dX2_checkName_2 : decode cX2_checkName 2 = .ok (.iload_n 1, 1) := by decide +kernel
theorem dX2_checkName_3 : decode cX2_checkName 3 = .ok (.aload_n 0, 1) := by decide +kernel
theorem dX2_checkName_4 : decode cX2_checkName 4 = .ok (.getfield 35, 3) := by decide +kernel
theorem dX2_checkName_7 : decode cX2_checkName 7 = .ok (.if_icmp .ge 38, 3) := by decide +kernel
theorem dX2_checkName_10 : decode cX2_checkName 10 = .ok (.aload_n 0, 1) := by decide +kernel
theorem dX2_checkName_11 : decode cX2_checkName 11 = .ok (.getfield 12, 3) := by decide +kernel
theorem dX2_checkName_14 : decode cX2_checkName 14 = .ok (.aload_n 0, 1) := by decide +kernel
theorem dX2_checkName_15 : decode cX2_checkName 15 = .ok (.getfield 29, 3) := by decide +kernel
theorem dX2_checkName_18 : decode cX2_checkName 18 = .ok (.iload_n 1, 1) := by decide +kernel
theorem dX2_checkName_19 : decode cX2_checkName 19 = .ok (.iaload, 1) := by decide +kernel
theorem dX2_checkName_20 : decode cX2_checkName 20 = .ok (.aload_n 0, 1) := by decide +kernel
theorem dX2_checkName_21 : decode cX2_checkName 21 = .ok (.getfield 39, 3) := by decide +kernel
theorem dX2_checkName_24 : decode cX2_checkName 24 = .ok (.invokevirtual 112, 3) := by decide +kernel
theorem dX2_checkName_27 : decode cX2_checkName 27 = .ok (.ifCond .eq 12, 3) := by decide +kernel
theorem dX2_checkName_30 : decode cX2_checkName 30 = .ok (.aload_n 0, 1) := by decide +kernel
theorem dX2_checkName_31 : decode cX2_checkName 31 = .ok (.iconst 2, 1) := by decide +kernel
theorem dX2_checkName_32 : decode cX2_checkName 32 = .ok (.aload_n 0, 1) := by decide +kernel
theorem dX2_checkName_33 : decode cX2_checkName 33 = .ok (.getfield 39, 3) := by decide +kernel
theorem dX2_checkName_36 : decode cX2_checkName 36 = .ok (.invokevirtual 116, 3) := by decide +kernel
theorem dX2_checkName_39 : decode cX2_checkName 39 = .ok (.iinc 1 1, 3) := by decide +kernel
theorem dX2_checkName_42 : decode cX2_checkName 42 = .ok (.goto (-40), 3) := by decide +kernel
theorem dX2_checkName_45 : decode cX2_checkName 45 = .ok (.aload_n 0, 1) := by decide +kernel
theorem dX2_checkName_46 : decode cX2_checkName 46 = .ok (.getfield 35, 3) := by decide +kernel
theorem dX2_checkName_49 : decode cX2_checkName 49 = .ok (.bipush 12, 2) := by decide +kernel
theorem dX2_checkName_51 : decode cX2_checkName 51 = .ok (.if_icmp .ne 12, 3) := by decide +kernel
theorem dX2_checkName_54 : decode cX2_checkName 54 = .ok (.aload_n 0, 1) := by decide +kernel
theorem dX2_checkName_55 : decode cX2_checkName 55 = .ok (.iconst 4, 1) := by decide +kernel
theorem dX2_checkName_56 : decode cX2_checkName 56 = .ok (.aload_n 0, 1) := by decide +kernel
theorem dX2_checkName_57 : decode cX2_checkName 57 = .ok (.getfield 39, 3) := by decide +kernel
theorem dX2_checkName_60 : decode cX2_checkName 60 = .ok (.invokevirtual 116, 3) := by decide +kernel
theorem dX2_checkName_63 : decode cX2_checkName 63 = .ok (.return_, 1) := by decide +kernel
theorem dX2_readPoints_0 : decode cX2_readPoints 0 = .ok (.iconst 0, 1) := by decide +kernel
theorem dX2_readPoints_1 : decode cX2_readPoints 1 = .ok (.istore_n 1, 1) := by decide +kernel
theorem dX2_readPoints_2 : decode cX2_readPoints 2 = .ok (.iload_n 1, 1) := by decide +kernel
theorem dX2_readPoints_3 : decode cX2_readPoints 3 = .ok (.iconst 3, 1) := by decide +kernel
theorem dX2_readPoints_4 : decode cX2_readPoints 4 = .ok (.if_icmp .ge 34, 3) := by decide +kernel
theorem dX2_readPoints_7 : decode cX2_readPoints 7 = .ok (.aload_n 0, 1) := by decide +kernel
theorem dX2_readPoints_8 : decode cX2_readPoints 8 = .ok (.getstatic 105, 3) := by decide +kernel
theorem dX2_readPoints_11 : decode cX2_readPoints 11 = .ok (.invokevirtual 57, 3) := by decide +kernel
theorem dX2_readPoints_14 : decode cX2_readPoints 14 = .ok (.ifCond .ne 5, 3) := by decide +kernel
theorem dX2_readPoints_17 : decode cX2_readPoints 17 = .ok (.iconst 0, 1) := by decide +kernel
theorem dX2_readPoints_18 : decode cX2_readPoints 18 = .ok (.ireturn, 1) := by decide +kernel
theorem dX2_readPoints_19 : decode cX2_readPoints 19 = .ok (.aload_n 0, 1) := by decide +kernel
theorem dX2_readPoints_20 : decode cX2_readPoints 20 = .ok (.getfield 32, 3) := by decide +kernel
theorem dX2_readPoints_23 : decode cX2_readPoints 23 = .ok (.iload_n 1, 1) := by decide +kernel
theorem dX2_readPoints_24 : decode cX2_readPoints 24 = .ok (.aload_n 0, 1) := by decide +kernel
theorem dX2_readPoints_25 : decode cX2_readPoints 25 = .ok (.iconst 0, 1) := by decide +kernel
theorem dX2_readPoints_26 : decode cX2_readPoints 26 = .ok (.bipush 9, 2) := by decide +kernel
theorem dX2_readPoints_28 : decode cX2_readPoints 28 = .ok (.invokevirtual 108, 3) := by decide +kernel
theorem dX2_readPoints_31 : decode cX2_readPoints 31 = .ok (.iastore, 1) := by decide +kernel
theorem dX2_readPoints_32 : decode cX2_readPoints 32 = .ok (.iinc 1 1, 3) := by decide +kernel
theorem dX2_readPoints_35 : decode cX2_readPoints 35 = .ok (.goto (-33), 3) := by decide +kernel
theorem dX2_readPoints_38 : decode cX2_readPoints 38 = .ok (.iconst 1, 1) := by decide +kernel
theorem dX2_readPoints_39 : decode cX2_readPoints 39 = .ok (.ireturn, 1) := by decide +kernel
theorem dX2_readRule_0 : decode cX2_readRule 0 = .ok (.aload_n 0, 1) := by decide +kernel
theorem dX2_readRule_1 : decode cX2_readRule 1 = .ok (.getfield 21, 3) := by decide +kernel
theorem dX2_readRule_4 : decode cX2_readRule 4 = .ok (.getfield 120, 3) := by decide +kernel
theorem dX2_readRule_7 : decode cX2_readRule 7 = .ok (.bipush 16, 2) := by decide +kernel
theorem dX2_readRule_9 : decode cX2_readRule 9 = .ok (.if_icmp .ne 14, 3) := by decide +kernel
theorem dX2_readRule_12 : decode cX2_readRule 12 = .ok (.aload_n 0, 1) := by decide +kernel
theorem dX2_readRule_13 : decode cX2_readRule 13 = .ok (.iconst 4, 1) := by decide +kernel
theorem dX2_readRule_14 : decode cX2_readRule 14 = .ok (.aload_n 0, 1) := by decide +kernel
theorem dX2_readRule_15 : decode cX2_readRule 15 = .ok (.getfield 39, 3) := by decide +kernel
theorem dX2_readRule_18 : decode cX2_readRule 18 = .ok (.iconst 1, 1) := by decide +kernel
theorem dX2_readRule_19 : decode cX2_readRule 19 = .ok (.isub, 1) := by decide +kernel
theorem dX2_readRule_20 : decode cX2_readRule 20 = .ok (.invokevirtual 116, 3) := by decide +kernel
theorem dX2_readRule_23 : decode cX2_readRule 23 = .ok (.aload_n 0, 1) := by decide +kernel
theorem dX2_readRule_24 : decode cX2_readRule 24 = .ok (.invokevirtual 123, 3) := by decide +kernel
theorem dX2_readRule_27 : decode cX2_readRule 27 = .ok (.istore_n 1, 1) := by decide +kernel
theorem dX2_readRule_28 : decode cX2_readRule 28 = .ok (.iload_n 1, 1) := by decide +kernel
theorem dX2_readRule_29 : decode cX2_readRule 29 = .ok (.iconst (-1), 1) := by decide +kernel
theorem dX2_readRule_30 : decode cX2_readRule 30 = .ok (.if_icmp .eq 21, 3) := by decide +kernel
theorem dX2_readRule_33 : decode cX2_readRule 33 = .ok (.aload_n 0, 1) := by decide +kernel
theorem dX2_readRule_34 : decode cX2_readRule 34 = .ok (.getstatic 127, 3) := by decide +kernel
theorem dX2_readRule_37 : decode cX2_readRule 37 = .ok (.invokevirtual 64, 3) := by decide +kernel
theorem dX2_readRule_40 : decode cX2_readRule 40 = .ok (.ifCond .eq 13, 3) := by decide +kernel
theorem dX2_readRule_43 : decode cX2_readRule 43 = .ok (.aload_n 0, 1) := by decide +kernel
theorem dX2_readRule_44 : decode cX2_readRule 44 = .ok (.iconst 0, 1) := by decide +kernel
theorem dX2_readRule_45 : decode cX2_readRule 45 = .ok (.invokevirtual 130, 3) := by decide +kernel
theorem dX2_readRule_48 : decode cX2_readRule 48 = .ok (.ifCond .ne 5, 3) := by decide +kernel
theorem dX2_readRule_51 : decode cX2_readRule 51 = .ok (.iconst 0, 1) := by decide +kernel
theorem dX2_readRule_52 : decode cX2_readRule 52 = .ok (.ireturn, 1) := by decide +kernel
theorem dX2_readRule_53 : decode cX2_readRule 53 = .ok (.aload_n 0, 1) := by decide +kernel
theorem dX2_readRule_54 : decode cX2_readRule 54 = .ok (.getfield 21, 3) := by decide +kernel
theorem dX2_readRule_57 : decode cX2_readRule 57 = .ok (.iload_n 1, 1) := by decide +kernel
theorem dX2_readRule_58 : decode cX2_readRule 58 = .ok (.invokevirtual 134, 3) := by decide +kernel
theorem dX2_readRule_61 : decode cX2_readRule 61 = .ok (.iconst 1, 1) := by decide +kernel
theorem dX2_readRule_62 : decode cX2_readRule 62 = .ok (.ireturn, 1) := by decide +kernel
theorem dX2_readOutcome_0 : decode cX2_readOutcome 0 = .ok (.aload_n 0, 1) := by decide +kernel
theorem dX2_readOutcome_1 : decode cX2_readOutcome 1 = .ok (.getstatic 138, 3) := by decide +kernel
theorem dX2_readOutcome_4 : decode cX2_readOutcome 4 = .ok (.invokevirtual 64, 3) := by decide +kernel
theorem dX2_readOutcome_7 : decode cX2_readOutcome 7 = .ok (.ifCond .eq 5, 3) := by decide +kernel
theorem dX2_readOutcome_10 : decode cX2_readOutcome 10 = .ok (.iconst 1, 1) := by decide +kernel
theorem dX2_readOutcome_11 : decode cX2_readOutcome 11 = .ok (.ireturn, 1) := by decide +kernel
theorem dX2_readOutcome_12 : decode cX2_readOutcome 12 = .ok (.aload_n 0, 1) := by decide +kernel
theorem dX2_readOutcome_13 : decode cX2_readOutcome 13 = .ok (.getstatic 141, 3) := by decide +kernel
theorem dX2_readOutcome_16 : decode cX2_readOutcome 16 = .ok (.invokevirtual 57, 3) := by decide +kernel
theorem dX2_readOutcome_19 : decode cX2_readOutcome 19 = .ok (.ifCond .eq 7, 3) := by decide +kernel
theorem dX2_readOutcome_22 : decode cX2_readOutcome 22 = .ok (.iconst 0, 1) := by decide +kernel
theorem dX2_readOutcome_23 : decode cX2_readOutcome 23 = .ok (.goto 18, 3) := by decide +kernel
theorem dX2_readOutcome_26 : decode cX2_readOutcome 26 = .ok (.aload_n 0, 1) := by decide +kernel
theorem dX2_readOutcome_27 : decode cX2_readOutcome 27 = .ok (.getstatic 144, 3) := by decide +kernel
theorem dX2_readOutcome_30 : decode cX2_readOutcome 30 = .ok (.invokevirtual 57, 3) := by decide +kernel
theorem dX2_readOutcome_33 : decode cX2_readOutcome 33 = .ok (.ifCond .eq 7, 3) := by decide +kernel
theorem dX2_readOutcome_36 : decode cX2_readOutcome 36 = .ok (.iconst 2, 1) := by decide +kernel
theorem dX2_readOutcome_37 : decode cX2_readOutcome 37 = .ok (.goto 4, 3) := by decide +kernel
theorem dX2_readOutcome_40 : decode cX2_readOutcome 40 = .ok (.iconst (-1), 1) := by decide +kernel
theorem dX2_readOutcome_41 : decode cX2_readOutcome 41 = .ok (.istore_n 1, 1) := by decide +kernel
theorem dX2_readOutcome_42 : decode cX2_readOutcome 42 = .ok (.iload_n 1, 1) := by decide +kernel
theorem dX2_readOutcome_43 : decode cX2_readOutcome 43 = .ok (.iconst (-1), 1) := by decide +kernel
theorem dX2_readOutcome_44 : decode cX2_readOutcome 44 = .ok (.if_icmp .ne 5, 3) := by decide +kernel
theorem dX2_readOutcome_47 : decode cX2_readOutcome 47 = .ok (.iconst (-1), 1) := by decide +kernel
theorem dX2_readOutcome_48 : decode cX2_readOutcome 48 = .ok (.ireturn, 1) := by decide +kernel
theorem dX2_readOutcome_49 : decode cX2_readOutcome 49 = .ok (.aload_n 0, 1) := by decide +kernel
theorem dX2_readOutcome_50 : decode cX2_readOutcome 50 = .ok (.dup, 1) := by decide +kernel
theorem dX2_readOutcome_51 : decode cX2_readOutcome 51 = .ok (.getfield 39, 3) := by decide +kernel
theorem dX2_readOutcome_54 : decode cX2_readOutcome 54 = .ok (.iconst 1, 1) := by decide +kernel
theorem dX2_readOutcome_55 : decode cX2_readOutcome 55 = .ok (.iadd, 1) := by decide +kernel
theorem dX2_readOutcome_56 : decode cX2_readOutcome 56 = .ok (.putfield 39, 3) := by decide +kernel
theorem dX2_readOutcome_59 : decode cX2_readOutcome 59 = .ok (.aload_n 0, 1) := by decide +kernel
theorem dX2_readOutcome_60 : decode cX2_readOutcome 60 = .ok (.getstatic 147, 3) := by decide +kernel
theorem dX2_readOutcome_63 : decode cX2_readOutcome 63 = .ok (.invokevirtual 64, 3) := by decide +kernel
theorem dX2_readOutcome_66 : decode cX2_readOutcome 66 = .ok (.ifCond .eq 7, 3) := by decide +kernel
theorem dX2_readOutcome_69 : decode cX2_readOutcome 69 = .ok (.iload_n 1, 1) := by decide +kernel
theorem dX2_readOutcome_70 : decode cX2_readOutcome 70 = .ok (.goto 4, 3) := by decide +kernel
theorem dX2_readOutcome_73 : decode cX2_readOutcome 73 = .ok (.iconst (-1), 1) := by decide +kernel
theorem dX2_readOutcome_74 : decode cX2_readOutcome 74 = .ok (.ireturn, 1) := by decide +kernel
theorem dX2_readTest_0 : decode cX2_readTest 0 = .ok (.aload_n 0, 1) := by decide +kernel
theorem dX2_readTest_1 : decode cX2_readTest 1 = .ok (.iload_n 1, 1) := by decide +kernel
theorem dX2_readTest_2 : decode cX2_readTest 2 = .ok (.invokevirtual 150, 3) := by decide +kernel
theorem dX2_readTest_5 : decode cX2_readTest 5 = .ok (.ifCond .ne 5, 3) := by decide +kernel
theorem dX2_readTest_8 : decode cX2_readTest 8 = .ok (.iconst 0, 1) := by decide +kernel
theorem dX2_readTest_9 : decode cX2_readTest 9 = .ok (.ireturn, 1) := by decide +kernel
theorem dX2_readTest_10 : decode cX2_readTest 10 = .ok (.iconst 0, 1) := by decide +kernel
theorem dX2_readTest_11 : decode cX2_readTest 11 = .ok (.istore_n 2, 1) := by decide +kernel
theorem dX2_readTest_12 : decode cX2_readTest 12 = .ok (.iload_n 2, 1) := by decide +kernel
theorem dX2_readTest_13 : decode cX2_readTest 13 = .ok (.sipush 400, 3) := by decide +kernel
theorem dX2_readTest_16 : decode cX2_readTest 16 = .ok (.if_icmp .ge 38, 3) := by decide +kernel
theorem dX2_readTest_19 : decode cX2_readTest 19 = .ok (.aload_n 0, 1) := by decide +kernel
theorem dX2_readTest_20 : decode cX2_readTest 20 = .ok (.getstatic 153, 3) := by decide +kernel
theorem dX2_readTest_23 : decode cX2_readTest 23 = .ok (.invokevirtual 64, 3) := by decide +kernel
theorem dX2_readTest_26 : decode cX2_readTest 26 = .ok (.ifCond .eq 28, 3) := by decide +kernel
theorem dX2_readTest_29 : decode cX2_readTest 29 = .ok (.aload_n 0, 1) := by decide +kernel
theorem dX2_readTest_30 : decode cX2_readTest 30 = .ok (.iload_n 1, 1) := by decide +kernel
theorem dX2_readTest_31 : decode cX2_readTest 31 = .ok (.invokevirtual 150, 3) := by decide +kernel
theorem dX2_readTest_34 : decode cX2_readTest 34 = .ok (.ifCond .ne 5, 3) := by decide +kernel
theorem dX2_readTest_37 : decode cX2_readTest 37 = .ok (.iconst 0, 1) := by decide +kernel
theorem dX2_readTest_38 : decode cX2_readTest 38 = .ok (.ireturn, 1) := by decide +kernel
theorem dX2_readTest_39 : decode cX2_readTest 39 = .ok (.aload_n 0, 1) := by decide +kernel
theorem dX2_readTest_40 : decode cX2_readTest 40 = .ok (.getfield 21, 3) := by decide +kernel
theorem dX2_readTest_43 : decode cX2_readTest 43 = .ok (.bipush 20, 2) := by decide +kernel
theorem dX2_readTest_45 : decode cX2_readTest 45 = .ok (.invokevirtual 156, 3) := by decide +kernel
theorem dX2_readTest_48 : decode cX2_readTest 48 = .ok (.iinc 2 1, 3) := by decide +kernel
theorem dX2_readTest_51 : decode cX2_readTest 51 = .ok (.goto (-39), 3) := by decide +kernel
theorem dX2_readTest_54 : decode cX2_readTest 54 = .ok (.iconst 1, 1) := by decide +kernel
theorem dX2_readTest_55 : decode cX2_readTest 55 = .ok (.ireturn, 1) := by decide +kernel
theorem dX2_readBoth_0 : decode cX2_readBoth 0 = .ok (.aload_n 0, 1) := by decide +kernel
theorem dX2_readBoth_1 : decode cX2_readBoth 1 = .ok (.iload_n 1, 1) := by decide +kernel
theorem dX2_readBoth_2 : decode cX2_readBoth 2 = .ok (.invokevirtual 159, 3) := by decide +kernel
theorem dX2_readBoth_5 : decode cX2_readBoth 5 = .ok (.ifCond .ne 5, 3) := by decide +kernel
theorem dX2_readBoth_8 : decode cX2_readBoth 8 = .ok (.iconst 0, 1) := by decide +kernel
theorem dX2_readBoth_9 : decode cX2_readBoth 9 = .ok (.ireturn, 1) := by decide +kernel
theorem dX2_readBoth_10 : decode cX2_readBoth 10 = .ok (.iconst 0, 1) := by decide +kernel
theorem dX2_readBoth_11 : decode cX2_readBoth 11 = .ok (.istore_n 2, 1) := by decide +kernel
theorem dX2_readBoth_12 : decode cX2_readBoth 12 = .ok (.iload_n 2, 1) := by decide +kernel
theorem dX2_readBoth_13 : decode cX2_readBoth 13 = .ok (.sipush 400, 3) := by decide +kernel
theorem dX2_readBoth_16 : decode cX2_readBoth 16 = .ok (.if_icmp .ge 38, 3) := by decide +kernel
theorem dX2_readBoth_19 : decode cX2_readBoth 19 = .ok (.aload_n 0, 1) := by decide +kernel
theorem dX2_readBoth_20 : decode cX2_readBoth 20 = .ok (.getstatic 162, 3) := by decide +kernel
theorem dX2_readBoth_23 : decode cX2_readBoth 23 = .ok (.invokevirtual 64, 3) := by decide +kernel
theorem dX2_readBoth_26 : decode cX2_readBoth 26 = .ok (.ifCond .eq 28, 3) := by decide +kernel
theorem dX2_readBoth_29 : decode cX2_readBoth 29 = .ok (.aload_n 0, 1) := by decide +kernel
theorem dX2_readBoth_30 : decode cX2_readBoth 30 = .ok (.iload_n 1, 1) := by decide +kernel
theorem dX2_readBoth_31 : decode cX2_readBoth 31 = .ok (.invokevirtual 159, 3) := by decide +kernel
theorem dX2_readBoth_34 : decode cX2_readBoth 34 = .ok (.ifCond .ne 5, 3) := by decide +kernel
theorem dX2_readBoth_37 : decode cX2_readBoth 37 = .ok (.iconst 0, 1) := by decide +kernel
theorem dX2_readBoth_38 : decode cX2_readBoth 38 = .ok (.ireturn, 1) := by decide +kernel
theorem dX2_readBoth_39 : decode cX2_readBoth 39 = .ok (.aload_n 0, 1) := by decide +kernel
theorem dX2_readBoth_40 : decode cX2_readBoth 40 = .ok (.getfield 21, 3) := by decide +kernel
theorem dX2_readBoth_43 : decode cX2_readBoth 43 = .ok (.bipush 19, 2) := by decide +kernel
theorem dX2_readBoth_45 : decode cX2_readBoth 45 = .ok (.invokevirtual 156, 3) := by decide +kernel
theorem dX2_readBoth_48 : decode cX2_readBoth 48 = .ok (.iinc 2 1, 3) := by decide +kernel
theorem dX2_readBoth_51 : decode cX2_readBoth 51 = .ok (.goto (-39), 3) := by decide +kernel
theorem dX2_readBoth_54 : decode cX2_readBoth 54 = .ok (.iconst 1, 1) := by decide +kernel
theorem dX2_readBoth_55 : decode cX2_readBoth 55 = .ok (.ireturn, 1) := by decide +kernel
theorem dX2_readSingle_0 : decode cX2_readSingle 0 = .ok (.aload_n 0, 1) := by decide +kernel
theorem dX2_readSingle_1 : decode cX2_readSingle 1 = .ok (.getstatic 165, 3) := by decide +kernel
theorem dX2_readSingle_4 : decode cX2_readSingle 4 = .ok (.invokevirtual 57, 3) := by decide +kernel
theorem dX2_readSingle_7 : decode cX2_readSingle 7 = .ok (.ifCond .eq 9, 3) := by decide +kernel
theorem dX2_readSingle_10 : decode cX2_readSingle 10 = .ok (.aload_n 0, 1) := by decide +kernel
theorem dX2_readSingle_11 : decode cX2_readSingle 11 = .ok (.iload_n 1, 1) := by decide +kernel
theorem dX2_readSingle_12 : decode cX2_readSingle 12 = .ok (.invokevirtual 168, 3) := by decide +kernel
theorem dX2_readSingle_15 : decode cX2_readSingle 15 = .ok (.ireturn, 1) := by decide +kernel
theorem dX2_readSingle_16 : decode cX2_readSingle 16 = .ok (.aload_n 0, 1) := by decide +kernel
theorem dX2_readSingle_17 : decode cX2_readSingle 17 = .ok (.getstatic 171, 3) := by decide +kernel
theorem dX2_readSingle_20 : decode cX2_readSingle 20 = .ok (.invokevirtual 57, 3) := by decide +kernel
theorem dX2_readSingle_23 : decode cX2_readSingle 23 = .ok (.ifCond .eq 40, 3) := by decide +kernel
theorem dX2_readSingle_26 : decode cX2_readSingle 26 = .ok (.aload_n 0, 1) := by decide +kernel
theorem dX2_readSingle_27 : decode cX2_readSingle 27 = .ok (.getstatic 171, 3) := by decide +kernel
theorem dX2_readSingle_30 : decode cX2_readSingle 30 = .ok (.iload_n 1, 1) := by decide +kernel
theorem dX2_readSingle_31 : decode cX2_readSingle 31 = .ok (.invokevirtual 174, 3) := by decide +kernel
theorem dX2_readSingle_34 : decode cX2_readSingle 34 = .ok (.ifCond .eq 27, 3) := by decide +kernel
theorem dX2_readSingle_37 : decode cX2_readSingle 37 = .ok (.aload_n 0, 1) := by decide +kernel
theorem dX2_readSingle_38 : decode cX2_readSingle 38 = .ok (.iload_n 1, 1) := by decide +kernel
theorem dX2_readSingle_39 : decode cX2_readSingle 39 = .ok (.iconst 1, 1) := by decide +kernel
theorem dX2_readSingle_40 : decode cX2_readSingle 40 = .ok (.iadd, 1) := by decide +kernel
theorem dX2_readSingle_41 : decode cX2_readSingle 41 = .ok (.invokevirtual 130, 3) := by decide +kernel
theorem dX2_readSingle_44 : decode cX2_readSingle 44 = .ok (.ifCond .eq 17, 3) := by decide +kernel
theorem dX2_readSingle_47 : decode cX2_readSingle 47 = .ok (.aload_n 0, 1) := by decide +kernel
theorem dX2_readSingle_48 : decode cX2_readSingle 48 = .ok (.getstatic 178, 3) := by decide +kernel
theorem dX2_readSingle_51 : decode cX2_readSingle 51 = .ok (.invokevirtual 64, 3) := by decide +kernel
theorem dX2_readSingle_54 : decode cX2_readSingle 54 = .ok (.ifCond .eq 7, 3) := by decide +kernel
theorem dX2_readSingle_57 : decode cX2_readSingle 57 = .ok (.iconst 1, 1) := by decide +kernel
theorem dX2_readSingle_58 : decode cX2_readSingle 58 = .ok (.goto 4, 3) := by decide +kernel
theorem dX2_readSingle_61 : decode cX2_readSingle 61 = .ok (.iconst 0, 1) := by decide +kernel
theorem dX2_readSingle_62 : decode cX2_readSingle 62 = .ok (.ireturn, 1) := by decide +kernel
theorem dX2_readSingle_63 : decode cX2_readSingle 63 = .ok (.aload_n 0, 1) := by decide +kernel
theorem dX2_readSingle_64 : decode cX2_readSingle 64 = .ok (.getstatic 181, 3) := by decide +kernel
theorem dX2_readSingle_67 : decode cX2_readSingle 67 = .ok (.invokevirtual 64, 3) := by decide +kernel
theorem dX2_readSingle_70 : decode cX2_readSingle 70 = .ok (.ifCond .eq 13, 3) := by decide +kernel
theorem dX2_readSingle_73 : decode cX2_readSingle 73 = .ok (.aload_n 0, 1) := by decide +kernel
theorem dX2_readSingle_74 : decode cX2_readSingle 74 = .ok (.getfield 21, 3) := by decide +kernel
theorem dX2_readSingle_77 : decode cX2_readSingle 77 = .ok (.iconst 5, 1) := by decide +kernel
theorem dX2_readSingle_78 : decode cX2_readSingle 78 = .ok (.invokevirtual 156, 3) := by decide +kernel
theorem dX2_readSingle_81 : decode cX2_readSingle 81 = .ok (.iconst 1, 1) := by decide +kernel
theorem dX2_readSingle_82 : decode cX2_readSingle 82 = .ok (.ireturn, 1) := by decide +kernel
theorem dX2_readSingle_83 : decode cX2_readSingle 83 = .ok (.aload_n 0, 1) := by decide +kernel
theorem dX2_readSingle_84 : decode cX2_readSingle 84 = .ok (.iload_n 1, 1) := by decide +kernel
theorem dX2_readSingle_85 : decode cX2_readSingle 85 = .ok (.invokevirtual 184, 3) := by decide +kernel
theorem dX2_readSingle_88 : decode cX2_readSingle 88 = .ok (.ireturn, 1) := by decide +kernel
theorem dX2_readNot_0 : decode cX2_readNot 0 = .ok (.aload_n 0, 1) := by decide +kernel
theorem dX2_readNot_1 : decode cX2_readNot 1 = .ok (.getstatic 165, 3) := by decide +kernel
theorem dX2_readNot_4 : decode cX2_readNot 4 = .ok (.iload_n 1, 1) := by decide +kernel
theorem dX2_readNot_5 : decode cX2_readNot 5 = .ok (.invokevirtual 174, 3) := by decide +kernel
theorem dX2_readNot_8 : decode cX2_readNot 8 = .ok (.ifCond .eq 13, 3) := by decide +kernel
theorem dX2_readNot_11 : decode cX2_readNot 11 = .ok (.aload_n 0, 1) := by decide +kernel
theorem dX2_readNot_12 : decode cX2_readNot 12 = .ok (.iload_n 1, 1) := by decide +kernel
theorem dX2_readNot_13 : decode cX2_readNot 13 = .ok (.iconst 1, 1) := by decide +kernel
theorem dX2_readNot_14 : decode cX2_readNot 14 = .ok (.iadd, 1) := by decide +kernel
theorem dX2_readNot_15 : decode cX2_readNot 15 = .ok (.invokevirtual 159, 3) := by decide +kernel
theorem dX2_readNot_18 : decode cX2_readNot 18 = .ok (.ifCond .ne 5, 3) := by decide +kernel
theorem dX2_readNot_21 : decode cX2_readNot 21 = .ok (.iconst 0, 1) := by decide +kernel
theorem dX2_readNot_22 : decode cX2_readNot 22 = .ok (.ireturn, 1) := by decide +kernel
theorem dX2_readNot_23 : decode cX2_readNot 23 = .ok (.aload_n 0, 1) := by decide +kernel
theorem dX2_readNot_24 : decode cX2_readNot 24 = .ok (.getfield 21, 3) := by decide +kernel
theorem dX2_readNot_27 : decode cX2_readNot 27 = .ok (.bipush 7, 2) := by decide +kernel
theorem dX2_readNot_29 : decode cX2_readNot 29 = .ok (.invokevirtual 156, 3) := by decide +kernel
theorem dX2_readNot_32 : decode cX2_readNot 32 = .ok (.iconst 1, 1) := by decide +kernel
theorem dX2_readNot_33 : decode cX2_readNot 33 = .ok (.ireturn, 1) := by decide +kernel
theorem dX2_readComparison_0 : decode cX2_readComparison 0 = .ok (.aload_n 0, 1) := by decide +kernel
theorem dX2_readComparison_1 : decode cX2_readComparison 1 = .ok (.iload_n 1, 1) := by decide +kernel
theorem dX2_readComparison_2 : decode cX2_readComparison 2 = .ok (.invokevirtual 187, 3) := by decide +kernel
theorem dX2_readComparison_5 : decode cX2_readComparison 5 = .ok (.ifCond .ne 5, 3) := by decide +kernel
theorem dX2_readComparison_8 : decode cX2_readComparison 8 = .ok (.iconst 0, 1) := by decide +kernel
theorem dX2_readComparison_9 : decode cX2_readComparison 9 = .ok (.ireturn, 1) := by decide +kernel
theorem dX2_readComparison_10 : decode cX2_readComparison 10 = .ok (.aload_n 0, 1) := by decide +kernel
theorem dX2_readComparison_11 : decode cX2_readComparison 11 = .ok (.invokevirtual 190, 3) := by decide +kernel
theorem dX2_readComparison_14 : decode cX2_readComparison 14 = .ok (.istore_n 2, 1) := by decide +kernel
theorem dX2_readComparison_15 : decode cX2_readComparison 15 = .ok (.iload_n 2, 1) := by decide +kernel
theorem dX2_readComparison_16 : decode cX2_readComparison 16 = .ok (.ifCond .ne 5, 3) := by decide +kernel
theorem dX2_readComparison_19 : decode cX2_readComparison 19 = .ok (.iconst 0, 1) := by decide +kernel
theorem dX2_readComparison_20 : decode cX2_readComparison 20 = .ok (.ireturn, 1) := by decide +kernel
theorem dX2_readComparison_21 : decode cX2_readComparison 21 = .ok (.aload_n 0, 1) := by decide +kernel
theorem dX2_readComparison_22 : decode cX2_readComparison 22 = .ok (.dup, 1) := by decide +kernel
theorem dX2_readComparison_23 : decode cX2_readComparison 23 = .ok (.getfield 39, 3) := by decide +kernel
theorem dX2_readComparison_26 : decode cX2_readComparison 26 = .ok (.iconst 1, 1) := by decide +kernel
theorem dX2_readComparison_27 : decode cX2_readComparison 27 = .ok (.iadd, 1) := by decide +kernel
theorem dX2_readComparison_28 : decode cX2_readComparison 28 = .ok (.putfield 39, 3) := by decide +kernel
theorem dX2_readComparison_31 : decode cX2_readComparison 31 = .ok (.aload_n 0, 1) := by decide +kernel
theorem dX2_readComparison_32 : decode cX2_readComparison 32 = .ok (.iload_n 1, 1) := by decide +kernel
theorem dX2_readComparison_33 : decode cX2_readComparison 33 = .ok (.invokevirtual 187, 3) := by decide +kernel
theorem dX2_readComparison_36 : decode cX2_readComparison 36 = .ok (.ifCond .ne 5, 3) := by decide +kernel
theorem dX2_readComparison_39 : decode cX2_readComparison 39 = .ok (.iconst 0, 1) := by decide +kernel
theorem dX2_readComparison_40 : decode cX2_readComparison 40 = .ok (.ireturn, 1) := by decide +kernel
theorem dX2_readComparison_41 : decode cX2_readComparison 41 = .ok (.aload_n 0, 1) := by decide +kernel
theorem dX2_readComparison_42 : decode cX2_readComparison 42 = .ok (.getfield 21, 3) := by decide +kernel
theorem dX2_readComparison_45 : decode cX2_readComparison 45 = .ok (.iload_n 2, 1) := by decide +kernel
theorem dX2_readComparison_46 : decode cX2_readComparison 46 = .ok (.invokevirtual 156, 3) := by decide +kernel
theorem dX2_readComparison_49 : decode cX2_readComparison 49 = .ok (.iconst 1, 1) := by decide +kernel
theorem dX2_readComparison_50 : decode cX2_readComparison 50 = .ok (.ireturn, 1) := by decide +kernel
theorem dX2_comparisonSeen_0 : decode cX2_comparisonSeen 0 = .ok (.aload_n 0, 1) := by decide +kernel
theorem dX2_comparisonSeen_1 : decode cX2_comparisonSeen 1 = .ok (.getstatic 193, 3) := by decide +kernel
theorem dX2_comparisonSeen_4 : decode cX2_comparisonSeen 4 = .ok (.invokevirtual 57, 3) := by decide +kernel
theorem dX2_comparisonSeen_7 : decode cX2_comparisonSeen 7 = .ok (.ifCond .eq 8, 3) := by decide +kernel
theorem dX2_comparisonSeen_10 : decode cX2_comparisonSeen 10 = .ok (.bipush 14, 2) := by decide +kernel
theorem dX2_comparisonSeen_12 : decode cX2_comparisonSeen 12 = .ok (.goto 64, 3) := by decide +kernel
theorem dX2_comparisonSeen_15 : decode cX2_comparisonSeen 15 = .ok (.aload_n 0, 1) := by decide +kernel
theorem dX2_comparisonSeen_16 : decode cX2_comparisonSeen 16 = .ok (.getstatic 196, 3) := by decide +kernel
theorem dX2_comparisonSeen_19 : decode cX2_comparisonSeen 19 = .ok (.invokevirtual 57, 3) := by decide +kernel
theorem dX2_comparisonSeen_22 : decode cX2_comparisonSeen 22 = .ok (.ifCond .eq 8, 3) := by decide +kernel
theorem dX2_comparisonSeen_25 : decode cX2_comparisonSeen 25 = .ok (.bipush 15, 2) := by decide +kernel
theorem dX2_comparisonSeen_27 : decode cX2_comparisonSeen 27 = .ok (.goto 49, 3) := by decide +kernel
theorem dX2_comparisonSeen_30 : decode cX2_comparisonSeen 30 = .ok (.aload_n 0, 1) := by decide +kernel
theorem dX2_comparisonSeen_31 : decode cX2_comparisonSeen 31 = .ok (.getstatic 199, 3) := by decide +kernel
theorem dX2_comparisonSeen_34 : decode cX2_comparisonSeen 34 = .ok (.invokevirtual 57, 3) := by decide +kernel
theorem dX2_comparisonSeen_37 : decode cX2_comparisonSeen 37 = .ok (.ifCond .eq 8, 3) := by decide +kernel
theorem dX2_comparisonSeen_40 : decode cX2_comparisonSeen 40 = .ok (.bipush 16, 2) := by decide +kernel
theorem dX2_comparisonSeen_42 : decode cX2_comparisonSeen 42 = .ok (.goto 34, 3) := by decide +kernel
theorem dX2_comparisonSeen_45 : decode cX2_comparisonSeen 45 = .ok (.aload_n 0, 1) := by decide +kernel
theorem dX2_comparisonSeen_46 : decode cX2_comparisonSeen 46 = .ok (.getstatic 202, 3) := by decide +kernel
theorem dX2_comparisonSeen_49 : decode cX2_comparisonSeen 49 = .ok (.invokevirtual 57, 3) := by decide +kernel
theorem dX2_comparisonSeen_52 : decode cX2_comparisonSeen 52 = .ok (.ifCond .eq 8, 3) := by decide +kernel
theorem dX2_comparisonSeen_55 : decode cX2_comparisonSeen 55 = .ok (.bipush 17, 2) := by decide +kernel
theorem dX2_comparisonSeen_57 : decode cX2_comparisonSeen 57 = .ok (.goto 19, 3) := by decide +kernel
theorem dX2_comparisonSeen_60 : decode cX2_comparisonSeen 60 = .ok (.aload_n 0, 1) := by decide +kernel
theorem dX2_comparisonSeen_61 : decode cX2_comparisonSeen 61 = .ok (.getstatic 205, 3) := by decide +kernel
theorem dX2_comparisonSeen_64 : decode cX2_comparisonSeen 64 = .ok (.invokevirtual 57, 3) := by decide +kernel
theorem dX2_comparisonSeen_67 : decode cX2_comparisonSeen 67 = .ok (.ifCond .eq 8, 3) := by decide +kernel
theorem dX2_comparisonSeen_70 : decode cX2_comparisonSeen 70 = .ok (.bipush 18, 2) := by decide +kernel
theorem dX2_comparisonSeen_72 : decode cX2_comparisonSeen 72 = .ok (.goto 4, 3) := by decide +kernel
theorem dX2_comparisonSeen_75 : decode cX2_comparisonSeen 75 = .ok (.iconst 0, 1) := by decide +kernel
theorem dX2_comparisonSeen_76 : decode cX2_comparisonSeen 76 = .ok (.ireturn, 1) := by decide +kernel
theorem dX2_readSum_0 : decode cX2_readSum 0 = .ok (.aload_n 0, 1) := by decide +kernel
theorem dX2_readSum_1 : decode cX2_readSum 1 = .ok (.iload_n 1, 1) := by decide +kernel
theorem dX2_readSum_2 : decode cX2_readSum 2 = .ok (.invokevirtual 208, 3) := by decide +kernel
theorem dX2_readSum_5 : decode cX2_readSum 5 = .ok (.ifCond .ne 5, 3) := by decide +kernel
theorem dX2_readSum_8 : decode cX2_readSum 8 = .ok (.iconst 0, 1) := by decide +kernel
theorem dX2_readSum_9 : decode cX2_readSum 9 = .ok (.ireturn, 1) := by decide +kernel
theorem dX2_readSum_10 : decode cX2_readSum 10 = .ok (.iconst 0, 1) := by decide +kernel
theorem dX2_readSum_11 : decode cX2_readSum 11 = .ok (.istore_n 2, 1) := by decide +kernel
theorem dX2_readSum_12 : decode cX2_readSum 12 = .ok (.iload_n 2, 1) := by decide +kernel
theorem dX2_readSum_13 : decode cX2_readSum 13 = .ok (.sipush 400, 3) := by decide +kernel
theorem dX2_readSum_16 : decode cX2_readSum 16 = .ok (.if_icmp .ge 75, 3) := by decide +kernel
theorem dX2_readSum_19 : decode cX2_readSum 19 = .ok (.aload_n 0, 1) := by decide +kernel
theorem dX2_readSum_20 : decode cX2_readSum 20 = .ok (.getstatic 211, 3) := by decide +kernel
theorem dX2_readSum_23 : decode cX2_readSum 23 = .ok (.invokevirtual 57, 3) := by decide +kernel
theorem dX2_readSum_26 : decode cX2_readSum 26 = .ok (.ifCond .ne 13, 3) := by decide +kernel
theorem dX2_readSum_29 : decode cX2_readSum 29 = .ok (.aload_n 0, 1) := by decide +kernel
theorem dX2_readSum_30 : decode cX2_readSum 30 = .ok (.getstatic 214, 3) := by decide +kernel
theorem dX2_readSum_33 : decode cX2_readSum 33 = .ok (.invokevirtual 57, 3) := by decide +kernel
theorem dX2_readSum_36 : decode cX2_readSum 36 = .ok (.ifCond .eq 55, 3) := by decide +kernel
theorem dX2_readSum_39 : decode cX2_readSum 39 = .ok (.aload_n 0, 1) := by decide +kernel
theorem dX2_readSum_40 : decode cX2_readSum 40 = .ok (.getstatic 211, 3) := by decide +kernel
theorem dX2_readSum_43 : decode cX2_readSum 43 = .ok (.invokevirtual 57, 3) := by decide +kernel
theorem dX2_readSum_46 : decode cX2_readSum 46 = .ok (.ifCond .eq 8, 3) := by decide +kernel
theorem dX2_readSum_49 : decode cX2_readSum 49 = .ok (.bipush 8, 2) := by decide +kernel
theorem dX2_readSum_51 : decode cX2_readSum 51 = .ok (.goto 5, 3) := by decide +kernel
theorem dX2_readSum_54 : decode cX2_readSum 54 = .ok (.bipush 9, 2) := by decide +kernel
theorem dX2_readSum_56 : decode cX2_readSum 56 = .ok (.istore_n 3, 1) := by decide +kernel
theorem dX2_readSum_57 : decode cX2_readSum 57 = .ok (.aload_n 0, 1) := by decide +kernel
theorem dX2_readSum_58 : decode cX2_readSum 58 = .ok (.dup, 1) := by decide +kernel
theorem dX2_readSum_59 : decode cX2_readSum 59 = .ok (.getfield 39, 3) := by decide +kernel
theorem dX2_readSum_62 : decode cX2_readSum 62 = .ok (.iconst 1, 1) := by decide +kernel
theorem dX2_readSum_63 : decode cX2_readSum 63 = .ok (.iadd, 1) := by decide +kernel
theorem dX2_readSum_64 : decode cX2_readSum 64 = .ok (.putfield 39, 3) := by decide +kernel
theorem dX2_readSum_67 : decode cX2_readSum 67 = .ok (.aload_n 0, 1) := by decide +kernel
theorem dX2_readSum_68 : decode cX2_readSum 68 = .ok (.iload_n 1, 1) := by decide +kernel
theorem dX2_readSum_69 : decode cX2_readSum 69 = .ok (.invokevirtual 208, 3) := by decide +kernel
theorem dX2_readSum_72 : decode cX2_readSum 72 = .ok (.ifCond .ne 5, 3) := by decide +kernel
theorem dX2_readSum_75 : decode cX2_readSum 75 = .ok (.iconst 0, 1) := by decide +kernel
theorem dX2_readSum_76 : decode cX2_readSum 76 = .ok (.ireturn, 1) := by decide +kernel
theorem dX2_readSum_77 : decode cX2_readSum 77 = .ok (.aload_n 0, 1) := by decide +kernel
theorem dX2_readSum_78 : decode cX2_readSum 78 = .ok (.getfield 21, 3) := by decide +kernel
theorem dX2_readSum_81 : decode cX2_readSum 81 = .ok (.iload_n 3, 1) := by decide +kernel
theorem dX2_readSum_82 : decode cX2_readSum 82 = .ok (.invokevirtual 156, 3) := by decide +kernel
theorem dX2_readSum_85 : decode cX2_readSum 85 = .ok (.iinc 2 1, 3) := by decide +kernel
theorem dX2_readSum_88 : decode cX2_readSum 88 = .ok (.goto (-76), 3) := by decide +kernel
theorem dX2_readSum_91 : decode cX2_readSum 91 = .ok (.iconst 1, 1) := by decide +kernel
theorem dX2_readSum_92 : decode cX2_readSum 92 = .ok (.ireturn, 1) := by decide +kernel
theorem dX2_readProduct_0 : decode cX2_readProduct 0 = .ok (.aload_n 0, 1) := by decide +kernel
theorem dX2_readProduct_1 : decode cX2_readProduct 1 = .ok (.iload_n 1, 1) := by decide +kernel
theorem dX2_readProduct_2 : decode cX2_readProduct 2 = .ok (.invokevirtual 217, 3) := by decide +kernel
theorem dX2_readProduct_5 : decode cX2_readProduct 5 = .ok (.ifCond .ne 5, 3) := by decide +kernel
theorem dX2_readProduct_8 : decode cX2_readProduct 8 = .ok (.iconst 0, 1) := by decide +kernel
theorem dX2_readProduct_9 : decode cX2_readProduct 9 = .ok (.ireturn, 1) := by decide +kernel
theorem dX2_readProduct_10 : decode cX2_readProduct 10 = .ok (.iconst 0, 1) := by decide +kernel
theorem dX2_readProduct_11 : decode cX2_readProduct 11 = .ok (.istore_n 2, 1) := by decide +kernel
theorem dX2_readProduct_12 : decode cX2_readProduct 12 = .ok (.iload_n 2, 1) := by decide +kernel
theorem dX2_readProduct_13 : decode cX2_readProduct 13 = .ok (.sipush 400, 3) := by decide +kernel
theorem dX2_readProduct_16 : decode cX2_readProduct 16 = .ok (.if_icmp .ge 75, 3) := by decide +kernel
theorem dX2_readProduct_19 : decode cX2_readProduct 19 = .ok (.aload_n 0, 1) := by decide +kernel
theorem dX2_readProduct_20 : decode cX2_readProduct 20 = .ok (.getstatic 220, 3) := by decide +kernel
theorem dX2_readProduct_23 : decode cX2_readProduct 23 = .ok (.invokevirtual 57, 3) := by decide +kernel
theorem dX2_readProduct_26 : decode cX2_readProduct 26 = .ok (.ifCond .ne 13, 3) := by decide +kernel
theorem dX2_readProduct_29 : decode cX2_readProduct 29 = .ok (.aload_n 0, 1) := by decide +kernel
theorem dX2_readProduct_30 : decode cX2_readProduct 30 = .ok (.getstatic 223, 3) := by decide +kernel
theorem dX2_readProduct_33 : decode cX2_readProduct 33 = .ok (.invokevirtual 57, 3) := by decide +kernel
theorem dX2_readProduct_36 : decode cX2_readProduct 36 = .ok (.ifCond .eq 55, 3) := by decide +kernel
theorem dX2_readProduct_39 : decode cX2_readProduct 39 = .ok (.aload_n 0, 1) := by decide +kernel
theorem dX2_readProduct_40 : decode cX2_readProduct 40 = .ok (.getstatic 220, 3) := by decide +kernel
theorem dX2_readProduct_43 : decode cX2_readProduct 43 = .ok (.invokevirtual 57, 3) := by decide +kernel
theorem dX2_readProduct_46 : decode cX2_readProduct 46 = .ok (.ifCond .eq 8, 3) := by decide +kernel
theorem dX2_readProduct_49 : decode cX2_readProduct 49 = .ok (.bipush 10, 2) := by decide +kernel
theorem dX2_readProduct_51 : decode cX2_readProduct 51 = .ok (.goto 5, 3) := by decide +kernel
theorem dX2_readProduct_54 : decode cX2_readProduct 54 = .ok (.bipush 11, 2) := by decide +kernel
theorem dX2_readProduct_56 : decode cX2_readProduct 56 = .ok (.istore_n 3, 1) := by decide +kernel
theorem dX2_readProduct_57 : decode cX2_readProduct 57 = .ok (.aload_n 0, 1) := by decide +kernel
theorem dX2_readProduct_58 : decode cX2_readProduct 58 = .ok (.dup, 1) := by decide +kernel
theorem dX2_readProduct_59 : decode cX2_readProduct 59 = .ok (.getfield 39, 3) := by decide +kernel
theorem dX2_readProduct_62 : decode cX2_readProduct 62 = .ok (.iconst 1, 1) := by decide +kernel
theorem dX2_readProduct_63 : decode cX2_readProduct 63 = .ok (.iadd, 1) := by decide +kernel
theorem dX2_readProduct_64 : decode cX2_readProduct 64 = .ok (.putfield 39, 3) := by decide +kernel
theorem dX2_readProduct_67 : decode cX2_readProduct 67 = .ok (.aload_n 0, 1) := by decide +kernel
theorem dX2_readProduct_68 : decode cX2_readProduct 68 = .ok (.iload_n 1, 1) := by decide +kernel
theorem dX2_readProduct_69 : decode cX2_readProduct 69 = .ok (.invokevirtual 217, 3) := by decide +kernel
theorem dX2_readProduct_72 : decode cX2_readProduct 72 = .ok (.ifCond .ne 5, 3) := by decide +kernel
theorem dX2_readProduct_75 : decode cX2_readProduct 75 = .ok (.iconst 0, 1) := by decide +kernel
theorem dX2_readProduct_76 : decode cX2_readProduct 76 = .ok (.ireturn, 1) := by decide +kernel
theorem dX2_readProduct_77 : decode cX2_readProduct 77 = .ok (.aload_n 0, 1) := by decide +kernel
theorem dX2_readProduct_78 : decode cX2_readProduct 78 = .ok (.getfield 21, 3) := by decide +kernel
theorem dX2_readProduct_81 : decode cX2_readProduct 81 = .ok (.iload_n 3, 1) := by decide +kernel
theorem dX2_readProduct_82 : decode cX2_readProduct 82 = .ok (.invokevirtual 156, 3) := by decide +kernel
theorem dX2_readProduct_85 : decode cX2_readProduct 85 = .ok (.iinc 2 1, 3) := by decide +kernel
theorem dX2_readProduct_88 : decode cX2_readProduct 88 = .ok (.goto (-76), 3) := by decide +kernel
theorem dX2_readProduct_91 : decode cX2_readProduct 91 = .ok (.iconst 1, 1) := by decide +kernel
theorem dX2_readProduct_92 : decode cX2_readProduct 92 = .ok (.ireturn, 1) := by decide +kernel
theorem dX2_readValue_0 : decode cX2_readValue 0 = .ok (.aload_n 0, 1) := by decide +kernel
theorem dX2_readValue_1 : decode cX2_readValue 1 = .ok (.getstatic 105, 3) := by decide +kernel
theorem dX2_readValue_4 : decode cX2_readValue 4 = .ok (.invokevirtual 57, 3) := by decide +kernel
theorem dX2_readValue_7 : decode cX2_readValue 7 = .ok (.ifCond .eq 34, 3) := by decide +kernel
theorem dX2_readValue_10 : decode cX2_readValue 10 = .ok (.aload_n 0, 1) := by decide +kernel
theorem dX2_readValue_11 : decode cX2_readValue 11 = .ok (.getfield 21, 3) := by decide +kernel
theorem dX2_readValue_14 : decode cX2_readValue 14 = .ok (.iconst 1, 1) := by decide +kernel
theorem dX2_readValue_15 : decode cX2_readValue 15 = .ok (.aload_n 0, 1) := by decide +kernel
theorem dX2_readValue_16 : decode cX2_readValue 16 = .ok (.getfield 12, 3) := by decide +kernel
theorem dX2_readValue_19 : decode cX2_readValue 19 = .ok (.aload_n 0, 1) := by decide +kernel
theorem dX2_readValue_20 : decode cX2_readValue 20 = .ok (.getfield 39, 3) := by decide +kernel
theorem dX2_readValue_23 : decode cX2_readValue 23 = .ok (.invokevirtual 226, 3) := by decide +kernel
theorem dX2_readValue_26 : decode cX2_readValue 26 = .ok (.invokevirtual 229, 3) := by decide +kernel
theorem dX2_readValue_29 : decode cX2_readValue 29 = .ok (.aload_n 0, 1) := by decide +kernel
theorem dX2_readValue_30 : decode cX2_readValue 30 = .ok (.dup, 1) := by decide +kernel
theorem dX2_readValue_31 : decode cX2_readValue 31 = .ok (.getfield 39, 3) := by decide +kernel
theorem dX2_readValue_34 : decode cX2_readValue 34 = .ok (.iconst 1, 1) := by decide +kernel
theorem dX2_readValue_35 : decode cX2_readValue 35 = .ok (.iadd, 1) := by decide +kernel
theorem dX2_readValue_36 : decode cX2_readValue 36 = .ok (.putfield 39, 3) := by decide +kernel
theorem dX2_readValue_39 : decode cX2_readValue 39 = .ok (.iconst 1, 1) := by decide +kernel
theorem dX2_readValue_40 : decode cX2_readValue 40 = .ok (.ireturn, 1) := by decide +kernel
theorem dX2_readValue_41 : decode cX2_readValue 41 = .ok (.aload_n 0, 1) := by decide +kernel
theorem dX2_readValue_42 : decode cX2_readValue 42 = .ok (.getstatic 231, 3) := by decide +kernel
theorem dX2_readValue_45 : decode cX2_readValue 45 = .ok (.invokevirtual 64, 3) := by decide +kernel
theorem dX2_readValue_48 : decode cX2_readValue 48 = .ok (.ifCond .eq 13, 3) := by decide +kernel
theorem dX2_readValue_51 : decode cX2_readValue 51 = .ok (.aload_n 0, 1) := by decide +kernel
theorem dX2_readValue_52 : decode cX2_readValue 52 = .ok (.getfield 21, 3) := by decide +kernel
theorem dX2_readValue_55 : decode cX2_readValue 55 = .ok (.iconst 2, 1) := by decide +kernel
theorem dX2_readValue_56 : decode cX2_readValue 56 = .ok (.invokevirtual 156, 3) := by decide +kernel
theorem dX2_readValue_59 : decode cX2_readValue 59 = .ok (.iconst 1, 1) := by decide +kernel
theorem dX2_readValue_60 : decode cX2_readValue 60 = .ok (.ireturn, 1) := by decide +kernel
theorem dX2_readValue_61 : decode cX2_readValue 61 = .ok (.aload_n 0, 1) := by decide +kernel
theorem dX2_readValue_62 : decode cX2_readValue 62 = .ok (.getstatic 214, 3) := by decide +kernel
theorem dX2_readValue_65 : decode cX2_readValue 65 = .ok (.invokevirtual 57, 3) := by decide +kernel
theorem dX2_readValue_68 : decode cX2_readValue 68 = .ok (.ifCond .eq 9, 3) := by decide +kernel
theorem dX2_readValue_71 : decode cX2_readValue 71 = .ok (.aload_n 0, 1) := by decide +kernel
theorem dX2_readValue_72 : decode cX2_readValue 72 = .ok (.iload_n 1, 1) := by decide +kernel
theorem dX2_readValue_73 : decode cX2_readValue 73 = .ok (.invokevirtual 234, 3) := by decide +kernel
theorem dX2_readValue_76 : decode cX2_readValue 76 = .ok (.ireturn, 1) := by decide +kernel
theorem dX2_readValue_77 : decode cX2_readValue 77 = .ok (.aload_n 0, 1) := by decide +kernel
theorem dX2_readValue_78 : decode cX2_readValue 78 = .ok (.getstatic 237, 3) := by decide +kernel
theorem dX2_readValue_81 : decode cX2_readValue 81 = .ok (.invokevirtual 57, 3) := by decide +kernel
theorem dX2_readValue_84 : decode cX2_readValue 84 = .ok (.ifCond .eq 40, 3) := by decide +kernel
theorem dX2_readValue_87 : decode cX2_readValue 87 = .ok (.aload_n 0, 1) := by decide +kernel
theorem dX2_readValue_88 : decode cX2_readValue 88 = .ok (.getstatic 237, 3) := by decide +kernel
theorem dX2_readValue_91 : decode cX2_readValue 91 = .ok (.iload_n 1, 1) := by decide +kernel
theorem dX2_readValue_92 : decode cX2_readValue 92 = .ok (.invokevirtual 174, 3) := by decide +kernel
theorem dX2_readValue_95 : decode cX2_readValue 95 = .ok (.ifCond .eq 27, 3) := by decide +kernel
theorem dX2_readValue_98 : decode cX2_readValue 98 = .ok (.aload_n 0, 1) := by decide +kernel
theorem dX2_readValue_99 : decode cX2_readValue 99 = .ok (.iload_n 1, 1) := by decide +kernel
theorem dX2_readValue_100 : decode cX2_readValue 100 = .ok (.iconst 1, 1) := by decide +kernel
theorem dX2_readValue_101 : decode cX2_readValue 101 = .ok (.iadd, 1) := by decide +kernel
theorem dX2_readValue_102 : decode cX2_readValue 102 = .ok (.invokevirtual 187, 3) := by decide +kernel
theorem dX2_readValue_105 : decode cX2_readValue 105 = .ok (.ifCond .eq 17, 3) := by decide +kernel
theorem dX2_readValue_108 : decode cX2_readValue 108 = .ok (.aload_n 0, 1) := by decide +kernel
theorem dX2_readValue_109 : decode cX2_readValue 109 = .ok (.getstatic 240, 3) := by decide +kernel
theorem dX2_readValue_112 : decode cX2_readValue 112 = .ok (.invokevirtual 64, 3) := by decide +kernel
theorem dX2_readValue_115 : decode cX2_readValue 115 = .ok (.ifCond .eq 7, 3) := by decide +kernel
theorem dX2_readValue_118 : decode cX2_readValue 118 = .ok (.iconst 1, 1) := by decide +kernel
theorem dX2_readValue_119 : decode cX2_readValue 119 = .ok (.goto 4, 3) := by decide +kernel
theorem dX2_readValue_122 : decode cX2_readValue 122 = .ok (.iconst 0, 1) := by decide +kernel
theorem dX2_readValue_123 : decode cX2_readValue 123 = .ok (.ireturn, 1) := by decide +kernel
theorem dX2_readValue_124 : decode cX2_readValue 124 = .ok (.aload_n 0, 1) := by decide +kernel
theorem dX2_readValue_125 : decode cX2_readValue 125 = .ok (.getstatic 243, 3) := by decide +kernel
theorem dX2_readValue_128 : decode cX2_readValue 128 = .ok (.invokevirtual 57, 3) := by decide +kernel
theorem dX2_readValue_131 : decode cX2_readValue 131 = .ok (.ifCond .ne 13, 3) := by decide +kernel
theorem dX2_readValue_134 : decode cX2_readValue 134 = .ok (.aload_n 0, 1) := by decide +kernel
theorem dX2_readValue_135 : decode cX2_readValue 135 = .ok (.getstatic 246, 3) := by decide +kernel
theorem dX2_readValue_138 : decode cX2_readValue 138 = .ok (.invokevirtual 57, 3) := by decide +kernel
theorem dX2_readValue_141 : decode cX2_readValue 141 = .ok (.ifCond .eq 9, 3) := by decide +kernel
theorem dX2_readValue_144 : decode cX2_readValue 144 = .ok (.aload_n 0, 1) := by decide +kernel
theorem dX2_readValue_145 : decode cX2_readValue 145 = .ok (.iload_n 1, 1) := by decide +kernel
theorem dX2_readValue_146 : decode cX2_readValue 146 = .ok (.invokevirtual 249, 3) := by decide +kernel
theorem dX2_readValue_149 : decode cX2_readValue 149 = .ok (.ireturn, 1) := by decide +kernel
theorem dX2_readValue_150 : decode cX2_readValue 150 = .ok (.aload_n 0, 1) := by decide +kernel
theorem dX2_readValue_151 : decode cX2_readValue 151 = .ok (.invokevirtual 252, 3) := by decide +kernel
theorem dX2_readValue_154 : decode cX2_readValue 154 = .ok (.istore_n 2, 1) := by decide +kernel
theorem dX2_readValue_155 : decode cX2_readValue 155 = .ok (.iload_n 2, 1) := by decide +kernel
theorem dX2_readValue_156 : decode cX2_readValue 156 = .ok (.bipush 10, 2) := by decide +kernel
theorem dX2_readValue_158 : decode cX2_readValue 158 = .ok (.if_icmp .eq 15, 3) := by decide +kernel
theorem dX2_readValue_161 : decode cX2_readValue 161 = .ok (.aload_n 0, 1) := by decide +kernel
theorem dX2_readValue_162 : decode cX2_readValue 162 = .ok (.iload_n 2, 1) := by decide +kernel
theorem dX2_readValue_163 : decode cX2_readValue 163 = .ok (.invokevirtual 255, 3) := by decide +kernel
theorem dX2_readValue_166 : decode cX2_readValue 166 = .ok (.ifCond .eq 7, 3) := by decide +kernel
theorem dX2_readValue_169 : decode cX2_readValue 169 = .ok (.iconst 1, 1) := by decide +kernel
theorem dX2_readValue_170 : decode cX2_readValue 170 = .ok (.goto 4, 3) := by decide +kernel
theorem dX2_readValue_173 : decode cX2_readValue 173 = .ok (.iconst 0, 1) := by decide +kernel
theorem dX2_readValue_174 : decode cX2_readValue 174 = .ok (.ireturn, 1) := by decide +kernel
theorem dX2_readNegative_0 : decode cX2_readNegative 0 = .ok (.aload_n 0, 1) := by decide +kernel
theorem dX2_readNegative_1 : decode cX2_readNegative 1 = .ok (.getstatic 214, 3) := by decide +kernel
theorem dX2_readNegative_4 : decode cX2_readNegative 4 = .ok (.iload_n 1, 1) := by decide +kernel
theorem dX2_readNegative_5 : decode cX2_readNegative 5 = .ok (.invokevirtual 174, 3) := by decide +kernel
theorem dX2_readNegative_8 : decode cX2_readNegative 8 = .ok (.ifCond .eq 13, 3) := by decide +kernel
theorem dX2_readNegative_11 : decode cX2_readNegative 11 = .ok (.aload_n 0, 1) := by decide +kernel
theorem dX2_readNegative_12 : decode cX2_readNegative 12 = .ok (.iload_n 1, 1) := by decide +kernel
theorem dX2_readNegative_13 : decode cX2_readNegative 13 = .ok (.iconst 1, 1) := by decide +kernel
theorem dX2_readNegative_14 : decode cX2_readNegative 14 = .ok (.iadd, 1) := by decide +kernel
theorem dX2_readNegative_15 : decode cX2_readNegative 15 = .ok (.invokevirtual 217, 3) := by decide +kernel
theorem dX2_readNegative_18 : decode cX2_readNegative 18 = .ok (.ifCond .ne 5, 3) := by decide +kernel
theorem dX2_readNegative_21 : decode cX2_readNegative 21 = .ok (.iconst 0, 1) := by decide +kernel
theorem dX2_readNegative_22 : decode cX2_readNegative 22 = .ok (.ireturn, 1) := by decide +kernel
theorem dX2_readNegative_23 : decode cX2_readNegative 23 = .ok (.aload_n 0, 1) := by decide +kernel
theorem dX2_readNegative_24 : decode cX2_readNegative 24 = .ok (.getfield 21, 3) := by decide +kernel
theorem dX2_readNegative_27 : decode cX2_readNegative 27 = .ok (.bipush 6, 2) := by decide +kernel
theorem dX2_readNegative_29 : decode cX2_readNegative 29 = .ok (.invokevirtual 156, 3) := by decide +kernel
theorem dX2_readNegative_32 : decode cX2_readNegative 32 = .ok (.iconst 1, 1) := by decide +kernel
theorem dX2_readNegative_33 : decode cX2_readNegative 33 = .ok (.ireturn, 1) := by decide +kernel
theorem dX2_readChoice_0 : decode cX2_readChoice 0 = .ok (.aload_n 0, 1) := by decide +kernel
theorem dX2_readChoice_1 : decode cX2_readChoice 1 = .ok (.getstatic 243, 3) := by decide +kernel
theorem dX2_readChoice_4 : decode cX2_readChoice 4 = .ok (.invokevirtual 57, 3) := by decide +kernel
theorem dX2_readChoice_7 : decode cX2_readChoice 7 = .ok (.ifCond .eq 8, 3) := by decide +kernel
theorem dX2_readChoice_10 : decode cX2_readChoice 10 = .ok (.bipush 12, 2) := by decide +kernel
theorem dX2_readChoice_12 : decode cX2_readChoice 12 = .ok (.goto 5, 3) := by decide +kernel
theorem dX2_readChoice_15 : decode cX2_readChoice 15 = .ok (.bipush 13, 2) := by decide +kernel
theorem dX2_readChoice_17 : decode cX2_readChoice 17 = .ok (.istore_n 2, 1) := by decide +kernel
theorem dX2_readChoice_18 : decode cX2_readChoice 18 = .ok (.aload_n 0, 1) := by decide +kernel
theorem dX2_readChoice_19 : decode cX2_readChoice 19 = .ok (.dup, 1) := by decide +kernel
theorem dX2_readChoice_20 : decode cX2_readChoice 20 = .ok (.getfield 39, 3) := by decide +kernel
theorem dX2_readChoice_23 : decode cX2_readChoice 23 = .ok (.iconst 1, 1) := by decide +kernel
theorem dX2_readChoice_24 : decode cX2_readChoice 24 = .ok (.iadd, 1) := by decide +kernel
theorem dX2_readChoice_25 : decode cX2_readChoice 25 = .ok (.putfield 39, 3) := by decide +kernel
theorem dX2_readChoice_28 : decode cX2_readChoice 28 = .ok (.aload_n 0, 1) := by decide +kernel
theorem dX2_readChoice_29 : decode cX2_readChoice 29 = .ok (.getstatic 237, 3) := by decide +kernel
theorem dX2_readChoice_32 : decode cX2_readChoice 32 = .ok (.iload_n 1, 1) := by decide +kernel
theorem dX2_readChoice_33 : decode cX2_readChoice 33 = .ok (.invokevirtual 174, 3) := by decide +kernel
theorem dX2_readChoice_36 : decode cX2_readChoice 36 = .ok (.ifCond .eq 43, 3) := by decide +kernel
theorem dX2_readChoice_39 : decode cX2_readChoice 39 = .ok (.aload_n 0, 1) := by decide +kernel
theorem dX2_readChoice_40 : decode cX2_readChoice 40 = .ok (.iload_n 1, 1) := by decide +kernel
theorem dX2_readChoice_41 : decode cX2_readChoice 41 = .ok (.iconst 1, 1) := by decide +kernel
theorem dX2_readChoice_42 : decode cX2_readChoice 42 = .ok (.iadd, 1) := by decide +kernel
theorem dX2_readChoice_43 : decode cX2_readChoice 43 = .ok (.invokevirtual 187, 3) := by decide +kernel
theorem dX2_readChoice_46 : decode cX2_readChoice 46 = .ok (.ifCond .eq 33, 3) := by decide +kernel
theorem dX2_readChoice_49 : decode cX2_readChoice 49 = .ok (.aload_n 0, 1) := by decide +kernel
theorem dX2_readChoice_50 : decode cX2_readChoice 50 = .ok (.getstatic 258, 3) := by decide +kernel
theorem dX2_readChoice_53 : decode cX2_readChoice 53 = .ok (.invokevirtual 64, 3) := by decide +kernel
theorem dX2_readChoice_56 : decode cX2_readChoice 56 = .ok (.ifCond .eq 23, 3) := by decide +kernel
theorem dX2_readChoice_59 : decode cX2_readChoice 59 = .ok (.aload_n 0, 1) := by decide +kernel
theorem dX2_readChoice_60 : decode cX2_readChoice 60 = .ok (.iload_n 1, 1) := by decide +kernel
theorem dX2_readChoice_61 : decode cX2_readChoice 61 = .ok (.iconst 1, 1) := by decide +kernel
theorem dX2_readChoice_62 : decode cX2_readChoice 62 = .ok (.iadd, 1) := by decide +kernel
theorem dX2_readChoice_63 : decode cX2_readChoice 63 = .ok (.invokevirtual 187, 3) := by decide +kernel
theorem dX2_readChoice_66 : decode cX2_readChoice 66 = .ok (.ifCond .eq 13, 3) := by decide +kernel
theorem dX2_readChoice_69 : decode cX2_readChoice 69 = .ok (.aload_n 0, 1) := by decide +kernel
theorem dX2_readChoice_70 : decode cX2_readChoice 70 = .ok (.getstatic 240, 3) := by decide +kernel
theorem dX2_readChoice_73 : decode cX2_readChoice 73 = .ok (.invokevirtual 64, 3) := by decide +kernel
theorem dX2_readChoice_76 : decode cX2_readChoice 76 = .ok (.ifCond .ne 5, 3) := by decide +kernel
theorem dX2_readChoice_79 : decode cX2_readChoice 79 = .ok (.iconst 0, 1) := by decide +kernel
theorem dX2_readChoice_80 : decode cX2_readChoice 80 = .ok (.ireturn, 1) := by decide +kernel
theorem dX2_readChoice_81 : decode cX2_readChoice 81 = .ok (.aload_n 0, 1) := by decide +kernel
theorem dX2_readChoice_82 : decode cX2_readChoice 82 = .ok (.getfield 21, 3) := by decide +kernel
theorem dX2_readChoice_85 : decode cX2_readChoice 85 = .ok (.iload_n 2, 1) := by decide +kernel
theorem dX2_readChoice_86 : decode cX2_readChoice 86 = .ok (.invokevirtual 156, 3) := by decide +kernel
theorem dX2_readChoice_89 : decode cX2_readChoice 89 = .ok (.iconst 1, 1) := by decide +kernel
theorem dX2_readChoice_90 : decode cX2_readChoice 90 = .ok (.ireturn, 1) := by decide +kernel
theorem dX2_readSide_0 : decode cX2_readSide 0 = .ok (.aload_n 0, 1) := by decide +kernel
theorem dX2_readSide_1 : decode cX2_readSide 1 = .ok (.dup, 1) := by decide +kernel
theorem dX2_readSide_2 : decode cX2_readSide 2 = .ok (.getfield 39, 3) := by decide +kernel
theorem dX2_readSide_5 : decode cX2_readSide 5 = .ok (.iconst 1, 1) := by decide +kernel
theorem dX2_readSide_6 : decode cX2_readSide 6 = .ok (.iadd, 1) := by decide +kernel
theorem dX2_readSide_7 : decode cX2_readSide 7 = .ok (.putfield 39, 3) := by decide +kernel
theorem dX2_readSide_10 : decode cX2_readSide 10 = .ok (.aload_n 0, 1) := by decide +kernel
theorem dX2_readSide_11 : decode cX2_readSide 11 = .ok (.getstatic 141, 3) := by decide +kernel
theorem dX2_readSide_14 : decode cX2_readSide 14 = .ok (.invokevirtual 57, 3) := by decide +kernel
theorem dX2_readSide_17 : decode cX2_readSide 17 = .ok (.ifCond .ne 15, 3) := by decide +kernel
theorem dX2_readSide_20 : decode cX2_readSide 20 = .ok (.aload_n 0, 1) := by decide +kernel
theorem dX2_readSide_21 : decode cX2_readSide 21 = .ok (.getstatic 144, 3) := by decide +kernel
theorem dX2_readSide_24 : decode cX2_readSide 24 = .ok (.invokevirtual 57, 3) := by decide +kernel
theorem dX2_readSide_27 : decode cX2_readSide 27 = .ok (.ifCond .ne 5, 3) := by decide +kernel
theorem dX2_readSide_30 : decode cX2_readSide 30 = .ok (.iconst 0, 1) := by decide +kernel
theorem dX2_readSide_31 : decode cX2_readSide 31 = .ok (.ireturn, 1) := by decide +kernel
theorem dX2_readSide_32 : decode cX2_readSide 32 = .ok (.aload_n 0, 1) := by decide +kernel
theorem dX2_readSide_33 : decode cX2_readSide 33 = .ok (.getfield 21, 3) := by decide +kernel
theorem dX2_readSide_36 : decode cX2_readSide 36 = .ok (.aload_n 0, 1) := by decide +kernel
theorem dX2_readSide_37 : decode cX2_readSide 37 = .ok (.getstatic 141, 3) := by decide +kernel
theorem dX2_readSide_40 : decode cX2_readSide 40 = .ok (.invokevirtual 57, 3) := by decide +kernel
theorem dX2_readSide_43 : decode cX2_readSide 43 = .ok (.ifCond .eq 7, 3) := by decide +kernel
theorem dX2_readSide_46 : decode cX2_readSide 46 = .ok (.iconst 3, 1) := by decide +kernel
theorem dX2_readSide_47 : decode cX2_readSide 47 = .ok (.goto 4, 3) := by decide +kernel
theorem dX2_readSide_50 : decode cX2_readSide 50 = .ok (.iconst 4, 1) := by decide +kernel
theorem dX2_readSide_51 : decode cX2_readSide 51 = .ok (.iload_n 1, 1) := by decide +kernel
theorem dX2_readSide_52 : decode cX2_readSide 52 = .ok (.invokevirtual 229, 3) := by decide +kernel
theorem dX2_readSide_55 : decode cX2_readSide 55 = .ok (.aload_n 0, 1) := by decide +kernel
theorem dX2_readSide_56 : decode cX2_readSide 56 = .ok (.dup, 1) := by decide +kernel
theorem dX2_readSide_57 : decode cX2_readSide 57 = .ok (.getfield 39, 3) := by decide +kernel
theorem dX2_readSide_60 : decode cX2_readSide 60 = .ok (.iconst 1, 1) := by decide +kernel
theorem dX2_readSide_61 : decode cX2_readSide 61 = .ok (.iadd, 1) := by decide +kernel
theorem dX2_readSide_62 : decode cX2_readSide 62 = .ok (.putfield 39, 3) := by decide +kernel
theorem dX2_readSide_65 : decode cX2_readSide 65 = .ok (.iconst 1, 1) := by decide +kernel
theorem dX2_readSide_66 : decode cX2_readSide 66 = .ok (.ireturn, 1) := by decide +kernel
theorem dX2_countSeen_0 : decode cX2_countSeen 0 = .ok (.aload_n 0, 1) := by decide +kernel
theorem dX2_countSeen_1 : decode cX2_countSeen 1 = .ok (.getstatic 102, 3) := by decide +kernel
theorem dX2_countSeen_4 : decode cX2_countSeen 4 = .ok (.invokevirtual 57, 3) := by decide +kernel
theorem dX2_countSeen_7 : decode cX2_countSeen 7 = .ok (.ifCond .eq 7, 3) := by decide +kernel
theorem dX2_countSeen_10 : decode cX2_countSeen 10 = .ok (.iconst 0, 1) := by decide +kernel
theorem dX2_countSeen_11 : decode cX2_countSeen 11 = .ok (.goto 77, 3) := by decide +kernel
theorem dX2_countSeen_14 : decode cX2_countSeen 14 = .ok (.aload_n 0, 1) := by decide +kernel
theorem dX2_countSeen_15 : decode cX2_countSeen 15 = .ok (.getstatic 261, 3) := by decide +kernel
theorem dX2_countSeen_18 : decode cX2_countSeen 18 = .ok (.invokevirtual 57, 3) := by decide +kernel
theorem dX2_countSeen_21 : decode cX2_countSeen 21 = .ok (.ifCond .eq 7, 3) := by decide +kernel
theorem dX2_countSeen_24 : decode cX2_countSeen 24 = .ok (.iconst 2, 1) := by decide +kernel
theorem dX2_countSeen_25 : decode cX2_countSeen 25 = .ok (.goto 63, 3) := by decide +kernel
theorem dX2_countSeen_28 : decode cX2_countSeen 28 = .ok (.aload_n 0, 1) := by decide +kernel
theorem dX2_countSeen_29 : decode cX2_countSeen 29 = .ok (.getstatic 264, 3) := by decide +kernel
theorem dX2_countSeen_32 : decode cX2_countSeen 32 = .ok (.invokevirtual 57, 3) := by decide +kernel
theorem dX2_countSeen_35 : decode cX2_countSeen 35 = .ok (.ifCond .eq 8, 3) := by decide +kernel
theorem dX2_countSeen_38 : decode cX2_countSeen 38 = .ok (.bipush 6, 2) := by decide +kernel
theorem dX2_countSeen_40 : decode cX2_countSeen 40 = .ok (.goto 48, 3) := by decide +kernel
theorem dX2_countSeen_43 : decode cX2_countSeen 43 = .ok (.aload_n 0, 1) := by decide +kernel
theorem dX2_countSeen_44 : decode cX2_countSeen 44 = .ok (.getstatic 267, 3) := by decide +kernel
theorem dX2_countSeen_47 : decode cX2_countSeen 47 = .ok (.invokevirtual 57, 3) := by decide +kernel
theorem dX2_countSeen_50 : decode cX2_countSeen 50 = .ok (.ifCond .eq 8, 3) := by decide +kernel
theorem dX2_countSeen_53 : decode cX2_countSeen 53 = .ok (.bipush 7, 2) := by decide +kernel
theorem dX2_countSeen_55 : decode cX2_countSeen 55 = .ok (.goto 33, 3) := by decide +kernel
theorem dX2_countSeen_58 : decode cX2_countSeen 58 = .ok (.aload_n 0, 1) := by decide +kernel
theorem dX2_countSeen_59 : decode cX2_countSeen 59 = .ok (.getstatic 270, 3) := by decide +kernel
theorem dX2_countSeen_62 : decode cX2_countSeen 62 = .ok (.invokevirtual 57, 3) := by decide +kernel
theorem dX2_countSeen_65 : decode cX2_countSeen 65 = .ok (.ifCond .eq 7, 3) := by decide +kernel
theorem dX2_countSeen_68 : decode cX2_countSeen 68 = .ok (.iconst 5, 1) := by decide +kernel
theorem dX2_countSeen_69 : decode cX2_countSeen 69 = .ok (.goto 19, 3) := by decide +kernel
theorem dX2_countSeen_72 : decode cX2_countSeen 72 = .ok (.aload_n 0, 1) := by decide +kernel
theorem dX2_countSeen_73 : decode cX2_countSeen 73 = .ok (.getstatic 71, 3) := by decide +kernel
theorem dX2_countSeen_76 : decode cX2_countSeen 76 = .ok (.invokevirtual 57, 3) := by decide +kernel
theorem dX2_countSeen_79 : decode cX2_countSeen 79 = .ok (.ifCond .eq 7, 3) := by decide +kernel
theorem dX2_countSeen_82 : decode cX2_countSeen 82 = .ok (.iconst 1, 1) := by decide +kernel
theorem dX2_countSeen_83 : decode cX2_countSeen 83 = .ok (.goto 5, 3) := by decide +kernel
theorem dX2_countSeen_86 : decode cX2_countSeen 86 = .ok (.bipush 10, 2) := by decide +kernel
theorem dX2_countSeen_88 : decode cX2_countSeen 88 = .ok (.ireturn, 1) := by decide +kernel
theorem dX2_sees_0 : decode cX2_sees 0 = .ok (.aload_n 0, 1) := by decide +kernel
theorem dX2_sees_1 : decode cX2_sees 1 = .ok (.getfield 39, 3) := by decide +kernel
theorem dX2_sees_4 : decode cX2_sees 4 = .ok (.ifCond .lt 37, 3) := by decide +kernel
theorem dX2_sees_7 : decode cX2_sees 7 = .ok (.aload_n 0, 1) := by decide +kernel
theorem dX2_sees_8 : decode cX2_sees 8 = .ok (.getfield 39, 3) := by decide +kernel
theorem dX2_sees_11 : decode cX2_sees 11 = .ok (.aload_n 0, 1) := by decide +kernel
theorem dX2_sees_12 : decode cX2_sees 12 = .ok (.getfield 12, 3) := by decide +kernel
theorem dX2_sees_15 : decode cX2_sees 15 = .ok (.getfield 273, 3) := by decide +kernel
theorem dX2_sees_18 : decode cX2_sees 18 = .ok (.if_icmp .ge 23, 3) := by decide +kernel
theorem dX2_sees_21 : decode cX2_sees 21 = .ok (.aload_n 0, 1) := by decide +kernel
theorem dX2_sees_22 : decode cX2_sees 22 = .ok (.getfield 12, 3) := by decide +kernel
theorem dX2_sees_25 : decode cX2_sees 25 = .ok (.getfield 276, 3) := by decide +kernel
theorem dX2_sees_28 : decode cX2_sees 28 = .ok (.aload_n 0, 1) := by decide +kernel
theorem dX2_sees_29 : decode cX2_sees 29 = .ok (.getfield 39, 3) := by decide +kernel
theorem dX2_sees_32 : decode cX2_sees 32 = .ok (.aaload, 1) := by decide +kernel
theorem dX2_sees_33 : decode cX2_sees 33 = .ok (.aload_n 1, 1) := by decide +kernel
theorem dX2_sees_34 : decode cX2_sees 34 = .ok (.if_acmp .ne 7, 3) := by decide +kernel
theorem dX2_sees_37 : decode cX2_sees 37 = .ok (.iconst 1, 1) := by decide +kernel
theorem dX2_sees_38 : decode cX2_sees 38 = .ok (.goto 4, 3) := by decide +kernel
theorem dX2_sees_41 : decode cX2_sees 41 = .ok (.iconst 0, 1) := by decide +kernel
theorem dX2_sees_42 : decode cX2_sees 42 = .ok (.ireturn, 1) := by decide +kernel
theorem dX2_takes_0 : decode cX2_takes 0 = .ok (.aload_n 0, 1) := by decide +kernel
theorem dX2_takes_1 : decode cX2_takes 1 = .ok (.aload_n 1, 1) := by decide +kernel
theorem dX2_takes_2 : decode cX2_takes 2 = .ok (.invokevirtual 57, 3) := by decide +kernel
theorem dX2_takes_5 : decode cX2_takes 5 = .ok (.ifCond .ne 5, 3) := by decide +kernel
theorem dX2_takes_8 : decode cX2_takes 8 = .ok (.iconst 0, 1) := by decide +kernel
theorem dX2_takes_9 : decode cX2_takes 9 = .ok (.ireturn, 1) := by decide +kernel
theorem dX2_takes_10 : decode cX2_takes 10 = .ok (.aload_n 0, 1) := by decide +kernel
theorem dX2_takes_11 : decode cX2_takes 11 = .ok (.dup, 1) := by decide +kernel
theorem dX2_takes_12 : decode cX2_takes 12 = .ok (.getfield 39, 3) := by decide +kernel
theorem dX2_takes_15 : decode cX2_takes 15 = .ok (.iconst 1, 1) := by decide +kernel
theorem dX2_takes_16 : decode cX2_takes 16 = .ok (.iadd, 1) := by decide +kernel
theorem dX2_takes_17 : decode cX2_takes 17 = .ok (.putfield 39, 3) := by decide +kernel
theorem dX2_takes_20 : decode cX2_takes 20 = .ok (.iconst 1, 1) := by decide +kernel
theorem dX2_takes_21 : decode cX2_takes 21 = .ok (.ireturn, 1) := by decide +kernel
theorem dX2_takesDeeper_0 : decode cX2_takesDeeper 0 = .ok (.iload_n 2, 1) := by decide +kernel
theorem dX2_takesDeeper_1 : decode cX2_takesDeeper 1 = .ok (.bipush 8, 2) := by decide +kernel
theorem dX2_takesDeeper_3 : decode cX2_takesDeeper 3 = .ok (.if_icmp .ge 11, 3) := by decide +kernel
theorem dX2_takesDeeper_6 : decode cX2_takesDeeper 6 = .ok (.aload_n 0, 1) := by decide +kernel
theorem dX2_takesDeeper_7 : decode cX2_takesDeeper 7 = .ok (.aload_n 1, 1) := by decide +kernel
theorem dX2_takesDeeper_8 : decode cX2_takesDeeper 8 = .ok (.invokevirtual 57, 3) := by decide +kernel
theorem dX2_takesDeeper_11 : decode cX2_takesDeeper 11 = .ok (.ifCond .ne 5, 3) := by decide +kernel
theorem dX2_takesDeeper_14 : decode cX2_takesDeeper 14 = .ok (.iconst 0, 1) := by decide +kernel
theorem dX2_takesDeeper_15 : decode cX2_takesDeeper 15 = .ok (.ireturn, 1) := by decide +kernel
theorem dX2_takesDeeper_16 : decode cX2_takesDeeper 16 = .ok (.aload_n 0, 1) := by decide +kernel
theorem dX2_takesDeeper_17 : decode cX2_takesDeeper 17 = .ok (.dup, 1) := by decide +kernel
theorem dX2_takesDeeper_18 : decode cX2_takesDeeper 18 = .ok (.getfield 39, 3) := by decide +kernel
theorem dX2_takesDeeper_21 : decode cX2_takesDeeper 21 = .ok (.iconst 1, 1) := by decide +kernel
theorem dX2_takesDeeper_22 : decode cX2_takesDeeper 22 = .ok (.iadd, 1) := by decide +kernel
theorem dX2_takesDeeper_23 : decode cX2_takesDeeper 23 = .ok (.putfield 39, 3) := by decide +kernel
theorem dX2_takesDeeper_26 : decode cX2_takesDeeper 26 = .ok (.iconst 1, 1) := by decide +kernel
theorem dX2_takesDeeper_27 : decode cX2_takesDeeper 27 = .ok (.ireturn, 1) := by decide +kernel
theorem dX2_takeNumber_0 : decode cX2_takeNumber 0 = .ok (.aload_n 0, 1) := by decide +kernel
theorem dX2_takeNumber_1 : decode cX2_takeNumber 1 = .ok (.getfield 12, 3) := by decide +kernel
theorem dX2_takeNumber_4 : decode cX2_takeNumber 4 = .ok (.aload_n 0, 1) := by decide +kernel
theorem dX2_takeNumber_5 : decode cX2_takeNumber 5 = .ok (.getfield 39, 3) := by decide +kernel
theorem dX2_takeNumber_8 : decode cX2_takeNumber 8 = .ok (.invokevirtual 226, 3) := by decide +kernel
theorem dX2_takeNumber_11 : decode cX2_takeNumber 11 = .ok (.istore_n 3, 1) := by decide +kernel
theorem dX2_takeNumber_12 : decode cX2_takeNumber 12 = .ok (.iload_n 3, 1) := by decide +kernel
theorem dX2_takeNumber_13 : decode cX2_takeNumber 13 = .ok (.iload_n 1, 1) := by decide +kernel
theorem dX2_takeNumber_14 : decode cX2_takeNumber 14 = .ok (.if_icmp .lt 8, 3) := by decide +kernel
theorem dX2_takeNumber_17 : decode cX2_takeNumber 17 = .ok (.iload_n 3, 1) := by decide +kernel
theorem dX2_takeNumber_18 : decode cX2_takeNumber 18 = .ok (.iload_n 2, 1) := by decide +kernel
theorem dX2_takeNumber_19 : decode cX2_takeNumber 19 = .ok (.if_icmp .le 12, 3) := by decide +kernel
theorem dX2_takeNumber_22 : decode cX2_takeNumber 22 = .ok (.aload_n 0, 1) := by decide +kernel
theorem dX2_takeNumber_23 : decode cX2_takeNumber 23 = .ok (.iconst 5, 1) := by decide +kernel
theorem dX2_takeNumber_24 : decode cX2_takeNumber 24 = .ok (.aload_n 0, 1) := by decide +kernel
theorem dX2_takeNumber_25 : decode cX2_takeNumber 25 = .ok (.getfield 39, 3) := by decide +kernel
theorem dX2_takeNumber_28 : decode cX2_takeNumber 28 = .ok (.invokevirtual 116, 3) := by decide +kernel
theorem dX2_takeNumber_31 : decode cX2_takeNumber 31 = .ok (.aload_n 0, 1) := by decide +kernel
theorem dX2_takeNumber_32 : decode cX2_takeNumber 32 = .ok (.dup, 1) := by decide +kernel
theorem dX2_takeNumber_33 : decode cX2_takeNumber 33 = .ok (.getfield 39, 3) := by decide +kernel
theorem dX2_takeNumber_36 : decode cX2_takeNumber 36 = .ok (.iconst 1, 1) := by decide +kernel
theorem dX2_takeNumber_37 : decode cX2_takeNumber 37 = .ok (.iadd, 1) := by decide +kernel
theorem dX2_takeNumber_38 : decode cX2_takeNumber 38 = .ok (.putfield 39, 3) := by decide +kernel
theorem dX2_takeNumber_41 : decode cX2_takeNumber 41 = .ok (.iload_n 3, 1) := by decide +kernel
theorem dX2_takeNumber_42 : decode cX2_takeNumber 42 = .ok (.ireturn, 1) := by decide +kernel
theorem dX2_noteError_0 : decode cX2_noteError 0 = .ok (.aload_n 0, 1) := by decide +kernel
theorem dX2_noteError_1 : decode cX2_noteError 1 = .ok (.getfield 42, 3) := by decide +kernel
theorem dX2_noteError_4 : decode cX2_noteError 4 = .ok (.ifCond .ne 20, 3) := by decide +kernel
theorem dX2_noteError_7 : decode cX2_noteError 7 = .ok (.aload_n 0, 1) := by decide +kernel
theorem dX2_noteError_8 : decode cX2_noteError 8 = .ok (.iload_n 1, 1) := by decide +kernel
theorem dX2_noteError_9 : decode cX2_noteError 9 = .ok (.putfield 42, 3) := by decide +kernel
theorem dX2_noteError_12 : decode cX2_noteError 12 = .ok (.aload_n 0, 1) := by decide +kernel
theorem dX2_noteError_13 : decode cX2_noteError 13 = .ok (.aload_n 0, 1) := by decide +kernel
theorem dX2_noteError_14 : decode cX2_noteError 14 = .ok (.getfield 12, 3) := by decide +kernel
theorem dX2_noteError_17 : decode cX2_noteError 17 = .ok (.iload_n 2, 1) := by decide +kernel
theorem dX2_noteError_18 : decode cX2_noteError 18 = .ok (.invokevirtual 86, 3) := by decide +kernel
theorem dX2_noteError_21 : decode cX2_noteError 21 = .ok (.putfield 45, 3) := by decide +kernel
theorem dX2_noteError_24 : decode cX2_noteError 24 = .ok (.return_, 1) := by decide +kernel
theorem dX3_init_0 : decode cX3_init 0 = .ok (.aload_n 0, 1) := by decide +kernel
theorem dX3_init_1 : decode cX3_init 1 = .ok (.invokespecial 3, 3) := by decide +kernel
theorem dX3_init_4 : decode cX3_init 4 = .ok (.aload_n 0, 1) := by decide +kernel
theorem dX3_init_5 : decode cX3_init 5 = .ok (.iconst 0, 1) := by decide +kernel
theorem dX3_init_6 : decode cX3_init 6 = .ok (.putfield 9, 3) := by decide +kernel
theorem dX3_init_9 : decode cX3_init 9 = .ok (.aload_n 0, 1) := by decide +kernel
theorem dX3_init_10 : decode cX3_init 10 = .ok (.bipush 16, 2) := by decide +kernel
theorem dX3_init_12 : decode cX3_init 12 = .ok (.newarray .int, 2) := by decide +kernel
theorem dX3_init_14 : decode cX3_init 14 = .ok (.putfield 15, 3) := by decide +kernel
theorem dX3_init_17 : decode cX3_init 17 = .ok (.aload_n 0, 1) := by decide +kernel
theorem dX3_init_18 : decode cX3_init 18 = .ok (.bipush 16, 2) := by decide +kernel
theorem dX3_init_20 : decode cX3_init 20 = .ok (.newarray .int, 2) := by decide +kernel
theorem dX3_init_22 : decode cX3_init 22 = .ok (.putfield 19, 3) := by decide +kernel
theorem dX3_init_25 : decode cX3_init 25 = .ok (.aload_n 0, 1) := by decide +kernel
theorem dX3_init_26 : decode cX3_init 26 = .ok (.iconst 0, 1) := by decide +kernel
theorem dX3_init_27 : decode cX3_init 27 = .ok (.putfield 22, 3) := by decide +kernel
theorem dX3_init_30 : decode cX3_init 30 = .ok (.aload_n 0, 1) := by decide +kernel
theorem dX3_init_31 : decode cX3_init 31 = .ok (.sipush 400, 3) := by decide +kernel
theorem dX3_init_34 : decode cX3_init 34 = .ok (.newarray .int, 2) := by decide +kernel
theorem dX3_init_36 : decode cX3_init 36 = .ok (.putfield 25, 3) := by decide +kernel
theorem dX3_init_39 : decode cX3_init 39 = .ok (.aload_n 0, 1) := by decide +kernel
theorem dX3_init_40 : decode cX3_init 40 = .ok (.sipush 400, 3) := by decide +kernel
theorem dX3_init_43 : decode cX3_init 43 = .ok (.newarray .int, 2) := by decide +kernel
theorem dX3_init_45 : decode cX3_init 45 = .ok (.putfield 28, 3) := by decide +kernel
theorem dX3_init_48 : decode cX3_init 48 = .ok (.aload_n 0, 1) := by decide +kernel
theorem dX3_init_49 : decode cX3_init 49 = .ok (.iconst 0, 1) := by decide +kernel
theorem dX3_init_50 : decode cX3_init 50 = .ok (.putfield 31, 3) := by decide +kernel
theorem dX3_init_53 : decode cX3_init 53 = .ok (.aload_n 0, 1) := by decide +kernel
theorem dX3_init_54 : decode cX3_init 54 = .ok (.sipush 400, 3) := by decide +kernel
theorem dX3_init_57 : decode cX3_init 57 = .ok (.newarray .int, 2) := by decide +kernel
theorem dX3_init_59 : decode cX3_init 59 = .ok (.putfield 34, 3) := by decide +kernel
theorem dX3_init_62 : decode cX3_init 62 = .ok (.return_, 1) := by decide +kernel
theorem dX3_clear_0 : decode cX3_clear 0 = .ok (.aload_n 0, 1) := by decide +kernel
theorem dX3_clear_1 : decode cX3_clear 1 = .ok (.iconst 0, 1) := by decide +kernel
theorem dX3_clear_2 : decode cX3_clear 2 = .ok (.putfield 9, 3) := by decide +kernel
theorem dX3_clear_5 : decode cX3_clear 5 = .ok (.aload_n 0, 1) := by decide +kernel
theorem dX3_clear_6 : decode cX3_clear 6 = .ok (.iconst 0, 1) := by decide +kernel
theorem dX3_clear_7 : decode cX3_clear 7 = .ok (.putfield 22, 3) := by decide +kernel
theorem dX3_clear_10 : decode cX3_clear 10 = .ok (.return_, 1) := by decide +kernel
theorem dX3_copyFrom_0 : decode cX3_copyFrom 0 = .ok (.aload_n 0, 1) := by decide +kernel
theorem dX3_copyFrom_1 : decode cX3_copyFrom 1 = .ok (.aload_n 1, 1) := by decide +kernel
theorem dX3_copyFrom_2 : decode cX3_copyFrom 2 = .ok (.getfield 9, 3) := by decide +kernel
theorem dX3_copyFrom_5 : decode cX3_copyFrom 5 = .ok (.putfield 9, 3) := by decide +kernel
theorem dX3_copyFrom_8 : decode cX3_copyFrom 8 = .ok (.aload_n 0, 1) := by decide +kernel
theorem dX3_copyFrom_9 : decode cX3_copyFrom 9 = .ok (.aload_n 1, 1) := by decide +kernel
theorem dX3_copyFrom_10 : decode cX3_copyFrom 10 = .ok (.getfield 22, 3) := by decide +kernel
theorem dX3_copyFrom_13 : decode cX3_copyFrom 13 = .ok (.putfield 22, 3) := by decide +kernel
theorem dX3_copyFrom_16 : decode cX3_copyFrom 16 = .ok (.aload_n 1, 1) := by decide +kernel
theorem dX3_copyFrom_17 : decode cX3_copyFrom 17 = .ok (.getfield 15, 3) := by decide +kernel
theorem dX3_copyFrom_20 : decode cX3_copyFrom 20 = .ok (.iconst 0, 1) := by decide +kernel
theorem dX3_copyFrom_21 : decode cX3_copyFrom 21 = .ok (.aload_n 0, 1) := by decide +kernel
theorem dX3_copyFrom_22 : decode cX3_copyFrom 22 = .ok (.getfield 15, 3) := by decide +kernel
theorem dX3_copyFrom_25 : decode cX3_copyFrom 25 = .ok (.iconst 0, 1) := by decide +kernel
theorem dX3_copyFrom_26 : decode cX3_copyFrom 26 = .ok (.bipush 16, 2) := by decide +kernel
theorem dX3_copyFrom_28 : decode cX3_copyFrom 28 = .ok (.invokestatic 37, 3) := by decide +kernel
theorem dX3_copyFrom_31 : decode cX3_copyFrom 31 = .ok (.aload_n 1, 1) := by decide +kernel
theorem dX3_copyFrom_32 : decode cX3_copyFrom 32 = .ok (.getfield 19, 3) := by decide +kernel
theorem dX3_copyFrom_35 : decode cX3_copyFrom 35 = .ok (.iconst 0, 1) := by decide +kernel
theorem dX3_copyFrom_36 : decode cX3_copyFrom 36 = .ok (.aload_n 0, 1) := by decide +kernel
theorem dX3_copyFrom_37 : decode cX3_copyFrom 37 = .ok (.getfield 19, 3) := by decide +kernel
theorem dX3_copyFrom_40 : decode cX3_copyFrom 40 = .ok (.iconst 0, 1) := by decide +kernel
theorem dX3_copyFrom_41 : decode cX3_copyFrom 41 = .ok (.bipush 16, 2) := by decide +kernel
theorem dX3_copyFrom_43 : decode cX3_copyFrom 43 = .ok (.invokestatic 37, 3) := by decide +kernel
theorem dX3_copyFrom_46 : decode cX3_copyFrom 46 = .ok (.aload_n 1, 1) := by decide +kernel
theorem dX3_copyFrom_47 : decode cX3_copyFrom 47 = .ok (.getfield 25, 3) := by decide +kernel
theorem dX3_copyFrom_50 : decode cX3_copyFrom 50 = .ok (.iconst 0, 1) := by decide +kernel
theorem dX3_copyFrom_51 : decode cX3_copyFrom 51 = .ok (.aload_n 0, 1) := by decide +kernel
theorem dX3_copyFrom_52 : decode cX3_copyFrom 52 = .ok (.getfield 25, 3) := by decide +kernel
theorem dX3_copyFrom_55 : decode cX3_copyFrom 55 = .ok (.iconst 0, 1) := by decide +kernel
theorem dX3_copyFrom_56 : decode cX3_copyFrom 56 = .ok (.sipush 400, 3) := by decide +kernel
theorem dX3_copyFrom_59 : decode cX3_copyFrom 59 = .ok (.invokestatic 37, 3) := by decide +kernel
theorem dX3_copyFrom_62 : decode cX3_copyFrom 62 = .ok (.aload_n 1, 1) := by decide +kernel
theorem dX3_copyFrom_63 : decode cX3_copyFrom 63 = .ok (.getfield 28, 3) := by decide +kernel
theorem dX3_copyFrom_66 : decode cX3_copyFrom 66 = .ok (.iconst 0, 1) := by decide +kernel
theorem dX3_copyFrom_67 : decode cX3_copyFrom 67 = .ok (.aload_n 0, 1) := by decide +kernel
theorem dX3_copyFrom_68 : decode cX3_copyFrom 68 = .ok (.getfield 28, 3) := by decide +kernel
theorem dX3_copyFrom_71 : decode cX3_copyFrom 71 = .ok (.iconst 0, 1) := by decide +kernel
theorem dX3_copyFrom_72 : decode cX3_copyFrom 72 = .ok (.sipush 400, 3) := by decide +kernel
theorem dX3_copyFrom_75 : decode cX3_copyFrom 75 = .ok (.invokestatic 37, 3) := by decide +kernel
theorem dX3_copyFrom_78 : decode cX3_copyFrom 78 = .ok (.return_, 1) := by decide +kernel
theorem dX3_emit_0 : decode cX3_emit 0 = .ok (.aload_n 0, 1) := by decide +kernel
theorem dX3_emit_1 : decode cX3_emit 1 = .ok (.iload_n 1, 1) := by decide +kernel
theorem dX3_emit_2 : decode cX3_emit 2 = .ok (.iconst 0, 1) := by decide +kernel
theorem dX3_emit_3 : decode cX3_emit 3 = .ok (.invokevirtual 43, 3) := by decide +kernel
theorem dX3_emit_6 : decode cX3_emit 6 = .ok (.return_, 1) := by decide +kernel
theorem dX3_emit__0 : decode cX3_emit_ 0 = .ok (.aload_n 0, 1) := by decide +kernel
theorem dX3_emit__1 : decode cX3_emit_ 1 = .ok (.getfield 22, 3) := by decide +kernel
theorem dX3_emit__4 : decode cX3_emit_ 4 = .ok (.sipush 400, 3) := by decide +kernel
theorem dX3_emit__7 : decode cX3_emit_ 7 = .ok (.if_icmp .ge 33, 3) := by decide +kernel
theorem dX3_emit__10 : decode cX3_emit_ 10 = .ok (.aload_n 0, 1) := by decide +kernel
theorem dX3_emit__11 : decode cX3_emit_ 11 = .ok (.getfield 25, 3) := by decide +kernel
theorem dX3_emit__14 : decode cX3_emit_ 14 = .ok (.aload_n 0, 1) := by decide +kernel
theorem dX3_emit__15 : decode cX3_emit_ 15 = .ok (.getfield 22, 3) := by decide +kernel
theorem dX3_emit__18 : decode cX3_emit_ 18 = .ok (.iload_n 1, 1) := by decide +kernel
theorem dX3_emit__19 : decode cX3_emit_ 19 = .ok (.iastore, 1) := by decide +kernel
theorem dX3_emit__20 : decode cX3_emit_ 20 = .ok (.aload_n 0, 1) := by decide +kernel
theorem dX3_emit__21 : decode cX3_emit_ 21 = .ok (.getfield 28, 3) := by decide +kernel
theorem dX3_emit__24 : decode cX3_emit_ 24 = .ok (.aload_n 0, 1) := by decide +kernel
theorem dX3_emit__25 : decode cX3_emit_ 25 = .ok (.getfield 22, 3) := by decide +kernel
theorem dX3_emit__28 : decode cX3_emit_ 28 = .ok (.iload_n 2, 1) := by decide +kernel
theorem dX3_emit__29 : decode cX3_emit_ 29 = .ok (.iastore, 1) := by decide +kernel
theorem dX3_emit__30 : decode cX3_emit_ 30 = .ok (.aload_n 0, 1) := by decide +kernel
theorem dX3_emit__31 : decode cX3_emit_ 31 = .ok (.dup, 1) := by decide +kernel
theorem dX3_emit__32 : decode cX3_emit_ 32 = .ok (.getfield 22, 3) := by decide +kernel
theorem dX3_emit__35 : decode cX3_emit_ 35 = .ok (.iconst 1, 1) := by decide +kernel
theorem dX3_emit__36 : decode cX3_emit_ 36 = .ok (.iadd, 1) := by decide +kernel
theorem dX3_emit__37 : decode cX3_emit_ 37 = .ok (.putfield 22, 3) := by decide +kernel
theorem dX3_emit__40 : decode cX3_emit_ 40 = .ok (.return_, 1) := by decide +kernel
theorem dX3_endRule_0 : decode cX3_endRule 0 = .ok (.aload_n 0, 1) := by decide +kernel
theorem dX3_endRule_1 : decode cX3_endRule 1 = .ok (.getfield 9, 3) := by decide +kernel
theorem dX3_endRule_4 : decode cX3_endRule 4 = .ok (.bipush 16, 2) := by decide +kernel
theorem dX3_endRule_6 : decode cX3_endRule 6 = .ok (.if_icmp .ge 36, 3) := by decide +kernel
theorem dX3_endRule_9 : decode cX3_endRule 9 = .ok (.aload_n 0, 1) := by decide +kernel
theorem dX3_endRule_10 : decode cX3_endRule 10 = .ok (.getfield 15, 3) := by decide +kernel
theorem dX3_endRule_13 : decode cX3_endRule 13 = .ok (.aload_n 0, 1) := by decide +kernel
theorem dX3_endRule_14 : decode cX3_endRule 14 = .ok (.getfield 9, 3) := by decide +kernel
theorem dX3_endRule_17 : decode cX3_endRule 17 = .ok (.iload_n 1, 1) := by decide +kernel
theorem dX3_endRule_18 : decode cX3_endRule 18 = .ok (.iastore, 1) := by decide +kernel
theorem dX3_endRule_19 : decode cX3_endRule 19 = .ok (.aload_n 0, 1) := by decide +kernel
theorem dX3_endRule_20 : decode cX3_endRule 20 = .ok (.getfield 19, 3) := by decide +kernel
theorem dX3_endRule_23 : decode cX3_endRule 23 = .ok (.aload_n 0, 1) := by decide +kernel
theorem dX3_endRule_24 : decode cX3_endRule 24 = .ok (.getfield 9, 3) := by decide +kernel
theorem dX3_endRule_27 : decode cX3_endRule 27 = .ok (.aload_n 0, 1) := by decide +kernel
theorem dX3_endRule_28 : decode cX3_endRule 28 = .ok (.getfield 22, 3) := by decide +kernel
theorem dX3_endRule_31 : decode cX3_endRule 31 = .ok (.iastore, 1) := by decide +kernel
theorem dX3_endRule_32 : decode cX3_endRule 32 = .ok (.aload_n 0, 1) := by decide +kernel
theorem dX3_endRule_33 : decode cX3_endRule 33 = .ok (.dup, 1) := by decide +kernel
theorem dX3_endRule_34 : decode cX3_endRule 34 = .ok (.getfield 9, 3) := by decide +kernel
theorem dX3_endRule_37 : decode cX3_endRule 37 = .ok (.iconst 1, 1) := by decide +kernel
theorem dX3_endRule_38 : decode cX3_endRule 38 = .ok (.iadd, 1) := by decide +kernel
theorem dX3_endRule_39 : decode cX3_endRule 39 = .ok (.putfield 9, 3) := by decide +kernel
theorem dX3_endRule_42 : decode cX3_endRule 42 = .ok (.return_, 1) := by decide +kernel
theorem dX3_outcomeFor_0 : decode cX3_outcomeFor 0 = .ok (.iconst 0, 1) := by decide +kernel
theorem dX3_outcomeFor_1 : decode cX3_outcomeFor 1 = .ok (.istore_n 3, 1) := by decide +kernel
theorem dX3_outcomeFor_2 : decode cX3_outcomeFor 2 = .ok (.iconst 0, 1) := by decide +kernel
theorem dX3_outcomeFor_3 : decode cX3_outcomeFor 3 = .ok (.istore 4, 2) := by decide +kernel
theorem dX3_outcomeFor_5 : decode cX3_outcomeFor 5 = .ok (.iload 4, 2) := by decide +kernel
theorem dX3_outcomeFor_7 : decode cX3_outcomeFor 7 = .ok (.aload_n 0, 1) := by decide +kernel
theorem dX3_outcomeFor_8 : decode cX3_outcomeFor 8 = .ok (.getfield 9, 3) := by decide +kernel
theorem dX3_outcomeFor_11 : decode cX3_outcomeFor 11 = .ok (.if_icmp .ge 49, 3) := by decide +kernel
theorem dX3_outcomeFor_14 : decode cX3_outcomeFor 14 = .ok (.iload 4, 2) := by decide +kernel
theorem dX3_outcomeFor_16 : decode cX3_outcomeFor 16 = .ok (.bipush 16, 2) := by decide +kernel
theorem dX3_outcomeFor_18 : decode cX3_outcomeFor 18 = .ok (.if_icmp .ge 42, 3) := by decide +kernel
theorem dX3_outcomeFor_21 : decode cX3_outcomeFor 21 = .ok (.aload_n 0, 1) := by decide +kernel
theorem dX3_outcomeFor_22 : decode cX3_outcomeFor 22 = .ok (.iload_n 3, 1) := by decide +kernel
theorem dX3_outcomeFor_23 : decode cX3_outcomeFor 23 = .ok (.aload_n 0, 1) := by decide +kernel
theorem dX3_outcomeFor_24 : decode cX3_outcomeFor 24 = .ok (.getfield 19, 3) := by decide +kernel
theorem dX3_outcomeFor_27 : decode cX3_outcomeFor 27 = .ok (.iload 4, 2) := by decide +kernel
theorem dX3_outcomeFor_29 : decode cX3_outcomeFor 29 = .ok (.iaload, 1) := by decide +kernel
theorem dX3_outcomeFor_30 : decode cX3_outcomeFor 30 = .ok (.aload_n 1, 1) := by decide +kernel
theorem dX3_outcomeFor_31 : decode cX3_outcomeFor 31 = .ok (.iload_n 2, 1) := by decide +kernel
theorem dX3_outcomeFor_32 : decode cX3_outcomeFor 32 = .ok (.invokevirtual 47, 3) := by decide +kernel
theorem dX3_outcomeFor_35 : decode cX3_outcomeFor 35 = .ok (.ifCond .eq 11, 3) := by decide +kernel
theorem dX3_outcomeFor_38 : decode cX3_outcomeFor 38 = .ok (.aload_n 0, 1) := by decide +kernel
theorem dX3_outcomeFor_39 : decode cX3_outcomeFor 39 = .ok (.getfield 15, 3) := by decide +kernel
theorem dX3_outcomeFor_42 : decode cX3_outcomeFor 42 = .ok (.iload 4, 2) := by decide +kernel
theorem dX3_outcomeFor_44 : decode cX3_outcomeFor 44 = .ok (.iaload, 1) := by decide +kernel
theorem dX3_outcomeFor_45 : decode cX3_outcomeFor 45 = .ok (.ireturn, 1) := by decide +kernel
theorem dX3_outcomeFor_46 : decode cX3_outcomeFor 46 = .ok (.aload_n 0, 1) := by decide +kernel
theorem dX3_outcomeFor_47 : decode cX3_outcomeFor 47 = .ok (.getfield 19, 3) := by decide +kernel
theorem dX3_outcomeFor_50 : decode cX3_outcomeFor 50 = .ok (.iload 4, 2) := by decide +kernel
theorem dX3_outcomeFor_52 : decode cX3_outcomeFor 52 = .ok (.iaload, 1) := by decide +kernel
theorem dX3_outcomeFor_53 : decode cX3_outcomeFor 53 = .ok (.istore_n 3, 1) := by decide +kernel
theorem dX3_outcomeFor_54 : decode cX3_outcomeFor 54 = .ok (.iinc 4 1, 3) := by decide +kernel
theorem dX3_outcomeFor_57 : decode cX3_outcomeFor 57 = .ok (.goto (-52), 3) := by decide +kernel
theorem dX3_outcomeFor_60 : decode cX3_outcomeFor 60 = .ok (.iconst 1, 1) := by decide +kernel
theorem dX3_outcomeFor_61 : decode cX3_outcomeFor 61 = .ok (.ireturn, 1) := by decide +kernel
theorem dX3_holds_0 : decode cX3_holds 0 = .ok (.aload_n 0, 1) := by decide +kernel
theorem dX3_holds_1 : decode cX3_holds 1 = .ok (.iconst 0, 1) := by decide +kernel
theorem dX3_holds_2 : decode cX3_holds 2 = .ok (.putfield 31, 3) := by decide +kernel
theorem dX3_holds_5 : decode cX3_holds 5 = .ok (.iload_n 1, 1) := by decide +kernel
theorem dX3_holds_6 : decode cX3_holds 6 = .ok (.istore 5, 2) := by decide +kernel
theorem dX3_holds_8 : decode cX3_holds 8 = .ok (.iload 5, 2) := by decide +kernel
theorem dX3_holds_10 : decode cX3_holds 10 = .ok (.iload_n 2, 1) := by decide +kernel
theorem dX3_holds_11 : decode cX3_holds 11 = .ok (.if_icmp .ge 38, 3) := by decide +kernel
theorem dX3_holds_14 : decode cX3_holds 14 = .ok (.iload 5, 2) := by decide +kernel
theorem dX3_holds_16 : decode cX3_holds 16 = .ok (.sipush 400, 3) := by decide +kernel
theorem dX3_holds_19 : decode cX3_holds 19 = .ok (.if_icmp .ge 30, 3) := by decide +kernel
theorem dX3_holds_22 : decode cX3_holds 22 = .ok (.aload_n 0, 1) := by decide +kernel
theorem dX3_holds_23 : decode cX3_holds 23 = .ok (.aload_n 0, 1) := by decide +kernel
theorem dX3_holds_24 : decode cX3_holds 24 = .ok (.getfield 25, 3) := by decide +kernel
theorem dX3_holds_27 : decode cX3_holds 27 = .ok (.iload 5, 2) := by decide +kernel
theorem dX3_holds_29 : decode cX3_holds 29 = .ok (.iaload, 1) := by decide +kernel
theorem dX3_holds_30 : decode cX3_holds 30 = .ok (.aload_n 0, 1) := by decide +kernel
theorem dX3_holds_31 : decode cX3_holds 31 = .ok (.getfield 28, 3) := by decide +kernel
theorem dX3_holds_34 : decode cX3_holds 34 = .ok (.iload 5, 2) := by decide +kernel
theorem dX3_holds_36 : decode cX3_holds 36 = .ok (.iaload, 1) := by decide +kernel
theorem dX3_holds_37 : decode cX3_holds 37 = .ok (.aload_n 3, 1) := by decide +kernel
theorem dX3_holds_38 : decode cX3_holds 38 = .ok (.iload 4, 2) := by decide +kernel
theorem dX3_holds_40 : decode cX3_holds 40 = .ok (.invokevirtual 51, 3) := by decide +kernel
theorem dX3_holds_43 : decode cX3_holds 43 = .ok (.iinc 5 1, 3) := by decide +kernel
theorem dX3_holds_46 : decode cX3_holds 46 = .ok (.goto (-38), 3) := by decide +kernel
theorem dX3_holds_49 : decode cX3_holds 49 = .ok (.iload_n 1, 1) := by decide +kernel
theorem dX3_holds_50 : decode cX3_holds 50 = .ok (.iload_n 2, 1) := by decide +kernel
theorem dX3_holds_51 : decode cX3_holds 51 = .ok (.if_icmp .eq 10, 3) := by decide +kernel
theorem dX3_holds_54 : decode cX3_holds 54 = .ok (.aload_n 0, 1) := by decide +kernel
theorem dX3_holds_55 : decode cX3_holds 55 = .ok (.invokevirtual 55, 3) := by decide +kernel
theorem dX3_holds_58 : decode cX3_holds 58 = .ok (.ifCond .eq 7, 3) := by decide +kernel
theorem dX3_holds_61 : decode cX3_holds 61 = .ok (.iconst 1, 1) := by decide +kernel
theorem dX3_holds_62 : decode cX3_holds 62 = .ok (.goto 4, 3) := by decide +kernel
theorem dX3_holds_65 : decode cX3_holds 65 = .ok (.iconst 0, 1) := by decide +kernel
theorem dX3_holds_66 : decode cX3_holds 66 = .ok (.ireturn, 1) := by decide +kernel
theorem dX3_doStep_0 : decode cX3_doStep 0 = .ok (.iload_n 1, 1) := by decide +kernel
theorem dX3_doStep_1 : decode cX3_doStep 1 = .ok (.tableswitch 157 1 7 #[43, 51, 64, 82, 100, 132, 144], 43) := by decide +kernel
theorem dX3_doStep_44 : decode cX3_doStep 44 = .ok (.aload_n 0, 1) := by decide +kernel
theorem dX3_doStep_45 : decode cX3_doStep 45 = .ok (.iload_n 2, 1) := by decide +kernel
theorem dX3_doStep_46 : decode cX3_doStep 46 = .ok (.invokevirtual 59, 3) := by decide +kernel
theorem dX3_doStep_49 : decode cX3_doStep 49 = .ok (.goto 133, 3) := by decide +kernel
theorem dX3_doStep_52 : decode cX3_doStep 52 = .ok (.aload_n 0, 1) := by decide +kernel
theorem dX3_doStep_53 : decode cX3_doStep 53 = .ok (.aload_n 3, 1) := by decide +kernel
theorem dX3_doStep_54 : decode cX3_doStep 54 = .ok (.getfield 63, 3) := by decide +kernel
theorem dX3_doStep_57 : decode cX3_doStep 57 = .ok (.iconst 1, 1) := by decide +kernel
theorem dX3_doStep_58 : decode cX3_doStep 58 = .ok (.isub, 1) := by decide +kernel
theorem dX3_doStep_59 : decode cX3_doStep 59 = .ok (.invokevirtual 59, 3) := by decide +kernel
theorem dX3_doStep_62 : decode cX3_doStep 62 = .ok (.goto 120, 3) := by decide +kernel
theorem dX3_doStep_65 : decode cX3_doStep 65 = .ok (.aload_n 0, 1) := by decide +kernel
theorem dX3_doStep_66 : decode cX3_doStep 66 = .ok (.aload_n 3, 1) := by decide +kernel
theorem dX3_doStep_67 : decode cX3_doStep 67 = .ok (.iload_n 2, 1) := by decide +kernel
theorem dX3_doStep_68 : decode cX3_doStep 68 = .ok (.aload_n 3, 1) := by decide +kernel
theorem dX3_doStep_69 : decode cX3_doStep 69 = .ok (.iload 4, 2) := by decide +kernel
theorem dX3_doStep_71 : decode cX3_doStep 71 = .ok (.invokevirtual 68, 3) := by decide +kernel
theorem dX3_doStep_74 : decode cX3_doStep 74 = .ok (.invokevirtual 72, 3) := by decide +kernel
theorem dX3_doStep_77 : decode cX3_doStep 77 = .ok (.invokevirtual 59, 3) := by decide +kernel
theorem dX3_doStep_80 : decode cX3_doStep 80 = .ok (.goto 102, 3) := by decide +kernel
theorem dX3_doStep_83 : decode cX3_doStep 83 = .ok (.aload_n 0, 1) := by decide +kernel
theorem dX3_doStep_84 : decode cX3_doStep 84 = .ok (.aload_n 3, 1) := by decide +kernel
theorem dX3_doStep_85 : decode cX3_doStep 85 = .ok (.iload_n 2, 1) := by decide +kernel
theorem dX3_doStep_86 : decode cX3_doStep 86 = .ok (.aload_n 3, 1) := by decide +kernel
theorem dX3_doStep_87 : decode cX3_doStep 87 = .ok (.iload 4, 2) := by decide +kernel
theorem dX3_doStep_89 : decode cX3_doStep 89 = .ok (.invokevirtual 76, 3) := by decide +kernel
theorem dX3_doStep_92 : decode cX3_doStep 92 = .ok (.invokevirtual 72, 3) := by decide +kernel
theorem dX3_doStep_95 : decode cX3_doStep 95 = .ok (.invokevirtual 59, 3) := by decide +kernel
theorem dX3_doStep_98 : decode cX3_doStep 98 = .ok (.goto 84, 3) := by decide +kernel
theorem dX3_doStep_101 : decode cX3_doStep 101 = .ok (.aload_n 0, 1) := by decide +kernel
theorem dX3_doStep_102 : decode cX3_doStep 102 = .ok (.aload_n 3, 1) := by decide +kernel
theorem dX3_doStep_103 : decode cX3_doStep 103 = .ok (.aload_n 3, 1) := by decide +kernel
theorem dX3_doStep_104 : decode cX3_doStep 104 = .ok (.iload 4, 2) := by decide +kernel
theorem dX3_doStep_106 : decode cX3_doStep 106 = .ok (.invokevirtual 68, 3) := by decide +kernel
theorem dX3_doStep_109 : decode cX3_doStep 109 = .ok (.aload_n 3, 1) := by decide +kernel
theorem dX3_doStep_110 : decode cX3_doStep 110 = .ok (.iload 4, 2) := by decide +kernel
theorem dX3_doStep_112 : decode cX3_doStep 112 = .ok (.invokevirtual 76, 3) := by decide +kernel
theorem dX3_doStep_115 : decode cX3_doStep 115 = .ok (.invokevirtual 79, 3) := by decide +kernel
theorem dX3_doStep_118 : decode cX3_doStep 118 = .ok (.iconst 1, 1) := by decide +kernel
theorem dX3_doStep_119 : decode cX3_doStep 119 = .ok (.if_icmp .le 7, 3) := by decide +kernel
theorem dX3_doStep_122 : decode cX3_doStep 122 = .ok (.iconst 1, 1) := by decide +kernel
theorem dX3_doStep_123 : decode cX3_doStep 123 = .ok (.goto 4, 3) := by decide +kernel
theorem dX3_doStep_126 : decode cX3_doStep 126 = .ok (.iconst 0, 1) := by decide +kernel
theorem dX3_doStep_127 : decode cX3_doStep 127 = .ok (.invokevirtual 59, 3) := by decide +kernel
theorem dX3_doStep_130 : decode cX3_doStep 130 = .ok (.goto 52, 3) := by decide +kernel
theorem dX3_doStep_133 : decode cX3_doStep 133 = .ok (.aload_n 0, 1) := by decide +kernel
theorem dX3_doStep_134 : decode cX3_doStep 134 = .ok (.aload_n 0, 1) := by decide +kernel
theorem dX3_doStep_135 : decode cX3_doStep 135 = .ok (.invokevirtual 55, 3) := by decide +kernel
theorem dX3_doStep_138 : decode cX3_doStep 138 = .ok (.ineg, 1) := by decide +kernel
theorem dX3_doStep_139 : decode cX3_doStep 139 = .ok (.invokevirtual 59, 3) := by decide +kernel
theorem dX3_doStep_142 : decode cX3_doStep 142 = .ok (.goto 40, 3) := by decide +kernel
theorem dX3_doStep_145 : decode cX3_doStep 145 = .ok (.aload_n 0, 1) := by decide +kernel
theorem dX3_doStep_146 : decode cX3_doStep 146 = .ok (.iconst 1, 1) := by decide +kernel
theorem dX3_doStep_147 : decode cX3_doStep 147 = .ok (.aload_n 0, 1) := by decide +kernel
theorem dX3_doStep_148 : decode cX3_doStep 148 = .ok (.invokevirtual 55, 3) := by decide +kernel
theorem dX3_doStep_151 : decode cX3_doStep 151 = .ok (.isub, 1) := by decide +kernel
theorem dX3_doStep_152 : decode cX3_doStep 152 = .ok (.invokevirtual 59, 3) := by decide +kernel
theorem dX3_doStep_155 : decode cX3_doStep 155 = .ok (.goto 27, 3) := by decide +kernel
theorem dX3_doStep_158 : decode cX3_doStep 158 = .ok (.aload_n 0, 1) := by decide +kernel
theorem dX3_doStep_159 : decode cX3_doStep 159 = .ok (.invokevirtual 55, 3) := by decide +kernel
theorem dX3_doStep_162 : decode cX3_doStep 162 = .ok (.istore 5, 2) := by decide +kernel
theorem dX3_doStep_164 : decode cX3_doStep 164 = .ok (.aload_n 0, 1) := by decide +kernel
theorem dX3_doStep_165 : decode cX3_doStep 165 = .ok (.invokevirtual 55, 3) := by decide +kernel
theorem dX3_doStep_168 : decode cX3_doStep 168 = .ok (.istore 6, 2) := by decide +kernel
theorem dX3_doStep_170 : decode cX3_doStep 170 = .ok (.aload_n 0, 1) := by decide +kernel
theorem dX3_doStep_171 : decode cX3_doStep 171 = .ok (.iload_n 1, 1) := by decide +kernel
theorem dX3_doStep_172 : decode cX3_doStep 172 = .ok (.iload 6, 2) := by decide +kernel
theorem dX3_doStep_174 : decode cX3_doStep 174 = .ok (.iload 5, 2) := by decide +kernel
theorem dX3_doStep_176 : decode cX3_doStep 176 = .ok (.invokestatic 82, 3) := by decide +kernel
theorem dX3_doStep_179 : decode cX3_doStep 179 = .ok (.invokevirtual 59, 3) := by decide +kernel
theorem dX3_doStep_182 : decode cX3_doStep 182 = .ok (.return_, 1) := by decide +kernel
theorem dX3_join_0 : decode cX3_join 0 = .ok (.iload_n 0, 1) := by decide +kernel
theorem dX3_join_1 : decode cX3_join 1 = .ok (.tableswitch 166 8 20 #[67, 71, 75, 79, 91, 97, 103, 114, 125, 136, 147, 158, 162], 67) := by decide +kernel
theorem dX3_join_68 : decode cX3_join 68 = .ok (.iload_n 1, 1) := by decide +kernel
theorem dX3_join_69 : decode cX3_join 69 = .ok (.iload_n 2, 1) := by decide +kernel
theorem dX3_join_70 : decode cX3_join 70 = .ok (.iadd, 1) := by decide +kernel
theorem dX3_join_71 : decode cX3_join 71 = .ok (.ireturn, 1) := by decide +kernel
theorem dX3_join_72 : decode cX3_join 72 = .ok (.iload_n 1, 1) := by decide +kernel
theorem dX3_join_73 : decode cX3_join 73 = .ok (.iload_n 2, 1) := by decide +kernel
theorem dX3_join_74 : decode cX3_join 74 = .ok (.isub, 1) := by decide +kernel
theorem dX3_join_75 : decode cX3_join 75 = .ok (.ireturn, 1) := by decide +kernel
theorem dX3_join_76 : decode cX3_join 76 = .ok (.iload_n 1, 1) := by decide +kernel
theorem dX3_join_77 : decode cX3_join 77 = .ok (.iload_n 2, 1) := by decide +kernel
theorem dX3_join_78 : decode cX3_join 78 = .ok (.imul, 1) := by decide +kernel
theorem dX3_join_79 : decode cX3_join 79 = .ok (.ireturn, 1) := by decide +kernel
theorem dX3_join_80 : decode cX3_join 80 = .ok (.iload_n 2, 1) := by decide +kernel
theorem dX3_join_81 : decode cX3_join 81 = .ok (.ifCond .ne 7, 3) := by decide +kernel
theorem dX3_join_84 : decode cX3_join 84 = .ok (.iconst 0, 1) := by decide +kernel
theorem dX3_join_85 : decode cX3_join 85 = .ok (.goto 6, 3) := by decide +kernel
theorem dX3_join_88 : decode cX3_join 88 = .ok (.iload_n 1, 1) := by decide +kernel
theorem dX3_join_89 : decode cX3_join 89 = .ok (.iload_n 2, 1) := by decide +kernel
theorem dX3_join_90 : decode cX3_join 90 = .ok (.idiv, 1) := by decide +kernel
theorem dX3_join_91 : decode cX3_join 91 = .ok (.ireturn, 1) := by decide +kernel
theorem dX3_join_92 : decode cX3_join 92 = .ok (.iload_n 1, 1) := by decide +kernel
theorem dX3_join_93 : decode cX3_join 93 = .ok (.iload_n 2, 1) := by decide +kernel
theorem dX3_join_94 : decode cX3_join 94 = .ok (.invokestatic 86, 3) := by decide +kernel
theorem dX3_join_97 : decode cX3_join 97 = .ok (.ireturn, 1) := by decide +kernel
theorem dX3_join_98 : decode cX3_join 98 = .ok (.iload_n 1, 1) := by decide +kernel
theorem dX3_join_99 : decode cX3_join 99 = .ok (.iload_n 2, 1) := by decide +kernel
theorem dX3_join_100 : decode cX3_join 100 = .ok (.invokestatic 91, 3) := by decide +kernel
theorem dX3_join_103 : decode cX3_join 103 = .ok (.ireturn, 1) := by decide +kernel
theorem dX3_join_104 : decode cX3_join 104 = .ok (.iload_n 1, 1) := by decide +kernel
theorem dX3_join_105 : decode cX3_join 105 = .ok (.iload_n 2, 1) := by decide +kernel
theorem dX3_join_106 : decode cX3_join 106 = .ok (.if_icmp .ge 7, 3) := by decide +kernel
theorem dX3_join_109 : decode cX3_join 109 = .ok (.iconst 1, 1) := by decide +kernel
theorem dX3_join_110 : decode cX3_join 110 = .ok (.goto 4, 3) := by decide +kernel
theorem dX3_join_113 : decode cX3_join 113 = .ok (.iconst 0, 1) := by decide +kernel
theorem dX3_join_114 : decode cX3_join 114 = .ok (.ireturn, 1) := by decide +kernel
theorem dX3_join_115 : decode cX3_join 115 = .ok (.iload_n 1, 1) := by decide +kernel
theorem dX3_join_116 : decode cX3_join 116 = .ok (.iload_n 2, 1) := by decide +kernel
theorem dX3_join_117 : decode cX3_join 117 = .ok (.if_icmp .le 7, 3) := by decide +kernel
theorem dX3_join_120 : decode cX3_join 120 = .ok (.iconst 1, 1) := by decide +kernel
theorem dX3_join_121 : decode cX3_join 121 = .ok (.goto 4, 3) := by decide +kernel
theorem dX3_join_124 : decode cX3_join 124 = .ok (.iconst 0, 1) := by decide +kernel
theorem dX3_join_125 : decode cX3_join 125 = .ok (.ireturn, 1) := by decide +kernel
theorem dX3_join_126 : decode cX3_join 126 = .ok (.iload_n 1, 1) := by decide +kernel
theorem dX3_join_127 : decode cX3_join 127 = .ok (.iload_n 2, 1) := by decide +kernel
theorem dX3_join_128 : decode cX3_join 128 = .ok (.if_icmp .ne 7, 3) := by decide +kernel
theorem dX3_join_131 : decode cX3_join 131 = .ok (.iconst 1, 1) := by decide +kernel
theorem dX3_join_132 : decode cX3_join 132 = .ok (.goto 4, 3) := by decide +kernel
theorem dX3_join_135 : decode cX3_join 135 = .ok (.iconst 0, 1) := by decide +kernel
theorem dX3_join_136 : decode cX3_join 136 = .ok (.ireturn, 1) := by decide +kernel
theorem dX3_join_137 : decode cX3_join 137 = .ok (.iload_n 1, 1) := by decide +kernel
theorem dX3_join_138 : decode cX3_join 138 = .ok (.iload_n 2, 1) := by decide +kernel
theorem dX3_join_139 : decode cX3_join 139 = .ok (.if_icmp .gt 7, 3) := by decide +kernel
theorem dX3_join_142 : decode cX3_join 142 = .ok (.iconst 1, 1) := by decide +kernel
theorem dX3_join_143 : decode cX3_join 143 = .ok (.goto 4, 3) := by decide +kernel
theorem dX3_join_146 : decode cX3_join 146 = .ok (.iconst 0, 1) := by decide +kernel
theorem dX3_join_147 : decode cX3_join 147 = .ok (.ireturn, 1) := by decide +kernel
theorem dX3_join_148 : decode cX3_join 148 = .ok (.iload_n 1, 1) := by decide +kernel
theorem dX3_join_149 : decode cX3_join 149 = .ok (.iload_n 2, 1) := by decide +kernel
theorem dX3_join_150 : decode cX3_join 150 = .ok (.if_icmp .lt 7, 3) := by decide +kernel
theorem dX3_join_153 : decode cX3_join 153 = .ok (.iconst 1, 1) := by decide +kernel
theorem dX3_join_154 : decode cX3_join 154 = .ok (.goto 4, 3) := by decide +kernel
theorem dX3_join_157 : decode cX3_join 157 = .ok (.iconst 0, 1) := by decide +kernel
theorem dX3_join_158 : decode cX3_join 158 = .ok (.ireturn, 1) := by decide +kernel
theorem dX3_join_159 : decode cX3_join 159 = .ok (.iload_n 1, 1) := by decide +kernel
theorem dX3_join_160 : decode cX3_join 160 = .ok (.iload_n 2, 1) := by decide +kernel
theorem dX3_join_161 : decode cX3_join 161 = .ok (.iand, 1) := by decide +kernel
theorem dX3_join_162 : decode cX3_join 162 = .ok (.ireturn, 1) := by decide +kernel
theorem dX3_join_163 : decode cX3_join 163 = .ok (.iload_n 1, 1) := by decide +kernel
theorem dX3_join_164 : decode cX3_join 164 = .ok (.iload_n 2, 1) := by decide +kernel
theorem dX3_join_165 : decode cX3_join 165 = .ok (.ior, 1) := by decide +kernel
theorem dX3_join_166 : decode cX3_join 166 = .ok (.ireturn, 1) := by decide +kernel
theorem dX3_join_167 : decode cX3_join 167 = .ok (.iconst 0, 1) := by decide +kernel
theorem dX3_join_168 : decode cX3_join 168 = .ok (.ireturn, 1) := by decide +kernel
theorem dX3_push_0 : decode cX3_push 0 = .ok (.aload_n 0, 1) := by decide +kernel
theorem dX3_push_1 : decode cX3_push 1 = .ok (.getfield 31, 3) := by decide +kernel
theorem dX3_push_4 : decode cX3_push 4 = .ok (.sipush 400, 3) := by decide +kernel
theorem dX3_push_7 : decode cX3_push 7 = .ok (.if_icmp .ge 23, 3) := by decide +kernel
theorem dX3_push_10 : decode cX3_push 10 = .ok (.aload_n 0, 1) := by decide +kernel
theorem dX3_push_11 : decode cX3_push 11 = .ok (.getfield 34, 3) := by decide +kernel
theorem dX3_push_14 : decode cX3_push 14 = .ok (.aload_n 0, 1) := by decide +kernel
theorem dX3_push_15 : decode cX3_push 15 = .ok (.getfield 31, 3) := by decide +kernel
theorem dX3_push_18 : decode cX3_push 18 = .ok (.iload_n 1, 1) := by decide +kernel
theorem dX3_push_19 : decode cX3_push 19 = .ok (.iastore, 1) := by decide +kernel
theorem dX3_push_20 : decode cX3_push 20 = .ok (.aload_n 0, 1) := by decide +kernel
theorem dX3_push_21 : decode cX3_push 21 = .ok (.dup, 1) := by decide +kernel
theorem dX3_push_22 : decode cX3_push 22 = .ok (.getfield 31, 3) := by decide +kernel
theorem dX3_push_25 : decode cX3_push 25 = .ok (.iconst 1, 1) := by decide +kernel
theorem dX3_push_26 : decode cX3_push 26 = .ok (.iadd, 1) := by decide +kernel
theorem dX3_push_27 : decode cX3_push 27 = .ok (.putfield 31, 3) := by decide +kernel
theorem dX3_push_30 : decode cX3_push 30 = .ok (.return_, 1) := by decide +kernel
theorem dX3_pop_0 : decode cX3_pop 0 = .ok (.aload_n 0, 1) := by decide +kernel
theorem dX3_pop_1 : decode cX3_pop 1 = .ok (.getfield 31, 3) := by decide +kernel
theorem dX3_pop_4 : decode cX3_pop 4 = .ok (.ifCond .gt 5, 3) := by decide +kernel
theorem dX3_pop_7 : decode cX3_pop 7 = .ok (.iconst 0, 1) := by decide +kernel
theorem dX3_pop_8 : decode cX3_pop 8 = .ok (.ireturn, 1) := by decide +kernel
theorem dX3_pop_9 : decode cX3_pop 9 = .ok (.aload_n 0, 1) := by decide +kernel
theorem dX3_pop_10 : decode cX3_pop 10 = .ok (.dup, 1) := by decide +kernel
theorem dX3_pop_11 : decode cX3_pop 11 = .ok (.getfield 31, 3) := by decide +kernel
theorem dX3_pop_14 : decode cX3_pop 14 = .ok (.iconst 1, 1) := by decide +kernel
theorem dX3_pop_15 : decode cX3_pop 15 = .ok (.isub, 1) := by decide +kernel
theorem dX3_pop_16 : decode cX3_pop 16 = .ok (.putfield 31, 3) := by decide +kernel
theorem dX3_pop_19 : decode cX3_pop 19 = .ok (.aload_n 0, 1) := by decide +kernel
theorem dX3_pop_20 : decode cX3_pop 20 = .ok (.getfield 34, 3) := by decide +kernel
theorem dX3_pop_23 : decode cX3_pop 23 = .ok (.aload_n 0, 1) := by decide +kernel
theorem dX3_pop_24 : decode cX3_pop 24 = .ok (.getfield 31, 3) := by decide +kernel
theorem dX3_pop_27 : decode cX3_pop 27 = .ok (.iaload, 1) := by decide +kernel
theorem dX3_pop_28 : decode cX3_pop 28 = .ok (.ireturn, 1) := by decide +kernel
