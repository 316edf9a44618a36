/-! decode rows -/
theorem dX0_init_0 : decode cX0_init 0 = .ok (.aload_n 0, 1) := by decide +kernel
theorem dX0_init_1 : decode cX0_init 1 = .ok (.invokespecial 3, 3) := by decide +kernel
theorem dX0_init_4 : decode cX0_init 4 = .ok (.aload_n 0, 1) := by decide +kernel
theorem dX0_init_5 : decode cX0_init 5 = .ok (.iconst 0, 1) := by decide +kernel
theorem dX0_init_6 : decode cX0_init 6 = .ok (.putfield 9, 3) := by decide +kernel
theorem dX0_init_9 : decode cX0_init 9 = .ok (.aload_n 0, 1) := by decide +kernel
theorem dX0_init_10 : decode cX0_init 10 = .ok (.iconst 0, 1) := by decide +kernel
theorem dX0_init_11 : decode cX0_init 11 = .ok (.putfield 15, 3) := by decide +kernel
theorem dX0_init_14 : decode cX0_init 14 = .ok (.aload_n 0, 1) := by decide +kernel
theorem dX0_init_15 : decode cX0_init 15 = .ok (.iconst 3, 1) := by decide +kernel
theorem dX0_init_16 : decode cX0_init 16 = .ok (.newarray .int, 2) := by decide +kernel
theorem dX0_init_18 : decode cX0_init 18 = .ok (.putfield 18, 3) := by decide +kernel
theorem dX0_init_21 : decode cX0_init 21 = .ok (.aload_n 0, 1) := by decide +kernel
theorem dX0_init_22 : decode cX0_init 22 = .ok (.bipush 120, 2) := by decide +kernel
theorem dX0_init_24 : decode cX0_init 24 = .ok (.newarray .int, 2) := by decide +kernel
theorem dX0_init_26 : decode cX0_init 26 = .ok (.putfield 22, 3) := by decide +kernel
theorem dX0_init_29 : decode cX0_init 29 = .ok (.aload_n 0, 1) := by decide +kernel
theorem dX0_init_30 : decode cX0_init 30 = .ok (.sipush 144, 3) := by decide +kernel
theorem dX0_init_33 : decode cX0_init 33 = .ok (.newarray .int, 2) := by decide +kernel
theorem dX0_init_35 : decode cX0_init 35 = .ok (.putfield 25, 3) := by decide +kernel
theorem dX0_init_38 : decode cX0_init 38 = .ok (.aload_n 0, 1) := by decide +kernel
theorem dX0_init_39 : decode cX0_init 39 = .ok (.iconst 0, 1) := by decide +kernel
theorem dX0_init_40 : decode cX0_init 40 = .ok (.putfield 28, 3) := by decide +kernel
theorem dX0_init_43 : decode cX0_init 43 = .ok (.aload_n 0, 1) := by decide +kernel
theorem dX0_init_44 : decode cX0_init 44 = .ok (.bipush 6, 2) := by decide +kernel
theorem dX0_init_46 : decode cX0_init 46 = .ok (.newarray .int, 2) := by decide +kernel
theorem dX0_init_48 : decode cX0_init 48 = .ok (.putfield 31, 3) := by decide +kernel
theorem dX0_init_51 : decode cX0_init 51 = .ok (.aload_n 0, 1) := by decide +kernel
theorem dX0_init_52 : decode cX0_init 52 = .ok (.bipush 6, 2) := by decide +kernel
theorem dX0_init_54 : decode cX0_init 54 = .ok (.newarray .int, 2) := by decide +kernel
theorem dX0_init_56 : decode cX0_init 56 = .ok (.putfield 34, 3) := by decide +kernel
theorem dX0_init_59 : decode cX0_init 59 = .ok (.aload_n 0, 1) := by decide +kernel
theorem dX0_init_60 : decode cX0_init 60 = .ok (.bipush 6, 2) := by decide +kernel
theorem dX0_init_62 : decode cX0_init 62 = .ok (.newarray .int, 2) := by decide +kernel
theorem dX0_init_64 : decode cX0_init 64 = .ok (.putfield 37, 3) := by decide +kernel
theorem dX0_init_67 : decode cX0_init 67 = .ok (.aload_n 0, 1) := by decide +kernel
theorem dX0_init_68 : decode cX0_init 68 = .ok (.iconst (-1), 1) := by decide +kernel
theorem dX0_init_69 : decode cX0_init 69 = .ok (.putfield 40, 3) := by decide +kernel
theorem dX0_init_72 : decode cX0_init 72 = .ok (.aload_n 0, 1) := by decide +kernel
theorem dX0_init_73 : decode cX0_init 73 = .ok (.bipush 12, 2) := by decide +kernel
theorem dX0_init_75 : decode cX0_init 75 = .ok (.newarray .int, 2) := by decide +kernel
theorem dX0_init_77 : decode cX0_init 77 = .ok (.putfield 43, 3) := by decide +kernel
theorem dX0_init_80 : decode cX0_init 80 = .ok (.aload_n 0, 1) := by decide +kernel
theorem dX0_init_81 : decode cX0_init 81 = .ok (.bipush 12, 2) := by decide +kernel
theorem dX0_init_83 : decode cX0_init 83 = .ok (.newarray .int, 2) := by decide +kernel
theorem dX0_init_85 : decode cX0_init 85 = .ok (.putfield 46, 3) := by decide +kernel
theorem dX0_init_88 : decode cX0_init 88 = .ok (.return_, 1) := by decide +kernel
theorem dX0_begin_0 : decode cX0_begin 0 = .ok (.aload_n 0, 1) := by decide +kernel
theorem dX0_begin_1 : decode cX0_begin 1 = .ok (.iload_n 1, 1) := by decide +kernel
theorem dX0_begin_2 : decode cX0_begin 2 = .ok (.bipush 12, 2) := by decide +kernel
theorem dX0_begin_4 : decode cX0_begin 4 = .ok (.invokestatic 49, 3) := by decide +kernel
theorem dX0_begin_7 : decode cX0_begin 7 = .ok (.aload_n 2, 1) := by decide +kernel
theorem dX0_begin_8 : decode cX0_begin 8 = .ok (.arraylength, 1) := by decide +kernel
theorem dX0_begin_9 : decode cX0_begin 9 = .ok (.invokestatic 49, 3) := by decide +kernel
theorem dX0_begin_12 : decode cX0_begin 12 = .ok (.putfield 9, 3) := by decide +kernel
theorem dX0_begin_15 : decode cX0_begin 15 = .ok (.aload_n 0, 1) := by decide +kernel
theorem dX0_begin_16 : decode cX0_begin 16 = .ok (.iconst 0, 1) := by decide +kernel
theorem dX0_begin_17 : decode cX0_begin 17 = .ok (.putfield 15, 3) := by decide +kernel
theorem dX0_begin_20 : decode cX0_begin 20 = .ok (.aload_n 0, 1) := by decide +kernel
theorem dX0_begin_21 : decode cX0_begin 21 = .ok (.iconst 0, 1) := by decide +kernel
theorem dX0_begin_22 : decode cX0_begin 22 = .ok (.putfield 28, 3) := by decide +kernel
theorem dX0_begin_25 : decode cX0_begin 25 = .ok (.aload_n 0, 1) := by decide +kernel
theorem dX0_begin_26 : decode cX0_begin 26 = .ok (.iconst (-1), 1) := by decide +kernel
theorem dX0_begin_27 : decode cX0_begin 27 = .ok (.putfield 40, 3) := by decide +kernel
theorem dX0_begin_30 : decode cX0_begin 30 = .ok (.aload_n 0, 1) := by decide +kernel
theorem dX0_begin_31 : decode cX0_begin 31 = .ok (.getfield 22, 3) := by decide +kernel
theorem dX0_begin_34 : decode cX0_begin 34 = .ok (.iconst 0, 1) := by decide +kernel
theorem dX0_begin_35 : decode cX0_begin 35 = .ok (.invokestatic 55, 3) := by decide +kernel
theorem dX0_begin_38 : decode cX0_begin 38 = .ok (.aload_n 0, 1) := by decide +kernel
theorem dX0_begin_39 : decode cX0_begin 39 = .ok (.getfield 25, 3) := by decide +kernel
theorem dX0_begin_42 : decode cX0_begin 42 = .ok (.iconst 0, 1) := by decide +kernel
theorem dX0_begin_43 : decode cX0_begin 43 = .ok (.invokestatic 55, 3) := by decide +kernel
theorem dX0_begin_46 : decode cX0_begin 46 = .ok (.iconst 0, 1) := by decide +kernel
theorem dX0_begin_47 : decode cX0_begin 47 = .ok (.istore 4, 2) := by decide +kernel
theorem dX0_begin_49 : decode cX0_begin 49 = .ok (.iload 4, 2) := by decide +kernel
theorem dX0_begin_51 : decode cX0_begin 51 = .ok (.aload_n 0, 1) := by decide +kernel
theorem dX0_begin_52 : decode cX0_begin 52 = .ok (.getfield 9, 3) := by decide +kernel
theorem dX0_begin_55 : decode cX0_begin 55 = .ok (.if_icmp .ge 29, 3) := by decide +kernel
theorem dX0_begin_58 : decode cX0_begin 58 = .ok (.aload_n 0, 1) := by decide +kernel
theorem dX0_begin_59 : decode cX0_begin 59 = .ok (.iconst 0, 1) := by decide +kernel
theorem dX0_begin_60 : decode cX0_begin 60 = .ok (.iload 4, 2) := by decide +kernel
theorem dX0_begin_62 : decode cX0_begin 62 = .ok (.aload_n 2, 1) := by decide +kernel
theorem dX0_begin_63 : decode cX0_begin 63 = .ok (.iload 4, 2) := by decide +kernel
theorem dX0_begin_65 : decode cX0_begin 65 = .ok (.iaload, 1) := by decide +kernel
theorem dX0_begin_66 : decode cX0_begin 66 = .ok (.invokevirtual 61, 3) := by decide +kernel
theorem dX0_begin_69 : decode cX0_begin 69 = .ok (.aload_n 0, 1) := by decide +kernel
theorem dX0_begin_70 : decode cX0_begin 70 = .ok (.bipush 8, 2) := by decide +kernel
theorem dX0_begin_72 : decode cX0_begin 72 = .ok (.iload 4, 2) := by decide +kernel
theorem dX0_begin_74 : decode cX0_begin 74 = .ok (.iconst 1, 1) := by decide +kernel
theorem dX0_begin_75 : decode cX0_begin 75 = .ok (.invokevirtual 61, 3) := by decide +kernel
theorem dX0_begin_78 : decode cX0_begin 78 = .ok (.iinc 4 1, 3) := by decide +kernel
theorem dX0_begin_81 : decode cX0_begin 81 = .ok (.goto (-32), 3) := by decide +kernel
theorem dX0_begin_84 : decode cX0_begin 84 = .ok (.iconst 0, 1) := by decide +kernel
theorem dX0_begin_85 : decode cX0_begin 85 = .ok (.istore 4, 2) := by decide +kernel
theorem dX0_begin_87 : decode cX0_begin 87 = .ok (.iload 4, 2) := by decide +kernel
theorem dX0_begin_89 : decode cX0_begin 89 = .ok (.iconst 3, 1) := by decide +kernel
theorem dX0_begin_90 : decode cX0_begin 90 = .ok (.if_icmp .ge 27, 3) := by decide +kernel
theorem dX0_begin_93 : decode cX0_begin 93 = .ok (.iload 4, 2) := by decide +kernel
theorem dX0_begin_95 : decode cX0_begin 95 = .ok (.aload_n 3, 1) := by decide +kernel
theorem dX0_begin_96 : decode cX0_begin 96 = .ok (.arraylength, 1) := by decide +kernel
theorem dX0_begin_97 : decode cX0_begin 97 = .ok (.if_icmp .ge 20, 3) := by decide +kernel
theorem dX0_begin_100 : decode cX0_begin 100 = .ok (.aload_n 0, 1) := by decide +kernel
theorem dX0_begin_101 : decode cX0_begin 101 = .ok (.getfield 18, 3) := by decide +kernel
theorem dX0_begin_104 : decode cX0_begin 104 = .ok (.iload 4, 2) := by decide +kernel
theorem dX0_begin_106 : decode cX0_begin 106 = .ok (.aload_n 3, 1) := by decide +kernel
theorem dX0_begin_107 : decode cX0_begin 107 = .ok (.iload 4, 2) := by decide +kernel
theorem dX0_begin_109 : decode cX0_begin 109 = .ok (.iaload, 1) := by decide +kernel
theorem dX0_begin_110 : decode cX0_begin 110 = .ok (.iastore, 1) := by decide +kernel
theorem dX0_begin_111 : decode cX0_begin 111 = .ok (.iinc 4 1, 3) := by decide +kernel
theorem dX0_begin_114 : decode cX0_begin 114 = .ok (.goto (-27), 3) := by decide +kernel
theorem dX0_begin_117 : decode cX0_begin 117 = .ok (.return_, 1) := by decide +kernel
theorem dX0_copyFrom_0 : decode cX0_copyFrom 0 = .ok (.aload_n 0, 1) := by decide +kernel
theorem dX0_copyFrom_1 : decode cX0_copyFrom 1 = .ok (.aload_n 1, 1) := by decide +kernel
theorem dX0_copyFrom_2 : decode cX0_copyFrom 2 = .ok (.getfield 9, 3) := by decide +kernel
theorem dX0_copyFrom_5 : decode cX0_copyFrom 5 = .ok (.putfield 9, 3) := by decide +kernel
theorem dX0_copyFrom_8 : decode cX0_copyFrom 8 = .ok (.aload_n 0, 1) := by decide +kernel
theorem dX0_copyFrom_9 : decode cX0_copyFrom 9 = .ok (.aload_n 1, 1) := by decide +kernel
theorem dX0_copyFrom_10 : decode cX0_copyFrom 10 = .ok (.getfield 15, 3) := by decide +kernel
theorem dX0_copyFrom_13 : decode cX0_copyFrom 13 = .ok (.putfield 15, 3) := by decide +kernel
theorem dX0_copyFrom_16 : decode cX0_copyFrom 16 = .ok (.aload_n 0, 1) := by decide +kernel
theorem dX0_copyFrom_17 : decode cX0_copyFrom 17 = .ok (.aload_n 1, 1) := by decide +kernel
theorem dX0_copyFrom_18 : decode cX0_copyFrom 18 = .ok (.getfield 28, 3) := by decide +kernel
theorem dX0_copyFrom_21 : decode cX0_copyFrom 21 = .ok (.putfield 28, 3) := by decide +kernel
theorem dX0_copyFrom_24 : decode cX0_copyFrom 24 = .ok (.aload_n 0, 1) := by decide +kernel
theorem dX0_copyFrom_25 : decode cX0_copyFrom 25 = .ok (.aload_n 1, 1) := by decide +kernel
theorem dX0_copyFrom_26 : decode cX0_copyFrom 26 = .ok (.getfield 40, 3) := by decide +kernel
theorem dX0_copyFrom_29 : decode cX0_copyFrom 29 = .ok (.putfield 40, 3) := by decide +kernel
theorem dX0_copyFrom_32 : decode cX0_copyFrom 32 = .ok (.aload_n 1, 1) := by decide +kernel
theorem dX0_copyFrom_33 : decode cX0_copyFrom 33 = .ok (.getfield 18, 3) := by decide +kernel
theorem dX0_copyFrom_36 : decode cX0_copyFrom 36 = .ok (.iconst 0, 1) := by decide +kernel
theorem dX0_copyFrom_37 : decode cX0_copyFrom 37 = .ok (.aload_n 0, 1) := by decide +kernel
theorem dX0_copyFrom_38 : decode cX0_copyFrom 38 = .ok (.getfield 18, 3) := by decide +kernel
theorem dX0_copyFrom_41 : decode cX0_copyFrom 41 = .ok (.iconst 0, 1) := by decide +kernel
theorem dX0_copyFrom_42 : decode cX0_copyFrom 42 = .ok (.iconst 3, 1) := by decide +kernel
theorem dX0_copyFrom_43 : decode cX0_copyFrom 43 = .ok (.invokestatic 65, 3) := by decide +kernel
theorem dX0_copyFrom_46 : decode cX0_copyFrom 46 = .ok (.aload_n 1, 1) := by decide +kernel
theorem dX0_copyFrom_47 : decode cX0_copyFrom 47 = .ok (.getfield 22, 3) := by decide +kernel
theorem dX0_copyFrom_50 : decode cX0_copyFrom 50 = .ok (.iconst 0, 1) := by decide +kernel
theorem dX0_copyFrom_51 : decode cX0_copyFrom 51 = .ok (.aload_n 0, 1) := by decide +kernel
theorem dX0_copyFrom_52 : decode cX0_copyFrom 52 = .ok (.getfield 22, 3) := by decide +kernel
theorem dX0_copyFrom_55 : decode cX0_copyFrom 55 = .ok (.iconst 0, 1) := by decide +kernel
theorem dX0_copyFrom_56 : decode cX0_copyFrom 56 = .ok (.bipush 120, 2) := by decide +kernel
theorem dX0_copyFrom_58 : decode cX0_copyFrom 58 = .ok (.invokestatic 65, 3) := by decide +kernel
theorem dX0_copyFrom_61 : decode cX0_copyFrom 61 = .ok (.aload_n 1, 1) := by decide +kernel
theorem dX0_copyFrom_62 : decode cX0_copyFrom 62 = .ok (.getfield 25, 3) := by decide +kernel
theorem dX0_copyFrom_65 : decode cX0_copyFrom 65 = .ok (.iconst 0, 1) := by decide +kernel
theorem dX0_copyFrom_66 : decode cX0_copyFrom 66 = .ok (.aload_n 0, 1) := by decide +kernel
theorem dX0_copyFrom_67 : decode cX0_copyFrom 67 = .ok (.getfield 25, 3) := by decide +kernel
theorem dX0_copyFrom_70 : decode cX0_copyFrom 70 = .ok (.iconst 0, 1) := by decide +kernel
theorem dX0_copyFrom_71 : decode cX0_copyFrom 71 = .ok (.sipush 144, 3) := by decide +kernel
theorem dX0_copyFrom_74 : decode cX0_copyFrom 74 = .ok (.invokestatic 65, 3) := by decide +kernel
theorem dX0_copyFrom_77 : decode cX0_copyFrom 77 = .ok (.aload_n 1, 1) := by decide +kernel
theorem dX0_copyFrom_78 : decode cX0_copyFrom 78 = .ok (.getfield 31, 3) := by decide +kernel
theorem dX0_copyFrom_81 : decode cX0_copyFrom 81 = .ok (.iconst 0, 1) := by decide +kernel
theorem dX0_copyFrom_82 : decode cX0_copyFrom 82 = .ok (.aload_n 0, 1) := by decide +kernel
theorem dX0_copyFrom_83 : decode cX0_copyFrom 83 = .ok (.getfield 31, 3) := by decide +kernel
theorem dX0_copyFrom_86 : decode cX0_copyFrom 86 = .ok (.iconst 0, 1) := by decide +kernel
theorem dX0_copyFrom_87 : decode cX0_copyFrom 87 = .ok (.bipush 6, 2) := by decide +kernel
theorem dX0_copyFrom_89 : decode cX0_copyFrom 89 = .ok (.invokestatic 65, 3) := by decide +kernel
theorem dX0_copyFrom_92 : decode cX0_copyFrom 92 = .ok (.aload_n 1, 1) := by decide +kernel
theorem dX0_copyFrom_93 : decode cX0_copyFrom 93 = .ok (.getfield 34, 3) := by decide +kernel
theorem dX0_copyFrom_96 : decode cX0_copyFrom 96 = .ok (.iconst 0, 1) := by decide +kernel
theorem dX0_copyFrom_97 : decode cX0_copyFrom 97 = .ok (.aload_n 0, 1) := by decide +kernel
theorem dX0_copyFrom_98 : decode cX0_copyFrom 98 = .ok (.getfield 34, 3) := by decide +kernel
theorem dX0_copyFrom_101 : decode cX0_copyFrom 101 = .ok (.iconst 0, 1) := by decide +kernel
theorem dX0_copyFrom_102 : decode cX0_copyFrom 102 = .ok (.bipush 6, 2) := by decide +kernel
theorem dX0_copyFrom_104 : decode cX0_copyFrom 104 = .ok (.invokestatic 65, 3) := by decide +kernel
theorem dX0_copyFrom_107 : decode cX0_copyFrom 107 = .ok (.aload_n 1, 1) := by decide +kernel
theorem dX0_copyFrom_108 : decode cX0_copyFrom 108 = .ok (.getfield 37, 3) := by decide +kernel
theorem dX0_copyFrom_111 : decode cX0_copyFrom 111 = .ok (.iconst 0, 1) := by decide +kernel
theorem dX0_copyFrom_112 : decode cX0_copyFrom 112 = .ok (.aload_n 0, 1) := by decide +kernel
theorem dX0_copyFrom_113 : decode cX0_copyFrom 113 = .ok (.getfield 37, 3) := by decide +kernel
theorem dX0_copyFrom_116 : decode cX0_copyFrom 116 = .ok (.iconst 0, 1) := by decide +kernel
theorem dX0_copyFrom_117 : decode cX0_copyFrom 117 = .ok (.bipush 6, 2) := by decide +kernel
theorem dX0_copyFrom_119 : decode cX0_copyFrom 119 = .ok (.invokestatic 65, 3) := by decide +kernel
theorem dX0_copyFrom_122 : decode cX0_copyFrom 122 = .ok (.return_, 1) := by decide +kernel
theorem dX0_hasWrestler_0 : decode cX0_hasWrestler 0 = .ok (.iload_n 1, 1) := by decide +kernel
theorem dX0_hasWrestler_1 : decode cX0_hasWrestler 1 = .ok (.ifCond .lt 15, 3) := by decide +kernel
theorem dX0_hasWrestler_4 : decode cX0_hasWrestler 4 = .ok (.iload_n 1, 1) := by decide +kernel
theorem dX0_hasWrestler_5 : decode cX0_hasWrestler 5 = .ok (.aload_n 0, 1) := by decide +kernel
theorem dX0_hasWrestler_6 : decode cX0_hasWrestler 6 = .ok (.getfield 9, 3) := by decide +kernel
theorem dX0_hasWrestler_9 : decode cX0_hasWrestler 9 = .ok (.if_icmp .ge 7, 3) := by decide +kernel
theorem dX0_hasWrestler_12 : decode cX0_hasWrestler 12 = .ok (.iconst 1, 1) := by decide +kernel
theorem dX0_hasWrestler_13 : decode cX0_hasWrestler 13 = .ok (.goto 4, 3) := by decide +kernel
theorem dX0_hasWrestler_16 : decode cX0_hasWrestler 16 = .ok (.iconst 0, 1) := by decide +kernel
theorem dX0_hasWrestler_17 : decode cX0_hasWrestler 17 = .ok (.ireturn, 1) := by decide +kernel
theorem dX0_hasBout_0 : decode cX0_hasBout 0 = .ok (.iload_n 1, 1) := by decide +kernel
theorem dX0_hasBout_1 : decode cX0_hasBout 1 = .ok (.ifCond .lt 15, 3) := by decide +kernel
theorem dX0_hasBout_4 : decode cX0_hasBout 4 = .ok (.iload_n 1, 1) := by decide +kernel
theorem dX0_hasBout_5 : decode cX0_hasBout 5 = .ok (.aload_n 0, 1) := by decide +kernel
theorem dX0_hasBout_6 : decode cX0_hasBout 6 = .ok (.getfield 28, 3) := by decide +kernel
theorem dX0_hasBout_9 : decode cX0_hasBout 9 = .ok (.if_icmp .ge 7, 3) := by decide +kernel
theorem dX0_hasBout_12 : decode cX0_hasBout 12 = .ok (.iconst 1, 1) := by decide +kernel
theorem dX0_hasBout_13 : decode cX0_hasBout 13 = .ok (.goto 4, 3) := by decide +kernel
theorem dX0_hasBout_16 : decode cX0_hasBout 16 = .ok (.iconst 0, 1) := by decide +kernel
theorem dX0_hasBout_17 : decode cX0_hasBout 17 = .ok (.ireturn, 1) := by decide +kernel
theorem dX0_of_0 : decode cX0_of 0 = .ok (.aload_n 0, 1) := by decide +kernel
theorem dX0_of_1 : decode cX0_of 1 = .ok (.iload_n 1, 1) := by decide +kernel
theorem dX0_of_2 : decode cX0_of 2 = .ok (.iload_n 2, 1) := by decide +kernel
theorem dX0_of_3 : decode cX0_of 3 = .ok (.invokevirtual 71, 3) := by decide +kernel
theorem dX0_of_6 : decode cX0_of 6 = .ok (.ifCond .eq 17, 3) := by decide +kernel
theorem dX0_of_9 : decode cX0_of 9 = .ok (.aload_n 0, 1) := by decide +kernel
theorem dX0_of_10 : decode cX0_of 10 = .ok (.getfield 22, 3) := by decide +kernel
theorem dX0_of_13 : decode cX0_of 13 = .ok (.iload_n 1, 1) := by decide +kernel
theorem dX0_of_14 : decode cX0_of 14 = .ok (.bipush 12, 2) := by decide +kernel
theorem dX0_of_16 : decode cX0_of 16 = .ok (.imul, 1) := by decide +kernel
theorem dX0_of_17 : decode cX0_of 17 = .ok (.iload_n 2, 1) := by decide +kernel
theorem dX0_of_18 : decode cX0_of 18 = .ok (.iadd, 1) := by decide +kernel
theorem dX0_of_19 : decode cX0_of 19 = .ok (.iaload, 1) := by decide +kernel
theorem dX0_of_20 : decode cX0_of 20 = .ok (.goto 4, 3) := by decide +kernel
theorem dX0_of_23 : decode cX0_of 23 = .ok (.iconst 0, 1) := by decide +kernel
theorem dX0_of_24 : decode cX0_of 24 = .ok (.ireturn, 1) := by decide +kernel
theorem dX0_set_0 : decode cX0_set 0 = .ok (.aload_n 0, 1) := by decide +kernel
theorem dX0_set_1 : decode cX0_set 1 = .ok (.iload_n 1, 1) := by decide +kernel
theorem dX0_set_2 : decode cX0_set 2 = .ok (.iload_n 2, 1) := by decide +kernel
theorem dX0_set_3 : decode cX0_set 3 = .ok (.invokevirtual 71, 3) := by decide +kernel
theorem dX0_set_6 : decode cX0_set 6 = .ok (.ifCond .eq 15, 3) := by decide +kernel
theorem dX0_set_9 : decode cX0_set 9 = .ok (.aload_n 0, 1) := by decide +kernel
theorem dX0_set_10 : decode cX0_set 10 = .ok (.getfield 22, 3) := by decide +kernel
theorem dX0_set_13 : decode cX0_set 13 = .ok (.iload_n 1, 1) := by decide +kernel
theorem dX0_set_14 : decode cX0_set 14 = .ok (.bipush 12, 2) := by decide +kernel
theorem dX0_set_16 : decode cX0_set 16 = .ok (.imul, 1) := by decide +kernel
theorem dX0_set_17 : decode cX0_set 17 = .ok (.iload_n 2, 1) := by decide +kernel
theorem dX0_set_18 : decode cX0_set 18 = .ok (.iadd, 1) := by decide +kernel
theorem dX0_set_19 : decode cX0_set 19 = .ok (.iload_n 3, 1) := by decide +kernel
theorem dX0_set_20 : decode cX0_set 20 = .ok (.iastore, 1) := by decide +kernel
theorem dX0_set_21 : decode cX0_set 21 = .ok (.return_, 1) := by decide +kernel
theorem dX0_hasCount_0 : decode cX0_hasCount 0 = .ok (.iload_n 1, 1) := by decide +kernel
theorem dX0_hasCount_1 : decode cX0_hasCount 1 = .ok (.ifCond .lt 25, 3) := by decide +kernel
theorem dX0_hasCount_4 : decode cX0_hasCount 4 = .ok (.iload_n 1, 1) := by decide +kernel
theorem dX0_hasCount_5 : decode cX0_hasCount 5 = .ok (.bipush 10, 2) := by decide +kernel
theorem dX0_hasCount_7 : decode cX0_hasCount 7 = .ok (.if_icmp .ge 19, 3) := by decide +kernel
theorem dX0_hasCount_10 : decode cX0_hasCount 10 = .ok (.iload_n 2, 1) := by decide +kernel
theorem dX0_hasCount_11 : decode cX0_hasCount 11 = .ok (.ifCond .lt 15, 3) := by decide +kernel
theorem dX0_hasCount_14 : decode cX0_hasCount 14 = .ok (.iload_n 2, 1) := by decide +kernel
theorem dX0_hasCount_15 : decode cX0_hasCount 15 = .ok (.aload_n 0, 1) := by decide +kernel
theorem dX0_hasCount_16 : decode cX0_hasCount 16 = .ok (.getfield 9, 3) := by decide +kernel
theorem dX0_hasCount_19 : decode cX0_hasCount 19 = .ok (.if_icmp .ge 7, 3) := by decide +kernel
theorem dX0_hasCount_22 : decode cX0_hasCount 22 = .ok (.iconst 1, 1) := by decide +kernel
theorem dX0_hasCount_23 : decode cX0_hasCount 23 = .ok (.goto 4, 3) := by decide +kernel
theorem dX0_hasCount_26 : decode cX0_hasCount 26 = .ok (.iconst 0, 1) := by decide +kernel
theorem dX0_hasCount_27 : decode cX0_hasCount 27 = .ok (.ireturn, 1) := by decide +kernel
theorem dX0_add_0 : decode cX0_add 0 = .ok (.aload_n 0, 1) := by decide +kernel
theorem dX0_add_1 : decode cX0_add 1 = .ok (.iload_n 1, 1) := by decide +kernel
theorem dX0_add_2 : decode cX0_add 2 = .ok (.iload_n 2, 1) := by decide +kernel
theorem dX0_add_3 : decode cX0_add 3 = .ok (.aload_n 0, 1) := by decide +kernel
theorem dX0_add_4 : decode cX0_add 4 = .ok (.iload_n 1, 1) := by decide +kernel
theorem dX0_add_5 : decode cX0_add 5 = .ok (.iload_n 2, 1) := by decide +kernel
theorem dX0_add_6 : decode cX0_add 6 = .ok (.invokevirtual 75, 3) := by decide +kernel
theorem dX0_add_9 : decode cX0_add 9 = .ok (.iload_n 3, 1) := by decide +kernel
theorem dX0_add_10 : decode cX0_add 10 = .ok (.iadd, 1) := by decide +kernel
theorem dX0_add_11 : decode cX0_add 11 = .ok (.invokevirtual 61, 3) := by decide +kernel
theorem dX0_add_14 : decode cX0_add 14 = .ok (.return_, 1) := by decide +kernel
theorem dX0_meetings_0 : decode cX0_meetings 0 = .ok (.aload_n 0, 1) := by decide +kernel
theorem dX0_meetings_1 : decode cX0_meetings 1 = .ok (.iload_n 1, 1) := by decide +kernel
theorem dX0_meetings_2 : decode cX0_meetings 2 = .ok (.invokevirtual 78, 3) := by decide +kernel
theorem dX0_meetings_5 : decode cX0_meetings 5 = .ok (.ifCond .eq 25, 3) := by decide +kernel
theorem dX0_meetings_8 : decode cX0_meetings 8 = .ok (.aload_n 0, 1) := by decide +kernel
theorem dX0_meetings_9 : decode cX0_meetings 9 = .ok (.iload_n 2, 1) := by decide +kernel
theorem dX0_meetings_10 : decode cX0_meetings 10 = .ok (.invokevirtual 78, 3) := by decide +kernel
theorem dX0_meetings_13 : decode cX0_meetings 13 = .ok (.ifCond .eq 17, 3) := by decide +kernel
theorem dX0_meetings_16 : decode cX0_meetings 16 = .ok (.aload_n 0, 1) := by decide +kernel
theorem dX0_meetings_17 : decode cX0_meetings 17 = .ok (.getfield 25, 3) := by decide +kernel
theorem dX0_meetings_20 : decode cX0_meetings 20 = .ok (.iload_n 1, 1) := by decide +kernel
theorem dX0_meetings_21 : decode cX0_meetings 21 = .ok (.bipush 12, 2) := by decide +kernel
theorem dX0_meetings_23 : decode cX0_meetings 23 = .ok (.imul, 1) := by decide +kernel
theorem dX0_meetings_24 : decode cX0_meetings 24 = .ok (.iload_n 2, 1) := by decide +kernel
theorem dX0_meetings_25 : decode cX0_meetings 25 = .ok (.iadd, 1) := by decide +kernel
theorem dX0_meetings_26 : decode cX0_meetings 26 = .ok (.iaload, 1) := by decide +kernel
theorem dX0_meetings_27 : decode cX0_meetings 27 = .ok (.goto 4, 3) := by decide +kernel
theorem dX0_meetings_30 : decode cX0_meetings 30 = .ok (.iconst 0, 1) := by decide +kernel
theorem dX0_meetings_31 : decode cX0_meetings 31 = .ok (.ireturn, 1) := by decide +kernel
theorem dX0_addMeeting_0 : decode cX0_addMeeting 0 = .ok (.aload_n 0, 1) := by decide +kernel
theorem dX0_addMeeting_1 : decode cX0_addMeeting 1 = .ok (.iload_n 1, 1) := by decide +kernel
theorem dX0_addMeeting_2 : decode cX0_addMeeting 2 = .ok (.invokevirtual 78, 3) := by decide +kernel
theorem dX0_addMeeting_5 : decode cX0_addMeeting 5 = .ok (.ifCond .eq 41, 3) := by decide +kernel
theorem dX0_addMeeting_8 : decode cX0_addMeeting 8 = .ok (.aload_n 0, 1) := by decide +kernel
theorem dX0_addMeeting_9 : decode cX0_addMeeting 9 = .ok (.iload_n 2, 1) := by decide +kernel
theorem dX0_addMeeting_10 : decode cX0_addMeeting 10 = .ok (.invokevirtual 78, 3) := by decide +kernel
theorem dX0_addMeeting_13 : decode cX0_addMeeting 13 = .ok (.ifCond .eq 33, 3) := by decide +kernel
theorem dX0_addMeeting_16 : decode cX0_addMeeting 16 = .ok (.aload_n 0, 1) := by decide +kernel
theorem dX0_addMeeting_17 : decode cX0_addMeeting 17 = .ok (.getfield 25, 3) := by decide +kernel
theorem dX0_addMeeting_20 : decode cX0_addMeeting 20 = .ok (.iload_n 1, 1) := by decide +kernel
theorem dX0_addMeeting_21 : decode cX0_addMeeting 21 = .ok (.bipush 12, 2) := by decide +kernel
theorem dX0_addMeeting_23 : decode cX0_addMeeting 23 = .ok (.imul, 1) := by decide +kernel
theorem dX0_addMeeting_24 : decode cX0_addMeeting 24 = .ok (.iload_n 2, 1) := by decide +kernel
theorem dX0_addMeeting_25 : decode cX0_addMeeting 25 = .ok (.iadd, 1) := by decide +kernel
theorem dX0_addMeeting_26 : decode cX0_addMeeting 26 = .ok (.dup2, 1) := by decide +kernel
theorem dX0_addMeeting_27 : decode cX0_addMeeting 27 = .ok (.iaload, 1) := by decide +kernel
theorem dX0_addMeeting_28 : decode cX0_addMeeting 28 = .ok (.iconst 1, 1) := by decide +kernel
theorem dX0_addMeeting_29 : decode cX0_addMeeting 29 = .ok (.iadd, 1) := by decide +kernel
theorem dX0_addMeeting_30 : decode cX0_addMeeting 30 = .ok (.iastore, 1) := by decide +kernel
theorem dX0_addMeeting_31 : decode cX0_addMeeting 31 = .ok (.aload_n 0, 1) := by decide +kernel
theorem dX0_addMeeting_32 : decode cX0_addMeeting 32 = .ok (.getfield 25, 3) := by decide +kernel
theorem dX0_addMeeting_35 : decode cX0_addMeeting 35 = .ok (.iload_n 2, 1) := by decide +kernel
theorem dX0_addMeeting_36 : decode cX0_addMeeting 36 = .ok (.bipush 12, 2) := by decide +kernel
theorem dX0_addMeeting_38 : decode cX0_addMeeting 38 = .ok (.imul, 1) := by decide +kernel
theorem dX0_addMeeting_39 : decode cX0_addMeeting 39 = .ok (.iload_n 1, 1) := by decide +kernel
theorem dX0_addMeeting_40 : decode cX0_addMeeting 40 = .ok (.iadd, 1) := by decide +kernel
theorem dX0_addMeeting_41 : decode cX0_addMeeting 41 = .ok (.dup2, 1) := by decide +kernel
theorem dX0_addMeeting_42 : decode cX0_addMeeting 42 = .ok (.iaload, 1) := by decide +kernel
theorem dX0_addMeeting_43 : decode cX0_addMeeting 43 = .ok (.iconst 1, 1) := by decide +kernel
theorem dX0_addMeeting_44 : decode cX0_addMeeting 44 = .ok (.iadd, 1) := by decide +kernel
theorem dX0_addMeeting_45 : decode cX0_addMeeting 45 = .ok (.iastore, 1) := by decide +kernel
theorem dX0_addMeeting_46 : decode cX0_addMeeting 46 = .ok (.return_, 1) := by decide +kernel
theorem dX0_redIn_0 : decode cX0_redIn 0 = .ok (.aload_n 0, 1) := by decide +kernel
theorem dX0_redIn_1 : decode cX0_redIn 1 = .ok (.iload_n 1, 1) := by decide +kernel
theorem dX0_redIn_2 : decode cX0_redIn 2 = .ok (.invokevirtual 82, 3) := by decide +kernel
theorem dX0_redIn_5 : decode cX0_redIn 5 = .ok (.ifCond .eq 12, 3) := by decide +kernel
theorem dX0_redIn_8 : decode cX0_redIn 8 = .ok (.aload_n 0, 1) := by decide +kernel
theorem dX0_redIn_9 : decode cX0_redIn 9 = .ok (.getfield 31, 3) := by decide +kernel
theorem dX0_redIn_12 : decode cX0_redIn 12 = .ok (.iload_n 1, 1) := by decide +kernel
theorem dX0_redIn_13 : decode cX0_redIn 13 = .ok (.iaload, 1) := by decide +kernel
theorem dX0_redIn_14 : decode cX0_redIn 14 = .ok (.goto 4, 3) := by decide +kernel
theorem dX0_redIn_17 : decode cX0_redIn 17 = .ok (.iconst (-1), 1) := by decide +kernel
theorem dX0_redIn_18 : decode cX0_redIn 18 = .ok (.ireturn, 1) := by decide +kernel
theorem dX0_blueIn_0 : decode cX0_blueIn 0 = .ok (.aload_n 0, 1) := by decide +kernel
theorem dX0_blueIn_1 : decode cX0_blueIn 1 = .ok (.iload_n 1, 1) := by decide +kernel
theorem dX0_blueIn_2 : decode cX0_blueIn 2 = .ok (.invokevirtual 82, 3) := by decide +kernel
theorem dX0_blueIn_5 : decode cX0_blueIn 5 = .ok (.ifCond .eq 12, 3) := by decide +kernel
theorem dX0_blueIn_8 : decode cX0_blueIn 8 = .ok (.aload_n 0, 1) := by decide +kernel
theorem dX0_blueIn_9 : decode cX0_blueIn 9 = .ok (.getfield 34, 3) := by decide +kernel
theorem dX0_blueIn_12 : decode cX0_blueIn 12 = .ok (.iload_n 1, 1) := by decide +kernel
theorem dX0_blueIn_13 : decode cX0_blueIn 13 = .ok (.iaload, 1) := by decide +kernel
theorem dX0_blueIn_14 : decode cX0_blueIn 14 = .ok (.goto 4, 3) := by decide +kernel
theorem dX0_blueIn_17 : decode cX0_blueIn 17 = .ok (.iconst (-1), 1) := by decide +kernel
theorem dX0_blueIn_18 : decode cX0_blueIn 18 = .ok (.ireturn, 1) := by decide +kernel
theorem dX0_outcomeIn_0 : decode cX0_outcomeIn 0 = .ok (.aload_n 0, 1) := by decide +kernel
theorem dX0_outcomeIn_1 : decode cX0_outcomeIn 1 = .ok (.iload_n 1, 1) := by decide +kernel
theorem dX0_outcomeIn_2 : decode cX0_outcomeIn 2 = .ok (.invokevirtual 82, 3) := by decide +kernel
theorem dX0_outcomeIn_5 : decode cX0_outcomeIn 5 = .ok (.ifCond .eq 12, 3) := by decide +kernel
theorem dX0_outcomeIn_8 : decode cX0_outcomeIn 8 = .ok (.aload_n 0, 1) := by decide +kernel
theorem dX0_outcomeIn_9 : decode cX0_outcomeIn 9 = .ok (.getfield 37, 3) := by decide +kernel
theorem dX0_outcomeIn_12 : decode cX0_outcomeIn 12 = .ok (.iload_n 1, 1) := by decide +kernel
theorem dX0_outcomeIn_13 : decode cX0_outcomeIn 13 = .ok (.iaload, 1) := by decide +kernel
theorem dX0_outcomeIn_14 : decode cX0_outcomeIn 14 = .ok (.goto 4, 3) := by decide +kernel
theorem dX0_outcomeIn_17 : decode cX0_outcomeIn 17 = .ok (.iconst (-1), 1) := by decide +kernel
theorem dX0_outcomeIn_18 : decode cX0_outcomeIn 18 = .ok (.ireturn, 1) := by decide +kernel
theorem dX0_countIn_0 : decode cX0_countIn 0 = .ok (.iconst 0, 1) := by decide +kernel
theorem dX0_countIn_1 : decode cX0_countIn 1 = .ok (.istore_n 1, 1) := by decide +kernel
theorem dX0_countIn_2 : decode cX0_countIn 2 = .ok (.iconst 0, 1) := by decide +kernel
theorem dX0_countIn_3 : decode cX0_countIn 3 = .ok (.istore_n 2, 1) := by decide +kernel
theorem dX0_countIn_4 : decode cX0_countIn 4 = .ok (.iload_n 2, 1) := by decide +kernel
theorem dX0_countIn_5 : decode cX0_countIn 5 = .ok (.aload_n 0, 1) := by decide +kernel
theorem dX0_countIn_6 : decode cX0_countIn 6 = .ok (.getfield 9, 3) := by decide +kernel
theorem dX0_countIn_9 : decode cX0_countIn 9 = .ok (.if_icmp .ge 19, 3) := by decide +kernel
theorem dX0_countIn_12 : decode cX0_countIn 12 = .ok (.iload_n 1, 1) := by decide +kernel
theorem dX0_countIn_13 : decode cX0_countIn 13 = .ok (.aload_n 0, 1) := by decide +kernel
theorem dX0_countIn_14 : decode cX0_countIn 14 = .ok (.bipush 8, 2) := by decide +kernel
theorem dX0_countIn_16 : decode cX0_countIn 16 = .ok (.iload_n 2, 1) := by decide +kernel
theorem dX0_countIn_17 : decode cX0_countIn 17 = .ok (.invokevirtual 75, 3) := by decide +kernel
theorem dX0_countIn_20 : decode cX0_countIn 20 = .ok (.iadd, 1) := by decide +kernel
theorem dX0_countIn_21 : decode cX0_countIn 21 = .ok (.istore_n 1, 1) := by decide +kernel
theorem dX0_countIn_22 : decode cX0_countIn 22 = .ok (.iinc 2 1, 3) := by decide +kernel
theorem dX0_countIn_25 : decode cX0_countIn 25 = .ok (.goto (-21), 3) := by decide +kernel
theorem dX0_countIn_28 : decode cX0_countIn 28 = .ok (.iload_n 1, 1) := by decide +kernel
theorem dX0_countIn_29 : decode cX0_countIn 29 = .ok (.ireturn, 1) := by decide +kernel
theorem dX0_countOpen_0 : decode cX0_countOpen 0 = .ok (.iconst 0, 1) := by decide +kernel
theorem dX0_countOpen_1 : decode cX0_countOpen 1 = .ok (.istore_n 1, 1) := by decide +kernel
theorem dX0_countOpen_2 : decode cX0_countOpen 2 = .ok (.iconst 0, 1) := by decide +kernel
theorem dX0_countOpen_3 : decode cX0_countOpen 3 = .ok (.istore_n 2, 1) := by decide +kernel
theorem dX0_countOpen_4 : decode cX0_countOpen 4 = .ok (.iload_n 2, 1) := by decide +kernel
theorem dX0_countOpen_5 : decode cX0_countOpen 5 = .ok (.aload_n 0, 1) := by decide +kernel
theorem dX0_countOpen_6 : decode cX0_countOpen 6 = .ok (.getfield 28, 3) := by decide +kernel
theorem dX0_countOpen_9 : decode cX0_countOpen 9 = .ok (.if_icmp .ge 26, 3) := by decide +kernel
theorem dX0_countOpen_12 : decode cX0_countOpen 12 = .ok (.iload_n 1, 1) := by decide +kernel
theorem dX0_countOpen_13 : decode cX0_countOpen 13 = .ok (.aload_n 0, 1) := by decide +kernel
theorem dX0_countOpen_14 : decode cX0_countOpen 14 = .ok (.iload_n 2, 1) := by decide +kernel
theorem dX0_countOpen_15 : decode cX0_countOpen 15 = .ok (.invokevirtual 85, 3) := by decide +kernel
theorem dX0_countOpen_18 : decode cX0_countOpen 18 = .ok (.iconst (-1), 1) := by decide +kernel
theorem dX0_countOpen_19 : decode cX0_countOpen 19 = .ok (.if_icmp .ne 7, 3) := by decide +kernel
theorem dX0_countOpen_22 : decode cX0_countOpen 22 = .ok (.iconst 1, 1) := by decide +kernel
theorem dX0_countOpen_23 : decode cX0_countOpen 23 = .ok (.goto 4, 3) := by decide +kernel
theorem dX0_countOpen_26 : decode cX0_countOpen 26 = .ok (.iconst 0, 1) := by decide +kernel
theorem dX0_countOpen_27 : decode cX0_countOpen 27 = .ok (.iadd, 1) := by decide +kernel
theorem dX0_countOpen_28 : decode cX0_countOpen 28 = .ok (.istore_n 1, 1) := by decide +kernel
theorem dX0_countOpen_29 : decode cX0_countOpen 29 = .ok (.iinc 2 1, 3) := by decide +kernel
theorem dX0_countOpen_32 : decode cX0_countOpen 32 = .ok (.goto (-28), 3) := by decide +kernel
theorem dX0_countOpen_35 : decode cX0_countOpen 35 = .ok (.iload_n 1, 1) := by decide +kernel
theorem dX0_countOpen_36 : decode cX0_countOpen 36 = .ok (.ireturn, 1) := by decide +kernel
theorem dX0_canPair_0 : decode cX0_canPair 0 = .ok (.aload_n 0, 1) := by decide +kernel
theorem dX0_canPair_1 : decode cX0_canPair 1 = .ok (.invokevirtual 89, 3) := by decide +kernel
theorem dX0_canPair_4 : decode cX0_canPair 4 = .ok (.ifCond .ne 24, 3) := by decide +kernel
theorem dX0_canPair_7 : decode cX0_canPair 7 = .ok (.aload_n 0, 1) := by decide +kernel
theorem dX0_canPair_8 : decode cX0_canPair 8 = .ok (.getfield 15, 3) := by decide +kernel
theorem dX0_canPair_11 : decode cX0_canPair 11 = .ok (.bipush 20, 2) := by decide +kernel
theorem dX0_canPair_13 : decode cX0_canPair 13 = .ok (.if_icmp .ge 15, 3) := by decide +kernel
theorem dX0_canPair_16 : decode cX0_canPair 16 = .ok (.aload_n 0, 1) := by decide +kernel
theorem dX0_canPair_17 : decode cX0_canPair 17 = .ok (.invokevirtual 93, 3) := by decide +kernel
theorem dX0_canPair_20 : decode cX0_canPair 20 = .ok (.iconst 2, 1) := by decide +kernel
theorem dX0_canPair_21 : decode cX0_canPair 21 = .ok (.if_icmp .lt 7, 3) := by decide +kernel
theorem dX0_canPair_24 : decode cX0_canPair 24 = .ok (.iconst 1, 1) := by decide +kernel
theorem dX0_canPair_25 : decode cX0_canPair 25 = .ok (.goto 4, 3) := by decide +kernel
theorem dX0_canPair_28 : decode cX0_canPair 28 = .ok (.iconst 0, 1) := by decide +kernel
theorem dX0_canPair_29 : decode cX0_canPair 29 = .ok (.ireturn, 1) := by decide +kernel
theorem dX0_rivalOf_0 : decode cX0_rivalOf 0 = .ok (.iconst 0, 1) := by decide +kernel
theorem dX0_rivalOf_1 : decode cX0_rivalOf 1 = .ok (.istore_n 2, 1) := by decide +kernel
theorem dX0_rivalOf_2 : decode cX0_rivalOf 2 = .ok (.iload_n 2, 1) := by decide +kernel
theorem dX0_rivalOf_3 : decode cX0_rivalOf 3 = .ok (.aload_n 0, 1) := by decide +kernel
theorem dX0_rivalOf_4 : decode cX0_rivalOf 4 = .ok (.getfield 28, 3) := by decide +kernel
theorem dX0_rivalOf_7 : decode cX0_rivalOf 7 = .ok (.if_icmp .ge 39, 3) := by decide +kernel
theorem dX0_rivalOf_10 : decode cX0_rivalOf 10 = .ok (.aload_n 0, 1) := by decide +kernel
theorem dX0_rivalOf_11 : decode cX0_rivalOf 11 = .ok (.iload_n 2, 1) := by decide +kernel
theorem dX0_rivalOf_12 : decode cX0_rivalOf 12 = .ok (.invokevirtual 96, 3) := by decide +kernel
theorem dX0_rivalOf_15 : decode cX0_rivalOf 15 = .ok (.iload_n 1, 1) := by decide +kernel
theorem dX0_rivalOf_16 : decode cX0_rivalOf 16 = .ok (.if_icmp .ne 9, 3) := by decide +kernel
theorem dX0_rivalOf_19 : decode cX0_rivalOf 19 = .ok (.aload_n 0, 1) := by decide +kernel
theorem dX0_rivalOf_20 : decode cX0_rivalOf 20 = .ok (.iload_n 2, 1) := by decide +kernel
theorem dX0_rivalOf_21 : decode cX0_rivalOf 21 = .ok (.invokevirtual 99, 3) := by decide +kernel
theorem dX0_rivalOf_24 : decode cX0_rivalOf 24 = .ok (.ireturn, 1) := by decide +kernel
theorem dX0_rivalOf_25 : decode cX0_rivalOf 25 = .ok (.aload_n 0, 1) := by decide +kernel
theorem dX0_rivalOf_26 : decode cX0_rivalOf 26 = .ok (.iload_n 2, 1) := by decide +kernel
theorem dX0_rivalOf_27 : decode cX0_rivalOf 27 = .ok (.invokevirtual 99, 3) := by decide +kernel
theorem dX0_rivalOf_30 : decode cX0_rivalOf 30 = .ok (.iload_n 1, 1) := by decide +kernel
theorem dX0_rivalOf_31 : decode cX0_rivalOf 31 = .ok (.if_icmp .ne 9, 3) := by decide +kernel
theorem dX0_rivalOf_34 : decode cX0_rivalOf 34 = .ok (.aload_n 0, 1) := by decide +kernel
theorem dX0_rivalOf_35 : decode cX0_rivalOf 35 = .ok (.iload_n 2, 1) := by decide +kernel
theorem dX0_rivalOf_36 : decode cX0_rivalOf 36 = .ok (.invokevirtual 96, 3) := by decide +kernel
theorem dX0_rivalOf_39 : decode cX0_rivalOf 39 = .ok (.ireturn, 1) := by decide +kernel
theorem dX0_rivalOf_40 : decode cX0_rivalOf 40 = .ok (.iinc 2 1, 3) := by decide +kernel
theorem dX0_rivalOf_43 : decode cX0_rivalOf 43 = .ok (.goto (-41), 3) := by decide +kernel
theorem dX0_rivalOf_46 : decode cX0_rivalOf 46 = .ok (.iconst (-1), 1) := by decide +kernel
theorem dX0_rivalOf_47 : decode cX0_rivalOf 47 = .ok (.ireturn, 1) := by decide +kernel
theorem dX0_pointsOfRivals_0 : decode cX0_pointsOfRivals 0 = .ok (.iconst 0, 1) := by decide +kernel
theorem dX0_pointsOfRivals_1 : decode cX0_pointsOfRivals 1 = .ok (.istore_n 2, 1) := by decide +kernel
theorem dX0_pointsOfRivals_2 : decode cX0_pointsOfRivals 2 = .ok (.iconst 0, 1) := by decide +kernel
theorem dX0_pointsOfRivals_3 : decode cX0_pointsOfRivals 3 = .ok (.istore_n 3, 1) := by decide +kernel
theorem dX0_pointsOfRivals_4 : decode cX0_pointsOfRivals 4 = .ok (.iload_n 3, 1) := by decide +kernel
theorem dX0_pointsOfRivals_5 : decode cX0_pointsOfRivals 5 = .ok (.aload_n 0, 1) := by decide +kernel
theorem dX0_pointsOfRivals_6 : decode cX0_pointsOfRivals 6 = .ok (.getfield 9, 3) := by decide +kernel
theorem dX0_pointsOfRivals_9 : decode cX0_pointsOfRivals 9 = .ok (.if_icmp .ge 25, 3) := by decide +kernel
theorem dX0_pointsOfRivals_12 : decode cX0_pointsOfRivals 12 = .ok (.iload_n 2, 1) := by decide +kernel
theorem dX0_pointsOfRivals_13 : decode cX0_pointsOfRivals 13 = .ok (.aload_n 0, 1) := by decide +kernel
theorem dX0_pointsOfRivals_14 : decode cX0_pointsOfRivals 14 = .ok (.iload_n 1, 1) := by decide +kernel
theorem dX0_pointsOfRivals_15 : decode cX0_pointsOfRivals 15 = .ok (.iload_n 3, 1) := by decide +kernel
theorem dX0_pointsOfRivals_16 : decode cX0_pointsOfRivals 16 = .ok (.invokevirtual 102, 3) := by decide +kernel
theorem dX0_pointsOfRivals_19 : decode cX0_pointsOfRivals 19 = .ok (.aload_n 0, 1) := by decide +kernel
theorem dX0_pointsOfRivals_20 : decode cX0_pointsOfRivals 20 = .ok (.iconst 1, 1) := by decide +kernel
theorem dX0_pointsOfRivals_21 : decode cX0_pointsOfRivals 21 = .ok (.iload_n 3, 1) := by decide +kernel
theorem dX0_pointsOfRivals_22 : decode cX0_pointsOfRivals 22 = .ok (.invokevirtual 75, 3) := by decide +kernel
theorem dX0_pointsOfRivals_25 : decode cX0_pointsOfRivals 25 = .ok (.imul, 1) := by decide +kernel
theorem dX0_pointsOfRivals_26 : decode cX0_pointsOfRivals 26 = .ok (.iadd, 1) := by decide +kernel
theorem dX0_pointsOfRivals_27 : decode cX0_pointsOfRivals 27 = .ok (.istore_n 2, 1) := by decide +kernel
theorem dX0_pointsOfRivals_28 : decode cX0_pointsOfRivals 28 = .ok (.iinc 3 1, 3) := by decide +kernel
theorem dX0_pointsOfRivals_31 : decode cX0_pointsOfRivals 31 = .ok (.goto (-27), 3) := by decide +kernel
theorem dX0_pointsOfRivals_34 : decode cX0_pointsOfRivals 34 = .ok (.iload_n 2, 1) := by decide +kernel
theorem dX0_pointsOfRivals_35 : decode cX0_pointsOfRivals 35 = .ok (.ireturn, 1) := by decide +kernel
theorem dX0_putInOrder_0 : decode cX0_putInOrder 0 = .ok (.iconst 0, 1) := by decide +kernel
theorem dX0_putInOrder_1 : decode cX0_putInOrder 1 = .ok (.istore_n 1, 1) := by decide +kernel
theorem dX0_putInOrder_2 : decode cX0_putInOrder 2 = .ok (.iload_n 1, 1) := by decide +kernel
theorem dX0_putInOrder_3 : decode cX0_putInOrder 3 = .ok (.aload_n 0, 1) := by decide +kernel
theorem dX0_putInOrder_4 : decode cX0_putInOrder 4 = .ok (.getfield 9, 3) := by decide +kernel
theorem dX0_putInOrder_7 : decode cX0_putInOrder 7 = .ok (.if_icmp .ge 20, 3) := by decide +kernel
theorem dX0_putInOrder_10 : decode cX0_putInOrder 10 = .ok (.aload_n 0, 1) := by decide +kernel
theorem dX0_putInOrder_11 : decode cX0_putInOrder 11 = .ok (.getfield 46, 3) := by decide +kernel
theorem dX0_putInOrder_14 : decode cX0_putInOrder 14 = .ok (.iload_n 1, 1) := by decide +kernel
theorem dX0_putInOrder_15 : decode cX0_putInOrder 15 = .ok (.aload_n 0, 1) := by decide +kernel
theorem dX0_putInOrder_16 : decode cX0_putInOrder 16 = .ok (.iload_n 1, 1) := by decide +kernel
theorem dX0_putInOrder_17 : decode cX0_putInOrder 17 = .ok (.invokevirtual 105, 3) := by decide +kernel
theorem dX0_putInOrder_20 : decode cX0_putInOrder 20 = .ok (.iastore, 1) := by decide +kernel
theorem dX0_putInOrder_21 : decode cX0_putInOrder 21 = .ok (.iinc 1 1, 3) := by decide +kernel
theorem dX0_putInOrder_24 : decode cX0_putInOrder 24 = .ok (.goto (-22), 3) := by decide +kernel
theorem dX0_putInOrder_27 : decode cX0_putInOrder 27 = .ok (.iconst 0, 1) := by decide +kernel
theorem dX0_putInOrder_28 : decode cX0_putInOrder 28 = .ok (.istore_n 1, 1) := by decide +kernel
theorem dX0_putInOrder_29 : decode cX0_putInOrder 29 = .ok (.iload_n 1, 1) := by decide +kernel
theorem dX0_putInOrder_30 : decode cX0_putInOrder 30 = .ok (.aload_n 0, 1) := by decide +kernel
theorem dX0_putInOrder_31 : decode cX0_putInOrder 31 = .ok (.getfield 9, 3) := by decide +kernel
theorem dX0_putInOrder_34 : decode cX0_putInOrder 34 = .ok (.if_icmp .ge 58, 3) := by decide +kernel
theorem dX0_putInOrder_37 : decode cX0_putInOrder 37 = .ok (.iload_n 1, 1) := by decide +kernel
theorem dX0_putInOrder_38 : decode cX0_putInOrder 38 = .ok (.istore_n 2, 1) := by decide +kernel
theorem dX0_putInOrder_39 : decode cX0_putInOrder 39 = .ok (.iload_n 2, 1) := by decide +kernel
theorem dX0_putInOrder_40 : decode cX0_putInOrder 40 = .ok (.ifCond .le 39, 3) := by decide +kernel
theorem dX0_putInOrder_43 : decode cX0_putInOrder 43 = .ok (.aload_n 0, 1) := by decide +kernel
theorem dX0_putInOrder_44 : decode cX0_putInOrder 44 = .ok (.iload_n 1, 1) := by decide +kernel
theorem dX0_putInOrder_45 : decode cX0_putInOrder 45 = .ok (.aload_n 0, 1) := by decide +kernel
theorem dX0_putInOrder_46 : decode cX0_putInOrder 46 = .ok (.getfield 43, 3) := by decide +kernel
theorem dX0_putInOrder_49 : decode cX0_putInOrder 49 = .ok (.iload_n 2, 1) := by decide +kernel
theorem dX0_putInOrder_50 : decode cX0_putInOrder 50 = .ok (.iconst 1, 1) := by decide +kernel
theorem dX0_putInOrder_51 : decode cX0_putInOrder 51 = .ok (.isub, 1) := by decide +kernel
theorem dX0_putInOrder_52 : decode cX0_putInOrder 52 = .ok (.iaload, 1) := by decide +kernel
theorem dX0_putInOrder_53 : decode cX0_putInOrder 53 = .ok (.invokevirtual 108, 3) := by decide +kernel
theorem dX0_putInOrder_56 : decode cX0_putInOrder 56 = .ok (.ifCond .eq 23, 3) := by decide +kernel
theorem dX0_putInOrder_59 : decode cX0_putInOrder 59 = .ok (.aload_n 0, 1) := by decide +kernel
theorem dX0_putInOrder_60 : decode cX0_putInOrder 60 = .ok (.getfield 43, 3) := by decide +kernel
theorem dX0_putInOrder_63 : decode cX0_putInOrder 63 = .ok (.iload_n 2, 1) := by decide +kernel
theorem dX0_putInOrder_64 : decode cX0_putInOrder 64 = .ok (.aload_n 0, 1) := by decide +kernel
theorem dX0_putInOrder_65 : decode cX0_putInOrder 65 = .ok (.getfield 43, 3) := by decide +kernel
theorem dX0_putInOrder_68 : decode cX0_putInOrder 68 = .ok (.iload_n 2, 1) := by decide +kernel
theorem dX0_putInOrder_69 : decode cX0_putInOrder 69 = .ok (.iconst 1, 1) := by decide +kernel
theorem dX0_putInOrder_70 : decode cX0_putInOrder 70 = .ok (.isub, 1) := by decide +kernel
theorem dX0_putInOrder_71 : decode cX0_putInOrder 71 = .ok (.iaload, 1) := by decide +kernel
theorem dX0_putInOrder_72 : decode cX0_putInOrder 72 = .ok (.iastore, 1) := by decide +kernel
theorem dX0_putInOrder_73 : decode cX0_putInOrder 73 = .ok (.iinc 2 (-1), 3) := by decide +kernel
theorem dX0_putInOrder_76 : decode cX0_putInOrder 76 = .ok (.goto (-37), 3) := by decide +kernel
theorem dX0_putInOrder_79 : decode cX0_putInOrder 79 = .ok (.aload_n 0, 1) := by decide +kernel
theorem dX0_putInOrder_80 : decode cX0_putInOrder 80 = .ok (.getfield 43, 3) := by decide +kernel
theorem dX0_putInOrder_83 : decode cX0_putInOrder 83 = .ok (.iload_n 2, 1) := by decide +kernel
theorem dX0_putInOrder_84 : decode cX0_putInOrder 84 = .ok (.iload_n 1, 1) := by decide +kernel
theorem dX0_putInOrder_85 : decode cX0_putInOrder 85 = .ok (.iastore, 1) := by decide +kernel
theorem dX0_putInOrder_86 : decode cX0_putInOrder 86 = .ok (.iinc 1 1, 3) := by decide +kernel
theorem dX0_putInOrder_89 : decode cX0_putInOrder 89 = .ok (.goto (-60), 3) := by decide +kernel
theorem dX0_putInOrder_92 : decode cX0_putInOrder 92 = .ok (.return_, 1) := by decide +kernel
theorem dX0_atPlace_0 : decode cX0_atPlace 0 = .ok (.aload_n 0, 1) := by decide +kernel
theorem dX0_atPlace_1 : decode cX0_atPlace 1 = .ok (.iload_n 1, 1) := by decide +kernel
theorem dX0_atPlace_2 : decode cX0_atPlace 2 = .ok (.invokevirtual 78, 3) := by decide +kernel
theorem dX0_atPlace_5 : decode cX0_atPlace 5 = .ok (.ifCond .eq 12, 3) := by decide +kernel
theorem dX0_atPlace_8 : decode cX0_atPlace 8 = .ok (.aload_n 0, 1) := by decide +kernel
theorem dX0_atPlace_9 : decode cX0_atPlace 9 = .ok (.getfield 43, 3) := by decide +kernel
theorem dX0_atPlace_12 : decode cX0_atPlace 12 = .ok (.iload_n 1, 1) := by decide +kernel
theorem dX0_atPlace_13 : decode cX0_atPlace 13 = .ok (.iaload, 1) := by decide +kernel
theorem dX0_atPlace_14 : decode cX0_atPlace 14 = .ok (.goto 4, 3) := by decide +kernel
theorem dX0_atPlace_17 : decode cX0_atPlace 17 = .ok (.iconst (-1), 1) := by decide +kernel
theorem dX0_atPlace_18 : decode cX0_atPlace 18 = .ok (.ireturn, 1) := by decide +kernel
theorem dX0_placeOf_0 : decode cX0_placeOf 0 = .ok (.iconst 0, 1) := by decide +kernel
theorem dX0_placeOf_1 : decode cX0_placeOf 1 = .ok (.istore_n 2, 1) := by decide +kernel
theorem dX0_placeOf_2 : decode cX0_placeOf 2 = .ok (.iload_n 2, 1) := by decide +kernel
theorem dX0_placeOf_3 : decode cX0_placeOf 3 = .ok (.aload_n 0, 1) := by decide +kernel
theorem dX0_placeOf_4 : decode cX0_placeOf 4 = .ok (.getfield 9, 3) := by decide +kernel
theorem dX0_placeOf_7 : decode cX0_placeOf 7 = .ok (.if_icmp .ge 19, 3) := by decide +kernel
theorem dX0_placeOf_10 : decode cX0_placeOf 10 = .ok (.aload_n 0, 1) := by decide +kernel
theorem dX0_placeOf_11 : decode cX0_placeOf 11 = .ok (.getfield 43, 3) := by decide +kernel
theorem dX0_placeOf_14 : decode cX0_placeOf 14 = .ok (.iload_n 2, 1) := by decide +kernel
theorem dX0_placeOf_15 : decode cX0_placeOf 15 = .ok (.iaload, 1) := by decide +kernel
theorem dX0_placeOf_16 : decode cX0_placeOf 16 = .ok (.iload_n 1, 1) := by decide +kernel
theorem dX0_placeOf_17 : decode cX0_placeOf 17 = .ok (.if_icmp .eq 9, 3) := by decide +kernel
theorem dX0_placeOf_20 : decode cX0_placeOf 20 = .ok (.iinc 2 1, 3) := by decide +kernel
theorem dX0_placeOf_23 : decode cX0_placeOf 23 = .ok (.goto (-21), 3) := by decide +kernel
theorem dX0_placeOf_26 : decode cX0_placeOf 26 = .ok (.iload_n 2, 1) := by decide +kernel
theorem dX0_placeOf_27 : decode cX0_placeOf 27 = .ok (.ireturn, 1) := by decide +kernel
theorem dX0_standsAhead_0 : decode cX0_standsAhead 0 = .ok (.aload_n 0, 1) := by decide +kernel
theorem dX0_standsAhead_1 : decode cX0_standsAhead 1 = .ok (.iconst 1, 1) := by decide +kernel
theorem dX0_standsAhead_2 : decode cX0_standsAhead 2 = .ok (.iload_n 1, 1) := by decide +kernel
theorem dX0_standsAhead_3 : decode cX0_standsAhead 3 = .ok (.invokevirtual 75, 3) := by decide +kernel
theorem dX0_standsAhead_6 : decode cX0_standsAhead 6 = .ok (.aload_n 0, 1) := by decide +kernel
theorem dX0_standsAhead_7 : decode cX0_standsAhead 7 = .ok (.iconst 1, 1) := by decide +kernel
theorem dX0_standsAhead_8 : decode cX0_standsAhead 8 = .ok (.iload_n 2, 1) := by decide +kernel
theorem dX0_standsAhead_9 : decode cX0_standsAhead 9 = .ok (.invokevirtual 75, 3) := by decide +kernel
theorem dX0_standsAhead_12 : decode cX0_standsAhead 12 = .ok (.if_icmp .eq 24, 3) := by decide +kernel
theorem dX0_standsAhead_15 : decode cX0_standsAhead 15 = .ok (.aload_n 0, 1) := by decide +kernel
theorem dX0_standsAhead_16 : decode cX0_standsAhead 16 = .ok (.iconst 1, 1) := by decide +kernel
theorem dX0_standsAhead_17 : decode cX0_standsAhead 17 = .ok (.iload_n 1, 1) := by decide +kernel
theorem dX0_standsAhead_18 : decode cX0_standsAhead 18 = .ok (.invokevirtual 75, 3) := by decide +kernel
theorem dX0_standsAhead_21 : decode cX0_standsAhead 21 = .ok (.aload_n 0, 1) := by decide +kernel
theorem dX0_standsAhead_22 : decode cX0_standsAhead 22 = .ok (.iconst 1, 1) := by decide +kernel
theorem dX0_standsAhead_23 : decode cX0_standsAhead 23 = .ok (.iload_n 2, 1) := by decide +kernel
theorem dX0_standsAhead_24 : decode cX0_standsAhead 24 = .ok (.invokevirtual 75, 3) := by decide +kernel
theorem dX0_standsAhead_27 : decode cX0_standsAhead 27 = .ok (.if_icmp .le 7, 3) := by decide +kernel
theorem dX0_standsAhead_30 : decode cX0_standsAhead 30 = .ok (.iconst 1, 1) := by decide +kernel
theorem dX0_standsAhead_31 : decode cX0_standsAhead 31 = .ok (.goto 4, 3) := by decide +kernel
theorem dX0_standsAhead_34 : decode cX0_standsAhead 34 = .ok (.iconst 0, 1) := by decide +kernel
theorem dX0_standsAhead_35 : decode cX0_standsAhead 35 = .ok (.ireturn, 1) := by decide +kernel
theorem dX0_standsAhead_36 : decode cX0_standsAhead 36 = .ok (.aload_n 0, 1) := by decide +kernel
theorem dX0_standsAhead_37 : decode cX0_standsAhead 37 = .ok (.getfield 46, 3) := by decide +kernel
theorem dX0_standsAhead_40 : decode cX0_standsAhead 40 = .ok (.iload_n 1, 1) := by decide +kernel
theorem dX0_standsAhead_41 : decode cX0_standsAhead 41 = .ok (.iaload, 1) := by decide +kernel
theorem dX0_standsAhead_42 : decode cX0_standsAhead 42 = .ok (.aload_n 0, 1) := by decide +kernel
theorem dX0_standsAhead_43 : decode cX0_standsAhead 43 = .ok (.getfield 46, 3) := by decide +kernel
theorem dX0_standsAhead_46 : decode cX0_standsAhead 46 = .ok (.iload_n 2, 1) := by decide +kernel
theorem dX0_standsAhead_47 : decode cX0_standsAhead 47 = .ok (.iaload, 1) := by decide +kernel
theorem dX0_standsAhead_48 : decode cX0_standsAhead 48 = .ok (.if_icmp .eq 24, 3) := by decide +kernel
theorem dX0_standsAhead_51 : decode cX0_standsAhead 51 = .ok (.aload_n 0, 1) := by decide +kernel
theorem dX0_standsAhead_52 : decode cX0_standsAhead 52 = .ok (.getfield 46, 3) := by decide +kernel
theorem dX0_standsAhead_55 : decode cX0_standsAhead 55 = .ok (.iload_n 1, 1) := by decide +kernel
theorem dX0_standsAhead_56 : decode cX0_standsAhead 56 = .ok (.iaload, 1) := by decide +kernel
theorem dX0_standsAhead_57 : decode cX0_standsAhead 57 = .ok (.aload_n 0, 1) := by decide +kernel
theorem dX0_standsAhead_58 : decode cX0_standsAhead 58 = .ok (.getfield 46, 3) := by decide +kernel
theorem dX0_standsAhead_61 : decode cX0_standsAhead 61 = .ok (.iload_n 2, 1) := by decide +kernel
theorem dX0_standsAhead_62 : decode cX0_standsAhead 62 = .ok (.iaload, 1) := by decide +kernel
theorem dX0_standsAhead_63 : decode cX0_standsAhead 63 = .ok (.if_icmp .le 7, 3) := by decide +kernel
theorem dX0_standsAhead_66 : decode cX0_standsAhead 66 = .ok (.iconst 1, 1) := by decide +kernel
theorem dX0_standsAhead_67 : decode cX0_standsAhead 67 = .ok (.goto 4, 3) := by decide +kernel
theorem dX0_standsAhead_70 : decode cX0_standsAhead 70 = .ok (.iconst 0, 1) := by decide +kernel
theorem dX0_standsAhead_71 : decode cX0_standsAhead 71 = .ok (.ireturn, 1) := by decide +kernel
theorem dX0_standsAhead_72 : decode cX0_standsAhead 72 = .ok (.aload_n 0, 1) := by decide +kernel
theorem dX0_standsAhead_73 : decode cX0_standsAhead 73 = .ok (.iconst 0, 1) := by decide +kernel
theorem dX0_standsAhead_74 : decode cX0_standsAhead 74 = .ok (.iload_n 1, 1) := by decide +kernel
theorem dX0_standsAhead_75 : decode cX0_standsAhead 75 = .ok (.invokevirtual 75, 3) := by decide +kernel
theorem dX0_standsAhead_78 : decode cX0_standsAhead 78 = .ok (.aload_n 0, 1) := by decide +kernel
theorem dX0_standsAhead_79 : decode cX0_standsAhead 79 = .ok (.iconst 0, 1) := by decide +kernel
theorem dX0_standsAhead_80 : decode cX0_standsAhead 80 = .ok (.iload_n 2, 1) := by decide +kernel
theorem dX0_standsAhead_81 : decode cX0_standsAhead 81 = .ok (.invokevirtual 75, 3) := by decide +kernel
theorem dX0_standsAhead_84 : decode cX0_standsAhead 84 = .ok (.if_icmp .eq 24, 3) := by decide +kernel
theorem dX0_standsAhead_87 : decode cX0_standsAhead 87 = .ok (.aload_n 0, 1) := by decide +kernel
theorem dX0_standsAhead_88 : decode cX0_standsAhead 88 = .ok (.iconst 0, 1) := by decide +kernel
theorem dX0_standsAhead_89 : decode cX0_standsAhead 89 = .ok (.iload_n 1, 1) := by decide +kernel
theorem dX0_standsAhead_90 : decode cX0_standsAhead 90 = .ok (.invokevirtual 75, 3) := by decide +kernel
theorem dX0_standsAhead_93 : decode cX0_standsAhead 93 = .ok (.aload_n 0, 1) := by decide +kernel
theorem dX0_standsAhead_94 : decode cX0_standsAhead 94 = .ok (.iconst 0, 1) := by decide +kernel
theorem dX0_standsAhead_95 : decode cX0_standsAhead 95 = .ok (.iload_n 2, 1) := by decide +kernel
theorem dX0_standsAhead_96 : decode cX0_standsAhead 96 = .ok (.invokevirtual 75, 3) := by decide +kernel
theorem dX0_standsAhead_99 : decode cX0_standsAhead 99 = .ok (.if_icmp .le 7, 3) := by decide +kernel
theorem dX0_standsAhead_102 : decode cX0_standsAhead 102 = .ok (.iconst 1, 1) := by decide +kernel
theorem dX0_standsAhead_103 : decode cX0_standsAhead 103 = .ok (.goto 4, 3) := by decide +kernel
theorem dX0_standsAhead_106 : decode cX0_standsAhead 106 = .ok (.iconst 0, 1) := by decide +kernel
theorem dX0_standsAhead_107 : decode cX0_standsAhead 107 = .ok (.ireturn, 1) := by decide +kernel
theorem dX0_standsAhead_108 : decode cX0_standsAhead 108 = .ok (.iload_n 1, 1) := by decide +kernel
theorem dX0_standsAhead_109 : decode cX0_standsAhead 109 = .ok (.iload_n 2, 1) := by decide +kernel
theorem dX0_standsAhead_110 : decode cX0_standsAhead 110 = .ok (.if_icmp .ge 7, 3) := by decide +kernel
theorem dX0_standsAhead_113 : decode cX0_standsAhead 113 = .ok (.iconst 1, 1) := by decide +kernel
theorem dX0_standsAhead_114 : decode cX0_standsAhead 114 = .ok (.goto 4, 3) := by decide +kernel
theorem dX0_standsAhead_117 : decode cX0_standsAhead 117 = .ok (.iconst 0, 1) := by decide +kernel
theorem dX0_standsAhead_118 : decode cX0_standsAhead 118 = .ok (.ireturn, 1) := by decide +kernel
theorem dX0_startRound_0 : decode cX0_startRound 0 = .ok (.aload_n 0, 1) := by decide +kernel
theorem dX0_startRound_1 : decode cX0_startRound 1 = .ok (.dup, 1) := by decide +kernel
theorem dX0_startRound_2 : decode cX0_startRound 2 = .ok (.getfield 15, 3) := by decide +kernel
theorem dX0_startRound_5 : decode cX0_startRound 5 = .ok (.iconst 1, 1) := by decide +kernel
theorem dX0_startRound_6 : decode cX0_startRound 6 = .ok (.iadd, 1) := by decide +kernel
theorem dX0_startRound_7 : decode cX0_startRound 7 = .ok (.putfield 15, 3) := by decide +kernel
theorem dX0_startRound_10 : decode cX0_startRound 10 = .ok (.aload_n 0, 1) := by decide +kernel
theorem dX0_startRound_11 : decode cX0_startRound 11 = .ok (.aload_n 1, 1) := by decide +kernel
theorem dX0_startRound_12 : decode cX0_startRound 12 = .ok (.getfield 111, 3) := by decide +kernel
theorem dX0_startRound_15 : decode cX0_startRound 15 = .ok (.putfield 28, 3) := by decide +kernel
theorem dX0_startRound_18 : decode cX0_startRound 18 = .ok (.iconst 0, 1) := by decide +kernel
theorem dX0_startRound_19 : decode cX0_startRound 19 = .ok (.istore_n 2, 1) := by decide +kernel
theorem dX0_startRound_20 : decode cX0_startRound 20 = .ok (.iload_n 2, 1) := by decide +kernel
theorem dX0_startRound_21 : decode cX0_startRound 21 = .ok (.aload_n 0, 1) := by decide +kernel
theorem dX0_startRound_22 : decode cX0_startRound 22 = .ok (.getfield 28, 3) := by decide +kernel
theorem dX0_startRound_25 : decode cX0_startRound 25 = .ok (.if_icmp .ge 24, 3) := by decide +kernel
theorem dX0_startRound_28 : decode cX0_startRound 28 = .ok (.aload_n 0, 1) := by decide +kernel
theorem dX0_startRound_29 : decode cX0_startRound 29 = .ok (.iload_n 2, 1) := by decide +kernel
theorem dX0_startRound_30 : decode cX0_startRound 30 = .ok (.aload_n 1, 1) := by decide +kernel
theorem dX0_startRound_31 : decode cX0_startRound 31 = .ok (.iload_n 2, 1) := by decide +kernel
theorem dX0_startRound_32 : decode cX0_startRound 32 = .ok (.invokevirtual 116, 3) := by decide +kernel
theorem dX0_startRound_35 : decode cX0_startRound 35 = .ok (.aload_n 1, 1) := by decide +kernel
theorem dX0_startRound_36 : decode cX0_startRound 36 = .ok (.iload_n 2, 1) := by decide +kernel
theorem dX0_startRound_37 : decode cX0_startRound 37 = .ok (.invokevirtual 119, 3) := by decide +kernel
theorem dX0_startRound_40 : decode cX0_startRound 40 = .ok (.invokevirtual 122, 3) := by decide +kernel
theorem dX0_startRound_43 : decode cX0_startRound 43 = .ok (.iinc 2 1, 3) := by decide +kernel
theorem dX0_startRound_46 : decode cX0_startRound 46 = .ok (.goto (-26), 3) := by decide +kernel
theorem dX0_startRound_49 : decode cX0_startRound 49 = .ok (.aload_n 0, 1) := by decide +kernel
theorem dX0_startRound_50 : decode cX0_startRound 50 = .ok (.aload_n 1, 1) := by decide +kernel
theorem dX0_startRound_51 : decode cX0_startRound 51 = .ok (.getfield 125, 3) := by decide +kernel
theorem dX0_startRound_54 : decode cX0_startRound 54 = .ok (.putfield 40, 3) := by decide +kernel
theorem dX0_startRound_57 : decode cX0_startRound 57 = .ok (.aload_n 0, 1) := by decide +kernel
theorem dX0_startRound_58 : decode cX0_startRound 58 = .ok (.getfield 40, 3) := by decide +kernel
theorem dX0_startRound_61 : decode cX0_startRound 61 = .ok (.iconst (-1), 1) := by decide +kernel
theorem dX0_startRound_62 : decode cX0_startRound 62 = .ok (.if_icmp .eq 28, 3) := by decide +kernel
theorem dX0_startRound_65 : decode cX0_startRound 65 = .ok (.aload_n 0, 1) := by decide +kernel
theorem dX0_startRound_66 : decode cX0_startRound 66 = .ok (.iconst 5, 1) := by decide +kernel
theorem dX0_startRound_67 : decode cX0_startRound 67 = .ok (.aload_n 0, 1) := by decide +kernel
theorem dX0_startRound_68 : decode cX0_startRound 68 = .ok (.getfield 40, 3) := by decide +kernel
theorem dX0_startRound_71 : decode cX0_startRound 71 = .ok (.iconst 1, 1) := by decide +kernel
theorem dX0_startRound_72 : decode cX0_startRound 72 = .ok (.invokevirtual 126, 3) := by decide +kernel
theorem dX0_startRound_75 : decode cX0_startRound 75 = .ok (.aload_n 0, 1) := by decide +kernel
theorem dX0_startRound_76 : decode cX0_startRound 76 = .ok (.iconst 1, 1) := by decide +kernel
theorem dX0_startRound_77 : decode cX0_startRound 77 = .ok (.aload_n 0, 1) := by decide +kernel
theorem dX0_startRound_78 : decode cX0_startRound 78 = .ok (.getfield 40, 3) := by decide +kernel
theorem dX0_startRound_81 : decode cX0_startRound 81 = .ok (.aload_n 0, 1) := by decide +kernel
theorem dX0_startRound_82 : decode cX0_startRound 82 = .ok (.getfield 18, 3) := by decide +kernel
theorem dX0_startRound_85 : decode cX0_startRound 85 = .ok (.iconst 2, 1) := by decide +kernel
theorem dX0_startRound_86 : decode cX0_startRound 86 = .ok (.iaload, 1) := by decide +kernel
theorem dX0_startRound_87 : decode cX0_startRound 87 = .ok (.invokevirtual 126, 3) := by decide +kernel
theorem dX0_startRound_90 : decode cX0_startRound 90 = .ok (.return_, 1) := by decide +kernel
theorem dX0_startBout_0 : decode cX0_startBout 0 = .ok (.aload_n 0, 1) := by decide +kernel
theorem dX0_startBout_1 : decode cX0_startBout 1 = .ok (.iload_n 1, 1) := by decide +kernel
theorem dX0_startBout_2 : decode cX0_startBout 2 = .ok (.invokevirtual 82, 3) := by decide +kernel
theorem dX0_startBout_5 : decode cX0_startBout 5 = .ok (.ifCond .ne 4, 3) := by decide +kernel
theorem dX0_startBout_8 : decode cX0_startBout 8 = .ok (.return_, 1) := by decide +kernel
theorem dX0_startBout_9 : decode cX0_startBout 9 = .ok (.aload_n 0, 1) := by decide +kernel
theorem dX0_startBout_10 : decode cX0_startBout 10 = .ok (.iload_n 2, 1) := by decide +kernel
theorem dX0_startBout_11 : decode cX0_startBout 11 = .ok (.iload_n 3, 1) := by decide +kernel
theorem dX0_startBout_12 : decode cX0_startBout 12 = .ok (.invokevirtual 129, 3) := by decide +kernel
theorem dX0_startBout_15 : decode cX0_startBout 15 = .ok (.istore 4, 2) := by decide +kernel
theorem dX0_startBout_17 : decode cX0_startBout 17 = .ok (.aload_n 0, 1) := by decide +kernel
theorem dX0_startBout_18 : decode cX0_startBout 18 = .ok (.getfield 31, 3) := by decide +kernel
theorem dX0_startBout_21 : decode cX0_startBout 21 = .ok (.iload_n 1, 1) := by decide +kernel
theorem dX0_startBout_22 : decode cX0_startBout 22 = .ok (.iload 4, 2) := by decide +kernel
theorem dX0_startBout_24 : decode cX0_startBout 24 = .ok (.ifCond .eq 7, 3) := by decide +kernel
theorem dX0_startBout_27 : decode cX0_startBout 27 = .ok (.iload_n 2, 1) := by decide +kernel
theorem dX0_startBout_28 : decode cX0_startBout 28 = .ok (.goto 4, 3) := by decide +kernel
theorem dX0_startBout_31 : decode cX0_startBout 31 = .ok (.iload_n 3, 1) := by decide +kernel
theorem dX0_startBout_32 : decode cX0_startBout 32 = .ok (.iastore, 1) := by decide +kernel
theorem dX0_startBout_33 : decode cX0_startBout 33 = .ok (.aload_n 0, 1) := by decide +kernel
theorem dX0_startBout_34 : decode cX0_startBout 34 = .ok (.getfield 34, 3) := by decide +kernel
theorem dX0_startBout_37 : decode cX0_startBout 37 = .ok (.iload_n 1, 1) := by decide +kernel
theorem dX0_startBout_38 : decode cX0_startBout 38 = .ok (.iload 4, 2) := by decide +kernel
theorem dX0_startBout_40 : decode cX0_startBout 40 = .ok (.ifCond .eq 7, 3) := by decide +kernel
theorem dX0_startBout_43 : decode cX0_startBout 43 = .ok (.iload_n 3, 1) := by decide +kernel
theorem dX0_startBout_44 : decode cX0_startBout 44 = .ok (.goto 4, 3) := by decide +kernel
theorem dX0_startBout_47 : decode cX0_startBout 47 = .ok (.iload_n 2, 1) := by decide +kernel
theorem dX0_startBout_48 : decode cX0_startBout 48 = .ok (.iastore, 1) := by decide +kernel
theorem dX0_startBout_49 : decode cX0_startBout 49 = .ok (.aload_n 0, 1) := by decide +kernel
theorem dX0_startBout_50 : decode cX0_startBout 50 = .ok (.getfield 37, 3) := by decide +kernel
theorem dX0_startBout_53 : decode cX0_startBout 53 = .ok (.iload_n 1, 1) := by decide +kernel
theorem dX0_startBout_54 : decode cX0_startBout 54 = .ok (.iconst (-1), 1) := by decide +kernel
theorem dX0_startBout_55 : decode cX0_startBout 55 = .ok (.iastore, 1) := by decide +kernel
theorem dX0_startBout_56 : decode cX0_startBout 56 = .ok (.aload_n 0, 1) := by decide +kernel
theorem dX0_startBout_57 : decode cX0_startBout 57 = .ok (.iload_n 2, 1) := by decide +kernel
theorem dX0_startBout_58 : decode cX0_startBout 58 = .ok (.iload_n 3, 1) := by decide +kernel
theorem dX0_startBout_59 : decode cX0_startBout 59 = .ok (.invokevirtual 132, 3) := by decide +kernel
theorem dX0_startBout_62 : decode cX0_startBout 62 = .ok (.aload_n 0, 1) := by decide +kernel
theorem dX0_startBout_63 : decode cX0_startBout 63 = .ok (.iconst 1, 1) := by decide +kernel
theorem dX0_startBout_64 : decode cX0_startBout 64 = .ok (.iload_n 2, 1) := by decide +kernel
theorem dX0_startBout_65 : decode cX0_startBout 65 = .ok (.invokevirtual 75, 3) := by decide +kernel
theorem dX0_startBout_68 : decode cX0_startBout 68 = .ok (.aload_n 0, 1) := by decide +kernel
theorem dX0_startBout_69 : decode cX0_startBout 69 = .ok (.iconst 1, 1) := by decide +kernel
theorem dX0_startBout_70 : decode cX0_startBout 70 = .ok (.iload_n 3, 1) := by decide +kernel
theorem dX0_startBout_71 : decode cX0_startBout 71 = .ok (.invokevirtual 75, 3) := by decide +kernel
theorem dX0_startBout_74 : decode cX0_startBout 74 = .ok (.if_icmp .le 11, 3) := by decide +kernel
theorem dX0_startBout_77 : decode cX0_startBout 77 = .ok (.aload_n 0, 1) := by decide +kernel
theorem dX0_startBout_78 : decode cX0_startBout 78 = .ok (.bipush 7, 2) := by decide +kernel
theorem dX0_startBout_80 : decode cX0_startBout 80 = .ok (.iload_n 2, 1) := by decide +kernel
theorem dX0_startBout_81 : decode cX0_startBout 81 = .ok (.iconst 1, 1) := by decide +kernel
theorem dX0_startBout_82 : decode cX0_startBout 82 = .ok (.invokevirtual 126, 3) := by decide +kernel
theorem dX0_startBout_85 : decode cX0_startBout 85 = .ok (.aload_n 0, 1) := by decide +kernel
theorem dX0_startBout_86 : decode cX0_startBout 86 = .ok (.bipush 6, 2) := by decide +kernel
theorem dX0_startBout_88 : decode cX0_startBout 88 = .ok (.aload_n 0, 1) := by decide +kernel
theorem dX0_startBout_89 : decode cX0_startBout 89 = .ok (.getfield 31, 3) := by decide +kernel
theorem dX0_startBout_92 : decode cX0_startBout 92 = .ok (.iload_n 1, 1) := by decide +kernel
theorem dX0_startBout_93 : decode cX0_startBout 93 = .ok (.iaload, 1) := by decide +kernel
theorem dX0_startBout_94 : decode cX0_startBout 94 = .ok (.iconst 1, 1) := by decide +kernel
theorem dX0_startBout_95 : decode cX0_startBout 95 = .ok (.invokevirtual 126, 3) := by decide +kernel
theorem dX0_startBout_98 : decode cX0_startBout 98 = .ok (.aload_n 0, 1) := by decide +kernel
theorem dX0_startBout_99 : decode cX0_startBout 99 = .ok (.bipush 9, 2) := by decide +kernel
theorem dX0_startBout_101 : decode cX0_startBout 101 = .ok (.aload_n 0, 1) := by decide +kernel
theorem dX0_startBout_102 : decode cX0_startBout 102 = .ok (.getfield 31, 3) := by decide +kernel
theorem dX0_startBout_105 : decode cX0_startBout 105 = .ok (.iload_n 1, 1) := by decide +kernel
theorem dX0_startBout_106 : decode cX0_startBout 106 = .ok (.iaload, 1) := by decide +kernel
theorem dX0_startBout_107 : decode cX0_startBout 107 = .ok (.iconst 0, 1) := by decide +kernel
theorem dX0_startBout_108 : decode cX0_startBout 108 = .ok (.invokevirtual 61, 3) := by decide +kernel
theorem dX0_startBout_111 : decode cX0_startBout 111 = .ok (.aload_n 0, 1) := by decide +kernel
theorem dX0_startBout_112 : decode cX0_startBout 112 = .ok (.bipush 6, 2) := by decide +kernel
theorem dX0_startBout_114 : decode cX0_startBout 114 = .ok (.aload_n 0, 1) := by decide +kernel
theorem dX0_startBout_115 : decode cX0_startBout 115 = .ok (.getfield 34, 3) := by decide +kernel
theorem dX0_startBout_118 : decode cX0_startBout 118 = .ok (.iload_n 1, 1) := by decide +kernel
theorem dX0_startBout_119 : decode cX0_startBout 119 = .ok (.iaload, 1) := by decide +kernel
theorem dX0_startBout_120 : decode cX0_startBout 120 = .ok (.iconst (-1), 1) := by decide +kernel
theorem dX0_startBout_121 : decode cX0_startBout 121 = .ok (.invokevirtual 126, 3) := by decide +kernel
theorem dX0_startBout_124 : decode cX0_startBout 124 = .ok (.aload_n 0, 1) := by decide +kernel
theorem dX0_startBout_125 : decode cX0_startBout 125 = .ok (.bipush 9, 2) := by decide +kernel
theorem dX0_startBout_127 : decode cX0_startBout 127 = .ok (.aload_n 0, 1) := by decide +kernel
theorem dX0_startBout_128 : decode cX0_startBout 128 = .ok (.getfield 34, 3) := by decide +kernel
theorem dX0_startBout_131 : decode cX0_startBout 131 = .ok (.iload_n 1, 1) := by decide +kernel
theorem dX0_startBout_132 : decode cX0_startBout 132 = .ok (.iaload, 1) := by decide +kernel
theorem dX0_startBout_133 : decode cX0_startBout 133 = .ok (.iconst 1, 1) := by decide +kernel
theorem dX0_startBout_134 : decode cX0_startBout 134 = .ok (.invokevirtual 61, 3) := by decide +kernel
theorem dX0_startBout_137 : decode cX0_startBout 137 = .ok (.return_, 1) := by decide +kernel
theorem dX0_takesRedAhead_0 : decode cX0_takesRedAhead 0 = .ok (.aload_n 0, 1) := by decide +kernel
theorem dX0_takesRedAhead_1 : decode cX0_takesRedAhead 1 = .ok (.bipush 6, 2) := by decide +kernel
theorem dX0_takesRedAhead_3 : decode cX0_takesRedAhead 3 = .ok (.iload_n 1, 1) := by decide +kernel
theorem dX0_takesRedAhead_4 : decode cX0_takesRedAhead 4 = .ok (.invokevirtual 75, 3) := by decide +kernel
theorem dX0_takesRedAhead_7 : decode cX0_takesRedAhead 7 = .ok (.aload_n 0, 1) := by decide +kernel
theorem dX0_takesRedAhead_8 : decode cX0_takesRedAhead 8 = .ok (.bipush 6, 2) := by decide +kernel
theorem dX0_takesRedAhead_10 : decode cX0_takesRedAhead 10 = .ok (.iload_n 2, 1) := by decide +kernel
theorem dX0_takesRedAhead_11 : decode cX0_takesRedAhead 11 = .ok (.invokevirtual 75, 3) := by decide +kernel
theorem dX0_takesRedAhead_14 : decode cX0_takesRedAhead 14 = .ok (.if_icmp .eq 26, 3) := by decide +kernel
theorem dX0_takesRedAhead_17 : decode cX0_takesRedAhead 17 = .ok (.aload_n 0, 1) := by decide +kernel
theorem dX0_takesRedAhead_18 : decode cX0_takesRedAhead 18 = .ok (.bipush 6, 2) := by decide +kernel
theorem dX0_takesRedAhead_20 : decode cX0_takesRedAhead 20 = .ok (.iload_n 1, 1) := by decide +kernel
theorem dX0_takesRedAhead_21 : decode cX0_takesRedAhead 21 = .ok (.invokevirtual 75, 3) := by decide +kernel
theorem dX0_takesRedAhead_24 : decode cX0_takesRedAhead 24 = .ok (.aload_n 0, 1) := by decide +kernel
theorem dX0_takesRedAhead_25 : decode cX0_takesRedAhead 25 = .ok (.bipush 6, 2) := by decide +kernel
theorem dX0_takesRedAhead_27 : decode cX0_takesRedAhead 27 = .ok (.iload_n 2, 1) := by decide +kernel
theorem dX0_takesRedAhead_28 : decode cX0_takesRedAhead 28 = .ok (.invokevirtual 75, 3) := by decide +kernel
theorem dX0_takesRedAhead_31 : decode cX0_takesRedAhead 31 = .ok (.if_icmp .ge 7, 3) := by decide +kernel
theorem dX0_takesRedAhead_34 : decode cX0_takesRedAhead 34 = .ok (.iconst 1, 1) := by decide +kernel
theorem dX0_takesRedAhead_35 : decode cX0_takesRedAhead 35 = .ok (.goto 4, 3) := by decide +kernel
theorem dX0_takesRedAhead_38 : decode cX0_takesRedAhead 38 = .ok (.iconst 0, 1) := by decide +kernel
theorem dX0_takesRedAhead_39 : decode cX0_takesRedAhead 39 = .ok (.ireturn, 1) := by decide +kernel
theorem dX0_takesRedAhead_40 : decode cX0_takesRedAhead 40 = .ok (.aload_n 0, 1) := by decide +kernel
theorem dX0_takesRedAhead_41 : decode cX0_takesRedAhead 41 = .ok (.bipush 9, 2) := by decide +kernel
theorem dX0_takesRedAhead_43 : decode cX0_takesRedAhead 43 = .ok (.iload_n 1, 1) := by decide +kernel
theorem dX0_takesRedAhead_44 : decode cX0_takesRedAhead 44 = .ok (.invokevirtual 75, 3) := by decide +kernel
theorem dX0_takesRedAhead_47 : decode cX0_takesRedAhead 47 = .ok (.aload_n 0, 1) := by decide +kernel
theorem dX0_takesRedAhead_48 : decode cX0_takesRedAhead 48 = .ok (.bipush 9, 2) := by decide +kernel
theorem dX0_takesRedAhead_50 : decode cX0_takesRedAhead 50 = .ok (.iload_n 2, 1) := by decide +kernel
theorem dX0_takesRedAhead_51 : decode cX0_takesRedAhead 51 = .ok (.invokevirtual 75, 3) := by decide +kernel
theorem dX0_takesRedAhead_54 : decode cX0_takesRedAhead 54 = .ok (.if_icmp .lt 7, 3) := by decide +kernel
theorem dX0_takesRedAhead_57 : decode cX0_takesRedAhead 57 = .ok (.iconst 1, 1) := by decide +kernel
theorem dX0_takesRedAhead_58 : decode cX0_takesRedAhead 58 = .ok (.goto 4, 3) := by decide +kernel
theorem dX0_takesRedAhead_61 : decode cX0_takesRedAhead 61 = .ok (.iconst 0, 1) := by decide +kernel
theorem dX0_takesRedAhead_62 : decode cX0_takesRedAhead 62 = .ok (.ireturn, 1) := by decide +kernel
theorem dX0_tellOutcome_0 : decode cX0_tellOutcome 0 = .ok (.aload_n 0, 1) := by decide +kernel
theorem dX0_tellOutcome_1 : decode cX0_tellOutcome 1 = .ok (.iload_n 1, 1) := by decide +kernel
theorem dX0_tellOutcome_2 : decode cX0_tellOutcome 2 = .ok (.invokevirtual 82, 3) := by decide +kernel
theorem dX0_tellOutcome_5 : decode cX0_tellOutcome 5 = .ok (.ifCond .ne 4, 3) := by decide +kernel
theorem dX0_tellOutcome_8 : decode cX0_tellOutcome 8 = .ok (.return_, 1) := by decide +kernel
theorem dX0_tellOutcome_9 : decode cX0_tellOutcome 9 = .ok (.aload_n 0, 1) := by decide +kernel
theorem dX0_tellOutcome_10 : decode cX0_tellOutcome 10 = .ok (.getfield 37, 3) := by decide +kernel
theorem dX0_tellOutcome_13 : decode cX0_tellOutcome 13 = .ok (.iload_n 1, 1) := by decide +kernel
theorem dX0_tellOutcome_14 : decode cX0_tellOutcome 14 = .ok (.iload_n 2, 1) := by decide +kernel
theorem dX0_tellOutcome_15 : decode cX0_tellOutcome 15 = .ok (.iastore, 1) := by decide +kernel
theorem dX0_tellOutcome_16 : decode cX0_tellOutcome 16 = .ok (.iload_n 2, 1) := by decide +kernel
theorem dX0_tellOutcome_17 : decode cX0_tellOutcome 17 = .ok (.iconst 1, 1) := by decide +kernel
theorem dX0_tellOutcome_18 : decode cX0_tellOutcome 18 = .ok (.if_icmp .ne 26, 3) := by decide +kernel
theorem dX0_tellOutcome_21 : decode cX0_tellOutcome 21 = .ok (.aload_n 0, 1) := by decide +kernel
theorem dX0_tellOutcome_22 : decode cX0_tellOutcome 22 = .ok (.aload_n 0, 1) := by decide +kernel
theorem dX0_tellOutcome_23 : decode cX0_tellOutcome 23 = .ok (.getfield 31, 3) := by decide +kernel
theorem dX0_tellOutcome_26 : decode cX0_tellOutcome 26 = .ok (.iload_n 1, 1) := by decide +kernel
theorem dX0_tellOutcome_27 : decode cX0_tellOutcome 27 = .ok (.iaload, 1) := by decide +kernel
theorem dX0_tellOutcome_28 : decode cX0_tellOutcome 28 = .ok (.invokevirtual 136, 3) := by decide +kernel
theorem dX0_tellOutcome_31 : decode cX0_tellOutcome 31 = .ok (.aload_n 0, 1) := by decide +kernel
theorem dX0_tellOutcome_32 : decode cX0_tellOutcome 32 = .ok (.aload_n 0, 1) := by decide +kernel
theorem dX0_tellOutcome_33 : decode cX0_tellOutcome 33 = .ok (.getfield 34, 3) := by decide +kernel
theorem dX0_tellOutcome_36 : decode cX0_tellOutcome 36 = .ok (.iload_n 1, 1) := by decide +kernel
theorem dX0_tellOutcome_37 : decode cX0_tellOutcome 37 = .ok (.iaload, 1) := by decide +kernel
theorem dX0_tellOutcome_38 : decode cX0_tellOutcome 38 = .ok (.invokevirtual 136, 3) := by decide +kernel
theorem dX0_tellOutcome_41 : decode cX0_tellOutcome 41 = .ok (.goto 93, 3) := by decide +kernel
theorem dX0_tellOutcome_44 : decode cX0_tellOutcome 44 = .ok (.iload_n 2, 1) := by decide +kernel
theorem dX0_tellOutcome_45 : decode cX0_tellOutcome 45 = .ok (.ifCond .ne 7, 3) := by decide +kernel
theorem dX0_tellOutcome_48 : decode cX0_tellOutcome 48 = .ok (.iconst 1, 1) := by decide +kernel
theorem dX0_tellOutcome_49 : decode cX0_tellOutcome 49 = .ok (.goto 4, 3) := by decide +kernel
theorem dX0_tellOutcome_52 : decode cX0_tellOutcome 52 = .ok (.iconst 0, 1) := by decide +kernel
theorem dX0_tellOutcome_53 : decode cX0_tellOutcome 53 = .ok (.istore_n 3, 1) := by decide +kernel
theorem dX0_tellOutcome_54 : decode cX0_tellOutcome 54 = .ok (.aload_n 0, 1) := by decide +kernel
theorem dX0_tellOutcome_55 : decode cX0_tellOutcome 55 = .ok (.iconst 2, 1) := by decide +kernel
theorem dX0_tellOutcome_56 : decode cX0_tellOutcome 56 = .ok (.iload_n 3, 1) := by decide +kernel
theorem dX0_tellOutcome_57 : decode cX0_tellOutcome 57 = .ok (.ifCond .eq 12, 3) := by decide +kernel
theorem dX0_tellOutcome_60 : decode cX0_tellOutcome 60 = .ok (.aload_n 0, 1) := by decide +kernel
theorem dX0_tellOutcome_61 : decode cX0_tellOutcome 61 = .ok (.getfield 31, 3) := by decide +kernel
theorem dX0_tellOutcome_64 : decode cX0_tellOutcome 64 = .ok (.iload_n 1, 1) := by decide +kernel
theorem dX0_tellOutcome_65 : decode cX0_tellOutcome 65 = .ok (.iaload, 1) := by decide +kernel
theorem dX0_tellOutcome_66 : decode cX0_tellOutcome 66 = .ok (.goto 9, 3) := by decide +kernel
theorem dX0_tellOutcome_69 : decode cX0_tellOutcome 69 = .ok (.aload_n 0, 1) := by decide +kernel
theorem dX0_tellOutcome_70 : decode cX0_tellOutcome 70 = .ok (.getfield 34, 3) := by decide +kernel
theorem dX0_tellOutcome_73 : decode cX0_tellOutcome 73 = .ok (.iload_n 1, 1) := by decide +kernel
theorem dX0_tellOutcome_74 : decode cX0_tellOutcome 74 = .ok (.iaload, 1) := by decide +kernel
theorem dX0_tellOutcome_75 : decode cX0_tellOutcome 75 = .ok (.iconst 1, 1) := by decide +kernel
theorem dX0_tellOutcome_76 : decode cX0_tellOutcome 76 = .ok (.invokevirtual 126, 3) := by decide +kernel
theorem dX0_tellOutcome_79 : decode cX0_tellOutcome 79 = .ok (.aload_n 0, 1) := by decide +kernel
theorem dX0_tellOutcome_80 : decode cX0_tellOutcome 80 = .ok (.iconst 1, 1) := by decide +kernel
theorem dX0_tellOutcome_81 : decode cX0_tellOutcome 81 = .ok (.iload_n 3, 1) := by decide +kernel
theorem dX0_tellOutcome_82 : decode cX0_tellOutcome 82 = .ok (.ifCond .eq 12, 3) := by decide +kernel
theorem dX0_tellOutcome_85 : decode cX0_tellOutcome 85 = .ok (.aload_n 0, 1) := by decide +kernel
theorem dX0_tellOutcome_86 : decode cX0_tellOutcome 86 = .ok (.getfield 31, 3) := by decide +kernel
theorem dX0_tellOutcome_89 : decode cX0_tellOutcome 89 = .ok (.iload_n 1, 1) := by decide +kernel
theorem dX0_tellOutcome_90 : decode cX0_tellOutcome 90 = .ok (.iaload, 1) := by decide +kernel
theorem dX0_tellOutcome_91 : decode cX0_tellOutcome 91 = .ok (.goto 9, 3) := by decide +kernel
theorem dX0_tellOutcome_94 : decode cX0_tellOutcome 94 = .ok (.aload_n 0, 1) := by decide +kernel
theorem dX0_tellOutcome_95 : decode cX0_tellOutcome 95 = .ok (.getfield 34, 3) := by decide +kernel
theorem dX0_tellOutcome_98 : decode cX0_tellOutcome 98 = .ok (.iload_n 1, 1) := by decide +kernel
theorem dX0_tellOutcome_99 : decode cX0_tellOutcome 99 = .ok (.iaload, 1) := by decide +kernel
theorem dX0_tellOutcome_100 : decode cX0_tellOutcome 100 = .ok (.aload_n 0, 1) := by decide +kernel
theorem dX0_tellOutcome_101 : decode cX0_tellOutcome 101 = .ok (.getfield 18, 3) := by decide +kernel
theorem dX0_tellOutcome_104 : decode cX0_tellOutcome 104 = .ok (.iconst 0, 1) := by decide +kernel
theorem dX0_tellOutcome_105 : decode cX0_tellOutcome 105 = .ok (.iaload, 1) := by decide +kernel
theorem dX0_tellOutcome_106 : decode cX0_tellOutcome 106 = .ok (.invokevirtual 126, 3) := by decide +kernel
theorem dX0_tellOutcome_109 : decode cX0_tellOutcome 109 = .ok (.aload_n 0, 1) := by decide +kernel
theorem dX0_tellOutcome_110 : decode cX0_tellOutcome 110 = .ok (.iconst 4, 1) := by decide +kernel
theorem dX0_tellOutcome_111 : decode cX0_tellOutcome 111 = .ok (.iload_n 3, 1) := by decide +kernel
theorem dX0_tellOutcome_112 : decode cX0_tellOutcome 112 = .ok (.ifCond .eq 12, 3) := by decide +kernel
theorem dX0_tellOutcome_115 : decode cX0_tellOutcome 115 = .ok (.aload_n 0, 1) := by decide +kernel
theorem dX0_tellOutcome_116 : decode cX0_tellOutcome 116 = .ok (.getfield 34, 3) := by decide +kernel
theorem dX0_tellOutcome_119 : decode cX0_tellOutcome 119 = .ok (.iload_n 1, 1) := by decide +kernel
theorem dX0_tellOutcome_120 : decode cX0_tellOutcome 120 = .ok (.iaload, 1) := by decide +kernel
theorem dX0_tellOutcome_121 : decode cX0_tellOutcome 121 = .ok (.goto 9, 3) := by decide +kernel
theorem dX0_tellOutcome_124 : decode cX0_tellOutcome 124 = .ok (.aload_n 0, 1) := by decide +kernel
theorem dX0_tellOutcome_125 : decode cX0_tellOutcome 125 = .ok (.getfield 31, 3) := by decide +kernel
theorem dX0_tellOutcome_128 : decode cX0_tellOutcome 128 = .ok (.iload_n 1, 1) := by decide +kernel
theorem dX0_tellOutcome_129 : decode cX0_tellOutcome 129 = .ok (.iaload, 1) := by decide +kernel
theorem dX0_tellOutcome_130 : decode cX0_tellOutcome 130 = .ok (.iconst 1, 1) := by decide +kernel
theorem dX0_tellOutcome_131 : decode cX0_tellOutcome 131 = .ok (.invokevirtual 126, 3) := by decide +kernel
theorem dX0_tellOutcome_134 : decode cX0_tellOutcome 134 = .ok (.return_, 1) := by decide +kernel
theorem dX0_tellDraw_0 : decode cX0_tellDraw 0 = .ok (.aload_n 0, 1) := by decide +kernel
theorem dX0_tellDraw_1 : decode cX0_tellDraw 1 = .ok (.iconst 3, 1) := by decide +kernel
theorem dX0_tellDraw_2 : decode cX0_tellDraw 2 = .ok (.iload_n 1, 1) := by decide +kernel
theorem dX0_tellDraw_3 : decode cX0_tellDraw 3 = .ok (.iconst 1, 1) := by decide +kernel
theorem dX0_tellDraw_4 : decode cX0_tellDraw 4 = .ok (.invokevirtual 126, 3) := by decide +kernel
theorem dX0_tellDraw_7 : decode cX0_tellDraw 7 = .ok (.aload_n 0, 1) := by decide +kernel
theorem dX0_tellDraw_8 : decode cX0_tellDraw 8 = .ok (.iconst 1, 1) := by decide +kernel
theorem dX0_tellDraw_9 : decode cX0_tellDraw 9 = .ok (.iload_n 1, 1) := by decide +kernel
theorem dX0_tellDraw_10 : decode cX0_tellDraw 10 = .ok (.aload_n 0, 1) := by decide +kernel
theorem dX0_tellDraw_11 : decode cX0_tellDraw 11 = .ok (.getfield 18, 3) := by decide +kernel
theorem dX0_tellDraw_14 : decode cX0_tellDraw 14 = .ok (.iconst 1, 1) := by decide +kernel
theorem dX0_tellDraw_15 : decode cX0_tellDraw 15 = .ok (.iaload, 1) := by decide +kernel
theorem dX0_tellDraw_16 : decode cX0_tellDraw 16 = .ok (.invokevirtual 126, 3) := by decide +kernel
theorem dX0_tellDraw_19 : decode cX0_tellDraw 19 = .ok (.return_, 1) := by decide +kernel
theorem dX1_init_0 : decode cX1_init 0 = .ok (.aload_n 0, 1) := by decide +kernel
theorem dX1_init_1 : decode cX1_init 1 = .ok (.invokespecial 3, 3) := by decide +kernel
theorem dX1_init_4 : decode cX1_init 4 = .ok (.aload_n 0, 1) := by decide +kernel
theorem dX1_init_5 : decode cX1_init 5 = .ok (.iconst 0, 1) := by decide +kernel
theorem dX1_init_6 : decode cX1_init 6 = .ok (.putfield 9, 3) := by decide +kernel
theorem dX1_init_9 : decode cX1_init 9 = .ok (.aload_n 0, 1) := by decide +kernel
theorem dX1_init_10 : decode cX1_init 10 = .ok (.iconst 0, 1) := by decide +kernel
theorem dX1_init_11 : decode cX1_init 11 = .ok (.putfield 15, 3) := by decide +kernel
theorem dX1_init_14 : decode cX1_init 14 = .ok (.aload_n 0, 1) := by decide +kernel
theorem dX1_init_15 : decode cX1_init 15 = .ok (.iconst (-1), 1) := by decide +kernel
theorem dX1_init_16 : decode cX1_init 16 = .ok (.putfield 18, 3) := by decide +kernel
theorem dX1_init_19 : decode cX1_init 19 = .ok (.aload_n 0, 1) := by decide +kernel
theorem dX1_init_20 : decode cX1_init 20 = .ok (.bipush 6, 2) := by decide +kernel
theorem dX1_init_22 : decode cX1_init 22 = .ok (.newarray .int, 2) := by decide +kernel
theorem dX1_init_24 : decode cX1_init 24 = .ok (.putfield 21, 3) := by decide +kernel
theorem dX1_init_27 : decode cX1_init 27 = .ok (.aload_n 0, 1) := by decide +kernel
theorem dX1_init_28 : decode cX1_init 28 = .ok (.bipush 6, 2) := by decide +kernel
theorem dX1_init_30 : decode cX1_init 30 = .ok (.newarray .int, 2) := by decide +kernel
theorem dX1_init_32 : decode cX1_init 32 = .ok (.putfield 25, 3) := by decide +kernel
theorem dX1_init_35 : decode cX1_init 35 = .ok (.aload_n 0, 1) := by decide +kernel
theorem dX1_init_36 : decode cX1_init 36 = .ok (.iconst 0, 1) := by decide +kernel
theorem dX1_init_37 : decode cX1_init 37 = .ok (.putfield 28, 3) := by decide +kernel
theorem dX1_init_40 : decode cX1_init 40 = .ok (.aload_n 0, 1) := by decide +kernel
theorem dX1_init_41 : decode cX1_init 41 = .ok (.bipush 12, 2) := by decide +kernel
theorem dX1_init_43 : decode cX1_init 43 = .ok (.newarray .int, 2) := by decide +kernel
theorem dX1_init_45 : decode cX1_init 45 = .ok (.putfield 31, 3) := by decide +kernel
theorem dX1_init_48 : decode cX1_init 48 = .ok (.aload_n 0, 1) := by decide +kernel
theorem dX1_init_49 : decode cX1_init 49 = .ok (.bipush 12, 2) := by decide +kernel
theorem dX1_init_51 : decode cX1_init 51 = .ok (.newarray .int, 2) := by decide +kernel
theorem dX1_init_53 : decode cX1_init 53 = .ok (.putfield 34, 3) := by decide +kernel
theorem dX1_init_56 : decode cX1_init 56 = .ok (.aload_n 0, 1) := by decide +kernel
theorem dX1_init_57 : decode cX1_init 57 = .ok (.sipush 4096, 3) := by decide +kernel
theorem dX1_init_60 : decode cX1_init 60 = .ok (.newarray .int, 2) := by decide +kernel
theorem dX1_init_62 : decode cX1_init 62 = .ok (.putfield 37, 3) := by decide +kernel
theorem dX1_init_65 : decode cX1_init 65 = .ok (.return_, 1) := by decide +kernel
theorem dX1_find_0 : decode cX1_find 0 = .ok (.aload_n 0, 1) := by decide +kernel
theorem dX1_find_1 : decode cX1_find 1 = .ok (.aload_n 1, 1) := by decide +kernel
theorem dX1_find_2 : decode cX1_find 2 = .ok (.invokevirtual 40, 3) := by decide +kernel
theorem dX1_find_5 : decode cX1_find 5 = .ok (.aload_n 0, 1) := by decide +kernel
theorem dX1_find_6 : decode cX1_find 6 = .ok (.aload_n 1, 1) := by decide +kernel
theorem dX1_find_7 : decode cX1_find 7 = .ok (.invokevirtual 44, 3) := by decide +kernel
theorem dX1_find_10 : decode cX1_find 10 = .ok (.aload_n 0, 1) := by decide +kernel
theorem dX1_find_11 : decode cX1_find 11 = .ok (.aload_n 1, 1) := by decide +kernel
theorem dX1_find_12 : decode cX1_find 12 = .ok (.invokevirtual 47, 3) := by decide +kernel
theorem dX1_find_15 : decode cX1_find 15 = .ok (.aload_n 0, 1) := by decide +kernel
theorem dX1_find_16 : decode cX1_find 16 = .ok (.getfield 37, 3) := by decide +kernel
theorem dX1_find_19 : decode cX1_find 19 = .ok (.iconst (-1), 1) := by decide +kernel
theorem dX1_find_20 : decode cX1_find 20 = .ok (.invokestatic 50, 3) := by decide +kernel
theorem dX1_find_23 : decode cX1_find 23 = .ok (.aload_n 0, 1) := by decide +kernel
theorem dX1_find_24 : decode cX1_find 24 = .ok (.aload_n 0, 1) := by decide +kernel
theorem dX1_find_25 : decode cX1_find 25 = .ok (.getfield 28, 3) := by decide +kernel
theorem dX1_find_28 : decode cX1_find 28 = .ok (.iconst 2, 1) := by decide +kernel
theorem dX1_find_29 : decode cX1_find 29 = .ok (.idiv, 1) := by decide +kernel
theorem dX1_find_30 : decode cX1_find 30 = .ok (.putfield 9, 3) := by decide +kernel
theorem dX1_find_33 : decode cX1_find 33 = .ok (.iconst 1, 1) := by decide +kernel
theorem dX1_find_34 : decode cX1_find 34 = .ok (.aload_n 0, 1) := by decide +kernel
theorem dX1_find_35 : decode cX1_find 35 = .ok (.getfield 28, 3) := by decide +kernel
theorem dX1_find_38 : decode cX1_find 38 = .ok (.ishl, 1) := by decide +kernel
theorem dX1_find_39 : decode cX1_find 39 = .ok (.iconst 1, 1) := by decide +kernel
theorem dX1_find_40 : decode cX1_find 40 = .ok (.isub, 1) := by decide +kernel
theorem dX1_find_41 : decode cX1_find 41 = .ok (.istore_n 2, 1) := by decide +kernel
theorem dX1_find_42 : decode cX1_find 42 = .ok (.aload_n 0, 1) := by decide +kernel
theorem dX1_find_43 : decode cX1_find 43 = .ok (.aload_n 0, 1) := by decide +kernel
theorem dX1_find_44 : decode cX1_find 44 = .ok (.iload_n 2, 1) := by decide +kernel
theorem dX1_find_45 : decode cX1_find 45 = .ok (.aload_n 0, 1) := by decide +kernel
theorem dX1_find_46 : decode cX1_find 46 = .ok (.getfield 9, 3) := by decide +kernel
theorem dX1_find_49 : decode cX1_find 49 = .ok (.invokevirtual 56, 3) := by decide +kernel
theorem dX1_find_52 : decode cX1_find 52 = .ok (.putfield 15, 3) := by decide +kernel
theorem dX1_find_55 : decode cX1_find 55 = .ok (.iconst 0, 1) := by decide +kernel
theorem dX1_find_56 : decode cX1_find 56 = .ok (.istore_n 3, 1) := by decide +kernel
theorem dX1_find_57 : decode cX1_find 57 = .ok (.iload_n 3, 1) := by decide +kernel
theorem dX1_find_58 : decode cX1_find 58 = .ok (.aload_n 0, 1) := by decide +kernel
theorem dX1_find_59 : decode cX1_find 59 = .ok (.getfield 9, 3) := by decide +kernel
theorem dX1_find_62 : decode cX1_find 62 = .ok (.if_icmp .ge 79, 3) := by decide +kernel
theorem dX1_find_65 : decode cX1_find 65 = .ok (.iload_n 2, 1) := by decide +kernel
theorem dX1_find_66 : decode cX1_find 66 = .ok (.invokestatic 60, 3) := by decide +kernel
theorem dX1_find_69 : decode cX1_find 69 = .ok (.istore 4, 2) := by decide +kernel
theorem dX1_find_71 : decode cX1_find 71 = .ok (.iload_n 2, 1) := by decide +kernel
theorem dX1_find_72 : decode cX1_find 72 = .ok (.iconst 1, 1) := by decide +kernel
theorem dX1_find_73 : decode cX1_find 73 = .ok (.iload 4, 2) := by decide +kernel
theorem dX1_find_75 : decode cX1_find 75 = .ok (.ishl, 1) := by decide +kernel
theorem dX1_find_76 : decode cX1_find 76 = .ok (.iconst (-1), 1) := by decide +kernel
theorem dX1_find_77 : decode cX1_find 77 = .ok (.ixor, 1) := by decide +kernel
theorem dX1_find_78 : decode cX1_find 78 = .ok (.iand, 1) := by decide +kernel
theorem dX1_find_79 : decode cX1_find 79 = .ok (.istore 5, 2) := by decide +kernel
theorem dX1_find_81 : decode cX1_find 81 = .ok (.aload_n 0, 1) := by decide +kernel
theorem dX1_find_82 : decode cX1_find 82 = .ok (.iload 4, 2) := by decide +kernel
theorem dX1_find_84 : decode cX1_find 84 = .ok (.iload 5, 2) := by decide +kernel
theorem dX1_find_86 : decode cX1_find 86 = .ok (.aload_n 0, 1) := by decide +kernel
theorem dX1_find_87 : decode cX1_find 87 = .ok (.getfield 9, 3) := by decide +kernel
theorem dX1_find_90 : decode cX1_find 90 = .ok (.iload_n 3, 1) := by decide +kernel
theorem dX1_find_91 : decode cX1_find 91 = .ok (.isub, 1) := by decide +kernel
theorem dX1_find_92 : decode cX1_find 92 = .ok (.iconst 1, 1) := by decide +kernel
theorem dX1_find_93 : decode cX1_find 93 = .ok (.isub, 1) := by decide +kernel
theorem dX1_find_94 : decode cX1_find 94 = .ok (.invokevirtual 64, 3) := by decide +kernel
theorem dX1_find_97 : decode cX1_find 97 = .ok (.istore 6, 2) := by decide +kernel
theorem dX1_find_99 : decode cX1_find 99 = .ok (.aload_n 0, 1) := by decide +kernel
theorem dX1_find_100 : decode cX1_find 100 = .ok (.getfield 21, 3) := by decide +kernel
theorem dX1_find_103 : decode cX1_find 103 = .ok (.iload_n 3, 1) := by decide +kernel
theorem dX1_find_104 : decode cX1_find 104 = .ok (.aload_n 0, 1) := by decide +kernel
theorem dX1_find_105 : decode cX1_find 105 = .ok (.getfield 31, 3) := by decide +kernel
theorem dX1_find_108 : decode cX1_find 108 = .ok (.iload 4, 2) := by decide +kernel
theorem dX1_find_110 : decode cX1_find 110 = .ok (.iaload, 1) := by decide +kernel
theorem dX1_find_111 : decode cX1_find 111 = .ok (.iastore, 1) := by decide +kernel
theorem dX1_find_112 : decode cX1_find 112 = .ok (.aload_n 0, 1) := by decide +kernel
theorem dX1_find_113 : decode cX1_find 113 = .ok (.getfield 25, 3) := by decide +kernel
theorem dX1_find_116 : decode cX1_find 116 = .ok (.iload_n 3, 1) := by decide +kernel
theorem dX1_find_117 : decode cX1_find 117 = .ok (.aload_n 0, 1) := by decide +kernel
theorem dX1_find_118 : decode cX1_find 118 = .ok (.getfield 31, 3) := by decide +kernel
theorem dX1_find_121 : decode cX1_find 121 = .ok (.iload 6, 2) := by decide +kernel
theorem dX1_find_123 : decode cX1_find 123 = .ok (.iaload, 1) := by decide +kernel
theorem dX1_find_124 : decode cX1_find 124 = .ok (.iastore, 1) := by decide +kernel
theorem dX1_find_125 : decode cX1_find 125 = .ok (.iload 5, 2) := by decide +kernel
theorem dX1_find_127 : decode cX1_find 127 = .ok (.iconst 1, 1) := by decide +kernel
theorem dX1_find_128 : decode cX1_find 128 = .ok (.iload 6, 2) := by decide +kernel
theorem dX1_find_130 : decode cX1_find 130 = .ok (.ishl, 1) := by decide +kernel
theorem dX1_find_131 : decode cX1_find 131 = .ok (.iconst (-1), 1) := by decide +kernel
theorem dX1_find_132 : decode cX1_find 132 = .ok (.ixor, 1) := by decide +kernel
theorem dX1_find_133 : decode cX1_find 133 = .ok (.iand, 1) := by decide +kernel
theorem dX1_find_134 : decode cX1_find 134 = .ok (.istore_n 2, 1) := by decide +kernel
theorem dX1_find_135 : decode cX1_find 135 = .ok (.iinc 3 1, 3) := by decide +kernel
theorem dX1_find_138 : decode cX1_find 138 = .ok (.goto (-81), 3) := by decide +kernel
theorem dX1_find_141 : decode cX1_find 141 = .ok (.return_, 1) := by decide +kernel
theorem dX1_aheadIn_0 : decode cX1_aheadIn 0 = .ok (.iload_n 1, 1) := by decide +kernel
theorem dX1_aheadIn_1 : decode cX1_aheadIn 1 = .ok (.ifCond .lt 20, 3) := by decide +kernel
theorem dX1_aheadIn_4 : decode cX1_aheadIn 4 = .ok (.iload_n 1, 1) := by decide +kernel
theorem dX1_aheadIn_5 : decode cX1_aheadIn 5 = .ok (.aload_n 0, 1) := by decide +kernel
theorem dX1_aheadIn_6 : decode cX1_aheadIn 6 = .ok (.getfield 9, 3) := by decide +kernel
theorem dX1_aheadIn_9 : decode cX1_aheadIn 9 = .ok (.if_icmp .ge 12, 3) := by decide +kernel
theorem dX1_aheadIn_12 : decode cX1_aheadIn 12 = .ok (.aload_n 0, 1) := by decide +kernel
theorem dX1_aheadIn_13 : decode cX1_aheadIn 13 = .ok (.getfield 21, 3) := by decide +kernel
theorem dX1_aheadIn_16 : decode cX1_aheadIn 16 = .ok (.iload_n 1, 1) := by decide +kernel
theorem dX1_aheadIn_17 : decode cX1_aheadIn 17 = .ok (.iaload, 1) := by decide +kernel
theorem dX1_aheadIn_18 : decode cX1_aheadIn 18 = .ok (.goto 4, 3) := by decide +kernel
theorem dX1_aheadIn_21 : decode cX1_aheadIn 21 = .ok (.iconst (-1), 1) := by decide +kernel
theorem dX1_aheadIn_22 : decode cX1_aheadIn 22 = .ok (.ireturn, 1) := by decide +kernel
theorem dX1_behindIn_0 : decode cX1_behindIn 0 = .ok (.iload_n 1, 1) := by decide +kernel
theorem dX1_behindIn_1 : decode cX1_behindIn 1 = .ok (.ifCond .lt 20, 3) := by decide +kernel
theorem dX1_behindIn_4 : decode cX1_behindIn 4 = .ok (.iload_n 1, 1) := by decide +kernel
theorem dX1_behindIn_5 : decode cX1_behindIn 5 = .ok (.aload_n 0, 1) := by decide +kernel
theorem dX1_behindIn_6 : decode cX1_behindIn 6 = .ok (.getfield 9, 3) := by decide +kernel
theorem dX1_behindIn_9 : decode cX1_behindIn 9 = .ok (.if_icmp .ge 12, 3) := by decide +kernel
theorem dX1_behindIn_12 : decode cX1_behindIn 12 = .ok (.aload_n 0, 1) := by decide +kernel
theorem dX1_behindIn_13 : decode cX1_behindIn 13 = .ok (.getfield 25, 3) := by decide +kernel
theorem dX1_behindIn_16 : decode cX1_behindIn 16 = .ok (.iload_n 1, 1) := by decide +kernel
theorem dX1_behindIn_17 : decode cX1_behindIn 17 = .ok (.iaload, 1) := by decide +kernel
theorem dX1_behindIn_18 : decode cX1_behindIn 18 = .ok (.goto 4, 3) := by decide +kernel
theorem dX1_behindIn_21 : decode cX1_behindIn 21 = .ok (.iconst (-1), 1) := by decide +kernel
theorem dX1_behindIn_22 : decode cX1_behindIn 22 = .ok (.ireturn, 1) := by decide +kernel
theorem dX1_rivalOf_0 : decode cX1_rivalOf 0 = .ok (.iconst 0, 1) := by decide +kernel
theorem dX1_rivalOf_1 : decode cX1_rivalOf 1 = .ok (.istore_n 2, 1) := by decide +kernel
theorem dX1_rivalOf_2 : decode cX1_rivalOf 2 = .ok (.iload_n 2, 1) := by decide +kernel
theorem dX1_rivalOf_3 : decode cX1_rivalOf 3 = .ok (.aload_n 0, 1) := by decide +kernel
theorem dX1_rivalOf_4 : decode cX1_rivalOf 4 = .ok (.getfield 9, 3) := by decide +kernel
theorem dX1_rivalOf_7 : decode cX1_rivalOf 7 = .ok (.if_icmp .ge 43, 3) := by decide +kernel
theorem dX1_rivalOf_10 : decode cX1_rivalOf 10 = .ok (.aload_n 0, 1) := by decide +kernel
theorem dX1_rivalOf_11 : decode cX1_rivalOf 11 = .ok (.getfield 21, 3) := by decide +kernel
theorem dX1_rivalOf_14 : decode cX1_rivalOf 14 = .ok (.iload_n 2, 1) := by decide +kernel
theorem dX1_rivalOf_15 : decode cX1_rivalOf 15 = .ok (.iaload, 1) := by decide +kernel
theorem dX1_rivalOf_16 : decode cX1_rivalOf 16 = .ok (.iload_n 1, 1) := by decide +kernel
theorem dX1_rivalOf_17 : decode cX1_rivalOf 17 = .ok (.if_icmp .ne 10, 3) := by decide +kernel
theorem dX1_rivalOf_20 : decode cX1_rivalOf 20 = .ok (.aload_n 0, 1) := by decide +kernel
theorem dX1_rivalOf_21 : decode cX1_rivalOf 21 = .ok (.getfield 25, 3) := by decide +kernel
theorem dX1_rivalOf_24 : decode cX1_rivalOf 24 = .ok (.iload_n 2, 1) := by decide +kernel
theorem dX1_rivalOf_25 : decode cX1_rivalOf 25 = .ok (.iaload, 1) := by decide +kernel
theorem dX1_rivalOf_26 : decode cX1_rivalOf 26 = .ok (.ireturn, 1) := by decide +kernel
theorem dX1_rivalOf_27 : decode cX1_rivalOf 27 = .ok (.aload_n 0, 1) := by decide +kernel
theorem dX1_rivalOf_28 : decode cX1_rivalOf 28 = .ok (.getfield 25, 3) := by decide +kernel
theorem dX1_rivalOf_31 : decode cX1_rivalOf 31 = .ok (.iload_n 2, 1) := by decide +kernel
theorem dX1_rivalOf_32 : decode cX1_rivalOf 32 = .ok (.iaload, 1) := by decide +kernel
theorem dX1_rivalOf_33 : decode cX1_rivalOf 33 = .ok (.iload_n 1, 1) := by decide +kernel
theorem dX1_rivalOf_34 : decode cX1_rivalOf 34 = .ok (.if_icmp .ne 10, 3) := by decide +kernel
theorem dX1_rivalOf_37 : decode cX1_rivalOf 37 = .ok (.aload_n 0, 1) := by decide +kernel
theorem dX1_rivalOf_38 : decode cX1_rivalOf 38 = .ok (.getfield 21, 3) := by decide +kernel
theorem dX1_rivalOf_41 : decode cX1_rivalOf 41 = .ok (.iload_n 2, 1) := by decide +kernel
theorem dX1_rivalOf_42 : decode cX1_rivalOf 42 = .ok (.iaload, 1) := by decide +kernel
theorem dX1_rivalOf_43 : decode cX1_rivalOf 43 = .ok (.ireturn, 1) := by decide +kernel
theorem dX1_rivalOf_44 : decode cX1_rivalOf 44 = .ok (.iinc 2 1, 3) := by decide +kernel
theorem dX1_rivalOf_47 : decode cX1_rivalOf 47 = .ok (.goto (-45), 3) := by decide +kernel
theorem dX1_rivalOf_50 : decode cX1_rivalOf 50 = .ok (.iconst (-1), 1) := by decide +kernel
theorem dX1_rivalOf_51 : decode cX1_rivalOf 51 = .ok (.ireturn, 1) := by decide +kernel
theorem dX1_lineUp_0 : decode cX1_lineUp 0 = .ok (.aload_n 1, 1) := by decide +kernel
theorem dX1_lineUp_1 : decode cX1_lineUp 1 = .ok (.invokevirtual 68, 3) := by decide +kernel
theorem dX1_lineUp_4 : decode cX1_lineUp 4 = .ok (.aload_n 0, 1) := by decide +kernel
theorem dX1_lineUp_5 : decode cX1_lineUp 5 = .ok (.iconst 0, 1) := by decide +kernel
theorem dX1_lineUp_6 : decode cX1_lineUp 6 = .ok (.putfield 28, 3) := by decide +kernel
theorem dX1_lineUp_9 : decode cX1_lineUp 9 = .ok (.iconst 0, 1) := by decide +kernel
theorem dX1_lineUp_10 : decode cX1_lineUp 10 = .ok (.istore_n 2, 1) := by decide +kernel
theorem dX1_lineUp_11 : decode cX1_lineUp 11 = .ok (.iload_n 2, 1) := by decide +kernel
theorem dX1_lineUp_12 : decode cX1_lineUp 12 = .ok (.aload_n 1, 1) := by decide +kernel
theorem dX1_lineUp_13 : decode cX1_lineUp 13 = .ok (.getfield 73, 3) := by decide +kernel
theorem dX1_lineUp_16 : decode cX1_lineUp 16 = .ok (.if_icmp .ge 54, 3) := by decide +kernel
theorem dX1_lineUp_19 : decode cX1_lineUp 19 = .ok (.aload_n 1, 1) := by decide +kernel
theorem dX1_lineUp_20 : decode cX1_lineUp 20 = .ok (.iload_n 2, 1) := by decide +kernel
theorem dX1_lineUp_21 : decode cX1_lineUp 21 = .ok (.invokevirtual 76, 3) := by decide +kernel
theorem dX1_lineUp_24 : decode cX1_lineUp 24 = .ok (.istore_n 3, 1) := by decide +kernel
theorem dX1_lineUp_25 : decode cX1_lineUp 25 = .ok (.aload_n 1, 1) := by decide +kernel
theorem dX1_lineUp_26 : decode cX1_lineUp 26 = .ok (.bipush 8, 2) := by decide +kernel
theorem dX1_lineUp_28 : decode cX1_lineUp 28 = .ok (.iload_n 3, 1) := by decide +kernel
theorem dX1_lineUp_29 : decode cX1_lineUp 29 = .ok (.invokevirtual 79, 3) := by decide +kernel
theorem dX1_lineUp_32 : decode cX1_lineUp 32 = .ok (.ifCond .eq 32, 3) := by decide +kernel
theorem dX1_lineUp_35 : decode cX1_lineUp 35 = .ok (.aload_n 0, 1) := by decide +kernel
theorem dX1_lineUp_36 : decode cX1_lineUp 36 = .ok (.getfield 28, 3) := by decide +kernel
theorem dX1_lineUp_39 : decode cX1_lineUp 39 = .ok (.bipush 12, 2) := by decide +kernel
theorem dX1_lineUp_41 : decode cX1_lineUp 41 = .ok (.if_icmp .ge 23, 3) := by decide +kernel
theorem dX1_lineUp_44 : decode cX1_lineUp 44 = .ok (.aload_n 0, 1) := by decide +kernel
theorem dX1_lineUp_45 : decode cX1_lineUp 45 = .ok (.getfield 31, 3) := by decide +kernel
theorem dX1_lineUp_48 : decode cX1_lineUp 48 = .ok (.aload_n 0, 1) := by decide +kernel
theorem dX1_lineUp_49 : decode cX1_lineUp 49 = .ok (.getfield 28, 3) := by decide +kernel
theorem dX1_lineUp_52 : decode cX1_lineUp 52 = .ok (.iload_n 3, 1) := by decide +kernel
theorem dX1_lineUp_53 : decode cX1_lineUp 53 = .ok (.iastore, 1) := by decide +kernel
theorem dX1_lineUp_54 : decode cX1_lineUp 54 = .ok (.aload_n 0, 1) := by decide +kernel
theorem dX1_lineUp_55 : decode cX1_lineUp 55 = .ok (.dup, 1) := by decide +kernel
theorem dX1_lineUp_56 : decode cX1_lineUp 56 = .ok (.getfield 28, 3) := by decide +kernel
theorem dX1_lineUp_59 : decode cX1_lineUp 59 = .ok (.iconst 1, 1) := by decide +kernel
theorem dX1_lineUp_60 : decode cX1_lineUp 60 = .ok (.iadd, 1) := by decide +kernel
theorem dX1_lineUp_61 : decode cX1_lineUp 61 = .ok (.putfield 28, 3) := by decide +kernel
theorem dX1_lineUp_64 : decode cX1_lineUp 64 = .ok (.iinc 2 1, 3) := by decide +kernel
theorem dX1_lineUp_67 : decode cX1_lineUp 67 = .ok (.goto (-56), 3) := by decide +kernel
theorem dX1_lineUp_70 : decode cX1_lineUp 70 = .ok (.return_, 1) := by decide +kernel
theorem dX1_takeOutResting_0 : decode cX1_takeOutResting 0 = .ok (.aload_n 0, 1) := by decide +kernel
theorem dX1_takeOutResting_1 : decode cX1_takeOutResting 1 = .ok (.iconst (-1), 1) := by decide +kernel
theorem dX1_takeOutResting_2 : decode cX1_takeOutResting 2 = .ok (.putfield 18, 3) := by decide +kernel
theorem dX1_takeOutResting_5 : decode cX1_takeOutResting 5 = .ok (.aload_n 0, 1) := by decide +kernel
theorem dX1_takeOutResting_6 : decode cX1_takeOutResting 6 = .ok (.getfield 28, 3) := by decide +kernel
theorem dX1_takeOutResting_9 : decode cX1_takeOutResting 9 = .ok (.iconst 2, 1) := by decide +kernel
theorem dX1_takeOutResting_10 : decode cX1_takeOutResting 10 = .ok (.irem, 1) := by decide +kernel
theorem dX1_takeOutResting_11 : decode cX1_takeOutResting 11 = .ok (.ifCond .ne 4, 3) := by decide +kernel
theorem dX1_takeOutResting_14 : decode cX1_takeOutResting 14 = .ok (.return_, 1) := by decide +kernel
theorem dX1_takeOutResting_15 : decode cX1_takeOutResting 15 = .ok (.iconst 0, 1) := by decide +kernel
theorem dX1_takeOutResting_16 : decode cX1_takeOutResting 16 = .ok (.istore_n 2, 1) := by decide +kernel
theorem dX1_takeOutResting_17 : decode cX1_takeOutResting 17 = .ok (.iconst 1, 1) := by decide +kernel
theorem dX1_takeOutResting_18 : decode cX1_takeOutResting 18 = .ok (.istore_n 3, 1) := by decide +kernel
theorem dX1_takeOutResting_19 : decode cX1_takeOutResting 19 = .ok (.iload_n 3, 1) := by decide +kernel
theorem dX1_takeOutResting_20 : decode cX1_takeOutResting 20 = .ok (.aload_n 0, 1) := by decide +kernel
theorem dX1_takeOutResting_21 : decode cX1_takeOutResting 21 = .ok (.getfield 28, 3) := by decide +kernel
theorem dX1_takeOutResting_24 : decode cX1_takeOutResting 24 = .ok (.if_icmp .ge 36, 3) := by decide +kernel
theorem dX1_takeOutResting_27 : decode cX1_takeOutResting 27 = .ok (.aload_n 1, 1) := by decide +kernel
theorem dX1_takeOutResting_28 : decode cX1_takeOutResting 28 = .ok (.iconst 5, 1) := by decide +kernel
theorem dX1_takeOutResting_29 : decode cX1_takeOutResting 29 = .ok (.aload_n 0, 1) := by decide +kernel
theorem dX1_takeOutResting_30 : decode cX1_takeOutResting 30 = .ok (.getfield 31, 3) := by decide +kernel
theorem dX1_takeOutResting_33 : decode cX1_takeOutResting 33 = .ok (.iload_n 3, 1) := by decide +kernel
theorem dX1_takeOutResting_34 : decode cX1_takeOutResting 34 = .ok (.iaload, 1) := by decide +kernel
theorem dX1_takeOutResting_35 : decode cX1_takeOutResting 35 = .ok (.invokevirtual 79, 3) := by decide +kernel
theorem dX1_takeOutResting_38 : decode cX1_takeOutResting 38 = .ok (.aload_n 1, 1) := by decide +kernel
theorem dX1_takeOutResting_39 : decode cX1_takeOutResting 39 = .ok (.iconst 5, 1) := by decide +kernel
theorem dX1_takeOutResting_40 : decode cX1_takeOutResting 40 = .ok (.aload_n 0, 1) := by decide +kernel
theorem dX1_takeOutResting_41 : decode cX1_takeOutResting 41 = .ok (.getfield 31, 3) := by decide +kernel
theorem dX1_takeOutResting_44 : decode cX1_takeOutResting 44 = .ok (.iload_n 2, 1) := by decide +kernel
theorem dX1_takeOutResting_45 : decode cX1_takeOutResting 45 = .ok (.iaload, 1) := by decide +kernel
theorem dX1_takeOutResting_46 : decode cX1_takeOutResting 46 = .ok (.invokevirtual 79, 3) := by decide +kernel
theorem dX1_takeOutResting_49 : decode cX1_takeOutResting 49 = .ok (.if_icmp .gt 5, 3) := by decide +kernel
theorem dX1_takeOutResting_52 : decode cX1_takeOutResting 52 = .ok (.iload_n 3, 1) := by decide +kernel
theorem dX1_takeOutResting_53 : decode cX1_takeOutResting 53 = .ok (.istore_n 2, 1) := by decide +kernel
theorem dX1_takeOutResting_54 : decode cX1_takeOutResting 54 = .ok (.iinc 3 1, 3) := by decide +kernel
theorem dX1_takeOutResting_57 : decode cX1_takeOutResting 57 = .ok (.goto (-38), 3) := by decide +kernel
theorem dX1_takeOutResting_60 : decode cX1_takeOutResting 60 = .ok (.aload_n 0, 1) := by decide +kernel
theorem dX1_takeOutResting_61 : decode cX1_takeOutResting 61 = .ok (.aload_n 0, 1) := by decide +kernel
theorem dX1_takeOutResting_62 : decode cX1_takeOutResting 62 = .ok (.getfield 31, 3) := by decide +kernel
theorem dX1_takeOutResting_65 : decode cX1_takeOutResting 65 = .ok (.iload_n 2, 1) := by decide +kernel
theorem dX1_takeOutResting_66 : decode cX1_takeOutResting 66 = .ok (.iaload, 1) := by decide +kernel
theorem dX1_takeOutResting_67 : decode cX1_takeOutResting 67 = .ok (.putfield 18, 3) := by decide +kernel
theorem dX1_takeOutResting_70 : decode cX1_takeOutResting 70 = .ok (.aload_n 0, 1) := by decide +kernel
theorem dX1_takeOutResting_71 : decode cX1_takeOutResting 71 = .ok (.dup, 1) := by decide +kernel
theorem dX1_takeOutResting_72 : decode cX1_takeOutResting 72 = .ok (.getfield 28, 3) := by decide +kernel
theorem dX1_takeOutResting_75 : decode cX1_takeOutResting 75 = .ok (.iconst 1, 1) := by decide +kernel
theorem dX1_takeOutResting_76 : decode cX1_takeOutResting 76 = .ok (.isub, 1) := by decide +kernel
theorem dX1_takeOutResting_77 : decode cX1_takeOutResting 77 = .ok (.putfield 28, 3) := by decide +kernel
theorem dX1_takeOutResting_80 : decode cX1_takeOutResting 80 = .ok (.iload_n 2, 1) := by decide +kernel
theorem dX1_takeOutResting_81 : decode cX1_takeOutResting 81 = .ok (.istore_n 3, 1) := by decide +kernel
theorem dX1_takeOutResting_82 : decode cX1_takeOutResting 82 = .ok (.iload_n 3, 1) := by decide +kernel
theorem dX1_takeOutResting_83 : decode cX1_takeOutResting 83 = .ok (.aload_n 0, 1) := by decide +kernel
theorem dX1_takeOutResting_84 : decode cX1_takeOutResting 84 = .ok (.getfield 28, 3) := by decide +kernel
theorem dX1_takeOutResting_87 : decode cX1_takeOutResting 87 = .ok (.if_icmp .ge 23, 3) := by decide +kernel
theorem dX1_takeOutResting_90 : decode cX1_takeOutResting 90 = .ok (.aload_n 0, 1) := by decide +kernel
theorem dX1_takeOutResting_91 : decode cX1_takeOutResting 91 = .ok (.getfield 31, 3) := by decide +kernel
theorem dX1_takeOutResting_94 : decode cX1_takeOutResting 94 = .ok (.iload_n 3, 1) := by decide +kernel
theorem dX1_takeOutResting_95 : decode cX1_takeOutResting 95 = .ok (.aload_n 0, 1) := by decide +kernel
theorem dX1_takeOutResting_96 : decode cX1_takeOutResting 96 = .ok (.getfield 31, 3) := by decide +kernel
theorem dX1_takeOutResting_99 : decode cX1_takeOutResting 99 = .ok (.iload_n 3, 1) := by decide +kernel
theorem dX1_takeOutResting_100 : decode cX1_takeOutResting 100 = .ok (.iconst 1, 1) := by decide +kernel
theorem dX1_takeOutResting_101 : decode cX1_takeOutResting 101 = .ok (.iadd, 1) := by decide +kernel
theorem dX1_takeOutResting_102 : decode cX1_takeOutResting 102 = .ok (.iaload, 1) := by decide +kernel
theorem dX1_takeOutResting_103 : decode cX1_takeOutResting 103 = .ok (.iastore, 1) := by decide +kernel
theorem dX1_takeOutResting_104 : decode cX1_takeOutResting 104 = .ok (.iinc 3 1, 3) := by decide +kernel
theorem dX1_takeOutResting_107 : decode cX1_takeOutResting 107 = .ok (.goto (-25), 3) := by decide +kernel
theorem dX1_takeOutResting_110 : decode cX1_takeOutResting 110 = .ok (.return_, 1) := by decide +kernel
theorem dX1_noteMeetings_0 : decode cX1_noteMeetings 0 = .ok (.iconst 0, 1) := by decide +kernel
theorem dX1_noteMeetings_1 : decode cX1_noteMeetings 1 = .ok (.istore_n 2, 1) := by decide +kernel
theorem dX1_noteMeetings_2 : decode cX1_noteMeetings 2 = .ok (.iload_n 2, 1) := by decide +kernel
theorem dX1_noteMeetings_3 : decode cX1_noteMeetings 3 = .ok (.aload_n 0, 1) := by decide +kernel
theorem dX1_noteMeetings_4 : decode cX1_noteMeetings 4 = .ok (.getfield 28, 3) := by decide +kernel
theorem dX1_noteMeetings_7 : decode cX1_noteMeetings 7 = .ok (.if_icmp .ge 63, 3) := by decide +kernel
theorem dX1_noteMeetings_10 : decode cX1_noteMeetings 10 = .ok (.aload_n 0, 1) := by decide +kernel
theorem dX1_noteMeetings_11 : decode cX1_noteMeetings 11 = .ok (.getfield 34, 3) := by decide +kernel
theorem dX1_noteMeetings_14 : decode cX1_noteMeetings 14 = .ok (.iload_n 2, 1) := by decide +kernel
theorem dX1_noteMeetings_15 : decode cX1_noteMeetings 15 = .ok (.iconst 0, 1) := by decide +kernel
theorem dX1_noteMeetings_16 : decode cX1_noteMeetings 16 = .ok (.iastore, 1) := by decide +kernel
theorem dX1_noteMeetings_17 : decode cX1_noteMeetings 17 = .ok (.iconst 0, 1) := by decide +kernel
theorem dX1_noteMeetings_18 : decode cX1_noteMeetings 18 = .ok (.istore_n 3, 1) := by decide +kernel
theorem dX1_noteMeetings_19 : decode cX1_noteMeetings 19 = .ok (.iload_n 3, 1) := by decide +kernel
theorem dX1_noteMeetings_20 : decode cX1_noteMeetings 20 = .ok (.aload_n 0, 1) := by decide +kernel
theorem dX1_noteMeetings_21 : decode cX1_noteMeetings 21 = .ok (.getfield 28, 3) := by decide +kernel
theorem dX1_noteMeetings_24 : decode cX1_noteMeetings 24 = .ok (.if_icmp .ge 40, 3) := by decide +kernel
theorem dX1_noteMeetings_27 : decode cX1_noteMeetings 27 = .ok (.aload_n 1, 1) := by decide +kernel
theorem dX1_noteMeetings_28 : decode cX1_noteMeetings 28 = .ok (.aload_n 0, 1) := by decide +kernel
theorem dX1_noteMeetings_29 : decode cX1_noteMeetings 29 = .ok (.getfield 31, 3) := by decide +kernel
theorem dX1_noteMeetings_32 : decode cX1_noteMeetings 32 = .ok (.iload_n 2, 1) := by decide +kernel
theorem dX1_noteMeetings_33 : decode cX1_noteMeetings 33 = .ok (.iaload, 1) := by decide +kernel
theorem dX1_noteMeetings_34 : decode cX1_noteMeetings 34 = .ok (.aload_n 0, 1) := by decide +kernel
theorem dX1_noteMeetings_35 : decode cX1_noteMeetings 35 = .ok (.getfield 31, 3) := by decide +kernel
theorem dX1_noteMeetings_38 : decode cX1_noteMeetings 38 = .ok (.iload_n 3, 1) := by decide +kernel
theorem dX1_noteMeetings_39 : decode cX1_noteMeetings 39 = .ok (.iaload, 1) := by decide +kernel
theorem dX1_noteMeetings_40 : decode cX1_noteMeetings 40 = .ok (.invokevirtual 82, 3) := by decide +kernel
theorem dX1_noteMeetings_43 : decode cX1_noteMeetings 43 = .ok (.ifCond .le 15, 3) := by decide +kernel
theorem dX1_noteMeetings_46 : decode cX1_noteMeetings 46 = .ok (.aload_n 0, 1) := by decide +kernel
theorem dX1_noteMeetings_47 : decode cX1_noteMeetings 47 = .ok (.getfield 34, 3) := by decide +kernel
theorem dX1_noteMeetings_50 : decode cX1_noteMeetings 50 = .ok (.iload_n 2, 1) := by decide +kernel
theorem dX1_noteMeetings_51 : decode cX1_noteMeetings 51 = .ok (.dup2, 1) := by decide +kernel
theorem dX1_noteMeetings_52 : decode cX1_noteMeetings 52 = .ok (.iaload, 1) := by decide +kernel
theorem dX1_noteMeetings_53 : decode cX1_noteMeetings 53 = .ok (.iconst 1, 1) := by decide +kernel
theorem dX1_noteMeetings_54 : decode cX1_noteMeetings 54 = .ok (.iload_n 3, 1) := by decide +kernel
theorem dX1_noteMeetings_55 : decode cX1_noteMeetings 55 = .ok (.ishl, 1) := by decide +kernel
theorem dX1_noteMeetings_56 : decode cX1_noteMeetings 56 = .ok (.ior, 1) := by decide +kernel
theorem dX1_noteMeetings_57 : decode cX1_noteMeetings 57 = .ok (.iastore, 1) := by decide +kernel
theorem dX1_noteMeetings_58 : decode cX1_noteMeetings 58 = .ok (.iinc 3 1, 3) := by decide +kernel
theorem dX1_noteMeetings_61 : decode cX1_noteMeetings 61 = .ok (.goto (-42), 3) := by decide +kernel
theorem dX1_noteMeetings_64 : decode cX1_noteMeetings 64 = .ok (.iinc 2 1, 3) := by decide +kernel
theorem dX1_noteMeetings_67 : decode cX1_noteMeetings 67 = .ok (.goto (-65), 3) := by decide +kernel
theorem dX1_noteMeetings_70 : decode cX1_noteMeetings 70 = .ok (.return_, 1) := by decide +kernel
theorem dX1_secondFor_0 : decode cX1_secondFor 0 = .ok (.aload_n 0, 1) := by decide +kernel
theorem dX1_secondFor_1 : decode cX1_secondFor 1 = .ok (.iload_n 2, 1) := by decide +kernel
theorem dX1_secondFor_2 : decode cX1_secondFor 2 = .ok (.iconst 1, 1) := by decide +kernel
theorem dX1_secondFor_3 : decode cX1_secondFor 3 = .ok (.iload_n 1, 1) := by decide +kernel
theorem dX1_secondFor_4 : decode cX1_secondFor 4 = .ok (.ishl, 1) := by decide +kernel
theorem dX1_secondFor_5 : decode cX1_secondFor 5 = .ok (.ior, 1) := by decide +kernel
theorem dX1_secondFor_6 : decode cX1_secondFor 6 = .ok (.iload_n 3, 1) := by decide +kernel
theorem dX1_secondFor_7 : decode cX1_secondFor 7 = .ok (.iconst 1, 1) := by decide +kernel
theorem dX1_secondFor_8 : decode cX1_secondFor 8 = .ok (.iadd, 1) := by decide +kernel
theorem dX1_secondFor_9 : decode cX1_secondFor 9 = .ok (.invokevirtual 56, 3) := by decide +kernel
theorem dX1_secondFor_12 : decode cX1_secondFor 12 = .ok (.istore 4, 2) := by decide +kernel
theorem dX1_secondFor_14 : decode cX1_secondFor 14 = .ok (.iload_n 1, 1) := by decide +kernel
theorem dX1_secondFor_15 : decode cX1_secondFor 15 = .ok (.iconst 1, 1) := by decide +kernel
theorem dX1_secondFor_16 : decode cX1_secondFor 16 = .ok (.iadd, 1) := by decide +kernel
theorem dX1_secondFor_17 : decode cX1_secondFor 17 = .ok (.istore 5, 2) := by decide +kernel
theorem dX1_secondFor_19 : decode cX1_secondFor 19 = .ok (.iload 5, 2) := by decide +kernel
theorem dX1_secondFor_21 : decode cX1_secondFor 21 = .ok (.aload_n 0, 1) := by decide +kernel
theorem dX1_secondFor_22 : decode cX1_secondFor 22 = .ok (.getfield 28, 3) := by decide +kernel
theorem dX1_secondFor_25 : decode cX1_secondFor 25 = .ok (.if_icmp .ge 35, 3) := by decide +kernel
theorem dX1_secondFor_28 : decode cX1_secondFor 28 = .ok (.iload_n 2, 1) := by decide +kernel
theorem dX1_secondFor_29 : decode cX1_secondFor 29 = .ok (.iload 5, 2) := by decide +kernel
theorem dX1_secondFor_31 : decode cX1_secondFor 31 = .ok (.invokestatic 85, 3) := by decide +kernel
theorem dX1_secondFor_34 : decode cX1_secondFor 34 = .ok (.ifCond .eq 20, 3) := by decide +kernel
theorem dX1_secondFor_37 : decode cX1_secondFor 37 = .ok (.aload_n 0, 1) := by decide +kernel
theorem dX1_secondFor_38 : decode cX1_secondFor 38 = .ok (.iload_n 1, 1) := by decide +kernel
theorem dX1_secondFor_39 : decode cX1_secondFor 39 = .ok (.iload 5, 2) := by decide +kernel
theorem dX1_secondFor_41 : decode cX1_secondFor 41 = .ok (.iload_n 2, 1) := by decide +kernel
theorem dX1_secondFor_42 : decode cX1_secondFor 42 = .ok (.iload_n 3, 1) := by decide +kernel
theorem dX1_secondFor_43 : decode cX1_secondFor 43 = .ok (.invokevirtual 89, 3) := by decide +kernel
theorem dX1_secondFor_46 : decode cX1_secondFor 46 = .ok (.iload 4, 2) := by decide +kernel
theorem dX1_secondFor_48 : decode cX1_secondFor 48 = .ok (.if_icmp .ne 6, 3) := by decide +kernel
theorem dX1_secondFor_51 : decode cX1_secondFor 51 = .ok (.iload 5, 2) := by decide +kernel
theorem dX1_secondFor_53 : decode cX1_secondFor 53 = .ok (.ireturn, 1) := by decide +kernel
theorem dX1_secondFor_54 : decode cX1_secondFor 54 = .ok (.iinc 5 1, 3) := by decide +kernel
theorem dX1_secondFor_57 : decode cX1_secondFor 57 = .ok (.goto (-38), 3) := by decide +kernel
theorem dX1_secondFor_60 : decode cX1_secondFor 60 = .ok (.iload_n 1, 1) := by decide +kernel
theorem dX1_secondFor_61 : decode cX1_secondFor 61 = .ok (.ireturn, 1) := by decide +kernel
theorem dX1_fewestRematches_0 : decode cX1_fewestRematches 0 = .ok (.iload_n 2, 1) := by decide +kernel
theorem dX1_fewestRematches_1 : decode cX1_fewestRematches 1 = .ok (.ifCond .le 16, 3) := by decide +kernel
theorem dX1_fewestRematches_4 : decode cX1_fewestRematches 4 = .ok (.iload_n 1, 1) := by decide +kernel
theorem dX1_fewestRematches_5 : decode cX1_fewestRematches 5 = .ok (.ifCond .le 12, 3) := by decide +kernel
theorem dX1_fewestRematches_8 : decode cX1_fewestRematches 8 = .ok (.iload_n 1, 1) := by decide +kernel
theorem dX1_fewestRematches_9 : decode cX1_fewestRematches 9 = .ok (.aload_n 0, 1) := by decide +kernel
theorem dX1_fewestRematches_10 : decode cX1_fewestRematches 10 = .ok (.getfield 37, 3) := by decide +kernel
theorem dX1_fewestRematches_13 : decode cX1_fewestRematches 13 = .ok (.arraylength, 1) := by decide +kernel
theorem dX1_fewestRematches_14 : decode cX1_fewestRematches 14 = .ok (.if_icmp .lt 5, 3) := by decide +kernel
theorem dX1_fewestRematches_17 : decode cX1_fewestRematches 17 = .ok (.iconst 0, 1) := by decide +kernel
theorem dX1_fewestRematches_18 : decode cX1_fewestRematches 18 = .ok (.ireturn, 1) := by decide +kernel
theorem dX1_fewestRematches_19 : decode cX1_fewestRematches 19 = .ok (.aload_n 0, 1) := by decide +kernel
theorem dX1_fewestRematches_20 : decode cX1_fewestRematches 20 = .ok (.getfield 37, 3) := by decide +kernel
theorem dX1_fewestRematches_23 : decode cX1_fewestRematches 23 = .ok (.iload_n 1, 1) := by decide +kernel
theorem dX1_fewestRematches_24 : decode cX1_fewestRematches 24 = .ok (.iaload, 1) := by decide +kernel
theorem dX1_fewestRematches_25 : decode cX1_fewestRematches 25 = .ok (.iconst (-1), 1) := by decide +kernel
theorem dX1_fewestRematches_26 : decode cX1_fewestRematches 26 = .ok (.if_icmp .ne 15, 3) := by decide +kernel
theorem dX1_fewestRematches_29 : decode cX1_fewestRematches 29 = .ok (.aload_n 0, 1) := by decide +kernel
theorem dX1_fewestRematches_30 : decode cX1_fewestRematches 30 = .ok (.getfield 37, 3) := by decide +kernel
theorem dX1_fewestRematches_33 : decode cX1_fewestRematches 33 = .ok (.iload_n 1, 1) := by decide +kernel
theorem dX1_fewestRematches_34 : decode cX1_fewestRematches 34 = .ok (.aload_n 0, 1) := by decide +kernel
theorem dX1_fewestRematches_35 : decode cX1_fewestRematches 35 = .ok (.iload_n 1, 1) := by decide +kernel
theorem dX1_fewestRematches_36 : decode cX1_fewestRematches 36 = .ok (.iload_n 2, 1) := by decide +kernel
theorem dX1_fewestRematches_37 : decode cX1_fewestRematches 37 = .ok (.invokevirtual 93, 3) := by decide +kernel
theorem dX1_fewestRematches_40 : decode cX1_fewestRematches 40 = .ok (.iastore, 1) := by decide +kernel
theorem dX1_fewestRematches_41 : decode cX1_fewestRematches 41 = .ok (.aload_n 0, 1) := by decide +kernel
theorem dX1_fewestRematches_42 : decode cX1_fewestRematches 42 = .ok (.getfield 37, 3) := by decide +kernel
theorem dX1_fewestRematches_45 : decode cX1_fewestRematches 45 = .ok (.iload_n 1, 1) := by decide +kernel
theorem dX1_fewestRematches_46 : decode cX1_fewestRematches 46 = .ok (.iaload, 1) := by decide +kernel
theorem dX1_fewestRematches_47 : decode cX1_fewestRematches 47 = .ok (.ireturn, 1) := by decide +kernel
theorem dX1_reckonFewest_0 : decode cX1_reckonFewest 0 = .ok (.iload_n 1, 1) := by decide +kernel
theorem dX1_reckonFewest_1 : decode cX1_reckonFewest 1 = .ok (.invokestatic 60, 3) := by decide +kernel
theorem dX1_reckonFewest_4 : decode cX1_reckonFewest 4 = .ok (.istore_n 3, 1) := by decide +kernel
theorem dX1_reckonFewest_5 : decode cX1_reckonFewest 5 = .ok (.iload_n 1, 1) := by decide +kernel
theorem dX1_reckonFewest_6 : decode cX1_reckonFewest 6 = .ok (.iconst 1, 1) := by decide +kernel
theorem dX1_reckonFewest_7 : decode cX1_reckonFewest 7 = .ok (.iload_n 3, 1) := by decide +kernel
theorem dX1_reckonFewest_8 : decode cX1_reckonFewest 8 = .ok (.ishl, 1) := by decide +kernel
theorem dX1_reckonFewest_9 : decode cX1_reckonFewest 9 = .ok (.iconst (-1), 1) := by decide +kernel
theorem dX1_reckonFewest_10 : decode cX1_reckonFewest 10 = .ok (.ixor, 1) := by decide +kernel
theorem dX1_reckonFewest_11 : decode cX1_reckonFewest 11 = .ok (.iand, 1) := by decide +kernel
theorem dX1_reckonFewest_12 : decode cX1_reckonFewest 12 = .ok (.istore 4, 2) := by decide +kernel
theorem dX1_reckonFewest_14 : decode cX1_reckonFewest 14 = .ok (.iload_n 2, 1) := by decide +kernel
theorem dX1_reckonFewest_15 : decode cX1_reckonFewest 15 = .ok (.istore 5, 2) := by decide +kernel
theorem dX1_reckonFewest_17 : decode cX1_reckonFewest 17 = .ok (.iload_n 3, 1) := by decide +kernel
theorem dX1_reckonFewest_18 : decode cX1_reckonFewest 18 = .ok (.iconst 1, 1) := by decide +kernel
theorem dX1_reckonFewest_19 : decode cX1_reckonFewest 19 = .ok (.iadd, 1) := by decide +kernel
theorem dX1_reckonFewest_20 : decode cX1_reckonFewest 20 = .ok (.istore 6, 2) := by decide +kernel
theorem dX1_reckonFewest_22 : decode cX1_reckonFewest 22 = .ok (.iload 6, 2) := by decide +kernel
theorem dX1_reckonFewest_24 : decode cX1_reckonFewest 24 = .ok (.aload_n 0, 1) := by decide +kernel
theorem dX1_reckonFewest_25 : decode cX1_reckonFewest 25 = .ok (.getfield 28, 3) := by decide +kernel
theorem dX1_reckonFewest_28 : decode cX1_reckonFewest 28 = .ok (.if_icmp .ge 43, 3) := by decide +kernel
theorem dX1_reckonFewest_31 : decode cX1_reckonFewest 31 = .ok (.iload 5, 2) := by decide +kernel
theorem dX1_reckonFewest_33 : decode cX1_reckonFewest 33 = .ok (.ifCond .le 38, 3) := by decide +kernel
theorem dX1_reckonFewest_36 : decode cX1_reckonFewest 36 = .ok (.iload 4, 2) := by decide +kernel
theorem dX1_reckonFewest_38 : decode cX1_reckonFewest 38 = .ok (.iload 6, 2) := by decide +kernel
theorem dX1_reckonFewest_40 : decode cX1_reckonFewest 40 = .ok (.invokestatic 85, 3) := by decide +kernel
theorem dX1_reckonFewest_43 : decode cX1_reckonFewest 43 = .ok (.ifCond .eq 22, 3) := by decide +kernel
theorem dX1_reckonFewest_46 : decode cX1_reckonFewest 46 = .ok (.iload 5, 2) := by decide +kernel
theorem dX1_reckonFewest_48 : decode cX1_reckonFewest 48 = .ok (.aload_n 0, 1) := by decide +kernel
theorem dX1_reckonFewest_49 : decode cX1_reckonFewest 49 = .ok (.iload_n 3, 1) := by decide +kernel
theorem dX1_reckonFewest_50 : decode cX1_reckonFewest 50 = .ok (.iload 6, 2) := by decide +kernel
theorem dX1_reckonFewest_52 : decode cX1_reckonFewest 52 = .ok (.iload 4, 2) := by decide +kernel
theorem dX1_reckonFewest_54 : decode cX1_reckonFewest 54 = .ok (.iload_n 2, 1) := by decide +kernel
theorem dX1_reckonFewest_55 : decode cX1_reckonFewest 55 = .ok (.iconst 1, 1) := by decide +kernel
theorem dX1_reckonFewest_56 : decode cX1_reckonFewest 56 = .ok (.isub, 1) := by decide +kernel
theorem dX1_reckonFewest_57 : decode cX1_reckonFewest 57 = .ok (.invokevirtual 89, 3) := by decide +kernel
theorem dX1_reckonFewest_60 : decode cX1_reckonFewest 60 = .ok (.invokestatic 96, 3) := by decide +kernel
theorem dX1_reckonFewest_63 : decode cX1_reckonFewest 63 = .ok (.istore 5, 2) := by decide +kernel
theorem dX1_reckonFewest_65 : decode cX1_reckonFewest 65 = .ok (.iinc 6 1, 3) := by decide +kernel
theorem dX1_reckonFewest_68 : decode cX1_reckonFewest 68 = .ok (.goto (-46), 3) := by decide +kernel
theorem dX1_reckonFewest_71 : decode cX1_reckonFewest 71 = .ok (.iload 5, 2) := by decide +kernel
theorem dX1_reckonFewest_73 : decode cX1_reckonFewest 73 = .ok (.ireturn, 1) := by decide +kernel
theorem dX1_rematchesWith_0 : decode cX1_rematchesWith 0 = .ok (.aload_n 0, 1) := by decide +kernel
theorem dX1_rematchesWith_1 : decode cX1_rematchesWith 1 = .ok (.iload_n 3, 1) := by decide +kernel
theorem dX1_rematchesWith_2 : decode cX1_rematchesWith 2 = .ok (.iconst 1, 1) := by decide +kernel
theorem dX1_rematchesWith_3 : decode cX1_rematchesWith 3 = .ok (.iload_n 2, 1) := by decide +kernel
theorem dX1_rematchesWith_4 : decode cX1_rematchesWith 4 = .ok (.ishl, 1) := by decide +kernel
theorem dX1_rematchesWith_5 : decode cX1_rematchesWith 5 = .ok (.iconst (-1), 1) := by decide +kernel
theorem dX1_rematchesWith_6 : decode cX1_rematchesWith 6 = .ok (.ixor, 1) := by decide +kernel
theorem dX1_rematchesWith_7 : decode cX1_rematchesWith 7 = .ok (.iand, 1) := by decide +kernel
theorem dX1_rematchesWith_8 : decode cX1_rematchesWith 8 = .ok (.iload 4, 2) := by decide +kernel
theorem dX1_rematchesWith_10 : decode cX1_rematchesWith 10 = .ok (.invokevirtual 56, 3) := by decide +kernel
theorem dX1_rematchesWith_13 : decode cX1_rematchesWith 13 = .ok (.istore 5, 2) := by decide +kernel
theorem dX1_rematchesWith_15 : decode cX1_rematchesWith 15 = .ok (.aload_n 0, 1) := by decide +kernel
theorem dX1_rematchesWith_16 : decode cX1_rematchesWith 16 = .ok (.getfield 34, 3) := by decide +kernel
theorem dX1_rematchesWith_19 : decode cX1_rematchesWith 19 = .ok (.iload_n 1, 1) := by decide +kernel
theorem dX1_rematchesWith_20 : decode cX1_rematchesWith 20 = .ok (.iaload, 1) := by decide +kernel
theorem dX1_rematchesWith_21 : decode cX1_rematchesWith 21 = .ok (.iload_n 2, 1) := by decide +kernel
theorem dX1_rematchesWith_22 : decode cX1_rematchesWith 22 = .ok (.invokestatic 85, 3) := by decide +kernel
theorem dX1_rematchesWith_25 : decode cX1_rematchesWith 25 = .ok (.ifCond .eq 10, 3) := by decide +kernel
theorem dX1_rematchesWith_28 : decode cX1_rematchesWith 28 = .ok (.iload 5, 2) := by decide +kernel
theorem dX1_rematchesWith_30 : decode cX1_rematchesWith 30 = .ok (.iconst 1, 1) := by decide +kernel
theorem dX1_rematchesWith_31 : decode cX1_rematchesWith 31 = .ok (.iadd, 1) := by decide +kernel
theorem dX1_rematchesWith_32 : decode cX1_rematchesWith 32 = .ok (.goto 5, 3) := by decide +kernel
theorem dX1_rematchesWith_35 : decode cX1_rematchesWith 35 = .ok (.iload 5, 2) := by decide +kernel
theorem dX1_rematchesWith_37 : decode cX1_rematchesWith 37 = .ok (.ireturn, 1) := by decide +kernel
theorem dX1_has_0 : decode cX1_has 0 = .ok (.iload_n 0, 1) := by decide +kernel
theorem dX1_has_1 : decode cX1_has 1 = .ok (.iload_n 1, 1) := by decide +kernel
theorem dX1_has_2 : decode cX1_has 2 = .ok (.ishr, 1) := by decide +kernel
theorem dX1_has_3 : decode cX1_has 3 = .ok (.iconst 1, 1) := by decide +kernel
theorem dX1_has_4 : decode cX1_has 4 = .ok (.iand, 1) := by decide +kernel
theorem dX1_has_5 : decode cX1_has 5 = .ok (.ifCond .eq 7, 3) := by decide +kernel
theorem dX1_has_8 : decode cX1_has 8 = .ok (.iconst 1, 1) := by decide +kernel
theorem dX1_has_9 : decode cX1_has 9 = .ok (.goto 4, 3) := by decide +kernel
theorem dX1_has_12 : decode cX1_has 12 = .ok (.iconst 0, 1) := by decide +kernel
theorem dX1_has_13 : decode cX1_has 13 = .ok (.ireturn, 1) := by decide +kernel
theorem dX1_firstOf_0 : decode cX1_firstOf 0 = .ok (.iload_n 0, 1) := by decide +kernel
theorem dX1_firstOf_1 : decode cX1_firstOf 1 = .ok (.invokestatic 101, 3) := by decide +kernel
theorem dX1_firstOf_4 : decode cX1_firstOf 4 = .ok (.bipush 11, 2) := by decide +kernel
theorem dX1_firstOf_6 : decode cX1_firstOf 6 = .ok (.invokestatic 96, 3) := by decide +kernel
theorem dX1_firstOf_9 : decode cX1_firstOf 9 = .ok (.ireturn, 1) := by decide +kernel
