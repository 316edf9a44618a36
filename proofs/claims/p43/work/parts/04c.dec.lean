/-! decode rows -/
theorem dX5_init_0 : decode cX5_init 0 = .ok (.aload_n 0, 1) := by decide +kernel
theorem dX5_init_1 : decode cX5_init 1 = .ok (.invokespecial 3, 3) := by decide +kernel
theorem dX5_init_4 : decode cX5_init 4 = .ok (.aload_n 0, 1) := by decide +kernel
theorem dX5_init_5 : decode cX5_init 5 = .ok (.sipush 2000, 3) := by decide +kernel
theorem dX5_init_8 : decode cX5_init 8 = .ok (.newarray .byte, 2) := by decide +kernel
theorem dX5_init_10 : decode cX5_init 10 = .ok (.putfield 9, 3) := by decide +kernel
theorem dX5_init_13 : decode cX5_init 13 = .ok (.aload_n 0, 1) := by decide +kernel
theorem dX5_init_14 : decode cX5_init 14 = .ok (.iconst 0, 1) := by decide +kernel
theorem dX5_init_15 : decode cX5_init 15 = .ok (.putfield 15, 3) := by decide +kernel
theorem dX5_init_18 : decode cX5_init 18 = .ok (.aload_n 0, 1) := by decide +kernel
theorem dX5_init_19 : decode cX5_init 19 = .ok (.sipush 401, 3) := by decide +kernel
theorem dX5_init_22 : decode cX5_init 22 = .ok (.anewarray 19, 3) := by decide +kernel
theorem dX5_init_25 : decode cX5_init 25 = .ok (.putfield 21, 3) := by decide +kernel
theorem dX5_init_28 : decode cX5_init 28 = .ok (.aload_n 0, 1) := by decide +kernel
theorem dX5_init_29 : decode cX5_init 29 = .ok (.sipush 401, 3) := by decide +kernel
theorem dX5_init_32 : decode cX5_init 32 = .ok (.newarray .int, 2) := by decide +kernel
theorem dX5_init_34 : decode cX5_init 34 = .ok (.putfield 25, 3) := by decide +kernel
theorem dX5_init_37 : decode cX5_init 37 = .ok (.aload_n 0, 1) := by decide +kernel
theorem dX5_init_38 : decode cX5_init 38 = .ok (.sipush 401, 3) := by decide +kernel
theorem dX5_init_41 : decode cX5_init 41 = .ok (.newarray .int, 2) := by decide +kernel
theorem dX5_init_43 : decode cX5_init 43 = .ok (.putfield 29, 3) := by decide +kernel
theorem dX5_init_46 : decode cX5_init 46 = .ok (.aload_n 0, 1) := by decide +kernel
theorem dX5_init_47 : decode cX5_init 47 = .ok (.iconst 0, 1) := by decide +kernel
theorem dX5_init_48 : decode cX5_init 48 = .ok (.putfield 32, 3) := by decide +kernel
theorem dX5_init_51 : decode cX5_init 51 = .ok (.return_, 1) := by decide +kernel
theorem dX5_append_0 : decode cX5_append 0 = .ok (.bipush 24, 2) := by decide +kernel
theorem dX5_append_2 : decode cX5_append 2 = .ok (.istore_n 2, 1) := by decide +kernel
theorem dX5_append_3 : decode cX5_append 3 = .ok (.iload_n 2, 1) := by decide +kernel
theorem dX5_append_4 : decode cX5_append 4 = .ok (.ifCond .lt 42, 3) := by decide +kernel
theorem dX5_append_7 : decode cX5_append 7 = .ok (.aload_n 0, 1) := by decide +kernel
theorem dX5_append_8 : decode cX5_append 8 = .ok (.getfield 15, 3) := by decide +kernel
theorem dX5_append_11 : decode cX5_append 11 = .ok (.sipush 2000, 3) := by decide +kernel
theorem dX5_append_14 : decode cX5_append 14 = .ok (.if_icmp .ge 32, 3) := by decide +kernel
theorem dX5_append_17 : decode cX5_append 17 = .ok (.aload_n 0, 1) := by decide +kernel
theorem dX5_append_18 : decode cX5_append 18 = .ok (.getfield 9, 3) := by decide +kernel
theorem dX5_append_21 : decode cX5_append 21 = .ok (.aload_n 0, 1) := by decide +kernel
theorem dX5_append_22 : decode cX5_append 22 = .ok (.getfield 15, 3) := by decide +kernel
theorem dX5_append_25 : decode cX5_append 25 = .ok (.iload_n 1, 1) := by decide +kernel
theorem dX5_append_26 : decode cX5_append 26 = .ok (.iload_n 2, 1) := by decide +kernel
theorem dX5_append_27 : decode cX5_append 27 = .ok (.ishr, 1) := by decide +kernel
theorem dX5_append_28 : decode cX5_append 28 = .ok (.i2b, 1) := by decide +kernel
theorem dX5_append_29 : decode cX5_append 29 = .ok (.bastore, 1) := by decide +kernel
theorem dX5_append_30 : decode cX5_append 30 = .ok (.aload_n 0, 1) := by decide +kernel
theorem dX5_append_31 : decode cX5_append 31 = .ok (.dup, 1) := by decide +kernel
theorem dX5_append_32 : decode cX5_append 32 = .ok (.getfield 15, 3) := by decide +kernel
theorem dX5_append_35 : decode cX5_append 35 = .ok (.iconst 1, 1) := by decide +kernel
theorem dX5_append_36 : decode cX5_append 36 = .ok (.iadd, 1) := by decide +kernel
theorem dX5_append_37 : decode cX5_append 37 = .ok (.putfield 15, 3) := by decide +kernel
theorem dX5_append_40 : decode cX5_append 40 = .ok (.iinc 2 (-8), 3) := by decide +kernel
theorem dX5_append_43 : decode cX5_append 43 = .ok (.goto (-40), 3) := by decide +kernel
theorem dX5_append_46 : decode cX5_append 46 = .ok (.return_, 1) := by decide +kernel
theorem dX5_scan_0 : decode cX5_scan 0 = .ok (.iconst 0, 1) := by decide +kernel
theorem dX5_scan_1 : decode cX5_scan 1 = .ok (.istore_n 1, 1) := by decide +kernel
theorem dX5_scan_2 : decode cX5_scan 2 = .ok (.iconst 1, 1) := by decide +kernel
theorem dX5_scan_3 : decode cX5_scan 3 = .ok (.istore_n 2, 1) := by decide +kernel
theorem dX5_scan_4 : decode cX5_scan 4 = .ok (.aload_n 0, 1) := by decide +kernel
theorem dX5_scan_5 : decode cX5_scan 5 = .ok (.iconst 0, 1) := by decide +kernel
theorem dX5_scan_6 : decode cX5_scan 6 = .ok (.putfield 32, 3) := by decide +kernel
theorem dX5_scan_9 : decode cX5_scan 9 = .ok (.iload_n 2, 1) := by decide +kernel
theorem dX5_scan_10 : decode cX5_scan 10 = .ok (.ifCond .eq 122, 3) := by decide +kernel
theorem dX5_scan_13 : decode cX5_scan 13 = .ok (.aload_n 0, 1) := by decide +kernel
theorem dX5_scan_14 : decode cX5_scan 14 = .ok (.getfield 32, 3) := by decide +kernel
theorem dX5_scan_17 : decode cX5_scan 17 = .ok (.sipush 400, 3) := by decide +kernel
theorem dX5_scan_20 : decode cX5_scan 20 = .ok (.if_icmp .gt 112, 3) := by decide +kernel
theorem dX5_scan_23 : decode cX5_scan 23 = .ok (.aload_n 0, 1) := by decide +kernel
theorem dX5_scan_24 : decode cX5_scan 24 = .ok (.iload_n 1, 1) := by decide +kernel
theorem dX5_scan_25 : decode cX5_scan 25 = .ok (.invokevirtual 35, 3) := by decide +kernel
theorem dX5_scan_28 : decode cX5_scan 28 = .ok (.istore_n 3, 1) := by decide +kernel
theorem dX5_scan_29 : decode cX5_scan 29 = .ok (.aload_n 0, 1) := by decide +kernel
theorem dX5_scan_30 : decode cX5_scan 30 = .ok (.iload_n 3, 1) := by decide +kernel
theorem dX5_scan_31 : decode cX5_scan 31 = .ok (.invokevirtual 39, 3) := by decide +kernel
theorem dX5_scan_34 : decode cX5_scan 34 = .ok (.istore_n 1, 1) := by decide +kernel
theorem dX5_scan_35 : decode cX5_scan 35 = .ok (.aload_n 0, 1) := by decide +kernel
theorem dX5_scan_36 : decode cX5_scan 36 = .ok (.iload_n 3, 1) := by decide +kernel
theorem dX5_scan_37 : decode cX5_scan 37 = .ok (.iload_n 1, 1) := by decide +kernel
theorem dX5_scan_38 : decode cX5_scan 38 = .ok (.invokevirtual 42, 3) := by decide +kernel
theorem dX5_scan_41 : decode cX5_scan 41 = .ok (.astore 4, 2) := by decide +kernel
theorem dX5_scan_43 : decode cX5_scan 43 = .ok (.aload_n 0, 1) := by decide +kernel
theorem dX5_scan_44 : decode cX5_scan 44 = .ok (.getfield 32, 3) := by decide +kernel
theorem dX5_scan_47 : decode cX5_scan 47 = .ok (.sipush 400, 3) := by decide +kernel
theorem dX5_scan_50 : decode cX5_scan 50 = .ok (.if_icmp .ne 16, 3) := by decide +kernel
theorem dX5_scan_53 : decode cX5_scan 53 = .ok (.aload 4, 2) := by decide +kernel
theorem dX5_scan_55 : decode cX5_scan 55 = .ok (.getstatic 46, 3) := by decide +kernel
theorem dX5_scan_58 : decode cX5_scan 58 = .ok (.if_acmp .eq 8, 3) := by decide +kernel
theorem dX5_scan_61 : decode cX5_scan 61 = .ok (.getstatic 50, 3) := by decide +kernel
theorem dX5_scan_64 : decode cX5_scan 64 = .ok (.astore 4, 2) := by decide +kernel
theorem dX5_scan_66 : decode cX5_scan 66 = .ok (.aload_n 0, 1) := by decide +kernel
theorem dX5_scan_67 : decode cX5_scan 67 = .ok (.getfield 21, 3) := by decide +kernel
theorem dX5_scan_70 : decode cX5_scan 70 = .ok (.aload_n 0, 1) := by decide +kernel
theorem dX5_scan_71 : decode cX5_scan 71 = .ok (.getfield 32, 3) := by decide +kernel
theorem dX5_scan_74 : decode cX5_scan 74 = .ok (.aload 4, 2) := by decide +kernel
theorem dX5_scan_76 : decode cX5_scan 76 = .ok (.aastore, 1) := by decide +kernel
theorem dX5_scan_77 : decode cX5_scan 77 = .ok (.aload_n 0, 1) := by decide +kernel
theorem dX5_scan_78 : decode cX5_scan 78 = .ok (.getfield 25, 3) := by decide +kernel
theorem dX5_scan_81 : decode cX5_scan 81 = .ok (.aload_n 0, 1) := by decide +kernel
theorem dX5_scan_82 : decode cX5_scan 82 = .ok (.getfield 32, 3) := by decide +kernel
theorem dX5_scan_85 : decode cX5_scan 85 = .ok (.iload_n 3, 1) := by decide +kernel
theorem dX5_scan_86 : decode cX5_scan 86 = .ok (.iastore, 1) := by decide +kernel
theorem dX5_scan_87 : decode cX5_scan 87 = .ok (.aload_n 0, 1) := by decide +kernel
theorem dX5_scan_88 : decode cX5_scan 88 = .ok (.getfield 29, 3) := by decide +kernel
theorem dX5_scan_91 : decode cX5_scan 91 = .ok (.aload_n 0, 1) := by decide +kernel
theorem dX5_scan_92 : decode cX5_scan 92 = .ok (.getfield 32, 3) := by decide +kernel
theorem dX5_scan_95 : decode cX5_scan 95 = .ok (.iload_n 1, 1) := by decide +kernel
theorem dX5_scan_96 : decode cX5_scan 96 = .ok (.iastore, 1) := by decide +kernel
theorem dX5_scan_97 : decode cX5_scan 97 = .ok (.aload 4, 2) := by decide +kernel
theorem dX5_scan_99 : decode cX5_scan 99 = .ok (.getstatic 46, 3) := by decide +kernel
theorem dX5_scan_102 : decode cX5_scan 102 = .ok (.if_acmp .eq 15, 3) := by decide +kernel
theorem dX5_scan_105 : decode cX5_scan 105 = .ok (.aload 4, 2) := by decide +kernel
theorem dX5_scan_107 : decode cX5_scan 107 = .ok (.getstatic 50, 3) := by decide +kernel
theorem dX5_scan_110 : decode cX5_scan 110 = .ok (.if_acmp .eq 7, 3) := by decide +kernel
theorem dX5_scan_113 : decode cX5_scan 113 = .ok (.iconst 1, 1) := by decide +kernel
theorem dX5_scan_114 : decode cX5_scan 114 = .ok (.goto 4, 3) := by decide +kernel
theorem dX5_scan_117 : decode cX5_scan 117 = .ok (.iconst 0, 1) := by decide +kernel
theorem dX5_scan_118 : decode cX5_scan 118 = .ok (.istore_n 2, 1) := by decide +kernel
theorem dX5_scan_119 : decode cX5_scan 119 = .ok (.aload_n 0, 1) := by decide +kernel
theorem dX5_scan_120 : decode cX5_scan 120 = .ok (.dup, 1) := by decide +kernel
theorem dX5_scan_121 : decode cX5_scan 121 = .ok (.getfield 32, 3) := by decide +kernel
theorem dX5_scan_124 : decode cX5_scan 124 = .ok (.iconst 1, 1) := by decide +kernel
theorem dX5_scan_125 : decode cX5_scan 125 = .ok (.iadd, 1) := by decide +kernel
theorem dX5_scan_126 : decode cX5_scan 126 = .ok (.putfield 32, 3) := by decide +kernel
theorem dX5_scan_129 : decode cX5_scan 129 = .ok (.goto (-120), 3) := by decide +kernel
theorem dX5_scan_132 : decode cX5_scan 132 = .ok (.return_, 1) := by decide +kernel
theorem dX5_start_0 : decode cX5_start 0 = .ok (.aload_n 0, 1) := by decide +kernel
theorem dX5_start_1 : decode cX5_start 1 = .ok (.iload_n 1, 1) := by decide +kernel
theorem dX5_start_2 : decode cX5_start 2 = .ok (.invokevirtual 53, 3) := by decide +kernel
theorem dX5_start_5 : decode cX5_start 5 = .ok (.ifCond .eq 12, 3) := by decide +kernel
theorem dX5_start_8 : decode cX5_start 8 = .ok (.aload_n 0, 1) := by decide +kernel
theorem dX5_start_9 : decode cX5_start 9 = .ok (.getfield 25, 3) := by decide +kernel
theorem dX5_start_12 : decode cX5_start 12 = .ok (.iload_n 1, 1) := by decide +kernel
theorem dX5_start_13 : decode cX5_start 13 = .ok (.iaload, 1) := by decide +kernel
theorem dX5_start_14 : decode cX5_start 14 = .ok (.goto 7, 3) := by decide +kernel
theorem dX5_start_17 : decode cX5_start 17 = .ok (.aload_n 0, 1) := by decide +kernel
theorem dX5_start_18 : decode cX5_start 18 = .ok (.getfield 15, 3) := by decide +kernel
theorem dX5_start_21 : decode cX5_start 21 = .ok (.ireturn, 1) := by decide +kernel
theorem dX5_number_0 : decode cX5_number 0 = .ok (.iconst 0, 1) := by decide +kernel
theorem dX5_number_1 : decode cX5_number 1 = .ok (.istore_n 2, 1) := by decide +kernel
theorem dX5_number_2 : decode cX5_number 2 = .ok (.aload_n 0, 1) := by decide +kernel
theorem dX5_number_3 : decode cX5_number 3 = .ok (.iload_n 1, 1) := by decide +kernel
theorem dX5_number_4 : decode cX5_number 4 = .ok (.invokevirtual 53, 3) := by decide +kernel
theorem dX5_number_7 : decode cX5_number 7 = .ok (.ifCond .eq 52, 3) := by decide +kernel
theorem dX5_number_10 : decode cX5_number 10 = .ok (.aload_n 0, 1) := by decide +kernel
theorem dX5_number_11 : decode cX5_number 11 = .ok (.getfield 21, 3) := by decide +kernel
theorem dX5_number_14 : decode cX5_number 14 = .ok (.iload_n 1, 1) := by decide +kernel
theorem dX5_number_15 : decode cX5_number 15 = .ok (.aaload, 1) := by decide +kernel
theorem dX5_number_16 : decode cX5_number 16 = .ok (.getstatic 57, 3) := by decide +kernel
theorem dX5_number_19 : decode cX5_number 19 = .ok (.if_acmp .ne 40, 3) := by decide +kernel
theorem dX5_number_22 : decode cX5_number 22 = .ok (.aload_n 0, 1) := by decide +kernel
theorem dX5_number_23 : decode cX5_number 23 = .ok (.getfield 25, 3) := by decide +kernel
theorem dX5_number_26 : decode cX5_number 26 = .ok (.iload_n 1, 1) := by decide +kernel
theorem dX5_number_27 : decode cX5_number 27 = .ok (.iaload, 1) := by decide +kernel
theorem dX5_number_28 : decode cX5_number 28 = .ok (.istore_n 3, 1) := by decide +kernel
theorem dX5_number_29 : decode cX5_number 29 = .ok (.iload_n 3, 1) := by decide +kernel
theorem dX5_number_30 : decode cX5_number 30 = .ok (.aload_n 0, 1) := by decide +kernel
theorem dX5_number_31 : decode cX5_number 31 = .ok (.getfield 29, 3) := by decide +kernel
theorem dX5_number_34 : decode cX5_number 34 = .ok (.iload_n 1, 1) := by decide +kernel
theorem dX5_number_35 : decode cX5_number 35 = .ok (.iaload, 1) := by decide +kernel
theorem dX5_number_36 : decode cX5_number 36 = .ok (.if_icmp .ge 23, 3) := by decide +kernel
theorem dX5_number_39 : decode cX5_number 39 = .ok (.iload_n 2, 1) := by decide +kernel
theorem dX5_number_40 : decode cX5_number 40 = .ok (.bipush 10, 2) := by decide +kernel
theorem dX5_number_42 : decode cX5_number 42 = .ok (.imul, 1) := by decide +kernel
theorem dX5_number_43 : decode cX5_number 43 = .ok (.aload_n 0, 1) := by decide +kernel
theorem dX5_number_44 : decode cX5_number 44 = .ok (.iload_n 3, 1) := by decide +kernel
theorem dX5_number_45 : decode cX5_number 45 = .ok (.invokevirtual 60, 3) := by decide +kernel
theorem dX5_number_48 : decode cX5_number 48 = .ok (.bipush 48, 2) := by decide +kernel
theorem dX5_number_50 : decode cX5_number 50 = .ok (.isub, 1) := by decide +kernel
theorem dX5_number_51 : decode cX5_number 51 = .ok (.iadd, 1) := by decide +kernel
theorem dX5_number_52 : decode cX5_number 52 = .ok (.istore_n 2, 1) := by decide +kernel
theorem dX5_number_53 : decode cX5_number 53 = .ok (.iinc 3 1, 3) := by decide +kernel
theorem dX5_number_56 : decode cX5_number 56 = .ok (.goto (-27), 3) := by decide +kernel
theorem dX5_number_59 : decode cX5_number 59 = .ok (.iload_n 2, 1) := by decide +kernel
theorem dX5_number_60 : decode cX5_number 60 = .ok (.ireturn, 1) := by decide +kernel
theorem dX5_sameText_0 : decode cX5_sameText 0 = .ok (.aload_n 0, 1) := by decide +kernel
theorem dX5_sameText_1 : decode cX5_sameText 1 = .ok (.iload_n 1, 1) := by decide +kernel
theorem dX5_sameText_2 : decode cX5_sameText 2 = .ok (.invokevirtual 53, 3) := by decide +kernel
theorem dX5_sameText_5 : decode cX5_sameText 5 = .ok (.ifCond .eq 11, 3) := by decide +kernel
theorem dX5_sameText_8 : decode cX5_sameText 8 = .ok (.aload_n 0, 1) := by decide +kernel
theorem dX5_sameText_9 : decode cX5_sameText 9 = .ok (.iload_n 2, 1) := by decide +kernel
theorem dX5_sameText_10 : decode cX5_sameText 10 = .ok (.invokevirtual 53, 3) := by decide +kernel
theorem dX5_sameText_13 : decode cX5_sameText 13 = .ok (.ifCond .ne 5, 3) := by decide +kernel
theorem dX5_sameText_16 : decode cX5_sameText 16 = .ok (.iconst 0, 1) := by decide +kernel
theorem dX5_sameText_17 : decode cX5_sameText 17 = .ok (.ireturn, 1) := by decide +kernel
theorem dX5_sameText_18 : decode cX5_sameText 18 = .ok (.aload_n 0, 1) := by decide +kernel
theorem dX5_sameText_19 : decode cX5_sameText 19 = .ok (.getfield 29, 3) := by decide +kernel
theorem dX5_sameText_22 : decode cX5_sameText 22 = .ok (.iload_n 1, 1) := by decide +kernel
theorem dX5_sameText_23 : decode cX5_sameText 23 = .ok (.iaload, 1) := by decide +kernel
theorem dX5_sameText_24 : decode cX5_sameText 24 = .ok (.aload_n 0, 1) := by decide +kernel
theorem dX5_sameText_25 : decode cX5_sameText 25 = .ok (.getfield 25, 3) := by decide +kernel
theorem dX5_sameText_28 : decode cX5_sameText 28 = .ok (.iload_n 1, 1) := by decide +kernel
theorem dX5_sameText_29 : decode cX5_sameText 29 = .ok (.iaload, 1) := by decide +kernel
theorem dX5_sameText_30 : decode cX5_sameText 30 = .ok (.isub, 1) := by decide +kernel
theorem dX5_sameText_31 : decode cX5_sameText 31 = .ok (.istore_n 3, 1) := by decide +kernel
theorem dX5_sameText_32 : decode cX5_sameText 32 = .ok (.iload_n 3, 1) := by decide +kernel
theorem dX5_sameText_33 : decode cX5_sameText 33 = .ok (.aload_n 0, 1) := by decide +kernel
theorem dX5_sameText_34 : decode cX5_sameText 34 = .ok (.getfield 29, 3) := by decide +kernel
theorem dX5_sameText_37 : decode cX5_sameText 37 = .ok (.iload_n 2, 1) := by decide +kernel
theorem dX5_sameText_38 : decode cX5_sameText 38 = .ok (.iaload, 1) := by decide +kernel
theorem dX5_sameText_39 : decode cX5_sameText 39 = .ok (.aload_n 0, 1) := by decide +kernel
theorem dX5_sameText_40 : decode cX5_sameText 40 = .ok (.getfield 25, 3) := by decide +kernel
theorem dX5_sameText_43 : decode cX5_sameText 43 = .ok (.iload_n 2, 1) := by decide +kernel
theorem dX5_sameText_44 : decode cX5_sameText 44 = .ok (.iaload, 1) := by decide +kernel
theorem dX5_sameText_45 : decode cX5_sameText 45 = .ok (.isub, 1) := by decide +kernel
theorem dX5_sameText_46 : decode cX5_sameText 46 = .ok (.if_icmp .ne 7, 3) := by decide +kernel
theorem dX5_sameText_49 : decode cX5_sameText 49 = .ok (.iconst 1, 1) := by decide +kernel
theorem dX5_sameText_50 : decode cX5_sameText 50 = .ok (.goto 4, 3) := by decide +kernel
theorem dX5_sameText_53 : decode cX5_sameText 53 = .ok (.iconst 0, 1) := by decide +kernel
theorem dX5_sameText_54 : decode cX5_sameText 54 = .ok (.istore 4, 2) := by decide +kernel
theorem dX5_sameText_56 : decode cX5_sameText 56 = .ok (.iconst 0, 1) := by decide +kernel
theorem dX5_sameText_57 : decode cX5_sameText 57 = .ok (.istore 5, 2) := by decide +kernel
theorem dX5_sameText_59 : decode cX5_sameText 59 = .ok (.iload 4, 2) := by decide +kernel
theorem dX5_sameText_61 : decode cX5_sameText 61 = .ok (.ifCond .eq 51, 3) := by decide +kernel
theorem dX5_sameText_64 : decode cX5_sameText 64 = .ok (.iload 5, 2) := by decide +kernel
theorem dX5_sameText_66 : decode cX5_sameText 66 = .ok (.iload_n 3, 1) := by decide +kernel
theorem dX5_sameText_67 : decode cX5_sameText 67 = .ok (.if_icmp .ge 45, 3) := by decide +kernel
theorem dX5_sameText_70 : decode cX5_sameText 70 = .ok (.aload_n 0, 1) := by decide +kernel
theorem dX5_sameText_71 : decode cX5_sameText 71 = .ok (.aload_n 0, 1) := by decide +kernel
theorem dX5_sameText_72 : decode cX5_sameText 72 = .ok (.getfield 25, 3) := by decide +kernel
theorem dX5_sameText_75 : decode cX5_sameText 75 = .ok (.iload_n 1, 1) := by decide +kernel
theorem dX5_sameText_76 : decode cX5_sameText 76 = .ok (.iaload, 1) := by decide +kernel
theorem dX5_sameText_77 : decode cX5_sameText 77 = .ok (.iload 5, 2) := by decide +kernel
theorem dX5_sameText_79 : decode cX5_sameText 79 = .ok (.iadd, 1) := by decide +kernel
theorem dX5_sameText_80 : decode cX5_sameText 80 = .ok (.invokevirtual 60, 3) := by decide +kernel
theorem dX5_sameText_83 : decode cX5_sameText 83 = .ok (.aload_n 0, 1) := by decide +kernel
theorem dX5_sameText_84 : decode cX5_sameText 84 = .ok (.aload_n 0, 1) := by decide +kernel
theorem dX5_sameText_85 : decode cX5_sameText 85 = .ok (.getfield 25, 3) := by decide +kernel
theorem dX5_sameText_88 : decode cX5_sameText 88 = .ok (.iload_n 2, 1) := by decide +kernel
theorem dX5_sameText_89 : decode cX5_sameText 89 = .ok (.iaload, 1) := by decide +kernel
theorem dX5_sameText_90 : decode cX5_sameText 90 = .ok (.iload 5, 2) := by decide +kernel
theorem dX5_sameText_92 : decode cX5_sameText 92 = .ok (.iadd, 1) := by decide +kernel
theorem dX5_sameText_93 : decode cX5_sameText 93 = .ok (.invokevirtual 60, 3) := by decide +kernel
theorem dX5_sameText_96 : decode cX5_sameText 96 = .ok (.if_icmp .ne 7, 3) := by decide +kernel
theorem dX5_sameText_99 : decode cX5_sameText 99 = .ok (.iconst 1, 1) := by decide +kernel
theorem dX5_sameText_100 : decode cX5_sameText 100 = .ok (.goto 4, 3) := by decide +kernel
theorem dX5_sameText_103 : decode cX5_sameText 103 = .ok (.iconst 0, 1) := by decide +kernel
theorem dX5_sameText_104 : decode cX5_sameText 104 = .ok (.istore 4, 2) := by decide +kernel
theorem dX5_sameText_106 : decode cX5_sameText 106 = .ok (.iinc 5 1, 3) := by decide +kernel
theorem dX5_sameText_109 : decode cX5_sameText 109 = .ok (.goto (-50), 3) := by decide +kernel
theorem dX5_sameText_112 : decode cX5_sameText 112 = .ok (.iload 4, 2) := by decide +kernel
theorem dX5_sameText_114 : decode cX5_sameText 114 = .ok (.ireturn, 1) := by decide +kernel
theorem dX5_hasToken_0 : decode cX5_hasToken 0 = .ok (.iload_n 1, 1) := by decide +kernel
theorem dX5_hasToken_1 : decode cX5_hasToken 1 = .ok (.ifCond .lt 24, 3) := by decide +kernel
theorem dX5_hasToken_4 : decode cX5_hasToken 4 = .ok (.iload_n 1, 1) := by decide +kernel
theorem dX5_hasToken_5 : decode cX5_hasToken 5 = .ok (.aload_n 0, 1) := by decide +kernel
theorem dX5_hasToken_6 : decode cX5_hasToken 6 = .ok (.getfield 32, 3) := by decide +kernel
theorem dX5_hasToken_9 : decode cX5_hasToken 9 = .ok (.if_icmp .ge 16, 3) := by decide +kernel
theorem dX5_hasToken_12 : decode cX5_hasToken 12 = .ok (.iload_n 1, 1) := by decide +kernel
theorem dX5_hasToken_13 : decode cX5_hasToken 13 = .ok (.aload_n 0, 1) := by decide +kernel
theorem dX5_hasToken_14 : decode cX5_hasToken 14 = .ok (.getfield 21, 3) := by decide +kernel
theorem dX5_hasToken_17 : decode cX5_hasToken 17 = .ok (.arraylength, 1) := by decide +kernel
theorem dX5_hasToken_18 : decode cX5_hasToken 18 = .ok (.if_icmp .ge 7, 3) := by decide +kernel
theorem dX5_hasToken_21 : decode cX5_hasToken 21 = .ok (.iconst 1, 1) := by decide +kernel
theorem dX5_hasToken_22 : decode cX5_hasToken 22 = .ok (.goto 4, 3) := by decide +kernel
theorem dX5_hasToken_25 : decode cX5_hasToken 25 = .ok (.iconst 0, 1) := by decide +kernel
theorem dX5_hasToken_26 : decode cX5_hasToken 26 = .ok (.ireturn, 1) := by decide +kernel
theorem dX5_byteAt_0 : decode cX5_byteAt 0 = .ok (.iload_n 1, 1) := by decide +kernel
theorem dX5_byteAt_1 : decode cX5_byteAt 1 = .ok (.ifCond .lt 29, 3) := by decide +kernel
theorem dX5_byteAt_4 : decode cX5_byteAt 4 = .ok (.iload_n 1, 1) := by decide +kernel
theorem dX5_byteAt_5 : decode cX5_byteAt 5 = .ok (.aload_n 0, 1) := by decide +kernel
theorem dX5_byteAt_6 : decode cX5_byteAt 6 = .ok (.getfield 15, 3) := by decide +kernel
theorem dX5_byteAt_9 : decode cX5_byteAt 9 = .ok (.if_icmp .ge 21, 3) := by decide +kernel
theorem dX5_byteAt_12 : decode cX5_byteAt 12 = .ok (.iload_n 1, 1) := by decide +kernel
theorem dX5_byteAt_13 : decode cX5_byteAt 13 = .ok (.aload_n 0, 1) := by decide +kernel
theorem dX5_byteAt_14 : decode cX5_byteAt 14 = .ok (.getfield 9, 3) := by decide +kernel
theorem dX5_byteAt_17 : decode cX5_byteAt 17 = .ok (.arraylength, 1) := by decide +kernel
theorem dX5_byteAt_18 : decode cX5_byteAt 18 = .ok (.if_icmp .ge 12, 3) := by decide +kernel
theorem dX5_byteAt_21 : decode cX5_byteAt 21 = .ok (.aload_n 0, 1) := by decide +kernel
theorem dX5_byteAt_22 : decode cX5_byteAt 22 = .ok (.getfield 9, 3) := by decide +kernel
theorem dX5_byteAt_25 : decode cX5_byteAt 25 = .ok (.iload_n 1, 1) := by decide +kernel
theorem dX5_byteAt_26 : decode cX5_byteAt 26 = .ok (.baload, 1) := by decide +kernel
theorem dX5_byteAt_27 : decode cX5_byteAt 27 = .ok (.goto 4, 3) := by decide +kernel
theorem dX5_byteAt_30 : decode cX5_byteAt 30 = .ok (.iconst 0, 1) := by decide +kernel
theorem dX5_byteAt_31 : decode cX5_byteAt 31 = .ok (.ireturn, 1) := by decide +kernel
theorem dX5_behindBlanks_0 : decode cX5_behindBlanks 0 = .ok (.iload_n 1, 1) := by decide +kernel
theorem dX5_behindBlanks_1 : decode cX5_behindBlanks 1 = .ok (.istore_n 2, 1) := by decide +kernel
theorem dX5_behindBlanks_2 : decode cX5_behindBlanks 2 = .ok (.iload_n 2, 1) := by decide +kernel
theorem dX5_behindBlanks_3 : decode cX5_behindBlanks 3 = .ok (.aload_n 0, 1) := by decide +kernel
theorem dX5_behindBlanks_4 : decode cX5_behindBlanks 4 = .ok (.getfield 15, 3) := by decide +kernel
theorem dX5_behindBlanks_7 : decode cX5_behindBlanks 7 = .ok (.if_icmp .ge 29, 3) := by decide +kernel
theorem dX5_behindBlanks_10 : decode cX5_behindBlanks 10 = .ok (.aload_n 0, 1) := by decide +kernel
theorem dX5_behindBlanks_11 : decode cX5_behindBlanks 11 = .ok (.iload_n 2, 1) := by decide +kernel
theorem dX5_behindBlanks_12 : decode cX5_behindBlanks 12 = .ok (.invokevirtual 60, 3) := by decide +kernel
theorem dX5_behindBlanks_15 : decode cX5_behindBlanks 15 = .ok (.bipush 32, 2) := by decide +kernel
theorem dX5_behindBlanks_17 : decode cX5_behindBlanks 17 = .ok (.if_icmp .eq 13, 3) := by decide +kernel
theorem dX5_behindBlanks_20 : decode cX5_behindBlanks 20 = .ok (.aload_n 0, 1) := by decide +kernel
theorem dX5_behindBlanks_21 : decode cX5_behindBlanks 21 = .ok (.iload_n 2, 1) := by decide +kernel
theorem dX5_behindBlanks_22 : decode cX5_behindBlanks 22 = .ok (.invokevirtual 60, 3) := by decide +kernel
theorem dX5_behindBlanks_25 : decode cX5_behindBlanks 25 = .ok (.bipush 10, 2) := by decide +kernel
theorem dX5_behindBlanks_27 : decode cX5_behindBlanks 27 = .ok (.if_icmp .ne 9, 3) := by decide +kernel
theorem dX5_behindBlanks_30 : decode cX5_behindBlanks 30 = .ok (.iinc 2 1, 3) := by decide +kernel
theorem dX5_behindBlanks_33 : decode cX5_behindBlanks 33 = .ok (.goto (-31), 3) := by decide +kernel
theorem dX5_behindBlanks_36 : decode cX5_behindBlanks 36 = .ok (.iload_n 2, 1) := by decide +kernel
theorem dX5_behindBlanks_37 : decode cX5_behindBlanks 37 = .ok (.ireturn, 1) := by decide +kernel
theorem dX5_endOfToken_0 : decode cX5_endOfToken 0 = .ok (.aload_n 0, 1) := by decide +kernel
theorem dX5_endOfToken_1 : decode cX5_endOfToken 1 = .ok (.iload_n 1, 1) := by decide +kernel
theorem dX5_endOfToken_2 : decode cX5_endOfToken 2 = .ok (.invokevirtual 60, 3) := by decide +kernel
theorem dX5_endOfToken_5 : decode cX5_endOfToken 5 = .ok (.istore_n 2, 1) := by decide +kernel
theorem dX5_endOfToken_6 : decode cX5_endOfToken 6 = .ok (.iload_n 2, 1) := by decide +kernel
theorem dX5_endOfToken_7 : decode cX5_endOfToken 7 = .ok (.invokestatic 63, 3) := by decide +kernel
theorem dX5_endOfToken_10 : decode cX5_endOfToken 10 = .ok (.istore_n 3, 1) := by decide +kernel
theorem dX5_endOfToken_11 : decode cX5_endOfToken 11 = .ok (.iload_n 3, 1) := by decide +kernel
theorem dX5_endOfToken_12 : decode cX5_endOfToken 12 = .ok (.ifCond .ne 16, 3) := by decide +kernel
theorem dX5_endOfToken_15 : decode cX5_endOfToken 15 = .ok (.iload_n 2, 1) := by decide +kernel
theorem dX5_endOfToken_16 : decode cX5_endOfToken 16 = .ok (.invokestatic 66, 3) := by decide +kernel
theorem dX5_endOfToken_19 : decode cX5_endOfToken 19 = .ok (.ifCond .ne 9, 3) := by decide +kernel
theorem dX5_endOfToken_22 : decode cX5_endOfToken 22 = .ok (.aload_n 0, 1) := by decide +kernel
theorem dX5_endOfToken_23 : decode cX5_endOfToken 23 = .ok (.iload_n 1, 1) := by decide +kernel
theorem dX5_endOfToken_24 : decode cX5_endOfToken 24 = .ok (.invokevirtual 69, 3) := by decide +kernel
theorem dX5_endOfToken_27 : decode cX5_endOfToken 27 = .ok (.ireturn, 1) := by decide +kernel
theorem dX5_endOfToken_28 : decode cX5_endOfToken 28 = .ok (.iload_n 1, 1) := by decide +kernel
theorem dX5_endOfToken_29 : decode cX5_endOfToken 29 = .ok (.iconst 1, 1) := by decide +kernel
theorem dX5_endOfToken_30 : decode cX5_endOfToken 30 = .ok (.iadd, 1) := by decide +kernel
theorem dX5_endOfToken_31 : decode cX5_endOfToken 31 = .ok (.istore 4, 2) := by decide +kernel
theorem dX5_endOfToken_33 : decode cX5_endOfToken 33 = .ok (.iload 4, 2) := by decide +kernel
theorem dX5_endOfToken_35 : decode cX5_endOfToken 35 = .ok (.aload_n 0, 1) := by decide +kernel
theorem dX5_endOfToken_36 : decode cX5_endOfToken 36 = .ok (.getfield 15, 3) := by decide +kernel
theorem dX5_endOfToken_39 : decode cX5_endOfToken 39 = .ok (.if_icmp .ge 37, 3) := by decide +kernel
theorem dX5_endOfToken_42 : decode cX5_endOfToken 42 = .ok (.aload_n 0, 1) := by decide +kernel
theorem dX5_endOfToken_43 : decode cX5_endOfToken 43 = .ok (.iload 4, 2) := by decide +kernel
theorem dX5_endOfToken_45 : decode cX5_endOfToken 45 = .ok (.invokevirtual 60, 3) := by decide +kernel
theorem dX5_endOfToken_48 : decode cX5_endOfToken 48 = .ok (.invokestatic 66, 3) := by decide +kernel
theorem dX5_endOfToken_51 : decode cX5_endOfToken 51 = .ok (.ifCond .ne 19, 3) := by decide +kernel
theorem dX5_endOfToken_54 : decode cX5_endOfToken 54 = .ok (.iload_n 3, 1) := by decide +kernel
theorem dX5_endOfToken_55 : decode cX5_endOfToken 55 = .ok (.ifCond .eq 21, 3) := by decide +kernel
theorem dX5_endOfToken_58 : decode cX5_endOfToken 58 = .ok (.aload_n 0, 1) := by decide +kernel
theorem dX5_endOfToken_59 : decode cX5_endOfToken 59 = .ok (.iload 4, 2) := by decide +kernel
theorem dX5_endOfToken_61 : decode cX5_endOfToken 61 = .ok (.invokevirtual 60, 3) := by decide +kernel
theorem dX5_endOfToken_64 : decode cX5_endOfToken 64 = .ok (.invokestatic 63, 3) := by decide +kernel
theorem dX5_endOfToken_67 : decode cX5_endOfToken 67 = .ok (.ifCond .eq 9, 3) := by decide +kernel
theorem dX5_endOfToken_70 : decode cX5_endOfToken 70 = .ok (.iinc 4 1, 3) := by decide +kernel
theorem dX5_endOfToken_73 : decode cX5_endOfToken 73 = .ok (.goto (-40), 3) := by decide +kernel
theorem dX5_endOfToken_76 : decode cX5_endOfToken 76 = .ok (.iload 4, 2) := by decide +kernel
theorem dX5_endOfToken_78 : decode cX5_endOfToken 78 = .ok (.ireturn, 1) := by decide +kernel
theorem dX5_endOfSymbol_0 : decode cX5_endOfSymbol 0 = .ok (.aload_n 0, 1) := by decide +kernel
theorem dX5_endOfSymbol_1 : decode cX5_endOfSymbol 1 = .ok (.iload_n 1, 1) := by decide +kernel
theorem dX5_endOfSymbol_2 : decode cX5_endOfSymbol 2 = .ok (.invokevirtual 60, 3) := by decide +kernel
theorem dX5_endOfSymbol_5 : decode cX5_endOfSymbol 5 = .ok (.istore_n 2, 1) := by decide +kernel
theorem dX5_endOfSymbol_6 : decode cX5_endOfSymbol 6 = .ok (.iload_n 2, 1) := by decide +kernel
theorem dX5_endOfSymbol_7 : decode cX5_endOfSymbol 7 = .ok (.bipush 60, 2) := by decide +kernel
theorem dX5_endOfSymbol_9 : decode cX5_endOfSymbol 9 = .ok (.if_icmp .eq 9, 3) := by decide +kernel
theorem dX5_endOfSymbol_12 : decode cX5_endOfSymbol 12 = .ok (.iload_n 2, 1) := by decide +kernel
theorem dX5_endOfSymbol_13 : decode cX5_endOfSymbol 13 = .ok (.bipush 62, 2) := by decide +kernel
theorem dX5_endOfSymbol_15 : decode cX5_endOfSymbol 15 = .ok (.if_icmp .ne 19, 3) := by decide +kernel
theorem dX5_endOfSymbol_18 : decode cX5_endOfSymbol 18 = .ok (.aload_n 0, 1) := by decide +kernel
theorem dX5_endOfSymbol_19 : decode cX5_endOfSymbol 19 = .ok (.iload_n 1, 1) := by decide +kernel
theorem dX5_endOfSymbol_20 : decode cX5_endOfSymbol 20 = .ok (.iconst 1, 1) := by decide +kernel
theorem dX5_endOfSymbol_21 : decode cX5_endOfSymbol 21 = .ok (.iadd, 1) := by decide +kernel
theorem dX5_endOfSymbol_22 : decode cX5_endOfSymbol 22 = .ok (.invokevirtual 60, 3) := by decide +kernel
theorem dX5_endOfSymbol_25 : decode cX5_endOfSymbol 25 = .ok (.bipush 61, 2) := by decide +kernel
theorem dX5_endOfSymbol_27 : decode cX5_endOfSymbol 27 = .ok (.if_icmp .ne 7, 3) := by decide +kernel
theorem dX5_endOfSymbol_30 : decode cX5_endOfSymbol 30 = .ok (.iconst 1, 1) := by decide +kernel
theorem dX5_endOfSymbol_31 : decode cX5_endOfSymbol 31 = .ok (.goto 4, 3) := by decide +kernel
theorem dX5_endOfSymbol_34 : decode cX5_endOfSymbol 34 = .ok (.iconst 0, 1) := by decide +kernel
theorem dX5_endOfSymbol_35 : decode cX5_endOfSymbol 35 = .ok (.istore_n 3, 1) := by decide +kernel
theorem dX5_endOfSymbol_36 : decode cX5_endOfSymbol 36 = .ok (.iload_n 1, 1) := by decide +kernel
theorem dX5_endOfSymbol_37 : decode cX5_endOfSymbol 37 = .ok (.iload_n 3, 1) := by decide +kernel
theorem dX5_endOfSymbol_38 : decode cX5_endOfSymbol 38 = .ok (.ifCond .eq 7, 3) := by decide +kernel
theorem dX5_endOfSymbol_41 : decode cX5_endOfSymbol 41 = .ok (.iconst 2, 1) := by decide +kernel
theorem dX5_endOfSymbol_42 : decode cX5_endOfSymbol 42 = .ok (.goto 4, 3) := by decide +kernel
theorem dX5_endOfSymbol_45 : decode cX5_endOfSymbol 45 = .ok (.iconst 1, 1) := by decide +kernel
theorem dX5_endOfSymbol_46 : decode cX5_endOfSymbol 46 = .ok (.iadd, 1) := by decide +kernel
theorem dX5_endOfSymbol_47 : decode cX5_endOfSymbol 47 = .ok (.aload_n 0, 1) := by decide +kernel
theorem dX5_endOfSymbol_48 : decode cX5_endOfSymbol 48 = .ok (.getfield 15, 3) := by decide +kernel
theorem dX5_endOfSymbol_51 : decode cX5_endOfSymbol 51 = .ok (.invokestatic 72, 3) := by decide +kernel
theorem dX5_endOfSymbol_54 : decode cX5_endOfSymbol 54 = .ok (.ireturn, 1) := by decide +kernel
theorem dX5_signOf_0 : decode cX5_signOf 0 = .ok (.iload_n 1, 1) := by decide +kernel
theorem dX5_signOf_1 : decode cX5_signOf 1 = .ok (.aload_n 0, 1) := by decide +kernel
theorem dX5_signOf_2 : decode cX5_signOf 2 = .ok (.getfield 15, 3) := by decide +kernel
theorem dX5_signOf_5 : decode cX5_signOf 5 = .ok (.if_icmp .lt 7, 3) := by decide +kernel
theorem dX5_signOf_8 : decode cX5_signOf 8 = .ok (.getstatic 46, 3) := by decide +kernel
theorem dX5_signOf_11 : decode cX5_signOf 11 = .ok (.areturn, 1) := by decide +kernel
theorem dX5_signOf_12 : decode cX5_signOf 12 = .ok (.aload_n 0, 1) := by decide +kernel
theorem dX5_signOf_13 : decode cX5_signOf 13 = .ok (.iload_n 1, 1) := by decide +kernel
theorem dX5_signOf_14 : decode cX5_signOf 14 = .ok (.invokevirtual 60, 3) := by decide +kernel
theorem dX5_signOf_17 : decode cX5_signOf 17 = .ok (.istore_n 3, 1) := by decide +kernel
theorem dX5_signOf_18 : decode cX5_signOf 18 = .ok (.iload_n 3, 1) := by decide +kernel
theorem dX5_signOf_19 : decode cX5_signOf 19 = .ok (.invokestatic 66, 3) := by decide +kernel
theorem dX5_signOf_22 : decode cX5_signOf 22 = .ok (.ifCond .eq 21, 3) := by decide +kernel
theorem dX5_signOf_25 : decode cX5_signOf 25 = .ok (.iload_n 2, 1) := by decide +kernel
theorem dX5_signOf_26 : decode cX5_signOf 26 = .ok (.iload_n 1, 1) := by decide +kernel
theorem dX5_signOf_27 : decode cX5_signOf 27 = .ok (.isub, 1) := by decide +kernel
theorem dX5_signOf_28 : decode cX5_signOf 28 = .ok (.bipush 6, 2) := by decide +kernel
theorem dX5_signOf_30 : decode cX5_signOf 30 = .ok (.if_icmp .le 9, 3) := by decide +kernel
theorem dX5_signOf_33 : decode cX5_signOf 33 = .ok (.getstatic 50, 3) := by decide +kernel
theorem dX5_signOf_36 : decode cX5_signOf 36 = .ok (.goto 6, 3) := by decide +kernel
theorem dX5_signOf_39 : decode cX5_signOf 39 = .ok (.getstatic 57, 3) := by decide +kernel
theorem dX5_signOf_42 : decode cX5_signOf 42 = .ok (.areturn, 1) := by decide +kernel
theorem dX5_signOf_43 : decode cX5_signOf 43 = .ok (.iload_n 3, 1) := by decide +kernel
theorem dX5_signOf_44 : decode cX5_signOf 44 = .ok (.invokestatic 63, 3) := by decide +kernel
theorem dX5_signOf_47 : decode cX5_signOf 47 = .ok (.ifCond .ne 13, 3) := by decide +kernel
theorem dX5_signOf_50 : decode cX5_signOf 50 = .ok (.aload_n 0, 1) := by decide +kernel
theorem dX5_signOf_51 : decode cX5_signOf 51 = .ok (.iload_n 1, 1) := by decide +kernel
theorem dX5_signOf_52 : decode cX5_signOf 52 = .ok (.iload_n 2, 1) := by decide +kernel
theorem dX5_signOf_53 : decode cX5_signOf 53 = .ok (.getstatic 50, 3) := by decide +kernel
theorem dX5_signOf_56 : decode cX5_signOf 56 = .ok (.invokevirtual 78, 3) := by decide +kernel
theorem dX5_signOf_59 : decode cX5_signOf 59 = .ok (.areturn, 1) := by decide +kernel
theorem dX5_signOf_60 : decode cX5_signOf 60 = .ok (.iload_n 2, 1) := by decide +kernel
theorem dX5_signOf_61 : decode cX5_signOf 61 = .ok (.iload_n 1, 1) := by decide +kernel
theorem dX5_signOf_62 : decode cX5_signOf 62 = .ok (.isub, 1) := by decide +kernel
theorem dX5_signOf_63 : decode cX5_signOf 63 = .ok (.bipush 10, 2) := by decide +kernel
theorem dX5_signOf_65 : decode cX5_signOf 65 = .ok (.if_icmp .le 9, 3) := by decide +kernel
theorem dX5_signOf_68 : decode cX5_signOf 68 = .ok (.getstatic 50, 3) := by decide +kernel
theorem dX5_signOf_71 : decode cX5_signOf 71 = .ok (.goto 12, 3) := by decide +kernel
theorem dX5_signOf_74 : decode cX5_signOf 74 = .ok (.aload_n 0, 1) := by decide +kernel
theorem dX5_signOf_75 : decode cX5_signOf 75 = .ok (.iload_n 1, 1) := by decide +kernel
theorem dX5_signOf_76 : decode cX5_signOf 76 = .ok (.iload_n 2, 1) := by decide +kernel
theorem dX5_signOf_77 : decode cX5_signOf 77 = .ok (.getstatic 82, 3) := by decide +kernel
theorem dX5_signOf_80 : decode cX5_signOf 80 = .ok (.invokevirtual 78, 3) := by decide +kernel
theorem dX5_signOf_83 : decode cX5_signOf 83 = .ok (.areturn, 1) := by decide +kernel
theorem dX5_signWithText_0 : decode cX5_signWithText 0 = .ok (.iconst 0, 1) := by decide +kernel
theorem dX5_signWithText_1 : decode cX5_signWithText 1 = .ok (.istore 4, 2) := by decide +kernel
theorem dX5_signWithText_3 : decode cX5_signWithText 3 = .ok (.iload 4, 2) := by decide +kernel
theorem dX5_signWithText_5 : decode cX5_signWithText 5 = .ok (.getstatic 85, 3) := by decide +kernel
theorem dX5_signWithText_8 : decode cX5_signWithText 8 = .ok (.arraylength, 1) := by decide +kernel
theorem dX5_signWithText_9 : decode cX5_signWithText 9 = .ok (.if_icmp .ge 34, 3) := by decide +kernel
theorem dX5_signWithText_12 : decode cX5_signWithText 12 = .ok (.getstatic 85, 3) := by decide +kernel
theorem dX5_signWithText_15 : decode cX5_signWithText 15 = .ok (.iload 4, 2) := by decide +kernel
theorem dX5_signWithText_17 : decode cX5_signWithText 17 = .ok (.aaload, 1) := by decide +kernel
theorem dX5_signWithText_18 : decode cX5_signWithText 18 = .ok (.astore 5, 2) := by decide +kernel
theorem dX5_signWithText_20 : decode cX5_signWithText 20 = .ok (.aload_n 0, 1) := by decide +kernel
theorem dX5_signWithText_21 : decode cX5_signWithText 21 = .ok (.aload 5, 2) := by decide +kernel
theorem dX5_signWithText_23 : decode cX5_signWithText 23 = .ok (.getfield 88, 3) := by decide +kernel
theorem dX5_signWithText_26 : decode cX5_signWithText 26 = .ok (.iload_n 1, 1) := by decide +kernel
theorem dX5_signWithText_27 : decode cX5_signWithText 27 = .ok (.iload_n 2, 1) := by decide +kernel
theorem dX5_signWithText_28 : decode cX5_signWithText 28 = .ok (.invokevirtual 92, 3) := by decide +kernel
theorem dX5_signWithText_31 : decode cX5_signWithText 31 = .ok (.ifCond .eq 6, 3) := by decide +kernel
theorem dX5_signWithText_34 : decode cX5_signWithText 34 = .ok (.aload 5, 2) := by decide +kernel
theorem dX5_signWithText_36 : decode cX5_signWithText 36 = .ok (.areturn, 1) := by decide +kernel
theorem dX5_signWithText_37 : decode cX5_signWithText 37 = .ok (.iinc 4 1, 3) := by decide +kernel
theorem dX5_signWithText_40 : decode cX5_signWithText 40 = .ok (.goto (-37), 3) := by decide +kernel
theorem dX5_signWithText_43 : decode cX5_signWithText 43 = .ok (.aload_n 3, 1) := by decide +kernel
theorem dX5_signWithText_44 : decode cX5_signWithText 44 = .ok (.areturn, 1) := by decide +kernel
theorem dX5_isSpelt_0 : decode cX5_isSpelt 0 = .ok (.aload_n 1, 1) := by decide +kernel
theorem dX5_isSpelt_1 : decode cX5_isSpelt 1 = .ok (.invokevirtual 96, 3) := by decide +kernel
theorem dX5_isSpelt_4 : decode cX5_isSpelt 4 = .ok (.iload_n 3, 1) := by decide +kernel
theorem dX5_isSpelt_5 : decode cX5_isSpelt 5 = .ok (.iload_n 2, 1) := by decide +kernel
theorem dX5_isSpelt_6 : decode cX5_isSpelt 6 = .ok (.isub, 1) := by decide +kernel
theorem dX5_isSpelt_7 : decode cX5_isSpelt 7 = .ok (.if_icmp .ne 7, 3) := by decide +kernel
theorem dX5_isSpelt_10 : decode cX5_isSpelt 10 = .ok (.iconst 1, 1) := by decide +kernel
theorem dX5_isSpelt_11 : decode cX5_isSpelt 11 = .ok (.goto 4, 3) := by decide +kernel
theorem dX5_isSpelt_14 : decode cX5_isSpelt 14 = .ok (.iconst 0, 1) := by decide +kernel
theorem dX5_isSpelt_15 : decode cX5_isSpelt 15 = .ok (.istore 4, 2) := by decide +kernel
theorem dX5_isSpelt_17 : decode cX5_isSpelt 17 = .ok (.iconst 0, 1) := by decide +kernel
theorem dX5_isSpelt_18 : decode cX5_isSpelt 18 = .ok (.istore 5, 2) := by decide +kernel
theorem dX5_isSpelt_20 : decode cX5_isSpelt 20 = .ok (.iload 4, 2) := by decide +kernel
theorem dX5_isSpelt_22 : decode cX5_isSpelt 22 = .ok (.ifCond .eq 42, 3) := by decide +kernel
theorem dX5_isSpelt_25 : decode cX5_isSpelt 25 = .ok (.iload 5, 2) := by decide +kernel
theorem dX5_isSpelt_27 : decode cX5_isSpelt 27 = .ok (.aload_n 1, 1) := by decide +kernel
theorem dX5_isSpelt_28 : decode cX5_isSpelt 28 = .ok (.invokevirtual 96, 3) := by decide +kernel
theorem dX5_isSpelt_31 : decode cX5_isSpelt 31 = .ok (.if_icmp .ge 33, 3) := by decide +kernel
theorem dX5_isSpelt_34 : decode cX5_isSpelt 34 = .ok (.aload_n 0, 1) := by decide +kernel
theorem dX5_isSpelt_35 : decode cX5_isSpelt 35 = .ok (.iload_n 2, 1) := by decide +kernel
theorem dX5_isSpelt_36 : decode cX5_isSpelt 36 = .ok (.iload 5, 2) := by decide +kernel
theorem dX5_isSpelt_38 : decode cX5_isSpelt 38 = .ok (.iadd, 1) := by decide +kernel
theorem dX5_isSpelt_39 : decode cX5_isSpelt 39 = .ok (.invokevirtual 60, 3) := by decide +kernel
theorem dX5_isSpelt_42 : decode cX5_isSpelt 42 = .ok (.aload_n 1, 1) := by decide +kernel
theorem dX5_isSpelt_43 : decode cX5_isSpelt 43 = .ok (.iload 5, 2) := by decide +kernel
theorem dX5_isSpelt_45 : decode cX5_isSpelt 45 = .ok (.invokevirtual 101, 3) := by decide +kernel
theorem dX5_isSpelt_48 : decode cX5_isSpelt 48 = .ok (.if_icmp .ne 7, 3) := by decide +kernel
theorem dX5_isSpelt_51 : decode cX5_isSpelt 51 = .ok (.iconst 1, 1) := by decide +kernel
theorem dX5_isSpelt_52 : decode cX5_isSpelt 52 = .ok (.goto 4, 3) := by decide +kernel
theorem dX5_isSpelt_55 : decode cX5_isSpelt 55 = .ok (.iconst 0, 1) := by decide +kernel
theorem dX5_isSpelt_56 : decode cX5_isSpelt 56 = .ok (.istore 4, 2) := by decide +kernel
theorem dX5_isSpelt_58 : decode cX5_isSpelt 58 = .ok (.iinc 5 1, 3) := by decide +kernel
theorem dX5_isSpelt_61 : decode cX5_isSpelt 61 = .ok (.goto (-41), 3) := by decide +kernel
theorem dX5_isSpelt_64 : decode cX5_isSpelt 64 = .ok (.iload 4, 2) := by decide +kernel
theorem dX5_isSpelt_66 : decode cX5_isSpelt 66 = .ok (.ireturn, 1) := by decide +kernel
theorem dX5_isLetter_0 : decode cX5_isLetter 0 = .ok (.iload_n 0, 1) := by decide +kernel
theorem dX5_isLetter_1 : decode cX5_isLetter 1 = .ok (.bipush 97, 2) := by decide +kernel
theorem dX5_isLetter_3 : decode cX5_isLetter 3 = .ok (.if_icmp .lt 13, 3) := by decide +kernel
theorem dX5_isLetter_6 : decode cX5_isLetter 6 = .ok (.iload_n 0, 1) := by decide +kernel
theorem dX5_isLetter_7 : decode cX5_isLetter 7 = .ok (.bipush 122, 2) := by decide +kernel
theorem dX5_isLetter_9 : decode cX5_isLetter 9 = .ok (.if_icmp .gt 7, 3) := by decide +kernel
theorem dX5_isLetter_12 : decode cX5_isLetter 12 = .ok (.iconst 1, 1) := by decide +kernel
theorem dX5_isLetter_13 : decode cX5_isLetter 13 = .ok (.goto 4, 3) := by decide +kernel
theorem dX5_isLetter_16 : decode cX5_isLetter 16 = .ok (.iconst 0, 1) := by decide +kernel
theorem dX5_isLetter_17 : decode cX5_isLetter 17 = .ok (.ireturn, 1) := by decide +kernel
theorem dX5_isDigit_0 : decode cX5_isDigit 0 = .ok (.iload_n 0, 1) := by decide +kernel
theorem dX5_isDigit_1 : decode cX5_isDigit 1 = .ok (.bipush 48, 2) := by decide +kernel
theorem dX5_isDigit_3 : decode cX5_isDigit 3 = .ok (.if_icmp .lt 13, 3) := by decide +kernel
theorem dX5_isDigit_6 : decode cX5_isDigit 6 = .ok (.iload_n 0, 1) := by decide +kernel
theorem dX5_isDigit_7 : decode cX5_isDigit 7 = .ok (.bipush 57, 2) := by decide +kernel
theorem dX5_isDigit_9 : decode cX5_isDigit 9 = .ok (.if_icmp .gt 7, 3) := by decide +kernel
theorem dX5_isDigit_12 : decode cX5_isDigit 12 = .ok (.iconst 1, 1) := by decide +kernel
theorem dX5_isDigit_13 : decode cX5_isDigit 13 = .ok (.goto 4, 3) := by decide +kernel
theorem dX5_isDigit_16 : decode cX5_isDigit 16 = .ok (.iconst 0, 1) := by decide +kernel
theorem dX5_isDigit_17 : decode cX5_isDigit 17 = .ok (.ireturn, 1) := by decide +kernel
theorem dX6_init_0 : decode cX6_init 0 = .ok (.aload_n 0, 1) := by decide +kernel
theorem dX6_init_1 : decode cX6_init 1 = .ok (.invokespecial 1, 3) := by decide +kernel
theorem dX6_init_4 : decode cX6_init 4 = .ok (.aload_n 0, 1) := by decide +kernel
theorem dX6_init_5 : decode cX6_init 5 = .ok (.new 7, 3) := by decide +kernel
theorem dX6_init_8 : decode cX6_init 8 = .ok (.dup, 1) := by decide +kernel
theorem dX6_init_9 : decode cX6_init 9 = .ok (.invokespecial 9, 3) := by decide +kernel
theorem dX6_init_12 : decode cX6_init 12 = .ok (.putfield 10, 3) := by decide +kernel
theorem dX6_init_15 : decode cX6_init 15 = .ok (.aload_n 0, 1) := by decide +kernel
theorem dX6_init_16 : decode cX6_init 16 = .ok (.aload_n 0, 1) := by decide +kernel
theorem dX6_init_17 : decode cX6_init 17 = .ok (.getfield 10, 3) := by decide +kernel
theorem dX6_init_20 : decode cX6_init 20 = .ok (.getfield 16, 3) := by decide +kernel
theorem dX6_init_23 : decode cX6_init 23 = .ok (.putfield 20, 3) := by decide +kernel
theorem dX6_init_26 : decode cX6_init 26 = .ok (.aload_n 0, 1) := by decide +kernel
theorem dX6_init_27 : decode cX6_init 27 = .ok (.new 21, 3) := by decide +kernel
theorem dX6_init_30 : decode cX6_init 30 = .ok (.dup, 1) := by decide +kernel
theorem dX6_init_31 : decode cX6_init 31 = .ok (.invokespecial 23, 3) := by decide +kernel
theorem dX6_init_34 : decode cX6_init 34 = .ok (.putfield 24, 3) := by decide +kernel
theorem dX6_init_37 : decode cX6_init 37 = .ok (.aload_n 0, 1) := by decide +kernel
theorem dX6_init_38 : decode cX6_init 38 = .ok (.new 28, 3) := by decide +kernel
theorem dX6_init_41 : decode cX6_init 41 = .ok (.dup, 1) := by decide +kernel
theorem dX6_init_42 : decode cX6_init 42 = .ok (.invokespecial 30, 3) := by decide +kernel
theorem dX6_init_45 : decode cX6_init 45 = .ok (.putfield 31, 3) := by decide +kernel
theorem dX6_init_48 : decode cX6_init 48 = .ok (.aload_n 0, 1) := by decide +kernel
theorem dX6_init_49 : decode cX6_init 49 = .ok (.new 28, 3) := by decide +kernel
theorem dX6_init_52 : decode cX6_init 52 = .ok (.dup, 1) := by decide +kernel
theorem dX6_init_53 : decode cX6_init 53 = .ok (.invokespecial 30, 3) := by decide +kernel
theorem dX6_init_56 : decode cX6_init 56 = .ok (.putfield 35, 3) := by decide +kernel
theorem dX6_init_59 : decode cX6_init 59 = .ok (.aload_n 0, 1) := by decide +kernel
theorem dX6_init_60 : decode cX6_init 60 = .ok (.new 38, 3) := by decide +kernel
theorem dX6_init_63 : decode cX6_init 63 = .ok (.dup, 1) := by decide +kernel
theorem dX6_init_64 : decode cX6_init 64 = .ok (.invokespecial 40, 3) := by decide +kernel
theorem dX6_init_67 : decode cX6_init 67 = .ok (.putfield 41, 3) := by decide +kernel
theorem dX6_init_70 : decode cX6_init 70 = .ok (.return_, 1) := by decide +kernel
theorem dX6_feed_0 : decode cX6_feed 0 = .ok (.aload_n 0, 1) := by decide +kernel
theorem dX6_feed_1 : decode cX6_feed 1 = .ok (.getfield 20, 3) := by decide +kernel
theorem dX6_feed_4 : decode cX6_feed 4 = .ok (.getfield 45, 3) := by decide +kernel
theorem dX6_feed_7 : decode cX6_feed 7 = .ok (.sipush 1980, 3) := by decide +kernel
theorem dX6_feed_10 : decode cX6_feed 10 = .ok (.if_icmp .le 13, 3) := by decide +kernel
theorem dX6_feed_13 : decode cX6_feed 13 = .ok (.new 51, 3) := by decide +kernel
theorem dX6_feed_16 : decode cX6_feed 16 = .ok (.dup, 1) := by decide +kernel
theorem dX6_feed_17 : decode cX6_feed 17 = .ok (.ldc 53, 2) := by decide +kernel
theorem dX6_feed_19 : decode cX6_feed 19 = .ok (.invokespecial 55, 3) := by decide +kernel
theorem dX6_feed_22 : decode cX6_feed 22 = .ok (.athrow, 1) := by decide +kernel
theorem dX6_feed_23 : decode cX6_feed 23 = .ok (.aload_n 0, 1) := by decide +kernel
theorem dX6_feed_24 : decode cX6_feed 24 = .ok (.getfield 20, 3) := by decide +kernel
theorem dX6_feed_27 : decode cX6_feed 27 = .ok (.iload_n 1, 1) := by decide +kernel
theorem dX6_feed_28 : decode cX6_feed 28 = .ok (.invokevirtual 58, 3) := by decide +kernel
theorem dX6_feed_31 : decode cX6_feed 31 = .ok (.aload_n 0, 1) := by decide +kernel
theorem dX6_feed_32 : decode cX6_feed 32 = .ok (.getfield 20, 3) := by decide +kernel
theorem dX6_feed_35 : decode cX6_feed 35 = .ok (.iload_n 2, 1) := by decide +kernel
theorem dX6_feed_36 : decode cX6_feed 36 = .ok (.invokevirtual 58, 3) := by decide +kernel
theorem dX6_feed_39 : decode cX6_feed 39 = .ok (.aload_n 0, 1) := by decide +kernel
theorem dX6_feed_40 : decode cX6_feed 40 = .ok (.getfield 20, 3) := by decide +kernel
theorem dX6_feed_43 : decode cX6_feed 43 = .ok (.iload_n 3, 1) := by decide +kernel
theorem dX6_feed_44 : decode cX6_feed 44 = .ok (.invokevirtual 58, 3) := by decide +kernel
theorem dX6_feed_47 : decode cX6_feed 47 = .ok (.aload_n 0, 1) := by decide +kernel
theorem dX6_feed_48 : decode cX6_feed 48 = .ok (.getfield 20, 3) := by decide +kernel
theorem dX6_feed_51 : decode cX6_feed 51 = .ok (.iload 4, 2) := by decide +kernel
theorem dX6_feed_53 : decode cX6_feed 53 = .ok (.invokevirtual 58, 3) := by decide +kernel
theorem dX6_feed_56 : decode cX6_feed 56 = .ok (.aload_n 0, 1) := by decide +kernel
theorem dX6_feed_57 : decode cX6_feed 57 = .ok (.getfield 20, 3) := by decide +kernel
theorem dX6_feed_60 : decode cX6_feed 60 = .ok (.iload 5, 2) := by decide +kernel
theorem dX6_feed_62 : decode cX6_feed 62 = .ok (.invokevirtual 58, 3) := by decide +kernel
theorem dX6_feed_65 : decode cX6_feed 65 = .ok (.aload_n 0, 1) := by decide +kernel
theorem dX6_feed_66 : decode cX6_feed 66 = .ok (.getfield 20, 3) := by decide +kernel
theorem dX6_feed_69 : decode cX6_feed 69 = .ok (.getfield 45, 3) := by decide +kernel
theorem dX6_feed_72 : decode cX6_feed 72 = .ok (.ireturn, 1) := by decide +kernel
theorem dX6_trim_0 : decode cX6_trim 0 = .ok (.iload_n 1, 1) := by decide +kernel
theorem dX6_trim_1 : decode cX6_trim 1 = .ok (.ifCond .lt 14, 3) := by decide +kernel
theorem dX6_trim_4 : decode cX6_trim 4 = .ok (.iload_n 1, 1) := by decide +kernel
theorem dX6_trim_5 : decode cX6_trim 5 = .ok (.aload_n 0, 1) := by decide +kernel
theorem dX6_trim_6 : decode cX6_trim 6 = .ok (.getfield 20, 3) := by decide +kernel
theorem dX6_trim_9 : decode cX6_trim 9 = .ok (.getfield 45, 3) := by decide +kernel
theorem dX6_trim_12 : decode cX6_trim 12 = .ok (.if_icmp .le 13, 3) := by decide +kernel
theorem dX6_trim_15 : decode cX6_trim 15 = .ok (.new 62, 3) := by decide +kernel
theorem dX6_trim_18 : decode cX6_trim 18 = .ok (.dup, 1) := by decide +kernel
theorem dX6_trim_19 : decode cX6_trim 19 = .ok (.ldc 64, 2) := by decide +kernel
theorem dX6_trim_21 : decode cX6_trim 21 = .ok (.invokespecial 66, 3) := by decide +kernel
theorem dX6_trim_24 : decode cX6_trim 24 = .ok (.athrow, 1) := by decide +kernel
theorem dX6_trim_25 : decode cX6_trim 25 = .ok (.aload_n 0, 1) := by decide +kernel
theorem dX6_trim_26 : decode cX6_trim 26 = .ok (.getfield 20, 3) := by decide +kernel
theorem dX6_trim_29 : decode cX6_trim 29 = .ok (.iload_n 1, 1) := by decide +kernel
theorem dX6_trim_30 : decode cX6_trim 30 = .ok (.putfield 45, 3) := by decide +kernel
theorem dX6_trim_33 : decode cX6_trim 33 = .ok (.iload_n 1, 1) := by decide +kernel
theorem dX6_trim_34 : decode cX6_trim 34 = .ok (.ireturn, 1) := by decide +kernel
theorem dX6_teach_0 : decode cX6_teach 0 = .ok (.aload_n 0, 1) := by decide +kernel
theorem dX6_teach_1 : decode cX6_teach 1 = .ok (.getfield 10, 3) := by decide +kernel
theorem dX6_teach_4 : decode cX6_teach 4 = .ok (.invokevirtual 67, 3) := by decide +kernel
theorem dX6_teach_7 : decode cX6_teach 7 = .ok (.istore_n 1, 1) := by decide +kernel
theorem dX6_teach_8 : decode cX6_teach 8 = .ok (.aload_n 0, 1) := by decide +kernel
theorem dX6_teach_9 : decode cX6_teach 9 = .ok (.getfield 20, 3) := by decide +kernel
theorem dX6_teach_12 : decode cX6_teach 12 = .ok (.iconst 0, 1) := by decide +kernel
theorem dX6_teach_13 : decode cX6_teach 13 = .ok (.putfield 45, 3) := by decide +kernel
theorem dX6_teach_16 : decode cX6_teach 16 = .ok (.iload_n 1, 1) := by decide +kernel
theorem dX6_teach_17 : decode cX6_teach 17 = .ok (.ifCond .ne 45, 3) := by decide +kernel
theorem dX6_teach_20 : decode cX6_teach 20 = .ok (.aload_n 0, 1) := by decide +kernel
theorem dX6_teach_21 : decode cX6_teach 21 = .ok (.getfield 24, 3) := by decide +kernel
theorem dX6_teach_24 : decode cX6_teach 24 = .ok (.aload_n 0, 1) := by decide +kernel
theorem dX6_teach_25 : decode cX6_teach 25 = .ok (.getfield 10, 3) := by decide +kernel
theorem dX6_teach_28 : decode cX6_teach 28 = .ok (.getfield 71, 3) := by decide +kernel
theorem dX6_teach_31 : decode cX6_teach 31 = .ok (.invokevirtual 72, 3) := by decide +kernel
theorem dX6_teach_34 : decode cX6_teach 34 = .ok (.aload_n 0, 1) := by decide +kernel
theorem dX6_teach_35 : decode cX6_teach 35 = .ok (.getfield 31, 3) := by decide +kernel
theorem dX6_teach_38 : decode cX6_teach 38 = .ok (.aload_n 0, 1) := by decide +kernel
theorem dX6_teach_39 : decode cX6_teach 39 = .ok (.getfield 10, 3) := by decide +kernel
theorem dX6_teach_42 : decode cX6_teach 42 = .ok (.getfield 76, 3) := by decide +kernel
theorem dX6_teach_45 : decode cX6_teach 45 = .ok (.aload_n 0, 1) := by decide +kernel
theorem dX6_teach_46 : decode cX6_teach 46 = .ok (.getfield 10, 3) := by decide +kernel
theorem dX6_teach_49 : decode cX6_teach 49 = .ok (.getfield 79, 3) := by decide +kernel
theorem dX6_teach_52 : decode cX6_teach 52 = .ok (.aload_n 0, 1) := by decide +kernel
theorem dX6_teach_53 : decode cX6_teach 53 = .ok (.getfield 10, 3) := by decide +kernel
theorem dX6_teach_56 : decode cX6_teach 56 = .ok (.getfield 83, 3) := by decide +kernel
theorem dX6_teach_59 : decode cX6_teach 59 = .ok (.invokevirtual 86, 3) := by decide +kernel
theorem dX6_teach_62 : decode cX6_teach 62 = .ok (.iload_n 1, 1) := by decide +kernel
theorem dX6_teach_63 : decode cX6_teach 63 = .ok (.ireturn, 1) := by decide +kernel
theorem dX6_wrestlers_0 : decode cX6_wrestlers 0 = .ok (.aload_n 0, 1) := by decide +kernel
theorem dX6_wrestlers_1 : decode cX6_wrestlers 1 = .ok (.getfield 31, 3) := by decide +kernel
theorem dX6_wrestlers_4 : decode cX6_wrestlers 4 = .ok (.getfield 93, 3) := by decide +kernel
theorem dX6_wrestlers_7 : decode cX6_wrestlers 7 = .ok (.ireturn, 1) := by decide +kernel
theorem dX6_wrestlersIn_0 : decode cX6_wrestlersIn 0 = .ok (.aload_n 0, 1) := by decide +kernel
theorem dX6_wrestlersIn_1 : decode cX6_wrestlersIn 1 = .ok (.getfield 31, 3) := by decide +kernel
theorem dX6_wrestlersIn_4 : decode cX6_wrestlersIn 4 = .ok (.invokevirtual 94, 3) := by decide +kernel
theorem dX6_wrestlersIn_7 : decode cX6_wrestlersIn 7 = .ok (.ireturn, 1) := by decide +kernel
theorem dX6_rules_0 : decode cX6_rules 0 = .ok (.aload_n 0, 1) := by decide +kernel
theorem dX6_rules_1 : decode cX6_rules 1 = .ok (.getfield 24, 3) := by decide +kernel
theorem dX6_rules_4 : decode cX6_rules 4 = .ok (.getfield 97, 3) := by decide +kernel
theorem dX6_rules_7 : decode cX6_rules 7 = .ok (.ireturn, 1) := by decide +kernel
theorem dX6_rounds_0 : decode cX6_rounds 0 = .ok (.aload_n 0, 1) := by decide +kernel
theorem dX6_rounds_1 : decode cX6_rounds 1 = .ok (.getfield 31, 3) := by decide +kernel
theorem dX6_rounds_4 : decode cX6_rounds 4 = .ok (.getfield 100, 3) := by decide +kernel
theorem dX6_rounds_7 : decode cX6_rounds 7 = .ok (.ireturn, 1) := by decide +kernel
theorem dX6_tapeBytes_0 : decode cX6_tapeBytes 0 = .ok (.aload_n 0, 1) := by decide +kernel
theorem dX6_tapeBytes_1 : decode cX6_tapeBytes 1 = .ok (.getfield 20, 3) := by decide +kernel
theorem dX6_tapeBytes_4 : decode cX6_tapeBytes 4 = .ok (.getfield 45, 3) := by decide +kernel
theorem dX6_tapeBytes_7 : decode cX6_tapeBytes 7 = .ok (.ireturn, 1) := by decide +kernel
theorem dX6_bouts_0 : decode cX6_bouts 0 = .ok (.aload_n 0, 1) := by decide +kernel
theorem dX6_bouts_1 : decode cX6_bouts 1 = .ok (.getfield 31, 3) := by decide +kernel
theorem dX6_bouts_4 : decode cX6_bouts 4 = .ok (.getfield 103, 3) := by decide +kernel
theorem dX6_bouts_7 : decode cX6_bouts 7 = .ok (.ireturn, 1) := by decide +kernel
theorem dX6_openBouts_0 : decode cX6_openBouts 0 = .ok (.aload_n 0, 1) := by decide +kernel
theorem dX6_openBouts_1 : decode cX6_openBouts 1 = .ok (.getfield 31, 3) := by decide +kernel
theorem dX6_openBouts_4 : decode cX6_openBouts 4 = .ok (.invokevirtual 106, 3) := by decide +kernel
theorem dX6_openBouts_7 : decode cX6_openBouts 7 = .ok (.ireturn, 1) := by decide +kernel
theorem dX6_strengthOf_0 : decode cX6_strengthOf 0 = .ok (.aload_n 0, 1) := by decide +kernel
theorem dX6_strengthOf_1 : decode cX6_strengthOf 1 = .ok (.iload_n 1, 1) := by decide +kernel
theorem dX6_strengthOf_2 : decode cX6_strengthOf 2 = .ok (.invokevirtual 109, 3) := by decide +kernel
theorem dX6_strengthOf_5 : decode cX6_strengthOf 5 = .ok (.aload_n 0, 1) := by decide +kernel
theorem dX6_strengthOf_6 : decode cX6_strengthOf 6 = .ok (.getfield 31, 3) := by decide +kernel
theorem dX6_strengthOf_9 : decode cX6_strengthOf 9 = .ok (.iconst 0, 1) := by decide +kernel
theorem dX6_strengthOf_10 : decode cX6_strengthOf 10 = .ok (.iload_n 1, 1) := by decide +kernel
theorem dX6_strengthOf_11 : decode cX6_strengthOf 11 = .ok (.invokevirtual 112, 3) := by decide +kernel
theorem dX6_strengthOf_14 : decode cX6_strengthOf 14 = .ok (.ireturn, 1) := by decide +kernel
theorem dX6_pointsOf_0 : decode cX6_pointsOf 0 = .ok (.aload_n 0, 1) := by decide +kernel
theorem dX6_pointsOf_1 : decode cX6_pointsOf 1 = .ok (.iload_n 1, 1) := by decide +kernel
theorem dX6_pointsOf_2 : decode cX6_pointsOf 2 = .ok (.invokevirtual 109, 3) := by decide +kernel
theorem dX6_pointsOf_5 : decode cX6_pointsOf 5 = .ok (.aload_n 0, 1) := by decide +kernel
theorem dX6_pointsOf_6 : decode cX6_pointsOf 6 = .ok (.getfield 31, 3) := by decide +kernel
theorem dX6_pointsOf_9 : decode cX6_pointsOf 9 = .ok (.iconst 1, 1) := by decide +kernel
theorem dX6_pointsOf_10 : decode cX6_pointsOf 10 = .ok (.iload_n 1, 1) := by decide +kernel
theorem dX6_pointsOf_11 : decode cX6_pointsOf 11 = .ok (.invokevirtual 112, 3) := by decide +kernel
theorem dX6_pointsOf_14 : decode cX6_pointsOf 14 = .ok (.ireturn, 1) := by decide +kernel
theorem dX6_winsOf_0 : decode cX6_winsOf 0 = .ok (.aload_n 0, 1) := by decide +kernel
theorem dX6_winsOf_1 : decode cX6_winsOf 1 = .ok (.iload_n 1, 1) := by decide +kernel
theorem dX6_winsOf_2 : decode cX6_winsOf 2 = .ok (.invokevirtual 109, 3) := by decide +kernel
theorem dX6_winsOf_5 : decode cX6_winsOf 5 = .ok (.aload_n 0, 1) := by decide +kernel
theorem dX6_winsOf_6 : decode cX6_winsOf 6 = .ok (.getfield 31, 3) := by decide +kernel
theorem dX6_winsOf_9 : decode cX6_winsOf 9 = .ok (.iconst 2, 1) := by decide +kernel
theorem dX6_winsOf_10 : decode cX6_winsOf 10 = .ok (.iload_n 1, 1) := by decide +kernel
theorem dX6_winsOf_11 : decode cX6_winsOf 11 = .ok (.invokevirtual 112, 3) := by decide +kernel
theorem dX6_winsOf_14 : decode cX6_winsOf 14 = .ok (.ireturn, 1) := by decide +kernel
theorem dX6_drawsOf_0 : decode cX6_drawsOf 0 = .ok (.aload_n 0, 1) := by decide +kernel
theorem dX6_drawsOf_1 : decode cX6_drawsOf 1 = .ok (.iload_n 1, 1) := by decide +kernel
theorem dX6_drawsOf_2 : decode cX6_drawsOf 2 = .ok (.invokevirtual 109, 3) := by decide +kernel
theorem dX6_drawsOf_5 : decode cX6_drawsOf 5 = .ok (.aload_n 0, 1) := by decide +kernel
theorem dX6_drawsOf_6 : decode cX6_drawsOf 6 = .ok (.getfield 31, 3) := by decide +kernel
theorem dX6_drawsOf_9 : decode cX6_drawsOf 9 = .ok (.iconst 3, 1) := by decide +kernel
theorem dX6_drawsOf_10 : decode cX6_drawsOf 10 = .ok (.iload_n 1, 1) := by decide +kernel
theorem dX6_drawsOf_11 : decode cX6_drawsOf 11 = .ok (.invokevirtual 112, 3) := by decide +kernel
theorem dX6_drawsOf_14 : decode cX6_drawsOf 14 = .ok (.ireturn, 1) := by decide +kernel
theorem dX6_lossesOf_0 : decode cX6_lossesOf 0 = .ok (.aload_n 0, 1) := by decide +kernel
theorem dX6_lossesOf_1 : decode cX6_lossesOf 1 = .ok (.iload_n 1, 1) := by decide +kernel
theorem dX6_lossesOf_2 : decode cX6_lossesOf 2 = .ok (.invokevirtual 109, 3) := by decide +kernel
theorem dX6_lossesOf_5 : decode cX6_lossesOf 5 = .ok (.aload_n 0, 1) := by decide +kernel
theorem dX6_lossesOf_6 : decode cX6_lossesOf 6 = .ok (.getfield 31, 3) := by decide +kernel
theorem dX6_lossesOf_9 : decode cX6_lossesOf 9 = .ok (.iconst 4, 1) := by decide +kernel
theorem dX6_lossesOf_10 : decode cX6_lossesOf 10 = .ok (.iload_n 1, 1) := by decide +kernel
theorem dX6_lossesOf_11 : decode cX6_lossesOf 11 = .ok (.invokevirtual 112, 3) := by decide +kernel
theorem dX6_lossesOf_14 : decode cX6_lossesOf 14 = .ok (.ireturn, 1) := by decide +kernel
theorem dX6_restsOf_0 : decode cX6_restsOf 0 = .ok (.aload_n 0, 1) := by decide +kernel
theorem dX6_restsOf_1 : decode cX6_restsOf 1 = .ok (.iload_n 1, 1) := by decide +kernel
theorem dX6_restsOf_2 : decode cX6_restsOf 2 = .ok (.invokevirtual 109, 3) := by decide +kernel
theorem dX6_restsOf_5 : decode cX6_restsOf 5 = .ok (.aload_n 0, 1) := by decide +kernel
theorem dX6_restsOf_6 : decode cX6_restsOf 6 = .ok (.getfield 31, 3) := by decide +kernel
theorem dX6_restsOf_9 : decode cX6_restsOf 9 = .ok (.iconst 5, 1) := by decide +kernel
theorem dX6_restsOf_10 : decode cX6_restsOf 10 = .ok (.iload_n 1, 1) := by decide +kernel
theorem dX6_restsOf_11 : decode cX6_restsOf 11 = .ok (.invokevirtual 112, 3) := by decide +kernel
theorem dX6_restsOf_14 : decode cX6_restsOf 14 = .ok (.ireturn, 1) := by decide +kernel
theorem dX6_beltsOf_0 : decode cX6_beltsOf 0 = .ok (.aload_n 0, 1) := by decide +kernel
theorem dX6_beltsOf_1 : decode cX6_beltsOf 1 = .ok (.iload_n 1, 1) := by decide +kernel
theorem dX6_beltsOf_2 : decode cX6_beltsOf 2 = .ok (.invokevirtual 109, 3) := by decide +kernel
theorem dX6_beltsOf_5 : decode cX6_beltsOf 5 = .ok (.aload_n 0, 1) := by decide +kernel
theorem dX6_beltsOf_6 : decode cX6_beltsOf 6 = .ok (.getfield 31, 3) := by decide +kernel
theorem dX6_beltsOf_9 : decode cX6_beltsOf 9 = .ok (.bipush 6, 2) := by decide +kernel
theorem dX6_beltsOf_11 : decode cX6_beltsOf 11 = .ok (.iload_n 1, 1) := by decide +kernel
theorem dX6_beltsOf_12 : decode cX6_beltsOf 12 = .ok (.invokevirtual 112, 3) := by decide +kernel
theorem dX6_beltsOf_15 : decode cX6_beltsOf 15 = .ok (.ireturn, 1) := by decide +kernel
theorem dX6_floatsOf_0 : decode cX6_floatsOf 0 = .ok (.aload_n 0, 1) := by decide +kernel
theorem dX6_floatsOf_1 : decode cX6_floatsOf 1 = .ok (.iload_n 1, 1) := by decide +kernel
theorem dX6_floatsOf_2 : decode cX6_floatsOf 2 = .ok (.invokevirtual 109, 3) := by decide +kernel
theorem dX6_floatsOf_5 : decode cX6_floatsOf 5 = .ok (.aload_n 0, 1) := by decide +kernel
theorem dX6_floatsOf_6 : decode cX6_floatsOf 6 = .ok (.getfield 31, 3) := by decide +kernel
theorem dX6_floatsOf_9 : decode cX6_floatsOf 9 = .ok (.bipush 7, 2) := by decide +kernel
theorem dX6_floatsOf_11 : decode cX6_floatsOf 11 = .ok (.iload_n 1, 1) := by decide +kernel
theorem dX6_floatsOf_12 : decode cX6_floatsOf 12 = .ok (.invokevirtual 112, 3) := by decide +kernel
theorem dX6_floatsOf_15 : decode cX6_floatsOf 15 = .ok (.ireturn, 1) := by decide +kernel
theorem dX6_pointsOfMet_0 : decode cX6_pointsOfMet 0 = .ok (.aload_n 0, 1) := by decide +kernel
theorem dX6_pointsOfMet_1 : decode cX6_pointsOfMet 1 = .ok (.iload_n 1, 1) := by decide +kernel
theorem dX6_pointsOfMet_2 : decode cX6_pointsOfMet 2 = .ok (.invokevirtual 109, 3) := by decide +kernel
theorem dX6_pointsOfMet_5 : decode cX6_pointsOfMet 5 = .ok (.aload_n 0, 1) := by decide +kernel
theorem dX6_pointsOfMet_6 : decode cX6_pointsOfMet 6 = .ok (.getfield 31, 3) := by decide +kernel
theorem dX6_pointsOfMet_9 : decode cX6_pointsOfMet 9 = .ok (.iload_n 1, 1) := by decide +kernel
theorem dX6_pointsOfMet_10 : decode cX6_pointsOfMet 10 = .ok (.invokevirtual 116, 3) := by decide +kernel
theorem dX6_pointsOfMet_13 : decode cX6_pointsOfMet 13 = .ok (.ireturn, 1) := by decide +kernel
theorem dX6_rankOf_0 : decode cX6_rankOf 0 = .ok (.aload_n 0, 1) := by decide +kernel
theorem dX6_rankOf_1 : decode cX6_rankOf 1 = .ok (.iload_n 1, 1) := by decide +kernel
theorem dX6_rankOf_2 : decode cX6_rankOf 2 = .ok (.invokevirtual 109, 3) := by decide +kernel
theorem dX6_rankOf_5 : decode cX6_rankOf 5 = .ok (.aload_n 0, 1) := by decide +kernel
theorem dX6_rankOf_6 : decode cX6_rankOf 6 = .ok (.getfield 31, 3) := by decide +kernel
theorem dX6_rankOf_9 : decode cX6_rankOf 9 = .ok (.invokevirtual 120, 3) := by decide +kernel
theorem dX6_rankOf_12 : decode cX6_rankOf 12 = .ok (.aload_n 0, 1) := by decide +kernel
theorem dX6_rankOf_13 : decode cX6_rankOf 13 = .ok (.getfield 31, 3) := by decide +kernel
theorem dX6_rankOf_16 : decode cX6_rankOf 16 = .ok (.iload_n 1, 1) := by decide +kernel
theorem dX6_rankOf_17 : decode cX6_rankOf 17 = .ok (.invokevirtual 123, 3) := by decide +kernel
theorem dX6_rankOf_20 : decode cX6_rankOf 20 = .ok (.ireturn, 1) := by decide +kernel
theorem dX6_isIn_0 : decode cX6_isIn 0 = .ok (.aload_n 0, 1) := by decide +kernel
theorem dX6_isIn_1 : decode cX6_isIn 1 = .ok (.iload_n 1, 1) := by decide +kernel
theorem dX6_isIn_2 : decode cX6_isIn 2 = .ok (.invokevirtual 109, 3) := by decide +kernel
theorem dX6_isIn_5 : decode cX6_isIn 5 = .ok (.aload_n 0, 1) := by decide +kernel
theorem dX6_isIn_6 : decode cX6_isIn 6 = .ok (.getfield 31, 3) := by decide +kernel
theorem dX6_isIn_9 : decode cX6_isIn 9 = .ok (.bipush 8, 2) := by decide +kernel
theorem dX6_isIn_11 : decode cX6_isIn 11 = .ok (.iload_n 1, 1) := by decide +kernel
theorem dX6_isIn_12 : decode cX6_isIn 12 = .ok (.invokevirtual 112, 3) := by decide +kernel
theorem dX6_isIn_15 : decode cX6_isIn 15 = .ok (.ifCond .eq 7, 3) := by decide +kernel
theorem dX6_isIn_18 : decode cX6_isIn 18 = .ok (.iconst 1, 1) := by decide +kernel
theorem dX6_isIn_19 : decode cX6_isIn 19 = .ok (.goto 4, 3) := by decide +kernel
theorem dX6_isIn_22 : decode cX6_isIn 22 = .ok (.iconst 0, 1) := by decide +kernel
theorem dX6_isIn_23 : decode cX6_isIn 23 = .ok (.ireturn, 1) := by decide +kernel
theorem dX6_wrestlerAt_0 : decode cX6_wrestlerAt 0 = .ok (.aload_n 0, 1) := by decide +kernel
theorem dX6_wrestlerAt_1 : decode cX6_wrestlerAt 1 = .ok (.getfield 31, 3) := by decide +kernel
theorem dX6_wrestlerAt_4 : decode cX6_wrestlerAt 4 = .ok (.iload_n 1, 1) := by decide +kernel
theorem dX6_wrestlerAt_5 : decode cX6_wrestlerAt 5 = .ok (.invokevirtual 126, 3) := by decide +kernel
theorem dX6_wrestlerAt_8 : decode cX6_wrestlerAt 8 = .ok (.ifCond .ne 13, 3) := by decide +kernel
theorem dX6_wrestlerAt_11 : decode cX6_wrestlerAt 11 = .ok (.new 130, 3) := by decide +kernel
theorem dX6_wrestlerAt_14 : decode cX6_wrestlerAt 14 = .ok (.dup, 1) := by decide +kernel
theorem dX6_wrestlerAt_15 : decode cX6_wrestlerAt 15 = .ok (.ldc 132, 2) := by decide +kernel
theorem dX6_wrestlerAt_17 : decode cX6_wrestlerAt 17 = .ok (.invokespecial 134, 3) := by decide +kernel
theorem dX6_wrestlerAt_20 : decode cX6_wrestlerAt 20 = .ok (.athrow, 1) := by decide +kernel
theorem dX6_wrestlerAt_21 : decode cX6_wrestlerAt 21 = .ok (.aload_n 0, 1) := by decide +kernel
theorem dX6_wrestlerAt_22 : decode cX6_wrestlerAt 22 = .ok (.getfield 31, 3) := by decide +kernel
theorem dX6_wrestlerAt_25 : decode cX6_wrestlerAt 25 = .ok (.invokevirtual 120, 3) := by decide +kernel
theorem dX6_wrestlerAt_28 : decode cX6_wrestlerAt 28 = .ok (.aload_n 0, 1) := by decide +kernel
theorem dX6_wrestlerAt_29 : decode cX6_wrestlerAt 29 = .ok (.getfield 31, 3) := by decide +kernel
theorem dX6_wrestlerAt_32 : decode cX6_wrestlerAt 32 = .ok (.iload_n 1, 1) := by decide +kernel
theorem dX6_wrestlerAt_33 : decode cX6_wrestlerAt 33 = .ok (.invokevirtual 135, 3) := by decide +kernel
theorem dX6_wrestlerAt_36 : decode cX6_wrestlerAt 36 = .ok (.ireturn, 1) := by decide +kernel
theorem dX6_timesMet_0 : decode cX6_timesMet 0 = .ok (.aload_n 0, 1) := by decide +kernel
theorem dX6_timesMet_1 : decode cX6_timesMet 1 = .ok (.iload_n 1, 1) := by decide +kernel
theorem dX6_timesMet_2 : decode cX6_timesMet 2 = .ok (.invokevirtual 109, 3) := by decide +kernel
theorem dX6_timesMet_5 : decode cX6_timesMet 5 = .ok (.aload_n 0, 1) := by decide +kernel
theorem dX6_timesMet_6 : decode cX6_timesMet 6 = .ok (.iload_n 2, 1) := by decide +kernel
theorem dX6_timesMet_7 : decode cX6_timesMet 7 = .ok (.invokevirtual 109, 3) := by decide +kernel
theorem dX6_timesMet_10 : decode cX6_timesMet 10 = .ok (.aload_n 0, 1) := by decide +kernel
theorem dX6_timesMet_11 : decode cX6_timesMet 11 = .ok (.getfield 31, 3) := by decide +kernel
theorem dX6_timesMet_14 : decode cX6_timesMet 14 = .ok (.iload_n 1, 1) := by decide +kernel
theorem dX6_timesMet_15 : decode cX6_timesMet 15 = .ok (.iload_n 2, 1) := by decide +kernel
theorem dX6_timesMet_16 : decode cX6_timesMet 16 = .ok (.invokevirtual 138, 3) := by decide +kernel
theorem dX6_timesMet_19 : decode cX6_timesMet 19 = .ok (.ireturn, 1) := by decide +kernel
theorem dX6_redOf_0 : decode cX6_redOf 0 = .ok (.aload_n 0, 1) := by decide +kernel
theorem dX6_redOf_1 : decode cX6_redOf 1 = .ok (.iload_n 1, 1) := by decide +kernel
theorem dX6_redOf_2 : decode cX6_redOf 2 = .ok (.invokevirtual 141, 3) := by decide +kernel
theorem dX6_redOf_5 : decode cX6_redOf 5 = .ok (.aload_n 0, 1) := by decide +kernel
theorem dX6_redOf_6 : decode cX6_redOf 6 = .ok (.getfield 31, 3) := by decide +kernel
theorem dX6_redOf_9 : decode cX6_redOf 9 = .ok (.iload_n 1, 1) := by decide +kernel
theorem dX6_redOf_10 : decode cX6_redOf 10 = .ok (.invokevirtual 144, 3) := by decide +kernel
theorem dX6_redOf_13 : decode cX6_redOf 13 = .ok (.ireturn, 1) := by decide +kernel
theorem dX6_blueOf_0 : decode cX6_blueOf 0 = .ok (.aload_n 0, 1) := by decide +kernel
theorem dX6_blueOf_1 : decode cX6_blueOf 1 = .ok (.iload_n 1, 1) := by decide +kernel
theorem dX6_blueOf_2 : decode cX6_blueOf 2 = .ok (.invokevirtual 141, 3) := by decide +kernel
theorem dX6_blueOf_5 : decode cX6_blueOf 5 = .ok (.aload_n 0, 1) := by decide +kernel
theorem dX6_blueOf_6 : decode cX6_blueOf 6 = .ok (.getfield 31, 3) := by decide +kernel
theorem dX6_blueOf_9 : decode cX6_blueOf 9 = .ok (.iload_n 1, 1) := by decide +kernel
theorem dX6_blueOf_10 : decode cX6_blueOf 10 = .ok (.invokevirtual 147, 3) := by decide +kernel
theorem dX6_blueOf_13 : decode cX6_blueOf 13 = .ok (.ireturn, 1) := by decide +kernel
theorem dX6_outcomeOf_0 : decode cX6_outcomeOf 0 = .ok (.aload_n 0, 1) := by decide +kernel
theorem dX6_outcomeOf_1 : decode cX6_outcomeOf 1 = .ok (.iload_n 1, 1) := by decide +kernel
theorem dX6_outcomeOf_2 : decode cX6_outcomeOf 2 = .ok (.invokevirtual 141, 3) := by decide +kernel
theorem dX6_outcomeOf_5 : decode cX6_outcomeOf 5 = .ok (.aload_n 0, 1) := by decide +kernel
theorem dX6_outcomeOf_6 : decode cX6_outcomeOf 6 = .ok (.getfield 31, 3) := by decide +kernel
theorem dX6_outcomeOf_9 : decode cX6_outcomeOf 9 = .ok (.iload_n 1, 1) := by decide +kernel
theorem dX6_outcomeOf_10 : decode cX6_outcomeOf 10 = .ok (.invokevirtual 150, 3) := by decide +kernel
theorem dX6_outcomeOf_13 : decode cX6_outcomeOf 13 = .ok (.istore_n 2, 1) := by decide +kernel
theorem dX6_outcomeOf_14 : decode cX6_outcomeOf 14 = .ok (.iload_n 2, 1) := by decide +kernel
theorem dX6_outcomeOf_15 : decode cX6_outcomeOf 15 = .ok (.iconst (-1), 1) := by decide +kernel
theorem dX6_outcomeOf_16 : decode cX6_outcomeOf 16 = .ok (.if_icmp .ne 13, 3) := by decide +kernel
theorem dX6_outcomeOf_19 : decode cX6_outcomeOf 19 = .ok (.new 51, 3) := by decide +kernel
theorem dX6_outcomeOf_22 : decode cX6_outcomeOf 22 = .ok (.dup, 1) := by decide +kernel
theorem dX6_outcomeOf_23 : decode cX6_outcomeOf 23 = .ok (.ldc 153, 2) := by decide +kernel
theorem dX6_outcomeOf_25 : decode cX6_outcomeOf 25 = .ok (.invokespecial 55, 3) := by decide +kernel
theorem dX6_outcomeOf_28 : decode cX6_outcomeOf 28 = .ok (.athrow, 1) := by decide +kernel
theorem dX6_outcomeOf_29 : decode cX6_outcomeOf 29 = .ok (.iload_n 2, 1) := by decide +kernel
theorem dX6_outcomeOf_30 : decode cX6_outcomeOf 30 = .ok (.ireturn, 1) := by decide +kernel
theorem dX6_ruledOutcome_0 : decode cX6_ruledOutcome 0 = .ok (.aload_n 0, 1) := by decide +kernel
theorem dX6_ruledOutcome_1 : decode cX6_ruledOutcome 1 = .ok (.iload_n 1, 1) := by decide +kernel
theorem dX6_ruledOutcome_2 : decode cX6_ruledOutcome 2 = .ok (.invokevirtual 141, 3) := by decide +kernel
theorem dX6_ruledOutcome_5 : decode cX6_ruledOutcome 5 = .ok (.aload_n 0, 1) := by decide +kernel
theorem dX6_ruledOutcome_6 : decode cX6_ruledOutcome 6 = .ok (.getfield 24, 3) := by decide +kernel
theorem dX6_ruledOutcome_9 : decode cX6_ruledOutcome 9 = .ok (.aload_n 0, 1) := by decide +kernel
theorem dX6_ruledOutcome_10 : decode cX6_ruledOutcome 10 = .ok (.getfield 31, 3) := by decide +kernel
theorem dX6_ruledOutcome_13 : decode cX6_ruledOutcome 13 = .ok (.iload_n 1, 1) := by decide +kernel
theorem dX6_ruledOutcome_14 : decode cX6_ruledOutcome 14 = .ok (.invokevirtual 155, 3) := by decide +kernel
theorem dX6_ruledOutcome_17 : decode cX6_ruledOutcome 17 = .ok (.ireturn, 1) := by decide +kernel
theorem dX6_opponentOf_0 : decode cX6_opponentOf 0 = .ok (.aload_n 0, 1) := by decide +kernel
theorem dX6_opponentOf_1 : decode cX6_opponentOf 1 = .ok (.iload_n 1, 1) := by decide +kernel
theorem dX6_opponentOf_2 : decode cX6_opponentOf 2 = .ok (.invokevirtual 109, 3) := by decide +kernel
theorem dX6_opponentOf_5 : decode cX6_opponentOf 5 = .ok (.aload_n 0, 1) := by decide +kernel
theorem dX6_opponentOf_6 : decode cX6_opponentOf 6 = .ok (.getfield 31, 3) := by decide +kernel
theorem dX6_opponentOf_9 : decode cX6_opponentOf 9 = .ok (.iload_n 1, 1) := by decide +kernel
theorem dX6_opponentOf_10 : decode cX6_opponentOf 10 = .ok (.invokevirtual 159, 3) := by decide +kernel
theorem dX6_opponentOf_13 : decode cX6_opponentOf 13 = .ok (.istore_n 2, 1) := by decide +kernel
theorem dX6_opponentOf_14 : decode cX6_opponentOf 14 = .ok (.iload_n 2, 1) := by decide +kernel
theorem dX6_opponentOf_15 : decode cX6_opponentOf 15 = .ok (.iconst (-1), 1) := by decide +kernel
theorem dX6_opponentOf_16 : decode cX6_opponentOf 16 = .ok (.if_icmp .ne 13, 3) := by decide +kernel
theorem dX6_opponentOf_19 : decode cX6_opponentOf 19 = .ok (.new 51, 3) := by decide +kernel
theorem dX6_opponentOf_22 : decode cX6_opponentOf 22 = .ok (.dup, 1) := by decide +kernel
theorem dX6_opponentOf_23 : decode cX6_opponentOf 23 = .ok (.ldc 162, 2) := by decide +kernel
theorem dX6_opponentOf_25 : decode cX6_opponentOf 25 = .ok (.invokespecial 55, 3) := by decide +kernel
theorem dX6_opponentOf_28 : decode cX6_opponentOf 28 = .ok (.athrow, 1) := by decide +kernel
theorem dX6_opponentOf_29 : decode cX6_opponentOf 29 = .ok (.iload_n 2, 1) := by decide +kernel
theorem dX6_opponentOf_30 : decode cX6_opponentOf 30 = .ok (.ireturn, 1) := by decide +kernel
theorem dX6_restingOne_0 : decode cX6_restingOne 0 = .ok (.aload_n 0, 1) := by decide +kernel
theorem dX6_restingOne_1 : decode cX6_restingOne 1 = .ok (.getfield 31, 3) := by decide +kernel
theorem dX6_restingOne_4 : decode cX6_restingOne 4 = .ok (.getfield 164, 3) := by decide +kernel
theorem dX6_restingOne_7 : decode cX6_restingOne 7 = .ok (.iconst (-1), 1) := by decide +kernel
theorem dX6_restingOne_8 : decode cX6_restingOne 8 = .ok (.if_icmp .ne 13, 3) := by decide +kernel
theorem dX6_restingOne_11 : decode cX6_restingOne 11 = .ok (.new 51, 3) := by decide +kernel
theorem dX6_restingOne_14 : decode cX6_restingOne 14 = .ok (.dup, 1) := by decide +kernel
theorem dX6_restingOne_15 : decode cX6_restingOne 15 = .ok (.ldc 167, 2) := by decide +kernel
theorem dX6_restingOne_17 : decode cX6_restingOne 17 = .ok (.invokespecial 55, 3) := by decide +kernel
theorem dX6_restingOne_20 : decode cX6_restingOne 20 = .ok (.athrow, 1) := by decide +kernel
theorem dX6_restingOne_21 : decode cX6_restingOne 21 = .ok (.aload_n 0, 1) := by decide +kernel
theorem dX6_restingOne_22 : decode cX6_restingOne 22 = .ok (.getfield 31, 3) := by decide +kernel
theorem dX6_restingOne_25 : decode cX6_restingOne 25 = .ok (.getfield 164, 3) := by decide +kernel
theorem dX6_restingOne_28 : decode cX6_restingOne 28 = .ok (.ireturn, 1) := by decide +kernel
theorem dX6_pairRound_0 : decode cX6_pairRound 0 = .ok (.aload_n 0, 1) := by decide +kernel
theorem dX6_pairRound_1 : decode cX6_pairRound 1 = .ok (.invokevirtual 169, 3) := by decide +kernel
theorem dX6_pairRound_4 : decode cX6_pairRound 4 = .ok (.aload_n 0, 1) := by decide +kernel
theorem dX6_pairRound_5 : decode cX6_pairRound 5 = .ok (.getfield 41, 3) := by decide +kernel
theorem dX6_pairRound_8 : decode cX6_pairRound 8 = .ok (.aload_n 0, 1) := by decide +kernel
theorem dX6_pairRound_9 : decode cX6_pairRound 9 = .ok (.getfield 31, 3) := by decide +kernel
theorem dX6_pairRound_12 : decode cX6_pairRound 12 = .ok (.invokevirtual 172, 3) := by decide +kernel
theorem dX6_pairRound_15 : decode cX6_pairRound 15 = .ok (.aload_n 0, 1) := by decide +kernel
theorem dX6_pairRound_16 : decode cX6_pairRound 16 = .ok (.getfield 31, 3) := by decide +kernel
theorem dX6_pairRound_19 : decode cX6_pairRound 19 = .ok (.aload_n 0, 1) := by decide +kernel
theorem dX6_pairRound_20 : decode cX6_pairRound 20 = .ok (.getfield 41, 3) := by decide +kernel
theorem dX6_pairRound_23 : decode cX6_pairRound 23 = .ok (.invokevirtual 176, 3) := by decide +kernel
theorem dX6_pairRound_26 : decode cX6_pairRound 26 = .ok (.aload_n 0, 1) := by decide +kernel
theorem dX6_pairRound_27 : decode cX6_pairRound 27 = .ok (.getfield 31, 3) := by decide +kernel
theorem dX6_pairRound_30 : decode cX6_pairRound 30 = .ok (.getfield 103, 3) := by decide +kernel
theorem dX6_pairRound_33 : decode cX6_pairRound 33 = .ok (.ireturn, 1) := by decide +kernel
theorem dX6_tell_0 : decode cX6_tell 0 = .ok (.aload_n 0, 1) := by decide +kernel
theorem dX6_tell_1 : decode cX6_tell 1 = .ok (.iload_n 1, 1) := by decide +kernel
theorem dX6_tell_2 : decode cX6_tell 2 = .ok (.invokevirtual 141, 3) := by decide +kernel
theorem dX6_tell_5 : decode cX6_tell 5 = .ok (.iload_n 2, 1) := by decide +kernel
theorem dX6_tell_6 : decode cX6_tell 6 = .ok (.ifCond .lt 8, 3) := by decide +kernel
theorem dX6_tell_9 : decode cX6_tell 9 = .ok (.iload_n 2, 1) := by decide +kernel
theorem dX6_tell_10 : decode cX6_tell 10 = .ok (.iconst 2, 1) := by decide +kernel
theorem dX6_tell_11 : decode cX6_tell 11 = .ok (.if_icmp .le 13, 3) := by decide +kernel
theorem dX6_tell_14 : decode cX6_tell 14 = .ok (.new 62, 3) := by decide +kernel
theorem dX6_tell_17 : decode cX6_tell 17 = .ok (.dup, 1) := by decide +kernel
theorem dX6_tell_18 : decode cX6_tell 18 = .ok (.ldc 180, 2) := by decide +kernel
theorem dX6_tell_20 : decode cX6_tell 20 = .ok (.invokespecial 66, 3) := by decide +kernel
theorem dX6_tell_23 : decode cX6_tell 23 = .ok (.athrow, 1) := by decide +kernel
theorem dX6_tell_24 : decode cX6_tell 24 = .ok (.aload_n 0, 1) := by decide +kernel
theorem dX6_tell_25 : decode cX6_tell 25 = .ok (.getfield 31, 3) := by decide +kernel
theorem dX6_tell_28 : decode cX6_tell 28 = .ok (.iload_n 1, 1) := by decide +kernel
theorem dX6_tell_29 : decode cX6_tell 29 = .ok (.invokevirtual 150, 3) := by decide +kernel
theorem dX6_tell_32 : decode cX6_tell 32 = .ok (.iconst (-1), 1) := by decide +kernel
theorem dX6_tell_33 : decode cX6_tell 33 = .ok (.if_icmp .eq 13, 3) := by decide +kernel
theorem dX6_tell_36 : decode cX6_tell 36 = .ok (.new 51, 3) := by decide +kernel
theorem dX6_tell_39 : decode cX6_tell 39 = .ok (.dup, 1) := by decide +kernel
theorem dX6_tell_40 : decode cX6_tell 40 = .ok (.ldc 182, 2) := by decide +kernel
theorem dX6_tell_42 : decode cX6_tell 42 = .ok (.invokespecial 55, 3) := by decide +kernel
theorem dX6_tell_45 : decode cX6_tell 45 = .ok (.athrow, 1) := by decide +kernel
theorem dX6_tell_46 : decode cX6_tell 46 = .ok (.aload_n 0, 1) := by decide +kernel
theorem dX6_tell_47 : decode cX6_tell 47 = .ok (.getfield 31, 3) := by decide +kernel
theorem dX6_tell_50 : decode cX6_tell 50 = .ok (.iload_n 1, 1) := by decide +kernel
theorem dX6_tell_51 : decode cX6_tell 51 = .ok (.iload_n 2, 1) := by decide +kernel
theorem dX6_tell_52 : decode cX6_tell 52 = .ok (.invokevirtual 184, 3) := by decide +kernel
theorem dX6_tell_55 : decode cX6_tell 55 = .ok (.aload_n 0, 1) := by decide +kernel
theorem dX6_tell_56 : decode cX6_tell 56 = .ok (.getfield 31, 3) := by decide +kernel
theorem dX6_tell_59 : decode cX6_tell 59 = .ok (.invokevirtual 106, 3) := by decide +kernel
theorem dX6_tell_62 : decode cX6_tell 62 = .ok (.ireturn, 1) := by decide +kernel
theorem dX6_tellByRules_0 : decode cX6_tellByRules 0 = .ok (.aload_n 0, 1) := by decide +kernel
theorem dX6_tellByRules_1 : decode cX6_tellByRules 1 = .ok (.getfield 31, 3) := by decide +kernel
theorem dX6_tellByRules_4 : decode cX6_tellByRules 4 = .ok (.invokevirtual 106, 3) := by decide +kernel
theorem dX6_tellByRules_7 : decode cX6_tellByRules 7 = .ok (.ifCond .ne 13, 3) := by decide +kernel
theorem dX6_tellByRules_10 : decode cX6_tellByRules 10 = .ok (.new 51, 3) := by decide +kernel
theorem dX6_tellByRules_13 : decode cX6_tellByRules 13 = .ok (.dup, 1) := by decide +kernel
theorem dX6_tellByRules_14 : decode cX6_tellByRules 14 = .ok (.ldc 188, 2) := by decide +kernel
theorem dX6_tellByRules_16 : decode cX6_tellByRules 16 = .ok (.invokespecial 55, 3) := by decide +kernel
theorem dX6_tellByRules_19 : decode cX6_tellByRules 19 = .ok (.athrow, 1) := by decide +kernel
theorem dX6_tellByRules_20 : decode cX6_tellByRules 20 = .ok (.aload_n 0, 1) := by decide +kernel
theorem dX6_tellByRules_21 : decode cX6_tellByRules 21 = .ok (.aload_n 0, 1) := by decide +kernel
theorem dX6_tellByRules_22 : decode cX6_tellByRules 22 = .ok (.getfield 31, 3) := by decide +kernel
theorem dX6_tellByRules_25 : decode cX6_tellByRules 25 = .ok (.invokevirtual 190, 3) := by decide +kernel
theorem dX6_tellByRules_28 : decode cX6_tellByRules 28 = .ok (.ireturn, 1) := by decide +kernel
theorem dX6_turnIn_0 : decode cX6_turnIn 0 = .ok (.aload_n 0, 1) := by decide +kernel
theorem dX6_turnIn_1 : decode cX6_turnIn 1 = .ok (.iload_n 1, 1) := by decide +kernel
theorem dX6_turnIn_2 : decode cX6_turnIn 2 = .ok (.invokevirtual 109, 3) := by decide +kernel
theorem dX6_turnIn_5 : decode cX6_turnIn 5 = .ok (.aload_n 0, 1) := by decide +kernel
theorem dX6_turnIn_6 : decode cX6_turnIn 6 = .ok (.getfield 31, 3) := by decide +kernel
theorem dX6_turnIn_9 : decode cX6_turnIn 9 = .ok (.bipush 8, 2) := by decide +kernel
theorem dX6_turnIn_11 : decode cX6_turnIn 11 = .ok (.iload_n 1, 1) := by decide +kernel
theorem dX6_turnIn_12 : decode cX6_turnIn 12 = .ok (.iconst 1, 1) := by decide +kernel
theorem dX6_turnIn_13 : decode cX6_turnIn 13 = .ok (.aload_n 0, 1) := by decide +kernel
theorem dX6_turnIn_14 : decode cX6_turnIn 14 = .ok (.getfield 31, 3) := by decide +kernel
theorem dX6_turnIn_17 : decode cX6_turnIn 17 = .ok (.bipush 8, 2) := by decide +kernel
theorem dX6_turnIn_19 : decode cX6_turnIn 19 = .ok (.iload_n 1, 1) := by decide +kernel
theorem dX6_turnIn_20 : decode cX6_turnIn 20 = .ok (.invokevirtual 112, 3) := by decide +kernel
theorem dX6_turnIn_23 : decode cX6_turnIn 23 = .ok (.isub, 1) := by decide +kernel
theorem dX6_turnIn_24 : decode cX6_turnIn 24 = .ok (.invokevirtual 194, 3) := by decide +kernel
theorem dX6_turnIn_27 : decode cX6_turnIn 27 = .ok (.aload_n 0, 1) := by decide +kernel
theorem dX6_turnIn_28 : decode cX6_turnIn 28 = .ok (.getfield 31, 3) := by decide +kernel
theorem dX6_turnIn_31 : decode cX6_turnIn 31 = .ok (.bipush 8, 2) := by decide +kernel
theorem dX6_turnIn_33 : decode cX6_turnIn 33 = .ok (.iload_n 1, 1) := by decide +kernel
theorem dX6_turnIn_34 : decode cX6_turnIn 34 = .ok (.invokevirtual 112, 3) := by decide +kernel
theorem dX6_turnIn_37 : decode cX6_turnIn 37 = .ok (.ifCond .eq 7, 3) := by decide +kernel
theorem dX6_turnIn_40 : decode cX6_turnIn 40 = .ok (.iconst 1, 1) := by decide +kernel
theorem dX6_turnIn_41 : decode cX6_turnIn 41 = .ok (.goto 4, 3) := by decide +kernel
theorem dX6_turnIn_44 : decode cX6_turnIn 44 = .ok (.iconst 0, 1) := by decide +kernel
theorem dX6_turnIn_45 : decode cX6_turnIn 45 = .ok (.ireturn, 1) := by decide +kernel
theorem dX6_nextOpponentOf_0 : decode cX6_nextOpponentOf 0 = .ok (.aload_n 0, 1) := by decide +kernel
theorem dX6_nextOpponentOf_1 : decode cX6_nextOpponentOf 1 = .ok (.iload_n 1, 1) := by decide +kernel
theorem dX6_nextOpponentOf_2 : decode cX6_nextOpponentOf 2 = .ok (.invokevirtual 109, 3) := by decide +kernel
theorem dX6_nextOpponentOf_5 : decode cX6_nextOpponentOf 5 = .ok (.aload_n 0, 1) := by decide +kernel
theorem dX6_nextOpponentOf_6 : decode cX6_nextOpponentOf 6 = .ok (.invokevirtual 169, 3) := by decide +kernel
theorem dX6_nextOpponentOf_9 : decode cX6_nextOpponentOf 9 = .ok (.aload_n 0, 1) := by decide +kernel
theorem dX6_nextOpponentOf_10 : decode cX6_nextOpponentOf 10 = .ok (.getfield 41, 3) := by decide +kernel
theorem dX6_nextOpponentOf_13 : decode cX6_nextOpponentOf 13 = .ok (.aload_n 0, 1) := by decide +kernel
theorem dX6_nextOpponentOf_14 : decode cX6_nextOpponentOf 14 = .ok (.getfield 31, 3) := by decide +kernel
theorem dX6_nextOpponentOf_17 : decode cX6_nextOpponentOf 17 = .ok (.invokevirtual 172, 3) := by decide +kernel
theorem dX6_nextOpponentOf_20 : decode cX6_nextOpponentOf 20 = .ok (.aload_n 0, 1) := by decide +kernel
theorem dX6_nextOpponentOf_21 : decode cX6_nextOpponentOf 21 = .ok (.getfield 41, 3) := by decide +kernel
theorem dX6_nextOpponentOf_24 : decode cX6_nextOpponentOf 24 = .ok (.iload_n 1, 1) := by decide +kernel
theorem dX6_nextOpponentOf_25 : decode cX6_nextOpponentOf 25 = .ok (.invokevirtual 198, 3) := by decide +kernel
theorem dX6_nextOpponentOf_28 : decode cX6_nextOpponentOf 28 = .ok (.istore_n 2, 1) := by decide +kernel
theorem dX6_nextOpponentOf_29 : decode cX6_nextOpponentOf 29 = .ok (.iload_n 2, 1) := by decide +kernel
theorem dX6_nextOpponentOf_30 : decode cX6_nextOpponentOf 30 = .ok (.iconst (-1), 1) := by decide +kernel
theorem dX6_nextOpponentOf_31 : decode cX6_nextOpponentOf 31 = .ok (.if_icmp .ne 13, 3) := by decide +kernel
theorem dX6_nextOpponentOf_34 : decode cX6_nextOpponentOf 34 = .ok (.new 51, 3) := by decide +kernel
theorem dX6_nextOpponentOf_37 : decode cX6_nextOpponentOf 37 = .ok (.dup, 1) := by decide +kernel
theorem dX6_nextOpponentOf_38 : decode cX6_nextOpponentOf 38 = .ok (.ldc 199, 2) := by decide +kernel
theorem dX6_nextOpponentOf_40 : decode cX6_nextOpponentOf 40 = .ok (.invokespecial 55, 3) := by decide +kernel
theorem dX6_nextOpponentOf_43 : decode cX6_nextOpponentOf 43 = .ok (.athrow, 1) := by decide +kernel
theorem dX6_nextOpponentOf_44 : decode cX6_nextOpponentOf 44 = .ok (.iload_n 2, 1) := by decide +kernel
theorem dX6_nextOpponentOf_45 : decode cX6_nextOpponentOf 45 = .ok (.ireturn, 1) := by decide +kernel
theorem dX6_nextRematches_0 : decode cX6_nextRematches 0 = .ok (.aload_n 0, 1) := by decide +kernel
theorem dX6_nextRematches_1 : decode cX6_nextRematches 1 = .ok (.invokevirtual 169, 3) := by decide +kernel
theorem dX6_nextRematches_4 : decode cX6_nextRematches 4 = .ok (.aload_n 0, 1) := by decide +kernel
theorem dX6_nextRematches_5 : decode cX6_nextRematches 5 = .ok (.getfield 41, 3) := by decide +kernel
theorem dX6_nextRematches_8 : decode cX6_nextRematches 8 = .ok (.aload_n 0, 1) := by decide +kernel
theorem dX6_nextRematches_9 : decode cX6_nextRematches 9 = .ok (.getfield 31, 3) := by decide +kernel
theorem dX6_nextRematches_12 : decode cX6_nextRematches 12 = .ok (.invokevirtual 172, 3) := by decide +kernel
theorem dX6_nextRematches_15 : decode cX6_nextRematches 15 = .ok (.aload_n 0, 1) := by decide +kernel
theorem dX6_nextRematches_16 : decode cX6_nextRematches 16 = .ok (.getfield 41, 3) := by decide +kernel
theorem dX6_nextRematches_19 : decode cX6_nextRematches 19 = .ok (.getfield 201, 3) := by decide +kernel
theorem dX6_nextRematches_22 : decode cX6_nextRematches 22 = .ok (.ireturn, 1) := by decide +kernel
theorem dX6_leaderAfter_0 : decode cX6_leaderAfter 0 = .ok (.iload_n 1, 1) := by decide +kernel
theorem dX6_leaderAfter_1 : decode cX6_leaderAfter 1 = .ok (.invokestatic 204, 3) := by decide +kernel
theorem dX6_leaderAfter_4 : decode cX6_leaderAfter 4 = .ok (.aload_n 0, 1) := by decide +kernel
theorem dX6_leaderAfter_5 : decode cX6_leaderAfter 5 = .ok (.getfield 31, 3) := by decide +kernel
theorem dX6_leaderAfter_8 : decode cX6_leaderAfter 8 = .ok (.getfield 93, 3) := by decide +kernel
theorem dX6_leaderAfter_11 : decode cX6_leaderAfter 11 = .ok (.ifCond .ne 13, 3) := by decide +kernel
theorem dX6_leaderAfter_14 : decode cX6_leaderAfter 14 = .ok (.new 51, 3) := by decide +kernel
theorem dX6_leaderAfter_17 : decode cX6_leaderAfter 17 = .ok (.dup, 1) := by decide +kernel
theorem dX6_leaderAfter_18 : decode cX6_leaderAfter 18 = .ok (.ldc 207, 2) := by decide +kernel
theorem dX6_leaderAfter_20 : decode cX6_leaderAfter 20 = .ok (.invokespecial 55, 3) := by decide +kernel
theorem dX6_leaderAfter_23 : decode cX6_leaderAfter 23 = .ok (.athrow, 1) := by decide +kernel
theorem dX6_leaderAfter_24 : decode cX6_leaderAfter 24 = .ok (.aload_n 0, 1) := by decide +kernel
theorem dX6_leaderAfter_25 : decode cX6_leaderAfter 25 = .ok (.iload_n 1, 1) := by decide +kernel
theorem dX6_leaderAfter_26 : decode cX6_leaderAfter 26 = .ok (.invokevirtual 209, 3) := by decide +kernel
theorem dX6_leaderAfter_29 : decode cX6_leaderAfter 29 = .ok (.aload_n 0, 1) := by decide +kernel
theorem dX6_leaderAfter_30 : decode cX6_leaderAfter 30 = .ok (.getfield 35, 3) := by decide +kernel
theorem dX6_leaderAfter_33 : decode cX6_leaderAfter 33 = .ok (.invokevirtual 120, 3) := by decide +kernel
theorem dX6_leaderAfter_36 : decode cX6_leaderAfter 36 = .ok (.aload_n 0, 1) := by decide +kernel
theorem dX6_leaderAfter_37 : decode cX6_leaderAfter 37 = .ok (.getfield 35, 3) := by decide +kernel
theorem dX6_leaderAfter_40 : decode cX6_leaderAfter 40 = .ok (.iconst 0, 1) := by decide +kernel
theorem dX6_leaderAfter_41 : decode cX6_leaderAfter 41 = .ok (.invokevirtual 135, 3) := by decide +kernel
theorem dX6_leaderAfter_44 : decode cX6_leaderAfter 44 = .ok (.ireturn, 1) := by decide +kernel
theorem dX6_pointsAfter_0 : decode cX6_pointsAfter 0 = .ok (.aload_n 0, 1) := by decide +kernel
theorem dX6_pointsAfter_1 : decode cX6_pointsAfter 1 = .ok (.iload_n 1, 1) := by decide +kernel
theorem dX6_pointsAfter_2 : decode cX6_pointsAfter 2 = .ok (.invokevirtual 109, 3) := by decide +kernel
theorem dX6_pointsAfter_5 : decode cX6_pointsAfter 5 = .ok (.iload_n 2, 1) := by decide +kernel
theorem dX6_pointsAfter_6 : decode cX6_pointsAfter 6 = .ok (.invokestatic 204, 3) := by decide +kernel
theorem dX6_pointsAfter_9 : decode cX6_pointsAfter 9 = .ok (.aload_n 0, 1) := by decide +kernel
theorem dX6_pointsAfter_10 : decode cX6_pointsAfter 10 = .ok (.iload_n 2, 1) := by decide +kernel
theorem dX6_pointsAfter_11 : decode cX6_pointsAfter 11 = .ok (.invokevirtual 209, 3) := by decide +kernel
theorem dX6_pointsAfter_14 : decode cX6_pointsAfter 14 = .ok (.aload_n 0, 1) := by decide +kernel
theorem dX6_pointsAfter_15 : decode cX6_pointsAfter 15 = .ok (.getfield 35, 3) := by decide +kernel
theorem dX6_pointsAfter_18 : decode cX6_pointsAfter 18 = .ok (.iconst 1, 1) := by decide +kernel
theorem dX6_pointsAfter_19 : decode cX6_pointsAfter 19 = .ok (.iload_n 1, 1) := by decide +kernel
theorem dX6_pointsAfter_20 : decode cX6_pointsAfter 20 = .ok (.invokevirtual 112, 3) := by decide +kernel
theorem dX6_pointsAfter_23 : decode cX6_pointsAfter 23 = .ok (.ireturn, 1) := by decide +kernel
theorem dX6_meanPoints_0 : decode cX6_meanPoints 0 = .ok (.aload_n 0, 1) := by decide +kernel
theorem dX6_meanPoints_1 : decode cX6_meanPoints 1 = .ok (.getfield 31, 3) := by decide +kernel
theorem dX6_meanPoints_4 : decode cX6_meanPoints 4 = .ok (.getfield 93, 3) := by decide +kernel
theorem dX6_meanPoints_7 : decode cX6_meanPoints 7 = .ok (.ifCond .ne 5, 3) := by decide +kernel
theorem dX6_meanPoints_10 : decode cX6_meanPoints 10 = .ok (.dconst 0, 1) := by decide +kernel
theorem dX6_meanPoints_11 : decode cX6_meanPoints 11 = .ok (.dreturn, 1) := by decide +kernel
theorem dX6_meanPoints_12 : decode cX6_meanPoints 12 = .ok (.iconst 0, 1) := by decide +kernel
theorem dX6_meanPoints_13 : decode cX6_meanPoints 13 = .ok (.istore_n 1, 1) := by decide +kernel
theorem dX6_meanPoints_14 : decode cX6_meanPoints 14 = .ok (.iconst 0, 1) := by decide +kernel
theorem dX6_meanPoints_15 : decode cX6_meanPoints 15 = .ok (.istore_n 2, 1) := by decide +kernel
theorem dX6_meanPoints_16 : decode cX6_meanPoints 16 = .ok (.iload_n 2, 1) := by decide +kernel
theorem dX6_meanPoints_17 : decode cX6_meanPoints 17 = .ok (.aload_n 0, 1) := by decide +kernel
theorem dX6_meanPoints_18 : decode cX6_meanPoints 18 = .ok (.getfield 31, 3) := by decide +kernel
theorem dX6_meanPoints_21 : decode cX6_meanPoints 21 = .ok (.getfield 93, 3) := by decide +kernel
theorem dX6_meanPoints_24 : decode cX6_meanPoints 24 = .ok (.if_icmp .ge 21, 3) := by decide +kernel
theorem dX6_meanPoints_27 : decode cX6_meanPoints 27 = .ok (.iload_n 1, 1) := by decide +kernel
theorem dX6_meanPoints_28 : decode cX6_meanPoints 28 = .ok (.aload_n 0, 1) := by decide +kernel
theorem dX6_meanPoints_29 : decode cX6_meanPoints 29 = .ok (.getfield 31, 3) := by decide +kernel
theorem dX6_meanPoints_32 : decode cX6_meanPoints 32 = .ok (.iconst 1, 1) := by decide +kernel
theorem dX6_meanPoints_33 : decode cX6_meanPoints 33 = .ok (.iload_n 2, 1) := by decide +kernel
theorem dX6_meanPoints_34 : decode cX6_meanPoints 34 = .ok (.invokevirtual 112, 3) := by decide +kernel
theorem dX6_meanPoints_37 : decode cX6_meanPoints 37 = .ok (.iadd, 1) := by decide +kernel
theorem dX6_meanPoints_38 : decode cX6_meanPoints 38 = .ok (.istore_n 1, 1) := by decide +kernel
theorem dX6_meanPoints_39 : decode cX6_meanPoints 39 = .ok (.iinc 2 1, 3) := by decide +kernel
theorem dX6_meanPoints_42 : decode cX6_meanPoints 42 = .ok (.goto (-26), 3) := by decide +kernel
theorem dX6_meanPoints_45 : decode cX6_meanPoints 45 = .ok (.iload_n 1, 1) := by decide +kernel
theorem dX6_meanPoints_46 : decode cX6_meanPoints 46 = .ok (.i2d, 1) := by decide +kernel
theorem dX6_meanPoints_47 : decode cX6_meanPoints 47 = .ok (.aload_n 0, 1) := by decide +kernel
theorem dX6_meanPoints_48 : decode cX6_meanPoints 48 = .ok (.getfield 31, 3) := by decide +kernel
theorem dX6_meanPoints_51 : decode cX6_meanPoints 51 = .ok (.getfield 93, 3) := by decide +kernel
theorem dX6_meanPoints_54 : decode cX6_meanPoints 54 = .ok (.i2d, 1) := by decide +kernel
theorem dX6_meanPoints_55 : decode cX6_meanPoints 55 = .ok (.ddiv, 1) := by decide +kernel
theorem dX6_meanPoints_56 : decode cX6_meanPoints 56 = .ok (.dreturn, 1) := by decide +kernel
theorem dX6_digest_0 : decode cX6_digest 0 = .ok (.ldc2_w 212, 3) := by decide +kernel
theorem dX6_digest_3 : decode cX6_digest 3 = .ok (.lstore_n 1, 1) := by decide +kernel
theorem dX6_digest_4 : decode cX6_digest 4 = .ok (.lload_n 1, 1) := by decide +kernel
theorem dX6_digest_5 : decode cX6_digest 5 = .ok (.ldc2_w 214, 3) := by decide +kernel
theorem dX6_digest_8 : decode cX6_digest 8 = .ok (.lmul, 1) := by decide +kernel
theorem dX6_digest_9 : decode cX6_digest 9 = .ok (.aload_n 0, 1) := by decide +kernel
theorem dX6_digest_10 : decode cX6_digest 10 = .ok (.invokevirtual 216, 3) := by decide +kernel
theorem dX6_digest_13 : decode cX6_digest 13 = .ok (.i2l, 1) := by decide +kernel
theorem dX6_digest_14 : decode cX6_digest 14 = .ok (.ladd, 1) := by decide +kernel
theorem dX6_digest_15 : decode cX6_digest 15 = .ok (.lstore_n 1, 1) := by decide +kernel
theorem dX6_digest_16 : decode cX6_digest 16 = .ok (.lload_n 1, 1) := by decide +kernel
theorem dX6_digest_17 : decode cX6_digest 17 = .ok (.ldc2_w 214, 3) := by decide +kernel
theorem dX6_digest_20 : decode cX6_digest 20 = .ok (.lmul, 1) := by decide +kernel
theorem dX6_digest_21 : decode cX6_digest 21 = .ok (.aload_n 0, 1) := by decide +kernel
theorem dX6_digest_22 : decode cX6_digest 22 = .ok (.invokevirtual 218, 3) := by decide +kernel
theorem dX6_digest_25 : decode cX6_digest 25 = .ok (.i2l, 1) := by decide +kernel
theorem dX6_digest_26 : decode cX6_digest 26 = .ok (.ladd, 1) := by decide +kernel
theorem dX6_digest_27 : decode cX6_digest 27 = .ok (.lstore_n 1, 1) := by decide +kernel
theorem dX6_digest_28 : decode cX6_digest 28 = .ok (.lload_n 1, 1) := by decide +kernel
theorem dX6_digest_29 : decode cX6_digest 29 = .ok (.ldc2_w 214, 3) := by decide +kernel
theorem dX6_digest_32 : decode cX6_digest 32 = .ok (.lmul, 1) := by decide +kernel
theorem dX6_digest_33 : decode cX6_digest 33 = .ok (.aload_n 0, 1) := by decide +kernel
theorem dX6_digest_34 : decode cX6_digest 34 = .ok (.invokevirtual 221, 3) := by decide +kernel
theorem dX6_digest_37 : decode cX6_digest 37 = .ok (.i2l, 1) := by decide +kernel
theorem dX6_digest_38 : decode cX6_digest 38 = .ok (.ladd, 1) := by decide +kernel
theorem dX6_digest_39 : decode cX6_digest 39 = .ok (.lstore_n 1, 1) := by decide +kernel
theorem dX6_digest_40 : decode cX6_digest 40 = .ok (.lload_n 1, 1) := by decide +kernel
theorem dX6_digest_41 : decode cX6_digest 41 = .ok (.ldc2_w 214, 3) := by decide +kernel
theorem dX6_digest_44 : decode cX6_digest 44 = .ok (.lmul, 1) := by decide +kernel
theorem dX6_digest_45 : decode cX6_digest 45 = .ok (.aload_n 0, 1) := by decide +kernel
theorem dX6_digest_46 : decode cX6_digest 46 = .ok (.invokevirtual 223, 3) := by decide +kernel
theorem dX6_digest_49 : decode cX6_digest 49 = .ok (.i2l, 1) := by decide +kernel
theorem dX6_digest_50 : decode cX6_digest 50 = .ok (.ladd, 1) := by decide +kernel
theorem dX6_digest_51 : decode cX6_digest 51 = .ok (.lstore_n 1, 1) := by decide +kernel
theorem dX6_digest_52 : decode cX6_digest 52 = .ok (.lload_n 1, 1) := by decide +kernel
theorem dX6_digest_53 : decode cX6_digest 53 = .ok (.ldc2_w 214, 3) := by decide +kernel
theorem dX6_digest_56 : decode cX6_digest 56 = .ok (.lmul, 1) := by decide +kernel
theorem dX6_digest_57 : decode cX6_digest 57 = .ok (.aload_n 0, 1) := by decide +kernel
theorem dX6_digest_58 : decode cX6_digest 58 = .ok (.invokevirtual 225, 3) := by decide +kernel
theorem dX6_digest_61 : decode cX6_digest 61 = .ok (.i2l, 1) := by decide +kernel
theorem dX6_digest_62 : decode cX6_digest 62 = .ok (.ladd, 1) := by decide +kernel
theorem dX6_digest_63 : decode cX6_digest 63 = .ok (.lstore_n 1, 1) := by decide +kernel
theorem dX6_digest_64 : decode cX6_digest 64 = .ok (.lload_n 1, 1) := by decide +kernel
theorem dX6_digest_65 : decode cX6_digest 65 = .ok (.ldc2_w 214, 3) := by decide +kernel
theorem dX6_digest_68 : decode cX6_digest 68 = .ok (.lmul, 1) := by decide +kernel
theorem dX6_digest_69 : decode cX6_digest 69 = .ok (.aload_n 0, 1) := by decide +kernel
theorem dX6_digest_70 : decode cX6_digest 70 = .ok (.invokevirtual 228, 3) := by decide +kernel
theorem dX6_digest_73 : decode cX6_digest 73 = .ok (.i2l, 1) := by decide +kernel
theorem dX6_digest_74 : decode cX6_digest 74 = .ok (.ladd, 1) := by decide +kernel
theorem dX6_digest_75 : decode cX6_digest 75 = .ok (.lstore_n 1, 1) := by decide +kernel
theorem dX6_digest_76 : decode cX6_digest 76 = .ok (.lload_n 1, 1) := by decide +kernel
theorem dX6_digest_77 : decode cX6_digest 77 = .ok (.ldc2_w 214, 3) := by decide +kernel
theorem dX6_digest_80 : decode cX6_digest 80 = .ok (.lmul, 1) := by decide +kernel
theorem dX6_digest_81 : decode cX6_digest 81 = .ok (.aload_n 0, 1) := by decide +kernel
theorem dX6_digest_82 : decode cX6_digest 82 = .ok (.invokevirtual 230, 3) := by decide +kernel
theorem dX6_digest_85 : decode cX6_digest 85 = .ok (.i2l, 1) := by decide +kernel
theorem dX6_digest_86 : decode cX6_digest 86 = .ok (.ladd, 1) := by decide +kernel
theorem dX6_digest_87 : decode cX6_digest 87 = .ok (.lstore_n 1, 1) := by decide +kernel
theorem dX6_digest_88 : decode cX6_digest 88 = .ok (.aload_n 0, 1) := by decide +kernel
theorem dX6_digest_89 : decode cX6_digest 89 = .ok (.getfield 31, 3) := by decide +kernel
theorem dX6_digest_92 : decode cX6_digest 92 = .ok (.invokevirtual 120, 3) := by decide +kernel
theorem dX6_digest_95 : decode cX6_digest 95 = .ok (.iconst 0, 1) := by decide +kernel
theorem dX6_digest_96 : decode cX6_digest 96 = .ok (.istore_n 3, 1) := by decide +kernel
theorem dX6_digest_97 : decode cX6_digest 97 = .ok (.iload_n 3, 1) := by decide +kernel
theorem dX6_digest_98 : decode cX6_digest 98 = .ok (.aload_n 0, 1) := by decide +kernel
theorem dX6_digest_99 : decode cX6_digest 99 = .ok (.getfield 31, 3) := by decide +kernel
theorem dX6_digest_102 : decode cX6_digest 102 = .ok (.getfield 93, 3) := by decide +kernel
theorem dX6_digest_105 : decode cX6_digest 105 = .ok (.if_icmp .ge 16, 3) := by decide +kernel
theorem dX6_digest_108 : decode cX6_digest 108 = .ok (.aload_n 0, 1) := by decide +kernel
theorem dX6_digest_109 : decode cX6_digest 109 = .ok (.lload_n 1, 1) := by decide +kernel
theorem dX6_digest_110 : decode cX6_digest 110 = .ok (.iload_n 3, 1) := by decide +kernel
theorem dX6_digest_111 : decode cX6_digest 111 = .ok (.invokevirtual 233, 3) := by decide +kernel
theorem dX6_digest_114 : decode cX6_digest 114 = .ok (.lstore_n 1, 1) := by decide +kernel
theorem dX6_digest_115 : decode cX6_digest 115 = .ok (.iinc 3 1, 3) := by decide +kernel
theorem dX6_digest_118 : decode cX6_digest 118 = .ok (.goto (-21), 3) := by decide +kernel
theorem dX6_digest_121 : decode cX6_digest 121 = .ok (.iconst 0, 1) := by decide +kernel
theorem dX6_digest_122 : decode cX6_digest 122 = .ok (.istore_n 3, 1) := by decide +kernel
theorem dX6_digest_123 : decode cX6_digest 123 = .ok (.iload_n 3, 1) := by decide +kernel
theorem dX6_digest_124 : decode cX6_digest 124 = .ok (.aload_n 0, 1) := by decide +kernel
theorem dX6_digest_125 : decode cX6_digest 125 = .ok (.getfield 31, 3) := by decide +kernel
theorem dX6_digest_128 : decode cX6_digest 128 = .ok (.getfield 103, 3) := by decide +kernel
theorem dX6_digest_131 : decode cX6_digest 131 = .ok (.if_icmp .ge 57, 3) := by decide +kernel
theorem dX6_digest_134 : decode cX6_digest 134 = .ok (.lload_n 1, 1) := by decide +kernel
theorem dX6_digest_135 : decode cX6_digest 135 = .ok (.ldc2_w 214, 3) := by decide +kernel
theorem dX6_digest_138 : decode cX6_digest 138 = .ok (.lmul, 1) := by decide +kernel
theorem dX6_digest_139 : decode cX6_digest 139 = .ok (.aload_n 0, 1) := by decide +kernel
theorem dX6_digest_140 : decode cX6_digest 140 = .ok (.getfield 31, 3) := by decide +kernel
theorem dX6_digest_143 : decode cX6_digest 143 = .ok (.iload_n 3, 1) := by decide +kernel
theorem dX6_digest_144 : decode cX6_digest 144 = .ok (.invokevirtual 144, 3) := by decide +kernel
theorem dX6_digest_147 : decode cX6_digest 147 = .ok (.i2l, 1) := by decide +kernel
theorem dX6_digest_148 : decode cX6_digest 148 = .ok (.ladd, 1) := by decide +kernel
theorem dX6_digest_149 : decode cX6_digest 149 = .ok (.lstore_n 1, 1) := by decide +kernel
theorem dX6_digest_150 : decode cX6_digest 150 = .ok (.lload_n 1, 1) := by decide +kernel
theorem dX6_digest_151 : decode cX6_digest 151 = .ok (.ldc2_w 214, 3) := by decide +kernel
theorem dX6_digest_154 : decode cX6_digest 154 = .ok (.lmul, 1) := by decide +kernel
theorem dX6_digest_155 : decode cX6_digest 155 = .ok (.aload_n 0, 1) := by decide +kernel
theorem dX6_digest_156 : decode cX6_digest 156 = .ok (.getfield 31, 3) := by decide +kernel
theorem dX6_digest_159 : decode cX6_digest 159 = .ok (.iload_n 3, 1) := by decide +kernel
theorem dX6_digest_160 : decode cX6_digest 160 = .ok (.invokevirtual 147, 3) := by decide +kernel
theorem dX6_digest_163 : decode cX6_digest 163 = .ok (.i2l, 1) := by decide +kernel
theorem dX6_digest_164 : decode cX6_digest 164 = .ok (.ladd, 1) := by decide +kernel
theorem dX6_digest_165 : decode cX6_digest 165 = .ok (.lstore_n 1, 1) := by decide +kernel
theorem dX6_digest_166 : decode cX6_digest 166 = .ok (.lload_n 1, 1) := by decide +kernel
theorem dX6_digest_167 : decode cX6_digest 167 = .ok (.ldc2_w 214, 3) := by decide +kernel
theorem dX6_digest_170 : decode cX6_digest 170 = .ok (.lmul, 1) := by decide +kernel
theorem dX6_digest_171 : decode cX6_digest 171 = .ok (.aload_n 0, 1) := by decide +kernel
theorem dX6_digest_172 : decode cX6_digest 172 = .ok (.getfield 31, 3) := by decide +kernel
theorem dX6_digest_175 : decode cX6_digest 175 = .ok (.iload_n 3, 1) := by decide +kernel
theorem dX6_digest_176 : decode cX6_digest 176 = .ok (.invokevirtual 150, 3) := by decide +kernel
theorem dX6_digest_179 : decode cX6_digest 179 = .ok (.i2l, 1) := by decide +kernel
theorem dX6_digest_180 : decode cX6_digest 180 = .ok (.ladd, 1) := by decide +kernel
theorem dX6_digest_181 : decode cX6_digest 181 = .ok (.lstore_n 1, 1) := by decide +kernel
theorem dX6_digest_182 : decode cX6_digest 182 = .ok (.iinc 3 1, 3) := by decide +kernel
theorem dX6_digest_185 : decode cX6_digest 185 = .ok (.goto (-62), 3) := by decide +kernel
theorem dX6_digest_188 : decode cX6_digest 188 = .ok (.lload_n 1, 1) := by decide +kernel
theorem dX6_digest_189 : decode cX6_digest 189 = .ok (.lreturn, 1) := by decide +kernel
theorem dX6_digestWrestler_0 : decode cX6_digestWrestler 0 = .ok (.lload_n 1, 1) := by decide +kernel
theorem dX6_digestWrestler_1 : decode cX6_digestWrestler 1 = .ok (.lstore 4, 2) := by decide +kernel
theorem dX6_digestWrestler_3 : decode cX6_digestWrestler 3 = .ok (.iconst 0, 1) := by decide +kernel
theorem dX6_digestWrestler_4 : decode cX6_digestWrestler 4 = .ok (.istore 6, 2) := by decide +kernel
theorem dX6_digestWrestler_6 : decode cX6_digestWrestler 6 = .ok (.iload 6, 2) := by decide +kernel
theorem dX6_digestWrestler_8 : decode cX6_digestWrestler 8 = .ok (.bipush 7, 2) := by decide +kernel
theorem dX6_digestWrestler_10 : decode cX6_digestWrestler 10 = .ok (.if_icmp .gt 29, 3) := by decide +kernel
theorem dX6_digestWrestler_13 : decode cX6_digestWrestler 13 = .ok (.lload 4, 2) := by decide +kernel
theorem dX6_digestWrestler_15 : decode cX6_digestWrestler 15 = .ok (.ldc2_w 214, 3) := by decide +kernel
theorem dX6_digestWrestler_18 : decode cX6_digestWrestler 18 = .ok (.lmul, 1) := by decide +kernel
theorem dX6_digestWrestler_19 : decode cX6_digestWrestler 19 = .ok (.aload_n 0, 1) := by decide +kernel
theorem dX6_digestWrestler_20 : decode cX6_digestWrestler 20 = .ok (.getfield 31, 3) := by decide +kernel
theorem dX6_digestWrestler_23 : decode cX6_digestWrestler 23 = .ok (.iload 6, 2) := by decide +kernel
theorem dX6_digestWrestler_25 : decode cX6_digestWrestler 25 = .ok (.iload_n 3, 1) := by decide +kernel
theorem dX6_digestWrestler_26 : decode cX6_digestWrestler 26 = .ok (.invokevirtual 112, 3) := by decide +kernel
theorem dX6_digestWrestler_29 : decode cX6_digestWrestler 29 = .ok (.i2l, 1) := by decide +kernel
theorem dX6_digestWrestler_30 : decode cX6_digestWrestler 30 = .ok (.ladd, 1) := by decide +kernel
theorem dX6_digestWrestler_31 : decode cX6_digestWrestler 31 = .ok (.lstore 4, 2) := by decide +kernel
theorem dX6_digestWrestler_33 : decode cX6_digestWrestler 33 = .ok (.iinc 6 1, 3) := by decide +kernel
theorem dX6_digestWrestler_36 : decode cX6_digestWrestler 36 = .ok (.goto (-30), 3) := by decide +kernel
theorem dX6_digestWrestler_39 : decode cX6_digestWrestler 39 = .ok (.lload 4, 2) := by decide +kernel
theorem dX6_digestWrestler_41 : decode cX6_digestWrestler 41 = .ok (.ldc2_w 214, 3) := by decide +kernel
theorem dX6_digestWrestler_44 : decode cX6_digestWrestler 44 = .ok (.lmul, 1) := by decide +kernel
theorem dX6_digestWrestler_45 : decode cX6_digestWrestler 45 = .ok (.aload_n 0, 1) := by decide +kernel
theorem dX6_digestWrestler_46 : decode cX6_digestWrestler 46 = .ok (.getfield 31, 3) := by decide +kernel
theorem dX6_digestWrestler_49 : decode cX6_digestWrestler 49 = .ok (.iload_n 3, 1) := by decide +kernel
theorem dX6_digestWrestler_50 : decode cX6_digestWrestler 50 = .ok (.invokevirtual 116, 3) := by decide +kernel
theorem dX6_digestWrestler_53 : decode cX6_digestWrestler 53 = .ok (.i2l, 1) := by decide +kernel
theorem dX6_digestWrestler_54 : decode cX6_digestWrestler 54 = .ok (.ladd, 1) := by decide +kernel
theorem dX6_digestWrestler_55 : decode cX6_digestWrestler 55 = .ok (.lstore 4, 2) := by decide +kernel
theorem dX6_digestWrestler_57 : decode cX6_digestWrestler 57 = .ok (.lload 4, 2) := by decide +kernel
theorem dX6_digestWrestler_59 : decode cX6_digestWrestler 59 = .ok (.ldc2_w 214, 3) := by decide +kernel
theorem dX6_digestWrestler_62 : decode cX6_digestWrestler 62 = .ok (.lmul, 1) := by decide +kernel
theorem dX6_digestWrestler_63 : decode cX6_digestWrestler 63 = .ok (.aload_n 0, 1) := by decide +kernel
theorem dX6_digestWrestler_64 : decode cX6_digestWrestler 64 = .ok (.getfield 31, 3) := by decide +kernel
theorem dX6_digestWrestler_67 : decode cX6_digestWrestler 67 = .ok (.iload_n 3, 1) := by decide +kernel
theorem dX6_digestWrestler_68 : decode cX6_digestWrestler 68 = .ok (.invokevirtual 123, 3) := by decide +kernel
theorem dX6_digestWrestler_71 : decode cX6_digestWrestler 71 = .ok (.i2l, 1) := by decide +kernel
theorem dX6_digestWrestler_72 : decode cX6_digestWrestler 72 = .ok (.ladd, 1) := by decide +kernel
theorem dX6_digestWrestler_73 : decode cX6_digestWrestler 73 = .ok (.lstore 4, 2) := by decide +kernel
theorem dX6_digestWrestler_75 : decode cX6_digestWrestler 75 = .ok (.lload 4, 2) := by decide +kernel
theorem dX6_digestWrestler_77 : decode cX6_digestWrestler 77 = .ok (.ldc2_w 214, 3) := by decide +kernel
theorem dX6_digestWrestler_80 : decode cX6_digestWrestler 80 = .ok (.lmul, 1) := by decide +kernel
theorem dX6_digestWrestler_81 : decode cX6_digestWrestler 81 = .ok (.aload_n 0, 1) := by decide +kernel
theorem dX6_digestWrestler_82 : decode cX6_digestWrestler 82 = .ok (.getfield 31, 3) := by decide +kernel
theorem dX6_digestWrestler_85 : decode cX6_digestWrestler 85 = .ok (.bipush 8, 2) := by decide +kernel
theorem dX6_digestWrestler_87 : decode cX6_digestWrestler 87 = .ok (.iload_n 3, 1) := by decide +kernel
theorem dX6_digestWrestler_88 : decode cX6_digestWrestler 88 = .ok (.invokevirtual 112, 3) := by decide +kernel
theorem dX6_digestWrestler_91 : decode cX6_digestWrestler 91 = .ok (.i2l, 1) := by decide +kernel
theorem dX6_digestWrestler_92 : decode cX6_digestWrestler 92 = .ok (.ladd, 1) := by decide +kernel
theorem dX6_digestWrestler_93 : decode cX6_digestWrestler 93 = .ok (.lstore 4, 2) := by decide +kernel
theorem dX6_digestWrestler_95 : decode cX6_digestWrestler 95 = .ok (.iconst 0, 1) := by decide +kernel
theorem dX6_digestWrestler_96 : decode cX6_digestWrestler 96 = .ok (.istore 6, 2) := by decide +kernel
theorem dX6_digestWrestler_98 : decode cX6_digestWrestler 98 = .ok (.iload 6, 2) := by decide +kernel
theorem dX6_digestWrestler_100 : decode cX6_digestWrestler 100 = .ok (.aload_n 0, 1) := by decide +kernel
theorem dX6_digestWrestler_101 : decode cX6_digestWrestler 101 = .ok (.getfield 31, 3) := by decide +kernel
theorem dX6_digestWrestler_104 : decode cX6_digestWrestler 104 = .ok (.getfield 93, 3) := by decide +kernel
theorem dX6_digestWrestler_107 : decode cX6_digestWrestler 107 = .ok (.if_icmp .ge 29, 3) := by decide +kernel
theorem dX6_digestWrestler_110 : decode cX6_digestWrestler 110 = .ok (.lload 4, 2) := by decide +kernel
theorem dX6_digestWrestler_112 : decode cX6_digestWrestler 112 = .ok (.ldc2_w 214, 3) := by decide +kernel
theorem dX6_digestWrestler_115 : decode cX6_digestWrestler 115 = .ok (.lmul, 1) := by decide +kernel
theorem dX6_digestWrestler_116 : decode cX6_digestWrestler 116 = .ok (.aload_n 0, 1) := by decide +kernel
theorem dX6_digestWrestler_117 : decode cX6_digestWrestler 117 = .ok (.getfield 31, 3) := by decide +kernel
theorem dX6_digestWrestler_120 : decode cX6_digestWrestler 120 = .ok (.iload_n 3, 1) := by decide +kernel
theorem dX6_digestWrestler_121 : decode cX6_digestWrestler 121 = .ok (.iload 6, 2) := by decide +kernel
theorem dX6_digestWrestler_123 : decode cX6_digestWrestler 123 = .ok (.invokevirtual 138, 3) := by decide +kernel
theorem dX6_digestWrestler_126 : decode cX6_digestWrestler 126 = .ok (.i2l, 1) := by decide +kernel
theorem dX6_digestWrestler_127 : decode cX6_digestWrestler 127 = .ok (.ladd, 1) := by decide +kernel
theorem dX6_digestWrestler_128 : decode cX6_digestWrestler 128 = .ok (.lstore 4, 2) := by decide +kernel
theorem dX6_digestWrestler_130 : decode cX6_digestWrestler 130 = .ok (.iinc 6 1, 3) := by decide +kernel
theorem dX6_digestWrestler_133 : decode cX6_digestWrestler 133 = .ok (.goto (-35), 3) := by decide +kernel
theorem dX6_digestWrestler_136 : decode cX6_digestWrestler 136 = .ok (.lload 4, 2) := by decide +kernel
theorem dX6_digestWrestler_138 : decode cX6_digestWrestler 138 = .ok (.lreturn, 1) := by decide +kernel
theorem dX6_needWrestler_0 : decode cX6_needWrestler 0 = .ok (.aload_n 0, 1) := by decide +kernel
theorem dX6_needWrestler_1 : decode cX6_needWrestler 1 = .ok (.getfield 31, 3) := by decide +kernel
theorem dX6_needWrestler_4 : decode cX6_needWrestler 4 = .ok (.iload_n 1, 1) := by decide +kernel
theorem dX6_needWrestler_5 : decode cX6_needWrestler 5 = .ok (.invokevirtual 126, 3) := by decide +kernel
theorem dX6_needWrestler_8 : decode cX6_needWrestler 8 = .ok (.ifCond .ne 13, 3) := by decide +kernel
theorem dX6_needWrestler_11 : decode cX6_needWrestler 11 = .ok (.new 130, 3) := by decide +kernel
theorem dX6_needWrestler_14 : decode cX6_needWrestler 14 = .ok (.dup, 1) := by decide +kernel
theorem dX6_needWrestler_15 : decode cX6_needWrestler 15 = .ok (.ldc 237, 2) := by decide +kernel
theorem dX6_needWrestler_17 : decode cX6_needWrestler 17 = .ok (.invokespecial 134, 3) := by decide +kernel
theorem dX6_needWrestler_20 : decode cX6_needWrestler 20 = .ok (.athrow, 1) := by decide +kernel
theorem dX6_needWrestler_21 : decode cX6_needWrestler 21 = .ok (.return_, 1) := by decide +kernel
theorem dX6_needBout_0 : decode cX6_needBout 0 = .ok (.aload_n 0, 1) := by decide +kernel
theorem dX6_needBout_1 : decode cX6_needBout 1 = .ok (.getfield 31, 3) := by decide +kernel
theorem dX6_needBout_4 : decode cX6_needBout 4 = .ok (.iload_n 1, 1) := by decide +kernel
theorem dX6_needBout_5 : decode cX6_needBout 5 = .ok (.invokevirtual 239, 3) := by decide +kernel
theorem dX6_needBout_8 : decode cX6_needBout 8 = .ok (.ifCond .ne 13, 3) := by decide +kernel
theorem dX6_needBout_11 : decode cX6_needBout 11 = .ok (.new 130, 3) := by decide +kernel
theorem dX6_needBout_14 : decode cX6_needBout 14 = .ok (.dup, 1) := by decide +kernel
theorem dX6_needBout_15 : decode cX6_needBout 15 = .ok (.ldc 242, 2) := by decide +kernel
theorem dX6_needBout_17 : decode cX6_needBout 17 = .ok (.invokespecial 134, 3) := by decide +kernel
theorem dX6_needBout_20 : decode cX6_needBout 20 = .ok (.athrow, 1) := by decide +kernel
theorem dX6_needBout_21 : decode cX6_needBout 21 = .ok (.return_, 1) := by decide +kernel
theorem dX6_needPairable_0 : decode cX6_needPairable 0 = .ok (.aload_n 0, 1) := by decide +kernel
theorem dX6_needPairable_1 : decode cX6_needPairable 1 = .ok (.getfield 31, 3) := by decide +kernel
theorem dX6_needPairable_4 : decode cX6_needPairable 4 = .ok (.invokevirtual 244, 3) := by decide +kernel
theorem dX6_needPairable_7 : decode cX6_needPairable 7 = .ok (.ifCond .ne 13, 3) := by decide +kernel
theorem dX6_needPairable_10 : decode cX6_needPairable 10 = .ok (.new 51, 3) := by decide +kernel
theorem dX6_needPairable_13 : decode cX6_needPairable 13 = .ok (.dup, 1) := by decide +kernel
theorem dX6_needPairable_14 : decode cX6_needPairable 14 = .ok (.ldc 248, 2) := by decide +kernel
theorem dX6_needPairable_16 : decode cX6_needPairable 16 = .ok (.invokespecial 55, 3) := by decide +kernel
theorem dX6_needPairable_19 : decode cX6_needPairable 19 = .ok (.athrow, 1) := by decide +kernel
theorem dX6_needPairable_20 : decode cX6_needPairable 20 = .ok (.return_, 1) := by decide +kernel
theorem dX6_needRoundsAhead_0 : decode cX6_needRoundsAhead 0 = .ok (.iload_n 0, 1) := by decide +kernel
theorem dX6_needRoundsAhead_1 : decode cX6_needRoundsAhead 1 = .ok (.iconst 1, 1) := by decide +kernel
theorem dX6_needRoundsAhead_2 : decode cX6_needRoundsAhead 2 = .ok (.if_icmp .lt 9, 3) := by decide +kernel
theorem dX6_needRoundsAhead_5 : decode cX6_needRoundsAhead 5 = .ok (.iload_n 0, 1) := by decide +kernel
theorem dX6_needRoundsAhead_6 : decode cX6_needRoundsAhead 6 = .ok (.bipush 10, 2) := by decide +kernel
theorem dX6_needRoundsAhead_8 : decode cX6_needRoundsAhead 8 = .ok (.if_icmp .le 13, 3) := by decide +kernel
theorem dX6_needRoundsAhead_11 : decode cX6_needRoundsAhead 11 = .ok (.new 62, 3) := by decide +kernel
theorem dX6_needRoundsAhead_14 : decode cX6_needRoundsAhead 14 = .ok (.dup, 1) := by decide +kernel
theorem dX6_needRoundsAhead_15 : decode cX6_needRoundsAhead 15 = .ok (.ldc 250, 2) := by decide +kernel
theorem dX6_needRoundsAhead_17 : decode cX6_needRoundsAhead 17 = .ok (.invokespecial 66, 3) := by decide +kernel
theorem dX6_needRoundsAhead_20 : decode cX6_needRoundsAhead 20 = .ok (.athrow, 1) := by decide +kernel
theorem dX6_needRoundsAhead_21 : decode cX6_needRoundsAhead 21 = .ok (.return_, 1) := by decide +kernel
theorem dX6_tellOpenBouts_0 : decode cX6_tellOpenBouts 0 = .ok (.iconst 0, 1) := by decide +kernel
theorem dX6_tellOpenBouts_1 : decode cX6_tellOpenBouts 1 = .ok (.istore_n 2, 1) := by decide +kernel
theorem dX6_tellOpenBouts_2 : decode cX6_tellOpenBouts 2 = .ok (.iconst 0, 1) := by decide +kernel
theorem dX6_tellOpenBouts_3 : decode cX6_tellOpenBouts 3 = .ok (.istore_n 3, 1) := by decide +kernel
theorem dX6_tellOpenBouts_4 : decode cX6_tellOpenBouts 4 = .ok (.iload_n 3, 1) := by decide +kernel
theorem dX6_tellOpenBouts_5 : decode cX6_tellOpenBouts 5 = .ok (.aload_n 1, 1) := by decide +kernel
theorem dX6_tellOpenBouts_6 : decode cX6_tellOpenBouts 6 = .ok (.getfield 103, 3) := by decide +kernel
theorem dX6_tellOpenBouts_9 : decode cX6_tellOpenBouts 9 = .ok (.if_icmp .ge 49, 3) := by decide +kernel
theorem dX6_tellOpenBouts_12 : decode cX6_tellOpenBouts 12 = .ok (.aload_n 1, 1) := by decide +kernel
theorem dX6_tellOpenBouts_13 : decode cX6_tellOpenBouts 13 = .ok (.iload_n 3, 1) := by decide +kernel
theorem dX6_tellOpenBouts_14 : decode cX6_tellOpenBouts 14 = .ok (.invokevirtual 150, 3) := by decide +kernel
theorem dX6_tellOpenBouts_17 : decode cX6_tellOpenBouts 17 = .ok (.iconst (-1), 1) := by decide +kernel
theorem dX6_tellOpenBouts_18 : decode cX6_tellOpenBouts 18 = .ok (.if_icmp .ne 34, 3) := by decide +kernel
theorem dX6_tellOpenBouts_21 : decode cX6_tellOpenBouts 21 = .ok (.aload_n 0, 1) := by decide +kernel
theorem dX6_tellOpenBouts_22 : decode cX6_tellOpenBouts 22 = .ok (.getfield 24, 3) := by decide +kernel
theorem dX6_tellOpenBouts_25 : decode cX6_tellOpenBouts 25 = .ok (.aload_n 1, 1) := by decide +kernel
theorem dX6_tellOpenBouts_26 : decode cX6_tellOpenBouts 26 = .ok (.iload_n 3, 1) := by decide +kernel
theorem dX6_tellOpenBouts_27 : decode cX6_tellOpenBouts 27 = .ok (.invokevirtual 155, 3) := by decide +kernel
theorem dX6_tellOpenBouts_30 : decode cX6_tellOpenBouts 30 = .ok (.istore 4, 2) := by decide +kernel
theorem dX6_tellOpenBouts_32 : decode cX6_tellOpenBouts 32 = .ok (.aload_n 1, 1) := by decide +kernel
theorem dX6_tellOpenBouts_33 : decode cX6_tellOpenBouts 33 = .ok (.iload_n 3, 1) := by decide +kernel
theorem dX6_tellOpenBouts_34 : decode cX6_tellOpenBouts 34 = .ok (.iload 4, 2) := by decide +kernel
theorem dX6_tellOpenBouts_36 : decode cX6_tellOpenBouts 36 = .ok (.invokevirtual 184, 3) := by decide +kernel
theorem dX6_tellOpenBouts_39 : decode cX6_tellOpenBouts 39 = .ok (.iload_n 2, 1) := by decide +kernel
theorem dX6_tellOpenBouts_40 : decode cX6_tellOpenBouts 40 = .ok (.iload 4, 2) := by decide +kernel
theorem dX6_tellOpenBouts_42 : decode cX6_tellOpenBouts 42 = .ok (.ifCond .ne 7, 3) := by decide +kernel
theorem dX6_tellOpenBouts_45 : decode cX6_tellOpenBouts 45 = .ok (.iconst 1, 1) := by decide +kernel
theorem dX6_tellOpenBouts_46 : decode cX6_tellOpenBouts 46 = .ok (.goto 4, 3) := by decide +kernel
theorem dX6_tellOpenBouts_49 : decode cX6_tellOpenBouts 49 = .ok (.iconst 0, 1) := by decide +kernel
theorem dX6_tellOpenBouts_50 : decode cX6_tellOpenBouts 50 = .ok (.iadd, 1) := by decide +kernel
theorem dX6_tellOpenBouts_51 : decode cX6_tellOpenBouts 51 = .ok (.istore_n 2, 1) := by decide +kernel
theorem dX6_tellOpenBouts_52 : decode cX6_tellOpenBouts 52 = .ok (.iinc 3 1, 3) := by decide +kernel
theorem dX6_tellOpenBouts_55 : decode cX6_tellOpenBouts 55 = .ok (.goto (-51), 3) := by decide +kernel
theorem dX6_tellOpenBouts_58 : decode cX6_tellOpenBouts 58 = .ok (.iload_n 2, 1) := by decide +kernel
theorem dX6_tellOpenBouts_59 : decode cX6_tellOpenBouts 59 = .ok (.ireturn, 1) := by decide +kernel
theorem dX6_playTrial_0 : decode cX6_playTrial 0 = .ok (.aload_n 0, 1) := by decide +kernel
theorem dX6_playTrial_1 : decode cX6_playTrial 1 = .ok (.getfield 35, 3) := by decide +kernel
theorem dX6_playTrial_4 : decode cX6_playTrial 4 = .ok (.aload_n 0, 1) := by decide +kernel
theorem dX6_playTrial_5 : decode cX6_playTrial 5 = .ok (.getfield 31, 3) := by decide +kernel
theorem dX6_playTrial_8 : decode cX6_playTrial 8 = .ok (.invokevirtual 252, 3) := by decide +kernel
theorem dX6_playTrial_11 : decode cX6_playTrial 11 = .ok (.aload_n 0, 1) := by decide +kernel
theorem dX6_playTrial_12 : decode cX6_playTrial 12 = .ok (.aload_n 0, 1) := by decide +kernel
theorem dX6_playTrial_13 : decode cX6_playTrial 13 = .ok (.getfield 35, 3) := by decide +kernel
theorem dX6_playTrial_16 : decode cX6_playTrial 16 = .ok (.invokevirtual 190, 3) := by decide +kernel
theorem dX6_playTrial_19 : decode cX6_playTrial 19 = .ok (.pop, 1) := by decide +kernel
theorem dX6_playTrial_20 : decode cX6_playTrial 20 = .ok (.iconst 0, 1) := by decide +kernel
theorem dX6_playTrial_21 : decode cX6_playTrial 21 = .ok (.istore_n 2, 1) := by decide +kernel
theorem dX6_playTrial_22 : decode cX6_playTrial 22 = .ok (.iload_n 2, 1) := by decide +kernel
theorem dX6_playTrial_23 : decode cX6_playTrial 23 = .ok (.iload_n 1, 1) := by decide +kernel
theorem dX6_playTrial_24 : decode cX6_playTrial 24 = .ok (.if_icmp .ge 50, 3) := by decide +kernel
theorem dX6_playTrial_27 : decode cX6_playTrial 27 = .ok (.aload_n 0, 1) := by decide +kernel
theorem dX6_playTrial_28 : decode cX6_playTrial 28 = .ok (.getfield 35, 3) := by decide +kernel
theorem dX6_playTrial_31 : decode cX6_playTrial 31 = .ok (.invokevirtual 244, 3) := by decide +kernel
theorem dX6_playTrial_34 : decode cX6_playTrial 34 = .ok (.ifCond .eq 40, 3) := by decide +kernel
theorem dX6_playTrial_37 : decode cX6_playTrial 37 = .ok (.aload_n 0, 1) := by decide +kernel
theorem dX6_playTrial_38 : decode cX6_playTrial 38 = .ok (.getfield 41, 3) := by decide +kernel
theorem dX6_playTrial_41 : decode cX6_playTrial 41 = .ok (.aload_n 0, 1) := by decide +kernel
theorem dX6_playTrial_42 : decode cX6_playTrial 42 = .ok (.getfield 35, 3) := by decide +kernel
theorem dX6_playTrial_45 : decode cX6_playTrial 45 = .ok (.invokevirtual 172, 3) := by decide +kernel
theorem dX6_playTrial_48 : decode cX6_playTrial 48 = .ok (.aload_n 0, 1) := by decide +kernel
theorem dX6_playTrial_49 : decode cX6_playTrial 49 = .ok (.getfield 35, 3) := by decide +kernel
theorem dX6_playTrial_52 : decode cX6_playTrial 52 = .ok (.aload_n 0, 1) := by decide +kernel
theorem dX6_playTrial_53 : decode cX6_playTrial 53 = .ok (.getfield 41, 3) := by decide +kernel
theorem dX6_playTrial_56 : decode cX6_playTrial 56 = .ok (.invokevirtual 176, 3) := by decide +kernel
theorem dX6_playTrial_59 : decode cX6_playTrial 59 = .ok (.aload_n 0, 1) := by decide +kernel
theorem dX6_playTrial_60 : decode cX6_playTrial 60 = .ok (.aload_n 0, 1) := by decide +kernel
theorem dX6_playTrial_61 : decode cX6_playTrial 61 = .ok (.getfield 35, 3) := by decide +kernel
theorem dX6_playTrial_64 : decode cX6_playTrial 64 = .ok (.invokevirtual 190, 3) := by decide +kernel
theorem dX6_playTrial_67 : decode cX6_playTrial 67 = .ok (.pop, 1) := by decide +kernel
theorem dX6_playTrial_68 : decode cX6_playTrial 68 = .ok (.iinc 2 1, 3) := by decide +kernel
theorem dX6_playTrial_71 : decode cX6_playTrial 71 = .ok (.goto (-49), 3) := by decide +kernel
theorem dX6_playTrial_74 : decode cX6_playTrial 74 = .ok (.return_, 1) := by decide +kernel
