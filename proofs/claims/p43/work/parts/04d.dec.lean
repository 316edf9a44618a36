/-! decode rows -/
theorem dX7_init_0 : decode cX7_init 0 = .ok (.aload_n 0, 1) := by decide +kernel
theorem dX7_init_1 : decode cX7_init 1 = .ok (.invokespecial 1, 3) := by decide +kernel
theorem dX7_init_4 : decode cX7_init 4 = .ok (.aload_n 0, 1) := by decide +kernel
theorem dX7_init_5 : decode cX7_init 5 = .ok (.bipush 12, 2) := by decide +kernel
theorem dX7_init_7 : decode cX7_init 7 = .ok (.newarray .int, 2) := by decide +kernel
theorem dX7_init_9 : decode cX7_init 9 = .ok (.putfield 7, 3) := by decide +kernel
theorem dX7_init_12 : decode cX7_init 12 = .ok (.aload_n 0, 1) := by decide +kernel
theorem dX7_init_13 : decode cX7_init 13 = .ok (.iconst 3, 1) := by decide +kernel
theorem dX7_init_14 : decode cX7_init 14 = .ok (.newarray .int, 2) := by decide +kernel
theorem dX7_init_16 : decode cX7_init 16 = .ok (.dup, 1) := by decide +kernel
theorem dX7_init_17 : decode cX7_init 17 = .ok (.iconst 0, 1) := by decide +kernel
theorem dX7_init_18 : decode cX7_init 18 = .ok (.iconst 2, 1) := by decide +kernel
theorem dX7_init_19 : decode cX7_init 19 = .ok (.iastore, 1) := by decide +kernel
theorem dX7_init_20 : decode cX7_init 20 = .ok (.dup, 1) := by decide +kernel
theorem dX7_init_21 : decode cX7_init 21 = .ok (.iconst 1, 1) := by decide +kernel
theorem dX7_init_22 : decode cX7_init 22 = .ok (.iconst 1, 1) := by decide +kernel
theorem dX7_init_23 : decode cX7_init 23 = .ok (.iastore, 1) := by decide +kernel
theorem dX7_init_24 : decode cX7_init 24 = .ok (.dup, 1) := by decide +kernel
theorem dX7_init_25 : decode cX7_init 25 = .ok (.iconst 2, 1) := by decide +kernel
theorem dX7_init_26 : decode cX7_init 26 = .ok (.iconst 2, 1) := by decide +kernel
theorem dX7_init_27 : decode cX7_init 27 = .ok (.iastore, 1) := by decide +kernel
theorem dX7_init_28 : decode cX7_init 28 = .ok (.putfield 13, 3) := by decide +kernel
theorem dX7_init_31 : decode cX7_init 31 = .ok (.aload_n 0, 1) := by decide +kernel
theorem dX7_init_32 : decode cX7_init 32 = .ok (.iconst 0, 1) := by decide +kernel
theorem dX7_init_33 : decode cX7_init 33 = .ok (.newarray .int, 2) := by decide +kernel
theorem dX7_init_35 : decode cX7_init 35 = .ok (.putfield 16, 3) := by decide +kernel
theorem dX7_init_38 : decode cX7_init 38 = .ok (.aload_n 0, 1) := by decide +kernel
theorem dX7_init_39 : decode cX7_init 39 = .ok (.iconst 0, 1) := by decide +kernel
theorem dX7_init_40 : decode cX7_init 40 = .ok (.anewarray 19, 3) := by decide +kernel
theorem dX7_init_43 : decode cX7_init 43 = .ok (.putfield 21, 3) := by decide +kernel
theorem dX7_init_46 : decode cX7_init 46 = .ok (.aload_n 0, 1) := by decide +kernel
theorem dX7_init_47 : decode cX7_init 47 = .ok (.bipush 12, 2) := by decide +kernel
theorem dX7_init_49 : decode cX7_init 49 = .ok (.newarray .boolean, 2) := by decide +kernel
theorem dX7_init_51 : decode cX7_init 51 = .ok (.putfield 25, 3) := by decide +kernel
theorem dX7_init_54 : decode cX7_init 54 = .ok (.aload_n 0, 1) := by decide +kernel
theorem dX7_init_55 : decode cX7_init 55 = .ok (.iconst 0, 1) := by decide +kernel
theorem dX7_init_56 : decode cX7_init 56 = .ok (.anewarray 29, 3) := by decide +kernel
theorem dX7_init_59 : decode cX7_init 59 = .ok (.putfield 30, 3) := by decide +kernel
theorem dX7_init_62 : decode cX7_init 62 = .ok (.aload_n 0, 1) := by decide +kernel
theorem dX7_init_63 : decode cX7_init 63 = .ok (.iconst 0, 1) := by decide +kernel
theorem dX7_init_64 : decode cX7_init 64 = .ok (.newarray .int, 2) := by decide +kernel
theorem dX7_init_66 : decode cX7_init 66 = .ok (.putfield 34, 3) := by decide +kernel
theorem dX7_init_69 : decode cX7_init 69 = .ok (.return_, 1) := by decide +kernel
theorem dX7_with_0 : decode cX7_with 0 = .ok (.aload_n 0, 1) := by decide +kernel
theorem dX7_with_1 : decode cX7_with 1 = .ok (.arraylength, 1) := by decide +kernel
theorem dX7_with_2 : decode cX7_with 2 = .ok (.iconst 1, 1) := by decide +kernel
theorem dX7_with_3 : decode cX7_with 3 = .ok (.iadd, 1) := by decide +kernel
theorem dX7_with_4 : decode cX7_with 4 = .ok (.anewarray 29, 3) := by decide +kernel
theorem dX7_with_7 : decode cX7_with 7 = .ok (.astore_n 2, 1) := by decide +kernel
theorem dX7_with_8 : decode cX7_with 8 = .ok (.iconst 0, 1) := by decide +kernel
theorem dX7_with_9 : decode cX7_with 9 = .ok (.istore_n 3, 1) := by decide +kernel
theorem dX7_with_10 : decode cX7_with 10 = .ok (.iload_n 3, 1) := by decide +kernel
theorem dX7_with_11 : decode cX7_with 11 = .ok (.aload_n 0, 1) := by decide +kernel
theorem dX7_with_12 : decode cX7_with 12 = .ok (.arraylength, 1) := by decide +kernel
theorem dX7_with_13 : decode cX7_with 13 = .ok (.if_icmp .ge 15, 3) := by decide +kernel
theorem dX7_with_16 : decode cX7_with 16 = .ok (.aload_n 2, 1) := by decide +kernel
theorem dX7_with_17 : decode cX7_with 17 = .ok (.iload_n 3, 1) := by decide +kernel
theorem dX7_with_18 : decode cX7_with 18 = .ok (.aload_n 0, 1) := by decide +kernel
theorem dX7_with_19 : decode cX7_with 19 = .ok (.iload_n 3, 1) := by decide +kernel
theorem dX7_with_20 : decode cX7_with 20 = .ok (.aaload, 1) := by decide +kernel
theorem dX7_with_21 : decode cX7_with 21 = .ok (.aastore, 1) := by decide +kernel
theorem dX7_with_22 : decode cX7_with 22 = .ok (.iinc 3 1, 3) := by decide +kernel
theorem dX7_with_25 : decode cX7_with 25 = .ok (.goto (-15), 3) := by decide +kernel
theorem dX7_with_28 : decode cX7_with 28 = .ok (.aload_n 2, 1) := by decide +kernel
theorem dX7_with_29 : decode cX7_with 29 = .ok (.aload_n 0, 1) := by decide +kernel
theorem dX7_with_30 : decode cX7_with 30 = .ok (.arraylength, 1) := by decide +kernel
theorem dX7_with_31 : decode cX7_with 31 = .ok (.aload_n 1, 1) := by decide +kernel
theorem dX7_with_32 : decode cX7_with 32 = .ok (.aastore, 1) := by decide +kernel
theorem dX7_with_33 : decode cX7_with 33 = .ok (.aload_n 2, 1) := by decide +kernel
theorem dX7_with_34 : decode cX7_with 34 = .ok (.areturn, 1) := by decide +kernel
theorem dX7_with__0 : decode cX7_with_ 0 = .ok (.aload_n 0, 1) := by decide +kernel
theorem dX7_with__1 : decode cX7_with_ 1 = .ok (.arraylength, 1) := by decide +kernel
theorem dX7_with__2 : decode cX7_with_ 2 = .ok (.iconst 1, 1) := by decide +kernel
theorem dX7_with__3 : decode cX7_with_ 3 = .ok (.iadd, 1) := by decide +kernel
theorem dX7_with__4 : decode cX7_with_ 4 = .ok (.newarray .int, 2) := by decide +kernel
theorem dX7_with__6 : decode cX7_with_ 6 = .ok (.astore_n 2, 1) := by decide +kernel
theorem dX7_with__7 : decode cX7_with_ 7 = .ok (.iconst 0, 1) := by decide +kernel
theorem dX7_with__8 : decode cX7_with_ 8 = .ok (.istore_n 3, 1) := by decide +kernel
theorem dX7_with__9 : decode cX7_with_ 9 = .ok (.iload_n 3, 1) := by decide +kernel
theorem dX7_with__10 : decode cX7_with_ 10 = .ok (.aload_n 0, 1) := by decide +kernel
theorem dX7_with__11 : decode cX7_with_ 11 = .ok (.arraylength, 1) := by decide +kernel
theorem dX7_with__12 : decode cX7_with_ 12 = .ok (.if_icmp .ge 15, 3) := by decide +kernel
theorem dX7_with__15 : decode cX7_with_ 15 = .ok (.aload_n 2, 1) := by decide +kernel
theorem dX7_with__16 : decode cX7_with_ 16 = .ok (.iload_n 3, 1) := by decide +kernel
theorem dX7_with__17 : decode cX7_with_ 17 = .ok (.aload_n 0, 1) := by decide +kernel
theorem dX7_with__18 : decode cX7_with_ 18 = .ok (.iload_n 3, 1) := by decide +kernel
theorem dX7_with__19 : decode cX7_with_ 19 = .ok (.iaload, 1) := by decide +kernel
theorem dX7_with__20 : decode cX7_with_ 20 = .ok (.iastore, 1) := by decide +kernel
theorem dX7_with__21 : decode cX7_with_ 21 = .ok (.iinc 3 1, 3) := by decide +kernel
theorem dX7_with__24 : decode cX7_with_ 24 = .ok (.goto (-15), 3) := by decide +kernel
theorem dX7_with__27 : decode cX7_with_ 27 = .ok (.aload_n 2, 1) := by decide +kernel
theorem dX7_with__28 : decode cX7_with_ 28 = .ok (.aload_n 0, 1) := by decide +kernel
theorem dX7_with__29 : decode cX7_with_ 29 = .ok (.arraylength, 1) := by decide +kernel
theorem dX7_with__30 : decode cX7_with_ 30 = .ok (.iload_n 1, 1) := by decide +kernel
theorem dX7_with__31 : decode cX7_with_ 31 = .ok (.iastore, 1) := by decide +kernel
theorem dX7_with__32 : decode cX7_with_ 32 = .ok (.aload_n 2, 1) := by decide +kernel
theorem dX7_with__33 : decode cX7_with_ 33 = .ok (.areturn, 1) := by decide +kernel
theorem dX7_many_0 : decode cX7_many 0 = .ok (.iconst 0, 1) := by decide +kernel
theorem dX7_many_1 : decode cX7_many 1 = .ok (.istore_n 3, 1) := by decide +kernel
theorem dX7_many_2 : decode cX7_many 2 = .ok (.aload_n 0, 1) := by decide +kernel
theorem dX7_many_3 : decode cX7_many 3 = .ok (.getfield 30, 3) := by decide +kernel
theorem dX7_many_6 : decode cX7_many 6 = .ok (.astore 4, 2) := by decide +kernel
theorem dX7_many_8 : decode cX7_many 8 = .ok (.aload 4, 2) := by decide +kernel
theorem dX7_many_10 : decode cX7_many 10 = .ok (.arraylength, 1) := by decide +kernel
theorem dX7_many_11 : decode cX7_many 11 = .ok (.istore 5, 2) := by decide +kernel
theorem dX7_many_13 : decode cX7_many 13 = .ok (.iconst 0, 1) := by decide +kernel
theorem dX7_many_14 : decode cX7_many 14 = .ok (.istore 6, 2) := by decide +kernel
theorem dX7_many_16 : decode cX7_many 16 = .ok (.iload 6, 2) := by decide +kernel
theorem dX7_many_18 : decode cX7_many 18 = .ok (.iload 5, 2) := by decide +kernel
theorem dX7_many_20 : decode cX7_many 20 = .ok (.if_icmp .ge 63, 3) := by decide +kernel
theorem dX7_many_23 : decode cX7_many 23 = .ok (.aload 4, 2) := by decide +kernel
theorem dX7_many_25 : decode cX7_many 25 = .ok (.iload 6, 2) := by decide +kernel
theorem dX7_many_27 : decode cX7_many 27 = .ok (.aaload, 1) := by decide +kernel
theorem dX7_many_28 : decode cX7_many 28 = .ok (.astore 7, 2) := by decide +kernel
theorem dX7_many_30 : decode cX7_many 30 = .ok (.aload 7, 2) := by decide +kernel
theorem dX7_many_32 : decode cX7_many 32 = .ok (.iconst 3, 1) := by decide +kernel
theorem dX7_many_33 : decode cX7_many 33 = .ok (.iaload, 1) := by decide +kernel
theorem dX7_many_34 : decode cX7_many 34 = .ok (.ifCond .ge 6, 3) := by decide +kernel
theorem dX7_many_37 : decode cX7_many 37 = .ok (.goto 40, 3) := by decide +kernel
theorem dX7_many_40 : decode cX7_many 40 = .ok (.aload 7, 2) := by decide +kernel
theorem dX7_many_42 : decode cX7_many 42 = .ok (.iconst 1, 1) := by decide +kernel
theorem dX7_many_43 : decode cX7_many 43 = .ok (.iaload, 1) := by decide +kernel
theorem dX7_many_44 : decode cX7_many 44 = .ok (.iload_n 1, 1) := by decide +kernel
theorem dX7_many_45 : decode cX7_many 45 = .ok (.if_icmp .ne 11, 3) := by decide +kernel
theorem dX7_many_48 : decode cX7_many 48 = .ok (.aload 7, 2) := by decide +kernel
theorem dX7_many_50 : decode cX7_many 50 = .ok (.iconst 3, 1) := by decide +kernel
theorem dX7_many_51 : decode cX7_many 51 = .ok (.iaload, 1) := by decide +kernel
theorem dX7_many_52 : decode cX7_many 52 = .ok (.iload_n 2, 1) := by decide +kernel
theorem dX7_many_53 : decode cX7_many 53 = .ok (.if_icmp .eq 21, 3) := by decide +kernel
theorem dX7_many_56 : decode cX7_many 56 = .ok (.aload 7, 2) := by decide +kernel
theorem dX7_many_58 : decode cX7_many 58 = .ok (.iconst 2, 1) := by decide +kernel
theorem dX7_many_59 : decode cX7_many 59 = .ok (.iaload, 1) := by decide +kernel
theorem dX7_many_60 : decode cX7_many 60 = .ok (.iload_n 1, 1) := by decide +kernel
theorem dX7_many_61 : decode cX7_many 61 = .ok (.if_icmp .ne 16, 3) := by decide +kernel
theorem dX7_many_64 : decode cX7_many 64 = .ok (.aload 7, 2) := by decide +kernel
theorem dX7_many_66 : decode cX7_many 66 = .ok (.iconst 3, 1) := by decide +kernel
theorem dX7_many_67 : decode cX7_many 67 = .ok (.iaload, 1) := by decide +kernel
theorem dX7_many_68 : decode cX7_many 68 = .ok (.iconst 2, 1) := by decide +kernel
theorem dX7_many_69 : decode cX7_many 69 = .ok (.iload_n 2, 1) := by decide +kernel
theorem dX7_many_70 : decode cX7_many 70 = .ok (.isub, 1) := by decide +kernel
theorem dX7_many_71 : decode cX7_many 71 = .ok (.if_icmp .ne 6, 3) := by decide +kernel
theorem dX7_many_74 : decode cX7_many 74 = .ok (.iinc 3 1, 3) := by decide +kernel
theorem dX7_many_77 : decode cX7_many 77 = .ok (.iinc 6 1, 3) := by decide +kernel
theorem dX7_many_80 : decode cX7_many 80 = .ok (.goto (-64), 3) := by decide +kernel
theorem dX7_many_83 : decode cX7_many 83 = .ok (.iload_n 3, 1) := by decide +kernel
theorem dX7_many_84 : decode cX7_many 84 = .ok (.ireturn, 1) := by decide +kernel
theorem dX7_rested_0 : decode cX7_rested 0 = .ok (.iconst 0, 1) := by decide +kernel
theorem dX7_rested_1 : decode cX7_rested 1 = .ok (.istore_n 2, 1) := by decide +kernel
theorem dX7_rested_2 : decode cX7_rested 2 = .ok (.aload_n 0, 1) := by decide +kernel
theorem dX7_rested_3 : decode cX7_rested 3 = .ok (.getfield 34, 3) := by decide +kernel
theorem dX7_rested_6 : decode cX7_rested 6 = .ok (.astore_n 3, 1) := by decide +kernel
theorem dX7_rested_7 : decode cX7_rested 7 = .ok (.aload_n 3, 1) := by decide +kernel
theorem dX7_rested_8 : decode cX7_rested 8 = .ok (.arraylength, 1) := by decide +kernel
theorem dX7_rested_9 : decode cX7_rested 9 = .ok (.istore 4, 2) := by decide +kernel
theorem dX7_rested_11 : decode cX7_rested 11 = .ok (.iconst 0, 1) := by decide +kernel
theorem dX7_rested_12 : decode cX7_rested 12 = .ok (.istore 5, 2) := by decide +kernel
theorem dX7_rested_14 : decode cX7_rested 14 = .ok (.iload 5, 2) := by decide +kernel
theorem dX7_rested_16 : decode cX7_rested 16 = .ok (.iload 4, 2) := by decide +kernel
theorem dX7_rested_18 : decode cX7_rested 18 = .ok (.if_icmp .ge 29, 3) := by decide +kernel
theorem dX7_rested_21 : decode cX7_rested 21 = .ok (.aload_n 3, 1) := by decide +kernel
theorem dX7_rested_22 : decode cX7_rested 22 = .ok (.iload 5, 2) := by decide +kernel
theorem dX7_rested_24 : decode cX7_rested 24 = .ok (.iaload, 1) := by decide +kernel
theorem dX7_rested_25 : decode cX7_rested 25 = .ok (.istore 6, 2) := by decide +kernel
theorem dX7_rested_27 : decode cX7_rested 27 = .ok (.iload_n 2, 1) := by decide +kernel
theorem dX7_rested_28 : decode cX7_rested 28 = .ok (.iload 6, 2) := by decide +kernel
theorem dX7_rested_30 : decode cX7_rested 30 = .ok (.iload_n 1, 1) := by decide +kernel
theorem dX7_rested_31 : decode cX7_rested 31 = .ok (.if_icmp .ne 7, 3) := by decide +kernel
theorem dX7_rested_34 : decode cX7_rested 34 = .ok (.iconst 1, 1) := by decide +kernel
theorem dX7_rested_35 : decode cX7_rested 35 = .ok (.goto 4, 3) := by decide +kernel
theorem dX7_rested_38 : decode cX7_rested 38 = .ok (.iconst 0, 1) := by decide +kernel
theorem dX7_rested_39 : decode cX7_rested 39 = .ok (.iadd, 1) := by decide +kernel
theorem dX7_rested_40 : decode cX7_rested 40 = .ok (.istore_n 2, 1) := by decide +kernel
theorem dX7_rested_41 : decode cX7_rested 41 = .ok (.iinc 5 1, 3) := by decide +kernel
theorem dX7_rested_44 : decode cX7_rested 44 = .ok (.goto (-30), 3) := by decide +kernel
theorem dX7_rested_47 : decode cX7_rested 47 = .ok (.iload_n 2, 1) := by decide +kernel
theorem dX7_rested_48 : decode cX7_rested 48 = .ok (.ireturn, 1) := by decide +kernel
theorem dX7_points_0 : decode cX7_points 0 = .ok (.aload_n 0, 1) := by decide +kernel
theorem dX7_points_1 : decode cX7_points 1 = .ok (.iload_n 1, 1) := by decide +kernel
theorem dX7_points_2 : decode cX7_points 2 = .ok (.iconst 0, 1) := by decide +kernel
theorem dX7_points_3 : decode cX7_points 3 = .ok (.invokevirtual 49, 3) := by decide +kernel
theorem dX7_points_6 : decode cX7_points 6 = .ok (.aload_n 0, 1) := by decide +kernel
theorem dX7_points_7 : decode cX7_points 7 = .ok (.getfield 13, 3) := by decide +kernel
theorem dX7_points_10 : decode cX7_points 10 = .ok (.iconst 0, 1) := by decide +kernel
theorem dX7_points_11 : decode cX7_points 11 = .ok (.iaload, 1) := by decide +kernel
theorem dX7_points_12 : decode cX7_points 12 = .ok (.imul, 1) := by decide +kernel
theorem dX7_points_13 : decode cX7_points 13 = .ok (.aload_n 0, 1) := by decide +kernel
theorem dX7_points_14 : decode cX7_points 14 = .ok (.iload_n 1, 1) := by decide +kernel
theorem dX7_points_15 : decode cX7_points 15 = .ok (.iconst 1, 1) := by decide +kernel
theorem dX7_points_16 : decode cX7_points 16 = .ok (.invokevirtual 49, 3) := by decide +kernel
theorem dX7_points_19 : decode cX7_points 19 = .ok (.aload_n 0, 1) := by decide +kernel
theorem dX7_points_20 : decode cX7_points 20 = .ok (.getfield 13, 3) := by decide +kernel
theorem dX7_points_23 : decode cX7_points 23 = .ok (.iconst 1, 1) := by decide +kernel
theorem dX7_points_24 : decode cX7_points 24 = .ok (.iaload, 1) := by decide +kernel
theorem dX7_points_25 : decode cX7_points 25 = .ok (.imul, 1) := by decide +kernel
theorem dX7_points_26 : decode cX7_points 26 = .ok (.iadd, 1) := by decide +kernel
theorem dX7_points_27 : decode cX7_points 27 = .ok (.aload_n 0, 1) := by decide +kernel
theorem dX7_points_28 : decode cX7_points 28 = .ok (.iload_n 1, 1) := by decide +kernel
theorem dX7_points_29 : decode cX7_points 29 = .ok (.invokevirtual 53, 3) := by decide +kernel
theorem dX7_points_32 : decode cX7_points 32 = .ok (.aload_n 0, 1) := by decide +kernel
theorem dX7_points_33 : decode cX7_points 33 = .ok (.getfield 13, 3) := by decide +kernel
theorem dX7_points_36 : decode cX7_points 36 = .ok (.iconst 2, 1) := by decide +kernel
theorem dX7_points_37 : decode cX7_points 37 = .ok (.iaload, 1) := by decide +kernel
theorem dX7_points_38 : decode cX7_points 38 = .ok (.imul, 1) := by decide +kernel
theorem dX7_points_39 : decode cX7_points 39 = .ok (.iadd, 1) := by decide +kernel
theorem dX7_points_40 : decode cX7_points 40 = .ok (.ireturn, 1) := by decide +kernel
theorem dX7_met_0 : decode cX7_met 0 = .ok (.iconst 0, 1) := by decide +kernel
theorem dX7_met_1 : decode cX7_met 1 = .ok (.istore 4, 2) := by decide +kernel
theorem dX7_met_3 : decode cX7_met 3 = .ok (.aload_n 0, 1) := by decide +kernel
theorem dX7_met_4 : decode cX7_met 4 = .ok (.getfield 30, 3) := by decide +kernel
theorem dX7_met_7 : decode cX7_met 7 = .ok (.astore 5, 2) := by decide +kernel
theorem dX7_met_9 : decode cX7_met 9 = .ok (.aload 5, 2) := by decide +kernel
theorem dX7_met_11 : decode cX7_met 11 = .ok (.arraylength, 1) := by decide +kernel
theorem dX7_met_12 : decode cX7_met 12 = .ok (.istore 6, 2) := by decide +kernel
theorem dX7_met_14 : decode cX7_met 14 = .ok (.iconst 0, 1) := by decide +kernel
theorem dX7_met_15 : decode cX7_met 15 = .ok (.istore 7, 2) := by decide +kernel
theorem dX7_met_17 : decode cX7_met 17 = .ok (.iload 7, 2) := by decide +kernel
theorem dX7_met_19 : decode cX7_met 19 = .ok (.iload 6, 2) := by decide +kernel
theorem dX7_met_21 : decode cX7_met 21 = .ok (.if_icmp .ge 59, 3) := by decide +kernel
theorem dX7_met_24 : decode cX7_met 24 = .ok (.aload 5, 2) := by decide +kernel
theorem dX7_met_26 : decode cX7_met 26 = .ok (.iload 7, 2) := by decide +kernel
theorem dX7_met_28 : decode cX7_met 28 = .ok (.aaload, 1) := by decide +kernel
theorem dX7_met_29 : decode cX7_met 29 = .ok (.astore 8, 2) := by decide +kernel
theorem dX7_met_31 : decode cX7_met 31 = .ok (.aload 8, 2) := by decide +kernel
theorem dX7_met_33 : decode cX7_met 33 = .ok (.iconst 0, 1) := by decide +kernel
theorem dX7_met_34 : decode cX7_met 34 = .ok (.iaload, 1) := by decide +kernel
theorem dX7_met_35 : decode cX7_met 35 = .ok (.iload_n 3, 1) := by decide +kernel
theorem dX7_met_36 : decode cX7_met 36 = .ok (.if_icmp .ge 38, 3) := by decide +kernel
theorem dX7_met_39 : decode cX7_met 39 = .ok (.aload 8, 2) := by decide +kernel
theorem dX7_met_41 : decode cX7_met 41 = .ok (.iconst 1, 1) := by decide +kernel
theorem dX7_met_42 : decode cX7_met 42 = .ok (.iaload, 1) := by decide +kernel
theorem dX7_met_43 : decode cX7_met 43 = .ok (.iload_n 1, 1) := by decide +kernel
theorem dX7_met_44 : decode cX7_met 44 = .ok (.if_icmp .ne 11, 3) := by decide +kernel
theorem dX7_met_47 : decode cX7_met 47 = .ok (.aload 8, 2) := by decide +kernel
theorem dX7_met_49 : decode cX7_met 49 = .ok (.iconst 2, 1) := by decide +kernel
theorem dX7_met_50 : decode cX7_met 50 = .ok (.iaload, 1) := by decide +kernel
theorem dX7_met_51 : decode cX7_met 51 = .ok (.iload_n 2, 1) := by decide +kernel
theorem dX7_met_52 : decode cX7_met 52 = .ok (.if_icmp .eq 19, 3) := by decide +kernel
theorem dX7_met_55 : decode cX7_met 55 = .ok (.aload 8, 2) := by decide +kernel
theorem dX7_met_57 : decode cX7_met 57 = .ok (.iconst 1, 1) := by decide +kernel
theorem dX7_met_58 : decode cX7_met 58 = .ok (.iaload, 1) := by decide +kernel
theorem dX7_met_59 : decode cX7_met 59 = .ok (.iload_n 2, 1) := by decide +kernel
theorem dX7_met_60 : decode cX7_met 60 = .ok (.if_icmp .ne 14, 3) := by decide +kernel
theorem dX7_met_63 : decode cX7_met 63 = .ok (.aload 8, 2) := by decide +kernel
theorem dX7_met_65 : decode cX7_met 65 = .ok (.iconst 2, 1) := by decide +kernel
theorem dX7_met_66 : decode cX7_met 66 = .ok (.iaload, 1) := by decide +kernel
theorem dX7_met_67 : decode cX7_met 67 = .ok (.iload_n 1, 1) := by decide +kernel
theorem dX7_met_68 : decode cX7_met 68 = .ok (.if_icmp .ne 6, 3) := by decide +kernel
theorem dX7_met_71 : decode cX7_met 71 = .ok (.iinc 4 1, 3) := by decide +kernel
theorem dX7_met_74 : decode cX7_met 74 = .ok (.iinc 7 1, 3) := by decide +kernel
theorem dX7_met_77 : decode cX7_met 77 = .ok (.goto (-60), 3) := by decide +kernel
theorem dX7_met_80 : decode cX7_met 80 = .ok (.iload 4, 2) := by decide +kernel
theorem dX7_met_82 : decode cX7_met 82 = .ok (.ireturn, 1) := by decide +kernel
theorem dX7_ofMet_0 : decode cX7_ofMet 0 = .ok (.iconst 0, 1) := by decide +kernel
theorem dX7_ofMet_1 : decode cX7_ofMet 1 = .ok (.istore_n 2, 1) := by decide +kernel
theorem dX7_ofMet_2 : decode cX7_ofMet 2 = .ok (.aload_n 0, 1) := by decide +kernel
theorem dX7_ofMet_3 : decode cX7_ofMet 3 = .ok (.getfield 30, 3) := by decide +kernel
theorem dX7_ofMet_6 : decode cX7_ofMet 6 = .ok (.astore_n 3, 1) := by decide +kernel
theorem dX7_ofMet_7 : decode cX7_ofMet 7 = .ok (.aload_n 3, 1) := by decide +kernel
theorem dX7_ofMet_8 : decode cX7_ofMet 8 = .ok (.arraylength, 1) := by decide +kernel
theorem dX7_ofMet_9 : decode cX7_ofMet 9 = .ok (.istore 4, 2) := by decide +kernel
theorem dX7_ofMet_11 : decode cX7_ofMet 11 = .ok (.iconst 0, 1) := by decide +kernel
theorem dX7_ofMet_12 : decode cX7_ofMet 12 = .ok (.istore 5, 2) := by decide +kernel
theorem dX7_ofMet_14 : decode cX7_ofMet 14 = .ok (.iload 5, 2) := by decide +kernel
theorem dX7_ofMet_16 : decode cX7_ofMet 16 = .ok (.iload 4, 2) := by decide +kernel
theorem dX7_ofMet_18 : decode cX7_ofMet 18 = .ok (.if_icmp .ge 57, 3) := by decide +kernel
theorem dX7_ofMet_21 : decode cX7_ofMet 21 = .ok (.aload_n 3, 1) := by decide +kernel
theorem dX7_ofMet_22 : decode cX7_ofMet 22 = .ok (.iload 5, 2) := by decide +kernel
theorem dX7_ofMet_24 : decode cX7_ofMet 24 = .ok (.aaload, 1) := by decide +kernel
theorem dX7_ofMet_25 : decode cX7_ofMet 25 = .ok (.astore 6, 2) := by decide +kernel
theorem dX7_ofMet_27 : decode cX7_ofMet 27 = .ok (.iload_n 2, 1) := by decide +kernel
theorem dX7_ofMet_28 : decode cX7_ofMet 28 = .ok (.aload 6, 2) := by decide +kernel
theorem dX7_ofMet_30 : decode cX7_ofMet 30 = .ok (.iconst 1, 1) := by decide +kernel
theorem dX7_ofMet_31 : decode cX7_ofMet 31 = .ok (.iaload, 1) := by decide +kernel
theorem dX7_ofMet_32 : decode cX7_ofMet 32 = .ok (.iload_n 1, 1) := by decide +kernel
theorem dX7_ofMet_33 : decode cX7_ofMet 33 = .ok (.if_icmp .ne 14, 3) := by decide +kernel
theorem dX7_ofMet_36 : decode cX7_ofMet 36 = .ok (.aload_n 0, 1) := by decide +kernel
theorem dX7_ofMet_37 : decode cX7_ofMet 37 = .ok (.aload 6, 2) := by decide +kernel
theorem dX7_ofMet_39 : decode cX7_ofMet 39 = .ok (.iconst 2, 1) := by decide +kernel
theorem dX7_ofMet_40 : decode cX7_ofMet 40 = .ok (.iaload, 1) := by decide +kernel
theorem dX7_ofMet_41 : decode cX7_ofMet 41 = .ok (.invokevirtual 57, 3) := by decide +kernel
theorem dX7_ofMet_44 : decode cX7_ofMet 44 = .ok (.goto 23, 3) := by decide +kernel
theorem dX7_ofMet_47 : decode cX7_ofMet 47 = .ok (.aload 6, 2) := by decide +kernel
theorem dX7_ofMet_49 : decode cX7_ofMet 49 = .ok (.iconst 2, 1) := by decide +kernel
theorem dX7_ofMet_50 : decode cX7_ofMet 50 = .ok (.iaload, 1) := by decide +kernel
theorem dX7_ofMet_51 : decode cX7_ofMet 51 = .ok (.iload_n 1, 1) := by decide +kernel
theorem dX7_ofMet_52 : decode cX7_ofMet 52 = .ok (.if_icmp .ne 14, 3) := by decide +kernel
theorem dX7_ofMet_55 : decode cX7_ofMet 55 = .ok (.aload_n 0, 1) := by decide +kernel
theorem dX7_ofMet_56 : decode cX7_ofMet 56 = .ok (.aload 6, 2) := by decide +kernel
theorem dX7_ofMet_58 : decode cX7_ofMet 58 = .ok (.iconst 1, 1) := by decide +kernel
theorem dX7_ofMet_59 : decode cX7_ofMet 59 = .ok (.iaload, 1) := by decide +kernel
theorem dX7_ofMet_60 : decode cX7_ofMet 60 = .ok (.invokevirtual 57, 3) := by decide +kernel
theorem dX7_ofMet_63 : decode cX7_ofMet 63 = .ok (.goto 4, 3) := by decide +kernel
theorem dX7_ofMet_66 : decode cX7_ofMet 66 = .ok (.iconst 0, 1) := by decide +kernel
theorem dX7_ofMet_67 : decode cX7_ofMet 67 = .ok (.iadd, 1) := by decide +kernel
theorem dX7_ofMet_68 : decode cX7_ofMet 68 = .ok (.istore_n 2, 1) := by decide +kernel
theorem dX7_ofMet_69 : decode cX7_ofMet 69 = .ok (.iinc 5 1, 3) := by decide +kernel
theorem dX7_ofMet_72 : decode cX7_ofMet 72 = .ok (.goto (-58), 3) := by decide +kernel
theorem dX7_ofMet_75 : decode cX7_ofMet 75 = .ok (.iload_n 2, 1) := by decide +kernel
theorem dX7_ofMet_76 : decode cX7_ofMet 76 = .ok (.ireturn, 1) := by decide +kernel
theorem dX7_belts_0 : decode cX7_belts 0 = .ok (.iconst 0, 1) := by decide +kernel
theorem dX7_belts_1 : decode cX7_belts 1 = .ok (.istore_n 2, 1) := by decide +kernel
theorem dX7_belts_2 : decode cX7_belts 2 = .ok (.aload_n 0, 1) := by decide +kernel
theorem dX7_belts_3 : decode cX7_belts 3 = .ok (.getfield 30, 3) := by decide +kernel
theorem dX7_belts_6 : decode cX7_belts 6 = .ok (.astore_n 3, 1) := by decide +kernel
theorem dX7_belts_7 : decode cX7_belts 7 = .ok (.aload_n 3, 1) := by decide +kernel
theorem dX7_belts_8 : decode cX7_belts 8 = .ok (.arraylength, 1) := by decide +kernel
theorem dX7_belts_9 : decode cX7_belts 9 = .ok (.istore 4, 2) := by decide +kernel
theorem dX7_belts_11 : decode cX7_belts 11 = .ok (.iconst 0, 1) := by decide +kernel
theorem dX7_belts_12 : decode cX7_belts 12 = .ok (.istore 5, 2) := by decide +kernel
theorem dX7_belts_14 : decode cX7_belts 14 = .ok (.iload 5, 2) := by decide +kernel
theorem dX7_belts_16 : decode cX7_belts 16 = .ok (.iload 4, 2) := by decide +kernel
theorem dX7_belts_18 : decode cX7_belts 18 = .ok (.if_icmp .ge 43, 3) := by decide +kernel
theorem dX7_belts_21 : decode cX7_belts 21 = .ok (.aload_n 3, 1) := by decide +kernel
theorem dX7_belts_22 : decode cX7_belts 22 = .ok (.iload 5, 2) := by decide +kernel
theorem dX7_belts_24 : decode cX7_belts 24 = .ok (.aaload, 1) := by decide +kernel
theorem dX7_belts_25 : decode cX7_belts 25 = .ok (.astore 6, 2) := by decide +kernel
theorem dX7_belts_27 : decode cX7_belts 27 = .ok (.iload_n 2, 1) := by decide +kernel
theorem dX7_belts_28 : decode cX7_belts 28 = .ok (.aload 6, 2) := by decide +kernel
theorem dX7_belts_30 : decode cX7_belts 30 = .ok (.iconst 1, 1) := by decide +kernel
theorem dX7_belts_31 : decode cX7_belts 31 = .ok (.iaload, 1) := by decide +kernel
theorem dX7_belts_32 : decode cX7_belts 32 = .ok (.iload_n 1, 1) := by decide +kernel
theorem dX7_belts_33 : decode cX7_belts 33 = .ok (.if_icmp .ne 7, 3) := by decide +kernel
theorem dX7_belts_36 : decode cX7_belts 36 = .ok (.iconst 1, 1) := by decide +kernel
theorem dX7_belts_37 : decode cX7_belts 37 = .ok (.goto 16, 3) := by decide +kernel
theorem dX7_belts_40 : decode cX7_belts 40 = .ok (.aload 6, 2) := by decide +kernel
theorem dX7_belts_42 : decode cX7_belts 42 = .ok (.iconst 2, 1) := by decide +kernel
theorem dX7_belts_43 : decode cX7_belts 43 = .ok (.iaload, 1) := by decide +kernel
theorem dX7_belts_44 : decode cX7_belts 44 = .ok (.iload_n 1, 1) := by decide +kernel
theorem dX7_belts_45 : decode cX7_belts 45 = .ok (.if_icmp .ne 7, 3) := by decide +kernel
theorem dX7_belts_48 : decode cX7_belts 48 = .ok (.iconst (-1), 1) := by decide +kernel
theorem dX7_belts_49 : decode cX7_belts 49 = .ok (.goto 4, 3) := by decide +kernel
theorem dX7_belts_52 : decode cX7_belts 52 = .ok (.iconst 0, 1) := by decide +kernel
theorem dX7_belts_53 : decode cX7_belts 53 = .ok (.iadd, 1) := by decide +kernel
theorem dX7_belts_54 : decode cX7_belts 54 = .ok (.istore_n 2, 1) := by decide +kernel
theorem dX7_belts_55 : decode cX7_belts 55 = .ok (.iinc 5 1, 3) := by decide +kernel
theorem dX7_belts_58 : decode cX7_belts 58 = .ok (.goto (-44), 3) := by decide +kernel
theorem dX7_belts_61 : decode cX7_belts 61 = .ok (.iload_n 2, 1) := by decide +kernel
theorem dX7_belts_62 : decode cX7_belts 62 = .ok (.ireturn, 1) := by decide +kernel
theorem dX7_wasBlue_0 : decode cX7_wasBlue 0 = .ok (.iconst 0, 1) := by decide +kernel
theorem dX7_wasBlue_1 : decode cX7_wasBlue 1 = .ok (.istore_n 2, 1) := by decide +kernel
theorem dX7_wasBlue_2 : decode cX7_wasBlue 2 = .ok (.aload_n 0, 1) := by decide +kernel
theorem dX7_wasBlue_3 : decode cX7_wasBlue 3 = .ok (.getfield 30, 3) := by decide +kernel
theorem dX7_wasBlue_6 : decode cX7_wasBlue 6 = .ok (.astore_n 3, 1) := by decide +kernel
theorem dX7_wasBlue_7 : decode cX7_wasBlue 7 = .ok (.aload_n 3, 1) := by decide +kernel
theorem dX7_wasBlue_8 : decode cX7_wasBlue 8 = .ok (.arraylength, 1) := by decide +kernel
theorem dX7_wasBlue_9 : decode cX7_wasBlue 9 = .ok (.istore 4, 2) := by decide +kernel
theorem dX7_wasBlue_11 : decode cX7_wasBlue 11 = .ok (.iconst 0, 1) := by decide +kernel
theorem dX7_wasBlue_12 : decode cX7_wasBlue 12 = .ok (.istore 5, 2) := by decide +kernel
theorem dX7_wasBlue_14 : decode cX7_wasBlue 14 = .ok (.iload 5, 2) := by decide +kernel
theorem dX7_wasBlue_16 : decode cX7_wasBlue 16 = .ok (.iload 4, 2) := by decide +kernel
theorem dX7_wasBlue_18 : decode cX7_wasBlue 18 = .ok (.if_icmp .ge 45, 3) := by decide +kernel
theorem dX7_wasBlue_21 : decode cX7_wasBlue 21 = .ok (.aload_n 3, 1) := by decide +kernel
theorem dX7_wasBlue_22 : decode cX7_wasBlue 22 = .ok (.iload 5, 2) := by decide +kernel
theorem dX7_wasBlue_24 : decode cX7_wasBlue 24 = .ok (.aaload, 1) := by decide +kernel
theorem dX7_wasBlue_25 : decode cX7_wasBlue 25 = .ok (.astore 6, 2) := by decide +kernel
theorem dX7_wasBlue_27 : decode cX7_wasBlue 27 = .ok (.aload 6, 2) := by decide +kernel
theorem dX7_wasBlue_29 : decode cX7_wasBlue 29 = .ok (.iconst 1, 1) := by decide +kernel
theorem dX7_wasBlue_30 : decode cX7_wasBlue 30 = .ok (.iaload, 1) := by decide +kernel
theorem dX7_wasBlue_31 : decode cX7_wasBlue 31 = .ok (.iload_n 1, 1) := by decide +kernel
theorem dX7_wasBlue_32 : decode cX7_wasBlue 32 = .ok (.if_icmp .eq 11, 3) := by decide +kernel
theorem dX7_wasBlue_35 : decode cX7_wasBlue 35 = .ok (.aload 6, 2) := by decide +kernel
theorem dX7_wasBlue_37 : decode cX7_wasBlue 37 = .ok (.iconst 2, 1) := by decide +kernel
theorem dX7_wasBlue_38 : decode cX7_wasBlue 38 = .ok (.iaload, 1) := by decide +kernel
theorem dX7_wasBlue_39 : decode cX7_wasBlue 39 = .ok (.iload_n 1, 1) := by decide +kernel
theorem dX7_wasBlue_40 : decode cX7_wasBlue 40 = .ok (.if_icmp .ne 17, 3) := by decide +kernel
theorem dX7_wasBlue_43 : decode cX7_wasBlue 43 = .ok (.aload 6, 2) := by decide +kernel
theorem dX7_wasBlue_45 : decode cX7_wasBlue 45 = .ok (.iconst 2, 1) := by decide +kernel
theorem dX7_wasBlue_46 : decode cX7_wasBlue 46 = .ok (.iaload, 1) := by decide +kernel
theorem dX7_wasBlue_47 : decode cX7_wasBlue 47 = .ok (.iload_n 1, 1) := by decide +kernel
theorem dX7_wasBlue_48 : decode cX7_wasBlue 48 = .ok (.if_icmp .ne 7, 3) := by decide +kernel
theorem dX7_wasBlue_51 : decode cX7_wasBlue 51 = .ok (.iconst 1, 1) := by decide +kernel
theorem dX7_wasBlue_52 : decode cX7_wasBlue 52 = .ok (.goto 4, 3) := by decide +kernel
theorem dX7_wasBlue_55 : decode cX7_wasBlue 55 = .ok (.iconst 0, 1) := by decide +kernel
theorem dX7_wasBlue_56 : decode cX7_wasBlue 56 = .ok (.istore_n 2, 1) := by decide +kernel
theorem dX7_wasBlue_57 : decode cX7_wasBlue 57 = .ok (.iinc 5 1, 3) := by decide +kernel
theorem dX7_wasBlue_60 : decode cX7_wasBlue 60 = .ok (.goto (-46), 3) := by decide +kernel
theorem dX7_wasBlue_63 : decode cX7_wasBlue 63 = .ok (.iload_n 2, 1) := by decide +kernel
theorem dX7_wasBlue_64 : decode cX7_wasBlue 64 = .ok (.ireturn, 1) := by decide +kernel
theorem dX7_floats_0 : decode cX7_floats 0 = .ok (.iconst 0, 1) := by decide +kernel
theorem dX7_floats_1 : decode cX7_floats 1 = .ok (.istore_n 2, 1) := by decide +kernel
theorem dX7_floats_2 : decode cX7_floats 2 = .ok (.aload_n 0, 1) := by decide +kernel
theorem dX7_floats_3 : decode cX7_floats 3 = .ok (.getfield 30, 3) := by decide +kernel
theorem dX7_floats_6 : decode cX7_floats 6 = .ok (.astore_n 3, 1) := by decide +kernel
theorem dX7_floats_7 : decode cX7_floats 7 = .ok (.aload_n 3, 1) := by decide +kernel
theorem dX7_floats_8 : decode cX7_floats 8 = .ok (.arraylength, 1) := by decide +kernel
theorem dX7_floats_9 : decode cX7_floats 9 = .ok (.istore 4, 2) := by decide +kernel
theorem dX7_floats_11 : decode cX7_floats 11 = .ok (.iconst 0, 1) := by decide +kernel
theorem dX7_floats_12 : decode cX7_floats 12 = .ok (.istore 5, 2) := by decide +kernel
theorem dX7_floats_14 : decode cX7_floats 14 = .ok (.iload 5, 2) := by decide +kernel
theorem dX7_floats_16 : decode cX7_floats 16 = .ok (.iload 4, 2) := by decide +kernel
theorem dX7_floats_18 : decode cX7_floats 18 = .ok (.if_icmp .ge 31, 3) := by decide +kernel
theorem dX7_floats_21 : decode cX7_floats 21 = .ok (.aload_n 3, 1) := by decide +kernel
theorem dX7_floats_22 : decode cX7_floats 22 = .ok (.iload 5, 2) := by decide +kernel
theorem dX7_floats_24 : decode cX7_floats 24 = .ok (.aaload, 1) := by decide +kernel
theorem dX7_floats_25 : decode cX7_floats 25 = .ok (.astore 6, 2) := by decide +kernel
theorem dX7_floats_27 : decode cX7_floats 27 = .ok (.iload_n 2, 1) := by decide +kernel
theorem dX7_floats_28 : decode cX7_floats 28 = .ok (.aload 6, 2) := by decide +kernel
theorem dX7_floats_30 : decode cX7_floats 30 = .ok (.iconst 4, 1) := by decide +kernel
theorem dX7_floats_31 : decode cX7_floats 31 = .ok (.iaload, 1) := by decide +kernel
theorem dX7_floats_32 : decode cX7_floats 32 = .ok (.iload_n 1, 1) := by decide +kernel
theorem dX7_floats_33 : decode cX7_floats 33 = .ok (.if_icmp .ne 7, 3) := by decide +kernel
theorem dX7_floats_36 : decode cX7_floats 36 = .ok (.iconst 1, 1) := by decide +kernel
theorem dX7_floats_37 : decode cX7_floats 37 = .ok (.goto 4, 3) := by decide +kernel
theorem dX7_floats_40 : decode cX7_floats 40 = .ok (.iconst 0, 1) := by decide +kernel
theorem dX7_floats_41 : decode cX7_floats 41 = .ok (.iadd, 1) := by decide +kernel
theorem dX7_floats_42 : decode cX7_floats 42 = .ok (.istore_n 2, 1) := by decide +kernel
theorem dX7_floats_43 : decode cX7_floats 43 = .ok (.iinc 5 1, 3) := by decide +kernel
theorem dX7_floats_46 : decode cX7_floats 46 = .ok (.goto (-32), 3) := by decide +kernel
theorem dX7_floats_49 : decode cX7_floats 49 = .ok (.iload_n 2, 1) := by decide +kernel
theorem dX7_floats_50 : decode cX7_floats 50 = .ok (.ireturn, 1) := by decide +kernel
theorem dX7_of_0 : decode cX7_of 0 = .ok (.iload_n 1, 1) := by decide +kernel
theorem dX7_of_1 : decode cX7_of 1 = .ok (.tableswitch 67 2 6 #[35, 41, 48, 55, 61], 35) := by decide +kernel
theorem dX7_of_36 : decode cX7_of 36 = .ok (.aload_n 0, 1) := by decide +kernel
theorem dX7_of_37 : decode cX7_of 37 = .ok (.iload_n 2, 1) := by decide +kernel
theorem dX7_of_38 : decode cX7_of 38 = .ok (.invokevirtual 57, 3) := by decide +kernel
theorem dX7_of_41 : decode cX7_of 41 = .ok (.ireturn, 1) := by decide +kernel
theorem dX7_of_42 : decode cX7_of 42 = .ok (.aload_n 0, 1) := by decide +kernel
theorem dX7_of_43 : decode cX7_of 43 = .ok (.getfield 7, 3) := by decide +kernel
theorem dX7_of_46 : decode cX7_of 46 = .ok (.iload_n 2, 1) := by decide +kernel
theorem dX7_of_47 : decode cX7_of 47 = .ok (.iaload, 1) := by decide +kernel
theorem dX7_of_48 : decode cX7_of 48 = .ok (.ireturn, 1) := by decide +kernel
theorem dX7_of_49 : decode cX7_of 49 = .ok (.aload_n 0, 1) := by decide +kernel
theorem dX7_of_50 : decode cX7_of 50 = .ok (.iload_n 2, 1) := by decide +kernel
theorem dX7_of_51 : decode cX7_of 51 = .ok (.iconst 0, 1) := by decide +kernel
theorem dX7_of_52 : decode cX7_of 52 = .ok (.invokevirtual 49, 3) := by decide +kernel
theorem dX7_of_55 : decode cX7_of 55 = .ok (.ireturn, 1) := by decide +kernel
theorem dX7_of_56 : decode cX7_of 56 = .ok (.aload_n 0, 1) := by decide +kernel
theorem dX7_of_57 : decode cX7_of 57 = .ok (.iload_n 2, 1) := by decide +kernel
theorem dX7_of_58 : decode cX7_of 58 = .ok (.invokevirtual 60, 3) := by decide +kernel
theorem dX7_of_61 : decode cX7_of 61 = .ok (.ireturn, 1) := by decide +kernel
theorem dX7_of_62 : decode cX7_of 62 = .ok (.aload_n 0, 1) := by decide +kernel
theorem dX7_of_63 : decode cX7_of 63 = .ok (.iload_n 2, 1) := by decide +kernel
theorem dX7_of_64 : decode cX7_of 64 = .ok (.invokevirtual 63, 3) := by decide +kernel
theorem dX7_of_67 : decode cX7_of 67 = .ok (.ireturn, 1) := by decide +kernel
theorem dX7_of_68 : decode cX7_of 68 = .ok (.aload_n 0, 1) := by decide +kernel
theorem dX7_of_69 : decode cX7_of 69 = .ok (.iload_n 2, 1) := by decide +kernel
theorem dX7_of_70 : decode cX7_of 70 = .ok (.invokevirtual 53, 3) := by decide +kernel
theorem dX7_of_73 : decode cX7_of 73 = .ok (.ireturn, 1) := by decide +kernel
theorem dX7_order_0 : decode cX7_order 0 = .ok (.aload_n 0, 1) := by decide +kernel
theorem dX7_order_1 : decode cX7_order 1 = .ok (.getfield 38, 3) := by decide +kernel
theorem dX7_order_4 : decode cX7_order 4 = .ok (.newarray .int, 2) := by decide +kernel
theorem dX7_order_6 : decode cX7_order 6 = .ok (.astore_n 1, 1) := by decide +kernel
theorem dX7_order_7 : decode cX7_order 7 = .ok (.aload_n 0, 1) := by decide +kernel
theorem dX7_order_8 : decode cX7_order 8 = .ok (.getfield 38, 3) := by decide +kernel
theorem dX7_order_11 : decode cX7_order 11 = .ok (.newarray .int, 2) := by decide +kernel
theorem dX7_order_13 : decode cX7_order 13 = .ok (.astore_n 2, 1) := by decide +kernel
theorem dX7_order_14 : decode cX7_order 14 = .ok (.iconst 0, 1) := by decide +kernel
theorem dX7_order_15 : decode cX7_order 15 = .ok (.istore_n 3, 1) := by decide +kernel
theorem dX7_order_16 : decode cX7_order 16 = .ok (.iload_n 3, 1) := by decide +kernel
theorem dX7_order_17 : decode cX7_order 17 = .ok (.aload_n 0, 1) := by decide +kernel
theorem dX7_order_18 : decode cX7_order 18 = .ok (.getfield 38, 3) := by decide +kernel
theorem dX7_order_21 : decode cX7_order 21 = .ok (.if_icmp .ge 25, 3) := by decide +kernel
theorem dX7_order_24 : decode cX7_order 24 = .ok (.aload_n 1, 1) := by decide +kernel
theorem dX7_order_25 : decode cX7_order 25 = .ok (.iload_n 3, 1) := by decide +kernel
theorem dX7_order_26 : decode cX7_order 26 = .ok (.aload_n 0, 1) := by decide +kernel
theorem dX7_order_27 : decode cX7_order 27 = .ok (.iload_n 3, 1) := by decide +kernel
theorem dX7_order_28 : decode cX7_order 28 = .ok (.invokevirtual 57, 3) := by decide +kernel
theorem dX7_order_31 : decode cX7_order 31 = .ok (.iastore, 1) := by decide +kernel
theorem dX7_order_32 : decode cX7_order 32 = .ok (.aload_n 2, 1) := by decide +kernel
theorem dX7_order_33 : decode cX7_order 33 = .ok (.iload_n 3, 1) := by decide +kernel
theorem dX7_order_34 : decode cX7_order 34 = .ok (.aload_n 0, 1) := by decide +kernel
theorem dX7_order_35 : decode cX7_order 35 = .ok (.iload_n 3, 1) := by decide +kernel
theorem dX7_order_36 : decode cX7_order 36 = .ok (.invokevirtual 66, 3) := by decide +kernel
theorem dX7_order_39 : decode cX7_order 39 = .ok (.iastore, 1) := by decide +kernel
theorem dX7_order_40 : decode cX7_order 40 = .ok (.iinc 3 1, 3) := by decide +kernel
theorem dX7_order_43 : decode cX7_order 43 = .ok (.goto (-27), 3) := by decide +kernel
theorem dX7_order_46 : decode cX7_order 46 = .ok (.aload_n 0, 1) := by decide +kernel
theorem dX7_order_47 : decode cX7_order 47 = .ok (.getfield 38, 3) := by decide +kernel
theorem dX7_order_50 : decode cX7_order 50 = .ok (.newarray .int, 2) := by decide +kernel
theorem dX7_order_52 : decode cX7_order 52 = .ok (.astore_n 3, 1) := by decide +kernel
theorem dX7_order_53 : decode cX7_order 53 = .ok (.iconst 0, 1) := by decide +kernel
theorem dX7_order_54 : decode cX7_order 54 = .ok (.istore 4, 2) := by decide +kernel
theorem dX7_order_56 : decode cX7_order 56 = .ok (.iload 4, 2) := by decide +kernel
theorem dX7_order_58 : decode cX7_order 58 = .ok (.aload_n 0, 1) := by decide +kernel
theorem dX7_order_59 : decode cX7_order 59 = .ok (.getfield 38, 3) := by decide +kernel
theorem dX7_order_62 : decode cX7_order 62 = .ok (.if_icmp .ge 114, 3) := by decide +kernel
theorem dX7_order_65 : decode cX7_order 65 = .ok (.iload 4, 2) := by decide +kernel
theorem dX7_order_67 : decode cX7_order 67 = .ok (.istore 5, 2) := by decide +kernel
theorem dX7_order_69 : decode cX7_order 69 = .ok (.iload 5, 2) := by decide +kernel
theorem dX7_order_71 : decode cX7_order 71 = .ok (.ifCond .le 93, 3) := by decide +kernel
theorem dX7_order_74 : decode cX7_order 74 = .ok (.aload_n 3, 1) := by decide +kernel
theorem dX7_order_75 : decode cX7_order 75 = .ok (.iload 5, 2) := by decide +kernel
theorem dX7_order_77 : decode cX7_order 77 = .ok (.iconst 1, 1) := by decide +kernel
theorem dX7_order_78 : decode cX7_order 78 = .ok (.isub, 1) := by decide +kernel
theorem dX7_order_79 : decode cX7_order 79 = .ok (.iaload, 1) := by decide +kernel
theorem dX7_order_80 : decode cX7_order 80 = .ok (.istore 6, 2) := by decide +kernel
theorem dX7_order_82 : decode cX7_order 82 = .ok (.aload_n 1, 1) := by decide +kernel
theorem dX7_order_83 : decode cX7_order 83 = .ok (.iload 6, 2) := by decide +kernel
theorem dX7_order_85 : decode cX7_order 85 = .ok (.iaload, 1) := by decide +kernel
theorem dX7_order_86 : decode cX7_order 86 = .ok (.aload_n 1, 1) := by decide +kernel
theorem dX7_order_87 : decode cX7_order 87 = .ok (.iload 4, 2) := by decide +kernel
theorem dX7_order_89 : decode cX7_order 89 = .ok (.iaload, 1) := by decide +kernel
theorem dX7_order_90 : decode cX7_order 90 = .ok (.if_icmp .eq 17, 3) := by decide +kernel
theorem dX7_order_93 : decode cX7_order 93 = .ok (.aload_n 1, 1) := by decide +kernel
theorem dX7_order_94 : decode cX7_order 94 = .ok (.iload 6, 2) := by decide +kernel
theorem dX7_order_96 : decode cX7_order 96 = .ok (.iaload, 1) := by decide +kernel
theorem dX7_order_97 : decode cX7_order 97 = .ok (.aload_n 1, 1) := by decide +kernel
theorem dX7_order_98 : decode cX7_order 98 = .ok (.iload 4, 2) := by decide +kernel
theorem dX7_order_100 : decode cX7_order 100 = .ok (.iaload, 1) := by decide +kernel
theorem dX7_order_101 : decode cX7_order 101 = .ok (.if_icmp .le 51, 3) := by decide +kernel
theorem dX7_order_104 : decode cX7_order 104 = .ok (.goto 60, 3) := by decide +kernel
theorem dX7_order_107 : decode cX7_order 107 = .ok (.aload_n 2, 1) := by decide +kernel
theorem dX7_order_108 : decode cX7_order 108 = .ok (.iload 6, 2) := by decide +kernel
theorem dX7_order_110 : decode cX7_order 110 = .ok (.iaload, 1) := by decide +kernel
theorem dX7_order_111 : decode cX7_order 111 = .ok (.aload_n 2, 1) := by decide +kernel
theorem dX7_order_112 : decode cX7_order 112 = .ok (.iload 4, 2) := by decide +kernel
theorem dX7_order_114 : decode cX7_order 114 = .ok (.iaload, 1) := by decide +kernel
theorem dX7_order_115 : decode cX7_order 115 = .ok (.if_icmp .eq 17, 3) := by decide +kernel
theorem dX7_order_118 : decode cX7_order 118 = .ok (.aload_n 2, 1) := by decide +kernel
theorem dX7_order_119 : decode cX7_order 119 = .ok (.iload 6, 2) := by decide +kernel
theorem dX7_order_121 : decode cX7_order 121 = .ok (.iaload, 1) := by decide +kernel
theorem dX7_order_122 : decode cX7_order 122 = .ok (.aload_n 2, 1) := by decide +kernel
theorem dX7_order_123 : decode cX7_order 123 = .ok (.iload 4, 2) := by decide +kernel
theorem dX7_order_125 : decode cX7_order 125 = .ok (.iaload, 1) := by decide +kernel
theorem dX7_order_126 : decode cX7_order 126 = .ok (.if_icmp .le 26, 3) := by decide +kernel
theorem dX7_order_129 : decode cX7_order 129 = .ok (.goto 35, 3) := by decide +kernel
theorem dX7_order_132 : decode cX7_order 132 = .ok (.aload_n 0, 1) := by decide +kernel
theorem dX7_order_133 : decode cX7_order 133 = .ok (.getfield 7, 3) := by decide +kernel
theorem dX7_order_136 : decode cX7_order 136 = .ok (.iload 6, 2) := by decide +kernel
theorem dX7_order_138 : decode cX7_order 138 = .ok (.iaload, 1) := by decide +kernel
theorem dX7_order_139 : decode cX7_order 139 = .ok (.aload_n 0, 1) := by decide +kernel
theorem dX7_order_140 : decode cX7_order 140 = .ok (.getfield 7, 3) := by decide +kernel
theorem dX7_order_143 : decode cX7_order 143 = .ok (.iload 4, 2) := by decide +kernel
theorem dX7_order_145 : decode cX7_order 145 = .ok (.iaload, 1) := by decide +kernel
theorem dX7_order_146 : decode cX7_order 146 = .ok (.if_icmp .lt 6, 3) := by decide +kernel
theorem dX7_order_149 : decode cX7_order 149 = .ok (.goto 15, 3) := by decide +kernel
theorem dX7_order_152 : decode cX7_order 152 = .ok (.aload_n 3, 1) := by decide +kernel
theorem dX7_order_153 : decode cX7_order 153 = .ok (.iload 5, 2) := by decide +kernel
theorem dX7_order_155 : decode cX7_order 155 = .ok (.iload 6, 2) := by decide +kernel
theorem dX7_order_157 : decode cX7_order 157 = .ok (.iastore, 1) := by decide +kernel
theorem dX7_order_158 : decode cX7_order 158 = .ok (.iinc 5 (-1), 3) := by decide +kernel
theorem dX7_order_161 : decode cX7_order 161 = .ok (.goto (-92), 3) := by decide +kernel
theorem dX7_order_164 : decode cX7_order 164 = .ok (.aload_n 3, 1) := by decide +kernel
theorem dX7_order_165 : decode cX7_order 165 = .ok (.iload 5, 2) := by decide +kernel
theorem dX7_order_167 : decode cX7_order 167 = .ok (.iload 4, 2) := by decide +kernel
theorem dX7_order_169 : decode cX7_order 169 = .ok (.iastore, 1) := by decide +kernel
theorem dX7_order_170 : decode cX7_order 170 = .ok (.iinc 4 1, 3) := by decide +kernel
theorem dX7_order_173 : decode cX7_order 173 = .ok (.goto (-117), 3) := by decide +kernel
theorem dX7_order_176 : decode cX7_order 176 = .ok (.aload_n 3, 1) := by decide +kernel
theorem dX7_order_177 : decode cX7_order 177 = .ok (.areturn, 1) := by decide +kernel
theorem dX7_in_0 : decode cX7_in 0 = .ok (.iconst 0, 1) := by decide +kernel
theorem dX7_in_1 : decode cX7_in 1 = .ok (.istore_n 1, 1) := by decide +kernel
theorem dX7_in_2 : decode cX7_in 2 = .ok (.iconst 0, 1) := by decide +kernel
theorem dX7_in_3 : decode cX7_in 3 = .ok (.istore_n 2, 1) := by decide +kernel
theorem dX7_in_4 : decode cX7_in 4 = .ok (.iload_n 2, 1) := by decide +kernel
theorem dX7_in_5 : decode cX7_in 5 = .ok (.aload_n 0, 1) := by decide +kernel
theorem dX7_in_6 : decode cX7_in 6 = .ok (.getfield 38, 3) := by decide +kernel
theorem dX7_in_9 : decode cX7_in 9 = .ok (.if_icmp .ge 26, 3) := by decide +kernel
theorem dX7_in_12 : decode cX7_in 12 = .ok (.iload_n 1, 1) := by decide +kernel
theorem dX7_in_13 : decode cX7_in 13 = .ok (.aload_n 0, 1) := by decide +kernel
theorem dX7_in_14 : decode cX7_in 14 = .ok (.getfield 25, 3) := by decide +kernel
theorem dX7_in_17 : decode cX7_in 17 = .ok (.iload_n 2, 1) := by decide +kernel
theorem dX7_in_18 : decode cX7_in 18 = .ok (.baload, 1) := by decide +kernel
theorem dX7_in_19 : decode cX7_in 19 = .ok (.ifCond .eq 7, 3) := by decide +kernel
theorem dX7_in_22 : decode cX7_in 22 = .ok (.iconst 0, 1) := by decide +kernel
theorem dX7_in_23 : decode cX7_in 23 = .ok (.goto 4, 3) := by decide +kernel
theorem dX7_in_26 : decode cX7_in 26 = .ok (.iconst 1, 1) := by decide +kernel
theorem dX7_in_27 : decode cX7_in 27 = .ok (.iadd, 1) := by decide +kernel
theorem dX7_in_28 : decode cX7_in 28 = .ok (.istore_n 1, 1) := by decide +kernel
theorem dX7_in_29 : decode cX7_in 29 = .ok (.iinc 2 1, 3) := by decide +kernel
theorem dX7_in_32 : decode cX7_in 32 = .ok (.goto (-28), 3) := by decide +kernel
theorem dX7_in_35 : decode cX7_in 35 = .ok (.iload_n 1, 1) := by decide +kernel
theorem dX7_in_36 : decode cX7_in 36 = .ok (.ireturn, 1) := by decide +kernel
theorem dX7_open_0 : decode cX7_open 0 = .ok (.iconst 0, 1) := by decide +kernel
theorem dX7_open_1 : decode cX7_open 1 = .ok (.istore_n 1, 1) := by decide +kernel
theorem dX7_open_2 : decode cX7_open 2 = .ok (.aload_n 0, 1) := by decide +kernel
theorem dX7_open_3 : decode cX7_open 3 = .ok (.getfield 30, 3) := by decide +kernel
theorem dX7_open_6 : decode cX7_open 6 = .ok (.astore_n 2, 1) := by decide +kernel
theorem dX7_open_7 : decode cX7_open 7 = .ok (.aload_n 2, 1) := by decide +kernel
theorem dX7_open_8 : decode cX7_open 8 = .ok (.arraylength, 1) := by decide +kernel
theorem dX7_open_9 : decode cX7_open 9 = .ok (.istore_n 3, 1) := by decide +kernel
theorem dX7_open_10 : decode cX7_open 10 = .ok (.iconst 0, 1) := by decide +kernel
theorem dX7_open_11 : decode cX7_open 11 = .ok (.istore 4, 2) := by decide +kernel
theorem dX7_open_13 : decode cX7_open 13 = .ok (.iload 4, 2) := by decide +kernel
theorem dX7_open_15 : decode cX7_open 15 = .ok (.iload_n 3, 1) := by decide +kernel
theorem dX7_open_16 : decode cX7_open 16 = .ok (.if_icmp .ge 30, 3) := by decide +kernel
theorem dX7_open_19 : decode cX7_open 19 = .ok (.aload_n 2, 1) := by decide +kernel
theorem dX7_open_20 : decode cX7_open 20 = .ok (.iload 4, 2) := by decide +kernel
theorem dX7_open_22 : decode cX7_open 22 = .ok (.aaload, 1) := by decide +kernel
theorem dX7_open_23 : decode cX7_open 23 = .ok (.astore 5, 2) := by decide +kernel
theorem dX7_open_25 : decode cX7_open 25 = .ok (.iload_n 1, 1) := by decide +kernel
theorem dX7_open_26 : decode cX7_open 26 = .ok (.aload 5, 2) := by decide +kernel
theorem dX7_open_28 : decode cX7_open 28 = .ok (.iconst 3, 1) := by decide +kernel
theorem dX7_open_29 : decode cX7_open 29 = .ok (.iaload, 1) := by decide +kernel
theorem dX7_open_30 : decode cX7_open 30 = .ok (.ifCond .ge 7, 3) := by decide +kernel
theorem dX7_open_33 : decode cX7_open 33 = .ok (.iconst 1, 1) := by decide +kernel
theorem dX7_open_34 : decode cX7_open 34 = .ok (.goto 4, 3) := by decide +kernel
theorem dX7_open_37 : decode cX7_open 37 = .ok (.iconst 0, 1) := by decide +kernel
theorem dX7_open_38 : decode cX7_open 38 = .ok (.iadd, 1) := by decide +kernel
theorem dX7_open_39 : decode cX7_open 39 = .ok (.istore_n 1, 1) := by decide +kernel
theorem dX7_open_40 : decode cX7_open 40 = .ok (.iinc 4 1, 3) := by decide +kernel
theorem dX7_open_43 : decode cX7_open 43 = .ok (.goto (-30), 3) := by decide +kernel
theorem dX7_open_46 : decode cX7_open 46 = .ok (.iload_n 1, 1) := by decide +kernel
theorem dX7_open_47 : decode cX7_open 47 = .ok (.ireturn, 1) := by decide +kernel
theorem dX7_canPair_0 : decode cX7_canPair 0 = .ok (.aload_n 0, 1) := by decide +kernel
theorem dX7_canPair_1 : decode cX7_canPair 1 = .ok (.invokevirtual 69, 3) := by decide +kernel
theorem dX7_canPair_4 : decode cX7_canPair 4 = .ok (.ifCond .ne 24, 3) := by decide +kernel
theorem dX7_canPair_7 : decode cX7_canPair 7 = .ok (.aload_n 0, 1) := by decide +kernel
theorem dX7_canPair_8 : decode cX7_canPair 8 = .ok (.getfield 42, 3) := by decide +kernel
theorem dX7_canPair_11 : decode cX7_canPair 11 = .ok (.bipush 20, 2) := by decide +kernel
theorem dX7_canPair_13 : decode cX7_canPair 13 = .ok (.if_icmp .ge 15, 3) := by decide +kernel
theorem dX7_canPair_16 : decode cX7_canPair 16 = .ok (.aload_n 0, 1) := by decide +kernel
theorem dX7_canPair_17 : decode cX7_canPair 17 = .ok (.invokevirtual 73, 3) := by decide +kernel
theorem dX7_canPair_20 : decode cX7_canPair 20 = .ok (.iconst 1, 1) := by decide +kernel
theorem dX7_canPair_21 : decode cX7_canPair 21 = .ok (.if_icmp .le 7, 3) := by decide +kernel
theorem dX7_canPair_24 : decode cX7_canPair 24 = .ok (.iconst 1, 1) := by decide +kernel
theorem dX7_canPair_25 : decode cX7_canPair 25 = .ok (.goto 4, 3) := by decide +kernel
theorem dX7_canPair_28 : decode cX7_canPair 28 = .ok (.iconst 0, 1) := by decide +kernel
theorem dX7_canPair_29 : decode cX7_canPair 29 = .ok (.ireturn, 1) := by decide +kernel
theorem dX7_row_0 : decode cX7_row 0 = .ok (.iconst 0, 1) := by decide +kernel
theorem dX7_row_1 : decode cX7_row 1 = .ok (.newarray .int, 2) := by decide +kernel
theorem dX7_row_3 : decode cX7_row 3 = .ok (.astore_n 1, 1) := by decide +kernel
theorem dX7_row_4 : decode cX7_row 4 = .ok (.aload_n 0, 1) := by decide +kernel
theorem dX7_row_5 : decode cX7_row 5 = .ok (.invokevirtual 76, 3) := by decide +kernel
theorem dX7_row_8 : decode cX7_row 8 = .ok (.astore_n 2, 1) := by decide +kernel
theorem dX7_row_9 : decode cX7_row 9 = .ok (.aload_n 2, 1) := by decide +kernel
theorem dX7_row_10 : decode cX7_row 10 = .ok (.arraylength, 1) := by decide +kernel
theorem dX7_row_11 : decode cX7_row 11 = .ok (.istore_n 3, 1) := by decide +kernel
theorem dX7_row_12 : decode cX7_row 12 = .ok (.iconst 0, 1) := by decide +kernel
theorem dX7_row_13 : decode cX7_row 13 = .ok (.istore 4, 2) := by decide +kernel
theorem dX7_row_15 : decode cX7_row 15 = .ok (.iload 4, 2) := by decide +kernel
theorem dX7_row_17 : decode cX7_row 17 = .ok (.iload_n 3, 1) := by decide +kernel
theorem dX7_row_18 : decode cX7_row 18 = .ok (.if_icmp .ge 32, 3) := by decide +kernel
theorem dX7_row_21 : decode cX7_row 21 = .ok (.aload_n 2, 1) := by decide +kernel
theorem dX7_row_22 : decode cX7_row 22 = .ok (.iload 4, 2) := by decide +kernel
theorem dX7_row_24 : decode cX7_row 24 = .ok (.iaload, 1) := by decide +kernel
theorem dX7_row_25 : decode cX7_row 25 = .ok (.istore 5, 2) := by decide +kernel
theorem dX7_row_27 : decode cX7_row 27 = .ok (.aload_n 0, 1) := by decide +kernel
theorem dX7_row_28 : decode cX7_row 28 = .ok (.getfield 25, 3) := by decide +kernel
theorem dX7_row_31 : decode cX7_row 31 = .ok (.iload 5, 2) := by decide +kernel
theorem dX7_row_33 : decode cX7_row 33 = .ok (.baload, 1) := by decide +kernel
theorem dX7_row_34 : decode cX7_row 34 = .ok (.ifCond .ne 10, 3) := by decide +kernel
theorem dX7_row_37 : decode cX7_row 37 = .ok (.aload_n 1, 1) := by decide +kernel
theorem dX7_row_38 : decode cX7_row 38 = .ok (.iload 5, 2) := by decide +kernel
theorem dX7_row_40 : decode cX7_row 40 = .ok (.invokestatic 80, 3) := by decide +kernel
theorem dX7_row_43 : decode cX7_row 43 = .ok (.astore_n 1, 1) := by decide +kernel
theorem dX7_row_44 : decode cX7_row 44 = .ok (.iinc 4 1, 3) := by decide +kernel
theorem dX7_row_47 : decode cX7_row 47 = .ok (.goto (-32), 3) := by decide +kernel
theorem dX7_row_50 : decode cX7_row 50 = .ok (.aload_n 1, 1) := by decide +kernel
theorem dX7_row_51 : decode cX7_row 51 = .ok (.arraylength, 1) := by decide +kernel
theorem dX7_row_52 : decode cX7_row 52 = .ok (.iconst 2, 1) := by decide +kernel
theorem dX7_row_53 : decode cX7_row 53 = .ok (.irem, 1) := by decide +kernel
theorem dX7_row_54 : decode cX7_row 54 = .ok (.ifCond .ne 5, 3) := by decide +kernel
theorem dX7_row_57 : decode cX7_row 57 = .ok (.aload_n 1, 1) := by decide +kernel
theorem dX7_row_58 : decode cX7_row 58 = .ok (.areturn, 1) := by decide +kernel
theorem dX7_row_59 : decode cX7_row 59 = .ok (.aload_n 1, 1) := by decide +kernel
theorem dX7_row_60 : decode cX7_row 60 = .ok (.arraylength, 1) := by decide +kernel
theorem dX7_row_61 : decode cX7_row 61 = .ok (.iconst 1, 1) := by decide +kernel
theorem dX7_row_62 : decode cX7_row 62 = .ok (.isub, 1) := by decide +kernel
theorem dX7_row_63 : decode cX7_row 63 = .ok (.istore_n 2, 1) := by decide +kernel
theorem dX7_row_64 : decode cX7_row 64 = .ok (.aload_n 1, 1) := by decide +kernel
theorem dX7_row_65 : decode cX7_row 65 = .ok (.arraylength, 1) := by decide +kernel
theorem dX7_row_66 : decode cX7_row 66 = .ok (.iconst 2, 1) := by decide +kernel
theorem dX7_row_67 : decode cX7_row 67 = .ok (.isub, 1) := by decide +kernel
theorem dX7_row_68 : decode cX7_row 68 = .ok (.istore_n 3, 1) := by decide +kernel
theorem dX7_row_69 : decode cX7_row 69 = .ok (.iload_n 3, 1) := by decide +kernel
theorem dX7_row_70 : decode cX7_row 70 = .ok (.ifCond .lt 28, 3) := by decide +kernel
theorem dX7_row_73 : decode cX7_row 73 = .ok (.aload_n 0, 1) := by decide +kernel
theorem dX7_row_74 : decode cX7_row 74 = .ok (.aload_n 1, 1) := by decide +kernel
theorem dX7_row_75 : decode cX7_row 75 = .ok (.iload_n 3, 1) := by decide +kernel
theorem dX7_row_76 : decode cX7_row 76 = .ok (.iaload, 1) := by decide +kernel
theorem dX7_row_77 : decode cX7_row 77 = .ok (.invokevirtual 53, 3) := by decide +kernel
theorem dX7_row_80 : decode cX7_row 80 = .ok (.aload_n 0, 1) := by decide +kernel
theorem dX7_row_81 : decode cX7_row 81 = .ok (.aload_n 1, 1) := by decide +kernel
theorem dX7_row_82 : decode cX7_row 82 = .ok (.iload_n 2, 1) := by decide +kernel
theorem dX7_row_83 : decode cX7_row 83 = .ok (.iaload, 1) := by decide +kernel
theorem dX7_row_84 : decode cX7_row 84 = .ok (.invokevirtual 53, 3) := by decide +kernel
theorem dX7_row_87 : decode cX7_row 87 = .ok (.if_icmp .ge 5, 3) := by decide +kernel
theorem dX7_row_90 : decode cX7_row 90 = .ok (.iload_n 3, 1) := by decide +kernel
theorem dX7_row_91 : decode cX7_row 91 = .ok (.istore_n 2, 1) := by decide +kernel
theorem dX7_row_92 : decode cX7_row 92 = .ok (.iinc 3 (-1), 3) := by decide +kernel
theorem dX7_row_95 : decode cX7_row 95 = .ok (.goto (-26), 3) := by decide +kernel
theorem dX7_row_98 : decode cX7_row 98 = .ok (.aload_n 1, 1) := by decide +kernel
theorem dX7_row_99 : decode cX7_row 99 = .ok (.iload_n 2, 1) := by decide +kernel
theorem dX7_row_100 : decode cX7_row 100 = .ok (.iaload, 1) := by decide +kernel
theorem dX7_row_101 : decode cX7_row 101 = .ok (.istore_n 3, 1) := by decide +kernel
theorem dX7_row_102 : decode cX7_row 102 = .ok (.iload_n 2, 1) := by decide +kernel
theorem dX7_row_103 : decode cX7_row 103 = .ok (.istore 4, 2) := by decide +kernel
theorem dX7_row_105 : decode cX7_row 105 = .ok (.iload 4, 2) := by decide +kernel
theorem dX7_row_107 : decode cX7_row 107 = .ok (.iconst 1, 1) := by decide +kernel
theorem dX7_row_108 : decode cX7_row 108 = .ok (.iadd, 1) := by decide +kernel
theorem dX7_row_109 : decode cX7_row 109 = .ok (.aload_n 1, 1) := by decide +kernel
theorem dX7_row_110 : decode cX7_row 110 = .ok (.arraylength, 1) := by decide +kernel
theorem dX7_row_111 : decode cX7_row 111 = .ok (.if_icmp .ge 19, 3) := by decide +kernel
theorem dX7_row_114 : decode cX7_row 114 = .ok (.aload_n 1, 1) := by decide +kernel
theorem dX7_row_115 : decode cX7_row 115 = .ok (.iload 4, 2) := by decide +kernel
theorem dX7_row_117 : decode cX7_row 117 = .ok (.aload_n 1, 1) := by decide +kernel
theorem dX7_row_118 : decode cX7_row 118 = .ok (.iload 4, 2) := by decide +kernel
theorem dX7_row_120 : decode cX7_row 120 = .ok (.iconst 1, 1) := by decide +kernel
theorem dX7_row_121 : decode cX7_row 121 = .ok (.iadd, 1) := by decide +kernel
theorem dX7_row_122 : decode cX7_row 122 = .ok (.iaload, 1) := by decide +kernel
theorem dX7_row_123 : decode cX7_row 123 = .ok (.iastore, 1) := by decide +kernel
theorem dX7_row_124 : decode cX7_row 124 = .ok (.iinc 4 1, 3) := by decide +kernel
theorem dX7_row_127 : decode cX7_row 127 = .ok (.goto (-22), 3) := by decide +kernel
theorem dX7_row_130 : decode cX7_row 130 = .ok (.aload_n 1, 1) := by decide +kernel
theorem dX7_row_131 : decode cX7_row 131 = .ok (.aload_n 1, 1) := by decide +kernel
theorem dX7_row_132 : decode cX7_row 132 = .ok (.arraylength, 1) := by decide +kernel
theorem dX7_row_133 : decode cX7_row 133 = .ok (.iconst 1, 1) := by decide +kernel
theorem dX7_row_134 : decode cX7_row 134 = .ok (.isub, 1) := by decide +kernel
theorem dX7_row_135 : decode cX7_row 135 = .ok (.iload_n 3, 1) := by decide +kernel
theorem dX7_row_136 : decode cX7_row 136 = .ok (.iastore, 1) := by decide +kernel
theorem dX7_row_137 : decode cX7_row 137 = .ok (.aload_n 1, 1) := by decide +kernel
theorem dX7_row_138 : decode cX7_row 138 = .ok (.areturn, 1) := by decide +kernel
theorem dX7_tryOut_0 : decode cX7_tryOut 0 = .ok (.aload_n 1, 1) := by decide +kernel
theorem dX7_tryOut_1 : decode cX7_tryOut 1 = .ok (.arraylength, 1) := by decide +kernel
theorem dX7_tryOut_2 : decode cX7_tryOut 2 = .ok (.aload_n 1, 1) := by decide +kernel
theorem dX7_tryOut_3 : decode cX7_tryOut 3 = .ok (.arraylength, 1) := by decide +kernel
theorem dX7_tryOut_4 : decode cX7_tryOut 4 = .ok (.iconst 2, 1) := by decide +kernel
theorem dX7_tryOut_5 : decode cX7_tryOut 5 = .ok (.irem, 1) := by decide +kernel
theorem dX7_tryOut_6 : decode cX7_tryOut 6 = .ok (.isub, 1) := by decide +kernel
theorem dX7_tryOut_7 : decode cX7_tryOut 7 = .ok (.istore 5, 2) := by decide +kernel
theorem dX7_tryOut_9 : decode cX7_tryOut 9 = .ok (.iload 4, 2) := by decide +kernel
theorem dX7_tryOut_11 : decode cX7_tryOut 11 = .ok (.aload_n 3, 1) := by decide +kernel
theorem dX7_tryOut_12 : decode cX7_tryOut 12 = .ok (.bipush 12, 2) := by decide +kernel
theorem dX7_tryOut_14 : decode cX7_tryOut 14 = .ok (.iaload, 1) := by decide +kernel
theorem dX7_tryOut_15 : decode cX7_tryOut 15 = .ok (.if_icmp .lt 4, 3) := by decide +kernel
theorem dX7_tryOut_18 : decode cX7_tryOut 18 = .ok (.return_, 1) := by decide +kernel
theorem dX7_tryOut_19 : decode cX7_tryOut 19 = .ok (.iconst 0, 1) := by decide +kernel
theorem dX7_tryOut_20 : decode cX7_tryOut 20 = .ok (.istore 6, 2) := by decide +kernel
theorem dX7_tryOut_22 : decode cX7_tryOut 22 = .ok (.iload 6, 2) := by decide +kernel
theorem dX7_tryOut_24 : decode cX7_tryOut 24 = .ok (.iload 5, 2) := by decide +kernel
theorem dX7_tryOut_26 : decode cX7_tryOut 26 = .ok (.if_icmp .ge 16, 3) := by decide +kernel
theorem dX7_tryOut_29 : decode cX7_tryOut 29 = .ok (.aload_n 2, 1) := by decide +kernel
theorem dX7_tryOut_30 : decode cX7_tryOut 30 = .ok (.iload 6, 2) := by decide +kernel
theorem dX7_tryOut_32 : decode cX7_tryOut 32 = .ok (.iaload, 1) := by decide +kernel
theorem dX7_tryOut_33 : decode cX7_tryOut 33 = .ok (.ifCond .lt 9, 3) := by decide +kernel
theorem dX7_tryOut_36 : decode cX7_tryOut 36 = .ok (.iinc 6 1, 3) := by decide +kernel
theorem dX7_tryOut_39 : decode cX7_tryOut 39 = .ok (.goto (-17), 3) := by decide +kernel
theorem dX7_tryOut_42 : decode cX7_tryOut 42 = .ok (.iload 6, 2) := by decide +kernel
theorem dX7_tryOut_44 : decode cX7_tryOut 44 = .ok (.iload 5, 2) := by decide +kernel
theorem dX7_tryOut_46 : decode cX7_tryOut 46 = .ok (.if_icmp .ne 34, 3) := by decide +kernel
theorem dX7_tryOut_49 : decode cX7_tryOut 49 = .ok (.iconst 0, 1) := by decide +kernel
theorem dX7_tryOut_50 : decode cX7_tryOut 50 = .ok (.istore 7, 2) := by decide +kernel
theorem dX7_tryOut_52 : decode cX7_tryOut 52 = .ok (.iload 7, 2) := by decide +kernel
theorem dX7_tryOut_54 : decode cX7_tryOut 54 = .ok (.iload 5, 2) := by decide +kernel
theorem dX7_tryOut_56 : decode cX7_tryOut 56 = .ok (.if_icmp .ge 17, 3) := by decide +kernel
theorem dX7_tryOut_59 : decode cX7_tryOut 59 = .ok (.aload_n 3, 1) := by decide +kernel
theorem dX7_tryOut_60 : decode cX7_tryOut 60 = .ok (.iload 7, 2) := by decide +kernel
theorem dX7_tryOut_62 : decode cX7_tryOut 62 = .ok (.aload_n 2, 1) := by decide +kernel
theorem dX7_tryOut_63 : decode cX7_tryOut 63 = .ok (.iload 7, 2) := by decide +kernel
theorem dX7_tryOut_65 : decode cX7_tryOut 65 = .ok (.iaload, 1) := by decide +kernel
theorem dX7_tryOut_66 : decode cX7_tryOut 66 = .ok (.iastore, 1) := by decide +kernel
theorem dX7_tryOut_67 : decode cX7_tryOut 67 = .ok (.iinc 7 1, 3) := by decide +kernel
theorem dX7_tryOut_70 : decode cX7_tryOut 70 = .ok (.goto (-18), 3) := by decide +kernel
theorem dX7_tryOut_73 : decode cX7_tryOut 73 = .ok (.aload_n 3, 1) := by decide +kernel
theorem dX7_tryOut_74 : decode cX7_tryOut 74 = .ok (.bipush 12, 2) := by decide +kernel
theorem dX7_tryOut_76 : decode cX7_tryOut 76 = .ok (.iload 4, 2) := by decide +kernel
theorem dX7_tryOut_78 : decode cX7_tryOut 78 = .ok (.iastore, 1) := by decide +kernel
theorem dX7_tryOut_79 : decode cX7_tryOut 79 = .ok (.return_, 1) := by decide +kernel
theorem dX7_tryOut_80 : decode cX7_tryOut 80 = .ok (.iload 6, 2) := by decide +kernel
theorem dX7_tryOut_82 : decode cX7_tryOut 82 = .ok (.iconst 1, 1) := by decide +kernel
theorem dX7_tryOut_83 : decode cX7_tryOut 83 = .ok (.iadd, 1) := by decide +kernel
theorem dX7_tryOut_84 : decode cX7_tryOut 84 = .ok (.istore 7, 2) := by decide +kernel
theorem dX7_tryOut_86 : decode cX7_tryOut 86 = .ok (.iload 7, 2) := by decide +kernel
theorem dX7_tryOut_88 : decode cX7_tryOut 88 = .ok (.iload 5, 2) := by decide +kernel
theorem dX7_tryOut_90 : decode cX7_tryOut 90 = .ok (.if_icmp .ge 73, 3) := by decide +kernel
theorem dX7_tryOut_93 : decode cX7_tryOut 93 = .ok (.aload_n 2, 1) := by decide +kernel
theorem dX7_tryOut_94 : decode cX7_tryOut 94 = .ok (.iload 7, 2) := by decide +kernel
theorem dX7_tryOut_96 : decode cX7_tryOut 96 = .ok (.iaload, 1) := by decide +kernel
theorem dX7_tryOut_97 : decode cX7_tryOut 97 = .ok (.ifCond .lt 6, 3) := by decide +kernel
theorem dX7_tryOut_100 : decode cX7_tryOut 100 = .ok (.goto 57, 3) := by decide +kernel
theorem dX7_tryOut_103 : decode cX7_tryOut 103 = .ok (.aload_n 2, 1) := by decide +kernel
theorem dX7_tryOut_104 : decode cX7_tryOut 104 = .ok (.iload 6, 2) := by decide +kernel
theorem dX7_tryOut_106 : decode cX7_tryOut 106 = .ok (.iload 7, 2) := by decide +kernel
theorem dX7_tryOut_108 : decode cX7_tryOut 108 = .ok (.iastore, 1) := by decide +kernel
theorem dX7_tryOut_109 : decode cX7_tryOut 109 = .ok (.aload_n 2, 1) := by decide +kernel
theorem dX7_tryOut_110 : decode cX7_tryOut 110 = .ok (.iload 7, 2) := by decide +kernel
theorem dX7_tryOut_112 : decode cX7_tryOut 112 = .ok (.iload 6, 2) := by decide +kernel
theorem dX7_tryOut_114 : decode cX7_tryOut 114 = .ok (.iastore, 1) := by decide +kernel
theorem dX7_tryOut_115 : decode cX7_tryOut 115 = .ok (.aload_n 0, 1) := by decide +kernel
theorem dX7_tryOut_116 : decode cX7_tryOut 116 = .ok (.aload_n 1, 1) := by decide +kernel
theorem dX7_tryOut_117 : decode cX7_tryOut 117 = .ok (.aload_n 2, 1) := by decide +kernel
theorem dX7_tryOut_118 : decode cX7_tryOut 118 = .ok (.aload_n 3, 1) := by decide +kernel
theorem dX7_tryOut_119 : decode cX7_tryOut 119 = .ok (.iload 4, 2) := by decide +kernel
theorem dX7_tryOut_121 : decode cX7_tryOut 121 = .ok (.aload_n 0, 1) := by decide +kernel
theorem dX7_tryOut_122 : decode cX7_tryOut 122 = .ok (.aload_n 1, 1) := by decide +kernel
theorem dX7_tryOut_123 : decode cX7_tryOut 123 = .ok (.iload 6, 2) := by decide +kernel
theorem dX7_tryOut_125 : decode cX7_tryOut 125 = .ok (.iaload, 1) := by decide +kernel
theorem dX7_tryOut_126 : decode cX7_tryOut 126 = .ok (.aload_n 1, 1) := by decide +kernel
theorem dX7_tryOut_127 : decode cX7_tryOut 127 = .ok (.iload 7, 2) := by decide +kernel
theorem dX7_tryOut_129 : decode cX7_tryOut 129 = .ok (.iaload, 1) := by decide +kernel
theorem dX7_tryOut_130 : decode cX7_tryOut 130 = .ok (.bipush 99, 2) := by decide +kernel
theorem dX7_tryOut_132 : decode cX7_tryOut 132 = .ok (.invokevirtual 83, 3) := by decide +kernel
theorem dX7_tryOut_135 : decode cX7_tryOut 135 = .ok (.ifCond .le 7, 3) := by decide +kernel
theorem dX7_tryOut_138 : decode cX7_tryOut 138 = .ok (.iconst 1, 1) := by decide +kernel
theorem dX7_tryOut_139 : decode cX7_tryOut 139 = .ok (.goto 4, 3) := by decide +kernel
theorem dX7_tryOut_142 : decode cX7_tryOut 142 = .ok (.iconst 0, 1) := by decide +kernel
theorem dX7_tryOut_143 : decode cX7_tryOut 143 = .ok (.iadd, 1) := by decide +kernel
theorem dX7_tryOut_144 : decode cX7_tryOut 144 = .ok (.invokevirtual 87, 3) := by decide +kernel
theorem dX7_tryOut_147 : decode cX7_tryOut 147 = .ok (.aload_n 2, 1) := by decide +kernel
theorem dX7_tryOut_148 : decode cX7_tryOut 148 = .ok (.iload 6, 2) := by decide +kernel
theorem dX7_tryOut_150 : decode cX7_tryOut 150 = .ok (.iconst (-1), 1) := by decide +kernel
theorem dX7_tryOut_151 : decode cX7_tryOut 151 = .ok (.iastore, 1) := by decide +kernel
theorem dX7_tryOut_152 : decode cX7_tryOut 152 = .ok (.aload_n 2, 1) := by decide +kernel
theorem dX7_tryOut_153 : decode cX7_tryOut 153 = .ok (.iload 7, 2) := by decide +kernel
theorem dX7_tryOut_155 : decode cX7_tryOut 155 = .ok (.iconst (-1), 1) := by decide +kernel
theorem dX7_tryOut_156 : decode cX7_tryOut 156 = .ok (.iastore, 1) := by decide +kernel
theorem dX7_tryOut_157 : decode cX7_tryOut 157 = .ok (.iinc 7 1, 3) := by decide +kernel
theorem dX7_tryOut_160 : decode cX7_tryOut 160 = .ok (.goto (-74), 3) := by decide +kernel
theorem dX7_tryOut_163 : decode cX7_tryOut 163 = .ok (.return_, 1) := by decide +kernel
theorem dX7_mates_0 : decode cX7_mates 0 = .ok (.bipush 13, 2) := by decide +kernel
theorem dX7_mates_2 : decode cX7_mates 2 = .ok (.newarray .int, 2) := by decide +kernel
theorem dX7_mates_4 : decode cX7_mates 4 = .ok (.astore_n 2, 1) := by decide +kernel
theorem dX7_mates_5 : decode cX7_mates 5 = .ok (.aload_n 2, 1) := by decide +kernel
theorem dX7_mates_6 : decode cX7_mates 6 = .ok (.bipush 12, 2) := by decide +kernel
theorem dX7_mates_8 : decode cX7_mates 8 = .ok (.bipush 99, 2) := by decide +kernel
theorem dX7_mates_10 : decode cX7_mates 10 = .ok (.iastore, 1) := by decide +kernel
theorem dX7_mates_11 : decode cX7_mates 11 = .ok (.bipush 12, 2) := by decide +kernel
theorem dX7_mates_13 : decode cX7_mates 13 = .ok (.newarray .int, 2) := by decide +kernel
theorem dX7_mates_15 : decode cX7_mates 15 = .ok (.astore_n 3, 1) := by decide +kernel
theorem dX7_mates_16 : decode cX7_mates 16 = .ok (.iconst 0, 1) := by decide +kernel
theorem dX7_mates_17 : decode cX7_mates 17 = .ok (.istore 4, 2) := by decide +kernel
theorem dX7_mates_19 : decode cX7_mates 19 = .ok (.iload 4, 2) := by decide +kernel
theorem dX7_mates_21 : decode cX7_mates 21 = .ok (.bipush 12, 2) := by decide +kernel
theorem dX7_mates_23 : decode cX7_mates 23 = .ok (.if_icmp .ge 14, 3) := by decide +kernel
theorem dX7_mates_26 : decode cX7_mates 26 = .ok (.aload_n 3, 1) := by decide +kernel
theorem dX7_mates_27 : decode cX7_mates 27 = .ok (.iload 4, 2) := by decide +kernel
theorem dX7_mates_29 : decode cX7_mates 29 = .ok (.iconst (-1), 1) := by decide +kernel
theorem dX7_mates_30 : decode cX7_mates 30 = .ok (.iastore, 1) := by decide +kernel
theorem dX7_mates_31 : decode cX7_mates 31 = .ok (.iinc 4 1, 3) := by decide +kernel
theorem dX7_mates_34 : decode cX7_mates 34 = .ok (.goto (-15), 3) := by decide +kernel
theorem dX7_mates_37 : decode cX7_mates 37 = .ok (.aload_n 0, 1) := by decide +kernel
theorem dX7_mates_38 : decode cX7_mates 38 = .ok (.aload_n 1, 1) := by decide +kernel
theorem dX7_mates_39 : decode cX7_mates 39 = .ok (.aload_n 3, 1) := by decide +kernel
theorem dX7_mates_40 : decode cX7_mates 40 = .ok (.aload_n 2, 1) := by decide +kernel
theorem dX7_mates_41 : decode cX7_mates 41 = .ok (.iconst 0, 1) := by decide +kernel
theorem dX7_mates_42 : decode cX7_mates 42 = .ok (.invokevirtual 87, 3) := by decide +kernel
theorem dX7_mates_45 : decode cX7_mates 45 = .ok (.aload_n 2, 1) := by decide +kernel
theorem dX7_mates_46 : decode cX7_mates 46 = .ok (.areturn, 1) := by decide +kernel
theorem dX7_pair_0 : decode cX7_pair 0 = .ok (.aload_n 0, 1) := by decide +kernel
theorem dX7_pair_1 : decode cX7_pair 1 = .ok (.invokevirtual 91, 3) := by decide +kernel
theorem dX7_pair_4 : decode cX7_pair 4 = .ok (.astore_n 1, 1) := by decide +kernel
theorem dX7_pair_5 : decode cX7_pair 5 = .ok (.aload_n 0, 1) := by decide +kernel
theorem dX7_pair_6 : decode cX7_pair 6 = .ok (.aload_n 1, 1) := by decide +kernel
theorem dX7_pair_7 : decode cX7_pair 7 = .ok (.invokevirtual 94, 3) := by decide +kernel
theorem dX7_pair_10 : decode cX7_pair 10 = .ok (.astore_n 2, 1) := by decide +kernel
theorem dX7_pair_11 : decode cX7_pair 11 = .ok (.aload_n 1, 1) := by decide +kernel
theorem dX7_pair_12 : decode cX7_pair 12 = .ok (.arraylength, 1) := by decide +kernel
theorem dX7_pair_13 : decode cX7_pair 13 = .ok (.aload_n 1, 1) := by decide +kernel
theorem dX7_pair_14 : decode cX7_pair 14 = .ok (.arraylength, 1) := by decide +kernel
theorem dX7_pair_15 : decode cX7_pair 15 = .ok (.iconst 2, 1) := by decide +kernel
theorem dX7_pair_16 : decode cX7_pair 16 = .ok (.irem, 1) := by decide +kernel
theorem dX7_pair_17 : decode cX7_pair 17 = .ok (.isub, 1) := by decide +kernel
theorem dX7_pair_18 : decode cX7_pair 18 = .ok (.istore_n 3, 1) := by decide +kernel
theorem dX7_pair_19 : decode cX7_pair 19 = .ok (.iconst 0, 1) := by decide +kernel
theorem dX7_pair_20 : decode cX7_pair 20 = .ok (.anewarray 29, 3) := by decide +kernel
theorem dX7_pair_23 : decode cX7_pair 23 = .ok (.astore 4, 2) := by decide +kernel
theorem dX7_pair_25 : decode cX7_pair 25 = .ok (.iconst 0, 1) := by decide +kernel
theorem dX7_pair_26 : decode cX7_pair 26 = .ok (.istore 5, 2) := by decide +kernel
theorem dX7_pair_28 : decode cX7_pair 28 = .ok (.iload 5, 2) := by decide +kernel
theorem dX7_pair_30 : decode cX7_pair 30 = .ok (.iload_n 3, 1) := by decide +kernel
theorem dX7_pair_31 : decode cX7_pair 31 = .ok (.if_icmp .ge 197, 3) := by decide +kernel
theorem dX7_pair_34 : decode cX7_pair 34 = .ok (.aload_n 2, 1) := by decide +kernel
theorem dX7_pair_35 : decode cX7_pair 35 = .ok (.iload 5, 2) := by decide +kernel
theorem dX7_pair_37 : decode cX7_pair 37 = .ok (.iaload, 1) := by decide +kernel
theorem dX7_pair_38 : decode cX7_pair 38 = .ok (.iload 5, 2) := by decide +kernel
theorem dX7_pair_40 : decode cX7_pair 40 = .ok (.if_icmp .ge 6, 3) := by decide +kernel
theorem dX7_pair_43 : decode cX7_pair 43 = .ok (.goto 179, 3) := by decide +kernel
theorem dX7_pair_46 : decode cX7_pair 46 = .ok (.aload_n 1, 1) := by decide +kernel
theorem dX7_pair_47 : decode cX7_pair 47 = .ok (.iload 5, 2) := by decide +kernel
theorem dX7_pair_49 : decode cX7_pair 49 = .ok (.iaload, 1) := by decide +kernel
theorem dX7_pair_50 : decode cX7_pair 50 = .ok (.istore 6, 2) := by decide +kernel
theorem dX7_pair_52 : decode cX7_pair 52 = .ok (.aload_n 1, 1) := by decide +kernel
theorem dX7_pair_53 : decode cX7_pair 53 = .ok (.aload_n 2, 1) := by decide +kernel
theorem dX7_pair_54 : decode cX7_pair 54 = .ok (.iload 5, 2) := by decide +kernel
theorem dX7_pair_56 : decode cX7_pair 56 = .ok (.iaload, 1) := by decide +kernel
theorem dX7_pair_57 : decode cX7_pair 57 = .ok (.iaload, 1) := by decide +kernel
theorem dX7_pair_58 : decode cX7_pair 58 = .ok (.istore 7, 2) := by decide +kernel
theorem dX7_pair_60 : decode cX7_pair 60 = .ok (.aload_n 0, 1) := by decide +kernel
theorem dX7_pair_61 : decode cX7_pair 61 = .ok (.iload 6, 2) := by decide +kernel
theorem dX7_pair_63 : decode cX7_pair 63 = .ok (.invokevirtual 60, 3) := by decide +kernel
theorem dX7_pair_66 : decode cX7_pair 66 = .ok (.aload_n 0, 1) := by decide +kernel
theorem dX7_pair_67 : decode cX7_pair 67 = .ok (.iload 7, 2) := by decide +kernel
theorem dX7_pair_69 : decode cX7_pair 69 = .ok (.invokevirtual 60, 3) := by decide +kernel
theorem dX7_pair_72 : decode cX7_pair 72 = .ok (.if_icmp .eq 26, 3) := by decide +kernel
theorem dX7_pair_75 : decode cX7_pair 75 = .ok (.aload_n 0, 1) := by decide +kernel
theorem dX7_pair_76 : decode cX7_pair 76 = .ok (.iload 6, 2) := by decide +kernel
theorem dX7_pair_78 : decode cX7_pair 78 = .ok (.invokevirtual 60, 3) := by decide +kernel
theorem dX7_pair_81 : decode cX7_pair 81 = .ok (.aload_n 0, 1) := by decide +kernel
theorem dX7_pair_82 : decode cX7_pair 82 = .ok (.iload 7, 2) := by decide +kernel
theorem dX7_pair_84 : decode cX7_pair 84 = .ok (.invokevirtual 60, 3) := by decide +kernel
theorem dX7_pair_87 : decode cX7_pair 87 = .ok (.if_icmp .ge 7, 3) := by decide +kernel
theorem dX7_pair_90 : decode cX7_pair 90 = .ok (.iconst 1, 1) := by decide +kernel
theorem dX7_pair_91 : decode cX7_pair 91 = .ok (.goto 30, 3) := by decide +kernel
theorem dX7_pair_94 : decode cX7_pair 94 = .ok (.iconst 0, 1) := by decide +kernel
theorem dX7_pair_95 : decode cX7_pair 95 = .ok (.goto 26, 3) := by decide +kernel
theorem dX7_pair_98 : decode cX7_pair 98 = .ok (.aload_n 0, 1) := by decide +kernel
theorem dX7_pair_99 : decode cX7_pair 99 = .ok (.iload 7, 2) := by decide +kernel
theorem dX7_pair_101 : decode cX7_pair 101 = .ok (.invokevirtual 98, 3) := by decide +kernel
theorem dX7_pair_104 : decode cX7_pair 104 = .ok (.ifCond .eq 12, 3) := by decide +kernel
theorem dX7_pair_107 : decode cX7_pair 107 = .ok (.aload_n 0, 1) := by decide +kernel
theorem dX7_pair_108 : decode cX7_pair 108 = .ok (.iload 6, 2) := by decide +kernel
theorem dX7_pair_110 : decode cX7_pair 110 = .ok (.invokevirtual 98, 3) := by decide +kernel
theorem dX7_pair_113 : decode cX7_pair 113 = .ok (.ifCond .eq 7, 3) := by decide +kernel
theorem dX7_pair_116 : decode cX7_pair 116 = .ok (.iconst 1, 1) := by decide +kernel
theorem dX7_pair_117 : decode cX7_pair 117 = .ok (.goto 4, 3) := by decide +kernel
theorem dX7_pair_120 : decode cX7_pair 120 = .ok (.iconst 0, 1) := by decide +kernel
theorem dX7_pair_121 : decode cX7_pair 121 = .ok (.istore 8, 2) := by decide +kernel
theorem dX7_pair_123 : decode cX7_pair 123 = .ok (.aload_n 0, 1) := by decide +kernel
theorem dX7_pair_124 : decode cX7_pair 124 = .ok (.iload 6, 2) := by decide +kernel
theorem dX7_pair_126 : decode cX7_pair 126 = .ok (.invokevirtual 57, 3) := by decide +kernel
theorem dX7_pair_129 : decode cX7_pair 129 = .ok (.aload_n 0, 1) := by decide +kernel
theorem dX7_pair_130 : decode cX7_pair 130 = .ok (.iload 7, 2) := by decide +kernel
theorem dX7_pair_132 : decode cX7_pair 132 = .ok (.invokevirtual 57, 3) := by decide +kernel
theorem dX7_pair_135 : decode cX7_pair 135 = .ok (.if_icmp .le 8, 3) := by decide +kernel
theorem dX7_pair_138 : decode cX7_pair 138 = .ok (.iload 6, 2) := by decide +kernel
theorem dX7_pair_140 : decode cX7_pair 140 = .ok (.goto 24, 3) := by decide +kernel
theorem dX7_pair_143 : decode cX7_pair 143 = .ok (.aload_n 0, 1) := by decide +kernel
theorem dX7_pair_144 : decode cX7_pair 144 = .ok (.iload 6, 2) := by decide +kernel
theorem dX7_pair_146 : decode cX7_pair 146 = .ok (.invokevirtual 57, 3) := by decide +kernel
theorem dX7_pair_149 : decode cX7_pair 149 = .ok (.aload_n 0, 1) := by decide +kernel
theorem dX7_pair_150 : decode cX7_pair 150 = .ok (.iload 7, 2) := by decide +kernel
theorem dX7_pair_152 : decode cX7_pair 152 = .ok (.invokevirtual 57, 3) := by decide +kernel
theorem dX7_pair_155 : decode cX7_pair 155 = .ok (.if_icmp .ge 8, 3) := by decide +kernel
theorem dX7_pair_158 : decode cX7_pair 158 = .ok (.iload 7, 2) := by decide +kernel
theorem dX7_pair_160 : decode cX7_pair 160 = .ok (.goto 4, 3) := by decide +kernel
theorem dX7_pair_163 : decode cX7_pair 163 = .ok (.iconst (-1), 1) := by decide +kernel
theorem dX7_pair_164 : decode cX7_pair 164 = .ok (.istore 9, 2) := by decide +kernel
theorem dX7_pair_166 : decode cX7_pair 166 = .ok (.aload 4, 2) := by decide +kernel
theorem dX7_pair_168 : decode cX7_pair 168 = .ok (.iconst 5, 1) := by decide +kernel
theorem dX7_pair_169 : decode cX7_pair 169 = .ok (.newarray .int, 2) := by decide +kernel
theorem dX7_pair_171 : decode cX7_pair 171 = .ok (.dup, 1) := by decide +kernel
theorem dX7_pair_172 : decode cX7_pair 172 = .ok (.iconst 0, 1) := by decide +kernel
theorem dX7_pair_173 : decode cX7_pair 173 = .ok (.aload_n 0, 1) := by decide +kernel
theorem dX7_pair_174 : decode cX7_pair 174 = .ok (.getfield 42, 3) := by decide +kernel
theorem dX7_pair_177 : decode cX7_pair 177 = .ok (.iastore, 1) := by decide +kernel
theorem dX7_pair_178 : decode cX7_pair 178 = .ok (.dup, 1) := by decide +kernel
theorem dX7_pair_179 : decode cX7_pair 179 = .ok (.iconst 1, 1) := by decide +kernel
theorem dX7_pair_180 : decode cX7_pair 180 = .ok (.iload 8, 2) := by decide +kernel
theorem dX7_pair_182 : decode cX7_pair 182 = .ok (.ifCond .eq 8, 3) := by decide +kernel
theorem dX7_pair_185 : decode cX7_pair 185 = .ok (.iload 6, 2) := by decide +kernel
theorem dX7_pair_187 : decode cX7_pair 187 = .ok (.goto 5, 3) := by decide +kernel
theorem dX7_pair_190 : decode cX7_pair 190 = .ok (.iload 7, 2) := by decide +kernel
theorem dX7_pair_192 : decode cX7_pair 192 = .ok (.iastore, 1) := by decide +kernel
theorem dX7_pair_193 : decode cX7_pair 193 = .ok (.dup, 1) := by decide +kernel
theorem dX7_pair_194 : decode cX7_pair 194 = .ok (.iconst 2, 1) := by decide +kernel
theorem dX7_pair_195 : decode cX7_pair 195 = .ok (.iload 8, 2) := by decide +kernel
theorem dX7_pair_197 : decode cX7_pair 197 = .ok (.ifCond .eq 8, 3) := by decide +kernel
theorem dX7_pair_200 : decode cX7_pair 200 = .ok (.iload 7, 2) := by decide +kernel
theorem dX7_pair_202 : decode cX7_pair 202 = .ok (.goto 5, 3) := by decide +kernel
theorem dX7_pair_205 : decode cX7_pair 205 = .ok (.iload 6, 2) := by decide +kernel
theorem dX7_pair_207 : decode cX7_pair 207 = .ok (.iastore, 1) := by decide +kernel
theorem dX7_pair_208 : decode cX7_pair 208 = .ok (.dup, 1) := by decide +kernel
theorem dX7_pair_209 : decode cX7_pair 209 = .ok (.iconst 3, 1) := by decide +kernel
theorem dX7_pair_210 : decode cX7_pair 210 = .ok (.iconst (-1), 1) := by decide +kernel
theorem dX7_pair_211 : decode cX7_pair 211 = .ok (.iastore, 1) := by decide +kernel
theorem dX7_pair_212 : decode cX7_pair 212 = .ok (.dup, 1) := by decide +kernel
theorem dX7_pair_213 : decode cX7_pair 213 = .ok (.iconst 4, 1) := by decide +kernel
theorem dX7_pair_214 : decode cX7_pair 214 = .ok (.iload 9, 2) := by decide +kernel
theorem dX7_pair_216 : decode cX7_pair 216 = .ok (.iastore, 1) := by decide +kernel
theorem dX7_pair_217 : decode cX7_pair 217 = .ok (.invokestatic 45, 3) := by decide +kernel
theorem dX7_pair_220 : decode cX7_pair 220 = .ok (.astore 4, 2) := by decide +kernel
theorem dX7_pair_222 : decode cX7_pair 222 = .ok (.iinc 5 1, 3) := by decide +kernel
theorem dX7_pair_225 : decode cX7_pair 225 = .ok (.goto (-197), 3) := by decide +kernel
theorem dX7_pair_228 : decode cX7_pair 228 = .ok (.aload 4, 2) := by decide +kernel
theorem dX7_pair_230 : decode cX7_pair 230 = .ok (.astore 5, 2) := by decide +kernel
theorem dX7_pair_232 : decode cX7_pair 232 = .ok (.aload 5, 2) := by decide +kernel
theorem dX7_pair_234 : decode cX7_pair 234 = .ok (.arraylength, 1) := by decide +kernel
theorem dX7_pair_235 : decode cX7_pair 235 = .ok (.istore 6, 2) := by decide +kernel
theorem dX7_pair_237 : decode cX7_pair 237 = .ok (.iconst 0, 1) := by decide +kernel
theorem dX7_pair_238 : decode cX7_pair 238 = .ok (.istore 7, 2) := by decide +kernel
theorem dX7_pair_240 : decode cX7_pair 240 = .ok (.iload 7, 2) := by decide +kernel
theorem dX7_pair_242 : decode cX7_pair 242 = .ok (.iload 6, 2) := by decide +kernel
theorem dX7_pair_244 : decode cX7_pair 244 = .ok (.if_icmp .ge 29, 3) := by decide +kernel
theorem dX7_pair_247 : decode cX7_pair 247 = .ok (.aload 5, 2) := by decide +kernel
theorem dX7_pair_249 : decode cX7_pair 249 = .ok (.iload 7, 2) := by decide +kernel
theorem dX7_pair_251 : decode cX7_pair 251 = .ok (.aaload, 1) := by decide +kernel
theorem dX7_pair_252 : decode cX7_pair 252 = .ok (.astore 8, 2) := by decide +kernel
theorem dX7_pair_254 : decode cX7_pair 254 = .ok (.aload_n 0, 1) := by decide +kernel
theorem dX7_pair_255 : decode cX7_pair 255 = .ok (.aload_n 0, 1) := by decide +kernel
theorem dX7_pair_256 : decode cX7_pair 256 = .ok (.getfield 30, 3) := by decide +kernel
theorem dX7_pair_259 : decode cX7_pair 259 = .ok (.aload 8, 2) := by decide +kernel
theorem dX7_pair_261 : decode cX7_pair 261 = .ok (.invokestatic 45, 3) := by decide +kernel
theorem dX7_pair_264 : decode cX7_pair 264 = .ok (.putfield 30, 3) := by decide +kernel
theorem dX7_pair_267 : decode cX7_pair 267 = .ok (.iinc 7 1, 3) := by decide +kernel
theorem dX7_pair_270 : decode cX7_pair 270 = .ok (.goto (-30), 3) := by decide +kernel
theorem dX7_pair_273 : decode cX7_pair 273 = .ok (.aload_n 0, 1) := by decide +kernel
theorem dX7_pair_274 : decode cX7_pair 274 = .ok (.aload_n 0, 1) := by decide +kernel
theorem dX7_pair_275 : decode cX7_pair 275 = .ok (.getfield 34, 3) := by decide +kernel
theorem dX7_pair_278 : decode cX7_pair 278 = .ok (.aload_n 1, 1) := by decide +kernel
theorem dX7_pair_279 : decode cX7_pair 279 = .ok (.arraylength, 1) := by decide +kernel
theorem dX7_pair_280 : decode cX7_pair 280 = .ok (.iload_n 3, 1) := by decide +kernel
theorem dX7_pair_281 : decode cX7_pair 281 = .ok (.if_icmp .le 9, 3) := by decide +kernel
theorem dX7_pair_284 : decode cX7_pair 284 = .ok (.aload_n 1, 1) := by decide +kernel
theorem dX7_pair_285 : decode cX7_pair 285 = .ok (.iload_n 3, 1) := by decide +kernel
theorem dX7_pair_286 : decode cX7_pair 286 = .ok (.iaload, 1) := by decide +kernel
theorem dX7_pair_287 : decode cX7_pair 287 = .ok (.goto 4, 3) := by decide +kernel
theorem dX7_pair_290 : decode cX7_pair 290 = .ok (.iconst (-1), 1) := by decide +kernel
theorem dX7_pair_291 : decode cX7_pair 291 = .ok (.invokestatic 80, 3) := by decide +kernel
theorem dX7_pair_294 : decode cX7_pair 294 = .ok (.putfield 34, 3) := by decide +kernel
theorem dX7_pair_297 : decode cX7_pair 297 = .ok (.aload_n 0, 1) := by decide +kernel
theorem dX7_pair_298 : decode cX7_pair 298 = .ok (.dup, 1) := by decide +kernel
theorem dX7_pair_299 : decode cX7_pair 299 = .ok (.getfield 42, 3) := by decide +kernel
theorem dX7_pair_302 : decode cX7_pair 302 = .ok (.iconst 1, 1) := by decide +kernel
theorem dX7_pair_303 : decode cX7_pair 303 = .ok (.iadd, 1) := by decide +kernel
theorem dX7_pair_304 : decode cX7_pair 304 = .ok (.putfield 42, 3) := by decide +kernel
theorem dX7_pair_307 : decode cX7_pair 307 = .ok (.return_, 1) := by decide +kernel
theorem dX7_latest_0 : decode cX7_latest 0 = .ok (.iconst 0, 1) := by decide +kernel
theorem dX7_latest_1 : decode cX7_latest 1 = .ok (.anewarray 29, 3) := by decide +kernel
theorem dX7_latest_4 : decode cX7_latest 4 = .ok (.astore_n 1, 1) := by decide +kernel
theorem dX7_latest_5 : decode cX7_latest 5 = .ok (.aload_n 0, 1) := by decide +kernel
theorem dX7_latest_6 : decode cX7_latest 6 = .ok (.getfield 30, 3) := by decide +kernel
theorem dX7_latest_9 : decode cX7_latest 9 = .ok (.astore_n 2, 1) := by decide +kernel
theorem dX7_latest_10 : decode cX7_latest 10 = .ok (.aload_n 2, 1) := by decide +kernel
theorem dX7_latest_11 : decode cX7_latest 11 = .ok (.arraylength, 1) := by decide +kernel
theorem dX7_latest_12 : decode cX7_latest 12 = .ok (.istore_n 3, 1) := by decide +kernel
theorem dX7_latest_13 : decode cX7_latest 13 = .ok (.iconst 0, 1) := by decide +kernel
theorem dX7_latest_14 : decode cX7_latest 14 = .ok (.istore 4, 2) := by decide +kernel
theorem dX7_latest_16 : decode cX7_latest 16 = .ok (.iload 4, 2) := by decide +kernel
theorem dX7_latest_18 : decode cX7_latest 18 = .ok (.iload_n 3, 1) := by decide +kernel
theorem dX7_latest_19 : decode cX7_latest 19 = .ok (.if_icmp .ge 35, 3) := by decide +kernel
theorem dX7_latest_22 : decode cX7_latest 22 = .ok (.aload_n 2, 1) := by decide +kernel
theorem dX7_latest_23 : decode cX7_latest 23 = .ok (.iload 4, 2) := by decide +kernel
theorem dX7_latest_25 : decode cX7_latest 25 = .ok (.aaload, 1) := by decide +kernel
theorem dX7_latest_26 : decode cX7_latest 26 = .ok (.astore 5, 2) := by decide +kernel
theorem dX7_latest_28 : decode cX7_latest 28 = .ok (.aload 5, 2) := by decide +kernel
theorem dX7_latest_30 : decode cX7_latest 30 = .ok (.iconst 0, 1) := by decide +kernel
theorem dX7_latest_31 : decode cX7_latest 31 = .ok (.iaload, 1) := by decide +kernel
theorem dX7_latest_32 : decode cX7_latest 32 = .ok (.aload_n 0, 1) := by decide +kernel
theorem dX7_latest_33 : decode cX7_latest 33 = .ok (.getfield 42, 3) := by decide +kernel
theorem dX7_latest_36 : decode cX7_latest 36 = .ok (.iconst 1, 1) := by decide +kernel
theorem dX7_latest_37 : decode cX7_latest 37 = .ok (.isub, 1) := by decide +kernel
theorem dX7_latest_38 : decode cX7_latest 38 = .ok (.if_icmp .ne 10, 3) := by decide +kernel
theorem dX7_latest_41 : decode cX7_latest 41 = .ok (.aload_n 1, 1) := by decide +kernel
theorem dX7_latest_42 : decode cX7_latest 42 = .ok (.aload 5, 2) := by decide +kernel
theorem dX7_latest_44 : decode cX7_latest 44 = .ok (.invokestatic 45, 3) := by decide +kernel
theorem dX7_latest_47 : decode cX7_latest 47 = .ok (.astore_n 1, 1) := by decide +kernel
theorem dX7_latest_48 : decode cX7_latest 48 = .ok (.iinc 4 1, 3) := by decide +kernel
theorem dX7_latest_51 : decode cX7_latest 51 = .ok (.goto (-35), 3) := by decide +kernel
theorem dX7_latest_54 : decode cX7_latest 54 = .ok (.aload_n 1, 1) := by decide +kernel
theorem dX7_latest_55 : decode cX7_latest 55 = .ok (.areturn, 1) := by decide +kernel
theorem dX7_ruled_0 : decode cX7_ruled 0 = .ok (.iconst 0, 1) := by decide +kernel
theorem dX7_ruled_1 : decode cX7_ruled 1 = .ok (.istore_n 2, 1) := by decide +kernel
theorem dX7_ruled_2 : decode cX7_ruled 2 = .ok (.iload_n 2, 1) := by decide +kernel
theorem dX7_ruled_3 : decode cX7_ruled 3 = .ok (.aload_n 0, 1) := by decide +kernel
theorem dX7_ruled_4 : decode cX7_ruled 4 = .ok (.getfield 16, 3) := by decide +kernel
theorem dX7_ruled_7 : decode cX7_ruled 7 = .ok (.arraylength, 1) := by decide +kernel
theorem dX7_ruled_8 : decode cX7_ruled 8 = .ok (.if_icmp .ge 40, 3) := by decide +kernel
theorem dX7_ruled_11 : decode cX7_ruled 11 = .ok (.aload_n 0, 1) := by decide +kernel
theorem dX7_ruled_12 : decode cX7_ruled 12 = .ok (.getfield 21, 3) := by decide +kernel
theorem dX7_ruled_15 : decode cX7_ruled 15 = .ok (.iload_n 2, 1) := by decide +kernel
theorem dX7_ruled_16 : decode cX7_ruled 16 = .ok (.aaload, 1) := by decide +kernel
theorem dX7_ruled_17 : decode cX7_ruled 17 = .ok (.ifnull 18, 3) := by decide +kernel
theorem dX7_ruled_20 : decode cX7_ruled 20 = .ok (.aload_n 0, 1) := by decide +kernel
theorem dX7_ruled_21 : decode cX7_ruled 21 = .ok (.getfield 21, 3) := by decide +kernel
theorem dX7_ruled_24 : decode cX7_ruled 24 = .ok (.iload_n 2, 1) := by decide +kernel
theorem dX7_ruled_25 : decode cX7_ruled 25 = .ok (.aaload, 1) := by decide +kernel
theorem dX7_ruled_26 : decode cX7_ruled 26 = .ok (.aload_n 0, 1) := by decide +kernel
theorem dX7_ruled_27 : decode cX7_ruled 27 = .ok (.aload_n 1, 1) := by decide +kernel
theorem dX7_ruled_28 : decode cX7_ruled 28 = .ok (.invokevirtual 102, 3) := by decide +kernel
theorem dX7_ruled_31 : decode cX7_ruled 31 = .ok (.iconst 1, 1) := by decide +kernel
theorem dX7_ruled_32 : decode cX7_ruled 32 = .ok (.if_icmp .ne 10, 3) := by decide +kernel
theorem dX7_ruled_35 : decode cX7_ruled 35 = .ok (.aload_n 0, 1) := by decide +kernel
theorem dX7_ruled_36 : decode cX7_ruled 36 = .ok (.getfield 16, 3) := by decide +kernel
theorem dX7_ruled_39 : decode cX7_ruled 39 = .ok (.iload_n 2, 1) := by decide +kernel
theorem dX7_ruled_40 : decode cX7_ruled 40 = .ok (.iaload, 1) := by decide +kernel
theorem dX7_ruled_41 : decode cX7_ruled 41 = .ok (.ireturn, 1) := by decide +kernel
theorem dX7_ruled_42 : decode cX7_ruled 42 = .ok (.iinc 2 1, 3) := by decide +kernel
theorem dX7_ruled_45 : decode cX7_ruled 45 = .ok (.goto (-43), 3) := by decide +kernel
theorem dX7_ruled_48 : decode cX7_ruled 48 = .ok (.iconst 1, 1) := by decide +kernel
theorem dX7_ruled_49 : decode cX7_ruled 49 = .ok (.ireturn, 1) := by decide +kernel
theorem dX7_tellAll_0 : decode cX7_tellAll 0 = .ok (.iconst 0, 1) := by decide +kernel
theorem dX7_tellAll_1 : decode cX7_tellAll 1 = .ok (.istore_n 1, 1) := by decide +kernel
theorem dX7_tellAll_2 : decode cX7_tellAll 2 = .ok (.aload_n 0, 1) := by decide +kernel
theorem dX7_tellAll_3 : decode cX7_tellAll 3 = .ok (.getfield 30, 3) := by decide +kernel
theorem dX7_tellAll_6 : decode cX7_tellAll 6 = .ok (.astore_n 2, 1) := by decide +kernel
theorem dX7_tellAll_7 : decode cX7_tellAll 7 = .ok (.aload_n 2, 1) := by decide +kernel
theorem dX7_tellAll_8 : decode cX7_tellAll 8 = .ok (.arraylength, 1) := by decide +kernel
theorem dX7_tellAll_9 : decode cX7_tellAll 9 = .ok (.istore_n 3, 1) := by decide +kernel
theorem dX7_tellAll_10 : decode cX7_tellAll 10 = .ok (.iconst 0, 1) := by decide +kernel
theorem dX7_tellAll_11 : decode cX7_tellAll 11 = .ok (.istore 4, 2) := by decide +kernel
theorem dX7_tellAll_13 : decode cX7_tellAll 13 = .ok (.iload 4, 2) := by decide +kernel
theorem dX7_tellAll_15 : decode cX7_tellAll 15 = .ok (.iload_n 3, 1) := by decide +kernel
theorem dX7_tellAll_16 : decode cX7_tellAll 16 = .ok (.if_icmp .ge 50, 3) := by decide +kernel
theorem dX7_tellAll_19 : decode cX7_tellAll 19 = .ok (.aload_n 2, 1) := by decide +kernel
theorem dX7_tellAll_20 : decode cX7_tellAll 20 = .ok (.iload 4, 2) := by decide +kernel
theorem dX7_tellAll_22 : decode cX7_tellAll 22 = .ok (.aaload, 1) := by decide +kernel
theorem dX7_tellAll_23 : decode cX7_tellAll 23 = .ok (.astore 5, 2) := by decide +kernel
theorem dX7_tellAll_25 : decode cX7_tellAll 25 = .ok (.aload 5, 2) := by decide +kernel
theorem dX7_tellAll_27 : decode cX7_tellAll 27 = .ok (.iconst 3, 1) := by decide +kernel
theorem dX7_tellAll_28 : decode cX7_tellAll 28 = .ok (.iaload, 1) := by decide +kernel
theorem dX7_tellAll_29 : decode cX7_tellAll 29 = .ok (.ifCond .lt 6, 3) := by decide +kernel
theorem dX7_tellAll_32 : decode cX7_tellAll 32 = .ok (.goto 28, 3) := by decide +kernel
theorem dX7_tellAll_35 : decode cX7_tellAll 35 = .ok (.aload 5, 2) := by decide +kernel
theorem dX7_tellAll_37 : decode cX7_tellAll 37 = .ok (.iconst 3, 1) := by decide +kernel
theorem dX7_tellAll_38 : decode cX7_tellAll 38 = .ok (.aload_n 0, 1) := by decide +kernel
theorem dX7_tellAll_39 : decode cX7_tellAll 39 = .ok (.aload 5, 2) := by decide +kernel
theorem dX7_tellAll_41 : decode cX7_tellAll 41 = .ok (.invokevirtual 106, 3) := by decide +kernel
theorem dX7_tellAll_44 : decode cX7_tellAll 44 = .ok (.iastore, 1) := by decide +kernel
theorem dX7_tellAll_45 : decode cX7_tellAll 45 = .ok (.iload_n 1, 1) := by decide +kernel
theorem dX7_tellAll_46 : decode cX7_tellAll 46 = .ok (.aload 5, 2) := by decide +kernel
theorem dX7_tellAll_48 : decode cX7_tellAll 48 = .ok (.iconst 3, 1) := by decide +kernel
theorem dX7_tellAll_49 : decode cX7_tellAll 49 = .ok (.iaload, 1) := by decide +kernel
theorem dX7_tellAll_50 : decode cX7_tellAll 50 = .ok (.ifCond .ne 7, 3) := by decide +kernel
theorem dX7_tellAll_53 : decode cX7_tellAll 53 = .ok (.iconst 1, 1) := by decide +kernel
theorem dX7_tellAll_54 : decode cX7_tellAll 54 = .ok (.goto 4, 3) := by decide +kernel
theorem dX7_tellAll_57 : decode cX7_tellAll 57 = .ok (.iconst 0, 1) := by decide +kernel
theorem dX7_tellAll_58 : decode cX7_tellAll 58 = .ok (.iadd, 1) := by decide +kernel
theorem dX7_tellAll_59 : decode cX7_tellAll 59 = .ok (.istore_n 1, 1) := by decide +kernel
theorem dX7_tellAll_60 : decode cX7_tellAll 60 = .ok (.iinc 4 1, 3) := by decide +kernel
theorem dX7_tellAll_63 : decode cX7_tellAll 63 = .ok (.goto (-50), 3) := by decide +kernel
theorem dX7_tellAll_66 : decode cX7_tellAll 66 = .ok (.iload_n 1, 1) := by decide +kernel
theorem dX7_tellAll_67 : decode cX7_tellAll 67 = .ok (.ireturn, 1) := by decide +kernel
theorem dX7_isSame_0 : decode cX7_isSame 0 = .ok (.aload_n 0, 1) := by decide +kernel
theorem dX7_isSame_1 : decode cX7_isSame 1 = .ok (.invokevirtual 124, 3) := by decide +kernel
theorem dX7_isSame_4 : decode cX7_isSame 4 = .ok (.astore_n 2, 1) := by decide +kernel
theorem dX7_isSame_5 : decode cX7_isSame 5 = .ok (.aload_n 1, 1) := by decide +kernel
theorem dX7_isSame_6 : decode cX7_isSame 6 = .ok (.invokevirtual 128, 3) := by decide +kernel
theorem dX7_isSame_9 : decode cX7_isSame 9 = .ok (.aload_n 0, 1) := by decide +kernel
theorem dX7_isSame_10 : decode cX7_isSame 10 = .ok (.getfield 38, 3) := by decide +kernel
theorem dX7_isSame_13 : decode cX7_isSame 13 = .ok (.if_icmp .ne 57, 3) := by decide +kernel
theorem dX7_isSame_16 : decode cX7_isSame 16 = .ok (.aload_n 1, 1) := by decide +kernel
theorem dX7_isSame_17 : decode cX7_isSame 17 = .ok (.invokevirtual 132, 3) := by decide +kernel
theorem dX7_isSame_20 : decode cX7_isSame 20 = .ok (.aload_n 0, 1) := by decide +kernel
theorem dX7_isSame_21 : decode cX7_isSame 21 = .ok (.invokevirtual 73, 3) := by decide +kernel
theorem dX7_isSame_24 : decode cX7_isSame 24 = .ok (.if_icmp .ne 46, 3) := by decide +kernel
theorem dX7_isSame_27 : decode cX7_isSame 27 = .ok (.aload_n 1, 1) := by decide +kernel
theorem dX7_isSame_28 : decode cX7_isSame 28 = .ok (.invokevirtual 135, 3) := by decide +kernel
theorem dX7_isSame_31 : decode cX7_isSame 31 = .ok (.aload_n 0, 1) := by decide +kernel
theorem dX7_isSame_32 : decode cX7_isSame 32 = .ok (.getfield 16, 3) := by decide +kernel
theorem dX7_isSame_35 : decode cX7_isSame 35 = .ok (.arraylength, 1) := by decide +kernel
theorem dX7_isSame_36 : decode cX7_isSame 36 = .ok (.if_icmp .ne 34, 3) := by decide +kernel
theorem dX7_isSame_39 : decode cX7_isSame 39 = .ok (.aload_n 1, 1) := by decide +kernel
theorem dX7_isSame_40 : decode cX7_isSame 40 = .ok (.invokevirtual 138, 3) := by decide +kernel
theorem dX7_isSame_43 : decode cX7_isSame 43 = .ok (.aload_n 0, 1) := by decide +kernel
theorem dX7_isSame_44 : decode cX7_isSame 44 = .ok (.getfield 42, 3) := by decide +kernel
theorem dX7_isSame_47 : decode cX7_isSame 47 = .ok (.if_icmp .ne 23, 3) := by decide +kernel
theorem dX7_isSame_50 : decode cX7_isSame 50 = .ok (.aload_n 1, 1) := by decide +kernel
theorem dX7_isSame_51 : decode cX7_isSame 51 = .ok (.invokevirtual 140, 3) := by decide +kernel
theorem dX7_isSame_54 : decode cX7_isSame 54 = .ok (.aload_n 2, 1) := by decide +kernel
theorem dX7_isSame_55 : decode cX7_isSame 55 = .ok (.arraylength, 1) := by decide +kernel
theorem dX7_isSame_56 : decode cX7_isSame 56 = .ok (.if_icmp .ne 14, 3) := by decide +kernel
theorem dX7_isSame_59 : decode cX7_isSame 59 = .ok (.aload_n 1, 1) := by decide +kernel
theorem dX7_isSame_60 : decode cX7_isSame 60 = .ok (.invokevirtual 143, 3) := by decide +kernel
theorem dX7_isSame_63 : decode cX7_isSame 63 = .ok (.aload_n 0, 1) := by decide +kernel
theorem dX7_isSame_64 : decode cX7_isSame 64 = .ok (.invokevirtual 69, 3) := by decide +kernel
theorem dX7_isSame_67 : decode cX7_isSame 67 = .ok (.if_icmp .eq 5, 3) := by decide +kernel
theorem dX7_isSame_70 : decode cX7_isSame 70 = .ok (.iconst 0, 1) := by decide +kernel
theorem dX7_isSame_71 : decode cX7_isSame 71 = .ok (.ireturn, 1) := by decide +kernel
theorem dX7_isSame_72 : decode cX7_isSame 72 = .ok (.aload_n 0, 1) := by decide +kernel
theorem dX7_isSame_73 : decode cX7_isSame 73 = .ok (.invokevirtual 76, 3) := by decide +kernel
theorem dX7_isSame_76 : decode cX7_isSame 76 = .ok (.astore_n 3, 1) := by decide +kernel
theorem dX7_isSame_77 : decode cX7_isSame 77 = .ok (.iconst 0, 1) := by decide +kernel
theorem dX7_isSame_78 : decode cX7_isSame 78 = .ok (.istore 4, 2) := by decide +kernel
theorem dX7_isSame_80 : decode cX7_isSame 80 = .ok (.iconst 0, 1) := by decide +kernel
theorem dX7_isSame_81 : decode cX7_isSame 81 = .ok (.istore 5, 2) := by decide +kernel
theorem dX7_isSame_83 : decode cX7_isSame 83 = .ok (.iload 5, 2) := by decide +kernel
theorem dX7_isSame_85 : decode cX7_isSame 85 = .ok (.aload_n 0, 1) := by decide +kernel
theorem dX7_isSame_86 : decode cX7_isSame 86 = .ok (.getfield 38, 3) := by decide +kernel
theorem dX7_isSame_89 : decode cX7_isSame 89 = .ok (.if_icmp .ge 246, 3) := by decide +kernel
theorem dX7_isSame_92 : decode cX7_isSame 92 = .ok (.aload_n 3, 1) := by decide +kernel
theorem dX7_isSame_93 : decode cX7_isSame 93 = .ok (.iload 5, 2) := by decide +kernel
theorem dX7_isSame_95 : decode cX7_isSame 95 = .ok (.iaload, 1) := by decide +kernel
theorem dX7_isSame_96 : decode cX7_isSame 96 = .ok (.istore 6, 2) := by decide +kernel
theorem dX7_isSame_98 : decode cX7_isSame 98 = .ok (.aload_n 0, 1) := by decide +kernel
theorem dX7_isSame_99 : decode cX7_isSame 99 = .ok (.iload 6, 2) := by decide +kernel
theorem dX7_isSame_101 : decode cX7_isSame 101 = .ok (.invokevirtual 57, 3) := by decide +kernel
theorem dX7_isSame_104 : decode cX7_isSame 104 = .ok (.istore 7, 2) := by decide +kernel
theorem dX7_isSame_106 : decode cX7_isSame 106 = .ok (.iload 4, 2) := by decide +kernel
theorem dX7_isSame_108 : decode cX7_isSame 108 = .ok (.iload 7, 2) := by decide +kernel
theorem dX7_isSame_110 : decode cX7_isSame 110 = .ok (.iadd, 1) := by decide +kernel
theorem dX7_isSame_111 : decode cX7_isSame 111 = .ok (.istore 4, 2) := by decide +kernel
theorem dX7_isSame_113 : decode cX7_isSame 113 = .ok (.aload_n 1, 1) := by decide +kernel
theorem dX7_isSame_114 : decode cX7_isSame 114 = .ok (.iload 5, 2) := by decide +kernel
theorem dX7_isSame_116 : decode cX7_isSame 116 = .ok (.invokevirtual 146, 3) := by decide +kernel
theorem dX7_isSame_119 : decode cX7_isSame 119 = .ok (.iload 6, 2) := by decide +kernel
theorem dX7_isSame_121 : decode cX7_isSame 121 = .ok (.if_icmp .ne 165, 3) := by decide +kernel
theorem dX7_isSame_124 : decode cX7_isSame 124 = .ok (.aload_n 1, 1) := by decide +kernel
theorem dX7_isSame_125 : decode cX7_isSame 125 = .ok (.iload 6, 2) := by decide +kernel
theorem dX7_isSame_127 : decode cX7_isSame 127 = .ok (.invokevirtual 149, 3) := by decide +kernel
theorem dX7_isSame_130 : decode cX7_isSame 130 = .ok (.iload 5, 2) := by decide +kernel
theorem dX7_isSame_132 : decode cX7_isSame 132 = .ok (.if_icmp .ne 154, 3) := by decide +kernel
theorem dX7_isSame_135 : decode cX7_isSame 135 = .ok (.aload_n 1, 1) := by decide +kernel
theorem dX7_isSame_136 : decode cX7_isSame 136 = .ok (.iload 6, 2) := by decide +kernel
theorem dX7_isSame_138 : decode cX7_isSame 138 = .ok (.invokevirtual 152, 3) := by decide +kernel
theorem dX7_isSame_141 : decode cX7_isSame 141 = .ok (.aload_n 0, 1) := by decide +kernel
theorem dX7_isSame_142 : decode cX7_isSame 142 = .ok (.getfield 7, 3) := by decide +kernel
theorem dX7_isSame_145 : decode cX7_isSame 145 = .ok (.iload 6, 2) := by decide +kernel
theorem dX7_isSame_147 : decode cX7_isSame 147 = .ok (.iaload, 1) := by decide +kernel
theorem dX7_isSame_148 : decode cX7_isSame 148 = .ok (.if_icmp .ne 138, 3) := by decide +kernel
theorem dX7_isSame_151 : decode cX7_isSame 151 = .ok (.aload_n 1, 1) := by decide +kernel
theorem dX7_isSame_152 : decode cX7_isSame 152 = .ok (.iload 6, 2) := by decide +kernel
theorem dX7_isSame_154 : decode cX7_isSame 154 = .ok (.invokevirtual 155, 3) := by decide +kernel
theorem dX7_isSame_157 : decode cX7_isSame 157 = .ok (.iload 7, 2) := by decide +kernel
theorem dX7_isSame_159 : decode cX7_isSame 159 = .ok (.if_icmp .ne 127, 3) := by decide +kernel
theorem dX7_isSame_162 : decode cX7_isSame 162 = .ok (.aload_n 1, 1) := by decide +kernel
theorem dX7_isSame_163 : decode cX7_isSame 163 = .ok (.iload 6, 2) := by decide +kernel
theorem dX7_isSame_165 : decode cX7_isSame 165 = .ok (.invokevirtual 158, 3) := by decide +kernel
theorem dX7_isSame_168 : decode cX7_isSame 168 = .ok (.aload_n 0, 1) := by decide +kernel
theorem dX7_isSame_169 : decode cX7_isSame 169 = .ok (.iload 6, 2) := by decide +kernel
theorem dX7_isSame_171 : decode cX7_isSame 171 = .ok (.iconst 0, 1) := by decide +kernel
theorem dX7_isSame_172 : decode cX7_isSame 172 = .ok (.invokevirtual 49, 3) := by decide +kernel
theorem dX7_isSame_175 : decode cX7_isSame 175 = .ok (.if_icmp .ne 111, 3) := by decide +kernel
theorem dX7_isSame_178 : decode cX7_isSame 178 = .ok (.aload_n 1, 1) := by decide +kernel
theorem dX7_isSame_179 : decode cX7_isSame 179 = .ok (.iload 6, 2) := by decide +kernel
theorem dX7_isSame_181 : decode cX7_isSame 181 = .ok (.invokevirtual 161, 3) := by decide +kernel
theorem dX7_isSame_184 : decode cX7_isSame 184 = .ok (.aload_n 0, 1) := by decide +kernel
theorem dX7_isSame_185 : decode cX7_isSame 185 = .ok (.iload 6, 2) := by decide +kernel
theorem dX7_isSame_187 : decode cX7_isSame 187 = .ok (.iconst 1, 1) := by decide +kernel
theorem dX7_isSame_188 : decode cX7_isSame 188 = .ok (.invokevirtual 49, 3) := by decide +kernel
theorem dX7_isSame_191 : decode cX7_isSame 191 = .ok (.if_icmp .ne 95, 3) := by decide +kernel
theorem dX7_isSame_194 : decode cX7_isSame 194 = .ok (.aload_n 1, 1) := by decide +kernel
theorem dX7_isSame_195 : decode cX7_isSame 195 = .ok (.iload 6, 2) := by decide +kernel
theorem dX7_isSame_197 : decode cX7_isSame 197 = .ok (.invokevirtual 164, 3) := by decide +kernel
theorem dX7_isSame_200 : decode cX7_isSame 200 = .ok (.aload_n 0, 1) := by decide +kernel
theorem dX7_isSame_201 : decode cX7_isSame 201 = .ok (.iload 6, 2) := by decide +kernel
theorem dX7_isSame_203 : decode cX7_isSame 203 = .ok (.iconst 2, 1) := by decide +kernel
theorem dX7_isSame_204 : decode cX7_isSame 204 = .ok (.invokevirtual 49, 3) := by decide +kernel
theorem dX7_isSame_207 : decode cX7_isSame 207 = .ok (.if_icmp .ne 79, 3) := by decide +kernel
theorem dX7_isSame_210 : decode cX7_isSame 210 = .ok (.aload_n 1, 1) := by decide +kernel
theorem dX7_isSame_211 : decode cX7_isSame 211 = .ok (.iload 6, 2) := by decide +kernel
theorem dX7_isSame_213 : decode cX7_isSame 213 = .ok (.invokevirtual 167, 3) := by decide +kernel
theorem dX7_isSame_216 : decode cX7_isSame 216 = .ok (.aload_n 0, 1) := by decide +kernel
theorem dX7_isSame_217 : decode cX7_isSame 217 = .ok (.iload 6, 2) := by decide +kernel
theorem dX7_isSame_219 : decode cX7_isSame 219 = .ok (.invokevirtual 53, 3) := by decide +kernel
theorem dX7_isSame_222 : decode cX7_isSame 222 = .ok (.if_icmp .ne 64, 3) := by decide +kernel
theorem dX7_isSame_225 : decode cX7_isSame 225 = .ok (.aload_n 1, 1) := by decide +kernel
theorem dX7_isSame_226 : decode cX7_isSame 226 = .ok (.iload 6, 2) := by decide +kernel
theorem dX7_isSame_228 : decode cX7_isSame 228 = .ok (.invokevirtual 170, 3) := by decide +kernel
theorem dX7_isSame_231 : decode cX7_isSame 231 = .ok (.aload_n 0, 1) := by decide +kernel
theorem dX7_isSame_232 : decode cX7_isSame 232 = .ok (.iload 6, 2) := by decide +kernel
theorem dX7_isSame_234 : decode cX7_isSame 234 = .ok (.invokevirtual 60, 3) := by decide +kernel
theorem dX7_isSame_237 : decode cX7_isSame 237 = .ok (.if_icmp .ne 49, 3) := by decide +kernel
theorem dX7_isSame_240 : decode cX7_isSame 240 = .ok (.aload_n 1, 1) := by decide +kernel
theorem dX7_isSame_241 : decode cX7_isSame 241 = .ok (.iload 6, 2) := by decide +kernel
theorem dX7_isSame_243 : decode cX7_isSame 243 = .ok (.invokevirtual 173, 3) := by decide +kernel
theorem dX7_isSame_246 : decode cX7_isSame 246 = .ok (.aload_n 0, 1) := by decide +kernel
theorem dX7_isSame_247 : decode cX7_isSame 247 = .ok (.iload 6, 2) := by decide +kernel
theorem dX7_isSame_249 : decode cX7_isSame 249 = .ok (.invokevirtual 63, 3) := by decide +kernel
theorem dX7_isSame_252 : decode cX7_isSame 252 = .ok (.if_icmp .ne 34, 3) := by decide +kernel
theorem dX7_isSame_255 : decode cX7_isSame 255 = .ok (.aload_n 1, 1) := by decide +kernel
theorem dX7_isSame_256 : decode cX7_isSame 256 = .ok (.iload 6, 2) := by decide +kernel
theorem dX7_isSame_258 : decode cX7_isSame 258 = .ok (.invokevirtual 176, 3) := by decide +kernel
theorem dX7_isSame_261 : decode cX7_isSame 261 = .ok (.aload_n 0, 1) := by decide +kernel
theorem dX7_isSame_262 : decode cX7_isSame 262 = .ok (.iload 6, 2) := by decide +kernel
theorem dX7_isSame_264 : decode cX7_isSame 264 = .ok (.invokevirtual 66, 3) := by decide +kernel
theorem dX7_isSame_267 : decode cX7_isSame 267 = .ok (.if_icmp .ne 19, 3) := by decide +kernel
theorem dX7_isSame_270 : decode cX7_isSame 270 = .ok (.aload_n 1, 1) := by decide +kernel
theorem dX7_isSame_271 : decode cX7_isSame 271 = .ok (.iload 6, 2) := by decide +kernel
theorem dX7_isSame_273 : decode cX7_isSame 273 = .ok (.invokevirtual 179, 3) := by decide +kernel
theorem dX7_isSame_276 : decode cX7_isSame 276 = .ok (.aload_n 0, 1) := by decide +kernel
theorem dX7_isSame_277 : decode cX7_isSame 277 = .ok (.getfield 25, 3) := by decide +kernel
theorem dX7_isSame_280 : decode cX7_isSame 280 = .ok (.iload 6, 2) := by decide +kernel
theorem dX7_isSame_282 : decode cX7_isSame 282 = .ok (.baload, 1) := by decide +kernel
theorem dX7_isSame_283 : decode cX7_isSame 283 = .ok (.if_icmp .ne 5, 3) := by decide +kernel
theorem dX7_isSame_286 : decode cX7_isSame 286 = .ok (.iconst 0, 1) := by decide +kernel
theorem dX7_isSame_287 : decode cX7_isSame 287 = .ok (.ireturn, 1) := by decide +kernel
theorem dX7_isSame_288 : decode cX7_isSame 288 = .ok (.iconst 0, 1) := by decide +kernel
theorem dX7_isSame_289 : decode cX7_isSame 289 = .ok (.istore 8, 2) := by decide +kernel
theorem dX7_isSame_291 : decode cX7_isSame 291 = .ok (.iload 8, 2) := by decide +kernel
theorem dX7_isSame_293 : decode cX7_isSame 293 = .ok (.aload_n 0, 1) := by decide +kernel
theorem dX7_isSame_294 : decode cX7_isSame 294 = .ok (.getfield 38, 3) := by decide +kernel
theorem dX7_isSame_297 : decode cX7_isSame 297 = .ok (.if_icmp .ge 32, 3) := by decide +kernel
theorem dX7_isSame_300 : decode cX7_isSame 300 = .ok (.aload_n 1, 1) := by decide +kernel
theorem dX7_isSame_301 : decode cX7_isSame 301 = .ok (.iload 6, 2) := by decide +kernel
theorem dX7_isSame_303 : decode cX7_isSame 303 = .ok (.iload 8, 2) := by decide +kernel
theorem dX7_isSame_305 : decode cX7_isSame 305 = .ok (.invokevirtual 182, 3) := by decide +kernel
theorem dX7_isSame_308 : decode cX7_isSame 308 = .ok (.aload_n 0, 1) := by decide +kernel
theorem dX7_isSame_309 : decode cX7_isSame 309 = .ok (.iload 6, 2) := by decide +kernel
theorem dX7_isSame_311 : decode cX7_isSame 311 = .ok (.iload 8, 2) := by decide +kernel
theorem dX7_isSame_313 : decode cX7_isSame 313 = .ok (.bipush 99, 2) := by decide +kernel
theorem dX7_isSame_315 : decode cX7_isSame 315 = .ok (.invokevirtual 83, 3) := by decide +kernel
theorem dX7_isSame_318 : decode cX7_isSame 318 = .ok (.if_icmp .eq 5, 3) := by decide +kernel
theorem dX7_isSame_321 : decode cX7_isSame 321 = .ok (.iconst 0, 1) := by decide +kernel
theorem dX7_isSame_322 : decode cX7_isSame 322 = .ok (.ireturn, 1) := by decide +kernel
theorem dX7_isSame_323 : decode cX7_isSame 323 = .ok (.iinc 8 1, 3) := by decide +kernel
theorem dX7_isSame_326 : decode cX7_isSame 326 = .ok (.goto (-35), 3) := by decide +kernel
theorem dX7_isSame_329 : decode cX7_isSame 329 = .ok (.iinc 5 1, 3) := by decide +kernel
theorem dX7_isSame_332 : decode cX7_isSame 332 = .ok (.goto (-249), 3) := by decide +kernel
theorem dX7_isSame_335 : decode cX7_isSame 335 = .ok (.iconst 0, 1) := by decide +kernel
theorem dX7_isSame_336 : decode cX7_isSame 336 = .ok (.istore 5, 2) := by decide +kernel
theorem dX7_isSame_338 : decode cX7_isSame 338 = .ok (.iload 5, 2) := by decide +kernel
theorem dX7_isSame_340 : decode cX7_isSame 340 = .ok (.aload_n 2, 1) := by decide +kernel
theorem dX7_isSame_341 : decode cX7_isSame 341 = .ok (.arraylength, 1) := by decide +kernel
theorem dX7_isSame_342 : decode cX7_isSame 342 = .ok (.if_icmp .ge 120, 3) := by decide +kernel
theorem dX7_isSame_345 : decode cX7_isSame 345 = .ok (.aload_n 1, 1) := by decide +kernel
theorem dX7_isSame_346 : decode cX7_isSame 346 = .ok (.iload 5, 2) := by decide +kernel
theorem dX7_isSame_348 : decode cX7_isSame 348 = .ok (.invokevirtual 185, 3) := by decide +kernel
theorem dX7_isSame_351 : decode cX7_isSame 351 = .ok (.aload_n 2, 1) := by decide +kernel
theorem dX7_isSame_352 : decode cX7_isSame 352 = .ok (.iload 5, 2) := by decide +kernel
theorem dX7_isSame_354 : decode cX7_isSame 354 = .ok (.aaload, 1) := by decide +kernel
theorem dX7_isSame_355 : decode cX7_isSame 355 = .ok (.iconst 1, 1) := by decide +kernel
theorem dX7_isSame_356 : decode cX7_isSame 356 = .ok (.iaload, 1) := by decide +kernel
theorem dX7_isSame_357 : decode cX7_isSame 357 = .ok (.if_icmp .ne 97, 3) := by decide +kernel
theorem dX7_isSame_360 : decode cX7_isSame 360 = .ok (.aload_n 1, 1) := by decide +kernel
theorem dX7_isSame_361 : decode cX7_isSame 361 = .ok (.iload 5, 2) := by decide +kernel
theorem dX7_isSame_363 : decode cX7_isSame 363 = .ok (.invokevirtual 188, 3) := by decide +kernel
theorem dX7_isSame_366 : decode cX7_isSame 366 = .ok (.aload_n 2, 1) := by decide +kernel
theorem dX7_isSame_367 : decode cX7_isSame 367 = .ok (.iload 5, 2) := by decide +kernel
theorem dX7_isSame_369 : decode cX7_isSame 369 = .ok (.aaload, 1) := by decide +kernel
theorem dX7_isSame_370 : decode cX7_isSame 370 = .ok (.iconst 2, 1) := by decide +kernel
theorem dX7_isSame_371 : decode cX7_isSame 371 = .ok (.iaload, 1) := by decide +kernel
theorem dX7_isSame_372 : decode cX7_isSame 372 = .ok (.if_icmp .ne 82, 3) := by decide +kernel
theorem dX7_isSame_375 : decode cX7_isSame 375 = .ok (.aload_n 1, 1) := by decide +kernel
theorem dX7_isSame_376 : decode cX7_isSame 376 = .ok (.iload 5, 2) := by decide +kernel
theorem dX7_isSame_378 : decode cX7_isSame 378 = .ok (.invokevirtual 191, 3) := by decide +kernel
theorem dX7_isSame_381 : decode cX7_isSame 381 = .ok (.aload_n 0, 1) := by decide +kernel
theorem dX7_isSame_382 : decode cX7_isSame 382 = .ok (.aload_n 2, 1) := by decide +kernel
theorem dX7_isSame_383 : decode cX7_isSame 383 = .ok (.iload 5, 2) := by decide +kernel
theorem dX7_isSame_385 : decode cX7_isSame 385 = .ok (.aaload, 1) := by decide +kernel
theorem dX7_isSame_386 : decode cX7_isSame 386 = .ok (.invokevirtual 106, 3) := by decide +kernel
theorem dX7_isSame_389 : decode cX7_isSame 389 = .ok (.if_icmp .ne 65, 3) := by decide +kernel
theorem dX7_isSame_392 : decode cX7_isSame 392 = .ok (.aload_n 2, 1) := by decide +kernel
theorem dX7_isSame_393 : decode cX7_isSame 393 = .ok (.iload 5, 2) := by decide +kernel
theorem dX7_isSame_395 : decode cX7_isSame 395 = .ok (.aaload, 1) := by decide +kernel
theorem dX7_isSame_396 : decode cX7_isSame 396 = .ok (.iconst 3, 1) := by decide +kernel
theorem dX7_isSame_397 : decode cX7_isSame 397 = .ok (.iaload, 1) := by decide +kernel
theorem dX7_isSame_398 : decode cX7_isSame 398 = .ok (.ifCond .lt 18, 3) := by decide +kernel
theorem dX7_isSame_401 : decode cX7_isSame 401 = .ok (.aload_n 1, 1) := by decide +kernel
theorem dX7_isSame_402 : decode cX7_isSame 402 = .ok (.iload 5, 2) := by decide +kernel
theorem dX7_isSame_404 : decode cX7_isSame 404 = .ok (.invokevirtual 194, 3) := by decide +kernel
theorem dX7_isSame_407 : decode cX7_isSame 407 = .ok (.aload_n 2, 1) := by decide +kernel
theorem dX7_isSame_408 : decode cX7_isSame 408 = .ok (.iload 5, 2) := by decide +kernel
theorem dX7_isSame_410 : decode cX7_isSame 410 = .ok (.aaload, 1) := by decide +kernel
theorem dX7_isSame_411 : decode cX7_isSame 411 = .ok (.iconst 3, 1) := by decide +kernel
theorem dX7_isSame_412 : decode cX7_isSame 412 = .ok (.iaload, 1) := by decide +kernel
theorem dX7_isSame_413 : decode cX7_isSame 413 = .ok (.if_icmp .ne 41, 3) := by decide +kernel
theorem dX7_isSame_416 : decode cX7_isSame 416 = .ok (.aload_n 1, 1) := by decide +kernel
theorem dX7_isSame_417 : decode cX7_isSame 417 = .ok (.aload_n 2, 1) := by decide +kernel
theorem dX7_isSame_418 : decode cX7_isSame 418 = .ok (.iload 5, 2) := by decide +kernel
theorem dX7_isSame_420 : decode cX7_isSame 420 = .ok (.aaload, 1) := by decide +kernel
theorem dX7_isSame_421 : decode cX7_isSame 421 = .ok (.iconst 1, 1) := by decide +kernel
theorem dX7_isSame_422 : decode cX7_isSame 422 = .ok (.iaload, 1) := by decide +kernel
theorem dX7_isSame_423 : decode cX7_isSame 423 = .ok (.invokevirtual 197, 3) := by decide +kernel
theorem dX7_isSame_426 : decode cX7_isSame 426 = .ok (.aload_n 2, 1) := by decide +kernel
theorem dX7_isSame_427 : decode cX7_isSame 427 = .ok (.iload 5, 2) := by decide +kernel
theorem dX7_isSame_429 : decode cX7_isSame 429 = .ok (.aaload, 1) := by decide +kernel
theorem dX7_isSame_430 : decode cX7_isSame 430 = .ok (.iconst 2, 1) := by decide +kernel
theorem dX7_isSame_431 : decode cX7_isSame 431 = .ok (.iaload, 1) := by decide +kernel
theorem dX7_isSame_432 : decode cX7_isSame 432 = .ok (.if_icmp .ne 22, 3) := by decide +kernel
theorem dX7_isSame_435 : decode cX7_isSame 435 = .ok (.aload_n 1, 1) := by decide +kernel
theorem dX7_isSame_436 : decode cX7_isSame 436 = .ok (.aload_n 2, 1) := by decide +kernel
theorem dX7_isSame_437 : decode cX7_isSame 437 = .ok (.iload 5, 2) := by decide +kernel
theorem dX7_isSame_439 : decode cX7_isSame 439 = .ok (.aaload, 1) := by decide +kernel
theorem dX7_isSame_440 : decode cX7_isSame 440 = .ok (.iconst 2, 1) := by decide +kernel
theorem dX7_isSame_441 : decode cX7_isSame 441 = .ok (.iaload, 1) := by decide +kernel
theorem dX7_isSame_442 : decode cX7_isSame 442 = .ok (.invokevirtual 197, 3) := by decide +kernel
theorem dX7_isSame_445 : decode cX7_isSame 445 = .ok (.aload_n 2, 1) := by decide +kernel
theorem dX7_isSame_446 : decode cX7_isSame 446 = .ok (.iload 5, 2) := by decide +kernel
theorem dX7_isSame_448 : decode cX7_isSame 448 = .ok (.aaload, 1) := by decide +kernel
theorem dX7_isSame_449 : decode cX7_isSame 449 = .ok (.iconst 1, 1) := by decide +kernel
theorem dX7_isSame_450 : decode cX7_isSame 450 = .ok (.iaload, 1) := by decide +kernel
theorem dX7_isSame_451 : decode cX7_isSame 451 = .ok (.if_icmp .eq 5, 3) := by decide +kernel
theorem dX7_isSame_454 : decode cX7_isSame 454 = .ok (.iconst 0, 1) := by decide +kernel
theorem dX7_isSame_455 : decode cX7_isSame 455 = .ok (.ireturn, 1) := by decide +kernel
theorem dX7_isSame_456 : decode cX7_isSame 456 = .ok (.iinc 5 1, 3) := by decide +kernel
theorem dX7_isSame_459 : decode cX7_isSame 459 = .ok (.goto (-121), 3) := by decide +kernel
theorem dX7_isSame_462 : decode cX7_isSame 462 = .ok (.aload_n 0, 1) := by decide +kernel
theorem dX7_isSame_463 : decode cX7_isSame 463 = .ok (.getfield 42, 3) := by decide +kernel
theorem dX7_isSame_466 : decode cX7_isSame 466 = .ok (.ifCond .le 37, 3) := by decide +kernel
theorem dX7_isSame_469 : decode cX7_isSame 469 = .ok (.aload_n 0, 1) := by decide +kernel
theorem dX7_isSame_470 : decode cX7_isSame 470 = .ok (.getfield 34, 3) := by decide +kernel
theorem dX7_isSame_473 : decode cX7_isSame 473 = .ok (.aload_n 0, 1) := by decide +kernel
theorem dX7_isSame_474 : decode cX7_isSame 474 = .ok (.getfield 42, 3) := by decide +kernel
theorem dX7_isSame_477 : decode cX7_isSame 477 = .ok (.iconst 1, 1) := by decide +kernel
theorem dX7_isSame_478 : decode cX7_isSame 478 = .ok (.isub, 1) := by decide +kernel
theorem dX7_isSame_479 : decode cX7_isSame 479 = .ok (.iaload, 1) := by decide +kernel
theorem dX7_isSame_480 : decode cX7_isSame 480 = .ok (.ifCond .lt 23, 3) := by decide +kernel
theorem dX7_isSame_483 : decode cX7_isSame 483 = .ok (.aload_n 1, 1) := by decide +kernel
theorem dX7_isSame_484 : decode cX7_isSame 484 = .ok (.invokevirtual 200, 3) := by decide +kernel
theorem dX7_isSame_487 : decode cX7_isSame 487 = .ok (.aload_n 0, 1) := by decide +kernel
theorem dX7_isSame_488 : decode cX7_isSame 488 = .ok (.getfield 34, 3) := by decide +kernel
theorem dX7_isSame_491 : decode cX7_isSame 491 = .ok (.aload_n 0, 1) := by decide +kernel
theorem dX7_isSame_492 : decode cX7_isSame 492 = .ok (.getfield 42, 3) := by decide +kernel
theorem dX7_isSame_495 : decode cX7_isSame 495 = .ok (.iconst 1, 1) := by decide +kernel
theorem dX7_isSame_496 : decode cX7_isSame 496 = .ok (.isub, 1) := by decide +kernel
theorem dX7_isSame_497 : decode cX7_isSame 497 = .ok (.iaload, 1) := by decide +kernel
theorem dX7_isSame_498 : decode cX7_isSame 498 = .ok (.if_icmp .eq 5, 3) := by decide +kernel
theorem dX7_isSame_501 : decode cX7_isSame 501 = .ok (.iconst 0, 1) := by decide +kernel
theorem dX7_isSame_502 : decode cX7_isSame 502 = .ok (.ireturn, 1) := by decide +kernel
theorem dX7_isSame_503 : decode cX7_isSame 503 = .ok (.aload_n 1, 1) := by decide +kernel
theorem dX7_isSame_504 : decode cX7_isSame 504 = .ok (.invokevirtual 203, 3) := by decide +kernel
theorem dX7_isSame_507 : decode cX7_isSame 507 = .ok (.aload_n 0, 1) := by decide +kernel
theorem dX7_isSame_508 : decode cX7_isSame 508 = .ok (.getfield 38, 3) := by decide +kernel
theorem dX7_isSame_511 : decode cX7_isSame 511 = .ok (.ifCond .ne 7, 3) := by decide +kernel
theorem dX7_isSame_514 : decode cX7_isSame 514 = .ok (.dconst 0, 1) := by decide +kernel
theorem dX7_isSame_515 : decode cX7_isSame 515 = .ok (.goto 12, 3) := by decide +kernel
theorem dX7_isSame_518 : decode cX7_isSame 518 = .ok (.iload 4, 2) := by decide +kernel
theorem dX7_isSame_520 : decode cX7_isSame 520 = .ok (.i2d, 1) := by decide +kernel
theorem dX7_isSame_521 : decode cX7_isSame 521 = .ok (.aload_n 0, 1) := by decide +kernel
theorem dX7_isSame_522 : decode cX7_isSame 522 = .ok (.getfield 38, 3) := by decide +kernel
theorem dX7_isSame_525 : decode cX7_isSame 525 = .ok (.i2d, 1) := by decide +kernel
theorem dX7_isSame_526 : decode cX7_isSame 526 = .ok (.ddiv, 1) := by decide +kernel
theorem dX7_isSame_527 : decode cX7_isSame 527 = .ok (.dcmp .l, 1) := by decide +kernel
theorem dX7_isSame_528 : decode cX7_isSame 528 = .ok (.ifCond .ne 7, 3) := by decide +kernel
theorem dX7_isSame_531 : decode cX7_isSame 531 = .ok (.iconst 1, 1) := by decide +kernel
theorem dX7_isSame_532 : decode cX7_isSame 532 = .ok (.goto 4, 3) := by decide +kernel
theorem dX7_isSame_535 : decode cX7_isSame 535 = .ok (.iconst 0, 1) := by decide +kernel
theorem dX7_isSame_536 : decode cX7_isSame 536 = .ok (.ireturn, 1) := by decide +kernel
theorem dX8_init_0 : decode cX8_init 0 = .ok (.aload_n 0, 1) := by decide +kernel
theorem dX8_init_1 : decode cX8_init 1 = .ok (.invokespecial 1, 3) := by decide +kernel
theorem dX8_init_4 : decode cX8_init 4 = .ok (.return_, 1) := by decide +kernel
theorem dX8_of_0 : decode cX8_of 0 = .ok (.aload_n 0, 1) := by decide +kernel
theorem dX8_of_1 : decode cX8_of 1 = .ok (.getfield 7, 3) := by decide +kernel
theorem dX8_of_4 : decode cX8_of 4 = .ok (.ifCond .ne 8, 3) := by decide +kernel
theorem dX8_of_7 : decode cX8_of 7 = .ok (.aload_n 0, 1) := by decide +kernel
theorem dX8_of_8 : decode cX8_of 8 = .ok (.getfield 13, 3) := by decide +kernel
theorem dX8_of_11 : decode cX8_of 11 = .ok (.ireturn, 1) := by decide +kernel
theorem dX8_of_12 : decode cX8_of 12 = .ok (.aload_n 0, 1) := by decide +kernel
theorem dX8_of_13 : decode cX8_of 13 = .ok (.getfield 7, 3) := by decide +kernel
theorem dX8_of_16 : decode cX8_of 16 = .ok (.iconst 1, 1) := by decide +kernel
theorem dX8_of_17 : decode cX8_of 17 = .ok (.if_icmp .ne 7, 3) := by decide +kernel
theorem dX8_of_20 : decode cX8_of 20 = .ok (.aload_n 2, 1) := by decide +kernel
theorem dX8_of_21 : decode cX8_of 21 = .ok (.iconst 0, 1) := by decide +kernel
theorem dX8_of_22 : decode cX8_of 22 = .ok (.iaload, 1) := by decide +kernel
theorem dX8_of_23 : decode cX8_of 23 = .ok (.ireturn, 1) := by decide +kernel
theorem dX8_of_24 : decode cX8_of 24 = .ok (.aload_n 0, 1) := by decide +kernel
theorem dX8_of_25 : decode cX8_of 25 = .ok (.getfield 7, 3) := by decide +kernel
theorem dX8_of_28 : decode cX8_of 28 = .ok (.bipush 8, 2) := by decide +kernel
theorem dX8_of_30 : decode cX8_of 30 = .ok (.if_icmp .ge 20, 3) := by decide +kernel
theorem dX8_of_33 : decode cX8_of 33 = .ok (.aload_n 1, 1) := by decide +kernel
theorem dX8_of_34 : decode cX8_of 34 = .ok (.aload_n 0, 1) := by decide +kernel
theorem dX8_of_35 : decode cX8_of 35 = .ok (.getfield 7, 3) := by decide +kernel
theorem dX8_of_38 : decode cX8_of 38 = .ok (.aload_n 2, 1) := by decide +kernel
theorem dX8_of_39 : decode cX8_of 39 = .ok (.iconst 1, 1) := by decide +kernel
theorem dX8_of_40 : decode cX8_of 40 = .ok (.aload_n 0, 1) := by decide +kernel
theorem dX8_of_41 : decode cX8_of 41 = .ok (.getfield 13, 3) := by decide +kernel
theorem dX8_of_44 : decode cX8_of 44 = .ok (.iadd, 1) := by decide +kernel
theorem dX8_of_45 : decode cX8_of 45 = .ok (.iaload, 1) := by decide +kernel
theorem dX8_of_46 : decode cX8_of 46 = .ok (.invokevirtual 16, 3) := by decide +kernel
theorem dX8_of_49 : decode cX8_of 49 = .ok (.ireturn, 1) := by decide +kernel
theorem dX8_of_50 : decode cX8_of 50 = .ok (.aload_n 0, 1) := by decide +kernel
theorem dX8_of_51 : decode cX8_of 51 = .ok (.getfield 7, 3) := by decide +kernel
theorem dX8_of_54 : decode cX8_of 54 = .ok (.bipush 25, 2) := by decide +kernel
theorem dX8_of_56 : decode cX8_of 56 = .ok (.if_icmp .ne 25, 3) := by decide +kernel
theorem dX8_of_59 : decode cX8_of 59 = .ok (.aload_n 1, 1) := by decide +kernel
theorem dX8_of_60 : decode cX8_of 60 = .ok (.aload_n 2, 1) := by decide +kernel
theorem dX8_of_61 : decode cX8_of 61 = .ok (.iconst 1, 1) := by decide +kernel
theorem dX8_of_62 : decode cX8_of 62 = .ok (.iaload, 1) := by decide +kernel
theorem dX8_of_63 : decode cX8_of 63 = .ok (.aload_n 2, 1) := by decide +kernel
theorem dX8_of_64 : decode cX8_of 64 = .ok (.iconst 2, 1) := by decide +kernel
theorem dX8_of_65 : decode cX8_of 65 = .ok (.iaload, 1) := by decide +kernel
theorem dX8_of_66 : decode cX8_of 66 = .ok (.aload_n 2, 1) := by decide +kernel
theorem dX8_of_67 : decode cX8_of 67 = .ok (.iconst 0, 1) := by decide +kernel
theorem dX8_of_68 : decode cX8_of 68 = .ok (.iaload, 1) := by decide +kernel
theorem dX8_of_69 : decode cX8_of 69 = .ok (.invokevirtual 22, 3) := by decide +kernel
theorem dX8_of_72 : decode cX8_of 72 = .ok (.ifCond .le 7, 3) := by decide +kernel
theorem dX8_of_75 : decode cX8_of 75 = .ok (.iconst 1, 1) := by decide +kernel
theorem dX8_of_76 : decode cX8_of 76 = .ok (.goto 4, 3) := by decide +kernel
theorem dX8_of_79 : decode cX8_of 79 = .ok (.iconst 0, 1) := by decide +kernel
theorem dX8_of_80 : decode cX8_of 80 = .ok (.ireturn, 1) := by decide +kernel
theorem dX8_of_81 : decode cX8_of 81 = .ok (.aload_n 0, 1) := by decide +kernel
theorem dX8_of_82 : decode cX8_of 82 = .ok (.getfield 26, 3) := by decide +kernel
theorem dX8_of_85 : decode cX8_of 85 = .ok (.aload_n 1, 1) := by decide +kernel
theorem dX8_of_86 : decode cX8_of 86 = .ok (.aload_n 2, 1) := by decide +kernel
theorem dX8_of_87 : decode cX8_of 87 = .ok (.invokevirtual 30, 3) := by decide +kernel
theorem dX8_of_90 : decode cX8_of 90 = .ok (.istore_n 3, 1) := by decide +kernel
theorem dX8_of_91 : decode cX8_of 91 = .ok (.aload_n 0, 1) := by decide +kernel
theorem dX8_of_92 : decode cX8_of 92 = .ok (.getfield 7, 3) := by decide +kernel
theorem dX8_of_95 : decode cX8_of 95 = .ok (.bipush 8, 2) := by decide +kernel
theorem dX8_of_97 : decode cX8_of 97 = .ok (.if_icmp .ne 6, 3) := by decide +kernel
theorem dX8_of_100 : decode cX8_of 100 = .ok (.iload_n 3, 1) := by decide +kernel
theorem dX8_of_101 : decode cX8_of 101 = .ok (.ineg, 1) := by decide +kernel
theorem dX8_of_102 : decode cX8_of 102 = .ok (.ireturn, 1) := by decide +kernel
theorem dX8_of_103 : decode cX8_of 103 = .ok (.aload_n 0, 1) := by decide +kernel
theorem dX8_of_104 : decode cX8_of 104 = .ok (.getfield 7, 3) := by decide +kernel
theorem dX8_of_107 : decode cX8_of 107 = .ok (.bipush 26, 2) := by decide +kernel
theorem dX8_of_109 : decode cX8_of 109 = .ok (.if_icmp .ne 9, 3) := by decide +kernel
theorem dX8_of_112 : decode cX8_of 112 = .ok (.iconst 1, 1) := by decide +kernel
theorem dX8_of_113 : decode cX8_of 113 = .ok (.iload_n 3, 1) := by decide +kernel
theorem dX8_of_114 : decode cX8_of 114 = .ok (.isub, 1) := by decide +kernel
theorem dX8_of_115 : decode cX8_of 115 = .ok (.goto 17, 3) := by decide +kernel
theorem dX8_of_118 : decode cX8_of 118 = .ok (.aload_n 0, 1) := by decide +kernel
theorem dX8_of_119 : decode cX8_of 119 = .ok (.iload_n 3, 1) := by decide +kernel
theorem dX8_of_120 : decode cX8_of 120 = .ok (.aload_n 0, 1) := by decide +kernel
theorem dX8_of_121 : decode cX8_of 121 = .ok (.getfield 33, 3) := by decide +kernel
theorem dX8_of_124 : decode cX8_of 124 = .ok (.aload_n 1, 1) := by decide +kernel
theorem dX8_of_125 : decode cX8_of 125 = .ok (.aload_n 2, 1) := by decide +kernel
theorem dX8_of_126 : decode cX8_of 126 = .ok (.invokevirtual 30, 3) := by decide +kernel
theorem dX8_of_129 : decode cX8_of 129 = .ok (.invokevirtual 36, 3) := by decide +kernel
theorem dX8_of_132 : decode cX8_of 132 = .ok (.ireturn, 1) := by decide +kernel
theorem dX8_ofTwo_0 : decode cX8_ofTwo 0 = .ok (.aload_n 0, 1) := by decide +kernel
theorem dX8_ofTwo_1 : decode cX8_ofTwo 1 = .ok (.getfield 7, 3) := by decide +kernel
theorem dX8_ofTwo_4 : decode cX8_ofTwo 4 = .ok (.tableswitch 216 9 27 #[92, 96, 100, 104, 126, 137, 216, 216, 216, 216, 216, 148, 159, 170, 181, 192, 216, 216, 203], 92) := by decide +kernel
theorem dX8_ofTwo_96 : decode cX8_ofTwo 96 = .ok (.iload_n 1, 1) := by decide +kernel
theorem dX8_ofTwo_97 : decode cX8_ofTwo 97 = .ok (.iload_n 2, 1) := by decide +kernel
theorem dX8_ofTwo_98 : decode cX8_ofTwo 98 = .ok (.iadd, 1) := by decide +kernel
theorem dX8_ofTwo_99 : decode cX8_ofTwo 99 = .ok (.ireturn, 1) := by decide +kernel
theorem dX8_ofTwo_100 : decode cX8_ofTwo 100 = .ok (.iload_n 1, 1) := by decide +kernel
theorem dX8_ofTwo_101 : decode cX8_ofTwo 101 = .ok (.iload_n 2, 1) := by decide +kernel
theorem dX8_ofTwo_102 : decode cX8_ofTwo 102 = .ok (.isub, 1) := by decide +kernel
theorem dX8_ofTwo_103 : decode cX8_ofTwo 103 = .ok (.ireturn, 1) := by decide +kernel
theorem dX8_ofTwo_104 : decode cX8_ofTwo 104 = .ok (.iload_n 1, 1) := by decide +kernel
theorem dX8_ofTwo_105 : decode cX8_ofTwo 105 = .ok (.iload_n 2, 1) := by decide +kernel
theorem dX8_ofTwo_106 : decode cX8_ofTwo 106 = .ok (.imul, 1) := by decide +kernel
theorem dX8_ofTwo_107 : decode cX8_ofTwo 107 = .ok (.ireturn, 1) := by decide +kernel
theorem dX8_ofTwo_108 : decode cX8_ofTwo 108 = .ok (.iload_n 2, 1) := by decide +kernel
theorem dX8_ofTwo_109 : decode cX8_ofTwo 109 = .ok (.ifCond .ne 7, 3) := by decide +kernel
theorem dX8_ofTwo_112 : decode cX8_ofTwo 112 = .ok (.iconst 0, 1) := by decide +kernel
theorem dX8_ofTwo_113 : decode cX8_ofTwo 113 = .ok (.goto 16, 3) := by decide +kernel
theorem dX8_ofTwo_116 : decode cX8_ofTwo 116 = .ok (.iload_n 2, 1) := by decide +kernel
theorem dX8_ofTwo_117 : decode cX8_ofTwo 117 = .ok (.iconst (-1), 1) := by decide +kernel
theorem dX8_ofTwo_118 : decode cX8_ofTwo 118 = .ok (.if_icmp .ne 8, 3) := by decide +kernel
theorem dX8_ofTwo_121 : decode cX8_ofTwo 121 = .ok (.iload_n 1, 1) := by decide +kernel
theorem dX8_ofTwo_122 : decode cX8_ofTwo 122 = .ok (.ineg, 1) := by decide +kernel
theorem dX8_ofTwo_123 : decode cX8_ofTwo 123 = .ok (.goto 6, 3) := by decide +kernel
theorem dX8_ofTwo_126 : decode cX8_ofTwo 126 = .ok (.iload_n 1, 1) := by decide +kernel
theorem dX8_ofTwo_127 : decode cX8_ofTwo 127 = .ok (.iload_n 2, 1) := by decide +kernel
theorem dX8_ofTwo_128 : decode cX8_ofTwo 128 = .ok (.idiv, 1) := by decide +kernel
theorem dX8_ofTwo_129 : decode cX8_ofTwo 129 = .ok (.ireturn, 1) := by decide +kernel
theorem dX8_ofTwo_130 : decode cX8_ofTwo 130 = .ok (.iload_n 1, 1) := by decide +kernel
theorem dX8_ofTwo_131 : decode cX8_ofTwo 131 = .ok (.iload_n 2, 1) := by decide +kernel
theorem dX8_ofTwo_132 : decode cX8_ofTwo 132 = .ok (.if_icmp .ge 7, 3) := by decide +kernel
theorem dX8_ofTwo_135 : decode cX8_ofTwo 135 = .ok (.iload_n 1, 1) := by decide +kernel
theorem dX8_ofTwo_136 : decode cX8_ofTwo 136 = .ok (.goto 4, 3) := by decide +kernel
theorem dX8_ofTwo_139 : decode cX8_ofTwo 139 = .ok (.iload_n 2, 1) := by decide +kernel
theorem dX8_ofTwo_140 : decode cX8_ofTwo 140 = .ok (.ireturn, 1) := by decide +kernel
theorem dX8_ofTwo_141 : decode cX8_ofTwo 141 = .ok (.iload_n 1, 1) := by decide +kernel
theorem dX8_ofTwo_142 : decode cX8_ofTwo 142 = .ok (.iload_n 2, 1) := by decide +kernel
theorem dX8_ofTwo_143 : decode cX8_ofTwo 143 = .ok (.if_icmp .ge 7, 3) := by decide +kernel
theorem dX8_ofTwo_146 : decode cX8_ofTwo 146 = .ok (.iload_n 2, 1) := by decide +kernel
theorem dX8_ofTwo_147 : decode cX8_ofTwo 147 = .ok (.goto 4, 3) := by decide +kernel
theorem dX8_ofTwo_150 : decode cX8_ofTwo 150 = .ok (.iload_n 1, 1) := by decide +kernel
theorem dX8_ofTwo_151 : decode cX8_ofTwo 151 = .ok (.ireturn, 1) := by decide +kernel
theorem dX8_ofTwo_152 : decode cX8_ofTwo 152 = .ok (.iload_n 1, 1) := by decide +kernel
theorem dX8_ofTwo_153 : decode cX8_ofTwo 153 = .ok (.iload_n 2, 1) := by decide +kernel
theorem dX8_ofTwo_154 : decode cX8_ofTwo 154 = .ok (.if_icmp .ge 7, 3) := by decide +kernel
theorem dX8_ofTwo_157 : decode cX8_ofTwo 157 = .ok (.iconst 1, 1) := by decide +kernel
theorem dX8_ofTwo_158 : decode cX8_ofTwo 158 = .ok (.goto 4, 3) := by decide +kernel
theorem dX8_ofTwo_161 : decode cX8_ofTwo 161 = .ok (.iconst 0, 1) := by decide +kernel
theorem dX8_ofTwo_162 : decode cX8_ofTwo 162 = .ok (.ireturn, 1) := by decide +kernel
theorem dX8_ofTwo_163 : decode cX8_ofTwo 163 = .ok (.iload_n 1, 1) := by decide +kernel
theorem dX8_ofTwo_164 : decode cX8_ofTwo 164 = .ok (.iload_n 2, 1) := by decide +kernel
theorem dX8_ofTwo_165 : decode cX8_ofTwo 165 = .ok (.if_icmp .le 7, 3) := by decide +kernel
theorem dX8_ofTwo_168 : decode cX8_ofTwo 168 = .ok (.iconst 1, 1) := by decide +kernel
theorem dX8_ofTwo_169 : decode cX8_ofTwo 169 = .ok (.goto 4, 3) := by decide +kernel
theorem dX8_ofTwo_172 : decode cX8_ofTwo 172 = .ok (.iconst 0, 1) := by decide +kernel
theorem dX8_ofTwo_173 : decode cX8_ofTwo 173 = .ok (.ireturn, 1) := by decide +kernel
theorem dX8_ofTwo_174 : decode cX8_ofTwo 174 = .ok (.iload_n 1, 1) := by decide +kernel
theorem dX8_ofTwo_175 : decode cX8_ofTwo 175 = .ok (.iload_n 2, 1) := by decide +kernel
theorem dX8_ofTwo_176 : decode cX8_ofTwo 176 = .ok (.if_icmp .ne 7, 3) := by decide +kernel
theorem dX8_ofTwo_179 : decode cX8_ofTwo 179 = .ok (.iconst 1, 1) := by decide +kernel
theorem dX8_ofTwo_180 : decode cX8_ofTwo 180 = .ok (.goto 4, 3) := by decide +kernel
theorem dX8_ofTwo_183 : decode cX8_ofTwo 183 = .ok (.iconst 0, 1) := by decide +kernel
theorem dX8_ofTwo_184 : decode cX8_ofTwo 184 = .ok (.ireturn, 1) := by decide +kernel
theorem dX8_ofTwo_185 : decode cX8_ofTwo 185 = .ok (.iload_n 1, 1) := by decide +kernel
theorem dX8_ofTwo_186 : decode cX8_ofTwo 186 = .ok (.iload_n 2, 1) := by decide +kernel
theorem dX8_ofTwo_187 : decode cX8_ofTwo 187 = .ok (.if_icmp .le 7, 3) := by decide +kernel
theorem dX8_ofTwo_190 : decode cX8_ofTwo 190 = .ok (.iconst 0, 1) := by decide +kernel
theorem dX8_ofTwo_191 : decode cX8_ofTwo 191 = .ok (.goto 4, 3) := by decide +kernel
theorem dX8_ofTwo_194 : decode cX8_ofTwo 194 = .ok (.iconst 1, 1) := by decide +kernel
theorem dX8_ofTwo_195 : decode cX8_ofTwo 195 = .ok (.ireturn, 1) := by decide +kernel
theorem dX8_ofTwo_196 : decode cX8_ofTwo 196 = .ok (.iload_n 1, 1) := by decide +kernel
theorem dX8_ofTwo_197 : decode cX8_ofTwo 197 = .ok (.iload_n 2, 1) := by decide +kernel
theorem dX8_ofTwo_198 : decode cX8_ofTwo 198 = .ok (.if_icmp .ge 7, 3) := by decide +kernel
theorem dX8_ofTwo_201 : decode cX8_ofTwo 201 = .ok (.iconst 0, 1) := by decide +kernel
theorem dX8_ofTwo_202 : decode cX8_ofTwo 202 = .ok (.goto 4, 3) := by decide +kernel
theorem dX8_ofTwo_205 : decode cX8_ofTwo 205 = .ok (.iconst 1, 1) := by decide +kernel
theorem dX8_ofTwo_206 : decode cX8_ofTwo 206 = .ok (.ireturn, 1) := by decide +kernel
theorem dX8_ofTwo_207 : decode cX8_ofTwo 207 = .ok (.iload_n 1, 1) := by decide +kernel
theorem dX8_ofTwo_208 : decode cX8_ofTwo 208 = .ok (.iload_n 2, 1) := by decide +kernel
theorem dX8_ofTwo_209 : decode cX8_ofTwo 209 = .ok (.iadd, 1) := by decide +kernel
theorem dX8_ofTwo_210 : decode cX8_ofTwo 210 = .ok (.iconst 2, 1) := by decide +kernel
theorem dX8_ofTwo_211 : decode cX8_ofTwo 211 = .ok (.if_icmp .ne 7, 3) := by decide +kernel
theorem dX8_ofTwo_214 : decode cX8_ofTwo 214 = .ok (.iconst 1, 1) := by decide +kernel
theorem dX8_ofTwo_215 : decode cX8_ofTwo 215 = .ok (.goto 4, 3) := by decide +kernel
theorem dX8_ofTwo_218 : decode cX8_ofTwo 218 = .ok (.iconst 0, 1) := by decide +kernel
theorem dX8_ofTwo_219 : decode cX8_ofTwo 219 = .ok (.ireturn, 1) := by decide +kernel
theorem dX8_ofTwo_220 : decode cX8_ofTwo 220 = .ok (.iload_n 1, 1) := by decide +kernel
theorem dX8_ofTwo_221 : decode cX8_ofTwo 221 = .ok (.iload_n 2, 1) := by decide +kernel
theorem dX8_ofTwo_222 : decode cX8_ofTwo 222 = .ok (.iadd, 1) := by decide +kernel
theorem dX8_ofTwo_223 : decode cX8_ofTwo 223 = .ok (.ifCond .le 7, 3) := by decide +kernel
theorem dX8_ofTwo_226 : decode cX8_ofTwo 226 = .ok (.iconst 1, 1) := by decide +kernel
theorem dX8_ofTwo_227 : decode cX8_ofTwo 227 = .ok (.goto 4, 3) := by decide +kernel
theorem dX8_ofTwo_230 : decode cX8_ofTwo 230 = .ok (.iconst 0, 1) := by decide +kernel
theorem dX8_ofTwo_231 : decode cX8_ofTwo 231 = .ok (.ireturn, 1) := by decide +kernel
theorem dX8_text_0 : decode cX8_text 0 = .ok (.bipush 8, 2) := by decide +kernel
theorem dX8_text_2 : decode cX8_text 2 = .ok (.anewarray 39, 3) := by decide +kernel
theorem dX8_text_5 : decode cX8_text 5 = .ok (.dup, 1) := by decide +kernel
theorem dX8_text_6 : decode cX8_text 6 = .ok (.iconst 0, 1) := by decide +kernel
theorem dX8_text_7 : decode cX8_text 7 = .ok (.ldc 41, 2) := by decide +kernel
theorem dX8_text_9 : decode cX8_text 9 = .ok (.aastore, 1) := by decide +kernel
theorem dX8_text_10 : decode cX8_text 10 = .ok (.dup, 1) := by decide +kernel
theorem dX8_text_11 : decode cX8_text 11 = .ok (.iconst 1, 1) := by decide +kernel
theorem dX8_text_12 : decode cX8_text 12 = .ok (.ldc 43, 2) := by decide +kernel
theorem dX8_text_14 : decode cX8_text 14 = .ok (.aastore, 1) := by decide +kernel
theorem dX8_text_15 : decode cX8_text 15 = .ok (.dup, 1) := by decide +kernel
theorem dX8_text_16 : decode cX8_text 16 = .ok (.iconst 2, 1) := by decide +kernel
theorem dX8_text_17 : decode cX8_text 17 = .ok (.ldc 45, 2) := by decide +kernel
theorem dX8_text_19 : decode cX8_text 19 = .ok (.aastore, 1) := by decide +kernel
theorem dX8_text_20 : decode cX8_text 20 = .ok (.dup, 1) := by decide +kernel
theorem dX8_text_21 : decode cX8_text 21 = .ok (.iconst 3, 1) := by decide +kernel
theorem dX8_text_22 : decode cX8_text 22 = .ok (.ldc 47, 2) := by decide +kernel
theorem dX8_text_24 : decode cX8_text 24 = .ok (.aastore, 1) := by decide +kernel
theorem dX8_text_25 : decode cX8_text 25 = .ok (.dup, 1) := by decide +kernel
theorem dX8_text_26 : decode cX8_text 26 = .ok (.iconst 4, 1) := by decide +kernel
theorem dX8_text_27 : decode cX8_text 27 = .ok (.ldc 49, 2) := by decide +kernel
theorem dX8_text_29 : decode cX8_text 29 = .ok (.aastore, 1) := by decide +kernel
theorem dX8_text_30 : decode cX8_text 30 = .ok (.dup, 1) := by decide +kernel
theorem dX8_text_31 : decode cX8_text 31 = .ok (.iconst 5, 1) := by decide +kernel
theorem dX8_text_32 : decode cX8_text 32 = .ok (.ldc 51, 2) := by decide +kernel
theorem dX8_text_34 : decode cX8_text 34 = .ok (.aastore, 1) := by decide +kernel
theorem dX8_text_35 : decode cX8_text 35 = .ok (.dup, 1) := by decide +kernel
theorem dX8_text_36 : decode cX8_text 36 = .ok (.bipush 6, 2) := by decide +kernel
theorem dX8_text_38 : decode cX8_text 38 = .ok (.ldc 53, 2) := by decide +kernel
theorem dX8_text_40 : decode cX8_text 40 = .ok (.aastore, 1) := by decide +kernel
theorem dX8_text_41 : decode cX8_text 41 = .ok (.dup, 1) := by decide +kernel
theorem dX8_text_42 : decode cX8_text 42 = .ok (.bipush 7, 2) := by decide +kernel
theorem dX8_text_44 : decode cX8_text 44 = .ok (.ldc 55, 2) := by decide +kernel
theorem dX8_text_46 : decode cX8_text 46 = .ok (.aastore, 1) := by decide +kernel
theorem dX8_text_47 : decode cX8_text 47 = .ok (.astore_n 1, 1) := by decide +kernel
theorem dX8_text_48 : decode cX8_text 48 = .ok (.bipush 6, 2) := by decide +kernel
theorem dX8_text_50 : decode cX8_text 50 = .ok (.anewarray 39, 3) := by decide +kernel
theorem dX8_text_53 : decode cX8_text 53 = .ok (.dup, 1) := by decide +kernel
theorem dX8_text_54 : decode cX8_text 54 = .ok (.iconst 0, 1) := by decide +kernel
theorem dX8_text_55 : decode cX8_text 55 = .ok (.ldc 57, 2) := by decide +kernel
theorem dX8_text_57 : decode cX8_text 57 = .ok (.aastore, 1) := by decide +kernel
theorem dX8_text_58 : decode cX8_text 58 = .ok (.dup, 1) := by decide +kernel
theorem dX8_text_59 : decode cX8_text 59 = .ok (.iconst 1, 1) := by decide +kernel
theorem dX8_text_60 : decode cX8_text 60 = .ok (.ldc 59, 2) := by decide +kernel
theorem dX8_text_62 : decode cX8_text 62 = .ok (.aastore, 1) := by decide +kernel
theorem dX8_text_63 : decode cX8_text 63 = .ok (.dup, 1) := by decide +kernel
theorem dX8_text_64 : decode cX8_text 64 = .ok (.iconst 2, 1) := by decide +kernel
theorem dX8_text_65 : decode cX8_text 65 = .ok (.ldc 61, 2) := by decide +kernel
theorem dX8_text_67 : decode cX8_text 67 = .ok (.aastore, 1) := by decide +kernel
theorem dX8_text_68 : decode cX8_text 68 = .ok (.dup, 1) := by decide +kernel
theorem dX8_text_69 : decode cX8_text 69 = .ok (.iconst 3, 1) := by decide +kernel
theorem dX8_text_70 : decode cX8_text 70 = .ok (.ldc 63, 2) := by decide +kernel
theorem dX8_text_72 : decode cX8_text 72 = .ok (.aastore, 1) := by decide +kernel
theorem dX8_text_73 : decode cX8_text 73 = .ok (.dup, 1) := by decide +kernel
theorem dX8_text_74 : decode cX8_text 74 = .ok (.iconst 4, 1) := by decide +kernel
theorem dX8_text_75 : decode cX8_text 75 = .ok (.ldc 65, 2) := by decide +kernel
theorem dX8_text_77 : decode cX8_text 77 = .ok (.aastore, 1) := by decide +kernel
theorem dX8_text_78 : decode cX8_text 78 = .ok (.dup, 1) := by decide +kernel
theorem dX8_text_79 : decode cX8_text 79 = .ok (.iconst 5, 1) := by decide +kernel
theorem dX8_text_80 : decode cX8_text 80 = .ok (.ldc 67, 2) := by decide +kernel
theorem dX8_text_82 : decode cX8_text 82 = .ok (.aastore, 1) := by decide +kernel
theorem dX8_text_83 : decode cX8_text 83 = .ok (.astore_n 2, 1) := by decide +kernel
theorem dX8_text_84 : decode cX8_text 84 = .ok (.iconst 5, 1) := by decide +kernel
theorem dX8_text_85 : decode cX8_text 85 = .ok (.anewarray 39, 3) := by decide +kernel
theorem dX8_text_88 : decode cX8_text 88 = .ok (.dup, 1) := by decide +kernel
theorem dX8_text_89 : decode cX8_text 89 = .ok (.iconst 0, 1) := by decide +kernel
theorem dX8_text_90 : decode cX8_text 90 = .ok (.ldc 69, 2) := by decide +kernel
theorem dX8_text_92 : decode cX8_text 92 = .ok (.aastore, 1) := by decide +kernel
theorem dX8_text_93 : decode cX8_text 93 = .ok (.dup, 1) := by decide +kernel
theorem dX8_text_94 : decode cX8_text 94 = .ok (.iconst 1, 1) := by decide +kernel
theorem dX8_text_95 : decode cX8_text 95 = .ok (.ldc 71, 2) := by decide +kernel
theorem dX8_text_97 : decode cX8_text 97 = .ok (.aastore, 1) := by decide +kernel
theorem dX8_text_98 : decode cX8_text 98 = .ok (.dup, 1) := by decide +kernel
theorem dX8_text_99 : decode cX8_text 99 = .ok (.iconst 2, 1) := by decide +kernel
theorem dX8_text_100 : decode cX8_text 100 = .ok (.ldc 73, 2) := by decide +kernel
theorem dX8_text_102 : decode cX8_text 102 = .ok (.aastore, 1) := by decide +kernel
theorem dX8_text_103 : decode cX8_text 103 = .ok (.dup, 1) := by decide +kernel
theorem dX8_text_104 : decode cX8_text 104 = .ok (.iconst 3, 1) := by decide +kernel
theorem dX8_text_105 : decode cX8_text 105 = .ok (.ldc 75, 2) := by decide +kernel
theorem dX8_text_107 : decode cX8_text 107 = .ok (.aastore, 1) := by decide +kernel
theorem dX8_text_108 : decode cX8_text 108 = .ok (.dup, 1) := by decide +kernel
theorem dX8_text_109 : decode cX8_text 109 = .ok (.iconst 4, 1) := by decide +kernel
theorem dX8_text_110 : decode cX8_text 110 = .ok (.ldc 77, 2) := by decide +kernel
theorem dX8_text_112 : decode cX8_text 112 = .ok (.aastore, 1) := by decide +kernel
theorem dX8_text_113 : decode cX8_text 113 = .ok (.astore_n 3, 1) := by decide +kernel
theorem dX8_text_114 : decode cX8_text 114 = .ok (.aload_n 0, 1) := by decide +kernel
theorem dX8_text_115 : decode cX8_text 115 = .ok (.getfield 7, 3) := by decide +kernel
theorem dX8_text_118 : decode cX8_text 118 = .ok (.ifCond .ne 26, 3) := by decide +kernel
theorem dX8_text_121 : decode cX8_text 121 = .ok (.new 79, 3) := by decide +kernel
theorem dX8_text_124 : decode cX8_text 124 = .ok (.dup, 1) := by decide +kernel
theorem dX8_text_125 : decode cX8_text 125 = .ok (.invokespecial 81, 3) := by decide +kernel
theorem dX8_text_128 : decode cX8_text 128 = .ok (.ldc 41, 2) := by decide +kernel
theorem dX8_text_130 : decode cX8_text 130 = .ok (.invokevirtual 82, 3) := by decide +kernel
theorem dX8_text_133 : decode cX8_text 133 = .ok (.aload_n 0, 1) := by decide +kernel
theorem dX8_text_134 : decode cX8_text 134 = .ok (.getfield 13, 3) := by decide +kernel
theorem dX8_text_137 : decode cX8_text 137 = .ok (.invokevirtual 86, 3) := by decide +kernel
theorem dX8_text_140 : decode cX8_text 140 = .ok (.invokevirtual 89, 3) := by decide +kernel
theorem dX8_text_143 : decode cX8_text 143 = .ok (.areturn, 1) := by decide +kernel
theorem dX8_text_144 : decode cX8_text 144 = .ok (.aload_n 0, 1) := by decide +kernel
theorem dX8_text_145 : decode cX8_text 145 = .ok (.getfield 7, 3) := by decide +kernel
theorem dX8_text_148 : decode cX8_text 148 = .ok (.iconst 1, 1) := by decide +kernel
theorem dX8_text_149 : decode cX8_text 149 = .ok (.if_icmp .ne 6, 3) := by decide +kernel
theorem dX8_text_152 : decode cX8_text 152 = .ok (.ldc 93, 2) := by decide +kernel
theorem dX8_text_154 : decode cX8_text 154 = .ok (.areturn, 1) := by decide +kernel
theorem dX8_text_155 : decode cX8_text 155 = .ok (.aload_n 0, 1) := by decide +kernel
theorem dX8_text_156 : decode cX8_text 156 = .ok (.getfield 7, 3) := by decide +kernel
theorem dX8_text_159 : decode cX8_text 159 = .ok (.bipush 8, 2) := by decide +kernel
theorem dX8_text_161 : decode cX8_text 161 = .ok (.if_icmp .ge 40, 3) := by decide +kernel
theorem dX8_text_164 : decode cX8_text 164 = .ok (.new 79, 3) := by decide +kernel
theorem dX8_text_167 : decode cX8_text 167 = .ok (.dup, 1) := by decide +kernel
theorem dX8_text_168 : decode cX8_text 168 = .ok (.invokespecial 81, 3) := by decide +kernel
theorem dX8_text_171 : decode cX8_text 171 = .ok (.aload_n 1, 1) := by decide +kernel
theorem dX8_text_172 : decode cX8_text 172 = .ok (.aload_n 0, 1) := by decide +kernel
theorem dX8_text_173 : decode cX8_text 173 = .ok (.getfield 7, 3) := by decide +kernel
theorem dX8_text_176 : decode cX8_text 176 = .ok (.aaload, 1) := by decide +kernel
theorem dX8_text_177 : decode cX8_text 177 = .ok (.invokevirtual 82, 3) := by decide +kernel
theorem dX8_text_180 : decode cX8_text 180 = .ok (.aload_n 0, 1) := by decide +kernel
theorem dX8_text_181 : decode cX8_text 181 = .ok (.getfield 13, 3) := by decide +kernel
theorem dX8_text_184 : decode cX8_text 184 = .ok (.ifCond .ne 8, 3) := by decide +kernel
theorem dX8_text_187 : decode cX8_text 187 = .ok (.ldc 95, 2) := by decide +kernel
theorem dX8_text_189 : decode cX8_text 189 = .ok (.goto 5, 3) := by decide +kernel
theorem dX8_text_192 : decode cX8_text 192 = .ok (.ldc 97, 2) := by decide +kernel
theorem dX8_text_194 : decode cX8_text 194 = .ok (.invokevirtual 82, 3) := by decide +kernel
theorem dX8_text_197 : decode cX8_text 197 = .ok (.invokevirtual 89, 3) := by decide +kernel
theorem dX8_text_200 : decode cX8_text 200 = .ok (.areturn, 1) := by decide +kernel
theorem dX8_text_201 : decode cX8_text 201 = .ok (.aload_n 0, 1) := by decide +kernel
theorem dX8_text_202 : decode cX8_text 202 = .ok (.getfield 7, 3) := by decide +kernel
theorem dX8_text_205 : decode cX8_text 205 = .ok (.bipush 8, 2) := by decide +kernel
theorem dX8_text_207 : decode cX8_text 207 = .ok (.if_icmp .ne 34, 3) := by decide +kernel
theorem dX8_text_210 : decode cX8_text 210 = .ok (.new 79, 3) := by decide +kernel
theorem dX8_text_213 : decode cX8_text 213 = .ok (.dup, 1) := by decide +kernel
theorem dX8_text_214 : decode cX8_text 214 = .ok (.invokespecial 81, 3) := by decide +kernel
theorem dX8_text_217 : decode cX8_text 217 = .ok (.ldc 99, 2) := by decide +kernel
theorem dX8_text_219 : decode cX8_text 219 = .ok (.invokevirtual 82, 3) := by decide +kernel
theorem dX8_text_222 : decode cX8_text 222 = .ok (.aload_n 0, 1) := by decide +kernel
theorem dX8_text_223 : decode cX8_text 223 = .ok (.getfield 26, 3) := by decide +kernel
theorem dX8_text_226 : decode cX8_text 226 = .ok (.invokevirtual 101, 3) := by decide +kernel
theorem dX8_text_229 : decode cX8_text 229 = .ok (.invokevirtual 82, 3) := by decide +kernel
theorem dX8_text_232 : decode cX8_text 232 = .ok (.ldc 104, 2) := by decide +kernel
theorem dX8_text_234 : decode cX8_text 234 = .ok (.invokevirtual 82, 3) := by decide +kernel
theorem dX8_text_237 : decode cX8_text 237 = .ok (.invokevirtual 89, 3) := by decide +kernel
theorem dX8_text_240 : decode cX8_text 240 = .ok (.areturn, 1) := by decide +kernel
theorem dX8_text_241 : decode cX8_text 241 = .ok (.aload_n 0, 1) := by decide +kernel
theorem dX8_text_242 : decode cX8_text 242 = .ok (.getfield 7, 3) := by decide +kernel
theorem dX8_text_245 : decode cX8_text 245 = .ok (.bipush 13, 2) := by decide +kernel
theorem dX8_text_247 : decode cX8_text 247 = .ok (.if_icmp .ge 66, 3) := by decide +kernel
theorem dX8_text_250 : decode cX8_text 250 = .ok (.new 79, 3) := by decide +kernel
theorem dX8_text_253 : decode cX8_text 253 = .ok (.dup, 1) := by decide +kernel
theorem dX8_text_254 : decode cX8_text 254 = .ok (.invokespecial 81, 3) := by decide +kernel
theorem dX8_text_257 : decode cX8_text 257 = .ok (.ldc 106, 2) := by decide +kernel
theorem dX8_text_259 : decode cX8_text 259 = .ok (.invokevirtual 82, 3) := by decide +kernel
theorem dX8_text_262 : decode cX8_text 262 = .ok (.aload_n 0, 1) := by decide +kernel
theorem dX8_text_263 : decode cX8_text 263 = .ok (.getfield 26, 3) := by decide +kernel
theorem dX8_text_266 : decode cX8_text 266 = .ok (.invokevirtual 101, 3) := by decide +kernel
theorem dX8_text_269 : decode cX8_text 269 = .ok (.invokevirtual 82, 3) := by decide +kernel
theorem dX8_text_272 : decode cX8_text 272 = .ok (.ldc 104, 2) := by decide +kernel
theorem dX8_text_274 : decode cX8_text 274 = .ok (.invokevirtual 82, 3) := by decide +kernel
theorem dX8_text_277 : decode cX8_text 277 = .ok (.aload_n 2, 1) := by decide +kernel
theorem dX8_text_278 : decode cX8_text 278 = .ok (.aload_n 0, 1) := by decide +kernel
theorem dX8_text_279 : decode cX8_text 279 = .ok (.getfield 7, 3) := by decide +kernel
theorem dX8_text_282 : decode cX8_text 282 = .ok (.bipush 9, 2) := by decide +kernel
theorem dX8_text_284 : decode cX8_text 284 = .ok (.isub, 1) := by decide +kernel
theorem dX8_text_285 : decode cX8_text 285 = .ok (.aaload, 1) := by decide +kernel
theorem dX8_text_286 : decode cX8_text 286 = .ok (.invokevirtual 82, 3) := by decide +kernel
theorem dX8_text_289 : decode cX8_text 289 = .ok (.ldc 106, 2) := by decide +kernel
theorem dX8_text_291 : decode cX8_text 291 = .ok (.invokevirtual 82, 3) := by decide +kernel
theorem dX8_text_294 : decode cX8_text 294 = .ok (.aload_n 0, 1) := by decide +kernel
theorem dX8_text_295 : decode cX8_text 295 = .ok (.getfield 33, 3) := by decide +kernel
theorem dX8_text_298 : decode cX8_text 298 = .ok (.invokevirtual 101, 3) := by decide +kernel
theorem dX8_text_301 : decode cX8_text 301 = .ok (.invokevirtual 82, 3) := by decide +kernel
theorem dX8_text_304 : decode cX8_text 304 = .ok (.ldc 104, 2) := by decide +kernel
theorem dX8_text_306 : decode cX8_text 306 = .ok (.invokevirtual 82, 3) := by decide +kernel
theorem dX8_text_309 : decode cX8_text 309 = .ok (.invokevirtual 89, 3) := by decide +kernel
theorem dX8_text_312 : decode cX8_text 312 = .ok (.areturn, 1) := by decide +kernel
theorem dX8_text_313 : decode cX8_text 313 = .ok (.aload_n 0, 1) := by decide +kernel
theorem dX8_text_314 : decode cX8_text 314 = .ok (.getfield 7, 3) := by decide +kernel
theorem dX8_text_317 : decode cX8_text 317 = .ok (.bipush 15, 2) := by decide +kernel
theorem dX8_text_319 : decode cX8_text 319 = .ok (.if_icmp .ge 56, 3) := by decide +kernel
theorem dX8_text_322 : decode cX8_text 322 = .ok (.new 79, 3) := by decide +kernel
theorem dX8_text_325 : decode cX8_text 325 = .ok (.dup, 1) := by decide +kernel
theorem dX8_text_326 : decode cX8_text 326 = .ok (.invokespecial 81, 3) := by decide +kernel
theorem dX8_text_329 : decode cX8_text 329 = .ok (.aload_n 2, 1) := by decide +kernel
theorem dX8_text_330 : decode cX8_text 330 = .ok (.aload_n 0, 1) := by decide +kernel
theorem dX8_text_331 : decode cX8_text 331 = .ok (.getfield 7, 3) := by decide +kernel
theorem dX8_text_334 : decode cX8_text 334 = .ok (.bipush 9, 2) := by decide +kernel
theorem dX8_text_336 : decode cX8_text 336 = .ok (.isub, 1) := by decide +kernel
theorem dX8_text_337 : decode cX8_text 337 = .ok (.aaload, 1) := by decide +kernel
theorem dX8_text_338 : decode cX8_text 338 = .ok (.invokevirtual 82, 3) := by decide +kernel
theorem dX8_text_341 : decode cX8_text 341 = .ok (.aload_n 0, 1) := by decide +kernel
theorem dX8_text_342 : decode cX8_text 342 = .ok (.getfield 26, 3) := by decide +kernel
theorem dX8_text_345 : decode cX8_text 345 = .ok (.invokevirtual 101, 3) := by decide +kernel
theorem dX8_text_348 : decode cX8_text 348 = .ok (.invokevirtual 82, 3) := by decide +kernel
theorem dX8_text_351 : decode cX8_text 351 = .ok (.ldc 108, 2) := by decide +kernel
theorem dX8_text_353 : decode cX8_text 353 = .ok (.invokevirtual 82, 3) := by decide +kernel
theorem dX8_text_356 : decode cX8_text 356 = .ok (.aload_n 0, 1) := by decide +kernel
theorem dX8_text_357 : decode cX8_text 357 = .ok (.getfield 33, 3) := by decide +kernel
theorem dX8_text_360 : decode cX8_text 360 = .ok (.invokevirtual 101, 3) := by decide +kernel
theorem dX8_text_363 : decode cX8_text 363 = .ok (.invokevirtual 82, 3) := by decide +kernel
theorem dX8_text_366 : decode cX8_text 366 = .ok (.ldc 104, 2) := by decide +kernel
theorem dX8_text_368 : decode cX8_text 368 = .ok (.invokevirtual 82, 3) := by decide +kernel
theorem dX8_text_371 : decode cX8_text 371 = .ok (.invokevirtual 89, 3) := by decide +kernel
theorem dX8_text_374 : decode cX8_text 374 = .ok (.areturn, 1) := by decide +kernel
theorem dX8_text_375 : decode cX8_text 375 = .ok (.aload_n 0, 1) := by decide +kernel
theorem dX8_text_376 : decode cX8_text 376 = .ok (.getfield 7, 3) := by decide +kernel
theorem dX8_text_379 : decode cX8_text 379 = .ok (.bipush 25, 2) := by decide +kernel
theorem dX8_text_381 : decode cX8_text 381 = .ok (.if_icmp .ge 46, 3) := by decide +kernel
theorem dX8_text_384 : decode cX8_text 384 = .ok (.new 79, 3) := by decide +kernel
theorem dX8_text_387 : decode cX8_text 387 = .ok (.dup, 1) := by decide +kernel
theorem dX8_text_388 : decode cX8_text 388 = .ok (.invokespecial 81, 3) := by decide +kernel
theorem dX8_text_391 : decode cX8_text 391 = .ok (.aload_n 0, 1) := by decide +kernel
theorem dX8_text_392 : decode cX8_text 392 = .ok (.getfield 26, 3) := by decide +kernel
theorem dX8_text_395 : decode cX8_text 395 = .ok (.invokevirtual 101, 3) := by decide +kernel
theorem dX8_text_398 : decode cX8_text 398 = .ok (.invokevirtual 82, 3) := by decide +kernel
theorem dX8_text_401 : decode cX8_text 401 = .ok (.aload_n 3, 1) := by decide +kernel
theorem dX8_text_402 : decode cX8_text 402 = .ok (.aload_n 0, 1) := by decide +kernel
theorem dX8_text_403 : decode cX8_text 403 = .ok (.getfield 7, 3) := by decide +kernel
theorem dX8_text_406 : decode cX8_text 406 = .ok (.bipush 20, 2) := by decide +kernel
theorem dX8_text_408 : decode cX8_text 408 = .ok (.isub, 1) := by decide +kernel
theorem dX8_text_409 : decode cX8_text 409 = .ok (.aaload, 1) := by decide +kernel
theorem dX8_text_410 : decode cX8_text 410 = .ok (.invokevirtual 82, 3) := by decide +kernel
theorem dX8_text_413 : decode cX8_text 413 = .ok (.aload_n 0, 1) := by decide +kernel
theorem dX8_text_414 : decode cX8_text 414 = .ok (.getfield 33, 3) := by decide +kernel
theorem dX8_text_417 : decode cX8_text 417 = .ok (.invokevirtual 101, 3) := by decide +kernel
theorem dX8_text_420 : decode cX8_text 420 = .ok (.invokevirtual 82, 3) := by decide +kernel
theorem dX8_text_423 : decode cX8_text 423 = .ok (.invokevirtual 89, 3) := by decide +kernel
theorem dX8_text_426 : decode cX8_text 426 = .ok (.areturn, 1) := by decide +kernel
theorem dX8_text_427 : decode cX8_text 427 = .ok (.aload_n 0, 1) := by decide +kernel
theorem dX8_text_428 : decode cX8_text 428 = .ok (.getfield 7, 3) := by decide +kernel
theorem dX8_text_431 : decode cX8_text 431 = .ok (.bipush 25, 2) := by decide +kernel
theorem dX8_text_433 : decode cX8_text 433 = .ok (.if_icmp .ne 6, 3) := by decide +kernel
theorem dX8_text_436 : decode cX8_text 436 = .ok (.ldc 110, 2) := by decide +kernel
theorem dX8_text_438 : decode cX8_text 438 = .ok (.areturn, 1) := by decide +kernel
theorem dX8_text_439 : decode cX8_text 439 = .ok (.aload_n 0, 1) := by decide +kernel
theorem dX8_text_440 : decode cX8_text 440 = .ok (.getfield 7, 3) := by decide +kernel
theorem dX8_text_443 : decode cX8_text 443 = .ok (.bipush 26, 2) := by decide +kernel
theorem dX8_text_445 : decode cX8_text 445 = .ok (.if_icmp .ne 36, 3) := by decide +kernel
theorem dX8_text_448 : decode cX8_text 448 = .ok (.new 79, 3) := by decide +kernel
theorem dX8_text_451 : decode cX8_text 451 = .ok (.dup, 1) := by decide +kernel
theorem dX8_text_452 : decode cX8_text 452 = .ok (.invokespecial 81, 3) := by decide +kernel
theorem dX8_text_455 : decode cX8_text 455 = .ok (.ldc 112, 2) := by decide +kernel
theorem dX8_text_457 : decode cX8_text 457 = .ok (.invokevirtual 82, 3) := by decide +kernel
theorem dX8_text_460 : decode cX8_text 460 = .ok (.aload_n 0, 1) := by decide +kernel
theorem dX8_text_461 : decode cX8_text 461 = .ok (.getfield 26, 3) := by decide +kernel
theorem dX8_text_464 : decode cX8_text 464 = .ok (.invokevirtual 101, 3) := by decide +kernel
theorem dX8_text_467 : decode cX8_text 467 = .ok (.invokevirtual 82, 3) := by decide +kernel
theorem dX8_text_470 : decode cX8_text 470 = .ok (.ldc 114, 2) := by decide +kernel
theorem dX8_text_472 : decode cX8_text 472 = .ok (.invokevirtual 82, 3) := by decide +kernel
theorem dX8_text_475 : decode cX8_text 475 = .ok (.invokevirtual 89, 3) := by decide +kernel
theorem dX8_text_478 : decode cX8_text 478 = .ok (.goto 72, 3) := by decide +kernel
theorem dX8_text_481 : decode cX8_text 481 = .ok (.new 79, 3) := by decide +kernel
theorem dX8_text_484 : decode cX8_text 484 = .ok (.dup, 1) := by decide +kernel
theorem dX8_text_485 : decode cX8_text 485 = .ok (.invokespecial 81, 3) := by decide +kernel
theorem dX8_text_488 : decode cX8_text 488 = .ok (.ldc 116, 2) := by decide +kernel
theorem dX8_text_490 : decode cX8_text 490 = .ok (.invokevirtual 82, 3) := by decide +kernel
theorem dX8_text_493 : decode cX8_text 493 = .ok (.aload_n 0, 1) := by decide +kernel
theorem dX8_text_494 : decode cX8_text 494 = .ok (.getfield 26, 3) := by decide +kernel
theorem dX8_text_497 : decode cX8_text 497 = .ok (.invokevirtual 101, 3) := by decide +kernel
theorem dX8_text_500 : decode cX8_text 500 = .ok (.invokevirtual 82, 3) := by decide +kernel
theorem dX8_text_503 : decode cX8_text 503 = .ok (.ldc 114, 2) := by decide +kernel
theorem dX8_text_505 : decode cX8_text 505 = .ok (.invokevirtual 82, 3) := by decide +kernel
theorem dX8_text_508 : decode cX8_text 508 = .ok (.aload_n 0, 1) := by decide +kernel
theorem dX8_text_509 : decode cX8_text 509 = .ok (.getfield 7, 3) := by decide +kernel
theorem dX8_text_512 : decode cX8_text 512 = .ok (.bipush 27, 2) := by decide +kernel
theorem dX8_text_514 : decode cX8_text 514 = .ok (.if_icmp .ne 8, 3) := by decide +kernel
theorem dX8_text_517 : decode cX8_text 517 = .ok (.ldc 118, 2) := by decide +kernel
theorem dX8_text_519 : decode cX8_text 519 = .ok (.goto 5, 3) := by decide +kernel
theorem dX8_text_522 : decode cX8_text 522 = .ok (.ldc 120, 2) := by decide +kernel
theorem dX8_text_524 : decode cX8_text 524 = .ok (.invokevirtual 82, 3) := by decide +kernel
theorem dX8_text_527 : decode cX8_text 527 = .ok (.ldc 116, 2) := by decide +kernel
theorem dX8_text_529 : decode cX8_text 529 = .ok (.invokevirtual 82, 3) := by decide +kernel
theorem dX8_text_532 : decode cX8_text 532 = .ok (.aload_n 0, 1) := by decide +kernel
theorem dX8_text_533 : decode cX8_text 533 = .ok (.getfield 33, 3) := by decide +kernel
theorem dX8_text_536 : decode cX8_text 536 = .ok (.invokevirtual 101, 3) := by decide +kernel
theorem dX8_text_539 : decode cX8_text 539 = .ok (.invokevirtual 82, 3) := by decide +kernel
theorem dX8_text_542 : decode cX8_text 542 = .ok (.ldc 114, 2) := by decide +kernel
theorem dX8_text_544 : decode cX8_text 544 = .ok (.invokevirtual 82, 3) := by decide +kernel
theorem dX8_text_547 : decode cX8_text 547 = .ok (.invokevirtual 89, 3) := by decide +kernel
theorem dX8_text_550 : decode cX8_text 550 = .ok (.areturn, 1) := by decide +kernel
