theorem dX7_spread_61 : decode cX7_spread 61 = .ok (.istore_n 3, 1) := by decide +kernel
theorem dX7_spread_62 : decode cX7_spread 62 = .ok (.iload_n 3, 1) := by decide +kernel
theorem dX7_spread_63 : decode cX7_spread 63 = .ok (.aload_n 0, 1) := by decide +kernel
theorem dX7_spread_64 : decode cX7_spread 64 = .ok (.getfield 60, 3) := by decide +kernel
theorem dX7_spread_67 : decode cX7_spread 67 = .ok (.if_icmp .ge 29, 3) := by decide +kernel
theorem dX7_spread_70 : decode cX7_spread 70 = .ok (.aload_n 0, 1) := by decide +kernel
theorem dX7_spread_71 : decode cX7_spread 71 = .ok (.getfield 15, 3) := by decide +kernel
theorem dX7_spread_74 : decode cX7_spread 74 = .ok (.aload_n 0, 1) := by decide +kernel
theorem dX7_spread_75 : decode cX7_spread 75 = .ok (.getfield 18, 3) := by decide +kernel
theorem dX7_spread_78 : decode cX7_spread 78 = .ok (.iload_n 3, 1) := by decide +kernel
theorem dX7_spread_79 : decode cX7_spread 79 = .ok (.iaload, 1) := by decide +kernel
theorem dX7_spread_80 : decode cX7_spread 80 = .ok (.dup2, 1) := by decide +kernel
theorem dX7_spread_81 : decode cX7_spread 81 = .ok (.iaload, 1) := by decide +kernel
theorem dX7_spread_82 : decode cX7_spread 82 = .ok (.aload_n 0, 1) := by decide +kernel
theorem dX7_spread_83 : decode cX7_spread 83 = .ok (.getfield 21, 3) := by decide +kernel
theorem dX7_spread_86 : decode cX7_spread 86 = .ok (.iload_n 3, 1) := by decide +kernel
theorem dX7_spread_87 : decode cX7_spread 87 = .ok (.iaload, 1) := by decide +kernel
theorem dX7_spread_88 : decode cX7_spread 88 = .ok (.iadd, 1) := by decide +kernel
theorem dX7_spread_89 : decode cX7_spread 89 = .ok (.iastore, 1) := by decide +kernel
theorem dX7_spread_90 : decode cX7_spread 90 = .ok (.iinc 3 1, 3) := by decide +kernel
theorem dX7_spread_93 : decode cX7_spread 93 = .ok (.goto (-31), 3) := by decide +kernel
theorem dX7_spread_96 : decode cX7_spread 96 = .ok (.return_, 1) := by decide +kernel
theorem dX7_staysWell_0 : decode cX7_staysWell 0 = .ok (.ldc 37, 2) := by decide +kernel
theorem dX7_staysWell_2 : decode cX7_staysWell 2 = .ok (.istore 4, 2) := by decide +kernel
theorem dX7_staysWell_4 : decode cX7_staysWell 4 = .ok (.iconst 0, 1) := by decide +kernel
theorem dX7_staysWell_5 : decode cX7_staysWell 5 = .ok (.istore 5, 2) := by decide +kernel
theorem dX7_staysWell_7 : decode cX7_staysWell 7 = .ok (.iload 5, 2) := by decide +kernel
theorem dX7_staysWell_9 : decode cX7_staysWell 9 = .ok (.aload_n 1, 1) := by decide +kernel
theorem dX7_staysWell_10 : decode cX7_staysWell 10 = .ok (.getfield 42, 3) := by decide +kernel
theorem dX7_staysWell_13 : decode cX7_staysWell 13 = .ok (.if_icmp .ge 41, 3) := by decide +kernel
theorem dX7_staysWell_16 : decode cX7_staysWell 16 = .ok (.iload_n 2, 1) := by decide +kernel
theorem dX7_staysWell_17 : decode cX7_staysWell 17 = .ok (.iload 5, 2) := by decide +kernel
theorem dX7_staysWell_19 : decode cX7_staysWell 19 = .ok (.invokestatic 63, 3) := by decide +kernel
theorem dX7_staysWell_22 : decode cX7_staysWell 22 = .ok (.ifCond .eq 26, 3) := by decide +kernel
theorem dX7_staysWell_25 : decode cX7_staysWell 25 = .ok (.iload 4, 2) := by decide +kernel
theorem dX7_staysWell_27 : decode cX7_staysWell 27 = .ok (.bipush 100, 2) := by decide +kernel
theorem dX7_staysWell_29 : decode cX7_staysWell 29 = .ok (.aload_n 1, 1) := by decide +kernel
theorem dX7_staysWell_30 : decode cX7_staysWell 30 = .ok (.getfield 75, 3) := by decide +kernel
theorem dX7_staysWell_33 : decode cX7_staysWell 33 = .ok (.iload 5, 2) := by decide +kernel
theorem dX7_staysWell_35 : decode cX7_staysWell 35 = .ok (.bipush 10, 2) := by decide +kernel
theorem dX7_staysWell_37 : decode cX7_staysWell 37 = .ok (.imul, 1) := by decide +kernel
theorem dX7_staysWell_38 : decode cX7_staysWell 38 = .ok (.iload_n 3, 1) := by decide +kernel
theorem dX7_staysWell_39 : decode cX7_staysWell 39 = .ok (.iadd, 1) := by decide +kernel
theorem dX7_staysWell_40 : decode cX7_staysWell 40 = .ok (.iaload, 1) := by decide +kernel
theorem dX7_staysWell_41 : decode cX7_staysWell 41 = .ok (.isub, 1) := by decide +kernel
theorem dX7_staysWell_42 : decode cX7_staysWell 42 = .ok (.imul, 1) := by decide +kernel
theorem dX7_staysWell_43 : decode cX7_staysWell 43 = .ok (.bipush 100, 2) := by decide +kernel
theorem dX7_staysWell_45 : decode cX7_staysWell 45 = .ok (.idiv, 1) := by decide +kernel
theorem dX7_staysWell_46 : decode cX7_staysWell 46 = .ok (.istore 4, 2) := by decide +kernel
theorem dX7_staysWell_48 : decode cX7_staysWell 48 = .ok (.iinc 5 1, 3) := by decide +kernel
theorem dX7_staysWell_51 : decode cX7_staysWell 51 = .ok (.goto (-44), 3) := by decide +kernel
theorem dX7_staysWell_54 : decode cX7_staysWell 54 = .ok (.iload 4, 2) := by decide +kernel
theorem dX7_staysWell_56 : decode cX7_staysWell 56 = .ok (.ireturn, 1) := by decide +kernel
theorem dX7_divide_0 : decode cX7_divide 0 = .ok (.aload_n 0, 1) := by decide +kernel
theorem dX7_divide_1 : decode cX7_divide 1 = .ok (.getfield 60, 3) := by decide +kernel
theorem dX7_divide_4 : decode cX7_divide 4 = .ok (.istore_n 3, 1) := by decide +kernel
theorem dX7_divide_5 : decode cX7_divide 5 = .ok (.iconst 0, 1) := by decide +kernel
theorem dX7_divide_6 : decode cX7_divide 6 = .ok (.istore 4, 2) := by decide +kernel
theorem dX7_divide_8 : decode cX7_divide 8 = .ok (.iload 4, 2) := by decide +kernel
theorem dX7_divide_10 : decode cX7_divide 10 = .ok (.iload_n 3, 1) := by decide +kernel
theorem dX7_divide_11 : decode cX7_divide 11 = .ok (.if_icmp .ge 112, 3) := by decide +kernel
theorem dX7_divide_14 : decode cX7_divide 14 = .ok (.aload_n 0, 1) := by decide +kernel
theorem dX7_divide_15 : decode cX7_divide 15 = .ok (.getfield 21, 3) := by decide +kernel
theorem dX7_divide_18 : decode cX7_divide 18 = .ok (.iload 4, 2) := by decide +kernel
theorem dX7_divide_20 : decode cX7_divide 20 = .ok (.iaload, 1) := by decide +kernel
theorem dX7_divide_21 : decode cX7_divide 21 = .ok (.istore 5, 2) := by decide +kernel
theorem dX7_divide_23 : decode cX7_divide 23 = .ok (.iload 5, 2) := by decide +kernel
theorem dX7_divide_25 : decode cX7_divide 25 = .ok (.i2l, 1) := by decide +kernel
theorem dX7_divide_26 : decode cX7_divide 26 = .ok (.iload_n 2, 1) := by decide +kernel
theorem dX7_divide_27 : decode cX7_divide 27 = .ok (.i2l, 1) := by decide +kernel
theorem dX7_divide_28 : decode cX7_divide 28 = .ok (.lmul, 1) := by decide +kernel
theorem dX7_divide_29 : decode cX7_divide 29 = .ok (.ldc2_w 78, 3) := by decide +kernel
theorem dX7_divide_32 : decode cX7_divide 32 = .ok (.ldiv, 1) := by decide +kernel
theorem dX7_divide_33 : decode cX7_divide 33 = .ok (.l2i, 1) := by decide +kernel
theorem dX7_divide_34 : decode cX7_divide 34 = .ok (.istore 6, 2) := by decide +kernel
theorem dX7_divide_36 : decode cX7_divide 36 = .ok (.aload_n 0, 1) := by decide +kernel
theorem dX7_divide_37 : decode cX7_divide 37 = .ok (.getfield 18, 3) := by decide +kernel
theorem dX7_divide_40 : decode cX7_divide 40 = .ok (.iload 4, 2) := by decide +kernel
theorem dX7_divide_42 : decode cX7_divide 42 = .ok (.iaload, 1) := by decide +kernel
theorem dX7_divide_43 : decode cX7_divide 43 = .ok (.iconst 1, 1) := by decide +kernel
theorem dX7_divide_44 : decode cX7_divide 44 = .ok (.iload_n 1, 1) := by decide +kernel
theorem dX7_divide_45 : decode cX7_divide 45 = .ok (.ishl, 1) := by decide +kernel
theorem dX7_divide_46 : decode cX7_divide 46 = .ok (.ior, 1) := by decide +kernel
theorem dX7_divide_47 : decode cX7_divide 47 = .ok (.istore 7, 2) := by decide +kernel
theorem dX7_divide_49 : decode cX7_divide 49 = .ok (.iload 6, 2) := by decide +kernel
theorem dX7_divide_51 : decode cX7_divide 51 = .ok (.ifCond .ne 15, 3) := by decide +kernel
theorem dX7_divide_54 : decode cX7_divide 54 = .ok (.aload_n 0, 1) := by decide +kernel
theorem dX7_divide_55 : decode cX7_divide 55 = .ok (.getfield 18, 3) := by decide +kernel
theorem dX7_divide_58 : decode cX7_divide 58 = .ok (.iload 4, 2) := by decide +kernel
theorem dX7_divide_60 : decode cX7_divide 60 = .ok (.iload 7, 2) := by decide +kernel
theorem dX7_divide_62 : decode cX7_divide 62 = .ok (.iastore, 1) := by decide +kernel
theorem dX7_divide_63 : decode cX7_divide 63 = .ok (.goto 54, 3) := by decide +kernel
theorem dX7_divide_66 : decode cX7_divide 66 = .ok (.iload 6, 2) := by decide +kernel
theorem dX7_divide_68 : decode cX7_divide 68 = .ok (.iload 5, 2) := by decide +kernel
theorem dX7_divide_70 : decode cX7_divide 70 = .ok (.if_icmp .ge 47, 3) := by decide +kernel
theorem dX7_divide_73 : decode cX7_divide 73 = .ok (.aload_n 0, 1) := by decide +kernel
theorem dX7_divide_74 : decode cX7_divide 74 = .ok (.getfield 21, 3) := by decide +kernel
theorem dX7_divide_77 : decode cX7_divide 77 = .ok (.iload 4, 2) := by decide +kernel
theorem dX7_divide_79 : decode cX7_divide 79 = .ok (.iload 6, 2) := by decide +kernel
theorem dX7_divide_81 : decode cX7_divide 81 = .ok (.iastore, 1) := by decide +kernel
theorem dX7_divide_82 : decode cX7_divide 82 = .ok (.aload_n 0, 1) := by decide +kernel
theorem dX7_divide_83 : decode cX7_divide 83 = .ok (.getfield 18, 3) := by decide +kernel
theorem dX7_divide_86 : decode cX7_divide 86 = .ok (.aload_n 0, 1) := by decide +kernel
theorem dX7_divide_87 : decode cX7_divide 87 = .ok (.getfield 60, 3) := by decide +kernel
theorem dX7_divide_90 : decode cX7_divide 90 = .ok (.iload 7, 2) := by decide +kernel
theorem dX7_divide_92 : decode cX7_divide 92 = .ok (.iastore, 1) := by decide +kernel
theorem dX7_divide_93 : decode cX7_divide 93 = .ok (.aload_n 0, 1) := by decide +kernel
theorem dX7_divide_94 : decode cX7_divide 94 = .ok (.getfield 21, 3) := by decide +kernel
theorem dX7_divide_97 : decode cX7_divide 97 = .ok (.aload_n 0, 1) := by decide +kernel
theorem dX7_divide_98 : decode cX7_divide 98 = .ok (.getfield 60, 3) := by decide +kernel
theorem dX7_divide_101 : decode cX7_divide 101 = .ok (.iload 5, 2) := by decide +kernel
theorem dX7_divide_103 : decode cX7_divide 103 = .ok (.iload 6, 2) := by decide +kernel
theorem dX7_divide_105 : decode cX7_divide 105 = .ok (.isub, 1) := by decide +kernel
theorem dX7_divide_106 : decode cX7_divide 106 = .ok (.iastore, 1) := by decide +kernel
theorem dX7_divide_107 : decode cX7_divide 107 = .ok (.aload_n 0, 1) := by decide +kernel
theorem dX7_divide_108 : decode cX7_divide 108 = .ok (.dup, 1) := by decide +kernel
theorem dX7_divide_109 : decode cX7_divide 109 = .ok (.getfield 60, 3) := by decide +kernel
theorem dX7_divide_112 : decode cX7_divide 112 = .ok (.iconst 1, 1) := by decide +kernel
theorem dX7_divide_113 : decode cX7_divide 113 = .ok (.iadd, 1) := by decide +kernel
theorem dX7_divide_114 : decode cX7_divide 114 = .ok (.putfield 60, 3) := by decide +kernel
theorem dX7_divide_117 : decode cX7_divide 117 = .ok (.iinc 4 1, 3) := by decide +kernel
theorem dX7_divide_120 : decode cX7_divide 120 = .ok (.goto (-112), 3) := by decide +kernel
theorem dX7_divide_123 : decode cX7_divide 123 = .ok (.return_, 1) := by decide +kernel
theorem dX7_timesIll_0 : decode cX7_timesIll 0 = .ok (.iconst 0, 1) := by decide +kernel
theorem dX7_timesIll_1 : decode cX7_timesIll 1 = .ok (.istore_n 3, 1) := by decide +kernel
theorem dX7_timesIll_2 : decode cX7_timesIll 2 = .ok (.iconst 0, 1) := by decide +kernel
theorem dX7_timesIll_3 : decode cX7_timesIll 3 = .ok (.istore 4, 2) := by decide +kernel
theorem dX7_timesIll_5 : decode cX7_timesIll 5 = .ok (.iload 4, 2) := by decide +kernel
theorem dX7_timesIll_7 : decode cX7_timesIll 7 = .ok (.iconst 1, 1) := by decide +kernel
theorem dX7_timesIll_8 : decode cX7_timesIll 8 = .ok (.aload_n 1, 1) := by decide +kernel
theorem dX7_timesIll_9 : decode cX7_timesIll 9 = .ok (.getfield 42, 3) := by decide +kernel
theorem dX7_timesIll_12 : decode cX7_timesIll 12 = .ok (.ishl, 1) := by decide +kernel
theorem dX7_timesIll_13 : decode cX7_timesIll 13 = .ok (.if_icmp .ge 28, 3) := by decide +kernel
theorem dX7_timesIll_16 : decode cX7_timesIll 16 = .ok (.iload 4, 2) := by decide +kernel
theorem dX7_timesIll_18 : decode cX7_timesIll 18 = .ok (.iload_n 2, 1) := by decide +kernel
theorem dX7_timesIll_19 : decode cX7_timesIll 19 = .ok (.invokestatic 63, 3) := by decide +kernel
theorem dX7_timesIll_22 : decode cX7_timesIll 22 = .ok (.ifCond .eq 13, 3) := by decide +kernel
theorem dX7_timesIll_25 : decode cX7_timesIll 25 = .ok (.iload_n 3, 1) := by decide +kernel
theorem dX7_timesIll_26 : decode cX7_timesIll 26 = .ok (.aload_n 0, 1) := by decide +kernel
theorem dX7_timesIll_27 : decode cX7_timesIll 27 = .ok (.getfield 9, 3) := by decide +kernel
theorem dX7_timesIll_30 : decode cX7_timesIll 30 = .ok (.iload 4, 2) := by decide +kernel
theorem dX7_timesIll_32 : decode cX7_timesIll 32 = .ok (.iaload, 1) := by decide +kernel
theorem dX7_timesIll_33 : decode cX7_timesIll 33 = .ok (.iadd, 1) := by decide +kernel
theorem dX7_timesIll_34 : decode cX7_timesIll 34 = .ok (.istore_n 3, 1) := by decide +kernel
theorem dX7_timesIll_35 : decode cX7_timesIll 35 = .ok (.iinc 4 1, 3) := by decide +kernel
theorem dX7_timesIll_38 : decode cX7_timesIll 38 = .ok (.goto (-33), 3) := by decide +kernel
theorem dX7_timesIll_41 : decode cX7_timesIll 41 = .ok (.iload_n 3, 1) := by decide +kernel
theorem dX7_timesIll_42 : decode cX7_timesIll 42 = .ok (.ireturn, 1) := by decide +kernel
theorem dX7_timesMet_0 : decode cX7_timesMet 0 = .ok (.iconst 0, 1) := by decide +kernel
theorem dX7_timesMet_1 : decode cX7_timesMet 1 = .ok (.istore_n 3, 1) := by decide +kernel
theorem dX7_timesMet_2 : decode cX7_timesMet 2 = .ok (.iconst 0, 1) := by decide +kernel
theorem dX7_timesMet_3 : decode cX7_timesMet 3 = .ok (.istore 4, 2) := by decide +kernel
theorem dX7_timesMet_5 : decode cX7_timesMet 5 = .ok (.iload 4, 2) := by decide +kernel
theorem dX7_timesMet_7 : decode cX7_timesMet 7 = .ok (.iconst 1, 1) := by decide +kernel
theorem dX7_timesMet_8 : decode cX7_timesMet 8 = .ok (.aload_n 1, 1) := by decide +kernel
theorem dX7_timesMet_9 : decode cX7_timesMet 9 = .ok (.getfield 42, 3) := by decide +kernel
theorem dX7_timesMet_12 : decode cX7_timesMet 12 = .ok (.ishl, 1) := by decide +kernel
theorem dX7_timesMet_13 : decode cX7_timesMet 13 = .ok (.if_icmp .ge 39, 3) := by decide +kernel
theorem dX7_timesMet_16 : decode cX7_timesMet 16 = .ok (.aload_n 0, 1) := by decide +kernel
theorem dX7_timesMet_17 : decode cX7_timesMet 17 = .ok (.getfield 9, 3) := by decide +kernel
theorem dX7_timesMet_20 : decode cX7_timesMet 20 = .ok (.iload 4, 2) := by decide +kernel
theorem dX7_timesMet_22 : decode cX7_timesMet 22 = .ok (.iaload, 1) := by decide +kernel
theorem dX7_timesMet_23 : decode cX7_timesMet 23 = .ok (.ifCond .le 23, 3) := by decide +kernel
theorem dX7_timesMet_26 : decode cX7_timesMet 26 = .ok (.aload_n 2, 1) := by decide +kernel
theorem dX7_timesMet_27 : decode cX7_timesMet 27 = .ok (.aload_n 1, 1) := by decide +kernel
theorem dX7_timesMet_28 : decode cX7_timesMet 28 = .ok (.iload 4, 2) := by decide +kernel
theorem dX7_timesMet_30 : decode cX7_timesMet 30 = .ok (.invokevirtual 80, 3) := by decide +kernel
theorem dX7_timesMet_33 : decode cX7_timesMet 33 = .ok (.ifCond .eq 13, 3) := by decide +kernel
theorem dX7_timesMet_36 : decode cX7_timesMet 36 = .ok (.iload_n 3, 1) := by decide +kernel
theorem dX7_timesMet_37 : decode cX7_timesMet 37 = .ok (.aload_n 0, 1) := by decide +kernel
theorem dX7_timesMet_38 : decode cX7_timesMet 38 = .ok (.getfield 9, 3) := by decide +kernel
theorem dX7_timesMet_41 : decode cX7_timesMet 41 = .ok (.iload 4, 2) := by decide +kernel
theorem dX7_timesMet_43 : decode cX7_timesMet 43 = .ok (.iaload, 1) := by decide +kernel
theorem dX7_timesMet_44 : decode cX7_timesMet 44 = .ok (.iadd, 1) := by decide +kernel
theorem dX7_timesMet_45 : decode cX7_timesMet 45 = .ok (.istore_n 3, 1) := by decide +kernel
theorem dX7_timesMet_46 : decode cX7_timesMet 46 = .ok (.iinc 4 1, 3) := by decide +kernel
theorem dX7_timesMet_49 : decode cX7_timesMet 49 = .ok (.goto (-44), 3) := by decide +kernel
theorem dX7_timesMet_52 : decode cX7_timesMet 52 = .ok (.iload_n 3, 1) := by decide +kernel
theorem dX7_timesMet_53 : decode cX7_timesMet 53 = .ok (.ireturn, 1) := by decide +kernel
theorem dX7_likeliest_0 : decode cX7_likeliest 0 = .ok (.iconst 0, 1) := by decide +kernel
theorem dX7_likeliest_1 : decode cX7_likeliest 1 = .ok (.istore_n 2, 1) := by decide +kernel
theorem dX7_likeliest_2 : decode cX7_likeliest 2 = .ok (.iconst 1, 1) := by decide +kernel
theorem dX7_likeliest_3 : decode cX7_likeliest 3 = .ok (.istore_n 3, 1) := by decide +kernel
theorem dX7_likeliest_4 : decode cX7_likeliest 4 = .ok (.iload_n 3, 1) := by decide +kernel
theorem dX7_likeliest_5 : decode cX7_likeliest 5 = .ok (.iconst 1, 1) := by decide +kernel
theorem dX7_likeliest_6 : decode cX7_likeliest 6 = .ok (.aload_n 1, 1) := by decide +kernel
theorem dX7_likeliest_7 : decode cX7_likeliest 7 = .ok (.getfield 42, 3) := by decide +kernel
theorem dX7_likeliest_10 : decode cX7_likeliest 10 = .ok (.ishl, 1) := by decide +kernel
theorem dX7_likeliest_11 : decode cX7_likeliest 11 = .ok (.if_icmp .ge 26, 3) := by decide +kernel
theorem dX7_likeliest_14 : decode cX7_likeliest 14 = .ok (.aload_n 0, 1) := by decide +kernel
theorem dX7_likeliest_15 : decode cX7_likeliest 15 = .ok (.getfield 9, 3) := by decide +kernel
theorem dX7_likeliest_18 : decode cX7_likeliest 18 = .ok (.iload_n 3, 1) := by decide +kernel
theorem dX7_likeliest_19 : decode cX7_likeliest 19 = .ok (.iaload, 1) := by decide +kernel
theorem dX7_likeliest_20 : decode cX7_likeliest 20 = .ok (.aload_n 0, 1) := by decide +kernel
theorem dX7_likeliest_21 : decode cX7_likeliest 21 = .ok (.getfield 9, 3) := by decide +kernel
theorem dX7_likeliest_24 : decode cX7_likeliest 24 = .ok (.iload_n 2, 1) := by decide +kernel
theorem dX7_likeliest_25 : decode cX7_likeliest 25 = .ok (.iaload, 1) := by decide +kernel
theorem dX7_likeliest_26 : decode cX7_likeliest 26 = .ok (.if_icmp .le 5, 3) := by decide +kernel
theorem dX7_likeliest_29 : decode cX7_likeliest 29 = .ok (.iload_n 3, 1) := by decide +kernel
theorem dX7_likeliest_30 : decode cX7_likeliest 30 = .ok (.istore_n 2, 1) := by decide +kernel
theorem dX7_likeliest_31 : decode cX7_likeliest 31 = .ok (.iinc 3 1, 3) := by decide +kernel
theorem dX7_likeliest_34 : decode cX7_likeliest 34 = .ok (.goto (-30), 3) := by decide +kernel
theorem dX7_likeliest_37 : decode cX7_likeliest 37 = .ok (.iload_n 2, 1) := by decide +kernel
theorem dX7_likeliest_38 : decode cX7_likeliest 38 = .ok (.ireturn, 1) := by decide +kernel
theorem dX8_init_0 : decode cX8_init 0 = .ok (.aload_n 0, 1) := by decide +kernel
theorem dX8_init_1 : decode cX8_init 1 = .ok (.invokespecial 3, 3) := by decide +kernel
theorem dX8_init_4 : decode cX8_init 4 = .ok (.aload_n 0, 1) := by decide +kernel
theorem dX8_init_5 : decode cX8_init 5 = .ok (.bipush 32, 2) := by decide +kernel
theorem dX8_init_7 : decode cX8_init 7 = .ok (.newarray .int, 2) := by decide +kernel
theorem dX8_init_9 : decode cX8_init 9 = .ok (.putfield 11, 3) := by decide +kernel
theorem dX8_init_12 : decode cX8_init 12 = .ok (.aload_n 0, 1) := by decide +kernel
theorem dX8_init_13 : decode cX8_init 13 = .ok (.bipush 32, 2) := by decide +kernel
theorem dX8_init_15 : decode cX8_init 15 = .ok (.newarray .int, 2) := by decide +kernel
theorem dX8_init_17 : decode cX8_init 17 = .ok (.putfield 15, 3) := by decide +kernel
theorem dX8_init_20 : decode cX8_init 20 = .ok (.aload_n 0, 1) := by decide +kernel
theorem dX8_init_21 : decode cX8_init 21 = .ok (.bipush 32, 2) := by decide +kernel
theorem dX8_init_23 : decode cX8_init 23 = .ok (.newarray .int, 2) := by decide +kernel
theorem dX8_init_25 : decode cX8_init 25 = .ok (.putfield 18, 3) := by decide +kernel
theorem dX8_init_28 : decode cX8_init 28 = .ok (.aload_n 0, 1) := by decide +kernel
theorem dX8_init_29 : decode cX8_init 29 = .ok (.sipush 3300, 3) := by decide +kernel
theorem dX8_init_32 : decode cX8_init 32 = .ok (.newarray .int, 2) := by decide +kernel
theorem dX8_init_34 : decode cX8_init 34 = .ok (.putfield 21, 3) := by decide +kernel
theorem dX8_init_37 : decode cX8_init 37 = .ok (.aload_n 0, 1) := by decide +kernel
theorem dX8_init_38 : decode cX8_init 38 = .ok (.bipush 32, 2) := by decide +kernel
theorem dX8_init_40 : decode cX8_init 40 = .ok (.newarray .int, 2) := by decide +kernel
theorem dX8_init_42 : decode cX8_init 42 = .ok (.putfield 24, 3) := by decide +kernel
theorem dX8_init_45 : decode cX8_init 45 = .ok (.return_, 1) := by decide +kernel
theorem dX8_plan_0 : decode cX8_plan 0 = .ok (.aload_n 0, 1) := by decide +kernel
theorem dX8_plan_1 : decode cX8_plan 1 = .ok (.aload_n 1, 1) := by decide +kernel
theorem dX8_plan_2 : decode cX8_plan 2 = .ok (.aload_n 2, 1) := by decide +kernel
theorem dX8_plan_3 : decode cX8_plan 3 = .ok (.invokevirtual 27, 3) := by decide +kernel
theorem dX8_plan_6 : decode cX8_plan 6 = .ok (.aload_n 0, 1) := by decide +kernel
theorem dX8_plan_7 : decode cX8_plan 7 = .ok (.iload_n 3, 1) := by decide +kernel
theorem dX8_plan_8 : decode cX8_plan 8 = .ok (.invokevirtual 31, 3) := by decide +kernel
theorem dX8_plan_11 : decode cX8_plan 11 = .ok (.aload_n 0, 1) := by decide +kernel
theorem dX8_plan_12 : decode cX8_plan 12 = .ok (.iload_n 3, 1) := by decide +kernel
theorem dX8_plan_13 : decode cX8_plan 13 = .ok (.invokevirtual 35, 3) := by decide +kernel
theorem dX8_plan_16 : decode cX8_plan 16 = .ok (.return_, 1) := by decide +kernel
theorem dX8_listPairs_0 : decode cX8_listPairs 0 = .ok (.aload_n 0, 1) := by decide +kernel
theorem dX8_listPairs_1 : decode cX8_listPairs 1 = .ok (.iconst 0, 1) := by decide +kernel
theorem dX8_listPairs_2 : decode cX8_listPairs 2 = .ok (.putfield 38, 3) := by decide +kernel
theorem dX8_listPairs_5 : decode cX8_listPairs 5 = .ok (.iconst 0, 1) := by decide +kernel
theorem dX8_listPairs_6 : decode cX8_listPairs 6 = .ok (.istore_n 3, 1) := by decide +kernel
theorem dX8_listPairs_7 : decode cX8_listPairs 7 = .ok (.iload_n 3, 1) := by decide +kernel
theorem dX8_listPairs_8 : decode cX8_listPairs 8 = .ok (.aload_n 1, 1) := by decide +kernel
theorem dX8_listPairs_9 : decode cX8_listPairs 9 = .ok (.getfield 42, 3) := by decide +kernel
theorem dX8_listPairs_12 : decode cX8_listPairs 12 = .ok (.if_icmp .ge 117, 3) := by decide +kernel
theorem dX8_listPairs_15 : decode cX8_listPairs 15 = .ok (.iconst 0, 1) := by decide +kernel
theorem dX8_listPairs_16 : decode cX8_listPairs 16 = .ok (.istore 4, 2) := by decide +kernel
theorem dX8_listPairs_18 : decode cX8_listPairs 18 = .ok (.iload 4, 2) := by decide +kernel
theorem dX8_listPairs_20 : decode cX8_listPairs 20 = .ok (.aload_n 1, 1) := by decide +kernel
theorem dX8_listPairs_21 : decode cX8_listPairs 21 = .ok (.getfield 47, 3) := by decide +kernel
theorem dX8_listPairs_24 : decode cX8_listPairs 24 = .ok (.if_icmp .ge 99, 3) := by decide +kernel
theorem dX8_listPairs_27 : decode cX8_listPairs 27 = .ok (.aload_n 1, 1) := by decide +kernel
theorem dX8_listPairs_28 : decode cX8_listPairs 28 = .ok (.iload_n 3, 1) := by decide +kernel
theorem dX8_listPairs_29 : decode cX8_listPairs 29 = .ok (.iload 4, 2) := by decide +kernel
theorem dX8_listPairs_31 : decode cX8_listPairs 31 = .ok (.invokevirtual 50, 3) := by decide +kernel
theorem dX8_listPairs_34 : decode cX8_listPairs 34 = .ok (.ifCond .eq 14, 3) := by decide +kernel
theorem dX8_listPairs_37 : decode cX8_listPairs 37 = .ok (.aload_n 2, 1) := by decide +kernel
theorem dX8_listPairs_38 : decode cX8_listPairs 38 = .ok (.aload_n 1, 1) := by decide +kernel
theorem dX8_listPairs_39 : decode cX8_listPairs 39 = .ok (.iload_n 3, 1) := by decide +kernel
theorem dX8_listPairs_40 : decode cX8_listPairs 40 = .ok (.iload 4, 2) := by decide +kernel
theorem dX8_listPairs_42 : decode cX8_listPairs 42 = .ok (.invokevirtual 54, 3) := by decide +kernel
theorem dX8_listPairs_45 : decode cX8_listPairs 45 = .ok (.goto 4, 3) := by decide +kernel
theorem dX8_listPairs_48 : decode cX8_listPairs 48 = .ok (.iconst 0, 1) := by decide +kernel
theorem dX8_listPairs_49 : decode cX8_listPairs 49 = .ok (.istore 5, 2) := by decide +kernel
theorem dX8_listPairs_51 : decode cX8_listPairs 51 = .ok (.iload 5, 2) := by decide +kernel
theorem dX8_listPairs_53 : decode cX8_listPairs 53 = .ok (.ifCond .le 64, 3) := by decide +kernel
theorem dX8_listPairs_56 : decode cX8_listPairs 56 = .ok (.aload_n 0, 1) := by decide +kernel
theorem dX8_listPairs_57 : decode cX8_listPairs 57 = .ok (.getfield 38, 3) := by decide +kernel
theorem dX8_listPairs_60 : decode cX8_listPairs 60 = .ok (.bipush 32, 2) := by decide +kernel
theorem dX8_listPairs_62 : decode cX8_listPairs 62 = .ok (.if_icmp .ge 55, 3) := by decide +kernel
theorem dX8_listPairs_65 : decode cX8_listPairs 65 = .ok (.aload_n 0, 1) := by decide +kernel
theorem dX8_listPairs_66 : decode cX8_listPairs 66 = .ok (.getfield 11, 3) := by decide +kernel
theorem dX8_listPairs_69 : decode cX8_listPairs 69 = .ok (.aload_n 0, 1) := by decide +kernel
theorem dX8_listPairs_70 : decode cX8_listPairs 70 = .ok (.getfield 38, 3) := by decide +kernel
theorem dX8_listPairs_73 : decode cX8_listPairs 73 = .ok (.bipush 10, 2) := by decide +kernel
theorem dX8_listPairs_75 : decode cX8_listPairs 75 = .ok (.iload_n 3, 1) := by decide +kernel
theorem dX8_listPairs_76 : decode cX8_listPairs 76 = .ok (.imul, 1) := by decide +kernel
theorem dX8_listPairs_77 : decode cX8_listPairs 77 = .ok (.iload 4, 2) := by decide +kernel
theorem dX8_listPairs_79 : decode cX8_listPairs 79 = .ok (.iadd, 1) := by decide +kernel
theorem dX8_listPairs_80 : decode cX8_listPairs 80 = .ok (.iastore, 1) := by decide +kernel
theorem dX8_listPairs_81 : decode cX8_listPairs 81 = .ok (.aload_n 0, 1) := by decide +kernel
theorem dX8_listPairs_82 : decode cX8_listPairs 82 = .ok (.getfield 15, 3) := by decide +kernel
theorem dX8_listPairs_85 : decode cX8_listPairs 85 = .ok (.aload_n 0, 1) := by decide +kernel
theorem dX8_listPairs_86 : decode cX8_listPairs 86 = .ok (.getfield 38, 3) := by decide +kernel
theorem dX8_listPairs_89 : decode cX8_listPairs 89 = .ok (.aload_n 1, 1) := by decide +kernel
theorem dX8_listPairs_90 : decode cX8_listPairs 90 = .ok (.iload 4, 2) := by decide +kernel
theorem dX8_listPairs_92 : decode cX8_listPairs 92 = .ok (.invokevirtual 60, 3) := by decide +kernel
theorem dX8_listPairs_95 : decode cX8_listPairs 95 = .ok (.iastore, 1) := by decide +kernel
theorem dX8_listPairs_96 : decode cX8_listPairs 96 = .ok (.aload_n 0, 1) := by decide +kernel
theorem dX8_listPairs_97 : decode cX8_listPairs 97 = .ok (.getfield 18, 3) := by decide +kernel
theorem dX8_listPairs_100 : decode cX8_listPairs 100 = .ok (.aload_n 0, 1) := by decide +kernel
theorem dX8_listPairs_101 : decode cX8_listPairs 101 = .ok (.getfield 38, 3) := by decide +kernel
theorem dX8_listPairs_104 : decode cX8_listPairs 104 = .ok (.iload 5, 2) := by decide +kernel
theorem dX8_listPairs_106 : decode cX8_listPairs 106 = .ok (.iastore, 1) := by decide +kernel
theorem dX8_listPairs_107 : decode cX8_listPairs 107 = .ok (.aload_n 0, 1) := by decide +kernel
theorem dX8_listPairs_108 : decode cX8_listPairs 108 = .ok (.dup, 1) := by decide +kernel
theorem dX8_listPairs_109 : decode cX8_listPairs 109 = .ok (.getfield 38, 3) := by decide +kernel
theorem dX8_listPairs_112 : decode cX8_listPairs 112 = .ok (.iconst 1, 1) := by decide +kernel
theorem dX8_listPairs_113 : decode cX8_listPairs 113 = .ok (.iadd, 1) := by decide +kernel
theorem dX8_listPairs_114 : decode cX8_listPairs 114 = .ok (.putfield 38, 3) := by decide +kernel
theorem dX8_listPairs_117 : decode cX8_listPairs 117 = .ok (.iinc 4 1, 3) := by decide +kernel
theorem dX8_listPairs_120 : decode cX8_listPairs 120 = .ok (.goto (-102), 3) := by decide +kernel
theorem dX8_listPairs_123 : decode cX8_listPairs 123 = .ok (.iinc 3 1, 3) := by decide +kernel
theorem dX8_listPairs_126 : decode cX8_listPairs 126 = .ok (.goto (-119), 3) := by decide +kernel
theorem dX8_listPairs_129 : decode cX8_listPairs 129 = .ok (.return_, 1) := by decide +kernel
theorem dX8_weighPairs_0 : decode cX8_weighPairs 0 = .ok (.aload_n 0, 1) := by decide +kernel
theorem dX8_weighPairs_1 : decode cX8_weighPairs 1 = .ok (.getfield 21, 3) := by decide +kernel
theorem dX8_weighPairs_4 : decode cX8_weighPairs 4 = .ok (.aload_n 0, 1) := by decide +kernel
theorem dX8_weighPairs_5 : decode cX8_weighPairs 5 = .ok (.getfield 38, 3) := by decide +kernel
theorem dX8_weighPairs_8 : decode cX8_weighPairs 8 = .ok (.bipush 100, 2) := by decide +kernel
theorem dX8_weighPairs_10 : decode cX8_weighPairs 10 = .ok (.imul, 1) := by decide +kernel
theorem dX8_weighPairs_11 : decode cX8_weighPairs 11 = .ok (.aload_n 0, 1) := by decide +kernel
theorem dX8_weighPairs_12 : decode cX8_weighPairs 12 = .ok (.getfield 38, 3) := by decide +kernel
theorem dX8_weighPairs_15 : decode cX8_weighPairs 15 = .ok (.bipush 100, 2) := by decide +kernel
theorem dX8_weighPairs_17 : decode cX8_weighPairs 17 = .ok (.imul, 1) := by decide +kernel
theorem dX8_weighPairs_18 : decode cX8_weighPairs 18 = .ok (.bipush 100, 2) := by decide +kernel
theorem dX8_weighPairs_20 : decode cX8_weighPairs 20 = .ok (.iadd, 1) := by decide +kernel
theorem dX8_weighPairs_21 : decode cX8_weighPairs 21 = .ok (.iconst 0, 1) := by decide +kernel
theorem dX8_weighPairs_22 : decode cX8_weighPairs 22 = .ok (.invokestatic 64, 3) := by decide +kernel
theorem dX8_weighPairs_25 : decode cX8_weighPairs 25 = .ok (.aload_n 0, 1) := by decide +kernel
theorem dX8_weighPairs_26 : decode cX8_weighPairs 26 = .ok (.getfield 38, 3) := by decide +kernel
theorem dX8_weighPairs_29 : decode cX8_weighPairs 29 = .ok (.iconst 1, 1) := by decide +kernel
theorem dX8_weighPairs_30 : decode cX8_weighPairs 30 = .ok (.isub, 1) := by decide +kernel
theorem dX8_weighPairs_31 : decode cX8_weighPairs 31 = .ok (.istore_n 2, 1) := by decide +kernel
theorem dX8_weighPairs_32 : decode cX8_weighPairs 32 = .ok (.iload_n 2, 1) := by decide +kernel
theorem dX8_weighPairs_33 : decode cX8_weighPairs 33 = .ok (.ifCond .lt 59, 3) := by decide +kernel
theorem dX8_weighPairs_36 : decode cX8_weighPairs 36 = .ok (.iconst 0, 1) := by decide +kernel
theorem dX8_weighPairs_37 : decode cX8_weighPairs 37 = .ok (.istore_n 3, 1) := by decide +kernel
theorem dX8_weighPairs_38 : decode cX8_weighPairs 38 = .ok (.iload_n 3, 1) := by decide +kernel
theorem dX8_weighPairs_39 : decode cX8_weighPairs 39 = .ok (.iload_n 1, 1) := by decide +kernel
theorem dX8_weighPairs_40 : decode cX8_weighPairs 40 = .ok (.if_icmp .gt 46, 3) := by decide +kernel
theorem dX8_weighPairs_43 : decode cX8_weighPairs 43 = .ok (.aload_n 0, 1) := by decide +kernel
theorem dX8_weighPairs_44 : decode cX8_weighPairs 44 = .ok (.getfield 21, 3) := by decide +kernel
theorem dX8_weighPairs_47 : decode cX8_weighPairs 47 = .ok (.iload_n 2, 1) := by decide +kernel
theorem dX8_weighPairs_48 : decode cX8_weighPairs 48 = .ok (.iconst 1, 1) := by decide +kernel
theorem dX8_weighPairs_49 : decode cX8_weighPairs 49 = .ok (.iadd, 1) := by decide +kernel
theorem dX8_weighPairs_50 : decode cX8_weighPairs 50 = .ok (.bipush 100, 2) := by decide +kernel
theorem dX8_weighPairs_52 : decode cX8_weighPairs 52 = .ok (.imul, 1) := by decide +kernel
theorem dX8_weighPairs_53 : decode cX8_weighPairs 53 = .ok (.iload_n 3, 1) := by decide +kernel
theorem dX8_weighPairs_54 : decode cX8_weighPairs 54 = .ok (.iadd, 1) := by decide +kernel
theorem dX8_weighPairs_55 : decode cX8_weighPairs 55 = .ok (.iaload, 1) := by decide +kernel
theorem dX8_weighPairs_56 : decode cX8_weighPairs 56 = .ok (.istore 4, 2) := by decide +kernel
theorem dX8_weighPairs_58 : decode cX8_weighPairs 58 = .ok (.aload_n 0, 1) := by decide +kernel
theorem dX8_weighPairs_59 : decode cX8_weighPairs 59 = .ok (.getfield 21, 3) := by decide +kernel
theorem dX8_weighPairs_62 : decode cX8_weighPairs 62 = .ok (.iload_n 2, 1) := by decide +kernel
theorem dX8_weighPairs_63 : decode cX8_weighPairs 63 = .ok (.bipush 100, 2) := by decide +kernel
theorem dX8_weighPairs_65 : decode cX8_weighPairs 65 = .ok (.imul, 1) := by decide +kernel
theorem dX8_weighPairs_66 : decode cX8_weighPairs 66 = .ok (.iload_n 3, 1) := by decide +kernel
theorem dX8_weighPairs_67 : decode cX8_weighPairs 67 = .ok (.iadd, 1) := by decide +kernel
theorem dX8_weighPairs_68 : decode cX8_weighPairs 68 = .ok (.iload 4, 2) := by decide +kernel
theorem dX8_weighPairs_70 : decode cX8_weighPairs 70 = .ok (.aload_n 0, 1) := by decide +kernel
theorem dX8_weighPairs_71 : decode cX8_weighPairs 71 = .ok (.iload_n 2, 1) := by decide +kernel
theorem dX8_weighPairs_72 : decode cX8_weighPairs 72 = .ok (.iload_n 3, 1) := by decide +kernel
theorem dX8_weighPairs_73 : decode cX8_weighPairs 73 = .ok (.invokevirtual 70, 3) := by decide +kernel
theorem dX8_weighPairs_76 : decode cX8_weighPairs 76 = .ok (.invokestatic 74, 3) := by decide +kernel
theorem dX8_weighPairs_79 : decode cX8_weighPairs 79 = .ok (.iastore, 1) := by decide +kernel
theorem dX8_weighPairs_80 : decode cX8_weighPairs 80 = .ok (.iinc 3 1, 3) := by decide +kernel
theorem dX8_weighPairs_83 : decode cX8_weighPairs 83 = .ok (.goto (-45), 3) := by decide +kernel
theorem dX8_weighPairs_86 : decode cX8_weighPairs 86 = .ok (.iinc 2 (-1), 3) := by decide +kernel
theorem dX8_weighPairs_89 : decode cX8_weighPairs 89 = .ok (.goto (-57), 3) := by decide +kernel
theorem dX8_weighPairs_92 : decode cX8_weighPairs 92 = .ok (.return_, 1) := by decide +kernel
theorem dX8_worthWith_0 : decode cX8_worthWith 0 = .ok (.iload_n 2, 1) := by decide +kernel
theorem dX8_worthWith_1 : decode cX8_worthWith 1 = .ok (.aload_n 0, 1) := by decide +kernel
theorem dX8_worthWith_2 : decode cX8_worthWith 2 = .ok (.getfield 15, 3) := by decide +kernel
theorem dX8_worthWith_5 : decode cX8_worthWith 5 = .ok (.iload_n 1, 1) := by decide +kernel
theorem dX8_worthWith_6 : decode cX8_worthWith 6 = .ok (.iaload, 1) := by decide +kernel
theorem dX8_worthWith_7 : decode cX8_worthWith 7 = .ok (.isub, 1) := by decide +kernel
theorem dX8_worthWith_8 : decode cX8_worthWith 8 = .ok (.istore_n 3, 1) := by decide +kernel
theorem dX8_worthWith_9 : decode cX8_worthWith 9 = .ok (.iload_n 3, 1) := by decide +kernel
theorem dX8_worthWith_10 : decode cX8_worthWith 10 = .ok (.ifCond .ge 5, 3) := by decide +kernel
theorem dX8_worthWith_13 : decode cX8_worthWith 13 = .ok (.iconst (-1), 1) := by decide +kernel
theorem dX8_worthWith_14 : decode cX8_worthWith 14 = .ok (.ireturn, 1) := by decide +kernel
theorem dX8_worthWith_15 : decode cX8_worthWith 15 = .ok (.aload_n 0, 1) := by decide +kernel
theorem dX8_worthWith_16 : decode cX8_worthWith 16 = .ok (.getfield 18, 3) := by decide +kernel
theorem dX8_worthWith_19 : decode cX8_worthWith 19 = .ok (.iload_n 1, 1) := by decide +kernel
theorem dX8_worthWith_20 : decode cX8_worthWith 20 = .ok (.iaload, 1) := by decide +kernel
theorem dX8_worthWith_21 : decode cX8_worthWith 21 = .ok (.sipush 128, 3) := by decide +kernel
theorem dX8_worthWith_24 : decode cX8_worthWith 24 = .ok (.imul, 1) := by decide +kernel
theorem dX8_worthWith_25 : decode cX8_worthWith 25 = .ok (.aload_n 0, 1) := by decide +kernel
theorem dX8_worthWith_26 : decode cX8_worthWith 26 = .ok (.getfield 15, 3) := by decide +kernel
theorem dX8_worthWith_29 : decode cX8_worthWith 29 = .ok (.iload_n 1, 1) := by decide +kernel
theorem dX8_worthWith_30 : decode cX8_worthWith 30 = .ok (.iaload, 1) := by decide +kernel
theorem dX8_worthWith_31 : decode cX8_worthWith 31 = .ok (.isub, 1) := by decide +kernel
theorem dX8_worthWith_32 : decode cX8_worthWith 32 = .ok (.aload_n 0, 1) := by decide +kernel
theorem dX8_worthWith_33 : decode cX8_worthWith 33 = .ok (.getfield 21, 3) := by decide +kernel
theorem dX8_worthWith_36 : decode cX8_worthWith 36 = .ok (.iload_n 1, 1) := by decide +kernel
theorem dX8_worthWith_37 : decode cX8_worthWith 37 = .ok (.iconst 1, 1) := by decide +kernel
theorem dX8_worthWith_38 : decode cX8_worthWith 38 = .ok (.iadd, 1) := by decide +kernel
theorem dX8_worthWith_39 : decode cX8_worthWith 39 = .ok (.bipush 100, 2) := by decide +kernel
theorem dX8_worthWith_41 : decode cX8_worthWith 41 = .ok (.imul, 1) := by decide +kernel
theorem dX8_worthWith_42 : decode cX8_worthWith 42 = .ok (.iload_n 3, 1) := by decide +kernel
theorem dX8_worthWith_43 : decode cX8_worthWith 43 = .ok (.iadd, 1) := by decide +kernel
theorem dX8_worthWith_44 : decode cX8_worthWith 44 = .ok (.iaload, 1) := by decide +kernel
theorem dX8_worthWith_45 : decode cX8_worthWith 45 = .ok (.iadd, 1) := by decide +kernel
theorem dX8_worthWith_46 : decode cX8_worthWith 46 = .ok (.ireturn, 1) := by decide +kernel
theorem dX8_choosePairs_0 : decode cX8_choosePairs 0 = .ok (.aload_n 0, 1) := by decide +kernel
theorem dX8_choosePairs_1 : decode cX8_choosePairs 1 = .ok (.iconst 0, 1) := by decide +kernel
theorem dX8_choosePairs_2 : decode cX8_choosePairs 2 = .ok (.putfield 79, 3) := by decide +kernel
theorem dX8_choosePairs_5 : decode cX8_choosePairs 5 = .ok (.aload_n 0, 1) := by decide +kernel
theorem dX8_choosePairs_6 : decode cX8_choosePairs 6 = .ok (.iconst 0, 1) := by decide +kernel
theorem dX8_choosePairs_7 : decode cX8_choosePairs 7 = .ok (.putfield 82, 3) := by decide +kernel
theorem dX8_choosePairs_10 : decode cX8_choosePairs 10 = .ok (.aload_n 0, 1) := by decide +kernel
theorem dX8_choosePairs_11 : decode cX8_choosePairs 11 = .ok (.iconst 0, 1) := by decide +kernel
theorem dX8_choosePairs_12 : decode cX8_choosePairs 12 = .ok (.putfield 85, 3) := by decide +kernel
theorem dX8_choosePairs_15 : decode cX8_choosePairs 15 = .ok (.iconst 0, 1) := by decide +kernel
theorem dX8_choosePairs_16 : decode cX8_choosePairs 16 = .ok (.istore_n 2, 1) := by decide +kernel
theorem dX8_choosePairs_17 : decode cX8_choosePairs 17 = .ok (.iload_n 2, 1) := by decide +kernel
theorem dX8_choosePairs_18 : decode cX8_choosePairs 18 = .ok (.aload_n 0, 1) := by decide +kernel
theorem dX8_choosePairs_19 : decode cX8_choosePairs 19 = .ok (.getfield 38, 3) := by decide +kernel
theorem dX8_choosePairs_22 : decode cX8_choosePairs 22 = .ok (.if_icmp .ge 93, 3) := by decide +kernel
theorem dX8_choosePairs_25 : decode cX8_choosePairs 25 = .ok (.iload_n 1, 1) := by decide +kernel
theorem dX8_choosePairs_26 : decode cX8_choosePairs 26 = .ok (.aload_n 0, 1) := by decide +kernel
theorem dX8_choosePairs_27 : decode cX8_choosePairs 27 = .ok (.getfield 85, 3) := by decide +kernel
theorem dX8_choosePairs_30 : decode cX8_choosePairs 30 = .ok (.isub, 1) := by decide +kernel
theorem dX8_choosePairs_31 : decode cX8_choosePairs 31 = .ok (.istore_n 3, 1) := by decide +kernel
theorem dX8_choosePairs_32 : decode cX8_choosePairs 32 = .ok (.aload_n 0, 1) := by decide +kernel
theorem dX8_choosePairs_33 : decode cX8_choosePairs 33 = .ok (.iload_n 2, 1) := by decide +kernel
theorem dX8_choosePairs_34 : decode cX8_choosePairs 34 = .ok (.iload_n 3, 1) := by decide +kernel
theorem dX8_choosePairs_35 : decode cX8_choosePairs 35 = .ok (.invokevirtual 70, 3) := by decide +kernel
theorem dX8_choosePairs_38 : decode cX8_choosePairs 38 = .ok (.aload_n 0, 1) := by decide +kernel
theorem dX8_choosePairs_39 : decode cX8_choosePairs 39 = .ok (.getfield 21, 3) := by decide +kernel
theorem dX8_choosePairs_42 : decode cX8_choosePairs 42 = .ok (.iload_n 2, 1) := by decide +kernel
theorem dX8_choosePairs_43 : decode cX8_choosePairs 43 = .ok (.iconst 1, 1) := by decide +kernel
theorem dX8_choosePairs_44 : decode cX8_choosePairs 44 = .ok (.iadd, 1) := by decide +kernel
theorem dX8_choosePairs_45 : decode cX8_choosePairs 45 = .ok (.bipush 100, 2) := by decide +kernel
theorem dX8_choosePairs_47 : decode cX8_choosePairs 47 = .ok (.imul, 1) := by decide +kernel
theorem dX8_choosePairs_48 : decode cX8_choosePairs 48 = .ok (.iload_n 3, 1) := by decide +kernel
theorem dX8_choosePairs_49 : decode cX8_choosePairs 49 = .ok (.iadd, 1) := by decide +kernel
theorem dX8_choosePairs_50 : decode cX8_choosePairs 50 = .ok (.iaload, 1) := by decide +kernel
theorem dX8_choosePairs_51 : decode cX8_choosePairs 51 = .ok (.if_icmp .lt 58, 3) := by decide +kernel
theorem dX8_choosePairs_54 : decode cX8_choosePairs 54 = .ok (.aload_n 0, 1) := by decide +kernel
theorem dX8_choosePairs_55 : decode cX8_choosePairs 55 = .ok (.getfield 24, 3) := by decide +kernel
theorem dX8_choosePairs_58 : decode cX8_choosePairs 58 = .ok (.aload_n 0, 1) := by decide +kernel
theorem dX8_choosePairs_59 : decode cX8_choosePairs 59 = .ok (.getfield 79, 3) := by decide +kernel
theorem dX8_choosePairs_62 : decode cX8_choosePairs 62 = .ok (.aload_n 0, 1) := by decide +kernel
theorem dX8_choosePairs_63 : decode cX8_choosePairs 63 = .ok (.getfield 11, 3) := by decide +kernel
theorem dX8_choosePairs_66 : decode cX8_choosePairs 66 = .ok (.iload_n 2, 1) := by decide +kernel
theorem dX8_choosePairs_67 : decode cX8_choosePairs 67 = .ok (.iaload, 1) := by decide +kernel
theorem dX8_choosePairs_68 : decode cX8_choosePairs 68 = .ok (.iastore, 1) := by decide +kernel
theorem dX8_choosePairs_69 : decode cX8_choosePairs 69 = .ok (.aload_n 0, 1) := by decide +kernel
theorem dX8_choosePairs_70 : decode cX8_choosePairs 70 = .ok (.dup, 1) := by decide +kernel
theorem dX8_choosePairs_71 : decode cX8_choosePairs 71 = .ok (.getfield 79, 3) := by decide +kernel
theorem dX8_choosePairs_74 : decode cX8_choosePairs 74 = .ok (.iconst 1, 1) := by decide +kernel
theorem dX8_choosePairs_75 : decode cX8_choosePairs 75 = .ok (.iadd, 1) := by decide +kernel
theorem dX8_choosePairs_76 : decode cX8_choosePairs 76 = .ok (.putfield 79, 3) := by decide +kernel
theorem dX8_choosePairs_79 : decode cX8_choosePairs 79 = .ok (.aload_n 0, 1) := by decide +kernel
theorem dX8_choosePairs_80 : decode cX8_choosePairs 80 = .ok (.dup, 1) := by decide +kernel
theorem dX8_choosePairs_81 : decode cX8_choosePairs 81 = .ok (.getfield 82, 3) := by decide +kernel
theorem dX8_choosePairs_84 : decode cX8_choosePairs 84 = .ok (.aload_n 0, 1) := by decide +kernel
theorem dX8_choosePairs_85 : decode cX8_choosePairs 85 = .ok (.getfield 18, 3) := by decide +kernel
theorem dX8_choosePairs_88 : decode cX8_choosePairs 88 = .ok (.iload_n 2, 1) := by decide +kernel
theorem dX8_choosePairs_89 : decode cX8_choosePairs 89 = .ok (.iaload, 1) := by decide +kernel
theorem dX8_choosePairs_90 : decode cX8_choosePairs 90 = .ok (.iadd, 1) := by decide +kernel
theorem dX8_choosePairs_91 : decode cX8_choosePairs 91 = .ok (.putfield 82, 3) := by decide +kernel
theorem dX8_choosePairs_94 : decode cX8_choosePairs 94 = .ok (.aload_n 0, 1) := by decide +kernel
theorem dX8_choosePairs_95 : decode cX8_choosePairs 95 = .ok (.dup, 1) := by decide +kernel
theorem dX8_choosePairs_96 : decode cX8_choosePairs 96 = .ok (.getfield 85, 3) := by decide +kernel
theorem dX8_choosePairs_99 : decode cX8_choosePairs 99 = .ok (.aload_n 0, 1) := by decide +kernel
theorem dX8_choosePairs_100 : decode cX8_choosePairs 100 = .ok (.getfield 15, 3) := by decide +kernel
theorem dX8_choosePairs_103 : decode cX8_choosePairs 103 = .ok (.iload_n 2, 1) := by decide +kernel
theorem dX8_choosePairs_104 : decode cX8_choosePairs 104 = .ok (.iaload, 1) := by decide +kernel
theorem dX8_choosePairs_105 : decode cX8_choosePairs 105 = .ok (.iadd, 1) := by decide +kernel
theorem dX8_choosePairs_106 : decode cX8_choosePairs 106 = .ok (.putfield 85, 3) := by decide +kernel
theorem dX8_choosePairs_109 : decode cX8_choosePairs 109 = .ok (.iinc 2 1, 3) := by decide +kernel
theorem dX8_choosePairs_112 : decode cX8_choosePairs 112 = .ok (.goto (-95), 3) := by decide +kernel
theorem dX8_choosePairs_115 : decode cX8_choosePairs 115 = .ok (.return_, 1) := by decide +kernel
theorem dX9_init_0 : decode cX9_init 0 = .ok (.aload_n 0, 1) := by decide +kernel
theorem dX9_init_1 : decode cX9_init 1 = .ok (.invokespecial 3, 3) := by decide +kernel
theorem dX9_init_4 : decode cX9_init 4 = .ok (.aload_n 0, 1) := by decide +kernel
theorem dX9_init_5 : decode cX9_init 5 = .ok (.new 9, 3) := by decide +kernel
theorem dX9_init_8 : decode cX9_init 8 = .ok (.dup, 1) := by decide +kernel
theorem dX9_init_9 : decode cX9_init 9 = .ok (.invokespecial 11, 3) := by decide +kernel
theorem dX9_init_12 : decode cX9_init 12 = .ok (.putfield 12, 3) := by decide +kernel
theorem dX9_init_15 : decode cX9_init 15 = .ok (.aload_n 0, 1) := by decide +kernel
theorem dX9_init_16 : decode cX9_init 16 = .ok (.bipush 80, 2) := by decide +kernel
theorem dX9_init_18 : decode cX9_init 18 = .ok (.newarray .int, 2) := by decide +kernel
theorem dX9_init_20 : decode cX9_init 20 = .ok (.putfield 18, 3) := by decide +kernel
theorem dX9_init_23 : decode cX9_init 23 = .ok (.aload_n 0, 1) := by decide +kernel
theorem dX9_init_24 : decode cX9_init 24 = .ok (.bipush 80, 2) := by decide +kernel
theorem dX9_init_26 : decode cX9_init 26 = .ok (.newarray .int, 2) := by decide +kernel
theorem dX9_init_28 : decode cX9_init 28 = .ok (.putfield 22, 3) := by decide +kernel
theorem dX9_init_31 : decode cX9_init 31 = .ok (.aload_n 0, 1) := by decide +kernel
theorem dX9_init_32 : decode cX9_init 32 = .ok (.sipush 240, 3) := by decide +kernel
theorem dX9_init_35 : decode cX9_init 35 = .ok (.newarray .long, 2) := by decide +kernel
theorem dX9_init_37 : decode cX9_init 37 = .ok (.putfield 25, 3) := by decide +kernel
theorem dX9_init_40 : decode cX9_init 40 = .ok (.return_, 1) := by decide +kernel
theorem dX9_forget_0 : decode cX9_forget 0 = .ok (.aload_n 0, 1) := by decide +kernel
theorem dX9_forget_1 : decode cX9_forget 1 = .ok (.iconst 0, 1) := by decide +kernel
theorem dX9_forget_2 : decode cX9_forget 2 = .ok (.putfield 29, 3) := by decide +kernel
theorem dX9_forget_5 : decode cX9_forget 5 = .ok (.aload_n 0, 1) := by decide +kernel
theorem dX9_forget_6 : decode cX9_forget 6 = .ok (.iconst 0, 1) := by decide +kernel
theorem dX9_forget_7 : decode cX9_forget 7 = .ok (.putfield 33, 3) := by decide +kernel
theorem dX9_forget_10 : decode cX9_forget 10 = .ok (.return_, 1) := by decide +kernel
theorem dX9_survey_0 : decode cX9_survey 0 = .ok (.aload_n 2, 1) := by decide +kernel
theorem dX9_survey_1 : decode cX9_survey 1 = .ok (.aload_n 1, 1) := by decide +kernel
theorem dX9_survey_2 : decode cX9_survey 2 = .ok (.iload_n 3, 1) := by decide +kernel
theorem dX9_survey_3 : decode cX9_survey 3 = .ok (.invokevirtual 37, 3) := by decide +kernel
theorem dX9_survey_6 : decode cX9_survey 6 = .ok (.aload_n 0, 1) := by decide +kernel
theorem dX9_survey_7 : decode cX9_survey 7 = .ok (.aload_n 1, 1) := by decide +kernel
theorem dX9_survey_8 : decode cX9_survey 8 = .ok (.invokevirtual 43, 3) := by decide +kernel
theorem dX9_survey_11 : decode cX9_survey 11 = .ok (.aload_n 0, 1) := by decide +kernel
theorem dX9_survey_12 : decode cX9_survey 12 = .ok (.getfield 29, 3) := by decide +kernel
theorem dX9_survey_15 : decode cX9_survey 15 = .ok (.iload_n 3, 1) := by decide +kernel
theorem dX9_survey_16 : decode cX9_survey 16 = .ok (.invokestatic 47, 3) := by decide +kernel
theorem dX9_survey_19 : decode cX9_survey 19 = .ok (.ifCond .eq 4, 3) := by decide +kernel
theorem dX9_survey_22 : decode cX9_survey 22 = .ok (.return_, 1) := by decide +kernel
theorem dX9_survey_23 : decode cX9_survey 23 = .ok (.aload_n 0, 1) := by decide +kernel
theorem dX9_survey_24 : decode cX9_survey 24 = .ok (.dup, 1) := by decide +kernel
theorem dX9_survey_25 : decode cX9_survey 25 = .ok (.getfield 29, 3) := by decide +kernel
theorem dX9_survey_28 : decode cX9_survey 28 = .ok (.iconst 1, 1) := by decide +kernel
theorem dX9_survey_29 : decode cX9_survey 29 = .ok (.iload_n 3, 1) := by decide +kernel
theorem dX9_survey_30 : decode cX9_survey 30 = .ok (.ishl, 1) := by decide +kernel
theorem dX9_survey_31 : decode cX9_survey 31 = .ok (.ior, 1) := by decide +kernel
theorem dX9_survey_32 : decode cX9_survey 32 = .ok (.putfield 29, 3) := by decide +kernel
theorem dX9_survey_35 : decode cX9_survey 35 = .ok (.iconst 0, 1) := by decide +kernel
theorem dX9_survey_36 : decode cX9_survey 36 = .ok (.istore 4, 2) := by decide +kernel
theorem dX9_survey_38 : decode cX9_survey 38 = .ok (.iload 4, 2) := by decide +kernel
theorem dX9_survey_40 : decode cX9_survey 40 = .ok (.aload_n 0, 1) := by decide +kernel
theorem dX9_survey_41 : decode cX9_survey 41 = .ok (.getfield 51, 3) := by decide +kernel
theorem dX9_survey_44 : decode cX9_survey 44 = .ok (.if_icmp .ge 70, 3) := by decide +kernel
theorem dX9_survey_47 : decode cX9_survey 47 = .ok (.lconst 0, 1) := by decide +kernel
theorem dX9_survey_48 : decode cX9_survey 48 = .ok (.lstore 5, 2) := by decide +kernel
theorem dX9_survey_50 : decode cX9_survey 50 = .ok (.iconst 0, 1) := by decide +kernel
theorem dX9_survey_51 : decode cX9_survey 51 = .ok (.istore 7, 2) := by decide +kernel
theorem dX9_survey_53 : decode cX9_survey 53 = .ok (.iload 7, 2) := by decide +kernel
theorem dX9_survey_55 : decode cX9_survey 55 = .ok (.aload_n 2, 1) := by decide +kernel
theorem dX9_survey_56 : decode cX9_survey 56 = .ok (.getfield 54, 3) := by decide +kernel
theorem dX9_survey_59 : decode cX9_survey 59 = .ok (.if_icmp .ge 35, 3) := by decide +kernel
theorem dX9_survey_62 : decode cX9_survey 62 = .ok (.aload_n 0, 1) := by decide +kernel
theorem dX9_survey_63 : decode cX9_survey 63 = .ok (.aload_n 1, 1) := by decide +kernel
theorem dX9_survey_64 : decode cX9_survey 64 = .ok (.aload_n 2, 1) := by decide +kernel
theorem dX9_survey_65 : decode cX9_survey 65 = .ok (.getfield 57, 3) := by decide +kernel
theorem dX9_survey_68 : decode cX9_survey 68 = .ok (.iload 7, 2) := by decide +kernel
theorem dX9_survey_70 : decode cX9_survey 70 = .ok (.iaload, 1) := by decide +kernel
theorem dX9_survey_71 : decode cX9_survey 71 = .ok (.iload 4, 2) := by decide +kernel
theorem dX9_survey_73 : decode cX9_survey 73 = .ok (.invokevirtual 60, 3) := by decide +kernel
theorem dX9_survey_76 : decode cX9_survey 76 = .ok (.ifCond .eq 12, 3) := by decide +kernel
theorem dX9_survey_79 : decode cX9_survey 79 = .ok (.lload 5, 2) := by decide +kernel
theorem dX9_survey_81 : decode cX9_survey 81 = .ok (.lconst 1, 1) := by decide +kernel
theorem dX9_survey_82 : decode cX9_survey 82 = .ok (.iload 7, 2) := by decide +kernel
theorem dX9_survey_84 : decode cX9_survey 84 = .ok (.lshl, 1) := by decide +kernel
theorem dX9_survey_85 : decode cX9_survey 85 = .ok (.lor, 1) := by decide +kernel
theorem dX9_survey_86 : decode cX9_survey 86 = .ok (.lstore 5, 2) := by decide +kernel
theorem dX9_survey_88 : decode cX9_survey 88 = .ok (.iinc 7 1, 3) := by decide +kernel
theorem dX9_survey_91 : decode cX9_survey 91 = .ok (.goto (-38), 3) := by decide +kernel
theorem dX9_survey_94 : decode cX9_survey 94 = .ok (.aload_n 0, 1) := by decide +kernel
theorem dX9_survey_95 : decode cX9_survey 95 = .ok (.getfield 25, 3) := by decide +kernel
theorem dX9_survey_98 : decode cX9_survey 98 = .ok (.iload_n 3, 1) := by decide +kernel
theorem dX9_survey_99 : decode cX9_survey 99 = .ok (.bipush 80, 2) := by decide +kernel
theorem dX9_survey_101 : decode cX9_survey 101 = .ok (.imul, 1) := by decide +kernel
theorem dX9_survey_102 : decode cX9_survey 102 = .ok (.iload 4, 2) := by decide +kernel
theorem dX9_survey_104 : decode cX9_survey 104 = .ok (.iadd, 1) := by decide +kernel
theorem dX9_survey_105 : decode cX9_survey 105 = .ok (.lload 5, 2) := by decide +kernel
theorem dX9_survey_107 : decode cX9_survey 107 = .ok (.lastore, 1) := by decide +kernel
theorem dX9_survey_108 : decode cX9_survey 108 = .ok (.iinc 4 1, 3) := by decide +kernel
theorem dX9_survey_111 : decode cX9_survey 111 = .ok (.goto (-73), 3) := by decide +kernel
theorem dX9_survey_114 : decode cX9_survey 114 = .ok (.return_, 1) := by decide +kernel
theorem dX9_listCovers_0 : decode cX9_listCovers 0 = .ok (.aload_n 0, 1) := by decide +kernel
theorem dX9_listCovers_1 : decode cX9_listCovers 1 = .ok (.iconst 0, 1) := by decide +kernel
theorem dX9_listCovers_2 : decode cX9_listCovers 2 = .ok (.putfield 51, 3) := by decide +kernel
theorem dX9_listCovers_5 : decode cX9_listCovers 5 = .ok (.iconst 0, 1) := by decide +kernel
theorem dX9_listCovers_6 : decode cX9_listCovers 6 = .ok (.istore_n 2, 1) := by decide +kernel
theorem dX9_listCovers_7 : decode cX9_listCovers 7 = .ok (.iload_n 2, 1) := by decide +kernel
theorem dX9_listCovers_8 : decode cX9_listCovers 8 = .ok (.aload_n 1, 1) := by decide +kernel
theorem dX9_listCovers_9 : decode cX9_listCovers 9 = .ok (.getfield 64, 3) := by decide +kernel
theorem dX9_listCovers_12 : decode cX9_listCovers 12 = .ok (.if_icmp .ge 73, 3) := by decide +kernel
theorem dX9_listCovers_15 : decode cX9_listCovers 15 = .ok (.iconst 0, 1) := by decide +kernel
theorem dX9_listCovers_16 : decode cX9_listCovers 16 = .ok (.istore_n 3, 1) := by decide +kernel
theorem dX9_listCovers_17 : decode cX9_listCovers 17 = .ok (.iload_n 3, 1) := by decide +kernel
theorem dX9_listCovers_18 : decode cX9_listCovers 18 = .ok (.aload_n 1, 1) := by decide +kernel
theorem dX9_listCovers_19 : decode cX9_listCovers 19 = .ok (.getfield 69, 3) := by decide +kernel
theorem dX9_listCovers_22 : decode cX9_listCovers 22 = .ok (.if_icmp .ge 57, 3) := by decide +kernel
theorem dX9_listCovers_25 : decode cX9_listCovers 25 = .ok (.aload_n 1, 1) := by decide +kernel
theorem dX9_listCovers_26 : decode cX9_listCovers 26 = .ok (.iload_n 2, 1) := by decide +kernel
theorem dX9_listCovers_27 : decode cX9_listCovers 27 = .ok (.iload_n 3, 1) := by decide +kernel
theorem dX9_listCovers_28 : decode cX9_listCovers 28 = .ok (.invokevirtual 72, 3) := by decide +kernel
theorem dX9_listCovers_31 : decode cX9_listCovers 31 = .ok (.ifCond .eq 42, 3) := by decide +kernel
theorem dX9_listCovers_34 : decode cX9_listCovers 34 = .ok (.aload_n 1, 1) := by decide +kernel
theorem dX9_listCovers_35 : decode cX9_listCovers 35 = .ok (.iload_n 2, 1) := by decide +kernel
theorem dX9_listCovers_36 : decode cX9_listCovers 36 = .ok (.iload_n 3, 1) := by decide +kernel
theorem dX9_listCovers_37 : decode cX9_listCovers 37 = .ok (.invokevirtual 75, 3) := by decide +kernel
theorem dX9_listCovers_40 : decode cX9_listCovers 40 = .ok (.ifCond .ne 33, 3) := by decide +kernel
theorem dX9_listCovers_43 : decode cX9_listCovers 43 = .ok (.aload_n 0, 1) := by decide +kernel
theorem dX9_listCovers_44 : decode cX9_listCovers 44 = .ok (.getfield 18, 3) := by decide +kernel
theorem dX9_listCovers_47 : decode cX9_listCovers 47 = .ok (.aload_n 0, 1) := by decide +kernel
theorem dX9_listCovers_48 : decode cX9_listCovers 48 = .ok (.getfield 51, 3) := by decide +kernel
theorem dX9_listCovers_51 : decode cX9_listCovers 51 = .ok (.iload_n 2, 1) := by decide +kernel
theorem dX9_listCovers_52 : decode cX9_listCovers 52 = .ok (.iastore, 1) := by decide +kernel
theorem dX9_listCovers_53 : decode cX9_listCovers 53 = .ok (.aload_n 0, 1) := by decide +kernel
theorem dX9_listCovers_54 : decode cX9_listCovers 54 = .ok (.getfield 22, 3) := by decide +kernel
theorem dX9_listCovers_57 : decode cX9_listCovers 57 = .ok (.aload_n 0, 1) := by decide +kernel
theorem dX9_listCovers_58 : decode cX9_listCovers 58 = .ok (.getfield 51, 3) := by decide +kernel
theorem dX9_listCovers_61 : decode cX9_listCovers 61 = .ok (.iload_n 3, 1) := by decide +kernel
theorem dX9_listCovers_62 : decode cX9_listCovers 62 = .ok (.iastore, 1) := by decide +kernel
theorem dX9_listCovers_63 : decode cX9_listCovers 63 = .ok (.aload_n 0, 1) := by decide +kernel
theorem dX9_listCovers_64 : decode cX9_listCovers 64 = .ok (.dup, 1) := by decide +kernel
theorem dX9_listCovers_65 : decode cX9_listCovers 65 = .ok (.getfield 51, 3) := by decide +kernel
theorem dX9_listCovers_68 : decode cX9_listCovers 68 = .ok (.iconst 1, 1) := by decide +kernel
theorem dX9_listCovers_69 : decode cX9_listCovers 69 = .ok (.iadd, 1) := by decide +kernel
theorem dX9_listCovers_70 : decode cX9_listCovers 70 = .ok (.putfield 51, 3) := by decide +kernel
theorem dX9_listCovers_73 : decode cX9_listCovers 73 = .ok (.iinc 3 1, 3) := by decide +kernel
theorem dX9_listCovers_76 : decode cX9_listCovers 76 = .ok (.goto (-59), 3) := by decide +kernel
theorem dX9_listCovers_79 : decode cX9_listCovers 79 = .ok (.iinc 2 1, 3) := by decide +kernel
theorem dX9_listCovers_82 : decode cX9_listCovers 82 = .ok (.goto (-75), 3) := by decide +kernel
theorem dX9_listCovers_85 : decode cX9_listCovers 85 = .ok (.return_, 1) := by decide +kernel
theorem dX9_helps_0 : decode cX9_helps 0 = .ok (.iload_n 2, 1) := by decide +kernel
theorem dX9_helps_1 : decode cX9_helps 1 = .ok (.aload_n 0, 1) := by decide +kernel
theorem dX9_helps_2 : decode cX9_helps 2 = .ok (.getfield 18, 3) := by decide +kernel
theorem dX9_helps_5 : decode cX9_helps 5 = .ok (.iload_n 3, 1) := by decide +kernel
theorem dX9_helps_6 : decode cX9_helps 6 = .ok (.iaload, 1) := by decide +kernel
theorem dX9_helps_7 : decode cX9_helps 7 = .ok (.invokestatic 47, 3) := by decide +kernel
theorem dX9_helps_10 : decode cX9_helps 10 = .ok (.ifCond .eq 5, 3) := by decide +kernel
theorem dX9_helps_13 : decode cX9_helps 13 = .ok (.iconst 0, 1) := by decide +kernel
theorem dX9_helps_14 : decode cX9_helps 14 = .ok (.ireturn, 1) := by decide +kernel
theorem dX9_helps_15 : decode cX9_helps 15 = .ok (.aload_n 0, 1) := by decide +kernel
theorem dX9_helps_16 : decode cX9_helps 16 = .ok (.getfield 12, 3) := by decide +kernel
theorem dX9_helps_19 : decode cX9_helps 19 = .ok (.aload_n 1, 1) := by decide +kernel
theorem dX9_helps_20 : decode cX9_helps 20 = .ok (.iload_n 2, 1) := by decide +kernel
theorem dX9_helps_21 : decode cX9_helps 21 = .ok (.iconst 0, 1) := by decide +kernel
theorem dX9_helps_22 : decode cX9_helps 22 = .ok (.invokevirtual 78, 3) := by decide +kernel
theorem dX9_helps_25 : decode cX9_helps 25 = .ok (.aload_n 0, 1) := by decide +kernel
theorem dX9_helps_26 : decode cX9_helps 26 = .ok (.getfield 12, 3) := by decide +kernel
theorem dX9_helps_29 : decode cX9_helps 29 = .ok (.aload_n 0, 1) := by decide +kernel
theorem dX9_helps_30 : decode cX9_helps 30 = .ok (.getfield 18, 3) := by decide +kernel
theorem dX9_helps_33 : decode cX9_helps 33 = .ok (.iload_n 3, 1) := by decide +kernel
theorem dX9_helps_34 : decode cX9_helps 34 = .ok (.iaload, 1) := by decide +kernel
theorem dX9_helps_35 : decode cX9_helps 35 = .ok (.aload_n 0, 1) := by decide +kernel
theorem dX9_helps_36 : decode cX9_helps 36 = .ok (.getfield 22, 3) := by decide +kernel
theorem dX9_helps_39 : decode cX9_helps 39 = .ok (.iload_n 3, 1) := by decide +kernel
theorem dX9_helps_40 : decode cX9_helps 40 = .ok (.iaload, 1) := by decide +kernel
theorem dX9_helps_41 : decode cX9_helps 41 = .ok (.invokevirtual 82, 3) := by decide +kernel
theorem dX9_helps_44 : decode cX9_helps 44 = .ok (.aload_n 0, 1) := by decide +kernel
theorem dX9_helps_45 : decode cX9_helps 45 = .ok (.getfield 12, 3) := by decide +kernel
theorem dX9_helps_48 : decode cX9_helps 48 = .ok (.invokevirtual 86, 3) := by decide +kernel
theorem dX9_helps_51 : decode cX9_helps 51 = .ok (.ireturn, 1) := by decide +kernel
theorem dX9_helpTogether_0 : decode cX9_helpTogether 0 = .ok (.aload_n 0, 1) := by decide +kernel
theorem dX9_helpTogether_1 : decode cX9_helpTogether 1 = .ok (.getfield 18, 3) := by decide +kernel
theorem dX9_helpTogether_4 : decode cX9_helpTogether 4 = .ok (.iload_n 3, 1) := by decide +kernel
theorem dX9_helpTogether_5 : decode cX9_helpTogether 5 = .ok (.iaload, 1) := by decide +kernel
theorem dX9_helpTogether_6 : decode cX9_helpTogether 6 = .ok (.istore 5, 2) := by decide +kernel
theorem dX9_helpTogether_8 : decode cX9_helpTogether 8 = .ok (.aload_n 0, 1) := by decide +kernel
theorem dX9_helpTogether_9 : decode cX9_helpTogether 9 = .ok (.getfield 18, 3) := by decide +kernel
theorem dX9_helpTogether_12 : decode cX9_helpTogether 12 = .ok (.iload 4, 2) := by decide +kernel
theorem dX9_helpTogether_14 : decode cX9_helpTogether 14 = .ok (.iaload, 1) := by decide +kernel
theorem dX9_helpTogether_15 : decode cX9_helpTogether 15 = .ok (.istore 6, 2) := by decide +kernel
theorem dX9_helpTogether_17 : decode cX9_helpTogether 17 = .ok (.aload_n 0, 1) := by decide +kernel
theorem dX9_helpTogether_18 : decode cX9_helpTogether 18 = .ok (.getfield 22, 3) := by decide +kernel
theorem dX9_helpTogether_21 : decode cX9_helpTogether 21 = .ok (.iload_n 3, 1) := by decide +kernel
theorem dX9_helpTogether_22 : decode cX9_helpTogether 22 = .ok (.iaload, 1) := by decide +kernel
theorem dX9_helpTogether_23 : decode cX9_helpTogether 23 = .ok (.istore 7, 2) := by decide +kernel
theorem dX9_helpTogether_25 : decode cX9_helpTogether 25 = .ok (.aload_n 0, 1) := by decide +kernel
theorem dX9_helpTogether_26 : decode cX9_helpTogether 26 = .ok (.getfield 22, 3) := by decide +kernel
theorem dX9_helpTogether_29 : decode cX9_helpTogether 29 = .ok (.iload 4, 2) := by decide +kernel
theorem dX9_helpTogether_31 : decode cX9_helpTogether 31 = .ok (.iaload, 1) := by decide +kernel
theorem dX9_helpTogether_32 : decode cX9_helpTogether 32 = .ok (.istore 8, 2) := by decide +kernel
theorem dX9_helpTogether_34 : decode cX9_helpTogether 34 = .ok (.iload_n 2, 1) := by decide +kernel
theorem dX9_helpTogether_35 : decode cX9_helpTogether 35 = .ok (.iload 5, 2) := by decide +kernel
theorem dX9_helpTogether_37 : decode cX9_helpTogether 37 = .ok (.invokestatic 47, 3) := by decide +kernel
theorem dX9_helpTogether_40 : decode cX9_helpTogether 40 = .ok (.ifCond .ne 41, 3) := by decide +kernel
theorem dX9_helpTogether_43 : decode cX9_helpTogether 43 = .ok (.iload_n 2, 1) := by decide +kernel
theorem dX9_helpTogether_44 : decode cX9_helpTogether 44 = .ok (.iload 6, 2) := by decide +kernel
theorem dX9_helpTogether_46 : decode cX9_helpTogether 46 = .ok (.invokestatic 47, 3) := by decide +kernel
theorem dX9_helpTogether_49 : decode cX9_helpTogether 49 = .ok (.ifCond .ne 32, 3) := by decide +kernel
theorem dX9_helpTogether_52 : decode cX9_helpTogether 52 = .ok (.iload 7, 2) := by decide +kernel
theorem dX9_helpTogether_54 : decode cX9_helpTogether 54 = .ok (.iload 8, 2) := by decide +kernel
theorem dX9_helpTogether_56 : decode cX9_helpTogether 56 = .ok (.if_icmp .eq 25, 3) := by decide +kernel
theorem dX9_helpTogether_59 : decode cX9_helpTogether 59 = .ok (.iload 5, 2) := by decide +kernel
theorem dX9_helpTogether_61 : decode cX9_helpTogether 61 = .ok (.iload 6, 2) := by decide +kernel
theorem dX9_helpTogether_63 : decode cX9_helpTogether 63 = .ok (.if_icmp .ne 20, 3) := by decide +kernel
theorem dX9_helpTogether_66 : decode cX9_helpTogether 66 = .ok (.aload_n 1, 1) := by decide +kernel
theorem dX9_helpTogether_67 : decode cX9_helpTogether 67 = .ok (.getfield 90, 3) := by decide +kernel
theorem dX9_helpTogether_70 : decode cX9_helpTogether 70 = .ok (.iload 7, 2) := by decide +kernel
theorem dX9_helpTogether_72 : decode cX9_helpTogether 72 = .ok (.iaload, 1) := by decide +kernel
theorem dX9_helpTogether_73 : decode cX9_helpTogether 73 = .ok (.iload 8, 2) := by decide +kernel
theorem dX9_helpTogether_75 : decode cX9_helpTogether 75 = .ok (.invokestatic 47, 3) := by decide +kernel
theorem dX9_helpTogether_78 : decode cX9_helpTogether 78 = .ok (.ifCond .eq 5, 3) := by decide +kernel
theorem dX9_helpTogether_81 : decode cX9_helpTogether 81 = .ok (.iconst 0, 1) := by decide +kernel
theorem dX9_helpTogether_82 : decode cX9_helpTogether 82 = .ok (.ireturn, 1) := by decide +kernel
theorem dX9_helpTogether_83 : decode cX9_helpTogether 83 = .ok (.aload_n 0, 1) := by decide +kernel
theorem dX9_helpTogether_84 : decode cX9_helpTogether 84 = .ok (.getfield 12, 3) := by decide +kernel
theorem dX9_helpTogether_87 : decode cX9_helpTogether 87 = .ok (.aload_n 1, 1) := by decide +kernel
theorem dX9_helpTogether_88 : decode cX9_helpTogether 88 = .ok (.iload_n 2, 1) := by decide +kernel
theorem dX9_helpTogether_89 : decode cX9_helpTogether 89 = .ok (.iconst 0, 1) := by decide +kernel
theorem dX9_helpTogether_90 : decode cX9_helpTogether 90 = .ok (.invokevirtual 78, 3) := by decide +kernel
theorem dX9_helpTogether_93 : decode cX9_helpTogether 93 = .ok (.aload_n 0, 1) := by decide +kernel
theorem dX9_helpTogether_94 : decode cX9_helpTogether 94 = .ok (.getfield 12, 3) := by decide +kernel
theorem dX9_helpTogether_97 : decode cX9_helpTogether 97 = .ok (.iload 5, 2) := by decide +kernel
theorem dX9_helpTogether_99 : decode cX9_helpTogether 99 = .ok (.iload 7, 2) := by decide +kernel
theorem dX9_helpTogether_101 : decode cX9_helpTogether 101 = .ok (.invokevirtual 82, 3) := by decide +kernel
theorem dX9_helpTogether_104 : decode cX9_helpTogether 104 = .ok (.aload_n 0, 1) := by decide +kernel
theorem dX9_helpTogether_105 : decode cX9_helpTogether 105 = .ok (.getfield 12, 3) := by decide +kernel
theorem dX9_helpTogether_108 : decode cX9_helpTogether 108 = .ok (.iload 6, 2) := by decide +kernel
theorem dX9_helpTogether_110 : decode cX9_helpTogether 110 = .ok (.iload 8, 2) := by decide +kernel
theorem dX9_helpTogether_112 : decode cX9_helpTogether 112 = .ok (.invokevirtual 82, 3) := by decide +kernel
theorem dX9_helpTogether_115 : decode cX9_helpTogether 115 = .ok (.aload_n 0, 1) := by decide +kernel
theorem dX9_helpTogether_116 : decode cX9_helpTogether 116 = .ok (.getfield 12, 3) := by decide +kernel
theorem dX9_helpTogether_119 : decode cX9_helpTogether 119 = .ok (.invokevirtual 86, 3) := by decide +kernel
theorem dX9_helpTogether_122 : decode cX9_helpTogether 122 = .ok (.ireturn, 1) := by decide +kernel
theorem dX9_findBest_0 : decode cX9_findBest 0 = .ok (.aload_n 0, 1) := by decide +kernel
theorem dX9_findBest_1 : decode cX9_findBest 1 = .ok (.bipush (-4), 2) := by decide +kernel
theorem dX9_findBest_3 : decode cX9_findBest 3 = .ok (.putfield 93, 3) := by decide +kernel
theorem dX9_findBest_6 : decode cX9_findBest 6 = .ok (.iconst 0, 1) := by decide +kernel
theorem dX9_findBest_7 : decode cX9_findBest 7 = .ok (.istore_n 3, 1) := by decide +kernel
theorem dX9_findBest_8 : decode cX9_findBest 8 = .ok (.iload_n 3, 1) := by decide +kernel
theorem dX9_findBest_9 : decode cX9_findBest 9 = .ok (.aload_n 0, 1) := by decide +kernel
theorem dX9_findBest_10 : decode cX9_findBest 10 = .ok (.getfield 51, 3) := by decide +kernel
theorem dX9_findBest_13 : decode cX9_findBest 13 = .ok (.if_icmp .ge 71, 3) := by decide +kernel
theorem dX9_findBest_16 : decode cX9_findBest 16 = .ok (.iload_n 2, 1) := by decide +kernel
theorem dX9_findBest_17 : decode cX9_findBest 17 = .ok (.aload_n 0, 1) := by decide +kernel
theorem dX9_findBest_18 : decode cX9_findBest 18 = .ok (.getfield 25, 3) := by decide +kernel
theorem dX9_findBest_21 : decode cX9_findBest 21 = .ok (.iload_n 1, 1) := by decide +kernel
theorem dX9_findBest_22 : decode cX9_findBest 22 = .ok (.bipush 80, 2) := by decide +kernel
theorem dX9_findBest_24 : decode cX9_findBest 24 = .ok (.imul, 1) := by decide +kernel
theorem dX9_findBest_25 : decode cX9_findBest 25 = .ok (.iload_n 3, 1) := by decide +kernel
theorem dX9_findBest_26 : decode cX9_findBest 26 = .ok (.iadd, 1) := by decide +kernel
theorem dX9_findBest_27 : decode cX9_findBest 27 = .ok (.laload, 1) := by decide +kernel
theorem dX9_findBest_28 : decode cX9_findBest 28 = .ok (.invokestatic 96, 3) := by decide +kernel
theorem dX9_findBest_31 : decode cX9_findBest 31 = .ok (.isub, 1) := by decide +kernel
theorem dX9_findBest_32 : decode cX9_findBest 32 = .ok (.istore 4, 2) := by decide +kernel
theorem dX9_findBest_34 : decode cX9_findBest 34 = .ok (.aload_n 0, 1) := by decide +kernel
theorem dX9_findBest_35 : decode cX9_findBest 35 = .ok (.getfield 93, 3) := by decide +kernel
theorem dX9_findBest_38 : decode cX9_findBest 38 = .ok (.bipush (-4), 2) := by decide +kernel
theorem dX9_findBest_40 : decode cX9_findBest 40 = .ok (.if_icmp .eq 12, 3) := by decide +kernel
theorem dX9_findBest_43 : decode cX9_findBest 43 = .ok (.iload 4, 2) := by decide +kernel
theorem dX9_findBest_45 : decode cX9_findBest 45 = .ok (.aload_n 0, 1) := by decide +kernel
theorem dX9_findBest_46 : decode cX9_findBest 46 = .ok (.getfield 102, 3) := by decide +kernel
theorem dX9_findBest_49 : decode cX9_findBest 49 = .ok (.if_icmp .ge 29, 3) := by decide +kernel
theorem dX9_findBest_52 : decode cX9_findBest 52 = .ok (.aload_n 0, 1) := by decide +kernel
theorem dX9_findBest_53 : decode cX9_findBest 53 = .ok (.bipush 10, 2) := by decide +kernel
theorem dX9_findBest_55 : decode cX9_findBest 55 = .ok (.aload_n 0, 1) := by decide +kernel
theorem dX9_findBest_56 : decode cX9_findBest 56 = .ok (.getfield 18, 3) := by decide +kernel
theorem dX9_findBest_59 : decode cX9_findBest 59 = .ok (.iload_n 3, 1) := by decide +kernel
theorem dX9_findBest_60 : decode cX9_findBest 60 = .ok (.iaload, 1) := by decide +kernel
theorem dX9_findBest_61 : decode cX9_findBest 61 = .ok (.imul, 1) := by decide +kernel
theorem dX9_findBest_62 : decode cX9_findBest 62 = .ok (.aload_n 0, 1) := by decide +kernel
theorem dX9_findBest_63 : decode cX9_findBest 63 = .ok (.getfield 22, 3) := by decide +kernel
theorem dX9_findBest_66 : decode cX9_findBest 66 = .ok (.iload_n 3, 1) := by decide +kernel
theorem dX9_findBest_67 : decode cX9_findBest 67 = .ok (.iaload, 1) := by decide +kernel
theorem dX9_findBest_68 : decode cX9_findBest 68 = .ok (.iadd, 1) := by decide +kernel
theorem dX9_findBest_69 : decode cX9_findBest 69 = .ok (.putfield 93, 3) := by decide +kernel
theorem dX9_findBest_72 : decode cX9_findBest 72 = .ok (.aload_n 0, 1) := by decide +kernel
theorem dX9_findBest_73 : decode cX9_findBest 73 = .ok (.iload 4, 2) := by decide +kernel
theorem dX9_findBest_75 : decode cX9_findBest 75 = .ok (.putfield 102, 3) := by decide +kernel
theorem dX9_findBest_78 : decode cX9_findBest 78 = .ok (.iinc 3 1, 3) := by decide +kernel
theorem dX9_findBest_81 : decode cX9_findBest 81 = .ok (.goto (-73), 3) := by decide +kernel
theorem dX9_findBest_84 : decode cX9_findBest 84 = .ok (.return_, 1) := by decide +kernel
theorem dX9_fewestForPairs_0 : decode cX9_fewestForPairs 0 = .ok (.aload_n 2, 1) := by decide +kernel
theorem dX9_fewestForPairs_1 : decode cX9_fewestForPairs 1 = .ok (.getfield 54, 3) := by decide +kernel
theorem dX9_fewestForPairs_4 : decode cX9_fewestForPairs 4 = .ok (.ifCond .ne 5, 3) := by decide +kernel
theorem dX9_fewestForPairs_7 : decode cX9_fewestForPairs 7 = .ok (.iconst 0, 1) := by decide +kernel
theorem dX9_fewestForPairs_8 : decode cX9_fewestForPairs 8 = .ok (.ireturn, 1) := by decide +kernel
theorem dX9_fewestForPairs_9 : decode cX9_fewestForPairs 9 = .ok (.lconst 1, 1) := by decide +kernel
theorem dX9_fewestForPairs_10 : decode cX9_fewestForPairs 10 = .ok (.aload_n 2, 1) := by decide +kernel
theorem dX9_fewestForPairs_11 : decode cX9_fewestForPairs 11 = .ok (.getfield 54, 3) := by decide +kernel
theorem dX9_fewestForPairs_14 : decode cX9_fewestForPairs 14 = .ok (.lshl, 1) := by decide +kernel
theorem dX9_fewestForPairs_15 : decode cX9_fewestForPairs 15 = .ok (.lconst 1, 1) := by decide +kernel
theorem dX9_fewestForPairs_16 : decode cX9_fewestForPairs 16 = .ok (.lsub, 1) := by decide +kernel
theorem dX9_fewestForPairs_17 : decode cX9_fewestForPairs 17 = .ok (.lstore_n 3, 1) := by decide +kernel
theorem dX9_fewestForPairs_18 : decode cX9_fewestForPairs 18 = .ok (.iconst 0, 1) := by decide +kernel
theorem dX9_fewestForPairs_19 : decode cX9_fewestForPairs 19 = .ok (.istore 5, 2) := by decide +kernel
theorem dX9_fewestForPairs_21 : decode cX9_fewestForPairs 21 = .ok (.iload 5, 2) := by decide +kernel
theorem dX9_fewestForPairs_23 : decode cX9_fewestForPairs 23 = .ok (.aload_n 0, 1) := by decide +kernel
theorem dX9_fewestForPairs_24 : decode cX9_fewestForPairs 24 = .ok (.getfield 51, 3) := by decide +kernel
theorem dX9_fewestForPairs_27 : decode cX9_fewestForPairs 27 = .ok (.if_icmp .ge 27, 3) := by decide +kernel
theorem dX9_fewestForPairs_30 : decode cX9_fewestForPairs 30 = .ok (.aload_n 0, 1) := by decide +kernel
theorem dX9_fewestForPairs_31 : decode cX9_fewestForPairs 31 = .ok (.getfield 25, 3) := by decide +kernel
theorem dX9_fewestForPairs_34 : decode cX9_fewestForPairs 34 = .ok (.sipush 160, 3) := by decide +kernel
theorem dX9_fewestForPairs_37 : decode cX9_fewestForPairs 37 = .ok (.iload 5, 2) := by decide +kernel
theorem dX9_fewestForPairs_39 : decode cX9_fewestForPairs 39 = .ok (.iadd, 1) := by decide +kernel
theorem dX9_fewestForPairs_40 : decode cX9_fewestForPairs 40 = .ok (.laload, 1) := by decide +kernel
theorem dX9_fewestForPairs_41 : decode cX9_fewestForPairs 41 = .ok (.lload_n 3, 1) := by decide +kernel
theorem dX9_fewestForPairs_42 : decode cX9_fewestForPairs 42 = .ok (.lcmp, 1) := by decide +kernel
theorem dX9_fewestForPairs_43 : decode cX9_fewestForPairs 43 = .ok (.ifCond .ne 5, 3) := by decide +kernel
theorem dX9_fewestForPairs_46 : decode cX9_fewestForPairs 46 = .ok (.iconst 1, 1) := by decide +kernel
theorem dX9_fewestForPairs_47 : decode cX9_fewestForPairs 47 = .ok (.ireturn, 1) := by decide +kernel
theorem dX9_fewestForPairs_48 : decode cX9_fewestForPairs 48 = .ok (.iinc 5 1, 3) := by decide +kernel
theorem dX9_fewestForPairs_51 : decode cX9_fewestForPairs 51 = .ok (.goto (-30), 3) := by decide +kernel
theorem dX9_fewestForPairs_54 : decode cX9_fewestForPairs 54 = .ok (.aload_n 0, 1) := by decide +kernel
theorem dX9_fewestForPairs_55 : decode cX9_fewestForPairs 55 = .ok (.getfield 33, 3) := by decide +kernel
theorem dX9_fewestForPairs_58 : decode cX9_fewestForPairs 58 = .ok (.ifCond .ne 73, 3) := by decide +kernel
theorem dX9_fewestForPairs_61 : decode cX9_fewestForPairs 61 = .ok (.aload_n 0, 1) := by decide +kernel
theorem dX9_fewestForPairs_62 : decode cX9_fewestForPairs 62 = .ok (.iconst 1, 1) := by decide +kernel
theorem dX9_fewestForPairs_63 : decode cX9_fewestForPairs 63 = .ok (.putfield 33, 3) := by decide +kernel
theorem dX9_fewestForPairs_66 : decode cX9_fewestForPairs 66 = .ok (.aload_n 0, 1) := by decide +kernel
theorem dX9_fewestForPairs_67 : decode cX9_fewestForPairs 67 = .ok (.iconst 0, 1) := by decide +kernel
theorem dX9_fewestForPairs_68 : decode cX9_fewestForPairs 68 = .ok (.putfield 105, 3) := by decide +kernel
theorem dX9_fewestForPairs_71 : decode cX9_fewestForPairs 71 = .ok (.iconst 0, 1) := by decide +kernel
theorem dX9_fewestForPairs_72 : decode cX9_fewestForPairs 72 = .ok (.istore 5, 2) := by decide +kernel
theorem dX9_fewestForPairs_74 : decode cX9_fewestForPairs 74 = .ok (.iload 5, 2) := by decide +kernel
theorem dX9_fewestForPairs_76 : decode cX9_fewestForPairs 76 = .ok (.aload_n 0, 1) := by decide +kernel
theorem dX9_fewestForPairs_77 : decode cX9_fewestForPairs 77 = .ok (.getfield 51, 3) := by decide +kernel
theorem dX9_fewestForPairs_80 : decode cX9_fewestForPairs 80 = .ok (.if_icmp .ge 51, 3) := by decide +kernel
theorem dX9_fewestForPairs_83 : decode cX9_fewestForPairs 83 = .ok (.iload 5, 2) := by decide +kernel
theorem dX9_fewestForPairs_85 : decode cX9_fewestForPairs 85 = .ok (.iconst 1, 1) := by decide +kernel
theorem dX9_fewestForPairs_86 : decode cX9_fewestForPairs 86 = .ok (.iadd, 1) := by decide +kernel
theorem dX9_fewestForPairs_87 : decode cX9_fewestForPairs 87 = .ok (.istore 6, 2) := by decide +kernel
theorem dX9_fewestForPairs_89 : decode cX9_fewestForPairs 89 = .ok (.iload 6, 2) := by decide +kernel
theorem dX9_fewestForPairs_91 : decode cX9_fewestForPairs 91 = .ok (.aload_n 0, 1) := by decide +kernel
theorem dX9_fewestForPairs_92 : decode cX9_fewestForPairs 92 = .ok (.getfield 51, 3) := by decide +kernel
theorem dX9_fewestForPairs_95 : decode cX9_fewestForPairs 95 = .ok (.if_icmp .ge 30, 3) := by decide +kernel
theorem dX9_fewestForPairs_98 : decode cX9_fewestForPairs 98 = .ok (.aload_n 0, 1) := by decide +kernel
theorem dX9_fewestForPairs_99 : decode cX9_fewestForPairs 99 = .ok (.getfield 105, 3) := by decide +kernel
theorem dX9_fewestForPairs_102 : decode cX9_fewestForPairs 102 = .ok (.ifCond .ne 23, 3) := by decide +kernel
theorem dX9_fewestForPairs_105 : decode cX9_fewestForPairs 105 = .ok (.aload_n 0, 1) := by decide +kernel
theorem dX9_fewestForPairs_106 : decode cX9_fewestForPairs 106 = .ok (.aload_n 0, 1) := by decide +kernel
theorem dX9_fewestForPairs_107 : decode cX9_fewestForPairs 107 = .ok (.aload_n 1, 1) := by decide +kernel
theorem dX9_fewestForPairs_108 : decode cX9_fewestForPairs 108 = .ok (.aload_n 2, 1) := by decide +kernel
theorem dX9_fewestForPairs_109 : decode cX9_fewestForPairs 109 = .ok (.iload 5, 2) := by decide +kernel
theorem dX9_fewestForPairs_111 : decode cX9_fewestForPairs 111 = .ok (.iload 6, 2) := by decide +kernel
theorem dX9_fewestForPairs_113 : decode cX9_fewestForPairs 113 = .ok (.invokevirtual 108, 3) := by decide +kernel
theorem dX9_fewestForPairs_116 : decode cX9_fewestForPairs 116 = .ok (.putfield 105, 3) := by decide +kernel
theorem dX9_fewestForPairs_119 : decode cX9_fewestForPairs 119 = .ok (.iinc 6 1, 3) := by decide +kernel
theorem dX9_fewestForPairs_122 : decode cX9_fewestForPairs 122 = .ok (.goto (-33), 3) := by decide +kernel
theorem dX9_fewestForPairs_125 : decode cX9_fewestForPairs 125 = .ok (.iinc 5 1, 3) := by decide +kernel
theorem dX9_fewestForPairs_128 : decode cX9_fewestForPairs 128 = .ok (.goto (-54), 3) := by decide +kernel
theorem dX9_fewestForPairs_131 : decode cX9_fewestForPairs 131 = .ok (.aload_n 0, 1) := by decide +kernel
theorem dX9_fewestForPairs_132 : decode cX9_fewestForPairs 132 = .ok (.getfield 105, 3) := by decide +kernel
theorem dX9_fewestForPairs_135 : decode cX9_fewestForPairs 135 = .ok (.ifCond .eq 7, 3) := by decide +kernel
theorem dX9_fewestForPairs_138 : decode cX9_fewestForPairs 138 = .ok (.iconst 2, 1) := by decide +kernel
theorem dX9_fewestForPairs_139 : decode cX9_fewestForPairs 139 = .ok (.goto 5, 3) := by decide +kernel
theorem dX9_fewestForPairs_142 : decode cX9_fewestForPairs 142 = .ok (.bipush (-4), 2) := by decide +kernel
theorem dX9_fewestForPairs_144 : decode cX9_fewestForPairs 144 = .ok (.ireturn, 1) := by decide +kernel
theorem dX9_areEnough_0 : decode cX9_areEnough 0 = .ok (.aload_n 0, 1) := by decide +kernel
theorem dX9_areEnough_1 : decode cX9_areEnough 1 = .ok (.getfield 25, 3) := by decide +kernel
theorem dX9_areEnough_4 : decode cX9_areEnough 4 = .ok (.sipush 160, 3) := by decide +kernel
theorem dX9_areEnough_7 : decode cX9_areEnough 7 = .ok (.iload_n 3, 1) := by decide +kernel
theorem dX9_areEnough_8 : decode cX9_areEnough 8 = .ok (.iadd, 1) := by decide +kernel
theorem dX9_areEnough_9 : decode cX9_areEnough 9 = .ok (.laload, 1) := by decide +kernel
theorem dX9_areEnough_10 : decode cX9_areEnough 10 = .ok (.aload_n 0, 1) := by decide +kernel
theorem dX9_areEnough_11 : decode cX9_areEnough 11 = .ok (.getfield 25, 3) := by decide +kernel
theorem dX9_areEnough_14 : decode cX9_areEnough 14 = .ok (.sipush 160, 3) := by decide +kernel
theorem dX9_areEnough_17 : decode cX9_areEnough 17 = .ok (.iload 4, 2) := by decide +kernel
theorem dX9_areEnough_19 : decode cX9_areEnough 19 = .ok (.iadd, 1) := by decide +kernel
theorem dX9_areEnough_20 : decode cX9_areEnough 20 = .ok (.laload, 1) := by decide +kernel
theorem dX9_areEnough_21 : decode cX9_areEnough 21 = .ok (.lor, 1) := by decide +kernel
theorem dX9_areEnough_22 : decode cX9_areEnough 22 = .ok (.lstore 5, 2) := by decide +kernel
theorem dX9_areEnough_24 : decode cX9_areEnough 24 = .ok (.iconst 0, 1) := by decide +kernel
theorem dX9_areEnough_25 : decode cX9_areEnough 25 = .ok (.istore 7, 2) := by decide +kernel
theorem dX9_areEnough_27 : decode cX9_areEnough 27 = .ok (.iload 7, 2) := by decide +kernel
theorem dX9_areEnough_29 : decode cX9_areEnough 29 = .ok (.aload_n 2, 1) := by decide +kernel
theorem dX9_areEnough_30 : decode cX9_areEnough 30 = .ok (.getfield 54, 3) := by decide +kernel
theorem dX9_areEnough_33 : decode cX9_areEnough 33 = .ok (.if_icmp .ge 41, 3) := by decide +kernel
theorem dX9_areEnough_36 : decode cX9_areEnough 36 = .ok (.lload 5, 2) := by decide +kernel
theorem dX9_areEnough_38 : decode cX9_areEnough 38 = .ok (.iload 7, 2) := by decide +kernel
theorem dX9_areEnough_40 : decode cX9_areEnough 40 = .ok (.lshr, 1) := by decide +kernel
theorem dX9_areEnough_41 : decode cX9_areEnough 41 = .ok (.lconst 1, 1) := by decide +kernel
theorem dX9_areEnough_42 : decode cX9_areEnough 42 = .ok (.land, 1) := by decide +kernel
theorem dX9_areEnough_43 : decode cX9_areEnough 43 = .ok (.lconst 0, 1) := by decide +kernel
theorem dX9_areEnough_44 : decode cX9_areEnough 44 = .ok (.lcmp, 1) := by decide +kernel
theorem dX9_areEnough_45 : decode cX9_areEnough 45 = .ok (.ifCond .ne 23, 3) := by decide +kernel
theorem dX9_areEnough_48 : decode cX9_areEnough 48 = .ok (.aload_n 0, 1) := by decide +kernel
theorem dX9_areEnough_49 : decode cX9_areEnough 49 = .ok (.aload_n 1, 1) := by decide +kernel
theorem dX9_areEnough_50 : decode cX9_areEnough 50 = .ok (.aload_n 2, 1) := by decide +kernel
theorem dX9_areEnough_51 : decode cX9_areEnough 51 = .ok (.getfield 57, 3) := by decide +kernel
theorem dX9_areEnough_54 : decode cX9_areEnough 54 = .ok (.iload 7, 2) := by decide +kernel
theorem dX9_areEnough_56 : decode cX9_areEnough 56 = .ok (.iaload, 1) := by decide +kernel
theorem dX9_areEnough_57 : decode cX9_areEnough 57 = .ok (.iload_n 3, 1) := by decide +kernel
theorem dX9_areEnough_58 : decode cX9_areEnough 58 = .ok (.iload 4, 2) := by decide +kernel
theorem dX9_areEnough_60 : decode cX9_areEnough 60 = .ok (.invokevirtual 112, 3) := by decide +kernel
theorem dX9_areEnough_63 : decode cX9_areEnough 63 = .ok (.ifCond .ne 5, 3) := by decide +kernel
theorem dX9_areEnough_66 : decode cX9_areEnough 66 = .ok (.iconst 0, 1) := by decide +kernel
theorem dX9_areEnough_67 : decode cX9_areEnough 67 = .ok (.ireturn, 1) := by decide +kernel
theorem dX9_areEnough_68 : decode cX9_areEnough 68 = .ok (.iinc 7 1, 3) := by decide +kernel
theorem dX9_areEnough_71 : decode cX9_areEnough 71 = .ok (.goto (-44), 3) := by decide +kernel
theorem dX9_areEnough_74 : decode cX9_areEnough 74 = .ok (.iconst 1, 1) := by decide +kernel
theorem dX9_areEnough_75 : decode cX9_areEnough 75 = .ok (.ireturn, 1) := by decide +kernel
theorem dX10_init_0 : decode cX10_init 0 = .ok (.aload_n 0, 1) := by decide +kernel
theorem dX10_init_1 : decode cX10_init 1 = .ok (.invokespecial 3, 3) := by decide +kernel
theorem dX10_init_4 : decode cX10_init 4 = .ok (.aload_n 0, 1) := by decide +kernel
theorem dX10_init_5 : decode cX10_init 5 = .ok (.sipush 400, 3) := by decide +kernel
theorem dX10_init_8 : decode cX10_init 8 = .ok (.newarray .byte, 2) := by decide +kernel
theorem dX10_init_10 : decode cX10_init 10 = .ok (.putfield 9, 3) := by decide +kernel
theorem dX10_init_13 : decode cX10_init 13 = .ok (.aload_n 0, 1) := by decide +kernel
theorem dX10_init_14 : decode cX10_init 14 = .ok (.new 13, 3) := by decide +kernel
theorem dX10_init_17 : decode cX10_init 17 = .ok (.dup, 1) := by decide +kernel
theorem dX10_init_18 : decode cX10_init 18 = .ok (.invokespecial 15, 3) := by decide +kernel
theorem dX10_init_21 : decode cX10_init 21 = .ok (.putfield 16, 3) := by decide +kernel
theorem dX10_init_24 : decode cX10_init 24 = .ok (.aload_n 0, 1) := by decide +kernel
theorem dX10_init_25 : decode cX10_init 25 = .ok (.new 20, 3) := by decide +kernel
theorem dX10_init_28 : decode cX10_init 28 = .ok (.dup, 1) := by decide +kernel
theorem dX10_init_29 : decode cX10_init 29 = .ok (.invokespecial 22, 3) := by decide +kernel
theorem dX10_init_32 : decode cX10_init 32 = .ok (.putfield 23, 3) := by decide +kernel
theorem dX10_init_35 : decode cX10_init 35 = .ok (.aload_n 0, 1) := by decide +kernel
theorem dX10_init_36 : decode cX10_init 36 = .ok (.new 20, 3) := by decide +kernel
theorem dX10_init_39 : decode cX10_init 39 = .ok (.dup, 1) := by decide +kernel
theorem dX10_init_40 : decode cX10_init 40 = .ok (.invokespecial 22, 3) := by decide +kernel
theorem dX10_init_43 : decode cX10_init 43 = .ok (.putfield 27, 3) := by decide +kernel
theorem dX10_init_46 : decode cX10_init 46 = .ok (.aload_n 0, 1) := by decide +kernel
theorem dX10_init_47 : decode cX10_init 47 = .ok (.new 30, 3) := by decide +kernel
theorem dX10_init_50 : decode cX10_init 50 = .ok (.dup, 1) := by decide +kernel
theorem dX10_init_51 : decode cX10_init 51 = .ok (.invokespecial 32, 3) := by decide +kernel
theorem dX10_init_54 : decode cX10_init 54 = .ok (.putfield 33, 3) := by decide +kernel
theorem dX10_init_57 : decode cX10_init 57 = .ok (.aload_n 0, 1) := by decide +kernel
theorem dX10_init_58 : decode cX10_init 58 = .ok (.new 30, 3) := by decide +kernel
theorem dX10_init_61 : decode cX10_init 61 = .ok (.dup, 1) := by decide +kernel
theorem dX10_init_62 : decode cX10_init 62 = .ok (.invokespecial 32, 3) := by decide +kernel
theorem dX10_init_65 : decode cX10_init 65 = .ok (.putfield 37, 3) := by decide +kernel
theorem dX10_init_68 : decode cX10_init 68 = .ok (.aload_n 0, 1) := by decide +kernel
theorem dX10_init_69 : decode cX10_init 69 = .ok (.new 30, 3) := by decide +kernel
theorem dX10_init_72 : decode cX10_init 72 = .ok (.dup, 1) := by decide +kernel
theorem dX10_init_73 : decode cX10_init 73 = .ok (.invokespecial 32, 3) := by decide +kernel
theorem dX10_init_76 : decode cX10_init 76 = .ok (.putfield 40, 3) := by decide +kernel
theorem dX10_init_79 : decode cX10_init 79 = .ok (.aload_n 0, 1) := by decide +kernel
theorem dX10_init_80 : decode cX10_init 80 = .ok (.bipush 10, 2) := by decide +kernel
theorem dX10_init_82 : decode cX10_init 82 = .ok (.newarray .int, 2) := by decide +kernel
theorem dX10_init_84 : decode cX10_init 84 = .ok (.putfield 43, 3) := by decide +kernel
theorem dX10_init_87 : decode cX10_init 87 = .ok (.aload_n 0, 1) := by decide +kernel
theorem dX10_init_88 : decode cX10_init 88 = .ok (.new 47, 3) := by decide +kernel
theorem dX10_init_91 : decode cX10_init 91 = .ok (.dup, 1) := by decide +kernel
theorem dX10_init_92 : decode cX10_init 92 = .ok (.invokespecial 49, 3) := by decide +kernel
theorem dX10_init_95 : decode cX10_init 95 = .ok (.putfield 50, 3) := by decide +kernel
theorem dX10_init_98 : decode cX10_init 98 = .ok (.aload_n 0, 1) := by decide +kernel
theorem dX10_init_99 : decode cX10_init 99 = .ok (.new 54, 3) := by decide +kernel
theorem dX10_init_102 : decode cX10_init 102 = .ok (.dup, 1) := by decide +kernel
theorem dX10_init_103 : decode cX10_init 103 = .ok (.invokespecial 56, 3) := by decide +kernel
theorem dX10_init_106 : decode cX10_init 106 = .ok (.putfield 57, 3) := by decide +kernel
theorem dX10_init_109 : decode cX10_init 109 = .ok (.aload_n 0, 1) := by decide +kernel
theorem dX10_init_110 : decode cX10_init 110 = .ok (.new 61, 3) := by decide +kernel
theorem dX10_init_113 : decode cX10_init 113 = .ok (.dup, 1) := by decide +kernel
theorem dX10_init_114 : decode cX10_init 114 = .ok (.invokespecial 63, 3) := by decide +kernel
theorem dX10_init_117 : decode cX10_init 117 = .ok (.putfield 64, 3) := by decide +kernel
theorem dX10_init_120 : decode cX10_init 120 = .ok (.aload_n 0, 1) := by decide +kernel
theorem dX10_init_121 : decode cX10_init 121 = .ok (.new 68, 3) := by decide +kernel
theorem dX10_init_124 : decode cX10_init 124 = .ok (.dup, 1) := by decide +kernel
theorem dX10_init_125 : decode cX10_init 125 = .ok (.invokespecial 70, 3) := by decide +kernel
theorem dX10_init_128 : decode cX10_init 128 = .ok (.putfield 71, 3) := by decide +kernel
theorem dX10_init_131 : decode cX10_init 131 = .ok (.aload_n 0, 1) := by decide +kernel
theorem dX10_init_132 : decode cX10_init 132 = .ok (.new 75, 3) := by decide +kernel
theorem dX10_init_135 : decode cX10_init 135 = .ok (.dup, 1) := by decide +kernel
theorem dX10_init_136 : decode cX10_init 136 = .ok (.invokespecial 77, 3) := by decide +kernel
theorem dX10_init_139 : decode cX10_init 139 = .ok (.putfield 78, 3) := by decide +kernel
theorem dX10_init_142 : decode cX10_init 142 = .ok (.aload_n 0, 1) := by decide +kernel
theorem dX10_init_143 : decode cX10_init 143 = .ok (.getfield 23, 3) := by decide +kernel
theorem dX10_init_146 : decode cX10_init 146 = .ok (.invokevirtual 82, 3) := by decide +kernel
theorem dX10_init_149 : decode cX10_init 149 = .ok (.aload_n 0, 1) := by decide +kernel
theorem dX10_init_150 : decode cX10_init 150 = .ok (.getfield 23, 3) := by decide +kernel
theorem dX10_init_153 : decode cX10_init 153 = .ok (.bipush 50, 2) := by decide +kernel
theorem dX10_init_155 : decode cX10_init 155 = .ok (.iconst 0, 1) := by decide +kernel
theorem dX10_init_156 : decode cX10_init 156 = .ok (.invokevirtual 85, 3) := by decide +kernel
theorem dX10_init_159 : decode cX10_init 159 = .ok (.pop, 1) := by decide +kernel
theorem dX10_init_160 : decode cX10_init 160 = .ok (.aload_n 0, 1) := by decide +kernel
theorem dX10_init_161 : decode cX10_init 161 = .ok (.getfield 23, 3) := by decide +kernel
theorem dX10_init_164 : decode cX10_init 164 = .ok (.bipush 50, 2) := by decide +kernel
theorem dX10_init_166 : decode cX10_init 166 = .ok (.iconst 0, 1) := by decide +kernel
theorem dX10_init_167 : decode cX10_init 167 = .ok (.bipush 10, 2) := by decide +kernel
theorem dX10_init_169 : decode cX10_init 169 = .ok (.iconst 0, 1) := by decide +kernel
theorem dX10_init_170 : decode cX10_init 170 = .ok (.invokevirtual 89, 3) := by decide +kernel
theorem dX10_init_173 : decode cX10_init 173 = .ok (.pop, 1) := by decide +kernel
theorem dX10_init_174 : decode cX10_init 174 = .ok (.aload_n 0, 1) := by decide +kernel
theorem dX10_init_175 : decode cX10_init 175 = .ok (.getfield 23, 3) := by decide +kernel
theorem dX10_init_178 : decode cX10_init 178 = .ok (.iconst 0, 1) := by decide +kernel
theorem dX10_init_179 : decode cX10_init 179 = .ok (.iconst 0, 1) := by decide +kernel
theorem dX10_init_180 : decode cX10_init 180 = .ok (.invokevirtual 93, 3) := by decide +kernel
theorem dX10_init_183 : decode cX10_init 183 = .ok (.pop, 1) := by decide +kernel
theorem dX10_init_184 : decode cX10_init 184 = .ok (.aload_n 0, 1) := by decide +kernel
theorem dX10_init_185 : decode cX10_init 185 = .ok (.getfield 23, 3) := by decide +kernel
theorem dX10_init_188 : decode cX10_init 188 = .ok (.invokevirtual 96, 3) := by decide +kernel
theorem dX10_init_191 : decode cX10_init 191 = .ok (.aload_n 0, 1) := by decide +kernel
theorem dX10_init_192 : decode cX10_init 192 = .ok (.invokevirtual 99, 3) := by decide +kernel
theorem dX10_init_195 : decode cX10_init 195 = .ok (.return_, 1) := by decide +kernel
theorem dX10_write_0 : decode cX10_write 0 = .ok (.iload_n 1, 1) := by decide +kernel
theorem dX10_write_1 : decode cX10_write 1 = .ok (.iconst 1, 1) := by decide +kernel
theorem dX10_write_2 : decode cX10_write 2 = .ok (.if_icmp .lt 9, 3) := by decide +kernel
theorem dX10_write_5 : decode cX10_write 5 = .ok (.iload_n 1, 1) := by decide +kernel
theorem dX10_write_6 : decode cX10_write 6 = .ok (.bipush 8, 2) := by decide +kernel
theorem dX10_write_8 : decode cX10_write 8 = .ok (.if_icmp .le 5, 3) := by decide +kernel
theorem dX10_write_11 : decode cX10_write 11 = .ok (.iconst (-1), 1) := by decide +kernel
theorem dX10_write_12 : decode cX10_write 12 = .ok (.ireturn, 1) := by decide +kernel
theorem dX10_write_13 : decode cX10_write 13 = .ok (.aload_n 0, 1) := by decide +kernel
theorem dX10_write_14 : decode cX10_write 14 = .ok (.getfield 102, 3) := by decide +kernel
theorem dX10_write_17 : decode cX10_write 17 = .ok (.iload_n 1, 1) := by decide +kernel
theorem dX10_write_18 : decode cX10_write 18 = .ok (.iadd, 1) := by decide +kernel
theorem dX10_write_19 : decode cX10_write 19 = .ok (.sipush 400, 3) := by decide +kernel
theorem dX10_write_22 : decode cX10_write 22 = .ok (.if_icmp .le 6, 3) := by decide +kernel
theorem dX10_write_25 : decode cX10_write 25 = .ok (.bipush (-3), 2) := by decide +kernel
theorem dX10_write_27 : decode cX10_write 27 = .ok (.ireturn, 1) := by decide +kernel
theorem dX10_write_28 : decode cX10_write 28 = .ok (.iload_n 1, 1) := by decide +kernel
theorem dX10_write_29 : decode cX10_write 29 = .ok (.iconst 1, 1) := by decide +kernel
theorem dX10_write_30 : decode cX10_write 30 = .ok (.isub, 1) := by decide +kernel
theorem dX10_write_31 : decode cX10_write 31 = .ok (.istore 4, 2) := by decide +kernel
theorem dX10_write_33 : decode cX10_write 33 = .ok (.iload 4, 2) := by decide +kernel
theorem dX10_write_35 : decode cX10_write 35 = .ok (.ifCond .lt 37, 3) := by decide +kernel
theorem dX10_write_38 : decode cX10_write 38 = .ok (.aload_n 0, 1) := by decide +kernel
theorem dX10_write_39 : decode cX10_write 39 = .ok (.getfield 9, 3) := by decide +kernel
theorem dX10_write_42 : decode cX10_write 42 = .ok (.aload_n 0, 1) := by decide +kernel
theorem dX10_write_43 : decode cX10_write 43 = .ok (.getfield 102, 3) := by decide +kernel
theorem dX10_write_46 : decode cX10_write 46 = .ok (.lload_n 2, 1) := by decide +kernel
theorem dX10_write_47 : decode cX10_write 47 = .ok (.bipush 8, 2) := by decide +kernel
theorem dX10_write_49 : decode cX10_write 49 = .ok (.iload 4, 2) := by decide +kernel
theorem dX10_write_51 : decode cX10_write 51 = .ok (.imul, 1) := by decide +kernel
theorem dX10_write_52 : decode cX10_write 52 = .ok (.lushr, 1) := by decide +kernel
theorem dX10_write_53 : decode cX10_write 53 = .ok (.l2i, 1) := by decide +kernel
theorem dX10_write_54 : decode cX10_write 54 = .ok (.i2b, 1) := by decide +kernel
theorem dX10_write_55 : decode cX10_write 55 = .ok (.bastore, 1) := by decide +kernel
theorem dX10_write_56 : decode cX10_write 56 = .ok (.aload_n 0, 1) := by decide +kernel
theorem dX10_write_57 : decode cX10_write 57 = .ok (.dup, 1) := by decide +kernel
theorem dX10_write_58 : decode cX10_write 58 = .ok (.getfield 102, 3) := by decide +kernel
theorem dX10_write_61 : decode cX10_write 61 = .ok (.iconst 1, 1) := by decide +kernel
theorem dX10_write_62 : decode cX10_write 62 = .ok (.iadd, 1) := by decide +kernel
theorem dX10_write_63 : decode cX10_write 63 = .ok (.putfield 102, 3) := by decide +kernel
theorem dX10_write_66 : decode cX10_write 66 = .ok (.iinc 4 (-1), 3) := by decide +kernel
theorem dX10_write_69 : decode cX10_write 69 = .ok (.goto (-36), 3) := by decide +kernel
theorem dX10_write_72 : decode cX10_write 72 = .ok (.aload_n 0, 1) := by decide +kernel
theorem dX10_write_73 : decode cX10_write 73 = .ok (.getfield 102, 3) := by decide +kernel
theorem dX10_write_76 : decode cX10_write 76 = .ok (.ireturn, 1) := by decide +kernel
theorem dX10_wipe_0 : decode cX10_wipe 0 = .ok (.aload_n 0, 1) := by decide +kernel
theorem dX10_wipe_1 : decode cX10_wipe 1 = .ok (.getfield 102, 3) := by decide +kernel
theorem dX10_wipe_4 : decode cX10_wipe 4 = .ok (.istore_n 1, 1) := by decide +kernel
theorem dX10_wipe_5 : decode cX10_wipe 5 = .ok (.aload_n 0, 1) := by decide +kernel
theorem dX10_wipe_6 : decode cX10_wipe 6 = .ok (.iconst 0, 1) := by decide +kernel
theorem dX10_wipe_7 : decode cX10_wipe 7 = .ok (.putfield 102, 3) := by decide +kernel
theorem dX10_wipe_10 : decode cX10_wipe 10 = .ok (.iload_n 1, 1) := by decide +kernel
theorem dX10_wipe_11 : decode cX10_wipe 11 = .ok (.ireturn, 1) := by decide +kernel
theorem dX10_fault_0 : decode cX10_fault 0 = .ok (.aload_n 0, 1) := by decide +kernel
theorem dX10_fault_1 : decode cX10_fault 1 = .ok (.getfield 16, 3) := by decide +kernel
theorem dX10_fault_4 : decode cX10_fault 4 = .ok (.aload_n 0, 1) := by decide +kernel
theorem dX10_fault_5 : decode cX10_fault 5 = .ok (.getfield 9, 3) := by decide +kernel
theorem dX10_fault_8 : decode cX10_fault 8 = .ok (.aload_n 0, 1) := by decide +kernel
theorem dX10_fault_9 : decode cX10_fault 9 = .ok (.getfield 102, 3) := by decide +kernel
theorem dX10_fault_12 : decode cX10_fault 12 = .ok (.aload_n 0, 1) := by decide +kernel
theorem dX10_fault_13 : decode cX10_fault 13 = .ok (.getfield 27, 3) := by decide +kernel
theorem dX10_fault_16 : decode cX10_fault 16 = .ok (.invokevirtual 106, 3) := by decide +kernel
theorem dX10_fault_19 : decode cX10_fault 19 = .ok (.ireturn, 1) := by decide +kernel
theorem dX10_lay_0 : decode cX10_lay 0 = .ok (.aload_n 0, 1) := by decide +kernel
theorem dX10_lay_1 : decode cX10_lay 1 = .ok (.getfield 16, 3) := by decide +kernel
theorem dX10_lay_4 : decode cX10_lay 4 = .ok (.aload_n 0, 1) := by decide +kernel
theorem dX10_lay_5 : decode cX10_lay 5 = .ok (.getfield 9, 3) := by decide +kernel
theorem dX10_lay_8 : decode cX10_lay 8 = .ok (.aload_n 0, 1) := by decide +kernel
theorem dX10_lay_9 : decode cX10_lay 9 = .ok (.getfield 102, 3) := by decide +kernel
theorem dX10_lay_12 : decode cX10_lay 12 = .ok (.aload_n 0, 1) := by decide +kernel
theorem dX10_lay_13 : decode cX10_lay 13 = .ok (.getfield 27, 3) := by decide +kernel
theorem dX10_lay_16 : decode cX10_lay 16 = .ok (.invokevirtual 106, 3) := by decide +kernel
theorem dX10_lay_19 : decode cX10_lay 19 = .ok (.bipush (-4), 2) := by decide +kernel
theorem dX10_lay_21 : decode cX10_lay 21 = .ok (.if_icmp .ne 23, 3) := by decide +kernel
theorem dX10_lay_24 : decode cX10_lay 24 = .ok (.aload_n 0, 1) := by decide +kernel
theorem dX10_lay_25 : decode cX10_lay 25 = .ok (.getfield 27, 3) := by decide +kernel
theorem dX10_lay_28 : decode cX10_lay 28 = .ok (.getfield 110, 3) := by decide +kernel
theorem dX10_lay_31 : decode cX10_lay 31 = .ok (.ifCond .eq 13, 3) := by decide +kernel
theorem dX10_lay_34 : decode cX10_lay 34 = .ok (.aload_n 0, 1) := by decide +kernel
theorem dX10_lay_35 : decode cX10_lay 35 = .ok (.getfield 27, 3) := by decide +kernel
theorem dX10_lay_38 : decode cX10_lay 38 = .ok (.getfield 113, 3) := by decide +kernel
theorem dX10_lay_41 : decode cX10_lay 41 = .ok (.ifCond .ne 6, 3) := by decide +kernel
theorem dX10_lay_44 : decode cX10_lay 44 = .ok (.bipush (-2), 2) := by decide +kernel
theorem dX10_lay_46 : decode cX10_lay 46 = .ok (.ireturn, 1) := by decide +kernel
theorem dX10_lay_47 : decode cX10_lay 47 = .ok (.aload_n 0, 1) := by decide +kernel
theorem dX10_lay_48 : decode cX10_lay 48 = .ok (.getfield 23, 3) := by decide +kernel
theorem dX10_lay_51 : decode cX10_lay 51 = .ok (.astore_n 1, 1) := by decide +kernel
theorem dX10_lay_52 : decode cX10_lay 52 = .ok (.aload_n 0, 1) := by decide +kernel
theorem dX10_lay_53 : decode cX10_lay 53 = .ok (.aload_n 0, 1) := by decide +kernel
theorem dX10_lay_54 : decode cX10_lay 54 = .ok (.getfield 27, 3) := by decide +kernel
theorem dX10_lay_57 : decode cX10_lay 57 = .ok (.putfield 23, 3) := by decide +kernel
theorem dX10_lay_60 : decode cX10_lay 60 = .ok (.aload_n 0, 1) := by decide +kernel
theorem dX10_lay_61 : decode cX10_lay 61 = .ok (.aload_n 1, 1) := by decide +kernel
theorem dX10_lay_62 : decode cX10_lay 62 = .ok (.putfield 27, 3) := by decide +kernel
theorem dX10_lay_65 : decode cX10_lay 65 = .ok (.aload_n 0, 1) := by decide +kernel
theorem dX10_lay_66 : decode cX10_lay 66 = .ok (.getfield 23, 3) := by decide +kernel
theorem dX10_lay_69 : decode cX10_lay 69 = .ok (.invokevirtual 96, 3) := by decide +kernel
theorem dX10_lay_72 : decode cX10_lay 72 = .ok (.aload_n 0, 1) := by decide +kernel
theorem dX10_lay_73 : decode cX10_lay 73 = .ok (.invokevirtual 99, 3) := by decide +kernel
theorem dX10_lay_76 : decode cX10_lay 76 = .ok (.aload_n 0, 1) := by decide +kernel
theorem dX10_lay_77 : decode cX10_lay 77 = .ok (.getfield 23, 3) := by decide +kernel
theorem dX10_lay_80 : decode cX10_lay 80 = .ok (.getfield 110, 3) := by decide +kernel
theorem dX10_lay_83 : decode cX10_lay 83 = .ok (.ireturn, 1) := by decide +kernel
theorem dX10_startAnew_0 : decode cX10_startAnew 0 = .ok (.aload_n 0, 1) := by decide +kernel
theorem dX10_startAnew_1 : decode cX10_startAnew 1 = .ok (.getfield 33, 3) := by decide +kernel
theorem dX10_startAnew_4 : decode cX10_startAnew 4 = .ok (.invokevirtual 116, 3) := by decide +kernel
theorem dX10_startAnew_7 : decode cX10_startAnew 7 = .ok (.aload_n 0, 1) := by decide +kernel
theorem dX10_startAnew_8 : decode cX10_startAnew 8 = .ok (.iconst 0, 1) := by decide +kernel
theorem dX10_startAnew_9 : decode cX10_startAnew 9 = .ok (.putfield 117, 3) := by decide +kernel
theorem dX10_startAnew_12 : decode cX10_startAnew 12 = .ok (.aload_n 0, 1) := by decide +kernel
theorem dX10_startAnew_13 : decode cX10_startAnew 13 = .ok (.getfield 43, 3) := by decide +kernel
theorem dX10_startAnew_16 : decode cX10_startAnew 16 = .ok (.iconst 0, 1) := by decide +kernel
theorem dX10_startAnew_17 : decode cX10_startAnew 17 = .ok (.invokestatic 120, 3) := by decide +kernel
theorem dX10_startAnew_20 : decode cX10_startAnew 20 = .ok (.aload_n 0, 1) := by decide +kernel
theorem dX10_startAnew_21 : decode cX10_startAnew 21 = .ok (.getfield 57, 3) := by decide +kernel
theorem dX10_startAnew_24 : decode cX10_startAnew 24 = .ok (.invokevirtual 126, 3) := by decide +kernel
theorem dX10_startAnew_27 : decode cX10_startAnew 27 = .ok (.aload_n 0, 1) := by decide +kernel
theorem dX10_startAnew_28 : decode cX10_startAnew 28 = .ok (.getfield 64, 3) := by decide +kernel
theorem dX10_startAnew_31 : decode cX10_startAnew 31 = .ok (.invokevirtual 129, 3) := by decide +kernel
theorem dX10_startAnew_34 : decode cX10_startAnew 34 = .ok (.aload_n 0, 1) := by decide +kernel
theorem dX10_startAnew_35 : decode cX10_startAnew 35 = .ok (.getfield 71, 3) := by decide +kernel
theorem dX10_startAnew_38 : decode cX10_startAnew 38 = .ok (.invokevirtual 130, 3) := by decide +kernel
theorem dX10_startAnew_41 : decode cX10_startAnew 41 = .ok (.return_, 1) := by decide +kernel
theorem dX10_player_0 : decode cX10_player 0 = .ok (.aload_n 0, 1) := by decide +kernel
theorem dX10_player_1 : decode cX10_player 1 = .ok (.getfield 23, 3) := by decide +kernel
theorem dX10_player_4 : decode cX10_player 4 = .ok (.iload_n 1, 1) := by decide +kernel
theorem dX10_player_5 : decode cX10_player 5 = .ok (.invokevirtual 131, 3) := by decide +kernel
theorem dX10_player_8 : decode cX10_player 8 = .ok (.ifCond .ne 5, 3) := by decide +kernel
theorem dX10_player_11 : decode cX10_player 11 = .ok (.iconst (-1), 1) := by decide +kernel
theorem dX10_player_12 : decode cX10_player 12 = .ok (.ireturn, 1) := by decide +kernel
theorem dX10_player_13 : decode cX10_player 13 = .ok (.iload_n 2, 1) := by decide +kernel
theorem dX10_player_14 : decode cX10_player 14 = .ok (.tableswitch 82 0 4 #[34, 44, 54, 63, 73], 34) := by decide +kernel
theorem dX10_player_48 : decode cX10_player 48 = .ok (.aload_n 0, 1) := by decide +kernel
theorem dX10_player_49 : decode cX10_player 49 = .ok (.getfield 23, 3) := by decide +kernel
theorem dX10_player_52 : decode cX10_player 52 = .ok (.getfield 135, 3) := by decide +kernel
theorem dX10_player_55 : decode cX10_player 55 = .ok (.iload_n 1, 1) := by decide +kernel
theorem dX10_player_56 : decode cX10_player 56 = .ok (.iaload, 1) := by decide +kernel
theorem dX10_player_57 : decode cX10_player 57 = .ok (.ireturn, 1) := by decide +kernel
theorem dX10_player_58 : decode cX10_player 58 = .ok (.aload_n 0, 1) := by decide +kernel
theorem dX10_player_59 : decode cX10_player 59 = .ok (.getfield 23, 3) := by decide +kernel
theorem dX10_player_62 : decode cX10_player 62 = .ok (.getfield 138, 3) := by decide +kernel
theorem dX10_player_65 : decode cX10_player 65 = .ok (.iload_n 1, 1) := by decide +kernel
theorem dX10_player_66 : decode cX10_player 66 = .ok (.iaload, 1) := by decide +kernel
theorem dX10_player_67 : decode cX10_player 67 = .ok (.ireturn, 1) := by decide +kernel
theorem dX10_player_68 : decode cX10_player 68 = .ok (.aload_n 0, 1) := by decide +kernel
theorem dX10_player_69 : decode cX10_player 69 = .ok (.getfield 23, 3) := by decide +kernel
theorem dX10_player_72 : decode cX10_player 72 = .ok (.iload_n 1, 1) := by decide +kernel
theorem dX10_player_73 : decode cX10_player 73 = .ok (.invokevirtual 141, 3) := by decide +kernel
theorem dX10_player_76 : decode cX10_player 76 = .ok (.ireturn, 1) := by decide +kernel
theorem dX10_player_77 : decode cX10_player 77 = .ok (.aload_n 0, 1) := by decide +kernel
theorem dX10_player_78 : decode cX10_player 78 = .ok (.getfield 23, 3) := by decide +kernel
theorem dX10_player_81 : decode cX10_player 81 = .ok (.getfield 145, 3) := by decide +kernel
theorem dX10_player_84 : decode cX10_player 84 = .ok (.iload_n 1, 1) := by decide +kernel
theorem dX10_player_85 : decode cX10_player 85 = .ok (.iaload, 1) := by decide +kernel
theorem dX10_player_86 : decode cX10_player 86 = .ok (.ireturn, 1) := by decide +kernel
theorem dX10_player_87 : decode cX10_player 87 = .ok (.aload_n 0, 1) := by decide +kernel
theorem dX10_player_88 : decode cX10_player 88 = .ok (.getfield 23, 3) := by decide +kernel
theorem dX10_player_91 : decode cX10_player 91 = .ok (.iload_n 1, 1) := by decide +kernel
theorem dX10_player_92 : decode cX10_player 92 = .ok (.invokevirtual 148, 3) := by decide +kernel
theorem dX10_player_95 : decode cX10_player 95 = .ok (.ireturn, 1) := by decide +kernel
theorem dX10_player_96 : decode cX10_player 96 = .ok (.iconst (-1), 1) := by decide +kernel
theorem dX10_player_97 : decode cX10_player 97 = .ok (.ireturn, 1) := by decide +kernel
theorem dX10_part_0 : decode cX10_part 0 = .ok (.aload_n 0, 1) := by decide +kernel
theorem dX10_part_1 : decode cX10_part 1 = .ok (.getfield 23, 3) := by decide +kernel
theorem dX10_part_4 : decode cX10_part 4 = .ok (.iload_n 1, 1) := by decide +kernel
theorem dX10_part_5 : decode cX10_part 5 = .ok (.invokevirtual 151, 3) := by decide +kernel
theorem dX10_part_8 : decode cX10_part 8 = .ok (.ifCond .ne 5, 3) := by decide +kernel
theorem dX10_part_11 : decode cX10_part 11 = .ok (.iconst (-1), 1) := by decide +kernel
theorem dX10_part_12 : decode cX10_part 12 = .ok (.ireturn, 1) := by decide +kernel
theorem dX10_part_13 : decode cX10_part 13 = .ok (.iload_n 2, 1) := by decide +kernel
theorem dX10_part_14 : decode cX10_part 14 = .ok (.tableswitch 102 0 5 #[38, 48, 58, 68, 80, 92], 38) := by decide +kernel
theorem dX10_part_52 : decode cX10_part 52 = .ok (.aload_n 0, 1) := by decide +kernel
theorem dX10_part_53 : decode cX10_part 53 = .ok (.getfield 23, 3) := by decide +kernel
theorem dX10_part_56 : decode cX10_part 56 = .ok (.getfield 154, 3) := by decide +kernel
theorem dX10_part_59 : decode cX10_part 59 = .ok (.iload_n 1, 1) := by decide +kernel
theorem dX10_part_60 : decode cX10_part 60 = .ok (.iaload, 1) := by decide +kernel
theorem dX10_part_61 : decode cX10_part 61 = .ok (.ireturn, 1) := by decide +kernel
theorem dX10_part_62 : decode cX10_part 62 = .ok (.aload_n 0, 1) := by decide +kernel
theorem dX10_part_63 : decode cX10_part 63 = .ok (.getfield 23, 3) := by decide +kernel
theorem dX10_part_66 : decode cX10_part 66 = .ok (.getfield 157, 3) := by decide +kernel
theorem dX10_part_69 : decode cX10_part 69 = .ok (.iload_n 1, 1) := by decide +kernel
theorem dX10_part_70 : decode cX10_part 70 = .ok (.iaload, 1) := by decide +kernel
theorem dX10_part_71 : decode cX10_part 71 = .ok (.ireturn, 1) := by decide +kernel
theorem dX10_part_72 : decode cX10_part 72 = .ok (.aload_n 0, 1) := by decide +kernel
theorem dX10_part_73 : decode cX10_part 73 = .ok (.getfield 23, 3) := by decide +kernel
theorem dX10_part_76 : decode cX10_part 76 = .ok (.getfield 160, 3) := by decide +kernel
theorem dX10_part_79 : decode cX10_part 79 = .ok (.iload_n 1, 1) := by decide +kernel
theorem dX10_part_80 : decode cX10_part 80 = .ok (.iaload, 1) := by decide +kernel
theorem dX10_part_81 : decode cX10_part 81 = .ok (.ireturn, 1) := by decide +kernel
theorem dX10_part_82 : decode cX10_part 82 = .ok (.aload_n 0, 1) := by decide +kernel
theorem dX10_part_83 : decode cX10_part 83 = .ok (.getfield 23, 3) := by decide +kernel
theorem dX10_part_86 : decode cX10_part 86 = .ok (.getfield 163, 3) := by decide +kernel
theorem dX10_part_89 : decode cX10_part 89 = .ok (.iload_n 1, 1) := by decide +kernel
theorem dX10_part_90 : decode cX10_part 90 = .ok (.ishr, 1) := by decide +kernel
theorem dX10_part_91 : decode cX10_part 91 = .ok (.iconst 1, 1) := by decide +kernel
theorem dX10_part_92 : decode cX10_part 92 = .ok (.iand, 1) := by decide +kernel
theorem dX10_part_93 : decode cX10_part 93 = .ok (.ireturn, 1) := by decide +kernel
theorem dX10_part_94 : decode cX10_part 94 = .ok (.aload_n 0, 1) := by decide +kernel
theorem dX10_part_95 : decode cX10_part 95 = .ok (.getfield 23, 3) := by decide +kernel
theorem dX10_part_98 : decode cX10_part 98 = .ok (.getfield 166, 3) := by decide +kernel
theorem dX10_part_101 : decode cX10_part 101 = .ok (.iload_n 1, 1) := by decide +kernel
theorem dX10_part_102 : decode cX10_part 102 = .ok (.invokevirtual 170, 3) := by decide +kernel
theorem dX10_part_105 : decode cX10_part 105 = .ok (.ireturn, 1) := by decide +kernel
theorem dX10_part_106 : decode cX10_part 106 = .ok (.aload_n 0, 1) := by decide +kernel
theorem dX10_part_107 : decode cX10_part 107 = .ok (.getfield 23, 3) := by decide +kernel
theorem dX10_part_110 : decode cX10_part 110 = .ok (.getfield 175, 3) := by decide +kernel
theorem dX10_part_113 : decode cX10_part 113 = .ok (.iload_n 1, 1) := by decide +kernel
theorem dX10_part_114 : decode cX10_part 114 = .ok (.iaload, 1) := by decide +kernel
theorem dX10_part_115 : decode cX10_part 115 = .ok (.ireturn, 1) := by decide +kernel
theorem dX10_part_116 : decode cX10_part 116 = .ok (.iconst (-1), 1) := by decide +kernel
theorem dX10_part_117 : decode cX10_part 117 = .ok (.ireturn, 1) := by decide +kernel
theorem dX10_both_0 : decode cX10_both 0 = .ok (.aload_n 0, 1) := by decide +kernel
theorem dX10_both_1 : decode cX10_both 1 = .ok (.getfield 23, 3) := by decide +kernel
theorem dX10_both_4 : decode cX10_both 4 = .ok (.iload_n 1, 1) := by decide +kernel
theorem dX10_both_5 : decode cX10_both 5 = .ok (.invokevirtual 151, 3) := by decide +kernel
theorem dX10_both_8 : decode cX10_both 8 = .ok (.ifCond .eq 19, 3) := by decide +kernel
theorem dX10_both_11 : decode cX10_both 11 = .ok (.aload_n 0, 1) := by decide +kernel
theorem dX10_both_12 : decode cX10_both 12 = .ok (.getfield 23, 3) := by decide +kernel
theorem dX10_both_15 : decode cX10_both 15 = .ok (.iload_n 2, 1) := by decide +kernel
theorem dX10_both_16 : decode cX10_both 16 = .ok (.invokevirtual 151, 3) := by decide +kernel
theorem dX10_both_19 : decode cX10_both 19 = .ok (.ifCond .eq 8, 3) := by decide +kernel
theorem dX10_both_22 : decode cX10_both 22 = .ok (.iload_n 1, 1) := by decide +kernel
theorem dX10_both_23 : decode cX10_both 23 = .ok (.iload_n 2, 1) := by decide +kernel
theorem dX10_both_24 : decode cX10_both 24 = .ok (.if_icmp .ne 5, 3) := by decide +kernel
theorem dX10_both_27 : decode cX10_both 27 = .ok (.iconst (-1), 1) := by decide +kernel
theorem dX10_both_28 : decode cX10_both 28 = .ok (.ireturn, 1) := by decide +kernel
theorem dX10_both_29 : decode cX10_both 29 = .ok (.aload_n 0, 1) := by decide +kernel
theorem dX10_both_30 : decode cX10_both 30 = .ok (.getfield 23, 3) := by decide +kernel
theorem dX10_both_33 : decode cX10_both 33 = .ok (.getfield 178, 3) := by decide +kernel
theorem dX10_both_36 : decode cX10_both 36 = .ok (.iload_n 1, 1) := by decide +kernel
theorem dX10_both_37 : decode cX10_both 37 = .ok (.iaload, 1) := by decide +kernel
theorem dX10_both_38 : decode cX10_both 38 = .ok (.iload_n 2, 1) := by decide +kernel
theorem dX10_both_39 : decode cX10_both 39 = .ok (.invokestatic 181, 3) := by decide +kernel
theorem dX10_both_42 : decode cX10_both 42 = .ok (.ifCond .eq 7, 3) := by decide +kernel
theorem dX10_both_45 : decode cX10_both 45 = .ok (.iconst 0, 1) := by decide +kernel
theorem dX10_both_46 : decode cX10_both 46 = .ok (.goto 4, 3) := by decide +kernel
theorem dX10_both_49 : decode cX10_both 49 = .ok (.iconst 1, 1) := by decide +kernel
theorem dX10_both_50 : decode cX10_both 50 = .ok (.ireturn, 1) := by decide +kernel
theorem dX10_ways_0 : decode cX10_ways 0 = .ok (.aload_n 0, 1) := by decide +kernel
theorem dX10_ways_1 : decode cX10_ways 1 = .ok (.getfield 23, 3) := by decide +kernel
theorem dX10_ways_4 : decode cX10_ways 4 = .ok (.iload_n 1, 1) := by decide +kernel
theorem dX10_ways_5 : decode cX10_ways 5 = .ok (.invokevirtual 184, 3) := by decide +kernel
theorem dX10_ways_8 : decode cX10_ways 8 = .ok (.ifCond .eq 14, 3) := by decide +kernel
theorem dX10_ways_11 : decode cX10_ways 11 = .ok (.aload_n 0, 1) := by decide +kernel
theorem dX10_ways_12 : decode cX10_ways 12 = .ok (.getfield 23, 3) := by decide +kernel
theorem dX10_ways_15 : decode cX10_ways 15 = .ok (.iload_n 2, 1) := by decide +kernel
theorem dX10_ways_16 : decode cX10_ways 16 = .ok (.invokevirtual 187, 3) := by decide +kernel
theorem dX10_ways_19 : decode cX10_ways 19 = .ok (.ifCond .ne 5, 3) := by decide +kernel
theorem dX10_ways_22 : decode cX10_ways 22 = .ok (.lconst 0, 1) := by decide +kernel
theorem dX10_ways_23 : decode cX10_ways 23 = .ok (.lreturn, 1) := by decide +kernel
theorem dX10_ways_24 : decode cX10_ways 24 = .ok (.aload_n 0, 1) := by decide +kernel
theorem dX10_ways_25 : decode cX10_ways 25 = .ok (.getfield 50, 3) := by decide +kernel
theorem dX10_ways_28 : decode cX10_ways 28 = .ok (.aload_n 0, 1) := by decide +kernel
theorem dX10_ways_29 : decode cX10_ways 29 = .ok (.getfield 23, 3) := by decide +kernel
theorem dX10_ways_32 : decode cX10_ways 32 = .ok (.iload_n 1, 1) := by decide +kernel
theorem dX10_ways_33 : decode cX10_ways 33 = .ok (.iload_n 2, 1) := by decide +kernel
theorem dX10_ways_34 : decode cX10_ways 34 = .ok (.invokevirtual 190, 3) := by decide +kernel
theorem dX10_ways_37 : decode cX10_ways 37 = .ok (.lreturn, 1) := by decide +kernel
theorem dX10_least_0 : decode cX10_least 0 = .ok (.iload_n 3, 1) := by decide +kernel
theorem dX10_least_1 : decode cX10_least 1 = .ok (.ifCond .lt 14, 3) := by decide +kernel
theorem dX10_least_4 : decode cX10_least 4 = .ok (.aload_n 0, 1) := by decide +kernel
theorem dX10_least_5 : decode cX10_least 5 = .ok (.getfield 23, 3) := by decide +kernel
theorem dX10_least_8 : decode cX10_least 8 = .ok (.iload_n 3, 1) := by decide +kernel
theorem dX10_least_9 : decode cX10_least 9 = .ok (.invokevirtual 151, 3) := by decide +kernel
theorem dX10_least_12 : decode cX10_least 12 = .ok (.goto 14, 3) := by decide +kernel
theorem dX10_least_15 : decode cX10_least 15 = .ok (.iload_n 3, 1) := by decide +kernel
theorem dX10_least_16 : decode cX10_least 16 = .ok (.bipush (-3), 2) := by decide +kernel
theorem dX10_least_18 : decode cX10_least 18 = .ok (.if_icmp .lt 7, 3) := by decide +kernel
theorem dX10_least_21 : decode cX10_least 21 = .ok (.iconst 1, 1) := by decide +kernel
theorem dX10_least_22 : decode cX10_least 22 = .ok (.goto 4, 3) := by decide +kernel
theorem dX10_least_25 : decode cX10_least 25 = .ok (.iconst 0, 1) := by decide +kernel
theorem dX10_least_26 : decode cX10_least 26 = .ok (.istore 4, 2) := by decide +kernel
theorem dX10_least_28 : decode cX10_least 28 = .ok (.iload 4, 2) := by decide +kernel
theorem dX10_least_30 : decode cX10_least 30 = .ok (.ifCond .eq 25, 3) := by decide +kernel
theorem dX10_least_33 : decode cX10_least 33 = .ok (.aload_n 0, 1) := by decide +kernel
theorem dX10_least_34 : decode cX10_least 34 = .ok (.getfield 23, 3) := by decide +kernel
theorem dX10_least_37 : decode cX10_least 37 = .ok (.iload_n 1, 1) := by decide +kernel
theorem dX10_least_38 : decode cX10_least 38 = .ok (.invokevirtual 184, 3) := by decide +kernel
theorem dX10_least_41 : decode cX10_least 41 = .ok (.ifCond .eq 14, 3) := by decide +kernel
theorem dX10_least_44 : decode cX10_least 44 = .ok (.aload_n 0, 1) := by decide +kernel
theorem dX10_least_45 : decode cX10_least 45 = .ok (.getfield 23, 3) := by decide +kernel
theorem dX10_least_48 : decode cX10_least 48 = .ok (.iload_n 2, 1) := by decide +kernel
theorem dX10_least_49 : decode cX10_least 49 = .ok (.invokevirtual 187, 3) := by decide +kernel
theorem dX10_least_52 : decode cX10_least 52 = .ok (.ifCond .ne 5, 3) := by decide +kernel
theorem dX10_least_55 : decode cX10_least 55 = .ok (.iconst (-1), 1) := by decide +kernel
theorem dX10_least_56 : decode cX10_least 56 = .ok (.ireturn, 1) := by decide +kernel
theorem dX10_least_57 : decode cX10_least 57 = .ok (.iload_n 3, 1) := by decide +kernel
theorem dX10_least_58 : decode cX10_least 58 = .ok (.ifCond .lt 14, 3) := by decide +kernel
theorem dX10_least_61 : decode cX10_least 61 = .ok (.iload_n 2, 1) := by decide +kernel
theorem dX10_least_62 : decode cX10_least 62 = .ok (.iload_n 3, 1) := by decide +kernel
theorem dX10_least_63 : decode cX10_least 63 = .ok (.invokestatic 181, 3) := by decide +kernel
theorem dX10_least_66 : decode cX10_least 66 = .ok (.ifCond .eq 6, 3) := by decide +kernel
theorem dX10_least_69 : decode cX10_least 69 = .ok (.bipush (-2), 2) := by decide +kernel
theorem dX10_least_71 : decode cX10_least 71 = .ok (.ireturn, 1) := by decide +kernel
theorem dX10_least_72 : decode cX10_least 72 = .ok (.aload_n 0, 1) := by decide +kernel
theorem dX10_least_73 : decode cX10_least 73 = .ok (.getfield 50, 3) := by decide +kernel
theorem dX10_least_76 : decode cX10_least 76 = .ok (.aload_n 0, 1) := by decide +kernel
theorem dX10_least_77 : decode cX10_least 77 = .ok (.getfield 23, 3) := by decide +kernel
theorem dX10_least_80 : decode cX10_least 80 = .ok (.aload_n 0, 1) := by decide +kernel
theorem dX10_least_81 : decode cX10_least 81 = .ok (.getfield 33, 3) := by decide +kernel
theorem dX10_least_84 : decode cX10_least 84 = .ok (.iload_n 1, 1) := by decide +kernel
theorem dX10_least_85 : decode cX10_least 85 = .ok (.iload_n 2, 1) := by decide +kernel
theorem dX10_least_86 : decode cX10_least 86 = .ok (.invokevirtual 194, 3) := by decide +kernel
theorem dX10_least_89 : decode cX10_least 89 = .ok (.ifCond .ne 6, 3) := by decide +kernel
theorem dX10_least_92 : decode cX10_least 92 = .ok (.bipush (-4), 2) := by decide +kernel
theorem dX10_least_94 : decode cX10_least 94 = .ok (.ireturn, 1) := by decide +kernel
theorem dX10_least_95 : decode cX10_least 95 = .ok (.iload_n 3, 1) := by decide +kernel
theorem dX10_least_96 : decode cX10_least 96 = .ok (.tableswitch 56 (-3) (-1) #[44, 36, 28], 28) := by decide +kernel
theorem dX10_least_124 : decode cX10_least 124 = .ok (.aload_n 0, 1) := by decide +kernel
theorem dX10_least_125 : decode cX10_least 125 = .ok (.getfield 50, 3) := by decide +kernel
theorem dX10_least_128 : decode cX10_least 128 = .ok (.getfield 198, 3) := by decide +kernel
theorem dX10_least_131 : decode cX10_least 131 = .ok (.ireturn, 1) := by decide +kernel
theorem dX10_least_132 : decode cX10_least 132 = .ok (.aload_n 0, 1) := by decide +kernel
theorem dX10_least_133 : decode cX10_least 133 = .ok (.getfield 50, 3) := by decide +kernel
theorem dX10_least_136 : decode cX10_least 136 = .ok (.invokevirtual 201, 3) := by decide +kernel
theorem dX10_least_139 : decode cX10_least 139 = .ok (.ireturn, 1) := by decide +kernel
theorem dX10_least_140 : decode cX10_least 140 = .ok (.aload_n 0, 1) := by decide +kernel
theorem dX10_least_141 : decode cX10_least 141 = .ok (.getfield 50, 3) := by decide +kernel
theorem dX10_least_144 : decode cX10_least 144 = .ok (.aload_n 0, 1) := by decide +kernel
theorem dX10_least_145 : decode cX10_least 145 = .ok (.getfield 33, 3) := by decide +kernel
theorem dX10_least_148 : decode cX10_least 148 = .ok (.invokevirtual 205, 3) := by decide +kernel
theorem dX10_least_151 : decode cX10_least 151 = .ok (.ireturn, 1) := by decide +kernel
theorem dX10_least_152 : decode cX10_least 152 = .ok (.aload_n 0, 1) := by decide +kernel
theorem dX10_least_153 : decode cX10_least 153 = .ok (.getfield 50, 3) := by decide +kernel
theorem dX10_least_156 : decode cX10_least 156 = .ok (.getfield 209, 3) := by decide +kernel
theorem dX10_least_159 : decode cX10_least 159 = .ok (.iload_n 3, 1) := by decide +kernel
theorem dX10_least_160 : decode cX10_least 160 = .ok (.iaload, 1) := by decide +kernel
theorem dX10_least_161 : decode cX10_least 161 = .ok (.ireturn, 1) := by decide +kernel
theorem dX10_cuts_0 : decode cX10_cuts 0 = .ok (.aload_n 0, 1) := by decide +kernel
theorem dX10_cuts_1 : decode cX10_cuts 1 = .ok (.getfield 23, 3) := by decide +kernel
theorem dX10_cuts_4 : decode cX10_cuts 4 = .ok (.iload_n 1, 1) := by decide +kernel
theorem dX10_cuts_5 : decode cX10_cuts 5 = .ok (.invokevirtual 184, 3) := by decide +kernel
theorem dX10_cuts_8 : decode cX10_cuts 8 = .ok (.ifCond .eq 12, 3) := by decide +kernel
theorem dX10_cuts_11 : decode cX10_cuts 11 = .ok (.iload_n 2, 1) := by decide +kernel
theorem dX10_cuts_12 : decode cX10_cuts 12 = .ok (.ifCond .lt 8, 3) := by decide +kernel
theorem dX10_cuts_15 : decode cX10_cuts 15 = .ok (.iload_n 2, 1) := by decide +kernel
theorem dX10_cuts_16 : decode cX10_cuts 16 = .ok (.iconst 1, 1) := by decide +kernel
theorem dX10_cuts_17 : decode cX10_cuts 17 = .ok (.if_icmp .le 5, 3) := by decide +kernel
theorem dX10_cuts_20 : decode cX10_cuts 20 = .ok (.iconst (-1), 1) := by decide +kernel
theorem dX10_cuts_21 : decode cX10_cuts 21 = .ok (.ireturn, 1) := by decide +kernel
theorem dX10_cuts_22 : decode cX10_cuts 22 = .ok (.aload_n 0, 1) := by decide +kernel
theorem dX10_cuts_23 : decode cX10_cuts 23 = .ok (.getfield 57, 3) := by decide +kernel
theorem dX10_cuts_26 : decode cX10_cuts 26 = .ok (.aload_n 0, 1) := by decide +kernel
theorem dX10_cuts_27 : decode cX10_cuts 27 = .ok (.getfield 23, 3) := by decide +kernel
theorem dX10_cuts_30 : decode cX10_cuts 30 = .ok (.iload_n 1, 1) := by decide +kernel
theorem dX10_cuts_31 : decode cX10_cuts 31 = .ok (.invokevirtual 212, 3) := by decide +kernel
theorem dX10_cuts_34 : decode cX10_cuts 34 = .ok (.istore_n 3, 1) := by decide +kernel
theorem dX10_cuts_35 : decode cX10_cuts 35 = .ok (.iload_n 3, 1) := by decide +kernel
theorem dX10_cuts_36 : decode cX10_cuts 36 = .ok (.bipush (-4), 2) := by decide +kernel
theorem dX10_cuts_38 : decode cX10_cuts 38 = .ok (.if_icmp .eq 7, 3) := by decide +kernel
theorem dX10_cuts_41 : decode cX10_cuts 41 = .ok (.iload_n 2, 1) := by decide +kernel
theorem dX10_cuts_42 : decode cX10_cuts 42 = .ok (.ifCond .ne 5, 3) := by decide +kernel
theorem dX10_cuts_45 : decode cX10_cuts 45 = .ok (.iload_n 3, 1) := by decide +kernel
theorem dX10_cuts_46 : decode cX10_cuts 46 = .ok (.ireturn, 1) := by decide +kernel
theorem dX10_cuts_47 : decode cX10_cuts 47 = .ok (.aload_n 0, 1) := by decide +kernel
theorem dX10_cuts_48 : decode cX10_cuts 48 = .ok (.getfield 23, 3) := by decide +kernel
theorem dX10_cuts_51 : decode cX10_cuts 51 = .ok (.iload_n 3, 1) := by decide +kernel
theorem dX10_cuts_52 : decode cX10_cuts 52 = .ok (.invokevirtual 216, 3) := by decide +kernel
theorem dX10_cuts_55 : decode cX10_cuts 55 = .ok (.ireturn, 1) := by decide +kernel
theorem dX10_lines_0 : decode cX10_lines 0 = .ok (.aload_n 0, 1) := by decide +kernel
theorem dX10_lines_1 : decode cX10_lines 1 = .ok (.getfield 23, 3) := by decide +kernel
theorem dX10_lines_4 : decode cX10_lines 4 = .ok (.iload_n 1, 1) := by decide +kernel
theorem dX10_lines_5 : decode cX10_lines 5 = .ok (.invokevirtual 131, 3) := by decide +kernel
theorem dX10_lines_8 : decode cX10_lines 8 = .ok (.ifCond .eq 14, 3) := by decide +kernel
theorem dX10_lines_11 : decode cX10_lines 11 = .ok (.aload_n 0, 1) := by decide +kernel
theorem dX10_lines_12 : decode cX10_lines 12 = .ok (.getfield 23, 3) := by decide +kernel
theorem dX10_lines_15 : decode cX10_lines 15 = .ok (.iload_n 2, 1) := by decide +kernel
theorem dX10_lines_16 : decode cX10_lines 16 = .ok (.invokevirtual 151, 3) := by decide +kernel
theorem dX10_lines_19 : decode cX10_lines 19 = .ok (.ifCond .ne 5, 3) := by decide +kernel
theorem dX10_lines_22 : decode cX10_lines 22 = .ok (.iconst (-1), 1) := by decide +kernel
theorem dX10_lines_23 : decode cX10_lines 23 = .ok (.ireturn, 1) := by decide +kernel
theorem dX10_lines_24 : decode cX10_lines 24 = .ok (.aload_n 0, 1) := by decide +kernel
theorem dX10_lines_25 : decode cX10_lines 25 = .ok (.getfield 23, 3) := by decide +kernel
theorem dX10_lines_28 : decode cX10_lines 28 = .ok (.iload_n 1, 1) := by decide +kernel
theorem dX10_lines_29 : decode cX10_lines 29 = .ok (.iload_n 2, 1) := by decide +kernel
theorem dX10_lines_30 : decode cX10_lines 30 = .ok (.invokevirtual 219, 3) := by decide +kernel
theorem dX10_lines_33 : decode cX10_lines 33 = .ok (.ifCond .ne 6, 3) := by decide +kernel
theorem dX10_lines_36 : decode cX10_lines 36 = .ok (.bipush (-2), 2) := by decide +kernel
theorem dX10_lines_38 : decode cX10_lines 38 = .ok (.ireturn, 1) := by decide +kernel
theorem dX10_lines_39 : decode cX10_lines 39 = .ok (.aload_n 0, 1) := by decide +kernel
theorem dX10_lines_40 : decode cX10_lines 40 = .ok (.getfield 33, 3) := by decide +kernel
theorem dX10_lines_43 : decode cX10_lines 43 = .ok (.aload_n 0, 1) := by decide +kernel
theorem dX10_lines_44 : decode cX10_lines 44 = .ok (.getfield 23, 3) := by decide +kernel
theorem dX10_lines_47 : decode cX10_lines 47 = .ok (.iload_n 1, 1) := by decide +kernel
theorem dX10_lines_48 : decode cX10_lines 48 = .ok (.iload_n 2, 1) := by decide +kernel
theorem dX10_lines_49 : decode cX10_lines 49 = .ok (.invokevirtual 222, 3) := by decide +kernel
theorem dX10_lines_52 : decode cX10_lines 52 = .ok (.ireturn, 1) := by decide +kernel
theorem dX10_rehearse_0 : decode cX10_rehearse 0 = .ok (.aload_n 0, 1) := by decide +kernel
theorem dX10_rehearse_1 : decode cX10_rehearse 1 = .ok (.getfield 23, 3) := by decide +kernel
theorem dX10_rehearse_4 : decode cX10_rehearse 4 = .ok (.iload_n 1, 1) := by decide +kernel
theorem dX10_rehearse_5 : decode cX10_rehearse 5 = .ok (.invokevirtual 131, 3) := by decide +kernel
theorem dX10_rehearse_8 : decode cX10_rehearse 8 = .ok (.ifCond .eq 14, 3) := by decide +kernel
theorem dX10_rehearse_11 : decode cX10_rehearse 11 = .ok (.aload_n 0, 1) := by decide +kernel
theorem dX10_rehearse_12 : decode cX10_rehearse 12 = .ok (.getfield 23, 3) := by decide +kernel
theorem dX10_rehearse_15 : decode cX10_rehearse 15 = .ok (.iload_n 2, 1) := by decide +kernel
theorem dX10_rehearse_16 : decode cX10_rehearse 16 = .ok (.invokevirtual 151, 3) := by decide +kernel
theorem dX10_rehearse_19 : decode cX10_rehearse 19 = .ok (.ifCond .ne 5, 3) := by decide +kernel
theorem dX10_rehearse_22 : decode cX10_rehearse 22 = .ok (.iconst (-1), 1) := by decide +kernel
theorem dX10_rehearse_23 : decode cX10_rehearse 23 = .ok (.ireturn, 1) := by decide +kernel
theorem dX10_rehearse_24 : decode cX10_rehearse 24 = .ok (.aload_n 0, 1) := by decide +kernel
theorem dX10_rehearse_25 : decode cX10_rehearse 25 = .ok (.getfield 23, 3) := by decide +kernel
theorem dX10_rehearse_28 : decode cX10_rehearse 28 = .ok (.iload_n 1, 1) := by decide +kernel
theorem dX10_rehearse_29 : decode cX10_rehearse 29 = .ok (.iload_n 2, 1) := by decide +kernel
theorem dX10_rehearse_30 : decode cX10_rehearse 30 = .ok (.invokevirtual 219, 3) := by decide +kernel
theorem dX10_rehearse_33 : decode cX10_rehearse 33 = .ok (.ifCond .ne 6, 3) := by decide +kernel
theorem dX10_rehearse_36 : decode cX10_rehearse 36 = .ok (.bipush (-2), 2) := by decide +kernel
theorem dX10_rehearse_38 : decode cX10_rehearse 38 = .ok (.ireturn, 1) := by decide +kernel
theorem dX10_rehearse_39 : decode cX10_rehearse 39 = .ok (.aload_n 0, 1) := by decide +kernel
theorem dX10_rehearse_40 : decode cX10_rehearse 40 = .ok (.getfield 33, 3) := by decide +kernel
theorem dX10_rehearse_43 : decode cX10_rehearse 43 = .ok (.iload_n 1, 1) := by decide +kernel
theorem dX10_rehearse_44 : decode cX10_rehearse 44 = .ok (.iload_n 2, 1) := by decide +kernel
theorem dX10_rehearse_45 : decode cX10_rehearse 45 = .ok (.invokevirtual 226, 3) := by decide +kernel
theorem dX10_rehearse_48 : decode cX10_rehearse 48 = .ok (.aload_n 0, 1) := by decide +kernel
theorem dX10_rehearse_49 : decode cX10_rehearse 49 = .ok (.getfield 23, 3) := by decide +kernel
theorem dX10_rehearse_52 : decode cX10_rehearse 52 = .ok (.iload_n 2, 1) := by decide +kernel
theorem dX10_rehearse_53 : decode cX10_rehearse 53 = .ok (.invokevirtual 230, 3) := by decide +kernel
theorem dX10_rehearse_56 : decode cX10_rehearse 56 = .ok (.ireturn, 1) := by decide +kernel
theorem dX10_rehearsals_0 : decode cX10_rehearsals 0 = .ok (.iload_n 1, 1) := by decide +kernel
theorem dX10_rehearsals_1 : decode cX10_rehearsals 1 = .ok (.ifCond .lt 15, 3) := by decide +kernel
theorem dX10_rehearsals_4 : decode cX10_rehearsals 4 = .ok (.iload_n 1, 1) := by decide +kernel
theorem dX10_rehearsals_5 : decode cX10_rehearsals 5 = .ok (.bipush 99, 2) := by decide +kernel
theorem dX10_rehearsals_7 : decode cX10_rehearsals 7 = .ok (.if_icmp .gt 9, 3) := by decide +kernel
theorem dX10_rehearsals_10 : decode cX10_rehearsals 10 = .ok (.iload_n 2, 1) := by decide +kernel
theorem dX10_rehearsals_11 : decode cX10_rehearsals 11 = .ok (.bipush (-3), 2) := by decide +kernel
theorem dX10_rehearsals_13 : decode cX10_rehearsals 13 = .ok (.if_icmp .ge 5, 3) := by decide +kernel
theorem dX10_rehearsals_16 : decode cX10_rehearsals 16 = .ok (.iconst (-1), 1) := by decide +kernel
theorem dX10_rehearsals_17 : decode cX10_rehearsals 17 = .ok (.ireturn, 1) := by decide +kernel
theorem dX10_rehearsals_18 : decode cX10_rehearsals 18 = .ok (.aload_n 0, 1) := by decide +kernel
theorem dX10_rehearsals_19 : decode cX10_rehearsals 19 = .ok (.getfield 78, 3) := by decide +kernel
theorem dX10_rehearsals_22 : decode cX10_rehearsals 22 = .ok (.aload_n 0, 1) := by decide +kernel
theorem dX10_rehearsals_23 : decode cX10_rehearsals 23 = .ok (.getfield 23, 3) := by decide +kernel
theorem dX10_rehearsals_26 : decode cX10_rehearsals 26 = .ok (.aload_n 0, 1) := by decide +kernel
theorem dX10_rehearsals_27 : decode cX10_rehearsals 27 = .ok (.getfield 33, 3) := by decide +kernel
theorem dX10_rehearsals_30 : decode cX10_rehearsals 30 = .ok (.iload_n 1, 1) := by decide +kernel
theorem dX10_rehearsals_31 : decode cX10_rehearsals 31 = .ok (.invokevirtual 233, 3) := by decide +kernel
theorem dX10_rehearsals_34 : decode cX10_rehearsals 34 = .ok (.iload_n 2, 1) := by decide +kernel
theorem dX10_rehearsals_35 : decode cX10_rehearsals 35 = .ok (.tableswitch 49 (-3) (-1) #[41, 33, 25], 25) := by decide +kernel
theorem dX10_rehearsals_60 : decode cX10_rehearsals 60 = .ok (.aload_n 0, 1) := by decide +kernel
theorem dX10_rehearsals_61 : decode cX10_rehearsals 61 = .ok (.getfield 78, 3) := by decide +kernel
theorem dX10_rehearsals_64 : decode cX10_rehearsals 64 = .ok (.getfield 237, 3) := by decide +kernel
theorem dX10_rehearsals_67 : decode cX10_rehearsals 67 = .ok (.ireturn, 1) := by decide +kernel
theorem dX10_rehearsals_68 : decode cX10_rehearsals 68 = .ok (.aload_n 0, 1) := by decide +kernel
theorem dX10_rehearsals_69 : decode cX10_rehearsals 69 = .ok (.getfield 78, 3) := by decide +kernel
theorem dX10_rehearsals_72 : decode cX10_rehearsals 72 = .ok (.getfield 240, 3) := by decide +kernel
theorem dX10_rehearsals_75 : decode cX10_rehearsals 75 = .ok (.ireturn, 1) := by decide +kernel
theorem dX10_rehearsals_76 : decode cX10_rehearsals 76 = .ok (.aload_n 0, 1) := by decide +kernel
theorem dX10_rehearsals_77 : decode cX10_rehearsals 77 = .ok (.getfield 78, 3) := by decide +kernel
theorem dX10_rehearsals_80 : decode cX10_rehearsals 80 = .ok (.getfield 243, 3) := by decide +kernel
theorem dX10_rehearsals_83 : decode cX10_rehearsals 83 = .ok (.ireturn, 1) := by decide +kernel
theorem dX10_rehearsals_84 : decode cX10_rehearsals 84 = .ok (.iload_n 2, 1) := by decide +kernel
theorem dX10_rehearsals_85 : decode cX10_rehearsals 85 = .ok (.aload_n 0, 1) := by decide +kernel
theorem dX10_rehearsals_86 : decode cX10_rehearsals 86 = .ok (.getfield 78, 3) := by decide +kernel
theorem dX10_rehearsals_89 : decode cX10_rehearsals 89 = .ok (.getfield 243, 3) := by decide +kernel
theorem dX10_rehearsals_92 : decode cX10_rehearsals 92 = .ok (.if_icmp .ge 15, 3) := by decide +kernel
theorem dX10_rehearsals_95 : decode cX10_rehearsals 95 = .ok (.aload_n 0, 1) := by decide +kernel
theorem dX10_rehearsals_96 : decode cX10_rehearsals 96 = .ok (.getfield 78, 3) := by decide +kernel
theorem dX10_rehearsals_99 : decode cX10_rehearsals 99 = .ok (.getfield 246, 3) := by decide +kernel
theorem dX10_rehearsals_102 : decode cX10_rehearsals 102 = .ok (.iload_n 2, 1) := by decide +kernel
theorem dX10_rehearsals_103 : decode cX10_rehearsals 103 = .ok (.iaload, 1) := by decide +kernel
theorem dX10_rehearsals_104 : decode cX10_rehearsals 104 = .ok (.goto 5, 3) := by decide +kernel
theorem dX10_rehearsals_107 : decode cX10_rehearsals 107 = .ok (.bipush (-4), 2) := by decide +kernel
theorem dX10_rehearsals_109 : decode cX10_rehearsals 109 = .ok (.ireturn, 1) := by decide +kernel
theorem dX10_rest_0 : decode cX10_rest 0 = .ok (.iload_n 1, 1) := by decide +kernel
theorem dX10_rest_1 : decode cX10_rest 1 = .ok (.iconst 1, 1) := by decide +kernel
theorem dX10_rest_2 : decode cX10_rest 2 = .ok (.if_icmp .lt 9, 3) := by decide +kernel
theorem dX10_rest_5 : decode cX10_rest 5 = .ok (.iload_n 1, 1) := by decide +kernel
theorem dX10_rest_6 : decode cX10_rest 6 = .ok (.bipush 99, 2) := by decide +kernel
theorem dX10_rest_8 : decode cX10_rest 8 = .ok (.if_icmp .le 5, 3) := by decide +kernel
theorem dX10_rest_11 : decode cX10_rest 11 = .ok (.iconst (-1), 1) := by decide +kernel
theorem dX10_rest_12 : decode cX10_rest 12 = .ok (.ireturn, 1) := by decide +kernel
theorem dX10_rest_13 : decode cX10_rest 13 = .ok (.aload_n 0, 1) := by decide +kernel
theorem dX10_rest_14 : decode cX10_rest 14 = .ok (.getfield 33, 3) := by decide +kernel
theorem dX10_rest_17 : decode cX10_rest 17 = .ok (.dup, 1) := by decide +kernel
theorem dX10_rest_18 : decode cX10_rest 18 = .ok (.getfield 249, 3) := by decide +kernel
theorem dX10_rest_21 : decode cX10_rest 21 = .ok (.iload_n 1, 1) := by decide +kernel
theorem dX10_rest_22 : decode cX10_rest 22 = .ok (.iadd, 1) := by decide +kernel
theorem dX10_rest_23 : decode cX10_rest 23 = .ok (.putfield 249, 3) := by decide +kernel
theorem dX10_rest_26 : decode cX10_rest 26 = .ok (.aload_n 0, 1) := by decide +kernel
theorem dX10_rest_27 : decode cX10_rest 27 = .ok (.getfield 33, 3) := by decide +kernel
theorem dX10_rest_30 : decode cX10_rest 30 = .ok (.getfield 249, 3) := by decide +kernel
theorem dX10_rest_33 : decode cX10_rest 33 = .ok (.ireturn, 1) := by decide +kernel
theorem dX10_cold_0 : decode cX10_cold 0 = .ok (.iload_n 3, 1) := by decide +kernel
theorem dX10_cold_1 : decode cX10_cold 1 = .ok (.ifCond .lt 20, 3) := by decide +kernel
theorem dX10_cold_4 : decode cX10_cold 4 = .ok (.iload_n 3, 1) := by decide +kernel
theorem dX10_cold_5 : decode cX10_cold 5 = .ok (.bipush 10, 2) := by decide +kernel
theorem dX10_cold_7 : decode cX10_cold 7 = .ok (.if_icmp .ge 14, 3) := by decide +kernel
theorem dX10_cold_10 : decode cX10_cold 10 = .ok (.aload_n 0, 1) := by decide +kernel
theorem dX10_cold_11 : decode cX10_cold 11 = .ok (.getfield 23, 3) := by decide +kernel
theorem dX10_cold_14 : decode cX10_cold 14 = .ok (.iload_n 3, 1) := by decide +kernel
theorem dX10_cold_15 : decode cX10_cold 15 = .ok (.invokevirtual 131, 3) := by decide +kernel
theorem dX10_cold_18 : decode cX10_cold 18 = .ok (.goto 20, 3) := by decide +kernel
theorem dX10_cold_21 : decode cX10_cold 21 = .ok (.iload_n 3, 1) := by decide +kernel
theorem dX10_cold_22 : decode cX10_cold 22 = .ok (.bipush 10, 2) := by decide +kernel
theorem dX10_cold_24 : decode cX10_cold 24 = .ok (.if_icmp .lt 13, 3) := by decide +kernel
theorem dX10_cold_27 : decode cX10_cold 27 = .ok (.iload_n 3, 1) := by decide +kernel
theorem dX10_cold_28 : decode cX10_cold 28 = .ok (.bipush 12, 2) := by decide +kernel
theorem dX10_cold_30 : decode cX10_cold 30 = .ok (.if_icmp .gt 7, 3) := by decide +kernel
theorem dX10_cold_33 : decode cX10_cold 33 = .ok (.iconst 1, 1) := by decide +kernel
theorem dX10_cold_34 : decode cX10_cold 34 = .ok (.goto 4, 3) := by decide +kernel
theorem dX10_cold_37 : decode cX10_cold 37 = .ok (.iconst 0, 1) := by decide +kernel
theorem dX10_cold_38 : decode cX10_cold 38 = .ok (.istore 4, 2) := by decide +kernel
theorem dX10_cold_40 : decode cX10_cold 40 = .ok (.iload 4, 2) := by decide +kernel
theorem dX10_cold_42 : decode cX10_cold 42 = .ok (.ifCond .eq 24, 3) := by decide +kernel
theorem dX10_cold_45 : decode cX10_cold 45 = .ok (.aload_n 0, 1) := by decide +kernel
theorem dX10_cold_46 : decode cX10_cold 46 = .ok (.getfield 23, 3) := by decide +kernel
theorem dX10_cold_49 : decode cX10_cold 49 = .ok (.iload_n 1, 1) := by decide +kernel
theorem dX10_cold_50 : decode cX10_cold 50 = .ok (.invokevirtual 184, 3) := by decide +kernel
theorem dX10_cold_53 : decode cX10_cold 53 = .ok (.ifCond .eq 13, 3) := by decide +kernel
theorem dX10_cold_56 : decode cX10_cold 56 = .ok (.iload_n 2, 1) := by decide +kernel
theorem dX10_cold_57 : decode cX10_cold 57 = .ok (.ifCond .lt 9, 3) := by decide +kernel
theorem dX10_cold_60 : decode cX10_cold 60 = .ok (.iload_n 2, 1) := by decide +kernel
theorem dX10_cold_61 : decode cX10_cold 61 = .ok (.bipush 14, 2) := by decide +kernel
theorem dX10_cold_63 : decode cX10_cold 63 = .ok (.if_icmp .le 5, 3) := by decide +kernel
theorem dX10_cold_66 : decode cX10_cold 66 = .ok (.iconst (-1), 1) := by decide +kernel
theorem dX10_cold_67 : decode cX10_cold 67 = .ok (.ireturn, 1) := by decide +kernel
theorem dX10_cold_68 : decode cX10_cold 68 = .ok (.aload_n 0, 1) := by decide +kernel
theorem dX10_cold_69 : decode cX10_cold 69 = .ok (.getfield 71, 3) := by decide +kernel
theorem dX10_cold_72 : decode cX10_cold 72 = .ok (.aload_n 0, 1) := by decide +kernel
theorem dX10_cold_73 : decode cX10_cold 73 = .ok (.getfield 23, 3) := by decide +kernel
theorem dX10_cold_76 : decode cX10_cold 76 = .ok (.iload_n 1, 1) := by decide +kernel
theorem dX10_cold_77 : decode cX10_cold 77 = .ok (.iload_n 2, 1) := by decide +kernel
theorem dX10_cold_78 : decode cX10_cold 78 = .ok (.invokevirtual 252, 3) := by decide +kernel
theorem dX10_cold_81 : decode cX10_cold 81 = .ok (.iload_n 3, 1) := by decide +kernel
theorem dX10_cold_82 : decode cX10_cold 82 = .ok (.tableswitch 74 10 12 #[26, 42, 54], 26) := by decide +kernel
theorem dX10_cold_108 : decode cX10_cold 108 = .ok (.aload_n 0, 1) := by decide +kernel
theorem dX10_cold_109 : decode cX10_cold 109 = .ok (.getfield 71, 3) := by decide +kernel
theorem dX10_cold_112 : decode cX10_cold 112 = .ok (.aload_n 0, 1) := by decide +kernel
theorem dX10_cold_113 : decode cX10_cold 113 = .ok (.getfield 23, 3) := by decide +kernel
theorem dX10_cold_116 : decode cX10_cold 116 = .ok (.aload_n 0, 1) := by decide +kernel
theorem dX10_cold_117 : decode cX10_cold 117 = .ok (.getfield 57, 3) := by decide +kernel
theorem dX10_cold_120 : decode cX10_cold 120 = .ok (.invokevirtual 256, 3) := by decide +kernel
theorem dX10_cold_123 : decode cX10_cold 123 = .ok (.ireturn, 1) := by decide +kernel
theorem dX10_cold_124 : decode cX10_cold 124 = .ok (.aload_n 0, 1) := by decide +kernel
theorem dX10_cold_125 : decode cX10_cold 125 = .ok (.getfield 71, 3) := by decide +kernel
theorem dX10_cold_128 : decode cX10_cold 128 = .ok (.aload_n 0, 1) := by decide +kernel
theorem dX10_cold_129 : decode cX10_cold 129 = .ok (.getfield 23, 3) := by decide +kernel
theorem dX10_cold_132 : decode cX10_cold 132 = .ok (.invokevirtual 260, 3) := by decide +kernel
theorem dX10_cold_135 : decode cX10_cold 135 = .ok (.ireturn, 1) := by decide +kernel
theorem dX10_cold_136 : decode cX10_cold 136 = .ok (.aload_n 0, 1) := by decide +kernel
theorem dX10_cold_137 : decode cX10_cold 137 = .ok (.getfield 71, 3) := by decide +kernel
theorem dX10_cold_140 : decode cX10_cold 140 = .ok (.getfield 264, 3) := by decide +kernel
theorem dX10_cold_143 : decode cX10_cold 143 = .ok (.aload_n 0, 1) := by decide +kernel
theorem dX10_cold_144 : decode cX10_cold 144 = .ok (.getfield 71, 3) := by decide +kernel
theorem dX10_cold_147 : decode cX10_cold 147 = .ok (.aload_n 0, 1) := by decide +kernel
theorem dX10_cold_148 : decode cX10_cold 148 = .ok (.getfield 23, 3) := by decide +kernel
theorem dX10_cold_151 : decode cX10_cold 151 = .ok (.invokevirtual 260, 3) := by decide +kernel
theorem dX10_cold_154 : decode cX10_cold 154 = .ok (.iaload, 1) := by decide +kernel
theorem dX10_cold_155 : decode cX10_cold 155 = .ok (.ireturn, 1) := by decide +kernel
theorem dX10_cold_156 : decode cX10_cold 156 = .ok (.aload_n 0, 1) := by decide +kernel
theorem dX10_cold_157 : decode cX10_cold 157 = .ok (.getfield 71, 3) := by decide +kernel
theorem dX10_cold_160 : decode cX10_cold 160 = .ok (.aload_n 0, 1) := by decide +kernel
theorem dX10_cold_161 : decode cX10_cold 161 = .ok (.getfield 23, 3) := by decide +kernel
theorem dX10_cold_164 : decode cX10_cold 164 = .ok (.iload_n 3, 1) := by decide +kernel
theorem dX10_cold_165 : decode cX10_cold 165 = .ok (.invokevirtual 267, 3) := by decide +kernel
theorem dX10_cold_168 : decode cX10_cold 168 = .ok (.ireturn, 1) := by decide +kernel
theorem dX10_weak_0 : decode cX10_weak 0 = .ok (.iload_n 1, 1) := by decide +kernel
theorem dX10_weak_1 : decode cX10_weak 1 = .ok (.iconst 1, 1) := by decide +kernel
theorem dX10_weak_2 : decode cX10_weak 2 = .ok (.if_icmp .lt 17, 3) := by decide +kernel
theorem dX10_weak_5 : decode cX10_weak 5 = .ok (.iload_n 1, 1) := by decide +kernel
theorem dX10_weak_6 : decode cX10_weak 6 = .ok (.iconst 2, 1) := by decide +kernel
theorem dX10_weak_7 : decode cX10_weak 7 = .ok (.if_icmp .gt 12, 3) := by decide +kernel
theorem dX10_weak_10 : decode cX10_weak 10 = .ok (.iload_n 2, 1) := by decide +kernel
theorem dX10_weak_11 : decode cX10_weak 11 = .ok (.ifCond .lt 8, 3) := by decide +kernel
theorem dX10_weak_14 : decode cX10_weak 14 = .ok (.iload_n 2, 1) := by decide +kernel
theorem dX10_weak_15 : decode cX10_weak 15 = .ok (.iconst 1, 1) := by decide +kernel
theorem dX10_weak_16 : decode cX10_weak 16 = .ok (.if_icmp .le 5, 3) := by decide +kernel
theorem dX10_weak_19 : decode cX10_weak 19 = .ok (.iconst (-1), 1) := by decide +kernel
theorem dX10_weak_20 : decode cX10_weak 20 = .ok (.ireturn, 1) := by decide +kernel
theorem dX10_weak_21 : decode cX10_weak 21 = .ok (.aload_n 0, 1) := by decide +kernel
theorem dX10_weak_22 : decode cX10_weak 22 = .ok (.getfield 57, 3) := by decide +kernel
theorem dX10_weak_25 : decode cX10_weak 25 = .ok (.aload_n 0, 1) := by decide +kernel
theorem dX10_weak_26 : decode cX10_weak 26 = .ok (.getfield 23, 3) := by decide +kernel
theorem dX10_weak_29 : decode cX10_weak 29 = .ok (.iload_n 1, 1) := by decide +kernel
theorem dX10_weak_30 : decode cX10_weak 30 = .ok (.invokevirtual 270, 3) := by decide +kernel
theorem dX10_weak_33 : decode cX10_weak 33 = .ok (.iload_n 2, 1) := by decide +kernel
theorem dX10_weak_34 : decode cX10_weak 34 = .ok (.ifCond .ne 11, 3) := by decide +kernel
theorem dX10_weak_37 : decode cX10_weak 37 = .ok (.aload_n 0, 1) := by decide +kernel
theorem dX10_weak_38 : decode cX10_weak 38 = .ok (.getfield 57, 3) := by decide +kernel
theorem dX10_weak_41 : decode cX10_weak 41 = .ok (.getfield 274, 3) := by decide +kernel
theorem dX10_weak_44 : decode cX10_weak 44 = .ok (.ireturn, 1) := by decide +kernel
theorem dX10_weak_45 : decode cX10_weak 45 = .ok (.aload_n 0, 1) := by decide +kernel
theorem dX10_weak_46 : decode cX10_weak 46 = .ok (.getfield 57, 3) := by decide +kernel
theorem dX10_weak_49 : decode cX10_weak 49 = .ok (.getfield 274, 3) := by decide +kernel
theorem dX10_weak_52 : decode cX10_weak 52 = .ok (.ifCond .le 15, 3) := by decide +kernel
theorem dX10_weak_55 : decode cX10_weak 55 = .ok (.aload_n 0, 1) := by decide +kernel
theorem dX10_weak_56 : decode cX10_weak 56 = .ok (.getfield 57, 3) := by decide +kernel
theorem dX10_weak_59 : decode cX10_weak 59 = .ok (.getfield 277, 3) := by decide +kernel
theorem dX10_weak_62 : decode cX10_weak 62 = .ok (.iconst 0, 1) := by decide +kernel
theorem dX10_weak_63 : decode cX10_weak 63 = .ok (.iaload, 1) := by decide +kernel
theorem dX10_weak_64 : decode cX10_weak 64 = .ok (.goto 5, 3) := by decide +kernel
theorem dX10_weak_67 : decode cX10_weak 67 = .ok (.bipush (-4), 2) := by decide +kernel
theorem dX10_weak_69 : decode cX10_weak 69 = .ok (.ireturn, 1) := by decide +kernel
theorem dX10_engaged_0 : decode cX10_engaged 0 = .ok (.iload_n 1, 1) := by decide +kernel
theorem dX10_engaged_1 : decode cX10_engaged 1 = .ok (.iconst 1, 1) := by decide +kernel
theorem dX10_engaged_2 : decode cX10_engaged 2 = .ok (.if_icmp .lt 17, 3) := by decide +kernel
theorem dX10_engaged_5 : decode cX10_engaged 5 = .ok (.iload_n 1, 1) := by decide +kernel
theorem dX10_engaged_6 : decode cX10_engaged 6 = .ok (.iconst 2, 1) := by decide +kernel
theorem dX10_engaged_7 : decode cX10_engaged 7 = .ok (.if_icmp .gt 12, 3) := by decide +kernel
theorem dX10_engaged_10 : decode cX10_engaged 10 = .ok (.iload_n 2, 1) := by decide +kernel
theorem dX10_engaged_11 : decode cX10_engaged 11 = .ok (.ifCond .lt 8, 3) := by decide +kernel
theorem dX10_engaged_14 : decode cX10_engaged 14 = .ok (.iload_n 2, 1) := by decide +kernel
theorem dX10_engaged_15 : decode cX10_engaged 15 = .ok (.iconst 1, 1) := by decide +kernel
theorem dX10_engaged_16 : decode cX10_engaged 16 = .ok (.if_icmp .le 5, 3) := by decide +kernel
theorem dX10_engaged_19 : decode cX10_engaged 19 = .ok (.iconst (-1), 1) := by decide +kernel
theorem dX10_engaged_20 : decode cX10_engaged 20 = .ok (.ireturn, 1) := by decide +kernel
theorem dX10_engaged_21 : decode cX10_engaged 21 = .ok (.aload_n 0, 1) := by decide +kernel
theorem dX10_engaged_22 : decode cX10_engaged 22 = .ok (.getfield 64, 3) := by decide +kernel
theorem dX10_engaged_25 : decode cX10_engaged 25 = .ok (.aload_n 0, 1) := by decide +kernel
theorem dX10_engaged_26 : decode cX10_engaged 26 = .ok (.getfield 23, 3) := by decide +kernel
theorem dX10_engaged_29 : decode cX10_engaged 29 = .ok (.aload_n 0, 1) := by decide +kernel
theorem dX10_engaged_30 : decode cX10_engaged 30 = .ok (.getfield 57, 3) := by decide +kernel
theorem dX10_engaged_33 : decode cX10_engaged 33 = .ok (.iload_n 1, 1) := by decide +kernel
theorem dX10_engaged_34 : decode cX10_engaged 34 = .ok (.invokevirtual 280, 3) := by decide +kernel
theorem dX10_engaged_37 : decode cX10_engaged 37 = .ok (.aload_n 0, 1) := by decide +kernel
theorem dX10_engaged_38 : decode cX10_engaged 38 = .ok (.getfield 64, 3) := by decide +kernel
theorem dX10_engaged_41 : decode cX10_engaged 41 = .ok (.iload_n 1, 1) := by decide +kernel
theorem dX10_engaged_42 : decode cX10_engaged 42 = .ok (.aload_n 0, 1) := by decide +kernel
theorem dX10_engaged_43 : decode cX10_engaged 43 = .ok (.getfield 57, 3) := by decide +kernel
theorem dX10_engaged_46 : decode cX10_engaged 46 = .ok (.getfield 274, 3) := by decide +kernel
theorem dX10_engaged_49 : decode cX10_engaged 49 = .ok (.invokevirtual 284, 3) := by decide +kernel
theorem dX10_engaged_52 : decode cX10_engaged 52 = .ok (.iload_n 2, 1) := by decide +kernel
theorem dX10_engaged_53 : decode cX10_engaged 53 = .ok (.ifCond .eq 15, 3) := by decide +kernel
theorem dX10_engaged_56 : decode cX10_engaged 56 = .ok (.aload_n 0, 1) := by decide +kernel
theorem dX10_engaged_57 : decode cX10_engaged 57 = .ok (.getfield 64, 3) := by decide +kernel
theorem dX10_engaged_60 : decode cX10_engaged 60 = .ok (.getfield 287, 3) := by decide +kernel
theorem dX10_engaged_63 : decode cX10_engaged 63 = .ok (.bipush (-4), 2) := by decide +kernel
theorem dX10_engaged_65 : decode cX10_engaged 65 = .ok (.if_icmp .ne 13, 3) := by decide +kernel
theorem dX10_engaged_68 : decode cX10_engaged 68 = .ok (.aload_n 0, 1) := by decide +kernel
theorem dX10_engaged_69 : decode cX10_engaged 69 = .ok (.getfield 64, 3) := by decide +kernel
theorem dX10_engaged_72 : decode cX10_engaged 72 = .ok (.getfield 287, 3) := by decide +kernel
theorem dX10_engaged_75 : decode cX10_engaged 75 = .ok (.goto 10, 3) := by decide +kernel
theorem dX10_engaged_78 : decode cX10_engaged 78 = .ok (.aload_n 0, 1) := by decide +kernel
theorem dX10_engaged_79 : decode cX10_engaged 79 = .ok (.getfield 64, 3) := by decide +kernel
theorem dX10_engaged_82 : decode cX10_engaged 82 = .ok (.getfield 290, 3) := by decide +kernel
theorem dX10_engaged_85 : decode cX10_engaged 85 = .ok (.ireturn, 1) := by decide +kernel
theorem dX10_fewest_0 : decode cX10_fewest 0 = .ok (.aload_n 0, 1) := by decide +kernel
theorem dX10_fewest_1 : decode cX10_fewest 1 = .ok (.getfield 64, 3) := by decide +kernel
theorem dX10_fewest_4 : decode cX10_fewest 4 = .ok (.aload_n 0, 1) := by decide +kernel
theorem dX10_fewest_5 : decode cX10_fewest 5 = .ok (.getfield 23, 3) := by decide +kernel
theorem dX10_fewest_8 : decode cX10_fewest 8 = .ok (.aload_n 0, 1) := by decide +kernel
theorem dX10_fewest_9 : decode cX10_fewest 9 = .ok (.getfield 57, 3) := by decide +kernel
theorem dX10_fewest_12 : decode cX10_fewest 12 = .ok (.iconst 2, 1) := by decide +kernel
theorem dX10_fewest_13 : decode cX10_fewest 13 = .ok (.invokevirtual 280, 3) := by decide +kernel
theorem dX10_fewest_16 : decode cX10_fewest 16 = .ok (.aload_n 0, 1) := by decide +kernel
theorem dX10_fewest_17 : decode cX10_fewest 17 = .ok (.getfield 64, 3) := by decide +kernel
theorem dX10_fewest_20 : decode cX10_fewest 20 = .ok (.aload_n 0, 1) := by decide +kernel
theorem dX10_fewest_21 : decode cX10_fewest 21 = .ok (.getfield 23, 3) := by decide +kernel
theorem dX10_fewest_24 : decode cX10_fewest 24 = .ok (.aload_n 0, 1) := by decide +kernel
theorem dX10_fewest_25 : decode cX10_fewest 25 = .ok (.getfield 57, 3) := by decide +kernel
theorem dX10_fewest_28 : decode cX10_fewest 28 = .ok (.invokevirtual 293, 3) := by decide +kernel
theorem dX10_fewest_31 : decode cX10_fewest 31 = .ok (.ireturn, 1) := by decide +kernel
theorem dX10_night_0 : decode cX10_night 0 = .ok (.aload_n 0, 1) := by decide +kernel
theorem dX10_night_1 : decode cX10_night 1 = .ok (.getfield 23, 3) := by decide +kernel
theorem dX10_night_4 : decode cX10_night 4 = .ok (.iload_n 1, 1) := by decide +kernel
theorem dX10_night_5 : decode cX10_night 5 = .ok (.invokevirtual 184, 3) := by decide +kernel
theorem dX10_night_8 : decode cX10_night 8 = .ok (.ifCond .ne 5, 3) := by decide +kernel
theorem dX10_night_11 : decode cX10_night 11 = .ok (.iconst (-1), 1) := by decide +kernel
theorem dX10_night_12 : decode cX10_night 12 = .ok (.ireturn, 1) := by decide +kernel
theorem dX10_night_13 : decode cX10_night 13 = .ok (.aload_n 0, 1) := by decide +kernel
theorem dX10_night_14 : decode cX10_night 14 = .ok (.getfield 50, 3) := by decide +kernel
theorem dX10_night_17 : decode cX10_night 17 = .ok (.aload_n 0, 1) := by decide +kernel
theorem dX10_night_18 : decode cX10_night 18 = .ok (.getfield 23, 3) := by decide +kernel
theorem dX10_night_21 : decode cX10_night 21 = .ok (.aload_n 0, 1) := by decide +kernel
theorem dX10_night_22 : decode cX10_night 22 = .ok (.getfield 33, 3) := by decide +kernel
theorem dX10_night_25 : decode cX10_night 25 = .ok (.iload_n 1, 1) := by decide +kernel
theorem dX10_night_26 : decode cX10_night 26 = .ok (.iconst 0, 1) := by decide +kernel
theorem dX10_night_27 : decode cX10_night 27 = .ok (.invokevirtual 194, 3) := by decide +kernel
theorem dX10_night_30 : decode cX10_night 30 = .ok (.ifCond .ne 6, 3) := by decide +kernel
theorem dX10_night_33 : decode cX10_night 33 = .ok (.bipush (-4), 2) := by decide +kernel
theorem dX10_night_35 : decode cX10_night 35 = .ok (.ireturn, 1) := by decide +kernel
theorem dX10_night_36 : decode cX10_night 36 = .ok (.iconst 0, 1) := by decide +kernel
theorem dX10_night_37 : decode cX10_night 37 = .ok (.istore_n 2, 1) := by decide +kernel
theorem dX10_night_38 : decode cX10_night 38 = .ok (.iload_n 2, 1) := by decide +kernel
theorem dX10_night_39 : decode cX10_night 39 = .ok (.aload_n 0, 1) := by decide +kernel
theorem dX10_night_40 : decode cX10_night 40 = .ok (.getfield 23, 3) := by decide +kernel
theorem dX10_night_43 : decode cX10_night 43 = .ok (.getfield 110, 3) := by decide +kernel
theorem dX10_night_46 : decode cX10_night 46 = .ok (.if_icmp .ge 29, 3) := by decide +kernel
theorem dX10_night_49 : decode cX10_night 49 = .ok (.aload_n 0, 1) := by decide +kernel
theorem dX10_night_50 : decode cX10_night 50 = .ok (.getfield 33, 3) := by decide +kernel
theorem dX10_night_53 : decode cX10_night 53 = .ok (.aload_n 0, 1) := by decide +kernel
theorem dX10_night_54 : decode cX10_night 54 = .ok (.getfield 23, 3) := by decide +kernel
theorem dX10_night_57 : decode cX10_night 57 = .ok (.iload_n 2, 1) := by decide +kernel
theorem dX10_night_58 : decode cX10_night 58 = .ok (.aload_n 0, 1) := by decide +kernel
theorem dX10_night_59 : decode cX10_night 59 = .ok (.getfield 50, 3) := by decide +kernel
theorem dX10_night_62 : decode cX10_night 62 = .ok (.iload_n 2, 1) := by decide +kernel
theorem dX10_night_63 : decode cX10_night 63 = .ok (.invokevirtual 296, 3) := by decide +kernel
theorem dX10_night_66 : decode cX10_night 66 = .ok (.invokevirtual 299, 3) := by decide +kernel
theorem dX10_night_69 : decode cX10_night 69 = .ok (.iinc 2 1, 3) := by decide +kernel
theorem dX10_night_72 : decode cX10_night 72 = .ok (.goto (-34), 3) := by decide +kernel
theorem dX10_night_75 : decode cX10_night 75 = .ok (.aload_n 0, 1) := by decide +kernel
theorem dX10_night_76 : decode cX10_night 76 = .ok (.getfield 33, 3) := by decide +kernel
theorem dX10_night_79 : decode cX10_night 79 = .ok (.dup, 1) := by decide +kernel
theorem dX10_night_80 : decode cX10_night 80 = .ok (.getfield 249, 3) := by decide +kernel
theorem dX10_night_83 : decode cX10_night 83 = .ok (.iconst 1, 1) := by decide +kernel
theorem dX10_night_84 : decode cX10_night 84 = .ok (.iadd, 1) := by decide +kernel
theorem dX10_night_85 : decode cX10_night 85 = .ok (.putfield 249, 3) := by decide +kernel
theorem dX10_night_88 : decode cX10_night 88 = .ok (.aload_n 0, 1) := by decide +kernel
theorem dX10_night_89 : decode cX10_night 89 = .ok (.getfield 50, 3) := by decide +kernel
theorem dX10_night_92 : decode cX10_night 92 = .ok (.getfield 198, 3) := by decide +kernel
theorem dX10_night_95 : decode cX10_night 95 = .ok (.ireturn, 1) := by decide +kernel
theorem dX10_owed_0 : decode cX10_owed 0 = .ok (.aload_n 0, 1) := by decide +kernel
theorem dX10_owed_1 : decode cX10_owed 1 = .ok (.getfield 23, 3) := by decide +kernel
theorem dX10_owed_4 : decode cX10_owed 4 = .ok (.iload_n 1, 1) := by decide +kernel
theorem dX10_owed_5 : decode cX10_owed 5 = .ok (.invokevirtual 131, 3) := by decide +kernel
theorem dX10_owed_8 : decode cX10_owed 8 = .ok (.ifCond .eq 15, 3) := by decide +kernel
theorem dX10_owed_11 : decode cX10_owed 11 = .ok (.aload_n 0, 1) := by decide +kernel
theorem dX10_owed_12 : decode cX10_owed 12 = .ok (.getfield 33, 3) := by decide +kernel
theorem dX10_owed_15 : decode cX10_owed 15 = .ok (.getfield 302, 3) := by decide +kernel
theorem dX10_owed_18 : decode cX10_owed 18 = .ok (.iload_n 1, 1) := by decide +kernel
theorem dX10_owed_19 : decode cX10_owed 19 = .ok (.iaload, 1) := by decide +kernel
theorem dX10_owed_20 : decode cX10_owed 20 = .ok (.goto 4, 3) := by decide +kernel
theorem dX10_owed_23 : decode cX10_owed 23 = .ok (.iconst (-1), 1) := by decide +kernel
theorem dX10_owed_24 : decode cX10_owed 24 = .ok (.ireturn, 1) := by decide +kernel
theorem dX10_told_0 : decode cX10_told 0 = .ok (.aload_n 0, 1) := by decide +kernel
theorem dX10_told_1 : decode cX10_told 1 = .ok (.getfield 23, 3) := by decide +kernel
theorem dX10_told_4 : decode cX10_told 4 = .ok (.iload_n 1, 1) := by decide +kernel
theorem dX10_told_5 : decode cX10_told 5 = .ok (.invokevirtual 131, 3) := by decide +kernel
theorem dX10_told_8 : decode cX10_told 8 = .ok (.ifCond .eq 14, 3) := by decide +kernel
theorem dX10_told_11 : decode cX10_told 11 = .ok (.iload_n 2, 1) := by decide +kernel
theorem dX10_told_12 : decode cX10_told 12 = .ok (.ifCond .lt 10, 3) := by decide +kernel
theorem dX10_told_15 : decode cX10_told 15 = .ok (.iload_n 2, 1) := by decide +kernel
theorem dX10_told_16 : decode cX10_told 16 = .ok (.ldc_w 305, 3) := by decide +kernel
theorem dX10_told_19 : decode cX10_told 19 = .ok (.if_icmp .le 5, 3) := by decide +kernel
theorem dX10_told_22 : decode cX10_told 22 = .ok (.iconst (-1), 1) := by decide +kernel
theorem dX10_told_23 : decode cX10_told 23 = .ok (.ireturn, 1) := by decide +kernel
theorem dX10_told_24 : decode cX10_told 24 = .ok (.aload_n 0, 1) := by decide +kernel
theorem dX10_told_25 : decode cX10_told 25 = .ok (.getfield 43, 3) := by decide +kernel
theorem dX10_told_28 : decode cX10_told 28 = .ok (.iload_n 1, 1) := by decide +kernel
theorem dX10_told_29 : decode cX10_told 29 = .ok (.iaload, 1) := by decide +kernel
theorem dX10_told_30 : decode cX10_told 30 = .ok (.istore_n 3, 1) := by decide +kernel
theorem dX10_told_31 : decode cX10_told 31 = .ok (.aload_n 0, 1) := by decide +kernel
theorem dX10_told_32 : decode cX10_told 32 = .ok (.getfield 43, 3) := by decide +kernel
theorem dX10_told_35 : decode cX10_told 35 = .ok (.iload_n 1, 1) := by decide +kernel
theorem dX10_told_36 : decode cX10_told 36 = .ok (.iload_n 2, 1) := by decide +kernel
theorem dX10_told_37 : decode cX10_told 37 = .ok (.iastore, 1) := by decide +kernel
theorem dX10_told_38 : decode cX10_told 38 = .ok (.iload_n 3, 1) := by decide +kernel
theorem dX10_told_39 : decode cX10_told 39 = .ok (.ireturn, 1) := by decide +kernel
theorem dX10_wrong_0 : decode cX10_wrong 0 = .ok (.iconst 0, 1) := by decide +kernel
theorem dX10_wrong_1 : decode cX10_wrong 1 = .ok (.istore_n 1, 1) := by decide +kernel
theorem dX10_wrong_2 : decode cX10_wrong 2 = .ok (.iload_n 1, 1) := by decide +kernel
theorem dX10_wrong_3 : decode cX10_wrong 3 = .ok (.aload_n 0, 1) := by decide +kernel
theorem dX10_wrong_4 : decode cX10_wrong 4 = .ok (.getfield 23, 3) := by decide +kernel
theorem dX10_wrong_7 : decode cX10_wrong 7 = .ok (.getfield 110, 3) := by decide +kernel
theorem dX10_wrong_10 : decode cX10_wrong 10 = .ok (.if_icmp .ge 29, 3) := by decide +kernel
theorem dX10_wrong_13 : decode cX10_wrong 13 = .ok (.aload_n 0, 1) := by decide +kernel
theorem dX10_wrong_14 : decode cX10_wrong 14 = .ok (.getfield 33, 3) := by decide +kernel
theorem dX10_wrong_17 : decode cX10_wrong 17 = .ok (.getfield 302, 3) := by decide +kernel
theorem dX10_wrong_20 : decode cX10_wrong 20 = .ok (.iload_n 1, 1) := by decide +kernel
theorem dX10_wrong_21 : decode cX10_wrong 21 = .ok (.iaload, 1) := by decide +kernel
theorem dX10_wrong_22 : decode cX10_wrong 22 = .ok (.aload_n 0, 1) := by decide +kernel
theorem dX10_wrong_23 : decode cX10_wrong 23 = .ok (.getfield 43, 3) := by decide +kernel
theorem dX10_wrong_26 : decode cX10_wrong 26 = .ok (.iload_n 1, 1) := by decide +kernel
theorem dX10_wrong_27 : decode cX10_wrong 27 = .ok (.iaload, 1) := by decide +kernel
theorem dX10_wrong_28 : decode cX10_wrong 28 = .ok (.if_icmp .eq 5, 3) := by decide +kernel
theorem dX10_wrong_31 : decode cX10_wrong 31 = .ok (.iload_n 1, 1) := by decide +kernel
theorem dX10_wrong_32 : decode cX10_wrong 32 = .ok (.ireturn, 1) := by decide +kernel
theorem dX10_wrong_33 : decode cX10_wrong 33 = .ok (.iinc 1 1, 3) := by decide +kernel
theorem dX10_wrong_36 : decode cX10_wrong 36 = .ok (.goto (-34), 3) := by decide +kernel
theorem dX10_wrong_39 : decode cX10_wrong 39 = .ok (.bipush (-4), 2) := by decide +kernel
theorem dX10_wrong_41 : decode cX10_wrong 41 = .ok (.ireturn, 1) := by decide +kernel
theorem dX10_run_0 : decode cX10_run 0 = .ok (.iload_n 1, 1) := by decide +kernel
theorem dX10_run_1 : decode cX10_run 1 = .ok (.iconst 1, 1) := by decide +kernel
theorem dX10_run_2 : decode cX10_run 2 = .ok (.if_icmp .lt 31, 3) := by decide +kernel
theorem dX10_run_5 : decode cX10_run 5 = .ok (.iload_n 1, 1) := by decide +kernel
theorem dX10_run_6 : decode cX10_run 6 = .ok (.bipush 20, 2) := by decide +kernel
theorem dX10_run_8 : decode cX10_run 8 = .ok (.if_icmp .gt 25, 3) := by decide +kernel
theorem dX10_run_11 : decode cX10_run 11 = .ok (.iload_n 2, 1) := by decide +kernel
theorem dX10_run_12 : decode cX10_run 12 = .ok (.ifCond .lt 21, 3) := by decide +kernel
theorem dX10_run_15 : decode cX10_run 15 = .ok (.iload_n 2, 1) := by decide +kernel
theorem dX10_run_16 : decode cX10_run 16 = .ok (.sipush 999, 3) := by decide +kernel
theorem dX10_run_19 : decode cX10_run 19 = .ok (.if_icmp .gt 14, 3) := by decide +kernel
theorem dX10_run_22 : decode cX10_run 22 = .ok (.aload_n 0, 1) := by decide +kernel
theorem dX10_run_23 : decode cX10_run 23 = .ok (.getfield 23, 3) := by decide +kernel
theorem dX10_run_26 : decode cX10_run 26 = .ok (.iload_n 3, 1) := by decide +kernel
theorem dX10_run_27 : decode cX10_run 27 = .ok (.invokevirtual 184, 3) := by decide +kernel
theorem dX10_run_30 : decode cX10_run 30 = .ok (.ifCond .ne 5, 3) := by decide +kernel
theorem dX10_run_33 : decode cX10_run 33 = .ok (.iconst (-1), 1) := by decide +kernel
theorem dX10_run_34 : decode cX10_run 34 = .ok (.ireturn, 1) := by decide +kernel
theorem dX10_run_35 : decode cX10_run 35 = .ok (.iconst 0, 1) := by decide +kernel
theorem dX10_run_36 : decode cX10_run 36 = .ok (.istore 4, 2) := by decide +kernel
theorem dX10_run_38 : decode cX10_run 38 = .ok (.iload 4, 2) := by decide +kernel
theorem dX10_run_40 : decode cX10_run 40 = .ok (.iload_n 1, 1) := by decide +kernel
theorem dX10_run_41 : decode cX10_run 41 = .ok (.if_icmp .ge 43, 3) := by decide +kernel
theorem dX10_run_44 : decode cX10_run 44 = .ok (.iload_n 2, 1) := by decide +kernel
theorem dX10_run_45 : decode cX10_run 45 = .ok (.iload 4, 2) := by decide +kernel
theorem dX10_run_47 : decode cX10_run 47 = .ok (.iadd, 1) := by decide +kernel
theorem dX10_run_48 : decode cX10_run 48 = .ok (.bipush 37, 2) := by decide +kernel
theorem dX10_run_50 : decode cX10_run 50 = .ok (.imul, 1) := by decide +kernel
theorem dX10_run_51 : decode cX10_run 51 = .ok (.sipush 1024, 3) := by decide +kernel
theorem dX10_run_54 : decode cX10_run 54 = .ok (.irem, 1) := by decide +kernel
theorem dX10_run_55 : decode cX10_run 55 = .ok (.iload_n 3, 1) := by decide +kernel
theorem dX10_run_56 : decode cX10_run 56 = .ok (.iand, 1) := by decide +kernel
theorem dX10_run_57 : decode cX10_run 57 = .ok (.istore 5, 2) := by decide +kernel
theorem dX10_run_59 : decode cX10_run 59 = .ok (.aload_n 0, 1) := by decide +kernel
theorem dX10_run_60 : decode cX10_run 60 = .ok (.getfield 57, 3) := by decide +kernel
theorem dX10_run_63 : decode cX10_run 63 = .ok (.aload_n 0, 1) := by decide +kernel
theorem dX10_run_64 : decode cX10_run 64 = .ok (.getfield 23, 3) := by decide +kernel
theorem dX10_run_67 : decode cX10_run 67 = .ok (.iload 5, 2) := by decide +kernel
theorem dX10_run_69 : decode cX10_run 69 = .ok (.invokevirtual 306, 3) := by decide +kernel
theorem dX10_run_72 : decode cX10_run 72 = .ok (.ifCond .ne 6, 3) := by decide +kernel
theorem dX10_run_75 : decode cX10_run 75 = .ok (.iload 4, 2) := by decide +kernel
theorem dX10_run_77 : decode cX10_run 77 = .ok (.ireturn, 1) := by decide +kernel
theorem dX10_run_78 : decode cX10_run 78 = .ok (.iinc 4 1, 3) := by decide +kernel
theorem dX10_run_81 : decode cX10_run 81 = .ok (.goto (-43), 3) := by decide +kernel
theorem dX10_run_84 : decode cX10_run 84 = .ok (.iload_n 1, 1) := by decide +kernel
theorem dX10_run_85 : decode cX10_run 85 = .ok (.ireturn, 1) := by decide +kernel
theorem dX10_keep_0 : decode cX10_keep 0 = .ok (.aload_n 0, 1) := by decide +kernel
theorem dX10_keep_1 : decode cX10_keep 1 = .ok (.getfield 117, 3) := by decide +kernel
theorem dX10_keep_4 : decode cX10_keep 4 = .ok (.iconst 2, 1) := by decide +kernel
theorem dX10_keep_5 : decode cX10_keep 5 = .ok (.if_icmp .lt 6, 3) := by decide +kernel
theorem dX10_keep_8 : decode cX10_keep 8 = .ok (.bipush (-3), 2) := by decide +kernel
theorem dX10_keep_10 : decode cX10_keep 10 = .ok (.ireturn, 1) := by decide +kernel
theorem dX10_keep_11 : decode cX10_keep 11 = .ok (.aload_n 0, 1) := by decide +kernel
theorem dX10_keep_12 : decode cX10_keep 12 = .ok (.getfield 117, 3) := by decide +kernel
theorem dX10_keep_15 : decode cX10_keep 15 = .ok (.ifCond .ne 10, 3) := by decide +kernel
theorem dX10_keep_18 : decode cX10_keep 18 = .ok (.aload_n 0, 1) := by decide +kernel
theorem dX10_keep_19 : decode cX10_keep 19 = .ok (.getfield 37, 3) := by decide +kernel
theorem dX10_keep_22 : decode cX10_keep 22 = .ok (.goto 7, 3) := by decide +kernel
theorem dX10_keep_25 : decode cX10_keep 25 = .ok (.aload_n 0, 1) := by decide +kernel
theorem dX10_keep_26 : decode cX10_keep 26 = .ok (.getfield 40, 3) := by decide +kernel
theorem dX10_keep_29 : decode cX10_keep 29 = .ok (.astore_n 1, 1) := by decide +kernel
theorem dX10_keep_30 : decode cX10_keep 30 = .ok (.aload_n 1, 1) := by decide +kernel
theorem dX10_keep_31 : decode cX10_keep 31 = .ok (.aload_n 0, 1) := by decide +kernel
theorem dX10_keep_32 : decode cX10_keep 32 = .ok (.getfield 33, 3) := by decide +kernel
theorem dX10_keep_35 : decode cX10_keep 35 = .ok (.invokevirtual 310, 3) := by decide +kernel
theorem dX10_keep_38 : decode cX10_keep 38 = .ok (.aload_n 0, 1) := by decide +kernel
theorem dX10_keep_39 : decode cX10_keep 39 = .ok (.dup, 1) := by decide +kernel
theorem dX10_keep_40 : decode cX10_keep 40 = .ok (.getfield 117, 3) := by decide +kernel
theorem dX10_keep_43 : decode cX10_keep 43 = .ok (.iconst 1, 1) := by decide +kernel
theorem dX10_keep_44 : decode cX10_keep 44 = .ok (.iadd, 1) := by decide +kernel
theorem dX10_keep_45 : decode cX10_keep 45 = .ok (.putfield 117, 3) := by decide +kernel
theorem dX10_keep_48 : decode cX10_keep 48 = .ok (.aload_n 0, 1) := by decide +kernel
theorem dX10_keep_49 : decode cX10_keep 49 = .ok (.getfield 117, 3) := by decide +kernel
theorem dX10_keep_52 : decode cX10_keep 52 = .ok (.ireturn, 1) := by decide +kernel
theorem dX10_back_0 : decode cX10_back 0 = .ok (.aload_n 0, 1) := by decide +kernel
theorem dX10_back_1 : decode cX10_back 1 = .ok (.getfield 117, 3) := by decide +kernel
theorem dX10_back_4 : decode cX10_back 4 = .ok (.ifCond .gt 6, 3) := by decide +kernel
theorem dX10_back_7 : decode cX10_back 7 = .ok (.bipush (-2), 2) := by decide +kernel
theorem dX10_back_9 : decode cX10_back 9 = .ok (.ireturn, 1) := by decide +kernel
theorem dX10_back_10 : decode cX10_back 10 = .ok (.aload_n 0, 1) := by decide +kernel
theorem dX10_back_11 : decode cX10_back 11 = .ok (.dup, 1) := by decide +kernel
theorem dX10_back_12 : decode cX10_back 12 = .ok (.getfield 117, 3) := by decide +kernel
theorem dX10_back_15 : decode cX10_back 15 = .ok (.iconst 1, 1) := by decide +kernel
theorem dX10_back_16 : decode cX10_back 16 = .ok (.isub, 1) := by decide +kernel
theorem dX10_back_17 : decode cX10_back 17 = .ok (.putfield 117, 3) := by decide +kernel
theorem dX10_back_20 : decode cX10_back 20 = .ok (.aload_n 0, 1) := by decide +kernel
theorem dX10_back_21 : decode cX10_back 21 = .ok (.getfield 117, 3) := by decide +kernel
theorem dX10_back_24 : decode cX10_back 24 = .ok (.ifCond .ne 10, 3) := by decide +kernel
theorem dX10_back_27 : decode cX10_back 27 = .ok (.aload_n 0, 1) := by decide +kernel
theorem dX10_back_28 : decode cX10_back 28 = .ok (.getfield 37, 3) := by decide +kernel
theorem dX10_back_31 : decode cX10_back 31 = .ok (.goto 7, 3) := by decide +kernel
theorem dX10_back_34 : decode cX10_back 34 = .ok (.aload_n 0, 1) := by decide +kernel
theorem dX10_back_35 : decode cX10_back 35 = .ok (.getfield 40, 3) := by decide +kernel
theorem dX10_back_38 : decode cX10_back 38 = .ok (.astore_n 1, 1) := by decide +kernel
theorem dX10_back_39 : decode cX10_back 39 = .ok (.aload_n 0, 1) := by decide +kernel
theorem dX10_back_40 : decode cX10_back 40 = .ok (.getfield 33, 3) := by decide +kernel
theorem dX10_back_43 : decode cX10_back 43 = .ok (.aload_n 1, 1) := by decide +kernel
theorem dX10_back_44 : decode cX10_back 44 = .ok (.invokevirtual 310, 3) := by decide +kernel
theorem dX10_back_47 : decode cX10_back 47 = .ok (.aload_n 0, 1) := by decide +kernel
theorem dX10_back_48 : decode cX10_back 48 = .ok (.getfield 117, 3) := by decide +kernel
theorem dX10_back_51 : decode cX10_back 51 = .ok (.ireturn, 1) := by decide +kernel
theorem dX10_count_0 : decode cX10_count 0 = .ok (.iload_n 1, 1) := by decide +kernel
theorem dX10_count_1 : decode cX10_count 1 = .ok (.tableswitch 96 0 6 #[43, 51, 59, 70, 75, 83, 88], 43) := by decide +kernel
theorem dX10_count_44 : decode cX10_count 44 = .ok (.aload_n 0, 1) := by decide +kernel
theorem dX10_count_45 : decode cX10_count 45 = .ok (.getfield 23, 3) := by decide +kernel
theorem dX10_count_48 : decode cX10_count 48 = .ok (.getfield 110, 3) := by decide +kernel
theorem dX10_count_51 : decode cX10_count 51 = .ok (.ireturn, 1) := by decide +kernel
theorem dX10_count_52 : decode cX10_count 52 = .ok (.aload_n 0, 1) := by decide +kernel
theorem dX10_count_53 : decode cX10_count 53 = .ok (.getfield 23, 3) := by decide +kernel
theorem dX10_count_56 : decode cX10_count 56 = .ok (.getfield 113, 3) := by decide +kernel
theorem dX10_count_59 : decode cX10_count 59 = .ok (.ireturn, 1) := by decide +kernel
theorem dX10_count_60 : decode cX10_count 60 = .ok (.aload_n 0, 1) := by decide +kernel
theorem dX10_count_61 : decode cX10_count 61 = .ok (.getfield 23, 3) := by decide +kernel
theorem dX10_count_64 : decode cX10_count 64 = .ok (.getfield 166, 3) := by decide +kernel
theorem dX10_count_67 : decode cX10_count 67 = .ok (.getfield 314, 3) := by decide +kernel
theorem dX10_count_70 : decode cX10_count 70 = .ok (.ireturn, 1) := by decide +kernel
theorem dX10_count_71 : decode cX10_count 71 = .ok (.aload_n 0, 1) := by decide +kernel
theorem dX10_count_72 : decode cX10_count 72 = .ok (.getfield 102, 3) := by decide +kernel
theorem dX10_count_75 : decode cX10_count 75 = .ok (.ireturn, 1) := by decide +kernel
theorem dX10_count_76 : decode cX10_count 76 = .ok (.aload_n 0, 1) := by decide +kernel
theorem dX10_count_77 : decode cX10_count 77 = .ok (.getfield 33, 3) := by decide +kernel
theorem dX10_count_80 : decode cX10_count 80 = .ok (.getfield 249, 3) := by decide +kernel
theorem dX10_count_83 : decode cX10_count 83 = .ok (.ireturn, 1) := by decide +kernel
theorem dX10_count_84 : decode cX10_count 84 = .ok (.aload_n 0, 1) := by decide +kernel
theorem dX10_count_85 : decode cX10_count 85 = .ok (.getfield 117, 3) := by decide +kernel
theorem dX10_count_88 : decode cX10_count 88 = .ok (.ireturn, 1) := by decide +kernel
theorem dX10_count_89 : decode cX10_count 89 = .ok (.aload_n 0, 1) := by decide +kernel
theorem dX10_count_90 : decode cX10_count 90 = .ok (.getfield 23, 3) := by decide +kernel
theorem dX10_count_93 : decode cX10_count 93 = .ok (.getfield 317, 3) := by decide +kernel
theorem dX10_count_96 : decode cX10_count 96 = .ok (.ireturn, 1) := by decide +kernel
theorem dX10_count_97 : decode cX10_count 97 = .ok (.iconst (-1), 1) := by decide +kernel
theorem dX10_count_98 : decode cX10_count 98 = .ok (.ireturn, 1) := by decide +kernel
theorem dX10_has_0 : decode cX10_has 0 = .ok (.iload_n 0, 1) := by decide +kernel
theorem dX10_has_1 : decode cX10_has 1 = .ok (.iload_n 1, 1) := by decide +kernel
theorem dX10_has_2 : decode cX10_has 2 = .ok (.ishr, 1) := by decide +kernel
theorem dX10_has_3 : decode cX10_has 3 = .ok (.iconst 1, 1) := by decide +kernel
theorem dX10_has_4 : decode cX10_has 4 = .ok (.iand, 1) := by decide +kernel
theorem dX10_has_5 : decode cX10_has 5 = .ok (.ifCond .eq 7, 3) := by decide +kernel
theorem dX10_has_8 : decode cX10_has 8 = .ok (.iconst 1, 1) := by decide +kernel
theorem dX10_has_9 : decode cX10_has 9 = .ok (.goto 4, 3) := by decide +kernel
theorem dX10_has_12 : decode cX10_has 12 = .ok (.iconst 0, 1) := by decide +kernel
theorem dX10_has_13 : decode cX10_has 13 = .ok (.ireturn, 1) := by decide +kernel
theorem dX11_init_0 : decode cX11_init 0 = .ok (.aload_n 0, 1) := by decide +kernel
theorem dX11_init_1 : decode cX11_init 1 = .ok (.invokespecial 1, 3) := by decide +kernel
theorem dX11_init_4 : decode cX11_init 4 = .ok (.aload_n 0, 1) := by decide +kernel
theorem dX11_init_5 : decode cX11_init 5 = .ok (.sipush 400, 3) := by decide +kernel
theorem dX11_init_8 : decode cX11_init 8 = .ok (.newarray .int, 2) := by decide +kernel
theorem dX11_init_10 : decode cX11_init 10 = .ok (.putfield 7, 3) := by decide +kernel
theorem dX11_init_13 : decode cX11_init 13 = .ok (.aload_n 0, 1) := by decide +kernel
theorem dX11_init_14 : decode cX11_init 14 = .ok (.iconst 2, 1) := by decide +kernel
theorem dX11_init_15 : decode cX11_init 15 = .ok (.newarray .int, 2) := by decide +kernel
theorem dX11_init_17 : decode cX11_init 17 = .ok (.putfield 13, 3) := by decide +kernel
theorem dX11_init_20 : decode cX11_init 20 = .ok (.aload_n 0, 1) := by decide +kernel
theorem dX11_init_21 : decode cX11_init 21 = .ok (.bipush 20, 2) := by decide +kernel
theorem dX11_init_23 : decode cX11_init 23 = .ok (.newarray .int, 2) := by decide +kernel
theorem dX11_init_25 : decode cX11_init 25 = .ok (.putfield 16, 3) := by decide +kernel
theorem dX11_init_28 : decode cX11_init 28 = .ok (.aload_n 0, 1) := by decide +kernel
theorem dX11_init_29 : decode cX11_init 29 = .ok (.bipush 20, 2) := by decide +kernel
theorem dX11_init_31 : decode cX11_init 31 = .ok (.newarray .int, 2) := by decide +kernel
theorem dX11_init_33 : decode cX11_init 33 = .ok (.putfield 19, 3) := by decide +kernel
theorem dX11_init_36 : decode cX11_init 36 = .ok (.aload_n 0, 1) := by decide +kernel
theorem dX11_init_37 : decode cX11_init 37 = .ok (.iconst 2, 1) := by decide +kernel
theorem dX11_init_38 : decode cX11_init 38 = .ok (.newarray .int, 2) := by decide +kernel
theorem dX11_init_40 : decode cX11_init 40 = .ok (.putfield 22, 3) := by decide +kernel
theorem dX11_init_43 : decode cX11_init 43 = .ok (.aload_n 0, 1) := by decide +kernel
theorem dX11_init_44 : decode cX11_init 44 = .ok (.bipush 16, 2) := by decide +kernel
theorem dX11_init_46 : decode cX11_init 46 = .ok (.newarray .int, 2) := by decide +kernel
theorem dX11_init_48 : decode cX11_init 48 = .ok (.putfield 25, 3) := by decide +kernel
theorem dX11_init_51 : decode cX11_init 51 = .ok (.aload_n 0, 1) := by decide +kernel
theorem dX11_init_52 : decode cX11_init 52 = .ok (.bipush 16, 2) := by decide +kernel
theorem dX11_init_54 : decode cX11_init 54 = .ok (.newarray .int, 2) := by decide +kernel
theorem dX11_init_56 : decode cX11_init 56 = .ok (.putfield 28, 3) := by decide +kernel
theorem dX11_init_59 : decode cX11_init 59 = .ok (.aload_n 0, 1) := by decide +kernel
theorem dX11_init_60 : decode cX11_init 60 = .ok (.bipush 16, 2) := by decide +kernel
theorem dX11_init_62 : decode cX11_init 62 = .ok (.newarray .int, 2) := by decide +kernel
theorem dX11_init_64 : decode cX11_init 64 = .ok (.putfield 31, 3) := by decide +kernel
theorem dX11_init_67 : decode cX11_init 67 = .ok (.aload_n 0, 1) := by decide +kernel
theorem dX11_init_68 : decode cX11_init 68 = .ok (.bipush 16, 2) := by decide +kernel
theorem dX11_init_70 : decode cX11_init 70 = .ok (.newarray .int, 2) := by decide +kernel
theorem dX11_init_72 : decode cX11_init 72 = .ok (.putfield 34, 3) := by decide +kernel
theorem dX11_init_75 : decode cX11_init 75 = .ok (.aload_n 0, 1) := by decide +kernel
theorem dX11_init_76 : decode cX11_init 76 = .ok (.bipush 16, 2) := by decide +kernel
theorem dX11_init_78 : decode cX11_init 78 = .ok (.newarray .int, 2) := by decide +kernel
theorem dX11_init_80 : decode cX11_init 80 = .ok (.putfield 37, 3) := by decide +kernel
theorem dX11_init_83 : decode cX11_init 83 = .ok (.aload_n 0, 1) := by decide +kernel
theorem dX11_init_84 : decode cX11_init 84 = .ok (.iconst 2, 1) := by decide +kernel
theorem dX11_init_85 : decode cX11_init 85 = .ok (.newarray .int, 2) := by decide +kernel
theorem dX11_init_87 : decode cX11_init 87 = .ok (.putfield 40, 3) := by decide +kernel
theorem dX11_init_90 : decode cX11_init 90 = .ok (.aload_n 0, 1) := by decide +kernel
theorem dX11_init_91 : decode cX11_init 91 = .ok (.bipush 20, 2) := by decide +kernel
theorem dX11_init_93 : decode cX11_init 93 = .ok (.newarray .int, 2) := by decide +kernel
theorem dX11_init_95 : decode cX11_init 95 = .ok (.putfield 43, 3) := by decide +kernel
theorem dX11_init_98 : decode cX11_init 98 = .ok (.aload_n 0, 1) := by decide +kernel
theorem dX11_init_99 : decode cX11_init 99 = .ok (.bipush 20, 2) := by decide +kernel
theorem dX11_init_101 : decode cX11_init 101 = .ok (.newarray .int, 2) := by decide +kernel
theorem dX11_init_103 : decode cX11_init 103 = .ok (.putfield 46, 3) := by decide +kernel
theorem dX11_init_106 : decode cX11_init 106 = .ok (.aload_n 0, 1) := by decide +kernel
theorem dX11_init_107 : decode cX11_init 107 = .ok (.iconst 2, 1) := by decide +kernel
theorem dX11_init_108 : decode cX11_init 108 = .ok (.newarray .int, 2) := by decide +kernel
theorem dX11_init_110 : decode cX11_init 110 = .ok (.putfield 49, 3) := by decide +kernel
theorem dX11_init_113 : decode cX11_init 113 = .ok (.aload_n 0, 1) := by decide +kernel
theorem dX11_init_114 : decode cX11_init 114 = .ok (.bipush 20, 2) := by decide +kernel
theorem dX11_init_116 : decode cX11_init 116 = .ok (.newarray .int, 2) := by decide +kernel
theorem dX11_init_118 : decode cX11_init 118 = .ok (.putfield 52, 3) := by decide +kernel
theorem dX11_init_121 : decode cX11_init 121 = .ok (.aload_n 0, 1) := by decide +kernel
theorem dX11_init_122 : decode cX11_init 122 = .ok (.sipush 200, 3) := by decide +kernel
theorem dX11_init_125 : decode cX11_init 125 = .ok (.newarray .int, 2) := by decide +kernel
theorem dX11_init_127 : decode cX11_init 127 = .ok (.putfield 55, 3) := by decide +kernel
theorem dX11_init_130 : decode cX11_init 130 = .ok (.aload_n 0, 1) := by decide +kernel
theorem dX11_init_131 : decode cX11_init 131 = .ok (.bipush 10, 2) := by decide +kernel
theorem dX11_init_133 : decode cX11_init 133 = .ok (.newarray .int, 2) := by decide +kernel
theorem dX11_init_135 : decode cX11_init 135 = .ok (.putfield 58, 3) := by decide +kernel
theorem dX11_init_138 : decode cX11_init 138 = .ok (.aload_n 0, 1) := by decide +kernel
theorem dX11_init_139 : decode cX11_init 139 = .ok (.sipush 240, 3) := by decide +kernel
theorem dX11_init_142 : decode cX11_init 142 = .ok (.newarray .int, 2) := by decide +kernel
theorem dX11_init_144 : decode cX11_init 144 = .ok (.putfield 61, 3) := by decide +kernel
theorem dX11_init_147 : decode cX11_init 147 = .ok (.aload_n 0, 1) := by decide +kernel
theorem dX11_init_148 : decode cX11_init 148 = .ok (.iconst 3, 1) := by decide +kernel
theorem dX11_init_149 : decode cX11_init 149 = .ok (.newarray .int, 2) := by decide +kernel
theorem dX11_init_151 : decode cX11_init 151 = .ok (.putfield 64, 3) := by decide +kernel
theorem dX11_init_154 : decode cX11_init 154 = .ok (.aload_n 0, 1) := by decide +kernel
theorem dX11_init_155 : decode cX11_init 155 = .ok (.bipush 30, 2) := by decide +kernel
theorem dX11_init_157 : decode cX11_init 157 = .ok (.newarray .int, 2) := by decide +kernel
theorem dX11_init_159 : decode cX11_init 159 = .ok (.putfield 67, 3) := by decide +kernel
theorem dX11_init_162 : decode cX11_init 162 = .ok (.aload_n 0, 1) := by decide +kernel
theorem dX11_init_163 : decode cX11_init 163 = .ok (.bipush 10, 2) := by decide +kernel
theorem dX11_init_165 : decode cX11_init 165 = .ok (.newarray .int, 2) := by decide +kernel
theorem dX11_init_167 : decode cX11_init 167 = .ok (.putfield 70, 3) := by decide +kernel
theorem dX11_init_170 : decode cX11_init 170 = .ok (.aload_n 0, 1) := by decide +kernel
theorem dX11_init_171 : decode cX11_init 171 = .ok (.iconst 4, 1) := by decide +kernel
theorem dX11_init_172 : decode cX11_init 172 = .ok (.newarray .int, 2) := by decide +kernel
theorem dX11_init_174 : decode cX11_init 174 = .ok (.putfield 73, 3) := by decide +kernel
theorem dX11_init_177 : decode cX11_init 177 = .ok (.aload_n 0, 1) := by decide +kernel
theorem dX11_init_178 : decode cX11_init 178 = .ok (.bipush 10, 2) := by decide +kernel
theorem dX11_init_180 : decode cX11_init 180 = .ok (.newarray .int, 2) := by decide +kernel
theorem dX11_init_182 : decode cX11_init 182 = .ok (.putfield 76, 3) := by decide +kernel
theorem dX11_init_185 : decode cX11_init 185 = .ok (.aload_n 0, 1) := by decide +kernel
theorem dX11_init_186 : decode cX11_init 186 = .ok (.bipush 8, 2) := by decide +kernel
theorem dX11_init_188 : decode cX11_init 188 = .ok (.newarray .int, 2) := by decide +kernel
theorem dX11_init_190 : decode cX11_init 190 = .ok (.putfield 79, 3) := by decide +kernel
theorem dX11_init_193 : decode cX11_init 193 = .ok (.aload_n 0, 1) := by decide +kernel
theorem dX11_init_194 : decode cX11_init 194 = .ok (.bipush 8, 2) := by decide +kernel
theorem dX11_init_196 : decode cX11_init 196 = .ok (.newarray .int, 2) := by decide +kernel
theorem dX11_init_198 : decode cX11_init 198 = .ok (.putfield 82, 3) := by decide +kernel
theorem dX11_init_201 : decode cX11_init 201 = .ok (.aload_n 0, 1) := by decide +kernel
theorem dX11_init_202 : decode cX11_init 202 = .ok (.bipush 8, 2) := by decide +kernel
theorem dX11_init_204 : decode cX11_init 204 = .ok (.newarray .int, 2) := by decide +kernel
theorem dX11_init_206 : decode cX11_init 206 = .ok (.putfield 85, 3) := by decide +kernel
theorem dX11_init_209 : decode cX11_init 209 = .ok (.aload_n 0, 1) := by decide +kernel
theorem dX11_init_210 : decode cX11_init 210 = .ok (.bipush 10, 2) := by decide +kernel
theorem dX11_init_212 : decode cX11_init 212 = .ok (.newarray .int, 2) := by decide +kernel
theorem dX11_init_214 : decode cX11_init 214 = .ok (.putfield 88, 3) := by decide +kernel
theorem dX11_init_217 : decode cX11_init 217 = .ok (.aload_n 0, 1) := by decide +kernel
theorem dX11_init_218 : decode cX11_init 218 = .ok (.bipush 80, 2) := by decide +kernel
theorem dX11_init_220 : decode cX11_init 220 = .ok (.newarray .int, 2) := by decide +kernel
theorem dX11_init_222 : decode cX11_init 222 = .ok (.putfield 91, 3) := by decide +kernel
theorem dX11_init_225 : decode cX11_init 225 = .ok (.aload_n 0, 1) := by decide +kernel
theorem dX11_init_226 : decode cX11_init 226 = .ok (.sipush 8100, 3) := by decide +kernel
theorem dX11_init_229 : decode cX11_init 229 = .ok (.newarray .int, 2) := by decide +kernel
theorem dX11_init_231 : decode cX11_init 231 = .ok (.putfield 94, 3) := by decide +kernel
theorem dX11_init_234 : decode cX11_init 234 = .ok (.aload_n 0, 1) := by decide +kernel
theorem dX11_init_235 : decode cX11_init 235 = .ok (.sipush 8100, 3) := by decide +kernel
theorem dX11_init_238 : decode cX11_init 238 = .ok (.newarray .int, 2) := by decide +kernel
theorem dX11_init_240 : decode cX11_init 240 = .ok (.putfield 97, 3) := by decide +kernel
theorem dX11_init_243 : decode cX11_init 243 = .ok (.aload_n 0, 1) := by decide +kernel
theorem dX11_init_244 : decode cX11_init 244 = .ok (.sipush 1024, 3) := by decide +kernel
theorem dX11_init_247 : decode cX11_init 247 = .ok (.newarray .int, 2) := by decide +kernel
theorem dX11_init_249 : decode cX11_init 249 = .ok (.putfield 100, 3) := by decide +kernel
theorem dX11_init_252 : decode cX11_init 252 = .ok (.aload_n 0, 1) := by decide +kernel
theorem dX11_init_253 : decode cX11_init 253 = .ok (.sipush 1024, 3) := by decide +kernel
theorem dX11_init_256 : decode cX11_init 256 = .ok (.newarray .int, 2) := by decide +kernel
theorem dX11_init_258 : decode cX11_init 258 = .ok (.putfield 103, 3) := by decide +kernel
theorem dX11_init_261 : decode cX11_init 261 = .ok (.aload_n 0, 1) := by decide +kernel
theorem dX11_init_262 : decode cX11_init 262 = .ok (.sipush 1024, 3) := by decide +kernel
theorem dX11_init_265 : decode cX11_init 265 = .ok (.newarray .int, 2) := by decide +kernel
theorem dX11_init_267 : decode cX11_init 267 = .ok (.putfield 106, 3) := by decide +kernel
theorem dX11_init_270 : decode cX11_init 270 = .ok (.aload_n 0, 1) := by decide +kernel
theorem dX11_init_271 : decode cX11_init 271 = .ok (.bipush 80, 2) := by decide +kernel
theorem dX11_init_273 : decode cX11_init 273 = .ok (.newarray .int, 2) := by decide +kernel
theorem dX11_init_275 : decode cX11_init 275 = .ok (.putfield 109, 3) := by decide +kernel
theorem dX11_init_278 : decode cX11_init 278 = .ok (.aload_n 0, 1) := by decide +kernel
theorem dX11_init_279 : decode cX11_init 279 = .ok (.bipush 10, 2) := by decide +kernel
theorem dX11_init_281 : decode cX11_init 281 = .ok (.newarray .int, 2) := by decide +kernel
theorem dX11_init_283 : decode cX11_init 283 = .ok (.putfield 112, 3) := by decide +kernel
theorem dX11_init_286 : decode cX11_init 286 = .ok (.aload_n 0, 1) := by decide +kernel
theorem dX11_init_287 : decode cX11_init 287 = .ok (.iconst 0, 1) := by decide +kernel
theorem dX11_init_288 : decode cX11_init 288 = .ok (.invokevirtual 115, 3) := by decide +kernel
theorem dX11_init_291 : decode cX11_init 291 = .ok (.aload_n 0, 1) := by decide +kernel
theorem dX11_init_292 : decode cX11_init 292 = .ok (.getfield 13, 3) := by decide +kernel
theorem dX11_init_295 : decode cX11_init 295 = .ok (.iconst 0, 1) := by decide +kernel
theorem dX11_init_296 : decode cX11_init 296 = .ok (.iconst 1, 1) := by decide +kernel
theorem dX11_init_297 : decode cX11_init 297 = .ok (.iastore, 1) := by decide +kernel
theorem dX11_init_298 : decode cX11_init 298 = .ok (.aload_n 0, 1) := by decide +kernel
theorem dX11_init_299 : decode cX11_init 299 = .ok (.getfield 16, 3) := by decide +kernel
theorem dX11_init_302 : decode cX11_init 302 = .ok (.iconst 0, 1) := by decide +kernel
theorem dX11_init_303 : decode cX11_init 303 = .ok (.bipush 50, 2) := by decide +kernel
theorem dX11_init_305 : decode cX11_init 305 = .ok (.iastore, 1) := by decide +kernel
theorem dX11_init_306 : decode cX11_init 306 = .ok (.aload_n 0, 1) := by decide +kernel
theorem dX11_init_307 : decode cX11_init 307 = .ok (.getfield 22, 3) := by decide +kernel
theorem dX11_init_310 : decode cX11_init 310 = .ok (.iconst 0, 1) := by decide +kernel
theorem dX11_init_311 : decode cX11_init 311 = .ok (.iconst 1, 1) := by decide +kernel
theorem dX11_init_312 : decode cX11_init 312 = .ok (.iastore, 1) := by decide +kernel
theorem dX11_init_313 : decode cX11_init 313 = .ok (.aload_n 0, 1) := by decide +kernel
theorem dX11_init_314 : decode cX11_init 314 = .ok (.getfield 25, 3) := by decide +kernel
theorem dX11_init_317 : decode cX11_init 317 = .ok (.iconst 0, 1) := by decide +kernel
theorem dX11_init_318 : decode cX11_init 318 = .ok (.bipush 50, 2) := by decide +kernel
theorem dX11_init_320 : decode cX11_init 320 = .ok (.iastore, 1) := by decide +kernel
theorem dX11_init_321 : decode cX11_init 321 = .ok (.aload_n 0, 1) := by decide +kernel
theorem dX11_init_322 : decode cX11_init 322 = .ok (.getfield 31, 3) := by decide +kernel
theorem dX11_init_325 : decode cX11_init 325 = .ok (.iconst 0, 1) := by decide +kernel
theorem dX11_init_326 : decode cX11_init 326 = .ok (.bipush 10, 2) := by decide +kernel
theorem dX11_init_328 : decode cX11_init 328 = .ok (.iastore, 1) := by decide +kernel
theorem dX11_init_329 : decode cX11_init 329 = .ok (.aload_n 0, 1) := by decide +kernel
theorem dX11_init_330 : decode cX11_init 330 = .ok (.getfield 37, 3) := by decide +kernel
theorem dX11_init_333 : decode cX11_init 333 = .ok (.iconst 0, 1) := by decide +kernel
theorem dX11_init_334 : decode cX11_init 334 = .ok (.iconst 0, 1) := by decide +kernel
theorem dX11_init_335 : decode cX11_init 335 = .ok (.iastore, 1) := by decide +kernel
theorem dX11_init_336 : decode cX11_init 336 = .ok (.aload_n 0, 1) := by decide +kernel
theorem dX11_init_337 : decode cX11_init 337 = .ok (.invokevirtual 119, 3) := by decide +kernel
theorem dX11_init_340 : decode cX11_init 340 = .ok (.return_, 1) := by decide +kernel
theorem dX11_in_0 : decode cX11_in 0 = .ok (.lload_n 0, 1) := by decide +kernel
theorem dX11_in_1 : decode cX11_in 1 = .ok (.lload_n 2, 1) := by decide +kernel
theorem dX11_in_2 : decode cX11_in 2 = .ok (.lcmp, 1) := by decide +kernel
theorem dX11_in_3 : decode cX11_in 3 = .ok (.ifCond .lt 14, 3) := by decide +kernel
theorem dX11_in_6 : decode cX11_in 6 = .ok (.lload_n 0, 1) := by decide +kernel
theorem dX11_in_7 : decode cX11_in 7 = .ok (.lload 4, 2) := by decide +kernel
theorem dX11_in_9 : decode cX11_in 9 = .ok (.lcmp, 1) := by decide +kernel
theorem dX11_in_10 : decode cX11_in 10 = .ok (.ifCond .gt 7, 3) := by decide +kernel
theorem dX11_in_13 : decode cX11_in 13 = .ok (.iconst 1, 1) := by decide +kernel
theorem dX11_in_14 : decode cX11_in 14 = .ok (.goto 4, 3) := by decide +kernel
theorem dX11_in_17 : decode cX11_in 17 = .ok (.iconst 0, 1) := by decide +kernel
theorem dX11_in_18 : decode cX11_in 18 = .ok (.ireturn, 1) := by decide +kernel
theorem dX11_has_0 : decode cX11_has 0 = .ok (.iload_n 0, 1) := by decide +kernel
theorem dX11_has_1 : decode cX11_has 1 = .ok (.iload_n 1, 1) := by decide +kernel
theorem dX11_has_2 : decode cX11_has 2 = .ok (.ishr, 1) := by decide +kernel
theorem dX11_has_3 : decode cX11_has 3 = .ok (.iconst 1, 1) := by decide +kernel
theorem dX11_has_4 : decode cX11_has 4 = .ok (.iand, 1) := by decide +kernel
theorem dX11_has_5 : decode cX11_has 5 = .ok (.iconst 1, 1) := by decide +kernel
theorem dX11_has_6 : decode cX11_has 6 = .ok (.if_icmp .ne 7, 3) := by decide +kernel
theorem dX11_has_9 : decode cX11_has 9 = .ok (.iconst 1, 1) := by decide +kernel
theorem dX11_has_10 : decode cX11_has 10 = .ok (.goto 4, 3) := by decide +kernel
theorem dX11_has_13 : decode cX11_has 13 = .ok (.iconst 0, 1) := by decide +kernel
theorem dX11_has_14 : decode cX11_has 14 = .ok (.ireturn, 1) := by decide +kernel
theorem dX11_bits_0 : decode cX11_bits 0 = .ok (.iconst 0, 1) := by decide +kernel
theorem dX11_bits_1 : decode cX11_bits 1 = .ok (.istore_n 1, 1) := by decide +kernel
theorem dX11_bits_2 : decode cX11_bits 2 = .ok (.iload_n 0, 1) := by decide +kernel
theorem dX11_bits_3 : decode cX11_bits 3 = .ok (.istore_n 2, 1) := by decide +kernel
theorem dX11_bits_4 : decode cX11_bits 4 = .ok (.iload_n 2, 1) := by decide +kernel
theorem dX11_bits_5 : decode cX11_bits 5 = .ok (.ifCond .eq 15, 3) := by decide +kernel
theorem dX11_bits_8 : decode cX11_bits 8 = .ok (.iinc 1 1, 3) := by decide +kernel
theorem dX11_bits_11 : decode cX11_bits 11 = .ok (.iload_n 2, 1) := by decide +kernel
theorem dX11_bits_12 : decode cX11_bits 12 = .ok (.iload_n 2, 1) := by decide +kernel
theorem dX11_bits_13 : decode cX11_bits 13 = .ok (.iconst 1, 1) := by decide +kernel
theorem dX11_bits_14 : decode cX11_bits 14 = .ok (.isub, 1) := by decide +kernel
theorem dX11_bits_15 : decode cX11_bits 15 = .ok (.iand, 1) := by decide +kernel
theorem dX11_bits_16 : decode cX11_bits 16 = .ok (.istore_n 2, 1) := by decide +kernel
theorem dX11_bits_17 : decode cX11_bits 17 = .ok (.goto (-13), 3) := by decide +kernel
theorem dX11_bits_20 : decode cX11_bits 20 = .ok (.iload_n 1, 1) := by decide +kernel
theorem dX11_bits_21 : decode cX11_bits 21 = .ok (.ireturn, 1) := by decide +kernel
theorem dX11_noCompany_0 : decode cX11_noCompany 0 = .ok (.aload_n 0, 1) := by decide +kernel
theorem dX11_noCompany_1 : decode cX11_noCompany 1 = .ok (.getfield 13, 3) := by decide +kernel
theorem dX11_noCompany_4 : decode cX11_noCompany 4 = .ok (.iload_n 1, 1) := by decide +kernel
theorem dX11_noCompany_5 : decode cX11_noCompany 5 = .ok (.iconst 0, 1) := by decide +kernel
theorem dX11_noCompany_6 : decode cX11_noCompany 6 = .ok (.iastore, 1) := by decide +kernel
theorem dX11_noCompany_7 : decode cX11_noCompany 7 = .ok (.aload_n 0, 1) := by decide +kernel
theorem dX11_noCompany_8 : decode cX11_noCompany 8 = .ok (.getfield 22, 3) := by decide +kernel
theorem dX11_noCompany_11 : decode cX11_noCompany 11 = .ok (.iload_n 1, 1) := by decide +kernel
theorem dX11_noCompany_12 : decode cX11_noCompany 12 = .ok (.iconst 0, 1) := by decide +kernel
theorem dX11_noCompany_13 : decode cX11_noCompany 13 = .ok (.iastore, 1) := by decide +kernel
theorem dX11_noCompany_14 : decode cX11_noCompany 14 = .ok (.aload_n 0, 1) := by decide +kernel
theorem dX11_noCompany_15 : decode cX11_noCompany 15 = .ok (.getfield 40, 3) := by decide +kernel
theorem dX11_noCompany_18 : decode cX11_noCompany 18 = .ok (.iload_n 1, 1) := by decide +kernel
theorem dX11_noCompany_19 : decode cX11_noCompany 19 = .ok (.iconst 0, 1) := by decide +kernel
theorem dX11_noCompany_20 : decode cX11_noCompany 20 = .ok (.iastore, 1) := by decide +kernel
theorem dX11_noCompany_21 : decode cX11_noCompany 21 = .ok (.aload_n 0, 1) := by decide +kernel
theorem dX11_noCompany_22 : decode cX11_noCompany 22 = .ok (.getfield 49, 3) := by decide +kernel
theorem dX11_noCompany_25 : decode cX11_noCompany 25 = .ok (.iload_n 1, 1) := by decide +kernel
theorem dX11_noCompany_26 : decode cX11_noCompany 26 = .ok (.iconst 0, 1) := by decide +kernel
