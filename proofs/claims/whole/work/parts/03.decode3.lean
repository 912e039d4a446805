theorem dX11_isTaken_33 : decode cX11_isTaken 33 = .ok (.iconst 1, 1) := by decide +kernel
theorem dX11_isTaken_34 : decode cX11_isTaken 34 = .ok (.iadd, 1) := by decide +kernel
theorem dX11_isTaken_35 : decode cX11_isTaken 35 = .ok (.imul, 1) := by decide +kernel
theorem dX11_isTaken_36 : decode cX11_isTaken 36 = .ok (.iload_n 2, 1) := by decide +kernel
theorem dX11_isTaken_37 : decode cX11_isTaken 37 = .ok (.iadd, 1) := by decide +kernel
theorem dX11_isTaken_38 : decode cX11_isTaken 38 = .ok (.iload_n 3, 1) := by decide +kernel
theorem dX11_isTaken_39 : decode cX11_isTaken 39 = .ok (.isub, 1) := by decide +kernel
theorem dX11_isTaken_40 : decode cX11_isTaken 40 = .ok (.iaload, 1) := by decide +kernel
theorem dX11_isTaken_41 : decode cX11_isTaken 41 = .ok (.iadd, 1) := by decide +kernel
theorem dX11_isTaken_42 : decode cX11_isTaken 42 = .ok (.istore 4, 2) := by decide +kernel
theorem dX11_isTaken_44 : decode cX11_isTaken 44 = .ok (.aload_n 0, 1) := by decide +kernel
theorem dX11_isTaken_45 : decode cX11_isTaken 45 = .ok (.getfield 94, 3) := by decide +kernel
theorem dX11_isTaken_48 : decode cX11_isTaken 48 = .ok (.bipush 100, 2) := by decide +kernel
theorem dX11_isTaken_50 : decode cX11_isTaken 50 = .ok (.iload_n 1, 1) := by decide +kernel
theorem dX11_isTaken_51 : decode cX11_isTaken 51 = .ok (.iconst 1, 1) := by decide +kernel
theorem dX11_isTaken_52 : decode cX11_isTaken 52 = .ok (.iadd, 1) := by decide +kernel
theorem dX11_isTaken_53 : decode cX11_isTaken 53 = .ok (.imul, 1) := by decide +kernel
theorem dX11_isTaken_54 : decode cX11_isTaken 54 = .ok (.iload_n 2, 1) := by decide +kernel
theorem dX11_isTaken_55 : decode cX11_isTaken 55 = .ok (.iadd, 1) := by decide +kernel
theorem dX11_isTaken_56 : decode cX11_isTaken 56 = .ok (.iaload, 1) := by decide +kernel
theorem dX11_isTaken_57 : decode cX11_isTaken 57 = .ok (.istore 5, 2) := by decide +kernel
theorem dX11_isTaken_59 : decode cX11_isTaken 59 = .ok (.iload 4, 2) := by decide +kernel
theorem dX11_isTaken_61 : decode cX11_isTaken 61 = .ok (.iload 5, 2) := by decide +kernel
theorem dX11_isTaken_63 : decode cX11_isTaken 63 = .ok (.if_icmp .gt 43, 3) := by decide +kernel
theorem dX11_isTaken_66 : decode cX11_isTaken 66 = .ok (.iload 4, 2) := by decide +kernel
theorem dX11_isTaken_68 : decode cX11_isTaken 68 = .ok (.iload 5, 2) := by decide +kernel
theorem dX11_isTaken_70 : decode cX11_isTaken 70 = .ok (.if_icmp .ne 40, 3) := by decide +kernel
theorem dX11_isTaken_73 : decode cX11_isTaken 73 = .ok (.iload_n 3, 1) := by decide +kernel
theorem dX11_isTaken_74 : decode cX11_isTaken 74 = .ok (.aload_n 0, 1) := by decide +kernel
theorem dX11_isTaken_75 : decode cX11_isTaken 75 = .ok (.getfield 97, 3) := by decide +kernel
theorem dX11_isTaken_78 : decode cX11_isTaken 78 = .ok (.bipush 100, 2) := by decide +kernel
theorem dX11_isTaken_80 : decode cX11_isTaken 80 = .ok (.iload_n 1, 1) := by decide +kernel
theorem dX11_isTaken_81 : decode cX11_isTaken 81 = .ok (.iconst 1, 1) := by decide +kernel
theorem dX11_isTaken_82 : decode cX11_isTaken 82 = .ok (.iadd, 1) := by decide +kernel
theorem dX11_isTaken_83 : decode cX11_isTaken 83 = .ok (.imul, 1) := by decide +kernel
theorem dX11_isTaken_84 : decode cX11_isTaken 84 = .ok (.iload_n 2, 1) := by decide +kernel
theorem dX11_isTaken_85 : decode cX11_isTaken 85 = .ok (.iadd, 1) := by decide +kernel
theorem dX11_isTaken_86 : decode cX11_isTaken 86 = .ok (.iload_n 3, 1) := by decide +kernel
theorem dX11_isTaken_87 : decode cX11_isTaken 87 = .ok (.isub, 1) := by decide +kernel
theorem dX11_isTaken_88 : decode cX11_isTaken 88 = .ok (.iaload, 1) := by decide +kernel
theorem dX11_isTaken_89 : decode cX11_isTaken 89 = .ok (.iadd, 1) := by decide +kernel
theorem dX11_isTaken_90 : decode cX11_isTaken 90 = .ok (.aload_n 0, 1) := by decide +kernel
theorem dX11_isTaken_91 : decode cX11_isTaken 91 = .ok (.getfield 97, 3) := by decide +kernel
theorem dX11_isTaken_94 : decode cX11_isTaken 94 = .ok (.bipush 100, 2) := by decide +kernel
theorem dX11_isTaken_96 : decode cX11_isTaken 96 = .ok (.iload_n 1, 1) := by decide +kernel
theorem dX11_isTaken_97 : decode cX11_isTaken 97 = .ok (.iconst 1, 1) := by decide +kernel
theorem dX11_isTaken_98 : decode cX11_isTaken 98 = .ok (.iadd, 1) := by decide +kernel
theorem dX11_isTaken_99 : decode cX11_isTaken 99 = .ok (.imul, 1) := by decide +kernel
theorem dX11_isTaken_100 : decode cX11_isTaken 100 = .ok (.iload_n 2, 1) := by decide +kernel
theorem dX11_isTaken_101 : decode cX11_isTaken 101 = .ok (.iadd, 1) := by decide +kernel
theorem dX11_isTaken_102 : decode cX11_isTaken 102 = .ok (.iaload, 1) := by decide +kernel
theorem dX11_isTaken_103 : decode cX11_isTaken 103 = .ok (.if_icmp .gt 7, 3) := by decide +kernel
theorem dX11_isTaken_106 : decode cX11_isTaken 106 = .ok (.iconst 1, 1) := by decide +kernel
theorem dX11_isTaken_107 : decode cX11_isTaken 107 = .ok (.goto 4, 3) := by decide +kernel
theorem dX11_isTaken_110 : decode cX11_isTaken 110 = .ok (.iconst 0, 1) := by decide +kernel
theorem dX11_isTaken_111 : decode cX11_isTaken 111 = .ok (.ireturn, 1) := by decide +kernel
theorem dX11_layRehearsals_0 : decode cX11_layRehearsals 0 = .ok (.aload_n 0, 1) := by decide +kernel
theorem dX11_layRehearsals_1 : decode cX11_layRehearsals 1 = .ok (.invokevirtual 253, 3) := by decide +kernel
theorem dX11_layRehearsals_4 : decode cX11_layRehearsals 4 = .ok (.aload_n 0, 1) := by decide +kernel
theorem dX11_layRehearsals_5 : decode cX11_layRehearsals 5 = .ok (.getfield 247, 3) := by decide +kernel
theorem dX11_layRehearsals_8 : decode cX11_layRehearsals 8 = .ok (.istore_n 1, 1) := by decide +kernel
theorem dX11_layRehearsals_9 : decode cX11_layRehearsals 9 = .ok (.iload_n 1, 1) := by decide +kernel
theorem dX11_layRehearsals_10 : decode cX11_layRehearsals 10 = .ok (.ifCond .lt 155, 3) := by decide +kernel
theorem dX11_layRehearsals_13 : decode cX11_layRehearsals 13 = .ok (.iconst 0, 1) := by decide +kernel
theorem dX11_layRehearsals_14 : decode cX11_layRehearsals 14 = .ok (.istore_n 2, 1) := by decide +kernel
theorem dX11_layRehearsals_15 : decode cX11_layRehearsals 15 = .ok (.iload_n 2, 1) := by decide +kernel
theorem dX11_layRehearsals_16 : decode cX11_layRehearsals 16 = .ok (.bipush 100, 2) := by decide +kernel
theorem dX11_layRehearsals_18 : decode cX11_layRehearsals 18 = .ok (.if_icmp .ge 141, 3) := by decide +kernel
theorem dX11_layRehearsals_21 : decode cX11_layRehearsals 21 = .ok (.bipush 100, 2) := by decide +kernel
theorem dX11_layRehearsals_23 : decode cX11_layRehearsals 23 = .ok (.iload_n 1, 1) := by decide +kernel
theorem dX11_layRehearsals_24 : decode cX11_layRehearsals 24 = .ok (.imul, 1) := by decide +kernel
theorem dX11_layRehearsals_25 : decode cX11_layRehearsals 25 = .ok (.iload_n 2, 1) := by decide +kernel
theorem dX11_layRehearsals_26 : decode cX11_layRehearsals 26 = .ok (.iadd, 1) := by decide +kernel
theorem dX11_layRehearsals_27 : decode cX11_layRehearsals 27 = .ok (.istore_n 3, 1) := by decide +kernel
theorem dX11_layRehearsals_28 : decode cX11_layRehearsals 28 = .ok (.iload_n 3, 1) := by decide +kernel
theorem dX11_layRehearsals_29 : decode cX11_layRehearsals 29 = .ok (.bipush 100, 2) := by decide +kernel
theorem dX11_layRehearsals_31 : decode cX11_layRehearsals 31 = .ok (.iadd, 1) := by decide +kernel
theorem dX11_layRehearsals_32 : decode cX11_layRehearsals 32 = .ok (.istore 4, 2) := by decide +kernel
theorem dX11_layRehearsals_34 : decode cX11_layRehearsals 34 = .ok (.iload_n 1, 1) := by decide +kernel
theorem dX11_layRehearsals_35 : decode cX11_layRehearsals 35 = .ok (.aload_n 0, 1) := by decide +kernel
theorem dX11_layRehearsals_36 : decode cX11_layRehearsals 36 = .ok (.getfield 247, 3) := by decide +kernel
theorem dX11_layRehearsals_39 : decode cX11_layRehearsals 39 = .ok (.if_icmp .ne 20, 3) := by decide +kernel
theorem dX11_layRehearsals_42 : decode cX11_layRehearsals 42 = .ok (.aload_n 0, 1) := by decide +kernel
theorem dX11_layRehearsals_43 : decode cX11_layRehearsals 43 = .ok (.getfield 94, 3) := by decide +kernel
theorem dX11_layRehearsals_46 : decode cX11_layRehearsals 46 = .ok (.iload_n 3, 1) := by decide +kernel
theorem dX11_layRehearsals_47 : decode cX11_layRehearsals 47 = .ok (.iconst 0, 1) := by decide +kernel
theorem dX11_layRehearsals_48 : decode cX11_layRehearsals 48 = .ok (.iastore, 1) := by decide +kernel
theorem dX11_layRehearsals_49 : decode cX11_layRehearsals 49 = .ok (.aload_n 0, 1) := by decide +kernel
theorem dX11_layRehearsals_50 : decode cX11_layRehearsals 50 = .ok (.getfield 97, 3) := by decide +kernel
theorem dX11_layRehearsals_53 : decode cX11_layRehearsals 53 = .ok (.iload_n 3, 1) := by decide +kernel
theorem dX11_layRehearsals_54 : decode cX11_layRehearsals 54 = .ok (.iconst 0, 1) := by decide +kernel
theorem dX11_layRehearsals_55 : decode cX11_layRehearsals 55 = .ok (.iastore, 1) := by decide +kernel
theorem dX11_layRehearsals_56 : decode cX11_layRehearsals 56 = .ok (.goto 97, 3) := by decide +kernel
theorem dX11_layRehearsals_59 : decode cX11_layRehearsals 59 = .ok (.aload_n 0, 1) := by decide +kernel
theorem dX11_layRehearsals_60 : decode cX11_layRehearsals 60 = .ok (.iload_n 1, 1) := by decide +kernel
theorem dX11_layRehearsals_61 : decode cX11_layRehearsals 61 = .ok (.iload_n 2, 1) := by decide +kernel
theorem dX11_layRehearsals_62 : decode cX11_layRehearsals 62 = .ok (.invokevirtual 256, 3) := by decide +kernel
theorem dX11_layRehearsals_65 : decode cX11_layRehearsals 65 = .ok (.ifCond .eq 62, 3) := by decide +kernel
theorem dX11_layRehearsals_68 : decode cX11_layRehearsals 68 = .ok (.aload_n 0, 1) := by decide +kernel
theorem dX11_layRehearsals_69 : decode cX11_layRehearsals 69 = .ok (.aload_n 0, 1) := by decide +kernel
theorem dX11_layRehearsals_70 : decode cX11_layRehearsals 70 = .ok (.getfield 91, 3) := by decide +kernel
theorem dX11_layRehearsals_73 : decode cX11_layRehearsals 73 = .ok (.iload_n 1, 1) := by decide +kernel
theorem dX11_layRehearsals_74 : decode cX11_layRehearsals 74 = .ok (.iaload, 1) := by decide +kernel
theorem dX11_layRehearsals_75 : decode cX11_layRehearsals 75 = .ok (.bipush 8, 2) := by decide +kernel
theorem dX11_layRehearsals_77 : decode cX11_layRehearsals 77 = .ok (.irem, 1) := by decide +kernel
theorem dX11_layRehearsals_78 : decode cX11_layRehearsals 78 = .ok (.invokevirtual 244, 3) := by decide +kernel
theorem dX11_layRehearsals_81 : decode cX11_layRehearsals 81 = .ok (.istore 5, 2) := by decide +kernel
theorem dX11_layRehearsals_83 : decode cX11_layRehearsals 83 = .ok (.aload_n 0, 1) := by decide +kernel
theorem dX11_layRehearsals_84 : decode cX11_layRehearsals 84 = .ok (.getfield 94, 3) := by decide +kernel
theorem dX11_layRehearsals_87 : decode cX11_layRehearsals 87 = .ok (.iload_n 3, 1) := by decide +kernel
theorem dX11_layRehearsals_88 : decode cX11_layRehearsals 88 = .ok (.aload_n 0, 1) := by decide +kernel
theorem dX11_layRehearsals_89 : decode cX11_layRehearsals 89 = .ok (.iload_n 1, 1) := by decide +kernel
theorem dX11_layRehearsals_90 : decode cX11_layRehearsals 90 = .ok (.invokevirtual 250, 3) := by decide +kernel
theorem dX11_layRehearsals_93 : decode cX11_layRehearsals 93 = .ok (.aload_n 0, 1) := by decide +kernel
theorem dX11_layRehearsals_94 : decode cX11_layRehearsals 94 = .ok (.getfield 94, 3) := by decide +kernel
theorem dX11_layRehearsals_97 : decode cX11_layRehearsals 97 = .ok (.iload 4, 2) := by decide +kernel
theorem dX11_layRehearsals_99 : decode cX11_layRehearsals 99 = .ok (.iload 5, 2) := by decide +kernel
theorem dX11_layRehearsals_101 : decode cX11_layRehearsals 101 = .ok (.isub, 1) := by decide +kernel
theorem dX11_layRehearsals_102 : decode cX11_layRehearsals 102 = .ok (.iaload, 1) := by decide +kernel
theorem dX11_layRehearsals_103 : decode cX11_layRehearsals 103 = .ok (.iadd, 1) := by decide +kernel
theorem dX11_layRehearsals_104 : decode cX11_layRehearsals 104 = .ok (.iastore, 1) := by decide +kernel
theorem dX11_layRehearsals_105 : decode cX11_layRehearsals 105 = .ok (.aload_n 0, 1) := by decide +kernel
theorem dX11_layRehearsals_106 : decode cX11_layRehearsals 106 = .ok (.getfield 97, 3) := by decide +kernel
theorem dX11_layRehearsals_109 : decode cX11_layRehearsals 109 = .ok (.iload_n 3, 1) := by decide +kernel
theorem dX11_layRehearsals_110 : decode cX11_layRehearsals 110 = .ok (.iload 5, 2) := by decide +kernel
theorem dX11_layRehearsals_112 : decode cX11_layRehearsals 112 = .ok (.aload_n 0, 1) := by decide +kernel
theorem dX11_layRehearsals_113 : decode cX11_layRehearsals 113 = .ok (.getfield 97, 3) := by decide +kernel
theorem dX11_layRehearsals_116 : decode cX11_layRehearsals 116 = .ok (.iload 4, 2) := by decide +kernel
theorem dX11_layRehearsals_118 : decode cX11_layRehearsals 118 = .ok (.iload 5, 2) := by decide +kernel
theorem dX11_layRehearsals_120 : decode cX11_layRehearsals 120 = .ok (.isub, 1) := by decide +kernel
theorem dX11_layRehearsals_121 : decode cX11_layRehearsals 121 = .ok (.iaload, 1) := by decide +kernel
theorem dX11_layRehearsals_122 : decode cX11_layRehearsals 122 = .ok (.iadd, 1) := by decide +kernel
theorem dX11_layRehearsals_123 : decode cX11_layRehearsals 123 = .ok (.iastore, 1) := by decide +kernel
theorem dX11_layRehearsals_124 : decode cX11_layRehearsals 124 = .ok (.goto 29, 3) := by decide +kernel
theorem dX11_layRehearsals_127 : decode cX11_layRehearsals 127 = .ok (.aload_n 0, 1) := by decide +kernel
theorem dX11_layRehearsals_128 : decode cX11_layRehearsals 128 = .ok (.getfield 94, 3) := by decide +kernel
theorem dX11_layRehearsals_131 : decode cX11_layRehearsals 131 = .ok (.iload_n 3, 1) := by decide +kernel
theorem dX11_layRehearsals_132 : decode cX11_layRehearsals 132 = .ok (.aload_n 0, 1) := by decide +kernel
theorem dX11_layRehearsals_133 : decode cX11_layRehearsals 133 = .ok (.getfield 94, 3) := by decide +kernel
theorem dX11_layRehearsals_136 : decode cX11_layRehearsals 136 = .ok (.iload 4, 2) := by decide +kernel
theorem dX11_layRehearsals_138 : decode cX11_layRehearsals 138 = .ok (.iaload, 1) := by decide +kernel
theorem dX11_layRehearsals_139 : decode cX11_layRehearsals 139 = .ok (.iastore, 1) := by decide +kernel
theorem dX11_layRehearsals_140 : decode cX11_layRehearsals 140 = .ok (.aload_n 0, 1) := by decide +kernel
theorem dX11_layRehearsals_141 : decode cX11_layRehearsals 141 = .ok (.getfield 97, 3) := by decide +kernel
theorem dX11_layRehearsals_144 : decode cX11_layRehearsals 144 = .ok (.iload_n 3, 1) := by decide +kernel
theorem dX11_layRehearsals_145 : decode cX11_layRehearsals 145 = .ok (.aload_n 0, 1) := by decide +kernel
theorem dX11_layRehearsals_146 : decode cX11_layRehearsals 146 = .ok (.getfield 97, 3) := by decide +kernel
theorem dX11_layRehearsals_149 : decode cX11_layRehearsals 149 = .ok (.iload 4, 2) := by decide +kernel
theorem dX11_layRehearsals_151 : decode cX11_layRehearsals 151 = .ok (.iaload, 1) := by decide +kernel
theorem dX11_layRehearsals_152 : decode cX11_layRehearsals 152 = .ok (.iastore, 1) := by decide +kernel
theorem dX11_layRehearsals_153 : decode cX11_layRehearsals 153 = .ok (.iinc 2 1, 3) := by decide +kernel
theorem dX11_layRehearsals_156 : decode cX11_layRehearsals 156 = .ok (.goto (-141), 3) := by decide +kernel
theorem dX11_layRehearsals_159 : decode cX11_layRehearsals 159 = .ok (.iinc 1 (-1), 3) := by decide +kernel
theorem dX11_layRehearsals_162 : decode cX11_layRehearsals 162 = .ok (.goto (-153), 3) := by decide +kernel
theorem dX11_layRehearsals_165 : decode cX11_layRehearsals 165 = .ok (.return_, 1) := by decide +kernel
theorem dX11_rehearsals_0 : decode cX11_rehearsals 0 = .ok (.iload_n 1, 1) := by decide +kernel
theorem dX11_rehearsals_1 : decode cX11_rehearsals 1 = .ok (.i2l, 1) := by decide +kernel
theorem dX11_rehearsals_2 : decode cX11_rehearsals 2 = .ok (.lconst 0, 1) := by decide +kernel
theorem dX11_rehearsals_3 : decode cX11_rehearsals 3 = .ok (.ldc2_w 151, 3) := by decide +kernel
theorem dX11_rehearsals_6 : decode cX11_rehearsals 6 = .ok (.invokestatic 124, 3) := by decide +kernel
theorem dX11_rehearsals_9 : decode cX11_rehearsals 9 = .ok (.ifCond .eq 9, 3) := by decide +kernel
theorem dX11_rehearsals_12 : decode cX11_rehearsals 12 = .ok (.iload_n 2, 1) := by decide +kernel
theorem dX11_rehearsals_13 : decode cX11_rehearsals 13 = .ok (.bipush (-3), 2) := by decide +kernel
theorem dX11_rehearsals_15 : decode cX11_rehearsals 15 = .ok (.if_icmp .ge 5, 3) := by decide +kernel
theorem dX11_rehearsals_18 : decode cX11_rehearsals 18 = .ok (.iconst (-1), 1) := by decide +kernel
theorem dX11_rehearsals_19 : decode cX11_rehearsals 19 = .ok (.ireturn, 1) := by decide +kernel
theorem dX11_rehearsals_20 : decode cX11_rehearsals 20 = .ok (.aload_n 0, 1) := by decide +kernel
theorem dX11_rehearsals_21 : decode cX11_rehearsals 21 = .ok (.invokevirtual 259, 3) := by decide +kernel
theorem dX11_rehearsals_24 : decode cX11_rehearsals 24 = .ok (.iload_n 2, 1) := by decide +kernel
theorem dX11_rehearsals_25 : decode cX11_rehearsals 25 = .ok (.iconst (-1), 1) := by decide +kernel
theorem dX11_rehearsals_26 : decode cX11_rehearsals 26 = .ok (.if_icmp .ne 10, 3) := by decide +kernel
theorem dX11_rehearsals_29 : decode cX11_rehearsals 29 = .ok (.aload_n 0, 1) := by decide +kernel
theorem dX11_rehearsals_30 : decode cX11_rehearsals 30 = .ok (.getfield 94, 3) := by decide +kernel
theorem dX11_rehearsals_33 : decode cX11_rehearsals 33 = .ok (.iload_n 1, 1) := by decide +kernel
theorem dX11_rehearsals_34 : decode cX11_rehearsals 34 = .ok (.iaload, 1) := by decide +kernel
theorem dX11_rehearsals_35 : decode cX11_rehearsals 35 = .ok (.ireturn, 1) := by decide +kernel
theorem dX11_rehearsals_36 : decode cX11_rehearsals 36 = .ok (.iload_n 2, 1) := by decide +kernel
theorem dX11_rehearsals_37 : decode cX11_rehearsals 37 = .ok (.bipush (-2), 2) := by decide +kernel
theorem dX11_rehearsals_39 : decode cX11_rehearsals 39 = .ok (.if_icmp .ne 10, 3) := by decide +kernel
theorem dX11_rehearsals_42 : decode cX11_rehearsals 42 = .ok (.aload_n 0, 1) := by decide +kernel
theorem dX11_rehearsals_43 : decode cX11_rehearsals 43 = .ok (.getfield 97, 3) := by decide +kernel
theorem dX11_rehearsals_46 : decode cX11_rehearsals 46 = .ok (.iload_n 1, 1) := by decide +kernel
theorem dX11_rehearsals_47 : decode cX11_rehearsals 47 = .ok (.iaload, 1) := by decide +kernel
theorem dX11_rehearsals_48 : decode cX11_rehearsals 48 = .ok (.ireturn, 1) := by decide +kernel
theorem dX11_rehearsals_49 : decode cX11_rehearsals 49 = .ok (.iload_n 1, 1) := by decide +kernel
theorem dX11_rehearsals_50 : decode cX11_rehearsals 50 = .ok (.istore_n 3, 1) := by decide +kernel
theorem dX11_rehearsals_51 : decode cX11_rehearsals 51 = .ok (.iconst 0, 1) := by decide +kernel
theorem dX11_rehearsals_52 : decode cX11_rehearsals 52 = .ok (.istore 4, 2) := by decide +kernel
theorem dX11_rehearsals_54 : decode cX11_rehearsals 54 = .ok (.iconst 0, 1) := by decide +kernel
theorem dX11_rehearsals_55 : decode cX11_rehearsals 55 = .ok (.istore 5, 2) := by decide +kernel
theorem dX11_rehearsals_57 : decode cX11_rehearsals 57 = .ok (.iload 5, 2) := by decide +kernel
theorem dX11_rehearsals_59 : decode cX11_rehearsals 59 = .ok (.aload_n 0, 1) := by decide +kernel
theorem dX11_rehearsals_60 : decode cX11_rehearsals 60 = .ok (.getfield 247, 3) := by decide +kernel
theorem dX11_rehearsals_63 : decode cX11_rehearsals 63 = .ok (.if_icmp .ge 70, 3) := by decide +kernel
theorem dX11_rehearsals_66 : decode cX11_rehearsals 66 = .ok (.aload_n 0, 1) := by decide +kernel
theorem dX11_rehearsals_67 : decode cX11_rehearsals 67 = .ok (.iload 5, 2) := by decide +kernel
theorem dX11_rehearsals_69 : decode cX11_rehearsals 69 = .ok (.iload_n 3, 1) := by decide +kernel
theorem dX11_rehearsals_70 : decode cX11_rehearsals 70 = .ok (.invokevirtual 256, 3) := by decide +kernel
theorem dX11_rehearsals_73 : decode cX11_rehearsals 73 = .ok (.ifCond .eq 54, 3) := by decide +kernel
theorem dX11_rehearsals_76 : decode cX11_rehearsals 76 = .ok (.iload 4, 2) := by decide +kernel
theorem dX11_rehearsals_78 : decode cX11_rehearsals 78 = .ok (.iload_n 2, 1) := by decide +kernel
theorem dX11_rehearsals_79 : decode cX11_rehearsals 79 = .ok (.if_icmp .ne 28, 3) := by decide +kernel
theorem dX11_rehearsals_82 : decode cX11_rehearsals 82 = .ok (.bipush 10, 2) := by decide +kernel
theorem dX11_rehearsals_84 : decode cX11_rehearsals 84 = .ok (.aload_n 0, 1) := by decide +kernel
theorem dX11_rehearsals_85 : decode cX11_rehearsals 85 = .ok (.getfield 91, 3) := by decide +kernel
theorem dX11_rehearsals_88 : decode cX11_rehearsals 88 = .ok (.iload 5, 2) := by decide +kernel
theorem dX11_rehearsals_90 : decode cX11_rehearsals 90 = .ok (.iaload, 1) := by decide +kernel
theorem dX11_rehearsals_91 : decode cX11_rehearsals 91 = .ok (.bipush 8, 2) := by decide +kernel
theorem dX11_rehearsals_93 : decode cX11_rehearsals 93 = .ok (.idiv, 1) := by decide +kernel
theorem dX11_rehearsals_94 : decode cX11_rehearsals 94 = .ok (.imul, 1) := by decide +kernel
theorem dX11_rehearsals_95 : decode cX11_rehearsals 95 = .ok (.aload_n 0, 1) := by decide +kernel
theorem dX11_rehearsals_96 : decode cX11_rehearsals 96 = .ok (.getfield 91, 3) := by decide +kernel
theorem dX11_rehearsals_99 : decode cX11_rehearsals 99 = .ok (.iload 5, 2) := by decide +kernel
theorem dX11_rehearsals_101 : decode cX11_rehearsals 101 = .ok (.iaload, 1) := by decide +kernel
theorem dX11_rehearsals_102 : decode cX11_rehearsals 102 = .ok (.bipush 8, 2) := by decide +kernel
theorem dX11_rehearsals_104 : decode cX11_rehearsals 104 = .ok (.irem, 1) := by decide +kernel
theorem dX11_rehearsals_105 : decode cX11_rehearsals 105 = .ok (.iadd, 1) := by decide +kernel
theorem dX11_rehearsals_106 : decode cX11_rehearsals 106 = .ok (.ireturn, 1) := by decide +kernel
theorem dX11_rehearsals_107 : decode cX11_rehearsals 107 = .ok (.iinc 4 1, 3) := by decide +kernel
theorem dX11_rehearsals_110 : decode cX11_rehearsals 110 = .ok (.iload_n 3, 1) := by decide +kernel
theorem dX11_rehearsals_111 : decode cX11_rehearsals 111 = .ok (.aload_n 0, 1) := by decide +kernel
theorem dX11_rehearsals_112 : decode cX11_rehearsals 112 = .ok (.aload_n 0, 1) := by decide +kernel
theorem dX11_rehearsals_113 : decode cX11_rehearsals 113 = .ok (.getfield 91, 3) := by decide +kernel
theorem dX11_rehearsals_116 : decode cX11_rehearsals 116 = .ok (.iload 5, 2) := by decide +kernel
theorem dX11_rehearsals_118 : decode cX11_rehearsals 118 = .ok (.iaload, 1) := by decide +kernel
theorem dX11_rehearsals_119 : decode cX11_rehearsals 119 = .ok (.bipush 8, 2) := by decide +kernel
theorem dX11_rehearsals_121 : decode cX11_rehearsals 121 = .ok (.irem, 1) := by decide +kernel
theorem dX11_rehearsals_122 : decode cX11_rehearsals 122 = .ok (.invokevirtual 244, 3) := by decide +kernel
theorem dX11_rehearsals_125 : decode cX11_rehearsals 125 = .ok (.isub, 1) := by decide +kernel
theorem dX11_rehearsals_126 : decode cX11_rehearsals 126 = .ok (.istore_n 3, 1) := by decide +kernel
theorem dX11_rehearsals_127 : decode cX11_rehearsals 127 = .ok (.iinc 5 1, 3) := by decide +kernel
theorem dX11_rehearsals_130 : decode cX11_rehearsals 130 = .ok (.goto (-73), 3) := by decide +kernel
theorem dX11_rehearsals_133 : decode cX11_rehearsals 133 = .ok (.iload_n 2, 1) := by decide +kernel
theorem dX11_rehearsals_134 : decode cX11_rehearsals 134 = .ok (.bipush (-3), 2) := by decide +kernel
theorem dX11_rehearsals_136 : decode cX11_rehearsals 136 = .ok (.if_icmp .ne 8, 3) := by decide +kernel
theorem dX11_rehearsals_139 : decode cX11_rehearsals 139 = .ok (.iload 4, 2) := by decide +kernel
theorem dX11_rehearsals_141 : decode cX11_rehearsals 141 = .ok (.goto 5, 3) := by decide +kernel
theorem dX11_rehearsals_144 : decode cX11_rehearsals 144 = .ok (.bipush (-4), 2) := by decide +kernel
theorem dX11_rehearsals_146 : decode cX11_rehearsals 146 = .ok (.ireturn, 1) := by decide +kernel
theorem dX11_rest_0 : decode cX11_rest 0 = .ok (.iload_n 1, 1) := by decide +kernel
theorem dX11_rest_1 : decode cX11_rest 1 = .ok (.i2l, 1) := by decide +kernel
theorem dX11_rest_2 : decode cX11_rest 2 = .ok (.lconst 1, 1) := by decide +kernel
theorem dX11_rest_3 : decode cX11_rest 3 = .ok (.ldc2_w 151, 3) := by decide +kernel
theorem dX11_rest_6 : decode cX11_rest 6 = .ok (.invokestatic 124, 3) := by decide +kernel
theorem dX11_rest_9 : decode cX11_rest 9 = .ok (.ifCond .ne 5, 3) := by decide +kernel
theorem dX11_rest_12 : decode cX11_rest 12 = .ok (.iconst (-1), 1) := by decide +kernel
theorem dX11_rest_13 : decode cX11_rest 13 = .ok (.ireturn, 1) := by decide +kernel
theorem dX11_rest_14 : decode cX11_rest 14 = .ok (.aload_n 0, 1) := by decide +kernel
theorem dX11_rest_15 : decode cX11_rest 15 = .ok (.getfield 64, 3) := by decide +kernel
theorem dX11_rest_18 : decode cX11_rest 18 = .ok (.iconst 0, 1) := by decide +kernel
theorem dX11_rest_19 : decode cX11_rest 19 = .ok (.dup2, 1) := by decide +kernel
theorem dX11_rest_20 : decode cX11_rest 20 = .ok (.iaload, 1) := by decide +kernel
theorem dX11_rest_21 : decode cX11_rest 21 = .ok (.iload_n 1, 1) := by decide +kernel
theorem dX11_rest_22 : decode cX11_rest 22 = .ok (.iadd, 1) := by decide +kernel
theorem dX11_rest_23 : decode cX11_rest 23 = .ok (.iastore, 1) := by decide +kernel
theorem dX11_rest_24 : decode cX11_rest 24 = .ok (.aload_n 0, 1) := by decide +kernel
theorem dX11_rest_25 : decode cX11_rest 25 = .ok (.getfield 64, 3) := by decide +kernel
theorem dX11_rest_28 : decode cX11_rest 28 = .ok (.iconst 0, 1) := by decide +kernel
theorem dX11_rest_29 : decode cX11_rest 29 = .ok (.iaload, 1) := by decide +kernel
theorem dX11_rest_30 : decode cX11_rest 30 = .ok (.ireturn, 1) := by decide +kernel
theorem dX11_wellOf_0 : decode cX11_wellOf 0 = .ok (.ldc2_w 262, 3) := by decide +kernel
theorem dX11_wellOf_3 : decode cX11_wellOf 3 = .ok (.lstore_n 3, 1) := by decide +kernel
theorem dX11_wellOf_4 : decode cX11_wellOf 4 = .ok (.iconst 0, 1) := by decide +kernel
theorem dX11_wellOf_5 : decode cX11_wellOf 5 = .ok (.istore 5, 2) := by decide +kernel
theorem dX11_wellOf_7 : decode cX11_wellOf 7 = .ok (.iload 5, 2) := by decide +kernel
theorem dX11_wellOf_9 : decode cX11_wellOf 9 = .ok (.aload_n 0, 1) := by decide +kernel
theorem dX11_wellOf_10 : decode cX11_wellOf 10 = .ok (.getfield 13, 3) := by decide +kernel
theorem dX11_wellOf_13 : decode cX11_wellOf 13 = .ok (.iconst 0, 1) := by decide +kernel
theorem dX11_wellOf_14 : decode cX11_wellOf 14 = .ok (.iaload, 1) := by decide +kernel
theorem dX11_wellOf_15 : decode cX11_wellOf 15 = .ok (.if_icmp .ge 45, 3) := by decide +kernel
theorem dX11_wellOf_18 : decode cX11_wellOf 18 = .ok (.iload_n 2, 1) := by decide +kernel
theorem dX11_wellOf_19 : decode cX11_wellOf 19 = .ok (.iload 5, 2) := by decide +kernel
theorem dX11_wellOf_21 : decode cX11_wellOf 21 = .ok (.invokestatic 183, 3) := by decide +kernel
theorem dX11_wellOf_24 : decode cX11_wellOf 24 = .ok (.ifCond .eq 28, 3) := by decide +kernel
theorem dX11_wellOf_27 : decode cX11_wellOf 27 = .ok (.lload_n 3, 1) := by decide +kernel
theorem dX11_wellOf_28 : decode cX11_wellOf 28 = .ok (.bipush 100, 2) := by decide +kernel
theorem dX11_wellOf_30 : decode cX11_wellOf 30 = .ok (.aload_n 0, 1) := by decide +kernel
theorem dX11_wellOf_31 : decode cX11_wellOf 31 = .ok (.getfield 55, 3) := by decide +kernel
theorem dX11_wellOf_34 : decode cX11_wellOf 34 = .ok (.bipush 10, 2) := by decide +kernel
theorem dX11_wellOf_36 : decode cX11_wellOf 36 = .ok (.iload 5, 2) := by decide +kernel
theorem dX11_wellOf_38 : decode cX11_wellOf 38 = .ok (.imul, 1) := by decide +kernel
theorem dX11_wellOf_39 : decode cX11_wellOf 39 = .ok (.iload_n 1, 1) := by decide +kernel
theorem dX11_wellOf_40 : decode cX11_wellOf 40 = .ok (.iadd, 1) := by decide +kernel
theorem dX11_wellOf_41 : decode cX11_wellOf 41 = .ok (.iaload, 1) := by decide +kernel
theorem dX11_wellOf_42 : decode cX11_wellOf 42 = .ok (.isub, 1) := by decide +kernel
theorem dX11_wellOf_43 : decode cX11_wellOf 43 = .ok (.i2l, 1) := by decide +kernel
theorem dX11_wellOf_44 : decode cX11_wellOf 44 = .ok (.lmul, 1) := by decide +kernel
theorem dX11_wellOf_45 : decode cX11_wellOf 45 = .ok (.ldc2_w 264, 3) := by decide +kernel
theorem dX11_wellOf_48 : decode cX11_wellOf 48 = .ok (.ldiv, 1) := by decide +kernel
theorem dX11_wellOf_49 : decode cX11_wellOf 49 = .ok (.goto 4, 3) := by decide +kernel
theorem dX11_wellOf_52 : decode cX11_wellOf 52 = .ok (.lload_n 3, 1) := by decide +kernel
theorem dX11_wellOf_53 : decode cX11_wellOf 53 = .ok (.lstore_n 3, 1) := by decide +kernel
theorem dX11_wellOf_54 : decode cX11_wellOf 54 = .ok (.iinc 5 1, 3) := by decide +kernel
theorem dX11_wellOf_57 : decode cX11_wellOf 57 = .ok (.goto (-50), 3) := by decide +kernel
theorem dX11_wellOf_60 : decode cX11_wellOf 60 = .ok (.lload_n 3, 1) := by decide +kernel
theorem dX11_wellOf_61 : decode cX11_wellOf 61 = .ok (.lreturn, 1) := by decide +kernel
theorem dX11_partState_0 : decode cX11_partState 0 = .ok (.iconst 0, 1) := by decide +kernel
theorem dX11_partState_1 : decode cX11_partState 1 = .ok (.istore_n 3, 1) := by decide +kernel
theorem dX11_partState_2 : decode cX11_partState 2 = .ok (.iload_n 3, 1) := by decide +kernel
theorem dX11_partState_3 : decode cX11_partState 3 = .ok (.iload_n 2, 1) := by decide +kernel
theorem dX11_partState_4 : decode cX11_partState 4 = .ok (.if_icmp .gt 16, 3) := by decide +kernel
theorem dX11_partState_7 : decode cX11_partState 7 = .ok (.aload_n 0, 1) := by decide +kernel
theorem dX11_partState_8 : decode cX11_partState 8 = .ok (.getfield 106, 3) := by decide +kernel
theorem dX11_partState_11 : decode cX11_partState 11 = .ok (.iload_n 3, 1) := by decide +kernel
theorem dX11_partState_12 : decode cX11_partState 12 = .ok (.iconst 0, 1) := by decide +kernel
theorem dX11_partState_13 : decode cX11_partState 13 = .ok (.iastore, 1) := by decide +kernel
theorem dX11_partState_14 : decode cX11_partState 14 = .ok (.iinc 3 1, 3) := by decide +kernel
theorem dX11_partState_17 : decode cX11_partState 17 = .ok (.goto (-15), 3) := by decide +kernel
theorem dX11_partState_20 : decode cX11_partState 20 = .ok (.aload_n 0, 1) := by decide +kernel
theorem dX11_partState_21 : decode cX11_partState 21 = .ok (.getfield 106, 3) := by decide +kernel
theorem dX11_partState_24 : decode cX11_partState 24 = .ok (.iconst 0, 1) := by decide +kernel
theorem dX11_partState_25 : decode cX11_partState 25 = .ok (.aload_n 0, 1) := by decide +kernel
theorem dX11_partState_26 : decode cX11_partState 26 = .ok (.getfield 100, 3) := by decide +kernel
theorem dX11_partState_29 : decode cX11_partState 29 = .ok (.iload_n 1, 1) := by decide +kernel
theorem dX11_partState_30 : decode cX11_partState 30 = .ok (.iaload, 1) := by decide +kernel
theorem dX11_partState_31 : decode cX11_partState 31 = .ok (.iastore, 1) := by decide +kernel
theorem dX11_partState_32 : decode cX11_partState 32 = .ok (.iconst 0, 1) := by decide +kernel
theorem dX11_partState_33 : decode cX11_partState 33 = .ok (.istore_n 3, 1) := by decide +kernel
theorem dX11_partState_34 : decode cX11_partState 34 = .ok (.iload_n 3, 1) := by decide +kernel
theorem dX11_partState_35 : decode cX11_partState 35 = .ok (.aload_n 0, 1) := by decide +kernel
theorem dX11_partState_36 : decode cX11_partState 36 = .ok (.getfield 13, 3) := by decide +kernel
theorem dX11_partState_39 : decode cX11_partState 39 = .ok (.iconst 0, 1) := by decide +kernel
theorem dX11_partState_40 : decode cX11_partState 40 = .ok (.iaload, 1) := by decide +kernel
theorem dX11_partState_41 : decode cX11_partState 41 = .ok (.if_icmp .ge 90, 3) := by decide +kernel
theorem dX11_partState_44 : decode cX11_partState 44 = .ok (.iload_n 1, 1) := by decide +kernel
theorem dX11_partState_45 : decode cX11_partState 45 = .ok (.iload_n 3, 1) := by decide +kernel
theorem dX11_partState_46 : decode cX11_partState 46 = .ok (.invokestatic 183, 3) := by decide +kernel
theorem dX11_partState_49 : decode cX11_partState 49 = .ok (.ifCond .ne 76, 3) := by decide +kernel
theorem dX11_partState_52 : decode cX11_partState 52 = .ok (.aload_n 0, 1) := by decide +kernel
theorem dX11_partState_53 : decode cX11_partState 53 = .ok (.iload_n 3, 1) := by decide +kernel
theorem dX11_partState_54 : decode cX11_partState 54 = .ok (.iload_n 1, 1) := by decide +kernel
theorem dX11_partState_55 : decode cX11_partState 55 = .ok (.invokevirtual 266, 3) := by decide +kernel
theorem dX11_partState_58 : decode cX11_partState 58 = .ok (.lstore 4, 2) := by decide +kernel
theorem dX11_partState_60 : decode cX11_partState 60 = .ok (.iconst 0, 1) := by decide +kernel
theorem dX11_partState_61 : decode cX11_partState 61 = .ok (.istore 6, 2) := by decide +kernel
theorem dX11_partState_63 : decode cX11_partState 63 = .ok (.iload 6, 2) := by decide +kernel
theorem dX11_partState_65 : decode cX11_partState 65 = .ok (.iconst 1, 1) := by decide +kernel
theorem dX11_partState_66 : decode cX11_partState 66 = .ok (.iload_n 3, 1) := by decide +kernel
theorem dX11_partState_67 : decode cX11_partState 67 = .ok (.ishl, 1) := by decide +kernel
theorem dX11_partState_68 : decode cX11_partState 68 = .ok (.if_icmp .ge 57, 3) := by decide +kernel
theorem dX11_partState_71 : decode cX11_partState 71 = .ok (.aload_n 0, 1) := by decide +kernel
theorem dX11_partState_72 : decode cX11_partState 72 = .ok (.getfield 106, 3) := by decide +kernel
theorem dX11_partState_75 : decode cX11_partState 75 = .ok (.iload 6, 2) := by decide +kernel
theorem dX11_partState_77 : decode cX11_partState 77 = .ok (.iaload, 1) := by decide +kernel
theorem dX11_partState_78 : decode cX11_partState 78 = .ok (.i2l, 1) := by decide +kernel
theorem dX11_partState_79 : decode cX11_partState 79 = .ok (.lload 4, 2) := by decide +kernel
theorem dX11_partState_81 : decode cX11_partState 81 = .ok (.lmul, 1) := by decide +kernel
theorem dX11_partState_82 : decode cX11_partState 82 = .ok (.ldc2_w 262, 3) := by decide +kernel
theorem dX11_partState_85 : decode cX11_partState 85 = .ok (.ldiv, 1) := by decide +kernel
theorem dX11_partState_86 : decode cX11_partState 86 = .ok (.l2i, 1) := by decide +kernel
theorem dX11_partState_87 : decode cX11_partState 87 = .ok (.istore 7, 2) := by decide +kernel
theorem dX11_partState_89 : decode cX11_partState 89 = .ok (.aload_n 0, 1) := by decide +kernel
theorem dX11_partState_90 : decode cX11_partState 90 = .ok (.getfield 106, 3) := by decide +kernel
theorem dX11_partState_93 : decode cX11_partState 93 = .ok (.iload 6, 2) := by decide +kernel
theorem dX11_partState_95 : decode cX11_partState 95 = .ok (.iconst 1, 1) := by decide +kernel
theorem dX11_partState_96 : decode cX11_partState 96 = .ok (.iload_n 3, 1) := by decide +kernel
theorem dX11_partState_97 : decode cX11_partState 97 = .ok (.ishl, 1) := by decide +kernel
theorem dX11_partState_98 : decode cX11_partState 98 = .ok (.ior, 1) := by decide +kernel
theorem dX11_partState_99 : decode cX11_partState 99 = .ok (.aload_n 0, 1) := by decide +kernel
theorem dX11_partState_100 : decode cX11_partState 100 = .ok (.getfield 106, 3) := by decide +kernel
theorem dX11_partState_103 : decode cX11_partState 103 = .ok (.iload 6, 2) := by decide +kernel
theorem dX11_partState_105 : decode cX11_partState 105 = .ok (.iaload, 1) := by decide +kernel
theorem dX11_partState_106 : decode cX11_partState 106 = .ok (.iload 7, 2) := by decide +kernel
theorem dX11_partState_108 : decode cX11_partState 108 = .ok (.isub, 1) := by decide +kernel
theorem dX11_partState_109 : decode cX11_partState 109 = .ok (.iastore, 1) := by decide +kernel
theorem dX11_partState_110 : decode cX11_partState 110 = .ok (.aload_n 0, 1) := by decide +kernel
theorem dX11_partState_111 : decode cX11_partState 111 = .ok (.getfield 106, 3) := by decide +kernel
theorem dX11_partState_114 : decode cX11_partState 114 = .ok (.iload 6, 2) := by decide +kernel
theorem dX11_partState_116 : decode cX11_partState 116 = .ok (.iload 7, 2) := by decide +kernel
theorem dX11_partState_118 : decode cX11_partState 118 = .ok (.iastore, 1) := by decide +kernel
theorem dX11_partState_119 : decode cX11_partState 119 = .ok (.iinc 6 1, 3) := by decide +kernel
theorem dX11_partState_122 : decode cX11_partState 122 = .ok (.goto (-59), 3) := by decide +kernel
theorem dX11_partState_125 : decode cX11_partState 125 = .ok (.iinc 3 1, 3) := by decide +kernel
theorem dX11_partState_128 : decode cX11_partState 128 = .ok (.goto (-94), 3) := by decide +kernel
theorem dX11_partState_131 : decode cX11_partState 131 = .ok (.iconst 0, 1) := by decide +kernel
theorem dX11_partState_132 : decode cX11_partState 132 = .ok (.istore_n 3, 1) := by decide +kernel
theorem dX11_partState_133 : decode cX11_partState 133 = .ok (.iload_n 3, 1) := by decide +kernel
theorem dX11_partState_134 : decode cX11_partState 134 = .ok (.iload_n 2, 1) := by decide +kernel
theorem dX11_partState_135 : decode cX11_partState 135 = .ok (.if_icmp .gt 26, 3) := by decide +kernel
theorem dX11_partState_138 : decode cX11_partState 138 = .ok (.aload_n 0, 1) := by decide +kernel
theorem dX11_partState_139 : decode cX11_partState 139 = .ok (.getfield 103, 3) := by decide +kernel
theorem dX11_partState_142 : decode cX11_partState 142 = .ok (.iload_n 1, 1) := by decide +kernel
theorem dX11_partState_143 : decode cX11_partState 143 = .ok (.iload_n 3, 1) := by decide +kernel
theorem dX11_partState_144 : decode cX11_partState 144 = .ok (.ior, 1) := by decide +kernel
theorem dX11_partState_145 : decode cX11_partState 145 = .ok (.dup2, 1) := by decide +kernel
theorem dX11_partState_146 : decode cX11_partState 146 = .ok (.iaload, 1) := by decide +kernel
theorem dX11_partState_147 : decode cX11_partState 147 = .ok (.aload_n 0, 1) := by decide +kernel
theorem dX11_partState_148 : decode cX11_partState 148 = .ok (.getfield 106, 3) := by decide +kernel
theorem dX11_partState_151 : decode cX11_partState 151 = .ok (.iload_n 3, 1) := by decide +kernel
theorem dX11_partState_152 : decode cX11_partState 152 = .ok (.iaload, 1) := by decide +kernel
theorem dX11_partState_153 : decode cX11_partState 153 = .ok (.iadd, 1) := by decide +kernel
theorem dX11_partState_154 : decode cX11_partState 154 = .ok (.iastore, 1) := by decide +kernel
theorem dX11_partState_155 : decode cX11_partState 155 = .ok (.iinc 3 1, 3) := by decide +kernel
theorem dX11_partState_158 : decode cX11_partState 158 = .ok (.goto (-25), 3) := by decide +kernel
theorem dX11_partState_161 : decode cX11_partState 161 = .ok (.return_, 1) := by decide +kernel
theorem dX11_layCold_0 : decode cX11_layCold 0 = .ok (.iconst 1, 1) := by decide +kernel
theorem dX11_layCold_1 : decode cX11_layCold 1 = .ok (.aload_n 0, 1) := by decide +kernel
theorem dX11_layCold_2 : decode cX11_layCold 2 = .ok (.getfield 13, 3) := by decide +kernel
theorem dX11_layCold_5 : decode cX11_layCold 5 = .ok (.iconst 0, 1) := by decide +kernel
theorem dX11_layCold_6 : decode cX11_layCold 6 = .ok (.iaload, 1) := by decide +kernel
theorem dX11_layCold_7 : decode cX11_layCold 7 = .ok (.ishl, 1) := by decide +kernel
theorem dX11_layCold_8 : decode cX11_layCold 8 = .ok (.iconst 1, 1) := by decide +kernel
theorem dX11_layCold_9 : decode cX11_layCold 9 = .ok (.isub, 1) := by decide +kernel
theorem dX11_layCold_10 : decode cX11_layCold 10 = .ok (.istore_n 3, 1) := by decide +kernel
theorem dX11_layCold_11 : decode cX11_layCold 11 = .ok (.iconst 0, 1) := by decide +kernel
theorem dX11_layCold_12 : decode cX11_layCold 12 = .ok (.istore 4, 2) := by decide +kernel
theorem dX11_layCold_14 : decode cX11_layCold 14 = .ok (.iload 4, 2) := by decide +kernel
theorem dX11_layCold_16 : decode cX11_layCold 16 = .ok (.iload_n 3, 1) := by decide +kernel
theorem dX11_layCold_17 : decode cX11_layCold 17 = .ok (.if_icmp .gt 29, 3) := by decide +kernel
theorem dX11_layCold_20 : decode cX11_layCold 20 = .ok (.aload_n 0, 1) := by decide +kernel
theorem dX11_layCold_21 : decode cX11_layCold 21 = .ok (.getfield 100, 3) := by decide +kernel
theorem dX11_layCold_24 : decode cX11_layCold 24 = .ok (.iload 4, 2) := by decide +kernel
theorem dX11_layCold_26 : decode cX11_layCold 26 = .ok (.iload 4, 2) := by decide +kernel
theorem dX11_layCold_28 : decode cX11_layCold 28 = .ok (.iload_n 1, 1) := by decide +kernel
theorem dX11_layCold_29 : decode cX11_layCold 29 = .ok (.if_icmp .ne 9, 3) := by decide +kernel
theorem dX11_layCold_32 : decode cX11_layCold 32 = .ok (.ldc_w 270, 3) := by decide +kernel
theorem dX11_layCold_35 : decode cX11_layCold 35 = .ok (.goto 4, 3) := by decide +kernel
theorem dX11_layCold_38 : decode cX11_layCold 38 = .ok (.iconst 0, 1) := by decide +kernel
theorem dX11_layCold_39 : decode cX11_layCold 39 = .ok (.iastore, 1) := by decide +kernel
theorem dX11_layCold_40 : decode cX11_layCold 40 = .ok (.iinc 4 1, 3) := by decide +kernel
theorem dX11_layCold_43 : decode cX11_layCold 43 = .ok (.goto (-29), 3) := by decide +kernel
theorem dX11_layCold_46 : decode cX11_layCold 46 = .ok (.iconst 0, 1) := by decide +kernel
theorem dX11_layCold_47 : decode cX11_layCold 47 = .ok (.istore 4, 2) := by decide +kernel
theorem dX11_layCold_49 : decode cX11_layCold 49 = .ok (.iload 4, 2) := by decide +kernel
theorem dX11_layCold_51 : decode cX11_layCold 51 = .ok (.iload_n 2, 1) := by decide +kernel
theorem dX11_layCold_52 : decode cX11_layCold 52 = .ok (.if_icmp .ge 93, 3) := by decide +kernel
theorem dX11_layCold_55 : decode cX11_layCold 55 = .ok (.iconst 0, 1) := by decide +kernel
theorem dX11_layCold_56 : decode cX11_layCold 56 = .ok (.istore 5, 2) := by decide +kernel
theorem dX11_layCold_58 : decode cX11_layCold 58 = .ok (.iload 5, 2) := by decide +kernel
theorem dX11_layCold_60 : decode cX11_layCold 60 = .ok (.iload_n 3, 1) := by decide +kernel
theorem dX11_layCold_61 : decode cX11_layCold 61 = .ok (.if_icmp .gt 17, 3) := by decide +kernel
theorem dX11_layCold_64 : decode cX11_layCold 64 = .ok (.aload_n 0, 1) := by decide +kernel
theorem dX11_layCold_65 : decode cX11_layCold 65 = .ok (.getfield 103, 3) := by decide +kernel
theorem dX11_layCold_68 : decode cX11_layCold 68 = .ok (.iload 5, 2) := by decide +kernel
theorem dX11_layCold_70 : decode cX11_layCold 70 = .ok (.iconst 0, 1) := by decide +kernel
theorem dX11_layCold_71 : decode cX11_layCold 71 = .ok (.iastore, 1) := by decide +kernel
theorem dX11_layCold_72 : decode cX11_layCold 72 = .ok (.iinc 5 1, 3) := by decide +kernel
theorem dX11_layCold_75 : decode cX11_layCold 75 = .ok (.goto (-17), 3) := by decide +kernel
theorem dX11_layCold_78 : decode cX11_layCold 78 = .ok (.iconst 0, 1) := by decide +kernel
theorem dX11_layCold_79 : decode cX11_layCold 79 = .ok (.istore 5, 2) := by decide +kernel
theorem dX11_layCold_81 : decode cX11_layCold 81 = .ok (.iload 5, 2) := by decide +kernel
theorem dX11_layCold_83 : decode cX11_layCold 83 = .ok (.iload_n 3, 1) := by decide +kernel
theorem dX11_layCold_84 : decode cX11_layCold 84 = .ok (.if_icmp .gt 26, 3) := by decide +kernel
theorem dX11_layCold_87 : decode cX11_layCold 87 = .ok (.aload_n 0, 1) := by decide +kernel
theorem dX11_layCold_88 : decode cX11_layCold 88 = .ok (.getfield 100, 3) := by decide +kernel
theorem dX11_layCold_91 : decode cX11_layCold 91 = .ok (.iload 5, 2) := by decide +kernel
theorem dX11_layCold_93 : decode cX11_layCold 93 = .ok (.iaload, 1) := by decide +kernel
theorem dX11_layCold_94 : decode cX11_layCold 94 = .ok (.ifCond .le 10, 3) := by decide +kernel
theorem dX11_layCold_97 : decode cX11_layCold 97 = .ok (.aload_n 0, 1) := by decide +kernel
theorem dX11_layCold_98 : decode cX11_layCold 98 = .ok (.iload 5, 2) := by decide +kernel
theorem dX11_layCold_100 : decode cX11_layCold 100 = .ok (.iload_n 3, 1) := by decide +kernel
theorem dX11_layCold_101 : decode cX11_layCold 101 = .ok (.invokevirtual 271, 3) := by decide +kernel
theorem dX11_layCold_104 : decode cX11_layCold 104 = .ok (.iinc 5 1, 3) := by decide +kernel
theorem dX11_layCold_107 : decode cX11_layCold 107 = .ok (.goto (-26), 3) := by decide +kernel
theorem dX11_layCold_110 : decode cX11_layCold 110 = .ok (.iconst 0, 1) := by decide +kernel
theorem dX11_layCold_111 : decode cX11_layCold 111 = .ok (.istore 5, 2) := by decide +kernel
theorem dX11_layCold_113 : decode cX11_layCold 113 = .ok (.iload 5, 2) := by decide +kernel
theorem dX11_layCold_115 : decode cX11_layCold 115 = .ok (.iload_n 3, 1) := by decide +kernel
theorem dX11_layCold_116 : decode cX11_layCold 116 = .ok (.if_icmp .gt 23, 3) := by decide +kernel
theorem dX11_layCold_119 : decode cX11_layCold 119 = .ok (.aload_n 0, 1) := by decide +kernel
theorem dX11_layCold_120 : decode cX11_layCold 120 = .ok (.getfield 100, 3) := by decide +kernel
theorem dX11_layCold_123 : decode cX11_layCold 123 = .ok (.iload 5, 2) := by decide +kernel
theorem dX11_layCold_125 : decode cX11_layCold 125 = .ok (.aload_n 0, 1) := by decide +kernel
theorem dX11_layCold_126 : decode cX11_layCold 126 = .ok (.getfield 103, 3) := by decide +kernel
theorem dX11_layCold_129 : decode cX11_layCold 129 = .ok (.iload 5, 2) := by decide +kernel
theorem dX11_layCold_131 : decode cX11_layCold 131 = .ok (.iaload, 1) := by decide +kernel
theorem dX11_layCold_132 : decode cX11_layCold 132 = .ok (.iastore, 1) := by decide +kernel
theorem dX11_layCold_133 : decode cX11_layCold 133 = .ok (.iinc 5 1, 3) := by decide +kernel
theorem dX11_layCold_136 : decode cX11_layCold 136 = .ok (.goto (-23), 3) := by decide +kernel
theorem dX11_layCold_139 : decode cX11_layCold 139 = .ok (.iinc 4 1, 3) := by decide +kernel
theorem dX11_layCold_142 : decode cX11_layCold 142 = .ok (.goto (-93), 3) := by decide +kernel
theorem dX11_layCold_145 : decode cX11_layCold 145 = .ok (.return_, 1) := by decide +kernel
theorem dX11_cold_0 : decode cX11_cold 0 = .ok (.aload_n 0, 1) := by decide +kernel
theorem dX11_cold_1 : decode cX11_cold 1 = .ok (.iload_n 1, 1) := by decide +kernel
theorem dX11_cold_2 : decode cX11_cold 2 = .ok (.invokevirtual 229, 3) := by decide +kernel
theorem dX11_cold_5 : decode cX11_cold 5 = .ok (.ifCond .eq 41, 3) := by decide +kernel
theorem dX11_cold_8 : decode cX11_cold 8 = .ok (.iload_n 2, 1) := by decide +kernel
theorem dX11_cold_9 : decode cX11_cold 9 = .ok (.i2l, 1) := by decide +kernel
theorem dX11_cold_10 : decode cX11_cold 10 = .ok (.lconst 0, 1) := by decide +kernel
theorem dX11_cold_11 : decode cX11_cold 11 = .ok (.ldc2_w 275, 3) := by decide +kernel
theorem dX11_cold_14 : decode cX11_cold 14 = .ok (.invokestatic 124, 3) := by decide +kernel
theorem dX11_cold_17 : decode cX11_cold 17 = .ok (.ifCond .eq 29, 3) := by decide +kernel
theorem dX11_cold_20 : decode cX11_cold 20 = .ok (.iload_n 3, 1) := by decide +kernel
theorem dX11_cold_21 : decode cX11_cold 21 = .ok (.i2l, 1) := by decide +kernel
theorem dX11_cold_22 : decode cX11_cold 22 = .ok (.lconst 0, 1) := by decide +kernel
theorem dX11_cold_23 : decode cX11_cold 23 = .ok (.ldc2_w 277, 3) := by decide +kernel
theorem dX11_cold_26 : decode cX11_cold 26 = .ok (.invokestatic 124, 3) := by decide +kernel
theorem dX11_cold_29 : decode cX11_cold 29 = .ok (.ifCond .eq 17, 3) := by decide +kernel
theorem dX11_cold_32 : decode cX11_cold 32 = .ok (.iload_n 3, 1) := by decide +kernel
theorem dX11_cold_33 : decode cX11_cold 33 = .ok (.bipush 10, 2) := by decide +kernel
theorem dX11_cold_35 : decode cX11_cold 35 = .ok (.if_icmp .ge 13, 3) := by decide +kernel
theorem dX11_cold_38 : decode cX11_cold 38 = .ok (.aload_n 0, 1) := by decide +kernel
theorem dX11_cold_39 : decode cX11_cold 39 = .ok (.iload_n 3, 1) := by decide +kernel
theorem dX11_cold_40 : decode cX11_cold 40 = .ok (.invokevirtual 195, 3) := by decide +kernel
theorem dX11_cold_43 : decode cX11_cold 43 = .ok (.ifCond .ne 5, 3) := by decide +kernel
theorem dX11_cold_46 : decode cX11_cold 46 = .ok (.iconst (-1), 1) := by decide +kernel
theorem dX11_cold_47 : decode cX11_cold 47 = .ok (.ireturn, 1) := by decide +kernel
theorem dX11_cold_48 : decode cX11_cold 48 = .ok (.aload_n 0, 1) := by decide +kernel
theorem dX11_cold_49 : decode cX11_cold 49 = .ok (.iload_n 1, 1) := by decide +kernel
theorem dX11_cold_50 : decode cX11_cold 50 = .ok (.iload_n 2, 1) := by decide +kernel
theorem dX11_cold_51 : decode cX11_cold 51 = .ok (.invokevirtual 279, 3) := by decide +kernel
theorem dX11_cold_54 : decode cX11_cold 54 = .ok (.iconst 1, 1) := by decide +kernel
theorem dX11_cold_55 : decode cX11_cold 55 = .ok (.aload_n 0, 1) := by decide +kernel
theorem dX11_cold_56 : decode cX11_cold 56 = .ok (.getfield 13, 3) := by decide +kernel
theorem dX11_cold_59 : decode cX11_cold 59 = .ok (.iconst 0, 1) := by decide +kernel
theorem dX11_cold_60 : decode cX11_cold 60 = .ok (.iaload, 1) := by decide +kernel
theorem dX11_cold_61 : decode cX11_cold 61 = .ok (.ishl, 1) := by decide +kernel
theorem dX11_cold_62 : decode cX11_cold 62 = .ok (.iconst 1, 1) := by decide +kernel
theorem dX11_cold_63 : decode cX11_cold 63 = .ok (.isub, 1) := by decide +kernel
theorem dX11_cold_64 : decode cX11_cold 64 = .ok (.istore 4, 2) := by decide +kernel
theorem dX11_cold_66 : decode cX11_cold 66 = .ok (.iconst 0, 1) := by decide +kernel
theorem dX11_cold_67 : decode cX11_cold 67 = .ok (.istore 5, 2) := by decide +kernel
theorem dX11_cold_69 : decode cX11_cold 69 = .ok (.iconst 0, 1) := by decide +kernel
theorem dX11_cold_70 : decode cX11_cold 70 = .ok (.istore 6, 2) := by decide +kernel
theorem dX11_cold_72 : decode cX11_cold 72 = .ok (.iconst 0, 1) := by decide +kernel
theorem dX11_cold_73 : decode cX11_cold 73 = .ok (.istore 7, 2) := by decide +kernel
theorem dX11_cold_75 : decode cX11_cold 75 = .ok (.iload 7, 2) := by decide +kernel
theorem dX11_cold_77 : decode cX11_cold 77 = .ok (.iload 4, 2) := by decide +kernel
theorem dX11_cold_79 : decode cX11_cold 79 = .ok (.if_icmp .gt 105, 3) := by decide +kernel
theorem dX11_cold_82 : decode cX11_cold 82 = .ok (.iload_n 3, 1) := by decide +kernel
theorem dX11_cold_83 : decode cX11_cold 83 = .ok (.bipush 10, 2) := by decide +kernel
theorem dX11_cold_85 : decode cX11_cold 85 = .ok (.if_icmp .ge 12, 3) := by decide +kernel
theorem dX11_cold_88 : decode cX11_cold 88 = .ok (.iload 7, 2) := by decide +kernel
theorem dX11_cold_90 : decode cX11_cold 90 = .ok (.iload_n 3, 1) := by decide +kernel
theorem dX11_cold_91 : decode cX11_cold 91 = .ok (.invokestatic 183, 3) := by decide +kernel
theorem dX11_cold_94 : decode cX11_cold 94 = .ok (.goto 35, 3) := by decide +kernel
theorem dX11_cold_97 : decode cX11_cold 97 = .ok (.iload_n 3, 1) := by decide +kernel
theorem dX11_cold_98 : decode cX11_cold 98 = .ok (.bipush 10, 2) := by decide +kernel
theorem dX11_cold_100 : decode cX11_cold 100 = .ok (.if_icmp .ne 28, 3) := by decide +kernel
theorem dX11_cold_103 : decode cX11_cold 103 = .ok (.aload_n 0, 1) := by decide +kernel
theorem dX11_cold_104 : decode cX11_cold 104 = .ok (.getfield 100, 3) := by decide +kernel
theorem dX11_cold_107 : decode cX11_cold 107 = .ok (.iload 7, 2) := by decide +kernel
theorem dX11_cold_109 : decode cX11_cold 109 = .ok (.iaload, 1) := by decide +kernel
theorem dX11_cold_110 : decode cX11_cold 110 = .ok (.ifCond .le 18, 3) := by decide +kernel
theorem dX11_cold_113 : decode cX11_cold 113 = .ok (.aload_n 0, 1) := by decide +kernel
theorem dX11_cold_114 : decode cX11_cold 114 = .ok (.iload 7, 2) := by decide +kernel
theorem dX11_cold_116 : decode cX11_cold 116 = .ok (.iconst 0, 1) := by decide +kernel
theorem dX11_cold_117 : decode cX11_cold 117 = .ok (.iconst 0, 1) := by decide +kernel
theorem dX11_cold_118 : decode cX11_cold 118 = .ok (.invokevirtual 235, 3) := by decide +kernel
theorem dX11_cold_121 : decode cX11_cold 121 = .ok (.ifCond .eq 7, 3) := by decide +kernel
theorem dX11_cold_124 : decode cX11_cold 124 = .ok (.iconst 1, 1) := by decide +kernel
theorem dX11_cold_125 : decode cX11_cold 125 = .ok (.goto 4, 3) := by decide +kernel
theorem dX11_cold_128 : decode cX11_cold 128 = .ok (.iconst 0, 1) := by decide +kernel
theorem dX11_cold_129 : decode cX11_cold 129 = .ok (.istore 8, 2) := by decide +kernel
theorem dX11_cold_131 : decode cX11_cold 131 = .ok (.iload 5, 2) := by decide +kernel
theorem dX11_cold_133 : decode cX11_cold 133 = .ok (.iload 8, 2) := by decide +kernel
theorem dX11_cold_135 : decode cX11_cold 135 = .ok (.ifCond .eq 13, 3) := by decide +kernel
theorem dX11_cold_138 : decode cX11_cold 138 = .ok (.aload_n 0, 1) := by decide +kernel
theorem dX11_cold_139 : decode cX11_cold 139 = .ok (.getfield 100, 3) := by decide +kernel
theorem dX11_cold_142 : decode cX11_cold 142 = .ok (.iload 7, 2) := by decide +kernel
theorem dX11_cold_144 : decode cX11_cold 144 = .ok (.iaload, 1) := by decide +kernel
theorem dX11_cold_145 : decode cX11_cold 145 = .ok (.goto 4, 3) := by decide +kernel
theorem dX11_cold_148 : decode cX11_cold 148 = .ok (.iconst 0, 1) := by decide +kernel
theorem dX11_cold_149 : decode cX11_cold 149 = .ok (.iadd, 1) := by decide +kernel
theorem dX11_cold_150 : decode cX11_cold 150 = .ok (.istore 5, 2) := by decide +kernel
theorem dX11_cold_152 : decode cX11_cold 152 = .ok (.aload_n 0, 1) := by decide +kernel
theorem dX11_cold_153 : decode cX11_cold 153 = .ok (.getfield 100, 3) := by decide +kernel
theorem dX11_cold_156 : decode cX11_cold 156 = .ok (.iload 7, 2) := by decide +kernel
theorem dX11_cold_158 : decode cX11_cold 158 = .ok (.iaload, 1) := by decide +kernel
theorem dX11_cold_159 : decode cX11_cold 159 = .ok (.aload_n 0, 1) := by decide +kernel
theorem dX11_cold_160 : decode cX11_cold 160 = .ok (.getfield 100, 3) := by decide +kernel
theorem dX11_cold_163 : decode cX11_cold 163 = .ok (.iload 6, 2) := by decide +kernel
theorem dX11_cold_165 : decode cX11_cold 165 = .ok (.iaload, 1) := by decide +kernel
theorem dX11_cold_166 : decode cX11_cold 166 = .ok (.if_icmp .le 8, 3) := by decide +kernel
theorem dX11_cold_169 : decode cX11_cold 169 = .ok (.iload 7, 2) := by decide +kernel
theorem dX11_cold_171 : decode cX11_cold 171 = .ok (.goto 5, 3) := by decide +kernel
theorem dX11_cold_174 : decode cX11_cold 174 = .ok (.iload 6, 2) := by decide +kernel
theorem dX11_cold_176 : decode cX11_cold 176 = .ok (.istore 6, 2) := by decide +kernel
theorem dX11_cold_178 : decode cX11_cold 178 = .ok (.iinc 7 1, 3) := by decide +kernel
theorem dX11_cold_181 : decode cX11_cold 181 = .ok (.goto (-106), 3) := by decide +kernel
theorem dX11_cold_184 : decode cX11_cold 184 = .ok (.iload_n 3, 1) := by decide +kernel
theorem dX11_cold_185 : decode cX11_cold 185 = .ok (.bipush 11, 2) := by decide +kernel
theorem dX11_cold_187 : decode cX11_cold 187 = .ok (.if_icmp .ge 8, 3) := by decide +kernel
theorem dX11_cold_190 : decode cX11_cold 190 = .ok (.iload 5, 2) := by decide +kernel
theorem dX11_cold_192 : decode cX11_cold 192 = .ok (.goto 21, 3) := by decide +kernel
theorem dX11_cold_195 : decode cX11_cold 195 = .ok (.iload_n 3, 1) := by decide +kernel
theorem dX11_cold_196 : decode cX11_cold 196 = .ok (.bipush 11, 2) := by decide +kernel
theorem dX11_cold_198 : decode cX11_cold 198 = .ok (.if_icmp .ne 8, 3) := by decide +kernel
theorem dX11_cold_201 : decode cX11_cold 201 = .ok (.iload 6, 2) := by decide +kernel
theorem dX11_cold_203 : decode cX11_cold 203 = .ok (.goto 10, 3) := by decide +kernel
theorem dX11_cold_206 : decode cX11_cold 206 = .ok (.aload_n 0, 1) := by decide +kernel
theorem dX11_cold_207 : decode cX11_cold 207 = .ok (.getfield 100, 3) := by decide +kernel
theorem dX11_cold_210 : decode cX11_cold 210 = .ok (.iload 6, 2) := by decide +kernel
theorem dX11_cold_212 : decode cX11_cold 212 = .ok (.iaload, 1) := by decide +kernel
theorem dX11_cold_213 : decode cX11_cold 213 = .ok (.ireturn, 1) := by decide +kernel
theorem dX11_weakOf_0 : decode cX11_weakOf 0 = .ok (.iconst 0, 1) := by decide +kernel
theorem dX11_weakOf_1 : decode cX11_weakOf 1 = .ok (.istore_n 2, 1) := by decide +kernel
theorem dX11_weakOf_2 : decode cX11_weakOf 2 = .ok (.aload_n 0, 1) := by decide +kernel
theorem dX11_weakOf_3 : decode cX11_weakOf 3 = .ok (.bipush (-4), 2) := by decide +kernel
theorem dX11_weakOf_5 : decode cX11_weakOf 5 = .ok (.putfield 282, 3) := by decide +kernel
theorem dX11_weakOf_8 : decode cX11_weakOf 8 = .ok (.iconst 0, 1) := by decide +kernel
theorem dX11_weakOf_9 : decode cX11_weakOf 9 = .ok (.istore_n 3, 1) := by decide +kernel
theorem dX11_weakOf_10 : decode cX11_weakOf 10 = .ok (.iload_n 3, 1) := by decide +kernel
theorem dX11_weakOf_11 : decode cX11_weakOf 11 = .ok (.iconst 1, 1) := by decide +kernel
theorem dX11_weakOf_12 : decode cX11_weakOf 12 = .ok (.aload_n 0, 1) := by decide +kernel
theorem dX11_weakOf_13 : decode cX11_weakOf 13 = .ok (.getfield 13, 3) := by decide +kernel
theorem dX11_weakOf_16 : decode cX11_weakOf 16 = .ok (.iconst 0, 1) := by decide +kernel
theorem dX11_weakOf_17 : decode cX11_weakOf 17 = .ok (.iaload, 1) := by decide +kernel
theorem dX11_weakOf_18 : decode cX11_weakOf 18 = .ok (.ishl, 1) := by decide +kernel
theorem dX11_weakOf_19 : decode cX11_weakOf 19 = .ok (.if_icmp .ge 46, 3) := by decide +kernel
theorem dX11_weakOf_22 : decode cX11_weakOf 22 = .ok (.iload_n 3, 1) := by decide +kernel
theorem dX11_weakOf_23 : decode cX11_weakOf 23 = .ok (.invokestatic 285, 3) := by decide +kernel
theorem dX11_weakOf_26 : decode cX11_weakOf 26 = .ok (.iload_n 1, 1) := by decide +kernel
theorem dX11_weakOf_27 : decode cX11_weakOf 27 = .ok (.if_icmp .ne 32, 3) := by decide +kernel
theorem dX11_weakOf_30 : decode cX11_weakOf 30 = .ok (.aload_n 0, 1) := by decide +kernel
theorem dX11_weakOf_31 : decode cX11_weakOf 31 = .ok (.iload_n 3, 1) := by decide +kernel
theorem dX11_weakOf_32 : decode cX11_weakOf 32 = .ok (.iconst 0, 1) := by decide +kernel
theorem dX11_weakOf_33 : decode cX11_weakOf 33 = .ok (.iconst 0, 1) := by decide +kernel
theorem dX11_weakOf_34 : decode cX11_weakOf 34 = .ok (.invokevirtual 235, 3) := by decide +kernel
theorem dX11_weakOf_37 : decode cX11_weakOf 37 = .ok (.ifCond .ne 22, 3) := by decide +kernel
theorem dX11_weakOf_40 : decode cX11_weakOf 40 = .ok (.aload_n 0, 1) := by decide +kernel
theorem dX11_weakOf_41 : decode cX11_weakOf 41 = .ok (.iload_n 2, 1) := by decide +kernel
theorem dX11_weakOf_42 : decode cX11_weakOf 42 = .ok (.ifCond .ne 7, 3) := by decide +kernel
theorem dX11_weakOf_45 : decode cX11_weakOf 45 = .ok (.iload_n 3, 1) := by decide +kernel
theorem dX11_weakOf_46 : decode cX11_weakOf 46 = .ok (.goto 7, 3) := by decide +kernel
theorem dX11_weakOf_49 : decode cX11_weakOf 49 = .ok (.aload_n 0, 1) := by decide +kernel
theorem dX11_weakOf_50 : decode cX11_weakOf 50 = .ok (.getfield 282, 3) := by decide +kernel
theorem dX11_weakOf_53 : decode cX11_weakOf 53 = .ok (.putfield 282, 3) := by decide +kernel
theorem dX11_weakOf_56 : decode cX11_weakOf 56 = .ok (.iinc 2 1, 3) := by decide +kernel
theorem dX11_weakOf_59 : decode cX11_weakOf 59 = .ok (.iinc 3 1, 3) := by decide +kernel
theorem dX11_weakOf_62 : decode cX11_weakOf 62 = .ok (.goto (-52), 3) := by decide +kernel
theorem dX11_weakOf_65 : decode cX11_weakOf 65 = .ok (.iload_n 2, 1) := by decide +kernel
theorem dX11_weakOf_66 : decode cX11_weakOf 66 = .ok (.ireturn, 1) := by decide +kernel
theorem dX11_weak_0 : decode cX11_weak 0 = .ok (.iload_n 1, 1) := by decide +kernel
theorem dX11_weak_1 : decode cX11_weak 1 = .ok (.i2l, 1) := by decide +kernel
theorem dX11_weak_2 : decode cX11_weak 2 = .ok (.lconst 1, 1) := by decide +kernel
theorem dX11_weak_3 : decode cX11_weak 3 = .ok (.ldc2_w 288, 3) := by decide +kernel
theorem dX11_weak_6 : decode cX11_weak 6 = .ok (.invokestatic 124, 3) := by decide +kernel
theorem dX11_weak_9 : decode cX11_weak 9 = .ok (.ifCond .eq 13, 3) := by decide +kernel
theorem dX11_weak_12 : decode cX11_weak 12 = .ok (.iload_n 2, 1) := by decide +kernel
theorem dX11_weak_13 : decode cX11_weak 13 = .ok (.i2l, 1) := by decide +kernel
theorem dX11_weak_14 : decode cX11_weak 14 = .ok (.lconst 0, 1) := by decide +kernel
theorem dX11_weak_15 : decode cX11_weak 15 = .ok (.lconst 1, 1) := by decide +kernel
theorem dX11_weak_16 : decode cX11_weak 16 = .ok (.invokestatic 124, 3) := by decide +kernel
theorem dX11_weak_19 : decode cX11_weak 19 = .ok (.ifCond .ne 5, 3) := by decide +kernel
theorem dX11_weak_22 : decode cX11_weak 22 = .ok (.iconst (-1), 1) := by decide +kernel
theorem dX11_weak_23 : decode cX11_weak 23 = .ok (.ireturn, 1) := by decide +kernel
theorem dX11_weak_24 : decode cX11_weak 24 = .ok (.aload_n 0, 1) := by decide +kernel
theorem dX11_weak_25 : decode cX11_weak 25 = .ok (.iload_n 1, 1) := by decide +kernel
theorem dX11_weak_26 : decode cX11_weak 26 = .ok (.invokevirtual 290, 3) := by decide +kernel
theorem dX11_weak_29 : decode cX11_weak 29 = .ok (.istore_n 3, 1) := by decide +kernel
theorem dX11_weak_30 : decode cX11_weak 30 = .ok (.iload_n 2, 1) := by decide +kernel
theorem dX11_weak_31 : decode cX11_weak 31 = .ok (.ifCond .ne 7, 3) := by decide +kernel
theorem dX11_weak_34 : decode cX11_weak 34 = .ok (.iload_n 3, 1) := by decide +kernel
theorem dX11_weak_35 : decode cX11_weak 35 = .ok (.goto 7, 3) := by decide +kernel
theorem dX11_weak_38 : decode cX11_weak 38 = .ok (.aload_n 0, 1) := by decide +kernel
theorem dX11_weak_39 : decode cX11_weak 39 = .ok (.getfield 282, 3) := by decide +kernel
theorem dX11_weak_42 : decode cX11_weak 42 = .ok (.ireturn, 1) := by decide +kernel
theorem dX11_isCover_0 : decode cX11_isCover 0 = .ok (.aload_n 0, 1) := by decide +kernel
theorem dX11_isCover_1 : decode cX11_isCover 1 = .ok (.getfield 19, 3) := by decide +kernel
theorem dX11_isCover_4 : decode cX11_isCover 4 = .ok (.iload_n 1, 1) := by decide +kernel
theorem dX11_isCover_5 : decode cX11_isCover 5 = .ok (.iaload, 1) := by decide +kernel
theorem dX11_isCover_6 : decode cX11_isCover 6 = .ok (.aload_n 0, 1) := by decide +kernel
theorem dX11_isCover_7 : decode cX11_isCover 7 = .ok (.getfield 28, 3) := by decide +kernel
theorem dX11_isCover_10 : decode cX11_isCover 10 = .ok (.iload_n 2, 1) := by decide +kernel
theorem dX11_isCover_11 : decode cX11_isCover 11 = .ok (.iaload, 1) := by decide +kernel
theorem dX11_isCover_12 : decode cX11_isCover 12 = .ok (.iand, 1) := by decide +kernel
theorem dX11_isCover_13 : decode cX11_isCover 13 = .ok (.aload_n 0, 1) := by decide +kernel
theorem dX11_isCover_14 : decode cX11_isCover 14 = .ok (.getfield 28, 3) := by decide +kernel
theorem dX11_isCover_17 : decode cX11_isCover 17 = .ok (.iload_n 2, 1) := by decide +kernel
theorem dX11_isCover_18 : decode cX11_isCover 18 = .ok (.iaload, 1) := by decide +kernel
theorem dX11_isCover_19 : decode cX11_isCover 19 = .ok (.if_icmp .ne 30, 3) := by decide +kernel
theorem dX11_isCover_22 : decode cX11_isCover 22 = .ok (.aload_n 0, 1) := by decide +kernel
theorem dX11_isCover_23 : decode cX11_isCover 23 = .ok (.getfield 52, 3) := by decide +kernel
theorem dX11_isCover_26 : decode cX11_isCover 26 = .ok (.iload_n 1, 1) := by decide +kernel
theorem dX11_isCover_27 : decode cX11_isCover 27 = .ok (.iaload, 1) := by decide +kernel
theorem dX11_isCover_28 : decode cX11_isCover 28 = .ok (.iload_n 2, 1) := by decide +kernel
theorem dX11_isCover_29 : decode cX11_isCover 29 = .ok (.invokestatic 183, 3) := by decide +kernel
theorem dX11_isCover_32 : decode cX11_isCover 32 = .ok (.ifCond .ne 17, 3) := by decide +kernel
theorem dX11_isCover_35 : decode cX11_isCover 35 = .ok (.aload_n 0, 1) := by decide +kernel
theorem dX11_isCover_36 : decode cX11_isCover 36 = .ok (.getfield 37, 3) := by decide +kernel
theorem dX11_isCover_39 : decode cX11_isCover 39 = .ok (.iload_n 2, 1) := by decide +kernel
theorem dX11_isCover_40 : decode cX11_isCover 40 = .ok (.iaload, 1) := by decide +kernel
theorem dX11_isCover_41 : decode cX11_isCover 41 = .ok (.iload_n 1, 1) := by decide +kernel
theorem dX11_isCover_42 : decode cX11_isCover 42 = .ok (.if_icmp .eq 7, 3) := by decide +kernel
theorem dX11_isCover_45 : decode cX11_isCover 45 = .ok (.iconst 1, 1) := by decide +kernel
theorem dX11_isCover_46 : decode cX11_isCover 46 = .ok (.goto 4, 3) := by decide +kernel
theorem dX11_isCover_49 : decode cX11_isCover 49 = .ok (.iconst 0, 1) := by decide +kernel
theorem dX11_isCover_50 : decode cX11_isCover 50 = .ok (.ireturn, 1) := by decide +kernel
theorem dX11_setCover_0 : decode cX11_setCover 0 = .ok (.aload_n 0, 1) := by decide +kernel
theorem dX11_setCover_1 : decode cX11_setCover 1 = .ok (.getfield 52, 3) := by decide +kernel
theorem dX11_setCover_4 : decode cX11_setCover 4 = .ok (.iload_n 1, 1) := by decide +kernel
theorem dX11_setCover_5 : decode cX11_setCover 5 = .ok (.iload_n 3, 1) := by decide +kernel
theorem dX11_setCover_6 : decode cX11_setCover 6 = .ok (.ifCond .eq 16, 3) := by decide +kernel
theorem dX11_setCover_9 : decode cX11_setCover 9 = .ok (.aload_n 0, 1) := by decide +kernel
theorem dX11_setCover_10 : decode cX11_setCover 10 = .ok (.getfield 52, 3) := by decide +kernel
theorem dX11_setCover_13 : decode cX11_setCover 13 = .ok (.iload_n 1, 1) := by decide +kernel
theorem dX11_setCover_14 : decode cX11_setCover 14 = .ok (.iaload, 1) := by decide +kernel
theorem dX11_setCover_15 : decode cX11_setCover 15 = .ok (.iconst 1, 1) := by decide +kernel
theorem dX11_setCover_16 : decode cX11_setCover 16 = .ok (.iload_n 2, 1) := by decide +kernel
theorem dX11_setCover_17 : decode cX11_setCover 17 = .ok (.ishl, 1) := by decide +kernel
theorem dX11_setCover_18 : decode cX11_setCover 18 = .ok (.ior, 1) := by decide +kernel
theorem dX11_setCover_19 : decode cX11_setCover 19 = .ok (.goto 15, 3) := by decide +kernel
theorem dX11_setCover_22 : decode cX11_setCover 22 = .ok (.aload_n 0, 1) := by decide +kernel
theorem dX11_setCover_23 : decode cX11_setCover 23 = .ok (.getfield 52, 3) := by decide +kernel
theorem dX11_setCover_26 : decode cX11_setCover 26 = .ok (.iload_n 1, 1) := by decide +kernel
theorem dX11_setCover_27 : decode cX11_setCover 27 = .ok (.iaload, 1) := by decide +kernel
theorem dX11_setCover_28 : decode cX11_setCover 28 = .ok (.iconst 1, 1) := by decide +kernel
theorem dX11_setCover_29 : decode cX11_setCover 29 = .ok (.iload_n 2, 1) := by decide +kernel
theorem dX11_setCover_30 : decode cX11_setCover 30 = .ok (.ishl, 1) := by decide +kernel
theorem dX11_setCover_31 : decode cX11_setCover 31 = .ok (.iconst (-1), 1) := by decide +kernel
theorem dX11_setCover_32 : decode cX11_setCover 32 = .ok (.ixor, 1) := by decide +kernel
theorem dX11_setCover_33 : decode cX11_setCover 33 = .ok (.iand, 1) := by decide +kernel
theorem dX11_setCover_34 : decode cX11_setCover 34 = .ok (.iastore, 1) := by decide +kernel
theorem dX11_setCover_35 : decode cX11_setCover 35 = .ok (.aload_n 0, 1) := by decide +kernel
theorem dX11_setCover_36 : decode cX11_setCover 36 = .ok (.iload_n 1, 1) := by decide +kernel
theorem dX11_setCover_37 : decode cX11_setCover 37 = .ok (.invokevirtual 186, 3) := by decide +kernel
theorem dX11_setCover_40 : decode cX11_setCover 40 = .ok (.return_, 1) := by decide +kernel
theorem dX11_engaged_0 : decode cX11_engaged 0 = .ok (.iload_n 1, 1) := by decide +kernel
theorem dX11_engaged_1 : decode cX11_engaged 1 = .ok (.i2l, 1) := by decide +kernel
theorem dX11_engaged_2 : decode cX11_engaged 2 = .ok (.lconst 1, 1) := by decide +kernel
theorem dX11_engaged_3 : decode cX11_engaged 3 = .ok (.ldc2_w 288, 3) := by decide +kernel
theorem dX11_engaged_6 : decode cX11_engaged 6 = .ok (.invokestatic 124, 3) := by decide +kernel
theorem dX11_engaged_9 : decode cX11_engaged 9 = .ok (.ifCond .eq 13, 3) := by decide +kernel
theorem dX11_engaged_12 : decode cX11_engaged 12 = .ok (.iload_n 2, 1) := by decide +kernel
theorem dX11_engaged_13 : decode cX11_engaged 13 = .ok (.i2l, 1) := by decide +kernel
theorem dX11_engaged_14 : decode cX11_engaged 14 = .ok (.lconst 0, 1) := by decide +kernel
theorem dX11_engaged_15 : decode cX11_engaged 15 = .ok (.lconst 1, 1) := by decide +kernel
theorem dX11_engaged_16 : decode cX11_engaged 16 = .ok (.invokestatic 124, 3) := by decide +kernel
theorem dX11_engaged_19 : decode cX11_engaged 19 = .ok (.ifCond .ne 5, 3) := by decide +kernel
theorem dX11_engaged_22 : decode cX11_engaged 22 = .ok (.iconst (-1), 1) := by decide +kernel
theorem dX11_engaged_23 : decode cX11_engaged 23 = .ok (.ireturn, 1) := by decide +kernel
theorem dX11_engaged_24 : decode cX11_engaged 24 = .ok (.bipush (-4), 2) := by decide +kernel
theorem dX11_engaged_26 : decode cX11_engaged 26 = .ok (.istore_n 3, 1) := by decide +kernel
theorem dX11_engaged_27 : decode cX11_engaged 27 = .ok (.iconst 0, 1) := by decide +kernel
theorem dX11_engaged_28 : decode cX11_engaged 28 = .ok (.istore 4, 2) := by decide +kernel
theorem dX11_engaged_30 : decode cX11_engaged 30 = .ok (.iconst 0, 1) := by decide +kernel
theorem dX11_engaged_31 : decode cX11_engaged 31 = .ok (.istore 5, 2) := by decide +kernel
theorem dX11_engaged_33 : decode cX11_engaged 33 = .ok (.iload 5, 2) := by decide +kernel
theorem dX11_engaged_35 : decode cX11_engaged 35 = .ok (.aload_n 0, 1) := by decide +kernel
theorem dX11_engaged_36 : decode cX11_engaged 36 = .ok (.getfield 13, 3) := by decide +kernel
theorem dX11_engaged_39 : decode cX11_engaged 39 = .ok (.iconst 0, 1) := by decide +kernel
theorem dX11_engaged_40 : decode cX11_engaged 40 = .ok (.iaload, 1) := by decide +kernel
theorem dX11_engaged_41 : decode cX11_engaged 41 = .ok (.if_icmp .ge 89, 3) := by decide +kernel
theorem dX11_engaged_44 : decode cX11_engaged 44 = .ok (.iconst 0, 1) := by decide +kernel
theorem dX11_engaged_45 : decode cX11_engaged 45 = .ok (.istore 6, 2) := by decide +kernel
theorem dX11_engaged_47 : decode cX11_engaged 47 = .ok (.iload 6, 2) := by decide +kernel
theorem dX11_engaged_49 : decode cX11_engaged 49 = .ok (.aload_n 0, 1) := by decide +kernel
theorem dX11_engaged_50 : decode cX11_engaged 50 = .ok (.getfield 22, 3) := by decide +kernel
theorem dX11_engaged_53 : decode cX11_engaged 53 = .ok (.iconst 0, 1) := by decide +kernel
theorem dX11_engaged_54 : decode cX11_engaged 54 = .ok (.iaload, 1) := by decide +kernel
theorem dX11_engaged_55 : decode cX11_engaged 55 = .ok (.if_icmp .ge 69, 3) := by decide +kernel
theorem dX11_engaged_58 : decode cX11_engaged 58 = .ok (.aload_n 0, 1) := by decide +kernel
theorem dX11_engaged_59 : decode cX11_engaged 59 = .ok (.iload 5, 2) := by decide +kernel
theorem dX11_engaged_61 : decode cX11_engaged 61 = .ok (.iload 6, 2) := by decide +kernel
theorem dX11_engaged_63 : decode cX11_engaged 63 = .ok (.invokevirtual 293, 3) := by decide +kernel
theorem dX11_engaged_66 : decode cX11_engaged 66 = .ok (.ifCond .eq 52, 3) := by decide +kernel
theorem dX11_engaged_69 : decode cX11_engaged 69 = .ok (.aload_n 0, 1) := by decide +kernel
theorem dX11_engaged_70 : decode cX11_engaged 70 = .ok (.iload 5, 2) := by decide +kernel
theorem dX11_engaged_72 : decode cX11_engaged 72 = .ok (.iload 6, 2) := by decide +kernel
theorem dX11_engaged_74 : decode cX11_engaged 74 = .ok (.iconst 1, 1) := by decide +kernel
theorem dX11_engaged_75 : decode cX11_engaged 75 = .ok (.invokevirtual 296, 3) := by decide +kernel
theorem dX11_engaged_78 : decode cX11_engaged 78 = .ok (.aload_n 0, 1) := by decide +kernel
theorem dX11_engaged_79 : decode cX11_engaged 79 = .ok (.iload_n 1, 1) := by decide +kernel
theorem dX11_engaged_80 : decode cX11_engaged 80 = .ok (.invokevirtual 290, 3) := by decide +kernel
theorem dX11_engaged_83 : decode cX11_engaged 83 = .ok (.istore 7, 2) := by decide +kernel
theorem dX11_engaged_85 : decode cX11_engaged 85 = .ok (.aload_n 0, 1) := by decide +kernel
theorem dX11_engaged_86 : decode cX11_engaged 86 = .ok (.iload 5, 2) := by decide +kernel
theorem dX11_engaged_88 : decode cX11_engaged 88 = .ok (.iload 6, 2) := by decide +kernel
theorem dX11_engaged_90 : decode cX11_engaged 90 = .ok (.iconst 0, 1) := by decide +kernel
theorem dX11_engaged_91 : decode cX11_engaged 91 = .ok (.invokevirtual 296, 3) := by decide +kernel
theorem dX11_engaged_94 : decode cX11_engaged 94 = .ok (.iload_n 3, 1) := by decide +kernel
theorem dX11_engaged_95 : decode cX11_engaged 95 = .ok (.ifCond .lt 10, 3) := by decide +kernel
theorem dX11_engaged_98 : decode cX11_engaged 98 = .ok (.iload 7, 2) := by decide +kernel
theorem dX11_engaged_100 : decode cX11_engaged 100 = .ok (.iload 4, 2) := by decide +kernel
theorem dX11_engaged_102 : decode cX11_engaged 102 = .ok (.if_icmp .ge 16, 3) := by decide +kernel
theorem dX11_engaged_105 : decode cX11_engaged 105 = .ok (.bipush 10, 2) := by decide +kernel
theorem dX11_engaged_107 : decode cX11_engaged 107 = .ok (.iload 5, 2) := by decide +kernel
theorem dX11_engaged_109 : decode cX11_engaged 109 = .ok (.imul, 1) := by decide +kernel
theorem dX11_engaged_110 : decode cX11_engaged 110 = .ok (.iload 6, 2) := by decide +kernel
theorem dX11_engaged_112 : decode cX11_engaged 112 = .ok (.iadd, 1) := by decide +kernel
theorem dX11_engaged_113 : decode cX11_engaged 113 = .ok (.istore_n 3, 1) := by decide +kernel
theorem dX11_engaged_114 : decode cX11_engaged 114 = .ok (.iload 7, 2) := by decide +kernel
theorem dX11_engaged_116 : decode cX11_engaged 116 = .ok (.istore 4, 2) := by decide +kernel
theorem dX11_engaged_118 : decode cX11_engaged 118 = .ok (.iinc 6 1, 3) := by decide +kernel
theorem dX11_engaged_121 : decode cX11_engaged 121 = .ok (.goto (-74), 3) := by decide +kernel
theorem dX11_engaged_124 : decode cX11_engaged 124 = .ok (.iinc 5 1, 3) := by decide +kernel
theorem dX11_engaged_127 : decode cX11_engaged 127 = .ok (.goto (-94), 3) := by decide +kernel
theorem dX11_engaged_130 : decode cX11_engaged 130 = .ok (.iload_n 3, 1) := by decide +kernel
theorem dX11_engaged_131 : decode cX11_engaged 131 = .ok (.ifCond .ge 8, 3) := by decide +kernel
theorem dX11_engaged_134 : decode cX11_engaged 134 = .ok (.bipush (-4), 2) := by decide +kernel
theorem dX11_engaged_136 : decode cX11_engaged 136 = .ok (.goto 13, 3) := by decide +kernel
theorem dX11_engaged_139 : decode cX11_engaged 139 = .ok (.iload_n 2, 1) := by decide +kernel
theorem dX11_engaged_140 : decode cX11_engaged 140 = .ok (.ifCond .ne 7, 3) := by decide +kernel
theorem dX11_engaged_143 : decode cX11_engaged 143 = .ok (.iload_n 3, 1) := by decide +kernel
theorem dX11_engaged_144 : decode cX11_engaged 144 = .ok (.goto 5, 3) := by decide +kernel
theorem dX11_engaged_147 : decode cX11_engaged 147 = .ok (.iload 4, 2) := by decide +kernel
theorem dX11_engaged_149 : decode cX11_engaged 149 = .ok (.ireturn, 1) := by decide +kernel
theorem dX11_noneWeak_0 : decode cX11_noneWeak 0 = .ok (.iconst 1, 1) := by decide +kernel
theorem dX11_noneWeak_1 : decode cX11_noneWeak 1 = .ok (.istore_n 1, 1) := by decide +kernel
theorem dX11_noneWeak_2 : decode cX11_noneWeak 2 = .ok (.iconst 0, 1) := by decide +kernel
theorem dX11_noneWeak_3 : decode cX11_noneWeak 3 = .ok (.istore_n 2, 1) := by decide +kernel
theorem dX11_noneWeak_4 : decode cX11_noneWeak 4 = .ok (.iload_n 2, 1) := by decide +kernel
theorem dX11_noneWeak_5 : decode cX11_noneWeak 5 = .ok (.iconst 1, 1) := by decide +kernel
theorem dX11_noneWeak_6 : decode cX11_noneWeak 6 = .ok (.aload_n 0, 1) := by decide +kernel
theorem dX11_noneWeak_7 : decode cX11_noneWeak 7 = .ok (.getfield 13, 3) := by decide +kernel
theorem dX11_noneWeak_10 : decode cX11_noneWeak 10 = .ok (.iconst 0, 1) := by decide +kernel
theorem dX11_noneWeak_11 : decode cX11_noneWeak 11 = .ok (.iaload, 1) := by decide +kernel
theorem dX11_noneWeak_12 : decode cX11_noneWeak 12 = .ok (.ishl, 1) := by decide +kernel
theorem dX11_noneWeak_13 : decode cX11_noneWeak 13 = .ok (.if_icmp .ge 37, 3) := by decide +kernel
theorem dX11_noneWeak_16 : decode cX11_noneWeak 16 = .ok (.iload_n 1, 1) := by decide +kernel
theorem dX11_noneWeak_17 : decode cX11_noneWeak 17 = .ok (.ifCond .eq 33, 3) := by decide +kernel
theorem dX11_noneWeak_20 : decode cX11_noneWeak 20 = .ok (.iload_n 2, 1) := by decide +kernel
theorem dX11_noneWeak_21 : decode cX11_noneWeak 21 = .ok (.invokestatic 285, 3) := by decide +kernel
theorem dX11_noneWeak_24 : decode cX11_noneWeak 24 = .ok (.iconst 2, 1) := by decide +kernel
theorem dX11_noneWeak_25 : decode cX11_noneWeak 25 = .ok (.if_icmp .ne 13, 3) := by decide +kernel
theorem dX11_noneWeak_28 : decode cX11_noneWeak 28 = .ok (.aload_n 0, 1) := by decide +kernel
theorem dX11_noneWeak_29 : decode cX11_noneWeak 29 = .ok (.iload_n 2, 1) := by decide +kernel
theorem dX11_noneWeak_30 : decode cX11_noneWeak 30 = .ok (.iconst 0, 1) := by decide +kernel
theorem dX11_noneWeak_31 : decode cX11_noneWeak 31 = .ok (.iconst 0, 1) := by decide +kernel
theorem dX11_noneWeak_32 : decode cX11_noneWeak 32 = .ok (.invokevirtual 235, 3) := by decide +kernel
theorem dX11_noneWeak_35 : decode cX11_noneWeak 35 = .ok (.ifCond .eq 7, 3) := by decide +kernel
theorem dX11_noneWeak_38 : decode cX11_noneWeak 38 = .ok (.iconst 1, 1) := by decide +kernel
theorem dX11_noneWeak_39 : decode cX11_noneWeak 39 = .ok (.goto 4, 3) := by decide +kernel
theorem dX11_noneWeak_42 : decode cX11_noneWeak 42 = .ok (.iconst 0, 1) := by decide +kernel
theorem dX11_noneWeak_43 : decode cX11_noneWeak 43 = .ok (.istore_n 1, 1) := by decide +kernel
theorem dX11_noneWeak_44 : decode cX11_noneWeak 44 = .ok (.iinc 2 1, 3) := by decide +kernel
theorem dX11_noneWeak_47 : decode cX11_noneWeak 47 = .ok (.goto (-43), 3) := by decide +kernel
theorem dX11_noneWeak_50 : decode cX11_noneWeak 50 = .ok (.iload_n 1, 1) := by decide +kernel
theorem dX11_noneWeak_51 : decode cX11_noneWeak 51 = .ok (.ireturn, 1) := by decide +kernel
theorem dX11_fewest_0 : decode cX11_fewest 0 = .ok (.aload_n 0, 1) := by decide +kernel
theorem dX11_fewest_1 : decode cX11_fewest 1 = .ok (.invokevirtual 300, 3) := by decide +kernel
theorem dX11_fewest_4 : decode cX11_fewest 4 = .ok (.ifCond .eq 5, 3) := by decide +kernel
theorem dX11_fewest_7 : decode cX11_fewest 7 = .ok (.iconst 0, 1) := by decide +kernel
theorem dX11_fewest_8 : decode cX11_fewest 8 = .ok (.ireturn, 1) := by decide +kernel
theorem dX11_fewest_9 : decode cX11_fewest 9 = .ok (.iconst 0, 1) := by decide +kernel
theorem dX11_fewest_10 : decode cX11_fewest 10 = .ok (.istore_n 1, 1) := by decide +kernel
theorem dX11_fewest_11 : decode cX11_fewest 11 = .ok (.iconst 0, 1) := by decide +kernel
theorem dX11_fewest_12 : decode cX11_fewest 12 = .ok (.istore_n 2, 1) := by decide +kernel
theorem dX11_fewest_13 : decode cX11_fewest 13 = .ok (.iconst 0, 1) := by decide +kernel
theorem dX11_fewest_14 : decode cX11_fewest 14 = .ok (.istore_n 3, 1) := by decide +kernel
theorem dX11_fewest_15 : decode cX11_fewest 15 = .ok (.iload_n 3, 1) := by decide +kernel
theorem dX11_fewest_16 : decode cX11_fewest 16 = .ok (.bipush 80, 2) := by decide +kernel
theorem dX11_fewest_18 : decode cX11_fewest 18 = .ok (.if_icmp .ge 183, 3) := by decide +kernel
theorem dX11_fewest_21 : decode cX11_fewest 21 = .ok (.iload_n 1, 1) := by decide +kernel
theorem dX11_fewest_22 : decode cX11_fewest 22 = .ok (.ifCond .ne 179, 3) := by decide +kernel
theorem dX11_fewest_25 : decode cX11_fewest 25 = .ok (.aload_n 0, 1) := by decide +kernel
theorem dX11_fewest_26 : decode cX11_fewest 26 = .ok (.iload_n 3, 1) := by decide +kernel
theorem dX11_fewest_27 : decode cX11_fewest 27 = .ok (.bipush 8, 2) := by decide +kernel
theorem dX11_fewest_29 : decode cX11_fewest 29 = .ok (.idiv, 1) := by decide +kernel
theorem dX11_fewest_30 : decode cX11_fewest 30 = .ok (.invokevirtual 195, 3) := by decide +kernel
theorem dX11_fewest_33 : decode cX11_fewest 33 = .ok (.ifCond .eq 162, 3) := by decide +kernel
theorem dX11_fewest_36 : decode cX11_fewest 36 = .ok (.aload_n 0, 1) := by decide +kernel
theorem dX11_fewest_37 : decode cX11_fewest 37 = .ok (.iload_n 3, 1) := by decide +kernel
theorem dX11_fewest_38 : decode cX11_fewest 38 = .ok (.bipush 8, 2) := by decide +kernel
theorem dX11_fewest_40 : decode cX11_fewest 40 = .ok (.irem, 1) := by decide +kernel
theorem dX11_fewest_41 : decode cX11_fewest 41 = .ok (.invokevirtual 200, 3) := by decide +kernel
theorem dX11_fewest_44 : decode cX11_fewest 44 = .ok (.ifCond .eq 151, 3) := by decide +kernel
theorem dX11_fewest_47 : decode cX11_fewest 47 = .ok (.aload_n 0, 1) := by decide +kernel
theorem dX11_fewest_48 : decode cX11_fewest 48 = .ok (.iload_n 3, 1) := by decide +kernel
theorem dX11_fewest_49 : decode cX11_fewest 49 = .ok (.bipush 8, 2) := by decide +kernel
theorem dX11_fewest_51 : decode cX11_fewest 51 = .ok (.idiv, 1) := by decide +kernel
theorem dX11_fewest_52 : decode cX11_fewest 52 = .ok (.iload_n 3, 1) := by decide +kernel
theorem dX11_fewest_53 : decode cX11_fewest 53 = .ok (.bipush 8, 2) := by decide +kernel
theorem dX11_fewest_55 : decode cX11_fewest 55 = .ok (.irem, 1) := by decide +kernel
theorem dX11_fewest_56 : decode cX11_fewest 56 = .ok (.invokevirtual 293, 3) := by decide +kernel
theorem dX11_fewest_59 : decode cX11_fewest 59 = .ok (.ifCond .eq 136, 3) := by decide +kernel
theorem dX11_fewest_62 : decode cX11_fewest 62 = .ok (.aload_n 0, 1) := by decide +kernel
theorem dX11_fewest_63 : decode cX11_fewest 63 = .ok (.iload_n 3, 1) := by decide +kernel
theorem dX11_fewest_64 : decode cX11_fewest 64 = .ok (.bipush 8, 2) := by decide +kernel
theorem dX11_fewest_66 : decode cX11_fewest 66 = .ok (.idiv, 1) := by decide +kernel
theorem dX11_fewest_67 : decode cX11_fewest 67 = .ok (.iload_n 3, 1) := by decide +kernel
theorem dX11_fewest_68 : decode cX11_fewest 68 = .ok (.bipush 8, 2) := by decide +kernel
theorem dX11_fewest_70 : decode cX11_fewest 70 = .ok (.irem, 1) := by decide +kernel
theorem dX11_fewest_71 : decode cX11_fewest 71 = .ok (.iconst 1, 1) := by decide +kernel
theorem dX11_fewest_72 : decode cX11_fewest 72 = .ok (.invokevirtual 296, 3) := by decide +kernel
theorem dX11_fewest_75 : decode cX11_fewest 75 = .ok (.aload_n 0, 1) := by decide +kernel
theorem dX11_fewest_76 : decode cX11_fewest 76 = .ok (.invokevirtual 300, 3) := by decide +kernel
theorem dX11_fewest_79 : decode cX11_fewest 79 = .ok (.istore_n 1, 1) := by decide +kernel
theorem dX11_fewest_80 : decode cX11_fewest 80 = .ok (.iload_n 3, 1) := by decide +kernel
theorem dX11_fewest_81 : decode cX11_fewest 81 = .ok (.iconst 1, 1) := by decide +kernel
theorem dX11_fewest_82 : decode cX11_fewest 82 = .ok (.iadd, 1) := by decide +kernel
theorem dX11_fewest_83 : decode cX11_fewest 83 = .ok (.istore 4, 2) := by decide +kernel
theorem dX11_fewest_85 : decode cX11_fewest 85 = .ok (.iload 4, 2) := by decide +kernel
theorem dX11_fewest_87 : decode cX11_fewest 87 = .ok (.bipush 80, 2) := by decide +kernel
theorem dX11_fewest_89 : decode cX11_fewest 89 = .ok (.if_icmp .ge 93, 3) := by decide +kernel
theorem dX11_fewest_92 : decode cX11_fewest 92 = .ok (.iload_n 1, 1) := by decide +kernel
theorem dX11_fewest_93 : decode cX11_fewest 93 = .ok (.ifCond .ne 89, 3) := by decide +kernel
theorem dX11_fewest_96 : decode cX11_fewest 96 = .ok (.iload_n 2, 1) := by decide +kernel
theorem dX11_fewest_97 : decode cX11_fewest 97 = .ok (.ifCond .ne 85, 3) := by decide +kernel
theorem dX11_fewest_100 : decode cX11_fewest 100 = .ok (.aload_n 0, 1) := by decide +kernel
theorem dX11_fewest_101 : decode cX11_fewest 101 = .ok (.iload 4, 2) := by decide +kernel
theorem dX11_fewest_103 : decode cX11_fewest 103 = .ok (.bipush 8, 2) := by decide +kernel
theorem dX11_fewest_105 : decode cX11_fewest 105 = .ok (.idiv, 1) := by decide +kernel
theorem dX11_fewest_106 : decode cX11_fewest 106 = .ok (.invokevirtual 195, 3) := by decide +kernel
theorem dX11_fewest_109 : decode cX11_fewest 109 = .ok (.ifCond .eq 67, 3) := by decide +kernel
theorem dX11_fewest_112 : decode cX11_fewest 112 = .ok (.aload_n 0, 1) := by decide +kernel
theorem dX11_fewest_113 : decode cX11_fewest 113 = .ok (.iload 4, 2) := by decide +kernel
theorem dX11_fewest_115 : decode cX11_fewest 115 = .ok (.bipush 8, 2) := by decide +kernel
theorem dX11_fewest_117 : decode cX11_fewest 117 = .ok (.irem, 1) := by decide +kernel
theorem dX11_fewest_118 : decode cX11_fewest 118 = .ok (.invokevirtual 200, 3) := by decide +kernel
theorem dX11_fewest_121 : decode cX11_fewest 121 = .ok (.ifCond .eq 55, 3) := by decide +kernel
theorem dX11_fewest_124 : decode cX11_fewest 124 = .ok (.aload_n 0, 1) := by decide +kernel
theorem dX11_fewest_125 : decode cX11_fewest 125 = .ok (.iload 4, 2) := by decide +kernel
theorem dX11_fewest_127 : decode cX11_fewest 127 = .ok (.bipush 8, 2) := by decide +kernel
theorem dX11_fewest_129 : decode cX11_fewest 129 = .ok (.idiv, 1) := by decide +kernel
theorem dX11_fewest_130 : decode cX11_fewest 130 = .ok (.iload 4, 2) := by decide +kernel
theorem dX11_fewest_132 : decode cX11_fewest 132 = .ok (.bipush 8, 2) := by decide +kernel
theorem dX11_fewest_134 : decode cX11_fewest 134 = .ok (.irem, 1) := by decide +kernel
theorem dX11_fewest_135 : decode cX11_fewest 135 = .ok (.invokevirtual 293, 3) := by decide +kernel
theorem dX11_fewest_138 : decode cX11_fewest 138 = .ok (.ifCond .eq 38, 3) := by decide +kernel
theorem dX11_fewest_141 : decode cX11_fewest 141 = .ok (.aload_n 0, 1) := by decide +kernel
theorem dX11_fewest_142 : decode cX11_fewest 142 = .ok (.iload 4, 2) := by decide +kernel
theorem dX11_fewest_144 : decode cX11_fewest 144 = .ok (.bipush 8, 2) := by decide +kernel
theorem dX11_fewest_146 : decode cX11_fewest 146 = .ok (.idiv, 1) := by decide +kernel
theorem dX11_fewest_147 : decode cX11_fewest 147 = .ok (.iload 4, 2) := by decide +kernel
theorem dX11_fewest_149 : decode cX11_fewest 149 = .ok (.bipush 8, 2) := by decide +kernel
theorem dX11_fewest_151 : decode cX11_fewest 151 = .ok (.irem, 1) := by decide +kernel
theorem dX11_fewest_152 : decode cX11_fewest 152 = .ok (.iconst 1, 1) := by decide +kernel
theorem dX11_fewest_153 : decode cX11_fewest 153 = .ok (.invokevirtual 296, 3) := by decide +kernel
theorem dX11_fewest_156 : decode cX11_fewest 156 = .ok (.aload_n 0, 1) := by decide +kernel
theorem dX11_fewest_157 : decode cX11_fewest 157 = .ok (.invokevirtual 300, 3) := by decide +kernel
theorem dX11_fewest_160 : decode cX11_fewest 160 = .ok (.istore_n 2, 1) := by decide +kernel
theorem dX11_fewest_161 : decode cX11_fewest 161 = .ok (.aload_n 0, 1) := by decide +kernel
theorem dX11_fewest_162 : decode cX11_fewest 162 = .ok (.iload 4, 2) := by decide +kernel
theorem dX11_fewest_164 : decode cX11_fewest 164 = .ok (.bipush 8, 2) := by decide +kernel
theorem dX11_fewest_166 : decode cX11_fewest 166 = .ok (.idiv, 1) := by decide +kernel
theorem dX11_fewest_167 : decode cX11_fewest 167 = .ok (.iload 4, 2) := by decide +kernel
theorem dX11_fewest_169 : decode cX11_fewest 169 = .ok (.bipush 8, 2) := by decide +kernel
theorem dX11_fewest_171 : decode cX11_fewest 171 = .ok (.irem, 1) := by decide +kernel
theorem dX11_fewest_172 : decode cX11_fewest 172 = .ok (.iconst 0, 1) := by decide +kernel
theorem dX11_fewest_173 : decode cX11_fewest 173 = .ok (.invokevirtual 296, 3) := by decide +kernel
theorem dX11_fewest_176 : decode cX11_fewest 176 = .ok (.iinc 4 1, 3) := by decide +kernel
theorem dX11_fewest_179 : decode cX11_fewest 179 = .ok (.goto (-94), 3) := by decide +kernel
theorem dX11_fewest_182 : decode cX11_fewest 182 = .ok (.aload_n 0, 1) := by decide +kernel
theorem dX11_fewest_183 : decode cX11_fewest 183 = .ok (.iload_n 3, 1) := by decide +kernel
theorem dX11_fewest_184 : decode cX11_fewest 184 = .ok (.bipush 8, 2) := by decide +kernel
theorem dX11_fewest_186 : decode cX11_fewest 186 = .ok (.idiv, 1) := by decide +kernel
theorem dX11_fewest_187 : decode cX11_fewest 187 = .ok (.iload_n 3, 1) := by decide +kernel
theorem dX11_fewest_188 : decode cX11_fewest 188 = .ok (.bipush 8, 2) := by decide +kernel
theorem dX11_fewest_190 : decode cX11_fewest 190 = .ok (.irem, 1) := by decide +kernel
theorem dX11_fewest_191 : decode cX11_fewest 191 = .ok (.iconst 0, 1) := by decide +kernel
theorem dX11_fewest_192 : decode cX11_fewest 192 = .ok (.invokevirtual 296, 3) := by decide +kernel
theorem dX11_fewest_195 : decode cX11_fewest 195 = .ok (.iinc 3 1, 3) := by decide +kernel
theorem dX11_fewest_198 : decode cX11_fewest 198 = .ok (.goto (-183), 3) := by decide +kernel
theorem dX11_fewest_201 : decode cX11_fewest 201 = .ok (.iload_n 1, 1) := by decide +kernel
theorem dX11_fewest_202 : decode cX11_fewest 202 = .ok (.ifCond .eq 7, 3) := by decide +kernel
theorem dX11_fewest_205 : decode cX11_fewest 205 = .ok (.iconst 1, 1) := by decide +kernel
theorem dX11_fewest_206 : decode cX11_fewest 206 = .ok (.goto 13, 3) := by decide +kernel
theorem dX11_fewest_209 : decode cX11_fewest 209 = .ok (.iload_n 2, 1) := by decide +kernel
theorem dX11_fewest_210 : decode cX11_fewest 210 = .ok (.ifCond .eq 7, 3) := by decide +kernel
theorem dX11_fewest_213 : decode cX11_fewest 213 = .ok (.iconst 2, 1) := by decide +kernel
theorem dX11_fewest_214 : decode cX11_fewest 214 = .ok (.goto 5, 3) := by decide +kernel
theorem dX11_fewest_217 : decode cX11_fewest 217 = .ok (.bipush (-4), 2) := by decide +kernel
theorem dX11_fewest_219 : decode cX11_fewest 219 = .ok (.ireturn, 1) := by decide +kernel
theorem dX11_play_0 : decode cX11_play 0 = .ok (.aload_n 0, 1) := by decide +kernel
theorem dX11_play_1 : decode cX11_play 1 = .ok (.iload_n 1, 1) := by decide +kernel
theorem dX11_play_2 : decode cX11_play 2 = .ok (.iconst 0, 1) := by decide +kernel
theorem dX11_play_3 : decode cX11_play 3 = .ok (.iconst 1, 1) := by decide +kernel
theorem dX11_play_4 : decode cX11_play 4 = .ok (.invokevirtual 235, 3) := by decide +kernel
theorem dX11_play_7 : decode cX11_play 7 = .ok (.ifCond .ne 6, 3) := by decide +kernel
theorem dX11_play_10 : decode cX11_play 10 = .ok (.bipush (-4), 2) := by decide +kernel
theorem dX11_play_12 : decode cX11_play 12 = .ok (.ireturn, 1) := by decide +kernel
theorem dX11_play_13 : decode cX11_play 13 = .ok (.iconst 0, 1) := by decide +kernel
theorem dX11_play_14 : decode cX11_play 14 = .ok (.istore_n 2, 1) := by decide +kernel
theorem dX11_play_15 : decode cX11_play 15 = .ok (.iload_n 2, 1) := by decide +kernel
theorem dX11_play_16 : decode cX11_play 16 = .ok (.aload_n 0, 1) := by decide +kernel
theorem dX11_play_17 : decode cX11_play 17 = .ok (.getfield 13, 3) := by decide +kernel
theorem dX11_play_20 : decode cX11_play 20 = .ok (.iconst 0, 1) := by decide +kernel
theorem dX11_play_21 : decode cX11_play 21 = .ok (.iaload, 1) := by decide +kernel
theorem dX11_play_22 : decode cX11_play 22 = .ok (.if_icmp .ge 128, 3) := by decide +kernel
theorem dX11_play_25 : decode cX11_play 25 = .ok (.iconst 0, 1) := by decide +kernel
theorem dX11_play_26 : decode cX11_play 26 = .ok (.istore_n 3, 1) := by decide +kernel
theorem dX11_play_27 : decode cX11_play 27 = .ok (.iconst 0, 1) := by decide +kernel
theorem dX11_play_28 : decode cX11_play 28 = .ok (.istore 4, 2) := by decide +kernel
theorem dX11_play_30 : decode cX11_play 30 = .ok (.iconst 0, 1) := by decide +kernel
theorem dX11_play_31 : decode cX11_play 31 = .ok (.istore 5, 2) := by decide +kernel
theorem dX11_play_33 : decode cX11_play 33 = .ok (.iload 5, 2) := by decide +kernel
theorem dX11_play_35 : decode cX11_play 35 = .ok (.aload_n 0, 1) := by decide +kernel
theorem dX11_play_36 : decode cX11_play 36 = .ok (.getfield 22, 3) := by decide +kernel
theorem dX11_play_39 : decode cX11_play 39 = .ok (.iconst 0, 1) := by decide +kernel
theorem dX11_play_40 : decode cX11_play 40 = .ok (.iaload, 1) := by decide +kernel
theorem dX11_play_41 : decode cX11_play 41 = .ok (.if_icmp .ge 67, 3) := by decide +kernel
theorem dX11_play_44 : decode cX11_play 44 = .ok (.aload_n 0, 1) := by decide +kernel
theorem dX11_play_45 : decode cX11_play 45 = .ok (.getfield 85, 3) := by decide +kernel
theorem dX11_play_48 : decode cX11_play 48 = .ok (.iload 5, 2) := by decide +kernel
theorem dX11_play_50 : decode cX11_play 50 = .ok (.iaload, 1) := by decide +kernel
theorem dX11_play_51 : decode cX11_play 51 = .ok (.iload_n 2, 1) := by decide +kernel
theorem dX11_play_52 : decode cX11_play 52 = .ok (.if_icmp .ne 50, 3) := by decide +kernel
theorem dX11_play_55 : decode cX11_play 55 = .ok (.iconst 1, 1) := by decide +kernel
theorem dX11_play_56 : decode cX11_play 56 = .ok (.istore_n 3, 1) := by decide +kernel
theorem dX11_play_57 : decode cX11_play 57 = .ok (.iload 4, 2) := by decide +kernel
theorem dX11_play_59 : decode cX11_play 59 = .ok (.aload_n 0, 1) := by decide +kernel
theorem dX11_play_60 : decode cX11_play 60 = .ok (.getfield 37, 3) := by decide +kernel
theorem dX11_play_63 : decode cX11_play 63 = .ok (.iload 5, 2) := by decide +kernel
theorem dX11_play_65 : decode cX11_play 65 = .ok (.iaload, 1) := by decide +kernel
theorem dX11_play_66 : decode cX11_play 66 = .ok (.iload_n 2, 1) := by decide +kernel
theorem dX11_play_67 : decode cX11_play 67 = .ok (.if_icmp .ne 7, 3) := by decide +kernel
theorem dX11_play_70 : decode cX11_play 70 = .ok (.iconst 0, 1) := by decide +kernel
theorem dX11_play_71 : decode cX11_play 71 = .ok (.goto 10, 3) := by decide +kernel
theorem dX11_play_74 : decode cX11_play 74 = .ok (.aload_n 0, 1) := by decide +kernel
theorem dX11_play_75 : decode cX11_play 75 = .ok (.getfield 31, 3) := by decide +kernel
theorem dX11_play_78 : decode cX11_play 78 = .ok (.iload 5, 2) := by decide +kernel
theorem dX11_play_80 : decode cX11_play 80 = .ok (.iaload, 1) := by decide +kernel
theorem dX11_play_81 : decode cX11_play 81 = .ok (.iadd, 1) := by decide +kernel
theorem dX11_play_82 : decode cX11_play 82 = .ok (.istore 4, 2) := by decide +kernel
theorem dX11_play_84 : decode cX11_play 84 = .ok (.aload_n 0, 1) := by decide +kernel
theorem dX11_play_85 : decode cX11_play 85 = .ok (.getfield 61, 3) := by decide +kernel
theorem dX11_play_88 : decode cX11_play 88 = .ok (.bipush 8, 2) := by decide +kernel
theorem dX11_play_90 : decode cX11_play 90 = .ok (.iload_n 2, 1) := by decide +kernel
theorem dX11_play_91 : decode cX11_play 91 = .ok (.imul, 1) := by decide +kernel
theorem dX11_play_92 : decode cX11_play 92 = .ok (.iload 5, 2) := by decide +kernel
theorem dX11_play_94 : decode cX11_play 94 = .ok (.iadd, 1) := by decide +kernel
theorem dX11_play_95 : decode cX11_play 95 = .ok (.aload_n 0, 1) := by decide +kernel
theorem dX11_play_96 : decode cX11_play 96 = .ok (.getfield 64, 3) := by decide +kernel
theorem dX11_play_99 : decode cX11_play 99 = .ok (.iconst 0, 1) := by decide +kernel
theorem dX11_play_100 : decode cX11_play 100 = .ok (.iaload, 1) := by decide +kernel
theorem dX11_play_101 : decode cX11_play 101 = .ok (.iastore, 1) := by decide +kernel
theorem dX11_play_102 : decode cX11_play 102 = .ok (.iinc 5 1, 3) := by decide +kernel
theorem dX11_play_105 : decode cX11_play 105 = .ok (.goto (-72), 3) := by decide +kernel
theorem dX11_play_108 : decode cX11_play 108 = .ok (.aload_n 0, 1) := by decide +kernel
theorem dX11_play_109 : decode cX11_play 109 = .ok (.getfield 67, 3) := by decide +kernel
theorem dX11_play_112 : decode cX11_play 112 = .ok (.iload_n 2, 1) := by decide +kernel
theorem dX11_play_113 : decode cX11_play 113 = .ok (.dup2, 1) := by decide +kernel
theorem dX11_play_114 : decode cX11_play 114 = .ok (.iaload, 1) := by decide +kernel
theorem dX11_play_115 : decode cX11_play 115 = .ok (.iload_n 3, 1) := by decide +kernel
theorem dX11_play_116 : decode cX11_play 116 = .ok (.ifCond .eq 25, 3) := by decide +kernel
theorem dX11_play_119 : decode cX11_play 119 = .ok (.aload_n 0, 1) := by decide +kernel
theorem dX11_play_120 : decode cX11_play 120 = .ok (.getfield 58, 3) := by decide +kernel
theorem dX11_play_123 : decode cX11_play 123 = .ok (.iconst 3, 1) := by decide +kernel
theorem dX11_play_124 : decode cX11_play 124 = .ok (.iaload, 1) := by decide +kernel
theorem dX11_play_125 : decode cX11_play 125 = .ok (.aload_n 0, 1) := by decide +kernel
theorem dX11_play_126 : decode cX11_play 126 = .ok (.getfield 58, 3) := by decide +kernel
theorem dX11_play_129 : decode cX11_play 129 = .ok (.iconst 4, 1) := by decide +kernel
theorem dX11_play_130 : decode cX11_play 130 = .ok (.iaload, 1) := by decide +kernel
theorem dX11_play_131 : decode cX11_play 131 = .ok (.iload 4, 2) := by decide +kernel
theorem dX11_play_133 : decode cX11_play 133 = .ok (.imul, 1) := by decide +kernel
theorem dX11_play_134 : decode cX11_play 134 = .ok (.bipush 10, 2) := by decide +kernel
theorem dX11_play_136 : decode cX11_play 136 = .ok (.idiv, 1) := by decide +kernel
theorem dX11_play_137 : decode cX11_play 137 = .ok (.iadd, 1) := by decide +kernel
theorem dX11_play_138 : decode cX11_play 138 = .ok (.goto 4, 3) := by decide +kernel
theorem dX11_play_141 : decode cX11_play 141 = .ok (.iconst 0, 1) := by decide +kernel
theorem dX11_play_142 : decode cX11_play 142 = .ok (.iadd, 1) := by decide +kernel
theorem dX11_play_143 : decode cX11_play 143 = .ok (.iastore, 1) := by decide +kernel
theorem dX11_play_144 : decode cX11_play 144 = .ok (.iinc 2 1, 3) := by decide +kernel
theorem dX11_play_147 : decode cX11_play 147 = .ok (.goto (-132), 3) := by decide +kernel
theorem dX11_play_150 : decode cX11_play 150 = .ok (.aload_n 0, 1) := by decide +kernel
theorem dX11_play_151 : decode cX11_play 151 = .ok (.getfield 64, 3) := by decide +kernel
theorem dX11_play_154 : decode cX11_play 154 = .ok (.iconst 0, 1) := by decide +kernel
theorem dX11_play_155 : decode cX11_play 155 = .ok (.dup2, 1) := by decide +kernel
theorem dX11_play_156 : decode cX11_play 156 = .ok (.iaload, 1) := by decide +kernel
theorem dX11_play_157 : decode cX11_play 157 = .ok (.iconst 1, 1) := by decide +kernel
theorem dX11_play_158 : decode cX11_play 158 = .ok (.iadd, 1) := by decide +kernel
theorem dX11_play_159 : decode cX11_play 159 = .ok (.iastore, 1) := by decide +kernel
theorem dX11_play_160 : decode cX11_play 160 = .ok (.aload_n 0, 1) := by decide +kernel
theorem dX11_play_161 : decode cX11_play 161 = .ok (.getfield 216, 3) := by decide +kernel
theorem dX11_play_164 : decode cX11_play 164 = .ok (.ireturn, 1) := by decide +kernel
theorem dX11_night_0 : decode cX11_night 0 = .ok (.aload_n 0, 1) := by decide +kernel
theorem dX11_night_1 : decode cX11_night 1 = .ok (.iload_n 1, 1) := by decide +kernel
theorem dX11_night_2 : decode cX11_night 2 = .ok (.invokevirtual 229, 3) := by decide +kernel
theorem dX11_night_5 : decode cX11_night 5 = .ok (.ifCond .eq 11, 3) := by decide +kernel
theorem dX11_night_8 : decode cX11_night 8 = .ok (.aload_n 0, 1) := by decide +kernel
theorem dX11_night_9 : decode cX11_night 9 = .ok (.iload_n 1, 1) := by decide +kernel
theorem dX11_night_10 : decode cX11_night 10 = .ok (.invokevirtual 303, 3) := by decide +kernel
theorem dX11_night_13 : decode cX11_night 13 = .ok (.goto 4, 3) := by decide +kernel
theorem dX11_night_16 : decode cX11_night 16 = .ok (.iconst (-1), 1) := by decide +kernel
theorem dX11_night_17 : decode cX11_night 17 = .ok (.ireturn, 1) := by decide +kernel
theorem dX11_owed_0 : decode cX11_owed 0 = .ok (.aload_n 0, 1) := by decide +kernel
theorem dX11_owed_1 : decode cX11_owed 1 = .ok (.iload_n 1, 1) := by decide +kernel
theorem dX11_owed_2 : decode cX11_owed 2 = .ok (.invokevirtual 195, 3) := by decide +kernel
theorem dX11_owed_5 : decode cX11_owed 5 = .ok (.ifCond .eq 12, 3) := by decide +kernel
theorem dX11_owed_8 : decode cX11_owed 8 = .ok (.aload_n 0, 1) := by decide +kernel
theorem dX11_owed_9 : decode cX11_owed 9 = .ok (.getfield 67, 3) := by decide +kernel
theorem dX11_owed_12 : decode cX11_owed 12 = .ok (.iload_n 1, 1) := by decide +kernel
theorem dX11_owed_13 : decode cX11_owed 13 = .ok (.iaload, 1) := by decide +kernel
theorem dX11_owed_14 : decode cX11_owed 14 = .ok (.goto 4, 3) := by decide +kernel
theorem dX11_owed_17 : decode cX11_owed 17 = .ok (.iconst (-1), 1) := by decide +kernel
theorem dX11_owed_18 : decode cX11_owed 18 = .ok (.ireturn, 1) := by decide +kernel
theorem dX11_told_0 : decode cX11_told 0 = .ok (.aload_n 0, 1) := by decide +kernel
theorem dX11_told_1 : decode cX11_told 1 = .ok (.iload_n 1, 1) := by decide +kernel
theorem dX11_told_2 : decode cX11_told 2 = .ok (.invokevirtual 195, 3) := by decide +kernel
theorem dX11_told_5 : decode cX11_told 5 = .ok (.ifCond .eq 15, 3) := by decide +kernel
theorem dX11_told_8 : decode cX11_told 8 = .ok (.iload_n 2, 1) := by decide +kernel
theorem dX11_told_9 : decode cX11_told 9 = .ok (.i2l, 1) := by decide +kernel
theorem dX11_told_10 : decode cX11_told 10 = .ok (.lconst 0, 1) := by decide +kernel
theorem dX11_told_11 : decode cX11_told 11 = .ok (.ldc2_w 306, 3) := by decide +kernel
theorem dX11_told_14 : decode cX11_told 14 = .ok (.invokestatic 124, 3) := by decide +kernel
theorem dX11_told_17 : decode cX11_told 17 = .ok (.ifCond .ne 5, 3) := by decide +kernel
theorem dX11_told_20 : decode cX11_told 20 = .ok (.iconst (-1), 1) := by decide +kernel
theorem dX11_told_21 : decode cX11_told 21 = .ok (.ireturn, 1) := by decide +kernel
theorem dX11_told_22 : decode cX11_told 22 = .ok (.aload_n 0, 1) := by decide +kernel
theorem dX11_told_23 : decode cX11_told 23 = .ok (.getfield 70, 3) := by decide +kernel
theorem dX11_told_26 : decode cX11_told 26 = .ok (.iload_n 1, 1) := by decide +kernel
theorem dX11_told_27 : decode cX11_told 27 = .ok (.iaload, 1) := by decide +kernel
theorem dX11_told_28 : decode cX11_told 28 = .ok (.istore_n 3, 1) := by decide +kernel
theorem dX11_told_29 : decode cX11_told 29 = .ok (.aload_n 0, 1) := by decide +kernel
theorem dX11_told_30 : decode cX11_told 30 = .ok (.getfield 70, 3) := by decide +kernel
theorem dX11_told_33 : decode cX11_told 33 = .ok (.iload_n 1, 1) := by decide +kernel
theorem dX11_told_34 : decode cX11_told 34 = .ok (.iload_n 2, 1) := by decide +kernel
theorem dX11_told_35 : decode cX11_told 35 = .ok (.iastore, 1) := by decide +kernel
theorem dX11_told_36 : decode cX11_told 36 = .ok (.iload_n 3, 1) := by decide +kernel
theorem dX11_told_37 : decode cX11_told 37 = .ok (.ireturn, 1) := by decide +kernel
theorem dX11_wrong_0 : decode cX11_wrong 0 = .ok (.iconst 0, 1) := by decide +kernel
theorem dX11_wrong_1 : decode cX11_wrong 1 = .ok (.istore_n 1, 1) := by decide +kernel
theorem dX11_wrong_2 : decode cX11_wrong 2 = .ok (.iload_n 1, 1) := by decide +kernel
theorem dX11_wrong_3 : decode cX11_wrong 3 = .ok (.aload_n 0, 1) := by decide +kernel
theorem dX11_wrong_4 : decode cX11_wrong 4 = .ok (.getfield 13, 3) := by decide +kernel
theorem dX11_wrong_7 : decode cX11_wrong 7 = .ok (.iconst 0, 1) := by decide +kernel
theorem dX11_wrong_8 : decode cX11_wrong 8 = .ok (.iaload, 1) := by decide +kernel
theorem dX11_wrong_9 : decode cX11_wrong 9 = .ok (.if_icmp .ge 26, 3) := by decide +kernel
theorem dX11_wrong_12 : decode cX11_wrong 12 = .ok (.aload_n 0, 1) := by decide +kernel
theorem dX11_wrong_13 : decode cX11_wrong 13 = .ok (.getfield 67, 3) := by decide +kernel
theorem dX11_wrong_16 : decode cX11_wrong 16 = .ok (.iload_n 1, 1) := by decide +kernel
theorem dX11_wrong_17 : decode cX11_wrong 17 = .ok (.iaload, 1) := by decide +kernel
theorem dX11_wrong_18 : decode cX11_wrong 18 = .ok (.aload_n 0, 1) := by decide +kernel
theorem dX11_wrong_19 : decode cX11_wrong 19 = .ok (.getfield 70, 3) := by decide +kernel
theorem dX11_wrong_22 : decode cX11_wrong 22 = .ok (.iload_n 1, 1) := by decide +kernel
theorem dX11_wrong_23 : decode cX11_wrong 23 = .ok (.iaload, 1) := by decide +kernel
theorem dX11_wrong_24 : decode cX11_wrong 24 = .ok (.if_icmp .eq 5, 3) := by decide +kernel
theorem dX11_wrong_27 : decode cX11_wrong 27 = .ok (.iload_n 1, 1) := by decide +kernel
theorem dX11_wrong_28 : decode cX11_wrong 28 = .ok (.ireturn, 1) := by decide +kernel
theorem dX11_wrong_29 : decode cX11_wrong 29 = .ok (.iinc 1 1, 3) := by decide +kernel
theorem dX11_wrong_32 : decode cX11_wrong 32 = .ok (.goto (-30), 3) := by decide +kernel
theorem dX11_wrong_35 : decode cX11_wrong 35 = .ok (.bipush (-4), 2) := by decide +kernel
theorem dX11_wrong_37 : decode cX11_wrong 37 = .ok (.ireturn, 1) := by decide +kernel
theorem dX11_run_0 : decode cX11_run 0 = .ok (.iload_n 1, 1) := by decide +kernel
theorem dX11_run_1 : decode cX11_run 1 = .ok (.i2l, 1) := by decide +kernel
theorem dX11_run_2 : decode cX11_run 2 = .ok (.lconst 1, 1) := by decide +kernel
theorem dX11_run_3 : decode cX11_run 3 = .ok (.ldc2_w 308, 3) := by decide +kernel
theorem dX11_run_6 : decode cX11_run 6 = .ok (.invokestatic 124, 3) := by decide +kernel
theorem dX11_run_9 : decode cX11_run 9 = .ok (.ifCond .eq 23, 3) := by decide +kernel
theorem dX11_run_12 : decode cX11_run 12 = .ok (.iload_n 2, 1) := by decide +kernel
theorem dX11_run_13 : decode cX11_run 13 = .ok (.i2l, 1) := by decide +kernel
theorem dX11_run_14 : decode cX11_run 14 = .ok (.lconst 0, 1) := by decide +kernel
theorem dX11_run_15 : decode cX11_run 15 = .ok (.ldc2_w 310, 3) := by decide +kernel
theorem dX11_run_18 : decode cX11_run 18 = .ok (.invokestatic 124, 3) := by decide +kernel
theorem dX11_run_21 : decode cX11_run 21 = .ok (.ifCond .eq 11, 3) := by decide +kernel
theorem dX11_run_24 : decode cX11_run 24 = .ok (.aload_n 0, 1) := by decide +kernel
theorem dX11_run_25 : decode cX11_run 25 = .ok (.iload_n 3, 1) := by decide +kernel
theorem dX11_run_26 : decode cX11_run 26 = .ok (.invokevirtual 229, 3) := by decide +kernel
theorem dX11_run_29 : decode cX11_run 29 = .ok (.ifCond .ne 5, 3) := by decide +kernel
theorem dX11_run_32 : decode cX11_run 32 = .ok (.iconst (-1), 1) := by decide +kernel
theorem dX11_run_33 : decode cX11_run 33 = .ok (.ireturn, 1) := by decide +kernel
theorem dX11_run_34 : decode cX11_run 34 = .ok (.iconst 0, 1) := by decide +kernel
theorem dX11_run_35 : decode cX11_run 35 = .ok (.istore 4, 2) := by decide +kernel
theorem dX11_run_37 : decode cX11_run 37 = .ok (.iload 4, 2) := by decide +kernel
theorem dX11_run_39 : decode cX11_run 39 = .ok (.bipush 80, 2) := by decide +kernel
theorem dX11_run_41 : decode cX11_run 41 = .ok (.if_icmp .ge 23, 3) := by decide +kernel
theorem dX11_run_44 : decode cX11_run 44 = .ok (.aload_n 0, 1) := by decide +kernel
theorem dX11_run_45 : decode cX11_run 45 = .ok (.getfield 109, 3) := by decide +kernel
theorem dX11_run_48 : decode cX11_run 48 = .ok (.iload 4, 2) := by decide +kernel
theorem dX11_run_50 : decode cX11_run 50 = .ok (.aload_n 0, 1) := by decide +kernel
theorem dX11_run_51 : decode cX11_run 51 = .ok (.getfield 61, 3) := by decide +kernel
theorem dX11_run_54 : decode cX11_run 54 = .ok (.iload 4, 2) := by decide +kernel
theorem dX11_run_56 : decode cX11_run 56 = .ok (.iaload, 1) := by decide +kernel
theorem dX11_run_57 : decode cX11_run 57 = .ok (.iastore, 1) := by decide +kernel
theorem dX11_run_58 : decode cX11_run 58 = .ok (.iinc 4 1, 3) := by decide +kernel
theorem dX11_run_61 : decode cX11_run 61 = .ok (.goto (-24), 3) := by decide +kernel
theorem dX11_run_64 : decode cX11_run 64 = .ok (.iconst 0, 1) := by decide +kernel
theorem dX11_run_65 : decode cX11_run 65 = .ok (.istore 4, 2) := by decide +kernel
theorem dX11_run_67 : decode cX11_run 67 = .ok (.iload 4, 2) := by decide +kernel
theorem dX11_run_69 : decode cX11_run 69 = .ok (.bipush 10, 2) := by decide +kernel
theorem dX11_run_71 : decode cX11_run 71 = .ok (.if_icmp .ge 23, 3) := by decide +kernel
theorem dX11_run_74 : decode cX11_run 74 = .ok (.aload_n 0, 1) := by decide +kernel
theorem dX11_run_75 : decode cX11_run 75 = .ok (.getfield 112, 3) := by decide +kernel
theorem dX11_run_78 : decode cX11_run 78 = .ok (.iload 4, 2) := by decide +kernel
theorem dX11_run_80 : decode cX11_run 80 = .ok (.aload_n 0, 1) := by decide +kernel
theorem dX11_run_81 : decode cX11_run 81 = .ok (.getfield 67, 3) := by decide +kernel
theorem dX11_run_84 : decode cX11_run 84 = .ok (.iload 4, 2) := by decide +kernel
theorem dX11_run_86 : decode cX11_run 86 = .ok (.iaload, 1) := by decide +kernel
theorem dX11_run_87 : decode cX11_run 87 = .ok (.iastore, 1) := by decide +kernel
theorem dX11_run_88 : decode cX11_run 88 = .ok (.iinc 4 1, 3) := by decide +kernel
theorem dX11_run_91 : decode cX11_run 91 = .ok (.goto (-24), 3) := by decide +kernel
theorem dX11_run_94 : decode cX11_run 94 = .ok (.aload_n 0, 1) := by decide +kernel
theorem dX11_run_95 : decode cX11_run 95 = .ok (.getfield 64, 3) := by decide +kernel
theorem dX11_run_98 : decode cX11_run 98 = .ok (.iconst 0, 1) := by decide +kernel
theorem dX11_run_99 : decode cX11_run 99 = .ok (.iaload, 1) := by decide +kernel
theorem dX11_run_100 : decode cX11_run 100 = .ok (.istore 4, 2) := by decide +kernel
theorem dX11_run_102 : decode cX11_run 102 = .ok (.iconst 0, 1) := by decide +kernel
theorem dX11_run_103 : decode cX11_run 103 = .ok (.istore 5, 2) := by decide +kernel
theorem dX11_run_105 : decode cX11_run 105 = .ok (.iload 5, 2) := by decide +kernel
theorem dX11_run_107 : decode cX11_run 107 = .ok (.iload_n 1, 1) := by decide +kernel
theorem dX11_run_108 : decode cX11_run 108 = .ok (.if_icmp .ge 31, 3) := by decide +kernel
theorem dX11_run_111 : decode cX11_run 111 = .ok (.aload_n 0, 1) := by decide +kernel
theorem dX11_run_112 : decode cX11_run 112 = .ok (.iload_n 2, 1) := by decide +kernel
theorem dX11_run_113 : decode cX11_run 113 = .ok (.iload 5, 2) := by decide +kernel
theorem dX11_run_115 : decode cX11_run 115 = .ok (.iadd, 1) := by decide +kernel
theorem dX11_run_116 : decode cX11_run 116 = .ok (.bipush 37, 2) := by decide +kernel
theorem dX11_run_118 : decode cX11_run 118 = .ok (.imul, 1) := by decide +kernel
theorem dX11_run_119 : decode cX11_run 119 = .ok (.sipush 1024, 3) := by decide +kernel
theorem dX11_run_122 : decode cX11_run 122 = .ok (.irem, 1) := by decide +kernel
theorem dX11_run_123 : decode cX11_run 123 = .ok (.iload_n 3, 1) := by decide +kernel
theorem dX11_run_124 : decode cX11_run 124 = .ok (.iand, 1) := by decide +kernel
theorem dX11_run_125 : decode cX11_run 125 = .ok (.invokevirtual 303, 3) := by decide +kernel
theorem dX11_run_128 : decode cX11_run 128 = .ok (.bipush (-4), 2) := by decide +kernel
theorem dX11_run_130 : decode cX11_run 130 = .ok (.if_icmp .eq 9, 3) := by decide +kernel
theorem dX11_run_133 : decode cX11_run 133 = .ok (.iinc 5 1, 3) := by decide +kernel
theorem dX11_run_136 : decode cX11_run 136 = .ok (.goto (-31), 3) := by decide +kernel
theorem dX11_run_139 : decode cX11_run 139 = .ok (.iconst 0, 1) := by decide +kernel
theorem dX11_run_140 : decode cX11_run 140 = .ok (.istore 6, 2) := by decide +kernel
theorem dX11_run_142 : decode cX11_run 142 = .ok (.iload 6, 2) := by decide +kernel
theorem dX11_run_144 : decode cX11_run 144 = .ok (.bipush 80, 2) := by decide +kernel
theorem dX11_run_146 : decode cX11_run 146 = .ok (.if_icmp .ge 23, 3) := by decide +kernel
theorem dX11_run_149 : decode cX11_run 149 = .ok (.aload_n 0, 1) := by decide +kernel
theorem dX11_run_150 : decode cX11_run 150 = .ok (.getfield 61, 3) := by decide +kernel
theorem dX11_run_153 : decode cX11_run 153 = .ok (.iload 6, 2) := by decide +kernel
theorem dX11_run_155 : decode cX11_run 155 = .ok (.aload_n 0, 1) := by decide +kernel
theorem dX11_run_156 : decode cX11_run 156 = .ok (.getfield 109, 3) := by decide +kernel
theorem dX11_run_159 : decode cX11_run 159 = .ok (.iload 6, 2) := by decide +kernel
theorem dX11_run_161 : decode cX11_run 161 = .ok (.iaload, 1) := by decide +kernel
theorem dX11_run_162 : decode cX11_run 162 = .ok (.iastore, 1) := by decide +kernel
theorem dX11_run_163 : decode cX11_run 163 = .ok (.iinc 6 1, 3) := by decide +kernel
theorem dX11_run_166 : decode cX11_run 166 = .ok (.goto (-24), 3) := by decide +kernel
theorem dX11_run_169 : decode cX11_run 169 = .ok (.iconst 0, 1) := by decide +kernel
theorem dX11_run_170 : decode cX11_run 170 = .ok (.istore 6, 2) := by decide +kernel
theorem dX11_run_172 : decode cX11_run 172 = .ok (.iload 6, 2) := by decide +kernel
theorem dX11_run_174 : decode cX11_run 174 = .ok (.bipush 10, 2) := by decide +kernel
theorem dX11_run_176 : decode cX11_run 176 = .ok (.if_icmp .ge 23, 3) := by decide +kernel
theorem dX11_run_179 : decode cX11_run 179 = .ok (.aload_n 0, 1) := by decide +kernel
theorem dX11_run_180 : decode cX11_run 180 = .ok (.getfield 67, 3) := by decide +kernel
theorem dX11_run_183 : decode cX11_run 183 = .ok (.iload 6, 2) := by decide +kernel
theorem dX11_run_185 : decode cX11_run 185 = .ok (.aload_n 0, 1) := by decide +kernel
theorem dX11_run_186 : decode cX11_run 186 = .ok (.getfield 112, 3) := by decide +kernel
theorem dX11_run_189 : decode cX11_run 189 = .ok (.iload 6, 2) := by decide +kernel
theorem dX11_run_191 : decode cX11_run 191 = .ok (.iaload, 1) := by decide +kernel
theorem dX11_run_192 : decode cX11_run 192 = .ok (.iastore, 1) := by decide +kernel
theorem dX11_run_193 : decode cX11_run 193 = .ok (.iinc 6 1, 3) := by decide +kernel
theorem dX11_run_196 : decode cX11_run 196 = .ok (.goto (-24), 3) := by decide +kernel
theorem dX11_run_199 : decode cX11_run 199 = .ok (.aload_n 0, 1) := by decide +kernel
theorem dX11_run_200 : decode cX11_run 200 = .ok (.getfield 64, 3) := by decide +kernel
theorem dX11_run_203 : decode cX11_run 203 = .ok (.iconst 0, 1) := by decide +kernel
theorem dX11_run_204 : decode cX11_run 204 = .ok (.iload 4, 2) := by decide +kernel
theorem dX11_run_206 : decode cX11_run 206 = .ok (.iastore, 1) := by decide +kernel
theorem dX11_run_207 : decode cX11_run 207 = .ok (.iload 5, 2) := by decide +kernel
theorem dX11_run_209 : decode cX11_run 209 = .ok (.ireturn, 1) := by decide +kernel
theorem dX11_copy_0 : decode cX11_copy 0 = .ok (.iconst 0, 1) := by decide +kernel
theorem dX11_copy_1 : decode cX11_copy 1 = .ok (.istore_n 3, 1) := by decide +kernel
theorem dX11_copy_2 : decode cX11_copy 2 = .ok (.iload_n 3, 1) := by decide +kernel
theorem dX11_copy_3 : decode cX11_copy 3 = .ok (.bipush 80, 2) := by decide +kernel
theorem dX11_copy_5 : decode cX11_copy 5 = .ok (.if_icmp .ge 31, 3) := by decide +kernel
theorem dX11_copy_8 : decode cX11_copy 8 = .ok (.aload_n 0, 1) := by decide +kernel
theorem dX11_copy_9 : decode cX11_copy 9 = .ok (.getfield 61, 3) := by decide +kernel
theorem dX11_copy_12 : decode cX11_copy 12 = .ok (.bipush 80, 2) := by decide +kernel
theorem dX11_copy_14 : decode cX11_copy 14 = .ok (.iload_n 2, 1) := by decide +kernel
theorem dX11_copy_15 : decode cX11_copy 15 = .ok (.imul, 1) := by decide +kernel
theorem dX11_copy_16 : decode cX11_copy 16 = .ok (.iload_n 3, 1) := by decide +kernel
theorem dX11_copy_17 : decode cX11_copy 17 = .ok (.iadd, 1) := by decide +kernel
theorem dX11_copy_18 : decode cX11_copy 18 = .ok (.aload_n 0, 1) := by decide +kernel
theorem dX11_copy_19 : decode cX11_copy 19 = .ok (.getfield 61, 3) := by decide +kernel
theorem dX11_copy_22 : decode cX11_copy 22 = .ok (.bipush 80, 2) := by decide +kernel
theorem dX11_copy_24 : decode cX11_copy 24 = .ok (.iload_n 1, 1) := by decide +kernel
theorem dX11_copy_25 : decode cX11_copy 25 = .ok (.imul, 1) := by decide +kernel
theorem dX11_copy_26 : decode cX11_copy 26 = .ok (.iload_n 3, 1) := by decide +kernel
theorem dX11_copy_27 : decode cX11_copy 27 = .ok (.iadd, 1) := by decide +kernel
theorem dX11_copy_28 : decode cX11_copy 28 = .ok (.iaload, 1) := by decide +kernel
theorem dX11_copy_29 : decode cX11_copy 29 = .ok (.iastore, 1) := by decide +kernel
theorem dX11_copy_30 : decode cX11_copy 30 = .ok (.iinc 3 1, 3) := by decide +kernel
theorem dX11_copy_33 : decode cX11_copy 33 = .ok (.goto (-31), 3) := by decide +kernel
theorem dX11_copy_36 : decode cX11_copy 36 = .ok (.iconst 0, 1) := by decide +kernel
theorem dX11_copy_37 : decode cX11_copy 37 = .ok (.istore_n 3, 1) := by decide +kernel
theorem dX11_copy_38 : decode cX11_copy 38 = .ok (.iload_n 3, 1) := by decide +kernel
theorem dX11_copy_39 : decode cX11_copy 39 = .ok (.bipush 10, 2) := by decide +kernel
theorem dX11_copy_41 : decode cX11_copy 41 = .ok (.if_icmp .ge 31, 3) := by decide +kernel
theorem dX11_copy_44 : decode cX11_copy 44 = .ok (.aload_n 0, 1) := by decide +kernel
theorem dX11_copy_45 : decode cX11_copy 45 = .ok (.getfield 67, 3) := by decide +kernel
theorem dX11_copy_48 : decode cX11_copy 48 = .ok (.bipush 10, 2) := by decide +kernel
theorem dX11_copy_50 : decode cX11_copy 50 = .ok (.iload_n 2, 1) := by decide +kernel
theorem dX11_copy_51 : decode cX11_copy 51 = .ok (.imul, 1) := by decide +kernel
theorem dX11_copy_52 : decode cX11_copy 52 = .ok (.iload_n 3, 1) := by decide +kernel
theorem dX11_copy_53 : decode cX11_copy 53 = .ok (.iadd, 1) := by decide +kernel
theorem dX11_copy_54 : decode cX11_copy 54 = .ok (.aload_n 0, 1) := by decide +kernel
theorem dX11_copy_55 : decode cX11_copy 55 = .ok (.getfield 67, 3) := by decide +kernel
theorem dX11_copy_58 : decode cX11_copy 58 = .ok (.bipush 10, 2) := by decide +kernel
theorem dX11_copy_60 : decode cX11_copy 60 = .ok (.iload_n 1, 1) := by decide +kernel
theorem dX11_copy_61 : decode cX11_copy 61 = .ok (.imul, 1) := by decide +kernel
theorem dX11_copy_62 : decode cX11_copy 62 = .ok (.iload_n 3, 1) := by decide +kernel
theorem dX11_copy_63 : decode cX11_copy 63 = .ok (.iadd, 1) := by decide +kernel
theorem dX11_copy_64 : decode cX11_copy 64 = .ok (.iaload, 1) := by decide +kernel
theorem dX11_copy_65 : decode cX11_copy 65 = .ok (.iastore, 1) := by decide +kernel
theorem dX11_copy_66 : decode cX11_copy 66 = .ok (.iinc 3 1, 3) := by decide +kernel
theorem dX11_copy_69 : decode cX11_copy 69 = .ok (.goto (-31), 3) := by decide +kernel
theorem dX11_copy_72 : decode cX11_copy 72 = .ok (.aload_n 0, 1) := by decide +kernel
theorem dX11_copy_73 : decode cX11_copy 73 = .ok (.getfield 64, 3) := by decide +kernel
theorem dX11_copy_76 : decode cX11_copy 76 = .ok (.iload_n 2, 1) := by decide +kernel
theorem dX11_copy_77 : decode cX11_copy 77 = .ok (.aload_n 0, 1) := by decide +kernel
theorem dX11_copy_78 : decode cX11_copy 78 = .ok (.getfield 64, 3) := by decide +kernel
theorem dX11_copy_81 : decode cX11_copy 81 = .ok (.iload_n 1, 1) := by decide +kernel
theorem dX11_copy_82 : decode cX11_copy 82 = .ok (.iaload, 1) := by decide +kernel
theorem dX11_copy_83 : decode cX11_copy 83 = .ok (.iastore, 1) := by decide +kernel
theorem dX11_copy_84 : decode cX11_copy 84 = .ok (.return_, 1) := by decide +kernel
theorem dX11_keep_0 : decode cX11_keep 0 = .ok (.aload_n 0, 1) := by decide +kernel
theorem dX11_keep_1 : decode cX11_keep 1 = .ok (.getfield 180, 3) := by decide +kernel
theorem dX11_keep_4 : decode cX11_keep 4 = .ok (.iconst 2, 1) := by decide +kernel
theorem dX11_keep_5 : decode cX11_keep 5 = .ok (.if_icmp .ne 6, 3) := by decide +kernel
theorem dX11_keep_8 : decode cX11_keep 8 = .ok (.bipush (-3), 2) := by decide +kernel
theorem dX11_keep_10 : decode cX11_keep 10 = .ok (.ireturn, 1) := by decide +kernel
theorem dX11_keep_11 : decode cX11_keep 11 = .ok (.aload_n 0, 1) := by decide +kernel
theorem dX11_keep_12 : decode cX11_keep 12 = .ok (.dup, 1) := by decide +kernel
theorem dX11_keep_13 : decode cX11_keep 13 = .ok (.getfield 180, 3) := by decide +kernel
theorem dX11_keep_16 : decode cX11_keep 16 = .ok (.iconst 1, 1) := by decide +kernel
theorem dX11_keep_17 : decode cX11_keep 17 = .ok (.iadd, 1) := by decide +kernel
theorem dX11_keep_18 : decode cX11_keep 18 = .ok (.putfield 180, 3) := by decide +kernel
theorem dX11_keep_21 : decode cX11_keep 21 = .ok (.aload_n 0, 1) := by decide +kernel
theorem dX11_keep_22 : decode cX11_keep 22 = .ok (.iconst 0, 1) := by decide +kernel
theorem dX11_keep_23 : decode cX11_keep 23 = .ok (.aload_n 0, 1) := by decide +kernel
theorem dX11_keep_24 : decode cX11_keep 24 = .ok (.getfield 180, 3) := by decide +kernel
theorem dX11_keep_27 : decode cX11_keep 27 = .ok (.invokevirtual 312, 3) := by decide +kernel
theorem dX11_keep_30 : decode cX11_keep 30 = .ok (.aload_n 0, 1) := by decide +kernel
theorem dX11_keep_31 : decode cX11_keep 31 = .ok (.getfield 180, 3) := by decide +kernel
theorem dX11_keep_34 : decode cX11_keep 34 = .ok (.ireturn, 1) := by decide +kernel
theorem dX11_back_0 : decode cX11_back 0 = .ok (.aload_n 0, 1) := by decide +kernel
theorem dX11_back_1 : decode cX11_back 1 = .ok (.getfield 180, 3) := by decide +kernel
theorem dX11_back_4 : decode cX11_back 4 = .ok (.ifCond .ne 6, 3) := by decide +kernel
theorem dX11_back_7 : decode cX11_back 7 = .ok (.bipush (-2), 2) := by decide +kernel
theorem dX11_back_9 : decode cX11_back 9 = .ok (.ireturn, 1) := by decide +kernel
theorem dX11_back_10 : decode cX11_back 10 = .ok (.aload_n 0, 1) := by decide +kernel
theorem dX11_back_11 : decode cX11_back 11 = .ok (.aload_n 0, 1) := by decide +kernel
theorem dX11_back_12 : decode cX11_back 12 = .ok (.getfield 180, 3) := by decide +kernel
theorem dX11_back_15 : decode cX11_back 15 = .ok (.iconst 0, 1) := by decide +kernel
theorem dX11_back_16 : decode cX11_back 16 = .ok (.invokevirtual 312, 3) := by decide +kernel
theorem dX11_back_19 : decode cX11_back 19 = .ok (.aload_n 0, 1) := by decide +kernel
theorem dX11_back_20 : decode cX11_back 20 = .ok (.dup, 1) := by decide +kernel
theorem dX11_back_21 : decode cX11_back 21 = .ok (.getfield 180, 3) := by decide +kernel
theorem dX11_back_24 : decode cX11_back 24 = .ok (.iconst 1, 1) := by decide +kernel
theorem dX11_back_25 : decode cX11_back 25 = .ok (.isub, 1) := by decide +kernel
theorem dX11_back_26 : decode cX11_back 26 = .ok (.putfield 180, 3) := by decide +kernel
theorem dX11_back_29 : decode cX11_back 29 = .ok (.aload_n 0, 1) := by decide +kernel
theorem dX11_back_30 : decode cX11_back 30 = .ok (.getfield 180, 3) := by decide +kernel
theorem dX11_back_33 : decode cX11_back 33 = .ok (.ireturn, 1) := by decide +kernel
theorem dX11_count_0 : decode cX11_count 0 = .ok (.iload_n 1, 1) := by decide +kernel
theorem dX11_count_1 : decode cX11_count 1 = .ok (.tableswitch 88 0 6 #[43, 50, 57, 64, 69, 76, 81], 43) := by decide +kernel
theorem dX11_count_44 : decode cX11_count 44 = .ok (.aload_n 0, 1) := by decide +kernel
theorem dX11_count_45 : decode cX11_count 45 = .ok (.getfield 13, 3) := by decide +kernel
theorem dX11_count_48 : decode cX11_count 48 = .ok (.iconst 0, 1) := by decide +kernel
theorem dX11_count_49 : decode cX11_count 49 = .ok (.iaload, 1) := by decide +kernel
theorem dX11_count_50 : decode cX11_count 50 = .ok (.ireturn, 1) := by decide +kernel
theorem dX11_count_51 : decode cX11_count 51 = .ok (.aload_n 0, 1) := by decide +kernel
theorem dX11_count_52 : decode cX11_count 52 = .ok (.getfield 22, 3) := by decide +kernel
theorem dX11_count_55 : decode cX11_count 55 = .ok (.iconst 0, 1) := by decide +kernel
theorem dX11_count_56 : decode cX11_count 56 = .ok (.iaload, 1) := by decide +kernel
theorem dX11_count_57 : decode cX11_count 57 = .ok (.ireturn, 1) := by decide +kernel
theorem dX11_count_58 : decode cX11_count 58 = .ok (.aload_n 0, 1) := by decide +kernel
theorem dX11_count_59 : decode cX11_count 59 = .ok (.getfield 40, 3) := by decide +kernel
theorem dX11_count_62 : decode cX11_count 62 = .ok (.iconst 0, 1) := by decide +kernel
theorem dX11_count_63 : decode cX11_count 63 = .ok (.iaload, 1) := by decide +kernel
theorem dX11_count_64 : decode cX11_count 64 = .ok (.ireturn, 1) := by decide +kernel
theorem dX11_count_65 : decode cX11_count 65 = .ok (.aload_n 0, 1) := by decide +kernel
theorem dX11_count_66 : decode cX11_count 66 = .ok (.getfield 128, 3) := by decide +kernel
theorem dX11_count_69 : decode cX11_count 69 = .ok (.ireturn, 1) := by decide +kernel
theorem dX11_count_70 : decode cX11_count 70 = .ok (.aload_n 0, 1) := by decide +kernel
theorem dX11_count_71 : decode cX11_count 71 = .ok (.getfield 64, 3) := by decide +kernel
theorem dX11_count_74 : decode cX11_count 74 = .ok (.iconst 0, 1) := by decide +kernel
theorem dX11_count_75 : decode cX11_count 75 = .ok (.iaload, 1) := by decide +kernel
theorem dX11_count_76 : decode cX11_count 76 = .ok (.ireturn, 1) := by decide +kernel
theorem dX11_count_77 : decode cX11_count 77 = .ok (.aload_n 0, 1) := by decide +kernel
theorem dX11_count_78 : decode cX11_count 78 = .ok (.getfield 180, 3) := by decide +kernel
theorem dX11_count_81 : decode cX11_count 81 = .ok (.ireturn, 1) := by decide +kernel
theorem dX11_count_82 : decode cX11_count 82 = .ok (.aload_n 0, 1) := by decide +kernel
theorem dX11_count_83 : decode cX11_count 83 = .ok (.getfield 49, 3) := by decide +kernel
theorem dX11_count_86 : decode cX11_count 86 = .ok (.iconst 0, 1) := by decide +kernel
theorem dX11_count_87 : decode cX11_count 87 = .ok (.iaload, 1) := by decide +kernel
theorem dX11_count_88 : decode cX11_count 88 = .ok (.ireturn, 1) := by decide +kernel
theorem dX11_count_89 : decode cX11_count 89 = .ok (.iconst (-1), 1) := by decide +kernel
theorem dX11_count_90 : decode cX11_count 90 = .ok (.ireturn, 1) := by decide +kernel
theorem dJ6_bitCount_0f7a4_0 : decode cJ6_bitCount_0f7a4 0 = .ok (.iload_n 0, 1) := by decide +kernel
theorem dJ6_bitCount_0f7a4_1 : decode cJ6_bitCount_0f7a4 1 = .ok (.iload_n 0, 1) := by decide +kernel
theorem dJ6_bitCount_0f7a4_2 : decode cJ6_bitCount_0f7a4 2 = .ok (.iconst 1, 1) := by decide +kernel
theorem dJ6_bitCount_0f7a4_3 : decode cJ6_bitCount_0f7a4 3 = .ok (.iushr, 1) := by decide +kernel
theorem dJ6_bitCount_0f7a4_4 : decode cJ6_bitCount_0f7a4 4 = .ok (.ldc_w 265, 3) := by decide +kernel
theorem dJ6_bitCount_0f7a4_7 : decode cJ6_bitCount_0f7a4 7 = .ok (.iand, 1) := by decide +kernel
theorem dJ6_bitCount_0f7a4_8 : decode cJ6_bitCount_0f7a4 8 = .ok (.isub, 1) := by decide +kernel
theorem dJ6_bitCount_0f7a4_9 : decode cJ6_bitCount_0f7a4 9 = .ok (.istore_n 0, 1) := by decide +kernel
theorem dJ6_bitCount_0f7a4_10 : decode cJ6_bitCount_0f7a4 10 = .ok (.iload_n 0, 1) := by decide +kernel
theorem dJ6_bitCount_0f7a4_11 : decode cJ6_bitCount_0f7a4 11 = .ok (.ldc_w 266, 3) := by decide +kernel
theorem dJ6_bitCount_0f7a4_14 : decode cJ6_bitCount_0f7a4 14 = .ok (.iand, 1) := by decide +kernel
theorem dJ6_bitCount_0f7a4_15 : decode cJ6_bitCount_0f7a4 15 = .ok (.iload_n 0, 1) := by decide +kernel
theorem dJ6_bitCount_0f7a4_16 : decode cJ6_bitCount_0f7a4 16 = .ok (.iconst 2, 1) := by decide +kernel
theorem dJ6_bitCount_0f7a4_17 : decode cJ6_bitCount_0f7a4 17 = .ok (.iushr, 1) := by decide +kernel
theorem dJ6_bitCount_0f7a4_18 : decode cJ6_bitCount_0f7a4 18 = .ok (.ldc_w 266, 3) := by decide +kernel
theorem dJ6_bitCount_0f7a4_21 : decode cJ6_bitCount_0f7a4 21 = .ok (.iand, 1) := by decide +kernel
theorem dJ6_bitCount_0f7a4_22 : decode cJ6_bitCount_0f7a4 22 = .ok (.iadd, 1) := by decide +kernel
theorem dJ6_bitCount_0f7a4_23 : decode cJ6_bitCount_0f7a4 23 = .ok (.istore_n 0, 1) := by decide +kernel
theorem dJ6_bitCount_0f7a4_24 : decode cJ6_bitCount_0f7a4 24 = .ok (.iload_n 0, 1) := by decide +kernel
theorem dJ6_bitCount_0f7a4_25 : decode cJ6_bitCount_0f7a4 25 = .ok (.iload_n 0, 1) := by decide +kernel
theorem dJ6_bitCount_0f7a4_26 : decode cJ6_bitCount_0f7a4 26 = .ok (.iconst 4, 1) := by decide +kernel
theorem dJ6_bitCount_0f7a4_27 : decode cJ6_bitCount_0f7a4 27 = .ok (.iushr, 1) := by decide +kernel
theorem dJ6_bitCount_0f7a4_28 : decode cJ6_bitCount_0f7a4 28 = .ok (.iadd, 1) := by decide +kernel
theorem dJ6_bitCount_0f7a4_29 : decode cJ6_bitCount_0f7a4 29 = .ok (.ldc_w 267, 3) := by decide +kernel
theorem dJ6_bitCount_0f7a4_32 : decode cJ6_bitCount_0f7a4 32 = .ok (.iand, 1) := by decide +kernel
theorem dJ6_bitCount_0f7a4_33 : decode cJ6_bitCount_0f7a4 33 = .ok (.istore_n 0, 1) := by decide +kernel
theorem dJ6_bitCount_0f7a4_34 : decode cJ6_bitCount_0f7a4 34 = .ok (.iload_n 0, 1) := by decide +kernel
theorem dJ6_bitCount_0f7a4_35 : decode cJ6_bitCount_0f7a4 35 = .ok (.iload_n 0, 1) := by decide +kernel
theorem dJ6_bitCount_0f7a4_36 : decode cJ6_bitCount_0f7a4 36 = .ok (.bipush 8, 2) := by decide +kernel
theorem dJ6_bitCount_0f7a4_38 : decode cJ6_bitCount_0f7a4 38 = .ok (.iushr, 1) := by decide +kernel
theorem dJ6_bitCount_0f7a4_39 : decode cJ6_bitCount_0f7a4 39 = .ok (.iadd, 1) := by decide +kernel
theorem dJ6_bitCount_0f7a4_40 : decode cJ6_bitCount_0f7a4 40 = .ok (.istore_n 0, 1) := by decide +kernel
theorem dJ6_bitCount_0f7a4_41 : decode cJ6_bitCount_0f7a4 41 = .ok (.iload_n 0, 1) := by decide +kernel
theorem dJ6_bitCount_0f7a4_42 : decode cJ6_bitCount_0f7a4 42 = .ok (.iload_n 0, 1) := by decide +kernel
theorem dJ6_bitCount_0f7a4_43 : decode cJ6_bitCount_0f7a4 43 = .ok (.bipush 16, 2) := by decide +kernel
theorem dJ6_bitCount_0f7a4_45 : decode cJ6_bitCount_0f7a4 45 = .ok (.iushr, 1) := by decide +kernel
theorem dJ6_bitCount_0f7a4_46 : decode cJ6_bitCount_0f7a4 46 = .ok (.iadd, 1) := by decide +kernel
theorem dJ6_bitCount_0f7a4_47 : decode cJ6_bitCount_0f7a4 47 = .ok (.istore_n 0, 1) := by decide +kernel
theorem dJ6_bitCount_0f7a4_48 : decode cJ6_bitCount_0f7a4 48 = .ok (.iload_n 0, 1) := by decide +kernel
theorem dJ6_bitCount_0f7a4_49 : decode cJ6_bitCount_0f7a4 49 = .ok (.bipush 63, 2) := by decide +kernel
theorem dJ6_bitCount_0f7a4_51 : decode cJ6_bitCount_0f7a4 51 = .ok (.iand, 1) := by decide +kernel
theorem dJ6_bitCount_0f7a4_52 : decode cJ6_bitCount_0f7a4 52 = .ok (.ireturn, 1) := by decide +kernel
theorem dJ13_bitCount_95d88_0 : decode cJ13_bitCount_95d88 0 = .ok (.lload_n 0, 1) := by decide +kernel
theorem dJ13_bitCount_95d88_1 : decode cJ13_bitCount_95d88 1 = .ok (.lload_n 0, 1) := by decide +kernel
theorem dJ13_bitCount_95d88_2 : decode cJ13_bitCount_95d88 2 = .ok (.iconst 1, 1) := by decide +kernel
theorem dJ13_bitCount_95d88_3 : decode cJ13_bitCount_95d88 3 = .ok (.lushr, 1) := by decide +kernel
theorem dJ13_bitCount_95d88_4 : decode cJ13_bitCount_95d88 4 = .ok (.ldc2_w 314, 3) := by decide +kernel
theorem dJ13_bitCount_95d88_7 : decode cJ13_bitCount_95d88 7 = .ok (.land, 1) := by decide +kernel
theorem dJ13_bitCount_95d88_8 : decode cJ13_bitCount_95d88 8 = .ok (.lsub, 1) := by decide +kernel
theorem dJ13_bitCount_95d88_9 : decode cJ13_bitCount_95d88 9 = .ok (.lstore_n 0, 1) := by decide +kernel
theorem dJ13_bitCount_95d88_10 : decode cJ13_bitCount_95d88 10 = .ok (.lload_n 0, 1) := by decide +kernel
theorem dJ13_bitCount_95d88_11 : decode cJ13_bitCount_95d88 11 = .ok (.ldc2_w 316, 3) := by decide +kernel
theorem dJ13_bitCount_95d88_14 : decode cJ13_bitCount_95d88 14 = .ok (.land, 1) := by decide +kernel
theorem dJ13_bitCount_95d88_15 : decode cJ13_bitCount_95d88 15 = .ok (.lload_n 0, 1) := by decide +kernel
theorem dJ13_bitCount_95d88_16 : decode cJ13_bitCount_95d88 16 = .ok (.iconst 2, 1) := by decide +kernel
theorem dJ13_bitCount_95d88_17 : decode cJ13_bitCount_95d88 17 = .ok (.lushr, 1) := by decide +kernel
theorem dJ13_bitCount_95d88_18 : decode cJ13_bitCount_95d88 18 = .ok (.ldc2_w 316, 3) := by decide +kernel
theorem dJ13_bitCount_95d88_21 : decode cJ13_bitCount_95d88 21 = .ok (.land, 1) := by decide +kernel
theorem dJ13_bitCount_95d88_22 : decode cJ13_bitCount_95d88 22 = .ok (.ladd, 1) := by decide +kernel
theorem dJ13_bitCount_95d88_23 : decode cJ13_bitCount_95d88 23 = .ok (.lstore_n 0, 1) := by decide +kernel
theorem dJ13_bitCount_95d88_24 : decode cJ13_bitCount_95d88 24 = .ok (.lload_n 0, 1) := by decide +kernel
theorem dJ13_bitCount_95d88_25 : decode cJ13_bitCount_95d88 25 = .ok (.lload_n 0, 1) := by decide +kernel
theorem dJ13_bitCount_95d88_26 : decode cJ13_bitCount_95d88 26 = .ok (.iconst 4, 1) := by decide +kernel
theorem dJ13_bitCount_95d88_27 : decode cJ13_bitCount_95d88 27 = .ok (.lushr, 1) := by decide +kernel
theorem dJ13_bitCount_95d88_28 : decode cJ13_bitCount_95d88 28 = .ok (.ladd, 1) := by decide +kernel
theorem dJ13_bitCount_95d88_29 : decode cJ13_bitCount_95d88 29 = .ok (.ldc2_w 318, 3) := by decide +kernel
theorem dJ13_bitCount_95d88_32 : decode cJ13_bitCount_95d88 32 = .ok (.land, 1) := by decide +kernel
theorem dJ13_bitCount_95d88_33 : decode cJ13_bitCount_95d88 33 = .ok (.lstore_n 0, 1) := by decide +kernel
theorem dJ13_bitCount_95d88_34 : decode cJ13_bitCount_95d88 34 = .ok (.lload_n 0, 1) := by decide +kernel
theorem dJ13_bitCount_95d88_35 : decode cJ13_bitCount_95d88 35 = .ok (.lload_n 0, 1) := by decide +kernel
theorem dJ13_bitCount_95d88_36 : decode cJ13_bitCount_95d88 36 = .ok (.bipush 8, 2) := by decide +kernel
theorem dJ13_bitCount_95d88_38 : decode cJ13_bitCount_95d88 38 = .ok (.lushr, 1) := by decide +kernel
theorem dJ13_bitCount_95d88_39 : decode cJ13_bitCount_95d88 39 = .ok (.ladd, 1) := by decide +kernel
theorem dJ13_bitCount_95d88_40 : decode cJ13_bitCount_95d88 40 = .ok (.lstore_n 0, 1) := by decide +kernel
theorem dJ13_bitCount_95d88_41 : decode cJ13_bitCount_95d88 41 = .ok (.lload_n 0, 1) := by decide +kernel
theorem dJ13_bitCount_95d88_42 : decode cJ13_bitCount_95d88 42 = .ok (.lload_n 0, 1) := by decide +kernel
theorem dJ13_bitCount_95d88_43 : decode cJ13_bitCount_95d88 43 = .ok (.bipush 16, 2) := by decide +kernel
theorem dJ13_bitCount_95d88_45 : decode cJ13_bitCount_95d88 45 = .ok (.lushr, 1) := by decide +kernel
theorem dJ13_bitCount_95d88_46 : decode cJ13_bitCount_95d88 46 = .ok (.ladd, 1) := by decide +kernel
theorem dJ13_bitCount_95d88_47 : decode cJ13_bitCount_95d88 47 = .ok (.lstore_n 0, 1) := by decide +kernel
theorem dJ13_bitCount_95d88_48 : decode cJ13_bitCount_95d88 48 = .ok (.lload_n 0, 1) := by decide +kernel
theorem dJ13_bitCount_95d88_49 : decode cJ13_bitCount_95d88 49 = .ok (.lload_n 0, 1) := by decide +kernel
theorem dJ13_bitCount_95d88_50 : decode cJ13_bitCount_95d88 50 = .ok (.bipush 32, 2) := by decide +kernel
theorem dJ13_bitCount_95d88_52 : decode cJ13_bitCount_95d88 52 = .ok (.lushr, 1) := by decide +kernel
theorem dJ13_bitCount_95d88_53 : decode cJ13_bitCount_95d88 53 = .ok (.ladd, 1) := by decide +kernel
theorem dJ13_bitCount_95d88_54 : decode cJ13_bitCount_95d88 54 = .ok (.lstore_n 0, 1) := by decide +kernel
theorem dJ13_bitCount_95d88_55 : decode cJ13_bitCount_95d88 55 = .ok (.lload_n 0, 1) := by decide +kernel
theorem dJ13_bitCount_95d88_56 : decode cJ13_bitCount_95d88 56 = .ok (.l2i, 1) := by decide +kernel
theorem dJ13_bitCount_95d88_57 : decode cJ13_bitCount_95d88 57 = .ok (.bipush 127, 2) := by decide +kernel
theorem dJ13_bitCount_95d88_59 : decode cJ13_bitCount_95d88 59 = .ok (.iand, 1) := by decide +kernel
theorem dJ13_bitCount_95d88_60 : decode cJ13_bitCount_95d88 60 = .ok (.ireturn, 1) := by decide +kernel
theorem dJ9_abs_0f7a4_0 : decode cJ9_abs_0f7a4 0 = .ok (.iload_n 0, 1) := by decide +kernel
theorem dJ9_abs_0f7a4_1 : decode cJ9_abs_0f7a4 1 = .ok (.ifCond .ge 8, 3) := by decide +kernel
theorem dJ9_abs_0f7a4_4 : decode cJ9_abs_0f7a4 4 = .ok (.iload_n 0, 1) := by decide +kernel
theorem dJ9_abs_0f7a4_5 : decode cJ9_abs_0f7a4 5 = .ok (.ineg, 1) := by decide +kernel
theorem dJ9_abs_0f7a4_6 : decode cJ9_abs_0f7a4 6 = .ok (.goto 4, 3) := by decide +kernel
theorem dJ9_abs_0f7a4_9 : decode cJ9_abs_0f7a4 9 = .ok (.iload_n 0, 1) := by decide +kernel
theorem dJ9_abs_0f7a4_10 : decode cJ9_abs_0f7a4 10 = .ok (.ireturn, 1) := by decide +kernel
theorem dJ9_max_7cf53_0 : decode cJ9_max_7cf53 0 = .ok (.iload_n 0, 1) := by decide +kernel
theorem dJ9_max_7cf53_1 : decode cJ9_max_7cf53 1 = .ok (.iload_n 1, 1) := by decide +kernel
theorem dJ9_max_7cf53_2 : decode cJ9_max_7cf53 2 = .ok (.if_icmp .lt 7, 3) := by decide +kernel
theorem dJ9_max_7cf53_5 : decode cJ9_max_7cf53 5 = .ok (.iload_n 0, 1) := by decide +kernel
theorem dJ9_max_7cf53_6 : decode cJ9_max_7cf53 6 = .ok (.goto 4, 3) := by decide +kernel
theorem dJ9_max_7cf53_9 : decode cJ9_max_7cf53 9 = .ok (.iload_n 1, 1) := by decide +kernel
theorem dJ9_max_7cf53_10 : decode cJ9_max_7cf53 10 = .ok (.ireturn, 1) := by decide +kernel
theorem dJ9_min_7cf53_0 : decode cJ9_min_7cf53 0 = .ok (.iload_n 0, 1) := by decide +kernel
theorem dJ9_min_7cf53_1 : decode cJ9_min_7cf53 1 = .ok (.iload_n 1, 1) := by decide +kernel
theorem dJ9_min_7cf53_2 : decode cJ9_min_7cf53 2 = .ok (.if_icmp .gt 7, 3) := by decide +kernel
theorem dJ9_min_7cf53_5 : decode cJ9_min_7cf53 5 = .ok (.iload_n 0, 1) := by decide +kernel
theorem dJ9_min_7cf53_6 : decode cJ9_min_7cf53 6 = .ok (.goto 4, 3) := by decide +kernel
theorem dJ9_min_7cf53_9 : decode cJ9_min_7cf53 9 = .ok (.iload_n 1, 1) := by decide +kernel
theorem dJ9_min_7cf53_10 : decode cJ9_min_7cf53 10 = .ok (.ireturn, 1) := by decide +kernel
theorem dJ7_rangeCheck_23922_0 : decode cJ7_rangeCheck_23922 0 = .ok (.iload_n 1, 1) := by decide +kernel
theorem dJ7_rangeCheck_23922_1 : decode cJ7_rangeCheck_23922 1 = .ok (.iload_n 2, 1) := by decide +kernel
theorem dJ7_rangeCheck_23922_2 : decode cJ7_rangeCheck_23922 2 = .ok (.if_icmp .le 44, 3) := by decide +kernel
theorem dJ7_rangeCheck_23922_5 : decode cJ7_rangeCheck_23922 5 = .ok (.new 43, 3) := by decide +kernel
theorem dJ7_rangeCheck_23922_8 : decode cJ7_rangeCheck_23922 8 = .ok (.dup, 1) := by decide +kernel
theorem dJ7_rangeCheck_23922_9 : decode cJ7_rangeCheck_23922 9 = .ok (.new 45, 3) := by decide +kernel
theorem dJ7_rangeCheck_23922_12 : decode cJ7_rangeCheck_23922 12 = .ok (.dup, 1) := by decide +kernel
theorem dJ7_rangeCheck_23922_13 : decode cJ7_rangeCheck_23922 13 = .ok (.invokespecial 47, 3) := by decide +kernel
theorem dJ7_rangeCheck_23922_16 : decode cJ7_rangeCheck_23922 16 = .ok (.ldc 48, 2) := by decide +kernel
theorem dJ7_rangeCheck_23922_18 : decode cJ7_rangeCheck_23922 18 = .ok (.invokevirtual 50, 3) := by decide +kernel
theorem dJ7_rangeCheck_23922_21 : decode cJ7_rangeCheck_23922 21 = .ok (.iload_n 1, 1) := by decide +kernel
theorem dJ7_rangeCheck_23922_22 : decode cJ7_rangeCheck_23922 22 = .ok (.invokevirtual 54, 3) := by decide +kernel
theorem dJ7_rangeCheck_23922_25 : decode cJ7_rangeCheck_23922 25 = .ok (.ldc 57, 2) := by decide +kernel
theorem dJ7_rangeCheck_23922_27 : decode cJ7_rangeCheck_23922 27 = .ok (.invokevirtual 50, 3) := by decide +kernel
theorem dJ7_rangeCheck_23922_30 : decode cJ7_rangeCheck_23922 30 = .ok (.iload_n 2, 1) := by decide +kernel
theorem dJ7_rangeCheck_23922_31 : decode cJ7_rangeCheck_23922 31 = .ok (.invokevirtual 54, 3) := by decide +kernel
theorem dJ7_rangeCheck_23922_34 : decode cJ7_rangeCheck_23922 34 = .ok (.ldc 59, 2) := by decide +kernel
theorem dJ7_rangeCheck_23922_36 : decode cJ7_rangeCheck_23922 36 = .ok (.invokevirtual 50, 3) := by decide +kernel
theorem dJ7_rangeCheck_23922_39 : decode cJ7_rangeCheck_23922 39 = .ok (.invokevirtual 61, 3) := by decide +kernel
theorem dJ7_rangeCheck_23922_42 : decode cJ7_rangeCheck_23922 42 = .ok (.invokespecial 65, 3) := by decide +kernel
theorem dJ7_rangeCheck_23922_45 : decode cJ7_rangeCheck_23922 45 = .ok (.athrow, 1) := by decide +kernel
theorem dJ7_rangeCheck_23922_46 : decode cJ7_rangeCheck_23922 46 = .ok (.iload_n 1, 1) := by decide +kernel
theorem dJ7_rangeCheck_23922_47 : decode cJ7_rangeCheck_23922 47 = .ok (.ifCond .ge 12, 3) := by decide +kernel
theorem dJ7_rangeCheck_23922_50 : decode cJ7_rangeCheck_23922 50 = .ok (.new 68, 3) := by decide +kernel
theorem dJ7_rangeCheck_23922_53 : decode cJ7_rangeCheck_23922 53 = .ok (.dup, 1) := by decide +kernel
theorem dJ7_rangeCheck_23922_54 : decode cJ7_rangeCheck_23922 54 = .ok (.iload_n 1, 1) := by decide +kernel
theorem dJ7_rangeCheck_23922_55 : decode cJ7_rangeCheck_23922 55 = .ok (.invokespecial 70, 3) := by decide +kernel
theorem dJ7_rangeCheck_23922_58 : decode cJ7_rangeCheck_23922 58 = .ok (.athrow, 1) := by decide +kernel
theorem dJ7_rangeCheck_23922_59 : decode cJ7_rangeCheck_23922 59 = .ok (.iload_n 2, 1) := by decide +kernel
theorem dJ7_rangeCheck_23922_60 : decode cJ7_rangeCheck_23922 60 = .ok (.iload_n 0, 1) := by decide +kernel
theorem dJ7_rangeCheck_23922_61 : decode cJ7_rangeCheck_23922 61 = .ok (.if_icmp .le 12, 3) := by decide +kernel
theorem dJ7_rangeCheck_23922_64 : decode cJ7_rangeCheck_23922 64 = .ok (.new 68, 3) := by decide +kernel
theorem dJ7_rangeCheck_23922_67 : decode cJ7_rangeCheck_23922 67 = .ok (.dup, 1) := by decide +kernel
theorem dJ7_rangeCheck_23922_68 : decode cJ7_rangeCheck_23922 68 = .ok (.iload_n 2, 1) := by decide +kernel
theorem dJ7_rangeCheck_23922_69 : decode cJ7_rangeCheck_23922 69 = .ok (.invokespecial 70, 3) := by decide +kernel
theorem dJ7_rangeCheck_23922_72 : decode cJ7_rangeCheck_23922 72 = .ok (.athrow, 1) := by decide +kernel
theorem dJ7_rangeCheck_23922_73 : decode cJ7_rangeCheck_23922 73 = .ok (.return_, 1) := by decide +kernel
theorem dJ7_fill_53178_0 : decode cJ7_fill_53178 0 = .ok (.iconst 0, 1) := by decide +kernel
theorem dJ7_fill_53178_1 : decode cJ7_fill_53178 1 = .ok (.istore_n 2, 1) := by decide +kernel
theorem dJ7_fill_53178_2 : decode cJ7_fill_53178 2 = .ok (.aload_n 0, 1) := by decide +kernel
theorem dJ7_fill_53178_3 : decode cJ7_fill_53178 3 = .ok (.arraylength, 1) := by decide +kernel
theorem dJ7_fill_53178_4 : decode cJ7_fill_53178 4 = .ok (.istore_n 3, 1) := by decide +kernel
theorem dJ7_fill_53178_5 : decode cJ7_fill_53178 5 = .ok (.iload_n 2, 1) := by decide +kernel
theorem dJ7_fill_53178_6 : decode cJ7_fill_53178 6 = .ok (.iload_n 3, 1) := by decide +kernel
theorem dJ7_fill_53178_7 : decode cJ7_fill_53178 7 = .ok (.if_icmp .ge 13, 3) := by decide +kernel
theorem dJ7_fill_53178_10 : decode cJ7_fill_53178 10 = .ok (.aload_n 0, 1) := by decide +kernel
theorem dJ7_fill_53178_11 : decode cJ7_fill_53178 11 = .ok (.iload_n 2, 1) := by decide +kernel
theorem dJ7_fill_53178_12 : decode cJ7_fill_53178 12 = .ok (.iload_n 1, 1) := by decide +kernel
theorem dJ7_fill_53178_13 : decode cJ7_fill_53178 13 = .ok (.iastore, 1) := by decide +kernel
theorem dJ7_fill_53178_14 : decode cJ7_fill_53178 14 = .ok (.iinc 2 1, 3) := by decide +kernel
theorem dJ7_fill_53178_17 : decode cJ7_fill_53178 17 = .ok (.goto (-12), 3) := by decide +kernel
theorem dJ7_fill_53178_20 : decode cJ7_fill_53178 20 = .ok (.return_, 1) := by decide +kernel
theorem dJ7_fill_fda19_0 : decode cJ7_fill_fda19 0 = .ok (.aload_n 0, 1) := by decide +kernel
theorem dJ7_fill_fda19_1 : decode cJ7_fill_fda19 1 = .ok (.arraylength, 1) := by decide +kernel
theorem dJ7_fill_fda19_2 : decode cJ7_fill_fda19 2 = .ok (.iload_n 1, 1) := by decide +kernel
theorem dJ7_fill_fda19_3 : decode cJ7_fill_fda19 3 = .ok (.iload_n 2, 1) := by decide +kernel
theorem dJ7_fill_fda19_4 : decode cJ7_fill_fda19 4 = .ok (.invokestatic 13, 3) := by decide +kernel
theorem dJ7_fill_fda19_7 : decode cJ7_fill_fda19 7 = .ok (.iload_n 1, 1) := by decide +kernel
theorem dJ7_fill_fda19_8 : decode cJ7_fill_fda19 8 = .ok (.istore 4, 2) := by decide +kernel
theorem dJ7_fill_fda19_10 : decode cJ7_fill_fda19 10 = .ok (.iload 4, 2) := by decide +kernel
theorem dJ7_fill_fda19_12 : decode cJ7_fill_fda19 12 = .ok (.iload_n 2, 1) := by decide +kernel
theorem dJ7_fill_fda19_13 : decode cJ7_fill_fda19 13 = .ok (.if_icmp .ge 14, 3) := by decide +kernel
theorem dJ7_fill_fda19_16 : decode cJ7_fill_fda19 16 = .ok (.aload_n 0, 1) := by decide +kernel
theorem dJ7_fill_fda19_17 : decode cJ7_fill_fda19 17 = .ok (.iload 4, 2) := by decide +kernel
theorem dJ7_fill_fda19_19 : decode cJ7_fill_fda19 19 = .ok (.iload_n 3, 1) := by decide +kernel
theorem dJ7_fill_fda19_20 : decode cJ7_fill_fda19 20 = .ok (.iastore, 1) := by decide +kernel
theorem dJ7_fill_fda19_21 : decode cJ7_fill_fda19 21 = .ok (.iinc 4 1, 3) := by decide +kernel
theorem dJ7_fill_fda19_24 : decode cJ7_fill_fda19 24 = .ok (.goto (-14), 3) := by decide +kernel
theorem dJ7_fill_fda19_27 : decode cJ7_fill_fda19 27 = .ok (.return_, 1) := by decide +kernel
theorem dL_law_0 : decode cL_law 0 = .ok (.new 7, 3) := by decide +kernel
theorem dL_law_3 : decode cL_law 3 = .ok (.dup, 1) := by decide +kernel
theorem dL_law_4 : decode cL_law 4 = .ok (.invokespecial 9, 3) := by decide +kernel
theorem dL_law_7 : decode cL_law 7 = .ok (.astore_n 1, 1) := by decide +kernel
theorem dL_law_8 : decode cL_law 8 = .ok (.new 10, 3) := by decide +kernel
theorem dL_law_11 : decode cL_law 11 = .ok (.dup, 1) := by decide +kernel
theorem dL_law_12 : decode cL_law 12 = .ok (.invokespecial 12, 3) := by decide +kernel
theorem dL_law_15 : decode cL_law 15 = .ok (.astore_n 2, 1) := by decide +kernel
theorem dL_law_16 : decode cL_law 16 = .ok (.iconst 0, 1) := by decide +kernel
theorem dL_law_17 : decode cL_law 17 = .ok (.istore_n 3, 1) := by decide +kernel
theorem dL_law_18 : decode cL_law 18 = .ok (.iload_n 3, 1) := by decide +kernel
theorem dL_law_19 : decode cL_law 19 = .ok (.aload_n 0, 1) := by decide +kernel
theorem dL_law_20 : decode cL_law 20 = .ok (.arraylength, 1) := by decide +kernel
theorem dL_law_21 : decode cL_law 21 = .ok (.iconst 4, 1) := by decide +kernel
theorem dL_law_22 : decode cL_law 22 = .ok (.isub, 1) := by decide +kernel
theorem dL_law_23 : decode cL_law 23 = .ok (.if_icmp .gt 874, 3) := by decide +kernel
theorem dL_law_26 : decode cL_law 26 = .ok (.aload_n 0, 1) := by decide +kernel
theorem dL_law_27 : decode cL_law 27 = .ok (.iload_n 3, 1) := by decide +kernel
theorem dL_law_28 : decode cL_law 28 = .ok (.iaload, 1) := by decide +kernel
theorem dL_law_29 : decode cL_law 29 = .ok (.bipush 31, 2) := by decide +kernel
theorem dL_law_31 : decode cL_law 31 = .ok (.iand, 1) := by decide +kernel
theorem dL_law_32 : decode cL_law 32 = .ok (.tableswitch 859 0 25 #[120, 183, 196, 209, 222, 255, 288, 321, 355, 398, 431, 464, 497, 530, 553, 596, 629, 662, 675, 698, 721, 754, 767, 810, 823, 836], 120) := by decide +kernel
theorem dL_law_152 : decode cL_law 152 = .ok (.aload_n 1, 1) := by decide +kernel
theorem dL_law_153 : decode cL_law 153 = .ok (.aload_n 0, 1) := by decide +kernel
theorem dL_law_154 : decode cL_law 154 = .ok (.iload_n 3, 1) := by decide +kernel
theorem dL_law_155 : decode cL_law 155 = .ok (.iconst 1, 1) := by decide +kernel
theorem dL_law_156 : decode cL_law 156 = .ok (.iadd, 1) := by decide +kernel
theorem dL_law_157 : decode cL_law 157 = .ok (.iaload, 1) := by decide +kernel
theorem dL_law_158 : decode cL_law 158 = .ok (.aload_n 0, 1) := by decide +kernel
theorem dL_law_159 : decode cL_law 159 = .ok (.iload_n 3, 1) := by decide +kernel
theorem dL_law_160 : decode cL_law 160 = .ok (.iconst 2, 1) := by decide +kernel
theorem dL_law_161 : decode cL_law 161 = .ok (.iadd, 1) := by decide +kernel
theorem dL_law_162 : decode cL_law 162 = .ok (.iaload, 1) := by decide +kernel
theorem dL_law_163 : decode cL_law 163 = .ok (.i2l, 1) := by decide +kernel
theorem dL_law_164 : decode cL_law 164 = .ok (.bipush 32, 2) := by decide +kernel
theorem dL_law_166 : decode cL_law 166 = .ok (.lshl, 1) := by decide +kernel
theorem dL_law_167 : decode cL_law 167 = .ok (.aload_n 0, 1) := by decide +kernel
theorem dL_law_168 : decode cL_law 168 = .ok (.iload_n 3, 1) := by decide +kernel
theorem dL_law_169 : decode cL_law 169 = .ok (.iconst 3, 1) := by decide +kernel
theorem dL_law_170 : decode cL_law 170 = .ok (.iadd, 1) := by decide +kernel
theorem dL_law_171 : decode cL_law 171 = .ok (.iaload, 1) := by decide +kernel
theorem dL_law_172 : decode cL_law 172 = .ok (.i2l, 1) := by decide +kernel
theorem dL_law_173 : decode cL_law 173 = .ok (.ldc2_w 13, 3) := by decide +kernel
theorem dL_law_176 : decode cL_law 176 = .ok (.land, 1) := by decide +kernel
theorem dL_law_177 : decode cL_law 177 = .ok (.lor, 1) := by decide +kernel
theorem dL_law_178 : decode cL_law 178 = .ok (.invokevirtual 15, 3) := by decide +kernel
theorem dL_law_181 : decode cL_law 181 = .ok (.aload_n 2, 1) := by decide +kernel
theorem dL_law_182 : decode cL_law 182 = .ok (.aload_n 0, 1) := by decide +kernel
theorem dL_law_183 : decode cL_law 183 = .ok (.iload_n 3, 1) := by decide +kernel
theorem dL_law_184 : decode cL_law 184 = .ok (.iconst 1, 1) := by decide +kernel
theorem dL_law_185 : decode cL_law 185 = .ok (.iadd, 1) := by decide +kernel
theorem dL_law_186 : decode cL_law 186 = .ok (.iaload, 1) := by decide +kernel
theorem dL_law_187 : decode cL_law 187 = .ok (.aload_n 0, 1) := by decide +kernel
theorem dL_law_188 : decode cL_law 188 = .ok (.iload_n 3, 1) := by decide +kernel
theorem dL_law_189 : decode cL_law 189 = .ok (.iconst 2, 1) := by decide +kernel
theorem dL_law_190 : decode cL_law 190 = .ok (.iadd, 1) := by decide +kernel
theorem dL_law_191 : decode cL_law 191 = .ok (.iaload, 1) := by decide +kernel
theorem dL_law_192 : decode cL_law 192 = .ok (.i2l, 1) := by decide +kernel
theorem dL_law_193 : decode cL_law 193 = .ok (.bipush 32, 2) := by decide +kernel
theorem dL_law_195 : decode cL_law 195 = .ok (.lshl, 1) := by decide +kernel
theorem dL_law_196 : decode cL_law 196 = .ok (.aload_n 0, 1) := by decide +kernel
theorem dL_law_197 : decode cL_law 197 = .ok (.iload_n 3, 1) := by decide +kernel
theorem dL_law_198 : decode cL_law 198 = .ok (.iconst 3, 1) := by decide +kernel
theorem dL_law_199 : decode cL_law 199 = .ok (.iadd, 1) := by decide +kernel
theorem dL_law_200 : decode cL_law 200 = .ok (.iaload, 1) := by decide +kernel
theorem dL_law_201 : decode cL_law 201 = .ok (.i2l, 1) := by decide +kernel
theorem dL_law_202 : decode cL_law 202 = .ok (.ldc2_w 13, 3) := by decide +kernel
theorem dL_law_205 : decode cL_law 205 = .ok (.land, 1) := by decide +kernel
theorem dL_law_206 : decode cL_law 206 = .ok (.lor, 1) := by decide +kernel
theorem dL_law_207 : decode cL_law 207 = .ok (.invokevirtual 19, 3) := by decide +kernel
theorem dL_law_210 : decode cL_law 210 = .ok (.if_icmp .eq 681, 3) := by decide +kernel
theorem dL_law_213 : decode cL_law 213 = .ok (.iconst 0, 1) := by decide +kernel
theorem dL_law_214 : decode cL_law 214 = .ok (.ireturn, 1) := by decide +kernel
theorem dL_law_215 : decode cL_law 215 = .ok (.aload_n 1, 1) := by decide +kernel
theorem dL_law_216 : decode cL_law 216 = .ok (.invokevirtual 20, 3) := by decide +kernel
theorem dL_law_219 : decode cL_law 219 = .ok (.aload_n 2, 1) := by decide +kernel
theorem dL_law_220 : decode cL_law 220 = .ok (.invokevirtual 24, 3) := by decide +kernel
theorem dL_law_223 : decode cL_law 223 = .ok (.if_icmp .eq 668, 3) := by decide +kernel
theorem dL_law_226 : decode cL_law 226 = .ok (.iconst 0, 1) := by decide +kernel
theorem dL_law_227 : decode cL_law 227 = .ok (.ireturn, 1) := by decide +kernel
theorem dL_law_228 : decode cL_law 228 = .ok (.aload_n 1, 1) := by decide +kernel
theorem dL_law_229 : decode cL_law 229 = .ok (.invokevirtual 25, 3) := by decide +kernel
theorem dL_law_232 : decode cL_law 232 = .ok (.aload_n 2, 1) := by decide +kernel
theorem dL_law_233 : decode cL_law 233 = .ok (.invokevirtual 28, 3) := by decide +kernel
theorem dL_law_236 : decode cL_law 236 = .ok (.if_icmp .eq 655, 3) := by decide +kernel
theorem dL_law_239 : decode cL_law 239 = .ok (.iconst 0, 1) := by decide +kernel
theorem dL_law_240 : decode cL_law 240 = .ok (.ireturn, 1) := by decide +kernel
theorem dL_law_241 : decode cL_law 241 = .ok (.aload_n 1, 1) := by decide +kernel
theorem dL_law_242 : decode cL_law 242 = .ok (.invokevirtual 29, 3) := by decide +kernel
theorem dL_law_245 : decode cL_law 245 = .ok (.aload_n 2, 1) := by decide +kernel
theorem dL_law_246 : decode cL_law 246 = .ok (.invokevirtual 32, 3) := by decide +kernel
theorem dL_law_249 : decode cL_law 249 = .ok (.if_icmp .eq 642, 3) := by decide +kernel
theorem dL_law_252 : decode cL_law 252 = .ok (.iconst 0, 1) := by decide +kernel
theorem dL_law_253 : decode cL_law 253 = .ok (.ireturn, 1) := by decide +kernel
theorem dL_law_254 : decode cL_law 254 = .ok (.aload_n 1, 1) := by decide +kernel
theorem dL_law_255 : decode cL_law 255 = .ok (.aload_n 0, 1) := by decide +kernel
theorem dL_law_256 : decode cL_law 256 = .ok (.iload_n 3, 1) := by decide +kernel
theorem dL_law_257 : decode cL_law 257 = .ok (.iconst 1, 1) := by decide +kernel
theorem dL_law_258 : decode cL_law 258 = .ok (.iadd, 1) := by decide +kernel
theorem dL_law_259 : decode cL_law 259 = .ok (.iaload, 1) := by decide +kernel
theorem dL_law_260 : decode cL_law 260 = .ok (.aload_n 0, 1) := by decide +kernel
theorem dL_law_261 : decode cL_law 261 = .ok (.iload_n 3, 1) := by decide +kernel
theorem dL_law_262 : decode cL_law 262 = .ok (.iconst 2, 1) := by decide +kernel
theorem dL_law_263 : decode cL_law 263 = .ok (.iadd, 1) := by decide +kernel
theorem dL_law_264 : decode cL_law 264 = .ok (.iaload, 1) := by decide +kernel
theorem dL_law_265 : decode cL_law 265 = .ok (.invokevirtual 33, 3) := by decide +kernel
theorem dL_law_268 : decode cL_law 268 = .ok (.aload_n 2, 1) := by decide +kernel
theorem dL_law_269 : decode cL_law 269 = .ok (.aload_n 0, 1) := by decide +kernel
theorem dL_law_270 : decode cL_law 270 = .ok (.iload_n 3, 1) := by decide +kernel
theorem dL_law_271 : decode cL_law 271 = .ok (.iconst 1, 1) := by decide +kernel
theorem dL_law_272 : decode cL_law 272 = .ok (.iadd, 1) := by decide +kernel
theorem dL_law_273 : decode cL_law 273 = .ok (.iaload, 1) := by decide +kernel
theorem dL_law_274 : decode cL_law 274 = .ok (.aload_n 0, 1) := by decide +kernel
theorem dL_law_275 : decode cL_law 275 = .ok (.iload_n 3, 1) := by decide +kernel
theorem dL_law_276 : decode cL_law 276 = .ok (.iconst 2, 1) := by decide +kernel
theorem dL_law_277 : decode cL_law 277 = .ok (.iadd, 1) := by decide +kernel
theorem dL_law_278 : decode cL_law 278 = .ok (.iaload, 1) := by decide +kernel
theorem dL_law_279 : decode cL_law 279 = .ok (.invokevirtual 37, 3) := by decide +kernel
theorem dL_law_282 : decode cL_law 282 = .ok (.if_icmp .eq 609, 3) := by decide +kernel
theorem dL_law_285 : decode cL_law 285 = .ok (.iconst 0, 1) := by decide +kernel
theorem dL_law_286 : decode cL_law 286 = .ok (.ireturn, 1) := by decide +kernel
theorem dL_law_287 : decode cL_law 287 = .ok (.aload_n 1, 1) := by decide +kernel
theorem dL_law_288 : decode cL_law 288 = .ok (.aload_n 0, 1) := by decide +kernel
theorem dL_law_289 : decode cL_law 289 = .ok (.iload_n 3, 1) := by decide +kernel
theorem dL_law_290 : decode cL_law 290 = .ok (.iconst 1, 1) := by decide +kernel
theorem dL_law_291 : decode cL_law 291 = .ok (.iadd, 1) := by decide +kernel
theorem dL_law_292 : decode cL_law 292 = .ok (.iaload, 1) := by decide +kernel
theorem dL_law_293 : decode cL_law 293 = .ok (.aload_n 0, 1) := by decide +kernel
theorem dL_law_294 : decode cL_law 294 = .ok (.iload_n 3, 1) := by decide +kernel
theorem dL_law_295 : decode cL_law 295 = .ok (.iconst 2, 1) := by decide +kernel
theorem dL_law_296 : decode cL_law 296 = .ok (.iadd, 1) := by decide +kernel
theorem dL_law_297 : decode cL_law 297 = .ok (.iaload, 1) := by decide +kernel
theorem dL_law_298 : decode cL_law 298 = .ok (.invokevirtual 38, 3) := by decide +kernel
theorem dL_law_301 : decode cL_law 301 = .ok (.aload_n 2, 1) := by decide +kernel
theorem dL_law_302 : decode cL_law 302 = .ok (.aload_n 0, 1) := by decide +kernel
theorem dL_law_303 : decode cL_law 303 = .ok (.iload_n 3, 1) := by decide +kernel
theorem dL_law_304 : decode cL_law 304 = .ok (.iconst 1, 1) := by decide +kernel
theorem dL_law_305 : decode cL_law 305 = .ok (.iadd, 1) := by decide +kernel
theorem dL_law_306 : decode cL_law 306 = .ok (.iaload, 1) := by decide +kernel
theorem dL_law_307 : decode cL_law 307 = .ok (.aload_n 0, 1) := by decide +kernel
theorem dL_law_308 : decode cL_law 308 = .ok (.iload_n 3, 1) := by decide +kernel
theorem dL_law_309 : decode cL_law 309 = .ok (.iconst 2, 1) := by decide +kernel
theorem dL_law_310 : decode cL_law 310 = .ok (.iadd, 1) := by decide +kernel
theorem dL_law_311 : decode cL_law 311 = .ok (.iaload, 1) := by decide +kernel
theorem dL_law_312 : decode cL_law 312 = .ok (.invokevirtual 41, 3) := by decide +kernel
theorem dL_law_315 : decode cL_law 315 = .ok (.if_icmp .eq 576, 3) := by decide +kernel
theorem dL_law_318 : decode cL_law 318 = .ok (.iconst 0, 1) := by decide +kernel
theorem dL_law_319 : decode cL_law 319 = .ok (.ireturn, 1) := by decide +kernel
theorem dL_law_320 : decode cL_law 320 = .ok (.aload_n 1, 1) := by decide +kernel
theorem dL_law_321 : decode cL_law 321 = .ok (.aload_n 0, 1) := by decide +kernel
theorem dL_law_322 : decode cL_law 322 = .ok (.iload_n 3, 1) := by decide +kernel
theorem dL_law_323 : decode cL_law 323 = .ok (.iconst 1, 1) := by decide +kernel
theorem dL_law_324 : decode cL_law 324 = .ok (.iadd, 1) := by decide +kernel
theorem dL_law_325 : decode cL_law 325 = .ok (.iaload, 1) := by decide +kernel
theorem dL_law_326 : decode cL_law 326 = .ok (.aload_n 0, 1) := by decide +kernel
theorem dL_law_327 : decode cL_law 327 = .ok (.iload_n 3, 1) := by decide +kernel
theorem dL_law_328 : decode cL_law 328 = .ok (.iconst 2, 1) := by decide +kernel
theorem dL_law_329 : decode cL_law 329 = .ok (.iadd, 1) := by decide +kernel
theorem dL_law_330 : decode cL_law 330 = .ok (.iaload, 1) := by decide +kernel
theorem dL_law_331 : decode cL_law 331 = .ok (.invokevirtual 42, 3) := by decide +kernel
theorem dL_law_334 : decode cL_law 334 = .ok (.aload_n 2, 1) := by decide +kernel
theorem dL_law_335 : decode cL_law 335 = .ok (.aload_n 0, 1) := by decide +kernel
theorem dL_law_336 : decode cL_law 336 = .ok (.iload_n 3, 1) := by decide +kernel
theorem dL_law_337 : decode cL_law 337 = .ok (.iconst 1, 1) := by decide +kernel
theorem dL_law_338 : decode cL_law 338 = .ok (.iadd, 1) := by decide +kernel
theorem dL_law_339 : decode cL_law 339 = .ok (.iaload, 1) := by decide +kernel
theorem dL_law_340 : decode cL_law 340 = .ok (.aload_n 0, 1) := by decide +kernel
theorem dL_law_341 : decode cL_law 341 = .ok (.iload_n 3, 1) := by decide +kernel
theorem dL_law_342 : decode cL_law 342 = .ok (.iconst 2, 1) := by decide +kernel
theorem dL_law_343 : decode cL_law 343 = .ok (.iadd, 1) := by decide +kernel
theorem dL_law_344 : decode cL_law 344 = .ok (.iaload, 1) := by decide +kernel
theorem dL_law_345 : decode cL_law 345 = .ok (.invokevirtual 45, 3) := by decide +kernel
theorem dL_law_348 : decode cL_law 348 = .ok (.if_icmp .eq 543, 3) := by decide +kernel
theorem dL_law_351 : decode cL_law 351 = .ok (.iconst 0, 1) := by decide +kernel
theorem dL_law_352 : decode cL_law 352 = .ok (.ireturn, 1) := by decide +kernel
theorem dL_law_353 : decode cL_law 353 = .ok (.aload_n 1, 1) := by decide +kernel
theorem dL_law_354 : decode cL_law 354 = .ok (.aload_n 0, 1) := by decide +kernel
theorem dL_law_355 : decode cL_law 355 = .ok (.iload_n 3, 1) := by decide +kernel
theorem dL_law_356 : decode cL_law 356 = .ok (.iconst 1, 1) := by decide +kernel
theorem dL_law_357 : decode cL_law 357 = .ok (.iadd, 1) := by decide +kernel
theorem dL_law_358 : decode cL_law 358 = .ok (.iaload, 1) := by decide +kernel
theorem dL_law_359 : decode cL_law 359 = .ok (.aload_n 0, 1) := by decide +kernel
theorem dL_law_360 : decode cL_law 360 = .ok (.iload_n 3, 1) := by decide +kernel
theorem dL_law_361 : decode cL_law 361 = .ok (.iconst 2, 1) := by decide +kernel
theorem dL_law_362 : decode cL_law 362 = .ok (.iadd, 1) := by decide +kernel
theorem dL_law_363 : decode cL_law 363 = .ok (.iaload, 1) := by decide +kernel
theorem dL_law_364 : decode cL_law 364 = .ok (.invokevirtual 46, 3) := by decide +kernel
theorem dL_law_367 : decode cL_law 367 = .ok (.aload_n 2, 1) := by decide +kernel
theorem dL_law_368 : decode cL_law 368 = .ok (.aload_n 0, 1) := by decide +kernel
theorem dL_law_369 : decode cL_law 369 = .ok (.iload_n 3, 1) := by decide +kernel
theorem dL_law_370 : decode cL_law 370 = .ok (.iconst 1, 1) := by decide +kernel
theorem dL_law_371 : decode cL_law 371 = .ok (.iadd, 1) := by decide +kernel
theorem dL_law_372 : decode cL_law 372 = .ok (.iaload, 1) := by decide +kernel
theorem dL_law_373 : decode cL_law 373 = .ok (.aload_n 0, 1) := by decide +kernel
theorem dL_law_374 : decode cL_law 374 = .ok (.iload_n 3, 1) := by decide +kernel
theorem dL_law_375 : decode cL_law 375 = .ok (.iconst 2, 1) := by decide +kernel
theorem dL_law_376 : decode cL_law 376 = .ok (.iadd, 1) := by decide +kernel
theorem dL_law_377 : decode cL_law 377 = .ok (.iaload, 1) := by decide +kernel
theorem dL_law_378 : decode cL_law 378 = .ok (.invokevirtual 50, 3) := by decide +kernel
theorem dL_law_381 : decode cL_law 381 = .ok (.lcmp, 1) := by decide +kernel
theorem dL_law_382 : decode cL_law 382 = .ok (.ifCond .eq 509, 3) := by decide +kernel
theorem dL_law_385 : decode cL_law 385 = .ok (.iconst 0, 1) := by decide +kernel
theorem dL_law_386 : decode cL_law 386 = .ok (.ireturn, 1) := by decide +kernel
theorem dL_law_387 : decode cL_law 387 = .ok (.aload_n 1, 1) := by decide +kernel
theorem dL_law_388 : decode cL_law 388 = .ok (.aload_n 0, 1) := by decide +kernel
theorem dL_law_389 : decode cL_law 389 = .ok (.iload_n 3, 1) := by decide +kernel
theorem dL_law_390 : decode cL_law 390 = .ok (.iconst 1, 1) := by decide +kernel
theorem dL_law_391 : decode cL_law 391 = .ok (.iadd, 1) := by decide +kernel
theorem dL_law_392 : decode cL_law 392 = .ok (.iaload, 1) := by decide +kernel
theorem dL_law_393 : decode cL_law 393 = .ok (.aload_n 0, 1) := by decide +kernel
theorem dL_law_394 : decode cL_law 394 = .ok (.iload_n 3, 1) := by decide +kernel
theorem dL_law_395 : decode cL_law 395 = .ok (.iconst 2, 1) := by decide +kernel
theorem dL_law_396 : decode cL_law 396 = .ok (.iadd, 1) := by decide +kernel
theorem dL_law_397 : decode cL_law 397 = .ok (.iaload, 1) := by decide +kernel
theorem dL_law_398 : decode cL_law 398 = .ok (.aload_n 0, 1) := by decide +kernel
theorem dL_law_399 : decode cL_law 399 = .ok (.iload_n 3, 1) := by decide +kernel
theorem dL_law_400 : decode cL_law 400 = .ok (.iconst 3, 1) := by decide +kernel
theorem dL_law_401 : decode cL_law 401 = .ok (.iadd, 1) := by decide +kernel
theorem dL_law_402 : decode cL_law 402 = .ok (.iaload, 1) := by decide +kernel
theorem dL_law_403 : decode cL_law 403 = .ok (.invokevirtual 51, 3) := by decide +kernel
theorem dL_law_406 : decode cL_law 406 = .ok (.aload_n 2, 1) := by decide +kernel
theorem dL_law_407 : decode cL_law 407 = .ok (.aload_n 0, 1) := by decide +kernel
theorem dL_law_408 : decode cL_law 408 = .ok (.iload_n 3, 1) := by decide +kernel
theorem dL_law_409 : decode cL_law 409 = .ok (.iconst 1, 1) := by decide +kernel
theorem dL_law_410 : decode cL_law 410 = .ok (.iadd, 1) := by decide +kernel
theorem dL_law_411 : decode cL_law 411 = .ok (.iaload, 1) := by decide +kernel
theorem dL_law_412 : decode cL_law 412 = .ok (.aload_n 0, 1) := by decide +kernel
theorem dL_law_413 : decode cL_law 413 = .ok (.iload_n 3, 1) := by decide +kernel
theorem dL_law_414 : decode cL_law 414 = .ok (.iconst 2, 1) := by decide +kernel
theorem dL_law_415 : decode cL_law 415 = .ok (.iadd, 1) := by decide +kernel
theorem dL_law_416 : decode cL_law 416 = .ok (.iaload, 1) := by decide +kernel
theorem dL_law_417 : decode cL_law 417 = .ok (.aload_n 0, 1) := by decide +kernel
theorem dL_law_418 : decode cL_law 418 = .ok (.iload_n 3, 1) := by decide +kernel
theorem dL_law_419 : decode cL_law 419 = .ok (.iconst 3, 1) := by decide +kernel
theorem dL_law_420 : decode cL_law 420 = .ok (.iadd, 1) := by decide +kernel
theorem dL_law_421 : decode cL_law 421 = .ok (.iaload, 1) := by decide +kernel
theorem dL_law_422 : decode cL_law 422 = .ok (.invokevirtual 55, 3) := by decide +kernel
theorem dL_law_425 : decode cL_law 425 = .ok (.if_icmp .eq 466, 3) := by decide +kernel
theorem dL_law_428 : decode cL_law 428 = .ok (.iconst 0, 1) := by decide +kernel
theorem dL_law_429 : decode cL_law 429 = .ok (.ireturn, 1) := by decide +kernel
theorem dL_law_430 : decode cL_law 430 = .ok (.aload_n 1, 1) := by decide +kernel
theorem dL_law_431 : decode cL_law 431 = .ok (.aload_n 0, 1) := by decide +kernel
theorem dL_law_432 : decode cL_law 432 = .ok (.iload_n 3, 1) := by decide +kernel
theorem dL_law_433 : decode cL_law 433 = .ok (.iconst 1, 1) := by decide +kernel
theorem dL_law_434 : decode cL_law 434 = .ok (.iadd, 1) := by decide +kernel
theorem dL_law_435 : decode cL_law 435 = .ok (.iaload, 1) := by decide +kernel
theorem dL_law_436 : decode cL_law 436 = .ok (.aload_n 0, 1) := by decide +kernel
theorem dL_law_437 : decode cL_law 437 = .ok (.iload_n 3, 1) := by decide +kernel
theorem dL_law_438 : decode cL_law 438 = .ok (.iconst 2, 1) := by decide +kernel
theorem dL_law_439 : decode cL_law 439 = .ok (.iadd, 1) := by decide +kernel
theorem dL_law_440 : decode cL_law 440 = .ok (.iaload, 1) := by decide +kernel
theorem dL_law_441 : decode cL_law 441 = .ok (.invokevirtual 56, 3) := by decide +kernel
theorem dL_law_444 : decode cL_law 444 = .ok (.aload_n 2, 1) := by decide +kernel
theorem dL_law_445 : decode cL_law 445 = .ok (.aload_n 0, 1) := by decide +kernel
theorem dL_law_446 : decode cL_law 446 = .ok (.iload_n 3, 1) := by decide +kernel
theorem dL_law_447 : decode cL_law 447 = .ok (.iconst 1, 1) := by decide +kernel
theorem dL_law_448 : decode cL_law 448 = .ok (.iadd, 1) := by decide +kernel
theorem dL_law_449 : decode cL_law 449 = .ok (.iaload, 1) := by decide +kernel
theorem dL_law_450 : decode cL_law 450 = .ok (.aload_n 0, 1) := by decide +kernel
theorem dL_law_451 : decode cL_law 451 = .ok (.iload_n 3, 1) := by decide +kernel
theorem dL_law_452 : decode cL_law 452 = .ok (.iconst 2, 1) := by decide +kernel
theorem dL_law_453 : decode cL_law 453 = .ok (.iadd, 1) := by decide +kernel
theorem dL_law_454 : decode cL_law 454 = .ok (.iaload, 1) := by decide +kernel
theorem dL_law_455 : decode cL_law 455 = .ok (.invokevirtual 59, 3) := by decide +kernel
theorem dL_law_458 : decode cL_law 458 = .ok (.if_icmp .eq 433, 3) := by decide +kernel
theorem dL_law_461 : decode cL_law 461 = .ok (.iconst 0, 1) := by decide +kernel
theorem dL_law_462 : decode cL_law 462 = .ok (.ireturn, 1) := by decide +kernel
theorem dL_law_463 : decode cL_law 463 = .ok (.aload_n 1, 1) := by decide +kernel
theorem dL_law_464 : decode cL_law 464 = .ok (.aload_n 0, 1) := by decide +kernel
theorem dL_law_465 : decode cL_law 465 = .ok (.iload_n 3, 1) := by decide +kernel
theorem dL_law_466 : decode cL_law 466 = .ok (.iconst 1, 1) := by decide +kernel
theorem dL_law_467 : decode cL_law 467 = .ok (.iadd, 1) := by decide +kernel
theorem dL_law_468 : decode cL_law 468 = .ok (.iaload, 1) := by decide +kernel
theorem dL_law_469 : decode cL_law 469 = .ok (.aload_n 0, 1) := by decide +kernel
theorem dL_law_470 : decode cL_law 470 = .ok (.iload_n 3, 1) := by decide +kernel
theorem dL_law_471 : decode cL_law 471 = .ok (.iconst 2, 1) := by decide +kernel
theorem dL_law_472 : decode cL_law 472 = .ok (.iadd, 1) := by decide +kernel
theorem dL_law_473 : decode cL_law 473 = .ok (.iaload, 1) := by decide +kernel
theorem dL_law_474 : decode cL_law 474 = .ok (.invokevirtual 60, 3) := by decide +kernel
theorem dL_law_477 : decode cL_law 477 = .ok (.aload_n 2, 1) := by decide +kernel
theorem dL_law_478 : decode cL_law 478 = .ok (.aload_n 0, 1) := by decide +kernel
theorem dL_law_479 : decode cL_law 479 = .ok (.iload_n 3, 1) := by decide +kernel
theorem dL_law_480 : decode cL_law 480 = .ok (.iconst 1, 1) := by decide +kernel
theorem dL_law_481 : decode cL_law 481 = .ok (.iadd, 1) := by decide +kernel
theorem dL_law_482 : decode cL_law 482 = .ok (.iaload, 1) := by decide +kernel
theorem dL_law_483 : decode cL_law 483 = .ok (.aload_n 0, 1) := by decide +kernel
theorem dL_law_484 : decode cL_law 484 = .ok (.iload_n 3, 1) := by decide +kernel
theorem dL_law_485 : decode cL_law 485 = .ok (.iconst 2, 1) := by decide +kernel
theorem dL_law_486 : decode cL_law 486 = .ok (.iadd, 1) := by decide +kernel
theorem dL_law_487 : decode cL_law 487 = .ok (.iaload, 1) := by decide +kernel
theorem dL_law_488 : decode cL_law 488 = .ok (.invokevirtual 63, 3) := by decide +kernel
theorem dL_law_491 : decode cL_law 491 = .ok (.if_icmp .eq 400, 3) := by decide +kernel
theorem dL_law_494 : decode cL_law 494 = .ok (.iconst 0, 1) := by decide +kernel
theorem dL_law_495 : decode cL_law 495 = .ok (.ireturn, 1) := by decide +kernel
theorem dL_law_496 : decode cL_law 496 = .ok (.aload_n 1, 1) := by decide +kernel
theorem dL_law_497 : decode cL_law 497 = .ok (.aload_n 0, 1) := by decide +kernel
theorem dL_law_498 : decode cL_law 498 = .ok (.iload_n 3, 1) := by decide +kernel
theorem dL_law_499 : decode cL_law 499 = .ok (.iconst 1, 1) := by decide +kernel
theorem dL_law_500 : decode cL_law 500 = .ok (.iadd, 1) := by decide +kernel
theorem dL_law_501 : decode cL_law 501 = .ok (.iaload, 1) := by decide +kernel
theorem dL_law_502 : decode cL_law 502 = .ok (.aload_n 0, 1) := by decide +kernel
theorem dL_law_503 : decode cL_law 503 = .ok (.iload_n 3, 1) := by decide +kernel
theorem dL_law_504 : decode cL_law 504 = .ok (.iconst 2, 1) := by decide +kernel
theorem dL_law_505 : decode cL_law 505 = .ok (.iadd, 1) := by decide +kernel
theorem dL_law_506 : decode cL_law 506 = .ok (.iaload, 1) := by decide +kernel
theorem dL_law_507 : decode cL_law 507 = .ok (.invokevirtual 64, 3) := by decide +kernel
theorem dL_law_510 : decode cL_law 510 = .ok (.aload_n 2, 1) := by decide +kernel
theorem dL_law_511 : decode cL_law 511 = .ok (.aload_n 0, 1) := by decide +kernel
theorem dL_law_512 : decode cL_law 512 = .ok (.iload_n 3, 1) := by decide +kernel
theorem dL_law_513 : decode cL_law 513 = .ok (.iconst 1, 1) := by decide +kernel
theorem dL_law_514 : decode cL_law 514 = .ok (.iadd, 1) := by decide +kernel
theorem dL_law_515 : decode cL_law 515 = .ok (.iaload, 1) := by decide +kernel
theorem dL_law_516 : decode cL_law 516 = .ok (.aload_n 0, 1) := by decide +kernel
theorem dL_law_517 : decode cL_law 517 = .ok (.iload_n 3, 1) := by decide +kernel
theorem dL_law_518 : decode cL_law 518 = .ok (.iconst 2, 1) := by decide +kernel
theorem dL_law_519 : decode cL_law 519 = .ok (.iadd, 1) := by decide +kernel
theorem dL_law_520 : decode cL_law 520 = .ok (.iaload, 1) := by decide +kernel
theorem dL_law_521 : decode cL_law 521 = .ok (.invokevirtual 67, 3) := by decide +kernel
theorem dL_law_524 : decode cL_law 524 = .ok (.if_icmp .eq 367, 3) := by decide +kernel
theorem dL_law_527 : decode cL_law 527 = .ok (.iconst 0, 1) := by decide +kernel
theorem dL_law_528 : decode cL_law 528 = .ok (.ireturn, 1) := by decide +kernel
theorem dL_law_529 : decode cL_law 529 = .ok (.aload_n 1, 1) := by decide +kernel
theorem dL_law_530 : decode cL_law 530 = .ok (.aload_n 0, 1) := by decide +kernel
theorem dL_law_531 : decode cL_law 531 = .ok (.iload_n 3, 1) := by decide +kernel
theorem dL_law_532 : decode cL_law 532 = .ok (.iconst 1, 1) := by decide +kernel
theorem dL_law_533 : decode cL_law 533 = .ok (.iadd, 1) := by decide +kernel
theorem dL_law_534 : decode cL_law 534 = .ok (.iaload, 1) := by decide +kernel
theorem dL_law_535 : decode cL_law 535 = .ok (.aload_n 0, 1) := by decide +kernel
theorem dL_law_536 : decode cL_law 536 = .ok (.iload_n 3, 1) := by decide +kernel
theorem dL_law_537 : decode cL_law 537 = .ok (.iconst 2, 1) := by decide +kernel
theorem dL_law_538 : decode cL_law 538 = .ok (.iadd, 1) := by decide +kernel
theorem dL_law_539 : decode cL_law 539 = .ok (.iaload, 1) := by decide +kernel
theorem dL_law_540 : decode cL_law 540 = .ok (.invokevirtual 68, 3) := by decide +kernel
theorem dL_law_543 : decode cL_law 543 = .ok (.aload_n 2, 1) := by decide +kernel
theorem dL_law_544 : decode cL_law 544 = .ok (.aload_n 0, 1) := by decide +kernel
theorem dL_law_545 : decode cL_law 545 = .ok (.iload_n 3, 1) := by decide +kernel
theorem dL_law_546 : decode cL_law 546 = .ok (.iconst 1, 1) := by decide +kernel
theorem dL_law_547 : decode cL_law 547 = .ok (.iadd, 1) := by decide +kernel
theorem dL_law_548 : decode cL_law 548 = .ok (.iaload, 1) := by decide +kernel
theorem dL_law_549 : decode cL_law 549 = .ok (.aload_n 0, 1) := by decide +kernel
theorem dL_law_550 : decode cL_law 550 = .ok (.iload_n 3, 1) := by decide +kernel
theorem dL_law_551 : decode cL_law 551 = .ok (.iconst 2, 1) := by decide +kernel
theorem dL_law_552 : decode cL_law 552 = .ok (.iadd, 1) := by decide +kernel
theorem dL_law_553 : decode cL_law 553 = .ok (.iaload, 1) := by decide +kernel
theorem dL_law_554 : decode cL_law 554 = .ok (.invokevirtual 71, 3) := by decide +kernel
theorem dL_law_557 : decode cL_law 557 = .ok (.if_icmp .eq 334, 3) := by decide +kernel
theorem dL_law_560 : decode cL_law 560 = .ok (.iconst 0, 1) := by decide +kernel
theorem dL_law_561 : decode cL_law 561 = .ok (.ireturn, 1) := by decide +kernel
theorem dL_law_562 : decode cL_law 562 = .ok (.aload_n 1, 1) := by decide +kernel
theorem dL_law_563 : decode cL_law 563 = .ok (.aload_n 0, 1) := by decide +kernel
theorem dL_law_564 : decode cL_law 564 = .ok (.iload_n 3, 1) := by decide +kernel
theorem dL_law_565 : decode cL_law 565 = .ok (.iconst 1, 1) := by decide +kernel
theorem dL_law_566 : decode cL_law 566 = .ok (.iadd, 1) := by decide +kernel
theorem dL_law_567 : decode cL_law 567 = .ok (.iaload, 1) := by decide +kernel
theorem dL_law_568 : decode cL_law 568 = .ok (.invokevirtual 72, 3) := by decide +kernel
theorem dL_law_571 : decode cL_law 571 = .ok (.aload_n 2, 1) := by decide +kernel
theorem dL_law_572 : decode cL_law 572 = .ok (.aload_n 0, 1) := by decide +kernel
theorem dL_law_573 : decode cL_law 573 = .ok (.iload_n 3, 1) := by decide +kernel
theorem dL_law_574 : decode cL_law 574 = .ok (.iconst 1, 1) := by decide +kernel
theorem dL_law_575 : decode cL_law 575 = .ok (.iadd, 1) := by decide +kernel
theorem dL_law_576 : decode cL_law 576 = .ok (.iaload, 1) := by decide +kernel
theorem dL_law_577 : decode cL_law 577 = .ok (.invokevirtual 76, 3) := by decide +kernel
theorem dL_law_580 : decode cL_law 580 = .ok (.if_icmp .eq 311, 3) := by decide +kernel
theorem dL_law_583 : decode cL_law 583 = .ok (.iconst 0, 1) := by decide +kernel
theorem dL_law_584 : decode cL_law 584 = .ok (.ireturn, 1) := by decide +kernel
theorem dL_law_585 : decode cL_law 585 = .ok (.aload_n 1, 1) := by decide +kernel
theorem dL_law_586 : decode cL_law 586 = .ok (.aload_n 0, 1) := by decide +kernel
theorem dL_law_587 : decode cL_law 587 = .ok (.iload_n 3, 1) := by decide +kernel
theorem dL_law_588 : decode cL_law 588 = .ok (.iconst 1, 1) := by decide +kernel
theorem dL_law_589 : decode cL_law 589 = .ok (.iadd, 1) := by decide +kernel
theorem dL_law_590 : decode cL_law 590 = .ok (.iaload, 1) := by decide +kernel
theorem dL_law_591 : decode cL_law 591 = .ok (.aload_n 0, 1) := by decide +kernel
theorem dL_law_592 : decode cL_law 592 = .ok (.iload_n 3, 1) := by decide +kernel
theorem dL_law_593 : decode cL_law 593 = .ok (.iconst 2, 1) := by decide +kernel
theorem dL_law_594 : decode cL_law 594 = .ok (.iadd, 1) := by decide +kernel
theorem dL_law_595 : decode cL_law 595 = .ok (.iaload, 1) := by decide +kernel
theorem dL_law_596 : decode cL_law 596 = .ok (.aload_n 0, 1) := by decide +kernel
theorem dL_law_597 : decode cL_law 597 = .ok (.iload_n 3, 1) := by decide +kernel
theorem dL_law_598 : decode cL_law 598 = .ok (.iconst 3, 1) := by decide +kernel
theorem dL_law_599 : decode cL_law 599 = .ok (.iadd, 1) := by decide +kernel
theorem dL_law_600 : decode cL_law 600 = .ok (.iaload, 1) := by decide +kernel
theorem dL_law_601 : decode cL_law 601 = .ok (.invokevirtual 77, 3) := by decide +kernel
theorem dL_law_604 : decode cL_law 604 = .ok (.aload_n 2, 1) := by decide +kernel
theorem dL_law_605 : decode cL_law 605 = .ok (.aload_n 0, 1) := by decide +kernel
theorem dL_law_606 : decode cL_law 606 = .ok (.iload_n 3, 1) := by decide +kernel
theorem dL_law_607 : decode cL_law 607 = .ok (.iconst 1, 1) := by decide +kernel
theorem dL_law_608 : decode cL_law 608 = .ok (.iadd, 1) := by decide +kernel
theorem dL_law_609 : decode cL_law 609 = .ok (.iaload, 1) := by decide +kernel
theorem dL_law_610 : decode cL_law 610 = .ok (.aload_n 0, 1) := by decide +kernel
theorem dL_law_611 : decode cL_law 611 = .ok (.iload_n 3, 1) := by decide +kernel
theorem dL_law_612 : decode cL_law 612 = .ok (.iconst 2, 1) := by decide +kernel
theorem dL_law_613 : decode cL_law 613 = .ok (.iadd, 1) := by decide +kernel
theorem dL_law_614 : decode cL_law 614 = .ok (.iaload, 1) := by decide +kernel
theorem dL_law_615 : decode cL_law 615 = .ok (.aload_n 0, 1) := by decide +kernel
theorem dL_law_616 : decode cL_law 616 = .ok (.iload_n 3, 1) := by decide +kernel
theorem dL_law_617 : decode cL_law 617 = .ok (.iconst 3, 1) := by decide +kernel
theorem dL_law_618 : decode cL_law 618 = .ok (.iadd, 1) := by decide +kernel
theorem dL_law_619 : decode cL_law 619 = .ok (.iaload, 1) := by decide +kernel
theorem dL_law_620 : decode cL_law 620 = .ok (.invokevirtual 80, 3) := by decide +kernel
theorem dL_law_623 : decode cL_law 623 = .ok (.if_icmp .eq 268, 3) := by decide +kernel
theorem dL_law_626 : decode cL_law 626 = .ok (.iconst 0, 1) := by decide +kernel
theorem dL_law_627 : decode cL_law 627 = .ok (.ireturn, 1) := by decide +kernel
theorem dL_law_628 : decode cL_law 628 = .ok (.aload_n 1, 1) := by decide +kernel
theorem dL_law_629 : decode cL_law 629 = .ok (.aload_n 0, 1) := by decide +kernel
theorem dL_law_630 : decode cL_law 630 = .ok (.iload_n 3, 1) := by decide +kernel
theorem dL_law_631 : decode cL_law 631 = .ok (.iconst 1, 1) := by decide +kernel
theorem dL_law_632 : decode cL_law 632 = .ok (.iadd, 1) := by decide +kernel
theorem dL_law_633 : decode cL_law 633 = .ok (.iaload, 1) := by decide +kernel
theorem dL_law_634 : decode cL_law 634 = .ok (.aload_n 0, 1) := by decide +kernel
theorem dL_law_635 : decode cL_law 635 = .ok (.iload_n 3, 1) := by decide +kernel
theorem dL_law_636 : decode cL_law 636 = .ok (.iconst 2, 1) := by decide +kernel
theorem dL_law_637 : decode cL_law 637 = .ok (.iadd, 1) := by decide +kernel
theorem dL_law_638 : decode cL_law 638 = .ok (.iaload, 1) := by decide +kernel
theorem dL_law_639 : decode cL_law 639 = .ok (.invokevirtual 81, 3) := by decide +kernel
theorem dL_law_642 : decode cL_law 642 = .ok (.aload_n 2, 1) := by decide +kernel
theorem dL_law_643 : decode cL_law 643 = .ok (.aload_n 0, 1) := by decide +kernel
theorem dL_law_644 : decode cL_law 644 = .ok (.iload_n 3, 1) := by decide +kernel
theorem dL_law_645 : decode cL_law 645 = .ok (.iconst 1, 1) := by decide +kernel
theorem dL_law_646 : decode cL_law 646 = .ok (.iadd, 1) := by decide +kernel
theorem dL_law_647 : decode cL_law 647 = .ok (.iaload, 1) := by decide +kernel
theorem dL_law_648 : decode cL_law 648 = .ok (.aload_n 0, 1) := by decide +kernel
theorem dL_law_649 : decode cL_law 649 = .ok (.iload_n 3, 1) := by decide +kernel
theorem dL_law_650 : decode cL_law 650 = .ok (.iconst 2, 1) := by decide +kernel
theorem dL_law_651 : decode cL_law 651 = .ok (.iadd, 1) := by decide +kernel
theorem dL_law_652 : decode cL_law 652 = .ok (.iaload, 1) := by decide +kernel
theorem dL_law_653 : decode cL_law 653 = .ok (.invokevirtual 84, 3) := by decide +kernel
theorem dL_law_656 : decode cL_law 656 = .ok (.if_icmp .eq 235, 3) := by decide +kernel
theorem dL_law_659 : decode cL_law 659 = .ok (.iconst 0, 1) := by decide +kernel
theorem dL_law_660 : decode cL_law 660 = .ok (.ireturn, 1) := by decide +kernel
theorem dL_law_661 : decode cL_law 661 = .ok (.aload_n 1, 1) := by decide +kernel
theorem dL_law_662 : decode cL_law 662 = .ok (.aload_n 0, 1) := by decide +kernel
theorem dL_law_663 : decode cL_law 663 = .ok (.iload_n 3, 1) := by decide +kernel
theorem dL_law_664 : decode cL_law 664 = .ok (.iconst 1, 1) := by decide +kernel
theorem dL_law_665 : decode cL_law 665 = .ok (.iadd, 1) := by decide +kernel
theorem dL_law_666 : decode cL_law 666 = .ok (.iaload, 1) := by decide +kernel
theorem dL_law_667 : decode cL_law 667 = .ok (.aload_n 0, 1) := by decide +kernel
theorem dL_law_668 : decode cL_law 668 = .ok (.iload_n 3, 1) := by decide +kernel
theorem dL_law_669 : decode cL_law 669 = .ok (.iconst 2, 1) := by decide +kernel
theorem dL_law_670 : decode cL_law 670 = .ok (.iadd, 1) := by decide +kernel
theorem dL_law_671 : decode cL_law 671 = .ok (.iaload, 1) := by decide +kernel
theorem dL_law_672 : decode cL_law 672 = .ok (.invokevirtual 85, 3) := by decide +kernel
theorem dL_law_675 : decode cL_law 675 = .ok (.aload_n 2, 1) := by decide +kernel
theorem dL_law_676 : decode cL_law 676 = .ok (.aload_n 0, 1) := by decide +kernel
theorem dL_law_677 : decode cL_law 677 = .ok (.iload_n 3, 1) := by decide +kernel
theorem dL_law_678 : decode cL_law 678 = .ok (.iconst 1, 1) := by decide +kernel
theorem dL_law_679 : decode cL_law 679 = .ok (.iadd, 1) := by decide +kernel
theorem dL_law_680 : decode cL_law 680 = .ok (.iaload, 1) := by decide +kernel
theorem dL_law_681 : decode cL_law 681 = .ok (.aload_n 0, 1) := by decide +kernel
theorem dL_law_682 : decode cL_law 682 = .ok (.iload_n 3, 1) := by decide +kernel
theorem dL_law_683 : decode cL_law 683 = .ok (.iconst 2, 1) := by decide +kernel
theorem dL_law_684 : decode cL_law 684 = .ok (.iadd, 1) := by decide +kernel
theorem dL_law_685 : decode cL_law 685 = .ok (.iaload, 1) := by decide +kernel
theorem dL_law_686 : decode cL_law 686 = .ok (.invokevirtual 88, 3) := by decide +kernel
theorem dL_law_689 : decode cL_law 689 = .ok (.if_icmp .eq 202, 3) := by decide +kernel
theorem dL_law_692 : decode cL_law 692 = .ok (.iconst 0, 1) := by decide +kernel
theorem dL_law_693 : decode cL_law 693 = .ok (.ireturn, 1) := by decide +kernel
theorem dL_law_694 : decode cL_law 694 = .ok (.aload_n 1, 1) := by decide +kernel
theorem dL_law_695 : decode cL_law 695 = .ok (.invokevirtual 89, 3) := by decide +kernel
theorem dL_law_698 : decode cL_law 698 = .ok (.aload_n 2, 1) := by decide +kernel
theorem dL_law_699 : decode cL_law 699 = .ok (.invokevirtual 92, 3) := by decide +kernel
theorem dL_law_702 : decode cL_law 702 = .ok (.if_icmp .eq 189, 3) := by decide +kernel
theorem dL_law_705 : decode cL_law 705 = .ok (.iconst 0, 1) := by decide +kernel
theorem dL_law_706 : decode cL_law 706 = .ok (.ireturn, 1) := by decide +kernel
theorem dL_law_707 : decode cL_law 707 = .ok (.aload_n 1, 1) := by decide +kernel
theorem dL_law_708 : decode cL_law 708 = .ok (.aload_n 0, 1) := by decide +kernel
theorem dL_law_709 : decode cL_law 709 = .ok (.iload_n 3, 1) := by decide +kernel
theorem dL_law_710 : decode cL_law 710 = .ok (.iconst 1, 1) := by decide +kernel
theorem dL_law_711 : decode cL_law 711 = .ok (.iadd, 1) := by decide +kernel
theorem dL_law_712 : decode cL_law 712 = .ok (.iaload, 1) := by decide +kernel
theorem dL_law_713 : decode cL_law 713 = .ok (.invokevirtual 93, 3) := by decide +kernel
theorem dL_law_716 : decode cL_law 716 = .ok (.aload_n 2, 1) := by decide +kernel
theorem dL_law_717 : decode cL_law 717 = .ok (.aload_n 0, 1) := by decide +kernel
theorem dL_law_718 : decode cL_law 718 = .ok (.iload_n 3, 1) := by decide +kernel
theorem dL_law_719 : decode cL_law 719 = .ok (.iconst 1, 1) := by decide +kernel
theorem dL_law_720 : decode cL_law 720 = .ok (.iadd, 1) := by decide +kernel
theorem dL_law_721 : decode cL_law 721 = .ok (.iaload, 1) := by decide +kernel
theorem dL_law_722 : decode cL_law 722 = .ok (.invokevirtual 96, 3) := by decide +kernel
theorem dL_law_725 : decode cL_law 725 = .ok (.if_icmp .eq 166, 3) := by decide +kernel
theorem dL_law_728 : decode cL_law 728 = .ok (.iconst 0, 1) := by decide +kernel
theorem dL_law_729 : decode cL_law 729 = .ok (.ireturn, 1) := by decide +kernel
theorem dL_law_730 : decode cL_law 730 = .ok (.aload_n 1, 1) := by decide +kernel
theorem dL_law_731 : decode cL_law 731 = .ok (.aload_n 0, 1) := by decide +kernel
theorem dL_law_732 : decode cL_law 732 = .ok (.iload_n 3, 1) := by decide +kernel
theorem dL_law_733 : decode cL_law 733 = .ok (.iconst 1, 1) := by decide +kernel
theorem dL_law_734 : decode cL_law 734 = .ok (.iadd, 1) := by decide +kernel
theorem dL_law_735 : decode cL_law 735 = .ok (.iaload, 1) := by decide +kernel
theorem dL_law_736 : decode cL_law 736 = .ok (.invokevirtual 97, 3) := by decide +kernel
theorem dL_law_739 : decode cL_law 739 = .ok (.aload_n 2, 1) := by decide +kernel
theorem dL_law_740 : decode cL_law 740 = .ok (.aload_n 0, 1) := by decide +kernel
theorem dL_law_741 : decode cL_law 741 = .ok (.iload_n 3, 1) := by decide +kernel
theorem dL_law_742 : decode cL_law 742 = .ok (.iconst 1, 1) := by decide +kernel
theorem dL_law_743 : decode cL_law 743 = .ok (.iadd, 1) := by decide +kernel
theorem dL_law_744 : decode cL_law 744 = .ok (.iaload, 1) := by decide +kernel
theorem dL_law_745 : decode cL_law 745 = .ok (.invokevirtual 100, 3) := by decide +kernel
theorem dL_law_748 : decode cL_law 748 = .ok (.if_icmp .eq 143, 3) := by decide +kernel
theorem dL_law_751 : decode cL_law 751 = .ok (.iconst 0, 1) := by decide +kernel
theorem dL_law_752 : decode cL_law 752 = .ok (.ireturn, 1) := by decide +kernel
theorem dL_law_753 : decode cL_law 753 = .ok (.aload_n 1, 1) := by decide +kernel
theorem dL_law_754 : decode cL_law 754 = .ok (.aload_n 0, 1) := by decide +kernel
theorem dL_law_755 : decode cL_law 755 = .ok (.iload_n 3, 1) := by decide +kernel
theorem dL_law_756 : decode cL_law 756 = .ok (.iconst 1, 1) := by decide +kernel
theorem dL_law_757 : decode cL_law 757 = .ok (.iadd, 1) := by decide +kernel
theorem dL_law_758 : decode cL_law 758 = .ok (.iaload, 1) := by decide +kernel
theorem dL_law_759 : decode cL_law 759 = .ok (.aload_n 0, 1) := by decide +kernel
theorem dL_law_760 : decode cL_law 760 = .ok (.iload_n 3, 1) := by decide +kernel
theorem dL_law_761 : decode cL_law 761 = .ok (.iconst 2, 1) := by decide +kernel
theorem dL_law_762 : decode cL_law 762 = .ok (.iadd, 1) := by decide +kernel
theorem dL_law_763 : decode cL_law 763 = .ok (.iaload, 1) := by decide +kernel
theorem dL_law_764 : decode cL_law 764 = .ok (.invokevirtual 101, 3) := by decide +kernel
theorem dL_law_767 : decode cL_law 767 = .ok (.aload_n 2, 1) := by decide +kernel
theorem dL_law_768 : decode cL_law 768 = .ok (.aload_n 0, 1) := by decide +kernel
theorem dL_law_769 : decode cL_law 769 = .ok (.iload_n 3, 1) := by decide +kernel
theorem dL_law_770 : decode cL_law 770 = .ok (.iconst 1, 1) := by decide +kernel
theorem dL_law_771 : decode cL_law 771 = .ok (.iadd, 1) := by decide +kernel
theorem dL_law_772 : decode cL_law 772 = .ok (.iaload, 1) := by decide +kernel
theorem dL_law_773 : decode cL_law 773 = .ok (.aload_n 0, 1) := by decide +kernel
theorem dL_law_774 : decode cL_law 774 = .ok (.iload_n 3, 1) := by decide +kernel
theorem dL_law_775 : decode cL_law 775 = .ok (.iconst 2, 1) := by decide +kernel
theorem dL_law_776 : decode cL_law 776 = .ok (.iadd, 1) := by decide +kernel
theorem dL_law_777 : decode cL_law 777 = .ok (.iaload, 1) := by decide +kernel
theorem dL_law_778 : decode cL_law 778 = .ok (.invokevirtual 104, 3) := by decide +kernel
theorem dL_law_781 : decode cL_law 781 = .ok (.if_icmp .eq 110, 3) := by decide +kernel
theorem dL_law_784 : decode cL_law 784 = .ok (.iconst 0, 1) := by decide +kernel
theorem dL_law_785 : decode cL_law 785 = .ok (.ireturn, 1) := by decide +kernel
theorem dL_law_786 : decode cL_law 786 = .ok (.aload_n 1, 1) := by decide +kernel
theorem dL_law_787 : decode cL_law 787 = .ok (.invokevirtual 105, 3) := by decide +kernel
theorem dL_law_790 : decode cL_law 790 = .ok (.aload_n 2, 1) := by decide +kernel
theorem dL_law_791 : decode cL_law 791 = .ok (.invokevirtual 108, 3) := by decide +kernel
theorem dL_law_794 : decode cL_law 794 = .ok (.if_icmp .eq 97, 3) := by decide +kernel
theorem dL_law_797 : decode cL_law 797 = .ok (.iconst 0, 1) := by decide +kernel
theorem dL_law_798 : decode cL_law 798 = .ok (.ireturn, 1) := by decide +kernel
theorem dL_law_799 : decode cL_law 799 = .ok (.aload_n 1, 1) := by decide +kernel
theorem dL_law_800 : decode cL_law 800 = .ok (.aload_n 0, 1) := by decide +kernel
theorem dL_law_801 : decode cL_law 801 = .ok (.iload_n 3, 1) := by decide +kernel
theorem dL_law_802 : decode cL_law 802 = .ok (.iconst 1, 1) := by decide +kernel
theorem dL_law_803 : decode cL_law 803 = .ok (.iadd, 1) := by decide +kernel
theorem dL_law_804 : decode cL_law 804 = .ok (.iaload, 1) := by decide +kernel
theorem dL_law_805 : decode cL_law 805 = .ok (.aload_n 0, 1) := by decide +kernel
theorem dL_law_806 : decode cL_law 806 = .ok (.iload_n 3, 1) := by decide +kernel
theorem dL_law_807 : decode cL_law 807 = .ok (.iconst 2, 1) := by decide +kernel
theorem dL_law_808 : decode cL_law 808 = .ok (.iadd, 1) := by decide +kernel
theorem dL_law_809 : decode cL_law 809 = .ok (.iaload, 1) := by decide +kernel
theorem dL_law_810 : decode cL_law 810 = .ok (.aload_n 0, 1) := by decide +kernel
theorem dL_law_811 : decode cL_law 811 = .ok (.iload_n 3, 1) := by decide +kernel
theorem dL_law_812 : decode cL_law 812 = .ok (.iconst 3, 1) := by decide +kernel
theorem dL_law_813 : decode cL_law 813 = .ok (.iadd, 1) := by decide +kernel
theorem dL_law_814 : decode cL_law 814 = .ok (.iaload, 1) := by decide +kernel
theorem dL_law_815 : decode cL_law 815 = .ok (.invokevirtual 109, 3) := by decide +kernel
theorem dL_law_818 : decode cL_law 818 = .ok (.aload_n 2, 1) := by decide +kernel
theorem dL_law_819 : decode cL_law 819 = .ok (.aload_n 0, 1) := by decide +kernel
theorem dL_law_820 : decode cL_law 820 = .ok (.iload_n 3, 1) := by decide +kernel
theorem dL_law_821 : decode cL_law 821 = .ok (.iconst 1, 1) := by decide +kernel
theorem dL_law_822 : decode cL_law 822 = .ok (.iadd, 1) := by decide +kernel
theorem dL_law_823 : decode cL_law 823 = .ok (.iaload, 1) := by decide +kernel
theorem dL_law_824 : decode cL_law 824 = .ok (.aload_n 0, 1) := by decide +kernel
theorem dL_law_825 : decode cL_law 825 = .ok (.iload_n 3, 1) := by decide +kernel
theorem dL_law_826 : decode cL_law 826 = .ok (.iconst 2, 1) := by decide +kernel
theorem dL_law_827 : decode cL_law 827 = .ok (.iadd, 1) := by decide +kernel
theorem dL_law_828 : decode cL_law 828 = .ok (.iaload, 1) := by decide +kernel
theorem dL_law_829 : decode cL_law 829 = .ok (.aload_n 0, 1) := by decide +kernel
theorem dL_law_830 : decode cL_law 830 = .ok (.iload_n 3, 1) := by decide +kernel
theorem dL_law_831 : decode cL_law 831 = .ok (.iconst 3, 1) := by decide +kernel
theorem dL_law_832 : decode cL_law 832 = .ok (.iadd, 1) := by decide +kernel
theorem dL_law_833 : decode cL_law 833 = .ok (.iaload, 1) := by decide +kernel
theorem dL_law_834 : decode cL_law 834 = .ok (.invokevirtual 112, 3) := by decide +kernel
