theorem dX11_noCompany_27 : decode cX11_noCompany 27 = .ok (.iastore, 1) := by decide +kernel
theorem dX11_noCompany_28 : decode cX11_noCompany 28 = .ok (.iconst 0, 1) := by decide +kernel
theorem dX11_noCompany_29 : decode cX11_noCompany 29 = .ok (.istore_n 2, 1) := by decide +kernel
theorem dX11_noCompany_30 : decode cX11_noCompany 30 = .ok (.iload_n 2, 1) := by decide +kernel
theorem dX11_noCompany_31 : decode cX11_noCompany 31 = .ok (.bipush 10, 2) := by decide +kernel
theorem dX11_noCompany_33 : decode cX11_noCompany 33 = .ok (.if_icmp .ge 21, 3) := by decide +kernel
theorem dX11_noCompany_36 : decode cX11_noCompany 36 = .ok (.aload_n 0, 1) := by decide +kernel
theorem dX11_noCompany_37 : decode cX11_noCompany 37 = .ok (.getfield 52, 3) := by decide +kernel
theorem dX11_noCompany_40 : decode cX11_noCompany 40 = .ok (.bipush 10, 2) := by decide +kernel
theorem dX11_noCompany_42 : decode cX11_noCompany 42 = .ok (.iload_n 1, 1) := by decide +kernel
theorem dX11_noCompany_43 : decode cX11_noCompany 43 = .ok (.imul, 1) := by decide +kernel
theorem dX11_noCompany_44 : decode cX11_noCompany 44 = .ok (.iload_n 2, 1) := by decide +kernel
theorem dX11_noCompany_45 : decode cX11_noCompany 45 = .ok (.iadd, 1) := by decide +kernel
theorem dX11_noCompany_46 : decode cX11_noCompany 46 = .ok (.iconst 0, 1) := by decide +kernel
theorem dX11_noCompany_47 : decode cX11_noCompany 47 = .ok (.iastore, 1) := by decide +kernel
theorem dX11_noCompany_48 : decode cX11_noCompany 48 = .ok (.iinc 2 1, 3) := by decide +kernel
theorem dX11_noCompany_51 : decode cX11_noCompany 51 = .ok (.goto (-21), 3) := by decide +kernel
theorem dX11_noCompany_54 : decode cX11_noCompany 54 = .ok (.iconst 0, 1) := by decide +kernel
theorem dX11_noCompany_55 : decode cX11_noCompany 55 = .ok (.istore_n 2, 1) := by decide +kernel
theorem dX11_noCompany_56 : decode cX11_noCompany 56 = .ok (.iload_n 2, 1) := by decide +kernel
theorem dX11_noCompany_57 : decode cX11_noCompany 57 = .ok (.bipush 8, 2) := by decide +kernel
theorem dX11_noCompany_59 : decode cX11_noCompany 59 = .ok (.if_icmp .ge 22, 3) := by decide +kernel
theorem dX11_noCompany_62 : decode cX11_noCompany 62 = .ok (.aload_n 0, 1) := by decide +kernel
theorem dX11_noCompany_63 : decode cX11_noCompany 63 = .ok (.getfield 37, 3) := by decide +kernel
theorem dX11_noCompany_66 : decode cX11_noCompany 66 = .ok (.bipush 8, 2) := by decide +kernel
theorem dX11_noCompany_68 : decode cX11_noCompany 68 = .ok (.iload_n 1, 1) := by decide +kernel
theorem dX11_noCompany_69 : decode cX11_noCompany 69 = .ok (.imul, 1) := by decide +kernel
theorem dX11_noCompany_70 : decode cX11_noCompany 70 = .ok (.iload_n 2, 1) := by decide +kernel
theorem dX11_noCompany_71 : decode cX11_noCompany 71 = .ok (.iadd, 1) := by decide +kernel
theorem dX11_noCompany_72 : decode cX11_noCompany 72 = .ok (.bipush (-4), 2) := by decide +kernel
theorem dX11_noCompany_74 : decode cX11_noCompany 74 = .ok (.iastore, 1) := by decide +kernel
theorem dX11_noCompany_75 : decode cX11_noCompany 75 = .ok (.iinc 2 1, 3) := by decide +kernel
theorem dX11_noCompany_78 : decode cX11_noCompany 78 = .ok (.goto (-22), 3) := by decide +kernel
theorem dX11_noCompany_81 : decode cX11_noCompany 81 = .ok (.iconst 0, 1) := by decide +kernel
theorem dX11_noCompany_82 : decode cX11_noCompany 82 = .ok (.istore_n 2, 1) := by decide +kernel
theorem dX11_noCompany_83 : decode cX11_noCompany 83 = .ok (.iload_n 2, 1) := by decide +kernel
theorem dX11_noCompany_84 : decode cX11_noCompany 84 = .ok (.bipush 100, 2) := by decide +kernel
theorem dX11_noCompany_86 : decode cX11_noCompany 86 = .ok (.if_icmp .ge 21, 3) := by decide +kernel
theorem dX11_noCompany_89 : decode cX11_noCompany 89 = .ok (.aload_n 0, 1) := by decide +kernel
theorem dX11_noCompany_90 : decode cX11_noCompany 90 = .ok (.getfield 55, 3) := by decide +kernel
theorem dX11_noCompany_93 : decode cX11_noCompany 93 = .ok (.bipush 100, 2) := by decide +kernel
theorem dX11_noCompany_95 : decode cX11_noCompany 95 = .ok (.iload_n 1, 1) := by decide +kernel
theorem dX11_noCompany_96 : decode cX11_noCompany 96 = .ok (.imul, 1) := by decide +kernel
theorem dX11_noCompany_97 : decode cX11_noCompany 97 = .ok (.iload_n 2, 1) := by decide +kernel
theorem dX11_noCompany_98 : decode cX11_noCompany 98 = .ok (.iadd, 1) := by decide +kernel
theorem dX11_noCompany_99 : decode cX11_noCompany 99 = .ok (.iconst 0, 1) := by decide +kernel
theorem dX11_noCompany_100 : decode cX11_noCompany 100 = .ok (.iastore, 1) := by decide +kernel
theorem dX11_noCompany_101 : decode cX11_noCompany 101 = .ok (.iinc 2 1, 3) := by decide +kernel
theorem dX11_noCompany_104 : decode cX11_noCompany 104 = .ok (.goto (-21), 3) := by decide +kernel
theorem dX11_noCompany_107 : decode cX11_noCompany 107 = .ok (.aload_n 0, 1) := by decide +kernel
theorem dX11_noCompany_108 : decode cX11_noCompany 108 = .ok (.getfield 58, 3) := by decide +kernel
theorem dX11_noCompany_111 : decode cX11_noCompany 111 = .ok (.iconst 5, 1) := by decide +kernel
theorem dX11_noCompany_112 : decode cX11_noCompany 112 = .ok (.iload_n 1, 1) := by decide +kernel
theorem dX11_noCompany_113 : decode cX11_noCompany 113 = .ok (.imul, 1) := by decide +kernel
theorem dX11_noCompany_114 : decode cX11_noCompany 114 = .ok (.iconst 0, 1) := by decide +kernel
theorem dX11_noCompany_115 : decode cX11_noCompany 115 = .ok (.iastore, 1) := by decide +kernel
theorem dX11_noCompany_116 : decode cX11_noCompany 116 = .ok (.aload_n 0, 1) := by decide +kernel
theorem dX11_noCompany_117 : decode cX11_noCompany 117 = .ok (.getfield 58, 3) := by decide +kernel
theorem dX11_noCompany_120 : decode cX11_noCompany 120 = .ok (.iconst 5, 1) := by decide +kernel
theorem dX11_noCompany_121 : decode cX11_noCompany 121 = .ok (.iload_n 1, 1) := by decide +kernel
theorem dX11_noCompany_122 : decode cX11_noCompany 122 = .ok (.imul, 1) := by decide +kernel
theorem dX11_noCompany_123 : decode cX11_noCompany 123 = .ok (.iconst 1, 1) := by decide +kernel
theorem dX11_noCompany_124 : decode cX11_noCompany 124 = .ok (.iadd, 1) := by decide +kernel
theorem dX11_noCompany_125 : decode cX11_noCompany 125 = .ok (.iconst 1, 1) := by decide +kernel
theorem dX11_noCompany_126 : decode cX11_noCompany 126 = .ok (.iastore, 1) := by decide +kernel
theorem dX11_noCompany_127 : decode cX11_noCompany 127 = .ok (.aload_n 0, 1) := by decide +kernel
theorem dX11_noCompany_128 : decode cX11_noCompany 128 = .ok (.getfield 58, 3) := by decide +kernel
theorem dX11_noCompany_131 : decode cX11_noCompany 131 = .ok (.iconst 5, 1) := by decide +kernel
theorem dX11_noCompany_132 : decode cX11_noCompany 132 = .ok (.iload_n 1, 1) := by decide +kernel
theorem dX11_noCompany_133 : decode cX11_noCompany 133 = .ok (.imul, 1) := by decide +kernel
theorem dX11_noCompany_134 : decode cX11_noCompany 134 = .ok (.iconst 2, 1) := by decide +kernel
theorem dX11_noCompany_135 : decode cX11_noCompany 135 = .ok (.iadd, 1) := by decide +kernel
theorem dX11_noCompany_136 : decode cX11_noCompany 136 = .ok (.bipush 10, 2) := by decide +kernel
theorem dX11_noCompany_138 : decode cX11_noCompany 138 = .ok (.iastore, 1) := by decide +kernel
theorem dX11_noCompany_139 : decode cX11_noCompany 139 = .ok (.aload_n 0, 1) := by decide +kernel
theorem dX11_noCompany_140 : decode cX11_noCompany 140 = .ok (.getfield 58, 3) := by decide +kernel
theorem dX11_noCompany_143 : decode cX11_noCompany 143 = .ok (.iconst 5, 1) := by decide +kernel
theorem dX11_noCompany_144 : decode cX11_noCompany 144 = .ok (.iload_n 1, 1) := by decide +kernel
theorem dX11_noCompany_145 : decode cX11_noCompany 145 = .ok (.imul, 1) := by decide +kernel
theorem dX11_noCompany_146 : decode cX11_noCompany 146 = .ok (.iconst 3, 1) := by decide +kernel
theorem dX11_noCompany_147 : decode cX11_noCompany 147 = .ok (.iadd, 1) := by decide +kernel
theorem dX11_noCompany_148 : decode cX11_noCompany 148 = .ok (.bipush 100, 2) := by decide +kernel
theorem dX11_noCompany_150 : decode cX11_noCompany 150 = .ok (.iastore, 1) := by decide +kernel
theorem dX11_noCompany_151 : decode cX11_noCompany 151 = .ok (.aload_n 0, 1) := by decide +kernel
theorem dX11_noCompany_152 : decode cX11_noCompany 152 = .ok (.getfield 58, 3) := by decide +kernel
theorem dX11_noCompany_155 : decode cX11_noCompany 155 = .ok (.iconst 5, 1) := by decide +kernel
theorem dX11_noCompany_156 : decode cX11_noCompany 156 = .ok (.iload_n 1, 1) := by decide +kernel
theorem dX11_noCompany_157 : decode cX11_noCompany 157 = .ok (.imul, 1) := by decide +kernel
theorem dX11_noCompany_158 : decode cX11_noCompany 158 = .ok (.iconst 4, 1) := by decide +kernel
theorem dX11_noCompany_159 : decode cX11_noCompany 159 = .ok (.iadd, 1) := by decide +kernel
theorem dX11_noCompany_160 : decode cX11_noCompany 160 = .ok (.iconst 5, 1) := by decide +kernel
theorem dX11_noCompany_161 : decode cX11_noCompany 161 = .ok (.iastore, 1) := by decide +kernel
theorem dX11_noCompany_162 : decode cX11_noCompany 162 = .ok (.return_, 1) := by decide +kernel
theorem dX11_write_0 : decode cX11_write 0 = .ok (.iload_n 1, 1) := by decide +kernel
theorem dX11_write_1 : decode cX11_write 1 = .ok (.i2l, 1) := by decide +kernel
theorem dX11_write_2 : decode cX11_write 2 = .ok (.lconst 1, 1) := by decide +kernel
theorem dX11_write_3 : decode cX11_write 3 = .ok (.ldc2_w 122, 3) := by decide +kernel
theorem dX11_write_6 : decode cX11_write 6 = .ok (.invokestatic 124, 3) := by decide +kernel
theorem dX11_write_9 : decode cX11_write 9 = .ok (.ifCond .ne 5, 3) := by decide +kernel
theorem dX11_write_12 : decode cX11_write 12 = .ok (.iconst (-1), 1) := by decide +kernel
theorem dX11_write_13 : decode cX11_write 13 = .ok (.ireturn, 1) := by decide +kernel
theorem dX11_write_14 : decode cX11_write 14 = .ok (.aload_n 0, 1) := by decide +kernel
theorem dX11_write_15 : decode cX11_write 15 = .ok (.getfield 128, 3) := by decide +kernel
theorem dX11_write_18 : decode cX11_write 18 = .ok (.iload_n 1, 1) := by decide +kernel
theorem dX11_write_19 : decode cX11_write 19 = .ok (.iadd, 1) := by decide +kernel
theorem dX11_write_20 : decode cX11_write 20 = .ok (.sipush 400, 3) := by decide +kernel
theorem dX11_write_23 : decode cX11_write 23 = .ok (.if_icmp .le 6, 3) := by decide +kernel
theorem dX11_write_26 : decode cX11_write 26 = .ok (.bipush (-3), 2) := by decide +kernel
theorem dX11_write_28 : decode cX11_write 28 = .ok (.ireturn, 1) := by decide +kernel
theorem dX11_write_29 : decode cX11_write 29 = .ok (.iload_n 1, 1) := by decide +kernel
theorem dX11_write_30 : decode cX11_write 30 = .ok (.iconst 1, 1) := by decide +kernel
theorem dX11_write_31 : decode cX11_write 31 = .ok (.isub, 1) := by decide +kernel
theorem dX11_write_32 : decode cX11_write 32 = .ok (.istore 4, 2) := by decide +kernel
theorem dX11_write_34 : decode cX11_write 34 = .ok (.iload 4, 2) := by decide +kernel
theorem dX11_write_36 : decode cX11_write 36 = .ok (.ifCond .lt 40, 3) := by decide +kernel
theorem dX11_write_39 : decode cX11_write 39 = .ok (.aload_n 0, 1) := by decide +kernel
theorem dX11_write_40 : decode cX11_write 40 = .ok (.getfield 7, 3) := by decide +kernel
theorem dX11_write_43 : decode cX11_write 43 = .ok (.aload_n 0, 1) := by decide +kernel
theorem dX11_write_44 : decode cX11_write 44 = .ok (.getfield 128, 3) := by decide +kernel
theorem dX11_write_47 : decode cX11_write 47 = .ok (.lload_n 2, 1) := by decide +kernel
theorem dX11_write_48 : decode cX11_write 48 = .ok (.bipush 8, 2) := by decide +kernel
theorem dX11_write_50 : decode cX11_write 50 = .ok (.iload 4, 2) := by decide +kernel
theorem dX11_write_52 : decode cX11_write 52 = .ok (.imul, 1) := by decide +kernel
theorem dX11_write_53 : decode cX11_write 53 = .ok (.lshr, 1) := by decide +kernel
theorem dX11_write_54 : decode cX11_write 54 = .ok (.ldc2_w 132, 3) := by decide +kernel
theorem dX11_write_57 : decode cX11_write 57 = .ok (.land, 1) := by decide +kernel
theorem dX11_write_58 : decode cX11_write 58 = .ok (.l2i, 1) := by decide +kernel
theorem dX11_write_59 : decode cX11_write 59 = .ok (.iastore, 1) := by decide +kernel
theorem dX11_write_60 : decode cX11_write 60 = .ok (.aload_n 0, 1) := by decide +kernel
theorem dX11_write_61 : decode cX11_write 61 = .ok (.dup, 1) := by decide +kernel
theorem dX11_write_62 : decode cX11_write 62 = .ok (.getfield 128, 3) := by decide +kernel
theorem dX11_write_65 : decode cX11_write 65 = .ok (.iconst 1, 1) := by decide +kernel
theorem dX11_write_66 : decode cX11_write 66 = .ok (.iadd, 1) := by decide +kernel
theorem dX11_write_67 : decode cX11_write 67 = .ok (.putfield 128, 3) := by decide +kernel
theorem dX11_write_70 : decode cX11_write 70 = .ok (.iinc 4 (-1), 3) := by decide +kernel
theorem dX11_write_73 : decode cX11_write 73 = .ok (.goto (-39), 3) := by decide +kernel
theorem dX11_write_76 : decode cX11_write 76 = .ok (.aload_n 0, 1) := by decide +kernel
theorem dX11_write_77 : decode cX11_write 77 = .ok (.getfield 128, 3) := by decide +kernel
theorem dX11_write_80 : decode cX11_write 80 = .ok (.ireturn, 1) := by decide +kernel
theorem dX11_wipe_0 : decode cX11_wipe 0 = .ok (.aload_n 0, 1) := by decide +kernel
theorem dX11_wipe_1 : decode cX11_wipe 1 = .ok (.getfield 128, 3) := by decide +kernel
theorem dX11_wipe_4 : decode cX11_wipe 4 = .ok (.istore_n 1, 1) := by decide +kernel
theorem dX11_wipe_5 : decode cX11_wipe 5 = .ok (.aload_n 0, 1) := by decide +kernel
theorem dX11_wipe_6 : decode cX11_wipe 6 = .ok (.iconst 0, 1) := by decide +kernel
theorem dX11_wipe_7 : decode cX11_wipe 7 = .ok (.putfield 128, 3) := by decide +kernel
theorem dX11_wipe_10 : decode cX11_wipe 10 = .ok (.iload_n 1, 1) := by decide +kernel
theorem dX11_wipe_11 : decode cX11_wipe 11 = .ok (.ireturn, 1) := by decide +kernel
theorem dX11_byteAt_0 : decode cX11_byteAt 0 = .ok (.iload_n 1, 1) := by decide +kernel
theorem dX11_byteAt_1 : decode cX11_byteAt 1 = .ok (.aload_n 0, 1) := by decide +kernel
theorem dX11_byteAt_2 : decode cX11_byteAt 2 = .ok (.getfield 128, 3) := by decide +kernel
theorem dX11_byteAt_5 : decode cX11_byteAt 5 = .ok (.if_icmp .ge 12, 3) := by decide +kernel
theorem dX11_byteAt_8 : decode cX11_byteAt 8 = .ok (.aload_n 0, 1) := by decide +kernel
theorem dX11_byteAt_9 : decode cX11_byteAt 9 = .ok (.getfield 7, 3) := by decide +kernel
theorem dX11_byteAt_12 : decode cX11_byteAt 12 = .ok (.iload_n 1, 1) := by decide +kernel
theorem dX11_byteAt_13 : decode cX11_byteAt 13 = .ok (.iaload, 1) := by decide +kernel
theorem dX11_byteAt_14 : decode cX11_byteAt 14 = .ok (.goto 4, 3) := by decide +kernel
theorem dX11_byteAt_17 : decode cX11_byteAt 17 = .ok (.iconst 0, 1) := by decide +kernel
theorem dX11_byteAt_18 : decode cX11_byteAt 18 = .ok (.ireturn, 1) := by decide +kernel
theorem dX11_figures_0 : decode cX11_figures 0 = .ok (.iconst 0, 1) := by decide +kernel
theorem dX11_figures_1 : decode cX11_figures 1 = .ok (.istore_n 2, 1) := by decide +kernel
theorem dX11_figures_2 : decode cX11_figures 2 = .ok (.iload_n 2, 1) := by decide +kernel
theorem dX11_figures_3 : decode cX11_figures 3 = .ok (.iload_n 1, 1) := by decide +kernel
theorem dX11_figures_4 : decode cX11_figures 4 = .ok (.if_icmp .ge 132, 3) := by decide +kernel
theorem dX11_figures_7 : decode cX11_figures 7 = .ok (.iconst 0, 1) := by decide +kernel
theorem dX11_figures_8 : decode cX11_figures 8 = .ok (.istore_n 3, 1) := by decide +kernel
theorem dX11_figures_9 : decode cX11_figures 9 = .ok (.iconst 0, 1) := by decide +kernel
theorem dX11_figures_10 : decode cX11_figures 10 = .ok (.istore 4, 2) := by decide +kernel
theorem dX11_figures_12 : decode cX11_figures 12 = .ok (.aload_n 0, 1) := by decide +kernel
theorem dX11_figures_13 : decode cX11_figures 13 = .ok (.aload_n 0, 1) := by decide +kernel
theorem dX11_figures_14 : decode cX11_figures 14 = .ok (.getfield 134, 3) := by decide +kernel
theorem dX11_figures_17 : decode cX11_figures 17 = .ok (.invokevirtual 137, 3) := by decide +kernel
theorem dX11_figures_20 : decode cX11_figures 20 = .ok (.i2l, 1) := by decide +kernel
theorem dX11_figures_21 : decode cX11_figures 21 = .ok (.ldc2_w 141, 3) := by decide +kernel
theorem dX11_figures_24 : decode cX11_figures 24 = .ok (.ldc2_w 143, 3) := by decide +kernel
theorem dX11_figures_27 : decode cX11_figures 27 = .ok (.invokestatic 124, 3) := by decide +kernel
theorem dX11_figures_30 : decode cX11_figures 30 = .ok (.ifCond .eq 43, 3) := by decide +kernel
theorem dX11_figures_33 : decode cX11_figures 33 = .ok (.iload_n 3, 1) := by decide +kernel
theorem dX11_figures_34 : decode cX11_figures 34 = .ok (.iconst 4, 1) := by decide +kernel
theorem dX11_figures_35 : decode cX11_figures 35 = .ok (.if_icmp .ge 38, 3) := by decide +kernel
theorem dX11_figures_38 : decode cX11_figures 38 = .ok (.bipush 10, 2) := by decide +kernel
theorem dX11_figures_40 : decode cX11_figures 40 = .ok (.iload 4, 2) := by decide +kernel
theorem dX11_figures_42 : decode cX11_figures 42 = .ok (.imul, 1) := by decide +kernel
theorem dX11_figures_43 : decode cX11_figures 43 = .ok (.aload_n 0, 1) := by decide +kernel
theorem dX11_figures_44 : decode cX11_figures 44 = .ok (.aload_n 0, 1) := by decide +kernel
theorem dX11_figures_45 : decode cX11_figures 45 = .ok (.getfield 134, 3) := by decide +kernel
theorem dX11_figures_48 : decode cX11_figures 48 = .ok (.invokevirtual 137, 3) := by decide +kernel
theorem dX11_figures_51 : decode cX11_figures 51 = .ok (.iadd, 1) := by decide +kernel
theorem dX11_figures_52 : decode cX11_figures 52 = .ok (.bipush 48, 2) := by decide +kernel
theorem dX11_figures_54 : decode cX11_figures 54 = .ok (.isub, 1) := by decide +kernel
theorem dX11_figures_55 : decode cX11_figures 55 = .ok (.istore 4, 2) := by decide +kernel
theorem dX11_figures_57 : decode cX11_figures 57 = .ok (.iinc 3 1, 3) := by decide +kernel
theorem dX11_figures_60 : decode cX11_figures 60 = .ok (.aload_n 0, 1) := by decide +kernel
theorem dX11_figures_61 : decode cX11_figures 61 = .ok (.dup, 1) := by decide +kernel
theorem dX11_figures_62 : decode cX11_figures 62 = .ok (.getfield 134, 3) := by decide +kernel
theorem dX11_figures_65 : decode cX11_figures 65 = .ok (.iconst 1, 1) := by decide +kernel
theorem dX11_figures_66 : decode cX11_figures 66 = .ok (.iadd, 1) := by decide +kernel
theorem dX11_figures_67 : decode cX11_figures 67 = .ok (.putfield 134, 3) := by decide +kernel
theorem dX11_figures_70 : decode cX11_figures 70 = .ok (.goto (-58), 3) := by decide +kernel
theorem dX11_figures_73 : decode cX11_figures 73 = .ok (.iload_n 3, 1) := by decide +kernel
theorem dX11_figures_74 : decode cX11_figures 74 = .ok (.i2l, 1) := by decide +kernel
theorem dX11_figures_75 : decode cX11_figures 75 = .ok (.lconst 1, 1) := by decide +kernel
theorem dX11_figures_76 : decode cX11_figures 76 = .ok (.ldc2_w 145, 3) := by decide +kernel
theorem dX11_figures_79 : decode cX11_figures 79 = .ok (.invokestatic 124, 3) := by decide +kernel
theorem dX11_figures_82 : decode cX11_figures 82 = .ok (.ifCond .eq 28, 3) := by decide +kernel
theorem dX11_figures_85 : decode cX11_figures 85 = .ok (.aload_n 0, 1) := by decide +kernel
theorem dX11_figures_86 : decode cX11_figures 86 = .ok (.aload_n 0, 1) := by decide +kernel
theorem dX11_figures_87 : decode cX11_figures 87 = .ok (.getfield 134, 3) := by decide +kernel
theorem dX11_figures_90 : decode cX11_figures 90 = .ok (.invokevirtual 137, 3) := by decide +kernel
theorem dX11_figures_93 : decode cX11_figures 93 = .ok (.iload_n 2, 1) := by decide +kernel
theorem dX11_figures_94 : decode cX11_figures 94 = .ok (.iload_n 1, 1) := by decide +kernel
theorem dX11_figures_95 : decode cX11_figures 95 = .ok (.iconst 1, 1) := by decide +kernel
theorem dX11_figures_96 : decode cX11_figures 96 = .ok (.isub, 1) := by decide +kernel
theorem dX11_figures_97 : decode cX11_figures 97 = .ok (.if_icmp .ge 8, 3) := by decide +kernel
theorem dX11_figures_100 : decode cX11_figures 100 = .ok (.bipush 44, 2) := by decide +kernel
theorem dX11_figures_102 : decode cX11_figures 102 = .ok (.goto 5, 3) := by decide +kernel
theorem dX11_figures_105 : decode cX11_figures 105 = .ok (.bipush 59, 2) := by decide +kernel
theorem dX11_figures_107 : decode cX11_figures 107 = .ok (.if_icmp .eq 5, 3) := by decide +kernel
theorem dX11_figures_110 : decode cX11_figures 110 = .ok (.iconst 0, 1) := by decide +kernel
theorem dX11_figures_111 : decode cX11_figures 111 = .ok (.ireturn, 1) := by decide +kernel
theorem dX11_figures_112 : decode cX11_figures 112 = .ok (.aload_n 0, 1) := by decide +kernel
theorem dX11_figures_113 : decode cX11_figures 113 = .ok (.getfield 73, 3) := by decide +kernel
theorem dX11_figures_116 : decode cX11_figures 116 = .ok (.iload_n 2, 1) := by decide +kernel
theorem dX11_figures_117 : decode cX11_figures 117 = .ok (.iload 4, 2) := by decide +kernel
theorem dX11_figures_119 : decode cX11_figures 119 = .ok (.iastore, 1) := by decide +kernel
theorem dX11_figures_120 : decode cX11_figures 120 = .ok (.aload_n 0, 1) := by decide +kernel
theorem dX11_figures_121 : decode cX11_figures 121 = .ok (.dup, 1) := by decide +kernel
theorem dX11_figures_122 : decode cX11_figures 122 = .ok (.getfield 134, 3) := by decide +kernel
theorem dX11_figures_125 : decode cX11_figures 125 = .ok (.iconst 1, 1) := by decide +kernel
theorem dX11_figures_126 : decode cX11_figures 126 = .ok (.iadd, 1) := by decide +kernel
theorem dX11_figures_127 : decode cX11_figures 127 = .ok (.putfield 134, 3) := by decide +kernel
theorem dX11_figures_130 : decode cX11_figures 130 = .ok (.iinc 2 1, 3) := by decide +kernel
theorem dX11_figures_133 : decode cX11_figures 133 = .ok (.goto (-131), 3) := by decide +kernel
theorem dX11_figures_136 : decode cX11_figures 136 = .ok (.iconst 1, 1) := by decide +kernel
theorem dX11_figures_137 : decode cX11_figures 137 = .ok (.ireturn, 1) := by decide +kernel
theorem dX11_playerItem_0 : decode cX11_playerItem 0 = .ok (.aload_n 0, 1) := by decide +kernel
theorem dX11_playerItem_1 : decode cX11_playerItem 1 = .ok (.getfield 13, 3) := by decide +kernel
theorem dX11_playerItem_4 : decode cX11_playerItem 4 = .ok (.iconst 1, 1) := by decide +kernel
theorem dX11_playerItem_5 : decode cX11_playerItem 5 = .ok (.iaload, 1) := by decide +kernel
theorem dX11_playerItem_6 : decode cX11_playerItem 6 = .ok (.istore_n 1, 1) := by decide +kernel
theorem dX11_playerItem_7 : decode cX11_playerItem 7 = .ok (.aload_n 0, 1) := by decide +kernel
theorem dX11_playerItem_8 : decode cX11_playerItem 8 = .ok (.iconst 2, 1) := by decide +kernel
theorem dX11_playerItem_9 : decode cX11_playerItem 9 = .ok (.invokevirtual 147, 3) := by decide +kernel
theorem dX11_playerItem_12 : decode cX11_playerItem 12 = .ok (.ifCond .eq 31, 3) := by decide +kernel
theorem dX11_playerItem_15 : decode cX11_playerItem 15 = .ok (.iload_n 1, 1) := by decide +kernel
theorem dX11_playerItem_16 : decode cX11_playerItem 16 = .ok (.bipush 10, 2) := by decide +kernel
theorem dX11_playerItem_18 : decode cX11_playerItem 18 = .ok (.if_icmp .eq 25, 3) := by decide +kernel
theorem dX11_playerItem_21 : decode cX11_playerItem 21 = .ok (.aload_n 0, 1) := by decide +kernel
theorem dX11_playerItem_22 : decode cX11_playerItem 22 = .ok (.getfield 73, 3) := by decide +kernel
theorem dX11_playerItem_25 : decode cX11_playerItem 25 = .ok (.iconst 0, 1) := by decide +kernel
theorem dX11_playerItem_26 : decode cX11_playerItem 26 = .ok (.iaload, 1) := by decide +kernel
theorem dX11_playerItem_27 : decode cX11_playerItem 27 = .ok (.bipush 99, 2) := by decide +kernel
theorem dX11_playerItem_29 : decode cX11_playerItem 29 = .ok (.if_icmp .gt 14, 3) := by decide +kernel
theorem dX11_playerItem_32 : decode cX11_playerItem 32 = .ok (.aload_n 0, 1) := by decide +kernel
theorem dX11_playerItem_33 : decode cX11_playerItem 33 = .ok (.getfield 73, 3) := by decide +kernel
theorem dX11_playerItem_36 : decode cX11_playerItem 36 = .ok (.iconst 1, 1) := by decide +kernel
theorem dX11_playerItem_37 : decode cX11_playerItem 37 = .ok (.iaload, 1) := by decide +kernel
theorem dX11_playerItem_38 : decode cX11_playerItem 38 = .ok (.bipush 15, 2) := by decide +kernel
theorem dX11_playerItem_40 : decode cX11_playerItem 40 = .ok (.if_icmp .le 5, 3) := by decide +kernel
theorem dX11_playerItem_43 : decode cX11_playerItem 43 = .ok (.iconst 0, 1) := by decide +kernel
theorem dX11_playerItem_44 : decode cX11_playerItem 44 = .ok (.ireturn, 1) := by decide +kernel
theorem dX11_playerItem_45 : decode cX11_playerItem 45 = .ok (.aload_n 0, 1) := by decide +kernel
theorem dX11_playerItem_46 : decode cX11_playerItem 46 = .ok (.getfield 16, 3) := by decide +kernel
theorem dX11_playerItem_49 : decode cX11_playerItem 49 = .ok (.bipush 10, 2) := by decide +kernel
theorem dX11_playerItem_51 : decode cX11_playerItem 51 = .ok (.iload_n 1, 1) := by decide +kernel
theorem dX11_playerItem_52 : decode cX11_playerItem 52 = .ok (.iadd, 1) := by decide +kernel
theorem dX11_playerItem_53 : decode cX11_playerItem 53 = .ok (.aload_n 0, 1) := by decide +kernel
theorem dX11_playerItem_54 : decode cX11_playerItem 54 = .ok (.getfield 73, 3) := by decide +kernel
theorem dX11_playerItem_57 : decode cX11_playerItem 57 = .ok (.iconst 0, 1) := by decide +kernel
theorem dX11_playerItem_58 : decode cX11_playerItem 58 = .ok (.iaload, 1) := by decide +kernel
theorem dX11_playerItem_59 : decode cX11_playerItem 59 = .ok (.iastore, 1) := by decide +kernel
theorem dX11_playerItem_60 : decode cX11_playerItem 60 = .ok (.aload_n 0, 1) := by decide +kernel
theorem dX11_playerItem_61 : decode cX11_playerItem 61 = .ok (.getfield 19, 3) := by decide +kernel
theorem dX11_playerItem_64 : decode cX11_playerItem 64 = .ok (.bipush 10, 2) := by decide +kernel
theorem dX11_playerItem_66 : decode cX11_playerItem 66 = .ok (.iload_n 1, 1) := by decide +kernel
theorem dX11_playerItem_67 : decode cX11_playerItem 67 = .ok (.iadd, 1) := by decide +kernel
theorem dX11_playerItem_68 : decode cX11_playerItem 68 = .ok (.aload_n 0, 1) := by decide +kernel
theorem dX11_playerItem_69 : decode cX11_playerItem 69 = .ok (.getfield 73, 3) := by decide +kernel
theorem dX11_playerItem_72 : decode cX11_playerItem 72 = .ok (.iconst 1, 1) := by decide +kernel
theorem dX11_playerItem_73 : decode cX11_playerItem 73 = .ok (.iaload, 1) := by decide +kernel
theorem dX11_playerItem_74 : decode cX11_playerItem 74 = .ok (.iastore, 1) := by decide +kernel
theorem dX11_playerItem_75 : decode cX11_playerItem 75 = .ok (.aload_n 0, 1) := by decide +kernel
theorem dX11_playerItem_76 : decode cX11_playerItem 76 = .ok (.getfield 13, 3) := by decide +kernel
theorem dX11_playerItem_79 : decode cX11_playerItem 79 = .ok (.iconst 1, 1) := by decide +kernel
theorem dX11_playerItem_80 : decode cX11_playerItem 80 = .ok (.dup2, 1) := by decide +kernel
theorem dX11_playerItem_81 : decode cX11_playerItem 81 = .ok (.iaload, 1) := by decide +kernel
theorem dX11_playerItem_82 : decode cX11_playerItem 82 = .ok (.iconst 1, 1) := by decide +kernel
theorem dX11_playerItem_83 : decode cX11_playerItem 83 = .ok (.iadd, 1) := by decide +kernel
theorem dX11_playerItem_84 : decode cX11_playerItem 84 = .ok (.iastore, 1) := by decide +kernel
theorem dX11_playerItem_85 : decode cX11_playerItem 85 = .ok (.iconst 1, 1) := by decide +kernel
theorem dX11_playerItem_86 : decode cX11_playerItem 86 = .ok (.ireturn, 1) := by decide +kernel
theorem dX11_partItem_0 : decode cX11_partItem 0 = .ok (.aload_n 0, 1) := by decide +kernel
theorem dX11_partItem_1 : decode cX11_partItem 1 = .ok (.getfield 22, 3) := by decide +kernel
theorem dX11_partItem_4 : decode cX11_partItem 4 = .ok (.iconst 1, 1) := by decide +kernel
theorem dX11_partItem_5 : decode cX11_partItem 5 = .ok (.iaload, 1) := by decide +kernel
theorem dX11_partItem_6 : decode cX11_partItem 6 = .ok (.istore_n 1, 1) := by decide +kernel
theorem dX11_partItem_7 : decode cX11_partItem 7 = .ok (.aload_n 0, 1) := by decide +kernel
theorem dX11_partItem_8 : decode cX11_partItem 8 = .ok (.iconst 4, 1) := by decide +kernel
theorem dX11_partItem_9 : decode cX11_partItem 9 = .ok (.invokevirtual 147, 3) := by decide +kernel
theorem dX11_partItem_12 : decode cX11_partItem 12 = .ok (.ifCond .eq 50, 3) := by decide +kernel
theorem dX11_partItem_15 : decode cX11_partItem 15 = .ok (.iload_n 1, 1) := by decide +kernel
theorem dX11_partItem_16 : decode cX11_partItem 16 = .ok (.bipush 8, 2) := by decide +kernel
theorem dX11_partItem_18 : decode cX11_partItem 18 = .ok (.if_icmp .eq 44, 3) := by decide +kernel
theorem dX11_partItem_21 : decode cX11_partItem 21 = .ok (.aload_n 0, 1) := by decide +kernel
theorem dX11_partItem_22 : decode cX11_partItem 22 = .ok (.getfield 73, 3) := by decide +kernel
theorem dX11_partItem_25 : decode cX11_partItem 25 = .ok (.iconst 0, 1) := by decide +kernel
theorem dX11_partItem_26 : decode cX11_partItem 26 = .ok (.iaload, 1) := by decide +kernel
theorem dX11_partItem_27 : decode cX11_partItem 27 = .ok (.bipush 99, 2) := by decide +kernel
theorem dX11_partItem_29 : decode cX11_partItem 29 = .ok (.if_icmp .gt 33, 3) := by decide +kernel
theorem dX11_partItem_32 : decode cX11_partItem 32 = .ok (.aload_n 0, 1) := by decide +kernel
theorem dX11_partItem_33 : decode cX11_partItem 33 = .ok (.getfield 73, 3) := by decide +kernel
theorem dX11_partItem_36 : decode cX11_partItem 36 = .ok (.iconst 1, 1) := by decide +kernel
theorem dX11_partItem_37 : decode cX11_partItem 37 = .ok (.iaload, 1) := by decide +kernel
theorem dX11_partItem_38 : decode cX11_partItem 38 = .ok (.bipush 15, 2) := by decide +kernel
theorem dX11_partItem_40 : decode cX11_partItem 40 = .ok (.if_icmp .gt 22, 3) := by decide +kernel
theorem dX11_partItem_43 : decode cX11_partItem 43 = .ok (.aload_n 0, 1) := by decide +kernel
theorem dX11_partItem_44 : decode cX11_partItem 44 = .ok (.getfield 73, 3) := by decide +kernel
theorem dX11_partItem_47 : decode cX11_partItem 47 = .ok (.iconst 2, 1) := by decide +kernel
theorem dX11_partItem_48 : decode cX11_partItem 48 = .ok (.iaload, 1) := by decide +kernel
theorem dX11_partItem_49 : decode cX11_partItem 49 = .ok (.ifCond .eq 13, 3) := by decide +kernel
theorem dX11_partItem_52 : decode cX11_partItem 52 = .ok (.aload_n 0, 1) := by decide +kernel
theorem dX11_partItem_53 : decode cX11_partItem 53 = .ok (.getfield 73, 3) := by decide +kernel
theorem dX11_partItem_56 : decode cX11_partItem 56 = .ok (.iconst 3, 1) := by decide +kernel
theorem dX11_partItem_57 : decode cX11_partItem 57 = .ok (.iaload, 1) := by decide +kernel
theorem dX11_partItem_58 : decode cX11_partItem 58 = .ok (.iconst 1, 1) := by decide +kernel
theorem dX11_partItem_59 : decode cX11_partItem 59 = .ok (.if_icmp .le 5, 3) := by decide +kernel
theorem dX11_partItem_62 : decode cX11_partItem 62 = .ok (.iconst 0, 1) := by decide +kernel
theorem dX11_partItem_63 : decode cX11_partItem 63 = .ok (.ireturn, 1) := by decide +kernel
theorem dX11_partItem_64 : decode cX11_partItem 64 = .ok (.aload_n 0, 1) := by decide +kernel
theorem dX11_partItem_65 : decode cX11_partItem 65 = .ok (.getfield 25, 3) := by decide +kernel
theorem dX11_partItem_68 : decode cX11_partItem 68 = .ok (.bipush 8, 2) := by decide +kernel
theorem dX11_partItem_70 : decode cX11_partItem 70 = .ok (.iload_n 1, 1) := by decide +kernel
theorem dX11_partItem_71 : decode cX11_partItem 71 = .ok (.iadd, 1) := by decide +kernel
theorem dX11_partItem_72 : decode cX11_partItem 72 = .ok (.aload_n 0, 1) := by decide +kernel
theorem dX11_partItem_73 : decode cX11_partItem 73 = .ok (.getfield 73, 3) := by decide +kernel
theorem dX11_partItem_76 : decode cX11_partItem 76 = .ok (.iconst 0, 1) := by decide +kernel
theorem dX11_partItem_77 : decode cX11_partItem 77 = .ok (.iaload, 1) := by decide +kernel
theorem dX11_partItem_78 : decode cX11_partItem 78 = .ok (.iastore, 1) := by decide +kernel
theorem dX11_partItem_79 : decode cX11_partItem 79 = .ok (.aload_n 0, 1) := by decide +kernel
theorem dX11_partItem_80 : decode cX11_partItem 80 = .ok (.getfield 28, 3) := by decide +kernel
theorem dX11_partItem_83 : decode cX11_partItem 83 = .ok (.bipush 8, 2) := by decide +kernel
theorem dX11_partItem_85 : decode cX11_partItem 85 = .ok (.iload_n 1, 1) := by decide +kernel
theorem dX11_partItem_86 : decode cX11_partItem 86 = .ok (.iadd, 1) := by decide +kernel
theorem dX11_partItem_87 : decode cX11_partItem 87 = .ok (.aload_n 0, 1) := by decide +kernel
theorem dX11_partItem_88 : decode cX11_partItem 88 = .ok (.getfield 73, 3) := by decide +kernel
theorem dX11_partItem_91 : decode cX11_partItem 91 = .ok (.iconst 1, 1) := by decide +kernel
theorem dX11_partItem_92 : decode cX11_partItem 92 = .ok (.iaload, 1) := by decide +kernel
theorem dX11_partItem_93 : decode cX11_partItem 93 = .ok (.iastore, 1) := by decide +kernel
theorem dX11_partItem_94 : decode cX11_partItem 94 = .ok (.aload_n 0, 1) := by decide +kernel
theorem dX11_partItem_95 : decode cX11_partItem 95 = .ok (.getfield 31, 3) := by decide +kernel
theorem dX11_partItem_98 : decode cX11_partItem 98 = .ok (.bipush 8, 2) := by decide +kernel
theorem dX11_partItem_100 : decode cX11_partItem 100 = .ok (.iload_n 1, 1) := by decide +kernel
theorem dX11_partItem_101 : decode cX11_partItem 101 = .ok (.iadd, 1) := by decide +kernel
theorem dX11_partItem_102 : decode cX11_partItem 102 = .ok (.aload_n 0, 1) := by decide +kernel
theorem dX11_partItem_103 : decode cX11_partItem 103 = .ok (.getfield 73, 3) := by decide +kernel
theorem dX11_partItem_106 : decode cX11_partItem 106 = .ok (.iconst 2, 1) := by decide +kernel
theorem dX11_partItem_107 : decode cX11_partItem 107 = .ok (.iaload, 1) := by decide +kernel
theorem dX11_partItem_108 : decode cX11_partItem 108 = .ok (.iastore, 1) := by decide +kernel
theorem dX11_partItem_109 : decode cX11_partItem 109 = .ok (.aload_n 0, 1) := by decide +kernel
theorem dX11_partItem_110 : decode cX11_partItem 110 = .ok (.getfield 34, 3) := by decide +kernel
theorem dX11_partItem_113 : decode cX11_partItem 113 = .ok (.bipush 8, 2) := by decide +kernel
theorem dX11_partItem_115 : decode cX11_partItem 115 = .ok (.iload_n 1, 1) := by decide +kernel
theorem dX11_partItem_116 : decode cX11_partItem 116 = .ok (.iadd, 1) := by decide +kernel
theorem dX11_partItem_117 : decode cX11_partItem 117 = .ok (.aload_n 0, 1) := by decide +kernel
theorem dX11_partItem_118 : decode cX11_partItem 118 = .ok (.getfield 73, 3) := by decide +kernel
theorem dX11_partItem_121 : decode cX11_partItem 121 = .ok (.iconst 3, 1) := by decide +kernel
theorem dX11_partItem_122 : decode cX11_partItem 122 = .ok (.iaload, 1) := by decide +kernel
theorem dX11_partItem_123 : decode cX11_partItem 123 = .ok (.iastore, 1) := by decide +kernel
theorem dX11_partItem_124 : decode cX11_partItem 124 = .ok (.aload_n 0, 1) := by decide +kernel
theorem dX11_partItem_125 : decode cX11_partItem 125 = .ok (.getfield 22, 3) := by decide +kernel
theorem dX11_partItem_128 : decode cX11_partItem 128 = .ok (.iconst 1, 1) := by decide +kernel
theorem dX11_partItem_129 : decode cX11_partItem 129 = .ok (.dup2, 1) := by decide +kernel
theorem dX11_partItem_130 : decode cX11_partItem 130 = .ok (.iaload, 1) := by decide +kernel
theorem dX11_partItem_131 : decode cX11_partItem 131 = .ok (.iconst 1, 1) := by decide +kernel
theorem dX11_partItem_132 : decode cX11_partItem 132 = .ok (.iadd, 1) := by decide +kernel
theorem dX11_partItem_133 : decode cX11_partItem 133 = .ok (.iastore, 1) := by decide +kernel
theorem dX11_partItem_134 : decode cX11_partItem 134 = .ok (.iconst 1, 1) := by decide +kernel
theorem dX11_partItem_135 : decode cX11_partItem 135 = .ok (.ireturn, 1) := by decide +kernel
theorem dX11_sceneItem_0 : decode cX11_sceneItem 0 = .ok (.aload_n 0, 1) := by decide +kernel
theorem dX11_sceneItem_1 : decode cX11_sceneItem 1 = .ok (.getfield 40, 3) := by decide +kernel
theorem dX11_sceneItem_4 : decode cX11_sceneItem 4 = .ok (.iconst 1, 1) := by decide +kernel
theorem dX11_sceneItem_5 : decode cX11_sceneItem 5 = .ok (.iaload, 1) := by decide +kernel
theorem dX11_sceneItem_6 : decode cX11_sceneItem 6 = .ok (.istore_n 1, 1) := by decide +kernel
theorem dX11_sceneItem_7 : decode cX11_sceneItem 7 = .ok (.aload_n 0, 1) := by decide +kernel
theorem dX11_sceneItem_8 : decode cX11_sceneItem 8 = .ok (.iconst 2, 1) := by decide +kernel
theorem dX11_sceneItem_9 : decode cX11_sceneItem 9 = .ok (.invokevirtual 147, 3) := by decide +kernel
theorem dX11_sceneItem_12 : decode cX11_sceneItem 12 = .ok (.ifCond .eq 51, 3) := by decide +kernel
theorem dX11_sceneItem_15 : decode cX11_sceneItem 15 = .ok (.iload_n 1, 1) := by decide +kernel
theorem dX11_sceneItem_16 : decode cX11_sceneItem 16 = .ok (.bipush 10, 2) := by decide +kernel
theorem dX11_sceneItem_18 : decode cX11_sceneItem 18 = .ok (.if_icmp .eq 45, 3) := by decide +kernel
theorem dX11_sceneItem_21 : decode cX11_sceneItem 21 = .ok (.aload_n 0, 1) := by decide +kernel
theorem dX11_sceneItem_22 : decode cX11_sceneItem 22 = .ok (.getfield 73, 3) := by decide +kernel
theorem dX11_sceneItem_25 : decode cX11_sceneItem 25 = .ok (.iconst 0, 1) := by decide +kernel
theorem dX11_sceneItem_26 : decode cX11_sceneItem 26 = .ok (.iaload, 1) := by decide +kernel
theorem dX11_sceneItem_27 : decode cX11_sceneItem 27 = .ok (.i2l, 1) := by decide +kernel
theorem dX11_sceneItem_28 : decode cX11_sceneItem 28 = .ok (.lconst 1, 1) := by decide +kernel
theorem dX11_sceneItem_29 : decode cX11_sceneItem 29 = .ok (.iconst 1, 1) := by decide +kernel
theorem dX11_sceneItem_30 : decode cX11_sceneItem 30 = .ok (.aload_n 0, 1) := by decide +kernel
theorem dX11_sceneItem_31 : decode cX11_sceneItem 31 = .ok (.getfield 22, 3) := by decide +kernel
theorem dX11_sceneItem_34 : decode cX11_sceneItem 34 = .ok (.iconst 1, 1) := by decide +kernel
theorem dX11_sceneItem_35 : decode cX11_sceneItem 35 = .ok (.iaload, 1) := by decide +kernel
theorem dX11_sceneItem_36 : decode cX11_sceneItem 36 = .ok (.ishl, 1) := by decide +kernel
theorem dX11_sceneItem_37 : decode cX11_sceneItem 37 = .ok (.iconst 1, 1) := by decide +kernel
theorem dX11_sceneItem_38 : decode cX11_sceneItem 38 = .ok (.isub, 1) := by decide +kernel
theorem dX11_sceneItem_39 : decode cX11_sceneItem 39 = .ok (.i2l, 1) := by decide +kernel
theorem dX11_sceneItem_40 : decode cX11_sceneItem 40 = .ok (.invokestatic 124, 3) := by decide +kernel
theorem dX11_sceneItem_43 : decode cX11_sceneItem 43 = .ok (.ifCond .eq 20, 3) := by decide +kernel
theorem dX11_sceneItem_46 : decode cX11_sceneItem 46 = .ok (.aload_n 0, 1) := by decide +kernel
theorem dX11_sceneItem_47 : decode cX11_sceneItem 47 = .ok (.getfield 73, 3) := by decide +kernel
theorem dX11_sceneItem_50 : decode cX11_sceneItem 50 = .ok (.iconst 1, 1) := by decide +kernel
theorem dX11_sceneItem_51 : decode cX11_sceneItem 51 = .ok (.iaload, 1) := by decide +kernel
theorem dX11_sceneItem_52 : decode cX11_sceneItem 52 = .ok (.i2l, 1) := by decide +kernel
theorem dX11_sceneItem_53 : decode cX11_sceneItem 53 = .ok (.lconst 1, 1) := by decide +kernel
theorem dX11_sceneItem_54 : decode cX11_sceneItem 54 = .ok (.ldc2_w 151, 3) := by decide +kernel
theorem dX11_sceneItem_57 : decode cX11_sceneItem 57 = .ok (.invokestatic 124, 3) := by decide +kernel
theorem dX11_sceneItem_60 : decode cX11_sceneItem 60 = .ok (.ifCond .ne 5, 3) := by decide +kernel
theorem dX11_sceneItem_63 : decode cX11_sceneItem 63 = .ok (.iconst 0, 1) := by decide +kernel
theorem dX11_sceneItem_64 : decode cX11_sceneItem 64 = .ok (.ireturn, 1) := by decide +kernel
theorem dX11_sceneItem_65 : decode cX11_sceneItem 65 = .ok (.aload_n 0, 1) := by decide +kernel
theorem dX11_sceneItem_66 : decode cX11_sceneItem 66 = .ok (.getfield 43, 3) := by decide +kernel
theorem dX11_sceneItem_69 : decode cX11_sceneItem 69 = .ok (.bipush 10, 2) := by decide +kernel
theorem dX11_sceneItem_71 : decode cX11_sceneItem 71 = .ok (.iload_n 1, 1) := by decide +kernel
theorem dX11_sceneItem_72 : decode cX11_sceneItem 72 = .ok (.iadd, 1) := by decide +kernel
theorem dX11_sceneItem_73 : decode cX11_sceneItem 73 = .ok (.aload_n 0, 1) := by decide +kernel
theorem dX11_sceneItem_74 : decode cX11_sceneItem 74 = .ok (.getfield 73, 3) := by decide +kernel
theorem dX11_sceneItem_77 : decode cX11_sceneItem 77 = .ok (.iconst 0, 1) := by decide +kernel
theorem dX11_sceneItem_78 : decode cX11_sceneItem 78 = .ok (.iaload, 1) := by decide +kernel
theorem dX11_sceneItem_79 : decode cX11_sceneItem 79 = .ok (.iastore, 1) := by decide +kernel
theorem dX11_sceneItem_80 : decode cX11_sceneItem 80 = .ok (.aload_n 0, 1) := by decide +kernel
theorem dX11_sceneItem_81 : decode cX11_sceneItem 81 = .ok (.getfield 46, 3) := by decide +kernel
theorem dX11_sceneItem_84 : decode cX11_sceneItem 84 = .ok (.bipush 10, 2) := by decide +kernel
theorem dX11_sceneItem_86 : decode cX11_sceneItem 86 = .ok (.iload_n 1, 1) := by decide +kernel
theorem dX11_sceneItem_87 : decode cX11_sceneItem 87 = .ok (.iadd, 1) := by decide +kernel
theorem dX11_sceneItem_88 : decode cX11_sceneItem 88 = .ok (.aload_n 0, 1) := by decide +kernel
theorem dX11_sceneItem_89 : decode cX11_sceneItem 89 = .ok (.getfield 73, 3) := by decide +kernel
theorem dX11_sceneItem_92 : decode cX11_sceneItem 92 = .ok (.iconst 1, 1) := by decide +kernel
theorem dX11_sceneItem_93 : decode cX11_sceneItem 93 = .ok (.iaload, 1) := by decide +kernel
theorem dX11_sceneItem_94 : decode cX11_sceneItem 94 = .ok (.iastore, 1) := by decide +kernel
theorem dX11_sceneItem_95 : decode cX11_sceneItem 95 = .ok (.aload_n 0, 1) := by decide +kernel
theorem dX11_sceneItem_96 : decode cX11_sceneItem 96 = .ok (.getfield 40, 3) := by decide +kernel
theorem dX11_sceneItem_99 : decode cX11_sceneItem 99 = .ok (.iconst 1, 1) := by decide +kernel
theorem dX11_sceneItem_100 : decode cX11_sceneItem 100 = .ok (.dup2, 1) := by decide +kernel
theorem dX11_sceneItem_101 : decode cX11_sceneItem 101 = .ok (.iaload, 1) := by decide +kernel
theorem dX11_sceneItem_102 : decode cX11_sceneItem 102 = .ok (.iconst 1, 1) := by decide +kernel
theorem dX11_sceneItem_103 : decode cX11_sceneItem 103 = .ok (.iadd, 1) := by decide +kernel
theorem dX11_sceneItem_104 : decode cX11_sceneItem 104 = .ok (.iastore, 1) := by decide +kernel
theorem dX11_sceneItem_105 : decode cX11_sceneItem 105 = .ok (.iconst 1, 1) := by decide +kernel
theorem dX11_sceneItem_106 : decode cX11_sceneItem 106 = .ok (.ireturn, 1) := by decide +kernel
theorem dX11_isPair_0 : decode cX11_isPair 0 = .ok (.aload_n 0, 1) := by decide +kernel
theorem dX11_isPair_1 : decode cX11_isPair 1 = .ok (.iconst 2, 1) := by decide +kernel
theorem dX11_isPair_2 : decode cX11_isPair 2 = .ok (.invokevirtual 147, 3) := by decide +kernel
theorem dX11_isPair_5 : decode cX11_isPair 5 = .ok (.ifCond .eq 37, 3) := by decide +kernel
theorem dX11_isPair_8 : decode cX11_isPair 8 = .ok (.aload_n 0, 1) := by decide +kernel
theorem dX11_isPair_9 : decode cX11_isPair 9 = .ok (.getfield 73, 3) := by decide +kernel
theorem dX11_isPair_12 : decode cX11_isPair 12 = .ok (.iconst 0, 1) := by decide +kernel
theorem dX11_isPair_13 : decode cX11_isPair 13 = .ok (.iaload, 1) := by decide +kernel
theorem dX11_isPair_14 : decode cX11_isPair 14 = .ok (.aload_n 0, 1) := by decide +kernel
theorem dX11_isPair_15 : decode cX11_isPair 15 = .ok (.getfield 13, 3) := by decide +kernel
theorem dX11_isPair_18 : decode cX11_isPair 18 = .ok (.iconst 1, 1) := by decide +kernel
theorem dX11_isPair_19 : decode cX11_isPair 19 = .ok (.iaload, 1) := by decide +kernel
theorem dX11_isPair_20 : decode cX11_isPair 20 = .ok (.if_icmp .ge 22, 3) := by decide +kernel
theorem dX11_isPair_23 : decode cX11_isPair 23 = .ok (.aload_n 0, 1) := by decide +kernel
theorem dX11_isPair_24 : decode cX11_isPair 24 = .ok (.getfield 73, 3) := by decide +kernel
theorem dX11_isPair_27 : decode cX11_isPair 27 = .ok (.iconst 1, 1) := by decide +kernel
theorem dX11_isPair_28 : decode cX11_isPair 28 = .ok (.iaload, 1) := by decide +kernel
theorem dX11_isPair_29 : decode cX11_isPair 29 = .ok (.aload_n 0, 1) := by decide +kernel
theorem dX11_isPair_30 : decode cX11_isPair 30 = .ok (.getfield 22, 3) := by decide +kernel
theorem dX11_isPair_33 : decode cX11_isPair 33 = .ok (.iconst 1, 1) := by decide +kernel
theorem dX11_isPair_34 : decode cX11_isPair 34 = .ok (.iaload, 1) := by decide +kernel
theorem dX11_isPair_35 : decode cX11_isPair 35 = .ok (.if_icmp .ge 7, 3) := by decide +kernel
theorem dX11_isPair_38 : decode cX11_isPair 38 = .ok (.iconst 1, 1) := by decide +kernel
theorem dX11_isPair_39 : decode cX11_isPair 39 = .ok (.goto 4, 3) := by decide +kernel
theorem dX11_isPair_42 : decode cX11_isPair 42 = .ok (.iconst 0, 1) := by decide +kernel
theorem dX11_isPair_43 : decode cX11_isPair 43 = .ok (.ireturn, 1) := by decide +kernel
theorem dX11_coldItem_0 : decode cX11_coldItem 0 = .ok (.aload_n 0, 1) := by decide +kernel
theorem dX11_coldItem_1 : decode cX11_coldItem 1 = .ok (.iconst 3, 1) := by decide +kernel
theorem dX11_coldItem_2 : decode cX11_coldItem 2 = .ok (.invokevirtual 147, 3) := by decide +kernel
theorem dX11_coldItem_5 : decode cX11_coldItem 5 = .ok (.ifCond .eq 59, 3) := by decide +kernel
theorem dX11_coldItem_8 : decode cX11_coldItem 8 = .ok (.aload_n 0, 1) := by decide +kernel
theorem dX11_coldItem_9 : decode cX11_coldItem 9 = .ok (.getfield 73, 3) := by decide +kernel
theorem dX11_coldItem_12 : decode cX11_coldItem 12 = .ok (.iconst 0, 1) := by decide +kernel
theorem dX11_coldItem_13 : decode cX11_coldItem 13 = .ok (.iaload, 1) := by decide +kernel
theorem dX11_coldItem_14 : decode cX11_coldItem 14 = .ok (.aload_n 0, 1) := by decide +kernel
theorem dX11_coldItem_15 : decode cX11_coldItem 15 = .ok (.getfield 13, 3) := by decide +kernel
theorem dX11_coldItem_18 : decode cX11_coldItem 18 = .ok (.iconst 1, 1) := by decide +kernel
theorem dX11_coldItem_19 : decode cX11_coldItem 19 = .ok (.iaload, 1) := by decide +kernel
theorem dX11_coldItem_20 : decode cX11_coldItem 20 = .ok (.if_icmp .ge 44, 3) := by decide +kernel
theorem dX11_coldItem_23 : decode cX11_coldItem 23 = .ok (.aload_n 0, 1) := by decide +kernel
theorem dX11_coldItem_24 : decode cX11_coldItem 24 = .ok (.getfield 73, 3) := by decide +kernel
theorem dX11_coldItem_27 : decode cX11_coldItem 27 = .ok (.iconst 1, 1) := by decide +kernel
theorem dX11_coldItem_28 : decode cX11_coldItem 28 = .ok (.iaload, 1) := by decide +kernel
theorem dX11_coldItem_29 : decode cX11_coldItem 29 = .ok (.aload_n 0, 1) := by decide +kernel
theorem dX11_coldItem_30 : decode cX11_coldItem 30 = .ok (.getfield 13, 3) := by decide +kernel
theorem dX11_coldItem_33 : decode cX11_coldItem 33 = .ok (.iconst 1, 1) := by decide +kernel
theorem dX11_coldItem_34 : decode cX11_coldItem 34 = .ok (.iaload, 1) := by decide +kernel
theorem dX11_coldItem_35 : decode cX11_coldItem 35 = .ok (.if_icmp .ge 29, 3) := by decide +kernel
theorem dX11_coldItem_38 : decode cX11_coldItem 38 = .ok (.aload_n 0, 1) := by decide +kernel
theorem dX11_coldItem_39 : decode cX11_coldItem 39 = .ok (.getfield 73, 3) := by decide +kernel
theorem dX11_coldItem_42 : decode cX11_coldItem 42 = .ok (.iconst 0, 1) := by decide +kernel
theorem dX11_coldItem_43 : decode cX11_coldItem 43 = .ok (.iaload, 1) := by decide +kernel
theorem dX11_coldItem_44 : decode cX11_coldItem 44 = .ok (.aload_n 0, 1) := by decide +kernel
theorem dX11_coldItem_45 : decode cX11_coldItem 45 = .ok (.getfield 73, 3) := by decide +kernel
theorem dX11_coldItem_48 : decode cX11_coldItem 48 = .ok (.iconst 1, 1) := by decide +kernel
theorem dX11_coldItem_49 : decode cX11_coldItem 49 = .ok (.iaload, 1) := by decide +kernel
theorem dX11_coldItem_50 : decode cX11_coldItem 50 = .ok (.if_icmp .eq 14, 3) := by decide +kernel
theorem dX11_coldItem_53 : decode cX11_coldItem 53 = .ok (.aload_n 0, 1) := by decide +kernel
theorem dX11_coldItem_54 : decode cX11_coldItem 54 = .ok (.getfield 73, 3) := by decide +kernel
theorem dX11_coldItem_57 : decode cX11_coldItem 57 = .ok (.iconst 2, 1) := by decide +kernel
theorem dX11_coldItem_58 : decode cX11_coldItem 58 = .ok (.iaload, 1) := by decide +kernel
theorem dX11_coldItem_59 : decode cX11_coldItem 59 = .ok (.bipush 100, 2) := by decide +kernel
theorem dX11_coldItem_61 : decode cX11_coldItem 61 = .ok (.if_icmp .le 5, 3) := by decide +kernel
theorem dX11_coldItem_64 : decode cX11_coldItem 64 = .ok (.iconst 0, 1) := by decide +kernel
theorem dX11_coldItem_65 : decode cX11_coldItem 65 = .ok (.ireturn, 1) := by decide +kernel
theorem dX11_coldItem_66 : decode cX11_coldItem 66 = .ok (.aload_n 0, 1) := by decide +kernel
theorem dX11_coldItem_67 : decode cX11_coldItem 67 = .ok (.getfield 55, 3) := by decide +kernel
theorem dX11_coldItem_70 : decode cX11_coldItem 70 = .ok (.bipush 100, 2) := by decide +kernel
theorem dX11_coldItem_72 : decode cX11_coldItem 72 = .ok (.bipush 10, 2) := by decide +kernel
theorem dX11_coldItem_74 : decode cX11_coldItem 74 = .ok (.aload_n 0, 1) := by decide +kernel
theorem dX11_coldItem_75 : decode cX11_coldItem 75 = .ok (.getfield 73, 3) := by decide +kernel
theorem dX11_coldItem_78 : decode cX11_coldItem 78 = .ok (.iconst 0, 1) := by decide +kernel
theorem dX11_coldItem_79 : decode cX11_coldItem 79 = .ok (.iaload, 1) := by decide +kernel
theorem dX11_coldItem_80 : decode cX11_coldItem 80 = .ok (.imul, 1) := by decide +kernel
theorem dX11_coldItem_81 : decode cX11_coldItem 81 = .ok (.iadd, 1) := by decide +kernel
theorem dX11_coldItem_82 : decode cX11_coldItem 82 = .ok (.aload_n 0, 1) := by decide +kernel
theorem dX11_coldItem_83 : decode cX11_coldItem 83 = .ok (.getfield 73, 3) := by decide +kernel
theorem dX11_coldItem_86 : decode cX11_coldItem 86 = .ok (.iconst 1, 1) := by decide +kernel
theorem dX11_coldItem_87 : decode cX11_coldItem 87 = .ok (.iaload, 1) := by decide +kernel
theorem dX11_coldItem_88 : decode cX11_coldItem 88 = .ok (.iadd, 1) := by decide +kernel
theorem dX11_coldItem_89 : decode cX11_coldItem 89 = .ok (.aload_n 0, 1) := by decide +kernel
theorem dX11_coldItem_90 : decode cX11_coldItem 90 = .ok (.getfield 73, 3) := by decide +kernel
theorem dX11_coldItem_93 : decode cX11_coldItem 93 = .ok (.iconst 2, 1) := by decide +kernel
theorem dX11_coldItem_94 : decode cX11_coldItem 94 = .ok (.iaload, 1) := by decide +kernel
theorem dX11_coldItem_95 : decode cX11_coldItem 95 = .ok (.iastore, 1) := by decide +kernel
theorem dX11_coldItem_96 : decode cX11_coldItem 96 = .ok (.aload_n 0, 1) := by decide +kernel
theorem dX11_coldItem_97 : decode cX11_coldItem 97 = .ok (.getfield 55, 3) := by decide +kernel
theorem dX11_coldItem_100 : decode cX11_coldItem 100 = .ok (.bipush 100, 2) := by decide +kernel
theorem dX11_coldItem_102 : decode cX11_coldItem 102 = .ok (.bipush 10, 2) := by decide +kernel
theorem dX11_coldItem_104 : decode cX11_coldItem 104 = .ok (.aload_n 0, 1) := by decide +kernel
theorem dX11_coldItem_105 : decode cX11_coldItem 105 = .ok (.getfield 73, 3) := by decide +kernel
theorem dX11_coldItem_108 : decode cX11_coldItem 108 = .ok (.iconst 1, 1) := by decide +kernel
theorem dX11_coldItem_109 : decode cX11_coldItem 109 = .ok (.iaload, 1) := by decide +kernel
theorem dX11_coldItem_110 : decode cX11_coldItem 110 = .ok (.imul, 1) := by decide +kernel
theorem dX11_coldItem_111 : decode cX11_coldItem 111 = .ok (.iadd, 1) := by decide +kernel
theorem dX11_coldItem_112 : decode cX11_coldItem 112 = .ok (.aload_n 0, 1) := by decide +kernel
theorem dX11_coldItem_113 : decode cX11_coldItem 113 = .ok (.getfield 73, 3) := by decide +kernel
theorem dX11_coldItem_116 : decode cX11_coldItem 116 = .ok (.iconst 0, 1) := by decide +kernel
theorem dX11_coldItem_117 : decode cX11_coldItem 117 = .ok (.iaload, 1) := by decide +kernel
theorem dX11_coldItem_118 : decode cX11_coldItem 118 = .ok (.iadd, 1) := by decide +kernel
theorem dX11_coldItem_119 : decode cX11_coldItem 119 = .ok (.aload_n 0, 1) := by decide +kernel
theorem dX11_coldItem_120 : decode cX11_coldItem 120 = .ok (.getfield 73, 3) := by decide +kernel
theorem dX11_coldItem_123 : decode cX11_coldItem 123 = .ok (.iconst 2, 1) := by decide +kernel
theorem dX11_coldItem_124 : decode cX11_coldItem 124 = .ok (.iaload, 1) := by decide +kernel
theorem dX11_coldItem_125 : decode cX11_coldItem 125 = .ok (.iastore, 1) := by decide +kernel
theorem dX11_coldItem_126 : decode cX11_coldItem 126 = .ok (.iconst 1, 1) := by decide +kernel
theorem dX11_coldItem_127 : decode cX11_coldItem 127 = .ok (.ireturn, 1) := by decide +kernel
theorem dX11_numberItem_0 : decode cX11_numberItem 0 = .ok (.aload_n 0, 1) := by decide +kernel
theorem dX11_numberItem_1 : decode cX11_numberItem 1 = .ok (.iconst 1, 1) := by decide +kernel
theorem dX11_numberItem_2 : decode cX11_numberItem 2 = .ok (.invokevirtual 147, 3) := by decide +kernel
theorem dX11_numberItem_5 : decode cX11_numberItem 5 = .ok (.ifCond .eq 13, 3) := by decide +kernel
theorem dX11_numberItem_8 : decode cX11_numberItem 8 = .ok (.aload_n 0, 1) := by decide +kernel
theorem dX11_numberItem_9 : decode cX11_numberItem 9 = .ok (.getfield 73, 3) := by decide +kernel
theorem dX11_numberItem_12 : decode cX11_numberItem 12 = .ok (.iconst 0, 1) := by decide +kernel
theorem dX11_numberItem_13 : decode cX11_numberItem 13 = .ok (.iaload, 1) := by decide +kernel
theorem dX11_numberItem_14 : decode cX11_numberItem 14 = .ok (.iload_n 2, 1) := by decide +kernel
theorem dX11_numberItem_15 : decode cX11_numberItem 15 = .ok (.if_icmp .le 5, 3) := by decide +kernel
theorem dX11_numberItem_18 : decode cX11_numberItem 18 = .ok (.iconst 0, 1) := by decide +kernel
theorem dX11_numberItem_19 : decode cX11_numberItem 19 = .ok (.ireturn, 1) := by decide +kernel
theorem dX11_numberItem_20 : decode cX11_numberItem 20 = .ok (.aload_n 0, 1) := by decide +kernel
theorem dX11_numberItem_21 : decode cX11_numberItem 21 = .ok (.getfield 58, 3) := by decide +kernel
theorem dX11_numberItem_24 : decode cX11_numberItem 24 = .ok (.iconst 5, 1) := by decide +kernel
theorem dX11_numberItem_25 : decode cX11_numberItem 25 = .ok (.iload_n 1, 1) := by decide +kernel
theorem dX11_numberItem_26 : decode cX11_numberItem 26 = .ok (.iadd, 1) := by decide +kernel
theorem dX11_numberItem_27 : decode cX11_numberItem 27 = .ok (.aload_n 0, 1) := by decide +kernel
theorem dX11_numberItem_28 : decode cX11_numberItem 28 = .ok (.getfield 73, 3) := by decide +kernel
theorem dX11_numberItem_31 : decode cX11_numberItem 31 = .ok (.iconst 0, 1) := by decide +kernel
theorem dX11_numberItem_32 : decode cX11_numberItem 32 = .ok (.iaload, 1) := by decide +kernel
theorem dX11_numberItem_33 : decode cX11_numberItem 33 = .ok (.iastore, 1) := by decide +kernel
theorem dX11_numberItem_34 : decode cX11_numberItem 34 = .ok (.iconst 1, 1) := by decide +kernel
theorem dX11_numberItem_35 : decode cX11_numberItem 35 = .ok (.ireturn, 1) := by decide +kernel
theorem dX11_item_0 : decode cX11_item 0 = .ok (.aload_n 0, 1) := by decide +kernel
theorem dX11_item_1 : decode cX11_item 1 = .ok (.aload_n 0, 1) := by decide +kernel
theorem dX11_item_2 : decode cX11_item 2 = .ok (.getfield 134, 3) := by decide +kernel
theorem dX11_item_5 : decode cX11_item 5 = .ok (.invokevirtual 137, 3) := by decide +kernel
theorem dX11_item_8 : decode cX11_item 8 = .ok (.istore_n 1, 1) := by decide +kernel
theorem dX11_item_9 : decode cX11_item 9 = .ok (.aload_n 0, 1) := by decide +kernel
theorem dX11_item_10 : decode cX11_item 10 = .ok (.dup, 1) := by decide +kernel
theorem dX11_item_11 : decode cX11_item 11 = .ok (.getfield 134, 3) := by decide +kernel
theorem dX11_item_14 : decode cX11_item 14 = .ok (.iconst 1, 1) := by decide +kernel
theorem dX11_item_15 : decode cX11_item 15 = .ok (.iadd, 1) := by decide +kernel
theorem dX11_item_16 : decode cX11_item 16 = .ok (.putfield 134, 3) := by decide +kernel
theorem dX11_item_19 : decode cX11_item 19 = .ok (.iload_n 1, 1) := by decide +kernel
theorem dX11_item_20 : decode cX11_item 20 = .ok (.tableswitch 293 97 120 #[112, 293, 122, 293, 293, 236, 293, 293, 293, 293, 158, 293, 220, 293, 127, 117, 293, 293, 293, 228, 293, 293, 244, 215], 112) := by decide +kernel
theorem dX11_item_132 : decode cX11_item 132 = .ok (.aload_n 0, 1) := by decide +kernel
theorem dX11_item_133 : decode cX11_item 133 = .ok (.invokevirtual 153, 3) := by decide +kernel
theorem dX11_item_136 : decode cX11_item 136 = .ok (.ireturn, 1) := by decide +kernel
theorem dX11_item_137 : decode cX11_item 137 = .ok (.aload_n 0, 1) := by decide +kernel
theorem dX11_item_138 : decode cX11_item 138 = .ok (.invokevirtual 157, 3) := by decide +kernel
theorem dX11_item_141 : decode cX11_item 141 = .ok (.ireturn, 1) := by decide +kernel
theorem dX11_item_142 : decode cX11_item 142 = .ok (.aload_n 0, 1) := by decide +kernel
theorem dX11_item_143 : decode cX11_item 143 = .ok (.invokevirtual 160, 3) := by decide +kernel
theorem dX11_item_146 : decode cX11_item 146 = .ok (.ireturn, 1) := by decide +kernel
theorem dX11_item_147 : decode cX11_item 147 = .ok (.aload_n 0, 1) := by decide +kernel
theorem dX11_item_148 : decode cX11_item 148 = .ok (.invokevirtual 163, 3) := by decide +kernel
theorem dX11_item_151 : decode cX11_item 151 = .ok (.ifCond .ne 5, 3) := by decide +kernel
theorem dX11_item_154 : decode cX11_item 154 = .ok (.iconst 0, 1) := by decide +kernel
theorem dX11_item_155 : decode cX11_item 155 = .ok (.ireturn, 1) := by decide +kernel
theorem dX11_item_156 : decode cX11_item 156 = .ok (.aload_n 0, 1) := by decide +kernel
theorem dX11_item_157 : decode cX11_item 157 = .ok (.getfield 37, 3) := by decide +kernel
theorem dX11_item_160 : decode cX11_item 160 = .ok (.bipush 8, 2) := by decide +kernel
theorem dX11_item_162 : decode cX11_item 162 = .ok (.aload_n 0, 1) := by decide +kernel
theorem dX11_item_163 : decode cX11_item 163 = .ok (.getfield 73, 3) := by decide +kernel
theorem dX11_item_166 : decode cX11_item 166 = .ok (.iconst 1, 1) := by decide +kernel
theorem dX11_item_167 : decode cX11_item 167 = .ok (.iaload, 1) := by decide +kernel
theorem dX11_item_168 : decode cX11_item 168 = .ok (.iadd, 1) := by decide +kernel
theorem dX11_item_169 : decode cX11_item 169 = .ok (.aload_n 0, 1) := by decide +kernel
theorem dX11_item_170 : decode cX11_item 170 = .ok (.getfield 73, 3) := by decide +kernel
theorem dX11_item_173 : decode cX11_item 173 = .ok (.iconst 0, 1) := by decide +kernel
theorem dX11_item_174 : decode cX11_item 174 = .ok (.iaload, 1) := by decide +kernel
theorem dX11_item_175 : decode cX11_item 175 = .ok (.iastore, 1) := by decide +kernel
theorem dX11_item_176 : decode cX11_item 176 = .ok (.iconst 1, 1) := by decide +kernel
theorem dX11_item_177 : decode cX11_item 177 = .ok (.ireturn, 1) := by decide +kernel
theorem dX11_item_178 : decode cX11_item 178 = .ok (.aload_n 0, 1) := by decide +kernel
theorem dX11_item_179 : decode cX11_item 179 = .ok (.invokevirtual 163, 3) := by decide +kernel
theorem dX11_item_182 : decode cX11_item 182 = .ok (.ifCond .eq 14, 3) := by decide +kernel
theorem dX11_item_185 : decode cX11_item 185 = .ok (.aload_n 0, 1) := by decide +kernel
theorem dX11_item_186 : decode cX11_item 186 = .ok (.getfield 49, 3) := by decide +kernel
theorem dX11_item_189 : decode cX11_item 189 = .ok (.iconst 1, 1) := by decide +kernel
theorem dX11_item_190 : decode cX11_item 190 = .ok (.iaload, 1) := by decide +kernel
theorem dX11_item_191 : decode cX11_item 191 = .ok (.bipush 24, 2) := by decide +kernel
theorem dX11_item_193 : decode cX11_item 193 = .ok (.if_icmp .ne 5, 3) := by decide +kernel
theorem dX11_item_196 : decode cX11_item 196 = .ok (.iconst 0, 1) := by decide +kernel
theorem dX11_item_197 : decode cX11_item 197 = .ok (.ireturn, 1) := by decide +kernel
theorem dX11_item_198 : decode cX11_item 198 = .ok (.aload_n 0, 1) := by decide +kernel
theorem dX11_item_199 : decode cX11_item 199 = .ok (.getfield 52, 3) := by decide +kernel
theorem dX11_item_202 : decode cX11_item 202 = .ok (.bipush 10, 2) := by decide +kernel
theorem dX11_item_204 : decode cX11_item 204 = .ok (.aload_n 0, 1) := by decide +kernel
theorem dX11_item_205 : decode cX11_item 205 = .ok (.getfield 73, 3) := by decide +kernel
theorem dX11_item_208 : decode cX11_item 208 = .ok (.iconst 0, 1) := by decide +kernel
theorem dX11_item_209 : decode cX11_item 209 = .ok (.iaload, 1) := by decide +kernel
theorem dX11_item_210 : decode cX11_item 210 = .ok (.iadd, 1) := by decide +kernel
theorem dX11_item_211 : decode cX11_item 211 = .ok (.dup2, 1) := by decide +kernel
theorem dX11_item_212 : decode cX11_item 212 = .ok (.iaload, 1) := by decide +kernel
theorem dX11_item_213 : decode cX11_item 213 = .ok (.iconst 1, 1) := by decide +kernel
theorem dX11_item_214 : decode cX11_item 214 = .ok (.aload_n 0, 1) := by decide +kernel
theorem dX11_item_215 : decode cX11_item 215 = .ok (.getfield 73, 3) := by decide +kernel
theorem dX11_item_218 : decode cX11_item 218 = .ok (.iconst 1, 1) := by decide +kernel
theorem dX11_item_219 : decode cX11_item 219 = .ok (.iaload, 1) := by decide +kernel
theorem dX11_item_220 : decode cX11_item 220 = .ok (.ishl, 1) := by decide +kernel
theorem dX11_item_221 : decode cX11_item 221 = .ok (.ior, 1) := by decide +kernel
theorem dX11_item_222 : decode cX11_item 222 = .ok (.iastore, 1) := by decide +kernel
theorem dX11_item_223 : decode cX11_item 223 = .ok (.aload_n 0, 1) := by decide +kernel
theorem dX11_item_224 : decode cX11_item 224 = .ok (.getfield 49, 3) := by decide +kernel
theorem dX11_item_227 : decode cX11_item 227 = .ok (.iconst 1, 1) := by decide +kernel
theorem dX11_item_228 : decode cX11_item 228 = .ok (.dup2, 1) := by decide +kernel
theorem dX11_item_229 : decode cX11_item 229 = .ok (.iaload, 1) := by decide +kernel
theorem dX11_item_230 : decode cX11_item 230 = .ok (.iconst 1, 1) := by decide +kernel
theorem dX11_item_231 : decode cX11_item 231 = .ok (.iadd, 1) := by decide +kernel
theorem dX11_item_232 : decode cX11_item 232 = .ok (.iastore, 1) := by decide +kernel
theorem dX11_item_233 : decode cX11_item 233 = .ok (.iconst 1, 1) := by decide +kernel
theorem dX11_item_234 : decode cX11_item 234 = .ok (.ireturn, 1) := by decide +kernel
theorem dX11_item_235 : decode cX11_item 235 = .ok (.aload_n 0, 1) := by decide +kernel
theorem dX11_item_236 : decode cX11_item 236 = .ok (.invokevirtual 166, 3) := by decide +kernel
theorem dX11_item_239 : decode cX11_item 239 = .ok (.ireturn, 1) := by decide +kernel
theorem dX11_item_240 : decode cX11_item 240 = .ok (.aload_n 0, 1) := by decide +kernel
theorem dX11_item_241 : decode cX11_item 241 = .ok (.iconst 0, 1) := by decide +kernel
theorem dX11_item_242 : decode cX11_item 242 = .ok (.bipush 99, 2) := by decide +kernel
theorem dX11_item_244 : decode cX11_item 244 = .ok (.invokevirtual 169, 3) := by decide +kernel
theorem dX11_item_247 : decode cX11_item 247 = .ok (.ireturn, 1) := by decide +kernel
theorem dX11_item_248 : decode cX11_item 248 = .ok (.aload_n 0, 1) := by decide +kernel
theorem dX11_item_249 : decode cX11_item 249 = .ok (.iconst 1, 1) := by decide +kernel
theorem dX11_item_250 : decode cX11_item 250 = .ok (.bipush 9, 2) := by decide +kernel
theorem dX11_item_252 : decode cX11_item 252 = .ok (.invokevirtual 169, 3) := by decide +kernel
theorem dX11_item_255 : decode cX11_item 255 = .ok (.ireturn, 1) := by decide +kernel
theorem dX11_item_256 : decode cX11_item 256 = .ok (.aload_n 0, 1) := by decide +kernel
theorem dX11_item_257 : decode cX11_item 257 = .ok (.iconst 2, 1) := by decide +kernel
theorem dX11_item_258 : decode cX11_item 258 = .ok (.bipush 99, 2) := by decide +kernel
theorem dX11_item_260 : decode cX11_item 260 = .ok (.invokevirtual 169, 3) := by decide +kernel
theorem dX11_item_263 : decode cX11_item 263 = .ok (.ireturn, 1) := by decide +kernel
theorem dX11_item_264 : decode cX11_item 264 = .ok (.aload_n 0, 1) := by decide +kernel
theorem dX11_item_265 : decode cX11_item 265 = .ok (.iconst 2, 1) := by decide +kernel
theorem dX11_item_266 : decode cX11_item 266 = .ok (.invokevirtual 147, 3) := by decide +kernel
theorem dX11_item_269 : decode cX11_item 269 = .ok (.ifCond .eq 14, 3) := by decide +kernel
theorem dX11_item_272 : decode cX11_item 272 = .ok (.aload_n 0, 1) := by decide +kernel
theorem dX11_item_273 : decode cX11_item 273 = .ok (.getfield 73, 3) := by decide +kernel
theorem dX11_item_276 : decode cX11_item 276 = .ok (.iconst 1, 1) := by decide +kernel
theorem dX11_item_277 : decode cX11_item 277 = .ok (.iaload, 1) := by decide +kernel
theorem dX11_item_278 : decode cX11_item 278 = .ok (.bipush 99, 2) := by decide +kernel
theorem dX11_item_280 : decode cX11_item 280 = .ok (.if_icmp .le 5, 3) := by decide +kernel
theorem dX11_item_283 : decode cX11_item 283 = .ok (.iconst 0, 1) := by decide +kernel
theorem dX11_item_284 : decode cX11_item 284 = .ok (.ireturn, 1) := by decide +kernel
theorem dX11_item_285 : decode cX11_item 285 = .ok (.aload_n 0, 1) := by decide +kernel
theorem dX11_item_286 : decode cX11_item 286 = .ok (.getfield 58, 3) := by decide +kernel
theorem dX11_item_289 : decode cX11_item 289 = .ok (.bipush 8, 2) := by decide +kernel
theorem dX11_item_291 : decode cX11_item 291 = .ok (.aload_n 0, 1) := by decide +kernel
theorem dX11_item_292 : decode cX11_item 292 = .ok (.getfield 73, 3) := by decide +kernel
theorem dX11_item_295 : decode cX11_item 295 = .ok (.iconst 0, 1) := by decide +kernel
theorem dX11_item_296 : decode cX11_item 296 = .ok (.iaload, 1) := by decide +kernel
theorem dX11_item_297 : decode cX11_item 297 = .ok (.iastore, 1) := by decide +kernel
theorem dX11_item_298 : decode cX11_item 298 = .ok (.aload_n 0, 1) := by decide +kernel
theorem dX11_item_299 : decode cX11_item 299 = .ok (.getfield 58, 3) := by decide +kernel
theorem dX11_item_302 : decode cX11_item 302 = .ok (.bipush 9, 2) := by decide +kernel
theorem dX11_item_304 : decode cX11_item 304 = .ok (.aload_n 0, 1) := by decide +kernel
theorem dX11_item_305 : decode cX11_item 305 = .ok (.getfield 73, 3) := by decide +kernel
theorem dX11_item_308 : decode cX11_item 308 = .ok (.iconst 1, 1) := by decide +kernel
theorem dX11_item_309 : decode cX11_item 309 = .ok (.iaload, 1) := by decide +kernel
theorem dX11_item_310 : decode cX11_item 310 = .ok (.iastore, 1) := by decide +kernel
theorem dX11_item_311 : decode cX11_item 311 = .ok (.iconst 1, 1) := by decide +kernel
theorem dX11_item_312 : decode cX11_item 312 = .ok (.ireturn, 1) := by decide +kernel
theorem dX11_item_313 : decode cX11_item 313 = .ok (.iconst 0, 1) := by decide +kernel
theorem dX11_item_314 : decode cX11_item 314 = .ok (.ireturn, 1) := by decide +kernel
theorem dX11_readAll_0 : decode cX11_readAll 0 = .ok (.aload_n 0, 1) := by decide +kernel
theorem dX11_readAll_1 : decode cX11_readAll 1 = .ok (.iconst 1, 1) := by decide +kernel
theorem dX11_readAll_2 : decode cX11_readAll 2 = .ok (.invokevirtual 115, 3) := by decide +kernel
theorem dX11_readAll_5 : decode cX11_readAll 5 = .ok (.aload_n 0, 1) := by decide +kernel
theorem dX11_readAll_6 : decode cX11_readAll 6 = .ok (.iconst 0, 1) := by decide +kernel
theorem dX11_readAll_7 : decode cX11_readAll 7 = .ok (.putfield 134, 3) := by decide +kernel
theorem dX11_readAll_10 : decode cX11_readAll 10 = .ok (.aload_n 0, 1) := by decide +kernel
theorem dX11_readAll_11 : decode cX11_readAll 11 = .ok (.getfield 134, 3) := by decide +kernel
theorem dX11_readAll_14 : decode cX11_readAll 14 = .ok (.aload_n 0, 1) := by decide +kernel
theorem dX11_readAll_15 : decode cX11_readAll 15 = .ok (.getfield 128, 3) := by decide +kernel
theorem dX11_readAll_18 : decode cX11_readAll 18 = .ok (.if_icmp .ge 20, 3) := by decide +kernel
theorem dX11_readAll_21 : decode cX11_readAll 21 = .ok (.aload_n 0, 1) := by decide +kernel
theorem dX11_readAll_22 : decode cX11_readAll 22 = .ok (.getfield 134, 3) := by decide +kernel
theorem dX11_readAll_25 : decode cX11_readAll 25 = .ok (.istore_n 1, 1) := by decide +kernel
theorem dX11_readAll_26 : decode cX11_readAll 26 = .ok (.aload_n 0, 1) := by decide +kernel
theorem dX11_readAll_27 : decode cX11_readAll 27 = .ok (.invokevirtual 173, 3) := by decide +kernel
theorem dX11_readAll_30 : decode cX11_readAll 30 = .ok (.ifCond .ne 5, 3) := by decide +kernel
theorem dX11_readAll_33 : decode cX11_readAll 33 = .ok (.iload_n 1, 1) := by decide +kernel
theorem dX11_readAll_34 : decode cX11_readAll 34 = .ok (.ireturn, 1) := by decide +kernel
theorem dX11_readAll_35 : decode cX11_readAll 35 = .ok (.goto (-25), 3) := by decide +kernel
theorem dX11_readAll_38 : decode cX11_readAll 38 = .ok (.bipush (-4), 2) := by decide +kernel
theorem dX11_readAll_40 : decode cX11_readAll 40 = .ok (.ireturn, 1) := by decide +kernel
theorem dX11_fault_0 : decode cX11_fault 0 = .ok (.aload_n 0, 1) := by decide +kernel
theorem dX11_fault_1 : decode cX11_fault 1 = .ok (.invokevirtual 176, 3) := by decide +kernel
theorem dX11_fault_4 : decode cX11_fault 4 = .ok (.ireturn, 1) := by decide +kernel
theorem dX11_lay_0 : decode cX11_lay 0 = .ok (.aload_n 0, 1) := by decide +kernel
theorem dX11_lay_1 : decode cX11_lay 1 = .ok (.invokevirtual 176, 3) := by decide +kernel
theorem dX11_lay_4 : decode cX11_lay 4 = .ok (.bipush (-4), 2) := by decide +kernel
theorem dX11_lay_6 : decode cX11_lay 6 = .ok (.if_icmp .ne 21, 3) := by decide +kernel
theorem dX11_lay_9 : decode cX11_lay 9 = .ok (.aload_n 0, 1) := by decide +kernel
theorem dX11_lay_10 : decode cX11_lay 10 = .ok (.getfield 13, 3) := by decide +kernel
theorem dX11_lay_13 : decode cX11_lay 13 = .ok (.iconst 1, 1) := by decide +kernel
theorem dX11_lay_14 : decode cX11_lay 14 = .ok (.iaload, 1) := by decide +kernel
theorem dX11_lay_15 : decode cX11_lay 15 = .ok (.ifCond .eq 12, 3) := by decide +kernel
theorem dX11_lay_18 : decode cX11_lay 18 = .ok (.aload_n 0, 1) := by decide +kernel
theorem dX11_lay_19 : decode cX11_lay 19 = .ok (.getfield 22, 3) := by decide +kernel
theorem dX11_lay_22 : decode cX11_lay 22 = .ok (.iconst 1, 1) := by decide +kernel
theorem dX11_lay_23 : decode cX11_lay 23 = .ok (.iaload, 1) := by decide +kernel
theorem dX11_lay_24 : decode cX11_lay 24 = .ok (.ifCond .ne 6, 3) := by decide +kernel
theorem dX11_lay_27 : decode cX11_lay 27 = .ok (.bipush (-2), 2) := by decide +kernel
theorem dX11_lay_29 : decode cX11_lay 29 = .ok (.ireturn, 1) := by decide +kernel
theorem dX11_lay_30 : decode cX11_lay 30 = .ok (.aload_n 0, 1) := by decide +kernel
theorem dX11_lay_31 : decode cX11_lay 31 = .ok (.getfield 13, 3) := by decide +kernel
theorem dX11_lay_34 : decode cX11_lay 34 = .ok (.iconst 0, 1) := by decide +kernel
theorem dX11_lay_35 : decode cX11_lay 35 = .ok (.aload_n 0, 1) := by decide +kernel
theorem dX11_lay_36 : decode cX11_lay 36 = .ok (.getfield 13, 3) := by decide +kernel
theorem dX11_lay_39 : decode cX11_lay 39 = .ok (.iconst 1, 1) := by decide +kernel
theorem dX11_lay_40 : decode cX11_lay 40 = .ok (.iaload, 1) := by decide +kernel
theorem dX11_lay_41 : decode cX11_lay 41 = .ok (.iastore, 1) := by decide +kernel
theorem dX11_lay_42 : decode cX11_lay 42 = .ok (.aload_n 0, 1) := by decide +kernel
theorem dX11_lay_43 : decode cX11_lay 43 = .ok (.getfield 22, 3) := by decide +kernel
theorem dX11_lay_46 : decode cX11_lay 46 = .ok (.iconst 0, 1) := by decide +kernel
theorem dX11_lay_47 : decode cX11_lay 47 = .ok (.aload_n 0, 1) := by decide +kernel
theorem dX11_lay_48 : decode cX11_lay 48 = .ok (.getfield 22, 3) := by decide +kernel
theorem dX11_lay_51 : decode cX11_lay 51 = .ok (.iconst 1, 1) := by decide +kernel
theorem dX11_lay_52 : decode cX11_lay 52 = .ok (.iaload, 1) := by decide +kernel
theorem dX11_lay_53 : decode cX11_lay 53 = .ok (.iastore, 1) := by decide +kernel
theorem dX11_lay_54 : decode cX11_lay 54 = .ok (.aload_n 0, 1) := by decide +kernel
theorem dX11_lay_55 : decode cX11_lay 55 = .ok (.getfield 40, 3) := by decide +kernel
theorem dX11_lay_58 : decode cX11_lay 58 = .ok (.iconst 0, 1) := by decide +kernel
theorem dX11_lay_59 : decode cX11_lay 59 = .ok (.aload_n 0, 1) := by decide +kernel
theorem dX11_lay_60 : decode cX11_lay 60 = .ok (.getfield 40, 3) := by decide +kernel
theorem dX11_lay_63 : decode cX11_lay 63 = .ok (.iconst 1, 1) := by decide +kernel
theorem dX11_lay_64 : decode cX11_lay 64 = .ok (.iaload, 1) := by decide +kernel
theorem dX11_lay_65 : decode cX11_lay 65 = .ok (.iastore, 1) := by decide +kernel
theorem dX11_lay_66 : decode cX11_lay 66 = .ok (.aload_n 0, 1) := by decide +kernel
theorem dX11_lay_67 : decode cX11_lay 67 = .ok (.getfield 49, 3) := by decide +kernel
theorem dX11_lay_70 : decode cX11_lay 70 = .ok (.iconst 0, 1) := by decide +kernel
theorem dX11_lay_71 : decode cX11_lay 71 = .ok (.aload_n 0, 1) := by decide +kernel
theorem dX11_lay_72 : decode cX11_lay 72 = .ok (.getfield 49, 3) := by decide +kernel
theorem dX11_lay_75 : decode cX11_lay 75 = .ok (.iconst 1, 1) := by decide +kernel
theorem dX11_lay_76 : decode cX11_lay 76 = .ok (.iaload, 1) := by decide +kernel
theorem dX11_lay_77 : decode cX11_lay 77 = .ok (.iastore, 1) := by decide +kernel
theorem dX11_lay_78 : decode cX11_lay 78 = .ok (.iconst 0, 1) := by decide +kernel
theorem dX11_lay_79 : decode cX11_lay 79 = .ok (.istore_n 1, 1) := by decide +kernel
theorem dX11_lay_80 : decode cX11_lay 80 = .ok (.iload_n 1, 1) := by decide +kernel
theorem dX11_lay_81 : decode cX11_lay 81 = .ok (.bipush 10, 2) := by decide +kernel
theorem dX11_lay_83 : decode cX11_lay 83 = .ok (.if_icmp .ge 84, 3) := by decide +kernel
theorem dX11_lay_86 : decode cX11_lay 86 = .ok (.aload_n 0, 1) := by decide +kernel
theorem dX11_lay_87 : decode cX11_lay 87 = .ok (.getfield 16, 3) := by decide +kernel
theorem dX11_lay_90 : decode cX11_lay 90 = .ok (.iload_n 1, 1) := by decide +kernel
theorem dX11_lay_91 : decode cX11_lay 91 = .ok (.aload_n 0, 1) := by decide +kernel
theorem dX11_lay_92 : decode cX11_lay 92 = .ok (.getfield 16, 3) := by decide +kernel
theorem dX11_lay_95 : decode cX11_lay 95 = .ok (.bipush 10, 2) := by decide +kernel
theorem dX11_lay_97 : decode cX11_lay 97 = .ok (.iload_n 1, 1) := by decide +kernel
theorem dX11_lay_98 : decode cX11_lay 98 = .ok (.iadd, 1) := by decide +kernel
theorem dX11_lay_99 : decode cX11_lay 99 = .ok (.iaload, 1) := by decide +kernel
theorem dX11_lay_100 : decode cX11_lay 100 = .ok (.iastore, 1) := by decide +kernel
theorem dX11_lay_101 : decode cX11_lay 101 = .ok (.aload_n 0, 1) := by decide +kernel
theorem dX11_lay_102 : decode cX11_lay 102 = .ok (.getfield 19, 3) := by decide +kernel
theorem dX11_lay_105 : decode cX11_lay 105 = .ok (.iload_n 1, 1) := by decide +kernel
theorem dX11_lay_106 : decode cX11_lay 106 = .ok (.aload_n 0, 1) := by decide +kernel
theorem dX11_lay_107 : decode cX11_lay 107 = .ok (.getfield 19, 3) := by decide +kernel
theorem dX11_lay_110 : decode cX11_lay 110 = .ok (.bipush 10, 2) := by decide +kernel
theorem dX11_lay_112 : decode cX11_lay 112 = .ok (.iload_n 1, 1) := by decide +kernel
theorem dX11_lay_113 : decode cX11_lay 113 = .ok (.iadd, 1) := by decide +kernel
theorem dX11_lay_114 : decode cX11_lay 114 = .ok (.iaload, 1) := by decide +kernel
theorem dX11_lay_115 : decode cX11_lay 115 = .ok (.iastore, 1) := by decide +kernel
theorem dX11_lay_116 : decode cX11_lay 116 = .ok (.aload_n 0, 1) := by decide +kernel
theorem dX11_lay_117 : decode cX11_lay 117 = .ok (.getfield 52, 3) := by decide +kernel
theorem dX11_lay_120 : decode cX11_lay 120 = .ok (.iload_n 1, 1) := by decide +kernel
theorem dX11_lay_121 : decode cX11_lay 121 = .ok (.aload_n 0, 1) := by decide +kernel
theorem dX11_lay_122 : decode cX11_lay 122 = .ok (.getfield 52, 3) := by decide +kernel
theorem dX11_lay_125 : decode cX11_lay 125 = .ok (.bipush 10, 2) := by decide +kernel
theorem dX11_lay_127 : decode cX11_lay 127 = .ok (.iload_n 1, 1) := by decide +kernel
theorem dX11_lay_128 : decode cX11_lay 128 = .ok (.iadd, 1) := by decide +kernel
theorem dX11_lay_129 : decode cX11_lay 129 = .ok (.iaload, 1) := by decide +kernel
theorem dX11_lay_130 : decode cX11_lay 130 = .ok (.iastore, 1) := by decide +kernel
theorem dX11_lay_131 : decode cX11_lay 131 = .ok (.aload_n 0, 1) := by decide +kernel
theorem dX11_lay_132 : decode cX11_lay 132 = .ok (.getfield 43, 3) := by decide +kernel
theorem dX11_lay_135 : decode cX11_lay 135 = .ok (.iload_n 1, 1) := by decide +kernel
theorem dX11_lay_136 : decode cX11_lay 136 = .ok (.aload_n 0, 1) := by decide +kernel
theorem dX11_lay_137 : decode cX11_lay 137 = .ok (.getfield 43, 3) := by decide +kernel
theorem dX11_lay_140 : decode cX11_lay 140 = .ok (.bipush 10, 2) := by decide +kernel
theorem dX11_lay_142 : decode cX11_lay 142 = .ok (.iload_n 1, 1) := by decide +kernel
theorem dX11_lay_143 : decode cX11_lay 143 = .ok (.iadd, 1) := by decide +kernel
theorem dX11_lay_144 : decode cX11_lay 144 = .ok (.iaload, 1) := by decide +kernel
theorem dX11_lay_145 : decode cX11_lay 145 = .ok (.iastore, 1) := by decide +kernel
theorem dX11_lay_146 : decode cX11_lay 146 = .ok (.aload_n 0, 1) := by decide +kernel
theorem dX11_lay_147 : decode cX11_lay 147 = .ok (.getfield 46, 3) := by decide +kernel
theorem dX11_lay_150 : decode cX11_lay 150 = .ok (.iload_n 1, 1) := by decide +kernel
theorem dX11_lay_151 : decode cX11_lay 151 = .ok (.aload_n 0, 1) := by decide +kernel
theorem dX11_lay_152 : decode cX11_lay 152 = .ok (.getfield 46, 3) := by decide +kernel
theorem dX11_lay_155 : decode cX11_lay 155 = .ok (.bipush 10, 2) := by decide +kernel
theorem dX11_lay_157 : decode cX11_lay 157 = .ok (.iload_n 1, 1) := by decide +kernel
theorem dX11_lay_158 : decode cX11_lay 158 = .ok (.iadd, 1) := by decide +kernel
theorem dX11_lay_159 : decode cX11_lay 159 = .ok (.iaload, 1) := by decide +kernel
theorem dX11_lay_160 : decode cX11_lay 160 = .ok (.iastore, 1) := by decide +kernel
theorem dX11_lay_161 : decode cX11_lay 161 = .ok (.iinc 1 1, 3) := by decide +kernel
theorem dX11_lay_164 : decode cX11_lay 164 = .ok (.goto (-84), 3) := by decide +kernel
theorem dX11_lay_167 : decode cX11_lay 167 = .ok (.iconst 0, 1) := by decide +kernel
theorem dX11_lay_168 : decode cX11_lay 168 = .ok (.istore_n 1, 1) := by decide +kernel
theorem dX11_lay_169 : decode cX11_lay 169 = .ok (.iload_n 1, 1) := by decide +kernel
theorem dX11_lay_170 : decode cX11_lay 170 = .ok (.bipush 8, 2) := by decide +kernel
theorem dX11_lay_172 : decode cX11_lay 172 = .ok (.if_icmp .ge 84, 3) := by decide +kernel
theorem dX11_lay_175 : decode cX11_lay 175 = .ok (.aload_n 0, 1) := by decide +kernel
theorem dX11_lay_176 : decode cX11_lay 176 = .ok (.getfield 25, 3) := by decide +kernel
theorem dX11_lay_179 : decode cX11_lay 179 = .ok (.iload_n 1, 1) := by decide +kernel
theorem dX11_lay_180 : decode cX11_lay 180 = .ok (.aload_n 0, 1) := by decide +kernel
theorem dX11_lay_181 : decode cX11_lay 181 = .ok (.getfield 25, 3) := by decide +kernel
theorem dX11_lay_184 : decode cX11_lay 184 = .ok (.bipush 8, 2) := by decide +kernel
theorem dX11_lay_186 : decode cX11_lay 186 = .ok (.iload_n 1, 1) := by decide +kernel
theorem dX11_lay_187 : decode cX11_lay 187 = .ok (.iadd, 1) := by decide +kernel
theorem dX11_lay_188 : decode cX11_lay 188 = .ok (.iaload, 1) := by decide +kernel
theorem dX11_lay_189 : decode cX11_lay 189 = .ok (.iastore, 1) := by decide +kernel
theorem dX11_lay_190 : decode cX11_lay 190 = .ok (.aload_n 0, 1) := by decide +kernel
theorem dX11_lay_191 : decode cX11_lay 191 = .ok (.getfield 28, 3) := by decide +kernel
theorem dX11_lay_194 : decode cX11_lay 194 = .ok (.iload_n 1, 1) := by decide +kernel
theorem dX11_lay_195 : decode cX11_lay 195 = .ok (.aload_n 0, 1) := by decide +kernel
theorem dX11_lay_196 : decode cX11_lay 196 = .ok (.getfield 28, 3) := by decide +kernel
theorem dX11_lay_199 : decode cX11_lay 199 = .ok (.bipush 8, 2) := by decide +kernel
theorem dX11_lay_201 : decode cX11_lay 201 = .ok (.iload_n 1, 1) := by decide +kernel
theorem dX11_lay_202 : decode cX11_lay 202 = .ok (.iadd, 1) := by decide +kernel
theorem dX11_lay_203 : decode cX11_lay 203 = .ok (.iaload, 1) := by decide +kernel
theorem dX11_lay_204 : decode cX11_lay 204 = .ok (.iastore, 1) := by decide +kernel
theorem dX11_lay_205 : decode cX11_lay 205 = .ok (.aload_n 0, 1) := by decide +kernel
theorem dX11_lay_206 : decode cX11_lay 206 = .ok (.getfield 31, 3) := by decide +kernel
theorem dX11_lay_209 : decode cX11_lay 209 = .ok (.iload_n 1, 1) := by decide +kernel
theorem dX11_lay_210 : decode cX11_lay 210 = .ok (.aload_n 0, 1) := by decide +kernel
theorem dX11_lay_211 : decode cX11_lay 211 = .ok (.getfield 31, 3) := by decide +kernel
theorem dX11_lay_214 : decode cX11_lay 214 = .ok (.bipush 8, 2) := by decide +kernel
theorem dX11_lay_216 : decode cX11_lay 216 = .ok (.iload_n 1, 1) := by decide +kernel
theorem dX11_lay_217 : decode cX11_lay 217 = .ok (.iadd, 1) := by decide +kernel
theorem dX11_lay_218 : decode cX11_lay 218 = .ok (.iaload, 1) := by decide +kernel
theorem dX11_lay_219 : decode cX11_lay 219 = .ok (.iastore, 1) := by decide +kernel
theorem dX11_lay_220 : decode cX11_lay 220 = .ok (.aload_n 0, 1) := by decide +kernel
theorem dX11_lay_221 : decode cX11_lay 221 = .ok (.getfield 34, 3) := by decide +kernel
theorem dX11_lay_224 : decode cX11_lay 224 = .ok (.iload_n 1, 1) := by decide +kernel
theorem dX11_lay_225 : decode cX11_lay 225 = .ok (.aload_n 0, 1) := by decide +kernel
theorem dX11_lay_226 : decode cX11_lay 226 = .ok (.getfield 34, 3) := by decide +kernel
theorem dX11_lay_229 : decode cX11_lay 229 = .ok (.bipush 8, 2) := by decide +kernel
theorem dX11_lay_231 : decode cX11_lay 231 = .ok (.iload_n 1, 1) := by decide +kernel
theorem dX11_lay_232 : decode cX11_lay 232 = .ok (.iadd, 1) := by decide +kernel
theorem dX11_lay_233 : decode cX11_lay 233 = .ok (.iaload, 1) := by decide +kernel
theorem dX11_lay_234 : decode cX11_lay 234 = .ok (.iastore, 1) := by decide +kernel
theorem dX11_lay_235 : decode cX11_lay 235 = .ok (.aload_n 0, 1) := by decide +kernel
theorem dX11_lay_236 : decode cX11_lay 236 = .ok (.getfield 37, 3) := by decide +kernel
theorem dX11_lay_239 : decode cX11_lay 239 = .ok (.iload_n 1, 1) := by decide +kernel
theorem dX11_lay_240 : decode cX11_lay 240 = .ok (.aload_n 0, 1) := by decide +kernel
theorem dX11_lay_241 : decode cX11_lay 241 = .ok (.getfield 37, 3) := by decide +kernel
theorem dX11_lay_244 : decode cX11_lay 244 = .ok (.bipush 8, 2) := by decide +kernel
theorem dX11_lay_246 : decode cX11_lay 246 = .ok (.iload_n 1, 1) := by decide +kernel
theorem dX11_lay_247 : decode cX11_lay 247 = .ok (.iadd, 1) := by decide +kernel
theorem dX11_lay_248 : decode cX11_lay 248 = .ok (.iaload, 1) := by decide +kernel
theorem dX11_lay_249 : decode cX11_lay 249 = .ok (.iastore, 1) := by decide +kernel
theorem dX11_lay_250 : decode cX11_lay 250 = .ok (.iinc 1 1, 3) := by decide +kernel
theorem dX11_lay_253 : decode cX11_lay 253 = .ok (.goto (-84), 3) := by decide +kernel
theorem dX11_lay_256 : decode cX11_lay 256 = .ok (.iconst 0, 1) := by decide +kernel
theorem dX11_lay_257 : decode cX11_lay 257 = .ok (.istore_n 1, 1) := by decide +kernel
theorem dX11_lay_258 : decode cX11_lay 258 = .ok (.iload_n 1, 1) := by decide +kernel
theorem dX11_lay_259 : decode cX11_lay 259 = .ok (.bipush 100, 2) := by decide +kernel
theorem dX11_lay_261 : decode cX11_lay 261 = .ok (.if_icmp .ge 24, 3) := by decide +kernel
theorem dX11_lay_264 : decode cX11_lay 264 = .ok (.aload_n 0, 1) := by decide +kernel
theorem dX11_lay_265 : decode cX11_lay 265 = .ok (.getfield 55, 3) := by decide +kernel
theorem dX11_lay_268 : decode cX11_lay 268 = .ok (.iload_n 1, 1) := by decide +kernel
theorem dX11_lay_269 : decode cX11_lay 269 = .ok (.aload_n 0, 1) := by decide +kernel
theorem dX11_lay_270 : decode cX11_lay 270 = .ok (.getfield 55, 3) := by decide +kernel
theorem dX11_lay_273 : decode cX11_lay 273 = .ok (.bipush 100, 2) := by decide +kernel
theorem dX11_lay_275 : decode cX11_lay 275 = .ok (.iload_n 1, 1) := by decide +kernel
theorem dX11_lay_276 : decode cX11_lay 276 = .ok (.iadd, 1) := by decide +kernel
theorem dX11_lay_277 : decode cX11_lay 277 = .ok (.iaload, 1) := by decide +kernel
theorem dX11_lay_278 : decode cX11_lay 278 = .ok (.iastore, 1) := by decide +kernel
theorem dX11_lay_279 : decode cX11_lay 279 = .ok (.iinc 1 1, 3) := by decide +kernel
theorem dX11_lay_282 : decode cX11_lay 282 = .ok (.goto (-24), 3) := by decide +kernel
theorem dX11_lay_285 : decode cX11_lay 285 = .ok (.iconst 0, 1) := by decide +kernel
theorem dX11_lay_286 : decode cX11_lay 286 = .ok (.istore_n 1, 1) := by decide +kernel
theorem dX11_lay_287 : decode cX11_lay 287 = .ok (.iload_n 1, 1) := by decide +kernel
theorem dX11_lay_288 : decode cX11_lay 288 = .ok (.iconst 5, 1) := by decide +kernel
theorem dX11_lay_289 : decode cX11_lay 289 = .ok (.if_icmp .ge 23, 3) := by decide +kernel
theorem dX11_lay_292 : decode cX11_lay 292 = .ok (.aload_n 0, 1) := by decide +kernel
theorem dX11_lay_293 : decode cX11_lay 293 = .ok (.getfield 58, 3) := by decide +kernel
theorem dX11_lay_296 : decode cX11_lay 296 = .ok (.iload_n 1, 1) := by decide +kernel
theorem dX11_lay_297 : decode cX11_lay 297 = .ok (.aload_n 0, 1) := by decide +kernel
theorem dX11_lay_298 : decode cX11_lay 298 = .ok (.getfield 58, 3) := by decide +kernel
theorem dX11_lay_301 : decode cX11_lay 301 = .ok (.iconst 5, 1) := by decide +kernel
theorem dX11_lay_302 : decode cX11_lay 302 = .ok (.iload_n 1, 1) := by decide +kernel
theorem dX11_lay_303 : decode cX11_lay 303 = .ok (.iadd, 1) := by decide +kernel
theorem dX11_lay_304 : decode cX11_lay 304 = .ok (.iaload, 1) := by decide +kernel
theorem dX11_lay_305 : decode cX11_lay 305 = .ok (.iastore, 1) := by decide +kernel
theorem dX11_lay_306 : decode cX11_lay 306 = .ok (.iinc 1 1, 3) := by decide +kernel
theorem dX11_lay_309 : decode cX11_lay 309 = .ok (.goto (-22), 3) := by decide +kernel
theorem dX11_lay_312 : decode cX11_lay 312 = .ok (.iconst 0, 1) := by decide +kernel
theorem dX11_lay_313 : decode cX11_lay 313 = .ok (.istore_n 1, 1) := by decide +kernel
theorem dX11_lay_314 : decode cX11_lay 314 = .ok (.iload_n 1, 1) := by decide +kernel
theorem dX11_lay_315 : decode cX11_lay 315 = .ok (.bipush 80, 2) := by decide +kernel
theorem dX11_lay_317 : decode cX11_lay 317 = .ok (.if_icmp .ge 16, 3) := by decide +kernel
theorem dX11_lay_320 : decode cX11_lay 320 = .ok (.aload_n 0, 1) := by decide +kernel
theorem dX11_lay_321 : decode cX11_lay 321 = .ok (.getfield 61, 3) := by decide +kernel
theorem dX11_lay_324 : decode cX11_lay 324 = .ok (.iload_n 1, 1) := by decide +kernel
theorem dX11_lay_325 : decode cX11_lay 325 = .ok (.iconst 0, 1) := by decide +kernel
theorem dX11_lay_326 : decode cX11_lay 326 = .ok (.iastore, 1) := by decide +kernel
theorem dX11_lay_327 : decode cX11_lay 327 = .ok (.iinc 1 1, 3) := by decide +kernel
theorem dX11_lay_330 : decode cX11_lay 330 = .ok (.goto (-16), 3) := by decide +kernel
theorem dX11_lay_333 : decode cX11_lay 333 = .ok (.iconst 0, 1) := by decide +kernel
theorem dX11_lay_334 : decode cX11_lay 334 = .ok (.istore_n 1, 1) := by decide +kernel
theorem dX11_lay_335 : decode cX11_lay 335 = .ok (.iload_n 1, 1) := by decide +kernel
theorem dX11_lay_336 : decode cX11_lay 336 = .ok (.bipush 10, 2) := by decide +kernel
theorem dX11_lay_338 : decode cX11_lay 338 = .ok (.if_icmp .ge 23, 3) := by decide +kernel
theorem dX11_lay_341 : decode cX11_lay 341 = .ok (.aload_n 0, 1) := by decide +kernel
theorem dX11_lay_342 : decode cX11_lay 342 = .ok (.getfield 67, 3) := by decide +kernel
theorem dX11_lay_345 : decode cX11_lay 345 = .ok (.iload_n 1, 1) := by decide +kernel
theorem dX11_lay_346 : decode cX11_lay 346 = .ok (.iconst 0, 1) := by decide +kernel
theorem dX11_lay_347 : decode cX11_lay 347 = .ok (.iastore, 1) := by decide +kernel
theorem dX11_lay_348 : decode cX11_lay 348 = .ok (.aload_n 0, 1) := by decide +kernel
theorem dX11_lay_349 : decode cX11_lay 349 = .ok (.getfield 70, 3) := by decide +kernel
theorem dX11_lay_352 : decode cX11_lay 352 = .ok (.iload_n 1, 1) := by decide +kernel
theorem dX11_lay_353 : decode cX11_lay 353 = .ok (.iconst 0, 1) := by decide +kernel
theorem dX11_lay_354 : decode cX11_lay 354 = .ok (.iastore, 1) := by decide +kernel
theorem dX11_lay_355 : decode cX11_lay 355 = .ok (.iinc 1 1, 3) := by decide +kernel
theorem dX11_lay_358 : decode cX11_lay 358 = .ok (.goto (-23), 3) := by decide +kernel
theorem dX11_lay_361 : decode cX11_lay 361 = .ok (.aload_n 0, 1) := by decide +kernel
theorem dX11_lay_362 : decode cX11_lay 362 = .ok (.getfield 64, 3) := by decide +kernel
theorem dX11_lay_365 : decode cX11_lay 365 = .ok (.iconst 0, 1) := by decide +kernel
theorem dX11_lay_366 : decode cX11_lay 366 = .ok (.iconst 0, 1) := by decide +kernel
theorem dX11_lay_367 : decode cX11_lay 367 = .ok (.iastore, 1) := by decide +kernel
theorem dX11_lay_368 : decode cX11_lay 368 = .ok (.aload_n 0, 1) := by decide +kernel
theorem dX11_lay_369 : decode cX11_lay 369 = .ok (.iconst 0, 1) := by decide +kernel
theorem dX11_lay_370 : decode cX11_lay 370 = .ok (.putfield 180, 3) := by decide +kernel
theorem dX11_lay_373 : decode cX11_lay 373 = .ok (.aload_n 0, 1) := by decide +kernel
theorem dX11_lay_374 : decode cX11_lay 374 = .ok (.invokevirtual 119, 3) := by decide +kernel
theorem dX11_lay_377 : decode cX11_lay 377 = .ok (.aload_n 0, 1) := by decide +kernel
theorem dX11_lay_378 : decode cX11_lay 378 = .ok (.getfield 13, 3) := by decide +kernel
theorem dX11_lay_381 : decode cX11_lay 381 = .ok (.iconst 0, 1) := by decide +kernel
theorem dX11_lay_382 : decode cX11_lay 382 = .ok (.iaload, 1) := by decide +kernel
theorem dX11_lay_383 : decode cX11_lay 383 = .ok (.ireturn, 1) := by decide +kernel
theorem dX11_isPlayer_0 : decode cX11_isPlayer 0 = .ok (.iload_n 1, 1) := by decide +kernel
theorem dX11_isPlayer_1 : decode cX11_isPlayer 1 = .ok (.i2l, 1) := by decide +kernel
theorem dX11_isPlayer_2 : decode cX11_isPlayer 2 = .ok (.lconst 0, 1) := by decide +kernel
theorem dX11_isPlayer_3 : decode cX11_isPlayer 3 = .ok (.aload_n 0, 1) := by decide +kernel
theorem dX11_isPlayer_4 : decode cX11_isPlayer 4 = .ok (.getfield 13, 3) := by decide +kernel
theorem dX11_isPlayer_7 : decode cX11_isPlayer 7 = .ok (.iconst 0, 1) := by decide +kernel
theorem dX11_isPlayer_8 : decode cX11_isPlayer 8 = .ok (.iaload, 1) := by decide +kernel
theorem dX11_isPlayer_9 : decode cX11_isPlayer 9 = .ok (.iconst 1, 1) := by decide +kernel
theorem dX11_isPlayer_10 : decode cX11_isPlayer 10 = .ok (.isub, 1) := by decide +kernel
theorem dX11_isPlayer_11 : decode cX11_isPlayer 11 = .ok (.i2l, 1) := by decide +kernel
theorem dX11_isPlayer_12 : decode cX11_isPlayer 12 = .ok (.invokestatic 124, 3) := by decide +kernel
theorem dX11_isPlayer_15 : decode cX11_isPlayer 15 = .ok (.ireturn, 1) := by decide +kernel
theorem dX11_isPart_0 : decode cX11_isPart 0 = .ok (.iload_n 1, 1) := by decide +kernel
theorem dX11_isPart_1 : decode cX11_isPart 1 = .ok (.i2l, 1) := by decide +kernel
theorem dX11_isPart_2 : decode cX11_isPart 2 = .ok (.lconst 0, 1) := by decide +kernel
theorem dX11_isPart_3 : decode cX11_isPart 3 = .ok (.aload_n 0, 1) := by decide +kernel
theorem dX11_isPart_4 : decode cX11_isPart 4 = .ok (.getfield 22, 3) := by decide +kernel
theorem dX11_isPart_7 : decode cX11_isPart 7 = .ok (.iconst 0, 1) := by decide +kernel
theorem dX11_isPart_8 : decode cX11_isPart 8 = .ok (.iaload, 1) := by decide +kernel
theorem dX11_isPart_9 : decode cX11_isPart 9 = .ok (.iconst 1, 1) := by decide +kernel
theorem dX11_isPart_10 : decode cX11_isPart 10 = .ok (.isub, 1) := by decide +kernel
theorem dX11_isPart_11 : decode cX11_isPart 11 = .ok (.i2l, 1) := by decide +kernel
theorem dX11_isPart_12 : decode cX11_isPart 12 = .ok (.invokestatic 124, 3) := by decide +kernel
theorem dX11_isPart_15 : decode cX11_isPart 15 = .ok (.ireturn, 1) := by decide +kernel
theorem dX11_mayPlay_0 : decode cX11_mayPlay 0 = .ok (.aload_n 0, 1) := by decide +kernel
theorem dX11_mayPlay_1 : decode cX11_mayPlay 1 = .ok (.getfield 37, 3) := by decide +kernel
theorem dX11_mayPlay_4 : decode cX11_mayPlay 4 = .ok (.iload_n 2, 1) := by decide +kernel
theorem dX11_mayPlay_5 : decode cX11_mayPlay 5 = .ok (.iaload, 1) := by decide +kernel
theorem dX11_mayPlay_6 : decode cX11_mayPlay 6 = .ok (.iload_n 1, 1) := by decide +kernel
theorem dX11_mayPlay_7 : decode cX11_mayPlay 7 = .ok (.if_icmp .eq 16, 3) := by decide +kernel
theorem dX11_mayPlay_10 : decode cX11_mayPlay 10 = .ok (.aload_n 0, 1) := by decide +kernel
theorem dX11_mayPlay_11 : decode cX11_mayPlay 11 = .ok (.getfield 52, 3) := by decide +kernel
theorem dX11_mayPlay_14 : decode cX11_mayPlay 14 = .ok (.iload_n 1, 1) := by decide +kernel
theorem dX11_mayPlay_15 : decode cX11_mayPlay 15 = .ok (.iaload, 1) := by decide +kernel
theorem dX11_mayPlay_16 : decode cX11_mayPlay 16 = .ok (.iload_n 2, 1) := by decide +kernel
theorem dX11_mayPlay_17 : decode cX11_mayPlay 17 = .ok (.invokestatic 183, 3) := by decide +kernel
theorem dX11_mayPlay_20 : decode cX11_mayPlay 20 = .ok (.ifCond .eq 29, 3) := by decide +kernel
theorem dX11_mayPlay_23 : decode cX11_mayPlay 23 = .ok (.aload_n 0, 1) := by decide +kernel
theorem dX11_mayPlay_24 : decode cX11_mayPlay 24 = .ok (.getfield 19, 3) := by decide +kernel
theorem dX11_mayPlay_27 : decode cX11_mayPlay 27 = .ok (.iload_n 1, 1) := by decide +kernel
theorem dX11_mayPlay_28 : decode cX11_mayPlay 28 = .ok (.iaload, 1) := by decide +kernel
theorem dX11_mayPlay_29 : decode cX11_mayPlay 29 = .ok (.aload_n 0, 1) := by decide +kernel
theorem dX11_mayPlay_30 : decode cX11_mayPlay 30 = .ok (.getfield 28, 3) := by decide +kernel
theorem dX11_mayPlay_33 : decode cX11_mayPlay 33 = .ok (.iload_n 2, 1) := by decide +kernel
theorem dX11_mayPlay_34 : decode cX11_mayPlay 34 = .ok (.iaload, 1) := by decide +kernel
theorem dX11_mayPlay_35 : decode cX11_mayPlay 35 = .ok (.iand, 1) := by decide +kernel
theorem dX11_mayPlay_36 : decode cX11_mayPlay 36 = .ok (.aload_n 0, 1) := by decide +kernel
theorem dX11_mayPlay_37 : decode cX11_mayPlay 37 = .ok (.getfield 28, 3) := by decide +kernel
theorem dX11_mayPlay_40 : decode cX11_mayPlay 40 = .ok (.iload_n 2, 1) := by decide +kernel
theorem dX11_mayPlay_41 : decode cX11_mayPlay 41 = .ok (.iaload, 1) := by decide +kernel
theorem dX11_mayPlay_42 : decode cX11_mayPlay 42 = .ok (.if_icmp .ne 7, 3) := by decide +kernel
theorem dX11_mayPlay_45 : decode cX11_mayPlay 45 = .ok (.iconst 1, 1) := by decide +kernel
theorem dX11_mayPlay_46 : decode cX11_mayPlay 46 = .ok (.goto 4, 3) := by decide +kernel
theorem dX11_mayPlay_49 : decode cX11_mayPlay 49 = .ok (.iconst 0, 1) := by decide +kernel
theorem dX11_mayPlay_50 : decode cX11_mayPlay 50 = .ok (.ireturn, 1) := by decide +kernel
theorem dX11_areBoth_0 : decode cX11_areBoth 0 = .ok (.bipush (-4), 2) := by decide +kernel
theorem dX11_areBoth_2 : decode cX11_areBoth 2 = .ok (.istore_n 3, 1) := by decide +kernel
theorem dX11_areBoth_3 : decode cX11_areBoth 3 = .ok (.iconst 0, 1) := by decide +kernel
theorem dX11_areBoth_4 : decode cX11_areBoth 4 = .ok (.istore 4, 2) := by decide +kernel
theorem dX11_areBoth_6 : decode cX11_areBoth 6 = .ok (.iconst 0, 1) := by decide +kernel
theorem dX11_areBoth_7 : decode cX11_areBoth 7 = .ok (.istore 5, 2) := by decide +kernel
theorem dX11_areBoth_9 : decode cX11_areBoth 9 = .ok (.iload 5, 2) := by decide +kernel
theorem dX11_areBoth_11 : decode cX11_areBoth 11 = .ok (.aload_n 0, 1) := by decide +kernel
theorem dX11_areBoth_12 : decode cX11_areBoth 12 = .ok (.getfield 40, 3) := by decide +kernel
theorem dX11_areBoth_15 : decode cX11_areBoth 15 = .ok (.iconst 0, 1) := by decide +kernel
theorem dX11_areBoth_16 : decode cX11_areBoth 16 = .ok (.iaload, 1) := by decide +kernel
theorem dX11_areBoth_17 : decode cX11_areBoth 17 = .ok (.if_icmp .ge 115, 3) := by decide +kernel
theorem dX11_areBoth_20 : decode cX11_areBoth 20 = .ok (.aload_n 0, 1) := by decide +kernel
theorem dX11_areBoth_21 : decode cX11_areBoth 21 = .ok (.getfield 43, 3) := by decide +kernel
theorem dX11_areBoth_24 : decode cX11_areBoth 24 = .ok (.iload 5, 2) := by decide +kernel
theorem dX11_areBoth_26 : decode cX11_areBoth 26 = .ok (.iaload, 1) := by decide +kernel
theorem dX11_areBoth_27 : decode cX11_areBoth 27 = .ok (.iload_n 1, 1) := by decide +kernel
theorem dX11_areBoth_28 : decode cX11_areBoth 28 = .ok (.invokestatic 183, 3) := by decide +kernel
theorem dX11_areBoth_31 : decode cX11_areBoth 31 = .ok (.istore 6, 2) := by decide +kernel
theorem dX11_areBoth_33 : decode cX11_areBoth 33 = .ok (.aload_n 0, 1) := by decide +kernel
theorem dX11_areBoth_34 : decode cX11_areBoth 34 = .ok (.getfield 43, 3) := by decide +kernel
theorem dX11_areBoth_37 : decode cX11_areBoth 37 = .ok (.iload 5, 2) := by decide +kernel
theorem dX11_areBoth_39 : decode cX11_areBoth 39 = .ok (.iaload, 1) := by decide +kernel
theorem dX11_areBoth_40 : decode cX11_areBoth 40 = .ok (.iload_n 2, 1) := by decide +kernel
theorem dX11_areBoth_41 : decode cX11_areBoth 41 = .ok (.invokestatic 183, 3) := by decide +kernel
theorem dX11_areBoth_44 : decode cX11_areBoth 44 = .ok (.istore 7, 2) := by decide +kernel
theorem dX11_areBoth_46 : decode cX11_areBoth 46 = .ok (.iload 6, 2) := by decide +kernel
theorem dX11_areBoth_48 : decode cX11_areBoth 48 = .ok (.ifCond .eq 10, 3) := by decide +kernel
theorem dX11_areBoth_51 : decode cX11_areBoth 51 = .ok (.iload 7, 2) := by decide +kernel
theorem dX11_areBoth_53 : decode cX11_areBoth 53 = .ok (.ifCond .eq 5, 3) := by decide +kernel
theorem dX11_areBoth_56 : decode cX11_areBoth 56 = .ok (.iconst 0, 1) := by decide +kernel
theorem dX11_areBoth_57 : decode cX11_areBoth 57 = .ok (.ireturn, 1) := by decide +kernel
theorem dX11_areBoth_58 : decode cX11_areBoth 58 = .ok (.iload 6, 2) := by decide +kernel
theorem dX11_areBoth_60 : decode cX11_areBoth 60 = .ok (.ifCond .ne 8, 3) := by decide +kernel
theorem dX11_areBoth_63 : decode cX11_areBoth 63 = .ok (.iload 7, 2) := by decide +kernel
theorem dX11_areBoth_65 : decode cX11_areBoth 65 = .ok (.ifCond .eq 49, 3) := by decide +kernel
theorem dX11_areBoth_68 : decode cX11_areBoth 68 = .ok (.iload 6, 2) := by decide +kernel
theorem dX11_areBoth_70 : decode cX11_areBoth 70 = .ok (.ifCond .eq 7, 3) := by decide +kernel
theorem dX11_areBoth_73 : decode cX11_areBoth 73 = .ok (.iload_n 1, 1) := by decide +kernel
theorem dX11_areBoth_74 : decode cX11_areBoth 74 = .ok (.goto 4, 3) := by decide +kernel
theorem dX11_areBoth_77 : decode cX11_areBoth 77 = .ok (.iload_n 2, 1) := by decide +kernel
theorem dX11_areBoth_78 : decode cX11_areBoth 78 = .ok (.istore 8, 2) := by decide +kernel
theorem dX11_areBoth_80 : decode cX11_areBoth 80 = .ok (.iload_n 3, 1) := by decide +kernel
theorem dX11_areBoth_81 : decode cX11_areBoth 81 = .ok (.bipush (-4), 2) := by decide +kernel
theorem dX11_areBoth_83 : decode cX11_areBoth 83 = .ok (.if_icmp .eq 22, 3) := by decide +kernel
theorem dX11_areBoth_86 : decode cX11_areBoth 86 = .ok (.iload_n 3, 1) := by decide +kernel
theorem dX11_areBoth_87 : decode cX11_areBoth 87 = .ok (.iload 8, 2) := by decide +kernel
theorem dX11_areBoth_89 : decode cX11_areBoth 89 = .ok (.if_icmp .eq 16, 3) := by decide +kernel
theorem dX11_areBoth_92 : decode cX11_areBoth 92 = .ok (.iload 4, 2) := by decide +kernel
theorem dX11_areBoth_94 : decode cX11_areBoth 94 = .ok (.aload_n 0, 1) := by decide +kernel
theorem dX11_areBoth_95 : decode cX11_areBoth 95 = .ok (.getfield 58, 3) := by decide +kernel
theorem dX11_areBoth_98 : decode cX11_areBoth 98 = .ok (.iconst 0, 1) := by decide +kernel
theorem dX11_areBoth_99 : decode cX11_areBoth 99 = .ok (.iaload, 1) := by decide +kernel
theorem dX11_areBoth_100 : decode cX11_areBoth 100 = .ok (.if_icmp .ge 5, 3) := by decide +kernel
theorem dX11_areBoth_103 : decode cX11_areBoth 103 = .ok (.iconst 0, 1) := by decide +kernel
theorem dX11_areBoth_104 : decode cX11_areBoth 104 = .ok (.ireturn, 1) := by decide +kernel
theorem dX11_areBoth_105 : decode cX11_areBoth 105 = .ok (.iload 8, 2) := by decide +kernel
theorem dX11_areBoth_107 : decode cX11_areBoth 107 = .ok (.istore_n 3, 1) := by decide +kernel
theorem dX11_areBoth_108 : decode cX11_areBoth 108 = .ok (.iconst 0, 1) := by decide +kernel
theorem dX11_areBoth_109 : decode cX11_areBoth 109 = .ok (.istore 4, 2) := by decide +kernel
theorem dX11_areBoth_111 : decode cX11_areBoth 111 = .ok (.goto 15, 3) := by decide +kernel
theorem dX11_areBoth_114 : decode cX11_areBoth 114 = .ok (.iload 4, 2) := by decide +kernel
theorem dX11_areBoth_116 : decode cX11_areBoth 116 = .ok (.aload_n 0, 1) := by decide +kernel
theorem dX11_areBoth_117 : decode cX11_areBoth 117 = .ok (.getfield 46, 3) := by decide +kernel
theorem dX11_areBoth_120 : decode cX11_areBoth 120 = .ok (.iload 5, 2) := by decide +kernel
theorem dX11_areBoth_122 : decode cX11_areBoth 122 = .ok (.iaload, 1) := by decide +kernel
theorem dX11_areBoth_123 : decode cX11_areBoth 123 = .ok (.iadd, 1) := by decide +kernel
theorem dX11_areBoth_124 : decode cX11_areBoth 124 = .ok (.istore 4, 2) := by decide +kernel
theorem dX11_areBoth_126 : decode cX11_areBoth 126 = .ok (.iinc 5 1, 3) := by decide +kernel
theorem dX11_areBoth_129 : decode cX11_areBoth 129 = .ok (.goto (-120), 3) := by decide +kernel
theorem dX11_areBoth_132 : decode cX11_areBoth 132 = .ok (.iconst 1, 1) := by decide +kernel
theorem dX11_areBoth_133 : decode cX11_areBoth 133 = .ok (.ireturn, 1) := by decide +kernel
theorem dX11_layRules_0 : decode cX11_layRules 0 = .ok (.iconst 0, 1) := by decide +kernel
theorem dX11_layRules_1 : decode cX11_layRules 1 = .ok (.istore_n 1, 1) := by decide +kernel
theorem dX11_layRules_2 : decode cX11_layRules 2 = .ok (.iload_n 1, 1) := by decide +kernel
theorem dX11_layRules_3 : decode cX11_layRules 3 = .ok (.aload_n 0, 1) := by decide +kernel
theorem dX11_layRules_4 : decode cX11_layRules 4 = .ok (.getfield 13, 3) := by decide +kernel
theorem dX11_layRules_7 : decode cX11_layRules 7 = .ok (.iconst 0, 1) := by decide +kernel
theorem dX11_layRules_8 : decode cX11_layRules 8 = .ok (.iaload, 1) := by decide +kernel
theorem dX11_layRules_9 : decode cX11_layRules 9 = .ok (.if_icmp .ge 14, 3) := by decide +kernel
theorem dX11_layRules_12 : decode cX11_layRules 12 = .ok (.aload_n 0, 1) := by decide +kernel
theorem dX11_layRules_13 : decode cX11_layRules 13 = .ok (.iload_n 1, 1) := by decide +kernel
theorem dX11_layRules_14 : decode cX11_layRules 14 = .ok (.invokevirtual 186, 3) := by decide +kernel
theorem dX11_layRules_17 : decode cX11_layRules 17 = .ok (.iinc 1 1, 3) := by decide +kernel
theorem dX11_layRules_20 : decode cX11_layRules 20 = .ok (.goto (-18), 3) := by decide +kernel
theorem dX11_layRules_23 : decode cX11_layRules 23 = .ok (.iconst 0, 1) := by decide +kernel
theorem dX11_layRules_24 : decode cX11_layRules 24 = .ok (.istore_n 1, 1) := by decide +kernel
theorem dX11_layRules_25 : decode cX11_layRules 25 = .ok (.iload_n 1, 1) := by decide +kernel
theorem dX11_layRules_26 : decode cX11_layRules 26 = .ok (.aload_n 0, 1) := by decide +kernel
theorem dX11_layRules_27 : decode cX11_layRules 27 = .ok (.getfield 22, 3) := by decide +kernel
theorem dX11_layRules_30 : decode cX11_layRules 30 = .ok (.iconst 0, 1) := by decide +kernel
theorem dX11_layRules_31 : decode cX11_layRules 31 = .ok (.iaload, 1) := by decide +kernel
theorem dX11_layRules_32 : decode cX11_layRules 32 = .ok (.if_icmp .ge 64, 3) := by decide +kernel
theorem dX11_layRules_35 : decode cX11_layRules 35 = .ok (.aload_n 0, 1) := by decide +kernel
theorem dX11_layRules_36 : decode cX11_layRules 36 = .ok (.getfield 79, 3) := by decide +kernel
theorem dX11_layRules_39 : decode cX11_layRules 39 = .ok (.iload_n 1, 1) := by decide +kernel
theorem dX11_layRules_40 : decode cX11_layRules 40 = .ok (.iconst 0, 1) := by decide +kernel
theorem dX11_layRules_41 : decode cX11_layRules 41 = .ok (.iastore, 1) := by decide +kernel
theorem dX11_layRules_42 : decode cX11_layRules 42 = .ok (.iconst 0, 1) := by decide +kernel
theorem dX11_layRules_43 : decode cX11_layRules 43 = .ok (.istore_n 2, 1) := by decide +kernel
theorem dX11_layRules_44 : decode cX11_layRules 44 = .ok (.iload_n 2, 1) := by decide +kernel
theorem dX11_layRules_45 : decode cX11_layRules 45 = .ok (.aload_n 0, 1) := by decide +kernel
theorem dX11_layRules_46 : decode cX11_layRules 46 = .ok (.getfield 22, 3) := by decide +kernel
theorem dX11_layRules_49 : decode cX11_layRules 49 = .ok (.iconst 0, 1) := by decide +kernel
theorem dX11_layRules_50 : decode cX11_layRules 50 = .ok (.iaload, 1) := by decide +kernel
theorem dX11_layRules_51 : decode cX11_layRules 51 = .ok (.if_icmp .ge 39, 3) := by decide +kernel
theorem dX11_layRules_54 : decode cX11_layRules 54 = .ok (.aload_n 0, 1) := by decide +kernel
theorem dX11_layRules_55 : decode cX11_layRules 55 = .ok (.getfield 79, 3) := by decide +kernel
theorem dX11_layRules_58 : decode cX11_layRules 58 = .ok (.iload_n 1, 1) := by decide +kernel
theorem dX11_layRules_59 : decode cX11_layRules 59 = .ok (.dup2, 1) := by decide +kernel
theorem dX11_layRules_60 : decode cX11_layRules 60 = .ok (.iaload, 1) := by decide +kernel
theorem dX11_layRules_61 : decode cX11_layRules 61 = .ok (.iload_n 1, 1) := by decide +kernel
theorem dX11_layRules_62 : decode cX11_layRules 62 = .ok (.iload_n 2, 1) := by decide +kernel
theorem dX11_layRules_63 : decode cX11_layRules 63 = .ok (.if_icmp .eq 18, 3) := by decide +kernel
theorem dX11_layRules_66 : decode cX11_layRules 66 = .ok (.aload_n 0, 1) := by decide +kernel
theorem dX11_layRules_67 : decode cX11_layRules 67 = .ok (.iload_n 1, 1) := by decide +kernel
theorem dX11_layRules_68 : decode cX11_layRules 68 = .ok (.iload_n 2, 1) := by decide +kernel
theorem dX11_layRules_69 : decode cX11_layRules 69 = .ok (.invokevirtual 189, 3) := by decide +kernel
theorem dX11_layRules_72 : decode cX11_layRules 72 = .ok (.ifCond .eq 9, 3) := by decide +kernel
theorem dX11_layRules_75 : decode cX11_layRules 75 = .ok (.iconst 1, 1) := by decide +kernel
theorem dX11_layRules_76 : decode cX11_layRules 76 = .ok (.iload_n 2, 1) := by decide +kernel
theorem dX11_layRules_77 : decode cX11_layRules 77 = .ok (.ishl, 1) := by decide +kernel
theorem dX11_layRules_78 : decode cX11_layRules 78 = .ok (.goto 4, 3) := by decide +kernel
theorem dX11_layRules_81 : decode cX11_layRules 81 = .ok (.iconst 0, 1) := by decide +kernel
theorem dX11_layRules_82 : decode cX11_layRules 82 = .ok (.ior, 1) := by decide +kernel
theorem dX11_layRules_83 : decode cX11_layRules 83 = .ok (.iastore, 1) := by decide +kernel
theorem dX11_layRules_84 : decode cX11_layRules 84 = .ok (.iinc 2 1, 3) := by decide +kernel
theorem dX11_layRules_87 : decode cX11_layRules 87 = .ok (.goto (-43), 3) := by decide +kernel
theorem dX11_layRules_90 : decode cX11_layRules 90 = .ok (.iinc 1 1, 3) := by decide +kernel
theorem dX11_layRules_93 : decode cX11_layRules 93 = .ok (.goto (-68), 3) := by decide +kernel
theorem dX11_layRules_96 : decode cX11_layRules 96 = .ok (.return_, 1) := by decide +kernel
theorem dX11_layMays_0 : decode cX11_layMays 0 = .ok (.aload_n 0, 1) := by decide +kernel
theorem dX11_layMays_1 : decode cX11_layMays 1 = .ok (.getfield 76, 3) := by decide +kernel
theorem dX11_layMays_4 : decode cX11_layMays 4 = .ok (.iload_n 1, 1) := by decide +kernel
theorem dX11_layMays_5 : decode cX11_layMays 5 = .ok (.iconst 0, 1) := by decide +kernel
theorem dX11_layMays_6 : decode cX11_layMays 6 = .ok (.iastore, 1) := by decide +kernel
theorem dX11_layMays_7 : decode cX11_layMays 7 = .ok (.iconst 0, 1) := by decide +kernel
theorem dX11_layMays_8 : decode cX11_layMays 8 = .ok (.istore_n 2, 1) := by decide +kernel
theorem dX11_layMays_9 : decode cX11_layMays 9 = .ok (.iload_n 2, 1) := by decide +kernel
theorem dX11_layMays_10 : decode cX11_layMays 10 = .ok (.aload_n 0, 1) := by decide +kernel
theorem dX11_layMays_11 : decode cX11_layMays 11 = .ok (.getfield 22, 3) := by decide +kernel
theorem dX11_layMays_14 : decode cX11_layMays 14 = .ok (.iconst 0, 1) := by decide +kernel
theorem dX11_layMays_15 : decode cX11_layMays 15 = .ok (.iaload, 1) := by decide +kernel
theorem dX11_layMays_16 : decode cX11_layMays 16 = .ok (.if_icmp .ge 34, 3) := by decide +kernel
theorem dX11_layMays_19 : decode cX11_layMays 19 = .ok (.aload_n 0, 1) := by decide +kernel
theorem dX11_layMays_20 : decode cX11_layMays 20 = .ok (.getfield 76, 3) := by decide +kernel
theorem dX11_layMays_23 : decode cX11_layMays 23 = .ok (.iload_n 1, 1) := by decide +kernel
theorem dX11_layMays_24 : decode cX11_layMays 24 = .ok (.dup2, 1) := by decide +kernel
theorem dX11_layMays_25 : decode cX11_layMays 25 = .ok (.iaload, 1) := by decide +kernel
theorem dX11_layMays_26 : decode cX11_layMays 26 = .ok (.aload_n 0, 1) := by decide +kernel
theorem dX11_layMays_27 : decode cX11_layMays 27 = .ok (.iload_n 1, 1) := by decide +kernel
theorem dX11_layMays_28 : decode cX11_layMays 28 = .ok (.iload_n 2, 1) := by decide +kernel
theorem dX11_layMays_29 : decode cX11_layMays 29 = .ok (.invokevirtual 192, 3) := by decide +kernel
theorem dX11_layMays_32 : decode cX11_layMays 32 = .ok (.ifCond .eq 9, 3) := by decide +kernel
theorem dX11_layMays_35 : decode cX11_layMays 35 = .ok (.iconst 1, 1) := by decide +kernel
theorem dX11_layMays_36 : decode cX11_layMays 36 = .ok (.iload_n 2, 1) := by decide +kernel
theorem dX11_layMays_37 : decode cX11_layMays 37 = .ok (.ishl, 1) := by decide +kernel
theorem dX11_layMays_38 : decode cX11_layMays 38 = .ok (.goto 4, 3) := by decide +kernel
theorem dX11_layMays_41 : decode cX11_layMays 41 = .ok (.iconst 0, 1) := by decide +kernel
theorem dX11_layMays_42 : decode cX11_layMays 42 = .ok (.ior, 1) := by decide +kernel
theorem dX11_layMays_43 : decode cX11_layMays 43 = .ok (.iastore, 1) := by decide +kernel
theorem dX11_layMays_44 : decode cX11_layMays 44 = .ok (.iinc 2 1, 3) := by decide +kernel
theorem dX11_layMays_47 : decode cX11_layMays 47 = .ok (.goto (-38), 3) := by decide +kernel
theorem dX11_layMays_50 : decode cX11_layMays 50 = .ok (.return_, 1) := by decide +kernel
theorem dX11_player_0 : decode cX11_player 0 = .ok (.aload_n 0, 1) := by decide +kernel
theorem dX11_player_1 : decode cX11_player 1 = .ok (.iload_n 1, 1) := by decide +kernel
theorem dX11_player_2 : decode cX11_player 2 = .ok (.invokevirtual 195, 3) := by decide +kernel
theorem dX11_player_5 : decode cX11_player 5 = .ok (.ifCond .eq 15, 3) := by decide +kernel
theorem dX11_player_8 : decode cX11_player 8 = .ok (.iload_n 2, 1) := by decide +kernel
theorem dX11_player_9 : decode cX11_player 9 = .ok (.i2l, 1) := by decide +kernel
theorem dX11_player_10 : decode cX11_player 10 = .ok (.lconst 0, 1) := by decide +kernel
theorem dX11_player_11 : decode cX11_player 11 = .ok (.ldc2_w 198, 3) := by decide +kernel
theorem dX11_player_14 : decode cX11_player 14 = .ok (.invokestatic 124, 3) := by decide +kernel
theorem dX11_player_17 : decode cX11_player 17 = .ok (.ifCond .ne 5, 3) := by decide +kernel
theorem dX11_player_20 : decode cX11_player 20 = .ok (.iconst (-1), 1) := by decide +kernel
theorem dX11_player_21 : decode cX11_player 21 = .ok (.ireturn, 1) := by decide +kernel
theorem dX11_player_22 : decode cX11_player 22 = .ok (.iconst 0, 1) := by decide +kernel
theorem dX11_player_23 : decode cX11_player 23 = .ok (.istore_n 3, 1) := by decide +kernel
theorem dX11_player_24 : decode cX11_player 24 = .ok (.iconst 0, 1) := by decide +kernel
theorem dX11_player_25 : decode cX11_player 25 = .ok (.istore 4, 2) := by decide +kernel
theorem dX11_player_27 : decode cX11_player 27 = .ok (.iload 4, 2) := by decide +kernel
theorem dX11_player_29 : decode cX11_player 29 = .ok (.aload_n 0, 1) := by decide +kernel
theorem dX11_player_30 : decode cX11_player 30 = .ok (.getfield 22, 3) := by decide +kernel
theorem dX11_player_33 : decode cX11_player 33 = .ok (.iconst 0, 1) := by decide +kernel
theorem dX11_player_34 : decode cX11_player 34 = .ok (.iaload, 1) := by decide +kernel
theorem dX11_player_35 : decode cX11_player 35 = .ok (.if_icmp .ge 31, 3) := by decide +kernel
theorem dX11_player_38 : decode cX11_player 38 = .ok (.iload_n 3, 1) := by decide +kernel
theorem dX11_player_39 : decode cX11_player 39 = .ok (.aload_n 0, 1) := by decide +kernel
theorem dX11_player_40 : decode cX11_player 40 = .ok (.getfield 37, 3) := by decide +kernel
theorem dX11_player_43 : decode cX11_player 43 = .ok (.iload 4, 2) := by decide +kernel
theorem dX11_player_45 : decode cX11_player 45 = .ok (.iaload, 1) := by decide +kernel
theorem dX11_player_46 : decode cX11_player 46 = .ok (.iload_n 1, 1) := by decide +kernel
theorem dX11_player_47 : decode cX11_player 47 = .ok (.if_icmp .ne 10, 3) := by decide +kernel
theorem dX11_player_50 : decode cX11_player 50 = .ok (.iconst 1, 1) := by decide +kernel
theorem dX11_player_51 : decode cX11_player 51 = .ok (.iload 4, 2) := by decide +kernel
theorem dX11_player_53 : decode cX11_player 53 = .ok (.ishl, 1) := by decide +kernel
theorem dX11_player_54 : decode cX11_player 54 = .ok (.goto 4, 3) := by decide +kernel
theorem dX11_player_57 : decode cX11_player 57 = .ok (.iconst 0, 1) := by decide +kernel
theorem dX11_player_58 : decode cX11_player 58 = .ok (.ior, 1) := by decide +kernel
theorem dX11_player_59 : decode cX11_player 59 = .ok (.istore_n 3, 1) := by decide +kernel
theorem dX11_player_60 : decode cX11_player 60 = .ok (.iinc 4 1, 3) := by decide +kernel
theorem dX11_player_63 : decode cX11_player 63 = .ok (.goto (-36), 3) := by decide +kernel
theorem dX11_player_66 : decode cX11_player 66 = .ok (.iload_n 2, 1) := by decide +kernel
theorem dX11_player_67 : decode cX11_player 67 = .ok (.tableswitch 52 0 3 #[29, 36, 43, 45], 29) := by decide +kernel
theorem dX11_player_96 : decode cX11_player 96 = .ok (.aload_n 0, 1) := by decide +kernel
theorem dX11_player_97 : decode cX11_player 97 = .ok (.getfield 16, 3) := by decide +kernel
theorem dX11_player_100 : decode cX11_player 100 = .ok (.iload_n 1, 1) := by decide +kernel
theorem dX11_player_101 : decode cX11_player 101 = .ok (.iaload, 1) := by decide +kernel
theorem dX11_player_102 : decode cX11_player 102 = .ok (.ireturn, 1) := by decide +kernel
theorem dX11_player_103 : decode cX11_player 103 = .ok (.aload_n 0, 1) := by decide +kernel
theorem dX11_player_104 : decode cX11_player 104 = .ok (.getfield 19, 3) := by decide +kernel
theorem dX11_player_107 : decode cX11_player 107 = .ok (.iload_n 1, 1) := by decide +kernel
theorem dX11_player_108 : decode cX11_player 108 = .ok (.iaload, 1) := by decide +kernel
theorem dX11_player_109 : decode cX11_player 109 = .ok (.ireturn, 1) := by decide +kernel
theorem dX11_player_110 : decode cX11_player 110 = .ok (.iload_n 3, 1) := by decide +kernel
theorem dX11_player_111 : decode cX11_player 111 = .ok (.ireturn, 1) := by decide +kernel
theorem dX11_player_112 : decode cX11_player 112 = .ok (.aload_n 0, 1) := by decide +kernel
theorem dX11_player_113 : decode cX11_player 113 = .ok (.getfield 52, 3) := by decide +kernel
theorem dX11_player_116 : decode cX11_player 116 = .ok (.iload_n 1, 1) := by decide +kernel
theorem dX11_player_117 : decode cX11_player 117 = .ok (.iaload, 1) := by decide +kernel
theorem dX11_player_118 : decode cX11_player 118 = .ok (.ireturn, 1) := by decide +kernel
theorem dX11_player_119 : decode cX11_player 119 = .ok (.aload_n 0, 1) := by decide +kernel
theorem dX11_player_120 : decode cX11_player 120 = .ok (.getfield 76, 3) := by decide +kernel
theorem dX11_player_123 : decode cX11_player 123 = .ok (.iload_n 1, 1) := by decide +kernel
theorem dX11_player_124 : decode cX11_player 124 = .ok (.iaload, 1) := by decide +kernel
theorem dX11_player_125 : decode cX11_player 125 = .ok (.ireturn, 1) := by decide +kernel
theorem dX11_part_0 : decode cX11_part 0 = .ok (.aload_n 0, 1) := by decide +kernel
theorem dX11_part_1 : decode cX11_part 1 = .ok (.iload_n 1, 1) := by decide +kernel
theorem dX11_part_2 : decode cX11_part 2 = .ok (.invokevirtual 200, 3) := by decide +kernel
theorem dX11_part_5 : decode cX11_part 5 = .ok (.ifCond .eq 15, 3) := by decide +kernel
theorem dX11_part_8 : decode cX11_part 8 = .ok (.iload_n 2, 1) := by decide +kernel
theorem dX11_part_9 : decode cX11_part 9 = .ok (.i2l, 1) := by decide +kernel
theorem dX11_part_10 : decode cX11_part 10 = .ok (.lconst 0, 1) := by decide +kernel
theorem dX11_part_11 : decode cX11_part 11 = .ok (.ldc2_w 203, 3) := by decide +kernel
theorem dX11_part_14 : decode cX11_part 14 = .ok (.invokestatic 124, 3) := by decide +kernel
theorem dX11_part_17 : decode cX11_part 17 = .ok (.ifCond .ne 5, 3) := by decide +kernel
theorem dX11_part_20 : decode cX11_part 20 = .ok (.iconst (-1), 1) := by decide +kernel
theorem dX11_part_21 : decode cX11_part 21 = .ok (.ireturn, 1) := by decide +kernel
theorem dX11_part_22 : decode cX11_part 22 = .ok (.iconst 0, 1) := by decide +kernel
theorem dX11_part_23 : decode cX11_part 23 = .ok (.istore_n 3, 1) := by decide +kernel
theorem dX11_part_24 : decode cX11_part 24 = .ok (.iconst 0, 1) := by decide +kernel
theorem dX11_part_25 : decode cX11_part 25 = .ok (.istore 4, 2) := by decide +kernel
theorem dX11_part_27 : decode cX11_part 27 = .ok (.iload 4, 2) := by decide +kernel
theorem dX11_part_29 : decode cX11_part 29 = .ok (.aload_n 0, 1) := by decide +kernel
theorem dX11_part_30 : decode cX11_part 30 = .ok (.getfield 40, 3) := by decide +kernel
theorem dX11_part_33 : decode cX11_part 33 = .ok (.iconst 0, 1) := by decide +kernel
theorem dX11_part_34 : decode cX11_part 34 = .ok (.iaload, 1) := by decide +kernel
theorem dX11_part_35 : decode cX11_part 35 = .ok (.if_icmp .ge 34, 3) := by decide +kernel
theorem dX11_part_38 : decode cX11_part 38 = .ok (.iload_n 3, 1) := by decide +kernel
theorem dX11_part_39 : decode cX11_part 39 = .ok (.aload_n 0, 1) := by decide +kernel
theorem dX11_part_40 : decode cX11_part 40 = .ok (.getfield 43, 3) := by decide +kernel
theorem dX11_part_43 : decode cX11_part 43 = .ok (.iload 4, 2) := by decide +kernel
theorem dX11_part_45 : decode cX11_part 45 = .ok (.iaload, 1) := by decide +kernel
theorem dX11_part_46 : decode cX11_part 46 = .ok (.iload_n 1, 1) := by decide +kernel
theorem dX11_part_47 : decode cX11_part 47 = .ok (.invokestatic 183, 3) := by decide +kernel
theorem dX11_part_50 : decode cX11_part 50 = .ok (.ifCond .eq 10, 3) := by decide +kernel
theorem dX11_part_53 : decode cX11_part 53 = .ok (.iconst 1, 1) := by decide +kernel
theorem dX11_part_54 : decode cX11_part 54 = .ok (.iload 4, 2) := by decide +kernel
theorem dX11_part_56 : decode cX11_part 56 = .ok (.ishl, 1) := by decide +kernel
theorem dX11_part_57 : decode cX11_part 57 = .ok (.goto 4, 3) := by decide +kernel
theorem dX11_part_60 : decode cX11_part 60 = .ok (.iconst 0, 1) := by decide +kernel
theorem dX11_part_61 : decode cX11_part 61 = .ok (.ior, 1) := by decide +kernel
theorem dX11_part_62 : decode cX11_part 62 = .ok (.istore_n 3, 1) := by decide +kernel
theorem dX11_part_63 : decode cX11_part 63 = .ok (.iinc 4 1, 3) := by decide +kernel
theorem dX11_part_66 : decode cX11_part 66 = .ok (.goto (-39), 3) := by decide +kernel
theorem dX11_part_69 : decode cX11_part 69 = .ok (.iload_n 2, 1) := by decide +kernel
theorem dX11_part_70 : decode cX11_part 70 = .ok (.tableswitch 64 0 4 #[34, 41, 48, 55, 62], 34) := by decide +kernel
theorem dX11_part_104 : decode cX11_part 104 = .ok (.aload_n 0, 1) := by decide +kernel
theorem dX11_part_105 : decode cX11_part 105 = .ok (.getfield 25, 3) := by decide +kernel
theorem dX11_part_108 : decode cX11_part 108 = .ok (.iload_n 1, 1) := by decide +kernel
theorem dX11_part_109 : decode cX11_part 109 = .ok (.iaload, 1) := by decide +kernel
theorem dX11_part_110 : decode cX11_part 110 = .ok (.ireturn, 1) := by decide +kernel
theorem dX11_part_111 : decode cX11_part 111 = .ok (.aload_n 0, 1) := by decide +kernel
theorem dX11_part_112 : decode cX11_part 112 = .ok (.getfield 28, 3) := by decide +kernel
theorem dX11_part_115 : decode cX11_part 115 = .ok (.iload_n 1, 1) := by decide +kernel
theorem dX11_part_116 : decode cX11_part 116 = .ok (.iaload, 1) := by decide +kernel
theorem dX11_part_117 : decode cX11_part 117 = .ok (.ireturn, 1) := by decide +kernel
theorem dX11_part_118 : decode cX11_part 118 = .ok (.aload_n 0, 1) := by decide +kernel
theorem dX11_part_119 : decode cX11_part 119 = .ok (.getfield 31, 3) := by decide +kernel
theorem dX11_part_122 : decode cX11_part 122 = .ok (.iload_n 1, 1) := by decide +kernel
theorem dX11_part_123 : decode cX11_part 123 = .ok (.iaload, 1) := by decide +kernel
theorem dX11_part_124 : decode cX11_part 124 = .ok (.ireturn, 1) := by decide +kernel
theorem dX11_part_125 : decode cX11_part 125 = .ok (.aload_n 0, 1) := by decide +kernel
theorem dX11_part_126 : decode cX11_part 126 = .ok (.getfield 34, 3) := by decide +kernel
theorem dX11_part_129 : decode cX11_part 129 = .ok (.iload_n 1, 1) := by decide +kernel
theorem dX11_part_130 : decode cX11_part 130 = .ok (.iaload, 1) := by decide +kernel
theorem dX11_part_131 : decode cX11_part 131 = .ok (.ireturn, 1) := by decide +kernel
theorem dX11_part_132 : decode cX11_part 132 = .ok (.iload_n 3, 1) := by decide +kernel
theorem dX11_part_133 : decode cX11_part 133 = .ok (.ireturn, 1) := by decide +kernel
theorem dX11_part_134 : decode cX11_part 134 = .ok (.aload_n 0, 1) := by decide +kernel
theorem dX11_part_135 : decode cX11_part 135 = .ok (.getfield 37, 3) := by decide +kernel
theorem dX11_part_138 : decode cX11_part 138 = .ok (.iload_n 1, 1) := by decide +kernel
theorem dX11_part_139 : decode cX11_part 139 = .ok (.iaload, 1) := by decide +kernel
theorem dX11_part_140 : decode cX11_part 140 = .ok (.ireturn, 1) := by decide +kernel
theorem dX11_both_0 : decode cX11_both 0 = .ok (.aload_n 0, 1) := by decide +kernel
theorem dX11_both_1 : decode cX11_both 1 = .ok (.iload_n 1, 1) := by decide +kernel
theorem dX11_both_2 : decode cX11_both 2 = .ok (.invokevirtual 200, 3) := by decide +kernel
theorem dX11_both_5 : decode cX11_both 5 = .ok (.ifCond .eq 16, 3) := by decide +kernel
theorem dX11_both_8 : decode cX11_both 8 = .ok (.aload_n 0, 1) := by decide +kernel
theorem dX11_both_9 : decode cX11_both 9 = .ok (.iload_n 2, 1) := by decide +kernel
theorem dX11_both_10 : decode cX11_both 10 = .ok (.invokevirtual 200, 3) := by decide +kernel
theorem dX11_both_13 : decode cX11_both 13 = .ok (.ifCond .eq 8, 3) := by decide +kernel
theorem dX11_both_16 : decode cX11_both 16 = .ok (.iload_n 1, 1) := by decide +kernel
theorem dX11_both_17 : decode cX11_both 17 = .ok (.iload_n 2, 1) := by decide +kernel
theorem dX11_both_18 : decode cX11_both 18 = .ok (.if_icmp .ne 5, 3) := by decide +kernel
theorem dX11_both_21 : decode cX11_both 21 = .ok (.iconst (-1), 1) := by decide +kernel
theorem dX11_both_22 : decode cX11_both 22 = .ok (.ireturn, 1) := by decide +kernel
theorem dX11_both_23 : decode cX11_both 23 = .ok (.aload_n 0, 1) := by decide +kernel
theorem dX11_both_24 : decode cX11_both 24 = .ok (.getfield 79, 3) := by decide +kernel
theorem dX11_both_27 : decode cX11_both 27 = .ok (.iload_n 1, 1) := by decide +kernel
theorem dX11_both_28 : decode cX11_both 28 = .ok (.iaload, 1) := by decide +kernel
theorem dX11_both_29 : decode cX11_both 29 = .ok (.iload_n 2, 1) := by decide +kernel
theorem dX11_both_30 : decode cX11_both 30 = .ok (.invokestatic 183, 3) := by decide +kernel
theorem dX11_both_33 : decode cX11_both 33 = .ok (.ifCond .eq 7, 3) := by decide +kernel
theorem dX11_both_36 : decode cX11_both 36 = .ok (.iconst 1, 1) := by decide +kernel
theorem dX11_both_37 : decode cX11_both 37 = .ok (.goto 4, 3) := by decide +kernel
theorem dX11_both_40 : decode cX11_both 40 = .ok (.iconst 0, 1) := by decide +kernel
theorem dX11_both_41 : decode cX11_both 41 = .ok (.ireturn, 1) := by decide +kernel
theorem dX11_kept_0 : decode cX11_kept 0 = .ok (.bipush 100, 2) := by decide +kernel
theorem dX11_kept_2 : decode cX11_kept 2 = .ok (.aload_n 0, 1) := by decide +kernel
theorem dX11_kept_3 : decode cX11_kept 3 = .ok (.getfield 58, 3) := by decide +kernel
theorem dX11_kept_6 : decode cX11_kept 6 = .ok (.iconst 2, 1) := by decide +kernel
theorem dX11_kept_7 : decode cX11_kept 7 = .ok (.iaload, 1) := by decide +kernel
theorem dX11_kept_8 : decode cX11_kept 8 = .ok (.aload_n 0, 1) := by decide +kernel
theorem dX11_kept_9 : decode cX11_kept 9 = .ok (.getfield 64, 3) := by decide +kernel
theorem dX11_kept_12 : decode cX11_kept 12 = .ok (.iconst 0, 1) := by decide +kernel
theorem dX11_kept_13 : decode cX11_kept 13 = .ok (.iaload, 1) := by decide +kernel
theorem dX11_kept_14 : decode cX11_kept 14 = .ok (.aload_n 0, 1) := by decide +kernel
theorem dX11_kept_15 : decode cX11_kept 15 = .ok (.getfield 61, 3) := by decide +kernel
theorem dX11_kept_18 : decode cX11_kept 18 = .ok (.bipush 8, 2) := by decide +kernel
theorem dX11_kept_20 : decode cX11_kept 20 = .ok (.iload_n 1, 1) := by decide +kernel
theorem dX11_kept_21 : decode cX11_kept 21 = .ok (.imul, 1) := by decide +kernel
theorem dX11_kept_22 : decode cX11_kept 22 = .ok (.iload_n 2, 1) := by decide +kernel
theorem dX11_kept_23 : decode cX11_kept 23 = .ok (.iadd, 1) := by decide +kernel
theorem dX11_kept_24 : decode cX11_kept 24 = .ok (.iaload, 1) := by decide +kernel
theorem dX11_kept_25 : decode cX11_kept 25 = .ok (.isub, 1) := by decide +kernel
theorem dX11_kept_26 : decode cX11_kept 26 = .ok (.imul, 1) := by decide +kernel
theorem dX11_kept_27 : decode cX11_kept 27 = .ok (.isub, 1) := by decide +kernel
theorem dX11_kept_28 : decode cX11_kept 28 = .ok (.istore_n 3, 1) := by decide +kernel
theorem dX11_kept_29 : decode cX11_kept 29 = .ok (.iload_n 3, 1) := by decide +kernel
theorem dX11_kept_30 : decode cX11_kept 30 = .ok (.ifCond .ge 7, 3) := by decide +kernel
theorem dX11_kept_33 : decode cX11_kept 33 = .ok (.iconst 0, 1) := by decide +kernel
theorem dX11_kept_34 : decode cX11_kept 34 = .ok (.goto 14, 3) := by decide +kernel
theorem dX11_kept_37 : decode cX11_kept 37 = .ok (.aload_n 0, 1) := by decide +kernel
theorem dX11_kept_38 : decode cX11_kept 38 = .ok (.getfield 31, 3) := by decide +kernel
theorem dX11_kept_41 : decode cX11_kept 41 = .ok (.iload_n 2, 1) := by decide +kernel
theorem dX11_kept_42 : decode cX11_kept 42 = .ok (.iaload, 1) := by decide +kernel
theorem dX11_kept_43 : decode cX11_kept 43 = .ok (.iload_n 3, 1) := by decide +kernel
theorem dX11_kept_44 : decode cX11_kept 44 = .ok (.imul, 1) := by decide +kernel
theorem dX11_kept_45 : decode cX11_kept 45 = .ok (.bipush 100, 2) := by decide +kernel
theorem dX11_kept_47 : decode cX11_kept 47 = .ok (.idiv, 1) := by decide +kernel
theorem dX11_kept_48 : decode cX11_kept 48 = .ok (.ireturn, 1) := by decide +kernel
theorem dX11_trouble_0 : decode cX11_trouble 0 = .ok (.aload_n 0, 1) := by decide +kernel
theorem dX11_trouble_1 : decode cX11_trouble 1 = .ok (.getfield 31, 3) := by decide +kernel
theorem dX11_trouble_4 : decode cX11_trouble 4 = .ok (.iload_n 2, 1) := by decide +kernel
theorem dX11_trouble_5 : decode cX11_trouble 5 = .ok (.iaload, 1) := by decide +kernel
theorem dX11_trouble_6 : decode cX11_trouble 6 = .ok (.aload_n 0, 1) := by decide +kernel
theorem dX11_trouble_7 : decode cX11_trouble 7 = .ok (.iload_n 1, 1) := by decide +kernel
theorem dX11_trouble_8 : decode cX11_trouble 8 = .ok (.iload_n 2, 1) := by decide +kernel
theorem dX11_trouble_9 : decode cX11_trouble 9 = .ok (.invokevirtual 205, 3) := by decide +kernel
theorem dX11_trouble_12 : decode cX11_trouble 12 = .ok (.isub, 1) := by decide +kernel
theorem dX11_trouble_13 : decode cX11_trouble 13 = .ok (.istore_n 3, 1) := by decide +kernel
theorem dX11_trouble_14 : decode cX11_trouble 14 = .ok (.aload_n 0, 1) := by decide +kernel
theorem dX11_trouble_15 : decode cX11_trouble 15 = .ok (.getfield 16, 3) := by decide +kernel
theorem dX11_trouble_18 : decode cX11_trouble 18 = .ok (.iload_n 1, 1) := by decide +kernel
theorem dX11_trouble_19 : decode cX11_trouble 19 = .ok (.iaload, 1) := by decide +kernel
theorem dX11_trouble_20 : decode cX11_trouble 20 = .ok (.aload_n 0, 1) := by decide +kernel
theorem dX11_trouble_21 : decode cX11_trouble 21 = .ok (.getfield 25, 3) := by decide +kernel
theorem dX11_trouble_24 : decode cX11_trouble 24 = .ok (.iload_n 2, 1) := by decide +kernel
theorem dX11_trouble_25 : decode cX11_trouble 25 = .ok (.iaload, 1) := by decide +kernel
theorem dX11_trouble_26 : decode cX11_trouble 26 = .ok (.isub, 1) := by decide +kernel
theorem dX11_trouble_27 : decode cX11_trouble 27 = .ok (.istore 4, 2) := by decide +kernel
theorem dX11_trouble_29 : decode cX11_trouble 29 = .ok (.aload_n 0, 1) := by decide +kernel
theorem dX11_trouble_30 : decode cX11_trouble 30 = .ok (.getfield 37, 3) := by decide +kernel
theorem dX11_trouble_33 : decode cX11_trouble 33 = .ok (.iload_n 2, 1) := by decide +kernel
theorem dX11_trouble_34 : decode cX11_trouble 34 = .ok (.iaload, 1) := by decide +kernel
theorem dX11_trouble_35 : decode cX11_trouble 35 = .ok (.iload_n 1, 1) := by decide +kernel
theorem dX11_trouble_36 : decode cX11_trouble 36 = .ok (.if_icmp .ne 7, 3) := by decide +kernel
theorem dX11_trouble_39 : decode cX11_trouble 39 = .ok (.iload_n 3, 1) := by decide +kernel
theorem dX11_trouble_40 : decode cX11_trouble 40 = .ok (.goto 28, 3) := by decide +kernel
theorem dX11_trouble_43 : decode cX11_trouble 43 = .ok (.bipush 100, 2) := by decide +kernel
theorem dX11_trouble_45 : decode cX11_trouble 45 = .ok (.aload_n 0, 1) := by decide +kernel
theorem dX11_trouble_46 : decode cX11_trouble 46 = .ok (.getfield 58, 3) := by decide +kernel
theorem dX11_trouble_49 : decode cX11_trouble 49 = .ok (.iconst 1, 1) := by decide +kernel
theorem dX11_trouble_50 : decode cX11_trouble 50 = .ok (.iaload, 1) := by decide +kernel
theorem dX11_trouble_51 : decode cX11_trouble 51 = .ok (.iload 4, 2) := by decide +kernel
theorem dX11_trouble_53 : decode cX11_trouble 53 = .ok (.ifCond .ge 9, 3) := by decide +kernel
theorem dX11_trouble_56 : decode cX11_trouble 56 = .ok (.iload 4, 2) := by decide +kernel
theorem dX11_trouble_58 : decode cX11_trouble 58 = .ok (.ineg, 1) := by decide +kernel
theorem dX11_trouble_59 : decode cX11_trouble 59 = .ok (.goto 5, 3) := by decide +kernel
theorem dX11_trouble_62 : decode cX11_trouble 62 = .ok (.iload 4, 2) := by decide +kernel
theorem dX11_trouble_64 : decode cX11_trouble 64 = .ok (.imul, 1) := by decide +kernel
theorem dX11_trouble_65 : decode cX11_trouble 65 = .ok (.iadd, 1) := by decide +kernel
theorem dX11_trouble_66 : decode cX11_trouble 66 = .ok (.iload_n 3, 1) := by decide +kernel
theorem dX11_trouble_67 : decode cX11_trouble 67 = .ok (.iadd, 1) := by decide +kernel
theorem dX11_trouble_68 : decode cX11_trouble 68 = .ok (.ireturn, 1) := by decide +kernel
theorem dX11_nextFor_0 : decode cX11_nextFor 0 = .ok (.iload_n 2, 1) := by decide +kernel
theorem dX11_nextFor_1 : decode cX11_nextFor 1 = .ok (.istore 4, 2) := by decide +kernel
theorem dX11_nextFor_3 : decode cX11_nextFor 3 = .ok (.iload 4, 2) := by decide +kernel
theorem dX11_nextFor_5 : decode cX11_nextFor 5 = .ok (.aload_n 0, 1) := by decide +kernel
theorem dX11_nextFor_6 : decode cX11_nextFor 6 = .ok (.getfield 13, 3) := by decide +kernel
theorem dX11_nextFor_9 : decode cX11_nextFor 9 = .ok (.iconst 0, 1) := by decide +kernel
theorem dX11_nextFor_10 : decode cX11_nextFor 10 = .ok (.iaload, 1) := by decide +kernel
theorem dX11_nextFor_11 : decode cX11_nextFor 11 = .ok (.if_icmp .ge 54, 3) := by decide +kernel
theorem dX11_nextFor_14 : decode cX11_nextFor 14 = .ok (.iload_n 3, 1) := by decide +kernel
theorem dX11_nextFor_15 : decode cX11_nextFor 15 = .ok (.iload 4, 2) := by decide +kernel
theorem dX11_nextFor_17 : decode cX11_nextFor 17 = .ok (.invokestatic 183, 3) := by decide +kernel
theorem dX11_nextFor_20 : decode cX11_nextFor 20 = .ok (.ifCond .ne 39, 3) := by decide +kernel
theorem dX11_nextFor_23 : decode cX11_nextFor 23 = .ok (.aload_n 0, 1) := by decide +kernel
theorem dX11_nextFor_24 : decode cX11_nextFor 24 = .ok (.getfield 76, 3) := by decide +kernel
theorem dX11_nextFor_27 : decode cX11_nextFor 27 = .ok (.iload 4, 2) := by decide +kernel
theorem dX11_nextFor_29 : decode cX11_nextFor 29 = .ok (.iaload, 1) := by decide +kernel
theorem dX11_nextFor_30 : decode cX11_nextFor 30 = .ok (.iload_n 1, 1) := by decide +kernel
theorem dX11_nextFor_31 : decode cX11_nextFor 31 = .ok (.invokestatic 183, 3) := by decide +kernel
theorem dX11_nextFor_34 : decode cX11_nextFor 34 = .ok (.ifCond .eq 25, 3) := by decide +kernel
theorem dX11_nextFor_37 : decode cX11_nextFor 37 = .ok (.aload_n 0, 1) := by decide +kernel
theorem dX11_nextFor_38 : decode cX11_nextFor 38 = .ok (.getfield 88, 3) := by decide +kernel
theorem dX11_nextFor_41 : decode cX11_nextFor 41 = .ok (.iload 4, 2) := by decide +kernel
theorem dX11_nextFor_43 : decode cX11_nextFor 43 = .ok (.iaload, 1) := by decide +kernel
theorem dX11_nextFor_44 : decode cX11_nextFor 44 = .ok (.aload_n 0, 1) := by decide +kernel
theorem dX11_nextFor_45 : decode cX11_nextFor 45 = .ok (.getfield 79, 3) := by decide +kernel
theorem dX11_nextFor_48 : decode cX11_nextFor 48 = .ok (.iload_n 1, 1) := by decide +kernel
theorem dX11_nextFor_49 : decode cX11_nextFor 49 = .ok (.iaload, 1) := by decide +kernel
theorem dX11_nextFor_50 : decode cX11_nextFor 50 = .ok (.iconst (-1), 1) := by decide +kernel
theorem dX11_nextFor_51 : decode cX11_nextFor 51 = .ok (.ixor, 1) := by decide +kernel
theorem dX11_nextFor_52 : decode cX11_nextFor 52 = .ok (.iand, 1) := by decide +kernel
theorem dX11_nextFor_53 : decode cX11_nextFor 53 = .ok (.ifCond .ne 6, 3) := by decide +kernel
theorem dX11_nextFor_56 : decode cX11_nextFor 56 = .ok (.iload 4, 2) := by decide +kernel
theorem dX11_nextFor_58 : decode cX11_nextFor 58 = .ok (.ireturn, 1) := by decide +kernel
theorem dX11_nextFor_59 : decode cX11_nextFor 59 = .ok (.iinc 4 1, 3) := by decide +kernel
theorem dX11_nextFor_62 : decode cX11_nextFor 62 = .ok (.goto (-59), 3) := by decide +kernel
theorem dX11_nextFor_65 : decode cX11_nextFor 65 = .ok (.bipush (-4), 2) := by decide +kernel
theorem dX11_nextFor_67 : decode cX11_nextFor 67 = .ok (.ireturn, 1) := by decide +kernel
theorem dX11_pileTrouble_0 : decode cX11_pileTrouble 0 = .ok (.iconst 0, 1) := by decide +kernel
theorem dX11_pileTrouble_1 : decode cX11_pileTrouble 1 = .ok (.istore_n 2, 1) := by decide +kernel
theorem dX11_pileTrouble_2 : decode cX11_pileTrouble 2 = .ok (.iconst 0, 1) := by decide +kernel
theorem dX11_pileTrouble_3 : decode cX11_pileTrouble 3 = .ok (.istore_n 3, 1) := by decide +kernel
theorem dX11_pileTrouble_4 : decode cX11_pileTrouble 4 = .ok (.iload_n 3, 1) := by decide +kernel
theorem dX11_pileTrouble_5 : decode cX11_pileTrouble 5 = .ok (.aload_n 0, 1) := by decide +kernel
theorem dX11_pileTrouble_6 : decode cX11_pileTrouble 6 = .ok (.getfield 22, 3) := by decide +kernel
theorem dX11_pileTrouble_9 : decode cX11_pileTrouble 9 = .ok (.iconst 0, 1) := by decide +kernel
theorem dX11_pileTrouble_10 : decode cX11_pileTrouble 10 = .ok (.iaload, 1) := by decide +kernel
theorem dX11_pileTrouble_11 : decode cX11_pileTrouble 11 = .ok (.if_icmp .ge 35, 3) := by decide +kernel
theorem dX11_pileTrouble_14 : decode cX11_pileTrouble 14 = .ok (.iload_n 2, 1) := by decide +kernel
theorem dX11_pileTrouble_15 : decode cX11_pileTrouble 15 = .ok (.iload_n 1, 1) := by decide +kernel
theorem dX11_pileTrouble_16 : decode cX11_pileTrouble 16 = .ok (.iload_n 3, 1) := by decide +kernel
theorem dX11_pileTrouble_17 : decode cX11_pileTrouble 17 = .ok (.invokestatic 183, 3) := by decide +kernel
theorem dX11_pileTrouble_20 : decode cX11_pileTrouble 20 = .ok (.ifCond .eq 7, 3) := by decide +kernel
theorem dX11_pileTrouble_23 : decode cX11_pileTrouble 23 = .ok (.iconst 0, 1) := by decide +kernel
theorem dX11_pileTrouble_24 : decode cX11_pileTrouble 24 = .ok (.goto 14, 3) := by decide +kernel
theorem dX11_pileTrouble_27 : decode cX11_pileTrouble 27 = .ok (.aload_n 0, 1) := by decide +kernel
theorem dX11_pileTrouble_28 : decode cX11_pileTrouble 28 = .ok (.aload_n 0, 1) := by decide +kernel
theorem dX11_pileTrouble_29 : decode cX11_pileTrouble 29 = .ok (.getfield 82, 3) := by decide +kernel
theorem dX11_pileTrouble_32 : decode cX11_pileTrouble 32 = .ok (.iload_n 3, 1) := by decide +kernel
theorem dX11_pileTrouble_33 : decode cX11_pileTrouble 33 = .ok (.iaload, 1) := by decide +kernel
theorem dX11_pileTrouble_34 : decode cX11_pileTrouble 34 = .ok (.iload_n 3, 1) := by decide +kernel
theorem dX11_pileTrouble_35 : decode cX11_pileTrouble 35 = .ok (.invokevirtual 209, 3) := by decide +kernel
theorem dX11_pileTrouble_38 : decode cX11_pileTrouble 38 = .ok (.iadd, 1) := by decide +kernel
theorem dX11_pileTrouble_39 : decode cX11_pileTrouble 39 = .ok (.istore_n 2, 1) := by decide +kernel
theorem dX11_pileTrouble_40 : decode cX11_pileTrouble 40 = .ok (.iinc 3 1, 3) := by decide +kernel
theorem dX11_pileTrouble_43 : decode cX11_pileTrouble 43 = .ok (.goto (-39), 3) := by decide +kernel
theorem dX11_pileTrouble_46 : decode cX11_pileTrouble 46 = .ok (.iload_n 2, 1) := by decide +kernel
theorem dX11_pileTrouble_47 : decode cX11_pileTrouble 47 = .ok (.ireturn, 1) := by decide +kernel
theorem dX11_cast_0 : decode cX11_cast 0 = .ok (.aload_n 0, 1) := by decide +kernel
theorem dX11_cast_1 : decode cX11_cast 1 = .ok (.lconst 0, 1) := by decide +kernel
theorem dX11_cast_2 : decode cX11_cast 2 = .ok (.putfield 212, 3) := by decide +kernel
theorem dX11_cast_5 : decode cX11_cast 5 = .ok (.aload_n 0, 1) := by decide +kernel
theorem dX11_cast_6 : decode cX11_cast 6 = .ok (.bipush (-4), 2) := by decide +kernel
theorem dX11_cast_8 : decode cX11_cast 8 = .ok (.putfield 216, 3) := by decide +kernel
theorem dX11_cast_11 : decode cX11_cast 11 = .ok (.iconst 0, 1) := by decide +kernel
theorem dX11_cast_12 : decode cX11_cast 12 = .ok (.istore 4, 2) := by decide +kernel
theorem dX11_cast_14 : decode cX11_cast 14 = .ok (.iload 4, 2) := by decide +kernel
theorem dX11_cast_16 : decode cX11_cast 16 = .ok (.bipush 10, 2) := by decide +kernel
theorem dX11_cast_18 : decode cX11_cast 18 = .ok (.if_icmp .ge 17, 3) := by decide +kernel
theorem dX11_cast_21 : decode cX11_cast 21 = .ok (.aload_n 0, 1) := by decide +kernel
theorem dX11_cast_22 : decode cX11_cast 22 = .ok (.getfield 88, 3) := by decide +kernel
theorem dX11_cast_25 : decode cX11_cast 25 = .ok (.iload 4, 2) := by decide +kernel
theorem dX11_cast_27 : decode cX11_cast 27 = .ok (.iconst 0, 1) := by decide +kernel
theorem dX11_cast_28 : decode cX11_cast 28 = .ok (.iastore, 1) := by decide +kernel
theorem dX11_cast_29 : decode cX11_cast 29 = .ok (.iinc 4 1, 3) := by decide +kernel
theorem dX11_cast_32 : decode cX11_cast 32 = .ok (.goto (-18), 3) := by decide +kernel
theorem dX11_cast_35 : decode cX11_cast 35 = .ok (.iconst 0, 1) := by decide +kernel
theorem dX11_cast_36 : decode cX11_cast 36 = .ok (.istore 4, 2) := by decide +kernel
theorem dX11_cast_38 : decode cX11_cast 38 = .ok (.iload 4, 2) := by decide +kernel
theorem dX11_cast_40 : decode cX11_cast 40 = .ok (.bipush 8, 2) := by decide +kernel
theorem dX11_cast_42 : decode cX11_cast 42 = .ok (.if_icmp .ge 18, 3) := by decide +kernel
theorem dX11_cast_45 : decode cX11_cast 45 = .ok (.aload_n 0, 1) := by decide +kernel
theorem dX11_cast_46 : decode cX11_cast 46 = .ok (.getfield 82, 3) := by decide +kernel
theorem dX11_cast_49 : decode cX11_cast 49 = .ok (.iload 4, 2) := by decide +kernel
theorem dX11_cast_51 : decode cX11_cast 51 = .ok (.bipush (-4), 2) := by decide +kernel
theorem dX11_cast_53 : decode cX11_cast 53 = .ok (.iastore, 1) := by decide +kernel
theorem dX11_cast_54 : decode cX11_cast 54 = .ok (.iinc 4 1, 3) := by decide +kernel
theorem dX11_cast_57 : decode cX11_cast 57 = .ok (.goto (-19), 3) := by decide +kernel
theorem dX11_cast_60 : decode cX11_cast 60 = .ok (.iconst 0, 1) := by decide +kernel
theorem dX11_cast_61 : decode cX11_cast 61 = .ok (.istore 4, 2) := by decide +kernel
theorem dX11_cast_63 : decode cX11_cast 63 = .ok (.iload 4, 2) := by decide +kernel
theorem dX11_cast_65 : decode cX11_cast 65 = .ok (.ifCond .lt 241, 3) := by decide +kernel
theorem dX11_cast_68 : decode cX11_cast 68 = .ok (.iload 4, 2) := by decide +kernel
theorem dX11_cast_70 : decode cX11_cast 70 = .ok (.aload_n 0, 1) := by decide +kernel
theorem dX11_cast_71 : decode cX11_cast 71 = .ok (.getfield 22, 3) := by decide +kernel
theorem dX11_cast_74 : decode cX11_cast 74 = .ok (.iconst 0, 1) := by decide +kernel
theorem dX11_cast_75 : decode cX11_cast 75 = .ok (.iaload, 1) := by decide +kernel
theorem dX11_cast_76 : decode cX11_cast 76 = .ok (.if_icmp .ne 95, 3) := by decide +kernel
theorem dX11_cast_79 : decode cX11_cast 79 = .ok (.aload_n 0, 1) := by decide +kernel
theorem dX11_cast_80 : decode cX11_cast 80 = .ok (.dup, 1) := by decide +kernel
theorem dX11_cast_81 : decode cX11_cast 81 = .ok (.getfield 212, 3) := by decide +kernel
theorem dX11_cast_84 : decode cX11_cast 84 = .ok (.lconst 1, 1) := by decide +kernel
theorem dX11_cast_85 : decode cX11_cast 85 = .ok (.ladd, 1) := by decide +kernel
theorem dX11_cast_86 : decode cX11_cast 86 = .ok (.putfield 212, 3) := by decide +kernel
theorem dX11_cast_89 : decode cX11_cast 89 = .ok (.iload_n 3, 1) := by decide +kernel
theorem dX11_cast_90 : decode cX11_cast 90 = .ok (.ifCond .ne 5, 3) := by decide +kernel
theorem dX11_cast_93 : decode cX11_cast 93 = .ok (.iconst 1, 1) := by decide +kernel
theorem dX11_cast_94 : decode cX11_cast 94 = .ok (.ireturn, 1) := by decide +kernel
theorem dX11_cast_95 : decode cX11_cast 95 = .ok (.aload_n 0, 1) := by decide +kernel
theorem dX11_cast_96 : decode cX11_cast 96 = .ok (.iload_n 2, 1) := by decide +kernel
theorem dX11_cast_97 : decode cX11_cast 97 = .ok (.invokevirtual 219, 3) := by decide +kernel
theorem dX11_cast_100 : decode cX11_cast 100 = .ok (.istore 5, 2) := by decide +kernel
theorem dX11_cast_102 : decode cX11_cast 102 = .ok (.aload_n 0, 1) := by decide +kernel
theorem dX11_cast_103 : decode cX11_cast 103 = .ok (.getfield 216, 3) := by decide +kernel
theorem dX11_cast_106 : decode cX11_cast 106 = .ok (.ifCond .lt 12, 3) := by decide +kernel
theorem dX11_cast_109 : decode cX11_cast 109 = .ok (.iload 5, 2) := by decide +kernel
theorem dX11_cast_111 : decode cX11_cast 111 = .ok (.aload_n 0, 1) := by decide +kernel
theorem dX11_cast_112 : decode cX11_cast 112 = .ok (.getfield 216, 3) := by decide +kernel
theorem dX11_cast_115 : decode cX11_cast 115 = .ok (.if_icmp .ge 43, 3) := by decide +kernel
theorem dX11_cast_118 : decode cX11_cast 118 = .ok (.aload_n 0, 1) := by decide +kernel
theorem dX11_cast_119 : decode cX11_cast 119 = .ok (.iload 5, 2) := by decide +kernel
theorem dX11_cast_121 : decode cX11_cast 121 = .ok (.putfield 216, 3) := by decide +kernel
theorem dX11_cast_124 : decode cX11_cast 124 = .ok (.iconst 0, 1) := by decide +kernel
theorem dX11_cast_125 : decode cX11_cast 125 = .ok (.istore 6, 2) := by decide +kernel
theorem dX11_cast_127 : decode cX11_cast 127 = .ok (.iload 6, 2) := by decide +kernel
theorem dX11_cast_129 : decode cX11_cast 129 = .ok (.aload_n 0, 1) := by decide +kernel
theorem dX11_cast_130 : decode cX11_cast 130 = .ok (.getfield 22, 3) := by decide +kernel
theorem dX11_cast_133 : decode cX11_cast 133 = .ok (.iconst 0, 1) := by decide +kernel
theorem dX11_cast_134 : decode cX11_cast 134 = .ok (.iaload, 1) := by decide +kernel
theorem dX11_cast_135 : decode cX11_cast 135 = .ok (.if_icmp .ge 23, 3) := by decide +kernel
theorem dX11_cast_138 : decode cX11_cast 138 = .ok (.aload_n 0, 1) := by decide +kernel
theorem dX11_cast_139 : decode cX11_cast 139 = .ok (.getfield 85, 3) := by decide +kernel
theorem dX11_cast_142 : decode cX11_cast 142 = .ok (.iload 6, 2) := by decide +kernel
theorem dX11_cast_144 : decode cX11_cast 144 = .ok (.aload_n 0, 1) := by decide +kernel
theorem dX11_cast_145 : decode cX11_cast 145 = .ok (.getfield 82, 3) := by decide +kernel
theorem dX11_cast_148 : decode cX11_cast 148 = .ok (.iload 6, 2) := by decide +kernel
theorem dX11_cast_150 : decode cX11_cast 150 = .ok (.iaload, 1) := by decide +kernel
theorem dX11_cast_151 : decode cX11_cast 151 = .ok (.iastore, 1) := by decide +kernel
theorem dX11_cast_152 : decode cX11_cast 152 = .ok (.iinc 6 1, 3) := by decide +kernel
theorem dX11_cast_155 : decode cX11_cast 155 = .ok (.goto (-28), 3) := by decide +kernel
theorem dX11_cast_158 : decode cX11_cast 158 = .ok (.iload 4, 2) := by decide +kernel
theorem dX11_cast_160 : decode cX11_cast 160 = .ok (.iconst 1, 1) := by decide +kernel
theorem dX11_cast_161 : decode cX11_cast 161 = .ok (.isub, 1) := by decide +kernel
theorem dX11_cast_162 : decode cX11_cast 162 = .ok (.iload_n 2, 1) := by decide +kernel
theorem dX11_cast_163 : decode cX11_cast 163 = .ok (.invokestatic 222, 3) := by decide +kernel
theorem dX11_cast_166 : decode cX11_cast 166 = .ok (.istore 4, 2) := by decide +kernel
theorem dX11_cast_168 : decode cX11_cast 168 = .ok (.goto (-105), 3) := by decide +kernel
theorem dX11_cast_171 : decode cX11_cast 171 = .ok (.iload_n 2, 1) := by decide +kernel
theorem dX11_cast_172 : decode cX11_cast 172 = .ok (.iload 4, 2) := by decide +kernel
theorem dX11_cast_174 : decode cX11_cast 174 = .ok (.invokestatic 183, 3) := by decide +kernel
theorem dX11_cast_177 : decode cX11_cast 177 = .ok (.ifCond .eq 9, 3) := by decide +kernel
theorem dX11_cast_180 : decode cX11_cast 180 = .ok (.iinc 4 1, 3) := by decide +kernel
theorem dX11_cast_183 : decode cX11_cast 183 = .ok (.goto (-120), 3) := by decide +kernel
theorem dX11_cast_186 : decode cX11_cast 186 = .ok (.aload_n 0, 1) := by decide +kernel
theorem dX11_cast_187 : decode cX11_cast 187 = .ok (.getfield 82, 3) := by decide +kernel
theorem dX11_cast_190 : decode cX11_cast 190 = .ok (.iload 4, 2) := by decide +kernel
theorem dX11_cast_192 : decode cX11_cast 192 = .ok (.iaload, 1) := by decide +kernel
theorem dX11_cast_193 : decode cX11_cast 193 = .ok (.ifCond .ge 7, 3) := by decide +kernel
theorem dX11_cast_196 : decode cX11_cast 196 = .ok (.iconst 0, 1) := by decide +kernel
theorem dX11_cast_197 : decode cX11_cast 197 = .ok (.goto 12, 3) := by decide +kernel
theorem dX11_cast_200 : decode cX11_cast 200 = .ok (.aload_n 0, 1) := by decide +kernel
theorem dX11_cast_201 : decode cX11_cast 201 = .ok (.getfield 82, 3) := by decide +kernel
theorem dX11_cast_204 : decode cX11_cast 204 = .ok (.iload 4, 2) := by decide +kernel
theorem dX11_cast_206 : decode cX11_cast 206 = .ok (.iaload, 1) := by decide +kernel
theorem dX11_cast_207 : decode cX11_cast 207 = .ok (.iconst 1, 1) := by decide +kernel
theorem dX11_cast_208 : decode cX11_cast 208 = .ok (.iadd, 1) := by decide +kernel
theorem dX11_cast_209 : decode cX11_cast 209 = .ok (.istore 5, 2) := by decide +kernel
theorem dX11_cast_211 : decode cX11_cast 211 = .ok (.aload_n 0, 1) := by decide +kernel
theorem dX11_cast_212 : decode cX11_cast 212 = .ok (.getfield 82, 3) := by decide +kernel
theorem dX11_cast_215 : decode cX11_cast 215 = .ok (.iload 4, 2) := by decide +kernel
theorem dX11_cast_217 : decode cX11_cast 217 = .ok (.iaload, 1) := by decide +kernel
theorem dX11_cast_218 : decode cX11_cast 218 = .ok (.ifCond .lt 24, 3) := by decide +kernel
theorem dX11_cast_221 : decode cX11_cast 221 = .ok (.aload_n 0, 1) := by decide +kernel
theorem dX11_cast_222 : decode cX11_cast 222 = .ok (.getfield 88, 3) := by decide +kernel
theorem dX11_cast_225 : decode cX11_cast 225 = .ok (.aload_n 0, 1) := by decide +kernel
theorem dX11_cast_226 : decode cX11_cast 226 = .ok (.getfield 82, 3) := by decide +kernel
theorem dX11_cast_229 : decode cX11_cast 229 = .ok (.iload 4, 2) := by decide +kernel
theorem dX11_cast_231 : decode cX11_cast 231 = .ok (.iaload, 1) := by decide +kernel
theorem dX11_cast_232 : decode cX11_cast 232 = .ok (.dup2, 1) := by decide +kernel
theorem dX11_cast_233 : decode cX11_cast 233 = .ok (.iaload, 1) := by decide +kernel
theorem dX11_cast_234 : decode cX11_cast 234 = .ok (.iconst 1, 1) := by decide +kernel
theorem dX11_cast_235 : decode cX11_cast 235 = .ok (.iload 4, 2) := by decide +kernel
theorem dX11_cast_237 : decode cX11_cast 237 = .ok (.ishl, 1) := by decide +kernel
theorem dX11_cast_238 : decode cX11_cast 238 = .ok (.iconst (-1), 1) := by decide +kernel
theorem dX11_cast_239 : decode cX11_cast 239 = .ok (.ixor, 1) := by decide +kernel
theorem dX11_cast_240 : decode cX11_cast 240 = .ok (.iand, 1) := by decide +kernel
theorem dX11_cast_241 : decode cX11_cast 241 = .ok (.iastore, 1) := by decide +kernel
theorem dX11_cast_242 : decode cX11_cast 242 = .ok (.aload_n 0, 1) := by decide +kernel
theorem dX11_cast_243 : decode cX11_cast 243 = .ok (.getfield 82, 3) := by decide +kernel
theorem dX11_cast_246 : decode cX11_cast 246 = .ok (.iload 4, 2) := by decide +kernel
theorem dX11_cast_248 : decode cX11_cast 248 = .ok (.aload_n 0, 1) := by decide +kernel
theorem dX11_cast_249 : decode cX11_cast 249 = .ok (.iload 4, 2) := by decide +kernel
theorem dX11_cast_251 : decode cX11_cast 251 = .ok (.iload 5, 2) := by decide +kernel
theorem dX11_cast_253 : decode cX11_cast 253 = .ok (.iload_n 1, 1) := by decide +kernel
theorem dX11_cast_254 : decode cX11_cast 254 = .ok (.invokevirtual 225, 3) := by decide +kernel
theorem dX11_cast_257 : decode cX11_cast 257 = .ok (.iastore, 1) := by decide +kernel
theorem dX11_cast_258 : decode cX11_cast 258 = .ok (.aload_n 0, 1) := by decide +kernel
theorem dX11_cast_259 : decode cX11_cast 259 = .ok (.getfield 82, 3) := by decide +kernel
theorem dX11_cast_262 : decode cX11_cast 262 = .ok (.iload 4, 2) := by decide +kernel
theorem dX11_cast_264 : decode cX11_cast 264 = .ok (.iaload, 1) := by decide +kernel
theorem dX11_cast_265 : decode cX11_cast 265 = .ok (.ifCond .lt 28, 3) := by decide +kernel
theorem dX11_cast_268 : decode cX11_cast 268 = .ok (.aload_n 0, 1) := by decide +kernel
theorem dX11_cast_269 : decode cX11_cast 269 = .ok (.getfield 88, 3) := by decide +kernel
theorem dX11_cast_272 : decode cX11_cast 272 = .ok (.aload_n 0, 1) := by decide +kernel
theorem dX11_cast_273 : decode cX11_cast 273 = .ok (.getfield 82, 3) := by decide +kernel
theorem dX11_cast_276 : decode cX11_cast 276 = .ok (.iload 4, 2) := by decide +kernel
theorem dX11_cast_278 : decode cX11_cast 278 = .ok (.iaload, 1) := by decide +kernel
theorem dX11_cast_279 : decode cX11_cast 279 = .ok (.dup2, 1) := by decide +kernel
theorem dX11_cast_280 : decode cX11_cast 280 = .ok (.iaload, 1) := by decide +kernel
theorem dX11_cast_281 : decode cX11_cast 281 = .ok (.iconst 1, 1) := by decide +kernel
theorem dX11_cast_282 : decode cX11_cast 282 = .ok (.iload 4, 2) := by decide +kernel
theorem dX11_cast_284 : decode cX11_cast 284 = .ok (.ishl, 1) := by decide +kernel
theorem dX11_cast_285 : decode cX11_cast 285 = .ok (.ior, 1) := by decide +kernel
theorem dX11_cast_286 : decode cX11_cast 286 = .ok (.iastore, 1) := by decide +kernel
theorem dX11_cast_287 : decode cX11_cast 287 = .ok (.iinc 4 1, 3) := by decide +kernel
theorem dX11_cast_290 : decode cX11_cast 290 = .ok (.goto 13, 3) := by decide +kernel
theorem dX11_cast_293 : decode cX11_cast 293 = .ok (.iload 4, 2) := by decide +kernel
theorem dX11_cast_295 : decode cX11_cast 295 = .ok (.iconst 1, 1) := by decide +kernel
theorem dX11_cast_296 : decode cX11_cast 296 = .ok (.isub, 1) := by decide +kernel
theorem dX11_cast_297 : decode cX11_cast 297 = .ok (.iload_n 2, 1) := by decide +kernel
theorem dX11_cast_298 : decode cX11_cast 298 = .ok (.invokestatic 222, 3) := by decide +kernel
theorem dX11_cast_301 : decode cX11_cast 301 = .ok (.istore 4, 2) := by decide +kernel
theorem dX11_cast_303 : decode cX11_cast 303 = .ok (.goto (-240), 3) := by decide +kernel
theorem dX11_cast_306 : decode cX11_cast 306 = .ok (.aload_n 0, 1) := by decide +kernel
theorem dX11_cast_307 : decode cX11_cast 307 = .ok (.getfield 212, 3) := by decide +kernel
theorem dX11_cast_310 : decode cX11_cast 310 = .ok (.lconst 0, 1) := by decide +kernel
theorem dX11_cast_311 : decode cX11_cast 311 = .ok (.lcmp, 1) := by decide +kernel
theorem dX11_cast_312 : decode cX11_cast 312 = .ok (.ifCond .le 7, 3) := by decide +kernel
theorem dX11_cast_315 : decode cX11_cast 315 = .ok (.iconst 1, 1) := by decide +kernel
theorem dX11_cast_316 : decode cX11_cast 316 = .ok (.goto 4, 3) := by decide +kernel
theorem dX11_cast_319 : decode cX11_cast 319 = .ok (.iconst 0, 1) := by decide +kernel
theorem dX11_cast_320 : decode cX11_cast 320 = .ok (.ireturn, 1) := by decide +kernel
theorem dX11_stepBack_0 : decode cX11_stepBack 0 = .ok (.iload_n 0, 1) := by decide +kernel
theorem dX11_stepBack_1 : decode cX11_stepBack 1 = .ok (.istore_n 2, 1) := by decide +kernel
theorem dX11_stepBack_2 : decode cX11_stepBack 2 = .ok (.iload_n 2, 1) := by decide +kernel
theorem dX11_stepBack_3 : decode cX11_stepBack 3 = .ok (.ifCond .lt 17, 3) := by decide +kernel
theorem dX11_stepBack_6 : decode cX11_stepBack 6 = .ok (.iload_n 1, 1) := by decide +kernel
theorem dX11_stepBack_7 : decode cX11_stepBack 7 = .ok (.iload_n 2, 1) := by decide +kernel
theorem dX11_stepBack_8 : decode cX11_stepBack 8 = .ok (.invokestatic 183, 3) := by decide +kernel
theorem dX11_stepBack_11 : decode cX11_stepBack 11 = .ok (.ifCond .eq 9, 3) := by decide +kernel
theorem dX11_stepBack_14 : decode cX11_stepBack 14 = .ok (.iinc 2 (-1), 3) := by decide +kernel
theorem dX11_stepBack_17 : decode cX11_stepBack 17 = .ok (.goto (-15), 3) := by decide +kernel
theorem dX11_stepBack_20 : decode cX11_stepBack 20 = .ok (.iload_n 2, 1) := by decide +kernel
theorem dX11_stepBack_21 : decode cX11_stepBack 21 = .ok (.ireturn, 1) := by decide +kernel
theorem dX11_isOff_0 : decode cX11_isOff 0 = .ok (.iload_n 1, 1) := by decide +kernel
theorem dX11_isOff_1 : decode cX11_isOff 1 = .ok (.i2l, 1) := by decide +kernel
theorem dX11_isOff_2 : decode cX11_isOff 2 = .ok (.lconst 0, 1) := by decide +kernel
theorem dX11_isOff_3 : decode cX11_isOff 3 = .ok (.iconst 1, 1) := by decide +kernel
theorem dX11_isOff_4 : decode cX11_isOff 4 = .ok (.aload_n 0, 1) := by decide +kernel
theorem dX11_isOff_5 : decode cX11_isOff 5 = .ok (.getfield 13, 3) := by decide +kernel
theorem dX11_isOff_8 : decode cX11_isOff 8 = .ok (.iconst 0, 1) := by decide +kernel
theorem dX11_isOff_9 : decode cX11_isOff 9 = .ok (.iaload, 1) := by decide +kernel
theorem dX11_isOff_10 : decode cX11_isOff 10 = .ok (.ishl, 1) := by decide +kernel
theorem dX11_isOff_11 : decode cX11_isOff 11 = .ok (.iconst 1, 1) := by decide +kernel
theorem dX11_isOff_12 : decode cX11_isOff 12 = .ok (.isub, 1) := by decide +kernel
theorem dX11_isOff_13 : decode cX11_isOff 13 = .ok (.i2l, 1) := by decide +kernel
theorem dX11_isOff_14 : decode cX11_isOff 14 = .ok (.invokestatic 124, 3) := by decide +kernel
theorem dX11_isOff_17 : decode cX11_isOff 17 = .ok (.ireturn, 1) := by decide +kernel
theorem dX11_isCut_0 : decode cX11_isCut 0 = .ok (.iload_n 1, 1) := by decide +kernel
theorem dX11_isCut_1 : decode cX11_isCut 1 = .ok (.i2l, 1) := by decide +kernel
theorem dX11_isCut_2 : decode cX11_isCut 2 = .ok (.lconst 0, 1) := by decide +kernel
theorem dX11_isCut_3 : decode cX11_isCut 3 = .ok (.iconst 1, 1) := by decide +kernel
theorem dX11_isCut_4 : decode cX11_isCut 4 = .ok (.aload_n 0, 1) := by decide +kernel
theorem dX11_isCut_5 : decode cX11_isCut 5 = .ok (.getfield 22, 3) := by decide +kernel
theorem dX11_isCut_8 : decode cX11_isCut 8 = .ok (.iconst 0, 1) := by decide +kernel
theorem dX11_isCut_9 : decode cX11_isCut 9 = .ok (.iaload, 1) := by decide +kernel
theorem dX11_isCut_10 : decode cX11_isCut 10 = .ok (.ishl, 1) := by decide +kernel
theorem dX11_isCut_11 : decode cX11_isCut 11 = .ok (.iconst 1, 1) := by decide +kernel
theorem dX11_isCut_12 : decode cX11_isCut 12 = .ok (.isub, 1) := by decide +kernel
theorem dX11_isCut_13 : decode cX11_isCut 13 = .ok (.i2l, 1) := by decide +kernel
theorem dX11_isCut_14 : decode cX11_isCut 14 = .ok (.invokestatic 124, 3) := by decide +kernel
theorem dX11_isCut_17 : decode cX11_isCut 17 = .ok (.ireturn, 1) := by decide +kernel
theorem dX11_ways_0 : decode cX11_ways 0 = .ok (.aload_n 0, 1) := by decide +kernel
theorem dX11_ways_1 : decode cX11_ways 1 = .ok (.iload_n 1, 1) := by decide +kernel
theorem dX11_ways_2 : decode cX11_ways 2 = .ok (.invokevirtual 229, 3) := by decide +kernel
theorem dX11_ways_5 : decode cX11_ways 5 = .ok (.ifCond .eq 11, 3) := by decide +kernel
theorem dX11_ways_8 : decode cX11_ways 8 = .ok (.aload_n 0, 1) := by decide +kernel
theorem dX11_ways_9 : decode cX11_ways 9 = .ok (.iload_n 2, 1) := by decide +kernel
theorem dX11_ways_10 : decode cX11_ways 10 = .ok (.invokevirtual 232, 3) := by decide +kernel
theorem dX11_ways_13 : decode cX11_ways 13 = .ok (.ifCond .ne 5, 3) := by decide +kernel
theorem dX11_ways_16 : decode cX11_ways 16 = .ok (.lconst 0, 1) := by decide +kernel
theorem dX11_ways_17 : decode cX11_ways 17 = .ok (.lreturn, 1) := by decide +kernel
theorem dX11_ways_18 : decode cX11_ways 18 = .ok (.aload_n 0, 1) := by decide +kernel
theorem dX11_ways_19 : decode cX11_ways 19 = .ok (.iload_n 1, 1) := by decide +kernel
theorem dX11_ways_20 : decode cX11_ways 20 = .ok (.iload_n 2, 1) := by decide +kernel
theorem dX11_ways_21 : decode cX11_ways 21 = .ok (.iconst 1, 1) := by decide +kernel
theorem dX11_ways_22 : decode cX11_ways 22 = .ok (.invokevirtual 235, 3) := by decide +kernel
theorem dX11_ways_25 : decode cX11_ways 25 = .ok (.pop, 1) := by decide +kernel
theorem dX11_ways_26 : decode cX11_ways 26 = .ok (.aload_n 0, 1) := by decide +kernel
theorem dX11_ways_27 : decode cX11_ways 27 = .ok (.getfield 212, 3) := by decide +kernel
theorem dX11_ways_30 : decode cX11_ways 30 = .ok (.lreturn, 1) := by decide +kernel
theorem dX11_least_0 : decode cX11_least 0 = .ok (.aload_n 0, 1) := by decide +kernel
theorem dX11_least_1 : decode cX11_least 1 = .ok (.iload_n 1, 1) := by decide +kernel
theorem dX11_least_2 : decode cX11_least 2 = .ok (.invokevirtual 229, 3) := by decide +kernel
theorem dX11_least_5 : decode cX11_least 5 = .ok (.ifCond .eq 31, 3) := by decide +kernel
theorem dX11_least_8 : decode cX11_least 8 = .ok (.aload_n 0, 1) := by decide +kernel
theorem dX11_least_9 : decode cX11_least 9 = .ok (.iload_n 2, 1) := by decide +kernel
theorem dX11_least_10 : decode cX11_least 10 = .ok (.invokevirtual 232, 3) := by decide +kernel
theorem dX11_least_13 : decode cX11_least 13 = .ok (.ifCond .eq 23, 3) := by decide +kernel
theorem dX11_least_16 : decode cX11_least 16 = .ok (.iload_n 3, 1) := by decide +kernel
theorem dX11_least_17 : decode cX11_least 17 = .ok (.i2l, 1) := by decide +kernel
theorem dX11_least_18 : decode cX11_least 18 = .ok (.ldc2_w 239, 3) := by decide +kernel
theorem dX11_least_21 : decode cX11_least 21 = .ok (.aload_n 0, 1) := by decide +kernel
theorem dX11_least_22 : decode cX11_least 22 = .ok (.getfield 22, 3) := by decide +kernel
theorem dX11_least_25 : decode cX11_least 25 = .ok (.iconst 0, 1) := by decide +kernel
theorem dX11_least_26 : decode cX11_least 26 = .ok (.iaload, 1) := by decide +kernel
theorem dX11_least_27 : decode cX11_least 27 = .ok (.iconst 1, 1) := by decide +kernel
theorem dX11_least_28 : decode cX11_least 28 = .ok (.isub, 1) := by decide +kernel
theorem dX11_least_29 : decode cX11_least 29 = .ok (.i2l, 1) := by decide +kernel
theorem dX11_least_30 : decode cX11_least 30 = .ok (.invokestatic 124, 3) := by decide +kernel
theorem dX11_least_33 : decode cX11_least 33 = .ok (.ifCond .ne 5, 3) := by decide +kernel
theorem dX11_least_36 : decode cX11_least 36 = .ok (.iconst (-1), 1) := by decide +kernel
theorem dX11_least_37 : decode cX11_least 37 = .ok (.ireturn, 1) := by decide +kernel
theorem dX11_least_38 : decode cX11_least 38 = .ok (.iload_n 3, 1) := by decide +kernel
theorem dX11_least_39 : decode cX11_least 39 = .ok (.ifCond .lt 14, 3) := by decide +kernel
theorem dX11_least_42 : decode cX11_least 42 = .ok (.iload_n 2, 1) := by decide +kernel
theorem dX11_least_43 : decode cX11_least 43 = .ok (.iload_n 3, 1) := by decide +kernel
theorem dX11_least_44 : decode cX11_least 44 = .ok (.invokestatic 183, 3) := by decide +kernel
theorem dX11_least_47 : decode cX11_least 47 = .ok (.ifCond .eq 6, 3) := by decide +kernel
theorem dX11_least_50 : decode cX11_least 50 = .ok (.bipush (-2), 2) := by decide +kernel
theorem dX11_least_52 : decode cX11_least 52 = .ok (.ireturn, 1) := by decide +kernel
theorem dX11_least_53 : decode cX11_least 53 = .ok (.aload_n 0, 1) := by decide +kernel
theorem dX11_least_54 : decode cX11_least 54 = .ok (.iload_n 1, 1) := by decide +kernel
theorem dX11_least_55 : decode cX11_least 55 = .ok (.iload_n 2, 1) := by decide +kernel
theorem dX11_least_56 : decode cX11_least 56 = .ok (.iconst 1, 1) := by decide +kernel
theorem dX11_least_57 : decode cX11_least 57 = .ok (.invokevirtual 235, 3) := by decide +kernel
theorem dX11_least_60 : decode cX11_least 60 = .ok (.ifCond .ne 6, 3) := by decide +kernel
theorem dX11_least_63 : decode cX11_least 63 = .ok (.bipush (-4), 2) := by decide +kernel
theorem dX11_least_65 : decode cX11_least 65 = .ok (.ireturn, 1) := by decide +kernel
theorem dX11_least_66 : decode cX11_least 66 = .ok (.iload_n 3, 1) := by decide +kernel
theorem dX11_least_67 : decode cX11_least 67 = .ok (.ifCond .lt 10, 3) := by decide +kernel
theorem dX11_least_70 : decode cX11_least 70 = .ok (.aload_n 0, 1) := by decide +kernel
theorem dX11_least_71 : decode cX11_least 71 = .ok (.getfield 85, 3) := by decide +kernel
theorem dX11_least_74 : decode cX11_least 74 = .ok (.iload_n 3, 1) := by decide +kernel
theorem dX11_least_75 : decode cX11_least 75 = .ok (.iaload, 1) := by decide +kernel
theorem dX11_least_76 : decode cX11_least 76 = .ok (.ireturn, 1) := by decide +kernel
theorem dX11_least_77 : decode cX11_least 77 = .ok (.iconst 0, 1) := by decide +kernel
theorem dX11_least_78 : decode cX11_least 78 = .ok (.istore 4, 2) := by decide +kernel
theorem dX11_least_80 : decode cX11_least 80 = .ok (.iconst 0, 1) := by decide +kernel
theorem dX11_least_81 : decode cX11_least 81 = .ok (.istore 5, 2) := by decide +kernel
theorem dX11_least_83 : decode cX11_least 83 = .ok (.iconst 0, 1) := by decide +kernel
theorem dX11_least_84 : decode cX11_least 84 = .ok (.istore 6, 2) := by decide +kernel
theorem dX11_least_86 : decode cX11_least 86 = .ok (.iload 6, 2) := by decide +kernel
theorem dX11_least_88 : decode cX11_least 88 = .ok (.aload_n 0, 1) := by decide +kernel
theorem dX11_least_89 : decode cX11_least 89 = .ok (.getfield 22, 3) := by decide +kernel
theorem dX11_least_92 : decode cX11_least 92 = .ok (.iconst 0, 1) := by decide +kernel
theorem dX11_least_93 : decode cX11_least 93 = .ok (.iaload, 1) := by decide +kernel
theorem dX11_least_94 : decode cX11_least 94 = .ok (.if_icmp .ge 71, 3) := by decide +kernel
theorem dX11_least_97 : decode cX11_least 97 = .ok (.iload_n 2, 1) := by decide +kernel
theorem dX11_least_98 : decode cX11_least 98 = .ok (.iload 6, 2) := by decide +kernel
theorem dX11_least_100 : decode cX11_least 100 = .ok (.invokestatic 183, 3) := by decide +kernel
theorem dX11_least_103 : decode cX11_least 103 = .ok (.ifCond .ne 56, 3) := by decide +kernel
theorem dX11_least_106 : decode cX11_least 106 = .ok (.iload 4, 2) := by decide +kernel
theorem dX11_least_108 : decode cX11_least 108 = .ok (.aload_n 0, 1) := by decide +kernel
theorem dX11_least_109 : decode cX11_least 109 = .ok (.getfield 37, 3) := by decide +kernel
theorem dX11_least_112 : decode cX11_least 112 = .ok (.iload 6, 2) := by decide +kernel
theorem dX11_least_114 : decode cX11_least 114 = .ok (.iaload, 1) := by decide +kernel
theorem dX11_least_115 : decode cX11_least 115 = .ok (.aload_n 0, 1) := by decide +kernel
theorem dX11_least_116 : decode cX11_least 116 = .ok (.getfield 85, 3) := by decide +kernel
theorem dX11_least_119 : decode cX11_least 119 = .ok (.iload 6, 2) := by decide +kernel
theorem dX11_least_121 : decode cX11_least 121 = .ok (.iaload, 1) := by decide +kernel
theorem dX11_least_122 : decode cX11_least 122 = .ok (.if_icmp .ne 7, 3) := by decide +kernel
theorem dX11_least_125 : decode cX11_least 125 = .ok (.iconst 0, 1) := by decide +kernel
theorem dX11_least_126 : decode cX11_least 126 = .ok (.goto 4, 3) := by decide +kernel
theorem dX11_least_129 : decode cX11_least 129 = .ok (.iconst 1, 1) := by decide +kernel
theorem dX11_least_130 : decode cX11_least 130 = .ok (.iadd, 1) := by decide +kernel
theorem dX11_least_131 : decode cX11_least 131 = .ok (.istore 4, 2) := by decide +kernel
theorem dX11_least_133 : decode cX11_least 133 = .ok (.iload 5, 2) := by decide +kernel
theorem dX11_least_135 : decode cX11_least 135 = .ok (.aload_n 0, 1) := by decide +kernel
theorem dX11_least_136 : decode cX11_least 136 = .ok (.getfield 31, 3) := by decide +kernel
theorem dX11_least_139 : decode cX11_least 139 = .ok (.iload 6, 2) := by decide +kernel
theorem dX11_least_141 : decode cX11_least 141 = .ok (.iaload, 1) := by decide +kernel
theorem dX11_least_142 : decode cX11_least 142 = .ok (.aload_n 0, 1) := by decide +kernel
theorem dX11_least_143 : decode cX11_least 143 = .ok (.aload_n 0, 1) := by decide +kernel
theorem dX11_least_144 : decode cX11_least 144 = .ok (.getfield 85, 3) := by decide +kernel
theorem dX11_least_147 : decode cX11_least 147 = .ok (.iload 6, 2) := by decide +kernel
theorem dX11_least_149 : decode cX11_least 149 = .ok (.iaload, 1) := by decide +kernel
theorem dX11_least_150 : decode cX11_least 150 = .ok (.iload 6, 2) := by decide +kernel
theorem dX11_least_152 : decode cX11_least 152 = .ok (.invokevirtual 205, 3) := by decide +kernel
theorem dX11_least_155 : decode cX11_least 155 = .ok (.isub, 1) := by decide +kernel
theorem dX11_least_156 : decode cX11_least 156 = .ok (.iadd, 1) := by decide +kernel
theorem dX11_least_157 : decode cX11_least 157 = .ok (.istore 5, 2) := by decide +kernel
theorem dX11_least_159 : decode cX11_least 159 = .ok (.iinc 6 1, 3) := by decide +kernel
theorem dX11_least_162 : decode cX11_least 162 = .ok (.goto (-76), 3) := by decide +kernel
theorem dX11_least_165 : decode cX11_least 165 = .ok (.iload_n 3, 1) := by decide +kernel
theorem dX11_least_166 : decode cX11_least 166 = .ok (.iconst (-1), 1) := by decide +kernel
theorem dX11_least_167 : decode cX11_least 167 = .ok (.if_icmp .ne 10, 3) := by decide +kernel
theorem dX11_least_170 : decode cX11_least 170 = .ok (.aload_n 0, 1) := by decide +kernel
theorem dX11_least_171 : decode cX11_least 171 = .ok (.getfield 216, 3) := by decide +kernel
theorem dX11_least_174 : decode cX11_least 174 = .ok (.goto 16, 3) := by decide +kernel
theorem dX11_least_177 : decode cX11_least 177 = .ok (.iload_n 3, 1) := by decide +kernel
theorem dX11_least_178 : decode cX11_least 178 = .ok (.bipush (-2), 2) := by decide +kernel
theorem dX11_least_180 : decode cX11_least 180 = .ok (.if_icmp .ne 8, 3) := by decide +kernel
theorem dX11_least_183 : decode cX11_least 183 = .ok (.iload 4, 2) := by decide +kernel
theorem dX11_least_185 : decode cX11_least 185 = .ok (.goto 5, 3) := by decide +kernel
theorem dX11_least_188 : decode cX11_least 188 = .ok (.iload 5, 2) := by decide +kernel
theorem dX11_least_190 : decode cX11_least 190 = .ok (.ireturn, 1) := by decide +kernel
theorem dX11_linesIn_0 : decode cX11_linesIn 0 = .ok (.iconst 0, 1) := by decide +kernel
theorem dX11_linesIn_1 : decode cX11_linesIn 1 = .ok (.istore_n 2, 1) := by decide +kernel
theorem dX11_linesIn_2 : decode cX11_linesIn 2 = .ok (.iconst 0, 1) := by decide +kernel
theorem dX11_linesIn_3 : decode cX11_linesIn 3 = .ok (.istore_n 3, 1) := by decide +kernel
theorem dX11_linesIn_4 : decode cX11_linesIn 4 = .ok (.iload_n 3, 1) := by decide +kernel
theorem dX11_linesIn_5 : decode cX11_linesIn 5 = .ok (.aload_n 0, 1) := by decide +kernel
theorem dX11_linesIn_6 : decode cX11_linesIn 6 = .ok (.getfield 22, 3) := by decide +kernel
theorem dX11_linesIn_9 : decode cX11_linesIn 9 = .ok (.iconst 0, 1) := by decide +kernel
theorem dX11_linesIn_10 : decode cX11_linesIn 10 = .ok (.iaload, 1) := by decide +kernel
theorem dX11_linesIn_11 : decode cX11_linesIn 11 = .ok (.if_icmp .ge 30, 3) := by decide +kernel
theorem dX11_linesIn_14 : decode cX11_linesIn 14 = .ok (.iload_n 2, 1) := by decide +kernel
theorem dX11_linesIn_15 : decode cX11_linesIn 15 = .ok (.iload_n 1, 1) := by decide +kernel
theorem dX11_linesIn_16 : decode cX11_linesIn 16 = .ok (.iload_n 3, 1) := by decide +kernel
theorem dX11_linesIn_17 : decode cX11_linesIn 17 = .ok (.invokestatic 183, 3) := by decide +kernel
theorem dX11_linesIn_20 : decode cX11_linesIn 20 = .ok (.ifCond .eq 12, 3) := by decide +kernel
theorem dX11_linesIn_23 : decode cX11_linesIn 23 = .ok (.aload_n 0, 1) := by decide +kernel
theorem dX11_linesIn_24 : decode cX11_linesIn 24 = .ok (.getfield 31, 3) := by decide +kernel
theorem dX11_linesIn_27 : decode cX11_linesIn 27 = .ok (.iload_n 3, 1) := by decide +kernel
theorem dX11_linesIn_28 : decode cX11_linesIn 28 = .ok (.iaload, 1) := by decide +kernel
theorem dX11_linesIn_29 : decode cX11_linesIn 29 = .ok (.goto 4, 3) := by decide +kernel
theorem dX11_linesIn_32 : decode cX11_linesIn 32 = .ok (.iconst 0, 1) := by decide +kernel
theorem dX11_linesIn_33 : decode cX11_linesIn 33 = .ok (.iadd, 1) := by decide +kernel
theorem dX11_linesIn_34 : decode cX11_linesIn 34 = .ok (.istore_n 2, 1) := by decide +kernel
theorem dX11_linesIn_35 : decode cX11_linesIn 35 = .ok (.iinc 3 1, 3) := by decide +kernel
theorem dX11_linesIn_38 : decode cX11_linesIn 38 = .ok (.goto (-34), 3) := by decide +kernel
theorem dX11_linesIn_41 : decode cX11_linesIn 41 = .ok (.iload_n 2, 1) := by decide +kernel
theorem dX11_linesIn_42 : decode cX11_linesIn 42 = .ok (.ireturn, 1) := by decide +kernel
theorem dX11_cuts_0 : decode cX11_cuts 0 = .ok (.aload_n 0, 1) := by decide +kernel
theorem dX11_cuts_1 : decode cX11_cuts 1 = .ok (.iload_n 1, 1) := by decide +kernel
theorem dX11_cuts_2 : decode cX11_cuts 2 = .ok (.invokevirtual 229, 3) := by decide +kernel
theorem dX11_cuts_5 : decode cX11_cuts 5 = .ok (.ifCond .eq 13, 3) := by decide +kernel
theorem dX11_cuts_8 : decode cX11_cuts 8 = .ok (.iload_n 2, 1) := by decide +kernel
theorem dX11_cuts_9 : decode cX11_cuts 9 = .ok (.i2l, 1) := by decide +kernel
theorem dX11_cuts_10 : decode cX11_cuts 10 = .ok (.lconst 0, 1) := by decide +kernel
theorem dX11_cuts_11 : decode cX11_cuts 11 = .ok (.lconst 1, 1) := by decide +kernel
theorem dX11_cuts_12 : decode cX11_cuts 12 = .ok (.invokestatic 124, 3) := by decide +kernel
theorem dX11_cuts_15 : decode cX11_cuts 15 = .ok (.ifCond .ne 5, 3) := by decide +kernel
theorem dX11_cuts_18 : decode cX11_cuts 18 = .ok (.iconst (-1), 1) := by decide +kernel
theorem dX11_cuts_19 : decode cX11_cuts 19 = .ok (.ireturn, 1) := by decide +kernel
theorem dX11_cuts_20 : decode cX11_cuts 20 = .ok (.iconst 0, 1) := by decide +kernel
theorem dX11_cuts_21 : decode cX11_cuts 21 = .ok (.istore_n 3, 1) := by decide +kernel
theorem dX11_cuts_22 : decode cX11_cuts 22 = .ok (.iconst 0, 1) := by decide +kernel
theorem dX11_cuts_23 : decode cX11_cuts 23 = .ok (.istore 4, 2) := by decide +kernel
theorem dX11_cuts_25 : decode cX11_cuts 25 = .ok (.iload 4, 2) := by decide +kernel
theorem dX11_cuts_27 : decode cX11_cuts 27 = .ok (.aload_n 0, 1) := by decide +kernel
theorem dX11_cuts_28 : decode cX11_cuts 28 = .ok (.getfield 22, 3) := by decide +kernel
theorem dX11_cuts_31 : decode cX11_cuts 31 = .ok (.iconst 0, 1) := by decide +kernel
theorem dX11_cuts_32 : decode cX11_cuts 32 = .ok (.iaload, 1) := by decide +kernel
theorem dX11_cuts_33 : decode cX11_cuts 33 = .ok (.if_icmp .ge 31, 3) := by decide +kernel
theorem dX11_cuts_36 : decode cX11_cuts 36 = .ok (.iload_n 3, 1) := by decide +kernel
theorem dX11_cuts_37 : decode cX11_cuts 37 = .ok (.aload_n 0, 1) := by decide +kernel
theorem dX11_cuts_38 : decode cX11_cuts 38 = .ok (.getfield 34, 3) := by decide +kernel
theorem dX11_cuts_41 : decode cX11_cuts 41 = .ok (.iload 4, 2) := by decide +kernel
theorem dX11_cuts_43 : decode cX11_cuts 43 = .ok (.iaload, 1) := by decide +kernel
theorem dX11_cuts_44 : decode cX11_cuts 44 = .ok (.iconst 1, 1) := by decide +kernel
theorem dX11_cuts_45 : decode cX11_cuts 45 = .ok (.if_icmp .ne 10, 3) := by decide +kernel
theorem dX11_cuts_48 : decode cX11_cuts 48 = .ok (.iconst 1, 1) := by decide +kernel
theorem dX11_cuts_49 : decode cX11_cuts 49 = .ok (.iload 4, 2) := by decide +kernel
theorem dX11_cuts_51 : decode cX11_cuts 51 = .ok (.ishl, 1) := by decide +kernel
theorem dX11_cuts_52 : decode cX11_cuts 52 = .ok (.goto 4, 3) := by decide +kernel
theorem dX11_cuts_55 : decode cX11_cuts 55 = .ok (.iconst 0, 1) := by decide +kernel
theorem dX11_cuts_56 : decode cX11_cuts 56 = .ok (.ior, 1) := by decide +kernel
theorem dX11_cuts_57 : decode cX11_cuts 57 = .ok (.istore_n 3, 1) := by decide +kernel
theorem dX11_cuts_58 : decode cX11_cuts 58 = .ok (.iinc 4 1, 3) := by decide +kernel
theorem dX11_cuts_61 : decode cX11_cuts 61 = .ok (.goto (-36), 3) := by decide +kernel
theorem dX11_cuts_64 : decode cX11_cuts 64 = .ok (.bipush (-4), 2) := by decide +kernel
theorem dX11_cuts_66 : decode cX11_cuts 66 = .ok (.istore 4, 2) := by decide +kernel
theorem dX11_cuts_68 : decode cX11_cuts 68 = .ok (.iconst 0, 1) := by decide +kernel
theorem dX11_cuts_69 : decode cX11_cuts 69 = .ok (.istore 5, 2) := by decide +kernel
theorem dX11_cuts_71 : decode cX11_cuts 71 = .ok (.iload 5, 2) := by decide +kernel
theorem dX11_cuts_73 : decode cX11_cuts 73 = .ok (.iload_n 3, 1) := by decide +kernel
theorem dX11_cuts_74 : decode cX11_cuts 74 = .ok (.if_icmp .gt 53, 3) := by decide +kernel
theorem dX11_cuts_77 : decode cX11_cuts 77 = .ok (.iload 5, 2) := by decide +kernel
theorem dX11_cuts_79 : decode cX11_cuts 79 = .ok (.iload_n 3, 1) := by decide +kernel
theorem dX11_cuts_80 : decode cX11_cuts 80 = .ok (.iconst (-1), 1) := by decide +kernel
theorem dX11_cuts_81 : decode cX11_cuts 81 = .ok (.ixor, 1) := by decide +kernel
theorem dX11_cuts_82 : decode cX11_cuts 82 = .ok (.iand, 1) := by decide +kernel
theorem dX11_cuts_83 : decode cX11_cuts 83 = .ok (.ifCond .ne 38, 3) := by decide +kernel
theorem dX11_cuts_86 : decode cX11_cuts 86 = .ok (.iload 4, 2) := by decide +kernel
theorem dX11_cuts_88 : decode cX11_cuts 88 = .ok (.ifCond .lt 18, 3) := by decide +kernel
theorem dX11_cuts_91 : decode cX11_cuts 91 = .ok (.aload_n 0, 1) := by decide +kernel
theorem dX11_cuts_92 : decode cX11_cuts 92 = .ok (.iload 5, 2) := by decide +kernel
theorem dX11_cuts_94 : decode cX11_cuts 94 = .ok (.invokevirtual 241, 3) := by decide +kernel
theorem dX11_cuts_97 : decode cX11_cuts 97 = .ok (.aload_n 0, 1) := by decide +kernel
theorem dX11_cuts_98 : decode cX11_cuts 98 = .ok (.iload 4, 2) := by decide +kernel
theorem dX11_cuts_100 : decode cX11_cuts 100 = .ok (.invokevirtual 241, 3) := by decide +kernel
theorem dX11_cuts_103 : decode cX11_cuts 103 = .ok (.if_icmp .ge 18, 3) := by decide +kernel
theorem dX11_cuts_106 : decode cX11_cuts 106 = .ok (.aload_n 0, 1) := by decide +kernel
theorem dX11_cuts_107 : decode cX11_cuts 107 = .ok (.iload_n 1, 1) := by decide +kernel
theorem dX11_cuts_108 : decode cX11_cuts 108 = .ok (.iload 5, 2) := by decide +kernel
theorem dX11_cuts_110 : decode cX11_cuts 110 = .ok (.iconst 0, 1) := by decide +kernel
theorem dX11_cuts_111 : decode cX11_cuts 111 = .ok (.invokevirtual 235, 3) := by decide +kernel
theorem dX11_cuts_114 : decode cX11_cuts 114 = .ok (.ifCond .eq 7, 3) := by decide +kernel
theorem dX11_cuts_117 : decode cX11_cuts 117 = .ok (.iload 5, 2) := by decide +kernel
theorem dX11_cuts_119 : decode cX11_cuts 119 = .ok (.istore 4, 2) := by decide +kernel
theorem dX11_cuts_121 : decode cX11_cuts 121 = .ok (.iinc 5 1, 3) := by decide +kernel
theorem dX11_cuts_124 : decode cX11_cuts 124 = .ok (.goto (-53), 3) := by decide +kernel
theorem dX11_cuts_127 : decode cX11_cuts 127 = .ok (.iload 4, 2) := by decide +kernel
theorem dX11_cuts_129 : decode cX11_cuts 129 = .ok (.ifCond .ge 8, 3) := by decide +kernel
theorem dX11_cuts_132 : decode cX11_cuts 132 = .ok (.bipush (-4), 2) := by decide +kernel
theorem dX11_cuts_134 : decode cX11_cuts 134 = .ok (.goto 18, 3) := by decide +kernel
theorem dX11_cuts_137 : decode cX11_cuts 137 = .ok (.iload_n 2, 1) := by decide +kernel
theorem dX11_cuts_138 : decode cX11_cuts 138 = .ok (.ifCond .ne 8, 3) := by decide +kernel
theorem dX11_cuts_141 : decode cX11_cuts 141 = .ok (.iload 4, 2) := by decide +kernel
theorem dX11_cuts_143 : decode cX11_cuts 143 = .ok (.goto 9, 3) := by decide +kernel
theorem dX11_cuts_146 : decode cX11_cuts 146 = .ok (.aload_n 0, 1) := by decide +kernel
theorem dX11_cuts_147 : decode cX11_cuts 147 = .ok (.iload 4, 2) := by decide +kernel
theorem dX11_cuts_149 : decode cX11_cuts 149 = .ok (.invokevirtual 241, 3) := by decide +kernel
theorem dX11_cuts_152 : decode cX11_cuts 152 = .ok (.ireturn, 1) := by decide +kernel
theorem dX11_lines_0 : decode cX11_lines 0 = .ok (.aload_n 0, 1) := by decide +kernel
theorem dX11_lines_1 : decode cX11_lines 1 = .ok (.iload_n 1, 1) := by decide +kernel
theorem dX11_lines_2 : decode cX11_lines 2 = .ok (.invokevirtual 195, 3) := by decide +kernel
theorem dX11_lines_5 : decode cX11_lines 5 = .ok (.ifCond .eq 11, 3) := by decide +kernel
theorem dX11_lines_8 : decode cX11_lines 8 = .ok (.aload_n 0, 1) := by decide +kernel
theorem dX11_lines_9 : decode cX11_lines 9 = .ok (.iload_n 2, 1) := by decide +kernel
theorem dX11_lines_10 : decode cX11_lines 10 = .ok (.invokevirtual 200, 3) := by decide +kernel
theorem dX11_lines_13 : decode cX11_lines 13 = .ok (.ifCond .ne 5, 3) := by decide +kernel
theorem dX11_lines_16 : decode cX11_lines 16 = .ok (.iconst (-1), 1) := by decide +kernel
theorem dX11_lines_17 : decode cX11_lines 17 = .ok (.ireturn, 1) := by decide +kernel
theorem dX11_lines_18 : decode cX11_lines 18 = .ok (.aload_n 0, 1) := by decide +kernel
theorem dX11_lines_19 : decode cX11_lines 19 = .ok (.getfield 76, 3) := by decide +kernel
theorem dX11_lines_22 : decode cX11_lines 22 = .ok (.iload_n 1, 1) := by decide +kernel
theorem dX11_lines_23 : decode cX11_lines 23 = .ok (.iaload, 1) := by decide +kernel
theorem dX11_lines_24 : decode cX11_lines 24 = .ok (.iload_n 2, 1) := by decide +kernel
theorem dX11_lines_25 : decode cX11_lines 25 = .ok (.invokestatic 183, 3) := by decide +kernel
theorem dX11_lines_28 : decode cX11_lines 28 = .ok (.ifCond .eq 12, 3) := by decide +kernel
theorem dX11_lines_31 : decode cX11_lines 31 = .ok (.aload_n 0, 1) := by decide +kernel
theorem dX11_lines_32 : decode cX11_lines 32 = .ok (.iload_n 1, 1) := by decide +kernel
theorem dX11_lines_33 : decode cX11_lines 33 = .ok (.iload_n 2, 1) := by decide +kernel
theorem dX11_lines_34 : decode cX11_lines 34 = .ok (.invokevirtual 205, 3) := by decide +kernel
theorem dX11_lines_37 : decode cX11_lines 37 = .ok (.goto 5, 3) := by decide +kernel
theorem dX11_lines_40 : decode cX11_lines 40 = .ok (.bipush (-2), 2) := by decide +kernel
theorem dX11_lines_42 : decode cX11_lines 42 = .ok (.ireturn, 1) := by decide +kernel
theorem dX11_hoursOf_0 : decode cX11_hoursOf 0 = .ok (.aload_n 0, 1) := by decide +kernel
theorem dX11_hoursOf_1 : decode cX11_hoursOf 1 = .ok (.getfield 31, 3) := by decide +kernel
theorem dX11_hoursOf_4 : decode cX11_hoursOf 4 = .ok (.iload_n 1, 1) := by decide +kernel
theorem dX11_hoursOf_5 : decode cX11_hoursOf 5 = .ok (.iaload, 1) := by decide +kernel
theorem dX11_hoursOf_6 : decode cX11_hoursOf 6 = .ok (.bipush 99, 2) := by decide +kernel
theorem dX11_hoursOf_8 : decode cX11_hoursOf 8 = .ok (.iadd, 1) := by decide +kernel
theorem dX11_hoursOf_9 : decode cX11_hoursOf 9 = .ok (.bipush 100, 2) := by decide +kernel
theorem dX11_hoursOf_11 : decode cX11_hoursOf 11 = .ok (.idiv, 1) := by decide +kernel
theorem dX11_hoursOf_12 : decode cX11_hoursOf 12 = .ok (.ireturn, 1) := by decide +kernel
theorem dX11_rehearse_0 : decode cX11_rehearse 0 = .ok (.aload_n 0, 1) := by decide +kernel
theorem dX11_rehearse_1 : decode cX11_rehearse 1 = .ok (.iload_n 1, 1) := by decide +kernel
theorem dX11_rehearse_2 : decode cX11_rehearse 2 = .ok (.invokevirtual 195, 3) := by decide +kernel
theorem dX11_rehearse_5 : decode cX11_rehearse 5 = .ok (.ifCond .eq 11, 3) := by decide +kernel
theorem dX11_rehearse_8 : decode cX11_rehearse 8 = .ok (.aload_n 0, 1) := by decide +kernel
theorem dX11_rehearse_9 : decode cX11_rehearse 9 = .ok (.iload_n 2, 1) := by decide +kernel
theorem dX11_rehearse_10 : decode cX11_rehearse 10 = .ok (.invokevirtual 200, 3) := by decide +kernel
theorem dX11_rehearse_13 : decode cX11_rehearse 13 = .ok (.ifCond .ne 5, 3) := by decide +kernel
theorem dX11_rehearse_16 : decode cX11_rehearse 16 = .ok (.iconst (-1), 1) := by decide +kernel
theorem dX11_rehearse_17 : decode cX11_rehearse 17 = .ok (.ireturn, 1) := by decide +kernel
theorem dX11_rehearse_18 : decode cX11_rehearse 18 = .ok (.aload_n 0, 1) := by decide +kernel
theorem dX11_rehearse_19 : decode cX11_rehearse 19 = .ok (.getfield 76, 3) := by decide +kernel
theorem dX11_rehearse_22 : decode cX11_rehearse 22 = .ok (.iload_n 1, 1) := by decide +kernel
theorem dX11_rehearse_23 : decode cX11_rehearse 23 = .ok (.iaload, 1) := by decide +kernel
theorem dX11_rehearse_24 : decode cX11_rehearse 24 = .ok (.iload_n 2, 1) := by decide +kernel
theorem dX11_rehearse_25 : decode cX11_rehearse 25 = .ok (.invokestatic 183, 3) := by decide +kernel
theorem dX11_rehearse_28 : decode cX11_rehearse 28 = .ok (.ifCond .ne 6, 3) := by decide +kernel
theorem dX11_rehearse_31 : decode cX11_rehearse 31 = .ok (.bipush (-2), 2) := by decide +kernel
theorem dX11_rehearse_33 : decode cX11_rehearse 33 = .ok (.ireturn, 1) := by decide +kernel
theorem dX11_rehearse_34 : decode cX11_rehearse 34 = .ok (.aload_n 0, 1) := by decide +kernel
theorem dX11_rehearse_35 : decode cX11_rehearse 35 = .ok (.getfield 61, 3) := by decide +kernel
theorem dX11_rehearse_38 : decode cX11_rehearse 38 = .ok (.bipush 8, 2) := by decide +kernel
theorem dX11_rehearse_40 : decode cX11_rehearse 40 = .ok (.iload_n 1, 1) := by decide +kernel
theorem dX11_rehearse_41 : decode cX11_rehearse 41 = .ok (.imul, 1) := by decide +kernel
theorem dX11_rehearse_42 : decode cX11_rehearse 42 = .ok (.iload_n 2, 1) := by decide +kernel
theorem dX11_rehearse_43 : decode cX11_rehearse 43 = .ok (.iadd, 1) := by decide +kernel
theorem dX11_rehearse_44 : decode cX11_rehearse 44 = .ok (.aload_n 0, 1) := by decide +kernel
theorem dX11_rehearse_45 : decode cX11_rehearse 45 = .ok (.getfield 64, 3) := by decide +kernel
theorem dX11_rehearse_48 : decode cX11_rehearse 48 = .ok (.iconst 0, 1) := by decide +kernel
theorem dX11_rehearse_49 : decode cX11_rehearse 49 = .ok (.iaload, 1) := by decide +kernel
theorem dX11_rehearse_50 : decode cX11_rehearse 50 = .ok (.iastore, 1) := by decide +kernel
theorem dX11_rehearse_51 : decode cX11_rehearse 51 = .ok (.aload_n 0, 1) := by decide +kernel
theorem dX11_rehearse_52 : decode cX11_rehearse 52 = .ok (.iload_n 2, 1) := by decide +kernel
theorem dX11_rehearse_53 : decode cX11_rehearse 53 = .ok (.invokevirtual 244, 3) := by decide +kernel
theorem dX11_rehearse_56 : decode cX11_rehearse 56 = .ok (.ireturn, 1) := by decide +kernel
theorem dX11_layPairs_0 : decode cX11_layPairs 0 = .ok (.aload_n 0, 1) := by decide +kernel
theorem dX11_layPairs_1 : decode cX11_layPairs 1 = .ok (.iconst 0, 1) := by decide +kernel
theorem dX11_layPairs_2 : decode cX11_layPairs 2 = .ok (.putfield 247, 3) := by decide +kernel
theorem dX11_layPairs_5 : decode cX11_layPairs 5 = .ok (.iconst 0, 1) := by decide +kernel
theorem dX11_layPairs_6 : decode cX11_layPairs 6 = .ok (.istore_n 1, 1) := by decide +kernel
theorem dX11_layPairs_7 : decode cX11_layPairs 7 = .ok (.iload_n 1, 1) := by decide +kernel
theorem dX11_layPairs_8 : decode cX11_layPairs 8 = .ok (.aload_n 0, 1) := by decide +kernel
theorem dX11_layPairs_9 : decode cX11_layPairs 9 = .ok (.getfield 13, 3) := by decide +kernel
theorem dX11_layPairs_12 : decode cX11_layPairs 12 = .ok (.iconst 0, 1) := by decide +kernel
theorem dX11_layPairs_13 : decode cX11_layPairs 13 = .ok (.iaload, 1) := by decide +kernel
theorem dX11_layPairs_14 : decode cX11_layPairs 14 = .ok (.if_icmp .ge 65, 3) := by decide +kernel
theorem dX11_layPairs_17 : decode cX11_layPairs 17 = .ok (.iconst 0, 1) := by decide +kernel
theorem dX11_layPairs_18 : decode cX11_layPairs 18 = .ok (.istore_n 2, 1) := by decide +kernel
theorem dX11_layPairs_19 : decode cX11_layPairs 19 = .ok (.iload_n 2, 1) := by decide +kernel
theorem dX11_layPairs_20 : decode cX11_layPairs 20 = .ok (.aload_n 0, 1) := by decide +kernel
theorem dX11_layPairs_21 : decode cX11_layPairs 21 = .ok (.getfield 22, 3) := by decide +kernel
theorem dX11_layPairs_24 : decode cX11_layPairs 24 = .ok (.iconst 0, 1) := by decide +kernel
theorem dX11_layPairs_25 : decode cX11_layPairs 25 = .ok (.iaload, 1) := by decide +kernel
theorem dX11_layPairs_26 : decode cX11_layPairs 26 = .ok (.if_icmp .ge 47, 3) := by decide +kernel
theorem dX11_layPairs_29 : decode cX11_layPairs 29 = .ok (.aload_n 0, 1) := by decide +kernel
theorem dX11_layPairs_30 : decode cX11_layPairs 30 = .ok (.getfield 76, 3) := by decide +kernel
theorem dX11_layPairs_33 : decode cX11_layPairs 33 = .ok (.iload_n 1, 1) := by decide +kernel
theorem dX11_layPairs_34 : decode cX11_layPairs 34 = .ok (.iaload, 1) := by decide +kernel
theorem dX11_layPairs_35 : decode cX11_layPairs 35 = .ok (.iload_n 2, 1) := by decide +kernel
theorem dX11_layPairs_36 : decode cX11_layPairs 36 = .ok (.invokestatic 183, 3) := by decide +kernel
theorem dX11_layPairs_39 : decode cX11_layPairs 39 = .ok (.ifCond .eq 28, 3) := by decide +kernel
theorem dX11_layPairs_42 : decode cX11_layPairs 42 = .ok (.aload_n 0, 1) := by decide +kernel
theorem dX11_layPairs_43 : decode cX11_layPairs 43 = .ok (.getfield 91, 3) := by decide +kernel
theorem dX11_layPairs_46 : decode cX11_layPairs 46 = .ok (.aload_n 0, 1) := by decide +kernel
theorem dX11_layPairs_47 : decode cX11_layPairs 47 = .ok (.getfield 247, 3) := by decide +kernel
theorem dX11_layPairs_50 : decode cX11_layPairs 50 = .ok (.bipush 8, 2) := by decide +kernel
theorem dX11_layPairs_52 : decode cX11_layPairs 52 = .ok (.iload_n 1, 1) := by decide +kernel
theorem dX11_layPairs_53 : decode cX11_layPairs 53 = .ok (.imul, 1) := by decide +kernel
theorem dX11_layPairs_54 : decode cX11_layPairs 54 = .ok (.iload_n 2, 1) := by decide +kernel
theorem dX11_layPairs_55 : decode cX11_layPairs 55 = .ok (.iadd, 1) := by decide +kernel
theorem dX11_layPairs_56 : decode cX11_layPairs 56 = .ok (.iastore, 1) := by decide +kernel
theorem dX11_layPairs_57 : decode cX11_layPairs 57 = .ok (.aload_n 0, 1) := by decide +kernel
theorem dX11_layPairs_58 : decode cX11_layPairs 58 = .ok (.dup, 1) := by decide +kernel
theorem dX11_layPairs_59 : decode cX11_layPairs 59 = .ok (.getfield 247, 3) := by decide +kernel
theorem dX11_layPairs_62 : decode cX11_layPairs 62 = .ok (.iconst 1, 1) := by decide +kernel
theorem dX11_layPairs_63 : decode cX11_layPairs 63 = .ok (.iadd, 1) := by decide +kernel
theorem dX11_layPairs_64 : decode cX11_layPairs 64 = .ok (.putfield 247, 3) := by decide +kernel
theorem dX11_layPairs_67 : decode cX11_layPairs 67 = .ok (.iinc 2 1, 3) := by decide +kernel
theorem dX11_layPairs_70 : decode cX11_layPairs 70 = .ok (.goto (-51), 3) := by decide +kernel
theorem dX11_layPairs_73 : decode cX11_layPairs 73 = .ok (.iinc 1 1, 3) := by decide +kernel
theorem dX11_layPairs_76 : decode cX11_layPairs 76 = .ok (.goto (-69), 3) := by decide +kernel
theorem dX11_layPairs_79 : decode cX11_layPairs 79 = .ok (.return_, 1) := by decide +kernel
theorem dX11_gainOf_0 : decode cX11_gainOf 0 = .ok (.aload_n 0, 1) := by decide +kernel
theorem dX11_gainOf_1 : decode cX11_gainOf 1 = .ok (.getfield 91, 3) := by decide +kernel
theorem dX11_gainOf_4 : decode cX11_gainOf 4 = .ok (.iload_n 1, 1) := by decide +kernel
theorem dX11_gainOf_5 : decode cX11_gainOf 5 = .ok (.iaload, 1) := by decide +kernel
theorem dX11_gainOf_6 : decode cX11_gainOf 6 = .ok (.bipush 8, 2) := by decide +kernel
theorem dX11_gainOf_8 : decode cX11_gainOf 8 = .ok (.idiv, 1) := by decide +kernel
theorem dX11_gainOf_9 : decode cX11_gainOf 9 = .ok (.istore_n 2, 1) := by decide +kernel
theorem dX11_gainOf_10 : decode cX11_gainOf 10 = .ok (.aload_n 0, 1) := by decide +kernel
theorem dX11_gainOf_11 : decode cX11_gainOf 11 = .ok (.getfield 91, 3) := by decide +kernel
theorem dX11_gainOf_14 : decode cX11_gainOf 14 = .ok (.iload_n 1, 1) := by decide +kernel
theorem dX11_gainOf_15 : decode cX11_gainOf 15 = .ok (.iaload, 1) := by decide +kernel
theorem dX11_gainOf_16 : decode cX11_gainOf 16 = .ok (.bipush 8, 2) := by decide +kernel
theorem dX11_gainOf_18 : decode cX11_gainOf 18 = .ok (.irem, 1) := by decide +kernel
theorem dX11_gainOf_19 : decode cX11_gainOf 19 = .ok (.istore_n 3, 1) := by decide +kernel
theorem dX11_gainOf_20 : decode cX11_gainOf 20 = .ok (.aload_n 0, 1) := by decide +kernel
theorem dX11_gainOf_21 : decode cX11_gainOf 21 = .ok (.getfield 31, 3) := by decide +kernel
theorem dX11_gainOf_24 : decode cX11_gainOf 24 = .ok (.iload_n 3, 1) := by decide +kernel
theorem dX11_gainOf_25 : decode cX11_gainOf 25 = .ok (.iaload, 1) := by decide +kernel
theorem dX11_gainOf_26 : decode cX11_gainOf 26 = .ok (.aload_n 0, 1) := by decide +kernel
theorem dX11_gainOf_27 : decode cX11_gainOf 27 = .ok (.iload_n 2, 1) := by decide +kernel
theorem dX11_gainOf_28 : decode cX11_gainOf 28 = .ok (.iload_n 3, 1) := by decide +kernel
theorem dX11_gainOf_29 : decode cX11_gainOf 29 = .ok (.invokevirtual 205, 3) := by decide +kernel
theorem dX11_gainOf_32 : decode cX11_gainOf 32 = .ok (.isub, 1) := by decide +kernel
theorem dX11_gainOf_33 : decode cX11_gainOf 33 = .ok (.ireturn, 1) := by decide +kernel
theorem dX11_isTaken_0 : decode cX11_isTaken 0 = .ok (.aload_n 0, 1) := by decide +kernel
theorem dX11_isTaken_1 : decode cX11_isTaken 1 = .ok (.aload_n 0, 1) := by decide +kernel
theorem dX11_isTaken_2 : decode cX11_isTaken 2 = .ok (.getfield 91, 3) := by decide +kernel
theorem dX11_isTaken_5 : decode cX11_isTaken 5 = .ok (.iload_n 1, 1) := by decide +kernel
theorem dX11_isTaken_6 : decode cX11_isTaken 6 = .ok (.iaload, 1) := by decide +kernel
theorem dX11_isTaken_7 : decode cX11_isTaken 7 = .ok (.bipush 8, 2) := by decide +kernel
theorem dX11_isTaken_9 : decode cX11_isTaken 9 = .ok (.irem, 1) := by decide +kernel
theorem dX11_isTaken_10 : decode cX11_isTaken 10 = .ok (.invokevirtual 244, 3) := by decide +kernel
theorem dX11_isTaken_13 : decode cX11_isTaken 13 = .ok (.istore_n 3, 1) := by decide +kernel
theorem dX11_isTaken_14 : decode cX11_isTaken 14 = .ok (.iload_n 3, 1) := by decide +kernel
theorem dX11_isTaken_15 : decode cX11_isTaken 15 = .ok (.iload_n 2, 1) := by decide +kernel
theorem dX11_isTaken_16 : decode cX11_isTaken 16 = .ok (.if_icmp .le 5, 3) := by decide +kernel
theorem dX11_isTaken_19 : decode cX11_isTaken 19 = .ok (.iconst 0, 1) := by decide +kernel
theorem dX11_isTaken_20 : decode cX11_isTaken 20 = .ok (.ireturn, 1) := by decide +kernel
theorem dX11_isTaken_21 : decode cX11_isTaken 21 = .ok (.aload_n 0, 1) := by decide +kernel
theorem dX11_isTaken_22 : decode cX11_isTaken 22 = .ok (.iload_n 1, 1) := by decide +kernel
theorem dX11_isTaken_23 : decode cX11_isTaken 23 = .ok (.invokevirtual 250, 3) := by decide +kernel
theorem dX11_isTaken_26 : decode cX11_isTaken 26 = .ok (.aload_n 0, 1) := by decide +kernel
theorem dX11_isTaken_27 : decode cX11_isTaken 27 = .ok (.getfield 94, 3) := by decide +kernel
theorem dX11_isTaken_30 : decode cX11_isTaken 30 = .ok (.bipush 100, 2) := by decide +kernel
theorem dX11_isTaken_32 : decode cX11_isTaken 32 = .ok (.iload_n 1, 1) := by decide +kernel
