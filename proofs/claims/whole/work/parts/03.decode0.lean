theorem dX0_init_0 : decode cX0_init 0 = .ok (.aload_n 0, 1) := by decide +kernel
theorem dX0_init_1 : decode cX0_init 1 = .ok (.invokespecial 3, 3) := by decide +kernel
theorem dX0_init_4 : decode cX0_init 4 = .ok (.aload_n 0, 1) := by decide +kernel
theorem dX0_init_5 : decode cX0_init 5 = .ok (.sipush 1024, 3) := by decide +kernel
theorem dX0_init_8 : decode cX0_init 8 = .ok (.newarray .int, 2) := by decide +kernel
theorem dX0_init_10 : decode cX0_init 10 = .ok (.putfield 9, 3) := by decide +kernel
theorem dX0_init_13 : decode cX0_init 13 = .ok (.aload_n 0, 1) := by decide +kernel
theorem dX0_init_14 : decode cX0_init 14 = .ok (.new 15, 3) := by decide +kernel
theorem dX0_init_17 : decode cX0_init 17 = .ok (.dup, 1) := by decide +kernel
theorem dX0_init_18 : decode cX0_init 18 = .ok (.invokespecial 17, 3) := by decide +kernel
theorem dX0_init_21 : decode cX0_init 21 = .ok (.putfield 18, 3) := by decide +kernel
theorem dX0_init_24 : decode cX0_init 24 = .ok (.aload_n 0, 1) := by decide +kernel
theorem dX0_init_25 : decode cX0_init 25 = .ok (.bipush 45, 2) := by decide +kernel
theorem dX0_init_27 : decode cX0_init 27 = .ok (.newarray .int, 2) := by decide +kernel
theorem dX0_init_29 : decode cX0_init 29 = .ok (.putfield 22, 3) := by decide +kernel
theorem dX0_init_32 : decode cX0_init 32 = .ok (.return_, 1) := by decide +kernel
theorem dX0_forget_0 : decode cX0_forget 0 = .ok (.aload_n 0, 1) := by decide +kernel
theorem dX0_forget_1 : decode cX0_forget 1 = .ok (.getfield 9, 3) := by decide +kernel
theorem dX0_forget_4 : decode cX0_forget 4 = .ok (.iconst 0, 1) := by decide +kernel
theorem dX0_forget_5 : decode cX0_forget 5 = .ok (.invokestatic 25, 3) := by decide +kernel
theorem dX0_forget_8 : decode cX0_forget 8 = .ok (.return_, 1) := by decide +kernel
theorem dX0_isMet_0 : decode cX0_isMet 0 = .ok (.aload_n 0, 1) := by decide +kernel
theorem dX0_isMet_1 : decode cX0_isMet 1 = .ok (.getfield 9, 3) := by decide +kernel
theorem dX0_isMet_4 : decode cX0_isMet 4 = .ok (.iload_n 2, 1) := by decide +kernel
theorem dX0_isMet_5 : decode cX0_isMet 5 = .ok (.iaload, 1) := by decide +kernel
theorem dX0_isMet_6 : decode cX0_isMet 6 = .ok (.ifCond .ne 34, 3) := by decide +kernel
theorem dX0_isMet_9 : decode cX0_isMet 9 = .ok (.aload_n 0, 1) := by decide +kernel
theorem dX0_isMet_10 : decode cX0_isMet 10 = .ok (.getfield 18, 3) := by decide +kernel
theorem dX0_isMet_13 : decode cX0_isMet 13 = .ok (.aload_n 1, 1) := by decide +kernel
theorem dX0_isMet_14 : decode cX0_isMet 14 = .ok (.iload_n 2, 1) := by decide +kernel
theorem dX0_isMet_15 : decode cX0_isMet 15 = .ok (.iconst 0, 1) := by decide +kernel
theorem dX0_isMet_16 : decode cX0_isMet 16 = .ok (.invokevirtual 31, 3) := by decide +kernel
theorem dX0_isMet_19 : decode cX0_isMet 19 = .ok (.aload_n 0, 1) := by decide +kernel
theorem dX0_isMet_20 : decode cX0_isMet 20 = .ok (.getfield 9, 3) := by decide +kernel
theorem dX0_isMet_23 : decode cX0_isMet 23 = .ok (.iload_n 2, 1) := by decide +kernel
theorem dX0_isMet_24 : decode cX0_isMet 24 = .ok (.aload_n 0, 1) := by decide +kernel
theorem dX0_isMet_25 : decode cX0_isMet 25 = .ok (.getfield 18, 3) := by decide +kernel
theorem dX0_isMet_28 : decode cX0_isMet 28 = .ok (.invokevirtual 35, 3) := by decide +kernel
theorem dX0_isMet_31 : decode cX0_isMet 31 = .ok (.ifCond .eq 7, 3) := by decide +kernel
theorem dX0_isMet_34 : decode cX0_isMet 34 = .ok (.iconst 1, 1) := by decide +kernel
theorem dX0_isMet_35 : decode cX0_isMet 35 = .ok (.goto 4, 3) := by decide +kernel
theorem dX0_isMet_38 : decode cX0_isMet 38 = .ok (.iconst 2, 1) := by decide +kernel
theorem dX0_isMet_39 : decode cX0_isMet 39 = .ok (.iastore, 1) := by decide +kernel
theorem dX0_isMet_40 : decode cX0_isMet 40 = .ok (.aload_n 0, 1) := by decide +kernel
theorem dX0_isMet_41 : decode cX0_isMet 41 = .ok (.getfield 9, 3) := by decide +kernel
theorem dX0_isMet_44 : decode cX0_isMet 44 = .ok (.iload_n 2, 1) := by decide +kernel
theorem dX0_isMet_45 : decode cX0_isMet 45 = .ok (.iaload, 1) := by decide +kernel
theorem dX0_isMet_46 : decode cX0_isMet 46 = .ok (.iconst 1, 1) := by decide +kernel
theorem dX0_isMet_47 : decode cX0_isMet 47 = .ok (.if_icmp .ne 7, 3) := by decide +kernel
theorem dX0_isMet_50 : decode cX0_isMet 50 = .ok (.iconst 1, 1) := by decide +kernel
theorem dX0_isMet_51 : decode cX0_isMet 51 = .ok (.goto 4, 3) := by decide +kernel
theorem dX0_isMet_54 : decode cX0_isMet 54 = .ok (.iconst 0, 1) := by decide +kernel
theorem dX0_isMet_55 : decode cX0_isMet 55 = .ok (.ireturn, 1) := by decide +kernel
theorem dX0_cheapestCut_0 : decode cX0_cheapestCut 0 = .ok (.bipush (-4), 2) := by decide +kernel
theorem dX0_cheapestCut_2 : decode cX0_cheapestCut 2 = .ok (.istore_n 3, 1) := by decide +kernel
theorem dX0_cheapestCut_3 : decode cX0_cheapestCut 3 = .ok (.iconst 0, 1) := by decide +kernel
theorem dX0_cheapestCut_4 : decode cX0_cheapestCut 4 = .ok (.istore 4, 2) := by decide +kernel
theorem dX0_cheapestCut_6 : decode cX0_cheapestCut 6 = .ok (.iconst 0, 1) := by decide +kernel
theorem dX0_cheapestCut_7 : decode cX0_cheapestCut 7 = .ok (.istore 5, 2) := by decide +kernel
theorem dX0_cheapestCut_9 : decode cX0_cheapestCut 9 = .ok (.iload 5, 2) := by decide +kernel
theorem dX0_cheapestCut_11 : decode cX0_cheapestCut 11 = .ok (.iconst 1, 1) := by decide +kernel
theorem dX0_cheapestCut_12 : decode cX0_cheapestCut 12 = .ok (.aload_n 1, 1) := by decide +kernel
theorem dX0_cheapestCut_13 : decode cX0_cheapestCut 13 = .ok (.getfield 39, 3) := by decide +kernel
theorem dX0_cheapestCut_16 : decode cX0_cheapestCut 16 = .ok (.ishl, 1) := by decide +kernel
theorem dX0_cheapestCut_17 : decode cX0_cheapestCut 17 = .ok (.if_icmp .ge 73, 3) := by decide +kernel
theorem dX0_cheapestCut_20 : decode cX0_cheapestCut 20 = .ok (.iload 5, 2) := by decide +kernel
theorem dX0_cheapestCut_22 : decode cX0_cheapestCut 22 = .ok (.aload_n 1, 1) := by decide +kernel
theorem dX0_cheapestCut_23 : decode cX0_cheapestCut 23 = .ok (.getfield 45, 3) := by decide +kernel
theorem dX0_cheapestCut_26 : decode cX0_cheapestCut 26 = .ok (.iconst (-1), 1) := by decide +kernel
theorem dX0_cheapestCut_27 : decode cX0_cheapestCut 27 = .ok (.ixor, 1) := by decide +kernel
theorem dX0_cheapestCut_28 : decode cX0_cheapestCut 28 = .ok (.iand, 1) := by decide +kernel
theorem dX0_cheapestCut_29 : decode cX0_cheapestCut 29 = .ok (.ifCond .eq 6, 3) := by decide +kernel
theorem dX0_cheapestCut_32 : decode cX0_cheapestCut 32 = .ok (.goto 52, 3) := by decide +kernel
theorem dX0_cheapestCut_35 : decode cX0_cheapestCut 35 = .ok (.aload_n 1, 1) := by decide +kernel
theorem dX0_cheapestCut_36 : decode cX0_cheapestCut 36 = .ok (.iload 5, 2) := by decide +kernel
theorem dX0_cheapestCut_38 : decode cX0_cheapestCut 38 = .ok (.invokevirtual 48, 3) := by decide +kernel
theorem dX0_cheapestCut_41 : decode cX0_cheapestCut 41 = .ok (.istore 6, 2) := by decide +kernel
theorem dX0_cheapestCut_43 : decode cX0_cheapestCut 43 = .ok (.aload_n 0, 1) := by decide +kernel
theorem dX0_cheapestCut_44 : decode cX0_cheapestCut 44 = .ok (.getfield 18, 3) := by decide +kernel
theorem dX0_cheapestCut_47 : decode cX0_cheapestCut 47 = .ok (.aload_n 1, 1) := by decide +kernel
theorem dX0_cheapestCut_48 : decode cX0_cheapestCut 48 = .ok (.iload_n 2, 1) := by decide +kernel
theorem dX0_cheapestCut_49 : decode cX0_cheapestCut 49 = .ok (.iload 5, 2) := by decide +kernel
theorem dX0_cheapestCut_51 : decode cX0_cheapestCut 51 = .ok (.invokevirtual 31, 3) := by decide +kernel
theorem dX0_cheapestCut_54 : decode cX0_cheapestCut 54 = .ok (.iload_n 3, 1) := by decide +kernel
theorem dX0_cheapestCut_55 : decode cX0_cheapestCut 55 = .ok (.bipush (-4), 2) := by decide +kernel
theorem dX0_cheapestCut_57 : decode cX0_cheapestCut 57 = .ok (.if_icmp .eq 10, 3) := by decide +kernel
theorem dX0_cheapestCut_60 : decode cX0_cheapestCut 60 = .ok (.iload 6, 2) := by decide +kernel
theorem dX0_cheapestCut_62 : decode cX0_cheapestCut 62 = .ok (.iload 4, 2) := by decide +kernel
theorem dX0_cheapestCut_64 : decode cX0_cheapestCut 64 = .ok (.if_icmp .ge 20, 3) := by decide +kernel
theorem dX0_cheapestCut_67 : decode cX0_cheapestCut 67 = .ok (.aload_n 0, 1) := by decide +kernel
theorem dX0_cheapestCut_68 : decode cX0_cheapestCut 68 = .ok (.getfield 18, 3) := by decide +kernel
theorem dX0_cheapestCut_71 : decode cX0_cheapestCut 71 = .ok (.invokevirtual 35, 3) := by decide +kernel
theorem dX0_cheapestCut_74 : decode cX0_cheapestCut 74 = .ok (.ifCond .eq 10, 3) := by decide +kernel
theorem dX0_cheapestCut_77 : decode cX0_cheapestCut 77 = .ok (.iload 5, 2) := by decide +kernel
theorem dX0_cheapestCut_79 : decode cX0_cheapestCut 79 = .ok (.istore_n 3, 1) := by decide +kernel
theorem dX0_cheapestCut_80 : decode cX0_cheapestCut 80 = .ok (.iload 6, 2) := by decide +kernel
theorem dX0_cheapestCut_82 : decode cX0_cheapestCut 82 = .ok (.istore 4, 2) := by decide +kernel
theorem dX0_cheapestCut_84 : decode cX0_cheapestCut 84 = .ok (.iinc 5 1, 3) := by decide +kernel
theorem dX0_cheapestCut_87 : decode cX0_cheapestCut 87 = .ok (.goto (-78), 3) := by decide +kernel
theorem dX0_cheapestCut_90 : decode cX0_cheapestCut 90 = .ok (.iload_n 3, 1) := by decide +kernel
theorem dX0_cheapestCut_91 : decode cX0_cheapestCut 91 = .ok (.ireturn, 1) := by decide +kernel
theorem dX0_findWeak_0 : decode cX0_findWeak 0 = .ok (.aload_n 0, 1) := by decide +kernel
theorem dX0_findWeak_1 : decode cX0_findWeak 1 = .ok (.iconst 0, 1) := by decide +kernel
theorem dX0_findWeak_2 : decode cX0_findWeak 2 = .ok (.putfield 52, 3) := by decide +kernel
theorem dX0_findWeak_5 : decode cX0_findWeak 5 = .ok (.iconst 1, 1) := by decide +kernel
theorem dX0_findWeak_6 : decode cX0_findWeak 6 = .ok (.istore_n 3, 1) := by decide +kernel
theorem dX0_findWeak_7 : decode cX0_findWeak 7 = .ok (.iload_n 3, 1) := by decide +kernel
theorem dX0_findWeak_8 : decode cX0_findWeak 8 = .ok (.iconst 1, 1) := by decide +kernel
theorem dX0_findWeak_9 : decode cX0_findWeak 9 = .ok (.aload_n 1, 1) := by decide +kernel
theorem dX0_findWeak_10 : decode cX0_findWeak 10 = .ok (.getfield 55, 3) := by decide +kernel
theorem dX0_findWeak_13 : decode cX0_findWeak 13 = .ok (.ishl, 1) := by decide +kernel
theorem dX0_findWeak_14 : decode cX0_findWeak 14 = .ok (.if_icmp .ge 46, 3) := by decide +kernel
theorem dX0_findWeak_17 : decode cX0_findWeak 17 = .ok (.iload_n 3, 1) := by decide +kernel
theorem dX0_findWeak_18 : decode cX0_findWeak 18 = .ok (.invokestatic 58, 3) := by decide +kernel
theorem dX0_findWeak_21 : decode cX0_findWeak 21 = .ok (.iload_n 2, 1) := by decide +kernel
theorem dX0_findWeak_22 : decode cX0_findWeak 22 = .ok (.if_icmp .ne 32, 3) := by decide +kernel
theorem dX0_findWeak_25 : decode cX0_findWeak 25 = .ok (.aload_n 0, 1) := by decide +kernel
theorem dX0_findWeak_26 : decode cX0_findWeak 26 = .ok (.aload_n 1, 1) := by decide +kernel
theorem dX0_findWeak_27 : decode cX0_findWeak 27 = .ok (.iload_n 3, 1) := by decide +kernel
theorem dX0_findWeak_28 : decode cX0_findWeak 28 = .ok (.invokevirtual 63, 3) := by decide +kernel
theorem dX0_findWeak_31 : decode cX0_findWeak 31 = .ok (.ifCond .ne 23, 3) := by decide +kernel
theorem dX0_findWeak_34 : decode cX0_findWeak 34 = .ok (.aload_n 0, 1) := by decide +kernel
theorem dX0_findWeak_35 : decode cX0_findWeak 35 = .ok (.getfield 22, 3) := by decide +kernel
theorem dX0_findWeak_38 : decode cX0_findWeak 38 = .ok (.aload_n 0, 1) := by decide +kernel
theorem dX0_findWeak_39 : decode cX0_findWeak 39 = .ok (.getfield 52, 3) := by decide +kernel
theorem dX0_findWeak_42 : decode cX0_findWeak 42 = .ok (.iload_n 3, 1) := by decide +kernel
theorem dX0_findWeak_43 : decode cX0_findWeak 43 = .ok (.iastore, 1) := by decide +kernel
theorem dX0_findWeak_44 : decode cX0_findWeak 44 = .ok (.aload_n 0, 1) := by decide +kernel
theorem dX0_findWeak_45 : decode cX0_findWeak 45 = .ok (.dup, 1) := by decide +kernel
theorem dX0_findWeak_46 : decode cX0_findWeak 46 = .ok (.getfield 52, 3) := by decide +kernel
theorem dX0_findWeak_49 : decode cX0_findWeak 49 = .ok (.iconst 1, 1) := by decide +kernel
theorem dX0_findWeak_50 : decode cX0_findWeak 50 = .ok (.iadd, 1) := by decide +kernel
theorem dX0_findWeak_51 : decode cX0_findWeak 51 = .ok (.putfield 52, 3) := by decide +kernel
theorem dX0_findWeak_54 : decode cX0_findWeak 54 = .ok (.iinc 3 1, 3) := by decide +kernel
theorem dX0_findWeak_57 : decode cX0_findWeak 57 = .ok (.goto (-50), 3) := by decide +kernel
theorem dX0_findWeak_60 : decode cX0_findWeak 60 = .ok (.return_, 1) := by decide +kernel
theorem dX1_init_0 : decode cX1_init 0 = .ok (.aload_n 0, 1) := by decide +kernel
theorem dX1_init_1 : decode cX1_init 1 = .ok (.invokespecial 3, 3) := by decide +kernel
theorem dX1_init_4 : decode cX1_init 4 = .ok (.aload_n 0, 1) := by decide +kernel
theorem dX1_init_5 : decode cX1_init 5 = .ok (.bipush 72, 2) := by decide +kernel
theorem dX1_init_7 : decode cX1_init 7 = .ok (.newarray .int, 2) := by decide +kernel
theorem dX1_init_9 : decode cX1_init 9 = .ok (.putfield 9, 3) := by decide +kernel
theorem dX1_init_12 : decode cX1_init 12 = .ok (.return_, 1) := by decide +kernel
theorem dX1_begin_0 : decode cX1_begin 0 = .ok (.aload_n 0, 1) := by decide +kernel
theorem dX1_begin_1 : decode cX1_begin 1 = .ok (.aload_n 1, 1) := by decide +kernel
theorem dX1_begin_2 : decode cX1_begin 2 = .ok (.putfield 15, 3) := by decide +kernel
theorem dX1_begin_5 : decode cX1_begin 5 = .ok (.aload_n 0, 1) := by decide +kernel
theorem dX1_begin_6 : decode cX1_begin 6 = .ok (.iconst 1, 1) := by decide +kernel
theorem dX1_begin_7 : decode cX1_begin 7 = .ok (.aload_n 0, 1) := by decide +kernel
theorem dX1_begin_8 : decode cX1_begin 8 = .ok (.getfield 15, 3) := by decide +kernel
theorem dX1_begin_11 : decode cX1_begin 11 = .ok (.getfield 19, 3) := by decide +kernel
theorem dX1_begin_14 : decode cX1_begin 14 = .ok (.ishl, 1) := by decide +kernel
theorem dX1_begin_15 : decode cX1_begin 15 = .ok (.iconst 1, 1) := by decide +kernel
theorem dX1_begin_16 : decode cX1_begin 16 = .ok (.isub, 1) := by decide +kernel
theorem dX1_begin_17 : decode cX1_begin 17 = .ok (.iload_n 3, 1) := by decide +kernel
theorem dX1_begin_18 : decode cX1_begin 18 = .ok (.iconst (-1), 1) := by decide +kernel
theorem dX1_begin_19 : decode cX1_begin 19 = .ok (.ixor, 1) := by decide +kernel
theorem dX1_begin_20 : decode cX1_begin 20 = .ok (.iand, 1) := by decide +kernel
theorem dX1_begin_21 : decode cX1_begin 21 = .ok (.putfield 25, 3) := by decide +kernel
theorem dX1_begin_24 : decode cX1_begin 24 = .ok (.iconst 0, 1) := by decide +kernel
theorem dX1_begin_25 : decode cX1_begin 25 = .ok (.istore 4, 2) := by decide +kernel
theorem dX1_begin_27 : decode cX1_begin 27 = .ok (.iload 4, 2) := by decide +kernel
theorem dX1_begin_29 : decode cX1_begin 29 = .ok (.aload_n 0, 1) := by decide +kernel
theorem dX1_begin_30 : decode cX1_begin 30 = .ok (.getfield 15, 3) := by decide +kernel
theorem dX1_begin_33 : decode cX1_begin 33 = .ok (.getfield 19, 3) := by decide +kernel
theorem dX1_begin_36 : decode cX1_begin 36 = .ok (.if_icmp .ge 30, 3) := by decide +kernel
theorem dX1_begin_39 : decode cX1_begin 39 = .ok (.aload_n 0, 1) := by decide +kernel
theorem dX1_begin_40 : decode cX1_begin 40 = .ok (.getfield 9, 3) := by decide +kernel
theorem dX1_begin_43 : decode cX1_begin 43 = .ok (.iload 4, 2) := by decide +kernel
theorem dX1_begin_45 : decode cX1_begin 45 = .ok (.aload_n 0, 1) := by decide +kernel
theorem dX1_begin_46 : decode cX1_begin 46 = .ok (.getfield 15, 3) := by decide +kernel
theorem dX1_begin_49 : decode cX1_begin 49 = .ok (.getfield 28, 3) := by decide +kernel
theorem dX1_begin_52 : decode cX1_begin 52 = .ok (.iload 4, 2) := by decide +kernel
theorem dX1_begin_54 : decode cX1_begin 54 = .ok (.iaload, 1) := by decide +kernel
theorem dX1_begin_55 : decode cX1_begin 55 = .ok (.iload_n 2, 1) := by decide +kernel
theorem dX1_begin_56 : decode cX1_begin 56 = .ok (.iconst (-1), 1) := by decide +kernel
theorem dX1_begin_57 : decode cX1_begin 57 = .ok (.ixor, 1) := by decide +kernel
theorem dX1_begin_58 : decode cX1_begin 58 = .ok (.iand, 1) := by decide +kernel
theorem dX1_begin_59 : decode cX1_begin 59 = .ok (.iastore, 1) := by decide +kernel
theorem dX1_begin_60 : decode cX1_begin 60 = .ok (.iinc 4 1, 3) := by decide +kernel
theorem dX1_begin_63 : decode cX1_begin 63 = .ok (.goto (-36), 3) := by decide +kernel
theorem dX1_begin_66 : decode cX1_begin 66 = .ok (.return_, 1) := by decide +kernel
theorem dX1_give_0 : decode cX1_give 0 = .ok (.aload_n 0, 1) := by decide +kernel
theorem dX1_give_1 : decode cX1_give 1 = .ok (.dup, 1) := by decide +kernel
theorem dX1_give_2 : decode cX1_give 2 = .ok (.getfield 25, 3) := by decide +kernel
theorem dX1_give_5 : decode cX1_give 5 = .ok (.iconst 1, 1) := by decide +kernel
theorem dX1_give_6 : decode cX1_give 6 = .ok (.iload_n 2, 1) := by decide +kernel
theorem dX1_give_7 : decode cX1_give 7 = .ok (.ishl, 1) := by decide +kernel
theorem dX1_give_8 : decode cX1_give 8 = .ok (.iconst (-1), 1) := by decide +kernel
theorem dX1_give_9 : decode cX1_give 9 = .ok (.ixor, 1) := by decide +kernel
theorem dX1_give_10 : decode cX1_give 10 = .ok (.iand, 1) := by decide +kernel
theorem dX1_give_11 : decode cX1_give 11 = .ok (.putfield 25, 3) := by decide +kernel
theorem dX1_give_14 : decode cX1_give 14 = .ok (.iconst 0, 1) := by decide +kernel
theorem dX1_give_15 : decode cX1_give 15 = .ok (.istore_n 3, 1) := by decide +kernel
theorem dX1_give_16 : decode cX1_give 16 = .ok (.iload_n 3, 1) := by decide +kernel
theorem dX1_give_17 : decode cX1_give 17 = .ok (.aload_n 0, 1) := by decide +kernel
theorem dX1_give_18 : decode cX1_give 18 = .ok (.getfield 15, 3) := by decide +kernel
theorem dX1_give_21 : decode cX1_give 21 = .ok (.getfield 19, 3) := by decide +kernel
theorem dX1_give_24 : decode cX1_give 24 = .ok (.if_icmp .ge 39, 3) := by decide +kernel
theorem dX1_give_27 : decode cX1_give 27 = .ok (.aload_n 0, 1) := by decide +kernel
theorem dX1_give_28 : decode cX1_give 28 = .ok (.getfield 15, 3) := by decide +kernel
theorem dX1_give_31 : decode cX1_give 31 = .ok (.getfield 31, 3) := by decide +kernel
theorem dX1_give_34 : decode cX1_give 34 = .ok (.iload_n 2, 1) := by decide +kernel
theorem dX1_give_35 : decode cX1_give 35 = .ok (.iaload, 1) := by decide +kernel
theorem dX1_give_36 : decode cX1_give 36 = .ok (.iload_n 3, 1) := by decide +kernel
theorem dX1_give_37 : decode cX1_give 37 = .ok (.invokestatic 34, 3) := by decide +kernel
theorem dX1_give_40 : decode cX1_give 40 = .ok (.ifCond .eq 17, 3) := by decide +kernel
theorem dX1_give_43 : decode cX1_give 43 = .ok (.aload_n 0, 1) := by decide +kernel
theorem dX1_give_44 : decode cX1_give 44 = .ok (.getfield 9, 3) := by decide +kernel
theorem dX1_give_47 : decode cX1_give 47 = .ok (.iload_n 3, 1) := by decide +kernel
theorem dX1_give_48 : decode cX1_give 48 = .ok (.dup2, 1) := by decide +kernel
theorem dX1_give_49 : decode cX1_give 49 = .ok (.iaload, 1) := by decide +kernel
theorem dX1_give_50 : decode cX1_give 50 = .ok (.iconst 1, 1) := by decide +kernel
theorem dX1_give_51 : decode cX1_give 51 = .ok (.iload_n 1, 1) := by decide +kernel
theorem dX1_give_52 : decode cX1_give 52 = .ok (.ishl, 1) := by decide +kernel
theorem dX1_give_53 : decode cX1_give 53 = .ok (.iconst (-1), 1) := by decide +kernel
theorem dX1_give_54 : decode cX1_give 54 = .ok (.ixor, 1) := by decide +kernel
theorem dX1_give_55 : decode cX1_give 55 = .ok (.iand, 1) := by decide +kernel
theorem dX1_give_56 : decode cX1_give 56 = .ok (.iastore, 1) := by decide +kernel
theorem dX1_give_57 : decode cX1_give 57 = .ok (.iinc 3 1, 3) := by decide +kernel
theorem dX1_give_60 : decode cX1_give 60 = .ok (.goto (-44), 3) := by decide +kernel
theorem dX1_give_63 : decode cX1_give 63 = .ok (.return_, 1) := by decide +kernel
theorem dX1_succeeds_0 : decode cX1_succeeds 0 = .ok (.aload_n 0, 1) := by decide +kernel
theorem dX1_succeeds_1 : decode cX1_succeeds 1 = .ok (.aload_n 0, 1) := by decide +kernel
theorem dX1_succeeds_2 : decode cX1_succeeds 2 = .ok (.getfield 25, 3) := by decide +kernel
theorem dX1_succeeds_5 : decode cX1_succeeds 5 = .ok (.iconst 0, 1) := by decide +kernel
theorem dX1_succeeds_6 : decode cX1_succeeds 6 = .ok (.invokestatic 38, 3) := by decide +kernel
theorem dX1_succeeds_9 : decode cX1_succeeds 9 = .ok (.ireturn, 1) := by decide +kernel
theorem dX1_canFill_0 : decode cX1_canFill 0 = .ok (.iload_n 1, 1) := by decide +kernel
theorem dX1_canFill_1 : decode cX1_canFill 1 = .ok (.ifCond .ne 5, 3) := by decide +kernel
theorem dX1_canFill_4 : decode cX1_canFill 4 = .ok (.iconst 1, 1) := by decide +kernel
theorem dX1_canFill_5 : decode cX1_canFill 5 = .ok (.ireturn, 1) := by decide +kernel
theorem dX1_canFill_6 : decode cX1_canFill 6 = .ok (.iload_n 2, 1) := by decide +kernel
theorem dX1_canFill_7 : decode cX1_canFill 7 = .ok (.bipush 8, 2) := by decide +kernel
theorem dX1_canFill_9 : decode cX1_canFill 9 = .ok (.if_icmp .lt 5, 3) := by decide +kernel
theorem dX1_canFill_12 : decode cX1_canFill 12 = .ok (.iconst 0, 1) := by decide +kernel
theorem dX1_canFill_13 : decode cX1_canFill 13 = .ok (.ireturn, 1) := by decide +kernel
theorem dX1_canFill_14 : decode cX1_canFill 14 = .ok (.iload_n 2, 1) := by decide +kernel
theorem dX1_canFill_15 : decode cX1_canFill 15 = .ok (.bipush 8, 2) := by decide +kernel
theorem dX1_canFill_17 : decode cX1_canFill 17 = .ok (.imul, 1) := by decide +kernel
theorem dX1_canFill_18 : decode cX1_canFill 18 = .ok (.istore_n 3, 1) := by decide +kernel
theorem dX1_canFill_19 : decode cX1_canFill 19 = .ok (.aload_n 0, 1) := by decide +kernel
theorem dX1_canFill_20 : decode cX1_canFill 20 = .ok (.iload_n 1, 1) := by decide +kernel
theorem dX1_canFill_21 : decode cX1_canFill 21 = .ok (.iload_n 3, 1) := by decide +kernel
theorem dX1_canFill_22 : decode cX1_canFill 22 = .ok (.invokevirtual 42, 3) := by decide +kernel
theorem dX1_canFill_25 : decode cX1_canFill 25 = .ok (.istore 4, 2) := by decide +kernel
theorem dX1_canFill_27 : decode cX1_canFill 27 = .ok (.iload_n 1, 1) := by decide +kernel
theorem dX1_canFill_28 : decode cX1_canFill 28 = .ok (.iconst 1, 1) := by decide +kernel
theorem dX1_canFill_29 : decode cX1_canFill 29 = .ok (.iload 4, 2) := by decide +kernel
theorem dX1_canFill_31 : decode cX1_canFill 31 = .ok (.ishl, 1) := by decide +kernel
theorem dX1_canFill_32 : decode cX1_canFill 32 = .ok (.iconst (-1), 1) := by decide +kernel
theorem dX1_canFill_33 : decode cX1_canFill 33 = .ok (.ixor, 1) := by decide +kernel
theorem dX1_canFill_34 : decode cX1_canFill 34 = .ok (.iand, 1) := by decide +kernel
theorem dX1_canFill_35 : decode cX1_canFill 35 = .ok (.istore 5, 2) := by decide +kernel
theorem dX1_canFill_37 : decode cX1_canFill 37 = .ok (.iconst 0, 1) := by decide +kernel
theorem dX1_canFill_38 : decode cX1_canFill 38 = .ok (.istore 6, 2) := by decide +kernel
theorem dX1_canFill_40 : decode cX1_canFill 40 = .ok (.iload 6, 2) := by decide +kernel
theorem dX1_canFill_42 : decode cX1_canFill 42 = .ok (.aload_n 0, 1) := by decide +kernel
theorem dX1_canFill_43 : decode cX1_canFill 43 = .ok (.getfield 15, 3) := by decide +kernel
theorem dX1_canFill_46 : decode cX1_canFill 46 = .ok (.getfield 46, 3) := by decide +kernel
theorem dX1_canFill_49 : decode cX1_canFill 49 = .ok (.if_icmp .ge 54, 3) := by decide +kernel
theorem dX1_canFill_52 : decode cX1_canFill 52 = .ok (.aload_n 0, 1) := by decide +kernel
theorem dX1_canFill_53 : decode cX1_canFill 53 = .ok (.getfield 9, 3) := by decide +kernel
theorem dX1_canFill_56 : decode cX1_canFill 56 = .ok (.iload_n 3, 1) := by decide +kernel
theorem dX1_canFill_57 : decode cX1_canFill 57 = .ok (.iload 4, 2) := by decide +kernel
theorem dX1_canFill_59 : decode cX1_canFill 59 = .ok (.iadd, 1) := by decide +kernel
theorem dX1_canFill_60 : decode cX1_canFill 60 = .ok (.iaload, 1) := by decide +kernel
theorem dX1_canFill_61 : decode cX1_canFill 61 = .ok (.iload 6, 2) := by decide +kernel
theorem dX1_canFill_63 : decode cX1_canFill 63 = .ok (.invokestatic 34, 3) := by decide +kernel
theorem dX1_canFill_66 : decode cX1_canFill 66 = .ok (.ifCond .eq 31, 3) := by decide +kernel
theorem dX1_canFill_69 : decode cX1_canFill 69 = .ok (.aload_n 0, 1) := by decide +kernel
theorem dX1_canFill_70 : decode cX1_canFill 70 = .ok (.iload 5, 2) := by decide +kernel
theorem dX1_canFill_72 : decode cX1_canFill 72 = .ok (.iload_n 3, 1) := by decide +kernel
theorem dX1_canFill_73 : decode cX1_canFill 73 = .ok (.iload 6, 2) := by decide +kernel
theorem dX1_canFill_75 : decode cX1_canFill 75 = .ok (.iload 4, 2) := by decide +kernel
theorem dX1_canFill_77 : decode cX1_canFill 77 = .ok (.invokevirtual 49, 3) := by decide +kernel
theorem dX1_canFill_80 : decode cX1_canFill 80 = .ok (.ifCond .eq 17, 3) := by decide +kernel
theorem dX1_canFill_83 : decode cX1_canFill 83 = .ok (.aload_n 0, 1) := by decide +kernel
theorem dX1_canFill_84 : decode cX1_canFill 84 = .ok (.iload 5, 2) := by decide +kernel
theorem dX1_canFill_86 : decode cX1_canFill 86 = .ok (.iload_n 2, 1) := by decide +kernel
theorem dX1_canFill_87 : decode cX1_canFill 87 = .ok (.iconst 1, 1) := by decide +kernel
theorem dX1_canFill_88 : decode cX1_canFill 88 = .ok (.iadd, 1) := by decide +kernel
theorem dX1_canFill_89 : decode cX1_canFill 89 = .ok (.invokestatic 38, 3) := by decide +kernel
theorem dX1_canFill_92 : decode cX1_canFill 92 = .ok (.ifCond .eq 5, 3) := by decide +kernel
theorem dX1_canFill_95 : decode cX1_canFill 95 = .ok (.iconst 1, 1) := by decide +kernel
theorem dX1_canFill_96 : decode cX1_canFill 96 = .ok (.ireturn, 1) := by decide +kernel
theorem dX1_canFill_97 : decode cX1_canFill 97 = .ok (.iinc 6 1, 3) := by decide +kernel
theorem dX1_canFill_100 : decode cX1_canFill 100 = .ok (.goto (-60), 3) := by decide +kernel
theorem dX1_canFill_103 : decode cX1_canFill 103 = .ok (.iconst 0, 1) := by decide +kernel
theorem dX1_canFill_104 : decode cX1_canFill 104 = .ok (.ireturn, 1) := by decide +kernel
theorem dX1_scarcest_0 : decode cX1_scarcest 0 = .ok (.iconst 0, 1) := by decide +kernel
theorem dX1_scarcest_1 : decode cX1_scarcest 1 = .ok (.istore_n 3, 1) := by decide +kernel
theorem dX1_scarcest_2 : decode cX1_scarcest 2 = .ok (.bipush 11, 2) := by decide +kernel
theorem dX1_scarcest_4 : decode cX1_scarcest 4 = .ok (.istore 4, 2) := by decide +kernel
theorem dX1_scarcest_6 : decode cX1_scarcest 6 = .ok (.iconst 0, 1) := by decide +kernel
theorem dX1_scarcest_7 : decode cX1_scarcest 7 = .ok (.istore 5, 2) := by decide +kernel
theorem dX1_scarcest_9 : decode cX1_scarcest 9 = .ok (.iload 5, 2) := by decide +kernel
theorem dX1_scarcest_11 : decode cX1_scarcest 11 = .ok (.aload_n 0, 1) := by decide +kernel
theorem dX1_scarcest_12 : decode cX1_scarcest 12 = .ok (.getfield 15, 3) := by decide +kernel
theorem dX1_scarcest_15 : decode cX1_scarcest 15 = .ok (.getfield 19, 3) := by decide +kernel
theorem dX1_scarcest_18 : decode cX1_scarcest 18 = .ok (.if_icmp .ge 52, 3) := by decide +kernel
theorem dX1_scarcest_21 : decode cX1_scarcest 21 = .ok (.iload 4, 2) := by decide +kernel
theorem dX1_scarcest_23 : decode cX1_scarcest 23 = .ok (.iconst 1, 1) := by decide +kernel
theorem dX1_scarcest_24 : decode cX1_scarcest 24 = .ok (.if_icmp .le 46, 3) := by decide +kernel
theorem dX1_scarcest_27 : decode cX1_scarcest 27 = .ok (.aload_n 0, 1) := by decide +kernel
theorem dX1_scarcest_28 : decode cX1_scarcest 28 = .ok (.getfield 9, 3) := by decide +kernel
theorem dX1_scarcest_31 : decode cX1_scarcest 31 = .ok (.iload_n 2, 1) := by decide +kernel
theorem dX1_scarcest_32 : decode cX1_scarcest 32 = .ok (.iload 5, 2) := by decide +kernel
theorem dX1_scarcest_34 : decode cX1_scarcest 34 = .ok (.iadd, 1) := by decide +kernel
theorem dX1_scarcest_35 : decode cX1_scarcest 35 = .ok (.iaload, 1) := by decide +kernel
theorem dX1_scarcest_36 : decode cX1_scarcest 36 = .ok (.invokestatic 53, 3) := by decide +kernel
theorem dX1_scarcest_39 : decode cX1_scarcest 39 = .ok (.istore 6, 2) := by decide +kernel
theorem dX1_scarcest_41 : decode cX1_scarcest 41 = .ok (.iload_n 1, 1) := by decide +kernel
theorem dX1_scarcest_42 : decode cX1_scarcest 42 = .ok (.iload 5, 2) := by decide +kernel
theorem dX1_scarcest_44 : decode cX1_scarcest 44 = .ok (.invokestatic 34, 3) := by decide +kernel
theorem dX1_scarcest_47 : decode cX1_scarcest 47 = .ok (.ifCond .eq 17, 3) := by decide +kernel
theorem dX1_scarcest_50 : decode cX1_scarcest 50 = .ok (.iload 6, 2) := by decide +kernel
theorem dX1_scarcest_52 : decode cX1_scarcest 52 = .ok (.iload 4, 2) := by decide +kernel
theorem dX1_scarcest_54 : decode cX1_scarcest 54 = .ok (.if_icmp .ge 10, 3) := by decide +kernel
theorem dX1_scarcest_57 : decode cX1_scarcest 57 = .ok (.iload 6, 2) := by decide +kernel
theorem dX1_scarcest_59 : decode cX1_scarcest 59 = .ok (.istore 4, 2) := by decide +kernel
theorem dX1_scarcest_61 : decode cX1_scarcest 61 = .ok (.iload 5, 2) := by decide +kernel
theorem dX1_scarcest_63 : decode cX1_scarcest 63 = .ok (.istore_n 3, 1) := by decide +kernel
theorem dX1_scarcest_64 : decode cX1_scarcest 64 = .ok (.iinc 5 1, 3) := by decide +kernel
theorem dX1_scarcest_67 : decode cX1_scarcest 67 = .ok (.goto (-58), 3) := by decide +kernel
theorem dX1_scarcest_70 : decode cX1_scarcest 70 = .ok (.iload_n 3, 1) := by decide +kernel
theorem dX1_scarcest_71 : decode cX1_scarcest 71 = .ok (.ireturn, 1) := by decide +kernel
theorem dX1_strike_0 : decode cX1_strike 0 = .ok (.aload_n 0, 1) := by decide +kernel
theorem dX1_strike_1 : decode cX1_strike 1 = .ok (.getfield 15, 3) := by decide +kernel
theorem dX1_strike_4 : decode cX1_strike 4 = .ok (.getfield 31, 3) := by decide +kernel
theorem dX1_strike_7 : decode cX1_strike 7 = .ok (.iload 4, 2) := by decide +kernel
theorem dX1_strike_9 : decode cX1_strike 9 = .ok (.iaload, 1) := by decide +kernel
theorem dX1_strike_10 : decode cX1_strike 10 = .ok (.istore 5, 2) := by decide +kernel
theorem dX1_strike_12 : decode cX1_strike 12 = .ok (.iconst 0, 1) := by decide +kernel
theorem dX1_strike_13 : decode cX1_strike 13 = .ok (.istore 6, 2) := by decide +kernel
theorem dX1_strike_15 : decode cX1_strike 15 = .ok (.iload 6, 2) := by decide +kernel
theorem dX1_strike_17 : decode cX1_strike 17 = .ok (.aload_n 0, 1) := by decide +kernel
theorem dX1_strike_18 : decode cX1_strike 18 = .ok (.getfield 15, 3) := by decide +kernel
theorem dX1_strike_21 : decode cX1_strike 21 = .ok (.getfield 19, 3) := by decide +kernel
theorem dX1_strike_24 : decode cX1_strike 24 = .ok (.if_icmp .ge 78, 3) := by decide +kernel
theorem dX1_strike_27 : decode cX1_strike 27 = .ok (.iload_n 1, 1) := by decide +kernel
theorem dX1_strike_28 : decode cX1_strike 28 = .ok (.iload 6, 2) := by decide +kernel
theorem dX1_strike_30 : decode cX1_strike 30 = .ok (.invokestatic 34, 3) := by decide +kernel
theorem dX1_strike_33 : decode cX1_strike 33 = .ok (.ifCond .eq 63, 3) := by decide +kernel
theorem dX1_strike_36 : decode cX1_strike 36 = .ok (.iload 5, 2) := by decide +kernel
theorem dX1_strike_38 : decode cX1_strike 38 = .ok (.iload 6, 2) := by decide +kernel
theorem dX1_strike_40 : decode cX1_strike 40 = .ok (.invokestatic 34, 3) := by decide +kernel
theorem dX1_strike_43 : decode cX1_strike 43 = .ok (.ifCond .eq 21, 3) := by decide +kernel
theorem dX1_strike_46 : decode cX1_strike 46 = .ok (.aload_n 0, 1) := by decide +kernel
theorem dX1_strike_47 : decode cX1_strike 47 = .ok (.getfield 9, 3) := by decide +kernel
theorem dX1_strike_50 : decode cX1_strike 50 = .ok (.iload_n 2, 1) := by decide +kernel
theorem dX1_strike_51 : decode cX1_strike 51 = .ok (.iload 6, 2) := by decide +kernel
theorem dX1_strike_53 : decode cX1_strike 53 = .ok (.iadd, 1) := by decide +kernel
theorem dX1_strike_54 : decode cX1_strike 54 = .ok (.iaload, 1) := by decide +kernel
theorem dX1_strike_55 : decode cX1_strike 55 = .ok (.iconst 1, 1) := by decide +kernel
theorem dX1_strike_56 : decode cX1_strike 56 = .ok (.iload_n 3, 1) := by decide +kernel
theorem dX1_strike_57 : decode cX1_strike 57 = .ok (.ishl, 1) := by decide +kernel
theorem dX1_strike_58 : decode cX1_strike 58 = .ok (.iconst (-1), 1) := by decide +kernel
theorem dX1_strike_59 : decode cX1_strike 59 = .ok (.ixor, 1) := by decide +kernel
theorem dX1_strike_60 : decode cX1_strike 60 = .ok (.iand, 1) := by decide +kernel
theorem dX1_strike_61 : decode cX1_strike 61 = .ok (.goto 12, 3) := by decide +kernel
theorem dX1_strike_64 : decode cX1_strike 64 = .ok (.aload_n 0, 1) := by decide +kernel
theorem dX1_strike_65 : decode cX1_strike 65 = .ok (.getfield 9, 3) := by decide +kernel
theorem dX1_strike_68 : decode cX1_strike 68 = .ok (.iload_n 2, 1) := by decide +kernel
theorem dX1_strike_69 : decode cX1_strike 69 = .ok (.iload 6, 2) := by decide +kernel
theorem dX1_strike_71 : decode cX1_strike 71 = .ok (.iadd, 1) := by decide +kernel
theorem dX1_strike_72 : decode cX1_strike 72 = .ok (.iaload, 1) := by decide +kernel
theorem dX1_strike_73 : decode cX1_strike 73 = .ok (.istore 7, 2) := by decide +kernel
theorem dX1_strike_75 : decode cX1_strike 75 = .ok (.iload 7, 2) := by decide +kernel
theorem dX1_strike_77 : decode cX1_strike 77 = .ok (.ifCond .ne 5, 3) := by decide +kernel
theorem dX1_strike_80 : decode cX1_strike 80 = .ok (.iconst 0, 1) := by decide +kernel
theorem dX1_strike_81 : decode cX1_strike 81 = .ok (.ireturn, 1) := by decide +kernel
theorem dX1_strike_82 : decode cX1_strike 82 = .ok (.aload_n 0, 1) := by decide +kernel
theorem dX1_strike_83 : decode cX1_strike 83 = .ok (.getfield 9, 3) := by decide +kernel
theorem dX1_strike_86 : decode cX1_strike 86 = .ok (.iload_n 2, 1) := by decide +kernel
theorem dX1_strike_87 : decode cX1_strike 87 = .ok (.bipush 8, 2) := by decide +kernel
theorem dX1_strike_89 : decode cX1_strike 89 = .ok (.iadd, 1) := by decide +kernel
theorem dX1_strike_90 : decode cX1_strike 90 = .ok (.iload 6, 2) := by decide +kernel
theorem dX1_strike_92 : decode cX1_strike 92 = .ok (.iadd, 1) := by decide +kernel
theorem dX1_strike_93 : decode cX1_strike 93 = .ok (.iload 7, 2) := by decide +kernel
theorem dX1_strike_95 : decode cX1_strike 95 = .ok (.iastore, 1) := by decide +kernel
theorem dX1_strike_96 : decode cX1_strike 96 = .ok (.iinc 6 1, 3) := by decide +kernel
theorem dX1_strike_99 : decode cX1_strike 99 = .ok (.goto (-84), 3) := by decide +kernel
theorem dX1_strike_102 : decode cX1_strike 102 = .ok (.iconst 1, 1) := by decide +kernel
theorem dX1_strike_103 : decode cX1_strike 103 = .ok (.ireturn, 1) := by decide +kernel
theorem dX2_init_0 : decode cX2_init 0 = .ok (.aload_n 0, 1) := by decide +kernel
theorem dX2_init_1 : decode cX2_init 1 = .ok (.invokespecial 3, 3) := by decide +kernel
theorem dX2_init_4 : decode cX2_init 4 = .ok (.aload_n 0, 1) := by decide +kernel
theorem dX2_init_5 : decode cX2_init 5 = .ok (.bipush 10, 2) := by decide +kernel
theorem dX2_init_7 : decode cX2_init 7 = .ok (.newarray .int, 2) := by decide +kernel
theorem dX2_init_9 : decode cX2_init 9 = .ok (.putfield 9, 3) := by decide +kernel
theorem dX2_init_12 : decode cX2_init 12 = .ok (.aload_n 0, 1) := by decide +kernel
theorem dX2_init_13 : decode cX2_init 13 = .ok (.bipush 8, 2) := by decide +kernel
theorem dX2_init_15 : decode cX2_init 15 = .ok (.newarray .int, 2) := by decide +kernel
theorem dX2_init_17 : decode cX2_init 17 = .ok (.putfield 15, 3) := by decide +kernel
theorem dX2_init_20 : decode cX2_init 20 = .ok (.aload_n 0, 1) := by decide +kernel
theorem dX2_init_21 : decode cX2_init 21 = .ok (.bipush 80, 2) := by decide +kernel
theorem dX2_init_23 : decode cX2_init 23 = .ok (.newarray .int, 2) := by decide +kernel
theorem dX2_init_25 : decode cX2_init 25 = .ok (.putfield 18, 3) := by decide +kernel
theorem dX2_init_28 : decode cX2_init 28 = .ok (.aload_n 0, 1) := by decide +kernel
theorem dX2_init_29 : decode cX2_init 29 = .ok (.bipush 9, 2) := by decide +kernel
theorem dX2_init_31 : decode cX2_init 31 = .ok (.newarray .int, 2) := by decide +kernel
theorem dX2_init_33 : decode cX2_init 33 = .ok (.putfield 21, 3) := by decide +kernel
theorem dX2_init_36 : decode cX2_init 36 = .ok (.aload_n 0, 1) := by decide +kernel
theorem dX2_init_37 : decode cX2_init 37 = .ok (.bipush 8, 2) := by decide +kernel
theorem dX2_init_39 : decode cX2_init 39 = .ok (.newarray .int, 2) := by decide +kernel
theorem dX2_init_41 : decode cX2_init 41 = .ok (.putfield 24, 3) := by decide +kernel
theorem dX2_init_44 : decode cX2_init 44 = .ok (.return_, 1) := by decide +kernel
theorem dX2_begin_0 : decode cX2_begin 0 = .ok (.aload_n 0, 1) := by decide +kernel
theorem dX2_begin_1 : decode cX2_begin 1 = .ok (.aload_n 1, 1) := by decide +kernel
theorem dX2_begin_2 : decode cX2_begin 2 = .ok (.putfield 27, 3) := by decide +kernel
theorem dX2_begin_5 : decode cX2_begin 5 = .ok (.aload_n 0, 1) := by decide +kernel
theorem dX2_begin_6 : decode cX2_begin 6 = .ok (.iload_n 2, 1) := by decide +kernel
theorem dX2_begin_7 : decode cX2_begin 7 = .ok (.putfield 31, 3) := by decide +kernel
theorem dX2_begin_10 : decode cX2_begin 10 = .ok (.aload_n 0, 1) := by decide +kernel
theorem dX2_begin_11 : decode cX2_begin 11 = .ok (.iload_n 3, 1) := by decide +kernel
theorem dX2_begin_12 : decode cX2_begin 12 = .ok (.putfield 35, 3) := by decide +kernel
theorem dX2_begin_15 : decode cX2_begin 15 = .ok (.aload_n 0, 1) := by decide +kernel
theorem dX2_begin_16 : decode cX2_begin 16 = .ok (.getfield 9, 3) := by decide +kernel
theorem dX2_begin_19 : decode cX2_begin 19 = .ok (.iconst 0, 1) := by decide +kernel
theorem dX2_begin_20 : decode cX2_begin 20 = .ok (.invokestatic 38, 3) := by decide +kernel
theorem dX2_begin_23 : decode cX2_begin 23 = .ok (.return_, 1) := by decide +kernel
theorem dX2_isFree_0 : decode cX2_isFree 0 = .ok (.aload_n 0, 1) := by decide +kernel
theorem dX2_isFree_1 : decode cX2_isFree 1 = .ok (.getfield 27, 3) := by decide +kernel
theorem dX2_isFree_4 : decode cX2_isFree 4 = .ok (.getfield 44, 3) := by decide +kernel
theorem dX2_isFree_7 : decode cX2_isFree 7 = .ok (.iload_n 2, 1) := by decide +kernel
theorem dX2_isFree_8 : decode cX2_isFree 8 = .ok (.iaload, 1) := by decide +kernel
theorem dX2_isFree_9 : decode cX2_isFree 9 = .ok (.aload_n 0, 1) := by decide +kernel
theorem dX2_isFree_10 : decode cX2_isFree 10 = .ok (.getfield 31, 3) := by decide +kernel
theorem dX2_isFree_13 : decode cX2_isFree 13 = .ok (.iconst (-1), 1) := by decide +kernel
theorem dX2_isFree_14 : decode cX2_isFree 14 = .ok (.ixor, 1) := by decide +kernel
theorem dX2_isFree_15 : decode cX2_isFree 15 = .ok (.iand, 1) := by decide +kernel
theorem dX2_isFree_16 : decode cX2_isFree 16 = .ok (.iload_n 1, 1) := by decide +kernel
theorem dX2_isFree_17 : decode cX2_isFree 17 = .ok (.invokestatic 49, 3) := by decide +kernel
theorem dX2_isFree_20 : decode cX2_isFree 20 = .ok (.ifCond .eq 26, 3) := by decide +kernel
theorem dX2_isFree_23 : decode cX2_isFree 23 = .ok (.aload_n 0, 1) := by decide +kernel
theorem dX2_isFree_24 : decode cX2_isFree 24 = .ok (.getfield 9, 3) := by decide +kernel
theorem dX2_isFree_27 : decode cX2_isFree 27 = .ok (.iload_n 1, 1) := by decide +kernel
theorem dX2_isFree_28 : decode cX2_isFree 28 = .ok (.iaload, 1) := by decide +kernel
theorem dX2_isFree_29 : decode cX2_isFree 29 = .ok (.aload_n 0, 1) := by decide +kernel
theorem dX2_isFree_30 : decode cX2_isFree 30 = .ok (.getfield 27, 3) := by decide +kernel
theorem dX2_isFree_33 : decode cX2_isFree 33 = .ok (.getfield 53, 3) := by decide +kernel
theorem dX2_isFree_36 : decode cX2_isFree 36 = .ok (.iload_n 2, 1) := by decide +kernel
theorem dX2_isFree_37 : decode cX2_isFree 37 = .ok (.iaload, 1) := by decide +kernel
theorem dX2_isFree_38 : decode cX2_isFree 38 = .ok (.iand, 1) := by decide +kernel
theorem dX2_isFree_39 : decode cX2_isFree 39 = .ok (.ifCond .ne 7, 3) := by decide +kernel
theorem dX2_isFree_42 : decode cX2_isFree 42 = .ok (.iconst 1, 1) := by decide +kernel
theorem dX2_isFree_43 : decode cX2_isFree 43 = .ok (.goto 4, 3) := by decide +kernel
theorem dX2_isFree_46 : decode cX2_isFree 46 = .ok (.iconst 0, 1) := by decide +kernel
theorem dX2_isFree_47 : decode cX2_isFree 47 = .ok (.ireturn, 1) := by decide +kernel
theorem dX2_countCastings_0 : decode cX2_countCastings 0 = .ok (.aload_n 0, 1) := by decide +kernel
theorem dX2_countCastings_1 : decode cX2_countCastings 1 = .ok (.aload_n 1, 1) := by decide +kernel
theorem dX2_countCastings_2 : decode cX2_countCastings 2 = .ok (.iload_n 2, 1) := by decide +kernel
theorem dX2_countCastings_3 : decode cX2_countCastings 3 = .ok (.iload_n 3, 1) := by decide +kernel
theorem dX2_countCastings_4 : decode cX2_countCastings 4 = .ok (.invokevirtual 56, 3) := by decide +kernel
theorem dX2_countCastings_7 : decode cX2_countCastings 7 = .ok (.aload_n 0, 1) := by decide +kernel
theorem dX2_countCastings_8 : decode cX2_countCastings 8 = .ok (.iconst 0, 1) := by decide +kernel
theorem dX2_countCastings_9 : decode cX2_countCastings 9 = .ok (.invokestatic 60, 3) := by decide +kernel
theorem dX2_countCastings_12 : decode cX2_countCastings 12 = .ok (.lreturn, 1) := by decide +kernel
theorem dX2_countFrom_0 : decode cX2_countFrom 0 = .ok (.iload_n 1, 1) := by decide +kernel
theorem dX2_countFrom_1 : decode cX2_countFrom 1 = .ok (.aload_n 0, 1) := by decide +kernel
theorem dX2_countFrom_2 : decode cX2_countFrom 2 = .ok (.getfield 27, 3) := by decide +kernel
theorem dX2_countFrom_5 : decode cX2_countFrom 5 = .ok (.getfield 64, 3) := by decide +kernel
theorem dX2_countFrom_8 : decode cX2_countFrom 8 = .ok (.if_icmp .lt 5, 3) := by decide +kernel
theorem dX2_countFrom_11 : decode cX2_countFrom 11 = .ok (.lconst 1, 1) := by decide +kernel
theorem dX2_countFrom_12 : decode cX2_countFrom 12 = .ok (.lreturn, 1) := by decide +kernel
theorem dX2_countFrom_13 : decode cX2_countFrom 13 = .ok (.aload_n 0, 1) := by decide +kernel
theorem dX2_countFrom_14 : decode cX2_countFrom 14 = .ok (.getfield 35, 3) := by decide +kernel
theorem dX2_countFrom_17 : decode cX2_countFrom 17 = .ok (.iload_n 1, 1) := by decide +kernel
theorem dX2_countFrom_18 : decode cX2_countFrom 18 = .ok (.invokestatic 49, 3) := by decide +kernel
theorem dX2_countFrom_21 : decode cX2_countFrom 21 = .ok (.ifCond .eq 11, 3) := by decide +kernel
theorem dX2_countFrom_24 : decode cX2_countFrom 24 = .ok (.aload_n 0, 1) := by decide +kernel
theorem dX2_countFrom_25 : decode cX2_countFrom 25 = .ok (.iload_n 1, 1) := by decide +kernel
theorem dX2_countFrom_26 : decode cX2_countFrom 26 = .ok (.iconst 1, 1) := by decide +kernel
theorem dX2_countFrom_27 : decode cX2_countFrom 27 = .ok (.iadd, 1) := by decide +kernel
theorem dX2_countFrom_28 : decode cX2_countFrom 28 = .ok (.invokestatic 60, 3) := by decide +kernel
theorem dX2_countFrom_31 : decode cX2_countFrom 31 = .ok (.lreturn, 1) := by decide +kernel
theorem dX2_countFrom_32 : decode cX2_countFrom 32 = .ok (.lconst 0, 1) := by decide +kernel
theorem dX2_countFrom_33 : decode cX2_countFrom 33 = .ok (.lstore_n 2, 1) := by decide +kernel
theorem dX2_countFrom_34 : decode cX2_countFrom 34 = .ok (.iconst 0, 1) := by decide +kernel
theorem dX2_countFrom_35 : decode cX2_countFrom 35 = .ok (.istore 4, 2) := by decide +kernel
theorem dX2_countFrom_37 : decode cX2_countFrom 37 = .ok (.iload 4, 2) := by decide +kernel
theorem dX2_countFrom_39 : decode cX2_countFrom 39 = .ok (.aload_n 0, 1) := by decide +kernel
theorem dX2_countFrom_40 : decode cX2_countFrom 40 = .ok (.getfield 27, 3) := by decide +kernel
theorem dX2_countFrom_43 : decode cX2_countFrom 43 = .ok (.getfield 67, 3) := by decide +kernel
theorem dX2_countFrom_46 : decode cX2_countFrom 46 = .ok (.if_icmp .ge 57, 3) := by decide +kernel
theorem dX2_countFrom_49 : decode cX2_countFrom 49 = .ok (.aload_n 0, 1) := by decide +kernel
theorem dX2_countFrom_50 : decode cX2_countFrom 50 = .ok (.iload 4, 2) := by decide +kernel
theorem dX2_countFrom_52 : decode cX2_countFrom 52 = .ok (.iload_n 1, 1) := by decide +kernel
theorem dX2_countFrom_53 : decode cX2_countFrom 53 = .ok (.invokevirtual 70, 3) := by decide +kernel
theorem dX2_countFrom_56 : decode cX2_countFrom 56 = .ok (.ifCond .eq 41, 3) := by decide +kernel
theorem dX2_countFrom_59 : decode cX2_countFrom 59 = .ok (.aload_n 0, 1) := by decide +kernel
theorem dX2_countFrom_60 : decode cX2_countFrom 60 = .ok (.getfield 9, 3) := by decide +kernel
theorem dX2_countFrom_63 : decode cX2_countFrom 63 = .ok (.iload 4, 2) := by decide +kernel
theorem dX2_countFrom_65 : decode cX2_countFrom 65 = .ok (.dup2, 1) := by decide +kernel
theorem dX2_countFrom_66 : decode cX2_countFrom 66 = .ok (.iaload, 1) := by decide +kernel
theorem dX2_countFrom_67 : decode cX2_countFrom 67 = .ok (.iconst 1, 1) := by decide +kernel
theorem dX2_countFrom_68 : decode cX2_countFrom 68 = .ok (.iload_n 1, 1) := by decide +kernel
theorem dX2_countFrom_69 : decode cX2_countFrom 69 = .ok (.ishl, 1) := by decide +kernel
theorem dX2_countFrom_70 : decode cX2_countFrom 70 = .ok (.ior, 1) := by decide +kernel
theorem dX2_countFrom_71 : decode cX2_countFrom 71 = .ok (.iastore, 1) := by decide +kernel
theorem dX2_countFrom_72 : decode cX2_countFrom 72 = .ok (.lload_n 2, 1) := by decide +kernel
theorem dX2_countFrom_73 : decode cX2_countFrom 73 = .ok (.aload_n 0, 1) := by decide +kernel
theorem dX2_countFrom_74 : decode cX2_countFrom 74 = .ok (.iload_n 1, 1) := by decide +kernel
theorem dX2_countFrom_75 : decode cX2_countFrom 75 = .ok (.iconst 1, 1) := by decide +kernel
theorem dX2_countFrom_76 : decode cX2_countFrom 76 = .ok (.iadd, 1) := by decide +kernel
theorem dX2_countFrom_77 : decode cX2_countFrom 77 = .ok (.invokestatic 60, 3) := by decide +kernel
theorem dX2_countFrom_80 : decode cX2_countFrom 80 = .ok (.ladd, 1) := by decide +kernel
theorem dX2_countFrom_81 : decode cX2_countFrom 81 = .ok (.lstore_n 2, 1) := by decide +kernel
theorem dX2_countFrom_82 : decode cX2_countFrom 82 = .ok (.aload_n 0, 1) := by decide +kernel
theorem dX2_countFrom_83 : decode cX2_countFrom 83 = .ok (.getfield 9, 3) := by decide +kernel
theorem dX2_countFrom_86 : decode cX2_countFrom 86 = .ok (.iload 4, 2) := by decide +kernel
theorem dX2_countFrom_88 : decode cX2_countFrom 88 = .ok (.dup2, 1) := by decide +kernel
theorem dX2_countFrom_89 : decode cX2_countFrom 89 = .ok (.iaload, 1) := by decide +kernel
theorem dX2_countFrom_90 : decode cX2_countFrom 90 = .ok (.iconst 1, 1) := by decide +kernel
theorem dX2_countFrom_91 : decode cX2_countFrom 91 = .ok (.iload_n 1, 1) := by decide +kernel
theorem dX2_countFrom_92 : decode cX2_countFrom 92 = .ok (.ishl, 1) := by decide +kernel
theorem dX2_countFrom_93 : decode cX2_countFrom 93 = .ok (.iconst (-1), 1) := by decide +kernel
theorem dX2_countFrom_94 : decode cX2_countFrom 94 = .ok (.ixor, 1) := by decide +kernel
theorem dX2_countFrom_95 : decode cX2_countFrom 95 = .ok (.iand, 1) := by decide +kernel
theorem dX2_countFrom_96 : decode cX2_countFrom 96 = .ok (.iastore, 1) := by decide +kernel
theorem dX2_countFrom_97 : decode cX2_countFrom 97 = .ok (.iinc 4 1, 3) := by decide +kernel
theorem dX2_countFrom_100 : decode cX2_countFrom 100 = .ok (.goto (-63), 3) := by decide +kernel
theorem dX2_countFrom_103 : decode cX2_countFrom 103 = .ok (.lload_n 2, 1) := by decide +kernel
theorem dX2_countFrom_104 : decode cX2_countFrom 104 = .ok (.lreturn, 1) := by decide +kernel
theorem dX2_findLeast_0 : decode cX2_findLeast 0 = .ok (.aload_n 0, 1) := by decide +kernel
theorem dX2_findLeast_1 : decode cX2_findLeast 1 = .ok (.aload_n 1, 1) := by decide +kernel
theorem dX2_findLeast_2 : decode cX2_findLeast 2 = .ok (.iload_n 3, 1) := by decide +kernel
theorem dX2_findLeast_3 : decode cX2_findLeast 3 = .ok (.iload 4, 2) := by decide +kernel
theorem dX2_findLeast_5 : decode cX2_findLeast 5 = .ok (.invokevirtual 56, 3) := by decide +kernel
theorem dX2_findLeast_8 : decode cX2_findLeast 8 = .ok (.aload_n 0, 1) := by decide +kernel
theorem dX2_findLeast_9 : decode cX2_findLeast 9 = .ok (.ldc 73, 2) := by decide +kernel
theorem dX2_findLeast_11 : decode cX2_findLeast 11 = .ok (.putfield 74, 3) := by decide +kernel
theorem dX2_findLeast_14 : decode cX2_findLeast 14 = .ok (.aload_n 0, 1) := by decide +kernel
theorem dX2_findLeast_15 : decode cX2_findLeast 15 = .ok (.getfield 21, 3) := by decide +kernel
theorem dX2_findLeast_18 : decode cX2_findLeast 18 = .ok (.aload_n 0, 1) := by decide +kernel
theorem dX2_findLeast_19 : decode cX2_findLeast 19 = .ok (.getfield 27, 3) := by decide +kernel
theorem dX2_findLeast_22 : decode cX2_findLeast 22 = .ok (.getfield 64, 3) := by decide +kernel
theorem dX2_findLeast_25 : decode cX2_findLeast 25 = .ok (.iconst 0, 1) := by decide +kernel
theorem dX2_findLeast_26 : decode cX2_findLeast 26 = .ok (.iastore, 1) := by decide +kernel
theorem dX2_findLeast_27 : decode cX2_findLeast 27 = .ok (.aload_n 0, 1) := by decide +kernel
theorem dX2_findLeast_28 : decode cX2_findLeast 28 = .ok (.getfield 27, 3) := by decide +kernel
theorem dX2_findLeast_31 : decode cX2_findLeast 31 = .ok (.getfield 64, 3) := by decide +kernel
theorem dX2_findLeast_34 : decode cX2_findLeast 34 = .ok (.iconst 1, 1) := by decide +kernel
theorem dX2_findLeast_35 : decode cX2_findLeast 35 = .ok (.isub, 1) := by decide +kernel
theorem dX2_findLeast_36 : decode cX2_findLeast 36 = .ok (.istore 5, 2) := by decide +kernel
theorem dX2_findLeast_38 : decode cX2_findLeast 38 = .ok (.iload 5, 2) := by decide +kernel
theorem dX2_findLeast_40 : decode cX2_findLeast 40 = .ok (.ifCond .lt 49, 3) := by decide +kernel
theorem dX2_findLeast_43 : decode cX2_findLeast 43 = .ok (.aload_n 0, 1) := by decide +kernel
theorem dX2_findLeast_44 : decode cX2_findLeast 44 = .ok (.getfield 21, 3) := by decide +kernel
theorem dX2_findLeast_47 : decode cX2_findLeast 47 = .ok (.iload 5, 2) := by decide +kernel
theorem dX2_findLeast_49 : decode cX2_findLeast 49 = .ok (.aload_n 0, 1) := by decide +kernel
theorem dX2_findLeast_50 : decode cX2_findLeast 50 = .ok (.getfield 21, 3) := by decide +kernel
theorem dX2_findLeast_53 : decode cX2_findLeast 53 = .ok (.iload 5, 2) := by decide +kernel
theorem dX2_findLeast_55 : decode cX2_findLeast 55 = .ok (.iconst 1, 1) := by decide +kernel
theorem dX2_findLeast_56 : decode cX2_findLeast 56 = .ok (.iadd, 1) := by decide +kernel
theorem dX2_findLeast_57 : decode cX2_findLeast 57 = .ok (.iaload, 1) := by decide +kernel
theorem dX2_findLeast_58 : decode cX2_findLeast 58 = .ok (.aload_n 0, 1) := by decide +kernel
theorem dX2_findLeast_59 : decode cX2_findLeast 59 = .ok (.getfield 35, 3) := by decide +kernel
theorem dX2_findLeast_62 : decode cX2_findLeast 62 = .ok (.iload 5, 2) := by decide +kernel
theorem dX2_findLeast_64 : decode cX2_findLeast 64 = .ok (.invokestatic 49, 3) := by decide +kernel
theorem dX2_findLeast_67 : decode cX2_findLeast 67 = .ok (.ifCond .eq 7, 3) := by decide +kernel
theorem dX2_findLeast_70 : decode cX2_findLeast 70 = .ok (.iconst 0, 1) := by decide +kernel
theorem dX2_findLeast_71 : decode cX2_findLeast 71 = .ok (.goto 10, 3) := by decide +kernel
theorem dX2_findLeast_74 : decode cX2_findLeast 74 = .ok (.aload_n 0, 1) := by decide +kernel
theorem dX2_findLeast_75 : decode cX2_findLeast 75 = .ok (.aload_n 2, 1) := by decide +kernel
theorem dX2_findLeast_76 : decode cX2_findLeast 76 = .ok (.iload 5, 2) := by decide +kernel
theorem dX2_findLeast_78 : decode cX2_findLeast 78 = .ok (.invokevirtual 77, 3) := by decide +kernel
theorem dX2_findLeast_81 : decode cX2_findLeast 81 = .ok (.iadd, 1) := by decide +kernel
theorem dX2_findLeast_82 : decode cX2_findLeast 82 = .ok (.iastore, 1) := by decide +kernel
theorem dX2_findLeast_83 : decode cX2_findLeast 83 = .ok (.iinc 5 (-1), 3) := by decide +kernel
theorem dX2_findLeast_86 : decode cX2_findLeast 86 = .ok (.goto (-48), 3) := by decide +kernel
theorem dX2_findLeast_89 : decode cX2_findLeast 89 = .ok (.aload_n 0, 1) := by decide +kernel
theorem dX2_findLeast_90 : decode cX2_findLeast 90 = .ok (.iconst 0, 1) := by decide +kernel
theorem dX2_findLeast_91 : decode cX2_findLeast 91 = .ok (.iconst 0, 1) := by decide +kernel
theorem dX2_findLeast_92 : decode cX2_findLeast 92 = .ok (.invokestatic 81, 3) := by decide +kernel
theorem dX2_findLeast_95 : decode cX2_findLeast 95 = .ok (.aload_n 0, 1) := by decide +kernel
theorem dX2_findLeast_96 : decode cX2_findLeast 96 = .ok (.getfield 74, 3) := by decide +kernel
theorem dX2_findLeast_99 : decode cX2_findLeast 99 = .ok (.ldc 73, 2) := by decide +kernel
theorem dX2_findLeast_101 : decode cX2_findLeast 101 = .ok (.if_icmp .ge 7, 3) := by decide +kernel
theorem dX2_findLeast_104 : decode cX2_findLeast 104 = .ok (.iconst 1, 1) := by decide +kernel
theorem dX2_findLeast_105 : decode cX2_findLeast 105 = .ok (.goto 4, 3) := by decide +kernel
theorem dX2_findLeast_108 : decode cX2_findLeast 108 = .ok (.iconst 0, 1) := by decide +kernel
theorem dX2_findLeast_109 : decode cX2_findLeast 109 = .ok (.ireturn, 1) := by decide +kernel
theorem dX2_weigh_0 : decode cX2_weigh 0 = .ok (.ldc 73, 2) := by decide +kernel
theorem dX2_weigh_2 : decode cX2_weigh 2 = .ok (.istore_n 3, 1) := by decide +kernel
theorem dX2_weigh_3 : decode cX2_weigh 3 = .ok (.iconst 0, 1) := by decide +kernel
theorem dX2_weigh_4 : decode cX2_weigh 4 = .ok (.istore 4, 2) := by decide +kernel
theorem dX2_weigh_6 : decode cX2_weigh 6 = .ok (.iload 4, 2) := by decide +kernel
theorem dX2_weigh_8 : decode cX2_weigh 8 = .ok (.aload_n 0, 1) := by decide +kernel
theorem dX2_weigh_9 : decode cX2_weigh 9 = .ok (.getfield 27, 3) := by decide +kernel
theorem dX2_weigh_12 : decode cX2_weigh 12 = .ok (.getfield 67, 3) := by decide +kernel
theorem dX2_weigh_15 : decode cX2_weigh 15 = .ok (.if_icmp .ge 120, 3) := by decide +kernel
theorem dX2_weigh_18 : decode cX2_weigh 18 = .ok (.aload_n 0, 1) := by decide +kernel
theorem dX2_weigh_19 : decode cX2_weigh 19 = .ok (.getfield 27, 3) := by decide +kernel
theorem dX2_weigh_22 : decode cX2_weigh 22 = .ok (.getfield 44, 3) := by decide +kernel
theorem dX2_weigh_25 : decode cX2_weigh 25 = .ok (.iload_n 2, 1) := by decide +kernel
theorem dX2_weigh_26 : decode cX2_weigh 26 = .ok (.iaload, 1) := by decide +kernel
theorem dX2_weigh_27 : decode cX2_weigh 27 = .ok (.aload_n 0, 1) := by decide +kernel
theorem dX2_weigh_28 : decode cX2_weigh 28 = .ok (.getfield 31, 3) := by decide +kernel
theorem dX2_weigh_31 : decode cX2_weigh 31 = .ok (.iconst (-1), 1) := by decide +kernel
theorem dX2_weigh_32 : decode cX2_weigh 32 = .ok (.ixor, 1) := by decide +kernel
theorem dX2_weigh_33 : decode cX2_weigh 33 = .ok (.iand, 1) := by decide +kernel
theorem dX2_weigh_34 : decode cX2_weigh 34 = .ok (.iload 4, 2) := by decide +kernel
theorem dX2_weigh_36 : decode cX2_weigh 36 = .ok (.invokestatic 49, 3) := by decide +kernel
theorem dX2_weigh_39 : decode cX2_weigh 39 = .ok (.ifCond .eq 90, 3) := by decide +kernel
theorem dX2_weigh_42 : decode cX2_weigh 42 = .ok (.aload_n 1, 1) := by decide +kernel
theorem dX2_weigh_43 : decode cX2_weigh 43 = .ok (.aload_n 0, 1) := by decide +kernel
theorem dX2_weigh_44 : decode cX2_weigh 44 = .ok (.getfield 27, 3) := by decide +kernel
theorem dX2_weigh_47 : decode cX2_weigh 47 = .ok (.iload 4, 2) := by decide +kernel
theorem dX2_weigh_49 : decode cX2_weigh 49 = .ok (.iload_n 2, 1) := by decide +kernel
theorem dX2_weigh_50 : decode cX2_weigh 50 = .ok (.invokevirtual 85, 3) := by decide +kernel
theorem dX2_weigh_53 : decode cX2_weigh 53 = .ok (.istore 5, 2) := by decide +kernel
theorem dX2_weigh_55 : decode cX2_weigh 55 = .ok (.aload_n 0, 1) := by decide +kernel
theorem dX2_weigh_56 : decode cX2_weigh 56 = .ok (.getfield 27, 3) := by decide +kernel
theorem dX2_weigh_59 : decode cX2_weigh 59 = .ok (.getfield 91, 3) := by decide +kernel
theorem dX2_weigh_62 : decode cX2_weigh 62 = .ok (.iload_n 2, 1) := by decide +kernel
theorem dX2_weigh_63 : decode cX2_weigh 63 = .ok (.iaload, 1) := by decide +kernel
theorem dX2_weigh_64 : decode cX2_weigh 64 = .ok (.iload 4, 2) := by decide +kernel
theorem dX2_weigh_66 : decode cX2_weigh 66 = .ok (.if_icmp .eq 42, 3) := by decide +kernel
theorem dX2_weigh_69 : decode cX2_weigh 69 = .ok (.iload 5, 2) := by decide +kernel
theorem dX2_weigh_71 : decode cX2_weigh 71 = .ok (.bipush 100, 2) := by decide +kernel
theorem dX2_weigh_73 : decode cX2_weigh 73 = .ok (.aload_n 0, 1) := by decide +kernel
theorem dX2_weigh_74 : decode cX2_weigh 74 = .ok (.getfield 27, 3) := by decide +kernel
theorem dX2_weigh_77 : decode cX2_weigh 77 = .ok (.getfield 94, 3) := by decide +kernel
theorem dX2_weigh_80 : decode cX2_weigh 80 = .ok (.aload_n 0, 1) := by decide +kernel
theorem dX2_weigh_81 : decode cX2_weigh 81 = .ok (.getfield 27, 3) := by decide +kernel
theorem dX2_weigh_84 : decode cX2_weigh 84 = .ok (.getfield 97, 3) := by decide +kernel
theorem dX2_weigh_87 : decode cX2_weigh 87 = .ok (.iload 4, 2) := by decide +kernel
theorem dX2_weigh_89 : decode cX2_weigh 89 = .ok (.iaload, 1) := by decide +kernel
theorem dX2_weigh_90 : decode cX2_weigh 90 = .ok (.aload_n 0, 1) := by decide +kernel
theorem dX2_weigh_91 : decode cX2_weigh 91 = .ok (.getfield 27, 3) := by decide +kernel
theorem dX2_weigh_94 : decode cX2_weigh 94 = .ok (.getfield 100, 3) := by decide +kernel
theorem dX2_weigh_97 : decode cX2_weigh 97 = .ok (.iload_n 2, 1) := by decide +kernel
theorem dX2_weigh_98 : decode cX2_weigh 98 = .ok (.iaload, 1) := by decide +kernel
theorem dX2_weigh_99 : decode cX2_weigh 99 = .ok (.isub, 1) := by decide +kernel
theorem dX2_weigh_100 : decode cX2_weigh 100 = .ok (.invokestatic 103, 3) := by decide +kernel
theorem dX2_weigh_103 : decode cX2_weigh 103 = .ok (.imul, 1) := by decide +kernel
theorem dX2_weigh_104 : decode cX2_weigh 104 = .ok (.iadd, 1) := by decide +kernel
theorem dX2_weigh_105 : decode cX2_weigh 105 = .ok (.iadd, 1) := by decide +kernel
theorem dX2_weigh_106 : decode cX2_weigh 106 = .ok (.istore 5, 2) := by decide +kernel
theorem dX2_weigh_108 : decode cX2_weigh 108 = .ok (.aload_n 0, 1) := by decide +kernel
theorem dX2_weigh_109 : decode cX2_weigh 109 = .ok (.getfield 18, 3) := by decide +kernel
theorem dX2_weigh_112 : decode cX2_weigh 112 = .ok (.iload 4, 2) := by decide +kernel
theorem dX2_weigh_114 : decode cX2_weigh 114 = .ok (.bipush 8, 2) := by decide +kernel
theorem dX2_weigh_116 : decode cX2_weigh 116 = .ok (.imul, 1) := by decide +kernel
theorem dX2_weigh_117 : decode cX2_weigh 117 = .ok (.iload_n 2, 1) := by decide +kernel
theorem dX2_weigh_118 : decode cX2_weigh 118 = .ok (.iadd, 1) := by decide +kernel
theorem dX2_weigh_119 : decode cX2_weigh 119 = .ok (.iload 5, 2) := by decide +kernel
theorem dX2_weigh_121 : decode cX2_weigh 121 = .ok (.iastore, 1) := by decide +kernel
theorem dX2_weigh_122 : decode cX2_weigh 122 = .ok (.iload_n 3, 1) := by decide +kernel
theorem dX2_weigh_123 : decode cX2_weigh 123 = .ok (.iload 5, 2) := by decide +kernel
theorem dX2_weigh_125 : decode cX2_weigh 125 = .ok (.invokestatic 109, 3) := by decide +kernel
theorem dX2_weigh_128 : decode cX2_weigh 128 = .ok (.istore_n 3, 1) := by decide +kernel
theorem dX2_weigh_129 : decode cX2_weigh 129 = .ok (.iinc 4 1, 3) := by decide +kernel
theorem dX2_weigh_132 : decode cX2_weigh 132 = .ok (.goto (-126), 3) := by decide +kernel
theorem dX2_weigh_135 : decode cX2_weigh 135 = .ok (.iload_n 3, 1) := by decide +kernel
theorem dX2_weigh_136 : decode cX2_weigh 136 = .ok (.ireturn, 1) := by decide +kernel
theorem dX2_improveFrom_0 : decode cX2_improveFrom 0 = .ok (.iload_n 2, 1) := by decide +kernel
theorem dX2_improveFrom_1 : decode cX2_improveFrom 1 = .ok (.aload_n 0, 1) := by decide +kernel
theorem dX2_improveFrom_2 : decode cX2_improveFrom 2 = .ok (.getfield 21, 3) := by decide +kernel
theorem dX2_improveFrom_5 : decode cX2_improveFrom 5 = .ok (.iload_n 1, 1) := by decide +kernel
theorem dX2_improveFrom_6 : decode cX2_improveFrom 6 = .ok (.iaload, 1) := by decide +kernel
theorem dX2_improveFrom_7 : decode cX2_improveFrom 7 = .ok (.iadd, 1) := by decide +kernel
theorem dX2_improveFrom_8 : decode cX2_improveFrom 8 = .ok (.aload_n 0, 1) := by decide +kernel
theorem dX2_improveFrom_9 : decode cX2_improveFrom 9 = .ok (.getfield 74, 3) := by decide +kernel
theorem dX2_improveFrom_12 : decode cX2_improveFrom 12 = .ok (.if_icmp .lt 4, 3) := by decide +kernel
theorem dX2_improveFrom_15 : decode cX2_improveFrom 15 = .ok (.return_, 1) := by decide +kernel
theorem dX2_improveFrom_16 : decode cX2_improveFrom 16 = .ok (.iload_n 1, 1) := by decide +kernel
theorem dX2_improveFrom_17 : decode cX2_improveFrom 17 = .ok (.aload_n 0, 1) := by decide +kernel
theorem dX2_improveFrom_18 : decode cX2_improveFrom 18 = .ok (.getfield 27, 3) := by decide +kernel
theorem dX2_improveFrom_21 : decode cX2_improveFrom 21 = .ok (.getfield 64, 3) := by decide +kernel
theorem dX2_improveFrom_24 : decode cX2_improveFrom 24 = .ok (.if_icmp .lt 24, 3) := by decide +kernel
theorem dX2_improveFrom_27 : decode cX2_improveFrom 27 = .ok (.aload_n 0, 1) := by decide +kernel
theorem dX2_improveFrom_28 : decode cX2_improveFrom 28 = .ok (.iload_n 2, 1) := by decide +kernel
theorem dX2_improveFrom_29 : decode cX2_improveFrom 29 = .ok (.putfield 74, 3) := by decide +kernel
theorem dX2_improveFrom_32 : decode cX2_improveFrom 32 = .ok (.aload_n 0, 1) := by decide +kernel
theorem dX2_improveFrom_33 : decode cX2_improveFrom 33 = .ok (.getfield 15, 3) := by decide +kernel
theorem dX2_improveFrom_36 : decode cX2_improveFrom 36 = .ok (.iconst 0, 1) := by decide +kernel
theorem dX2_improveFrom_37 : decode cX2_improveFrom 37 = .ok (.aload_n 0, 1) := by decide +kernel
theorem dX2_improveFrom_38 : decode cX2_improveFrom 38 = .ok (.getfield 24, 3) := by decide +kernel
theorem dX2_improveFrom_41 : decode cX2_improveFrom 41 = .ok (.iconst 0, 1) := by decide +kernel
theorem dX2_improveFrom_42 : decode cX2_improveFrom 42 = .ok (.bipush 8, 2) := by decide +kernel
theorem dX2_improveFrom_44 : decode cX2_improveFrom 44 = .ok (.invokestatic 113, 3) := by decide +kernel
theorem dX2_improveFrom_47 : decode cX2_improveFrom 47 = .ok (.return_, 1) := by decide +kernel
theorem dX2_improveFrom_48 : decode cX2_improveFrom 48 = .ok (.aload_n 0, 1) := by decide +kernel
theorem dX2_improveFrom_49 : decode cX2_improveFrom 49 = .ok (.getfield 35, 3) := by decide +kernel
theorem dX2_improveFrom_52 : decode cX2_improveFrom 52 = .ok (.iload_n 1, 1) := by decide +kernel
theorem dX2_improveFrom_53 : decode cX2_improveFrom 53 = .ok (.invokestatic 49, 3) := by decide +kernel
theorem dX2_improveFrom_56 : decode cX2_improveFrom 56 = .ok (.ifCond .eq 20, 3) := by decide +kernel
theorem dX2_improveFrom_59 : decode cX2_improveFrom 59 = .ok (.aload_n 0, 1) := by decide +kernel
theorem dX2_improveFrom_60 : decode cX2_improveFrom 60 = .ok (.getfield 15, 3) := by decide +kernel
theorem dX2_improveFrom_63 : decode cX2_improveFrom 63 = .ok (.iload_n 1, 1) := by decide +kernel
theorem dX2_improveFrom_64 : decode cX2_improveFrom 64 = .ok (.bipush (-4), 2) := by decide +kernel
theorem dX2_improveFrom_66 : decode cX2_improveFrom 66 = .ok (.iastore, 1) := by decide +kernel
theorem dX2_improveFrom_67 : decode cX2_improveFrom 67 = .ok (.aload_n 0, 1) := by decide +kernel
theorem dX2_improveFrom_68 : decode cX2_improveFrom 68 = .ok (.iload_n 1, 1) := by decide +kernel
theorem dX2_improveFrom_69 : decode cX2_improveFrom 69 = .ok (.iconst 1, 1) := by decide +kernel
theorem dX2_improveFrom_70 : decode cX2_improveFrom 70 = .ok (.iadd, 1) := by decide +kernel
theorem dX2_improveFrom_71 : decode cX2_improveFrom 71 = .ok (.iload_n 2, 1) := by decide +kernel
theorem dX2_improveFrom_72 : decode cX2_improveFrom 72 = .ok (.invokestatic 81, 3) := by decide +kernel
theorem dX2_improveFrom_75 : decode cX2_improveFrom 75 = .ok (.return_, 1) := by decide +kernel
theorem dX2_improveFrom_76 : decode cX2_improveFrom 76 = .ok (.iconst 0, 1) := by decide +kernel
theorem dX2_improveFrom_77 : decode cX2_improveFrom 77 = .ok (.istore_n 3, 1) := by decide +kernel
theorem dX2_improveFrom_78 : decode cX2_improveFrom 78 = .ok (.iload_n 3, 1) := by decide +kernel
theorem dX2_improveFrom_79 : decode cX2_improveFrom 79 = .ok (.aload_n 0, 1) := by decide +kernel
theorem dX2_improveFrom_80 : decode cX2_improveFrom 80 = .ok (.getfield 27, 3) := by decide +kernel
theorem dX2_improveFrom_83 : decode cX2_improveFrom 83 = .ok (.getfield 67, 3) := by decide +kernel
theorem dX2_improveFrom_86 : decode cX2_improveFrom 86 = .ok (.if_icmp .ge 71, 3) := by decide +kernel
theorem dX2_improveFrom_89 : decode cX2_improveFrom 89 = .ok (.aload_n 0, 1) := by decide +kernel
theorem dX2_improveFrom_90 : decode cX2_improveFrom 90 = .ok (.iload_n 3, 1) := by decide +kernel
theorem dX2_improveFrom_91 : decode cX2_improveFrom 91 = .ok (.iload_n 1, 1) := by decide +kernel
theorem dX2_improveFrom_92 : decode cX2_improveFrom 92 = .ok (.invokevirtual 70, 3) := by decide +kernel
theorem dX2_improveFrom_95 : decode cX2_improveFrom 95 = .ok (.ifCond .eq 56, 3) := by decide +kernel
theorem dX2_improveFrom_98 : decode cX2_improveFrom 98 = .ok (.aload_n 0, 1) := by decide +kernel
theorem dX2_improveFrom_99 : decode cX2_improveFrom 99 = .ok (.getfield 9, 3) := by decide +kernel
theorem dX2_improveFrom_102 : decode cX2_improveFrom 102 = .ok (.iload_n 3, 1) := by decide +kernel
theorem dX2_improveFrom_103 : decode cX2_improveFrom 103 = .ok (.dup2, 1) := by decide +kernel
theorem dX2_improveFrom_104 : decode cX2_improveFrom 104 = .ok (.iaload, 1) := by decide +kernel
theorem dX2_improveFrom_105 : decode cX2_improveFrom 105 = .ok (.iconst 1, 1) := by decide +kernel
theorem dX2_improveFrom_106 : decode cX2_improveFrom 106 = .ok (.iload_n 1, 1) := by decide +kernel
theorem dX2_improveFrom_107 : decode cX2_improveFrom 107 = .ok (.ishl, 1) := by decide +kernel
theorem dX2_improveFrom_108 : decode cX2_improveFrom 108 = .ok (.ior, 1) := by decide +kernel
theorem dX2_improveFrom_109 : decode cX2_improveFrom 109 = .ok (.iastore, 1) := by decide +kernel
theorem dX2_improveFrom_110 : decode cX2_improveFrom 110 = .ok (.aload_n 0, 1) := by decide +kernel
theorem dX2_improveFrom_111 : decode cX2_improveFrom 111 = .ok (.getfield 15, 3) := by decide +kernel
theorem dX2_improveFrom_114 : decode cX2_improveFrom 114 = .ok (.iload_n 1, 1) := by decide +kernel
theorem dX2_improveFrom_115 : decode cX2_improveFrom 115 = .ok (.iload_n 3, 1) := by decide +kernel
theorem dX2_improveFrom_116 : decode cX2_improveFrom 116 = .ok (.iastore, 1) := by decide +kernel
theorem dX2_improveFrom_117 : decode cX2_improveFrom 117 = .ok (.aload_n 0, 1) := by decide +kernel
theorem dX2_improveFrom_118 : decode cX2_improveFrom 118 = .ok (.iload_n 1, 1) := by decide +kernel
theorem dX2_improveFrom_119 : decode cX2_improveFrom 119 = .ok (.iconst 1, 1) := by decide +kernel
theorem dX2_improveFrom_120 : decode cX2_improveFrom 120 = .ok (.iadd, 1) := by decide +kernel
theorem dX2_improveFrom_121 : decode cX2_improveFrom 121 = .ok (.iload_n 2, 1) := by decide +kernel
theorem dX2_improveFrom_122 : decode cX2_improveFrom 122 = .ok (.aload_n 0, 1) := by decide +kernel
theorem dX2_improveFrom_123 : decode cX2_improveFrom 123 = .ok (.getfield 18, 3) := by decide +kernel
theorem dX2_improveFrom_126 : decode cX2_improveFrom 126 = .ok (.iload_n 3, 1) := by decide +kernel
theorem dX2_improveFrom_127 : decode cX2_improveFrom 127 = .ok (.bipush 8, 2) := by decide +kernel
theorem dX2_improveFrom_129 : decode cX2_improveFrom 129 = .ok (.imul, 1) := by decide +kernel
theorem dX2_improveFrom_130 : decode cX2_improveFrom 130 = .ok (.iload_n 1, 1) := by decide +kernel
theorem dX2_improveFrom_131 : decode cX2_improveFrom 131 = .ok (.iadd, 1) := by decide +kernel
theorem dX2_improveFrom_132 : decode cX2_improveFrom 132 = .ok (.iaload, 1) := by decide +kernel
theorem dX2_improveFrom_133 : decode cX2_improveFrom 133 = .ok (.iadd, 1) := by decide +kernel
theorem dX2_improveFrom_134 : decode cX2_improveFrom 134 = .ok (.invokestatic 81, 3) := by decide +kernel
theorem dX2_improveFrom_137 : decode cX2_improveFrom 137 = .ok (.aload_n 0, 1) := by decide +kernel
theorem dX2_improveFrom_138 : decode cX2_improveFrom 138 = .ok (.getfield 9, 3) := by decide +kernel
theorem dX2_improveFrom_141 : decode cX2_improveFrom 141 = .ok (.iload_n 3, 1) := by decide +kernel
theorem dX2_improveFrom_142 : decode cX2_improveFrom 142 = .ok (.dup2, 1) := by decide +kernel
theorem dX2_improveFrom_143 : decode cX2_improveFrom 143 = .ok (.iaload, 1) := by decide +kernel
theorem dX2_improveFrom_144 : decode cX2_improveFrom 144 = .ok (.iconst 1, 1) := by decide +kernel
theorem dX2_improveFrom_145 : decode cX2_improveFrom 145 = .ok (.iload_n 1, 1) := by decide +kernel
theorem dX2_improveFrom_146 : decode cX2_improveFrom 146 = .ok (.ishl, 1) := by decide +kernel
theorem dX2_improveFrom_147 : decode cX2_improveFrom 147 = .ok (.iconst (-1), 1) := by decide +kernel
theorem dX2_improveFrom_148 : decode cX2_improveFrom 148 = .ok (.ixor, 1) := by decide +kernel
theorem dX2_improveFrom_149 : decode cX2_improveFrom 149 = .ok (.iand, 1) := by decide +kernel
theorem dX2_improveFrom_150 : decode cX2_improveFrom 150 = .ok (.iastore, 1) := by decide +kernel
theorem dX2_improveFrom_151 : decode cX2_improveFrom 151 = .ok (.iinc 3 1, 3) := by decide +kernel
theorem dX2_improveFrom_154 : decode cX2_improveFrom 154 = .ok (.goto (-76), 3) := by decide +kernel
theorem dX2_improveFrom_157 : decode cX2_improveFrom 157 = .ok (.return_, 1) := by decide +kernel
theorem dX2_partsPlayedBy_0 : decode cX2_partsPlayedBy 0 = .ok (.iconst 0, 1) := by decide +kernel
theorem dX2_partsPlayedBy_1 : decode cX2_partsPlayedBy 1 = .ok (.istore_n 2, 1) := by decide +kernel
theorem dX2_partsPlayedBy_2 : decode cX2_partsPlayedBy 2 = .ok (.iconst 0, 1) := by decide +kernel
theorem dX2_partsPlayedBy_3 : decode cX2_partsPlayedBy 3 = .ok (.istore_n 3, 1) := by decide +kernel
theorem dX2_partsPlayedBy_4 : decode cX2_partsPlayedBy 4 = .ok (.iload_n 3, 1) := by decide +kernel
theorem dX2_partsPlayedBy_5 : decode cX2_partsPlayedBy 5 = .ok (.aload_n 0, 1) := by decide +kernel
theorem dX2_partsPlayedBy_6 : decode cX2_partsPlayedBy 6 = .ok (.getfield 27, 3) := by decide +kernel
theorem dX2_partsPlayedBy_9 : decode cX2_partsPlayedBy 9 = .ok (.getfield 64, 3) := by decide +kernel
theorem dX2_partsPlayedBy_12 : decode cX2_partsPlayedBy 12 = .ok (.if_icmp .ge 25, 3) := by decide +kernel
theorem dX2_partsPlayedBy_15 : decode cX2_partsPlayedBy 15 = .ok (.aload_n 0, 1) := by decide +kernel
theorem dX2_partsPlayedBy_16 : decode cX2_partsPlayedBy 16 = .ok (.getfield 24, 3) := by decide +kernel
theorem dX2_partsPlayedBy_19 : decode cX2_partsPlayedBy 19 = .ok (.iload_n 3, 1) := by decide +kernel
theorem dX2_partsPlayedBy_20 : decode cX2_partsPlayedBy 20 = .ok (.iaload, 1) := by decide +kernel
theorem dX2_partsPlayedBy_21 : decode cX2_partsPlayedBy 21 = .ok (.iload_n 1, 1) := by decide +kernel
theorem dX2_partsPlayedBy_22 : decode cX2_partsPlayedBy 22 = .ok (.if_icmp .ne 9, 3) := by decide +kernel
theorem dX2_partsPlayedBy_25 : decode cX2_partsPlayedBy 25 = .ok (.iload_n 2, 1) := by decide +kernel
theorem dX2_partsPlayedBy_26 : decode cX2_partsPlayedBy 26 = .ok (.iconst 1, 1) := by decide +kernel
theorem dX2_partsPlayedBy_27 : decode cX2_partsPlayedBy 27 = .ok (.iload_n 3, 1) := by decide +kernel
theorem dX2_partsPlayedBy_28 : decode cX2_partsPlayedBy 28 = .ok (.ishl, 1) := by decide +kernel
theorem dX2_partsPlayedBy_29 : decode cX2_partsPlayedBy 29 = .ok (.ior, 1) := by decide +kernel
theorem dX2_partsPlayedBy_30 : decode cX2_partsPlayedBy 30 = .ok (.istore_n 2, 1) := by decide +kernel
theorem dX2_partsPlayedBy_31 : decode cX2_partsPlayedBy 31 = .ok (.iinc 3 1, 3) := by decide +kernel
theorem dX2_partsPlayedBy_34 : decode cX2_partsPlayedBy 34 = .ok (.goto (-30), 3) := by decide +kernel
theorem dX2_partsPlayedBy_37 : decode cX2_partsPlayedBy 37 = .ok (.iload_n 2, 1) := by decide +kernel
theorem dX2_partsPlayedBy_38 : decode cX2_partsPlayedBy 38 = .ok (.ireturn, 1) := by decide +kernel
theorem dX2_partsNotByOwners_0 : decode cX2_partsNotByOwners 0 = .ok (.iconst 0, 1) := by decide +kernel
theorem dX2_partsNotByOwners_1 : decode cX2_partsNotByOwners 1 = .ok (.istore_n 1, 1) := by decide +kernel
theorem dX2_partsNotByOwners_2 : decode cX2_partsNotByOwners 2 = .ok (.iconst 0, 1) := by decide +kernel
theorem dX2_partsNotByOwners_3 : decode cX2_partsNotByOwners 3 = .ok (.istore_n 2, 1) := by decide +kernel
theorem dX2_partsNotByOwners_4 : decode cX2_partsNotByOwners 4 = .ok (.iload_n 2, 1) := by decide +kernel
theorem dX2_partsNotByOwners_5 : decode cX2_partsNotByOwners 5 = .ok (.aload_n 0, 1) := by decide +kernel
theorem dX2_partsNotByOwners_6 : decode cX2_partsNotByOwners 6 = .ok (.getfield 27, 3) := by decide +kernel
theorem dX2_partsNotByOwners_9 : decode cX2_partsNotByOwners 9 = .ok (.getfield 64, 3) := by decide +kernel
theorem dX2_partsNotByOwners_12 : decode cX2_partsNotByOwners 12 = .ok (.if_icmp .ge 39, 3) := by decide +kernel
theorem dX2_partsNotByOwners_15 : decode cX2_partsNotByOwners 15 = .ok (.aload_n 0, 1) := by decide +kernel
theorem dX2_partsNotByOwners_16 : decode cX2_partsNotByOwners 16 = .ok (.getfield 24, 3) := by decide +kernel
theorem dX2_partsNotByOwners_19 : decode cX2_partsNotByOwners 19 = .ok (.iload_n 2, 1) := by decide +kernel
theorem dX2_partsNotByOwners_20 : decode cX2_partsNotByOwners 20 = .ok (.iaload, 1) := by decide +kernel
theorem dX2_partsNotByOwners_21 : decode cX2_partsNotByOwners 21 = .ok (.ifCond .lt 24, 3) := by decide +kernel
theorem dX2_partsNotByOwners_24 : decode cX2_partsNotByOwners 24 = .ok (.aload_n 0, 1) := by decide +kernel
theorem dX2_partsNotByOwners_25 : decode cX2_partsNotByOwners 25 = .ok (.getfield 24, 3) := by decide +kernel
theorem dX2_partsNotByOwners_28 : decode cX2_partsNotByOwners 28 = .ok (.iload_n 2, 1) := by decide +kernel
theorem dX2_partsNotByOwners_29 : decode cX2_partsNotByOwners 29 = .ok (.iaload, 1) := by decide +kernel
theorem dX2_partsNotByOwners_30 : decode cX2_partsNotByOwners 30 = .ok (.aload_n 0, 1) := by decide +kernel
theorem dX2_partsNotByOwners_31 : decode cX2_partsNotByOwners 31 = .ok (.getfield 27, 3) := by decide +kernel
theorem dX2_partsNotByOwners_34 : decode cX2_partsNotByOwners 34 = .ok (.getfield 91, 3) := by decide +kernel
theorem dX2_partsNotByOwners_37 : decode cX2_partsNotByOwners 37 = .ok (.iload_n 2, 1) := by decide +kernel
theorem dX2_partsNotByOwners_38 : decode cX2_partsNotByOwners 38 = .ok (.iaload, 1) := by decide +kernel
theorem dX2_partsNotByOwners_39 : decode cX2_partsNotByOwners 39 = .ok (.if_icmp .eq 6, 3) := by decide +kernel
theorem dX2_partsNotByOwners_42 : decode cX2_partsNotByOwners 42 = .ok (.iinc 1 1, 3) := by decide +kernel
theorem dX2_partsNotByOwners_45 : decode cX2_partsNotByOwners 45 = .ok (.iinc 2 1, 3) := by decide +kernel
theorem dX2_partsNotByOwners_48 : decode cX2_partsNotByOwners 48 = .ok (.goto (-44), 3) := by decide +kernel
theorem dX2_partsNotByOwners_51 : decode cX2_partsNotByOwners 51 = .ok (.iload_n 1, 1) := by decide +kernel
theorem dX2_partsNotByOwners_52 : decode cX2_partsNotByOwners 52 = .ok (.ireturn, 1) := by decide +kernel
theorem dX2_forgottenLines_0 : decode cX2_forgottenLines 0 = .ok (.iconst 0, 1) := by decide +kernel
theorem dX2_forgottenLines_1 : decode cX2_forgottenLines 1 = .ok (.istore_n 2, 1) := by decide +kernel
theorem dX2_forgottenLines_2 : decode cX2_forgottenLines 2 = .ok (.iconst 0, 1) := by decide +kernel
theorem dX2_forgottenLines_3 : decode cX2_forgottenLines 3 = .ok (.istore_n 3, 1) := by decide +kernel
theorem dX2_forgottenLines_4 : decode cX2_forgottenLines 4 = .ok (.iload_n 3, 1) := by decide +kernel
theorem dX2_forgottenLines_5 : decode cX2_forgottenLines 5 = .ok (.aload_n 0, 1) := by decide +kernel
theorem dX2_forgottenLines_6 : decode cX2_forgottenLines 6 = .ok (.getfield 27, 3) := by decide +kernel
theorem dX2_forgottenLines_9 : decode cX2_forgottenLines 9 = .ok (.getfield 64, 3) := by decide +kernel
theorem dX2_forgottenLines_12 : decode cX2_forgottenLines 12 = .ok (.if_icmp .ge 36, 3) := by decide +kernel
theorem dX2_forgottenLines_15 : decode cX2_forgottenLines 15 = .ok (.aload_n 0, 1) := by decide +kernel
theorem dX2_forgottenLines_16 : decode cX2_forgottenLines 16 = .ok (.getfield 24, 3) := by decide +kernel
theorem dX2_forgottenLines_19 : decode cX2_forgottenLines 19 = .ok (.iload_n 3, 1) := by decide +kernel
theorem dX2_forgottenLines_20 : decode cX2_forgottenLines 20 = .ok (.iaload, 1) := by decide +kernel
theorem dX2_forgottenLines_21 : decode cX2_forgottenLines 21 = .ok (.ifCond .lt 21, 3) := by decide +kernel
theorem dX2_forgottenLines_24 : decode cX2_forgottenLines 24 = .ok (.iload_n 2, 1) := by decide +kernel
theorem dX2_forgottenLines_25 : decode cX2_forgottenLines 25 = .ok (.aload_n 1, 1) := by decide +kernel
theorem dX2_forgottenLines_26 : decode cX2_forgottenLines 26 = .ok (.aload_n 0, 1) := by decide +kernel
theorem dX2_forgottenLines_27 : decode cX2_forgottenLines 27 = .ok (.getfield 27, 3) := by decide +kernel
theorem dX2_forgottenLines_30 : decode cX2_forgottenLines 30 = .ok (.aload_n 0, 1) := by decide +kernel
theorem dX2_forgottenLines_31 : decode cX2_forgottenLines 31 = .ok (.getfield 24, 3) := by decide +kernel
theorem dX2_forgottenLines_34 : decode cX2_forgottenLines 34 = .ok (.iload_n 3, 1) := by decide +kernel
theorem dX2_forgottenLines_35 : decode cX2_forgottenLines 35 = .ok (.iaload, 1) := by decide +kernel
theorem dX2_forgottenLines_36 : decode cX2_forgottenLines 36 = .ok (.iload_n 3, 1) := by decide +kernel
theorem dX2_forgottenLines_37 : decode cX2_forgottenLines 37 = .ok (.invokevirtual 85, 3) := by decide +kernel
theorem dX2_forgottenLines_40 : decode cX2_forgottenLines 40 = .ok (.iadd, 1) := by decide +kernel
theorem dX2_forgottenLines_41 : decode cX2_forgottenLines 41 = .ok (.istore_n 2, 1) := by decide +kernel
theorem dX2_forgottenLines_42 : decode cX2_forgottenLines 42 = .ok (.iinc 3 1, 3) := by decide +kernel
theorem dX2_forgottenLines_45 : decode cX2_forgottenLines 45 = .ok (.goto (-41), 3) := by decide +kernel
theorem dX2_forgottenLines_48 : decode cX2_forgottenLines 48 = .ok (.iload_n 2, 1) := by decide +kernel
theorem dX2_forgottenLines_49 : decode cX2_forgottenLines 49 = .ok (.ireturn, 1) := by decide +kernel
theorem dX3_init_0 : decode cX3_init 0 = .ok (.aload_n 0, 1) := by decide +kernel
theorem dX3_init_1 : decode cX3_init 1 = .ok (.invokespecial 3, 3) := by decide +kernel
theorem dX3_init_4 : decode cX3_init 4 = .ok (.aload_n 0, 1) := by decide +kernel
theorem dX3_init_5 : decode cX3_init 5 = .ok (.bipush 10, 2) := by decide +kernel
theorem dX3_init_7 : decode cX3_init 7 = .ok (.newarray .int, 2) := by decide +kernel
theorem dX3_init_9 : decode cX3_init 9 = .ok (.putfield 9, 3) := by decide +kernel
theorem dX3_init_12 : decode cX3_init 12 = .ok (.aload_n 0, 1) := by decide +kernel
theorem dX3_init_13 : decode cX3_init 13 = .ok (.bipush 10, 2) := by decide +kernel
theorem dX3_init_15 : decode cX3_init 15 = .ok (.newarray .int, 2) := by decide +kernel
theorem dX3_init_17 : decode cX3_init 17 = .ok (.putfield 15, 3) := by decide +kernel
theorem dX3_init_20 : decode cX3_init 20 = .ok (.aload_n 0, 1) := by decide +kernel
theorem dX3_init_21 : decode cX3_init 21 = .ok (.bipush 10, 2) := by decide +kernel
theorem dX3_init_23 : decode cX3_init 23 = .ok (.newarray .int, 2) := by decide +kernel
theorem dX3_init_25 : decode cX3_init 25 = .ok (.putfield 18, 3) := by decide +kernel
theorem dX3_init_28 : decode cX3_init 28 = .ok (.aload_n 0, 1) := by decide +kernel
theorem dX3_init_29 : decode cX3_init 29 = .ok (.bipush 8, 2) := by decide +kernel
theorem dX3_init_31 : decode cX3_init 31 = .ok (.newarray .int, 2) := by decide +kernel
theorem dX3_init_33 : decode cX3_init 33 = .ok (.putfield 21, 3) := by decide +kernel
theorem dX3_init_36 : decode cX3_init 36 = .ok (.aload_n 0, 1) := by decide +kernel
theorem dX3_init_37 : decode cX3_init 37 = .ok (.bipush 8, 2) := by decide +kernel
theorem dX3_init_39 : decode cX3_init 39 = .ok (.newarray .int, 2) := by decide +kernel
theorem dX3_init_41 : decode cX3_init 41 = .ok (.putfield 24, 3) := by decide +kernel
theorem dX3_init_44 : decode cX3_init 44 = .ok (.aload_n 0, 1) := by decide +kernel
theorem dX3_init_45 : decode cX3_init 45 = .ok (.bipush 8, 2) := by decide +kernel
theorem dX3_init_47 : decode cX3_init 47 = .ok (.newarray .int, 2) := by decide +kernel
theorem dX3_init_49 : decode cX3_init 49 = .ok (.putfield 27, 3) := by decide +kernel
theorem dX3_init_52 : decode cX3_init 52 = .ok (.aload_n 0, 1) := by decide +kernel
theorem dX3_init_53 : decode cX3_init 53 = .ok (.bipush 8, 2) := by decide +kernel
theorem dX3_init_55 : decode cX3_init 55 = .ok (.newarray .int, 2) := by decide +kernel
theorem dX3_init_57 : decode cX3_init 57 = .ok (.putfield 30, 3) := by decide +kernel
theorem dX3_init_60 : decode cX3_init 60 = .ok (.aload_n 0, 1) := by decide +kernel
theorem dX3_init_61 : decode cX3_init 61 = .ok (.new 33, 3) := by decide +kernel
theorem dX3_init_64 : decode cX3_init 64 = .ok (.dup, 1) := by decide +kernel
theorem dX3_init_65 : decode cX3_init 65 = .ok (.invokespecial 35, 3) := by decide +kernel
theorem dX3_init_68 : decode cX3_init 68 = .ok (.putfield 36, 3) := by decide +kernel
theorem dX3_init_71 : decode cX3_init 71 = .ok (.aload_n 0, 1) := by decide +kernel
theorem dX3_init_72 : decode cX3_init 72 = .ok (.bipush 100, 2) := by decide +kernel
theorem dX3_init_74 : decode cX3_init 74 = .ok (.newarray .int, 2) := by decide +kernel
theorem dX3_init_76 : decode cX3_init 76 = .ok (.putfield 40, 3) := by decide +kernel
theorem dX3_init_79 : decode cX3_init 79 = .ok (.aload_n 0, 1) := by decide +kernel
theorem dX3_init_80 : decode cX3_init 80 = .ok (.bipush 8, 2) := by decide +kernel
theorem dX3_init_82 : decode cX3_init 82 = .ok (.newarray .int, 2) := by decide +kernel
theorem dX3_init_84 : decode cX3_init 84 = .ok (.putfield 43, 3) := by decide +kernel
theorem dX3_init_87 : decode cX3_init 87 = .ok (.aload_n 0, 1) := by decide +kernel
theorem dX3_init_88 : decode cX3_init 88 = .ok (.bipush 8, 2) := by decide +kernel
theorem dX3_init_90 : decode cX3_init 90 = .ok (.newarray .int, 2) := by decide +kernel
theorem dX3_init_92 : decode cX3_init 92 = .ok (.putfield 46, 3) := by decide +kernel
theorem dX3_init_95 : decode cX3_init 95 = .ok (.return_, 1) := by decide +kernel
theorem dX3_clear_0 : decode cX3_clear 0 = .ok (.aload_n 0, 1) := by decide +kernel
theorem dX3_clear_1 : decode cX3_clear 1 = .ok (.iconst 0, 1) := by decide +kernel
theorem dX3_clear_2 : decode cX3_clear 2 = .ok (.putfield 49, 3) := by decide +kernel
theorem dX3_clear_5 : decode cX3_clear 5 = .ok (.aload_n 0, 1) := by decide +kernel
theorem dX3_clear_6 : decode cX3_clear 6 = .ok (.iconst 0, 1) := by decide +kernel
theorem dX3_clear_7 : decode cX3_clear 7 = .ok (.putfield 53, 3) := by decide +kernel
theorem dX3_clear_10 : decode cX3_clear 10 = .ok (.aload_n 0, 1) := by decide +kernel
theorem dX3_clear_11 : decode cX3_clear 11 = .ok (.iconst 0, 1) := by decide +kernel
theorem dX3_clear_12 : decode cX3_clear 12 = .ok (.putfield 56, 3) := by decide +kernel
theorem dX3_clear_15 : decode cX3_clear 15 = .ok (.aload_n 0, 1) := by decide +kernel
theorem dX3_clear_16 : decode cX3_clear 16 = .ok (.iconst 0, 1) := by decide +kernel
theorem dX3_clear_17 : decode cX3_clear 17 = .ok (.putfield 59, 3) := by decide +kernel
theorem dX3_clear_20 : decode cX3_clear 20 = .ok (.aload_n 0, 1) := by decide +kernel
theorem dX3_clear_21 : decode cX3_clear 21 = .ok (.getfield 18, 3) := by decide +kernel
theorem dX3_clear_24 : decode cX3_clear 24 = .ok (.iconst 0, 1) := by decide +kernel
theorem dX3_clear_25 : decode cX3_clear 25 = .ok (.invokestatic 62, 3) := by decide +kernel
theorem dX3_clear_28 : decode cX3_clear 28 = .ok (.aload_n 0, 1) := by decide +kernel
theorem dX3_clear_29 : decode cX3_clear 29 = .ok (.getfield 30, 3) := by decide +kernel
theorem dX3_clear_32 : decode cX3_clear 32 = .ok (.bipush (-4), 2) := by decide +kernel
theorem dX3_clear_34 : decode cX3_clear 34 = .ok (.invokestatic 62, 3) := by decide +kernel
theorem dX3_clear_37 : decode cX3_clear 37 = .ok (.aload_n 0, 1) := by decide +kernel
theorem dX3_clear_38 : decode cX3_clear 38 = .ok (.getfield 40, 3) := by decide +kernel
theorem dX3_clear_41 : decode cX3_clear 41 = .ok (.iconst 0, 1) := by decide +kernel
theorem dX3_clear_42 : decode cX3_clear 42 = .ok (.invokestatic 62, 3) := by decide +kernel
theorem dX3_clear_45 : decode cX3_clear 45 = .ok (.aload_n 0, 1) := by decide +kernel
theorem dX3_clear_46 : decode cX3_clear 46 = .ok (.getfield 36, 3) := by decide +kernel
theorem dX3_clear_49 : decode cX3_clear 49 = .ok (.invokevirtual 68, 3) := by decide +kernel
theorem dX3_clear_52 : decode cX3_clear 52 = .ok (.aload_n 0, 1) := by decide +kernel
theorem dX3_clear_53 : decode cX3_clear 53 = .ok (.iconst 1, 1) := by decide +kernel
theorem dX3_clear_54 : decode cX3_clear 54 = .ok (.putfield 71, 3) := by decide +kernel
theorem dX3_clear_57 : decode cX3_clear 57 = .ok (.aload_n 0, 1) := by decide +kernel
theorem dX3_clear_58 : decode cX3_clear 58 = .ok (.bipush 10, 2) := by decide +kernel
theorem dX3_clear_60 : decode cX3_clear 60 = .ok (.putfield 74, 3) := by decide +kernel
theorem dX3_clear_63 : decode cX3_clear 63 = .ok (.aload_n 0, 1) := by decide +kernel
theorem dX3_clear_64 : decode cX3_clear 64 = .ok (.bipush 100, 2) := by decide +kernel
theorem dX3_clear_66 : decode cX3_clear 66 = .ok (.putfield 77, 3) := by decide +kernel
theorem dX3_clear_69 : decode cX3_clear 69 = .ok (.aload_n 0, 1) := by decide +kernel
theorem dX3_clear_70 : decode cX3_clear 70 = .ok (.iconst 5, 1) := by decide +kernel
theorem dX3_clear_71 : decode cX3_clear 71 = .ok (.putfield 80, 3) := by decide +kernel
theorem dX3_clear_74 : decode cX3_clear 74 = .ok (.return_, 1) := by decide +kernel
theorem dX3_take_0 : decode cX3_take 0 = .ok (.aload_n 2, 1) := by decide +kernel
theorem dX3_take_1 : decode cX3_take 1 = .ok (.iconst 0, 1) := by decide +kernel
theorem dX3_take_2 : decode cX3_take 2 = .ok (.iaload, 1) := by decide +kernel
theorem dX3_take_3 : decode cX3_take 3 = .ok (.istore 4, 2) := by decide +kernel
theorem dX3_take_5 : decode cX3_take 5 = .ok (.aload_n 2, 1) := by decide +kernel
theorem dX3_take_6 : decode cX3_take 6 = .ok (.iconst 1, 1) := by decide +kernel
theorem dX3_take_7 : decode cX3_take 7 = .ok (.iaload, 1) := by decide +kernel
theorem dX3_take_8 : decode cX3_take 8 = .ok (.istore 5, 2) := by decide +kernel
theorem dX3_take_10 : decode cX3_take 10 = .ok (.aload_n 2, 1) := by decide +kernel
theorem dX3_take_11 : decode cX3_take 11 = .ok (.iconst 2, 1) := by decide +kernel
theorem dX3_take_12 : decode cX3_take 12 = .ok (.iaload, 1) := by decide +kernel
theorem dX3_take_13 : decode cX3_take 13 = .ok (.istore 6, 2) := by decide +kernel
theorem dX3_take_15 : decode cX3_take 15 = .ok (.aload_n 2, 1) := by decide +kernel
theorem dX3_take_16 : decode cX3_take 16 = .ok (.iconst 3, 1) := by decide +kernel
theorem dX3_take_17 : decode cX3_take 17 = .ok (.iaload, 1) := by decide +kernel
theorem dX3_take_18 : decode cX3_take 18 = .ok (.istore 7, 2) := by decide +kernel
theorem dX3_take_20 : decode cX3_take 20 = .ok (.iload_n 1, 1) := by decide +kernel
theorem dX3_take_21 : decode cX3_take 21 = .ok (.tableswitch 331 97 120 #[111, 331, 159, 331, 331, 289, 331, 331, 331, 331, 203, 331, 249, 331, 181, 133, 331, 331, 331, 269, 331, 331, 309, 225], 111) := by decide +kernel
theorem dX3_take_132 : decode cX3_take 132 = .ok (.iload_n 3, 1) := by decide +kernel
theorem dX3_take_133 : decode cX3_take 133 = .ok (.iconst 2, 1) := by decide +kernel
theorem dX3_take_134 : decode cX3_take 134 = .ok (.if_icmp .ne 18, 3) := by decide +kernel
theorem dX3_take_137 : decode cX3_take 137 = .ok (.aload_n 0, 1) := by decide +kernel
theorem dX3_take_138 : decode cX3_take 138 = .ok (.iload 4, 2) := by decide +kernel
theorem dX3_take_140 : decode cX3_take 140 = .ok (.iload 5, 2) := by decide +kernel
theorem dX3_take_142 : decode cX3_take 142 = .ok (.invokevirtual 83, 3) := by decide +kernel
theorem dX3_take_145 : decode cX3_take 145 = .ok (.ifCond .eq 7, 3) := by decide +kernel
theorem dX3_take_148 : decode cX3_take 148 = .ok (.iconst 1, 1) := by decide +kernel
theorem dX3_take_149 : decode cX3_take 149 = .ok (.goto 4, 3) := by decide +kernel
theorem dX3_take_152 : decode cX3_take 152 = .ok (.iconst 0, 1) := by decide +kernel
theorem dX3_take_153 : decode cX3_take 153 = .ok (.ireturn, 1) := by decide +kernel
theorem dX3_take_154 : decode cX3_take 154 = .ok (.iload_n 3, 1) := by decide +kernel
theorem dX3_take_155 : decode cX3_take 155 = .ok (.iconst 4, 1) := by decide +kernel
theorem dX3_take_156 : decode cX3_take 156 = .ok (.if_icmp .ne 22, 3) := by decide +kernel
theorem dX3_take_159 : decode cX3_take 159 = .ok (.aload_n 0, 1) := by decide +kernel
theorem dX3_take_160 : decode cX3_take 160 = .ok (.iload 4, 2) := by decide +kernel
theorem dX3_take_162 : decode cX3_take 162 = .ok (.iload 5, 2) := by decide +kernel
theorem dX3_take_164 : decode cX3_take 164 = .ok (.iload 6, 2) := by decide +kernel
theorem dX3_take_166 : decode cX3_take 166 = .ok (.iload 7, 2) := by decide +kernel
theorem dX3_take_168 : decode cX3_take 168 = .ok (.invokevirtual 87, 3) := by decide +kernel
theorem dX3_take_171 : decode cX3_take 171 = .ok (.ifCond .eq 7, 3) := by decide +kernel
theorem dX3_take_174 : decode cX3_take 174 = .ok (.iconst 1, 1) := by decide +kernel
theorem dX3_take_175 : decode cX3_take 175 = .ok (.goto 4, 3) := by decide +kernel
theorem dX3_take_178 : decode cX3_take 178 = .ok (.iconst 0, 1) := by decide +kernel
theorem dX3_take_179 : decode cX3_take 179 = .ok (.ireturn, 1) := by decide +kernel
theorem dX3_take_180 : decode cX3_take 180 = .ok (.iload_n 3, 1) := by decide +kernel
theorem dX3_take_181 : decode cX3_take 181 = .ok (.iconst 2, 1) := by decide +kernel
theorem dX3_take_182 : decode cX3_take 182 = .ok (.if_icmp .ne 18, 3) := by decide +kernel
theorem dX3_take_185 : decode cX3_take 185 = .ok (.aload_n 0, 1) := by decide +kernel
theorem dX3_take_186 : decode cX3_take 186 = .ok (.iload 4, 2) := by decide +kernel
theorem dX3_take_188 : decode cX3_take 188 = .ok (.iload 5, 2) := by decide +kernel
theorem dX3_take_190 : decode cX3_take 190 = .ok (.invokevirtual 91, 3) := by decide +kernel
theorem dX3_take_193 : decode cX3_take 193 = .ok (.ifCond .eq 7, 3) := by decide +kernel
theorem dX3_take_196 : decode cX3_take 196 = .ok (.iconst 1, 1) := by decide +kernel
theorem dX3_take_197 : decode cX3_take 197 = .ok (.goto 4, 3) := by decide +kernel
theorem dX3_take_200 : decode cX3_take 200 = .ok (.iconst 0, 1) := by decide +kernel
theorem dX3_take_201 : decode cX3_take 201 = .ok (.ireturn, 1) := by decide +kernel
theorem dX3_take_202 : decode cX3_take 202 = .ok (.iload_n 3, 1) := by decide +kernel
theorem dX3_take_203 : decode cX3_take 203 = .ok (.iconst 2, 1) := by decide +kernel
theorem dX3_take_204 : decode cX3_take 204 = .ok (.if_icmp .ne 18, 3) := by decide +kernel
theorem dX3_take_207 : decode cX3_take 207 = .ok (.aload_n 0, 1) := by decide +kernel
theorem dX3_take_208 : decode cX3_take 208 = .ok (.iload 4, 2) := by decide +kernel
theorem dX3_take_210 : decode cX3_take 210 = .ok (.iload 5, 2) := by decide +kernel
theorem dX3_take_212 : decode cX3_take 212 = .ok (.invokevirtual 94, 3) := by decide +kernel
theorem dX3_take_215 : decode cX3_take 215 = .ok (.ifCond .eq 7, 3) := by decide +kernel
theorem dX3_take_218 : decode cX3_take 218 = .ok (.iconst 1, 1) := by decide +kernel
theorem dX3_take_219 : decode cX3_take 219 = .ok (.goto 4, 3) := by decide +kernel
theorem dX3_take_222 : decode cX3_take 222 = .ok (.iconst 0, 1) := by decide +kernel
theorem dX3_take_223 : decode cX3_take 223 = .ok (.ireturn, 1) := by decide +kernel
theorem dX3_take_224 : decode cX3_take 224 = .ok (.iload_n 3, 1) := by decide +kernel
theorem dX3_take_225 : decode cX3_take 225 = .ok (.iconst 2, 1) := by decide +kernel
theorem dX3_take_226 : decode cX3_take 226 = .ok (.if_icmp .ne 18, 3) := by decide +kernel
theorem dX3_take_229 : decode cX3_take 229 = .ok (.aload_n 0, 1) := by decide +kernel
theorem dX3_take_230 : decode cX3_take 230 = .ok (.iload 4, 2) := by decide +kernel
theorem dX3_take_232 : decode cX3_take 232 = .ok (.iload 5, 2) := by decide +kernel
theorem dX3_take_234 : decode cX3_take 234 = .ok (.invokevirtual 97, 3) := by decide +kernel
theorem dX3_take_237 : decode cX3_take 237 = .ok (.ifCond .eq 7, 3) := by decide +kernel
theorem dX3_take_240 : decode cX3_take 240 = .ok (.iconst 1, 1) := by decide +kernel
theorem dX3_take_241 : decode cX3_take 241 = .ok (.goto 4, 3) := by decide +kernel
theorem dX3_take_244 : decode cX3_take 244 = .ok (.iconst 0, 1) := by decide +kernel
theorem dX3_take_245 : decode cX3_take 245 = .ok (.ireturn, 1) := by decide +kernel
theorem dX3_take_246 : decode cX3_take 246 = .ok (.iload_n 3, 1) := by decide +kernel
theorem dX3_take_247 : decode cX3_take 247 = .ok (.iconst 3, 1) := by decide +kernel
theorem dX3_take_248 : decode cX3_take 248 = .ok (.if_icmp .ne 20, 3) := by decide +kernel
theorem dX3_take_251 : decode cX3_take 251 = .ok (.aload_n 0, 1) := by decide +kernel
theorem dX3_take_252 : decode cX3_take 252 = .ok (.iload 4, 2) := by decide +kernel
theorem dX3_take_254 : decode cX3_take 254 = .ok (.iload 5, 2) := by decide +kernel
theorem dX3_take_256 : decode cX3_take 256 = .ok (.iload 6, 2) := by decide +kernel
theorem dX3_take_258 : decode cX3_take 258 = .ok (.invokevirtual 100, 3) := by decide +kernel
theorem dX3_take_261 : decode cX3_take 261 = .ok (.ifCond .eq 7, 3) := by decide +kernel
theorem dX3_take_264 : decode cX3_take 264 = .ok (.iconst 1, 1) := by decide +kernel
theorem dX3_take_265 : decode cX3_take 265 = .ok (.goto 4, 3) := by decide +kernel
theorem dX3_take_268 : decode cX3_take 268 = .ok (.iconst 0, 1) := by decide +kernel
theorem dX3_take_269 : decode cX3_take 269 = .ok (.ireturn, 1) := by decide +kernel
theorem dX3_take_270 : decode cX3_take 270 = .ok (.iload_n 3, 1) := by decide +kernel
theorem dX3_take_271 : decode cX3_take 271 = .ok (.iconst 1, 1) := by decide +kernel
theorem dX3_take_272 : decode cX3_take 272 = .ok (.if_icmp .ne 16, 3) := by decide +kernel
theorem dX3_take_275 : decode cX3_take 275 = .ok (.aload_n 0, 1) := by decide +kernel
theorem dX3_take_276 : decode cX3_take 276 = .ok (.iload 4, 2) := by decide +kernel
theorem dX3_take_278 : decode cX3_take 278 = .ok (.invokevirtual 104, 3) := by decide +kernel
theorem dX3_take_281 : decode cX3_take 281 = .ok (.ifCond .eq 7, 3) := by decide +kernel
theorem dX3_take_284 : decode cX3_take 284 = .ok (.iconst 1, 1) := by decide +kernel
theorem dX3_take_285 : decode cX3_take 285 = .ok (.goto 4, 3) := by decide +kernel
theorem dX3_take_288 : decode cX3_take 288 = .ok (.iconst 0, 1) := by decide +kernel
theorem dX3_take_289 : decode cX3_take 289 = .ok (.ireturn, 1) := by decide +kernel
theorem dX3_take_290 : decode cX3_take 290 = .ok (.iload_n 3, 1) := by decide +kernel
theorem dX3_take_291 : decode cX3_take 291 = .ok (.iconst 1, 1) := by decide +kernel
theorem dX3_take_292 : decode cX3_take 292 = .ok (.if_icmp .ne 16, 3) := by decide +kernel
theorem dX3_take_295 : decode cX3_take 295 = .ok (.aload_n 0, 1) := by decide +kernel
theorem dX3_take_296 : decode cX3_take 296 = .ok (.iload 4, 2) := by decide +kernel
theorem dX3_take_298 : decode cX3_take 298 = .ok (.invokevirtual 108, 3) := by decide +kernel
theorem dX3_take_301 : decode cX3_take 301 = .ok (.ifCond .eq 7, 3) := by decide +kernel
theorem dX3_take_304 : decode cX3_take 304 = .ok (.iconst 1, 1) := by decide +kernel
theorem dX3_take_305 : decode cX3_take 305 = .ok (.goto 4, 3) := by decide +kernel
theorem dX3_take_308 : decode cX3_take 308 = .ok (.iconst 0, 1) := by decide +kernel
theorem dX3_take_309 : decode cX3_take 309 = .ok (.ireturn, 1) := by decide +kernel
theorem dX3_take_310 : decode cX3_take 310 = .ok (.iload_n 3, 1) := by decide +kernel
theorem dX3_take_311 : decode cX3_take 311 = .ok (.iconst 1, 1) := by decide +kernel
theorem dX3_take_312 : decode cX3_take 312 = .ok (.if_icmp .ne 16, 3) := by decide +kernel
theorem dX3_take_315 : decode cX3_take 315 = .ok (.aload_n 0, 1) := by decide +kernel
theorem dX3_take_316 : decode cX3_take 316 = .ok (.iload 4, 2) := by decide +kernel
theorem dX3_take_318 : decode cX3_take 318 = .ok (.invokevirtual 111, 3) := by decide +kernel
theorem dX3_take_321 : decode cX3_take 321 = .ok (.ifCond .eq 7, 3) := by decide +kernel
theorem dX3_take_324 : decode cX3_take 324 = .ok (.iconst 1, 1) := by decide +kernel
theorem dX3_take_325 : decode cX3_take 325 = .ok (.goto 4, 3) := by decide +kernel
theorem dX3_take_328 : decode cX3_take 328 = .ok (.iconst 0, 1) := by decide +kernel
theorem dX3_take_329 : decode cX3_take 329 = .ok (.ireturn, 1) := by decide +kernel
theorem dX3_take_330 : decode cX3_take 330 = .ok (.iload_n 3, 1) := by decide +kernel
theorem dX3_take_331 : decode cX3_take 331 = .ok (.iconst 2, 1) := by decide +kernel
theorem dX3_take_332 : decode cX3_take 332 = .ok (.if_icmp .ne 18, 3) := by decide +kernel
theorem dX3_take_335 : decode cX3_take 335 = .ok (.aload_n 0, 1) := by decide +kernel
theorem dX3_take_336 : decode cX3_take 336 = .ok (.iload 4, 2) := by decide +kernel
theorem dX3_take_338 : decode cX3_take 338 = .ok (.iload 5, 2) := by decide +kernel
theorem dX3_take_340 : decode cX3_take 340 = .ok (.invokevirtual 114, 3) := by decide +kernel
theorem dX3_take_343 : decode cX3_take 343 = .ok (.ifCond .eq 7, 3) := by decide +kernel
theorem dX3_take_346 : decode cX3_take 346 = .ok (.iconst 1, 1) := by decide +kernel
theorem dX3_take_347 : decode cX3_take 347 = .ok (.goto 4, 3) := by decide +kernel
theorem dX3_take_350 : decode cX3_take 350 = .ok (.iconst 0, 1) := by decide +kernel
theorem dX3_take_351 : decode cX3_take 351 = .ok (.ireturn, 1) := by decide +kernel
theorem dX3_take_352 : decode cX3_take 352 = .ok (.iconst 0, 1) := by decide +kernel
theorem dX3_take_353 : decode cX3_take 353 = .ok (.ireturn, 1) := by decide +kernel
theorem dX3_addPlayer_0 : decode cX3_addPlayer 0 = .ok (.aload_n 0, 1) := by decide +kernel
theorem dX3_addPlayer_1 : decode cX3_addPlayer 1 = .ok (.getfield 49, 3) := by decide +kernel
theorem dX3_addPlayer_4 : decode cX3_addPlayer 4 = .ok (.bipush 10, 2) := by decide +kernel
theorem dX3_addPlayer_6 : decode cX3_addPlayer 6 = .ok (.if_icmp .ge 15, 3) := by decide +kernel
theorem dX3_addPlayer_9 : decode cX3_addPlayer 9 = .ok (.iload_n 1, 1) := by decide +kernel
theorem dX3_addPlayer_10 : decode cX3_addPlayer 10 = .ok (.bipush 99, 2) := by decide +kernel
theorem dX3_addPlayer_12 : decode cX3_addPlayer 12 = .ok (.if_icmp .gt 9, 3) := by decide +kernel
theorem dX3_addPlayer_15 : decode cX3_addPlayer 15 = .ok (.iload_n 2, 1) := by decide +kernel
theorem dX3_addPlayer_16 : decode cX3_addPlayer 16 = .ok (.bipush 15, 2) := by decide +kernel
theorem dX3_addPlayer_18 : decode cX3_addPlayer 18 = .ok (.if_icmp .le 5, 3) := by decide +kernel
theorem dX3_addPlayer_21 : decode cX3_addPlayer 21 = .ok (.iconst 0, 1) := by decide +kernel
theorem dX3_addPlayer_22 : decode cX3_addPlayer 22 = .ok (.ireturn, 1) := by decide +kernel
theorem dX3_addPlayer_23 : decode cX3_addPlayer 23 = .ok (.aload_n 0, 1) := by decide +kernel
theorem dX3_addPlayer_24 : decode cX3_addPlayer 24 = .ok (.getfield 9, 3) := by decide +kernel
theorem dX3_addPlayer_27 : decode cX3_addPlayer 27 = .ok (.aload_n 0, 1) := by decide +kernel
theorem dX3_addPlayer_28 : decode cX3_addPlayer 28 = .ok (.getfield 49, 3) := by decide +kernel
theorem dX3_addPlayer_31 : decode cX3_addPlayer 31 = .ok (.iload_n 1, 1) := by decide +kernel
theorem dX3_addPlayer_32 : decode cX3_addPlayer 32 = .ok (.iastore, 1) := by decide +kernel
theorem dX3_addPlayer_33 : decode cX3_addPlayer 33 = .ok (.aload_n 0, 1) := by decide +kernel
theorem dX3_addPlayer_34 : decode cX3_addPlayer 34 = .ok (.getfield 15, 3) := by decide +kernel
theorem dX3_addPlayer_37 : decode cX3_addPlayer 37 = .ok (.aload_n 0, 1) := by decide +kernel
theorem dX3_addPlayer_38 : decode cX3_addPlayer 38 = .ok (.getfield 49, 3) := by decide +kernel
theorem dX3_addPlayer_41 : decode cX3_addPlayer 41 = .ok (.iload_n 2, 1) := by decide +kernel
theorem dX3_addPlayer_42 : decode cX3_addPlayer 42 = .ok (.iastore, 1) := by decide +kernel
theorem dX3_addPlayer_43 : decode cX3_addPlayer 43 = .ok (.aload_n 0, 1) := by decide +kernel
theorem dX3_addPlayer_44 : decode cX3_addPlayer 44 = .ok (.dup, 1) := by decide +kernel
theorem dX3_addPlayer_45 : decode cX3_addPlayer 45 = .ok (.getfield 49, 3) := by decide +kernel
theorem dX3_addPlayer_48 : decode cX3_addPlayer 48 = .ok (.iconst 1, 1) := by decide +kernel
theorem dX3_addPlayer_49 : decode cX3_addPlayer 49 = .ok (.iadd, 1) := by decide +kernel
theorem dX3_addPlayer_50 : decode cX3_addPlayer 50 = .ok (.putfield 49, 3) := by decide +kernel
theorem dX3_addPlayer_53 : decode cX3_addPlayer 53 = .ok (.iconst 1, 1) := by decide +kernel
theorem dX3_addPlayer_54 : decode cX3_addPlayer 54 = .ok (.ireturn, 1) := by decide +kernel
theorem dX3_addPart_0 : decode cX3_addPart 0 = .ok (.aload_n 0, 1) := by decide +kernel
theorem dX3_addPart_1 : decode cX3_addPart 1 = .ok (.getfield 53, 3) := by decide +kernel
theorem dX3_addPart_4 : decode cX3_addPart 4 = .ok (.bipush 8, 2) := by decide +kernel
theorem dX3_addPart_6 : decode cX3_addPart 6 = .ok (.if_icmp .ge 33, 3) := by decide +kernel
theorem dX3_addPart_9 : decode cX3_addPart 9 = .ok (.iload_n 1, 1) := by decide +kernel
theorem dX3_addPart_10 : decode cX3_addPart 10 = .ok (.bipush 99, 2) := by decide +kernel
theorem dX3_addPart_12 : decode cX3_addPart 12 = .ok (.if_icmp .gt 27, 3) := by decide +kernel
theorem dX3_addPart_15 : decode cX3_addPart 15 = .ok (.iload_n 2, 1) := by decide +kernel
theorem dX3_addPart_16 : decode cX3_addPart 16 = .ok (.bipush 15, 2) := by decide +kernel
theorem dX3_addPart_18 : decode cX3_addPart 18 = .ok (.if_icmp .gt 21, 3) := by decide +kernel
theorem dX3_addPart_21 : decode cX3_addPart 21 = .ok (.iload_n 3, 1) := by decide +kernel
theorem dX3_addPart_22 : decode cX3_addPart 22 = .ok (.iconst 1, 1) := by decide +kernel
theorem dX3_addPart_23 : decode cX3_addPart 23 = .ok (.if_icmp .lt 16, 3) := by decide +kernel
theorem dX3_addPart_26 : decode cX3_addPart 26 = .ok (.iload_n 3, 1) := by decide +kernel
theorem dX3_addPart_27 : decode cX3_addPart 27 = .ok (.sipush 999, 3) := by decide +kernel
theorem dX3_addPart_30 : decode cX3_addPart 30 = .ok (.if_icmp .gt 9, 3) := by decide +kernel
theorem dX3_addPart_33 : decode cX3_addPart 33 = .ok (.iload 4, 2) := by decide +kernel
theorem dX3_addPart_35 : decode cX3_addPart 35 = .ok (.iconst 1, 1) := by decide +kernel
theorem dX3_addPart_36 : decode cX3_addPart 36 = .ok (.if_icmp .le 5, 3) := by decide +kernel
theorem dX3_addPart_39 : decode cX3_addPart 39 = .ok (.iconst 0, 1) := by decide +kernel
theorem dX3_addPart_40 : decode cX3_addPart 40 = .ok (.ireturn, 1) := by decide +kernel
theorem dX3_addPart_41 : decode cX3_addPart 41 = .ok (.aload_n 0, 1) := by decide +kernel
theorem dX3_addPart_42 : decode cX3_addPart 42 = .ok (.getfield 21, 3) := by decide +kernel
theorem dX3_addPart_45 : decode cX3_addPart 45 = .ok (.aload_n 0, 1) := by decide +kernel
theorem dX3_addPart_46 : decode cX3_addPart 46 = .ok (.getfield 53, 3) := by decide +kernel
theorem dX3_addPart_49 : decode cX3_addPart 49 = .ok (.iload_n 1, 1) := by decide +kernel
theorem dX3_addPart_50 : decode cX3_addPart 50 = .ok (.iastore, 1) := by decide +kernel
theorem dX3_addPart_51 : decode cX3_addPart 51 = .ok (.aload_n 0, 1) := by decide +kernel
theorem dX3_addPart_52 : decode cX3_addPart 52 = .ok (.getfield 24, 3) := by decide +kernel
theorem dX3_addPart_55 : decode cX3_addPart 55 = .ok (.aload_n 0, 1) := by decide +kernel
theorem dX3_addPart_56 : decode cX3_addPart 56 = .ok (.getfield 53, 3) := by decide +kernel
theorem dX3_addPart_59 : decode cX3_addPart 59 = .ok (.iload_n 2, 1) := by decide +kernel
theorem dX3_addPart_60 : decode cX3_addPart 60 = .ok (.iastore, 1) := by decide +kernel
theorem dX3_addPart_61 : decode cX3_addPart 61 = .ok (.aload_n 0, 1) := by decide +kernel
theorem dX3_addPart_62 : decode cX3_addPart 62 = .ok (.getfield 27, 3) := by decide +kernel
theorem dX3_addPart_65 : decode cX3_addPart 65 = .ok (.aload_n 0, 1) := by decide +kernel
theorem dX3_addPart_66 : decode cX3_addPart 66 = .ok (.getfield 53, 3) := by decide +kernel
theorem dX3_addPart_69 : decode cX3_addPart 69 = .ok (.iload_n 3, 1) := by decide +kernel
theorem dX3_addPart_70 : decode cX3_addPart 70 = .ok (.iastore, 1) := by decide +kernel
theorem dX3_addPart_71 : decode cX3_addPart 71 = .ok (.aload_n 0, 1) := by decide +kernel
theorem dX3_addPart_72 : decode cX3_addPart 72 = .ok (.dup, 1) := by decide +kernel
theorem dX3_addPart_73 : decode cX3_addPart 73 = .ok (.getfield 59, 3) := by decide +kernel
theorem dX3_addPart_76 : decode cX3_addPart 76 = .ok (.iload 4, 2) := by decide +kernel
theorem dX3_addPart_78 : decode cX3_addPart 78 = .ok (.aload_n 0, 1) := by decide +kernel
theorem dX3_addPart_79 : decode cX3_addPart 79 = .ok (.getfield 53, 3) := by decide +kernel
theorem dX3_addPart_82 : decode cX3_addPart 82 = .ok (.ishl, 1) := by decide +kernel
theorem dX3_addPart_83 : decode cX3_addPart 83 = .ok (.ior, 1) := by decide +kernel
theorem dX3_addPart_84 : decode cX3_addPart 84 = .ok (.putfield 59, 3) := by decide +kernel
theorem dX3_addPart_87 : decode cX3_addPart 87 = .ok (.aload_n 0, 1) := by decide +kernel
theorem dX3_addPart_88 : decode cX3_addPart 88 = .ok (.dup, 1) := by decide +kernel
theorem dX3_addPart_89 : decode cX3_addPart 89 = .ok (.getfield 53, 3) := by decide +kernel
theorem dX3_addPart_92 : decode cX3_addPart 92 = .ok (.iconst 1, 1) := by decide +kernel
theorem dX3_addPart_93 : decode cX3_addPart 93 = .ok (.iadd, 1) := by decide +kernel
theorem dX3_addPart_94 : decode cX3_addPart 94 = .ok (.putfield 53, 3) := by decide +kernel
theorem dX3_addPart_97 : decode cX3_addPart 97 = .ok (.iconst 1, 1) := by decide +kernel
theorem dX3_addPart_98 : decode cX3_addPart 98 = .ok (.ireturn, 1) := by decide +kernel
theorem dX3_tellScene_0 : decode cX3_tellScene 0 = .ok (.aload_n 0, 1) := by decide +kernel
theorem dX3_tellScene_1 : decode cX3_tellScene 1 = .ok (.getfield 36, 3) := by decide +kernel
theorem dX3_tellScene_4 : decode cX3_tellScene 4 = .ok (.getfield 117, 3) := by decide +kernel
theorem dX3_tellScene_7 : decode cX3_tellScene 7 = .ok (.bipush 10, 2) := by decide +kernel
theorem dX3_tellScene_9 : decode cX3_tellScene 9 = .ok (.if_icmp .ge 27, 3) := by decide +kernel
theorem dX3_tellScene_12 : decode cX3_tellScene 12 = .ok (.iload_n 1, 1) := by decide +kernel
theorem dX3_tellScene_13 : decode cX3_tellScene 13 = .ok (.iconst 1, 1) := by decide +kernel
theorem dX3_tellScene_14 : decode cX3_tellScene 14 = .ok (.if_icmp .lt 22, 3) := by decide +kernel
theorem dX3_tellScene_17 : decode cX3_tellScene 17 = .ok (.aload_n 0, 1) := by decide +kernel
theorem dX3_tellScene_18 : decode cX3_tellScene 18 = .ok (.iload_n 1, 1) := by decide +kernel
theorem dX3_tellScene_19 : decode cX3_tellScene 19 = .ok (.invokevirtual 120, 3) := by decide +kernel
theorem dX3_tellScene_22 : decode cX3_tellScene 22 = .ok (.ifCond .eq 14, 3) := by decide +kernel
theorem dX3_tellScene_25 : decode cX3_tellScene 25 = .ok (.iload_n 2, 1) := by decide +kernel
theorem dX3_tellScene_26 : decode cX3_tellScene 26 = .ok (.iconst 1, 1) := by decide +kernel
theorem dX3_tellScene_27 : decode cX3_tellScene 27 = .ok (.if_icmp .lt 9, 3) := by decide +kernel
theorem dX3_tellScene_30 : decode cX3_tellScene 30 = .ok (.iload_n 2, 1) := by decide +kernel
theorem dX3_tellScene_31 : decode cX3_tellScene 31 = .ok (.bipush 99, 2) := by decide +kernel
theorem dX3_tellScene_33 : decode cX3_tellScene 33 = .ok (.if_icmp .le 5, 3) := by decide +kernel
theorem dX3_tellScene_36 : decode cX3_tellScene 36 = .ok (.iconst 0, 1) := by decide +kernel
theorem dX3_tellScene_37 : decode cX3_tellScene 37 = .ok (.ireturn, 1) := by decide +kernel
theorem dX3_tellScene_38 : decode cX3_tellScene 38 = .ok (.aload_n 0, 1) := by decide +kernel
theorem dX3_tellScene_39 : decode cX3_tellScene 39 = .ok (.getfield 36, 3) := by decide +kernel
theorem dX3_tellScene_42 : decode cX3_tellScene 42 = .ok (.iload_n 1, 1) := by decide +kernel
theorem dX3_tellScene_43 : decode cX3_tellScene 43 = .ok (.iload_n 2, 1) := by decide +kernel
theorem dX3_tellScene_44 : decode cX3_tellScene 44 = .ok (.invokevirtual 123, 3) := by decide +kernel
theorem dX3_tellScene_47 : decode cX3_tellScene 47 = .ok (.iconst 1, 1) := by decide +kernel
theorem dX3_tellScene_48 : decode cX3_tellScene 48 = .ok (.ireturn, 1) := by decide +kernel
theorem dX3_giveOwn_0 : decode cX3_giveOwn 0 = .ok (.aload_n 0, 1) := by decide +kernel
theorem dX3_giveOwn_1 : decode cX3_giveOwn 1 = .ok (.iload_n 1, 1) := by decide +kernel
theorem dX3_giveOwn_2 : decode cX3_giveOwn 2 = .ok (.invokevirtual 127, 3) := by decide +kernel
theorem dX3_giveOwn_5 : decode cX3_giveOwn 5 = .ok (.ifCond .eq 11, 3) := by decide +kernel
theorem dX3_giveOwn_8 : decode cX3_giveOwn 8 = .ok (.aload_n 0, 1) := by decide +kernel
theorem dX3_giveOwn_9 : decode cX3_giveOwn 9 = .ok (.iload_n 2, 1) := by decide +kernel
theorem dX3_giveOwn_10 : decode cX3_giveOwn 10 = .ok (.invokevirtual 130, 3) := by decide +kernel
theorem dX3_giveOwn_13 : decode cX3_giveOwn 13 = .ok (.ifCond .ne 5, 3) := by decide +kernel
theorem dX3_giveOwn_16 : decode cX3_giveOwn 16 = .ok (.iconst 0, 1) := by decide +kernel
theorem dX3_giveOwn_17 : decode cX3_giveOwn 17 = .ok (.ireturn, 1) := by decide +kernel
theorem dX3_giveOwn_18 : decode cX3_giveOwn 18 = .ok (.aload_n 0, 1) := by decide +kernel
theorem dX3_giveOwn_19 : decode cX3_giveOwn 19 = .ok (.getfield 30, 3) := by decide +kernel
theorem dX3_giveOwn_22 : decode cX3_giveOwn 22 = .ok (.iload_n 2, 1) := by decide +kernel
theorem dX3_giveOwn_23 : decode cX3_giveOwn 23 = .ok (.iload_n 1, 1) := by decide +kernel
theorem dX3_giveOwn_24 : decode cX3_giveOwn 24 = .ok (.iastore, 1) := by decide +kernel
theorem dX3_giveOwn_25 : decode cX3_giveOwn 25 = .ok (.iconst 1, 1) := by decide +kernel
theorem dX3_giveOwn_26 : decode cX3_giveOwn 26 = .ok (.ireturn, 1) := by decide +kernel
theorem dX3_addCover_0 : decode cX3_addCover 0 = .ok (.aload_n 0, 1) := by decide +kernel
theorem dX3_addCover_1 : decode cX3_addCover 1 = .ok (.getfield 56, 3) := by decide +kernel
theorem dX3_addCover_4 : decode cX3_addCover 4 = .ok (.bipush 24, 2) := by decide +kernel
theorem dX3_addCover_6 : decode cX3_addCover 6 = .ok (.if_icmp .ge 19, 3) := by decide +kernel
theorem dX3_addCover_9 : decode cX3_addCover 9 = .ok (.aload_n 0, 1) := by decide +kernel
theorem dX3_addCover_10 : decode cX3_addCover 10 = .ok (.iload_n 1, 1) := by decide +kernel
theorem dX3_addCover_11 : decode cX3_addCover 11 = .ok (.invokevirtual 127, 3) := by decide +kernel
theorem dX3_addCover_14 : decode cX3_addCover 14 = .ok (.ifCond .eq 11, 3) := by decide +kernel
theorem dX3_addCover_17 : decode cX3_addCover 17 = .ok (.aload_n 0, 1) := by decide +kernel
theorem dX3_addCover_18 : decode cX3_addCover 18 = .ok (.iload_n 2, 1) := by decide +kernel
theorem dX3_addCover_19 : decode cX3_addCover 19 = .ok (.invokevirtual 130, 3) := by decide +kernel
theorem dX3_addCover_22 : decode cX3_addCover 22 = .ok (.ifCond .ne 5, 3) := by decide +kernel
theorem dX3_addCover_25 : decode cX3_addCover 25 = .ok (.iconst 0, 1) := by decide +kernel
theorem dX3_addCover_26 : decode cX3_addCover 26 = .ok (.ireturn, 1) := by decide +kernel
theorem dX3_addCover_27 : decode cX3_addCover 27 = .ok (.aload_n 0, 1) := by decide +kernel
theorem dX3_addCover_28 : decode cX3_addCover 28 = .ok (.getfield 18, 3) := by decide +kernel
theorem dX3_addCover_31 : decode cX3_addCover 31 = .ok (.iload_n 1, 1) := by decide +kernel
theorem dX3_addCover_32 : decode cX3_addCover 32 = .ok (.dup2, 1) := by decide +kernel
theorem dX3_addCover_33 : decode cX3_addCover 33 = .ok (.iaload, 1) := by decide +kernel
theorem dX3_addCover_34 : decode cX3_addCover 34 = .ok (.iconst 1, 1) := by decide +kernel
theorem dX3_addCover_35 : decode cX3_addCover 35 = .ok (.iload_n 2, 1) := by decide +kernel
theorem dX3_addCover_36 : decode cX3_addCover 36 = .ok (.ishl, 1) := by decide +kernel
theorem dX3_addCover_37 : decode cX3_addCover 37 = .ok (.ior, 1) := by decide +kernel
theorem dX3_addCover_38 : decode cX3_addCover 38 = .ok (.iastore, 1) := by decide +kernel
theorem dX3_addCover_39 : decode cX3_addCover 39 = .ok (.aload_n 0, 1) := by decide +kernel
theorem dX3_addCover_40 : decode cX3_addCover 40 = .ok (.dup, 1) := by decide +kernel
theorem dX3_addCover_41 : decode cX3_addCover 41 = .ok (.getfield 56, 3) := by decide +kernel
theorem dX3_addCover_44 : decode cX3_addCover 44 = .ok (.iconst 1, 1) := by decide +kernel
theorem dX3_addCover_45 : decode cX3_addCover 45 = .ok (.iadd, 1) := by decide +kernel
theorem dX3_addCover_46 : decode cX3_addCover 46 = .ok (.putfield 56, 3) := by decide +kernel
theorem dX3_addCover_49 : decode cX3_addCover 49 = .ok (.iconst 1, 1) := by decide +kernel
theorem dX3_addCover_50 : decode cX3_addCover 50 = .ok (.ireturn, 1) := by decide +kernel
theorem dX3_setContagion_0 : decode cX3_setContagion 0 = .ok (.aload_n 0, 1) := by decide +kernel
theorem dX3_setContagion_1 : decode cX3_setContagion 1 = .ok (.iload_n 1, 1) := by decide +kernel
theorem dX3_setContagion_2 : decode cX3_setContagion 2 = .ok (.invokevirtual 127, 3) := by decide +kernel
theorem dX3_setContagion_5 : decode cX3_setContagion 5 = .ok (.ifCond .eq 22, 3) := by decide +kernel
theorem dX3_setContagion_8 : decode cX3_setContagion 8 = .ok (.aload_n 0, 1) := by decide +kernel
theorem dX3_setContagion_9 : decode cX3_setContagion 9 = .ok (.iload_n 2, 1) := by decide +kernel
theorem dX3_setContagion_10 : decode cX3_setContagion 10 = .ok (.invokevirtual 127, 3) := by decide +kernel
theorem dX3_setContagion_13 : decode cX3_setContagion 13 = .ok (.ifCond .eq 14, 3) := by decide +kernel
theorem dX3_setContagion_16 : decode cX3_setContagion 16 = .ok (.iload_n 1, 1) := by decide +kernel
theorem dX3_setContagion_17 : decode cX3_setContagion 17 = .ok (.iload_n 2, 1) := by decide +kernel
theorem dX3_setContagion_18 : decode cX3_setContagion 18 = .ok (.if_icmp .eq 9, 3) := by decide +kernel
theorem dX3_setContagion_21 : decode cX3_setContagion 21 = .ok (.iload_n 3, 1) := by decide +kernel
theorem dX3_setContagion_22 : decode cX3_setContagion 22 = .ok (.bipush 100, 2) := by decide +kernel
theorem dX3_setContagion_24 : decode cX3_setContagion 24 = .ok (.if_icmp .le 5, 3) := by decide +kernel
theorem dX3_setContagion_27 : decode cX3_setContagion 27 = .ok (.iconst 0, 1) := by decide +kernel
theorem dX3_setContagion_28 : decode cX3_setContagion 28 = .ok (.ireturn, 1) := by decide +kernel
theorem dX3_setContagion_29 : decode cX3_setContagion 29 = .ok (.aload_n 0, 1) := by decide +kernel
theorem dX3_setContagion_30 : decode cX3_setContagion 30 = .ok (.getfield 40, 3) := by decide +kernel
theorem dX3_setContagion_33 : decode cX3_setContagion 33 = .ok (.iload_n 1, 1) := by decide +kernel
theorem dX3_setContagion_34 : decode cX3_setContagion 34 = .ok (.bipush 10, 2) := by decide +kernel
theorem dX3_setContagion_36 : decode cX3_setContagion 36 = .ok (.imul, 1) := by decide +kernel
theorem dX3_setContagion_37 : decode cX3_setContagion 37 = .ok (.iload_n 2, 1) := by decide +kernel
theorem dX3_setContagion_38 : decode cX3_setContagion 38 = .ok (.iadd, 1) := by decide +kernel
theorem dX3_setContagion_39 : decode cX3_setContagion 39 = .ok (.iload_n 3, 1) := by decide +kernel
theorem dX3_setContagion_40 : decode cX3_setContagion 40 = .ok (.iastore, 1) := by decide +kernel
theorem dX3_setContagion_41 : decode cX3_setContagion 41 = .ok (.aload_n 0, 1) := by decide +kernel
theorem dX3_setContagion_42 : decode cX3_setContagion 42 = .ok (.getfield 40, 3) := by decide +kernel
theorem dX3_setContagion_45 : decode cX3_setContagion 45 = .ok (.iload_n 2, 1) := by decide +kernel
theorem dX3_setContagion_46 : decode cX3_setContagion 46 = .ok (.bipush 10, 2) := by decide +kernel
theorem dX3_setContagion_48 : decode cX3_setContagion 48 = .ok (.imul, 1) := by decide +kernel
theorem dX3_setContagion_49 : decode cX3_setContagion 49 = .ok (.iload_n 1, 1) := by decide +kernel
theorem dX3_setContagion_50 : decode cX3_setContagion 50 = .ok (.iadd, 1) := by decide +kernel
theorem dX3_setContagion_51 : decode cX3_setContagion 51 = .ok (.iload_n 3, 1) := by decide +kernel
theorem dX3_setContagion_52 : decode cX3_setContagion 52 = .ok (.iastore, 1) := by decide +kernel
theorem dX3_setContagion_53 : decode cX3_setContagion 53 = .ok (.iconst 1, 1) := by decide +kernel
theorem dX3_setContagion_54 : decode cX3_setContagion 54 = .ok (.ireturn, 1) := by decide +kernel
theorem dX3_setChange_0 : decode cX3_setChange 0 = .ok (.iload_n 1, 1) := by decide +kernel
theorem dX3_setChange_1 : decode cX3_setChange 1 = .ok (.bipush 99, 2) := by decide +kernel
theorem dX3_setChange_3 : decode cX3_setChange 3 = .ok (.if_icmp .le 5, 3) := by decide +kernel
theorem dX3_setChange_6 : decode cX3_setChange 6 = .ok (.iconst 0, 1) := by decide +kernel
theorem dX3_setChange_7 : decode cX3_setChange 7 = .ok (.ireturn, 1) := by decide +kernel
theorem dX3_setChange_8 : decode cX3_setChange 8 = .ok (.aload_n 0, 1) := by decide +kernel
theorem dX3_setChange_9 : decode cX3_setChange 9 = .ok (.getfield 36, 3) := by decide +kernel
theorem dX3_setChange_12 : decode cX3_setChange 12 = .ok (.iload_n 1, 1) := by decide +kernel
theorem dX3_setChange_13 : decode cX3_setChange 13 = .ok (.putfield 133, 3) := by decide +kernel
theorem dX3_setChange_16 : decode cX3_setChange 16 = .ok (.iconst 1, 1) := by decide +kernel
theorem dX3_setChange_17 : decode cX3_setChange 17 = .ok (.ireturn, 1) := by decide +kernel
theorem dX3_setTailor_0 : decode cX3_setTailor 0 = .ok (.iload_n 1, 1) := by decide +kernel
theorem dX3_setTailor_1 : decode cX3_setTailor 1 = .ok (.bipush 9, 2) := by decide +kernel
theorem dX3_setTailor_3 : decode cX3_setTailor 3 = .ok (.if_icmp .le 5, 3) := by decide +kernel
theorem dX3_setTailor_6 : decode cX3_setTailor 6 = .ok (.iconst 0, 1) := by decide +kernel
theorem dX3_setTailor_7 : decode cX3_setTailor 7 = .ok (.ireturn, 1) := by decide +kernel
theorem dX3_setTailor_8 : decode cX3_setTailor 8 = .ok (.aload_n 0, 1) := by decide +kernel
theorem dX3_setTailor_9 : decode cX3_setTailor 9 = .ok (.iload_n 1, 1) := by decide +kernel
theorem dX3_setTailor_10 : decode cX3_setTailor 10 = .ok (.putfield 71, 3) := by decide +kernel
theorem dX3_setTailor_13 : decode cX3_setTailor 13 = .ok (.iconst 1, 1) := by decide +kernel
theorem dX3_setTailor_14 : decode cX3_setTailor 14 = .ok (.ireturn, 1) := by decide +kernel
theorem dX3_setForgetting_0 : decode cX3_setForgetting 0 = .ok (.iload_n 1, 1) := by decide +kernel
theorem dX3_setForgetting_1 : decode cX3_setForgetting 1 = .ok (.bipush 99, 2) := by decide +kernel
theorem dX3_setForgetting_3 : decode cX3_setForgetting 3 = .ok (.if_icmp .le 5, 3) := by decide +kernel
theorem dX3_setForgetting_6 : decode cX3_setForgetting 6 = .ok (.iconst 0, 1) := by decide +kernel
theorem dX3_setForgetting_7 : decode cX3_setForgetting 7 = .ok (.ireturn, 1) := by decide +kernel
theorem dX3_setForgetting_8 : decode cX3_setForgetting 8 = .ok (.aload_n 0, 1) := by decide +kernel
theorem dX3_setForgetting_9 : decode cX3_setForgetting 9 = .ok (.iload_n 1, 1) := by decide +kernel
theorem dX3_setForgetting_10 : decode cX3_setForgetting 10 = .ok (.putfield 74, 3) := by decide +kernel
theorem dX3_setForgetting_13 : decode cX3_setForgetting 13 = .ok (.iconst 1, 1) := by decide +kernel
theorem dX3_setForgetting_14 : decode cX3_setForgetting 14 = .ok (.ireturn, 1) := by decide +kernel
theorem dX3_setPay_0 : decode cX3_setPay 0 = .ok (.iload_n 1, 1) := by decide +kernel
theorem dX3_setPay_1 : decode cX3_setPay 1 = .ok (.sipush 999, 3) := by decide +kernel
theorem dX3_setPay_4 : decode cX3_setPay 4 = .ok (.if_icmp .gt 9, 3) := by decide +kernel
theorem dX3_setPay_7 : decode cX3_setPay 7 = .ok (.iload_n 2, 1) := by decide +kernel
theorem dX3_setPay_8 : decode cX3_setPay 8 = .ok (.bipush 99, 2) := by decide +kernel
theorem dX3_setPay_10 : decode cX3_setPay 10 = .ok (.if_icmp .le 5, 3) := by decide +kernel
theorem dX3_setPay_13 : decode cX3_setPay 13 = .ok (.iconst 0, 1) := by decide +kernel
theorem dX3_setPay_14 : decode cX3_setPay 14 = .ok (.ireturn, 1) := by decide +kernel
theorem dX3_setPay_15 : decode cX3_setPay 15 = .ok (.aload_n 0, 1) := by decide +kernel
theorem dX3_setPay_16 : decode cX3_setPay 16 = .ok (.iload_n 1, 1) := by decide +kernel
theorem dX3_setPay_17 : decode cX3_setPay 17 = .ok (.putfield 77, 3) := by decide +kernel
theorem dX3_setPay_20 : decode cX3_setPay 20 = .ok (.aload_n 0, 1) := by decide +kernel
theorem dX3_setPay_21 : decode cX3_setPay 21 = .ok (.iload_n 2, 1) := by decide +kernel
theorem dX3_setPay_22 : decode cX3_setPay 22 = .ok (.putfield 80, 3) := by decide +kernel
theorem dX3_setPay_25 : decode cX3_setPay 25 = .ok (.iconst 1, 1) := by decide +kernel
theorem dX3_setPay_26 : decode cX3_setPay 26 = .ok (.ireturn, 1) := by decide +kernel
theorem dX3_settle_0 : decode cX3_settle 0 = .ok (.iconst 0, 1) := by decide +kernel
theorem dX3_settle_1 : decode cX3_settle 1 = .ok (.istore_n 1, 1) := by decide +kernel
theorem dX3_settle_2 : decode cX3_settle 2 = .ok (.iload_n 1, 1) := by decide +kernel
theorem dX3_settle_3 : decode cX3_settle 3 = .ok (.aload_n 0, 1) := by decide +kernel
theorem dX3_settle_4 : decode cX3_settle 4 = .ok (.getfield 53, 3) := by decide +kernel
theorem dX3_settle_7 : decode cX3_settle 7 = .ok (.if_icmp .ge 128, 3) := by decide +kernel
theorem dX3_settle_10 : decode cX3_settle 10 = .ok (.aload_n 0, 1) := by decide +kernel
theorem dX3_settle_11 : decode cX3_settle 11 = .ok (.getfield 43, 3) := by decide +kernel
theorem dX3_settle_14 : decode cX3_settle 14 = .ok (.iload_n 1, 1) := by decide +kernel
theorem dX3_settle_15 : decode cX3_settle 15 = .ok (.iconst 0, 1) := by decide +kernel
theorem dX3_settle_16 : decode cX3_settle 16 = .ok (.iastore, 1) := by decide +kernel
theorem dX3_settle_17 : decode cX3_settle 17 = .ok (.iconst 0, 1) := by decide +kernel
theorem dX3_settle_18 : decode cX3_settle 18 = .ok (.istore_n 2, 1) := by decide +kernel
theorem dX3_settle_19 : decode cX3_settle 19 = .ok (.iload_n 2, 1) := by decide +kernel
theorem dX3_settle_20 : decode cX3_settle 20 = .ok (.aload_n 0, 1) := by decide +kernel
theorem dX3_settle_21 : decode cX3_settle 21 = .ok (.getfield 49, 3) := by decide +kernel
theorem dX3_settle_24 : decode cX3_settle 24 = .ok (.if_icmp .ge 53, 3) := by decide +kernel
theorem dX3_settle_27 : decode cX3_settle 27 = .ok (.aload_n 0, 1) := by decide +kernel
theorem dX3_settle_28 : decode cX3_settle 28 = .ok (.getfield 30, 3) := by decide +kernel
theorem dX3_settle_31 : decode cX3_settle 31 = .ok (.iload_n 1, 1) := by decide +kernel
theorem dX3_settle_32 : decode cX3_settle 32 = .ok (.iaload, 1) := by decide +kernel
theorem dX3_settle_33 : decode cX3_settle 33 = .ok (.iload_n 2, 1) := by decide +kernel
theorem dX3_settle_34 : decode cX3_settle 34 = .ok (.if_icmp .eq 16, 3) := by decide +kernel
theorem dX3_settle_37 : decode cX3_settle 37 = .ok (.aload_n 0, 1) := by decide +kernel
theorem dX3_settle_38 : decode cX3_settle 38 = .ok (.getfield 18, 3) := by decide +kernel
theorem dX3_settle_41 : decode cX3_settle 41 = .ok (.iload_n 2, 1) := by decide +kernel
theorem dX3_settle_42 : decode cX3_settle 42 = .ok (.iaload, 1) := by decide +kernel
theorem dX3_settle_43 : decode cX3_settle 43 = .ok (.iload_n 1, 1) := by decide +kernel
theorem dX3_settle_44 : decode cX3_settle 44 = .ok (.invokestatic 136, 3) := by decide +kernel
theorem dX3_settle_47 : decode cX3_settle 47 = .ok (.ifCond .eq 24, 3) := by decide +kernel
theorem dX3_settle_50 : decode cX3_settle 50 = .ok (.aload_n 0, 1) := by decide +kernel
theorem dX3_settle_51 : decode cX3_settle 51 = .ok (.iload_n 2, 1) := by decide +kernel
theorem dX3_settle_52 : decode cX3_settle 52 = .ok (.iload_n 1, 1) := by decide +kernel
theorem dX3_settle_53 : decode cX3_settle 53 = .ok (.invokevirtual 139, 3) := by decide +kernel
theorem dX3_settle_56 : decode cX3_settle 56 = .ok (.ifCond .eq 15, 3) := by decide +kernel
theorem dX3_settle_59 : decode cX3_settle 59 = .ok (.aload_n 0, 1) := by decide +kernel
theorem dX3_settle_60 : decode cX3_settle 60 = .ok (.getfield 43, 3) := by decide +kernel
theorem dX3_settle_63 : decode cX3_settle 63 = .ok (.iload_n 1, 1) := by decide +kernel
theorem dX3_settle_64 : decode cX3_settle 64 = .ok (.dup2, 1) := by decide +kernel
theorem dX3_settle_65 : decode cX3_settle 65 = .ok (.iaload, 1) := by decide +kernel
theorem dX3_settle_66 : decode cX3_settle 66 = .ok (.iconst 1, 1) := by decide +kernel
theorem dX3_settle_67 : decode cX3_settle 67 = .ok (.iload_n 2, 1) := by decide +kernel
theorem dX3_settle_68 : decode cX3_settle 68 = .ok (.ishl, 1) := by decide +kernel
theorem dX3_settle_69 : decode cX3_settle 69 = .ok (.ior, 1) := by decide +kernel
theorem dX3_settle_70 : decode cX3_settle 70 = .ok (.iastore, 1) := by decide +kernel
theorem dX3_settle_71 : decode cX3_settle 71 = .ok (.iinc 2 1, 3) := by decide +kernel
theorem dX3_settle_74 : decode cX3_settle 74 = .ok (.goto (-55), 3) := by decide +kernel
theorem dX3_settle_77 : decode cX3_settle 77 = .ok (.aload_n 0, 1) := by decide +kernel
theorem dX3_settle_78 : decode cX3_settle 78 = .ok (.getfield 46, 3) := by decide +kernel
theorem dX3_settle_81 : decode cX3_settle 81 = .ok (.iload_n 1, 1) := by decide +kernel
theorem dX3_settle_82 : decode cX3_settle 82 = .ok (.iconst 0, 1) := by decide +kernel
theorem dX3_settle_83 : decode cX3_settle 83 = .ok (.iastore, 1) := by decide +kernel
theorem dX3_settle_84 : decode cX3_settle 84 = .ok (.iconst 0, 1) := by decide +kernel
theorem dX3_settle_85 : decode cX3_settle 85 = .ok (.istore_n 2, 1) := by decide +kernel
theorem dX3_settle_86 : decode cX3_settle 86 = .ok (.iload_n 2, 1) := by decide +kernel
theorem dX3_settle_87 : decode cX3_settle 87 = .ok (.aload_n 0, 1) := by decide +kernel
theorem dX3_settle_88 : decode cX3_settle 88 = .ok (.getfield 53, 3) := by decide +kernel
theorem dX3_settle_91 : decode cX3_settle 91 = .ok (.if_icmp .ge 38, 3) := by decide +kernel
theorem dX3_settle_94 : decode cX3_settle 94 = .ok (.iload_n 2, 1) := by decide +kernel
theorem dX3_settle_95 : decode cX3_settle 95 = .ok (.iload_n 1, 1) := by decide +kernel
theorem dX3_settle_96 : decode cX3_settle 96 = .ok (.if_icmp .eq 27, 3) := by decide +kernel
theorem dX3_settle_99 : decode cX3_settle 99 = .ok (.aload_n 0, 1) := by decide +kernel
theorem dX3_settle_100 : decode cX3_settle 100 = .ok (.getfield 36, 3) := by decide +kernel
theorem dX3_settle_103 : decode cX3_settle 103 = .ok (.iload_n 1, 1) := by decide +kernel
theorem dX3_settle_104 : decode cX3_settle 104 = .ok (.iload_n 2, 1) := by decide +kernel
theorem dX3_settle_105 : decode cX3_settle 105 = .ok (.invokevirtual 142, 3) := by decide +kernel
theorem dX3_settle_108 : decode cX3_settle 108 = .ok (.ifCond .eq 15, 3) := by decide +kernel
theorem dX3_settle_111 : decode cX3_settle 111 = .ok (.aload_n 0, 1) := by decide +kernel
theorem dX3_settle_112 : decode cX3_settle 112 = .ok (.getfield 46, 3) := by decide +kernel
theorem dX3_settle_115 : decode cX3_settle 115 = .ok (.iload_n 1, 1) := by decide +kernel
theorem dX3_settle_116 : decode cX3_settle 116 = .ok (.dup2, 1) := by decide +kernel
theorem dX3_settle_117 : decode cX3_settle 117 = .ok (.iaload, 1) := by decide +kernel
theorem dX3_settle_118 : decode cX3_settle 118 = .ok (.iconst 1, 1) := by decide +kernel
theorem dX3_settle_119 : decode cX3_settle 119 = .ok (.iload_n 2, 1) := by decide +kernel
theorem dX3_settle_120 : decode cX3_settle 120 = .ok (.ishl, 1) := by decide +kernel
theorem dX3_settle_121 : decode cX3_settle 121 = .ok (.ior, 1) := by decide +kernel
theorem dX3_settle_122 : decode cX3_settle 122 = .ok (.iastore, 1) := by decide +kernel
theorem dX3_settle_123 : decode cX3_settle 123 = .ok (.iinc 2 1, 3) := by decide +kernel
theorem dX3_settle_126 : decode cX3_settle 126 = .ok (.goto (-40), 3) := by decide +kernel
theorem dX3_settle_129 : decode cX3_settle 129 = .ok (.iinc 1 1, 3) := by decide +kernel
theorem dX3_settle_132 : decode cX3_settle 132 = .ok (.goto (-130), 3) := by decide +kernel
theorem dX3_settle_135 : decode cX3_settle 135 = .ok (.return_, 1) := by decide +kernel
theorem dX3_isSkilled_0 : decode cX3_isSkilled 0 = .ok (.aload_n 0, 1) := by decide +kernel
theorem dX3_isSkilled_1 : decode cX3_isSkilled 1 = .ok (.getfield 24, 3) := by decide +kernel
theorem dX3_isSkilled_4 : decode cX3_isSkilled 4 = .ok (.iload_n 2, 1) := by decide +kernel
theorem dX3_isSkilled_5 : decode cX3_isSkilled 5 = .ok (.iaload, 1) := by decide +kernel
theorem dX3_isSkilled_6 : decode cX3_isSkilled 6 = .ok (.aload_n 0, 1) := by decide +kernel
theorem dX3_isSkilled_7 : decode cX3_isSkilled 7 = .ok (.getfield 15, 3) := by decide +kernel
theorem dX3_isSkilled_10 : decode cX3_isSkilled 10 = .ok (.iload_n 1, 1) := by decide +kernel
theorem dX3_isSkilled_11 : decode cX3_isSkilled 11 = .ok (.iaload, 1) := by decide +kernel
theorem dX3_isSkilled_12 : decode cX3_isSkilled 12 = .ok (.iconst (-1), 1) := by decide +kernel
theorem dX3_isSkilled_13 : decode cX3_isSkilled 13 = .ok (.ixor, 1) := by decide +kernel
theorem dX3_isSkilled_14 : decode cX3_isSkilled 14 = .ok (.iand, 1) := by decide +kernel
theorem dX3_isSkilled_15 : decode cX3_isSkilled 15 = .ok (.ifCond .ne 7, 3) := by decide +kernel
theorem dX3_isSkilled_18 : decode cX3_isSkilled 18 = .ok (.iconst 1, 1) := by decide +kernel
theorem dX3_isSkilled_19 : decode cX3_isSkilled 19 = .ok (.goto 4, 3) := by decide +kernel
theorem dX3_isSkilled_22 : decode cX3_isSkilled 22 = .ok (.iconst 0, 1) := by decide +kernel
theorem dX3_isSkilled_23 : decode cX3_isSkilled 23 = .ok (.ireturn, 1) := by decide +kernel
theorem dX3_hasPlayer_0 : decode cX3_hasPlayer 0 = .ok (.iload_n 1, 1) := by decide +kernel
theorem dX3_hasPlayer_1 : decode cX3_hasPlayer 1 = .ok (.ifCond .lt 15, 3) := by decide +kernel
theorem dX3_hasPlayer_4 : decode cX3_hasPlayer 4 = .ok (.iload_n 1, 1) := by decide +kernel
theorem dX3_hasPlayer_5 : decode cX3_hasPlayer 5 = .ok (.aload_n 0, 1) := by decide +kernel
theorem dX3_hasPlayer_6 : decode cX3_hasPlayer 6 = .ok (.getfield 49, 3) := by decide +kernel
theorem dX3_hasPlayer_9 : decode cX3_hasPlayer 9 = .ok (.if_icmp .ge 7, 3) := by decide +kernel
theorem dX3_hasPlayer_12 : decode cX3_hasPlayer 12 = .ok (.iconst 1, 1) := by decide +kernel
theorem dX3_hasPlayer_13 : decode cX3_hasPlayer 13 = .ok (.goto 4, 3) := by decide +kernel
theorem dX3_hasPlayer_16 : decode cX3_hasPlayer 16 = .ok (.iconst 0, 1) := by decide +kernel
theorem dX3_hasPlayer_17 : decode cX3_hasPlayer 17 = .ok (.ireturn, 1) := by decide +kernel
theorem dX3_hasPart_0 : decode cX3_hasPart 0 = .ok (.iload_n 1, 1) := by decide +kernel
theorem dX3_hasPart_1 : decode cX3_hasPart 1 = .ok (.ifCond .lt 15, 3) := by decide +kernel
theorem dX3_hasPart_4 : decode cX3_hasPart 4 = .ok (.iload_n 1, 1) := by decide +kernel
theorem dX3_hasPart_5 : decode cX3_hasPart 5 = .ok (.aload_n 0, 1) := by decide +kernel
theorem dX3_hasPart_6 : decode cX3_hasPart 6 = .ok (.getfield 53, 3) := by decide +kernel
theorem dX3_hasPart_9 : decode cX3_hasPart 9 = .ok (.if_icmp .ge 7, 3) := by decide +kernel
theorem dX3_hasPart_12 : decode cX3_hasPart 12 = .ok (.iconst 1, 1) := by decide +kernel
theorem dX3_hasPart_13 : decode cX3_hasPart 13 = .ok (.goto 4, 3) := by decide +kernel
theorem dX3_hasPart_16 : decode cX3_hasPart 16 = .ok (.iconst 0, 1) := by decide +kernel
theorem dX3_hasPart_17 : decode cX3_hasPart 17 = .ok (.ireturn, 1) := by decide +kernel
theorem dX3_hasPlayers_0 : decode cX3_hasPlayers 0 = .ok (.iload_n 1, 1) := by decide +kernel
theorem dX3_hasPlayers_1 : decode cX3_hasPlayers 1 = .ok (.ifCond .lt 17, 3) := by decide +kernel
theorem dX3_hasPlayers_4 : decode cX3_hasPlayers 4 = .ok (.iload_n 1, 1) := by decide +kernel
theorem dX3_hasPlayers_5 : decode cX3_hasPlayers 5 = .ok (.iconst 1, 1) := by decide +kernel
theorem dX3_hasPlayers_6 : decode cX3_hasPlayers 6 = .ok (.aload_n 0, 1) := by decide +kernel
theorem dX3_hasPlayers_7 : decode cX3_hasPlayers 7 = .ok (.getfield 49, 3) := by decide +kernel
theorem dX3_hasPlayers_10 : decode cX3_hasPlayers 10 = .ok (.ishl, 1) := by decide +kernel
theorem dX3_hasPlayers_11 : decode cX3_hasPlayers 11 = .ok (.if_icmp .ge 7, 3) := by decide +kernel
theorem dX3_hasPlayers_14 : decode cX3_hasPlayers 14 = .ok (.iconst 1, 1) := by decide +kernel
theorem dX3_hasPlayers_15 : decode cX3_hasPlayers 15 = .ok (.goto 4, 3) := by decide +kernel
theorem dX3_hasPlayers_18 : decode cX3_hasPlayers 18 = .ok (.iconst 0, 1) := by decide +kernel
theorem dX3_hasPlayers_19 : decode cX3_hasPlayers 19 = .ok (.ireturn, 1) := by decide +kernel
theorem dX3_hasParts_0 : decode cX3_hasParts 0 = .ok (.iload_n 1, 1) := by decide +kernel
theorem dX3_hasParts_1 : decode cX3_hasParts 1 = .ok (.ifCond .lt 17, 3) := by decide +kernel
theorem dX3_hasParts_4 : decode cX3_hasParts 4 = .ok (.iload_n 1, 1) := by decide +kernel
theorem dX3_hasParts_5 : decode cX3_hasParts 5 = .ok (.iconst 1, 1) := by decide +kernel
theorem dX3_hasParts_6 : decode cX3_hasParts 6 = .ok (.aload_n 0, 1) := by decide +kernel
theorem dX3_hasParts_7 : decode cX3_hasParts 7 = .ok (.getfield 53, 3) := by decide +kernel
theorem dX3_hasParts_10 : decode cX3_hasParts 10 = .ok (.ishl, 1) := by decide +kernel
theorem dX3_hasParts_11 : decode cX3_hasParts 11 = .ok (.if_icmp .ge 7, 3) := by decide +kernel
theorem dX3_hasParts_14 : decode cX3_hasParts 14 = .ok (.iconst 1, 1) := by decide +kernel
theorem dX3_hasParts_15 : decode cX3_hasParts 15 = .ok (.goto 4, 3) := by decide +kernel
theorem dX3_hasParts_18 : decode cX3_hasParts 18 = .ok (.iconst 0, 1) := by decide +kernel
theorem dX3_hasParts_19 : decode cX3_hasParts 19 = .ok (.ireturn, 1) := by decide +kernel
theorem dX3_mayPlay_0 : decode cX3_mayPlay 0 = .ok (.aload_n 0, 1) := by decide +kernel
theorem dX3_mayPlay_1 : decode cX3_mayPlay 1 = .ok (.getfield 43, 3) := by decide +kernel
theorem dX3_mayPlay_4 : decode cX3_mayPlay 4 = .ok (.iload_n 2, 1) := by decide +kernel
theorem dX3_mayPlay_5 : decode cX3_mayPlay 5 = .ok (.iaload, 1) := by decide +kernel
theorem dX3_mayPlay_6 : decode cX3_mayPlay 6 = .ok (.iload_n 1, 1) := by decide +kernel
theorem dX3_mayPlay_7 : decode cX3_mayPlay 7 = .ok (.invokestatic 136, 3) := by decide +kernel
theorem dX3_mayPlay_10 : decode cX3_mayPlay 10 = .ok (.ireturn, 1) := by decide +kernel
theorem dX3_ownParts_0 : decode cX3_ownParts 0 = .ok (.iconst 0, 1) := by decide +kernel
theorem dX3_ownParts_1 : decode cX3_ownParts 1 = .ok (.istore_n 2, 1) := by decide +kernel
theorem dX3_ownParts_2 : decode cX3_ownParts 2 = .ok (.iconst 0, 1) := by decide +kernel
theorem dX3_ownParts_3 : decode cX3_ownParts 3 = .ok (.istore_n 3, 1) := by decide +kernel
theorem dX3_ownParts_4 : decode cX3_ownParts 4 = .ok (.iload_n 3, 1) := by decide +kernel
theorem dX3_ownParts_5 : decode cX3_ownParts 5 = .ok (.aload_n 0, 1) := by decide +kernel
theorem dX3_ownParts_6 : decode cX3_ownParts 6 = .ok (.getfield 53, 3) := by decide +kernel
theorem dX3_ownParts_9 : decode cX3_ownParts 9 = .ok (.if_icmp .ge 25, 3) := by decide +kernel
theorem dX3_ownParts_12 : decode cX3_ownParts 12 = .ok (.aload_n 0, 1) := by decide +kernel
theorem dX3_ownParts_13 : decode cX3_ownParts 13 = .ok (.getfield 30, 3) := by decide +kernel
theorem dX3_ownParts_16 : decode cX3_ownParts 16 = .ok (.iload_n 3, 1) := by decide +kernel
theorem dX3_ownParts_17 : decode cX3_ownParts 17 = .ok (.iaload, 1) := by decide +kernel
theorem dX3_ownParts_18 : decode cX3_ownParts 18 = .ok (.iload_n 1, 1) := by decide +kernel
theorem dX3_ownParts_19 : decode cX3_ownParts 19 = .ok (.if_icmp .ne 9, 3) := by decide +kernel
theorem dX3_ownParts_22 : decode cX3_ownParts 22 = .ok (.iload_n 2, 1) := by decide +kernel
theorem dX3_ownParts_23 : decode cX3_ownParts 23 = .ok (.iconst 1, 1) := by decide +kernel
theorem dX3_ownParts_24 : decode cX3_ownParts 24 = .ok (.iload_n 3, 1) := by decide +kernel
theorem dX3_ownParts_25 : decode cX3_ownParts 25 = .ok (.ishl, 1) := by decide +kernel
theorem dX3_ownParts_26 : decode cX3_ownParts 26 = .ok (.ior, 1) := by decide +kernel
theorem dX3_ownParts_27 : decode cX3_ownParts 27 = .ok (.istore_n 2, 1) := by decide +kernel
theorem dX3_ownParts_28 : decode cX3_ownParts 28 = .ok (.iinc 3 1, 3) := by decide +kernel
theorem dX3_ownParts_31 : decode cX3_ownParts 31 = .ok (.goto (-27), 3) := by decide +kernel
theorem dX3_ownParts_34 : decode cX3_ownParts 34 = .ok (.iload_n 2, 1) := by decide +kernel
theorem dX3_ownParts_35 : decode cX3_ownParts 35 = .ok (.ireturn, 1) := by decide +kernel
theorem dX3_playable_0 : decode cX3_playable 0 = .ok (.iconst 0, 1) := by decide +kernel
theorem dX3_playable_1 : decode cX3_playable 1 = .ok (.istore_n 2, 1) := by decide +kernel
theorem dX3_playable_2 : decode cX3_playable 2 = .ok (.iconst 0, 1) := by decide +kernel
theorem dX3_playable_3 : decode cX3_playable 3 = .ok (.istore_n 3, 1) := by decide +kernel
theorem dX3_playable_4 : decode cX3_playable 4 = .ok (.iload_n 3, 1) := by decide +kernel
theorem dX3_playable_5 : decode cX3_playable 5 = .ok (.aload_n 0, 1) := by decide +kernel
theorem dX3_playable_6 : decode cX3_playable 6 = .ok (.getfield 53, 3) := by decide +kernel
theorem dX3_playable_9 : decode cX3_playable 9 = .ok (.if_icmp .ge 24, 3) := by decide +kernel
theorem dX3_playable_12 : decode cX3_playable 12 = .ok (.aload_n 0, 1) := by decide +kernel
theorem dX3_playable_13 : decode cX3_playable 13 = .ok (.iload_n 1, 1) := by decide +kernel
theorem dX3_playable_14 : decode cX3_playable 14 = .ok (.iload_n 3, 1) := by decide +kernel
theorem dX3_playable_15 : decode cX3_playable 15 = .ok (.invokevirtual 145, 3) := by decide +kernel
theorem dX3_playable_18 : decode cX3_playable 18 = .ok (.ifCond .eq 9, 3) := by decide +kernel
theorem dX3_playable_21 : decode cX3_playable 21 = .ok (.iload_n 2, 1) := by decide +kernel
theorem dX3_playable_22 : decode cX3_playable 22 = .ok (.iconst 1, 1) := by decide +kernel
theorem dX3_playable_23 : decode cX3_playable 23 = .ok (.iload_n 3, 1) := by decide +kernel
theorem dX3_playable_24 : decode cX3_playable 24 = .ok (.ishl, 1) := by decide +kernel
theorem dX3_playable_25 : decode cX3_playable 25 = .ok (.ior, 1) := by decide +kernel
theorem dX3_playable_26 : decode cX3_playable 26 = .ok (.istore_n 2, 1) := by decide +kernel
theorem dX3_playable_27 : decode cX3_playable 27 = .ok (.iinc 3 1, 3) := by decide +kernel
theorem dX3_playable_30 : decode cX3_playable 30 = .ok (.goto (-26), 3) := by decide +kernel
theorem dX3_playable_33 : decode cX3_playable 33 = .ok (.iload_n 2, 1) := by decide +kernel
theorem dX3_playable_34 : decode cX3_playable 34 = .ok (.ireturn, 1) := by decide +kernel
theorem dX3_linesTogether_0 : decode cX3_linesTogether 0 = .ok (.iconst 0, 1) := by decide +kernel
theorem dX3_linesTogether_1 : decode cX3_linesTogether 1 = .ok (.istore_n 2, 1) := by decide +kernel
theorem dX3_linesTogether_2 : decode cX3_linesTogether 2 = .ok (.iconst 0, 1) := by decide +kernel
theorem dX3_linesTogether_3 : decode cX3_linesTogether 3 = .ok (.istore_n 3, 1) := by decide +kernel
theorem dX3_linesTogether_4 : decode cX3_linesTogether 4 = .ok (.iload_n 3, 1) := by decide +kernel
theorem dX3_linesTogether_5 : decode cX3_linesTogether 5 = .ok (.aload_n 0, 1) := by decide +kernel
theorem dX3_linesTogether_6 : decode cX3_linesTogether 6 = .ok (.getfield 53, 3) := by decide +kernel
theorem dX3_linesTogether_9 : decode cX3_linesTogether 9 = .ok (.if_icmp .ge 26, 3) := by decide +kernel
theorem dX3_linesTogether_12 : decode cX3_linesTogether 12 = .ok (.iload_n 1, 1) := by decide +kernel
theorem dX3_linesTogether_13 : decode cX3_linesTogether 13 = .ok (.iload_n 3, 1) := by decide +kernel
theorem dX3_linesTogether_14 : decode cX3_linesTogether 14 = .ok (.invokestatic 136, 3) := by decide +kernel
theorem dX3_linesTogether_17 : decode cX3_linesTogether 17 = .ok (.ifCond .eq 12, 3) := by decide +kernel
theorem dX3_linesTogether_20 : decode cX3_linesTogether 20 = .ok (.iload_n 2, 1) := by decide +kernel
theorem dX3_linesTogether_21 : decode cX3_linesTogether 21 = .ok (.aload_n 0, 1) := by decide +kernel
theorem dX3_linesTogether_22 : decode cX3_linesTogether 22 = .ok (.getfield 27, 3) := by decide +kernel
theorem dX3_linesTogether_25 : decode cX3_linesTogether 25 = .ok (.iload_n 3, 1) := by decide +kernel
theorem dX3_linesTogether_26 : decode cX3_linesTogether 26 = .ok (.iaload, 1) := by decide +kernel
theorem dX3_linesTogether_27 : decode cX3_linesTogether 27 = .ok (.iadd, 1) := by decide +kernel
theorem dX3_linesTogether_28 : decode cX3_linesTogether 28 = .ok (.istore_n 2, 1) := by decide +kernel
theorem dX3_linesTogether_29 : decode cX3_linesTogether 29 = .ok (.iinc 3 1, 3) := by decide +kernel
theorem dX3_linesTogether_32 : decode cX3_linesTogether 32 = .ok (.goto (-28), 3) := by decide +kernel
theorem dX3_linesTogether_35 : decode cX3_linesTogether 35 = .ok (.iload_n 2, 1) := by decide +kernel
theorem dX3_linesTogether_36 : decode cX3_linesTogether 36 = .ok (.ireturn, 1) := by decide +kernel
theorem dX3_hours_0 : decode cX3_hours 0 = .ok (.aload_n 0, 1) := by decide +kernel
theorem dX3_hours_1 : decode cX3_hours 1 = .ok (.getfield 27, 3) := by decide +kernel
theorem dX3_hours_4 : decode cX3_hours 4 = .ok (.iload_n 1, 1) := by decide +kernel
theorem dX3_hours_5 : decode cX3_hours 5 = .ok (.iaload, 1) := by decide +kernel
theorem dX3_hours_6 : decode cX3_hours 6 = .ok (.bipush 99, 2) := by decide +kernel
theorem dX3_hours_8 : decode cX3_hours 8 = .ok (.iadd, 1) := by decide +kernel
theorem dX3_hours_9 : decode cX3_hours 9 = .ok (.bipush 100, 2) := by decide +kernel
theorem dX3_hours_11 : decode cX3_hours 11 = .ok (.idiv, 1) := by decide +kernel
theorem dX3_hours_12 : decode cX3_hours 12 = .ok (.ireturn, 1) := by decide +kernel
theorem dX4_init_0 : decode cX4_init 0 = .ok (.aload_n 0, 1) := by decide +kernel
theorem dX4_init_1 : decode cX4_init 1 = .ok (.invokespecial 3, 3) := by decide +kernel
theorem dX4_init_4 : decode cX4_init 4 = .ok (.aload_n 0, 1) := by decide +kernel
theorem dX4_init_5 : decode cX4_init 5 = .ok (.bipush 10, 2) := by decide +kernel
theorem dX4_init_7 : decode cX4_init 7 = .ok (.newarray .int, 2) := by decide +kernel
theorem dX4_init_9 : decode cX4_init 9 = .ok (.putfield 9, 3) := by decide +kernel
theorem dX4_init_12 : decode cX4_init 12 = .ok (.aload_n 0, 1) := by decide +kernel
theorem dX4_init_13 : decode cX4_init 13 = .ok (.bipush 80, 2) := by decide +kernel
theorem dX4_init_15 : decode cX4_init 15 = .ok (.newarray .int, 2) := by decide +kernel
theorem dX4_init_17 : decode cX4_init 17 = .ok (.putfield 15, 3) := by decide +kernel
theorem dX4_init_20 : decode cX4_init 20 = .ok (.return_, 1) := by decide +kernel
theorem dX4_clear_0 : decode cX4_clear 0 = .ok (.aload_n 0, 1) := by decide +kernel
theorem dX4_clear_1 : decode cX4_clear 1 = .ok (.iconst 0, 1) := by decide +kernel
theorem dX4_clear_2 : decode cX4_clear 2 = .ok (.putfield 18, 3) := by decide +kernel
theorem dX4_clear_5 : decode cX4_clear 5 = .ok (.aload_n 0, 1) := by decide +kernel
theorem dX4_clear_6 : decode cX4_clear 6 = .ok (.getfield 9, 3) := by decide +kernel
theorem dX4_clear_9 : decode cX4_clear 9 = .ok (.iconst 0, 1) := by decide +kernel
theorem dX4_clear_10 : decode cX4_clear 10 = .ok (.invokestatic 22, 3) := by decide +kernel
theorem dX4_clear_13 : decode cX4_clear 13 = .ok (.aload_n 0, 1) := by decide +kernel
theorem dX4_clear_14 : decode cX4_clear 14 = .ok (.getfield 15, 3) := by decide +kernel
theorem dX4_clear_17 : decode cX4_clear 17 = .ok (.iconst 0, 1) := by decide +kernel
theorem dX4_clear_18 : decode cX4_clear 18 = .ok (.invokestatic 22, 3) := by decide +kernel
theorem dX4_clear_21 : decode cX4_clear 21 = .ok (.return_, 1) := by decide +kernel
theorem dX4_copy_0 : decode cX4_copy 0 = .ok (.aload_n 0, 1) := by decide +kernel
theorem dX4_copy_1 : decode cX4_copy 1 = .ok (.aload_n 1, 1) := by decide +kernel
theorem dX4_copy_2 : decode cX4_copy 2 = .ok (.getfield 18, 3) := by decide +kernel
theorem dX4_copy_5 : decode cX4_copy 5 = .ok (.putfield 18, 3) := by decide +kernel
theorem dX4_copy_8 : decode cX4_copy 8 = .ok (.aload_n 1, 1) := by decide +kernel
theorem dX4_copy_9 : decode cX4_copy 9 = .ok (.getfield 9, 3) := by decide +kernel
theorem dX4_copy_12 : decode cX4_copy 12 = .ok (.iconst 0, 1) := by decide +kernel
theorem dX4_copy_13 : decode cX4_copy 13 = .ok (.aload_n 0, 1) := by decide +kernel
theorem dX4_copy_14 : decode cX4_copy 14 = .ok (.getfield 9, 3) := by decide +kernel
theorem dX4_copy_17 : decode cX4_copy 17 = .ok (.iconst 0, 1) := by decide +kernel
theorem dX4_copy_18 : decode cX4_copy 18 = .ok (.bipush 10, 2) := by decide +kernel
theorem dX4_copy_20 : decode cX4_copy 20 = .ok (.invokestatic 28, 3) := by decide +kernel
theorem dX4_copy_23 : decode cX4_copy 23 = .ok (.aload_n 1, 1) := by decide +kernel
theorem dX4_copy_24 : decode cX4_copy 24 = .ok (.getfield 15, 3) := by decide +kernel
theorem dX4_copy_27 : decode cX4_copy 27 = .ok (.iconst 0, 1) := by decide +kernel
theorem dX4_copy_28 : decode cX4_copy 28 = .ok (.aload_n 0, 1) := by decide +kernel
theorem dX4_copy_29 : decode cX4_copy 29 = .ok (.getfield 15, 3) := by decide +kernel
theorem dX4_copy_32 : decode cX4_copy 32 = .ok (.iconst 0, 1) := by decide +kernel
theorem dX4_copy_33 : decode cX4_copy 33 = .ok (.bipush 80, 2) := by decide +kernel
theorem dX4_copy_35 : decode cX4_copy 35 = .ok (.invokestatic 28, 3) := by decide +kernel
theorem dX4_copy_38 : decode cX4_copy 38 = .ok (.return_, 1) := by decide +kernel
theorem dX4_sayToday_0 : decode cX4_sayToday 0 = .ok (.aload_n 0, 1) := by decide +kernel
theorem dX4_sayToday_1 : decode cX4_sayToday 1 = .ok (.getfield 15, 3) := by decide +kernel
theorem dX4_sayToday_4 : decode cX4_sayToday 4 = .ok (.iload_n 1, 1) := by decide +kernel
theorem dX4_sayToday_5 : decode cX4_sayToday 5 = .ok (.bipush 8, 2) := by decide +kernel
theorem dX4_sayToday_7 : decode cX4_sayToday 7 = .ok (.imul, 1) := by decide +kernel
theorem dX4_sayToday_8 : decode cX4_sayToday 8 = .ok (.iload_n 2, 1) := by decide +kernel
theorem dX4_sayToday_9 : decode cX4_sayToday 9 = .ok (.iadd, 1) := by decide +kernel
theorem dX4_sayToday_10 : decode cX4_sayToday 10 = .ok (.aload_n 0, 1) := by decide +kernel
theorem dX4_sayToday_11 : decode cX4_sayToday 11 = .ok (.getfield 18, 3) := by decide +kernel
theorem dX4_sayToday_14 : decode cX4_sayToday 14 = .ok (.iastore, 1) := by decide +kernel
theorem dX4_sayToday_15 : decode cX4_sayToday 15 = .ok (.return_, 1) := by decide +kernel
theorem dX4_keptLines_0 : decode cX4_keptLines 0 = .ok (.aload_n 0, 1) := by decide +kernel
theorem dX4_keptLines_1 : decode cX4_keptLines 1 = .ok (.getfield 18, 3) := by decide +kernel
theorem dX4_keptLines_4 : decode cX4_keptLines 4 = .ok (.aload_n 0, 1) := by decide +kernel
theorem dX4_keptLines_5 : decode cX4_keptLines 5 = .ok (.getfield 15, 3) := by decide +kernel
theorem dX4_keptLines_8 : decode cX4_keptLines 8 = .ok (.iload_n 2, 1) := by decide +kernel
theorem dX4_keptLines_9 : decode cX4_keptLines 9 = .ok (.bipush 8, 2) := by decide +kernel
theorem dX4_keptLines_11 : decode cX4_keptLines 11 = .ok (.imul, 1) := by decide +kernel
theorem dX4_keptLines_12 : decode cX4_keptLines 12 = .ok (.iload_n 3, 1) := by decide +kernel
theorem dX4_keptLines_13 : decode cX4_keptLines 13 = .ok (.iadd, 1) := by decide +kernel
theorem dX4_keptLines_14 : decode cX4_keptLines 14 = .ok (.iaload, 1) := by decide +kernel
theorem dX4_keptLines_15 : decode cX4_keptLines 15 = .ok (.isub, 1) := by decide +kernel
theorem dX4_keptLines_16 : decode cX4_keptLines 16 = .ok (.istore 4, 2) := by decide +kernel
theorem dX4_keptLines_18 : decode cX4_keptLines 18 = .ok (.iconst 0, 1) := by decide +kernel
theorem dX4_keptLines_19 : decode cX4_keptLines 19 = .ok (.bipush 100, 2) := by decide +kernel
theorem dX4_keptLines_21 : decode cX4_keptLines 21 = .ok (.aload_n 1, 1) := by decide +kernel
theorem dX4_keptLines_22 : decode cX4_keptLines 22 = .ok (.getfield 34, 3) := by decide +kernel
theorem dX4_keptLines_25 : decode cX4_keptLines 25 = .ok (.iload 4, 2) := by decide +kernel
theorem dX4_keptLines_27 : decode cX4_keptLines 27 = .ok (.imul, 1) := by decide +kernel
theorem dX4_keptLines_28 : decode cX4_keptLines 28 = .ok (.isub, 1) := by decide +kernel
theorem dX4_keptLines_29 : decode cX4_keptLines 29 = .ok (.invokestatic 39, 3) := by decide +kernel
theorem dX4_keptLines_32 : decode cX4_keptLines 32 = .ok (.istore 5, 2) := by decide +kernel
theorem dX4_keptLines_34 : decode cX4_keptLines 34 = .ok (.aload_n 1, 1) := by decide +kernel
theorem dX4_keptLines_35 : decode cX4_keptLines 35 = .ok (.getfield 45, 3) := by decide +kernel
theorem dX4_keptLines_38 : decode cX4_keptLines 38 = .ok (.iload_n 3, 1) := by decide +kernel
theorem dX4_keptLines_39 : decode cX4_keptLines 39 = .ok (.iaload, 1) := by decide +kernel
theorem dX4_keptLines_40 : decode cX4_keptLines 40 = .ok (.iload 5, 2) := by decide +kernel
theorem dX4_keptLines_42 : decode cX4_keptLines 42 = .ok (.imul, 1) := by decide +kernel
theorem dX4_keptLines_43 : decode cX4_keptLines 43 = .ok (.bipush 100, 2) := by decide +kernel
theorem dX4_keptLines_45 : decode cX4_keptLines 45 = .ok (.idiv, 1) := by decide +kernel
theorem dX4_keptLines_46 : decode cX4_keptLines 46 = .ok (.ireturn, 1) := by decide +kernel
theorem dX4_lostLines_0 : decode cX4_lostLines 0 = .ok (.aload_n 1, 1) := by decide +kernel
theorem dX4_lostLines_1 : decode cX4_lostLines 1 = .ok (.getfield 45, 3) := by decide +kernel
theorem dX4_lostLines_4 : decode cX4_lostLines 4 = .ok (.iload_n 3, 1) := by decide +kernel
theorem dX4_lostLines_5 : decode cX4_lostLines 5 = .ok (.iaload, 1) := by decide +kernel
theorem dX4_lostLines_6 : decode cX4_lostLines 6 = .ok (.aload_n 0, 1) := by decide +kernel
theorem dX4_lostLines_7 : decode cX4_lostLines 7 = .ok (.aload_n 1, 1) := by decide +kernel
theorem dX4_lostLines_8 : decode cX4_lostLines 8 = .ok (.iload_n 2, 1) := by decide +kernel
theorem dX4_lostLines_9 : decode cX4_lostLines 9 = .ok (.iload_n 3, 1) := by decide +kernel
theorem dX4_lostLines_10 : decode cX4_lostLines 10 = .ok (.invokevirtual 48, 3) := by decide +kernel
theorem dX4_lostLines_13 : decode cX4_lostLines 13 = .ok (.isub, 1) := by decide +kernel
theorem dX4_lostLines_14 : decode cX4_lostLines 14 = .ok (.ireturn, 1) := by decide +kernel
theorem dX4_playNight_0 : decode cX4_playNight 0 = .ok (.iload_n 3, 1) := by decide +kernel
theorem dX4_playNight_1 : decode cX4_playNight 1 = .ok (.ifCond .ne 4, 3) := by decide +kernel
theorem dX4_playNight_4 : decode cX4_playNight 4 = .ok (.return_, 1) := by decide +kernel
theorem dX4_playNight_5 : decode cX4_playNight 5 = .ok (.aload_n 1, 1) := by decide +kernel
theorem dX4_playNight_6 : decode cX4_playNight 6 = .ok (.iload_n 3, 1) := by decide +kernel
theorem dX4_playNight_7 : decode cX4_playNight 7 = .ok (.aload_n 1, 1) := by decide +kernel
theorem dX4_playNight_8 : decode cX4_playNight 8 = .ok (.iload_n 2, 1) := by decide +kernel
theorem dX4_playNight_9 : decode cX4_playNight 9 = .ok (.invokevirtual 52, 3) := by decide +kernel
theorem dX4_playNight_12 : decode cX4_playNight 12 = .ok (.iconst (-1), 1) := by decide +kernel
theorem dX4_playNight_13 : decode cX4_playNight 13 = .ok (.ixor, 1) := by decide +kernel
theorem dX4_playNight_14 : decode cX4_playNight 14 = .ok (.iand, 1) := by decide +kernel
theorem dX4_playNight_15 : decode cX4_playNight 15 = .ok (.invokevirtual 56, 3) := by decide +kernel
theorem dX4_playNight_18 : decode cX4_playNight 18 = .ok (.istore 4, 2) := by decide +kernel
theorem dX4_playNight_20 : decode cX4_playNight 20 = .ok (.aload_n 0, 1) := by decide +kernel
theorem dX4_playNight_21 : decode cX4_playNight 21 = .ok (.getfield 9, 3) := by decide +kernel
theorem dX4_playNight_24 : decode cX4_playNight 24 = .ok (.iload_n 2, 1) := by decide +kernel
theorem dX4_playNight_25 : decode cX4_playNight 25 = .ok (.dup2, 1) := by decide +kernel
theorem dX4_playNight_26 : decode cX4_playNight 26 = .ok (.iaload, 1) := by decide +kernel
theorem dX4_playNight_27 : decode cX4_playNight 27 = .ok (.aload_n 1, 1) := by decide +kernel
theorem dX4_playNight_28 : decode cX4_playNight 28 = .ok (.getfield 59, 3) := by decide +kernel
theorem dX4_playNight_31 : decode cX4_playNight 31 = .ok (.aload_n 1, 1) := by decide +kernel
theorem dX4_playNight_32 : decode cX4_playNight 32 = .ok (.getfield 62, 3) := by decide +kernel
theorem dX4_playNight_35 : decode cX4_playNight 35 = .ok (.iload 4, 2) := by decide +kernel
theorem dX4_playNight_37 : decode cX4_playNight 37 = .ok (.imul, 1) := by decide +kernel
theorem dX4_playNight_38 : decode cX4_playNight 38 = .ok (.bipush 10, 2) := by decide +kernel
theorem dX4_playNight_40 : decode cX4_playNight 40 = .ok (.idiv, 1) := by decide +kernel
theorem dX4_playNight_41 : decode cX4_playNight 41 = .ok (.iadd, 1) := by decide +kernel
theorem dX4_playNight_42 : decode cX4_playNight 42 = .ok (.iadd, 1) := by decide +kernel
theorem dX4_playNight_43 : decode cX4_playNight 43 = .ok (.iastore, 1) := by decide +kernel
theorem dX4_playNight_44 : decode cX4_playNight 44 = .ok (.iconst 0, 1) := by decide +kernel
theorem dX4_playNight_45 : decode cX4_playNight 45 = .ok (.istore 5, 2) := by decide +kernel
theorem dX4_playNight_47 : decode cX4_playNight 47 = .ok (.iload 5, 2) := by decide +kernel
theorem dX4_playNight_49 : decode cX4_playNight 49 = .ok (.aload_n 1, 1) := by decide +kernel
theorem dX4_playNight_50 : decode cX4_playNight 50 = .ok (.getfield 65, 3) := by decide +kernel
theorem dX4_playNight_53 : decode cX4_playNight 53 = .ok (.if_icmp .ge 25, 3) := by decide +kernel
theorem dX4_playNight_56 : decode cX4_playNight 56 = .ok (.iload_n 3, 1) := by decide +kernel
theorem dX4_playNight_57 : decode cX4_playNight 57 = .ok (.iload 5, 2) := by decide +kernel
theorem dX4_playNight_59 : decode cX4_playNight 59 = .ok (.invokestatic 68, 3) := by decide +kernel
theorem dX4_playNight_62 : decode cX4_playNight 62 = .ok (.ifCond .eq 10, 3) := by decide +kernel
theorem dX4_playNight_65 : decode cX4_playNight 65 = .ok (.aload_n 0, 1) := by decide +kernel
theorem dX4_playNight_66 : decode cX4_playNight 66 = .ok (.iload_n 2, 1) := by decide +kernel
theorem dX4_playNight_67 : decode cX4_playNight 67 = .ok (.iload 5, 2) := by decide +kernel
theorem dX4_playNight_69 : decode cX4_playNight 69 = .ok (.invokevirtual 72, 3) := by decide +kernel
theorem dX4_playNight_72 : decode cX4_playNight 72 = .ok (.iinc 5 1, 3) := by decide +kernel
theorem dX4_playNight_75 : decode cX4_playNight 75 = .ok (.goto (-28), 3) := by decide +kernel
theorem dX4_playNight_78 : decode cX4_playNight 78 = .ok (.return_, 1) := by decide +kernel
theorem dX5_init_0 : decode cX5_init 0 = .ok (.aload_n 0, 1) := by decide +kernel
theorem dX5_init_1 : decode cX5_init 1 = .ok (.invokespecial 3, 3) := by decide +kernel
theorem dX5_init_4 : decode cX5_init 4 = .ok (.aload_n 0, 1) := by decide +kernel
theorem dX5_init_5 : decode cX5_init 5 = .ok (.bipush 10, 2) := by decide +kernel
theorem dX5_init_7 : decode cX5_init 7 = .ok (.newarray .int, 2) := by decide +kernel
theorem dX5_init_9 : decode cX5_init 9 = .ok (.putfield 9, 3) := by decide +kernel
theorem dX5_init_12 : decode cX5_init 12 = .ok (.aload_n 0, 1) := by decide +kernel
theorem dX5_init_13 : decode cX5_init 13 = .ok (.bipush 10, 2) := by decide +kernel
theorem dX5_init_15 : decode cX5_init 15 = .ok (.newarray .int, 2) := by decide +kernel
theorem dX5_init_17 : decode cX5_init 17 = .ok (.putfield 15, 3) := by decide +kernel
theorem dX5_init_20 : decode cX5_init 20 = .ok (.return_, 1) := by decide +kernel
theorem dX5_clear_0 : decode cX5_clear 0 = .ok (.aload_n 0, 1) := by decide +kernel
theorem dX5_clear_1 : decode cX5_clear 1 = .ok (.iconst 0, 1) := by decide +kernel
theorem dX5_clear_2 : decode cX5_clear 2 = .ok (.putfield 18, 3) := by decide +kernel
theorem dX5_clear_5 : decode cX5_clear 5 = .ok (.aload_n 0, 1) := by decide +kernel
theorem dX5_clear_6 : decode cX5_clear 6 = .ok (.iconst 0, 1) := by decide +kernel
theorem dX5_clear_7 : decode cX5_clear 7 = .ok (.putfield 22, 3) := by decide +kernel
theorem dX5_clear_10 : decode cX5_clear 10 = .ok (.return_, 1) := by decide +kernel
theorem dX5_addScene_0 : decode cX5_addScene 0 = .ok (.aload_n 0, 1) := by decide +kernel
theorem dX5_addScene_1 : decode cX5_addScene 1 = .ok (.getfield 9, 3) := by decide +kernel
theorem dX5_addScene_4 : decode cX5_addScene 4 = .ok (.aload_n 0, 1) := by decide +kernel
theorem dX5_addScene_5 : decode cX5_addScene 5 = .ok (.getfield 18, 3) := by decide +kernel
theorem dX5_addScene_8 : decode cX5_addScene 8 = .ok (.iload_n 1, 1) := by decide +kernel
theorem dX5_addScene_9 : decode cX5_addScene 9 = .ok (.iastore, 1) := by decide +kernel
theorem dX5_addScene_10 : decode cX5_addScene 10 = .ok (.aload_n 0, 1) := by decide +kernel
theorem dX5_addScene_11 : decode cX5_addScene 11 = .ok (.getfield 15, 3) := by decide +kernel
theorem dX5_addScene_14 : decode cX5_addScene 14 = .ok (.aload_n 0, 1) := by decide +kernel
theorem dX5_addScene_15 : decode cX5_addScene 15 = .ok (.getfield 18, 3) := by decide +kernel
theorem dX5_addScene_18 : decode cX5_addScene 18 = .ok (.iload_n 2, 1) := by decide +kernel
theorem dX5_addScene_19 : decode cX5_addScene 19 = .ok (.iastore, 1) := by decide +kernel
theorem dX5_addScene_20 : decode cX5_addScene 20 = .ok (.aload_n 0, 1) := by decide +kernel
theorem dX5_addScene_21 : decode cX5_addScene 21 = .ok (.dup, 1) := by decide +kernel
theorem dX5_addScene_22 : decode cX5_addScene 22 = .ok (.getfield 18, 3) := by decide +kernel
theorem dX5_addScene_25 : decode cX5_addScene 25 = .ok (.iconst 1, 1) := by decide +kernel
theorem dX5_addScene_26 : decode cX5_addScene 26 = .ok (.iadd, 1) := by decide +kernel
theorem dX5_addScene_27 : decode cX5_addScene 27 = .ok (.putfield 18, 3) := by decide +kernel
theorem dX5_addScene_30 : decode cX5_addScene 30 = .ok (.return_, 1) := by decide +kernel
theorem dX5_scenesOf_0 : decode cX5_scenesOf 0 = .ok (.iconst 0, 1) := by decide +kernel
theorem dX5_scenesOf_1 : decode cX5_scenesOf 1 = .ok (.istore_n 2, 1) := by decide +kernel
theorem dX5_scenesOf_2 : decode cX5_scenesOf 2 = .ok (.iconst 0, 1) := by decide +kernel
theorem dX5_scenesOf_3 : decode cX5_scenesOf 3 = .ok (.istore_n 3, 1) := by decide +kernel
theorem dX5_scenesOf_4 : decode cX5_scenesOf 4 = .ok (.iload_n 3, 1) := by decide +kernel
theorem dX5_scenesOf_5 : decode cX5_scenesOf 5 = .ok (.aload_n 0, 1) := by decide +kernel
theorem dX5_scenesOf_6 : decode cX5_scenesOf 6 = .ok (.getfield 18, 3) := by decide +kernel
theorem dX5_scenesOf_9 : decode cX5_scenesOf 9 = .ok (.if_icmp .ge 28, 3) := by decide +kernel
theorem dX5_scenesOf_12 : decode cX5_scenesOf 12 = .ok (.aload_n 0, 1) := by decide +kernel
theorem dX5_scenesOf_13 : decode cX5_scenesOf 13 = .ok (.getfield 9, 3) := by decide +kernel
theorem dX5_scenesOf_16 : decode cX5_scenesOf 16 = .ok (.iload_n 3, 1) := by decide +kernel
theorem dX5_scenesOf_17 : decode cX5_scenesOf 17 = .ok (.iaload, 1) := by decide +kernel
theorem dX5_scenesOf_18 : decode cX5_scenesOf 18 = .ok (.iload_n 1, 1) := by decide +kernel
theorem dX5_scenesOf_19 : decode cX5_scenesOf 19 = .ok (.invokestatic 25, 3) := by decide +kernel
theorem dX5_scenesOf_22 : decode cX5_scenesOf 22 = .ok (.ifCond .eq 9, 3) := by decide +kernel
theorem dX5_scenesOf_25 : decode cX5_scenesOf 25 = .ok (.iload_n 2, 1) := by decide +kernel
theorem dX5_scenesOf_26 : decode cX5_scenesOf 26 = .ok (.iconst 1, 1) := by decide +kernel
theorem dX5_scenesOf_27 : decode cX5_scenesOf 27 = .ok (.iload_n 3, 1) := by decide +kernel
theorem dX5_scenesOf_28 : decode cX5_scenesOf 28 = .ok (.ishl, 1) := by decide +kernel
theorem dX5_scenesOf_29 : decode cX5_scenesOf 29 = .ok (.ior, 1) := by decide +kernel
theorem dX5_scenesOf_30 : decode cX5_scenesOf 30 = .ok (.istore_n 2, 1) := by decide +kernel
theorem dX5_scenesOf_31 : decode cX5_scenesOf 31 = .ok (.iinc 3 1, 3) := by decide +kernel
theorem dX5_scenesOf_34 : decode cX5_scenesOf 34 = .ok (.goto (-30), 3) := by decide +kernel
theorem dX5_scenesOf_37 : decode cX5_scenesOf 37 = .ok (.iload_n 2, 1) := by decide +kernel
theorem dX5_scenesOf_38 : decode cX5_scenesOf 38 = .ok (.ireturn, 1) := by decide +kernel
theorem dX5_clashes_0 : decode cX5_clashes 0 = .ok (.bipush (-4), 2) := by decide +kernel
theorem dX5_clashes_2 : decode cX5_clashes 2 = .ok (.istore_n 3, 1) := by decide +kernel
theorem dX5_clashes_3 : decode cX5_clashes 3 = .ok (.iconst 0, 1) := by decide +kernel
theorem dX5_clashes_4 : decode cX5_clashes 4 = .ok (.istore 4, 2) := by decide +kernel
theorem dX5_clashes_6 : decode cX5_clashes 6 = .ok (.iconst 0, 1) := by decide +kernel
theorem dX5_clashes_7 : decode cX5_clashes 7 = .ok (.istore 5, 2) := by decide +kernel
theorem dX5_clashes_9 : decode cX5_clashes 9 = .ok (.iload 5, 2) := by decide +kernel
theorem dX5_clashes_11 : decode cX5_clashes 11 = .ok (.aload_n 0, 1) := by decide +kernel
theorem dX5_clashes_12 : decode cX5_clashes 12 = .ok (.getfield 18, 3) := by decide +kernel
theorem dX5_clashes_15 : decode cX5_clashes 15 = .ok (.if_icmp .ge 123, 3) := by decide +kernel
theorem dX5_clashes_18 : decode cX5_clashes 18 = .ok (.aload_n 0, 1) := by decide +kernel
theorem dX5_clashes_19 : decode cX5_clashes 19 = .ok (.getfield 9, 3) := by decide +kernel
theorem dX5_clashes_22 : decode cX5_clashes 22 = .ok (.iload 5, 2) := by decide +kernel
theorem dX5_clashes_24 : decode cX5_clashes 24 = .ok (.iaload, 1) := by decide +kernel
theorem dX5_clashes_25 : decode cX5_clashes 25 = .ok (.iload_n 1, 1) := by decide +kernel
theorem dX5_clashes_26 : decode cX5_clashes 26 = .ok (.invokestatic 25, 3) := by decide +kernel
theorem dX5_clashes_29 : decode cX5_clashes 29 = .ok (.istore 6, 2) := by decide +kernel
theorem dX5_clashes_31 : decode cX5_clashes 31 = .ok (.aload_n 0, 1) := by decide +kernel
theorem dX5_clashes_32 : decode cX5_clashes 32 = .ok (.getfield 9, 3) := by decide +kernel
theorem dX5_clashes_35 : decode cX5_clashes 35 = .ok (.iload 5, 2) := by decide +kernel
theorem dX5_clashes_37 : decode cX5_clashes 37 = .ok (.iaload, 1) := by decide +kernel
theorem dX5_clashes_38 : decode cX5_clashes 38 = .ok (.iload_n 2, 1) := by decide +kernel
theorem dX5_clashes_39 : decode cX5_clashes 39 = .ok (.invokestatic 25, 3) := by decide +kernel
theorem dX5_clashes_42 : decode cX5_clashes 42 = .ok (.istore 7, 2) := by decide +kernel
theorem dX5_clashes_44 : decode cX5_clashes 44 = .ok (.iload 6, 2) := by decide +kernel
theorem dX5_clashes_46 : decode cX5_clashes 46 = .ok (.ifCond .ne 23, 3) := by decide +kernel
theorem dX5_clashes_49 : decode cX5_clashes 49 = .ok (.iload 7, 2) := by decide +kernel
theorem dX5_clashes_51 : decode cX5_clashes 51 = .ok (.ifCond .ne 18, 3) := by decide +kernel
theorem dX5_clashes_54 : decode cX5_clashes 54 = .ok (.iload 4, 2) := by decide +kernel
theorem dX5_clashes_56 : decode cX5_clashes 56 = .ok (.aload_n 0, 1) := by decide +kernel
theorem dX5_clashes_57 : decode cX5_clashes 57 = .ok (.getfield 15, 3) := by decide +kernel
theorem dX5_clashes_60 : decode cX5_clashes 60 = .ok (.iload 5, 2) := by decide +kernel
theorem dX5_clashes_62 : decode cX5_clashes 62 = .ok (.iaload, 1) := by decide +kernel
theorem dX5_clashes_63 : decode cX5_clashes 63 = .ok (.iadd, 1) := by decide +kernel
theorem dX5_clashes_64 : decode cX5_clashes 64 = .ok (.istore 4, 2) := by decide +kernel
theorem dX5_clashes_66 : decode cX5_clashes 66 = .ok (.goto 66, 3) := by decide +kernel
theorem dX5_clashes_69 : decode cX5_clashes 69 = .ok (.iload 6, 2) := by decide +kernel
theorem dX5_clashes_71 : decode cX5_clashes 71 = .ok (.ifCond .eq 7, 3) := by decide +kernel
theorem dX5_clashes_74 : decode cX5_clashes 74 = .ok (.iload_n 1, 1) := by decide +kernel
theorem dX5_clashes_75 : decode cX5_clashes 75 = .ok (.goto 4, 3) := by decide +kernel
theorem dX5_clashes_78 : decode cX5_clashes 78 = .ok (.iload_n 2, 1) := by decide +kernel
theorem dX5_clashes_79 : decode cX5_clashes 79 = .ok (.istore 8, 2) := by decide +kernel
theorem dX5_clashes_81 : decode cX5_clashes 81 = .ok (.iload_n 3, 1) := by decide +kernel
theorem dX5_clashes_82 : decode cX5_clashes 82 = .ok (.bipush (-4), 2) := by decide +kernel
theorem dX5_clashes_84 : decode cX5_clashes 84 = .ok (.if_icmp .eq 13, 3) := by decide +kernel
theorem dX5_clashes_87 : decode cX5_clashes 87 = .ok (.iload_n 3, 1) := by decide +kernel
theorem dX5_clashes_88 : decode cX5_clashes 88 = .ok (.iload 8, 2) := by decide +kernel
theorem dX5_clashes_90 : decode cX5_clashes 90 = .ok (.if_icmp .eq 7, 3) := by decide +kernel
theorem dX5_clashes_93 : decode cX5_clashes 93 = .ok (.iconst 1, 1) := by decide +kernel
theorem dX5_clashes_94 : decode cX5_clashes 94 = .ok (.goto 4, 3) := by decide +kernel
theorem dX5_clashes_97 : decode cX5_clashes 97 = .ok (.iconst 0, 1) := by decide +kernel
theorem dX5_clashes_98 : decode cX5_clashes 98 = .ok (.istore 9, 2) := by decide +kernel
theorem dX5_clashes_100 : decode cX5_clashes 100 = .ok (.iload 6, 2) := by decide +kernel
theorem dX5_clashes_102 : decode cX5_clashes 102 = .ok (.ifCond .eq 8, 3) := by decide +kernel
theorem dX5_clashes_105 : decode cX5_clashes 105 = .ok (.iload 7, 2) := by decide +kernel
theorem dX5_clashes_107 : decode cX5_clashes 107 = .ok (.ifCond .ne 17, 3) := by decide +kernel
theorem dX5_clashes_110 : decode cX5_clashes 110 = .ok (.iload 9, 2) := by decide +kernel
theorem dX5_clashes_112 : decode cX5_clashes 112 = .ok (.ifCond .eq 14, 3) := by decide +kernel
theorem dX5_clashes_115 : decode cX5_clashes 115 = .ok (.iload 4, 2) := by decide +kernel
theorem dX5_clashes_117 : decode cX5_clashes 117 = .ok (.aload_n 0, 1) := by decide +kernel
theorem dX5_clashes_118 : decode cX5_clashes 118 = .ok (.getfield 22, 3) := by decide +kernel
theorem dX5_clashes_121 : decode cX5_clashes 121 = .ok (.if_icmp .ge 5, 3) := by decide +kernel
theorem dX5_clashes_124 : decode cX5_clashes 124 = .ok (.iconst 1, 1) := by decide +kernel
theorem dX5_clashes_125 : decode cX5_clashes 125 = .ok (.ireturn, 1) := by decide +kernel
theorem dX5_clashes_126 : decode cX5_clashes 126 = .ok (.iload 8, 2) := by decide +kernel
theorem dX5_clashes_128 : decode cX5_clashes 128 = .ok (.istore_n 3, 1) := by decide +kernel
theorem dX5_clashes_129 : decode cX5_clashes 129 = .ok (.iconst 0, 1) := by decide +kernel
theorem dX5_clashes_130 : decode cX5_clashes 130 = .ok (.istore 4, 2) := by decide +kernel
theorem dX5_clashes_132 : decode cX5_clashes 132 = .ok (.iinc 5 1, 3) := by decide +kernel
theorem dX5_clashes_135 : decode cX5_clashes 135 = .ok (.goto (-126), 3) := by decide +kernel
theorem dX5_clashes_138 : decode cX5_clashes 138 = .ok (.iconst 0, 1) := by decide +kernel
theorem dX5_clashes_139 : decode cX5_clashes 139 = .ok (.ireturn, 1) := by decide +kernel
theorem dX6_init_0 : decode cX6_init 0 = .ok (.aload_n 0, 1) := by decide +kernel
theorem dX6_init_1 : decode cX6_init 1 = .ok (.invokespecial 3, 3) := by decide +kernel
theorem dX6_init_4 : decode cX6_init 4 = .ok (.aload_n 0, 1) := by decide +kernel
theorem dX6_init_5 : decode cX6_init 5 = .ok (.iconst 4, 1) := by decide +kernel
theorem dX6_init_6 : decode cX6_init 6 = .ok (.newarray .int, 2) := by decide +kernel
theorem dX6_init_8 : decode cX6_init 8 = .ok (.putfield 9, 3) := by decide +kernel
theorem dX6_init_11 : decode cX6_init 11 = .ok (.return_, 1) := by decide +kernel
theorem dX6_firstFault_0 : decode cX6_firstFault 0 = .ok (.aload_n 3, 1) := by decide +kernel
theorem dX6_firstFault_1 : decode cX6_firstFault 1 = .ok (.invokevirtual 15, 3) := by decide +kernel
theorem dX6_firstFault_4 : decode cX6_firstFault 4 = .ok (.iconst 0, 1) := by decide +kernel
theorem dX6_firstFault_5 : decode cX6_firstFault 5 = .ok (.istore 4, 2) := by decide +kernel
theorem dX6_firstFault_7 : decode cX6_firstFault 7 = .ok (.iload 4, 2) := by decide +kernel
theorem dX6_firstFault_9 : decode cX6_firstFault 9 = .ok (.iload_n 2, 1) := by decide +kernel
theorem dX6_firstFault_10 : decode cX6_firstFault 10 = .ok (.if_icmp .ge 49, 3) := by decide +kernel
theorem dX6_firstFault_13 : decode cX6_firstFault 13 = .ok (.aload_n 0, 1) := by decide +kernel
theorem dX6_firstFault_14 : decode cX6_firstFault 14 = .ok (.aload_n 1, 1) := by decide +kernel
theorem dX6_firstFault_15 : decode cX6_firstFault 15 = .ok (.iload_n 2, 1) := by decide +kernel
theorem dX6_firstFault_16 : decode cX6_firstFault 16 = .ok (.iload 4, 2) := by decide +kernel
theorem dX6_firstFault_18 : decode cX6_firstFault 18 = .ok (.invokevirtual 20, 3) := by decide +kernel
theorem dX6_firstFault_21 : decode cX6_firstFault 21 = .ok (.istore 5, 2) := by decide +kernel
theorem dX6_firstFault_23 : decode cX6_firstFault 23 = .ok (.iload 5, 2) := by decide +kernel
theorem dX6_firstFault_25 : decode cX6_firstFault 25 = .ok (.iload 4, 2) := by decide +kernel
theorem dX6_firstFault_27 : decode cX6_firstFault 27 = .ok (.if_icmp .le 22, 3) := by decide +kernel
theorem dX6_firstFault_30 : decode cX6_firstFault 30 = .ok (.aload_n 3, 1) := by decide +kernel
theorem dX6_firstFault_31 : decode cX6_firstFault 31 = .ok (.aload_n 1, 1) := by decide +kernel
theorem dX6_firstFault_32 : decode cX6_firstFault 32 = .ok (.iload 4, 2) := by decide +kernel
theorem dX6_firstFault_34 : decode cX6_firstFault 34 = .ok (.baload, 1) := by decide +kernel
theorem dX6_firstFault_35 : decode cX6_firstFault 35 = .ok (.aload_n 0, 1) := by decide +kernel
theorem dX6_firstFault_36 : decode cX6_firstFault 36 = .ok (.getfield 9, 3) := by decide +kernel
theorem dX6_firstFault_39 : decode cX6_firstFault 39 = .ok (.aload_n 0, 1) := by decide +kernel
theorem dX6_firstFault_40 : decode cX6_firstFault 40 = .ok (.getfield 24, 3) := by decide +kernel
theorem dX6_firstFault_43 : decode cX6_firstFault 43 = .ok (.invokevirtual 28, 3) := by decide +kernel
theorem dX6_firstFault_46 : decode cX6_firstFault 46 = .ok (.ifCond .ne 6, 3) := by decide +kernel
theorem dX6_firstFault_49 : decode cX6_firstFault 49 = .ok (.iload 4, 2) := by decide +kernel
theorem dX6_firstFault_51 : decode cX6_firstFault 51 = .ok (.ireturn, 1) := by decide +kernel
theorem dX6_firstFault_52 : decode cX6_firstFault 52 = .ok (.iload 5, 2) := by decide +kernel
theorem dX6_firstFault_54 : decode cX6_firstFault 54 = .ok (.istore 4, 2) := by decide +kernel
theorem dX6_firstFault_56 : decode cX6_firstFault 56 = .ok (.goto (-49), 3) := by decide +kernel
theorem dX6_firstFault_59 : decode cX6_firstFault 59 = .ok (.bipush (-4), 2) := by decide +kernel
theorem dX6_firstFault_61 : decode cX6_firstFault 61 = .ok (.ireturn, 1) := by decide +kernel
theorem dX6_endOfItem_0 : decode cX6_endOfItem 0 = .ok (.iload_n 3, 1) := by decide +kernel
theorem dX6_endOfItem_1 : decode cX6_endOfItem 1 = .ok (.iconst 1, 1) := by decide +kernel
theorem dX6_endOfItem_2 : decode cX6_endOfItem 2 = .ok (.iadd, 1) := by decide +kernel
theorem dX6_endOfItem_3 : decode cX6_endOfItem 3 = .ok (.istore 4, 2) := by decide +kernel
theorem dX6_endOfItem_5 : decode cX6_endOfItem 5 = .ok (.iconst 0, 1) := by decide +kernel
theorem dX6_endOfItem_6 : decode cX6_endOfItem 6 = .ok (.istore 5, 2) := by decide +kernel
theorem dX6_endOfItem_8 : decode cX6_endOfItem 8 = .ok (.iload 5, 2) := by decide +kernel
theorem dX6_endOfItem_10 : decode cX6_endOfItem 10 = .ok (.aload_n 0, 1) := by decide +kernel
theorem dX6_endOfItem_11 : decode cX6_endOfItem 11 = .ok (.getfield 9, 3) := by decide +kernel
theorem dX6_endOfItem_14 : decode cX6_endOfItem 14 = .ok (.arraylength, 1) := by decide +kernel
theorem dX6_endOfItem_15 : decode cX6_endOfItem 15 = .ok (.if_icmp .ge 85, 3) := by decide +kernel
theorem dX6_endOfItem_18 : decode cX6_endOfItem 18 = .ok (.aload_n 1, 1) := by decide +kernel
theorem dX6_endOfItem_19 : decode cX6_endOfItem 19 = .ok (.iload_n 2, 1) := by decide +kernel
theorem dX6_endOfItem_20 : decode cX6_endOfItem 20 = .ok (.iload 4, 2) := by decide +kernel
theorem dX6_endOfItem_22 : decode cX6_endOfItem 22 = .ok (.invokestatic 32, 3) := by decide +kernel
theorem dX6_endOfItem_25 : decode cX6_endOfItem 25 = .ok (.istore 6, 2) := by decide +kernel
theorem dX6_endOfItem_27 : decode cX6_endOfItem 27 = .ok (.iload 6, 2) := by decide +kernel
theorem dX6_endOfItem_29 : decode cX6_endOfItem 29 = .ok (.iload 4, 2) := by decide +kernel
theorem dX6_endOfItem_31 : decode cX6_endOfItem 31 = .ok (.if_icmp .eq 9, 3) := by decide +kernel
theorem dX6_endOfItem_34 : decode cX6_endOfItem 34 = .ok (.iload 6, 2) := by decide +kernel
theorem dX6_endOfItem_36 : decode cX6_endOfItem 36 = .ok (.iload_n 2, 1) := by decide +kernel
theorem dX6_endOfItem_37 : decode cX6_endOfItem 37 = .ok (.if_icmp .lt 5, 3) := by decide +kernel
theorem dX6_endOfItem_40 : decode cX6_endOfItem 40 = .ok (.iconst 0, 1) := by decide +kernel
theorem dX6_endOfItem_41 : decode cX6_endOfItem 41 = .ok (.ireturn, 1) := by decide +kernel
theorem dX6_endOfItem_42 : decode cX6_endOfItem 42 = .ok (.aload_n 0, 1) := by decide +kernel
theorem dX6_endOfItem_43 : decode cX6_endOfItem 43 = .ok (.getfield 9, 3) := by decide +kernel
theorem dX6_endOfItem_46 : decode cX6_endOfItem 46 = .ok (.iload 5, 2) := by decide +kernel
theorem dX6_endOfItem_48 : decode cX6_endOfItem 48 = .ok (.aload_n 1, 1) := by decide +kernel
theorem dX6_endOfItem_49 : decode cX6_endOfItem 49 = .ok (.iload 4, 2) := by decide +kernel
theorem dX6_endOfItem_51 : decode cX6_endOfItem 51 = .ok (.iload 6, 2) := by decide +kernel
theorem dX6_endOfItem_53 : decode cX6_endOfItem 53 = .ok (.invokestatic 35, 3) := by decide +kernel
theorem dX6_endOfItem_56 : decode cX6_endOfItem 56 = .ok (.iastore, 1) := by decide +kernel
theorem dX6_endOfItem_57 : decode cX6_endOfItem 57 = .ok (.iload 6, 2) := by decide +kernel
theorem dX6_endOfItem_59 : decode cX6_endOfItem 59 = .ok (.iconst 1, 1) := by decide +kernel
theorem dX6_endOfItem_60 : decode cX6_endOfItem 60 = .ok (.iadd, 1) := by decide +kernel
theorem dX6_endOfItem_61 : decode cX6_endOfItem 61 = .ok (.istore 4, 2) := by decide +kernel
theorem dX6_endOfItem_63 : decode cX6_endOfItem 63 = .ok (.aload_n 1, 1) := by decide +kernel
theorem dX6_endOfItem_64 : decode cX6_endOfItem 64 = .ok (.iload 6, 2) := by decide +kernel
theorem dX6_endOfItem_66 : decode cX6_endOfItem 66 = .ok (.baload, 1) := by decide +kernel
theorem dX6_endOfItem_67 : decode cX6_endOfItem 67 = .ok (.bipush 59, 2) := by decide +kernel
theorem dX6_endOfItem_69 : decode cX6_endOfItem 69 = .ok (.if_icmp .ne 14, 3) := by decide +kernel
theorem dX6_endOfItem_72 : decode cX6_endOfItem 72 = .ok (.aload_n 0, 1) := by decide +kernel
theorem dX6_endOfItem_73 : decode cX6_endOfItem 73 = .ok (.iload 5, 2) := by decide +kernel
theorem dX6_endOfItem_75 : decode cX6_endOfItem 75 = .ok (.iconst 1, 1) := by decide +kernel
theorem dX6_endOfItem_76 : decode cX6_endOfItem 76 = .ok (.iadd, 1) := by decide +kernel
theorem dX6_endOfItem_77 : decode cX6_endOfItem 77 = .ok (.putfield 24, 3) := by decide +kernel
theorem dX6_endOfItem_80 : decode cX6_endOfItem 80 = .ok (.iload 4, 2) := by decide +kernel
theorem dX6_endOfItem_82 : decode cX6_endOfItem 82 = .ok (.ireturn, 1) := by decide +kernel
theorem dX6_endOfItem_83 : decode cX6_endOfItem 83 = .ok (.aload_n 1, 1) := by decide +kernel
theorem dX6_endOfItem_84 : decode cX6_endOfItem 84 = .ok (.iload 6, 2) := by decide +kernel
theorem dX6_endOfItem_86 : decode cX6_endOfItem 86 = .ok (.baload, 1) := by decide +kernel
theorem dX6_endOfItem_87 : decode cX6_endOfItem 87 = .ok (.bipush 44, 2) := by decide +kernel
theorem dX6_endOfItem_89 : decode cX6_endOfItem 89 = .ok (.if_icmp .eq 5, 3) := by decide +kernel
theorem dX6_endOfItem_92 : decode cX6_endOfItem 92 = .ok (.iconst 0, 1) := by decide +kernel
theorem dX6_endOfItem_93 : decode cX6_endOfItem 93 = .ok (.ireturn, 1) := by decide +kernel
theorem dX6_endOfItem_94 : decode cX6_endOfItem 94 = .ok (.iinc 5 1, 3) := by decide +kernel
theorem dX6_endOfItem_97 : decode cX6_endOfItem 97 = .ok (.goto (-89), 3) := by decide +kernel
theorem dX6_endOfItem_100 : decode cX6_endOfItem 100 = .ok (.iconst 0, 1) := by decide +kernel
theorem dX6_endOfItem_101 : decode cX6_endOfItem 101 = .ok (.ireturn, 1) := by decide +kernel
theorem dX6_endOfFigures_0 : decode cX6_endOfFigures 0 = .ok (.iload_n 2, 1) := by decide +kernel
theorem dX6_endOfFigures_1 : decode cX6_endOfFigures 1 = .ok (.istore_n 3, 1) := by decide +kernel
theorem dX6_endOfFigures_2 : decode cX6_endOfFigures 2 = .ok (.iload_n 3, 1) := by decide +kernel
theorem dX6_endOfFigures_3 : decode cX6_endOfFigures 3 = .ok (.iload_n 1, 1) := by decide +kernel
theorem dX6_endOfFigures_4 : decode cX6_endOfFigures 4 = .ok (.if_icmp .ge 32, 3) := by decide +kernel
theorem dX6_endOfFigures_7 : decode cX6_endOfFigures 7 = .ok (.iload_n 3, 1) := by decide +kernel
theorem dX6_endOfFigures_8 : decode cX6_endOfFigures 8 = .ok (.iload_n 2, 1) := by decide +kernel
theorem dX6_endOfFigures_9 : decode cX6_endOfFigures 9 = .ok (.iconst 3, 1) := by decide +kernel
theorem dX6_endOfFigures_10 : decode cX6_endOfFigures 10 = .ok (.iadd, 1) := by decide +kernel
theorem dX6_endOfFigures_11 : decode cX6_endOfFigures 11 = .ok (.if_icmp .ge 25, 3) := by decide +kernel
theorem dX6_endOfFigures_14 : decode cX6_endOfFigures 14 = .ok (.aload_n 0, 1) := by decide +kernel
theorem dX6_endOfFigures_15 : decode cX6_endOfFigures 15 = .ok (.iload_n 3, 1) := by decide +kernel
theorem dX6_endOfFigures_16 : decode cX6_endOfFigures 16 = .ok (.baload, 1) := by decide +kernel
theorem dX6_endOfFigures_17 : decode cX6_endOfFigures 17 = .ok (.bipush 48, 2) := by decide +kernel
theorem dX6_endOfFigures_19 : decode cX6_endOfFigures 19 = .ok (.if_icmp .lt 17, 3) := by decide +kernel
theorem dX6_endOfFigures_22 : decode cX6_endOfFigures 22 = .ok (.aload_n 0, 1) := by decide +kernel
theorem dX6_endOfFigures_23 : decode cX6_endOfFigures 23 = .ok (.iload_n 3, 1) := by decide +kernel
theorem dX6_endOfFigures_24 : decode cX6_endOfFigures 24 = .ok (.baload, 1) := by decide +kernel
theorem dX6_endOfFigures_25 : decode cX6_endOfFigures 25 = .ok (.bipush 57, 2) := by decide +kernel
theorem dX6_endOfFigures_27 : decode cX6_endOfFigures 27 = .ok (.if_icmp .gt 9, 3) := by decide +kernel
theorem dX6_endOfFigures_30 : decode cX6_endOfFigures 30 = .ok (.iinc 3 1, 3) := by decide +kernel
theorem dX6_endOfFigures_33 : decode cX6_endOfFigures 33 = .ok (.goto (-31), 3) := by decide +kernel
theorem dX6_endOfFigures_36 : decode cX6_endOfFigures 36 = .ok (.iload_n 3, 1) := by decide +kernel
theorem dX6_endOfFigures_37 : decode cX6_endOfFigures 37 = .ok (.ireturn, 1) := by decide +kernel
theorem dX6_numberOf_0 : decode cX6_numberOf 0 = .ok (.iconst 0, 1) := by decide +kernel
theorem dX6_numberOf_1 : decode cX6_numberOf 1 = .ok (.istore_n 3, 1) := by decide +kernel
theorem dX6_numberOf_2 : decode cX6_numberOf 2 = .ok (.iload_n 1, 1) := by decide +kernel
theorem dX6_numberOf_3 : decode cX6_numberOf 3 = .ok (.istore 4, 2) := by decide +kernel
theorem dX6_numberOf_5 : decode cX6_numberOf 5 = .ok (.iload 4, 2) := by decide +kernel
theorem dX6_numberOf_7 : decode cX6_numberOf 7 = .ok (.iload_n 2, 1) := by decide +kernel
theorem dX6_numberOf_8 : decode cX6_numberOf 8 = .ok (.if_icmp .ge 22, 3) := by decide +kernel
theorem dX6_numberOf_11 : decode cX6_numberOf 11 = .ok (.iload_n 3, 1) := by decide +kernel
theorem dX6_numberOf_12 : decode cX6_numberOf 12 = .ok (.bipush 10, 2) := by decide +kernel
theorem dX6_numberOf_14 : decode cX6_numberOf 14 = .ok (.imul, 1) := by decide +kernel
theorem dX6_numberOf_15 : decode cX6_numberOf 15 = .ok (.aload_n 0, 1) := by decide +kernel
theorem dX6_numberOf_16 : decode cX6_numberOf 16 = .ok (.iload 4, 2) := by decide +kernel
theorem dX6_numberOf_18 : decode cX6_numberOf 18 = .ok (.baload, 1) := by decide +kernel
theorem dX6_numberOf_19 : decode cX6_numberOf 19 = .ok (.iadd, 1) := by decide +kernel
theorem dX6_numberOf_20 : decode cX6_numberOf 20 = .ok (.bipush 48, 2) := by decide +kernel
theorem dX6_numberOf_22 : decode cX6_numberOf 22 = .ok (.isub, 1) := by decide +kernel
theorem dX6_numberOf_23 : decode cX6_numberOf 23 = .ok (.istore_n 3, 1) := by decide +kernel
theorem dX6_numberOf_24 : decode cX6_numberOf 24 = .ok (.iinc 4 1, 3) := by decide +kernel
theorem dX6_numberOf_27 : decode cX6_numberOf 27 = .ok (.goto (-22), 3) := by decide +kernel
theorem dX6_numberOf_30 : decode cX6_numberOf 30 = .ok (.iload_n 3, 1) := by decide +kernel
theorem dX6_numberOf_31 : decode cX6_numberOf 31 = .ok (.ireturn, 1) := by decide +kernel
theorem dX7_init_0 : decode cX7_init 0 = .ok (.aload_n 0, 1) := by decide +kernel
theorem dX7_init_1 : decode cX7_init 1 = .ok (.invokespecial 3, 3) := by decide +kernel
theorem dX7_init_4 : decode cX7_init 4 = .ok (.aload_n 0, 1) := by decide +kernel
theorem dX7_init_5 : decode cX7_init 5 = .ok (.sipush 1024, 3) := by decide +kernel
theorem dX7_init_8 : decode cX7_init 8 = .ok (.newarray .int, 2) := by decide +kernel
theorem dX7_init_10 : decode cX7_init 10 = .ok (.putfield 9, 3) := by decide +kernel
theorem dX7_init_13 : decode cX7_init 13 = .ok (.aload_n 0, 1) := by decide +kernel
theorem dX7_init_14 : decode cX7_init 14 = .ok (.sipush 1024, 3) := by decide +kernel
theorem dX7_init_17 : decode cX7_init 17 = .ok (.newarray .int, 2) := by decide +kernel
theorem dX7_init_19 : decode cX7_init 19 = .ok (.putfield 15, 3) := by decide +kernel
theorem dX7_init_22 : decode cX7_init 22 = .ok (.aload_n 0, 1) := by decide +kernel
theorem dX7_init_23 : decode cX7_init 23 = .ok (.sipush 1024, 3) := by decide +kernel
theorem dX7_init_26 : decode cX7_init 26 = .ok (.newarray .int, 2) := by decide +kernel
theorem dX7_init_28 : decode cX7_init 28 = .ok (.putfield 18, 3) := by decide +kernel
theorem dX7_init_31 : decode cX7_init 31 = .ok (.aload_n 0, 1) := by decide +kernel
theorem dX7_init_32 : decode cX7_init 32 = .ok (.sipush 1024, 3) := by decide +kernel
theorem dX7_init_35 : decode cX7_init 35 = .ok (.newarray .int, 2) := by decide +kernel
theorem dX7_init_37 : decode cX7_init 37 = .ok (.putfield 21, 3) := by decide +kernel
theorem dX7_init_40 : decode cX7_init 40 = .ok (.return_, 1) := by decide +kernel
theorem dX7_forget_0 : decode cX7_forget 0 = .ok (.aload_n 0, 1) := by decide +kernel
theorem dX7_forget_1 : decode cX7_forget 1 = .ok (.bipush (-4), 2) := by decide +kernel
theorem dX7_forget_3 : decode cX7_forget 3 = .ok (.putfield 24, 3) := by decide +kernel
theorem dX7_forget_6 : decode cX7_forget 6 = .ok (.return_, 1) := by decide +kernel
theorem dX7_goOn_0 : decode cX7_goOn 0 = .ok (.iload_n 2, 1) := by decide +kernel
theorem dX7_goOn_1 : decode cX7_goOn 1 = .ok (.aload_n 0, 1) := by decide +kernel
theorem dX7_goOn_2 : decode cX7_goOn 2 = .ok (.getfield 24, 3) := by decide +kernel
theorem dX7_goOn_5 : decode cX7_goOn 5 = .ok (.if_icmp .ne 11, 3) := by decide +kernel
theorem dX7_goOn_8 : decode cX7_goOn 8 = .ok (.iload_n 3, 1) := by decide +kernel
theorem dX7_goOn_9 : decode cX7_goOn 9 = .ok (.aload_n 0, 1) := by decide +kernel
theorem dX7_goOn_10 : decode cX7_goOn 10 = .ok (.getfield 28, 3) := by decide +kernel
theorem dX7_goOn_13 : decode cX7_goOn 13 = .ok (.if_icmp .ge 29, 3) := by decide +kernel
theorem dX7_goOn_16 : decode cX7_goOn 16 = .ok (.aload_n 0, 1) := by decide +kernel
theorem dX7_goOn_17 : decode cX7_goOn 17 = .ok (.getfield 9, 3) := by decide +kernel
theorem dX7_goOn_20 : decode cX7_goOn 20 = .ok (.iconst 0, 1) := by decide +kernel
theorem dX7_goOn_21 : decode cX7_goOn 21 = .ok (.invokestatic 31, 3) := by decide +kernel
theorem dX7_goOn_24 : decode cX7_goOn 24 = .ok (.aload_n 0, 1) := by decide +kernel
theorem dX7_goOn_25 : decode cX7_goOn 25 = .ok (.getfield 9, 3) := by decide +kernel
theorem dX7_goOn_28 : decode cX7_goOn 28 = .ok (.iload_n 2, 1) := by decide +kernel
theorem dX7_goOn_29 : decode cX7_goOn 29 = .ok (.ldc 37, 2) := by decide +kernel
theorem dX7_goOn_31 : decode cX7_goOn 31 = .ok (.iastore, 1) := by decide +kernel
theorem dX7_goOn_32 : decode cX7_goOn 32 = .ok (.aload_n 0, 1) := by decide +kernel
theorem dX7_goOn_33 : decode cX7_goOn 33 = .ok (.iload_n 2, 1) := by decide +kernel
theorem dX7_goOn_34 : decode cX7_goOn 34 = .ok (.putfield 24, 3) := by decide +kernel
theorem dX7_goOn_37 : decode cX7_goOn 37 = .ok (.aload_n 0, 1) := by decide +kernel
theorem dX7_goOn_38 : decode cX7_goOn 38 = .ok (.iconst 0, 1) := by decide +kernel
theorem dX7_goOn_39 : decode cX7_goOn 39 = .ok (.putfield 28, 3) := by decide +kernel
theorem dX7_goOn_42 : decode cX7_goOn 42 = .ok (.aload_n 0, 1) := by decide +kernel
theorem dX7_goOn_43 : decode cX7_goOn 43 = .ok (.getfield 28, 3) := by decide +kernel
theorem dX7_goOn_46 : decode cX7_goOn 46 = .ok (.iload_n 3, 1) := by decide +kernel
theorem dX7_goOn_47 : decode cX7_goOn 47 = .ok (.if_icmp .ge 21, 3) := by decide +kernel
theorem dX7_goOn_50 : decode cX7_goOn 50 = .ok (.aload_n 0, 1) := by decide +kernel
theorem dX7_goOn_51 : decode cX7_goOn 51 = .ok (.aload_n 1, 1) := by decide +kernel
theorem dX7_goOn_52 : decode cX7_goOn 52 = .ok (.invokevirtual 38, 3) := by decide +kernel
theorem dX7_goOn_55 : decode cX7_goOn 55 = .ok (.aload_n 0, 1) := by decide +kernel
theorem dX7_goOn_56 : decode cX7_goOn 56 = .ok (.dup, 1) := by decide +kernel
theorem dX7_goOn_57 : decode cX7_goOn 57 = .ok (.getfield 28, 3) := by decide +kernel
theorem dX7_goOn_60 : decode cX7_goOn 60 = .ok (.iconst 1, 1) := by decide +kernel
theorem dX7_goOn_61 : decode cX7_goOn 61 = .ok (.iadd, 1) := by decide +kernel
theorem dX7_goOn_62 : decode cX7_goOn 62 = .ok (.putfield 28, 3) := by decide +kernel
theorem dX7_goOn_65 : decode cX7_goOn 65 = .ok (.goto (-23), 3) := by decide +kernel
theorem dX7_goOn_68 : decode cX7_goOn 68 = .ok (.return_, 1) := by decide +kernel
theorem dX7_passDay_0 : decode cX7_passDay 0 = .ok (.iconst 1, 1) := by decide +kernel
theorem dX7_passDay_1 : decode cX7_passDay 1 = .ok (.aload_n 1, 1) := by decide +kernel
theorem dX7_passDay_2 : decode cX7_passDay 2 = .ok (.getfield 42, 3) := by decide +kernel
theorem dX7_passDay_5 : decode cX7_passDay 5 = .ok (.ishl, 1) := by decide +kernel
theorem dX7_passDay_6 : decode cX7_passDay 6 = .ok (.istore_n 2, 1) := by decide +kernel
theorem dX7_passDay_7 : decode cX7_passDay 7 = .ok (.aload_n 0, 1) := by decide +kernel
theorem dX7_passDay_8 : decode cX7_passDay 8 = .ok (.getfield 15, 3) := by decide +kernel
theorem dX7_passDay_11 : decode cX7_passDay 11 = .ok (.iconst 0, 1) := by decide +kernel
theorem dX7_passDay_12 : decode cX7_passDay 12 = .ok (.iload_n 2, 1) := by decide +kernel
theorem dX7_passDay_13 : decode cX7_passDay 13 = .ok (.iconst 0, 1) := by decide +kernel
theorem dX7_passDay_14 : decode cX7_passDay 14 = .ok (.invokestatic 47, 3) := by decide +kernel
theorem dX7_passDay_17 : decode cX7_passDay 17 = .ok (.iconst 0, 1) := by decide +kernel
theorem dX7_passDay_18 : decode cX7_passDay 18 = .ok (.istore_n 3, 1) := by decide +kernel
theorem dX7_passDay_19 : decode cX7_passDay 19 = .ok (.iload_n 3, 1) := by decide +kernel
theorem dX7_passDay_20 : decode cX7_passDay 20 = .ok (.iload_n 2, 1) := by decide +kernel
theorem dX7_passDay_21 : decode cX7_passDay 21 = .ok (.if_icmp .ge 24, 3) := by decide +kernel
theorem dX7_passDay_24 : decode cX7_passDay 24 = .ok (.aload_n 0, 1) := by decide +kernel
theorem dX7_passDay_25 : decode cX7_passDay 25 = .ok (.getfield 9, 3) := by decide +kernel
theorem dX7_passDay_28 : decode cX7_passDay 28 = .ok (.iload_n 3, 1) := by decide +kernel
theorem dX7_passDay_29 : decode cX7_passDay 29 = .ok (.iaload, 1) := by decide +kernel
theorem dX7_passDay_30 : decode cX7_passDay 30 = .ok (.ifCond .le 9, 3) := by decide +kernel
theorem dX7_passDay_33 : decode cX7_passDay 33 = .ok (.aload_n 0, 1) := by decide +kernel
theorem dX7_passDay_34 : decode cX7_passDay 34 = .ok (.aload_n 1, 1) := by decide +kernel
theorem dX7_passDay_35 : decode cX7_passDay 35 = .ok (.iload_n 3, 1) := by decide +kernel
theorem dX7_passDay_36 : decode cX7_passDay 36 = .ok (.invokevirtual 50, 3) := by decide +kernel
theorem dX7_passDay_39 : decode cX7_passDay 39 = .ok (.iinc 3 1, 3) := by decide +kernel
theorem dX7_passDay_42 : decode cX7_passDay 42 = .ok (.goto (-23), 3) := by decide +kernel
theorem dX7_passDay_45 : decode cX7_passDay 45 = .ok (.aload_n 0, 1) := by decide +kernel
theorem dX7_passDay_46 : decode cX7_passDay 46 = .ok (.getfield 15, 3) := by decide +kernel
theorem dX7_passDay_49 : decode cX7_passDay 49 = .ok (.iconst 0, 1) := by decide +kernel
theorem dX7_passDay_50 : decode cX7_passDay 50 = .ok (.aload_n 0, 1) := by decide +kernel
theorem dX7_passDay_51 : decode cX7_passDay 51 = .ok (.getfield 9, 3) := by decide +kernel
theorem dX7_passDay_54 : decode cX7_passDay 54 = .ok (.iconst 0, 1) := by decide +kernel
theorem dX7_passDay_55 : decode cX7_passDay 55 = .ok (.iload_n 2, 1) := by decide +kernel
theorem dX7_passDay_56 : decode cX7_passDay 56 = .ok (.invokestatic 54, 3) := by decide +kernel
theorem dX7_passDay_59 : decode cX7_passDay 59 = .ok (.return_, 1) := by decide +kernel
theorem dX7_spread_0 : decode cX7_spread 0 = .ok (.aload_n 0, 1) := by decide +kernel
theorem dX7_spread_1 : decode cX7_spread 1 = .ok (.getfield 18, 3) := by decide +kernel
theorem dX7_spread_4 : decode cX7_spread 4 = .ok (.iconst 0, 1) := by decide +kernel
theorem dX7_spread_5 : decode cX7_spread 5 = .ok (.iload_n 2, 1) := by decide +kernel
theorem dX7_spread_6 : decode cX7_spread 6 = .ok (.iastore, 1) := by decide +kernel
theorem dX7_spread_7 : decode cX7_spread 7 = .ok (.aload_n 0, 1) := by decide +kernel
theorem dX7_spread_8 : decode cX7_spread 8 = .ok (.getfield 21, 3) := by decide +kernel
theorem dX7_spread_11 : decode cX7_spread 11 = .ok (.iconst 0, 1) := by decide +kernel
theorem dX7_spread_12 : decode cX7_spread 12 = .ok (.aload_n 0, 1) := by decide +kernel
theorem dX7_spread_13 : decode cX7_spread 13 = .ok (.getfield 9, 3) := by decide +kernel
theorem dX7_spread_16 : decode cX7_spread 16 = .ok (.iload_n 2, 1) := by decide +kernel
theorem dX7_spread_17 : decode cX7_spread 17 = .ok (.iaload, 1) := by decide +kernel
theorem dX7_spread_18 : decode cX7_spread 18 = .ok (.iastore, 1) := by decide +kernel
theorem dX7_spread_19 : decode cX7_spread 19 = .ok (.aload_n 0, 1) := by decide +kernel
theorem dX7_spread_20 : decode cX7_spread 20 = .ok (.iconst 1, 1) := by decide +kernel
theorem dX7_spread_21 : decode cX7_spread 21 = .ok (.putfield 60, 3) := by decide +kernel
theorem dX7_spread_24 : decode cX7_spread 24 = .ok (.iconst 0, 1) := by decide +kernel
theorem dX7_spread_25 : decode cX7_spread 25 = .ok (.istore_n 3, 1) := by decide +kernel
theorem dX7_spread_26 : decode cX7_spread 26 = .ok (.iload_n 3, 1) := by decide +kernel
theorem dX7_spread_27 : decode cX7_spread 27 = .ok (.aload_n 1, 1) := by decide +kernel
theorem dX7_spread_28 : decode cX7_spread 28 = .ok (.getfield 42, 3) := by decide +kernel
theorem dX7_spread_31 : decode cX7_spread 31 = .ok (.if_icmp .ge 29, 3) := by decide +kernel
theorem dX7_spread_34 : decode cX7_spread 34 = .ok (.iload_n 2, 1) := by decide +kernel
theorem dX7_spread_35 : decode cX7_spread 35 = .ok (.iload_n 3, 1) := by decide +kernel
theorem dX7_spread_36 : decode cX7_spread 36 = .ok (.invokestatic 63, 3) := by decide +kernel
theorem dX7_spread_39 : decode cX7_spread 39 = .ok (.ifCond .ne 15, 3) := by decide +kernel
theorem dX7_spread_42 : decode cX7_spread 42 = .ok (.aload_n 0, 1) := by decide +kernel
theorem dX7_spread_43 : decode cX7_spread 43 = .ok (.iload_n 3, 1) := by decide +kernel
theorem dX7_spread_44 : decode cX7_spread 44 = .ok (.aload_n 0, 1) := by decide +kernel
theorem dX7_spread_45 : decode cX7_spread 45 = .ok (.aload_n 1, 1) := by decide +kernel
theorem dX7_spread_46 : decode cX7_spread 46 = .ok (.iload_n 2, 1) := by decide +kernel
theorem dX7_spread_47 : decode cX7_spread 47 = .ok (.iload_n 3, 1) := by decide +kernel
theorem dX7_spread_48 : decode cX7_spread 48 = .ok (.invokevirtual 67, 3) := by decide +kernel
theorem dX7_spread_51 : decode cX7_spread 51 = .ok (.invokevirtual 71, 3) := by decide +kernel
theorem dX7_spread_54 : decode cX7_spread 54 = .ok (.iinc 3 1, 3) := by decide +kernel
theorem dX7_spread_57 : decode cX7_spread 57 = .ok (.goto (-31), 3) := by decide +kernel
theorem dX7_spread_60 : decode cX7_spread 60 = .ok (.iconst 0, 1) := by decide +kernel
