theorem dX5_keep_0 : decode cX5_keep 0 = .ok (.iload_n 1, 1) := by decide +kernel
theorem dX5_keep_1 : decode cX5_keep 1 = .ok (.i2l, 1) := by decide +kernel
theorem dX5_keep_2 : decode cX5_keep 2 = .ok (.lconst 0, 1) := by decide +kernel
theorem dX5_keep_3 : decode cX5_keep 3 = .ok (.lconst 1, 1) := by decide +kernel
theorem dX5_keep_4 : decode cX5_keep 4 = .ok (.invokestatic 57, 3) := by decide +kernel
theorem dX5_keep_7 : decode cX5_keep 7 = .ok (.ifCond .ne 6, 3) := by decide +kernel
theorem dX5_keep_10 : decode cX5_keep 10 = .ok (.bipush (-2), 2) := by decide +kernel
theorem dX5_keep_12 : decode cX5_keep 12 = .ok (.ireturn, 1) := by decide +kernel
theorem dX5_keep_13 : decode cX5_keep 13 = .ok (.aload_n 0, 1) := by decide +kernel
theorem dX5_keep_14 : decode cX5_keep 14 = .ok (.iconst 0, 1) := by decide +kernel
theorem dX5_keep_15 : decode cX5_keep 15 = .ok (.sipush 693, 3) := by decide +kernel
theorem dX5_keep_18 : decode cX5_keep 18 = .ok (.bipush 77, 2) := by decide +kernel
theorem dX5_keep_20 : decode cX5_keep 20 = .ok (.iload_n 1, 1) := by decide +kernel
theorem dX5_keep_21 : decode cX5_keep 21 = .ok (.imul, 1) := by decide +kernel
theorem dX5_keep_22 : decode cX5_keep 22 = .ok (.iadd, 1) := by decide +kernel
theorem dX5_keep_23 : decode cX5_keep 23 = .ok (.invokevirtual 44, 3) := by decide +kernel
theorem dX5_keep_26 : decode cX5_keep 26 = .ok (.aload_n 0, 1) := by decide +kernel
theorem dX5_keep_27 : decode cX5_keep 27 = .ok (.getfield 19, 3) := by decide +kernel
theorem dX5_keep_30 : decode cX5_keep 30 = .ok (.iload_n 1, 1) := by decide +kernel
theorem dX5_keep_31 : decode cX5_keep 31 = .ok (.iconst 1, 1) := by decide +kernel
theorem dX5_keep_32 : decode cX5_keep 32 = .ok (.bastore, 1) := by decide +kernel
theorem dX5_keep_33 : decode cX5_keep 33 = .ok (.aload_n 0, 1) := by decide +kernel
theorem dX5_keep_34 : decode cX5_keep 34 = .ok (.getfield 7, 3) := by decide +kernel
theorem dX5_keep_37 : decode cX5_keep 37 = .ok (.iconst 3, 1) := by decide +kernel
theorem dX5_keep_38 : decode cX5_keep 38 = .ok (.iaload, 1) := by decide +kernel
theorem dX5_keep_39 : decode cX5_keep 39 = .ok (.ireturn, 1) := by decide +kernel
theorem dX5_keepPast_0 : decode cX5_keepPast 0 = .ok (.iconst 0, 1) := by decide +kernel
theorem dX5_keepPast_1 : decode cX5_keepPast 1 = .ok (.istore_n 1, 1) := by decide +kernel
theorem dX5_keepPast_2 : decode cX5_keepPast 2 = .ok (.iload_n 1, 1) := by decide +kernel
theorem dX5_keepPast_3 : decode cX5_keepPast 3 = .ok (.sipush 539, 3) := by decide +kernel
theorem dX5_keepPast_6 : decode cX5_keepPast 6 = .ok (.if_icmp .ge 37, 3) := by decide +kernel
theorem dX5_keepPast_9 : decode cX5_keepPast 9 = .ok (.aload_n 0, 1) := by decide +kernel
theorem dX5_keepPast_10 : decode cX5_keepPast 10 = .ok (.getfield 136, 3) := by decide +kernel
theorem dX5_keepPast_13 : decode cX5_keepPast 13 = .ok (.bipush 8, 2) := by decide +kernel
theorem dX5_keepPast_15 : decode cX5_keepPast 15 = .ok (.if_icmp .ne 28, 3) := by decide +kernel
theorem dX5_keepPast_18 : decode cX5_keepPast 18 = .ok (.aload_n 0, 1) := by decide +kernel
theorem dX5_keepPast_19 : decode cX5_keepPast 19 = .ok (.getfield 7, 3) := by decide +kernel
theorem dX5_keepPast_22 : decode cX5_keepPast 22 = .ok (.bipush 77, 2) := by decide +kernel
theorem dX5_keepPast_24 : decode cX5_keepPast 24 = .ok (.iload_n 1, 1) := by decide +kernel
theorem dX5_keepPast_25 : decode cX5_keepPast 25 = .ok (.iadd, 1) := by decide +kernel
theorem dX5_keepPast_26 : decode cX5_keepPast 26 = .ok (.aload_n 0, 1) := by decide +kernel
theorem dX5_keepPast_27 : decode cX5_keepPast 27 = .ok (.getfield 7, 3) := by decide +kernel
theorem dX5_keepPast_30 : decode cX5_keepPast 30 = .ok (.sipush 154, 3) := by decide +kernel
theorem dX5_keepPast_33 : decode cX5_keepPast 33 = .ok (.iload_n 1, 1) := by decide +kernel
theorem dX5_keepPast_34 : decode cX5_keepPast 34 = .ok (.iadd, 1) := by decide +kernel
theorem dX5_keepPast_35 : decode cX5_keepPast 35 = .ok (.iaload, 1) := by decide +kernel
theorem dX5_keepPast_36 : decode cX5_keepPast 36 = .ok (.iastore, 1) := by decide +kernel
theorem dX5_keepPast_37 : decode cX5_keepPast 37 = .ok (.iinc 1 1, 3) := by decide +kernel
theorem dX5_keepPast_40 : decode cX5_keepPast 40 = .ok (.goto (-38), 3) := by decide +kernel
theorem dX5_keepPast_43 : decode cX5_keepPast 43 = .ok (.aload_n 0, 1) := by decide +kernel
theorem dX5_keepPast_44 : decode cX5_keepPast 44 = .ok (.dup, 1) := by decide +kernel
theorem dX5_keepPast_45 : decode cX5_keepPast 45 = .ok (.getfield 136, 3) := by decide +kernel
theorem dX5_keepPast_48 : decode cX5_keepPast 48 = .ok (.aload_n 0, 1) := by decide +kernel
theorem dX5_keepPast_49 : decode cX5_keepPast 49 = .ok (.getfield 136, 3) := by decide +kernel
theorem dX5_keepPast_52 : decode cX5_keepPast 52 = .ok (.bipush 8, 2) := by decide +kernel
theorem dX5_keepPast_54 : decode cX5_keepPast 54 = .ok (.if_icmp .ne 7, 3) := by decide +kernel
theorem dX5_keepPast_57 : decode cX5_keepPast 57 = .ok (.iconst 1, 1) := by decide +kernel
theorem dX5_keepPast_58 : decode cX5_keepPast 58 = .ok (.goto 4, 3) := by decide +kernel
theorem dX5_keepPast_61 : decode cX5_keepPast 61 = .ok (.iconst 0, 1) := by decide +kernel
theorem dX5_keepPast_62 : decode cX5_keepPast 62 = .ok (.isub, 1) := by decide +kernel
theorem dX5_keepPast_63 : decode cX5_keepPast 63 = .ok (.putfield 136, 3) := by decide +kernel
theorem dX5_keepPast_66 : decode cX5_keepPast 66 = .ok (.aload_n 0, 1) := by decide +kernel
theorem dX5_keepPast_67 : decode cX5_keepPast 67 = .ok (.iconst 0, 1) := by decide +kernel
theorem dX5_keepPast_68 : decode cX5_keepPast 68 = .ok (.bipush 77, 2) := by decide +kernel
theorem dX5_keepPast_70 : decode cX5_keepPast 70 = .ok (.bipush 77, 2) := by decide +kernel
theorem dX5_keepPast_72 : decode cX5_keepPast 72 = .ok (.aload_n 0, 1) := by decide +kernel
theorem dX5_keepPast_73 : decode cX5_keepPast 73 = .ok (.getfield 136, 3) := by decide +kernel
theorem dX5_keepPast_76 : decode cX5_keepPast 76 = .ok (.imul, 1) := by decide +kernel
theorem dX5_keepPast_77 : decode cX5_keepPast 77 = .ok (.iadd, 1) := by decide +kernel
theorem dX5_keepPast_78 : decode cX5_keepPast 78 = .ok (.invokevirtual 44, 3) := by decide +kernel
theorem dX5_keepPast_81 : decode cX5_keepPast 81 = .ok (.aload_n 0, 1) := by decide +kernel
theorem dX5_keepPast_82 : decode cX5_keepPast 82 = .ok (.dup, 1) := by decide +kernel
theorem dX5_keepPast_83 : decode cX5_keepPast 83 = .ok (.getfield 136, 3) := by decide +kernel
theorem dX5_keepPast_86 : decode cX5_keepPast 86 = .ok (.iconst 1, 1) := by decide +kernel
theorem dX5_keepPast_87 : decode cX5_keepPast 87 = .ok (.iadd, 1) := by decide +kernel
theorem dX5_keepPast_88 : decode cX5_keepPast 88 = .ok (.putfield 136, 3) := by decide +kernel
theorem dX5_keepPast_91 : decode cX5_keepPast 91 = .ok (.return_, 1) := by decide +kernel
theorem dX5_layWriting_0 : decode cX5_layWriting 0 = .ok (.aload_n 0, 1) := by decide +kernel
theorem dX5_layWriting_1 : decode cX5_layWriting 1 = .ok (.iconst 0, 1) := by decide +kernel
theorem dX5_layWriting_2 : decode cX5_layWriting 2 = .ok (.putfield 188, 3) := by decide +kernel
theorem dX5_layWriting_5 : decode cX5_layWriting 5 = .ok (.iconst 0, 1) := by decide +kernel
theorem dX5_layWriting_6 : decode cX5_layWriting 6 = .ok (.istore_n 1, 1) := by decide +kernel
theorem dX5_layWriting_7 : decode cX5_layWriting 7 = .ok (.iload_n 1, 1) := by decide +kernel
theorem dX5_layWriting_8 : decode cX5_layWriting 8 = .ok (.aload_n 0, 1) := by decide +kernel
theorem dX5_layWriting_9 : decode cX5_layWriting 9 = .ok (.getfield 7, 3) := by decide +kernel
theorem dX5_layWriting_12 : decode cX5_layWriting 12 = .ok (.iconst 3, 1) := by decide +kernel
theorem dX5_layWriting_13 : decode cX5_layWriting 13 = .ok (.iaload, 1) := by decide +kernel
theorem dX5_layWriting_14 : decode cX5_layWriting 14 = .ok (.if_icmp .ge 97, 3) := by decide +kernel
theorem dX5_layWriting_17 : decode cX5_layWriting 17 = .ok (.iload_n 1, 1) := by decide +kernel
theorem dX5_layWriting_18 : decode cX5_layWriting 18 = .ok (.bipush 9, 2) := by decide +kernel
theorem dX5_layWriting_20 : decode cX5_layWriting 20 = .ok (.if_icmp .le 14, 3) := by decide +kernel
theorem dX5_layWriting_23 : decode cX5_layWriting 23 = .ok (.aload_n 0, 1) := by decide +kernel
theorem dX5_layWriting_24 : decode cX5_layWriting 24 = .ok (.bipush 48, 2) := by decide +kernel
theorem dX5_layWriting_26 : decode cX5_layWriting 26 = .ok (.iload_n 1, 1) := by decide +kernel
theorem dX5_layWriting_27 : decode cX5_layWriting 27 = .ok (.bipush 10, 2) := by decide +kernel
theorem dX5_layWriting_29 : decode cX5_layWriting 29 = .ok (.idiv, 1) := by decide +kernel
theorem dX5_layWriting_30 : decode cX5_layWriting 30 = .ok (.iadd, 1) := by decide +kernel
theorem dX5_layWriting_31 : decode cX5_layWriting 31 = .ok (.invokevirtual 191, 3) := by decide +kernel
theorem dX5_layWriting_34 : decode cX5_layWriting 34 = .ok (.aload_n 0, 1) := by decide +kernel
theorem dX5_layWriting_35 : decode cX5_layWriting 35 = .ok (.bipush 48, 2) := by decide +kernel
theorem dX5_layWriting_37 : decode cX5_layWriting 37 = .ok (.iload_n 1, 1) := by decide +kernel
theorem dX5_layWriting_38 : decode cX5_layWriting 38 = .ok (.bipush 10, 2) := by decide +kernel
theorem dX5_layWriting_40 : decode cX5_layWriting 40 = .ok (.irem, 1) := by decide +kernel
theorem dX5_layWriting_41 : decode cX5_layWriting 41 = .ok (.iadd, 1) := by decide +kernel
theorem dX5_layWriting_42 : decode cX5_layWriting 42 = .ok (.invokevirtual 191, 3) := by decide +kernel
theorem dX5_layWriting_45 : decode cX5_layWriting 45 = .ok (.aload_n 0, 1) := by decide +kernel
theorem dX5_layWriting_46 : decode cX5_layWriting 46 = .ok (.bipush 97, 2) := by decide +kernel
theorem dX5_layWriting_48 : decode cX5_layWriting 48 = .ok (.aload_n 0, 1) := by decide +kernel
theorem dX5_layWriting_49 : decode cX5_layWriting 49 = .ok (.getfield 7, 3) := by decide +kernel
theorem dX5_layWriting_52 : decode cX5_layWriting 52 = .ok (.bipush 17, 2) := by decide +kernel
theorem dX5_layWriting_54 : decode cX5_layWriting 54 = .ok (.iload_n 1, 1) := by decide +kernel
theorem dX5_layWriting_55 : decode cX5_layWriting 55 = .ok (.iadd, 1) := by decide +kernel
theorem dX5_layWriting_56 : decode cX5_layWriting 56 = .ok (.iaload, 1) := by decide +kernel
theorem dX5_layWriting_57 : decode cX5_layWriting 57 = .ok (.iadd, 1) := by decide +kernel
theorem dX5_layWriting_58 : decode cX5_layWriting 58 = .ok (.invokevirtual 191, 3) := by decide +kernel
theorem dX5_layWriting_61 : decode cX5_layWriting 61 = .ok (.aload_n 0, 1) := by decide +kernel
theorem dX5_layWriting_62 : decode cX5_layWriting 62 = .ok (.bipush 48, 2) := by decide +kernel
theorem dX5_layWriting_64 : decode cX5_layWriting 64 = .ok (.aload_n 0, 1) := by decide +kernel
theorem dX5_layWriting_65 : decode cX5_layWriting 65 = .ok (.getfield 7, 3) := by decide +kernel
theorem dX5_layWriting_68 : decode cX5_layWriting 68 = .ok (.bipush 37, 2) := by decide +kernel
theorem dX5_layWriting_70 : decode cX5_layWriting 70 = .ok (.iload_n 1, 1) := by decide +kernel
theorem dX5_layWriting_71 : decode cX5_layWriting 71 = .ok (.iadd, 1) := by decide +kernel
theorem dX5_layWriting_72 : decode cX5_layWriting 72 = .ok (.iaload, 1) := by decide +kernel
theorem dX5_layWriting_73 : decode cX5_layWriting 73 = .ok (.iadd, 1) := by decide +kernel
theorem dX5_layWriting_74 : decode cX5_layWriting 74 = .ok (.invokevirtual 191, 3) := by decide +kernel
theorem dX5_layWriting_77 : decode cX5_layWriting 77 = .ok (.aload_n 0, 1) := by decide +kernel
theorem dX5_layWriting_78 : decode cX5_layWriting 78 = .ok (.bipush 106, 2) := by decide +kernel
theorem dX5_layWriting_80 : decode cX5_layWriting 80 = .ok (.invokevirtual 191, 3) := by decide +kernel
theorem dX5_layWriting_83 : decode cX5_layWriting 83 = .ok (.aload_n 0, 1) := by decide +kernel
theorem dX5_layWriting_84 : decode cX5_layWriting 84 = .ok (.bipush 48, 2) := by decide +kernel
theorem dX5_layWriting_86 : decode cX5_layWriting 86 = .ok (.aload_n 0, 1) := by decide +kernel
theorem dX5_layWriting_87 : decode cX5_layWriting 87 = .ok (.getfield 7, 3) := by decide +kernel
theorem dX5_layWriting_90 : decode cX5_layWriting 90 = .ok (.bipush 57, 2) := by decide +kernel
theorem dX5_layWriting_92 : decode cX5_layWriting 92 = .ok (.iload_n 1, 1) := by decide +kernel
theorem dX5_layWriting_93 : decode cX5_layWriting 93 = .ok (.iadd, 1) := by decide +kernel
theorem dX5_layWriting_94 : decode cX5_layWriting 94 = .ok (.iaload, 1) := by decide +kernel
theorem dX5_layWriting_95 : decode cX5_layWriting 95 = .ok (.iadd, 1) := by decide +kernel
theorem dX5_layWriting_96 : decode cX5_layWriting 96 = .ok (.invokevirtual 191, 3) := by decide +kernel
theorem dX5_layWriting_99 : decode cX5_layWriting 99 = .ok (.aload_n 0, 1) := by decide +kernel
theorem dX5_layWriting_100 : decode cX5_layWriting 100 = .ok (.bipush 46, 2) := by decide +kernel
theorem dX5_layWriting_102 : decode cX5_layWriting 102 = .ok (.invokevirtual 191, 3) := by decide +kernel
theorem dX5_layWriting_105 : decode cX5_layWriting 105 = .ok (.iinc 1 1, 3) := by decide +kernel
theorem dX5_layWriting_108 : decode cX5_layWriting 108 = .ok (.goto (-101), 3) := by decide +kernel
theorem dX5_layWriting_111 : decode cX5_layWriting 111 = .ok (.return_, 1) := by decide +kernel
theorem dX5_letter_0 : decode cX5_letter 0 = .ok (.iload_n 1, 1) := by decide +kernel
theorem dX5_letter_1 : decode cX5_letter 1 = .ok (.invokestatic 210, 3) := by decide +kernel
theorem dX5_letter_4 : decode cX5_letter 4 = .ok (.ifCond .ne 8, 3) := by decide +kernel
theorem dX5_letter_7 : decode cX5_letter 7 = .ok (.bipush (-2), 2) := by decide +kernel
theorem dX5_letter_9 : decode cX5_letter 9 = .ok (.goto 51, 3) := by decide +kernel
theorem dX5_letter_12 : decode cX5_letter 12 = .ok (.aload_n 0, 1) := by decide +kernel
theorem dX5_letter_13 : decode cX5_letter 13 = .ok (.getfield 26, 3) := by decide +kernel
theorem dX5_letter_16 : decode cX5_letter 16 = .ok (.iload_n 1, 1) := by decide +kernel
theorem dX5_letter_17 : decode cX5_letter 17 = .ok (.iaload, 1) := by decide +kernel
theorem dX5_letter_18 : decode cX5_letter 18 = .ok (.ifCond .ge 8, 3) := by decide +kernel
theorem dX5_letter_21 : decode cX5_letter 21 = .ok (.bipush (-11), 2) := by decide +kernel
theorem dX5_letter_23 : decode cX5_letter 23 = .ok (.goto 37, 3) := by decide +kernel
theorem dX5_letter_26 : decode cX5_letter 26 = .ok (.iload_n 2, 1) := by decide +kernel
theorem dX5_letter_27 : decode cX5_letter 27 = .ok (.i2l, 1) := by decide +kernel
theorem dX5_letter_28 : decode cX5_letter 28 = .ok (.lconst 0, 1) := by decide +kernel
theorem dX5_letter_29 : decode cX5_letter 29 = .ok (.aload_n 0, 1) := by decide +kernel
theorem dX5_letter_30 : decode cX5_letter 30 = .ok (.getfield 26, 3) := by decide +kernel
theorem dX5_letter_33 : decode cX5_letter 33 = .ok (.iload_n 1, 1) := by decide +kernel
theorem dX5_letter_34 : decode cX5_letter 34 = .ok (.iaload, 1) := by decide +kernel
theorem dX5_letter_35 : decode cX5_letter 35 = .ok (.iconst 1, 1) := by decide +kernel
theorem dX5_letter_36 : decode cX5_letter 36 = .ok (.isub, 1) := by decide +kernel
theorem dX5_letter_37 : decode cX5_letter 37 = .ok (.i2l, 1) := by decide +kernel
theorem dX5_letter_38 : decode cX5_letter 38 = .ok (.invokestatic 57, 3) := by decide +kernel
theorem dX5_letter_41 : decode cX5_letter 41 = .ok (.ifCond .eq 17, 3) := by decide +kernel
theorem dX5_letter_44 : decode cX5_letter 44 = .ok (.aload_n 0, 1) := by decide +kernel
theorem dX5_letter_45 : decode cX5_letter 45 = .ok (.getfield 29, 3) := by decide +kernel
theorem dX5_letter_48 : decode cX5_letter 48 = .ok (.bipush 40, 2) := by decide +kernel
theorem dX5_letter_50 : decode cX5_letter 50 = .ok (.iload_n 1, 1) := by decide +kernel
theorem dX5_letter_51 : decode cX5_letter 51 = .ok (.imul, 1) := by decide +kernel
theorem dX5_letter_52 : decode cX5_letter 52 = .ok (.iload_n 2, 1) := by decide +kernel
theorem dX5_letter_53 : decode cX5_letter 53 = .ok (.iadd, 1) := by decide +kernel
theorem dX5_letter_54 : decode cX5_letter 54 = .ok (.iaload, 1) := by decide +kernel
theorem dX5_letter_55 : decode cX5_letter 55 = .ok (.goto 5, 3) := by decide +kernel
theorem dX5_letter_58 : decode cX5_letter 58 = .ok (.bipush (-12), 2) := by decide +kernel
theorem dX5_letter_60 : decode cX5_letter 60 = .ok (.ireturn, 1) := by decide +kernel
theorem dX5_like_0 : decode cX5_like 0 = .ok (.iload_n 1, 1) := by decide +kernel
theorem dX5_like_1 : decode cX5_like 1 = .ok (.i2l, 1) := by decide +kernel
theorem dX5_like_2 : decode cX5_like 2 = .ok (.lconst 1, 1) := by decide +kernel
theorem dX5_like_3 : decode cX5_like 3 = .ok (.ldc2_w 206, 3) := by decide +kernel
theorem dX5_like_6 : decode cX5_like 6 = .ok (.invokestatic 57, 3) := by decide +kernel
theorem dX5_like_9 : decode cX5_like 9 = .ok (.ifCond .ne 6, 3) := by decide +kernel
theorem dX5_like_12 : decode cX5_like 12 = .ok (.bipush (-3), 2) := by decide +kernel
theorem dX5_like_14 : decode cX5_like 14 = .ok (.ireturn, 1) := by decide +kernel
theorem dX5_like_15 : decode cX5_like 15 = .ok (.aload_n 0, 1) := by decide +kernel
theorem dX5_like_16 : decode cX5_like 16 = .ok (.invokevirtual 200, 3) := by decide +kernel
theorem dX5_like_19 : decode cX5_like 19 = .ok (.ifCond .ne 6, 3) := by decide +kernel
theorem dX5_like_22 : decode cX5_like 22 = .ok (.bipush (-4), 2) := by decide +kernel
theorem dX5_like_24 : decode cX5_like 24 = .ok (.ireturn, 1) := by decide +kernel
theorem dX5_like_25 : decode cX5_like 25 = .ok (.iconst 1, 1) := by decide +kernel
theorem dX5_like_26 : decode cX5_like 26 = .ok (.istore_n 2, 1) := by decide +kernel
theorem dX5_like_27 : decode cX5_like 27 = .ok (.iload_n 2, 1) := by decide +kernel
theorem dX5_like_28 : decode cX5_like 28 = .ok (.sipush 301, 3) := by decide +kernel
theorem dX5_like_31 : decode cX5_like 31 = .ok (.if_icmp .ge 30, 3) := by decide +kernel
theorem dX5_like_34 : decode cX5_like 34 = .ok (.iload_n 1, 1) := by decide +kernel
theorem dX5_like_35 : decode cX5_like 35 = .ok (.aload_n 0, 1) := by decide +kernel
theorem dX5_like_36 : decode cX5_like 36 = .ok (.getfield 7, 3) := by decide +kernel
theorem dX5_like_39 : decode cX5_like 39 = .ok (.iconst 3, 1) := by decide +kernel
theorem dX5_like_40 : decode cX5_like 40 = .ok (.iaload, 1) := by decide +kernel
theorem dX5_like_41 : decode cX5_like 41 = .ok (.if_icmp .gt 20, 3) := by decide +kernel
theorem dX5_like_44 : decode cX5_like 44 = .ok (.aload_n 0, 1) := by decide +kernel
theorem dX5_like_45 : decode cX5_like 45 = .ok (.iload_n 2, 1) := by decide +kernel
theorem dX5_like_46 : decode cX5_like 46 = .ok (.invokevirtual 203, 3) := by decide +kernel
theorem dX5_like_49 : decode cX5_like 49 = .ok (.iload_n 1, 1) := by decide +kernel
theorem dX5_like_50 : decode cX5_like 50 = .ok (.if_icmp .lt 5, 3) := by decide +kernel
theorem dX5_like_53 : decode cX5_like 53 = .ok (.iload_n 2, 1) := by decide +kernel
theorem dX5_like_54 : decode cX5_like 54 = .ok (.ireturn, 1) := by decide +kernel
theorem dX5_like_55 : decode cX5_like 55 = .ok (.iinc 2 1, 3) := by decide +kernel
theorem dX5_like_58 : decode cX5_like 58 = .ok (.goto (-31), 3) := by decide +kernel
theorem dX5_like_61 : decode cX5_like 61 = .ok (.iconst (-1), 1) := by decide +kernel
theorem dX5_like_62 : decode cX5_like 62 = .ok (.ireturn, 1) := by decide +kernel
theorem dX5_named_0 : decode cX5_named 0 = .ok (.iload_n 1, 1) := by decide +kernel
theorem dX5_named_1 : decode cX5_named 1 = .ok (.invokestatic 210, 3) := by decide +kernel
theorem dX5_named_4 : decode cX5_named 4 = .ok (.ifCond .ne 6, 3) := by decide +kernel
theorem dX5_named_7 : decode cX5_named 7 = .ok (.bipush (-2), 2) := by decide +kernel
theorem dX5_named_9 : decode cX5_named 9 = .ok (.ireturn, 1) := by decide +kernel
theorem dX5_named_10 : decode cX5_named 10 = .ok (.aload_n 0, 1) := by decide +kernel
theorem dX5_named_11 : decode cX5_named 11 = .ok (.getfield 26, 3) := by decide +kernel
theorem dX5_named_14 : decode cX5_named 14 = .ok (.iload_n 1, 1) := by decide +kernel
theorem dX5_named_15 : decode cX5_named 15 = .ok (.iaload, 1) := by decide +kernel
theorem dX5_named_16 : decode cX5_named 16 = .ok (.ifCond .ge 6, 3) := by decide +kernel
theorem dX5_named_19 : decode cX5_named 19 = .ok (.bipush (-11), 2) := by decide +kernel
theorem dX5_named_21 : decode cX5_named 21 = .ok (.ireturn, 1) := by decide +kernel
theorem dX5_named_22 : decode cX5_named 22 = .ok (.iconst 0, 1) := by decide +kernel
theorem dX5_named_23 : decode cX5_named 23 = .ok (.istore_n 2, 1) := by decide +kernel
theorem dX5_named_24 : decode cX5_named 24 = .ok (.iload_n 2, 1) := by decide +kernel
theorem dX5_named_25 : decode cX5_named 25 = .ok (.iconst 3, 1) := by decide +kernel
theorem dX5_named_26 : decode cX5_named 26 = .ok (.if_icmp .gt 98, 3) := by decide +kernel
theorem dX5_named_29 : decode cX5_named 29 = .ok (.aload_n 0, 1) := by decide +kernel
theorem dX5_named_30 : decode cX5_named 30 = .ok (.getfield 26, 3) := by decide +kernel
theorem dX5_named_33 : decode cX5_named 33 = .ok (.iload_n 1, 1) := by decide +kernel
theorem dX5_named_34 : decode cX5_named 34 = .ok (.iaload, 1) := by decide +kernel
theorem dX5_named_35 : decode cX5_named 35 = .ok (.i2l, 1) := by decide +kernel
theorem dX5_named_36 : decode cX5_named 36 = .ok (.lconst 1, 1) := by decide +kernel
theorem dX5_named_37 : decode cX5_named 37 = .ok (.ldc2_w 218, 3) := by decide +kernel
theorem dX5_named_40 : decode cX5_named 40 = .ok (.invokestatic 57, 3) := by decide +kernel
theorem dX5_named_43 : decode cX5_named 43 = .ok (.istore_n 3, 1) := by decide +kernel
theorem dX5_named_44 : decode cX5_named 44 = .ok (.iconst 0, 1) := by decide +kernel
theorem dX5_named_45 : decode cX5_named 45 = .ok (.istore 4, 2) := by decide +kernel
theorem dX5_named_47 : decode cX5_named 47 = .ok (.iload 4, 2) := by decide +kernel
theorem dX5_named_49 : decode cX5_named 49 = .ok (.bipush 6, 2) := by decide +kernel
theorem dX5_named_51 : decode cX5_named 51 = .ok (.if_icmp .ge 61, 3) := by decide +kernel
theorem dX5_named_54 : decode cX5_named 54 = .ok (.iload_n 3, 1) := by decide +kernel
theorem dX5_named_55 : decode cX5_named 55 = .ok (.ifCond .eq 57, 3) := by decide +kernel
theorem dX5_named_58 : decode cX5_named 58 = .ok (.aload_n 0, 1) := by decide +kernel
theorem dX5_named_59 : decode cX5_named 59 = .ok (.getfield 35, 3) := by decide +kernel
theorem dX5_named_62 : decode cX5_named 62 = .ok (.bipush 6, 2) := by decide +kernel
theorem dX5_named_64 : decode cX5_named 64 = .ok (.iload_n 2, 1) := by decide +kernel
theorem dX5_named_65 : decode cX5_named 65 = .ok (.imul, 1) := by decide +kernel
theorem dX5_named_66 : decode cX5_named 66 = .ok (.iload 4, 2) := by decide +kernel
theorem dX5_named_68 : decode cX5_named 68 = .ok (.iadd, 1) := by decide +kernel
theorem dX5_named_69 : decode cX5_named 69 = .ok (.iaload, 1) := by decide +kernel
theorem dX5_named_70 : decode cX5_named 70 = .ok (.iload 4, 2) := by decide +kernel
theorem dX5_named_72 : decode cX5_named 72 = .ok (.aload_n 0, 1) := by decide +kernel
theorem dX5_named_73 : decode cX5_named 73 = .ok (.getfield 26, 3) := by decide +kernel
theorem dX5_named_76 : decode cX5_named 76 = .ok (.iload_n 1, 1) := by decide +kernel
theorem dX5_named_77 : decode cX5_named 77 = .ok (.iaload, 1) := by decide +kernel
theorem dX5_named_78 : decode cX5_named 78 = .ok (.if_icmp .ge 18, 3) := by decide +kernel
theorem dX5_named_81 : decode cX5_named 81 = .ok (.aload_n 0, 1) := by decide +kernel
theorem dX5_named_82 : decode cX5_named 82 = .ok (.getfield 29, 3) := by decide +kernel
theorem dX5_named_85 : decode cX5_named 85 = .ok (.bipush 40, 2) := by decide +kernel
theorem dX5_named_87 : decode cX5_named 87 = .ok (.iload_n 1, 1) := by decide +kernel
theorem dX5_named_88 : decode cX5_named 88 = .ok (.imul, 1) := by decide +kernel
theorem dX5_named_89 : decode cX5_named 89 = .ok (.iload 4, 2) := by decide +kernel
theorem dX5_named_91 : decode cX5_named 91 = .ok (.iadd, 1) := by decide +kernel
theorem dX5_named_92 : decode cX5_named 92 = .ok (.iaload, 1) := by decide +kernel
theorem dX5_named_93 : decode cX5_named 93 = .ok (.goto 4, 3) := by decide +kernel
theorem dX5_named_96 : decode cX5_named 96 = .ok (.iconst 0, 1) := by decide +kernel
theorem dX5_named_97 : decode cX5_named 97 = .ok (.if_icmp .ne 7, 3) := by decide +kernel
theorem dX5_named_100 : decode cX5_named 100 = .ok (.iconst 1, 1) := by decide +kernel
theorem dX5_named_101 : decode cX5_named 101 = .ok (.goto 4, 3) := by decide +kernel
theorem dX5_named_104 : decode cX5_named 104 = .ok (.iconst 0, 1) := by decide +kernel
theorem dX5_named_105 : decode cX5_named 105 = .ok (.istore_n 3, 1) := by decide +kernel
theorem dX5_named_106 : decode cX5_named 106 = .ok (.iinc 4 1, 3) := by decide +kernel
theorem dX5_named_109 : decode cX5_named 109 = .ok (.goto (-62), 3) := by decide +kernel
theorem dX5_named_112 : decode cX5_named 112 = .ok (.iload_n 3, 1) := by decide +kernel
theorem dX5_named_113 : decode cX5_named 113 = .ok (.ifCond .eq 5, 3) := by decide +kernel
theorem dX5_named_116 : decode cX5_named 116 = .ok (.iload_n 2, 1) := by decide +kernel
theorem dX5_named_117 : decode cX5_named 117 = .ok (.ireturn, 1) := by decide +kernel
theorem dX5_named_118 : decode cX5_named 118 = .ok (.iinc 2 1, 3) := by decide +kernel
theorem dX5_named_121 : decode cX5_named 121 = .ok (.goto (-97), 3) := by decide +kernel
theorem dX5_named_124 : decode cX5_named 124 = .ok (.iconst (-1), 1) := by decide +kernel
theorem dX5_named_125 : decode cX5_named 125 = .ok (.ireturn, 1) := by decide +kernel
theorem dX5_next_0 : decode cX5_next 0 = .ok (.iload_n 1, 1) := by decide +kernel
theorem dX5_next_1 : decode cX5_next 1 = .ok (.invokestatic 173, 3) := by decide +kernel
theorem dX5_next_4 : decode cX5_next 4 = .ok (.ifCond .eq 10, 3) := by decide +kernel
theorem dX5_next_7 : decode cX5_next 7 = .ok (.iload_n 2, 1) := by decide +kernel
theorem dX5_next_8 : decode cX5_next 8 = .ok (.invokestatic 176, 3) := by decide +kernel
theorem dX5_next_11 : decode cX5_next 11 = .ok (.ifCond .ne 6, 3) := by decide +kernel
theorem dX5_next_14 : decode cX5_next 14 = .ok (.bipush (-3), 2) := by decide +kernel
theorem dX5_next_16 : decode cX5_next 16 = .ok (.ireturn, 1) := by decide +kernel
theorem dX5_next_17 : decode cX5_next 17 = .ok (.aload_n 0, 1) := by decide +kernel
theorem dX5_next_18 : decode cX5_next 18 = .ok (.iconst 0, 1) := by decide +kernel
theorem dX5_next_19 : decode cX5_next 19 = .ok (.iload_n 2, 1) := by decide +kernel
theorem dX5_next_20 : decode cX5_next 20 = .ok (.iconst (-1), 1) := by decide +kernel
theorem dX5_next_21 : decode cX5_next 21 = .ok (.invokevirtual 179, 3) := by decide +kernel
theorem dX5_next_24 : decode cX5_next 24 = .ok (.ifCond .ne 6, 3) := by decide +kernel
theorem dX5_next_27 : decode cX5_next 27 = .ok (.bipush (-4), 2) := by decide +kernel
theorem dX5_next_29 : decode cX5_next 29 = .ok (.ireturn, 1) := by decide +kernel
theorem dX5_next_30 : decode cX5_next 30 = .ok (.aload_n 0, 1) := by decide +kernel
theorem dX5_next_31 : decode cX5_next 31 = .ok (.iconst 0, 1) := by decide +kernel
theorem dX5_next_32 : decode cX5_next 32 = .ok (.sipush 924, 3) := by decide +kernel
theorem dX5_next_35 : decode cX5_next 35 = .ok (.invokevirtual 44, 3) := by decide +kernel
theorem dX5_next_38 : decode cX5_next 38 = .ok (.aload_n 0, 1) := by decide +kernel
theorem dX5_next_39 : decode cX5_next 39 = .ok (.sipush 924, 3) := by decide +kernel
theorem dX5_next_42 : decode cX5_next 42 = .ok (.iload_n 1, 1) := by decide +kernel
theorem dX5_next_43 : decode cX5_next 43 = .ok (.iload_n 2, 1) := by decide +kernel
theorem dX5_next_44 : decode cX5_next 44 = .ok (.invokevirtual 185, 3) := by decide +kernel
theorem dX5_next_47 : decode cX5_next 47 = .ok (.ireturn, 1) := by decide +kernel
theorem dX5_nextToken_0 : decode cX5_nextToken 0 = .ok (.aload_n 0, 1) := by decide +kernel
theorem dX5_nextToken_1 : decode cX5_nextToken 1 = .ok (.aload_n 0, 1) := by decide +kernel
theorem dX5_nextToken_2 : decode cX5_nextToken 2 = .ok (.getfield 72, 3) := by decide +kernel
theorem dX5_nextToken_5 : decode cX5_nextToken 5 = .ok (.putfield 75, 3) := by decide +kernel
theorem dX5_nextToken_8 : decode cX5_nextToken 8 = .ok (.aload_n 0, 1) := by decide +kernel
theorem dX5_nextToken_9 : decode cX5_nextToken 9 = .ok (.getfield 75, 3) := by decide +kernel
theorem dX5_nextToken_12 : decode cX5_nextToken 12 = .ok (.aload_n 0, 1) := by decide +kernel
theorem dX5_nextToken_13 : decode cX5_nextToken 13 = .ok (.getfield 61, 3) := by decide +kernel
theorem dX5_nextToken_16 : decode cX5_nextToken 16 = .ok (.if_icmp .ge 30, 3) := by decide +kernel
theorem dX5_nextToken_19 : decode cX5_nextToken 19 = .ok (.aload_n 0, 1) := by decide +kernel
theorem dX5_nextToken_20 : decode cX5_nextToken 20 = .ok (.getfield 23, 3) := by decide +kernel
theorem dX5_nextToken_23 : decode cX5_nextToken 23 = .ok (.aload_n 0, 1) := by decide +kernel
theorem dX5_nextToken_24 : decode cX5_nextToken 24 = .ok (.getfield 75, 3) := by decide +kernel
theorem dX5_nextToken_27 : decode cX5_nextToken 27 = .ok (.iaload, 1) := by decide +kernel
theorem dX5_nextToken_28 : decode cX5_nextToken 28 = .ok (.bipush 32, 2) := by decide +kernel
theorem dX5_nextToken_30 : decode cX5_nextToken 30 = .ok (.if_icmp .ne 16, 3) := by decide +kernel
theorem dX5_nextToken_33 : decode cX5_nextToken 33 = .ok (.aload_n 0, 1) := by decide +kernel
theorem dX5_nextToken_34 : decode cX5_nextToken 34 = .ok (.dup, 1) := by decide +kernel
theorem dX5_nextToken_35 : decode cX5_nextToken 35 = .ok (.getfield 75, 3) := by decide +kernel
theorem dX5_nextToken_38 : decode cX5_nextToken 38 = .ok (.iconst 1, 1) := by decide +kernel
theorem dX5_nextToken_39 : decode cX5_nextToken 39 = .ok (.iadd, 1) := by decide +kernel
theorem dX5_nextToken_40 : decode cX5_nextToken 40 = .ok (.putfield 75, 3) := by decide +kernel
theorem dX5_nextToken_43 : decode cX5_nextToken 43 = .ok (.goto (-35), 3) := by decide +kernel
theorem dX5_nextToken_46 : decode cX5_nextToken 46 = .ok (.aload_n 0, 1) := by decide +kernel
theorem dX5_nextToken_47 : decode cX5_nextToken 47 = .ok (.aload_n 0, 1) := by decide +kernel
theorem dX5_nextToken_48 : decode cX5_nextToken 48 = .ok (.getfield 75, 3) := by decide +kernel
theorem dX5_nextToken_51 : decode cX5_nextToken 51 = .ok (.aload_n 0, 1) := by decide +kernel
theorem dX5_nextToken_52 : decode cX5_nextToken 52 = .ok (.getfield 61, 3) := by decide +kernel
theorem dX5_nextToken_55 : decode cX5_nextToken 55 = .ok (.if_icmp .ge 12, 3) := by decide +kernel
theorem dX5_nextToken_58 : decode cX5_nextToken 58 = .ok (.aload_n 0, 1) := by decide +kernel
theorem dX5_nextToken_59 : decode cX5_nextToken 59 = .ok (.getfield 75, 3) := by decide +kernel
theorem dX5_nextToken_62 : decode cX5_nextToken 62 = .ok (.iconst 1, 1) := by decide +kernel
theorem dX5_nextToken_63 : decode cX5_nextToken 63 = .ok (.iadd, 1) := by decide +kernel
theorem dX5_nextToken_64 : decode cX5_nextToken 64 = .ok (.goto 7, 3) := by decide +kernel
theorem dX5_nextToken_67 : decode cX5_nextToken 67 = .ok (.aload_n 0, 1) := by decide +kernel
theorem dX5_nextToken_68 : decode cX5_nextToken 68 = .ok (.getfield 75, 3) := by decide +kernel
theorem dX5_nextToken_71 : decode cX5_nextToken 71 = .ok (.putfield 72, 3) := by decide +kernel
theorem dX5_nextToken_74 : decode cX5_nextToken 74 = .ok (.aload_n 0, 1) := by decide +kernel
theorem dX5_nextToken_75 : decode cX5_nextToken 75 = .ok (.getfield 75, 3) := by decide +kernel
theorem dX5_nextToken_78 : decode cX5_nextToken 78 = .ok (.aload_n 0, 1) := by decide +kernel
theorem dX5_nextToken_79 : decode cX5_nextToken 79 = .ok (.getfield 61, 3) := by decide +kernel
theorem dX5_nextToken_82 : decode cX5_nextToken 82 = .ok (.if_icmp .ge 57, 3) := by decide +kernel
theorem dX5_nextToken_85 : decode cX5_nextToken 85 = .ok (.aload_n 0, 1) := by decide +kernel
theorem dX5_nextToken_86 : decode cX5_nextToken 86 = .ok (.getfield 23, 3) := by decide +kernel
theorem dX5_nextToken_89 : decode cX5_nextToken 89 = .ok (.aload_n 0, 1) := by decide +kernel
theorem dX5_nextToken_90 : decode cX5_nextToken 90 = .ok (.getfield 75, 3) := by decide +kernel
theorem dX5_nextToken_93 : decode cX5_nextToken 93 = .ok (.iaload, 1) := by decide +kernel
theorem dX5_nextToken_94 : decode cX5_nextToken 94 = .ok (.invokestatic 78, 3) := by decide +kernel
theorem dX5_nextToken_97 : decode cX5_nextToken 97 = .ok (.ifCond .eq 42, 3) := by decide +kernel
theorem dX5_nextToken_100 : decode cX5_nextToken 100 = .ok (.aload_n 0, 1) := by decide +kernel
theorem dX5_nextToken_101 : decode cX5_nextToken 101 = .ok (.getfield 72, 3) := by decide +kernel
theorem dX5_nextToken_104 : decode cX5_nextToken 104 = .ok (.aload_n 0, 1) := by decide +kernel
theorem dX5_nextToken_105 : decode cX5_nextToken 105 = .ok (.getfield 61, 3) := by decide +kernel
theorem dX5_nextToken_108 : decode cX5_nextToken 108 = .ok (.if_icmp .ge 96, 3) := by decide +kernel
theorem dX5_nextToken_111 : decode cX5_nextToken 111 = .ok (.aload_n 0, 1) := by decide +kernel
theorem dX5_nextToken_112 : decode cX5_nextToken 112 = .ok (.getfield 23, 3) := by decide +kernel
theorem dX5_nextToken_115 : decode cX5_nextToken 115 = .ok (.aload_n 0, 1) := by decide +kernel
theorem dX5_nextToken_116 : decode cX5_nextToken 116 = .ok (.getfield 72, 3) := by decide +kernel
theorem dX5_nextToken_119 : decode cX5_nextToken 119 = .ok (.iaload, 1) := by decide +kernel
theorem dX5_nextToken_120 : decode cX5_nextToken 120 = .ok (.invokestatic 78, 3) := by decide +kernel
theorem dX5_nextToken_123 : decode cX5_nextToken 123 = .ok (.ifCond .eq 81, 3) := by decide +kernel
theorem dX5_nextToken_126 : decode cX5_nextToken 126 = .ok (.aload_n 0, 1) := by decide +kernel
theorem dX5_nextToken_127 : decode cX5_nextToken 127 = .ok (.dup, 1) := by decide +kernel
theorem dX5_nextToken_128 : decode cX5_nextToken 128 = .ok (.getfield 72, 3) := by decide +kernel
theorem dX5_nextToken_131 : decode cX5_nextToken 131 = .ok (.iconst 1, 1) := by decide +kernel
theorem dX5_nextToken_132 : decode cX5_nextToken 132 = .ok (.iadd, 1) := by decide +kernel
theorem dX5_nextToken_133 : decode cX5_nextToken 133 = .ok (.putfield 72, 3) := by decide +kernel
theorem dX5_nextToken_136 : decode cX5_nextToken 136 = .ok (.goto (-36), 3) := by decide +kernel
theorem dX5_nextToken_139 : decode cX5_nextToken 139 = .ok (.aload_n 0, 1) := by decide +kernel
theorem dX5_nextToken_140 : decode cX5_nextToken 140 = .ok (.getfield 75, 3) := by decide +kernel
theorem dX5_nextToken_143 : decode cX5_nextToken 143 = .ok (.aload_n 0, 1) := by decide +kernel
theorem dX5_nextToken_144 : decode cX5_nextToken 144 = .ok (.getfield 61, 3) := by decide +kernel
theorem dX5_nextToken_147 : decode cX5_nextToken 147 = .ok (.if_icmp .ge 57, 3) := by decide +kernel
theorem dX5_nextToken_150 : decode cX5_nextToken 150 = .ok (.aload_n 0, 1) := by decide +kernel
theorem dX5_nextToken_151 : decode cX5_nextToken 151 = .ok (.getfield 23, 3) := by decide +kernel
theorem dX5_nextToken_154 : decode cX5_nextToken 154 = .ok (.aload_n 0, 1) := by decide +kernel
theorem dX5_nextToken_155 : decode cX5_nextToken 155 = .ok (.getfield 75, 3) := by decide +kernel
theorem dX5_nextToken_158 : decode cX5_nextToken 158 = .ok (.iaload, 1) := by decide +kernel
theorem dX5_nextToken_159 : decode cX5_nextToken 159 = .ok (.invokestatic 82, 3) := by decide +kernel
theorem dX5_nextToken_162 : decode cX5_nextToken 162 = .ok (.ifCond .eq 42, 3) := by decide +kernel
theorem dX5_nextToken_165 : decode cX5_nextToken 165 = .ok (.aload_n 0, 1) := by decide +kernel
theorem dX5_nextToken_166 : decode cX5_nextToken 166 = .ok (.getfield 72, 3) := by decide +kernel
theorem dX5_nextToken_169 : decode cX5_nextToken 169 = .ok (.aload_n 0, 1) := by decide +kernel
theorem dX5_nextToken_170 : decode cX5_nextToken 170 = .ok (.getfield 61, 3) := by decide +kernel
theorem dX5_nextToken_173 : decode cX5_nextToken 173 = .ok (.if_icmp .ge 31, 3) := by decide +kernel
theorem dX5_nextToken_176 : decode cX5_nextToken 176 = .ok (.aload_n 0, 1) := by decide +kernel
theorem dX5_nextToken_177 : decode cX5_nextToken 177 = .ok (.getfield 23, 3) := by decide +kernel
theorem dX5_nextToken_180 : decode cX5_nextToken 180 = .ok (.aload_n 0, 1) := by decide +kernel
theorem dX5_nextToken_181 : decode cX5_nextToken 181 = .ok (.getfield 72, 3) := by decide +kernel
theorem dX5_nextToken_184 : decode cX5_nextToken 184 = .ok (.iaload, 1) := by decide +kernel
theorem dX5_nextToken_185 : decode cX5_nextToken 185 = .ok (.invokestatic 82, 3) := by decide +kernel
theorem dX5_nextToken_188 : decode cX5_nextToken 188 = .ok (.ifCond .eq 16, 3) := by decide +kernel
theorem dX5_nextToken_191 : decode cX5_nextToken 191 = .ok (.aload_n 0, 1) := by decide +kernel
theorem dX5_nextToken_192 : decode cX5_nextToken 192 = .ok (.dup, 1) := by decide +kernel
theorem dX5_nextToken_193 : decode cX5_nextToken 193 = .ok (.getfield 72, 3) := by decide +kernel
theorem dX5_nextToken_196 : decode cX5_nextToken 196 = .ok (.iconst 1, 1) := by decide +kernel
theorem dX5_nextToken_197 : decode cX5_nextToken 197 = .ok (.iadd, 1) := by decide +kernel
theorem dX5_nextToken_198 : decode cX5_nextToken 198 = .ok (.putfield 72, 3) := by decide +kernel
theorem dX5_nextToken_201 : decode cX5_nextToken 201 = .ok (.goto (-36), 3) := by decide +kernel
theorem dX5_nextToken_204 : decode cX5_nextToken 204 = .ok (.return_, 1) := by decide +kernel
theorem dX5_number_0 : decode cX5_number 0 = .ok (.aload_n 0, 1) := by decide +kernel
theorem dX5_number_1 : decode cX5_number 1 = .ok (.getfield 75, 3) := by decide +kernel
theorem dX5_number_4 : decode cX5_number 4 = .ok (.aload_n 0, 1) := by decide +kernel
theorem dX5_number_5 : decode cX5_number 5 = .ok (.getfield 61, 3) := by decide +kernel
theorem dX5_number_8 : decode cX5_number 8 = .ok (.if_icmp .eq 31, 3) := by decide +kernel
theorem dX5_number_11 : decode cX5_number 11 = .ok (.aload_n 0, 1) := by decide +kernel
theorem dX5_number_12 : decode cX5_number 12 = .ok (.getfield 23, 3) := by decide +kernel
theorem dX5_number_15 : decode cX5_number 15 = .ok (.aload_n 0, 1) := by decide +kernel
theorem dX5_number_16 : decode cX5_number 16 = .ok (.getfield 75, 3) := by decide +kernel
theorem dX5_number_19 : decode cX5_number 19 = .ok (.iaload, 1) := by decide +kernel
theorem dX5_number_20 : decode cX5_number 20 = .ok (.invokestatic 82, 3) := by decide +kernel
theorem dX5_number_23 : decode cX5_number 23 = .ok (.ifCond .eq 16, 3) := by decide +kernel
theorem dX5_number_26 : decode cX5_number 26 = .ok (.aload_n 0, 1) := by decide +kernel
theorem dX5_number_27 : decode cX5_number 27 = .ok (.getfield 72, 3) := by decide +kernel
theorem dX5_number_30 : decode cX5_number 30 = .ok (.aload_n 0, 1) := by decide +kernel
theorem dX5_number_31 : decode cX5_number 31 = .ok (.getfield 75, 3) := by decide +kernel
theorem dX5_number_34 : decode cX5_number 34 = .ok (.isub, 1) := by decide +kernel
theorem dX5_number_35 : decode cX5_number 35 = .ok (.iconst 2, 1) := by decide +kernel
theorem dX5_number_36 : decode cX5_number 36 = .ok (.if_icmp .le 5, 3) := by decide +kernel
theorem dX5_number_39 : decode cX5_number 39 = .ok (.iconst 0, 1) := by decide +kernel
theorem dX5_number_40 : decode cX5_number 40 = .ok (.ireturn, 1) := by decide +kernel
theorem dX5_number_41 : decode cX5_number 41 = .ok (.aload_n 0, 1) := by decide +kernel
theorem dX5_number_42 : decode cX5_number 42 = .ok (.getfield 23, 3) := by decide +kernel
theorem dX5_number_45 : decode cX5_number 45 = .ok (.aload_n 0, 1) := by decide +kernel
theorem dX5_number_46 : decode cX5_number 46 = .ok (.getfield 75, 3) := by decide +kernel
theorem dX5_number_49 : decode cX5_number 49 = .ok (.iaload, 1) := by decide +kernel
theorem dX5_number_50 : decode cX5_number 50 = .ok (.bipush 48, 2) := by decide +kernel
theorem dX5_number_52 : decode cX5_number 52 = .ok (.isub, 1) := by decide +kernel
theorem dX5_number_53 : decode cX5_number 53 = .ok (.istore 4, 2) := by decide +kernel
theorem dX5_number_55 : decode cX5_number 55 = .ok (.aload_n 0, 1) := by decide +kernel
theorem dX5_number_56 : decode cX5_number 56 = .ok (.getfield 72, 3) := by decide +kernel
theorem dX5_number_59 : decode cX5_number 59 = .ok (.aload_n 0, 1) := by decide +kernel
theorem dX5_number_60 : decode cX5_number 60 = .ok (.getfield 75, 3) := by decide +kernel
theorem dX5_number_63 : decode cX5_number 63 = .ok (.isub, 1) := by decide +kernel
theorem dX5_number_64 : decode cX5_number 64 = .ok (.iconst 2, 1) := by decide +kernel
theorem dX5_number_65 : decode cX5_number 65 = .ok (.if_icmp .ne 26, 3) := by decide +kernel
theorem dX5_number_68 : decode cX5_number 68 = .ok (.bipush 10, 2) := by decide +kernel
theorem dX5_number_70 : decode cX5_number 70 = .ok (.iload 4, 2) := by decide +kernel
theorem dX5_number_72 : decode cX5_number 72 = .ok (.imul, 1) := by decide +kernel
theorem dX5_number_73 : decode cX5_number 73 = .ok (.aload_n 0, 1) := by decide +kernel
theorem dX5_number_74 : decode cX5_number 74 = .ok (.getfield 23, 3) := by decide +kernel
theorem dX5_number_77 : decode cX5_number 77 = .ok (.aload_n 0, 1) := by decide +kernel
theorem dX5_number_78 : decode cX5_number 78 = .ok (.getfield 75, 3) := by decide +kernel
theorem dX5_number_81 : decode cX5_number 81 = .ok (.iconst 1, 1) := by decide +kernel
theorem dX5_number_82 : decode cX5_number 82 = .ok (.iadd, 1) := by decide +kernel
theorem dX5_number_83 : decode cX5_number 83 = .ok (.iaload, 1) := by decide +kernel
theorem dX5_number_84 : decode cX5_number 84 = .ok (.iadd, 1) := by decide +kernel
theorem dX5_number_85 : decode cX5_number 85 = .ok (.bipush 48, 2) := by decide +kernel
theorem dX5_number_87 : decode cX5_number 87 = .ok (.isub, 1) := by decide +kernel
theorem dX5_number_88 : decode cX5_number 88 = .ok (.goto 5, 3) := by decide +kernel
theorem dX5_number_91 : decode cX5_number 91 = .ok (.iload 4, 2) := by decide +kernel
theorem dX5_number_93 : decode cX5_number 93 = .ok (.istore 4, 2) := by decide +kernel
theorem dX5_number_95 : decode cX5_number 95 = .ok (.iload 4, 2) := by decide +kernel
theorem dX5_number_97 : decode cX5_number 97 = .ok (.i2l, 1) := by decide +kernel
theorem dX5_number_98 : decode cX5_number 98 = .ok (.iload_n 2, 1) := by decide +kernel
theorem dX5_number_99 : decode cX5_number 99 = .ok (.i2l, 1) := by decide +kernel
theorem dX5_number_100 : decode cX5_number 100 = .ok (.iload_n 3, 1) := by decide +kernel
theorem dX5_number_101 : decode cX5_number 101 = .ok (.i2l, 1) := by decide +kernel
theorem dX5_number_102 : decode cX5_number 102 = .ok (.invokestatic 57, 3) := by decide +kernel
theorem dX5_number_105 : decode cX5_number 105 = .ok (.istore 5, 2) := by decide +kernel
theorem dX5_number_107 : decode cX5_number 107 = .ok (.iload 5, 2) := by decide +kernel
theorem dX5_number_109 : decode cX5_number 109 = .ok (.ifCond .eq 15, 3) := by decide +kernel
theorem dX5_number_112 : decode cX5_number 112 = .ok (.aload_n 0, 1) := by decide +kernel
theorem dX5_number_113 : decode cX5_number 113 = .ok (.getfield 32, 3) := by decide +kernel
theorem dX5_number_116 : decode cX5_number 116 = .ok (.iload_n 1, 1) := by decide +kernel
theorem dX5_number_117 : decode cX5_number 117 = .ok (.iload 4, 2) := by decide +kernel
theorem dX5_number_119 : decode cX5_number 119 = .ok (.iastore, 1) := by decide +kernel
theorem dX5_number_120 : decode cX5_number 120 = .ok (.aload_n 0, 1) := by decide +kernel
theorem dX5_number_121 : decode cX5_number 121 = .ok (.invokevirtual 88, 3) := by decide +kernel
theorem dX5_number_124 : decode cX5_number 124 = .ok (.iload 5, 2) := by decide +kernel
theorem dX5_number_126 : decode cX5_number 126 = .ok (.ireturn, 1) := by decide +kernel
theorem dX5_odds_0 : decode cX5_odds 0 = .ok (.aload_n 0, 1) := by decide +kernel
theorem dX5_odds_1 : decode cX5_odds 1 = .ok (.iload_n 1, 1) := by decide +kernel
theorem dX5_odds_2 : decode cX5_odds 2 = .ok (.invokevirtual 139, 3) := by decide +kernel
theorem dX5_odds_5 : decode cX5_odds 5 = .ok (.ifCond .ne 6, 3) := by decide +kernel
theorem dX5_odds_8 : decode cX5_odds 8 = .ok (.bipush (-2), 2) := by decide +kernel
theorem dX5_odds_10 : decode cX5_odds 10 = .ok (.ireturn, 1) := by decide +kernel
theorem dX5_odds_11 : decode cX5_odds 11 = .ok (.iload_n 2, 1) := by decide +kernel
theorem dX5_odds_12 : decode cX5_odds 12 = .ok (.invokestatic 173, 3) := by decide +kernel
theorem dX5_odds_15 : decode cX5_odds 15 = .ok (.ifCond .eq 21, 3) := by decide +kernel
theorem dX5_odds_18 : decode cX5_odds 18 = .ok (.iload_n 3, 1) := by decide +kernel
theorem dX5_odds_19 : decode cX5_odds 19 = .ok (.invokestatic 176, 3) := by decide +kernel
theorem dX5_odds_22 : decode cX5_odds 22 = .ok (.ifCond .eq 14, 3) := by decide +kernel
theorem dX5_odds_25 : decode cX5_odds 25 = .ok (.iload 4, 2) := by decide +kernel
theorem dX5_odds_27 : decode cX5_odds 27 = .ok (.i2l, 1) := by decide +kernel
theorem dX5_odds_28 : decode cX5_odds 28 = .ok (.lconst 0, 1) := by decide +kernel
theorem dX5_odds_29 : decode cX5_odds 29 = .ok (.lconst 1, 1) := by decide +kernel
theorem dX5_odds_30 : decode cX5_odds 30 = .ok (.invokestatic 57, 3) := by decide +kernel
theorem dX5_odds_33 : decode cX5_odds 33 = .ok (.ifCond .ne 6, 3) := by decide +kernel
theorem dX5_odds_36 : decode cX5_odds 36 = .ok (.bipush (-3), 2) := by decide +kernel
theorem dX5_odds_38 : decode cX5_odds 38 = .ok (.ireturn, 1) := by decide +kernel
theorem dX5_odds_39 : decode cX5_odds 39 = .ok (.aload_n 0, 1) := by decide +kernel
theorem dX5_odds_40 : decode cX5_odds 40 = .ok (.iconst 0, 1) := by decide +kernel
theorem dX5_odds_41 : decode cX5_odds 41 = .ok (.iload_n 3, 1) := by decide +kernel
theorem dX5_odds_42 : decode cX5_odds 42 = .ok (.iconst (-1), 1) := by decide +kernel
theorem dX5_odds_43 : decode cX5_odds 43 = .ok (.invokevirtual 179, 3) := by decide +kernel
theorem dX5_odds_46 : decode cX5_odds 46 = .ok (.ifCond .ne 6, 3) := by decide +kernel
theorem dX5_odds_49 : decode cX5_odds 49 = .ok (.bipush (-4), 2) := by decide +kernel
theorem dX5_odds_51 : decode cX5_odds 51 = .ok (.ireturn, 1) := by decide +kernel
theorem dX5_odds_52 : decode cX5_odds 52 = .ok (.aload_n 0, 1) := by decide +kernel
theorem dX5_odds_53 : decode cX5_odds 53 = .ok (.iconst 0, 1) := by decide +kernel
theorem dX5_odds_54 : decode cX5_odds 54 = .ok (.iload_n 1, 1) := by decide +kernel
theorem dX5_odds_55 : decode cX5_odds 55 = .ok (.iload_n 3, 1) := by decide +kernel
theorem dX5_odds_56 : decode cX5_odds 56 = .ok (.invokevirtual 152, 3) := by decide +kernel
theorem dX5_odds_59 : decode cX5_odds 59 = .ok (.ifCond .eq 7, 3) := by decide +kernel
theorem dX5_odds_62 : decode cX5_odds 62 = .ok (.iconst 0, 1) := by decide +kernel
theorem dX5_odds_63 : decode cX5_odds 63 = .ok (.goto 10, 3) := by decide +kernel
theorem dX5_odds_66 : decode cX5_odds 66 = .ok (.aload_n 0, 1) := by decide +kernel
theorem dX5_odds_67 : decode cX5_odds 67 = .ok (.iconst 0, 1) := by decide +kernel
theorem dX5_odds_68 : decode cX5_odds 68 = .ok (.iload_n 1, 1) := by decide +kernel
theorem dX5_odds_69 : decode cX5_odds 69 = .ok (.iload_n 2, 1) := by decide +kernel
theorem dX5_odds_70 : decode cX5_odds 70 = .ok (.invokevirtual 155, 3) := by decide +kernel
theorem dX5_odds_73 : decode cX5_odds 73 = .ok (.istore 5, 2) := by decide +kernel
theorem dX5_odds_75 : decode cX5_odds 75 = .ok (.iconst 0, 1) := by decide +kernel
theorem dX5_odds_76 : decode cX5_odds 76 = .ok (.istore 6, 2) := by decide +kernel
theorem dX5_odds_78 : decode cX5_odds 78 = .ok (.iconst 0, 1) := by decide +kernel
theorem dX5_odds_79 : decode cX5_odds 79 = .ok (.istore 7, 2) := by decide +kernel
theorem dX5_odds_81 : decode cX5_odds 81 = .ok (.iload 7, 2) := by decide +kernel
theorem dX5_odds_83 : decode cX5_odds 83 = .ok (.aload_n 0, 1) := by decide +kernel
theorem dX5_odds_84 : decode cX5_odds 84 = .ok (.getfield 48, 3) := by decide +kernel
theorem dX5_odds_87 : decode cX5_odds 87 = .ok (.if_icmp .ge 37, 3) := by decide +kernel
theorem dX5_odds_90 : decode cX5_odds 90 = .ok (.iload 6, 2) := by decide +kernel
theorem dX5_odds_92 : decode cX5_odds 92 = .ok (.aload_n 0, 1) := by decide +kernel
theorem dX5_odds_93 : decode cX5_odds 93 = .ok (.iconst 0, 1) := by decide +kernel
theorem dX5_odds_94 : decode cX5_odds 94 = .ok (.iload 7, 2) := by decide +kernel
theorem dX5_odds_96 : decode cX5_odds 96 = .ok (.iload_n 3, 1) := by decide +kernel
theorem dX5_odds_97 : decode cX5_odds 97 = .ok (.invokevirtual 152, 3) := by decide +kernel
theorem dX5_odds_100 : decode cX5_odds 100 = .ok (.ifCond .eq 7, 3) := by decide +kernel
theorem dX5_odds_103 : decode cX5_odds 103 = .ok (.iconst 0, 1) := by decide +kernel
theorem dX5_odds_104 : decode cX5_odds 104 = .ok (.goto 11, 3) := by decide +kernel
theorem dX5_odds_107 : decode cX5_odds 107 = .ok (.aload_n 0, 1) := by decide +kernel
theorem dX5_odds_108 : decode cX5_odds 108 = .ok (.iconst 0, 1) := by decide +kernel
theorem dX5_odds_109 : decode cX5_odds 109 = .ok (.iload 7, 2) := by decide +kernel
theorem dX5_odds_111 : decode cX5_odds 111 = .ok (.iload_n 2, 1) := by decide +kernel
theorem dX5_odds_112 : decode cX5_odds 112 = .ok (.invokevirtual 155, 3) := by decide +kernel
theorem dX5_odds_115 : decode cX5_odds 115 = .ok (.iadd, 1) := by decide +kernel
theorem dX5_odds_116 : decode cX5_odds 116 = .ok (.istore 6, 2) := by decide +kernel
theorem dX5_odds_118 : decode cX5_odds 118 = .ok (.iinc 7 1, 3) := by decide +kernel
theorem dX5_odds_121 : decode cX5_odds 121 = .ok (.goto (-40), 3) := by decide +kernel
theorem dX5_odds_124 : decode cX5_odds 124 = .ok (.iload 5, 2) := by decide +kernel
theorem dX5_odds_126 : decode cX5_odds 126 = .ok (.istore 7, 2) := by decide +kernel
theorem dX5_odds_128 : decode cX5_odds 128 = .ok (.iload 6, 2) := by decide +kernel
theorem dX5_odds_130 : decode cX5_odds 130 = .ok (.istore 8, 2) := by decide +kernel
theorem dX5_odds_132 : decode cX5_odds 132 = .ok (.iload 8, 2) := by decide +kernel
theorem dX5_odds_134 : decode cX5_odds 134 = .ok (.ifCond .eq 21, 3) := by decide +kernel
theorem dX5_odds_137 : decode cX5_odds 137 = .ok (.iload 7, 2) := by decide +kernel
theorem dX5_odds_139 : decode cX5_odds 139 = .ok (.iload 8, 2) := by decide +kernel
theorem dX5_odds_141 : decode cX5_odds 141 = .ok (.irem, 1) := by decide +kernel
theorem dX5_odds_142 : decode cX5_odds 142 = .ok (.istore 9, 2) := by decide +kernel
theorem dX5_odds_144 : decode cX5_odds 144 = .ok (.iload 8, 2) := by decide +kernel
theorem dX5_odds_146 : decode cX5_odds 146 = .ok (.istore 7, 2) := by decide +kernel
theorem dX5_odds_148 : decode cX5_odds 148 = .ok (.iload 9, 2) := by decide +kernel
theorem dX5_odds_150 : decode cX5_odds 150 = .ok (.istore 8, 2) := by decide +kernel
theorem dX5_odds_152 : decode cX5_odds 152 = .ok (.goto (-20), 3) := by decide +kernel
theorem dX5_odds_155 : decode cX5_odds 155 = .ok (.iload 4, 2) := by decide +kernel
theorem dX5_odds_157 : decode cX5_odds 157 = .ok (.ifCond .ne 11, 3) := by decide +kernel
theorem dX5_odds_160 : decode cX5_odds 160 = .ok (.iload 5, 2) := by decide +kernel
theorem dX5_odds_162 : decode cX5_odds 162 = .ok (.iload 7, 2) := by decide +kernel
theorem dX5_odds_164 : decode cX5_odds 164 = .ok (.idiv, 1) := by decide +kernel
theorem dX5_odds_165 : decode cX5_odds 165 = .ok (.goto 8, 3) := by decide +kernel
theorem dX5_odds_168 : decode cX5_odds 168 = .ok (.iload 6, 2) := by decide +kernel
theorem dX5_odds_170 : decode cX5_odds 170 = .ok (.iload 7, 2) := by decide +kernel
theorem dX5_odds_172 : decode cX5_odds 172 = .ok (.idiv, 1) := by decide +kernel
theorem dX5_odds_173 : decode cX5_odds 173 = .ok (.ireturn, 1) := by decide +kernel
theorem dX5_owe_0 : decode cX5_owe 0 = .ok (.iconst 0, 1) := by decide +kernel
theorem dX5_owe_1 : decode cX5_owe 1 = .ok (.istore_n 3, 1) := by decide +kernel
theorem dX5_owe_2 : decode cX5_owe 2 = .ok (.iconst 0, 1) := by decide +kernel
theorem dX5_owe_3 : decode cX5_owe 3 = .ok (.istore 4, 2) := by decide +kernel
theorem dX5_owe_5 : decode cX5_owe 5 = .ok (.iload 4, 2) := by decide +kernel
theorem dX5_owe_7 : decode cX5_owe 7 = .ok (.aload_n 0, 1) := by decide +kernel
theorem dX5_owe_8 : decode cX5_owe 8 = .ok (.getfield 48, 3) := by decide +kernel
theorem dX5_owe_11 : decode cX5_owe 11 = .ok (.if_icmp .ge 39, 3) := by decide +kernel
theorem dX5_owe_14 : decode cX5_owe 14 = .ok (.iload_n 3, 1) := by decide +kernel
theorem dX5_owe_15 : decode cX5_owe 15 = .ok (.aload_n 0, 1) := by decide +kernel
theorem dX5_owe_16 : decode cX5_owe 16 = .ok (.getfield 7, 3) := by decide +kernel
theorem dX5_owe_19 : decode cX5_owe 19 = .ok (.iload_n 1, 1) := by decide +kernel
theorem dX5_owe_20 : decode cX5_owe 20 = .ok (.iconst 4, 1) := by decide +kernel
theorem dX5_owe_21 : decode cX5_owe 21 = .ok (.iadd, 1) := by decide +kernel
theorem dX5_owe_22 : decode cX5_owe 22 = .ok (.iaload, 1) := by decide +kernel
theorem dX5_owe_23 : decode cX5_owe 23 = .ok (.iload 4, 2) := by decide +kernel
theorem dX5_owe_25 : decode cX5_owe 25 = .ok (.invokestatic 93, 3) := by decide +kernel
theorem dX5_owe_28 : decode cX5_owe 28 = .ok (.ifCond .eq 7, 3) := by decide +kernel
theorem dX5_owe_31 : decode cX5_owe 31 = .ok (.iconst 0, 1) := by decide +kernel
theorem dX5_owe_32 : decode cX5_owe 32 = .ok (.goto 10, 3) := by decide +kernel
theorem dX5_owe_35 : decode cX5_owe 35 = .ok (.aload_n 0, 1) := by decide +kernel
theorem dX5_owe_36 : decode cX5_owe 36 = .ok (.getfield 13, 3) := by decide +kernel
theorem dX5_owe_39 : decode cX5_owe 39 = .ok (.iload 4, 2) := by decide +kernel
theorem dX5_owe_41 : decode cX5_owe 41 = .ok (.iaload, 1) := by decide +kernel
theorem dX5_owe_42 : decode cX5_owe 42 = .ok (.iadd, 1) := by decide +kernel
theorem dX5_owe_43 : decode cX5_owe 43 = .ok (.istore_n 3, 1) := by decide +kernel
theorem dX5_owe_44 : decode cX5_owe 44 = .ok (.iinc 4 1, 3) := by decide +kernel
theorem dX5_owe_47 : decode cX5_owe 47 = .ok (.goto (-42), 3) := by decide +kernel
theorem dX5_owe_50 : decode cX5_owe 50 = .ok (.iconst 0, 1) := by decide +kernel
theorem dX5_owe_51 : decode cX5_owe 51 = .ok (.istore 4, 2) := by decide +kernel
theorem dX5_owe_53 : decode cX5_owe 53 = .ok (.iload 4, 2) := by decide +kernel
theorem dX5_owe_55 : decode cX5_owe 55 = .ok (.aload_n 0, 1) := by decide +kernel
theorem dX5_owe_56 : decode cX5_owe 56 = .ok (.getfield 48, 3) := by decide +kernel
theorem dX5_owe_59 : decode cX5_owe 59 = .ok (.if_icmp .ge 101, 3) := by decide +kernel
theorem dX5_owe_62 : decode cX5_owe 62 = .ok (.aload_n 0, 1) := by decide +kernel
theorem dX5_owe_63 : decode cX5_owe 63 = .ok (.getfield 7, 3) := by decide +kernel
theorem dX5_owe_66 : decode cX5_owe 66 = .ok (.iload_n 1, 1) := by decide +kernel
theorem dX5_owe_67 : decode cX5_owe 67 = .ok (.bipush 11, 2) := by decide +kernel
theorem dX5_owe_69 : decode cX5_owe 69 = .ok (.iadd, 1) := by decide +kernel
theorem dX5_owe_70 : decode cX5_owe 70 = .ok (.iload 4, 2) := by decide +kernel
theorem dX5_owe_72 : decode cX5_owe 72 = .ok (.iadd, 1) := by decide +kernel
theorem dX5_owe_73 : decode cX5_owe 73 = .ok (.iaload, 1) := by decide +kernel
theorem dX5_owe_74 : decode cX5_owe 74 = .ok (.aload_n 0, 1) := by decide +kernel
theorem dX5_owe_75 : decode cX5_owe 75 = .ok (.getfield 7, 3) := by decide +kernel
theorem dX5_owe_78 : decode cX5_owe 78 = .ok (.iload_n 1, 1) := by decide +kernel
theorem dX5_owe_79 : decode cX5_owe 79 = .ok (.iconst 4, 1) := by decide +kernel
theorem dX5_owe_80 : decode cX5_owe 80 = .ok (.iadd, 1) := by decide +kernel
theorem dX5_owe_81 : decode cX5_owe 81 = .ok (.iaload, 1) := by decide +kernel
theorem dX5_owe_82 : decode cX5_owe 82 = .ok (.iload 4, 2) := by decide +kernel
theorem dX5_owe_84 : decode cX5_owe 84 = .ok (.invokestatic 93, 3) := by decide +kernel
theorem dX5_owe_87 : decode cX5_owe 87 = .ok (.ifCond .eq 7, 3) := by decide +kernel
theorem dX5_owe_90 : decode cX5_owe 90 = .ok (.iconst 0, 1) := by decide +kernel
theorem dX5_owe_91 : decode cX5_owe 91 = .ok (.goto 10, 3) := by decide +kernel
theorem dX5_owe_94 : decode cX5_owe 94 = .ok (.aload_n 0, 1) := by decide +kernel
theorem dX5_owe_95 : decode cX5_owe 95 = .ok (.getfield 13, 3) := by decide +kernel
theorem dX5_owe_98 : decode cX5_owe 98 = .ok (.iload 4, 2) := by decide +kernel
theorem dX5_owe_100 : decode cX5_owe 100 = .ok (.iaload, 1) := by decide +kernel
theorem dX5_owe_101 : decode cX5_owe 101 = .ok (.iadd, 1) := by decide +kernel
theorem dX5_owe_102 : decode cX5_owe 102 = .ok (.iload 4, 2) := by decide +kernel
theorem dX5_owe_104 : decode cX5_owe 104 = .ok (.iload_n 2, 1) := by decide +kernel
theorem dX5_owe_105 : decode cX5_owe 105 = .ok (.if_icmp .ne 7, 3) := by decide +kernel
theorem dX5_owe_108 : decode cX5_owe 108 = .ok (.iload_n 3, 1) := by decide +kernel
theorem dX5_owe_109 : decode cX5_owe 109 = .ok (.goto 4, 3) := by decide +kernel
theorem dX5_owe_112 : decode cX5_owe 112 = .ok (.iconst 0, 1) := by decide +kernel
theorem dX5_owe_113 : decode cX5_owe 113 = .ok (.isub, 1) := by decide +kernel
theorem dX5_owe_114 : decode cX5_owe 114 = .ok (.istore 5, 2) := by decide +kernel
theorem dX5_owe_116 : decode cX5_owe 116 = .ok (.aload_n 0, 1) := by decide +kernel
theorem dX5_owe_117 : decode cX5_owe 117 = .ok (.getfield 7, 3) := by decide +kernel
theorem dX5_owe_120 : decode cX5_owe 120 = .ok (.iload_n 1, 1) := by decide +kernel
theorem dX5_owe_121 : decode cX5_owe 121 = .ok (.bipush 11, 2) := by decide +kernel
theorem dX5_owe_123 : decode cX5_owe 123 = .ok (.iadd, 1) := by decide +kernel
theorem dX5_owe_124 : decode cX5_owe 124 = .ok (.iload 4, 2) := by decide +kernel
theorem dX5_owe_126 : decode cX5_owe 126 = .ok (.iadd, 1) := by decide +kernel
theorem dX5_owe_127 : decode cX5_owe 127 = .ok (.iload 5, 2) := by decide +kernel
theorem dX5_owe_129 : decode cX5_owe 129 = .ok (.bipush (-99), 2) := by decide +kernel
theorem dX5_owe_131 : decode cX5_owe 131 = .ok (.if_icmp .ge 8, 3) := by decide +kernel
theorem dX5_owe_134 : decode cX5_owe 134 = .ok (.bipush (-99), 2) := by decide +kernel
theorem dX5_owe_136 : decode cX5_owe 136 = .ok (.goto 17, 3) := by decide +kernel
theorem dX5_owe_139 : decode cX5_owe 139 = .ok (.iload 5, 2) := by decide +kernel
theorem dX5_owe_141 : decode cX5_owe 141 = .ok (.bipush 99, 2) := by decide +kernel
theorem dX5_owe_143 : decode cX5_owe 143 = .ok (.if_icmp .le 8, 3) := by decide +kernel
theorem dX5_owe_146 : decode cX5_owe 146 = .ok (.bipush 99, 2) := by decide +kernel
theorem dX5_owe_148 : decode cX5_owe 148 = .ok (.goto 5, 3) := by decide +kernel
theorem dX5_owe_151 : decode cX5_owe 151 = .ok (.iload 5, 2) := by decide +kernel
theorem dX5_owe_153 : decode cX5_owe 153 = .ok (.iastore, 1) := by decide +kernel
theorem dX5_owe_154 : decode cX5_owe 154 = .ok (.iinc 4 1, 3) := by decide +kernel
theorem dX5_owe_157 : decode cX5_owe 157 = .ok (.goto (-104), 3) := by decide +kernel
theorem dX5_owe_160 : decode cX5_owe 160 = .ok (.return_, 1) := by decide +kernel
theorem dX5_put_0 : decode cX5_put 0 = .ok (.aload_n 0, 1) := by decide +kernel
theorem dX5_put_1 : decode cX5_put 1 = .ok (.getfield 38, 3) := by decide +kernel
theorem dX5_put_4 : decode cX5_put 4 = .ok (.aload_n 0, 1) := by decide +kernel
theorem dX5_put_5 : decode cX5_put 5 = .ok (.getfield 188, 3) := by decide +kernel
theorem dX5_put_8 : decode cX5_put 8 = .ok (.iload_n 1, 1) := by decide +kernel
theorem dX5_put_9 : decode cX5_put 9 = .ok (.iastore, 1) := by decide +kernel
theorem dX5_put_10 : decode cX5_put 10 = .ok (.aload_n 0, 1) := by decide +kernel
theorem dX5_put_11 : decode cX5_put 11 = .ok (.dup, 1) := by decide +kernel
theorem dX5_put_12 : decode cX5_put 12 = .ok (.getfield 188, 3) := by decide +kernel
theorem dX5_put_15 : decode cX5_put 15 = .ok (.iconst 1, 1) := by decide +kernel
theorem dX5_put_16 : decode cX5_put 16 = .ok (.iadd, 1) := by decide +kernel
theorem dX5_put_17 : decode cX5_put 17 = .ok (.putfield 188, 3) := by decide +kernel
theorem dX5_put_20 : decode cX5_put 20 = .ok (.return_, 1) := by decide +kernel
theorem dX5_reads_0 : decode cX5_reads 0 = .ok (.aload_n 0, 1) := by decide +kernel
theorem dX5_reads_1 : decode cX5_reads 1 = .ok (.iload_n 1, 1) := by decide +kernel
theorem dX5_reads_2 : decode cX5_reads 2 = .ok (.putfield 118, 3) := by decide +kernel
theorem dX5_reads_5 : decode cX5_reads 5 = .ok (.aload_n 0, 1) := by decide +kernel
theorem dX5_reads_6 : decode cX5_reads 6 = .ok (.iconst 0, 1) := by decide +kernel
theorem dX5_reads_7 : decode cX5_reads 7 = .ok (.putfield 72, 3) := by decide +kernel
theorem dX5_reads_10 : decode cX5_reads 10 = .ok (.aload_n 0, 1) := by decide +kernel
theorem dX5_reads_11 : decode cX5_reads 11 = .ok (.iconst 1, 1) := by decide +kernel
theorem dX5_reads_12 : decode cX5_reads 12 = .ok (.putfield 126, 3) := by decide +kernel
theorem dX5_reads_15 : decode cX5_reads 15 = .ok (.aload_n 0, 1) := by decide +kernel
theorem dX5_reads_16 : decode cX5_reads 16 = .ok (.aload_n 0, 1) := by decide +kernel
theorem dX5_reads_17 : decode cX5_reads 17 = .ok (.getfield 48, 3) := by decide +kernel
theorem dX5_reads_20 : decode cX5_reads 20 = .ok (.putfield 109, 3) := by decide +kernel
theorem dX5_reads_23 : decode cX5_reads 23 = .ok (.aload_n 0, 1) := by decide +kernel
theorem dX5_reads_24 : decode cX5_reads 24 = .ok (.invokevirtual 88, 3) := by decide +kernel
theorem dX5_reads_27 : decode cX5_reads 27 = .ok (.aload_n 0, 1) := by decide +kernel
theorem dX5_reads_28 : decode cX5_reads 28 = .ok (.invokevirtual 129, 3) := by decide +kernel
theorem dX5_reads_31 : decode cX5_reads 31 = .ok (.istore_n 2, 1) := by decide +kernel
theorem dX5_reads_32 : decode cX5_reads 32 = .ok (.iload_n 2, 1) := by decide +kernel
theorem dX5_reads_33 : decode cX5_reads 33 = .ok (.ifCond .eq 69, 3) := by decide +kernel
theorem dX5_reads_36 : decode cX5_reads 36 = .ok (.aload_n 0, 1) := by decide +kernel
theorem dX5_reads_37 : decode cX5_reads 37 = .ok (.getfield 75, 3) := by decide +kernel
theorem dX5_reads_40 : decode cX5_reads 40 = .ok (.aload_n 0, 1) := by decide +kernel
theorem dX5_reads_41 : decode cX5_reads 41 = .ok (.getfield 61, 3) := by decide +kernel
theorem dX5_reads_44 : decode cX5_reads 44 = .ok (.if_icmp .ge 58, 3) := by decide +kernel
theorem dX5_reads_47 : decode cX5_reads 47 = .ok (.aload_n 0, 1) := by decide +kernel
theorem dX5_reads_48 : decode cX5_reads 48 = .ok (.getfield 126, 3) := by decide +kernel
theorem dX5_reads_51 : decode cX5_reads 51 = .ok (.bipush 24, 2) := by decide +kernel
theorem dX5_reads_53 : decode cX5_reads 53 = .ok (.if_icmp .ge 21, 3) := by decide +kernel
theorem dX5_reads_56 : decode cX5_reads 56 = .ok (.aload_n 0, 1) := by decide +kernel
theorem dX5_reads_57 : decode cX5_reads 57 = .ok (.getfield 23, 3) := by decide +kernel
theorem dX5_reads_60 : decode cX5_reads 60 = .ok (.aload_n 0, 1) := by decide +kernel
theorem dX5_reads_61 : decode cX5_reads 61 = .ok (.getfield 75, 3) := by decide +kernel
theorem dX5_reads_64 : decode cX5_reads 64 = .ok (.iaload, 1) := by decide +kernel
theorem dX5_reads_65 : decode cX5_reads 65 = .ok (.bipush 59, 2) := by decide +kernel
theorem dX5_reads_67 : decode cX5_reads 67 = .ok (.if_icmp .ne 7, 3) := by decide +kernel
theorem dX5_reads_70 : decode cX5_reads 70 = .ok (.iconst 1, 1) := by decide +kernel
theorem dX5_reads_71 : decode cX5_reads 71 = .ok (.goto 4, 3) := by decide +kernel
theorem dX5_reads_74 : decode cX5_reads 74 = .ok (.iconst 0, 1) := by decide +kernel
theorem dX5_reads_75 : decode cX5_reads 75 = .ok (.istore_n 2, 1) := by decide +kernel
theorem dX5_reads_76 : decode cX5_reads 76 = .ok (.iload_n 2, 1) := by decide +kernel
theorem dX5_reads_77 : decode cX5_reads 77 = .ok (.ifCond .eq (-45), 3) := by decide +kernel
theorem dX5_reads_80 : decode cX5_reads 80 = .ok (.aload_n 0, 1) := by decide +kernel
theorem dX5_reads_81 : decode cX5_reads 81 = .ok (.invokevirtual 88, 3) := by decide +kernel
theorem dX5_reads_84 : decode cX5_reads 84 = .ok (.aload_n 0, 1) := by decide +kernel
theorem dX5_reads_85 : decode cX5_reads 85 = .ok (.invokevirtual 129, 3) := by decide +kernel
theorem dX5_reads_88 : decode cX5_reads 88 = .ok (.istore_n 2, 1) := by decide +kernel
theorem dX5_reads_89 : decode cX5_reads 89 = .ok (.aload_n 0, 1) := by decide +kernel
theorem dX5_reads_90 : decode cX5_reads 90 = .ok (.dup, 1) := by decide +kernel
theorem dX5_reads_91 : decode cX5_reads 91 = .ok (.getfield 126, 3) := by decide +kernel
theorem dX5_reads_94 : decode cX5_reads 94 = .ok (.iconst 1, 1) := by decide +kernel
theorem dX5_reads_95 : decode cX5_reads 95 = .ok (.iadd, 1) := by decide +kernel
theorem dX5_reads_96 : decode cX5_reads 96 = .ok (.putfield 126, 3) := by decide +kernel
theorem dX5_reads_99 : decode cX5_reads 99 = .ok (.goto (-67), 3) := by decide +kernel
theorem dX5_reads_102 : decode cX5_reads 102 = .ok (.iload_n 2, 1) := by decide +kernel
theorem dX5_reads_103 : decode cX5_reads 103 = .ok (.ireturn, 1) := by decide +kernel
theorem dX5_readsClause_0 : decode cX5_readsClause 0 = .ok (.aload_n 0, 1) := by decide +kernel
theorem dX5_readsClause_1 : decode cX5_readsClause 1 = .ok (.iconst 4, 1) := by decide +kernel
theorem dX5_readsClause_2 : decode cX5_readsClause 2 = .ok (.bipush 8, 2) := by decide +kernel
theorem dX5_readsClause_4 : decode cX5_readsClause 4 = .ok (.invokevirtual 97, 3) := by decide +kernel
theorem dX5_readsClause_7 : decode cX5_readsClause 7 = .ok (.istore_n 1, 1) := by decide +kernel
theorem dX5_readsClause_8 : decode cX5_readsClause 8 = .ok (.iload_n 1, 1) := by decide +kernel
theorem dX5_readsClause_9 : decode cX5_readsClause 9 = .ok (.iconst (-1), 1) := by decide +kernel
theorem dX5_readsClause_10 : decode cX5_readsClause 10 = .ok (.if_icmp .eq 17, 3) := by decide +kernel
theorem dX5_readsClause_13 : decode cX5_readsClause 13 = .ok (.iload_n 1, 1) := by decide +kernel
theorem dX5_readsClause_14 : decode cX5_readsClause 14 = .ok (.iconst 5, 1) := by decide +kernel
theorem dX5_readsClause_15 : decode cX5_readsClause 15 = .ok (.if_icmp .ne 14, 3) := by decide +kernel
theorem dX5_readsClause_18 : decode cX5_readsClause 18 = .ok (.aload_n 0, 1) := by decide +kernel
theorem dX5_readsClause_19 : decode cX5_readsClause 19 = .ok (.getfield 109, 3) := by decide +kernel
theorem dX5_readsClause_22 : decode cX5_readsClause 22 = .ok (.bipush 6, 2) := by decide +kernel
theorem dX5_readsClause_24 : decode cX5_readsClause 24 = .ok (.if_icmp .ne 5, 3) := by decide +kernel
theorem dX5_readsClause_27 : decode cX5_readsClause 27 = .ok (.iconst 0, 1) := by decide +kernel
theorem dX5_readsClause_28 : decode cX5_readsClause 28 = .ok (.ireturn, 1) := by decide +kernel
theorem dX5_readsClause_29 : decode cX5_readsClause 29 = .ok (.aload_n 0, 1) := by decide +kernel
theorem dX5_readsClause_30 : decode cX5_readsClause 30 = .ok (.invokevirtual 88, 3) := by decide +kernel
theorem dX5_readsClause_33 : decode cX5_readsClause 33 = .ok (.aload_n 0, 1) := by decide +kernel
theorem dX5_readsClause_34 : decode cX5_readsClause 34 = .ok (.iload_n 1, 1) := by decide +kernel
theorem dX5_readsClause_35 : decode cX5_readsClause 35 = .ok (.invokevirtual 115, 3) := by decide +kernel
theorem dX5_readsClause_38 : decode cX5_readsClause 38 = .ok (.ifCond .ne 5, 3) := by decide +kernel
theorem dX5_readsClause_41 : decode cX5_readsClause 41 = .ok (.iconst 0, 1) := by decide +kernel
theorem dX5_readsClause_42 : decode cX5_readsClause 42 = .ok (.ireturn, 1) := by decide +kernel
theorem dX5_readsClause_43 : decode cX5_readsClause 43 = .ok (.aload_n 0, 1) := by decide +kernel
theorem dX5_readsClause_44 : decode cX5_readsClause 44 = .ok (.iload_n 1, 1) := by decide +kernel
theorem dX5_readsClause_45 : decode cX5_readsClause 45 = .ok (.iconst 4, 1) := by decide +kernel
theorem dX5_readsClause_46 : decode cX5_readsClause 46 = .ok (.if_icmp .ne 7, 3) := by decide +kernel
theorem dX5_readsClause_49 : decode cX5_readsClause 49 = .ok (.iconst 0, 1) := by decide +kernel
theorem dX5_readsClause_50 : decode cX5_readsClause 50 = .ok (.goto 21, 3) := by decide +kernel
theorem dX5_readsClause_53 : decode cX5_readsClause 53 = .ok (.iload_n 1, 1) := by decide +kernel
theorem dX5_readsClause_54 : decode cX5_readsClause 54 = .ok (.iconst 5, 1) := by decide +kernel
theorem dX5_readsClause_55 : decode cX5_readsClause 55 = .ok (.if_icmp .ne 12, 3) := by decide +kernel
theorem dX5_readsClause_58 : decode cX5_readsClause 58 = .ok (.aload_n 0, 1) := by decide +kernel
theorem dX5_readsClause_59 : decode cX5_readsClause 59 = .ok (.getfield 109, 3) := by decide +kernel
theorem dX5_readsClause_62 : decode cX5_readsClause 62 = .ok (.iconst 1, 1) := by decide +kernel
theorem dX5_readsClause_63 : decode cX5_readsClause 63 = .ok (.iadd, 1) := by decide +kernel
theorem dX5_readsClause_64 : decode cX5_readsClause 64 = .ok (.goto 7, 3) := by decide +kernel
theorem dX5_readsClause_67 : decode cX5_readsClause 67 = .ok (.aload_n 0, 1) := by decide +kernel
theorem dX5_readsClause_68 : decode cX5_readsClause 68 = .ok (.getfield 109, 3) := by decide +kernel
theorem dX5_readsClause_71 : decode cX5_readsClause 71 = .ok (.putfield 109, 3) := by decide +kernel
theorem dX5_readsClause_74 : decode cX5_readsClause 74 = .ok (.aload_n 0, 1) := by decide +kernel
theorem dX5_readsClause_75 : decode cX5_readsClause 75 = .ok (.getfield 118, 3) := by decide +kernel
theorem dX5_readsClause_78 : decode cX5_readsClause 78 = .ok (.ifCond .eq 8, 3) := by decide +kernel
theorem dX5_readsClause_81 : decode cX5_readsClause 81 = .ok (.aload_n 0, 1) := by decide +kernel
theorem dX5_readsClause_82 : decode cX5_readsClause 82 = .ok (.iload_n 1, 1) := by decide +kernel
theorem dX5_readsClause_83 : decode cX5_readsClause 83 = .ok (.invokevirtual 122, 3) := by decide +kernel
theorem dX5_readsClause_86 : decode cX5_readsClause 86 = .ok (.iconst 1, 1) := by decide +kernel
theorem dX5_readsClause_87 : decode cX5_readsClause 87 = .ok (.ireturn, 1) := by decide +kernel
theorem dX5_readsRest_0 : decode cX5_readsRest 0 = .ok (.iload_n 1, 1) := by decide +kernel
theorem dX5_readsRest_1 : decode cX5_readsRest 1 = .ok (.tableswitch 102 4 7 #[31, 33, 57, 89], 31) := by decide +kernel
theorem dX5_readsRest_32 : decode cX5_readsRest 32 = .ok (.iconst 1, 1) := by decide +kernel
theorem dX5_readsRest_33 : decode cX5_readsRest 33 = .ok (.ireturn, 1) := by decide +kernel
theorem dX5_readsRest_34 : decode cX5_readsRest 34 = .ok (.aload_n 0, 1) := by decide +kernel
theorem dX5_readsRest_35 : decode cX5_readsRest 35 = .ok (.iconst 0, 1) := by decide +kernel
theorem dX5_readsRest_36 : decode cX5_readsRest 36 = .ok (.iconst 1, 1) := by decide +kernel
theorem dX5_readsRest_37 : decode cX5_readsRest 37 = .ok (.bipush 9, 2) := by decide +kernel
theorem dX5_readsRest_39 : decode cX5_readsRest 39 = .ok (.invokevirtual 101, 3) := by decide +kernel
theorem dX5_readsRest_42 : decode cX5_readsRest 42 = .ok (.ifCond .eq 14, 3) := by decide +kernel
theorem dX5_readsRest_45 : decode cX5_readsRest 45 = .ok (.aload_n 0, 1) := by decide +kernel
theorem dX5_readsRest_46 : decode cX5_readsRest 46 = .ok (.invokevirtual 105, 3) := by decide +kernel
theorem dX5_readsRest_49 : decode cX5_readsRest 49 = .ok (.ifCond .eq 7, 3) := by decide +kernel
theorem dX5_readsRest_52 : decode cX5_readsRest 52 = .ok (.iconst 1, 1) := by decide +kernel
theorem dX5_readsRest_53 : decode cX5_readsRest 53 = .ok (.goto 4, 3) := by decide +kernel
theorem dX5_readsRest_56 : decode cX5_readsRest 56 = .ok (.iconst 0, 1) := by decide +kernel
theorem dX5_readsRest_57 : decode cX5_readsRest 57 = .ok (.ireturn, 1) := by decide +kernel
theorem dX5_readsRest_58 : decode cX5_readsRest 58 = .ok (.aload_n 0, 1) := by decide +kernel
theorem dX5_readsRest_59 : decode cX5_readsRest 59 = .ok (.iconst 0, 1) := by decide +kernel
theorem dX5_readsRest_60 : decode cX5_readsRest 60 = .ok (.iconst 0, 1) := by decide +kernel
theorem dX5_readsRest_61 : decode cX5_readsRest 61 = .ok (.aload_n 0, 1) := by decide +kernel
theorem dX5_readsRest_62 : decode cX5_readsRest 62 = .ok (.getfield 109, 3) := by decide +kernel
theorem dX5_readsRest_65 : decode cX5_readsRest 65 = .ok (.iconst 1, 1) := by decide +kernel
theorem dX5_readsRest_66 : decode cX5_readsRest 66 = .ok (.isub, 1) := by decide +kernel
theorem dX5_readsRest_67 : decode cX5_readsRest 67 = .ok (.invokevirtual 101, 3) := by decide +kernel
theorem dX5_readsRest_70 : decode cX5_readsRest 70 = .ok (.ifCond .eq 18, 3) := by decide +kernel
theorem dX5_readsRest_73 : decode cX5_readsRest 73 = .ok (.aload_n 0, 1) := by decide +kernel
theorem dX5_readsRest_74 : decode cX5_readsRest 74 = .ok (.iconst 1, 1) := by decide +kernel
theorem dX5_readsRest_75 : decode cX5_readsRest 75 = .ok (.iconst 0, 1) := by decide +kernel
theorem dX5_readsRest_76 : decode cX5_readsRest 76 = .ok (.bipush 9, 2) := by decide +kernel
theorem dX5_readsRest_78 : decode cX5_readsRest 78 = .ok (.invokevirtual 101, 3) := by decide +kernel
theorem dX5_readsRest_81 : decode cX5_readsRest 81 = .ok (.ifCond .eq 7, 3) := by decide +kernel
theorem dX5_readsRest_84 : decode cX5_readsRest 84 = .ok (.iconst 1, 1) := by decide +kernel
theorem dX5_readsRest_85 : decode cX5_readsRest 85 = .ok (.goto 4, 3) := by decide +kernel
theorem dX5_readsRest_88 : decode cX5_readsRest 88 = .ok (.iconst 0, 1) := by decide +kernel
theorem dX5_readsRest_89 : decode cX5_readsRest 89 = .ok (.ireturn, 1) := by decide +kernel
theorem dX5_readsRest_90 : decode cX5_readsRest 90 = .ok (.aload_n 0, 1) := by decide +kernel
theorem dX5_readsRest_91 : decode cX5_readsRest 91 = .ok (.iconst 0, 1) := by decide +kernel
theorem dX5_readsRest_92 : decode cX5_readsRest 92 = .ok (.iconst 0, 1) := by decide +kernel
theorem dX5_readsRest_93 : decode cX5_readsRest 93 = .ok (.aload_n 0, 1) := by decide +kernel
theorem dX5_readsRest_94 : decode cX5_readsRest 94 = .ok (.getfield 109, 3) := by decide +kernel
theorem dX5_readsRest_97 : decode cX5_readsRest 97 = .ok (.iconst 1, 1) := by decide +kernel
theorem dX5_readsRest_98 : decode cX5_readsRest 98 = .ok (.isub, 1) := by decide +kernel
theorem dX5_readsRest_99 : decode cX5_readsRest 99 = .ok (.invokevirtual 101, 3) := by decide +kernel
theorem dX5_readsRest_102 : decode cX5_readsRest 102 = .ok (.ireturn, 1) := by decide +kernel
theorem dX5_readsRest_103 : decode cX5_readsRest 103 = .ok (.aload_n 0, 1) := by decide +kernel
theorem dX5_readsRest_104 : decode cX5_readsRest 104 = .ok (.invokevirtual 112, 3) := by decide +kernel
theorem dX5_readsRest_107 : decode cX5_readsRest 107 = .ok (.ireturn, 1) := by decide +kernel
theorem dX5_readsRule_0 : decode cX5_readsRule 0 = .ok (.aload_n 0, 1) := by decide +kernel
theorem dX5_readsRule_1 : decode cX5_readsRule 1 = .ok (.getfield 32, 3) := by decide +kernel
theorem dX5_readsRule_4 : decode cX5_readsRule 4 = .ok (.iconst 0, 1) := by decide +kernel
theorem dX5_readsRule_5 : decode cX5_readsRule 5 = .ok (.aload_n 0, 1) := by decide +kernel
theorem dX5_readsRule_6 : decode cX5_readsRule 6 = .ok (.iconst 0, 1) := by decide +kernel
theorem dX5_readsRule_7 : decode cX5_readsRule 7 = .ok (.iconst 3, 1) := by decide +kernel
theorem dX5_readsRule_8 : decode cX5_readsRule 8 = .ok (.invokevirtual 97, 3) := by decide +kernel
theorem dX5_readsRule_11 : decode cX5_readsRule 11 = .ok (.iastore, 1) := by decide +kernel
theorem dX5_readsRule_12 : decode cX5_readsRule 12 = .ok (.aload_n 0, 1) := by decide +kernel
theorem dX5_readsRule_13 : decode cX5_readsRule 13 = .ok (.getfield 32, 3) := by decide +kernel
theorem dX5_readsRule_16 : decode cX5_readsRule 16 = .ok (.iconst 0, 1) := by decide +kernel
theorem dX5_readsRule_17 : decode cX5_readsRule 17 = .ok (.iaload, 1) := by decide +kernel
theorem dX5_readsRule_18 : decode cX5_readsRule 18 = .ok (.iconst (-1), 1) := by decide +kernel
theorem dX5_readsRule_19 : decode cX5_readsRule 19 = .ok (.if_icmp .eq 7, 3) := by decide +kernel
theorem dX5_readsRule_22 : decode cX5_readsRule 22 = .ok (.iconst 1, 1) := by decide +kernel
theorem dX5_readsRule_23 : decode cX5_readsRule 23 = .ok (.goto 4, 3) := by decide +kernel
theorem dX5_readsRule_26 : decode cX5_readsRule 26 = .ok (.iconst 0, 1) := by decide +kernel
theorem dX5_readsRule_27 : decode cX5_readsRule 27 = .ok (.istore_n 1, 1) := by decide +kernel
theorem dX5_readsRule_28 : decode cX5_readsRule 28 = .ok (.iload_n 1, 1) := by decide +kernel
theorem dX5_readsRule_29 : decode cX5_readsRule 29 = .ok (.ifCond .eq 7, 3) := by decide +kernel
theorem dX5_readsRule_32 : decode cX5_readsRule 32 = .ok (.aload_n 0, 1) := by decide +kernel
theorem dX5_readsRule_33 : decode cX5_readsRule 33 = .ok (.invokevirtual 88, 3) := by decide +kernel
theorem dX5_readsRule_36 : decode cX5_readsRule 36 = .ok (.iload_n 1, 1) := by decide +kernel
theorem dX5_readsRule_37 : decode cX5_readsRule 37 = .ok (.ireturn, 1) := by decide +kernel
theorem dX5_readsVersed_0 : decode cX5_readsVersed 0 = .ok (.aload_n 0, 1) := by decide +kernel
theorem dX5_readsVersed_1 : decode cX5_readsVersed 1 = .ok (.getfield 32, 3) := by decide +kernel
theorem dX5_readsVersed_4 : decode cX5_readsVersed 4 = .ok (.iconst 1, 1) := by decide +kernel
theorem dX5_readsVersed_5 : decode cX5_readsVersed 5 = .ok (.iconst 0, 1) := by decide +kernel
theorem dX5_readsVersed_6 : decode cX5_readsVersed 6 = .ok (.iastore, 1) := by decide +kernel
theorem dX5_readsVersed_7 : decode cX5_readsVersed 7 = .ok (.aload_n 0, 1) := by decide +kernel
theorem dX5_readsVersed_8 : decode cX5_readsVersed 8 = .ok (.getfield 75, 3) := by decide +kernel
theorem dX5_readsVersed_11 : decode cX5_readsVersed 11 = .ok (.aload_n 0, 1) := by decide +kernel
theorem dX5_readsVersed_12 : decode cX5_readsVersed 12 = .ok (.getfield 61, 3) := by decide +kernel
theorem dX5_readsVersed_15 : decode cX5_readsVersed 15 = .ok (.if_icmp .eq 17, 3) := by decide +kernel
theorem dX5_readsVersed_18 : decode cX5_readsVersed 18 = .ok (.aload_n 0, 1) := by decide +kernel
theorem dX5_readsVersed_19 : decode cX5_readsVersed 19 = .ok (.getfield 23, 3) := by decide +kernel
theorem dX5_readsVersed_22 : decode cX5_readsVersed 22 = .ok (.aload_n 0, 1) := by decide +kernel
theorem dX5_readsVersed_23 : decode cX5_readsVersed 23 = .ok (.getfield 75, 3) := by decide +kernel
theorem dX5_readsVersed_26 : decode cX5_readsVersed 26 = .ok (.iaload, 1) := by decide +kernel
theorem dX5_readsVersed_27 : decode cX5_readsVersed 27 = .ok (.bipush 59, 2) := by decide +kernel
theorem dX5_readsVersed_29 : decode cX5_readsVersed 29 = .ok (.if_icmp .ne 5, 3) := by decide +kernel
theorem dX5_readsVersed_32 : decode cX5_readsVersed 32 = .ok (.iconst 1, 1) := by decide +kernel
theorem dX5_readsVersed_33 : decode cX5_readsVersed 33 = .ok (.ireturn, 1) := by decide +kernel
theorem dX5_readsVersed_34 : decode cX5_readsVersed 34 = .ok (.aload_n 0, 1) := by decide +kernel
theorem dX5_readsVersed_35 : decode cX5_readsVersed 35 = .ok (.getfield 23, 3) := by decide +kernel
theorem dX5_readsVersed_38 : decode cX5_readsVersed 38 = .ok (.aload_n 0, 1) := by decide +kernel
theorem dX5_readsVersed_39 : decode cX5_readsVersed 39 = .ok (.getfield 75, 3) := by decide +kernel
theorem dX5_readsVersed_42 : decode cX5_readsVersed 42 = .ok (.iaload, 1) := by decide +kernel
theorem dX5_readsVersed_43 : decode cX5_readsVersed 43 = .ok (.invokestatic 78, 3) := by decide +kernel
theorem dX5_readsVersed_46 : decode cX5_readsVersed 46 = .ok (.istore_n 1, 1) := by decide +kernel
theorem dX5_readsVersed_47 : decode cX5_readsVersed 47 = .ok (.aload_n 0, 1) := by decide +kernel
theorem dX5_readsVersed_48 : decode cX5_readsVersed 48 = .ok (.getfield 75, 3) := by decide +kernel
theorem dX5_readsVersed_51 : decode cX5_readsVersed 51 = .ok (.istore_n 2, 1) := by decide +kernel
theorem dX5_readsVersed_52 : decode cX5_readsVersed 52 = .ok (.iload_n 2, 1) := by decide +kernel
theorem dX5_readsVersed_53 : decode cX5_readsVersed 53 = .ok (.aload_n 0, 1) := by decide +kernel
theorem dX5_readsVersed_54 : decode cX5_readsVersed 54 = .ok (.getfield 72, 3) := by decide +kernel
theorem dX5_readsVersed_57 : decode cX5_readsVersed 57 = .ok (.if_icmp .ge 74, 3) := by decide +kernel
theorem dX5_readsVersed_60 : decode cX5_readsVersed 60 = .ok (.iload_n 1, 1) := by decide +kernel
theorem dX5_readsVersed_61 : decode cX5_readsVersed 61 = .ok (.ifCond .eq 70, 3) := by decide +kernel
theorem dX5_readsVersed_64 : decode cX5_readsVersed 64 = .ok (.aload_n 0, 1) := by decide +kernel
theorem dX5_readsVersed_65 : decode cX5_readsVersed 65 = .ok (.getfield 23, 3) := by decide +kernel
theorem dX5_readsVersed_68 : decode cX5_readsVersed 68 = .ok (.iload_n 2, 1) := by decide +kernel
theorem dX5_readsVersed_69 : decode cX5_readsVersed 69 = .ok (.iaload, 1) := by decide +kernel
theorem dX5_readsVersed_70 : decode cX5_readsVersed 70 = .ok (.bipush 97, 2) := by decide +kernel
theorem dX5_readsVersed_72 : decode cX5_readsVersed 72 = .ok (.isub, 1) := by decide +kernel
theorem dX5_readsVersed_73 : decode cX5_readsVersed 73 = .ok (.istore_n 3, 1) := by decide +kernel
theorem dX5_readsVersed_74 : decode cX5_readsVersed 74 = .ok (.iload_n 3, 1) := by decide +kernel
theorem dX5_readsVersed_75 : decode cX5_readsVersed 75 = .ok (.i2l, 1) := by decide +kernel
theorem dX5_readsVersed_76 : decode cX5_readsVersed 76 = .ok (.lconst 0, 1) := by decide +kernel
theorem dX5_readsVersed_77 : decode cX5_readsVersed 77 = .ok (.ldc2_w 91, 3) := by decide +kernel
theorem dX5_readsVersed_80 : decode cX5_readsVersed 80 = .ok (.invokestatic 57, 3) := by decide +kernel
theorem dX5_readsVersed_83 : decode cX5_readsVersed 83 = .ok (.ifCond .eq 20, 3) := by decide +kernel
theorem dX5_readsVersed_86 : decode cX5_readsVersed 86 = .ok (.aload_n 0, 1) := by decide +kernel
theorem dX5_readsVersed_87 : decode cX5_readsVersed 87 = .ok (.getfield 32, 3) := by decide +kernel
theorem dX5_readsVersed_90 : decode cX5_readsVersed 90 = .ok (.iconst 1, 1) := by decide +kernel
theorem dX5_readsVersed_91 : decode cX5_readsVersed 91 = .ok (.iaload, 1) := by decide +kernel
theorem dX5_readsVersed_92 : decode cX5_readsVersed 92 = .ok (.iload_n 3, 1) := by decide +kernel
theorem dX5_readsVersed_93 : decode cX5_readsVersed 93 = .ok (.invokestatic 93, 3) := by decide +kernel
theorem dX5_readsVersed_96 : decode cX5_readsVersed 96 = .ok (.ifCond .ne 7, 3) := by decide +kernel
theorem dX5_readsVersed_99 : decode cX5_readsVersed 99 = .ok (.iconst 1, 1) := by decide +kernel
theorem dX5_readsVersed_100 : decode cX5_readsVersed 100 = .ok (.goto 4, 3) := by decide +kernel
theorem dX5_readsVersed_103 : decode cX5_readsVersed 103 = .ok (.iconst 0, 1) := by decide +kernel
theorem dX5_readsVersed_104 : decode cX5_readsVersed 104 = .ok (.istore_n 1, 1) := by decide +kernel
theorem dX5_readsVersed_105 : decode cX5_readsVersed 105 = .ok (.aload_n 0, 1) := by decide +kernel
theorem dX5_readsVersed_106 : decode cX5_readsVersed 106 = .ok (.getfield 32, 3) := by decide +kernel
theorem dX5_readsVersed_109 : decode cX5_readsVersed 109 = .ok (.iconst 1, 1) := by decide +kernel
theorem dX5_readsVersed_110 : decode cX5_readsVersed 110 = .ok (.dup2, 1) := by decide +kernel
theorem dX5_readsVersed_111 : decode cX5_readsVersed 111 = .ok (.iaload, 1) := by decide +kernel
theorem dX5_readsVersed_112 : decode cX5_readsVersed 112 = .ok (.iload_n 1, 1) := by decide +kernel
theorem dX5_readsVersed_113 : decode cX5_readsVersed 113 = .ok (.ifCond .eq 9, 3) := by decide +kernel
theorem dX5_readsVersed_116 : decode cX5_readsVersed 116 = .ok (.iconst 1, 1) := by decide +kernel
theorem dX5_readsVersed_117 : decode cX5_readsVersed 117 = .ok (.iload_n 3, 1) := by decide +kernel
theorem dX5_readsVersed_118 : decode cX5_readsVersed 118 = .ok (.ishl, 1) := by decide +kernel
theorem dX5_readsVersed_119 : decode cX5_readsVersed 119 = .ok (.goto 4, 3) := by decide +kernel
theorem dX5_readsVersed_122 : decode cX5_readsVersed 122 = .ok (.iconst 0, 1) := by decide +kernel
theorem dX5_readsVersed_123 : decode cX5_readsVersed 123 = .ok (.ior, 1) := by decide +kernel
theorem dX5_readsVersed_124 : decode cX5_readsVersed 124 = .ok (.iastore, 1) := by decide +kernel
theorem dX5_readsVersed_125 : decode cX5_readsVersed 125 = .ok (.iinc 2 1, 3) := by decide +kernel
theorem dX5_readsVersed_128 : decode cX5_readsVersed 128 = .ok (.goto (-76), 3) := by decide +kernel
theorem dX5_readsVersed_131 : decode cX5_readsVersed 131 = .ok (.iload_n 1, 1) := by decide +kernel
theorem dX5_readsVersed_132 : decode cX5_readsVersed 132 = .ok (.ifCond .eq 7, 3) := by decide +kernel
theorem dX5_readsVersed_135 : decode cX5_readsVersed 135 = .ok (.aload_n 0, 1) := by decide +kernel
theorem dX5_readsVersed_136 : decode cX5_readsVersed 136 = .ok (.invokevirtual 88, 3) := by decide +kernel
theorem dX5_readsVersed_139 : decode cX5_readsVersed 139 = .ok (.iload_n 1, 1) := by decide +kernel
theorem dX5_readsVersed_140 : decode cX5_readsVersed 140 = .ok (.ireturn, 1) := by decide +kernel
theorem dX5_refuse_0 : decode cX5_refuse 0 = .ok (.aload_n 0, 1) := by decide +kernel
theorem dX5_refuse_1 : decode cX5_refuse 1 = .ok (.iload_n 1, 1) := by decide +kernel
theorem dX5_refuse_2 : decode cX5_refuse 2 = .ok (.invokevirtual 142, 3) := by decide +kernel
theorem dX5_refuse_5 : decode cX5_refuse 5 = .ok (.ifCond .ne 6, 3) := by decide +kernel
theorem dX5_refuse_8 : decode cX5_refuse 8 = .ok (.bipush (-2), 2) := by decide +kernel
theorem dX5_refuse_10 : decode cX5_refuse 10 = .ok (.ireturn, 1) := by decide +kernel
theorem dX5_refuse_11 : decode cX5_refuse 11 = .ok (.aload_n 0, 1) := by decide +kernel
theorem dX5_refuse_12 : decode cX5_refuse 12 = .ok (.getfield 7, 3) := by decide +kernel
theorem dX5_refuse_15 : decode cX5_refuse 15 = .ok (.bipush 57, 2) := by decide +kernel
theorem dX5_refuse_17 : decode cX5_refuse 17 = .ok (.iload_n 1, 1) := by decide +kernel
theorem dX5_refuse_18 : decode cX5_refuse 18 = .ok (.iadd, 1) := by decide +kernel
theorem dX5_refuse_19 : decode cX5_refuse 19 = .ok (.iaload, 1) := by decide +kernel
theorem dX5_refuse_20 : decode cX5_refuse 20 = .ok (.istore_n 2, 1) := by decide +kernel
theorem dX5_refuse_21 : decode cX5_refuse 21 = .ok (.aload_n 0, 1) := by decide +kernel
theorem dX5_refuse_22 : decode cX5_refuse 22 = .ok (.getfield 7, 3) := by decide +kernel
theorem dX5_refuse_25 : decode cX5_refuse 25 = .ok (.bipush 37, 2) := by decide +kernel
theorem dX5_refuse_27 : decode cX5_refuse 27 = .ok (.iload_n 1, 1) := by decide +kernel
theorem dX5_refuse_28 : decode cX5_refuse 28 = .ok (.iadd, 1) := by decide +kernel
theorem dX5_refuse_29 : decode cX5_refuse 29 = .ok (.iaload, 1) := by decide +kernel
theorem dX5_refuse_30 : decode cX5_refuse 30 = .ok (.istore_n 3, 1) := by decide +kernel
theorem dX5_refuse_31 : decode cX5_refuse 31 = .ok (.aload_n 0, 1) := by decide +kernel
theorem dX5_refuse_32 : decode cX5_refuse 32 = .ok (.iconst 0, 1) := by decide +kernel
theorem dX5_refuse_33 : decode cX5_refuse 33 = .ok (.iload_n 3, 1) := by decide +kernel
theorem dX5_refuse_34 : decode cX5_refuse 34 = .ok (.iload_n 2, 1) := by decide +kernel
theorem dX5_refuse_35 : decode cX5_refuse 35 = .ok (.invokevirtual 179, 3) := by decide +kernel
theorem dX5_refuse_38 : decode cX5_refuse 38 = .ok (.ifCond .ne 6, 3) := by decide +kernel
theorem dX5_refuse_41 : decode cX5_refuse 41 = .ok (.bipush (-4), 2) := by decide +kernel
theorem dX5_refuse_43 : decode cX5_refuse 43 = .ok (.ireturn, 1) := by decide +kernel
theorem dX5_refuse_44 : decode cX5_refuse 44 = .ok (.aload_n 0, 1) := by decide +kernel
theorem dX5_refuse_45 : decode cX5_refuse 45 = .ok (.invokevirtual 182, 3) := by decide +kernel
theorem dX5_refuse_48 : decode cX5_refuse 48 = .ok (.aload_n 0, 1) := by decide +kernel
theorem dX5_refuse_49 : decode cX5_refuse 49 = .ok (.getfield 7, 3) := by decide +kernel
theorem dX5_refuse_52 : decode cX5_refuse 52 = .ok (.iconst 5, 1) := by decide +kernel
theorem dX5_refuse_53 : decode cX5_refuse 53 = .ok (.iload_n 2, 1) := by decide +kernel
theorem dX5_refuse_54 : decode cX5_refuse 54 = .ok (.iadd, 1) := by decide +kernel
theorem dX5_refuse_55 : decode cX5_refuse 55 = .ok (.dup2, 1) := by decide +kernel
theorem dX5_refuse_56 : decode cX5_refuse 56 = .ok (.iaload, 1) := by decide +kernel
theorem dX5_refuse_57 : decode cX5_refuse 57 = .ok (.iconst 1, 1) := by decide +kernel
theorem dX5_refuse_58 : decode cX5_refuse 58 = .ok (.iload_n 3, 1) := by decide +kernel
theorem dX5_refuse_59 : decode cX5_refuse 59 = .ok (.ishl, 1) := by decide +kernel
theorem dX5_refuse_60 : decode cX5_refuse 60 = .ok (.ior, 1) := by decide +kernel
theorem dX5_refuse_61 : decode cX5_refuse 61 = .ok (.iastore, 1) := by decide +kernel
theorem dX5_refuse_62 : decode cX5_refuse 62 = .ok (.aload_n 0, 1) := by decide +kernel
theorem dX5_refuse_63 : decode cX5_refuse 63 = .ok (.getfield 7, 3) := by decide +kernel
theorem dX5_refuse_66 : decode cX5_refuse 66 = .ok (.bipush 57, 2) := by decide +kernel
theorem dX5_refuse_68 : decode cX5_refuse 68 = .ok (.iload_n 1, 1) := by decide +kernel
theorem dX5_refuse_69 : decode cX5_refuse 69 = .ok (.iadd, 1) := by decide +kernel
theorem dX5_refuse_70 : decode cX5_refuse 70 = .ok (.aload_n 0, 1) := by decide +kernel
theorem dX5_refuse_71 : decode cX5_refuse 71 = .ok (.iconst 0, 1) := by decide +kernel
theorem dX5_refuse_72 : decode cX5_refuse 72 = .ok (.aload_n 0, 1) := by decide +kernel
theorem dX5_refuse_73 : decode cX5_refuse 73 = .ok (.getfield 7, 3) := by decide +kernel
theorem dX5_refuse_76 : decode cX5_refuse 76 = .ok (.bipush 17, 2) := by decide +kernel
theorem dX5_refuse_78 : decode cX5_refuse 78 = .ok (.iload_n 1, 1) := by decide +kernel
theorem dX5_refuse_79 : decode cX5_refuse 79 = .ok (.iadd, 1) := by decide +kernel
theorem dX5_refuse_80 : decode cX5_refuse 80 = .ok (.iaload, 1) := by decide +kernel
theorem dX5_refuse_81 : decode cX5_refuse 81 = .ok (.iload_n 3, 1) := by decide +kernel
theorem dX5_refuse_82 : decode cX5_refuse 82 = .ok (.invokevirtual 185, 3) := by decide +kernel
theorem dX5_refuse_85 : decode cX5_refuse 85 = .ok (.iastore, 1) := by decide +kernel
theorem dX5_refuse_86 : decode cX5_refuse 86 = .ok (.aload_n 0, 1) := by decide +kernel
theorem dX5_refuse_87 : decode cX5_refuse 87 = .ok (.getfield 7, 3) := by decide +kernel
theorem dX5_refuse_90 : decode cX5_refuse 90 = .ok (.bipush 57, 2) := by decide +kernel
theorem dX5_refuse_92 : decode cX5_refuse 92 = .ok (.iload_n 1, 1) := by decide +kernel
theorem dX5_refuse_93 : decode cX5_refuse 93 = .ok (.iadd, 1) := by decide +kernel
theorem dX5_refuse_94 : decode cX5_refuse 94 = .ok (.iaload, 1) := by decide +kernel
theorem dX5_refuse_95 : decode cX5_refuse 95 = .ok (.ireturn, 1) := by decide +kernel
theorem dX5_sameBy_0 : decode cX5_sameBy 0 = .ok (.aload_n 0, 1) := by decide +kernel
theorem dX5_sameBy_1 : decode cX5_sameBy 1 = .ok (.iconst 0, 1) := by decide +kernel
theorem dX5_sameBy_2 : decode cX5_sameBy 2 = .ok (.sipush 924, 3) := by decide +kernel
theorem dX5_sameBy_5 : decode cX5_sameBy 5 = .ok (.invokevirtual 44, 3) := by decide +kernel
theorem dX5_sameBy_8 : decode cX5_sameBy 8 = .ok (.aload_n 0, 1) := by decide +kernel
theorem dX5_sameBy_9 : decode cX5_sameBy 9 = .ok (.sipush 924, 3) := by decide +kernel
theorem dX5_sameBy_12 : decode cX5_sameBy 12 = .ok (.iload_n 1, 1) := by decide +kernel
theorem dX5_sameBy_13 : decode cX5_sameBy 13 = .ok (.invokevirtual 168, 3) := by decide +kernel
theorem dX5_sameBy_16 : decode cX5_sameBy 16 = .ok (.iconst 0, 1) := by decide +kernel
theorem dX5_sameBy_17 : decode cX5_sameBy 17 = .ok (.istore_n 2, 1) := by decide +kernel
theorem dX5_sameBy_18 : decode cX5_sameBy 18 = .ok (.iconst 0, 1) := by decide +kernel
theorem dX5_sameBy_19 : decode cX5_sameBy 19 = .ok (.istore_n 3, 1) := by decide +kernel
theorem dX5_sameBy_20 : decode cX5_sameBy 20 = .ok (.iload_n 3, 1) := by decide +kernel
theorem dX5_sameBy_21 : decode cX5_sameBy 21 = .ok (.aload_n 0, 1) := by decide +kernel
theorem dX5_sameBy_22 : decode cX5_sameBy 22 = .ok (.getfield 7, 3) := by decide +kernel
theorem dX5_sameBy_25 : decode cX5_sameBy 25 = .ok (.iconst 3, 1) := by decide +kernel
theorem dX5_sameBy_26 : decode cX5_sameBy 26 = .ok (.iaload, 1) := by decide +kernel
theorem dX5_sameBy_27 : decode cX5_sameBy 27 = .ok (.if_icmp .ge 54, 3) := by decide +kernel
theorem dX5_sameBy_30 : decode cX5_sameBy 30 = .ok (.iload_n 2, 1) := by decide +kernel
theorem dX5_sameBy_31 : decode cX5_sameBy 31 = .ok (.aload_n 0, 1) := by decide +kernel
theorem dX5_sameBy_32 : decode cX5_sameBy 32 = .ok (.sipush 924, 3) := by decide +kernel
theorem dX5_sameBy_35 : decode cX5_sameBy 35 = .ok (.aload_n 0, 1) := by decide +kernel
theorem dX5_sameBy_36 : decode cX5_sameBy 36 = .ok (.getfield 7, 3) := by decide +kernel
theorem dX5_sameBy_39 : decode cX5_sameBy 39 = .ok (.bipush 17, 2) := by decide +kernel
theorem dX5_sameBy_41 : decode cX5_sameBy 41 = .ok (.iload_n 3, 1) := by decide +kernel
theorem dX5_sameBy_42 : decode cX5_sameBy 42 = .ok (.iadd, 1) := by decide +kernel
theorem dX5_sameBy_43 : decode cX5_sameBy 43 = .ok (.iaload, 1) := by decide +kernel
theorem dX5_sameBy_44 : decode cX5_sameBy 44 = .ok (.aload_n 0, 1) := by decide +kernel
theorem dX5_sameBy_45 : decode cX5_sameBy 45 = .ok (.getfield 7, 3) := by decide +kernel
theorem dX5_sameBy_48 : decode cX5_sameBy 48 = .ok (.bipush 37, 2) := by decide +kernel
theorem dX5_sameBy_50 : decode cX5_sameBy 50 = .ok (.iload_n 3, 1) := by decide +kernel
theorem dX5_sameBy_51 : decode cX5_sameBy 51 = .ok (.iadd, 1) := by decide +kernel
theorem dX5_sameBy_52 : decode cX5_sameBy 52 = .ok (.iaload, 1) := by decide +kernel
theorem dX5_sameBy_53 : decode cX5_sameBy 53 = .ok (.invokevirtual 185, 3) := by decide +kernel
theorem dX5_sameBy_56 : decode cX5_sameBy 56 = .ok (.aload_n 0, 1) := by decide +kernel
theorem dX5_sameBy_57 : decode cX5_sameBy 57 = .ok (.getfield 7, 3) := by decide +kernel
theorem dX5_sameBy_60 : decode cX5_sameBy 60 = .ok (.bipush 57, 2) := by decide +kernel
theorem dX5_sameBy_62 : decode cX5_sameBy 62 = .ok (.iload_n 3, 1) := by decide +kernel
theorem dX5_sameBy_63 : decode cX5_sameBy 63 = .ok (.iadd, 1) := by decide +kernel
theorem dX5_sameBy_64 : decode cX5_sameBy 64 = .ok (.iaload, 1) := by decide +kernel
theorem dX5_sameBy_65 : decode cX5_sameBy 65 = .ok (.if_icmp .ne 7, 3) := by decide +kernel
theorem dX5_sameBy_68 : decode cX5_sameBy 68 = .ok (.iconst 1, 1) := by decide +kernel
theorem dX5_sameBy_69 : decode cX5_sameBy 69 = .ok (.goto 4, 3) := by decide +kernel
theorem dX5_sameBy_72 : decode cX5_sameBy 72 = .ok (.iconst 0, 1) := by decide +kernel
theorem dX5_sameBy_73 : decode cX5_sameBy 73 = .ok (.iadd, 1) := by decide +kernel
theorem dX5_sameBy_74 : decode cX5_sameBy 74 = .ok (.istore_n 2, 1) := by decide +kernel
theorem dX5_sameBy_75 : decode cX5_sameBy 75 = .ok (.iinc 3 1, 3) := by decide +kernel
theorem dX5_sameBy_78 : decode cX5_sameBy 78 = .ok (.goto (-58), 3) := by decide +kernel
theorem dX5_sameBy_81 : decode cX5_sameBy 81 = .ok (.iload_n 2, 1) := by decide +kernel
theorem dX5_sameBy_82 : decode cX5_sameBy 82 = .ok (.ireturn, 1) := by decide +kernel
theorem dX5_seal_0 : decode cX5_seal 0 = .ok (.iload_n 1, 1) := by decide +kernel
theorem dX5_seal_1 : decode cX5_seal 1 = .ok (.iconst 1, 1) := by decide +kernel
theorem dX5_seal_2 : decode cX5_seal 2 = .ok (.if_icmp .ge 6, 3) := by decide +kernel
theorem dX5_seal_5 : decode cX5_seal 5 = .ok (.bipush (-3), 2) := by decide +kernel
theorem dX5_seal_7 : decode cX5_seal 7 = .ok (.ireturn, 1) := by decide +kernel
theorem dX5_seal_8 : decode cX5_seal 8 = .ok (.aload_n 0, 1) := by decide +kernel
theorem dX5_seal_9 : decode cX5_seal 9 = .ok (.getfield 7, 3) := by decide +kernel
theorem dX5_seal_12 : decode cX5_seal 12 = .ok (.iconst 3, 1) := by decide +kernel
theorem dX5_seal_13 : decode cX5_seal 13 = .ok (.iaload, 1) := by decide +kernel
theorem dX5_seal_14 : decode cX5_seal 14 = .ok (.istore_n 2, 1) := by decide +kernel
theorem dX5_seal_15 : decode cX5_seal 15 = .ok (.aload_n 0, 1) := by decide +kernel
theorem dX5_seal_16 : decode cX5_seal 16 = .ok (.iconst 0, 1) := by decide +kernel
theorem dX5_seal_17 : decode cX5_seal 17 = .ok (.iload_n 1, 1) := by decide +kernel
theorem dX5_seal_18 : decode cX5_seal 18 = .ok (.invokevirtual 168, 3) := by decide +kernel
theorem dX5_seal_21 : decode cX5_seal 21 = .ok (.aload_n 0, 1) := by decide +kernel
theorem dX5_seal_22 : decode cX5_seal 22 = .ok (.iconst 0, 1) := by decide +kernel
theorem dX5_seal_23 : decode cX5_seal 23 = .ok (.putfield 136, 3) := by decide +kernel
theorem dX5_seal_26 : decode cX5_seal 26 = .ok (.iload_n 2, 1) := by decide +kernel
theorem dX5_seal_27 : decode cX5_seal 27 = .ok (.ireturn, 1) := by decide +kernel
theorem dX5_sealAt_0 : decode cX5_sealAt 0 = .ok (.aload_n 0, 1) := by decide +kernel
theorem dX5_sealAt_1 : decode cX5_sealAt 1 = .ok (.getfield 7, 3) := by decide +kernel
theorem dX5_sealAt_4 : decode cX5_sealAt 4 = .ok (.iload_n 1, 1) := by decide +kernel
theorem dX5_sealAt_5 : decode cX5_sealAt 5 = .ok (.iconst 0, 1) := by decide +kernel
theorem dX5_sealAt_6 : decode cX5_sealAt 6 = .ok (.iadd, 1) := by decide +kernel
theorem dX5_sealAt_7 : decode cX5_sealAt 7 = .ok (.iload_n 2, 1) := by decide +kernel
theorem dX5_sealAt_8 : decode cX5_sealAt 8 = .ok (.iastore, 1) := by decide +kernel
theorem dX5_sealAt_9 : decode cX5_sealAt 9 = .ok (.aload_n 0, 1) := by decide +kernel
theorem dX5_sealAt_10 : decode cX5_sealAt 10 = .ok (.getfield 7, 3) := by decide +kernel
theorem dX5_sealAt_13 : decode cX5_sealAt 13 = .ok (.iload_n 1, 1) := by decide +kernel
theorem dX5_sealAt_14 : decode cX5_sealAt 14 = .ok (.iconst 1, 1) := by decide +kernel
theorem dX5_sealAt_15 : decode cX5_sealAt 15 = .ok (.iadd, 1) := by decide +kernel
theorem dX5_sealAt_16 : decode cX5_sealAt 16 = .ok (.iload_n 2, 1) := by decide +kernel
theorem dX5_sealAt_17 : decode cX5_sealAt 17 = .ok (.iastore, 1) := by decide +kernel
theorem dX5_sealAt_18 : decode cX5_sealAt 18 = .ok (.aload_n 0, 1) := by decide +kernel
theorem dX5_sealAt_19 : decode cX5_sealAt 19 = .ok (.getfield 7, 3) := by decide +kernel
theorem dX5_sealAt_22 : decode cX5_sealAt 22 = .ok (.iload_n 1, 1) := by decide +kernel
theorem dX5_sealAt_23 : decode cX5_sealAt 23 = .ok (.iconst 2, 1) := by decide +kernel
theorem dX5_sealAt_24 : decode cX5_sealAt 24 = .ok (.iadd, 1) := by decide +kernel
theorem dX5_sealAt_25 : decode cX5_sealAt 25 = .ok (.iconst 0, 1) := by decide +kernel
theorem dX5_sealAt_26 : decode cX5_sealAt 26 = .ok (.iastore, 1) := by decide +kernel
theorem dX5_sealAt_27 : decode cX5_sealAt 27 = .ok (.aload_n 0, 1) := by decide +kernel
theorem dX5_sealAt_28 : decode cX5_sealAt 28 = .ok (.getfield 7, 3) := by decide +kernel
theorem dX5_sealAt_31 : decode cX5_sealAt 31 = .ok (.iload_n 1, 1) := by decide +kernel
theorem dX5_sealAt_32 : decode cX5_sealAt 32 = .ok (.iconst 3, 1) := by decide +kernel
theorem dX5_sealAt_33 : decode cX5_sealAt 33 = .ok (.iadd, 1) := by decide +kernel
theorem dX5_sealAt_34 : decode cX5_sealAt 34 = .ok (.iconst 0, 1) := by decide +kernel
theorem dX5_sealAt_35 : decode cX5_sealAt 35 = .ok (.iastore, 1) := by decide +kernel
theorem dX5_sealAt_36 : decode cX5_sealAt 36 = .ok (.iconst 0, 1) := by decide +kernel
theorem dX5_sealAt_37 : decode cX5_sealAt 37 = .ok (.istore_n 3, 1) := by decide +kernel
theorem dX5_sealAt_38 : decode cX5_sealAt 38 = .ok (.iload_n 3, 1) := by decide +kernel
theorem dX5_sealAt_39 : decode cX5_sealAt 39 = .ok (.bipush 6, 2) := by decide +kernel
theorem dX5_sealAt_41 : decode cX5_sealAt 41 = .ok (.if_icmp .ge 21, 3) := by decide +kernel
theorem dX5_sealAt_44 : decode cX5_sealAt 44 = .ok (.aload_n 0, 1) := by decide +kernel
theorem dX5_sealAt_45 : decode cX5_sealAt 45 = .ok (.getfield 7, 3) := by decide +kernel
theorem dX5_sealAt_48 : decode cX5_sealAt 48 = .ok (.iload_n 1, 1) := by decide +kernel
theorem dX5_sealAt_49 : decode cX5_sealAt 49 = .ok (.bipush 11, 2) := by decide +kernel
theorem dX5_sealAt_51 : decode cX5_sealAt 51 = .ok (.iadd, 1) := by decide +kernel
theorem dX5_sealAt_52 : decode cX5_sealAt 52 = .ok (.iload_n 3, 1) := by decide +kernel
theorem dX5_sealAt_53 : decode cX5_sealAt 53 = .ok (.iadd, 1) := by decide +kernel
theorem dX5_sealAt_54 : decode cX5_sealAt 54 = .ok (.iconst 0, 1) := by decide +kernel
theorem dX5_sealAt_55 : decode cX5_sealAt 55 = .ok (.iastore, 1) := by decide +kernel
theorem dX5_sealAt_56 : decode cX5_sealAt 56 = .ok (.iinc 3 1, 3) := by decide +kernel
theorem dX5_sealAt_59 : decode cX5_sealAt 59 = .ok (.goto (-21), 3) := by decide +kernel
theorem dX5_sealAt_62 : decode cX5_sealAt 62 = .ok (.return_, 1) := by decide +kernel
theorem dX5_sealOf_0 : decode cX5_sealOf 0 = .ok (.iload_n 1, 1) := by decide +kernel
theorem dX5_sealOf_1 : decode cX5_sealOf 1 = .ok (.iconst 1, 1) := by decide +kernel
theorem dX5_sealOf_2 : decode cX5_sealOf 2 = .ok (.if_icmp .lt 15, 3) := by decide +kernel
theorem dX5_sealOf_5 : decode cX5_sealOf 5 = .ok (.iload_n 2, 1) := by decide +kernel
theorem dX5_sealOf_6 : decode cX5_sealOf 6 = .ok (.i2l, 1) := by decide +kernel
theorem dX5_sealOf_7 : decode cX5_sealOf 7 = .ok (.lconst 0, 1) := by decide +kernel
theorem dX5_sealOf_8 : decode cX5_sealOf 8 = .ok (.ldc2_w 197, 3) := by decide +kernel
theorem dX5_sealOf_11 : decode cX5_sealOf 11 = .ok (.invokestatic 57, 3) := by decide +kernel
theorem dX5_sealOf_14 : decode cX5_sealOf 14 = .ok (.ifCond .ne 6, 3) := by decide +kernel
theorem dX5_sealOf_17 : decode cX5_sealOf 17 = .ok (.bipush (-3), 2) := by decide +kernel
theorem dX5_sealOf_19 : decode cX5_sealOf 19 = .ok (.ireturn, 1) := by decide +kernel
theorem dX5_sealOf_20 : decode cX5_sealOf 20 = .ok (.iload_n 1, 1) := by decide +kernel
theorem dX5_sealOf_21 : decode cX5_sealOf 21 = .ok (.ldc 199, 2) := by decide +kernel
theorem dX5_sealOf_23 : decode cX5_sealOf 23 = .ok (.ixor, 1) := by decide +kernel
theorem dX5_sealOf_24 : decode cX5_sealOf 24 = .ok (.istore_n 3, 1) := by decide +kernel
theorem dX5_sealOf_25 : decode cX5_sealOf 25 = .ok (.iconst 0, 1) := by decide +kernel
theorem dX5_sealOf_26 : decode cX5_sealOf 26 = .ok (.istore 4, 2) := by decide +kernel
theorem dX5_sealOf_28 : decode cX5_sealOf 28 = .ok (.iload 4, 2) := by decide +kernel
theorem dX5_sealOf_30 : decode cX5_sealOf 30 = .ok (.iconst 5, 1) := by decide +kernel
theorem dX5_sealOf_31 : decode cX5_sealOf 31 = .ok (.if_icmp .ge 14, 3) := by decide +kernel
theorem dX5_sealOf_34 : decode cX5_sealOf 34 = .ok (.iload_n 3, 1) := by decide +kernel
theorem dX5_sealOf_35 : decode cX5_sealOf 35 = .ok (.invokestatic 148, 3) := by decide +kernel
theorem dX5_sealOf_38 : decode cX5_sealOf 38 = .ok (.istore_n 3, 1) := by decide +kernel
theorem dX5_sealOf_39 : decode cX5_sealOf 39 = .ok (.iinc 4 1, 3) := by decide +kernel
theorem dX5_sealOf_42 : decode cX5_sealOf 42 = .ok (.goto (-14), 3) := by decide +kernel
theorem dX5_sealOf_45 : decode cX5_sealOf 45 = .ok (.bipush 97, 2) := by decide +kernel
theorem dX5_sealOf_47 : decode cX5_sealOf 47 = .ok (.iload_n 3, 1) := by decide +kernel
theorem dX5_sealOf_48 : decode cX5_sealOf 48 = .ok (.iconst 4, 1) := by decide +kernel
theorem dX5_sealOf_49 : decode cX5_sealOf 49 = .ok (.bipush 7, 2) := by decide +kernel
theorem dX5_sealOf_51 : decode cX5_sealOf 51 = .ok (.iload_n 2, 1) := by decide +kernel
theorem dX5_sealOf_52 : decode cX5_sealOf 52 = .ok (.isub, 1) := by decide +kernel
theorem dX5_sealOf_53 : decode cX5_sealOf 53 = .ok (.imul, 1) := by decide +kernel
theorem dX5_sealOf_54 : decode cX5_sealOf 54 = .ok (.iushr, 1) := by decide +kernel
theorem dX5_sealOf_55 : decode cX5_sealOf 55 = .ok (.bipush 15, 2) := by decide +kernel
theorem dX5_sealOf_57 : decode cX5_sealOf 57 = .ok (.iand, 1) := by decide +kernel
theorem dX5_sealOf_58 : decode cX5_sealOf 58 = .ok (.iadd, 1) := by decide +kernel
theorem dX5_sealOf_59 : decode cX5_sealOf 59 = .ok (.ireturn, 1) := by decide +kernel
theorem dX5_slip_0 : decode cX5_slip 0 = .ok (.iload_n 1, 1) := by decide +kernel
theorem dX5_slip_1 : decode cX5_slip 1 = .ok (.invokestatic 210, 3) := by decide +kernel
theorem dX5_slip_4 : decode cX5_slip 4 = .ok (.ifCond .ne 6, 3) := by decide +kernel
theorem dX5_slip_7 : decode cX5_slip 7 = .ok (.bipush (-2), 2) := by decide +kernel
theorem dX5_slip_9 : decode cX5_slip 9 = .ok (.ireturn, 1) := by decide +kernel
theorem dX5_slip_10 : decode cX5_slip 10 = .ok (.aload_n 0, 1) := by decide +kernel
theorem dX5_slip_11 : decode cX5_slip 11 = .ok (.getfield 26, 3) := by decide +kernel
theorem dX5_slip_14 : decode cX5_slip 14 = .ok (.iload_n 1, 1) := by decide +kernel
theorem dX5_slip_15 : decode cX5_slip 15 = .ok (.iconst 0, 1) := by decide +kernel
theorem dX5_slip_16 : decode cX5_slip 16 = .ok (.iastore, 1) := by decide +kernel
theorem dX5_slip_17 : decode cX5_slip 17 = .ok (.iconst 0, 1) := by decide +kernel
theorem dX5_slip_18 : decode cX5_slip 18 = .ok (.ireturn, 1) := by decide +kernel
theorem dX5_standsAt_0 : decode cX5_standsAt 0 = .ok (.iconst 1, 1) := by decide +kernel
theorem dX5_standsAt_1 : decode cX5_standsAt 1 = .ok (.istore 4, 2) := by decide +kernel
theorem dX5_standsAt_3 : decode cX5_standsAt 3 = .ok (.iconst 0, 1) := by decide +kernel
theorem dX5_standsAt_4 : decode cX5_standsAt 4 = .ok (.istore 5, 2) := by decide +kernel
theorem dX5_standsAt_6 : decode cX5_standsAt 6 = .ok (.iload 5, 2) := by decide +kernel
theorem dX5_standsAt_8 : decode cX5_standsAt 8 = .ok (.aload_n 0, 1) := by decide +kernel
theorem dX5_standsAt_9 : decode cX5_standsAt 9 = .ok (.getfield 26, 3) := by decide +kernel
theorem dX5_standsAt_12 : decode cX5_standsAt 12 = .ok (.iload_n 1, 1) := by decide +kernel
theorem dX5_standsAt_13 : decode cX5_standsAt 13 = .ok (.iaload, 1) := by decide +kernel
theorem dX5_standsAt_14 : decode cX5_standsAt 14 = .ok (.if_icmp .ge 68, 3) := by decide +kernel
theorem dX5_standsAt_17 : decode cX5_standsAt 17 = .ok (.iload 4, 2) := by decide +kernel
theorem dX5_standsAt_19 : decode cX5_standsAt 19 = .ok (.ifCond .eq 63, 3) := by decide +kernel
theorem dX5_standsAt_22 : decode cX5_standsAt 22 = .ok (.aload_n 0, 1) := by decide +kernel
theorem dX5_standsAt_23 : decode cX5_standsAt 23 = .ok (.getfield 29, 3) := by decide +kernel
theorem dX5_standsAt_26 : decode cX5_standsAt 26 = .ok (.bipush 40, 2) := by decide +kernel
theorem dX5_standsAt_28 : decode cX5_standsAt 28 = .ok (.iload_n 1, 1) := by decide +kernel
theorem dX5_standsAt_29 : decode cX5_standsAt 29 = .ok (.imul, 1) := by decide +kernel
theorem dX5_standsAt_30 : decode cX5_standsAt 30 = .ok (.iload 5, 2) := by decide +kernel
theorem dX5_standsAt_32 : decode cX5_standsAt 32 = .ok (.iadd, 1) := by decide +kernel
theorem dX5_standsAt_33 : decode cX5_standsAt 33 = .ok (.iaload, 1) := by decide +kernel
theorem dX5_standsAt_34 : decode cX5_standsAt 34 = .ok (.iload_n 2, 1) := by decide +kernel
theorem dX5_standsAt_35 : decode cX5_standsAt 35 = .ok (.ifCond .ne 15, 3) := by decide +kernel
theorem dX5_standsAt_38 : decode cX5_standsAt 38 = .ok (.aload_n 0, 1) := by decide +kernel
theorem dX5_standsAt_39 : decode cX5_standsAt 39 = .ok (.getfield 38, 3) := by decide +kernel
theorem dX5_standsAt_42 : decode cX5_standsAt 42 = .ok (.iload_n 3, 1) := by decide +kernel
theorem dX5_standsAt_43 : decode cX5_standsAt 43 = .ok (.iload 5, 2) := by decide +kernel
theorem dX5_standsAt_45 : decode cX5_standsAt 45 = .ok (.iadd, 1) := by decide +kernel
theorem dX5_standsAt_46 : decode cX5_standsAt 46 = .ok (.iaload, 1) := by decide +kernel
theorem dX5_standsAt_47 : decode cX5_standsAt 47 = .ok (.goto 19, 3) := by decide +kernel
theorem dX5_standsAt_50 : decode cX5_standsAt 50 = .ok (.aload_n 0, 1) := by decide +kernel
theorem dX5_standsAt_51 : decode cX5_standsAt 51 = .ok (.getfield 29, 3) := by decide +kernel
theorem dX5_standsAt_54 : decode cX5_standsAt 54 = .ok (.bipush 40, 2) := by decide +kernel
theorem dX5_standsAt_56 : decode cX5_standsAt 56 = .ok (.iload_n 2, 1) := by decide +kernel
theorem dX5_standsAt_57 : decode cX5_standsAt 57 = .ok (.iconst 1, 1) := by decide +kernel
theorem dX5_standsAt_58 : decode cX5_standsAt 58 = .ok (.isub, 1) := by decide +kernel
theorem dX5_standsAt_59 : decode cX5_standsAt 59 = .ok (.imul, 1) := by decide +kernel
theorem dX5_standsAt_60 : decode cX5_standsAt 60 = .ok (.iload_n 3, 1) := by decide +kernel
theorem dX5_standsAt_61 : decode cX5_standsAt 61 = .ok (.iadd, 1) := by decide +kernel
theorem dX5_standsAt_62 : decode cX5_standsAt 62 = .ok (.iload 5, 2) := by decide +kernel
theorem dX5_standsAt_64 : decode cX5_standsAt 64 = .ok (.iadd, 1) := by decide +kernel
theorem dX5_standsAt_65 : decode cX5_standsAt 65 = .ok (.iaload, 1) := by decide +kernel
theorem dX5_standsAt_66 : decode cX5_standsAt 66 = .ok (.if_icmp .ne 7, 3) := by decide +kernel
theorem dX5_standsAt_69 : decode cX5_standsAt 69 = .ok (.iconst 1, 1) := by decide +kernel
theorem dX5_standsAt_70 : decode cX5_standsAt 70 = .ok (.goto 4, 3) := by decide +kernel
theorem dX5_standsAt_73 : decode cX5_standsAt 73 = .ok (.iconst 0, 1) := by decide +kernel
theorem dX5_standsAt_74 : decode cX5_standsAt 74 = .ok (.istore 4, 2) := by decide +kernel
theorem dX5_standsAt_76 : decode cX5_standsAt 76 = .ok (.iinc 5 1, 3) := by decide +kernel
theorem dX5_standsAt_79 : decode cX5_standsAt 79 = .ok (.goto (-73), 3) := by decide +kernel
theorem dX5_standsAt_82 : decode cX5_standsAt 82 = .ok (.iload 4, 2) := by decide +kernel
theorem dX5_standsAt_84 : decode cX5_standsAt 84 = .ok (.ireturn, 1) := by decide +kernel
theorem dX5_told_0 : decode cX5_told 0 = .ok (.iload_n 1, 1) := by decide +kernel
theorem dX5_told_1 : decode cX5_told 1 = .ok (.tableswitch 117 0 9 #[55, 60, 67, 74, 79, 88, 95, 100, 105, 110], 55) := by decide +kernel
theorem dX5_told_56 : decode cX5_told 56 = .ok (.aload_n 0, 1) := by decide +kernel
theorem dX5_told_57 : decode cX5_told 57 = .ok (.getfield 48, 3) := by decide +kernel
theorem dX5_told_60 : decode cX5_told 60 = .ok (.ireturn, 1) := by decide +kernel
theorem dX5_told_61 : decode cX5_told 61 = .ok (.aload_n 0, 1) := by decide +kernel
theorem dX5_told_62 : decode cX5_told 62 = .ok (.getfield 7, 3) := by decide +kernel
theorem dX5_told_65 : decode cX5_told 65 = .ok (.iconst 3, 1) := by decide +kernel
theorem dX5_told_66 : decode cX5_told 66 = .ok (.iaload, 1) := by decide +kernel
theorem dX5_told_67 : decode cX5_told 67 = .ok (.ireturn, 1) := by decide +kernel
theorem dX5_told_68 : decode cX5_told 68 = .ok (.aload_n 0, 1) := by decide +kernel
theorem dX5_told_69 : decode cX5_told 69 = .ok (.getfield 7, 3) := by decide +kernel
theorem dX5_told_72 : decode cX5_told 72 = .ok (.iconst 2, 1) := by decide +kernel
theorem dX5_told_73 : decode cX5_told 73 = .ok (.iaload, 1) := by decide +kernel
theorem dX5_told_74 : decode cX5_told 74 = .ok (.ireturn, 1) := by decide +kernel
theorem dX5_told_75 : decode cX5_told 75 = .ok (.aload_n 0, 1) := by decide +kernel
theorem dX5_told_76 : decode cX5_told 76 = .ok (.getfield 52, 3) := by decide +kernel
theorem dX5_told_79 : decode cX5_told 79 = .ok (.ireturn, 1) := by decide +kernel
theorem dX5_told_80 : decode cX5_told 80 = .ok (.aload_n 0, 1) := by decide +kernel
theorem dX5_told_81 : decode cX5_told 81 = .ok (.invokevirtual 194, 3) := by decide +kernel
theorem dX5_told_84 : decode cX5_told 84 = .ok (.aload_n 0, 1) := by decide +kernel
theorem dX5_told_85 : decode cX5_told 85 = .ok (.getfield 188, 3) := by decide +kernel
theorem dX5_told_88 : decode cX5_told 88 = .ok (.ireturn, 1) := by decide +kernel
theorem dX5_told_89 : decode cX5_told 89 = .ok (.aload_n 0, 1) := by decide +kernel
theorem dX5_told_90 : decode cX5_told 90 = .ok (.getfield 7, 3) := by decide +kernel
theorem dX5_told_93 : decode cX5_told 93 = .ok (.iconst 4, 1) := by decide +kernel
theorem dX5_told_94 : decode cX5_told 94 = .ok (.iaload, 1) := by decide +kernel
theorem dX5_told_95 : decode cX5_told 95 = .ok (.ireturn, 1) := by decide +kernel
theorem dX5_told_96 : decode cX5_told 96 = .ok (.aload_n 0, 1) := by decide +kernel
theorem dX5_told_97 : decode cX5_told 97 = .ok (.getfield 136, 3) := by decide +kernel
theorem dX5_told_100 : decode cX5_told 100 = .ok (.ireturn, 1) := by decide +kernel
theorem dX5_told_101 : decode cX5_told 101 = .ok (.aload_n 0, 1) := by decide +kernel
theorem dX5_told_102 : decode cX5_told 102 = .ok (.getfield 61, 3) := by decide +kernel
theorem dX5_told_105 : decode cX5_told 105 = .ok (.ireturn, 1) := by decide +kernel
theorem dX5_told_106 : decode cX5_told 106 = .ok (.aload_n 0, 1) := by decide +kernel
theorem dX5_told_107 : decode cX5_told 107 = .ok (.invokevirtual 220, 3) := by decide +kernel
theorem dX5_told_110 : decode cX5_told 110 = .ok (.ireturn, 1) := by decide +kernel
theorem dX5_told_111 : decode cX5_told 111 = .ok (.aload_n 0, 1) := by decide +kernel
theorem dX5_told_112 : decode cX5_told 112 = .ok (.getfield 7, 3) := by decide +kernel
theorem dX5_told_115 : decode cX5_told 115 = .ok (.iconst 0, 1) := by decide +kernel
theorem dX5_told_116 : decode cX5_told 116 = .ok (.iaload, 1) := by decide +kernel
theorem dX5_told_117 : decode cX5_told 117 = .ok (.ireturn, 1) := by decide +kernel
theorem dX5_told_118 : decode cX5_told 118 = .ok (.bipush (-3), 2) := by decide +kernel
theorem dX5_told_120 : decode cX5_told 120 = .ok (.ireturn, 1) := by decide +kernel
theorem dX5_turned_0 : decode cX5_turned 0 = .ok (.iload_n 0, 1) := by decide +kernel
theorem dX5_turned_1 : decode cX5_turned 1 = .ok (.istore_n 1, 1) := by decide +kernel
theorem dX5_turned_2 : decode cX5_turned 2 = .ok (.iload_n 1, 1) := by decide +kernel
theorem dX5_turned_3 : decode cX5_turned 3 = .ok (.iload_n 1, 1) := by decide +kernel
theorem dX5_turned_4 : decode cX5_turned 4 = .ok (.bipush 13, 2) := by decide +kernel
theorem dX5_turned_6 : decode cX5_turned 6 = .ok (.ishl, 1) := by decide +kernel
theorem dX5_turned_7 : decode cX5_turned 7 = .ok (.ixor, 1) := by decide +kernel
theorem dX5_turned_8 : decode cX5_turned 8 = .ok (.istore_n 1, 1) := by decide +kernel
theorem dX5_turned_9 : decode cX5_turned 9 = .ok (.iload_n 1, 1) := by decide +kernel
theorem dX5_turned_10 : decode cX5_turned 10 = .ok (.iload_n 1, 1) := by decide +kernel
theorem dX5_turned_11 : decode cX5_turned 11 = .ok (.bipush 17, 2) := by decide +kernel
theorem dX5_turned_13 : decode cX5_turned 13 = .ok (.iushr, 1) := by decide +kernel
theorem dX5_turned_14 : decode cX5_turned 14 = .ok (.ixor, 1) := by decide +kernel
theorem dX5_turned_15 : decode cX5_turned 15 = .ok (.istore_n 1, 1) := by decide +kernel
theorem dX5_turned_16 : decode cX5_turned 16 = .ok (.iload_n 1, 1) := by decide +kernel
theorem dX5_turned_17 : decode cX5_turned 17 = .ok (.iload_n 1, 1) := by decide +kernel
theorem dX5_turned_18 : decode cX5_turned 18 = .ok (.iconst 5, 1) := by decide +kernel
theorem dX5_turned_19 : decode cX5_turned 19 = .ok (.ishl, 1) := by decide +kernel
theorem dX5_turned_20 : decode cX5_turned 20 = .ok (.ixor, 1) := by decide +kernel
theorem dX5_turned_21 : decode cX5_turned 21 = .ok (.istore_n 1, 1) := by decide +kernel
theorem dX5_turned_22 : decode cX5_turned 22 = .ok (.iload_n 1, 1) := by decide +kernel
theorem dX5_turned_23 : decode cX5_turned 23 = .ok (.ireturn, 1) := by decide +kernel
theorem dX5_undo_0 : decode cX5_undo 0 = .ok (.aload_n 0, 1) := by decide +kernel
theorem dX5_undo_1 : decode cX5_undo 1 = .ok (.getfield 136, 3) := by decide +kernel
theorem dX5_undo_4 : decode cX5_undo 4 = .ok (.ifCond .ne 6, 3) := by decide +kernel
theorem dX5_undo_7 : decode cX5_undo 7 = .ok (.bipush (-4), 2) := by decide +kernel
theorem dX5_undo_9 : decode cX5_undo 9 = .ok (.ireturn, 1) := by decide +kernel
theorem dX5_undo_10 : decode cX5_undo 10 = .ok (.aload_n 0, 1) := by decide +kernel
theorem dX5_undo_11 : decode cX5_undo 11 = .ok (.dup, 1) := by decide +kernel
theorem dX5_undo_12 : decode cX5_undo 12 = .ok (.getfield 136, 3) := by decide +kernel
theorem dX5_undo_15 : decode cX5_undo 15 = .ok (.iconst 1, 1) := by decide +kernel
theorem dX5_undo_16 : decode cX5_undo 16 = .ok (.isub, 1) := by decide +kernel
theorem dX5_undo_17 : decode cX5_undo 17 = .ok (.putfield 136, 3) := by decide +kernel
theorem dX5_undo_20 : decode cX5_undo 20 = .ok (.aload_n 0, 1) := by decide +kernel
theorem dX5_undo_21 : decode cX5_undo 21 = .ok (.bipush 77, 2) := by decide +kernel
theorem dX5_undo_23 : decode cX5_undo 23 = .ok (.bipush 77, 2) := by decide +kernel
theorem dX5_undo_25 : decode cX5_undo 25 = .ok (.aload_n 0, 1) := by decide +kernel
theorem dX5_undo_26 : decode cX5_undo 26 = .ok (.getfield 136, 3) := by decide +kernel
theorem dX5_undo_29 : decode cX5_undo 29 = .ok (.imul, 1) := by decide +kernel
theorem dX5_undo_30 : decode cX5_undo 30 = .ok (.iadd, 1) := by decide +kernel
theorem dX5_undo_31 : decode cX5_undo 31 = .ok (.iconst 0, 1) := by decide +kernel
theorem dX5_undo_32 : decode cX5_undo 32 = .ok (.invokevirtual 44, 3) := by decide +kernel
theorem dX5_undo_35 : decode cX5_undo 35 = .ok (.aload_n 0, 1) := by decide +kernel
theorem dX5_undo_36 : decode cX5_undo 36 = .ok (.getfield 136, 3) := by decide +kernel
theorem dX5_undo_39 : decode cX5_undo 39 = .ok (.ireturn, 1) := by decide +kernel
theorem dX5_value_0 : decode cX5_value 0 = .ok (.iload_n 1, 1) := by decide +kernel
theorem dX5_value_1 : decode cX5_value 1 = .ok (.invokestatic 210, 3) := by decide +kernel
theorem dX5_value_4 : decode cX5_value 4 = .ok (.ifCond .ne 6, 3) := by decide +kernel
theorem dX5_value_7 : decode cX5_value 7 = .ok (.bipush (-2), 2) := by decide +kernel
theorem dX5_value_9 : decode cX5_value 9 = .ok (.ireturn, 1) := by decide +kernel
theorem dX5_value_10 : decode cX5_value 10 = .ok (.aload_n 0, 1) := by decide +kernel
theorem dX5_value_11 : decode cX5_value 11 = .ok (.getfield 26, 3) := by decide +kernel
theorem dX5_value_14 : decode cX5_value 14 = .ok (.iload_n 1, 1) := by decide +kernel
theorem dX5_value_15 : decode cX5_value 15 = .ok (.iaload, 1) := by decide +kernel
theorem dX5_value_16 : decode cX5_value 16 = .ok (.ifCond .ge 6, 3) := by decide +kernel
theorem dX5_value_19 : decode cX5_value 19 = .ok (.bipush (-11), 2) := by decide +kernel
theorem dX5_value_21 : decode cX5_value 21 = .ok (.ireturn, 1) := by decide +kernel
theorem dX5_value_22 : decode cX5_value 22 = .ok (.aload_n 0, 1) := by decide +kernel
theorem dX5_value_23 : decode cX5_value 23 = .ok (.getfield 26, 3) := by decide +kernel
theorem dX5_value_26 : decode cX5_value 26 = .ok (.iload_n 1, 1) := by decide +kernel
theorem dX5_value_27 : decode cX5_value 27 = .ok (.iaload, 1) := by decide +kernel
theorem dX5_value_28 : decode cX5_value 28 = .ok (.i2l, 1) := by decide +kernel
theorem dX5_value_29 : decode cX5_value 29 = .ok (.lconst 1, 1) := by decide +kernel
theorem dX5_value_30 : decode cX5_value 30 = .ok (.ldc2_w 91, 3) := by decide +kernel
theorem dX5_value_33 : decode cX5_value 33 = .ok (.invokestatic 57, 3) := by decide +kernel
theorem dX5_value_36 : decode cX5_value 36 = .ok (.istore_n 2, 1) := by decide +kernel
theorem dX5_value_37 : decode cX5_value 37 = .ok (.iconst 0, 1) := by decide +kernel
theorem dX5_value_38 : decode cX5_value 38 = .ok (.istore_n 3, 1) := by decide +kernel
theorem dX5_value_39 : decode cX5_value 39 = .ok (.iconst 0, 1) := by decide +kernel
theorem dX5_value_40 : decode cX5_value 40 = .ok (.istore 4, 2) := by decide +kernel
theorem dX5_value_42 : decode cX5_value 42 = .ok (.iload 4, 2) := by decide +kernel
theorem dX5_value_44 : decode cX5_value 44 = .ok (.aload_n 0, 1) := by decide +kernel
theorem dX5_value_45 : decode cX5_value 45 = .ok (.getfield 26, 3) := by decide +kernel
theorem dX5_value_48 : decode cX5_value 48 = .ok (.iload_n 1, 1) := by decide +kernel
theorem dX5_value_49 : decode cX5_value 49 = .ok (.iaload, 1) := by decide +kernel
theorem dX5_value_50 : decode cX5_value 50 = .ok (.if_icmp .ge 50, 3) := by decide +kernel
theorem dX5_value_53 : decode cX5_value 53 = .ok (.iload_n 2, 1) := by decide +kernel
theorem dX5_value_54 : decode cX5_value 54 = .ok (.ifCond .eq 46, 3) := by decide +kernel
theorem dX5_value_57 : decode cX5_value 57 = .ok (.aload_n 0, 1) := by decide +kernel
theorem dX5_value_58 : decode cX5_value 58 = .ok (.getfield 29, 3) := by decide +kernel
theorem dX5_value_61 : decode cX5_value 61 = .ok (.bipush 40, 2) := by decide +kernel
theorem dX5_value_63 : decode cX5_value 63 = .ok (.iload_n 1, 1) := by decide +kernel
theorem dX5_value_64 : decode cX5_value 64 = .ok (.imul, 1) := by decide +kernel
theorem dX5_value_65 : decode cX5_value 65 = .ok (.iload 4, 2) := by decide +kernel
theorem dX5_value_67 : decode cX5_value 67 = .ok (.iadd, 1) := by decide +kernel
theorem dX5_value_68 : decode cX5_value 68 = .ok (.iaload, 1) := by decide +kernel
theorem dX5_value_69 : decode cX5_value 69 = .ok (.invokestatic 82, 3) := by decide +kernel
theorem dX5_value_72 : decode cX5_value 72 = .ok (.istore_n 2, 1) := by decide +kernel
theorem dX5_value_73 : decode cX5_value 73 = .ok (.bipush 10, 2) := by decide +kernel
theorem dX5_value_75 : decode cX5_value 75 = .ok (.iload_n 3, 1) := by decide +kernel
theorem dX5_value_76 : decode cX5_value 76 = .ok (.imul, 1) := by decide +kernel
theorem dX5_value_77 : decode cX5_value 77 = .ok (.aload_n 0, 1) := by decide +kernel
theorem dX5_value_78 : decode cX5_value 78 = .ok (.getfield 29, 3) := by decide +kernel
theorem dX5_value_81 : decode cX5_value 81 = .ok (.bipush 40, 2) := by decide +kernel
theorem dX5_value_83 : decode cX5_value 83 = .ok (.iload_n 1, 1) := by decide +kernel
theorem dX5_value_84 : decode cX5_value 84 = .ok (.imul, 1) := by decide +kernel
theorem dX5_value_85 : decode cX5_value 85 = .ok (.iload 4, 2) := by decide +kernel
theorem dX5_value_87 : decode cX5_value 87 = .ok (.iadd, 1) := by decide +kernel
theorem dX5_value_88 : decode cX5_value 88 = .ok (.iaload, 1) := by decide +kernel
theorem dX5_value_89 : decode cX5_value 89 = .ok (.iadd, 1) := by decide +kernel
theorem dX5_value_90 : decode cX5_value 90 = .ok (.bipush 48, 2) := by decide +kernel
theorem dX5_value_92 : decode cX5_value 92 = .ok (.isub, 1) := by decide +kernel
theorem dX5_value_93 : decode cX5_value 93 = .ok (.istore_n 3, 1) := by decide +kernel
theorem dX5_value_94 : decode cX5_value 94 = .ok (.iinc 4 1, 3) := by decide +kernel
theorem dX5_value_97 : decode cX5_value 97 = .ok (.goto (-55), 3) := by decide +kernel
theorem dX5_value_100 : decode cX5_value 100 = .ok (.iload_n 2, 1) := by decide +kernel
theorem dX5_value_101 : decode cX5_value 101 = .ok (.ifCond .eq 7, 3) := by decide +kernel
theorem dX5_value_104 : decode cX5_value 104 = .ok (.iload_n 3, 1) := by decide +kernel
theorem dX5_value_105 : decode cX5_value 105 = .ok (.goto 5, 3) := by decide +kernel
theorem dX5_value_108 : decode cX5_value 108 = .ok (.bipush (-14), 2) := by decide +kernel
theorem dX5_value_110 : decode cX5_value 110 = .ok (.ireturn, 1) := by decide +kernel
theorem dX5_weight_0 : decode cX5_weight 0 = .ok (.aload_n 0, 1) := by decide +kernel
theorem dX5_weight_1 : decode cX5_weight 1 = .ok (.iload_n 1, 1) := by decide +kernel
theorem dX5_weight_2 : decode cX5_weight 2 = .ok (.invokevirtual 139, 3) := by decide +kernel
theorem dX5_weight_5 : decode cX5_weight 5 = .ok (.ifCond .ne 8, 3) := by decide +kernel
theorem dX5_weight_8 : decode cX5_weight 8 = .ok (.bipush (-2), 2) := by decide +kernel
theorem dX5_weight_10 : decode cX5_weight 10 = .ok (.goto 22, 3) := by decide +kernel
theorem dX5_weight_13 : decode cX5_weight 13 = .ok (.iload_n 2, 1) := by decide +kernel
theorem dX5_weight_14 : decode cX5_weight 14 = .ok (.invokestatic 173, 3) := by decide +kernel
theorem dX5_weight_17 : decode cX5_weight 17 = .ok (.ifCond .eq 13, 3) := by decide +kernel
theorem dX5_weight_20 : decode cX5_weight 20 = .ok (.aload_n 0, 1) := by decide +kernel
theorem dX5_weight_21 : decode cX5_weight 21 = .ok (.iconst 0, 1) := by decide +kernel
theorem dX5_weight_22 : decode cX5_weight 22 = .ok (.iload_n 1, 1) := by decide +kernel
theorem dX5_weight_23 : decode cX5_weight 23 = .ok (.iload_n 2, 1) := by decide +kernel
theorem dX5_weight_24 : decode cX5_weight 24 = .ok (.invokevirtual 155, 3) := by decide +kernel
theorem dX5_weight_27 : decode cX5_weight 27 = .ok (.goto 5, 3) := by decide +kernel
theorem dX5_weight_30 : decode cX5_weight 30 = .ok (.bipush (-3), 2) := by decide +kernel
theorem dX5_weight_32 : decode cX5_weight 32 = .ok (.ireturn, 1) := by decide +kernel
theorem dX5_weightOf_0 : decode cX5_weightOf 0 = .ok (.aload_n 0, 1) := by decide +kernel
theorem dX5_weightOf_1 : decode cX5_weightOf 1 = .ok (.getfield 7, 3) := by decide +kernel
theorem dX5_weightOf_4 : decode cX5_weightOf 4 = .ok (.iload_n 1, 1) := by decide +kernel
theorem dX5_weightOf_5 : decode cX5_weightOf 5 = .ok (.iconst 4, 1) := by decide +kernel
theorem dX5_weightOf_6 : decode cX5_weightOf 6 = .ok (.iadd, 1) := by decide +kernel
theorem dX5_weightOf_7 : decode cX5_weightOf 7 = .ok (.iaload, 1) := by decide +kernel
theorem dX5_weightOf_8 : decode cX5_weightOf 8 = .ok (.iload_n 2, 1) := by decide +kernel
theorem dX5_weightOf_9 : decode cX5_weightOf 9 = .ok (.invokestatic 93, 3) := by decide +kernel
theorem dX5_weightOf_12 : decode cX5_weightOf 12 = .ok (.ifCond .eq 5, 3) := by decide +kernel
theorem dX5_weightOf_15 : decode cX5_weightOf 15 = .ok (.iconst 0, 1) := by decide +kernel
theorem dX5_weightOf_16 : decode cX5_weightOf 16 = .ok (.ireturn, 1) := by decide +kernel
theorem dX5_weightOf_17 : decode cX5_weightOf 17 = .ok (.aload_n 0, 1) := by decide +kernel
theorem dX5_weightOf_18 : decode cX5_weightOf 18 = .ok (.getfield 13, 3) := by decide +kernel
theorem dX5_weightOf_21 : decode cX5_weightOf 21 = .ok (.iload_n 2, 1) := by decide +kernel
theorem dX5_weightOf_22 : decode cX5_weightOf 22 = .ok (.iaload, 1) := by decide +kernel
theorem dX5_weightOf_23 : decode cX5_weightOf 23 = .ok (.istore 4, 2) := by decide +kernel
theorem dX5_weightOf_25 : decode cX5_weightOf 25 = .ok (.aload_n 0, 1) := by decide +kernel
theorem dX5_weightOf_26 : decode cX5_weightOf 26 = .ok (.getfield 52, 3) := by decide +kernel
theorem dX5_weightOf_29 : decode cX5_weightOf 29 = .ok (.iconst 1, 1) := by decide +kernel
theorem dX5_weightOf_30 : decode cX5_weightOf 30 = .ok (.if_icmp .eq 11, 3) := by decide +kernel
theorem dX5_weightOf_33 : decode cX5_weightOf 33 = .ok (.aload_n 0, 1) := by decide +kernel
theorem dX5_weightOf_34 : decode cX5_weightOf 34 = .ok (.getfield 52, 3) := by decide +kernel
theorem dX5_weightOf_37 : decode cX5_weightOf 37 = .ok (.iconst 3, 1) := by decide +kernel
theorem dX5_weightOf_38 : decode cX5_weightOf 38 = .ok (.if_icmp .ne 23, 3) := by decide +kernel
theorem dX5_weightOf_41 : decode cX5_weightOf 41 = .ok (.aload_n 0, 1) := by decide +kernel
theorem dX5_weightOf_42 : decode cX5_weightOf 42 = .ok (.getfield 16, 3) := by decide +kernel
theorem dX5_weightOf_45 : decode cX5_weightOf 45 = .ok (.iload_n 2, 1) := by decide +kernel
theorem dX5_weightOf_46 : decode cX5_weightOf 46 = .ok (.iaload, 1) := by decide +kernel
theorem dX5_weightOf_47 : decode cX5_weightOf 47 = .ok (.iload_n 3, 1) := by decide +kernel
theorem dX5_weightOf_48 : decode cX5_weightOf 48 = .ok (.invokestatic 93, 3) := by decide +kernel
theorem dX5_weightOf_51 : decode cX5_weightOf 51 = .ok (.ifCond .eq 10, 3) := by decide +kernel
theorem dX5_weightOf_54 : decode cX5_weightOf 54 = .ok (.iconst 2, 1) := by decide +kernel
theorem dX5_weightOf_55 : decode cX5_weightOf 55 = .ok (.iload 4, 2) := by decide +kernel
theorem dX5_weightOf_57 : decode cX5_weightOf 57 = .ok (.imul, 1) := by decide +kernel
theorem dX5_weightOf_58 : decode cX5_weightOf 58 = .ok (.goto 5, 3) := by decide +kernel
theorem dX5_weightOf_61 : decode cX5_weightOf 61 = .ok (.iload 4, 2) := by decide +kernel
theorem dX5_weightOf_63 : decode cX5_weightOf 63 = .ok (.istore 4, 2) := by decide +kernel
theorem dX5_weightOf_65 : decode cX5_weightOf 65 = .ok (.iload 4, 2) := by decide +kernel
theorem dX5_weightOf_67 : decode cX5_weightOf 67 = .ok (.aload_n 0, 1) := by decide +kernel
theorem dX5_weightOf_68 : decode cX5_weightOf 68 = .ok (.getfield 52, 3) := by decide +kernel
theorem dX5_weightOf_71 : decode cX5_weightOf 71 = .ok (.iconst 2, 1) := by decide +kernel
theorem dX5_weightOf_72 : decode cX5_weightOf 72 = .ok (.if_icmp .eq 11, 3) := by decide +kernel
theorem dX5_weightOf_75 : decode cX5_weightOf 75 = .ok (.aload_n 0, 1) := by decide +kernel
theorem dX5_weightOf_76 : decode cX5_weightOf 76 = .ok (.getfield 52, 3) := by decide +kernel
theorem dX5_weightOf_79 : decode cX5_weightOf 79 = .ok (.iconst 3, 1) := by decide +kernel
theorem dX5_weightOf_80 : decode cX5_weightOf 80 = .ok (.if_icmp .ne 17, 3) := by decide +kernel
theorem dX5_weightOf_83 : decode cX5_weightOf 83 = .ok (.aload_n 0, 1) := by decide +kernel
theorem dX5_weightOf_84 : decode cX5_weightOf 84 = .ok (.getfield 7, 3) := by decide +kernel
theorem dX5_weightOf_87 : decode cX5_weightOf 87 = .ok (.iload_n 1, 1) := by decide +kernel
theorem dX5_weightOf_88 : decode cX5_weightOf 88 = .ok (.bipush 11, 2) := by decide +kernel
theorem dX5_weightOf_90 : decode cX5_weightOf 90 = .ok (.iadd, 1) := by decide +kernel
theorem dX5_weightOf_91 : decode cX5_weightOf 91 = .ok (.iload_n 2, 1) := by decide +kernel
theorem dX5_weightOf_92 : decode cX5_weightOf 92 = .ok (.iadd, 1) := by decide +kernel
theorem dX5_weightOf_93 : decode cX5_weightOf 93 = .ok (.iaload, 1) := by decide +kernel
theorem dX5_weightOf_94 : decode cX5_weightOf 94 = .ok (.goto 4, 3) := by decide +kernel
theorem dX5_weightOf_97 : decode cX5_weightOf 97 = .ok (.iconst 0, 1) := by decide +kernel
theorem dX5_weightOf_98 : decode cX5_weightOf 98 = .ok (.iadd, 1) := by decide +kernel
theorem dX5_weightOf_99 : decode cX5_weightOf 99 = .ok (.istore 4, 2) := by decide +kernel
theorem dX5_weightOf_101 : decode cX5_weightOf 101 = .ok (.iload 4, 2) := by decide +kernel
theorem dX5_weightOf_103 : decode cX5_weightOf 103 = .ok (.iconst 1, 1) := by decide +kernel
theorem dX5_weightOf_104 : decode cX5_weightOf 104 = .ok (.if_icmp .ge 7, 3) := by decide +kernel
theorem dX5_weightOf_107 : decode cX5_weightOf 107 = .ok (.iconst 1, 1) := by decide +kernel
theorem dX5_weightOf_108 : decode cX5_weightOf 108 = .ok (.goto 5, 3) := by decide +kernel
theorem dX5_weightOf_111 : decode cX5_weightOf 111 = .ok (.iload 4, 2) := by decide +kernel
theorem dX5_weightOf_113 : decode cX5_weightOf 113 = .ok (.ireturn, 1) := by decide +kernel
theorem dX5_wheel_0 : decode cX5_wheel 0 = .ok (.aload_n 0, 1) := by decide +kernel
theorem dX5_wheel_1 : decode cX5_wheel 1 = .ok (.iconst 0, 1) := by decide +kernel
theorem dX5_wheel_2 : decode cX5_wheel 2 = .ok (.invokevirtual 132, 3) := by decide +kernel
theorem dX5_wheel_5 : decode cX5_wheel 5 = .ok (.ifCond .ne 6, 3) := by decide +kernel
theorem dX5_wheel_8 : decode cX5_wheel 8 = .ok (.bipush (-4), 2) := by decide +kernel
theorem dX5_wheel_10 : decode cX5_wheel 10 = .ok (.ireturn, 1) := by decide +kernel
theorem dX5_wheel_11 : decode cX5_wheel 11 = .ok (.aload_n 0, 1) := by decide +kernel
theorem dX5_wheel_12 : decode cX5_wheel 12 = .ok (.sipush 847, 3) := by decide +kernel
theorem dX5_wheel_15 : decode cX5_wheel 15 = .ok (.iconst 0, 1) := by decide +kernel
theorem dX5_wheel_16 : decode cX5_wheel 16 = .ok (.invokevirtual 44, 3) := by decide +kernel
theorem dX5_wheel_19 : decode cX5_wheel 19 = .ok (.aload_n 0, 1) := by decide +kernel
theorem dX5_wheel_20 : decode cX5_wheel 20 = .ok (.iconst 1, 1) := by decide +kernel
theorem dX5_wheel_21 : decode cX5_wheel 21 = .ok (.invokevirtual 132, 3) := by decide +kernel
theorem dX5_wheel_24 : decode cX5_wheel 24 = .ok (.pop, 1) := by decide +kernel
theorem dX5_wheel_25 : decode cX5_wheel 25 = .ok (.aload_n 0, 1) := by decide +kernel
theorem dX5_wheel_26 : decode cX5_wheel 26 = .ok (.iconst 0, 1) := by decide +kernel
theorem dX5_wheel_27 : decode cX5_wheel 27 = .ok (.sipush 847, 3) := by decide +kernel
theorem dX5_wheel_30 : decode cX5_wheel 30 = .ok (.invokevirtual 44, 3) := by decide +kernel
theorem dX5_wheel_33 : decode cX5_wheel 33 = .ok (.aload_n 0, 1) := by decide +kernel
theorem dX5_wheel_34 : decode cX5_wheel 34 = .ok (.iconst 0, 1) := by decide +kernel
theorem dX5_wheel_35 : decode cX5_wheel 35 = .ok (.putfield 61, 3) := by decide +kernel
theorem dX5_wheel_38 : decode cX5_wheel 38 = .ok (.aload_n 0, 1) := by decide +kernel
theorem dX5_wheel_39 : decode cX5_wheel 39 = .ok (.iconst 0, 1) := by decide +kernel
theorem dX5_wheel_40 : decode cX5_wheel 40 = .ok (.putfield 136, 3) := by decide +kernel
theorem dX5_wheel_43 : decode cX5_wheel 43 = .ok (.aload_n 0, 1) := by decide +kernel
theorem dX5_wheel_44 : decode cX5_wheel 44 = .ok (.getfield 19, 3) := by decide +kernel
theorem dX5_wheel_47 : decode cX5_wheel 47 = .ok (.iconst 0, 1) := by decide +kernel
theorem dX5_wheel_48 : decode cX5_wheel 48 = .ok (.iconst 0, 1) := by decide +kernel
theorem dX5_wheel_49 : decode cX5_wheel 49 = .ok (.bastore, 1) := by decide +kernel
theorem dX5_wheel_50 : decode cX5_wheel 50 = .ok (.aload_n 0, 1) := by decide +kernel
theorem dX5_wheel_51 : decode cX5_wheel 51 = .ok (.getfield 19, 3) := by decide +kernel
theorem dX5_wheel_54 : decode cX5_wheel 54 = .ok (.iconst 1, 1) := by decide +kernel
theorem dX5_wheel_55 : decode cX5_wheel 55 = .ok (.iconst 0, 1) := by decide +kernel
theorem dX5_wheel_56 : decode cX5_wheel 56 = .ok (.bastore, 1) := by decide +kernel
theorem dX5_wheel_57 : decode cX5_wheel 57 = .ok (.iconst 0, 1) := by decide +kernel
theorem dX5_wheel_58 : decode cX5_wheel 58 = .ok (.istore_n 1, 1) := by decide +kernel
theorem dX5_wheel_59 : decode cX5_wheel 59 = .ok (.iload_n 1, 1) := by decide +kernel
theorem dX5_wheel_60 : decode cX5_wheel 60 = .ok (.iconst 3, 1) := by decide +kernel
theorem dX5_wheel_61 : decode cX5_wheel 61 = .ok (.if_icmp .ge 16, 3) := by decide +kernel
theorem dX5_wheel_64 : decode cX5_wheel 64 = .ok (.aload_n 0, 1) := by decide +kernel
theorem dX5_wheel_65 : decode cX5_wheel 65 = .ok (.getfield 26, 3) := by decide +kernel
theorem dX5_wheel_68 : decode cX5_wheel 68 = .ok (.iload_n 1, 1) := by decide +kernel
theorem dX5_wheel_69 : decode cX5_wheel 69 = .ok (.iconst (-1), 1) := by decide +kernel
theorem dX5_wheel_70 : decode cX5_wheel 70 = .ok (.iastore, 1) := by decide +kernel
theorem dX5_wheel_71 : decode cX5_wheel 71 = .ok (.iinc 1 1, 3) := by decide +kernel
theorem dX5_wheel_74 : decode cX5_wheel 74 = .ok (.goto (-15), 3) := by decide +kernel
theorem dX5_wheel_77 : decode cX5_wheel 77 = .ok (.aload_n 0, 1) := by decide +kernel
theorem dX5_wheel_78 : decode cX5_wheel 78 = .ok (.getfield 126, 3) := by decide +kernel
theorem dX5_wheel_81 : decode cX5_wheel 81 = .ok (.ireturn, 1) := by decide +kernel
theorem dX5_wordOf_0 : decode cX5_wordOf 0 = .ok (.iload_n 1, 1) := by decide +kernel
theorem dX5_wordOf_1 : decode cX5_wordOf 1 = .ok (.istore_n 3, 1) := by decide +kernel
theorem dX5_wordOf_2 : decode cX5_wordOf 2 = .ok (.iload_n 3, 1) := by decide +kernel
theorem dX5_wordOf_3 : decode cX5_wordOf 3 = .ok (.iload_n 2, 1) := by decide +kernel
theorem dX5_wordOf_4 : decode cX5_wordOf 4 = .ok (.if_icmp .gt 19, 3) := by decide +kernel
theorem dX5_wordOf_7 : decode cX5_wordOf 7 = .ok (.aload_n 0, 1) := by decide +kernel
theorem dX5_wordOf_8 : decode cX5_wordOf 8 = .ok (.iload_n 3, 1) := by decide +kernel
theorem dX5_wordOf_9 : decode cX5_wordOf 9 = .ok (.invokevirtual 85, 3) := by decide +kernel
theorem dX5_wordOf_12 : decode cX5_wordOf 12 = .ok (.ifCond .eq 5, 3) := by decide +kernel
theorem dX5_wordOf_15 : decode cX5_wordOf 15 = .ok (.iload_n 3, 1) := by decide +kernel
theorem dX5_wordOf_16 : decode cX5_wordOf 16 = .ok (.ireturn, 1) := by decide +kernel
theorem dX5_wordOf_17 : decode cX5_wordOf 17 = .ok (.iinc 3 1, 3) := by decide +kernel
theorem dX5_wordOf_20 : decode cX5_wordOf 20 = .ok (.goto (-18), 3) := by decide +kernel
theorem dX5_wordOf_23 : decode cX5_wordOf 23 = .ok (.iconst (-1), 1) := by decide +kernel
theorem dX5_wordOf_24 : decode cX5_wordOf 24 = .ok (.ireturn, 1) := by decide +kernel
theorem dX5_write_0 : decode cX5_write 0 = .ok (.iload_n 1, 1) := by decide +kernel
theorem dX5_write_1 : decode cX5_write 1 = .ok (.i2l, 1) := by decide +kernel
theorem dX5_write_2 : decode cX5_write 2 = .ok (.lconst 0, 1) := by decide +kernel
theorem dX5_write_3 : decode cX5_write 3 = .ok (.ldc2_w 55, 3) := by decide +kernel
theorem dX5_write_6 : decode cX5_write 6 = .ok (.invokestatic 57, 3) := by decide +kernel
theorem dX5_write_9 : decode cX5_write 9 = .ok (.ifCond .ne 6, 3) := by decide +kernel
theorem dX5_write_12 : decode cX5_write 12 = .ok (.bipush (-3), 2) := by decide +kernel
theorem dX5_write_14 : decode cX5_write 14 = .ok (.ireturn, 1) := by decide +kernel
theorem dX5_write_15 : decode cX5_write 15 = .ok (.aload_n 0, 1) := by decide +kernel
theorem dX5_write_16 : decode cX5_write 16 = .ok (.getfield 61, 3) := by decide +kernel
theorem dX5_write_19 : decode cX5_write 19 = .ok (.sipush 200, 3) := by decide +kernel
theorem dX5_write_22 : decode cX5_write 22 = .ok (.if_icmp .ne 6, 3) := by decide +kernel
theorem dX5_write_25 : decode cX5_write 25 = .ok (.bipush (-5), 2) := by decide +kernel
theorem dX5_write_27 : decode cX5_write 27 = .ok (.ireturn, 1) := by decide +kernel
theorem dX5_write_28 : decode cX5_write 28 = .ok (.aload_n 0, 1) := by decide +kernel
theorem dX5_write_29 : decode cX5_write 29 = .ok (.getfield 23, 3) := by decide +kernel
theorem dX5_write_32 : decode cX5_write 32 = .ok (.aload_n 0, 1) := by decide +kernel
theorem dX5_write_33 : decode cX5_write 33 = .ok (.getfield 61, 3) := by decide +kernel
theorem dX5_write_36 : decode cX5_write 36 = .ok (.iload_n 1, 1) := by decide +kernel
theorem dX5_write_37 : decode cX5_write 37 = .ok (.iastore, 1) := by decide +kernel
theorem dX5_write_38 : decode cX5_write 38 = .ok (.aload_n 0, 1) := by decide +kernel
theorem dX5_write_39 : decode cX5_write 39 = .ok (.dup, 1) := by decide +kernel
theorem dX5_write_40 : decode cX5_write 40 = .ok (.getfield 61, 3) := by decide +kernel
theorem dX5_write_43 : decode cX5_write 43 = .ok (.iconst 1, 1) := by decide +kernel
theorem dX5_write_44 : decode cX5_write 44 = .ok (.iadd, 1) := by decide +kernel
theorem dX5_write_45 : decode cX5_write 45 = .ok (.putfield 61, 3) := by decide +kernel
theorem dX5_write_48 : decode cX5_write 48 = .ok (.aload_n 0, 1) := by decide +kernel
theorem dX5_write_49 : decode cX5_write 49 = .ok (.getfield 61, 3) := by decide +kernel
theorem dX5_write_52 : decode cX5_write 52 = .ok (.ireturn, 1) := by decide +kernel
theorem dX5_writing_0 : decode cX5_writing 0 = .ok (.iload_n 1, 1) := by decide +kernel
theorem dX5_writing_1 : decode cX5_writing 1 = .ok (.ifCond .ge 6, 3) := by decide +kernel
theorem dX5_writing_4 : decode cX5_writing 4 = .ok (.bipush (-3), 2) := by decide +kernel
theorem dX5_writing_6 : decode cX5_writing 6 = .ok (.ireturn, 1) := by decide +kernel
theorem dX5_writing_7 : decode cX5_writing 7 = .ok (.aload_n 0, 1) := by decide +kernel
theorem dX5_writing_8 : decode cX5_writing 8 = .ok (.invokevirtual 194, 3) := by decide +kernel
theorem dX5_writing_11 : decode cX5_writing 11 = .ok (.iload_n 1, 1) := by decide +kernel
theorem dX5_writing_12 : decode cX5_writing 12 = .ok (.aload_n 0, 1) := by decide +kernel
theorem dX5_writing_13 : decode cX5_writing 13 = .ok (.getfield 188, 3) := by decide +kernel
theorem dX5_writing_16 : decode cX5_writing 16 = .ok (.if_icmp .ge 12, 3) := by decide +kernel
theorem dX5_writing_19 : decode cX5_writing 19 = .ok (.aload_n 0, 1) := by decide +kernel
theorem dX5_writing_20 : decode cX5_writing 20 = .ok (.getfield 38, 3) := by decide +kernel
theorem dX5_writing_23 : decode cX5_writing 23 = .ok (.iload_n 1, 1) := by decide +kernel
theorem dX5_writing_24 : decode cX5_writing 24 = .ok (.iaload, 1) := by decide +kernel
theorem dX5_writing_25 : decode cX5_writing 25 = .ok (.goto 4, 3) := by decide +kernel
theorem dX5_writing_28 : decode cX5_writing 28 = .ok (.iconst (-1), 1) := by decide +kernel
theorem dX5_writing_29 : decode cX5_writing 29 = .ok (.ireturn, 1) := by decide +kernel
