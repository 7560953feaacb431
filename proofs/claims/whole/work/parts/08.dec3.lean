theorem dX5_allLetters_0 : decode cX5_allLetters 0 = .ok (.iconst 0, 1) := by decide +kernel
theorem dX5_allLetters_1 : decode cX5_allLetters 1 = .ok (.istore_n 1, 1) := by decide +kernel
theorem dX5_allLetters_2 : decode cX5_allLetters 2 = .ok (.iconst 0, 1) := by decide +kernel
theorem dX5_allLetters_3 : decode cX5_allLetters 3 = .ok (.istore_n 2, 1) := by decide +kernel
theorem dX5_allLetters_4 : decode cX5_allLetters 4 = .ok (.iload_n 2, 1) := by decide +kernel
theorem dX5_allLetters_5 : decode cX5_allLetters 5 = .ok (.iconst 3, 1) := by decide +kernel
theorem dX5_allLetters_6 : decode cX5_allLetters 6 = .ok (.if_icmp .ge 31, 3) := by decide +kernel
theorem dX5_allLetters_9 : decode cX5_allLetters 9 = .ok (.iload_n 1, 1) := by decide +kernel
theorem dX5_allLetters_10 : decode cX5_allLetters 10 = .ok (.aload_n 0, 1) := by decide +kernel
theorem dX5_allLetters_11 : decode cX5_allLetters 11 = .ok (.getfield 26, 3) := by decide +kernel
theorem dX5_allLetters_14 : decode cX5_allLetters 14 = .ok (.iload_n 2, 1) := by decide +kernel
theorem dX5_allLetters_15 : decode cX5_allLetters 15 = .ok (.iaload, 1) := by decide +kernel
theorem dX5_allLetters_16 : decode cX5_allLetters 16 = .ok (.ifCond .ge 7, 3) := by decide +kernel
theorem dX5_allLetters_19 : decode cX5_allLetters 19 = .ok (.iconst 0, 1) := by decide +kernel
theorem dX5_allLetters_20 : decode cX5_allLetters 20 = .ok (.goto 9, 3) := by decide +kernel
theorem dX5_allLetters_23 : decode cX5_allLetters 23 = .ok (.aload_n 0, 1) := by decide +kernel
theorem dX5_allLetters_24 : decode cX5_allLetters 24 = .ok (.getfield 26, 3) := by decide +kernel
theorem dX5_allLetters_27 : decode cX5_allLetters 27 = .ok (.iload_n 2, 1) := by decide +kernel
theorem dX5_allLetters_28 : decode cX5_allLetters 28 = .ok (.iaload, 1) := by decide +kernel
theorem dX5_allLetters_29 : decode cX5_allLetters 29 = .ok (.iadd, 1) := by decide +kernel
theorem dX5_allLetters_30 : decode cX5_allLetters 30 = .ok (.istore_n 1, 1) := by decide +kernel
theorem dX5_allLetters_31 : decode cX5_allLetters 31 = .ok (.iinc 2 1, 3) := by decide +kernel
theorem dX5_allLetters_34 : decode cX5_allLetters 34 = .ok (.goto (-30), 3) := by decide +kernel
theorem dX5_allLetters_37 : decode cX5_allLetters 37 = .ok (.iload_n 1, 1) := by decide +kernel
theorem dX5_allLetters_38 : decode cX5_allLetters 38 = .ok (.ireturn, 1) := by decide +kernel
theorem dX5_anew_0 : decode cX5_anew 0 = .ok (.aload_n 0, 1) := by decide +kernel
theorem dX5_anew_1 : decode cX5_anew 1 = .ok (.iconst 0, 1) := by decide +kernel
theorem dX5_anew_2 : decode cX5_anew 2 = .ok (.putfield 48, 3) := by decide +kernel
theorem dX5_anew_5 : decode cX5_anew 5 = .ok (.aload_n 0, 1) := by decide +kernel
theorem dX5_anew_6 : decode cX5_anew 6 = .ok (.iconst 0, 1) := by decide +kernel
theorem dX5_anew_7 : decode cX5_anew 7 = .ok (.putfield 52, 3) := by decide +kernel
theorem dX5_anew_10 : decode cX5_anew 10 = .ok (.aload_n 0, 1) := by decide +kernel
theorem dX5_anew_11 : decode cX5_anew 11 = .ok (.getfield 7, 3) := by decide +kernel
theorem dX5_anew_14 : decode cX5_anew 14 = .ok (.iconst 4, 1) := by decide +kernel
theorem dX5_anew_15 : decode cX5_anew 15 = .ok (.iconst 0, 1) := by decide +kernel
theorem dX5_anew_16 : decode cX5_anew 16 = .ok (.iastore, 1) := by decide +kernel
theorem dX5_anew_17 : decode cX5_anew 17 = .ok (.iconst 0, 1) := by decide +kernel
theorem dX5_anew_18 : decode cX5_anew 18 = .ok (.istore_n 1, 1) := by decide +kernel
theorem dX5_anew_19 : decode cX5_anew 19 = .ok (.iload_n 1, 1) := by decide +kernel
theorem dX5_anew_20 : decode cX5_anew 20 = .ok (.bipush 6, 2) := by decide +kernel
theorem dX5_anew_22 : decode cX5_anew 22 = .ok (.if_icmp .ge 18, 3) := by decide +kernel
theorem dX5_anew_25 : decode cX5_anew 25 = .ok (.aload_n 0, 1) := by decide +kernel
theorem dX5_anew_26 : decode cX5_anew 26 = .ok (.getfield 7, 3) := by decide +kernel
theorem dX5_anew_29 : decode cX5_anew 29 = .ok (.iconst 5, 1) := by decide +kernel
theorem dX5_anew_30 : decode cX5_anew 30 = .ok (.iload_n 1, 1) := by decide +kernel
theorem dX5_anew_31 : decode cX5_anew 31 = .ok (.iadd, 1) := by decide +kernel
theorem dX5_anew_32 : decode cX5_anew 32 = .ok (.iconst 0, 1) := by decide +kernel
theorem dX5_anew_33 : decode cX5_anew 33 = .ok (.iastore, 1) := by decide +kernel
theorem dX5_anew_34 : decode cX5_anew 34 = .ok (.iinc 1 1, 3) := by decide +kernel
theorem dX5_anew_37 : decode cX5_anew 37 = .ok (.goto (-18), 3) := by decide +kernel
theorem dX5_anew_40 : decode cX5_anew 40 = .ok (.return_, 1) := by decide +kernel
theorem dX5_assign_0 : decode cX5_assign 0 = .ok (.iload_n 1, 1) := by decide +kernel
theorem dX5_assign_1 : decode cX5_assign 1 = .ok (.invokestatic 173, 3) := by decide +kernel
theorem dX5_assign_4 : decode cX5_assign 4 = .ok (.ifCond .eq 10, 3) := by decide +kernel
theorem dX5_assign_7 : decode cX5_assign 7 = .ok (.iload_n 2, 1) := by decide +kernel
theorem dX5_assign_8 : decode cX5_assign 8 = .ok (.invokestatic 176, 3) := by decide +kernel
theorem dX5_assign_11 : decode cX5_assign 11 = .ok (.ifCond .ne 6, 3) := by decide +kernel
theorem dX5_assign_14 : decode cX5_assign 14 = .ok (.bipush (-3), 2) := by decide +kernel
theorem dX5_assign_16 : decode cX5_assign 16 = .ok (.ireturn, 1) := by decide +kernel
theorem dX5_assign_17 : decode cX5_assign 17 = .ok (.aload_n 0, 1) := by decide +kernel
theorem dX5_assign_18 : decode cX5_assign 18 = .ok (.iconst 0, 1) := by decide +kernel
theorem dX5_assign_19 : decode cX5_assign 19 = .ok (.iload_n 2, 1) := by decide +kernel
theorem dX5_assign_20 : decode cX5_assign 20 = .ok (.iconst (-1), 1) := by decide +kernel
theorem dX5_assign_21 : decode cX5_assign 21 = .ok (.invokevirtual 179, 3) := by decide +kernel
theorem dX5_assign_24 : decode cX5_assign 24 = .ok (.ifCond .ne 6, 3) := by decide +kernel
theorem dX5_assign_27 : decode cX5_assign 27 = .ok (.bipush (-4), 2) := by decide +kernel
theorem dX5_assign_29 : decode cX5_assign 29 = .ok (.ireturn, 1) := by decide +kernel
theorem dX5_assign_30 : decode cX5_assign 30 = .ok (.aload_n 0, 1) := by decide +kernel
theorem dX5_assign_31 : decode cX5_assign 31 = .ok (.getfield 7, 3) := by decide +kernel
theorem dX5_assign_34 : decode cX5_assign 34 = .ok (.iconst 3, 1) := by decide +kernel
theorem dX5_assign_35 : decode cX5_assign 35 = .ok (.iaload, 1) := by decide +kernel
theorem dX5_assign_36 : decode cX5_assign 36 = .ok (.bipush 20, 2) := by decide +kernel
theorem dX5_assign_38 : decode cX5_assign 38 = .ok (.if_icmp .ne 6, 3) := by decide +kernel
theorem dX5_assign_41 : decode cX5_assign 41 = .ok (.bipush (-5), 2) := by decide +kernel
theorem dX5_assign_43 : decode cX5_assign 43 = .ok (.ireturn, 1) := by decide +kernel
theorem dX5_assign_44 : decode cX5_assign 44 = .ok (.aload_n 0, 1) := by decide +kernel
theorem dX5_assign_45 : decode cX5_assign 45 = .ok (.invokevirtual 182, 3) := by decide +kernel
theorem dX5_assign_48 : decode cX5_assign 48 = .ok (.aload_n 0, 1) := by decide +kernel
theorem dX5_assign_49 : decode cX5_assign 49 = .ok (.getfield 7, 3) := by decide +kernel
theorem dX5_assign_52 : decode cX5_assign 52 = .ok (.iconst 3, 1) := by decide +kernel
theorem dX5_assign_53 : decode cX5_assign 53 = .ok (.iaload, 1) := by decide +kernel
theorem dX5_assign_54 : decode cX5_assign 54 = .ok (.istore_n 3, 1) := by decide +kernel
theorem dX5_assign_55 : decode cX5_assign 55 = .ok (.aload_n 0, 1) := by decide +kernel
theorem dX5_assign_56 : decode cX5_assign 56 = .ok (.getfield 7, 3) := by decide +kernel
theorem dX5_assign_59 : decode cX5_assign 59 = .ok (.bipush 17, 2) := by decide +kernel
theorem dX5_assign_61 : decode cX5_assign 61 = .ok (.iload_n 3, 1) := by decide +kernel
theorem dX5_assign_62 : decode cX5_assign 62 = .ok (.iadd, 1) := by decide +kernel
theorem dX5_assign_63 : decode cX5_assign 63 = .ok (.iload_n 1, 1) := by decide +kernel
theorem dX5_assign_64 : decode cX5_assign 64 = .ok (.iastore, 1) := by decide +kernel
theorem dX5_assign_65 : decode cX5_assign 65 = .ok (.aload_n 0, 1) := by decide +kernel
theorem dX5_assign_66 : decode cX5_assign 66 = .ok (.getfield 7, 3) := by decide +kernel
theorem dX5_assign_69 : decode cX5_assign 69 = .ok (.bipush 37, 2) := by decide +kernel
theorem dX5_assign_71 : decode cX5_assign 71 = .ok (.iload_n 3, 1) := by decide +kernel
theorem dX5_assign_72 : decode cX5_assign 72 = .ok (.iadd, 1) := by decide +kernel
theorem dX5_assign_73 : decode cX5_assign 73 = .ok (.iload_n 2, 1) := by decide +kernel
theorem dX5_assign_74 : decode cX5_assign 74 = .ok (.iastore, 1) := by decide +kernel
theorem dX5_assign_75 : decode cX5_assign 75 = .ok (.aload_n 0, 1) := by decide +kernel
theorem dX5_assign_76 : decode cX5_assign 76 = .ok (.getfield 7, 3) := by decide +kernel
theorem dX5_assign_79 : decode cX5_assign 79 = .ok (.bipush 57, 2) := by decide +kernel
theorem dX5_assign_81 : decode cX5_assign 81 = .ok (.iload_n 3, 1) := by decide +kernel
theorem dX5_assign_82 : decode cX5_assign 82 = .ok (.iadd, 1) := by decide +kernel
theorem dX5_assign_83 : decode cX5_assign 83 = .ok (.aload_n 0, 1) := by decide +kernel
theorem dX5_assign_84 : decode cX5_assign 84 = .ok (.iconst 0, 1) := by decide +kernel
theorem dX5_assign_85 : decode cX5_assign 85 = .ok (.iload_n 1, 1) := by decide +kernel
theorem dX5_assign_86 : decode cX5_assign 86 = .ok (.iload_n 2, 1) := by decide +kernel
theorem dX5_assign_87 : decode cX5_assign 87 = .ok (.invokevirtual 185, 3) := by decide +kernel
theorem dX5_assign_90 : decode cX5_assign 90 = .ok (.iastore, 1) := by decide +kernel
theorem dX5_assign_91 : decode cX5_assign 91 = .ok (.aload_n 0, 1) := by decide +kernel
theorem dX5_assign_92 : decode cX5_assign 92 = .ok (.getfield 7, 3) := by decide +kernel
theorem dX5_assign_95 : decode cX5_assign 95 = .ok (.iconst 3, 1) := by decide +kernel
theorem dX5_assign_96 : decode cX5_assign 96 = .ok (.dup2, 1) := by decide +kernel
theorem dX5_assign_97 : decode cX5_assign 97 = .ok (.iaload, 1) := by decide +kernel
theorem dX5_assign_98 : decode cX5_assign 98 = .ok (.iconst 1, 1) := by decide +kernel
theorem dX5_assign_99 : decode cX5_assign 99 = .ok (.iadd, 1) := by decide +kernel
theorem dX5_assign_100 : decode cX5_assign 100 = .ok (.iastore, 1) := by decide +kernel
theorem dX5_assign_101 : decode cX5_assign 101 = .ok (.aload_n 0, 1) := by decide +kernel
theorem dX5_assign_102 : decode cX5_assign 102 = .ok (.getfield 7, 3) := by decide +kernel
theorem dX5_assign_105 : decode cX5_assign 105 = .ok (.bipush 57, 2) := by decide +kernel
theorem dX5_assign_107 : decode cX5_assign 107 = .ok (.iload_n 3, 1) := by decide +kernel
theorem dX5_assign_108 : decode cX5_assign 108 = .ok (.iadd, 1) := by decide +kernel
theorem dX5_assign_109 : decode cX5_assign 109 = .ok (.iaload, 1) := by decide +kernel
theorem dX5_assign_110 : decode cX5_assign 110 = .ok (.ireturn, 1) := by decide +kernel
theorem dX5_assigned_0 : decode cX5_assigned 0 = .ok (.aload_n 0, 1) := by decide +kernel
theorem dX5_assigned_1 : decode cX5_assigned 1 = .ok (.iload_n 1, 1) := by decide +kernel
theorem dX5_assigned_2 : decode cX5_assigned 2 = .ok (.iload_n 2, 1) := by decide +kernel
theorem dX5_assigned_3 : decode cX5_assigned 3 = .ok (.invokevirtual 162, 3) := by decide +kernel
theorem dX5_assigned_6 : decode cX5_assigned 6 = .ok (.istore 4, 2) := by decide +kernel
theorem dX5_assigned_8 : decode cX5_assigned 8 = .ok (.aload_n 0, 1) := by decide +kernel
theorem dX5_assigned_9 : decode cX5_assigned 9 = .ok (.iload_n 1, 1) := by decide +kernel
theorem dX5_assigned_10 : decode cX5_assigned 10 = .ok (.iload 4, 2) := by decide +kernel
theorem dX5_assigned_12 : decode cX5_assigned 12 = .ok (.iload_n 3, 1) := by decide +kernel
theorem dX5_assigned_13 : decode cX5_assigned 13 = .ok (.invokevirtual 152, 3) := by decide +kernel
theorem dX5_assigned_16 : decode cX5_assigned 16 = .ok (.ifCond .eq 14, 3) := by decide +kernel
theorem dX5_assigned_19 : decode cX5_assigned 19 = .ok (.aload_n 0, 1) := by decide +kernel
theorem dX5_assigned_20 : decode cX5_assigned 20 = .ok (.iload_n 1, 1) := by decide +kernel
theorem dX5_assigned_21 : decode cX5_assigned 21 = .ok (.iload_n 2, 1) := by decide +kernel
theorem dX5_assigned_22 : decode cX5_assigned 22 = .ok (.invokevirtual 162, 3) := by decide +kernel
theorem dX5_assigned_25 : decode cX5_assigned 25 = .ok (.istore 4, 2) := by decide +kernel
theorem dX5_assigned_27 : decode cX5_assigned 27 = .ok (.goto (-19), 3) := by decide +kernel
theorem dX5_assigned_30 : decode cX5_assigned 30 = .ok (.aload_n 0, 1) := by decide +kernel
theorem dX5_assigned_31 : decode cX5_assigned 31 = .ok (.iload_n 1, 1) := by decide +kernel
theorem dX5_assigned_32 : decode cX5_assigned 32 = .ok (.iload 4, 2) := by decide +kernel
theorem dX5_assigned_34 : decode cX5_assigned 34 = .ok (.invokevirtual 165, 3) := by decide +kernel
theorem dX5_assigned_37 : decode cX5_assigned 37 = .ok (.iload 4, 2) := by decide +kernel
theorem dX5_assigned_39 : decode cX5_assigned 39 = .ok (.ireturn, 1) := by decide +kernel
theorem dX5_away_0 : decode cX5_away 0 = .ok (.aload_n 0, 1) := by decide +kernel
theorem dX5_away_1 : decode cX5_away 1 = .ok (.iload_n 1, 1) := by decide +kernel
theorem dX5_away_2 : decode cX5_away 2 = .ok (.invokevirtual 139, 3) := by decide +kernel
theorem dX5_away_5 : decode cX5_away 5 = .ok (.ifCond .ne 6, 3) := by decide +kernel
theorem dX5_away_8 : decode cX5_away 8 = .ok (.bipush (-2), 2) := by decide +kernel
theorem dX5_away_10 : decode cX5_away 10 = .ok (.ireturn, 1) := by decide +kernel
theorem dX5_away_11 : decode cX5_away 11 = .ok (.iload_n 2, 1) := by decide +kernel
theorem dX5_away_12 : decode cX5_away 12 = .ok (.i2l, 1) := by decide +kernel
theorem dX5_away_13 : decode cX5_away 13 = .ok (.lconst 0, 1) := by decide +kernel
theorem dX5_away_14 : decode cX5_away 14 = .ok (.lconst 1, 1) := by decide +kernel
theorem dX5_away_15 : decode cX5_away 15 = .ok (.invokestatic 57, 3) := by decide +kernel
theorem dX5_away_18 : decode cX5_away 18 = .ok (.ifCond .ne 6, 3) := by decide +kernel
theorem dX5_away_21 : decode cX5_away 21 = .ok (.bipush (-3), 2) := by decide +kernel
theorem dX5_away_23 : decode cX5_away 23 = .ok (.ireturn, 1) := by decide +kernel
theorem dX5_away_24 : decode cX5_away 24 = .ok (.aload_n 0, 1) := by decide +kernel
theorem dX5_away_25 : decode cX5_away 25 = .ok (.getfield 7, 3) := by decide +kernel
theorem dX5_away_28 : decode cX5_away 28 = .ok (.iconst 4, 1) := by decide +kernel
theorem dX5_away_29 : decode cX5_away 29 = .ok (.iaload, 1) := by decide +kernel
theorem dX5_away_30 : decode cX5_away 30 = .ok (.iload_n 1, 1) := by decide +kernel
theorem dX5_away_31 : decode cX5_away 31 = .ok (.ishr, 1) := by decide +kernel
theorem dX5_away_32 : decode cX5_away 32 = .ok (.iconst 1, 1) := by decide +kernel
theorem dX5_away_33 : decode cX5_away 33 = .ok (.iand, 1) := by decide +kernel
theorem dX5_away_34 : decode cX5_away 34 = .ok (.iload_n 2, 1) := by decide +kernel
theorem dX5_away_35 : decode cX5_away 35 = .ok (.if_icmp .ne 6, 3) := by decide +kernel
theorem dX5_away_38 : decode cX5_away 38 = .ok (.bipush (-4), 2) := by decide +kernel
theorem dX5_away_40 : decode cX5_away 40 = .ok (.ireturn, 1) := by decide +kernel
theorem dX5_away_41 : decode cX5_away 41 = .ok (.aload_n 0, 1) := by decide +kernel
theorem dX5_away_42 : decode cX5_away 42 = .ok (.invokevirtual 182, 3) := by decide +kernel
theorem dX5_away_45 : decode cX5_away 45 = .ok (.aload_n 0, 1) := by decide +kernel
theorem dX5_away_46 : decode cX5_away 46 = .ok (.getfield 7, 3) := by decide +kernel
theorem dX5_away_49 : decode cX5_away 49 = .ok (.iconst 4, 1) := by decide +kernel
theorem dX5_away_50 : decode cX5_away 50 = .ok (.dup2, 1) := by decide +kernel
theorem dX5_away_51 : decode cX5_away 51 = .ok (.iaload, 1) := by decide +kernel
theorem dX5_away_52 : decode cX5_away 52 = .ok (.iconst 1, 1) := by decide +kernel
theorem dX5_away_53 : decode cX5_away 53 = .ok (.iload_n 1, 1) := by decide +kernel
theorem dX5_away_54 : decode cX5_away 54 = .ok (.ishl, 1) := by decide +kernel
theorem dX5_away_55 : decode cX5_away 55 = .ok (.ixor, 1) := by decide +kernel
theorem dX5_away_56 : decode cX5_away 56 = .ok (.iastore, 1) := by decide +kernel
theorem dX5_away_57 : decode cX5_away 57 = .ok (.iconst 1, 1) := by decide +kernel
theorem dX5_away_58 : decode cX5_away 58 = .ok (.ireturn, 1) := by decide +kernel
theorem dX5_back_0 : decode cX5_back 0 = .ok (.iload_n 1, 1) := by decide +kernel
theorem dX5_back_1 : decode cX5_back 1 = .ok (.i2l, 1) := by decide +kernel
theorem dX5_back_2 : decode cX5_back 2 = .ok (.lconst 0, 1) := by decide +kernel
theorem dX5_back_3 : decode cX5_back 3 = .ok (.lconst 1, 1) := by decide +kernel
theorem dX5_back_4 : decode cX5_back 4 = .ok (.invokestatic 57, 3) := by decide +kernel
theorem dX5_back_7 : decode cX5_back 7 = .ok (.ifCond .ne 6, 3) := by decide +kernel
theorem dX5_back_10 : decode cX5_back 10 = .ok (.bipush (-2), 2) := by decide +kernel
theorem dX5_back_12 : decode cX5_back 12 = .ok (.ireturn, 1) := by decide +kernel
theorem dX5_back_13 : decode cX5_back 13 = .ok (.aload_n 0, 1) := by decide +kernel
theorem dX5_back_14 : decode cX5_back 14 = .ok (.getfield 19, 3) := by decide +kernel
theorem dX5_back_17 : decode cX5_back 17 = .ok (.iload_n 1, 1) := by decide +kernel
theorem dX5_back_18 : decode cX5_back 18 = .ok (.baload, 1) := by decide +kernel
theorem dX5_back_19 : decode cX5_back 19 = .ok (.ifCond .ne 6, 3) := by decide +kernel
theorem dX5_back_22 : decode cX5_back 22 = .ok (.bipush (-4), 2) := by decide +kernel
theorem dX5_back_24 : decode cX5_back 24 = .ok (.ireturn, 1) := by decide +kernel
theorem dX5_back_25 : decode cX5_back 25 = .ok (.aload_n 0, 1) := by decide +kernel
theorem dX5_back_26 : decode cX5_back 26 = .ok (.sipush 693, 3) := by decide +kernel
theorem dX5_back_29 : decode cX5_back 29 = .ok (.bipush 77, 2) := by decide +kernel
theorem dX5_back_31 : decode cX5_back 31 = .ok (.iload_n 1, 1) := by decide +kernel
theorem dX5_back_32 : decode cX5_back 32 = .ok (.imul, 1) := by decide +kernel
theorem dX5_back_33 : decode cX5_back 33 = .ok (.iadd, 1) := by decide +kernel
theorem dX5_back_34 : decode cX5_back 34 = .ok (.iconst 0, 1) := by decide +kernel
theorem dX5_back_35 : decode cX5_back 35 = .ok (.invokevirtual 44, 3) := by decide +kernel
theorem dX5_back_38 : decode cX5_back 38 = .ok (.aload_n 0, 1) := by decide +kernel
theorem dX5_back_39 : decode cX5_back 39 = .ok (.iconst 0, 1) := by decide +kernel
theorem dX5_back_40 : decode cX5_back 40 = .ok (.putfield 136, 3) := by decide +kernel
theorem dX5_back_43 : decode cX5_back 43 = .ok (.aload_n 0, 1) := by decide +kernel
theorem dX5_back_44 : decode cX5_back 44 = .ok (.getfield 7, 3) := by decide +kernel
theorem dX5_back_47 : decode cX5_back 47 = .ok (.iconst 3, 1) := by decide +kernel
theorem dX5_back_48 : decode cX5_back 48 = .ok (.iaload, 1) := by decide +kernel
theorem dX5_back_49 : decode cX5_back 49 = .ok (.ireturn, 1) := by decide +kernel
theorem dX5_canCount_0 : decode cX5_canCount 0 = .ok (.iconst 1, 1) := by decide +kernel
theorem dX5_canCount_1 : decode cX5_canCount 1 = .ok (.istore_n 1, 1) := by decide +kernel
theorem dX5_canCount_2 : decode cX5_canCount 2 = .ok (.iconst 0, 1) := by decide +kernel
theorem dX5_canCount_3 : decode cX5_canCount 3 = .ok (.istore_n 2, 1) := by decide +kernel
theorem dX5_canCount_4 : decode cX5_canCount 4 = .ok (.iload_n 2, 1) := by decide +kernel
theorem dX5_canCount_5 : decode cX5_canCount 5 = .ok (.aload_n 0, 1) := by decide +kernel
theorem dX5_canCount_6 : decode cX5_canCount 6 = .ok (.getfield 7, 3) := by decide +kernel
theorem dX5_canCount_9 : decode cX5_canCount 9 = .ok (.iconst 3, 1) := by decide +kernel
theorem dX5_canCount_10 : decode cX5_canCount 10 = .ok (.iaload, 1) := by decide +kernel
theorem dX5_canCount_11 : decode cX5_canCount 11 = .ok (.if_icmp .ge 37, 3) := by decide +kernel
theorem dX5_canCount_14 : decode cX5_canCount 14 = .ok (.iload_n 1, 1) := by decide +kernel
theorem dX5_canCount_15 : decode cX5_canCount 15 = .ok (.ifCond .eq 25, 3) := by decide +kernel
theorem dX5_canCount_18 : decode cX5_canCount 18 = .ok (.aload_n 0, 1) := by decide +kernel
theorem dX5_canCount_19 : decode cX5_canCount 19 = .ok (.iconst 0, 1) := by decide +kernel
theorem dX5_canCount_20 : decode cX5_canCount 20 = .ok (.aload_n 0, 1) := by decide +kernel
theorem dX5_canCount_21 : decode cX5_canCount 21 = .ok (.getfield 7, 3) := by decide +kernel
theorem dX5_canCount_24 : decode cX5_canCount 24 = .ok (.bipush 37, 2) := by decide +kernel
theorem dX5_canCount_26 : decode cX5_canCount 26 = .ok (.iload_n 2, 1) := by decide +kernel
theorem dX5_canCount_27 : decode cX5_canCount 27 = .ok (.iadd, 1) := by decide +kernel
theorem dX5_canCount_28 : decode cX5_canCount 28 = .ok (.iaload, 1) := by decide +kernel
theorem dX5_canCount_29 : decode cX5_canCount 29 = .ok (.iconst (-1), 1) := by decide +kernel
theorem dX5_canCount_30 : decode cX5_canCount 30 = .ok (.invokevirtual 179, 3) := by decide +kernel
theorem dX5_canCount_33 : decode cX5_canCount 33 = .ok (.ifCond .eq 7, 3) := by decide +kernel
theorem dX5_canCount_36 : decode cX5_canCount 36 = .ok (.iconst 1, 1) := by decide +kernel
theorem dX5_canCount_37 : decode cX5_canCount 37 = .ok (.goto 4, 3) := by decide +kernel
theorem dX5_canCount_40 : decode cX5_canCount 40 = .ok (.iconst 0, 1) := by decide +kernel
theorem dX5_canCount_41 : decode cX5_canCount 41 = .ok (.istore_n 1, 1) := by decide +kernel
theorem dX5_canCount_42 : decode cX5_canCount 42 = .ok (.iinc 2 1, 3) := by decide +kernel
theorem dX5_canCount_45 : decode cX5_canCount 45 = .ok (.goto (-41), 3) := by decide +kernel
theorem dX5_canCount_48 : decode cX5_canCount 48 = .ok (.iload_n 1, 1) := by decide +kernel
theorem dX5_canCount_49 : decode cX5_canCount 49 = .ok (.ireturn, 1) := by decide +kernel
theorem dX5_caseOf_0 : decode cX5_caseOf 0 = .ok (.aload_n 0, 1) := by decide +kernel
theorem dX5_caseOf_1 : decode cX5_caseOf 1 = .ok (.iload_n 1, 1) := by decide +kernel
theorem dX5_caseOf_2 : decode cX5_caseOf 2 = .ok (.invokevirtual 142, 3) := by decide +kernel
theorem dX5_caseOf_5 : decode cX5_caseOf 5 = .ok (.ifCond .ne 6, 3) := by decide +kernel
theorem dX5_caseOf_8 : decode cX5_caseOf 8 = .ok (.bipush (-2), 2) := by decide +kernel
theorem dX5_caseOf_10 : decode cX5_caseOf 10 = .ok (.ireturn, 1) := by decide +kernel
theorem dX5_caseOf_11 : decode cX5_caseOf 11 = .ok (.iload_n 2, 1) := by decide +kernel
theorem dX5_caseOf_12 : decode cX5_caseOf 12 = .ok (.ifCond .ne 15, 3) := by decide +kernel
theorem dX5_caseOf_15 : decode cX5_caseOf 15 = .ok (.aload_n 0, 1) := by decide +kernel
theorem dX5_caseOf_16 : decode cX5_caseOf 16 = .ok (.getfield 7, 3) := by decide +kernel
theorem dX5_caseOf_19 : decode cX5_caseOf 19 = .ok (.bipush 17, 2) := by decide +kernel
theorem dX5_caseOf_21 : decode cX5_caseOf 21 = .ok (.iload_n 1, 1) := by decide +kernel
theorem dX5_caseOf_22 : decode cX5_caseOf 22 = .ok (.iadd, 1) := by decide +kernel
theorem dX5_caseOf_23 : decode cX5_caseOf 23 = .ok (.iaload, 1) := by decide +kernel
theorem dX5_caseOf_24 : decode cX5_caseOf 24 = .ok (.goto 39, 3) := by decide +kernel
theorem dX5_caseOf_27 : decode cX5_caseOf 27 = .ok (.iload_n 2, 1) := by decide +kernel
theorem dX5_caseOf_28 : decode cX5_caseOf 28 = .ok (.iconst 1, 1) := by decide +kernel
theorem dX5_caseOf_29 : decode cX5_caseOf 29 = .ok (.if_icmp .ne 15, 3) := by decide +kernel
theorem dX5_caseOf_32 : decode cX5_caseOf 32 = .ok (.aload_n 0, 1) := by decide +kernel
theorem dX5_caseOf_33 : decode cX5_caseOf 33 = .ok (.getfield 7, 3) := by decide +kernel
theorem dX5_caseOf_36 : decode cX5_caseOf 36 = .ok (.bipush 37, 2) := by decide +kernel
theorem dX5_caseOf_38 : decode cX5_caseOf 38 = .ok (.iload_n 1, 1) := by decide +kernel
theorem dX5_caseOf_39 : decode cX5_caseOf 39 = .ok (.iadd, 1) := by decide +kernel
theorem dX5_caseOf_40 : decode cX5_caseOf 40 = .ok (.iaload, 1) := by decide +kernel
theorem dX5_caseOf_41 : decode cX5_caseOf 41 = .ok (.goto 22, 3) := by decide +kernel
theorem dX5_caseOf_44 : decode cX5_caseOf 44 = .ok (.iload_n 2, 1) := by decide +kernel
theorem dX5_caseOf_45 : decode cX5_caseOf 45 = .ok (.iconst 2, 1) := by decide +kernel
theorem dX5_caseOf_46 : decode cX5_caseOf 46 = .ok (.if_icmp .ne 15, 3) := by decide +kernel
theorem dX5_caseOf_49 : decode cX5_caseOf 49 = .ok (.aload_n 0, 1) := by decide +kernel
theorem dX5_caseOf_50 : decode cX5_caseOf 50 = .ok (.getfield 7, 3) := by decide +kernel
theorem dX5_caseOf_53 : decode cX5_caseOf 53 = .ok (.bipush 57, 2) := by decide +kernel
theorem dX5_caseOf_55 : decode cX5_caseOf 55 = .ok (.iload_n 1, 1) := by decide +kernel
theorem dX5_caseOf_56 : decode cX5_caseOf 56 = .ok (.iadd, 1) := by decide +kernel
theorem dX5_caseOf_57 : decode cX5_caseOf 57 = .ok (.iaload, 1) := by decide +kernel
theorem dX5_caseOf_58 : decode cX5_caseOf 58 = .ok (.goto 5, 3) := by decide +kernel
theorem dX5_caseOf_61 : decode cX5_caseOf 61 = .ok (.bipush (-3), 2) := by decide +kernel
theorem dX5_caseOf_63 : decode cX5_caseOf 63 = .ok (.ireturn, 1) := by decide +kernel
theorem dX5_copyRow_0 : decode cX5_copyRow 0 = .ok (.iconst 0, 1) := by decide +kernel
theorem dX5_copyRow_1 : decode cX5_copyRow 1 = .ok (.istore_n 3, 1) := by decide +kernel
theorem dX5_copyRow_2 : decode cX5_copyRow 2 = .ok (.iload_n 3, 1) := by decide +kernel
theorem dX5_copyRow_3 : decode cX5_copyRow 3 = .ok (.bipush 77, 2) := by decide +kernel
theorem dX5_copyRow_5 : decode cX5_copyRow 5 = .ok (.if_icmp .ge 25, 3) := by decide +kernel
theorem dX5_copyRow_8 : decode cX5_copyRow 8 = .ok (.aload_n 0, 1) := by decide +kernel
theorem dX5_copyRow_9 : decode cX5_copyRow 9 = .ok (.getfield 7, 3) := by decide +kernel
theorem dX5_copyRow_12 : decode cX5_copyRow 12 = .ok (.iload_n 2, 1) := by decide +kernel
theorem dX5_copyRow_13 : decode cX5_copyRow 13 = .ok (.iload_n 3, 1) := by decide +kernel
theorem dX5_copyRow_14 : decode cX5_copyRow 14 = .ok (.iadd, 1) := by decide +kernel
theorem dX5_copyRow_15 : decode cX5_copyRow 15 = .ok (.aload_n 0, 1) := by decide +kernel
theorem dX5_copyRow_16 : decode cX5_copyRow 16 = .ok (.getfield 7, 3) := by decide +kernel
theorem dX5_copyRow_19 : decode cX5_copyRow 19 = .ok (.iload_n 1, 1) := by decide +kernel
theorem dX5_copyRow_20 : decode cX5_copyRow 20 = .ok (.iload_n 3, 1) := by decide +kernel
theorem dX5_copyRow_21 : decode cX5_copyRow 21 = .ok (.iadd, 1) := by decide +kernel
theorem dX5_copyRow_22 : decode cX5_copyRow 22 = .ok (.iaload, 1) := by decide +kernel
theorem dX5_copyRow_23 : decode cX5_copyRow 23 = .ok (.iastore, 1) := by decide +kernel
theorem dX5_copyRow_24 : decode cX5_copyRow 24 = .ok (.iinc 3 1, 3) := by decide +kernel
theorem dX5_copyRow_27 : decode cX5_copyRow 27 = .ok (.goto (-25), 3) := by decide +kernel
theorem dX5_copyRow_30 : decode cX5_copyRow 30 = .ok (.return_, 1) := by decide +kernel
theorem dX5_count_0 : decode cX5_count 0 = .ok (.iload_n 1, 1) := by decide +kernel
theorem dX5_count_1 : decode cX5_count 1 = .ok (.iconst 1, 1) := by decide +kernel
theorem dX5_count_2 : decode cX5_count 2 = .ok (.if_icmp .lt 13, 3) := by decide +kernel
theorem dX5_count_5 : decode cX5_count 5 = .ok (.iload_n 2, 1) := by decide +kernel
theorem dX5_count_6 : decode cX5_count 6 = .ok (.i2l, 1) := by decide +kernel
theorem dX5_count_7 : decode cX5_count 7 = .ok (.lconst 0, 1) := by decide +kernel
theorem dX5_count_8 : decode cX5_count 8 = .ok (.lconst 1, 1) := by decide +kernel
theorem dX5_count_9 : decode cX5_count 9 = .ok (.invokestatic 57, 3) := by decide +kernel
theorem dX5_count_12 : decode cX5_count 12 = .ok (.ifCond .ne 6, 3) := by decide +kernel
theorem dX5_count_15 : decode cX5_count 15 = .ok (.bipush (-3), 2) := by decide +kernel
theorem dX5_count_17 : decode cX5_count 17 = .ok (.ireturn, 1) := by decide +kernel
theorem dX5_count_18 : decode cX5_count 18 = .ok (.aload_n 0, 1) := by decide +kernel
theorem dX5_count_19 : decode cX5_count 19 = .ok (.invokevirtual 200, 3) := by decide +kernel
theorem dX5_count_22 : decode cX5_count 22 = .ok (.ifCond .ne 6, 3) := by decide +kernel
theorem dX5_count_25 : decode cX5_count 25 = .ok (.bipush (-4), 2) := by decide +kernel
theorem dX5_count_27 : decode cX5_count 27 = .ok (.ireturn, 1) := by decide +kernel
theorem dX5_count_28 : decode cX5_count 28 = .ok (.aload_n 0, 1) := by decide +kernel
theorem dX5_count_29 : decode cX5_count 29 = .ok (.iload_n 1, 1) := by decide +kernel
theorem dX5_count_30 : decode cX5_count 30 = .ok (.invokevirtual 203, 3) := by decide +kernel
theorem dX5_count_33 : decode cX5_count 33 = .ok (.istore_n 3, 1) := by decide +kernel
theorem dX5_count_34 : decode cX5_count 34 = .ok (.iload_n 2, 1) := by decide +kernel
theorem dX5_count_35 : decode cX5_count 35 = .ok (.ifCond .ne 7, 3) := by decide +kernel
theorem dX5_count_38 : decode cX5_count 38 = .ok (.iload_n 3, 1) := by decide +kernel
theorem dX5_count_39 : decode cX5_count 39 = .ok (.goto 11, 3) := by decide +kernel
theorem dX5_count_42 : decode cX5_count 42 = .ok (.aload_n 0, 1) := by decide +kernel
theorem dX5_count_43 : decode cX5_count 43 = .ok (.getfield 7, 3) := by decide +kernel
theorem dX5_count_46 : decode cX5_count 46 = .ok (.sipush 926, 3) := by decide +kernel
theorem dX5_count_49 : decode cX5_count 49 = .ok (.iaload, 1) := by decide +kernel
theorem dX5_count_50 : decode cX5_count 50 = .ok (.ireturn, 1) := by decide +kernel
theorem dX5_cut_0 : decode cX5_cut 0 = .ok (.iload_n 1, 1) := by decide +kernel
theorem dX5_cut_1 : decode cX5_cut 1 = .ok (.invokestatic 210, 3) := by decide +kernel
theorem dX5_cut_4 : decode cX5_cut 4 = .ok (.ifCond .ne 6, 3) := by decide +kernel
theorem dX5_cut_7 : decode cX5_cut 7 = .ok (.bipush (-2), 2) := by decide +kernel
theorem dX5_cut_9 : decode cX5_cut 9 = .ok (.ireturn, 1) := by decide +kernel
theorem dX5_cut_10 : decode cX5_cut 10 = .ok (.aload_n 0, 1) := by decide +kernel
theorem dX5_cut_11 : decode cX5_cut 11 = .ok (.getfield 26, 3) := by decide +kernel
theorem dX5_cut_14 : decode cX5_cut 14 = .ok (.iload_n 1, 1) := by decide +kernel
theorem dX5_cut_15 : decode cX5_cut 15 = .ok (.iaload, 1) := by decide +kernel
theorem dX5_cut_16 : decode cX5_cut 16 = .ok (.ifCond .ge 6, 3) := by decide +kernel
theorem dX5_cut_19 : decode cX5_cut 19 = .ok (.bipush (-11), 2) := by decide +kernel
theorem dX5_cut_21 : decode cX5_cut 21 = .ok (.ireturn, 1) := by decide +kernel
theorem dX5_cut_22 : decode cX5_cut 22 = .ok (.iload_n 2, 1) := by decide +kernel
theorem dX5_cut_23 : decode cX5_cut 23 = .ok (.ifCond .lt 18, 3) := by decide +kernel
theorem dX5_cut_26 : decode cX5_cut 26 = .ok (.iload_n 3, 1) := by decide +kernel
theorem dX5_cut_27 : decode cX5_cut 27 = .ok (.iload_n 2, 1) := by decide +kernel
theorem dX5_cut_28 : decode cX5_cut 28 = .ok (.if_icmp .lt 13, 3) := by decide +kernel
theorem dX5_cut_31 : decode cX5_cut 31 = .ok (.iload_n 3, 1) := by decide +kernel
theorem dX5_cut_32 : decode cX5_cut 32 = .ok (.aload_n 0, 1) := by decide +kernel
theorem dX5_cut_33 : decode cX5_cut 33 = .ok (.getfield 26, 3) := by decide +kernel
theorem dX5_cut_36 : decode cX5_cut 36 = .ok (.iload_n 1, 1) := by decide +kernel
theorem dX5_cut_37 : decode cX5_cut 37 = .ok (.iaload, 1) := by decide +kernel
theorem dX5_cut_38 : decode cX5_cut 38 = .ok (.if_icmp .le 6, 3) := by decide +kernel
theorem dX5_cut_41 : decode cX5_cut 41 = .ok (.bipush (-12), 2) := by decide +kernel
theorem dX5_cut_43 : decode cX5_cut 43 = .ok (.ireturn, 1) := by decide +kernel
theorem dX5_cut_44 : decode cX5_cut 44 = .ok (.iload_n 3, 1) := by decide +kernel
theorem dX5_cut_45 : decode cX5_cut 45 = .ok (.istore 4, 2) := by decide +kernel
theorem dX5_cut_47 : decode cX5_cut 47 = .ok (.iload 4, 2) := by decide +kernel
theorem dX5_cut_49 : decode cX5_cut 49 = .ok (.aload_n 0, 1) := by decide +kernel
theorem dX5_cut_50 : decode cX5_cut 50 = .ok (.getfield 26, 3) := by decide +kernel
theorem dX5_cut_53 : decode cX5_cut 53 = .ok (.iload_n 1, 1) := by decide +kernel
theorem dX5_cut_54 : decode cX5_cut 54 = .ok (.iaload, 1) := by decide +kernel
theorem dX5_cut_55 : decode cX5_cut 55 = .ok (.if_icmp .ge 37, 3) := by decide +kernel
theorem dX5_cut_58 : decode cX5_cut 58 = .ok (.aload_n 0, 1) := by decide +kernel
theorem dX5_cut_59 : decode cX5_cut 59 = .ok (.getfield 29, 3) := by decide +kernel
theorem dX5_cut_62 : decode cX5_cut 62 = .ok (.bipush 40, 2) := by decide +kernel
theorem dX5_cut_64 : decode cX5_cut 64 = .ok (.iload_n 1, 1) := by decide +kernel
theorem dX5_cut_65 : decode cX5_cut 65 = .ok (.imul, 1) := by decide +kernel
theorem dX5_cut_66 : decode cX5_cut 66 = .ok (.iload_n 2, 1) := by decide +kernel
theorem dX5_cut_67 : decode cX5_cut 67 = .ok (.iadd, 1) := by decide +kernel
theorem dX5_cut_68 : decode cX5_cut 68 = .ok (.iload 4, 2) := by decide +kernel
theorem dX5_cut_70 : decode cX5_cut 70 = .ok (.iadd, 1) := by decide +kernel
theorem dX5_cut_71 : decode cX5_cut 71 = .ok (.iload_n 3, 1) := by decide +kernel
theorem dX5_cut_72 : decode cX5_cut 72 = .ok (.isub, 1) := by decide +kernel
theorem dX5_cut_73 : decode cX5_cut 73 = .ok (.aload_n 0, 1) := by decide +kernel
theorem dX5_cut_74 : decode cX5_cut 74 = .ok (.getfield 29, 3) := by decide +kernel
theorem dX5_cut_77 : decode cX5_cut 77 = .ok (.bipush 40, 2) := by decide +kernel
theorem dX5_cut_79 : decode cX5_cut 79 = .ok (.iload_n 1, 1) := by decide +kernel
theorem dX5_cut_80 : decode cX5_cut 80 = .ok (.imul, 1) := by decide +kernel
theorem dX5_cut_81 : decode cX5_cut 81 = .ok (.iload 4, 2) := by decide +kernel
theorem dX5_cut_83 : decode cX5_cut 83 = .ok (.iadd, 1) := by decide +kernel
theorem dX5_cut_84 : decode cX5_cut 84 = .ok (.iaload, 1) := by decide +kernel
theorem dX5_cut_85 : decode cX5_cut 85 = .ok (.iastore, 1) := by decide +kernel
theorem dX5_cut_86 : decode cX5_cut 86 = .ok (.iinc 4 1, 3) := by decide +kernel
theorem dX5_cut_89 : decode cX5_cut 89 = .ok (.goto (-42), 3) := by decide +kernel
theorem dX5_cut_92 : decode cX5_cut 92 = .ok (.aload_n 0, 1) := by decide +kernel
theorem dX5_cut_93 : decode cX5_cut 93 = .ok (.getfield 26, 3) := by decide +kernel
theorem dX5_cut_96 : decode cX5_cut 96 = .ok (.iload_n 1, 1) := by decide +kernel
theorem dX5_cut_97 : decode cX5_cut 97 = .ok (.dup2, 1) := by decide +kernel
theorem dX5_cut_98 : decode cX5_cut 98 = .ok (.iaload, 1) := by decide +kernel
theorem dX5_cut_99 : decode cX5_cut 99 = .ok (.iload_n 3, 1) := by decide +kernel
theorem dX5_cut_100 : decode cX5_cut 100 = .ok (.iload_n 2, 1) := by decide +kernel
theorem dX5_cut_101 : decode cX5_cut 101 = .ok (.isub, 1) := by decide +kernel
theorem dX5_cut_102 : decode cX5_cut 102 = .ok (.isub, 1) := by decide +kernel
theorem dX5_cut_103 : decode cX5_cut 103 = .ok (.iastore, 1) := by decide +kernel
theorem dX5_cut_104 : decode cX5_cut 104 = .ok (.aload_n 0, 1) := by decide +kernel
theorem dX5_cut_105 : decode cX5_cut 105 = .ok (.getfield 26, 3) := by decide +kernel
theorem dX5_cut_108 : decode cX5_cut 108 = .ok (.iload_n 1, 1) := by decide +kernel
theorem dX5_cut_109 : decode cX5_cut 109 = .ok (.iaload, 1) := by decide +kernel
theorem dX5_cut_110 : decode cX5_cut 110 = .ok (.ireturn, 1) := by decide +kernel
theorem dX5_does_0 : decode cX5_does 0 = .ok (.iload_n 1, 1) := by decide +kernel
theorem dX5_does_1 : decode cX5_does 1 = .ok (.tableswitch 128 4 7 #[31, 38, 81, 108], 31) := by decide +kernel
theorem dX5_does_32 : decode cX5_does 32 = .ok (.aload_n 0, 1) := by decide +kernel
theorem dX5_does_33 : decode cX5_does 33 = .ok (.invokevirtual 41, 3) := by decide +kernel
theorem dX5_does_36 : decode cX5_does 36 = .ok (.goto 103, 3) := by decide +kernel
theorem dX5_does_39 : decode cX5_does 39 = .ok (.aload_n 0, 1) := by decide +kernel
theorem dX5_does_40 : decode cX5_does 40 = .ok (.getfield 13, 3) := by decide +kernel
theorem dX5_does_43 : decode cX5_does 43 = .ok (.aload_n 0, 1) := by decide +kernel
theorem dX5_does_44 : decode cX5_does 44 = .ok (.getfield 48, 3) := by decide +kernel
theorem dX5_does_47 : decode cX5_does 47 = .ok (.aload_n 0, 1) := by decide +kernel
theorem dX5_does_48 : decode cX5_does 48 = .ok (.getfield 32, 3) := by decide +kernel
theorem dX5_does_51 : decode cX5_does 51 = .ok (.iconst 0, 1) := by decide +kernel
theorem dX5_does_52 : decode cX5_does 52 = .ok (.iaload, 1) := by decide +kernel
theorem dX5_does_53 : decode cX5_does 53 = .ok (.iastore, 1) := by decide +kernel
theorem dX5_does_54 : decode cX5_does 54 = .ok (.aload_n 0, 1) := by decide +kernel
theorem dX5_does_55 : decode cX5_does 55 = .ok (.getfield 16, 3) := by decide +kernel
theorem dX5_does_58 : decode cX5_does 58 = .ok (.aload_n 0, 1) := by decide +kernel
theorem dX5_does_59 : decode cX5_does 59 = .ok (.getfield 48, 3) := by decide +kernel
theorem dX5_does_62 : decode cX5_does 62 = .ok (.aload_n 0, 1) := by decide +kernel
theorem dX5_does_63 : decode cX5_does 63 = .ok (.getfield 32, 3) := by decide +kernel
theorem dX5_does_66 : decode cX5_does 66 = .ok (.iconst 1, 1) := by decide +kernel
theorem dX5_does_67 : decode cX5_does 67 = .ok (.iaload, 1) := by decide +kernel
theorem dX5_does_68 : decode cX5_does 68 = .ok (.iastore, 1) := by decide +kernel
theorem dX5_does_69 : decode cX5_does 69 = .ok (.aload_n 0, 1) := by decide +kernel
theorem dX5_does_70 : decode cX5_does 70 = .ok (.dup, 1) := by decide +kernel
theorem dX5_does_71 : decode cX5_does 71 = .ok (.getfield 48, 3) := by decide +kernel
theorem dX5_does_74 : decode cX5_does 74 = .ok (.iconst 1, 1) := by decide +kernel
theorem dX5_does_75 : decode cX5_does 75 = .ok (.iadd, 1) := by decide +kernel
theorem dX5_does_76 : decode cX5_does 76 = .ok (.putfield 48, 3) := by decide +kernel
theorem dX5_does_79 : decode cX5_does 79 = .ok (.goto 60, 3) := by decide +kernel
theorem dX5_does_82 : decode cX5_does 82 = .ok (.aload_n 0, 1) := by decide +kernel
theorem dX5_does_83 : decode cX5_does 83 = .ok (.getfield 7, 3) := by decide +kernel
theorem dX5_does_86 : decode cX5_does 86 = .ok (.iconst 5, 1) := by decide +kernel
theorem dX5_does_87 : decode cX5_does 87 = .ok (.aload_n 0, 1) := by decide +kernel
theorem dX5_does_88 : decode cX5_does 88 = .ok (.getfield 32, 3) := by decide +kernel
theorem dX5_does_91 : decode cX5_does 91 = .ok (.iconst 0, 1) := by decide +kernel
theorem dX5_does_92 : decode cX5_does 92 = .ok (.iaload, 1) := by decide +kernel
theorem dX5_does_93 : decode cX5_does 93 = .ok (.iadd, 1) := by decide +kernel
theorem dX5_does_94 : decode cX5_does 94 = .ok (.dup2, 1) := by decide +kernel
theorem dX5_does_95 : decode cX5_does 95 = .ok (.iaload, 1) := by decide +kernel
theorem dX5_does_96 : decode cX5_does 96 = .ok (.iconst 1, 1) := by decide +kernel
theorem dX5_does_97 : decode cX5_does 97 = .ok (.aload_n 0, 1) := by decide +kernel
theorem dX5_does_98 : decode cX5_does 98 = .ok (.getfield 32, 3) := by decide +kernel
theorem dX5_does_101 : decode cX5_does 101 = .ok (.iconst 1, 1) := by decide +kernel
theorem dX5_does_102 : decode cX5_does 102 = .ok (.iaload, 1) := by decide +kernel
theorem dX5_does_103 : decode cX5_does 103 = .ok (.ishl, 1) := by decide +kernel
theorem dX5_does_104 : decode cX5_does 104 = .ok (.ior, 1) := by decide +kernel
theorem dX5_does_105 : decode cX5_does 105 = .ok (.iastore, 1) := by decide +kernel
theorem dX5_does_106 : decode cX5_does 106 = .ok (.goto 33, 3) := by decide +kernel
theorem dX5_does_109 : decode cX5_does 109 = .ok (.aload_n 0, 1) := by decide +kernel
theorem dX5_does_110 : decode cX5_does 110 = .ok (.getfield 7, 3) := by decide +kernel
theorem dX5_does_113 : decode cX5_does 113 = .ok (.iconst 4, 1) := by decide +kernel
theorem dX5_does_114 : decode cX5_does 114 = .ok (.dup2, 1) := by decide +kernel
theorem dX5_does_115 : decode cX5_does 115 = .ok (.iaload, 1) := by decide +kernel
theorem dX5_does_116 : decode cX5_does 116 = .ok (.iconst 1, 1) := by decide +kernel
theorem dX5_does_117 : decode cX5_does 117 = .ok (.aload_n 0, 1) := by decide +kernel
theorem dX5_does_118 : decode cX5_does 118 = .ok (.getfield 32, 3) := by decide +kernel
theorem dX5_does_121 : decode cX5_does 121 = .ok (.iconst 0, 1) := by decide +kernel
theorem dX5_does_122 : decode cX5_does 122 = .ok (.iaload, 1) := by decide +kernel
theorem dX5_does_123 : decode cX5_does 123 = .ok (.ishl, 1) := by decide +kernel
theorem dX5_does_124 : decode cX5_does 124 = .ok (.ior, 1) := by decide +kernel
theorem dX5_does_125 : decode cX5_does 125 = .ok (.iastore, 1) := by decide +kernel
theorem dX5_does_126 : decode cX5_does 126 = .ok (.goto 13, 3) := by decide +kernel
theorem dX5_does_129 : decode cX5_does 129 = .ok (.aload_n 0, 1) := by decide +kernel
theorem dX5_does_130 : decode cX5_does 130 = .ok (.aload_n 0, 1) := by decide +kernel
theorem dX5_does_131 : decode cX5_does 131 = .ok (.getfield 32, 3) := by decide +kernel
theorem dX5_does_134 : decode cX5_does 134 = .ok (.iconst 0, 1) := by decide +kernel
theorem dX5_does_135 : decode cX5_does 135 = .ok (.iaload, 1) := by decide +kernel
theorem dX5_does_136 : decode cX5_does 136 = .ok (.putfield 52, 3) := by decide +kernel
theorem dX5_does_139 : decode cX5_does 139 = .ok (.return_, 1) := by decide +kernel
theorem dX5_drawFor_0 : decode cX5_drawFor 0 = .ok (.ldc2_w 145, 3) := by decide +kernel
theorem dX5_drawFor_3 : decode cX5_drawFor 3 = .ok (.iload_n 2, 1) := by decide +kernel
theorem dX5_drawFor_4 : decode cX5_drawFor 4 = .ok (.i2l, 1) := by decide +kernel
theorem dX5_drawFor_5 : decode cX5_drawFor 5 = .ok (.ldiv, 1) := by decide +kernel
theorem dX5_drawFor_6 : decode cX5_drawFor 6 = .ok (.iload_n 2, 1) := by decide +kernel
theorem dX5_drawFor_7 : decode cX5_drawFor 7 = .ok (.i2l, 1) := by decide +kernel
theorem dX5_drawFor_8 : decode cX5_drawFor 8 = .ok (.lmul, 1) := by decide +kernel
theorem dX5_drawFor_9 : decode cX5_drawFor 9 = .ok (.lstore_n 3, 1) := by decide +kernel
theorem dX5_drawFor_10 : decode cX5_drawFor 10 = .ok (.ldc 147, 2) := by decide +kernel
theorem dX5_drawFor_12 : decode cX5_drawFor 12 = .ok (.istore 5, 2) := by decide +kernel
theorem dX5_drawFor_14 : decode cX5_drawFor 14 = .ok (.iconst 0, 1) := by decide +kernel
theorem dX5_drawFor_15 : decode cX5_drawFor 15 = .ok (.istore 6, 2) := by decide +kernel
theorem dX5_drawFor_17 : decode cX5_drawFor 17 = .ok (.iload 6, 2) := by decide +kernel
theorem dX5_drawFor_19 : decode cX5_drawFor 19 = .ok (.ifCond .ne 64, 3) := by decide +kernel
theorem dX5_drawFor_22 : decode cX5_drawFor 22 = .ok (.aload_n 0, 1) := by decide +kernel
theorem dX5_drawFor_23 : decode cX5_drawFor 23 = .ok (.getfield 7, 3) := by decide +kernel
theorem dX5_drawFor_26 : decode cX5_drawFor 26 = .ok (.iload_n 1, 1) := by decide +kernel
theorem dX5_drawFor_27 : decode cX5_drawFor 27 = .ok (.iconst 1, 1) := by decide +kernel
theorem dX5_drawFor_28 : decode cX5_drawFor 28 = .ok (.iadd, 1) := by decide +kernel
theorem dX5_drawFor_29 : decode cX5_drawFor 29 = .ok (.aload_n 0, 1) := by decide +kernel
theorem dX5_drawFor_30 : decode cX5_drawFor 30 = .ok (.getfield 7, 3) := by decide +kernel
theorem dX5_drawFor_33 : decode cX5_drawFor 33 = .ok (.iload_n 1, 1) := by decide +kernel
theorem dX5_drawFor_34 : decode cX5_drawFor 34 = .ok (.iconst 1, 1) := by decide +kernel
theorem dX5_drawFor_35 : decode cX5_drawFor 35 = .ok (.iadd, 1) := by decide +kernel
theorem dX5_drawFor_36 : decode cX5_drawFor 36 = .ok (.iaload, 1) := by decide +kernel
theorem dX5_drawFor_37 : decode cX5_drawFor 37 = .ok (.invokestatic 148, 3) := by decide +kernel
theorem dX5_drawFor_40 : decode cX5_drawFor 40 = .ok (.iastore, 1) := by decide +kernel
theorem dX5_drawFor_41 : decode cX5_drawFor 41 = .ok (.aload_n 0, 1) := by decide +kernel
theorem dX5_drawFor_42 : decode cX5_drawFor 42 = .ok (.getfield 7, 3) := by decide +kernel
theorem dX5_drawFor_45 : decode cX5_drawFor 45 = .ok (.iload_n 1, 1) := by decide +kernel
theorem dX5_drawFor_46 : decode cX5_drawFor 46 = .ok (.iconst 2, 1) := by decide +kernel
theorem dX5_drawFor_47 : decode cX5_drawFor 47 = .ok (.iadd, 1) := by decide +kernel
theorem dX5_drawFor_48 : decode cX5_drawFor 48 = .ok (.dup2, 1) := by decide +kernel
theorem dX5_drawFor_49 : decode cX5_drawFor 49 = .ok (.iaload, 1) := by decide +kernel
theorem dX5_drawFor_50 : decode cX5_drawFor 50 = .ok (.iconst 1, 1) := by decide +kernel
theorem dX5_drawFor_51 : decode cX5_drawFor 51 = .ok (.iadd, 1) := by decide +kernel
theorem dX5_drawFor_52 : decode cX5_drawFor 52 = .ok (.iastore, 1) := by decide +kernel
theorem dX5_drawFor_53 : decode cX5_drawFor 53 = .ok (.aload_n 0, 1) := by decide +kernel
theorem dX5_drawFor_54 : decode cX5_drawFor 54 = .ok (.getfield 7, 3) := by decide +kernel
theorem dX5_drawFor_57 : decode cX5_drawFor 57 = .ok (.iload_n 1, 1) := by decide +kernel
theorem dX5_drawFor_58 : decode cX5_drawFor 58 = .ok (.iconst 1, 1) := by decide +kernel
theorem dX5_drawFor_59 : decode cX5_drawFor 59 = .ok (.iadd, 1) := by decide +kernel
theorem dX5_drawFor_60 : decode cX5_drawFor 60 = .ok (.iaload, 1) := by decide +kernel
theorem dX5_drawFor_61 : decode cX5_drawFor 61 = .ok (.iconst 1, 1) := by decide +kernel
theorem dX5_drawFor_62 : decode cX5_drawFor 62 = .ok (.iushr, 1) := by decide +kernel
theorem dX5_drawFor_63 : decode cX5_drawFor 63 = .ok (.istore 5, 2) := by decide +kernel
theorem dX5_drawFor_65 : decode cX5_drawFor 65 = .ok (.iload 5, 2) := by decide +kernel
theorem dX5_drawFor_67 : decode cX5_drawFor 67 = .ok (.i2l, 1) := by decide +kernel
theorem dX5_drawFor_68 : decode cX5_drawFor 68 = .ok (.lload_n 3, 1) := by decide +kernel
theorem dX5_drawFor_69 : decode cX5_drawFor 69 = .ok (.lcmp, 1) := by decide +kernel
theorem dX5_drawFor_70 : decode cX5_drawFor 70 = .ok (.ifCond .ge 7, 3) := by decide +kernel
theorem dX5_drawFor_73 : decode cX5_drawFor 73 = .ok (.iconst 1, 1) := by decide +kernel
theorem dX5_drawFor_74 : decode cX5_drawFor 74 = .ok (.goto 4, 3) := by decide +kernel
theorem dX5_drawFor_77 : decode cX5_drawFor 77 = .ok (.iconst 0, 1) := by decide +kernel
theorem dX5_drawFor_78 : decode cX5_drawFor 78 = .ok (.istore 6, 2) := by decide +kernel
theorem dX5_drawFor_80 : decode cX5_drawFor 80 = .ok (.goto (-63), 3) := by decide +kernel
theorem dX5_drawFor_83 : decode cX5_drawFor 83 = .ok (.iload 5, 2) := by decide +kernel
theorem dX5_drawFor_85 : decode cX5_drawFor 85 = .ok (.iload_n 2, 1) := by decide +kernel
theorem dX5_drawFor_86 : decode cX5_drawFor 86 = .ok (.irem, 1) := by decide +kernel
theorem dX5_drawFor_87 : decode cX5_drawFor 87 = .ok (.ireturn, 1) := by decide +kernel
theorem dX5_drawOnce_0 : decode cX5_drawOnce 0 = .ok (.iconst 0, 1) := by decide +kernel
theorem dX5_drawOnce_1 : decode cX5_drawOnce 1 = .ok (.istore_n 3, 1) := by decide +kernel
theorem dX5_drawOnce_2 : decode cX5_drawOnce 2 = .ok (.iconst 0, 1) := by decide +kernel
theorem dX5_drawOnce_3 : decode cX5_drawOnce 3 = .ok (.istore 4, 2) := by decide +kernel
theorem dX5_drawOnce_5 : decode cX5_drawOnce 5 = .ok (.iload 4, 2) := by decide +kernel
theorem dX5_drawOnce_7 : decode cX5_drawOnce 7 = .ok (.aload_n 0, 1) := by decide +kernel
theorem dX5_drawOnce_8 : decode cX5_drawOnce 8 = .ok (.getfield 48, 3) := by decide +kernel
theorem dX5_drawOnce_11 : decode cX5_drawOnce 11 = .ok (.if_icmp .ge 20, 3) := by decide +kernel
theorem dX5_drawOnce_14 : decode cX5_drawOnce 14 = .ok (.iload_n 3, 1) := by decide +kernel
theorem dX5_drawOnce_15 : decode cX5_drawOnce 15 = .ok (.aload_n 0, 1) := by decide +kernel
theorem dX5_drawOnce_16 : decode cX5_drawOnce 16 = .ok (.iload_n 1, 1) := by decide +kernel
theorem dX5_drawOnce_17 : decode cX5_drawOnce 17 = .ok (.iload 4, 2) := by decide +kernel
theorem dX5_drawOnce_19 : decode cX5_drawOnce 19 = .ok (.iload_n 2, 1) := by decide +kernel
theorem dX5_drawOnce_20 : decode cX5_drawOnce 20 = .ok (.invokevirtual 155, 3) := by decide +kernel
theorem dX5_drawOnce_23 : decode cX5_drawOnce 23 = .ok (.iadd, 1) := by decide +kernel
theorem dX5_drawOnce_24 : decode cX5_drawOnce 24 = .ok (.istore_n 3, 1) := by decide +kernel
theorem dX5_drawOnce_25 : decode cX5_drawOnce 25 = .ok (.iinc 4 1, 3) := by decide +kernel
theorem dX5_drawOnce_28 : decode cX5_drawOnce 28 = .ok (.goto (-23), 3) := by decide +kernel
theorem dX5_drawOnce_31 : decode cX5_drawOnce 31 = .ok (.aload_n 0, 1) := by decide +kernel
theorem dX5_drawOnce_32 : decode cX5_drawOnce 32 = .ok (.iload_n 1, 1) := by decide +kernel
theorem dX5_drawOnce_33 : decode cX5_drawOnce 33 = .ok (.iload_n 3, 1) := by decide +kernel
theorem dX5_drawOnce_34 : decode cX5_drawOnce 34 = .ok (.invokevirtual 159, 3) := by decide +kernel
theorem dX5_drawOnce_37 : decode cX5_drawOnce 37 = .ok (.istore 4, 2) := by decide +kernel
theorem dX5_drawOnce_39 : decode cX5_drawOnce 39 = .ok (.iconst 0, 1) := by decide +kernel
theorem dX5_drawOnce_40 : decode cX5_drawOnce 40 = .ok (.istore 5, 2) := by decide +kernel
theorem dX5_drawOnce_42 : decode cX5_drawOnce 42 = .ok (.aload_n 0, 1) := by decide +kernel
theorem dX5_drawOnce_43 : decode cX5_drawOnce 43 = .ok (.iload_n 1, 1) := by decide +kernel
theorem dX5_drawOnce_44 : decode cX5_drawOnce 44 = .ok (.iconst 0, 1) := by decide +kernel
theorem dX5_drawOnce_45 : decode cX5_drawOnce 45 = .ok (.iload_n 2, 1) := by decide +kernel
theorem dX5_drawOnce_46 : decode cX5_drawOnce 46 = .ok (.invokevirtual 155, 3) := by decide +kernel
theorem dX5_drawOnce_49 : decode cX5_drawOnce 49 = .ok (.istore 6, 2) := by decide +kernel
theorem dX5_drawOnce_51 : decode cX5_drawOnce 51 = .ok (.iload 6, 2) := by decide +kernel
theorem dX5_drawOnce_53 : decode cX5_drawOnce 53 = .ok (.iload 4, 2) := by decide +kernel
theorem dX5_drawOnce_55 : decode cX5_drawOnce 55 = .ok (.if_icmp .gt 22, 3) := by decide +kernel
theorem dX5_drawOnce_58 : decode cX5_drawOnce 58 = .ok (.iinc 5 1, 3) := by decide +kernel
theorem dX5_drawOnce_61 : decode cX5_drawOnce 61 = .ok (.iload 6, 2) := by decide +kernel
theorem dX5_drawOnce_63 : decode cX5_drawOnce 63 = .ok (.aload_n 0, 1) := by decide +kernel
theorem dX5_drawOnce_64 : decode cX5_drawOnce 64 = .ok (.iload_n 1, 1) := by decide +kernel
theorem dX5_drawOnce_65 : decode cX5_drawOnce 65 = .ok (.iload 5, 2) := by decide +kernel
theorem dX5_drawOnce_67 : decode cX5_drawOnce 67 = .ok (.iload_n 2, 1) := by decide +kernel
theorem dX5_drawOnce_68 : decode cX5_drawOnce 68 = .ok (.invokevirtual 155, 3) := by decide +kernel
theorem dX5_drawOnce_71 : decode cX5_drawOnce 71 = .ok (.iadd, 1) := by decide +kernel
theorem dX5_drawOnce_72 : decode cX5_drawOnce 72 = .ok (.istore 6, 2) := by decide +kernel
theorem dX5_drawOnce_74 : decode cX5_drawOnce 74 = .ok (.goto (-23), 3) := by decide +kernel
theorem dX5_drawOnce_77 : decode cX5_drawOnce 77 = .ok (.iload 5, 2) := by decide +kernel
theorem dX5_drawOnce_79 : decode cX5_drawOnce 79 = .ok (.ireturn, 1) := by decide +kernel
theorem dX5_drop_0 : decode cX5_drop 0 = .ok (.iload_n 1, 1) := by decide +kernel
theorem dX5_drop_1 : decode cX5_drop 1 = .ok (.invokestatic 210, 3) := by decide +kernel
theorem dX5_drop_4 : decode cX5_drop 4 = .ok (.ifCond .ne 6, 3) := by decide +kernel
theorem dX5_drop_7 : decode cX5_drop 7 = .ok (.bipush (-2), 2) := by decide +kernel
theorem dX5_drop_9 : decode cX5_drop 9 = .ok (.ireturn, 1) := by decide +kernel
theorem dX5_drop_10 : decode cX5_drop 10 = .ok (.aload_n 0, 1) := by decide +kernel
theorem dX5_drop_11 : decode cX5_drop 11 = .ok (.getfield 26, 3) := by decide +kernel
theorem dX5_drop_14 : decode cX5_drop 14 = .ok (.iload_n 1, 1) := by decide +kernel
theorem dX5_drop_15 : decode cX5_drop 15 = .ok (.iaload, 1) := by decide +kernel
theorem dX5_drop_16 : decode cX5_drop 16 = .ok (.istore_n 2, 1) := by decide +kernel
theorem dX5_drop_17 : decode cX5_drop 17 = .ok (.aload_n 0, 1) := by decide +kernel
theorem dX5_drop_18 : decode cX5_drop 18 = .ok (.getfield 26, 3) := by decide +kernel
theorem dX5_drop_21 : decode cX5_drop 21 = .ok (.iload_n 1, 1) := by decide +kernel
theorem dX5_drop_22 : decode cX5_drop 22 = .ok (.iconst (-1), 1) := by decide +kernel
theorem dX5_drop_23 : decode cX5_drop 23 = .ok (.iastore, 1) := by decide +kernel
theorem dX5_drop_24 : decode cX5_drop 24 = .ok (.iload_n 2, 1) := by decide +kernel
theorem dX5_drop_25 : decode cX5_drop 25 = .ok (.ifCond .ge 8, 3) := by decide +kernel
theorem dX5_drop_28 : decode cX5_drop 28 = .ok (.bipush (-11), 2) := by decide +kernel
theorem dX5_drop_30 : decode cX5_drop 30 = .ok (.goto 4, 3) := by decide +kernel
theorem dX5_drop_33 : decode cX5_drop 33 = .ok (.iload_n 2, 1) := by decide +kernel
theorem dX5_drop_34 : decode cX5_drop 34 = .ok (.ireturn, 1) := by decide +kernel
theorem dX5_erase_0 : decode cX5_erase 0 = .ok (.aload_n 0, 1) := by decide +kernel
theorem dX5_erase_1 : decode cX5_erase 1 = .ok (.getfield 61, 3) := by decide +kernel
theorem dX5_erase_4 : decode cX5_erase 4 = .ok (.istore_n 1, 1) := by decide +kernel
theorem dX5_erase_5 : decode cX5_erase 5 = .ok (.aload_n 0, 1) := by decide +kernel
theorem dX5_erase_6 : decode cX5_erase 6 = .ok (.iconst 0, 1) := by decide +kernel
theorem dX5_erase_7 : decode cX5_erase 7 = .ok (.putfield 61, 3) := by decide +kernel
theorem dX5_erase_10 : decode cX5_erase 10 = .ok (.iload_n 1, 1) := by decide +kernel
theorem dX5_erase_11 : decode cX5_erase 11 = .ok (.ireturn, 1) := by decide +kernel
theorem dX5_fault_0 : decode cX5_fault 0 = .ok (.aload_n 0, 1) := by decide +kernel
theorem dX5_fault_1 : decode cX5_fault 1 = .ok (.iconst 0, 1) := by decide +kernel
theorem dX5_fault_2 : decode cX5_fault 2 = .ok (.invokevirtual 132, 3) := by decide +kernel
theorem dX5_fault_5 : decode cX5_fault 5 = .ok (.ifCond .eq 7, 3) := by decide +kernel
theorem dX5_fault_8 : decode cX5_fault 8 = .ok (.iconst (-1), 1) := by decide +kernel
theorem dX5_fault_9 : decode cX5_fault 9 = .ok (.goto 7, 3) := by decide +kernel
theorem dX5_fault_12 : decode cX5_fault 12 = .ok (.aload_n 0, 1) := by decide +kernel
theorem dX5_fault_13 : decode cX5_fault 13 = .ok (.getfield 75, 3) := by decide +kernel
theorem dX5_fault_16 : decode cX5_fault 16 = .ok (.ireturn, 1) := by decide +kernel
theorem dX5_find_0 : decode cX5_find 0 = .ok (.iload_n 1, 1) := by decide +kernel
theorem dX5_find_1 : decode cX5_find 1 = .ok (.invokestatic 210, 3) := by decide +kernel
theorem dX5_find_4 : decode cX5_find 4 = .ok (.ifCond .ne 6, 3) := by decide +kernel
theorem dX5_find_7 : decode cX5_find 7 = .ok (.bipush (-2), 2) := by decide +kernel
theorem dX5_find_9 : decode cX5_find 9 = .ok (.ireturn, 1) := by decide +kernel
theorem dX5_find_10 : decode cX5_find 10 = .ok (.iload_n 2, 1) := by decide +kernel
theorem dX5_find_11 : decode cX5_find 11 = .ok (.i2l, 1) := by decide +kernel
theorem dX5_find_12 : decode cX5_find 12 = .ok (.lconst 0, 1) := by decide +kernel
theorem dX5_find_13 : decode cX5_find 13 = .ok (.ldc2_w 213, 3) := by decide +kernel
theorem dX5_find_16 : decode cX5_find 16 = .ok (.invokestatic 57, 3) := by decide +kernel
theorem dX5_find_19 : decode cX5_find 19 = .ok (.ifCond .ne 6, 3) := by decide +kernel
theorem dX5_find_22 : decode cX5_find 22 = .ok (.bipush (-3), 2) := by decide +kernel
theorem dX5_find_24 : decode cX5_find 24 = .ok (.ireturn, 1) := by decide +kernel
theorem dX5_find_25 : decode cX5_find 25 = .ok (.aload_n 0, 1) := by decide +kernel
theorem dX5_find_26 : decode cX5_find 26 = .ok (.getfield 26, 3) := by decide +kernel
theorem dX5_find_29 : decode cX5_find 29 = .ok (.iload_n 1, 1) := by decide +kernel
theorem dX5_find_30 : decode cX5_find 30 = .ok (.iaload, 1) := by decide +kernel
theorem dX5_find_31 : decode cX5_find 31 = .ok (.ifCond .lt 18, 3) := by decide +kernel
theorem dX5_find_34 : decode cX5_find 34 = .ok (.iload_n 2, 1) := by decide +kernel
theorem dX5_find_35 : decode cX5_find 35 = .ok (.ifCond .le 17, 3) := by decide +kernel
theorem dX5_find_38 : decode cX5_find 38 = .ok (.aload_n 0, 1) := by decide +kernel
theorem dX5_find_39 : decode cX5_find 39 = .ok (.getfield 26, 3) := by decide +kernel
theorem dX5_find_42 : decode cX5_find 42 = .ok (.iload_n 2, 1) := by decide +kernel
theorem dX5_find_43 : decode cX5_find 43 = .ok (.iconst 1, 1) := by decide +kernel
theorem dX5_find_44 : decode cX5_find 44 = .ok (.isub, 1) := by decide +kernel
theorem dX5_find_45 : decode cX5_find 45 = .ok (.iaload, 1) := by decide +kernel
theorem dX5_find_46 : decode cX5_find 46 = .ok (.ifCond .ge 6, 3) := by decide +kernel
theorem dX5_find_49 : decode cX5_find 49 = .ok (.bipush (-11), 2) := by decide +kernel
theorem dX5_find_51 : decode cX5_find 51 = .ok (.ireturn, 1) := by decide +kernel
theorem dX5_find_52 : decode cX5_find 52 = .ok (.aload_n 0, 1) := by decide +kernel
theorem dX5_find_53 : decode cX5_find 53 = .ok (.invokevirtual 194, 3) := by decide +kernel
theorem dX5_find_56 : decode cX5_find 56 = .ok (.iload_n 2, 1) := by decide +kernel
theorem dX5_find_57 : decode cX5_find 57 = .ok (.ifCond .ne 10, 3) := by decide +kernel
theorem dX5_find_60 : decode cX5_find 60 = .ok (.aload_n 0, 1) := by decide +kernel
theorem dX5_find_61 : decode cX5_find 61 = .ok (.getfield 188, 3) := by decide +kernel
theorem dX5_find_64 : decode cX5_find 64 = .ok (.goto 11, 3) := by decide +kernel
theorem dX5_find_67 : decode cX5_find 67 = .ok (.aload_n 0, 1) := by decide +kernel
theorem dX5_find_68 : decode cX5_find 68 = .ok (.getfield 26, 3) := by decide +kernel
theorem dX5_find_71 : decode cX5_find 71 = .ok (.iload_n 2, 1) := by decide +kernel
theorem dX5_find_72 : decode cX5_find 72 = .ok (.iconst 1, 1) := by decide +kernel
theorem dX5_find_73 : decode cX5_find 73 = .ok (.isub, 1) := by decide +kernel
theorem dX5_find_74 : decode cX5_find 74 = .ok (.iaload, 1) := by decide +kernel
theorem dX5_find_75 : decode cX5_find 75 = .ok (.istore_n 3, 1) := by decide +kernel
theorem dX5_find_76 : decode cX5_find 76 = .ok (.iconst 0, 1) := by decide +kernel
theorem dX5_find_77 : decode cX5_find 77 = .ok (.istore 4, 2) := by decide +kernel
theorem dX5_find_79 : decode cX5_find 79 = .ok (.iload 4, 2) := by decide +kernel
theorem dX5_find_81 : decode cX5_find 81 = .ok (.aload_n 0, 1) := by decide +kernel
theorem dX5_find_82 : decode cX5_find 82 = .ok (.getfield 26, 3) := by decide +kernel
theorem dX5_find_85 : decode cX5_find 85 = .ok (.iload_n 1, 1) := by decide +kernel
theorem dX5_find_86 : decode cX5_find 86 = .ok (.iaload, 1) := by decide +kernel
theorem dX5_find_87 : decode cX5_find 87 = .ok (.iadd, 1) := by decide +kernel
theorem dX5_find_88 : decode cX5_find 88 = .ok (.iload_n 3, 1) := by decide +kernel
theorem dX5_find_89 : decode cX5_find 89 = .ok (.if_icmp .gt 23, 3) := by decide +kernel
theorem dX5_find_92 : decode cX5_find 92 = .ok (.aload_n 0, 1) := by decide +kernel
theorem dX5_find_93 : decode cX5_find 93 = .ok (.iload_n 1, 1) := by decide +kernel
theorem dX5_find_94 : decode cX5_find 94 = .ok (.iload_n 2, 1) := by decide +kernel
theorem dX5_find_95 : decode cX5_find 95 = .ok (.iload 4, 2) := by decide +kernel
theorem dX5_find_97 : decode cX5_find 97 = .ok (.invokevirtual 215, 3) := by decide +kernel
theorem dX5_find_100 : decode cX5_find 100 = .ok (.ifCond .eq 6, 3) := by decide +kernel
theorem dX5_find_103 : decode cX5_find 103 = .ok (.iload 4, 2) := by decide +kernel
theorem dX5_find_105 : decode cX5_find 105 = .ok (.ireturn, 1) := by decide +kernel
theorem dX5_find_106 : decode cX5_find 106 = .ok (.iinc 4 1, 3) := by decide +kernel
theorem dX5_find_109 : decode cX5_find 109 = .ok (.goto (-30), 3) := by decide +kernel
theorem dX5_find_112 : decode cX5_find 112 = .ok (.iconst (-1), 1) := by decide +kernel
theorem dX5_find_113 : decode cX5_find 113 = .ok (.ireturn, 1) := by decide +kernel
theorem dX5_has_0 : decode cX5_has 0 = .ok (.iload_n 0, 1) := by decide +kernel
theorem dX5_has_1 : decode cX5_has 1 = .ok (.iload_n 1, 1) := by decide +kernel
theorem dX5_has_2 : decode cX5_has 2 = .ok (.ishr, 1) := by decide +kernel
theorem dX5_has_3 : decode cX5_has 3 = .ok (.iconst 1, 1) := by decide +kernel
theorem dX5_has_4 : decode cX5_has 4 = .ok (.iand, 1) := by decide +kernel
theorem dX5_has_5 : decode cX5_has 5 = .ok (.iconst 1, 1) := by decide +kernel
theorem dX5_has_6 : decode cX5_has 6 = .ok (.if_icmp .ne 7, 3) := by decide +kernel
theorem dX5_has_9 : decode cX5_has 9 = .ok (.iconst 1, 1) := by decide +kernel
theorem dX5_has_10 : decode cX5_has 10 = .ok (.goto 4, 3) := by decide +kernel
theorem dX5_has_13 : decode cX5_has 13 = .ok (.iconst 0, 1) := by decide +kernel
theorem dX5_has_14 : decode cX5_has 14 = .ok (.ireturn, 1) := by decide +kernel
theorem dX5_in_0 : decode cX5_in 0 = .ok (.lload_n 0, 1) := by decide +kernel
theorem dX5_in_1 : decode cX5_in 1 = .ok (.lload_n 2, 1) := by decide +kernel
theorem dX5_in_2 : decode cX5_in 2 = .ok (.lcmp, 1) := by decide +kernel
theorem dX5_in_3 : decode cX5_in 3 = .ok (.ifCond .lt 14, 3) := by decide +kernel
theorem dX5_in_6 : decode cX5_in 6 = .ok (.lload_n 0, 1) := by decide +kernel
theorem dX5_in_7 : decode cX5_in 7 = .ok (.lload 4, 2) := by decide +kernel
theorem dX5_in_9 : decode cX5_in 9 = .ok (.lcmp, 1) := by decide +kernel
theorem dX5_in_10 : decode cX5_in 10 = .ok (.ifCond .gt 7, 3) := by decide +kernel
theorem dX5_in_13 : decode cX5_in 13 = .ok (.iconst 1, 1) := by decide +kernel
theorem dX5_in_14 : decode cX5_in 14 = .ok (.goto 4, 3) := by decide +kernel
theorem dX5_in_17 : decode cX5_in 17 = .ok (.iconst 0, 1) := by decide +kernel
theorem dX5_in_18 : decode cX5_in 18 = .ok (.ireturn, 1) := by decide +kernel
theorem dX5_init_0 : decode cX5_init 0 = .ok (.aload_n 0, 1) := by decide +kernel
theorem dX5_init_1 : decode cX5_init 1 = .ok (.invokespecial 1, 3) := by decide +kernel
theorem dX5_init_4 : decode cX5_init 4 = .ok (.aload_n 0, 1) := by decide +kernel
theorem dX5_init_5 : decode cX5_init 5 = .ok (.sipush 1001, 3) := by decide +kernel
theorem dX5_init_8 : decode cX5_init 8 = .ok (.newarray .int, 2) := by decide +kernel
theorem dX5_init_10 : decode cX5_init 10 = .ok (.putfield 7, 3) := by decide +kernel
theorem dX5_init_13 : decode cX5_init 13 = .ok (.aload_n 0, 1) := by decide +kernel
theorem dX5_init_14 : decode cX5_init 14 = .ok (.bipush 6, 2) := by decide +kernel
theorem dX5_init_16 : decode cX5_init 16 = .ok (.newarray .int, 2) := by decide +kernel
theorem dX5_init_18 : decode cX5_init 18 = .ok (.putfield 13, 3) := by decide +kernel
theorem dX5_init_21 : decode cX5_init 21 = .ok (.aload_n 0, 1) := by decide +kernel
theorem dX5_init_22 : decode cX5_init 22 = .ok (.bipush 6, 2) := by decide +kernel
theorem dX5_init_24 : decode cX5_init 24 = .ok (.newarray .int, 2) := by decide +kernel
theorem dX5_init_26 : decode cX5_init 26 = .ok (.putfield 16, 3) := by decide +kernel
theorem dX5_init_29 : decode cX5_init 29 = .ok (.aload_n 0, 1) := by decide +kernel
theorem dX5_init_30 : decode cX5_init 30 = .ok (.iconst 2, 1) := by decide +kernel
theorem dX5_init_31 : decode cX5_init 31 = .ok (.newarray .boolean, 2) := by decide +kernel
theorem dX5_init_33 : decode cX5_init 33 = .ok (.putfield 19, 3) := by decide +kernel
theorem dX5_init_36 : decode cX5_init 36 = .ok (.aload_n 0, 1) := by decide +kernel
theorem dX5_init_37 : decode cX5_init 37 = .ok (.sipush 200, 3) := by decide +kernel
theorem dX5_init_40 : decode cX5_init 40 = .ok (.newarray .int, 2) := by decide +kernel
theorem dX5_init_42 : decode cX5_init 42 = .ok (.putfield 23, 3) := by decide +kernel
theorem dX5_init_45 : decode cX5_init 45 = .ok (.aload_n 0, 1) := by decide +kernel
theorem dX5_init_46 : decode cX5_init 46 = .ok (.iconst 3, 1) := by decide +kernel
theorem dX5_init_47 : decode cX5_init 47 = .ok (.newarray .int, 2) := by decide +kernel
theorem dX5_init_49 : decode cX5_init 49 = .ok (.dup, 1) := by decide +kernel
theorem dX5_init_50 : decode cX5_init 50 = .ok (.iconst 0, 1) := by decide +kernel
theorem dX5_init_51 : decode cX5_init 51 = .ok (.iconst (-1), 1) := by decide +kernel
theorem dX5_init_52 : decode cX5_init 52 = .ok (.iastore, 1) := by decide +kernel
theorem dX5_init_53 : decode cX5_init 53 = .ok (.dup, 1) := by decide +kernel
theorem dX5_init_54 : decode cX5_init 54 = .ok (.iconst 1, 1) := by decide +kernel
theorem dX5_init_55 : decode cX5_init 55 = .ok (.iconst (-1), 1) := by decide +kernel
theorem dX5_init_56 : decode cX5_init 56 = .ok (.iastore, 1) := by decide +kernel
theorem dX5_init_57 : decode cX5_init 57 = .ok (.dup, 1) := by decide +kernel
theorem dX5_init_58 : decode cX5_init 58 = .ok (.iconst 2, 1) := by decide +kernel
theorem dX5_init_59 : decode cX5_init 59 = .ok (.iconst (-1), 1) := by decide +kernel
theorem dX5_init_60 : decode cX5_init 60 = .ok (.iastore, 1) := by decide +kernel
theorem dX5_init_61 : decode cX5_init 61 = .ok (.putfield 26, 3) := by decide +kernel
theorem dX5_init_64 : decode cX5_init 64 = .ok (.aload_n 0, 1) := by decide +kernel
theorem dX5_init_65 : decode cX5_init 65 = .ok (.bipush 120, 2) := by decide +kernel
theorem dX5_init_67 : decode cX5_init 67 = .ok (.newarray .int, 2) := by decide +kernel
theorem dX5_init_69 : decode cX5_init 69 = .ok (.putfield 29, 3) := by decide +kernel
theorem dX5_init_72 : decode cX5_init 72 = .ok (.aload_n 0, 1) := by decide +kernel
theorem dX5_init_73 : decode cX5_init 73 = .ok (.iconst 2, 1) := by decide +kernel
theorem dX5_init_74 : decode cX5_init 74 = .ok (.newarray .int, 2) := by decide +kernel
theorem dX5_init_76 : decode cX5_init 76 = .ok (.putfield 32, 3) := by decide +kernel
theorem dX5_init_79 : decode cX5_init 79 = .ok (.aload_n 0, 1) := by decide +kernel
theorem dX5_init_80 : decode cX5_init 80 = .ok (.bipush 54, 2) := by decide +kernel
theorem dX5_init_82 : decode cX5_init 82 = .ok (.newarray .int, 2) := by decide +kernel
theorem dX5_init_84 : decode cX5_init 84 = .ok (.dup, 1) := by decide +kernel
theorem dX5_init_85 : decode cX5_init 85 = .ok (.iconst 0, 1) := by decide +kernel
theorem dX5_init_86 : decode cX5_init 86 = .ok (.bipush 112, 2) := by decide +kernel
theorem dX5_init_88 : decode cX5_init 88 = .ok (.iastore, 1) := by decide +kernel
theorem dX5_init_89 : decode cX5_init 89 = .ok (.dup, 1) := by decide +kernel
theorem dX5_init_90 : decode cX5_init 90 = .ok (.iconst 1, 1) := by decide +kernel
theorem dX5_init_91 : decode cX5_init 91 = .ok (.bipush 108, 2) := by decide +kernel
theorem dX5_init_93 : decode cX5_init 93 = .ok (.iastore, 1) := by decide +kernel
theorem dX5_init_94 : decode cX5_init 94 = .ok (.dup, 1) := by decide +kernel
theorem dX5_init_95 : decode cX5_init 95 = .ok (.iconst 2, 1) := by decide +kernel
theorem dX5_init_96 : decode cX5_init 96 = .ok (.bipush 97, 2) := by decide +kernel
theorem dX5_init_98 : decode cX5_init 98 = .ok (.iastore, 1) := by decide +kernel
theorem dX5_init_99 : decode cX5_init 99 = .ok (.dup, 1) := by decide +kernel
theorem dX5_init_100 : decode cX5_init 100 = .ok (.iconst 3, 1) := by decide +kernel
theorem dX5_init_101 : decode cX5_init 101 = .ok (.bipush 105, 2) := by decide +kernel
theorem dX5_init_103 : decode cX5_init 103 = .ok (.iastore, 1) := by decide +kernel
theorem dX5_init_104 : decode cX5_init 104 = .ok (.dup, 1) := by decide +kernel
theorem dX5_init_105 : decode cX5_init 105 = .ok (.iconst 4, 1) := by decide +kernel
theorem dX5_init_106 : decode cX5_init 106 = .ok (.bipush 110, 2) := by decide +kernel
theorem dX5_init_108 : decode cX5_init 108 = .ok (.iastore, 1) := by decide +kernel
theorem dX5_init_109 : decode cX5_init 109 = .ok (.dup, 1) := by decide +kernel
theorem dX5_init_110 : decode cX5_init 110 = .ok (.iconst 5, 1) := by decide +kernel
theorem dX5_init_111 : decode cX5_init 111 = .ok (.iconst 0, 1) := by decide +kernel
theorem dX5_init_112 : decode cX5_init 112 = .ok (.iastore, 1) := by decide +kernel
theorem dX5_init_113 : decode cX5_init 113 = .ok (.dup, 1) := by decide +kernel
theorem dX5_init_114 : decode cX5_init 114 = .ok (.bipush 6, 2) := by decide +kernel
theorem dX5_init_116 : decode cX5_init 116 = .ok (.bipush 118, 2) := by decide +kernel
theorem dX5_init_118 : decode cX5_init 118 = .ok (.iastore, 1) := by decide +kernel
theorem dX5_init_119 : decode cX5_init 119 = .ok (.dup, 1) := by decide +kernel
theorem dX5_init_120 : decode cX5_init 120 = .ok (.bipush 7, 2) := by decide +kernel
theorem dX5_init_122 : decode cX5_init 122 = .ok (.bipush 101, 2) := by decide +kernel
theorem dX5_init_124 : decode cX5_init 124 = .ok (.iastore, 1) := by decide +kernel
theorem dX5_init_125 : decode cX5_init 125 = .ok (.dup, 1) := by decide +kernel
theorem dX5_init_126 : decode cX5_init 126 = .ok (.bipush 8, 2) := by decide +kernel
theorem dX5_init_128 : decode cX5_init 128 = .ok (.bipush 114, 2) := by decide +kernel
theorem dX5_init_130 : decode cX5_init 130 = .ok (.iastore, 1) := by decide +kernel
theorem dX5_init_131 : decode cX5_init 131 = .ok (.dup, 1) := by decide +kernel
theorem dX5_init_132 : decode cX5_init 132 = .ok (.bipush 9, 2) := by decide +kernel
theorem dX5_init_134 : decode cX5_init 134 = .ok (.bipush 115, 2) := by decide +kernel
theorem dX5_init_136 : decode cX5_init 136 = .ok (.iastore, 1) := by decide +kernel
theorem dX5_init_137 : decode cX5_init 137 = .ok (.dup, 1) := by decide +kernel
theorem dX5_init_138 : decode cX5_init 138 = .ok (.bipush 10, 2) := by decide +kernel
theorem dX5_init_140 : decode cX5_init 140 = .ok (.bipush 101, 2) := by decide +kernel
theorem dX5_init_142 : decode cX5_init 142 = .ok (.iastore, 1) := by decide +kernel
theorem dX5_init_143 : decode cX5_init 143 = .ok (.dup, 1) := by decide +kernel
theorem dX5_init_144 : decode cX5_init 144 = .ok (.bipush 11, 2) := by decide +kernel
theorem dX5_init_146 : decode cX5_init 146 = .ok (.bipush 100, 2) := by decide +kernel
theorem dX5_init_148 : decode cX5_init 148 = .ok (.iastore, 1) := by decide +kernel
theorem dX5_init_149 : decode cX5_init 149 = .ok (.dup, 1) := by decide +kernel
theorem dX5_init_150 : decode cX5_init 150 = .ok (.bipush 12, 2) := by decide +kernel
theorem dX5_init_152 : decode cX5_init 152 = .ok (.bipush 111, 2) := by decide +kernel
theorem dX5_init_154 : decode cX5_init 154 = .ok (.iastore, 1) := by decide +kernel
theorem dX5_init_155 : decode cX5_init 155 = .ok (.dup, 1) := by decide +kernel
theorem dX5_init_156 : decode cX5_init 156 = .ok (.bipush 13, 2) := by decide +kernel
theorem dX5_init_158 : decode cX5_init 158 = .ok (.bipush 119, 2) := by decide +kernel
theorem dX5_init_160 : decode cX5_init 160 = .ok (.iastore, 1) := by decide +kernel
theorem dX5_init_161 : decode cX5_init 161 = .ok (.dup, 1) := by decide +kernel
theorem dX5_init_162 : decode cX5_init 162 = .ok (.bipush 14, 2) := by decide +kernel
theorem dX5_init_164 : decode cX5_init 164 = .ok (.bipush 105, 2) := by decide +kernel
theorem dX5_init_166 : decode cX5_init 166 = .ok (.iastore, 1) := by decide +kernel
theorem dX5_init_167 : decode cX5_init 167 = .ok (.dup, 1) := by decide +kernel
theorem dX5_init_168 : decode cX5_init 168 = .ok (.bipush 15, 2) := by decide +kernel
theorem dX5_init_170 : decode cX5_init 170 = .ok (.bipush 110, 2) := by decide +kernel
theorem dX5_init_172 : decode cX5_init 172 = .ok (.iastore, 1) := by decide +kernel
theorem dX5_init_173 : decode cX5_init 173 = .ok (.dup, 1) := by decide +kernel
theorem dX5_init_174 : decode cX5_init 174 = .ok (.bipush 16, 2) := by decide +kernel
theorem dX5_init_176 : decode cX5_init 176 = .ok (.bipush 103, 2) := by decide +kernel
theorem dX5_init_178 : decode cX5_init 178 = .ok (.iastore, 1) := by decide +kernel
theorem dX5_init_179 : decode cX5_init 179 = .ok (.dup, 1) := by decide +kernel
theorem dX5_init_180 : decode cX5_init 180 = .ok (.bipush 17, 2) := by decide +kernel
theorem dX5_init_182 : decode cX5_init 182 = .ok (.iconst 0, 1) := by decide +kernel
theorem dX5_init_183 : decode cX5_init 183 = .ok (.iastore, 1) := by decide +kernel
theorem dX5_init_184 : decode cX5_init 184 = .ok (.dup, 1) := by decide +kernel
theorem dX5_init_185 : decode cX5_init 185 = .ok (.bipush 18, 2) := by decide +kernel
theorem dX5_init_187 : decode cX5_init 187 = .ok (.bipush 98, 2) := by decide +kernel
theorem dX5_init_189 : decode cX5_init 189 = .ok (.iastore, 1) := by decide +kernel
theorem dX5_init_190 : decode cX5_init 190 = .ok (.dup, 1) := by decide +kernel
theorem dX5_init_191 : decode cX5_init 191 = .ok (.bipush 19, 2) := by decide +kernel
theorem dX5_init_193 : decode cX5_init 193 = .ok (.bipush 111, 2) := by decide +kernel
theorem dX5_init_195 : decode cX5_init 195 = .ok (.iastore, 1) := by decide +kernel
theorem dX5_init_196 : decode cX5_init 196 = .ok (.dup, 1) := by decide +kernel
theorem dX5_init_197 : decode cX5_init 197 = .ok (.bipush 20, 2) := by decide +kernel
theorem dX5_init_199 : decode cX5_init 199 = .ok (.bipush 116, 2) := by decide +kernel
theorem dX5_init_201 : decode cX5_init 201 = .ok (.iastore, 1) := by decide +kernel
theorem dX5_init_202 : decode cX5_init 202 = .ok (.dup, 1) := by decide +kernel
theorem dX5_init_203 : decode cX5_init 203 = .ok (.bipush 21, 2) := by decide +kernel
theorem dX5_init_205 : decode cX5_init 205 = .ok (.bipush 104, 2) := by decide +kernel
theorem dX5_init_207 : decode cX5_init 207 = .ok (.iastore, 1) := by decide +kernel
theorem dX5_init_208 : decode cX5_init 208 = .ok (.dup, 1) := by decide +kernel
theorem dX5_init_209 : decode cX5_init 209 = .ok (.bipush 22, 2) := by decide +kernel
theorem dX5_init_211 : decode cX5_init 211 = .ok (.iconst 0, 1) := by decide +kernel
theorem dX5_init_212 : decode cX5_init 212 = .ok (.iastore, 1) := by decide +kernel
theorem dX5_init_213 : decode cX5_init 213 = .ok (.dup, 1) := by decide +kernel
theorem dX5_init_214 : decode cX5_init 214 = .ok (.bipush 23, 2) := by decide +kernel
theorem dX5_init_216 : decode cX5_init 216 = .ok (.iconst 0, 1) := by decide +kernel
theorem dX5_init_217 : decode cX5_init 217 = .ok (.iastore, 1) := by decide +kernel
theorem dX5_init_218 : decode cX5_init 218 = .ok (.dup, 1) := by decide +kernel
theorem dX5_init_219 : decode cX5_init 219 = .ok (.bipush 24, 2) := by decide +kernel
theorem dX5_init_221 : decode cX5_init 221 = .ok (.bipush 119, 2) := by decide +kernel
theorem dX5_init_223 : decode cX5_init 223 = .ok (.iastore, 1) := by decide +kernel
theorem dX5_init_224 : decode cX5_init 224 = .ok (.dup, 1) := by decide +kernel
theorem dX5_init_225 : decode cX5_init 225 = .ok (.bipush 25, 2) := by decide +kernel
theorem dX5_init_227 : decode cX5_init 227 = .ok (.bipush 104, 2) := by decide +kernel
theorem dX5_init_229 : decode cX5_init 229 = .ok (.iastore, 1) := by decide +kernel
theorem dX5_init_230 : decode cX5_init 230 = .ok (.dup, 1) := by decide +kernel
theorem dX5_init_231 : decode cX5_init 231 = .ok (.bipush 26, 2) := by decide +kernel
theorem dX5_init_233 : decode cX5_init 233 = .ok (.bipush 101, 2) := by decide +kernel
theorem dX5_init_235 : decode cX5_init 235 = .ok (.iastore, 1) := by decide +kernel
theorem dX5_init_236 : decode cX5_init 236 = .ok (.dup, 1) := by decide +kernel
theorem dX5_init_237 : decode cX5_init 237 = .ok (.bipush 27, 2) := by decide +kernel
theorem dX5_init_239 : decode cX5_init 239 = .ok (.bipush 101, 2) := by decide +kernel
theorem dX5_init_241 : decode cX5_init 241 = .ok (.iastore, 1) := by decide +kernel
theorem dX5_init_242 : decode cX5_init 242 = .ok (.dup, 1) := by decide +kernel
theorem dX5_init_243 : decode cX5_init 243 = .ok (.bipush 28, 2) := by decide +kernel
theorem dX5_init_245 : decode cX5_init 245 = .ok (.bipush 108, 2) := by decide +kernel
theorem dX5_init_247 : decode cX5_init 247 = .ok (.iastore, 1) := by decide +kernel
theorem dX5_init_248 : decode cX5_init 248 = .ok (.dup, 1) := by decide +kernel
theorem dX5_init_249 : decode cX5_init 249 = .ok (.bipush 29, 2) := by decide +kernel
theorem dX5_init_251 : decode cX5_init 251 = .ok (.iconst 0, 1) := by decide +kernel
theorem dX5_init_252 : decode cX5_init 252 = .ok (.iastore, 1) := by decide +kernel
theorem dX5_init_253 : decode cX5_init 253 = .ok (.dup, 1) := by decide +kernel
theorem dX5_init_254 : decode cX5_init 254 = .ok (.bipush 30, 2) := by decide +kernel
theorem dX5_init_256 : decode cX5_init 256 = .ok (.bipush 106, 2) := by decide +kernel
theorem dX5_init_258 : decode cX5_init 258 = .ok (.iastore, 1) := by decide +kernel
theorem dX5_init_259 : decode cX5_init 259 = .ok (.dup, 1) := by decide +kernel
theorem dX5_init_260 : decode cX5_init 260 = .ok (.bipush 31, 2) := by decide +kernel
theorem dX5_init_262 : decode cX5_init 262 = .ok (.bipush 117, 2) := by decide +kernel
theorem dX5_init_264 : decode cX5_init 264 = .ok (.iastore, 1) := by decide +kernel
theorem dX5_init_265 : decode cX5_init 265 = .ok (.dup, 1) := by decide +kernel
theorem dX5_init_266 : decode cX5_init 266 = .ok (.bipush 32, 2) := by decide +kernel
theorem dX5_init_268 : decode cX5_init 268 = .ok (.bipush 100, 2) := by decide +kernel
theorem dX5_init_270 : decode cX5_init 270 = .ok (.iastore, 1) := by decide +kernel
theorem dX5_init_271 : decode cX5_init 271 = .ok (.dup, 1) := by decide +kernel
theorem dX5_init_272 : decode cX5_init 272 = .ok (.bipush 33, 2) := by decide +kernel
theorem dX5_init_274 : decode cX5_init 274 = .ok (.bipush 103, 2) := by decide +kernel
theorem dX5_init_276 : decode cX5_init 276 = .ok (.iastore, 1) := by decide +kernel
theorem dX5_init_277 : decode cX5_init 277 = .ok (.dup, 1) := by decide +kernel
theorem dX5_init_278 : decode cX5_init 278 = .ok (.bipush 34, 2) := by decide +kernel
theorem dX5_init_280 : decode cX5_init 280 = .ok (.bipush 101, 2) := by decide +kernel
theorem dX5_init_282 : decode cX5_init 282 = .ok (.iastore, 1) := by decide +kernel
theorem dX5_init_283 : decode cX5_init 283 = .ok (.dup, 1) := by decide +kernel
theorem dX5_init_284 : decode cX5_init 284 = .ok (.bipush 35, 2) := by decide +kernel
theorem dX5_init_286 : decode cX5_init 286 = .ok (.iconst 0, 1) := by decide +kernel
theorem dX5_init_287 : decode cX5_init 287 = .ok (.iastore, 1) := by decide +kernel
theorem dX5_init_288 : decode cX5_init 288 = .ok (.dup, 1) := by decide +kernel
theorem dX5_init_289 : decode cX5_init 289 = .ok (.bipush 36, 2) := by decide +kernel
theorem dX5_init_291 : decode cX5_init 291 = .ok (.bipush 98, 2) := by decide +kernel
theorem dX5_init_293 : decode cX5_init 293 = .ok (.iastore, 1) := by decide +kernel
theorem dX5_init_294 : decode cX5_init 294 = .ok (.dup, 1) := by decide +kernel
theorem dX5_init_295 : decode cX5_init 295 = .ok (.bipush 37, 2) := by decide +kernel
theorem dX5_init_297 : decode cX5_init 297 = .ok (.bipush 97, 2) := by decide +kernel
theorem dX5_init_299 : decode cX5_init 299 = .ok (.iastore, 1) := by decide +kernel
theorem dX5_init_300 : decode cX5_init 300 = .ok (.dup, 1) := by decide +kernel
theorem dX5_init_301 : decode cX5_init 301 = .ok (.bipush 38, 2) := by decide +kernel
theorem dX5_init_303 : decode cX5_init 303 = .ok (.bipush 114, 2) := by decide +kernel
theorem dX5_init_305 : decode cX5_init 305 = .ok (.iastore, 1) := by decide +kernel
theorem dX5_init_306 : decode cX5_init 306 = .ok (.dup, 1) := by decide +kernel
theorem dX5_init_307 : decode cX5_init 307 = .ok (.bipush 39, 2) := by decide +kernel
theorem dX5_init_309 : decode cX5_init 309 = .ok (.iconst 0, 1) := by decide +kernel
theorem dX5_init_310 : decode cX5_init 310 = .ok (.iastore, 1) := by decide +kernel
theorem dX5_init_311 : decode cX5_init 311 = .ok (.dup, 1) := by decide +kernel
theorem dX5_init_312 : decode cX5_init 312 = .ok (.bipush 40, 2) := by decide +kernel
theorem dX5_init_314 : decode cX5_init 314 = .ok (.iconst 0, 1) := by decide +kernel
theorem dX5_init_315 : decode cX5_init 315 = .ok (.iastore, 1) := by decide +kernel
theorem dX5_init_316 : decode cX5_init 316 = .ok (.dup, 1) := by decide +kernel
theorem dX5_init_317 : decode cX5_init 317 = .ok (.bipush 41, 2) := by decide +kernel
theorem dX5_init_319 : decode cX5_init 319 = .ok (.iconst 0, 1) := by decide +kernel
theorem dX5_init_320 : decode cX5_init 320 = .ok (.iastore, 1) := by decide +kernel
theorem dX5_init_321 : decode cX5_init 321 = .ok (.dup, 1) := by decide +kernel
theorem dX5_init_322 : decode cX5_init 322 = .ok (.bipush 42, 2) := by decide +kernel
theorem dX5_init_324 : decode cX5_init 324 = .ok (.bipush 97, 2) := by decide +kernel
theorem dX5_init_326 : decode cX5_init 326 = .ok (.iastore, 1) := by decide +kernel
theorem dX5_init_327 : decode cX5_init 327 = .ok (.dup, 1) := by decide +kernel
theorem dX5_init_328 : decode cX5_init 328 = .ok (.bipush 43, 2) := by decide +kernel
theorem dX5_init_330 : decode cX5_init 330 = .ok (.bipush 119, 2) := by decide +kernel
theorem dX5_init_332 : decode cX5_init 332 = .ok (.iastore, 1) := by decide +kernel
theorem dX5_init_333 : decode cX5_init 333 = .ok (.dup, 1) := by decide +kernel
theorem dX5_init_334 : decode cX5_init 334 = .ok (.bipush 44, 2) := by decide +kernel
theorem dX5_init_336 : decode cX5_init 336 = .ok (.bipush 97, 2) := by decide +kernel
theorem dX5_init_338 : decode cX5_init 338 = .ok (.iastore, 1) := by decide +kernel
theorem dX5_init_339 : decode cX5_init 339 = .ok (.dup, 1) := by decide +kernel
theorem dX5_init_340 : decode cX5_init 340 = .ok (.bipush 45, 2) := by decide +kernel
theorem dX5_init_342 : decode cX5_init 342 = .ok (.bipush 121, 2) := by decide +kernel
theorem dX5_init_344 : decode cX5_init 344 = .ok (.iastore, 1) := by decide +kernel
theorem dX5_init_345 : decode cX5_init 345 = .ok (.dup, 1) := by decide +kernel
theorem dX5_init_346 : decode cX5_init 346 = .ok (.bipush 46, 2) := by decide +kernel
theorem dX5_init_348 : decode cX5_init 348 = .ok (.iconst 0, 1) := by decide +kernel
theorem dX5_init_349 : decode cX5_init 349 = .ok (.iastore, 1) := by decide +kernel
theorem dX5_init_350 : decode cX5_init 350 = .ok (.dup, 1) := by decide +kernel
theorem dX5_init_351 : decode cX5_init 351 = .ok (.bipush 47, 2) := by decide +kernel
theorem dX5_init_353 : decode cX5_init 353 = .ok (.iconst 0, 1) := by decide +kernel
theorem dX5_init_354 : decode cX5_init 354 = .ok (.iastore, 1) := by decide +kernel
theorem dX5_init_355 : decode cX5_init 355 = .ok (.dup, 1) := by decide +kernel
theorem dX5_init_356 : decode cX5_init 356 = .ok (.bipush 48, 2) := by decide +kernel
theorem dX5_init_358 : decode cX5_init 358 = .ok (.bipush 114, 2) := by decide +kernel
theorem dX5_init_360 : decode cX5_init 360 = .ok (.iastore, 1) := by decide +kernel
theorem dX5_init_361 : decode cX5_init 361 = .ok (.dup, 1) := by decide +kernel
theorem dX5_init_362 : decode cX5_init 362 = .ok (.bipush 49, 2) := by decide +kernel
theorem dX5_init_364 : decode cX5_init 364 = .ok (.bipush 117, 2) := by decide +kernel
theorem dX5_init_366 : decode cX5_init 366 = .ok (.iastore, 1) := by decide +kernel
theorem dX5_init_367 : decode cX5_init 367 = .ok (.dup, 1) := by decide +kernel
theorem dX5_init_368 : decode cX5_init 368 = .ok (.bipush 50, 2) := by decide +kernel
theorem dX5_init_370 : decode cX5_init 370 = .ok (.bipush 108, 2) := by decide +kernel
theorem dX5_init_372 : decode cX5_init 372 = .ok (.iastore, 1) := by decide +kernel
theorem dX5_init_373 : decode cX5_init 373 = .ok (.dup, 1) := by decide +kernel
theorem dX5_init_374 : decode cX5_init 374 = .ok (.bipush 51, 2) := by decide +kernel
theorem dX5_init_376 : decode cX5_init 376 = .ok (.bipush 101, 2) := by decide +kernel
theorem dX5_init_378 : decode cX5_init 378 = .ok (.iastore, 1) := by decide +kernel
theorem dX5_init_379 : decode cX5_init 379 = .ok (.dup, 1) := by decide +kernel
theorem dX5_init_380 : decode cX5_init 380 = .ok (.bipush 52, 2) := by decide +kernel
theorem dX5_init_382 : decode cX5_init 382 = .ok (.iconst 0, 1) := by decide +kernel
theorem dX5_init_383 : decode cX5_init 383 = .ok (.iastore, 1) := by decide +kernel
theorem dX5_init_384 : decode cX5_init 384 = .ok (.dup, 1) := by decide +kernel
theorem dX5_init_385 : decode cX5_init 385 = .ok (.bipush 53, 2) := by decide +kernel
theorem dX5_init_387 : decode cX5_init 387 = .ok (.iconst 0, 1) := by decide +kernel
theorem dX5_init_388 : decode cX5_init 388 = .ok (.iastore, 1) := by decide +kernel
theorem dX5_init_389 : decode cX5_init 389 = .ok (.putfield 35, 3) := by decide +kernel
theorem dX5_init_392 : decode cX5_init 392 = .ok (.aload_n 0, 1) := by decide +kernel
theorem dX5_init_393 : decode cX5_init 393 = .ok (.sipush 140, 3) := by decide +kernel
theorem dX5_init_396 : decode cX5_init 396 = .ok (.newarray .int, 2) := by decide +kernel
theorem dX5_init_398 : decode cX5_init 398 = .ok (.putfield 38, 3) := by decide +kernel
theorem dX5_init_401 : decode cX5_init 401 = .ok (.aload_n 0, 1) := by decide +kernel
theorem dX5_init_402 : decode cX5_init 402 = .ok (.invokevirtual 41, 3) := by decide +kernel
theorem dX5_init_405 : decode cX5_init 405 = .ok (.aload_n 0, 1) := by decide +kernel
theorem dX5_init_406 : decode cX5_init 406 = .ok (.getfield 7, 3) := by decide +kernel
theorem dX5_init_409 : decode cX5_init 409 = .ok (.iconst 0, 1) := by decide +kernel
theorem dX5_init_410 : decode cX5_init 410 = .ok (.iconst 1, 1) := by decide +kernel
theorem dX5_init_411 : decode cX5_init 411 = .ok (.iastore, 1) := by decide +kernel
theorem dX5_init_412 : decode cX5_init 412 = .ok (.aload_n 0, 1) := by decide +kernel
theorem dX5_init_413 : decode cX5_init 413 = .ok (.getfield 7, 3) := by decide +kernel
theorem dX5_init_416 : decode cX5_init 416 = .ok (.iconst 1, 1) := by decide +kernel
theorem dX5_init_417 : decode cX5_init 417 = .ok (.iconst 1, 1) := by decide +kernel
theorem dX5_init_418 : decode cX5_init 418 = .ok (.iastore, 1) := by decide +kernel
theorem dX5_init_419 : decode cX5_init 419 = .ok (.aload_n 0, 1) := by decide +kernel
theorem dX5_init_420 : decode cX5_init 420 = .ok (.iconst 0, 1) := by decide +kernel
theorem dX5_init_421 : decode cX5_init 421 = .ok (.sipush 847, 3) := by decide +kernel
theorem dX5_init_424 : decode cX5_init 424 = .ok (.invokevirtual 44, 3) := by decide +kernel
theorem dX5_init_427 : decode cX5_init 427 = .ok (.return_, 1) := by decide +kernel
theorem dX5_insert_0 : decode cX5_insert 0 = .ok (.iload_n 1, 1) := by decide +kernel
theorem dX5_insert_1 : decode cX5_insert 1 = .ok (.invokestatic 210, 3) := by decide +kernel
theorem dX5_insert_4 : decode cX5_insert 4 = .ok (.ifCond .ne 6, 3) := by decide +kernel
theorem dX5_insert_7 : decode cX5_insert 7 = .ok (.bipush (-2), 2) := by decide +kernel
theorem dX5_insert_9 : decode cX5_insert 9 = .ok (.ireturn, 1) := by decide +kernel
theorem dX5_insert_10 : decode cX5_insert 10 = .ok (.iload_n 3, 1) := by decide +kernel
theorem dX5_insert_11 : decode cX5_insert 11 = .ok (.invokestatic 78, 3) := by decide +kernel
theorem dX5_insert_14 : decode cX5_insert 14 = .ok (.ifCond .ne 19, 3) := by decide +kernel
theorem dX5_insert_17 : decode cX5_insert 17 = .ok (.iload_n 3, 1) := by decide +kernel
theorem dX5_insert_18 : decode cX5_insert 18 = .ok (.invokestatic 82, 3) := by decide +kernel
theorem dX5_insert_21 : decode cX5_insert 21 = .ok (.ifCond .ne 12, 3) := by decide +kernel
theorem dX5_insert_24 : decode cX5_insert 24 = .ok (.iload_n 3, 1) := by decide +kernel
theorem dX5_insert_25 : decode cX5_insert 25 = .ok (.bipush 46, 2) := by decide +kernel
theorem dX5_insert_27 : decode cX5_insert 27 = .ok (.if_icmp .eq 6, 3) := by decide +kernel
theorem dX5_insert_30 : decode cX5_insert 30 = .ok (.bipush (-3), 2) := by decide +kernel
theorem dX5_insert_32 : decode cX5_insert 32 = .ok (.ireturn, 1) := by decide +kernel
theorem dX5_insert_33 : decode cX5_insert 33 = .ok (.aload_n 0, 1) := by decide +kernel
theorem dX5_insert_34 : decode cX5_insert 34 = .ok (.getfield 26, 3) := by decide +kernel
theorem dX5_insert_37 : decode cX5_insert 37 = .ok (.iload_n 1, 1) := by decide +kernel
theorem dX5_insert_38 : decode cX5_insert 38 = .ok (.iaload, 1) := by decide +kernel
theorem dX5_insert_39 : decode cX5_insert 39 = .ok (.ifCond .ge 6, 3) := by decide +kernel
theorem dX5_insert_42 : decode cX5_insert 42 = .ok (.bipush (-11), 2) := by decide +kernel
theorem dX5_insert_44 : decode cX5_insert 44 = .ok (.ireturn, 1) := by decide +kernel
theorem dX5_insert_45 : decode cX5_insert 45 = .ok (.iload_n 2, 1) := by decide +kernel
theorem dX5_insert_46 : decode cX5_insert 46 = .ok (.i2l, 1) := by decide +kernel
theorem dX5_insert_47 : decode cX5_insert 47 = .ok (.lconst 0, 1) := by decide +kernel
theorem dX5_insert_48 : decode cX5_insert 48 = .ok (.aload_n 0, 1) := by decide +kernel
theorem dX5_insert_49 : decode cX5_insert 49 = .ok (.getfield 26, 3) := by decide +kernel
theorem dX5_insert_52 : decode cX5_insert 52 = .ok (.iload_n 1, 1) := by decide +kernel
theorem dX5_insert_53 : decode cX5_insert 53 = .ok (.iaload, 1) := by decide +kernel
theorem dX5_insert_54 : decode cX5_insert 54 = .ok (.i2l, 1) := by decide +kernel
theorem dX5_insert_55 : decode cX5_insert 55 = .ok (.invokestatic 57, 3) := by decide +kernel
theorem dX5_insert_58 : decode cX5_insert 58 = .ok (.ifCond .ne 6, 3) := by decide +kernel
theorem dX5_insert_61 : decode cX5_insert 61 = .ok (.bipush (-12), 2) := by decide +kernel
theorem dX5_insert_63 : decode cX5_insert 63 = .ok (.ireturn, 1) := by decide +kernel
theorem dX5_insert_64 : decode cX5_insert 64 = .ok (.aload_n 0, 1) := by decide +kernel
theorem dX5_insert_65 : decode cX5_insert 65 = .ok (.getfield 26, 3) := by decide +kernel
theorem dX5_insert_68 : decode cX5_insert 68 = .ok (.iload_n 1, 1) := by decide +kernel
theorem dX5_insert_69 : decode cX5_insert 69 = .ok (.iaload, 1) := by decide +kernel
theorem dX5_insert_70 : decode cX5_insert 70 = .ok (.bipush 40, 2) := by decide +kernel
theorem dX5_insert_72 : decode cX5_insert 72 = .ok (.if_icmp .ne 6, 3) := by decide +kernel
theorem dX5_insert_75 : decode cX5_insert 75 = .ok (.bipush (-13), 2) := by decide +kernel
theorem dX5_insert_77 : decode cX5_insert 77 = .ok (.ireturn, 1) := by decide +kernel
theorem dX5_insert_78 : decode cX5_insert 78 = .ok (.aload_n 0, 1) := by decide +kernel
theorem dX5_insert_79 : decode cX5_insert 79 = .ok (.getfield 26, 3) := by decide +kernel
theorem dX5_insert_82 : decode cX5_insert 82 = .ok (.iload_n 1, 1) := by decide +kernel
theorem dX5_insert_83 : decode cX5_insert 83 = .ok (.iaload, 1) := by decide +kernel
theorem dX5_insert_84 : decode cX5_insert 84 = .ok (.istore 4, 2) := by decide +kernel
theorem dX5_insert_86 : decode cX5_insert 86 = .ok (.iload 4, 2) := by decide +kernel
theorem dX5_insert_88 : decode cX5_insert 88 = .ok (.iload_n 2, 1) := by decide +kernel
theorem dX5_insert_89 : decode cX5_insert 89 = .ok (.if_icmp .le 35, 3) := by decide +kernel
theorem dX5_insert_92 : decode cX5_insert 92 = .ok (.aload_n 0, 1) := by decide +kernel
theorem dX5_insert_93 : decode cX5_insert 93 = .ok (.getfield 29, 3) := by decide +kernel
theorem dX5_insert_96 : decode cX5_insert 96 = .ok (.bipush 40, 2) := by decide +kernel
theorem dX5_insert_98 : decode cX5_insert 98 = .ok (.iload_n 1, 1) := by decide +kernel
theorem dX5_insert_99 : decode cX5_insert 99 = .ok (.imul, 1) := by decide +kernel
theorem dX5_insert_100 : decode cX5_insert 100 = .ok (.iload 4, 2) := by decide +kernel
theorem dX5_insert_102 : decode cX5_insert 102 = .ok (.iadd, 1) := by decide +kernel
theorem dX5_insert_103 : decode cX5_insert 103 = .ok (.aload_n 0, 1) := by decide +kernel
theorem dX5_insert_104 : decode cX5_insert 104 = .ok (.getfield 29, 3) := by decide +kernel
theorem dX5_insert_107 : decode cX5_insert 107 = .ok (.bipush 40, 2) := by decide +kernel
theorem dX5_insert_109 : decode cX5_insert 109 = .ok (.iload_n 1, 1) := by decide +kernel
theorem dX5_insert_110 : decode cX5_insert 110 = .ok (.imul, 1) := by decide +kernel
theorem dX5_insert_111 : decode cX5_insert 111 = .ok (.iload 4, 2) := by decide +kernel
theorem dX5_insert_113 : decode cX5_insert 113 = .ok (.iadd, 1) := by decide +kernel
theorem dX5_insert_114 : decode cX5_insert 114 = .ok (.iconst 1, 1) := by decide +kernel
theorem dX5_insert_115 : decode cX5_insert 115 = .ok (.isub, 1) := by decide +kernel
theorem dX5_insert_116 : decode cX5_insert 116 = .ok (.iaload, 1) := by decide +kernel
theorem dX5_insert_117 : decode cX5_insert 117 = .ok (.iastore, 1) := by decide +kernel
theorem dX5_insert_118 : decode cX5_insert 118 = .ok (.iinc 4 (-1), 3) := by decide +kernel
theorem dX5_insert_121 : decode cX5_insert 121 = .ok (.goto (-35), 3) := by decide +kernel
theorem dX5_insert_124 : decode cX5_insert 124 = .ok (.aload_n 0, 1) := by decide +kernel
theorem dX5_insert_125 : decode cX5_insert 125 = .ok (.getfield 29, 3) := by decide +kernel
theorem dX5_insert_128 : decode cX5_insert 128 = .ok (.bipush 40, 2) := by decide +kernel
theorem dX5_insert_130 : decode cX5_insert 130 = .ok (.iload_n 1, 1) := by decide +kernel
theorem dX5_insert_131 : decode cX5_insert 131 = .ok (.imul, 1) := by decide +kernel
theorem dX5_insert_132 : decode cX5_insert 132 = .ok (.iload_n 2, 1) := by decide +kernel
theorem dX5_insert_133 : decode cX5_insert 133 = .ok (.iadd, 1) := by decide +kernel
theorem dX5_insert_134 : decode cX5_insert 134 = .ok (.iload_n 3, 1) := by decide +kernel
theorem dX5_insert_135 : decode cX5_insert 135 = .ok (.iastore, 1) := by decide +kernel
theorem dX5_insert_136 : decode cX5_insert 136 = .ok (.aload_n 0, 1) := by decide +kernel
theorem dX5_insert_137 : decode cX5_insert 137 = .ok (.getfield 26, 3) := by decide +kernel
theorem dX5_insert_140 : decode cX5_insert 140 = .ok (.iload_n 1, 1) := by decide +kernel
theorem dX5_insert_141 : decode cX5_insert 141 = .ok (.dup2, 1) := by decide +kernel
theorem dX5_insert_142 : decode cX5_insert 142 = .ok (.iaload, 1) := by decide +kernel
theorem dX5_insert_143 : decode cX5_insert 143 = .ok (.iconst 1, 1) := by decide +kernel
theorem dX5_insert_144 : decode cX5_insert 144 = .ok (.iadd, 1) := by decide +kernel
theorem dX5_insert_145 : decode cX5_insert 145 = .ok (.iastore, 1) := by decide +kernel
theorem dX5_insert_146 : decode cX5_insert 146 = .ok (.aload_n 0, 1) := by decide +kernel
theorem dX5_insert_147 : decode cX5_insert 147 = .ok (.getfield 26, 3) := by decide +kernel
theorem dX5_insert_150 : decode cX5_insert 150 = .ok (.iload_n 1, 1) := by decide +kernel
theorem dX5_insert_151 : decode cX5_insert 151 = .ok (.iaload, 1) := by decide +kernel
theorem dX5_insert_152 : decode cX5_insert 152 = .ok (.ireturn, 1) := by decide +kernel
theorem dX5_isAnyone_0 : decode cX5_isAnyone 0 = .ok (.iconst 0, 1) := by decide +kernel
theorem dX5_isAnyone_1 : decode cX5_isAnyone 1 = .ok (.istore 4, 2) := by decide +kernel
theorem dX5_isAnyone_3 : decode cX5_isAnyone 3 = .ok (.iconst 0, 1) := by decide +kernel
theorem dX5_isAnyone_4 : decode cX5_isAnyone 4 = .ok (.istore 5, 2) := by decide +kernel
theorem dX5_isAnyone_6 : decode cX5_isAnyone 6 = .ok (.iload 5, 2) := by decide +kernel
theorem dX5_isAnyone_8 : decode cX5_isAnyone 8 = .ok (.aload_n 0, 1) := by decide +kernel
theorem dX5_isAnyone_9 : decode cX5_isAnyone 9 = .ok (.getfield 48, 3) := by decide +kernel
theorem dX5_isAnyone_12 : decode cX5_isAnyone 12 = .ok (.if_icmp .ge 54, 3) := by decide +kernel
theorem dX5_isAnyone_15 : decode cX5_isAnyone 15 = .ok (.iload 4, 2) := by decide +kernel
theorem dX5_isAnyone_17 : decode cX5_isAnyone 17 = .ok (.ifCond .ne 36, 3) := by decide +kernel
theorem dX5_isAnyone_20 : decode cX5_isAnyone 20 = .ok (.iload 5, 2) := by decide +kernel
theorem dX5_isAnyone_22 : decode cX5_isAnyone 22 = .ok (.iload_n 3, 1) := by decide +kernel
theorem dX5_isAnyone_23 : decode cX5_isAnyone 23 = .ok (.if_icmp .eq 34, 3) := by decide +kernel
theorem dX5_isAnyone_26 : decode cX5_isAnyone 26 = .ok (.aload_n 0, 1) := by decide +kernel
theorem dX5_isAnyone_27 : decode cX5_isAnyone 27 = .ok (.getfield 7, 3) := by decide +kernel
theorem dX5_isAnyone_30 : decode cX5_isAnyone 30 = .ok (.iload_n 1, 1) := by decide +kernel
theorem dX5_isAnyone_31 : decode cX5_isAnyone 31 = .ok (.iconst 4, 1) := by decide +kernel
theorem dX5_isAnyone_32 : decode cX5_isAnyone 32 = .ok (.iadd, 1) := by decide +kernel
theorem dX5_isAnyone_33 : decode cX5_isAnyone 33 = .ok (.iaload, 1) := by decide +kernel
theorem dX5_isAnyone_34 : decode cX5_isAnyone 34 = .ok (.iload 5, 2) := by decide +kernel
theorem dX5_isAnyone_36 : decode cX5_isAnyone 36 = .ok (.invokestatic 93, 3) := by decide +kernel
theorem dX5_isAnyone_39 : decode cX5_isAnyone 39 = .ok (.ifCond .ne 18, 3) := by decide +kernel
theorem dX5_isAnyone_42 : decode cX5_isAnyone 42 = .ok (.aload_n 0, 1) := by decide +kernel
theorem dX5_isAnyone_43 : decode cX5_isAnyone 43 = .ok (.iload_n 1, 1) := by decide +kernel
theorem dX5_isAnyone_44 : decode cX5_isAnyone 44 = .ok (.iload 5, 2) := by decide +kernel
theorem dX5_isAnyone_46 : decode cX5_isAnyone 46 = .ok (.iload_n 2, 1) := by decide +kernel
theorem dX5_isAnyone_47 : decode cX5_isAnyone 47 = .ok (.invokevirtual 152, 3) := by decide +kernel
theorem dX5_isAnyone_50 : decode cX5_isAnyone 50 = .ok (.ifCond .ne 7, 3) := by decide +kernel
theorem dX5_isAnyone_53 : decode cX5_isAnyone 53 = .ok (.iconst 1, 1) := by decide +kernel
theorem dX5_isAnyone_54 : decode cX5_isAnyone 54 = .ok (.goto 4, 3) := by decide +kernel
theorem dX5_isAnyone_57 : decode cX5_isAnyone 57 = .ok (.iconst 0, 1) := by decide +kernel
theorem dX5_isAnyone_58 : decode cX5_isAnyone 58 = .ok (.istore 4, 2) := by decide +kernel
theorem dX5_isAnyone_60 : decode cX5_isAnyone 60 = .ok (.iinc 5 1, 3) := by decide +kernel
theorem dX5_isAnyone_63 : decode cX5_isAnyone 63 = .ok (.goto (-57), 3) := by decide +kernel
theorem dX5_isAnyone_66 : decode cX5_isAnyone 66 = .ok (.iload 4, 2) := by decide +kernel
theorem dX5_isAnyone_68 : decode cX5_isAnyone 68 = .ok (.ireturn, 1) := by decide +kernel
theorem dX5_isBarred_0 : decode cX5_isBarred 0 = .ok (.aload_n 0, 1) := by decide +kernel
theorem dX5_isBarred_1 : decode cX5_isBarred 1 = .ok (.getfield 7, 3) := by decide +kernel
theorem dX5_isBarred_4 : decode cX5_isBarred 4 = .ok (.iload_n 1, 1) := by decide +kernel
theorem dX5_isBarred_5 : decode cX5_isBarred 5 = .ok (.iconst 5, 1) := by decide +kernel
theorem dX5_isBarred_6 : decode cX5_isBarred 6 = .ok (.iadd, 1) := by decide +kernel
theorem dX5_isBarred_7 : decode cX5_isBarred 7 = .ok (.iload_n 2, 1) := by decide +kernel
theorem dX5_isBarred_8 : decode cX5_isBarred 8 = .ok (.iadd, 1) := by decide +kernel
theorem dX5_isBarred_9 : decode cX5_isBarred 9 = .ok (.iaload, 1) := by decide +kernel
theorem dX5_isBarred_10 : decode cX5_isBarred 10 = .ok (.iload_n 3, 1) := by decide +kernel
theorem dX5_isBarred_11 : decode cX5_isBarred 11 = .ok (.invokestatic 93, 3) := by decide +kernel
theorem dX5_isBarred_14 : decode cX5_isBarred 14 = .ok (.ireturn, 1) := by decide +kernel
theorem dX5_isCase_0 : decode cX5_isCase 0 = .ok (.iload_n 1, 1) := by decide +kernel
theorem dX5_isCase_1 : decode cX5_isCase 1 = .ok (.i2l, 1) := by decide +kernel
theorem dX5_isCase_2 : decode cX5_isCase 2 = .ok (.lconst 0, 1) := by decide +kernel
theorem dX5_isCase_3 : decode cX5_isCase 3 = .ok (.aload_n 0, 1) := by decide +kernel
theorem dX5_isCase_4 : decode cX5_isCase 4 = .ok (.getfield 7, 3) := by decide +kernel
theorem dX5_isCase_7 : decode cX5_isCase 7 = .ok (.iconst 3, 1) := by decide +kernel
theorem dX5_isCase_8 : decode cX5_isCase 8 = .ok (.iaload, 1) := by decide +kernel
theorem dX5_isCase_9 : decode cX5_isCase 9 = .ok (.iconst 1, 1) := by decide +kernel
theorem dX5_isCase_10 : decode cX5_isCase 10 = .ok (.isub, 1) := by decide +kernel
theorem dX5_isCase_11 : decode cX5_isCase 11 = .ok (.i2l, 1) := by decide +kernel
theorem dX5_isCase_12 : decode cX5_isCase 12 = .ok (.invokestatic 57, 3) := by decide +kernel
theorem dX5_isCase_15 : decode cX5_isCase 15 = .ok (.ireturn, 1) := by decide +kernel
theorem dX5_isDigit_0 : decode cX5_isDigit 0 = .ok (.iload_n 0, 1) := by decide +kernel
theorem dX5_isDigit_1 : decode cX5_isDigit 1 = .ok (.i2l, 1) := by decide +kernel
theorem dX5_isDigit_2 : decode cX5_isDigit 2 = .ok (.ldc2_w 68, 3) := by decide +kernel
theorem dX5_isDigit_5 : decode cX5_isDigit 5 = .ok (.ldc2_w 70, 3) := by decide +kernel
theorem dX5_isDigit_8 : decode cX5_isDigit 8 = .ok (.invokestatic 57, 3) := by decide +kernel
theorem dX5_isDigit_11 : decode cX5_isDigit 11 = .ok (.ireturn, 1) := by decide +kernel
theorem dX5_isJudge_0 : decode cX5_isJudge 0 = .ok (.iload_n 1, 1) := by decide +kernel
theorem dX5_isJudge_1 : decode cX5_isJudge 1 = .ok (.i2l, 1) := by decide +kernel
theorem dX5_isJudge_2 : decode cX5_isJudge 2 = .ok (.lconst 0, 1) := by decide +kernel
theorem dX5_isJudge_3 : decode cX5_isJudge 3 = .ok (.aload_n 0, 1) := by decide +kernel
theorem dX5_isJudge_4 : decode cX5_isJudge 4 = .ok (.getfield 48, 3) := by decide +kernel
theorem dX5_isJudge_7 : decode cX5_isJudge 7 = .ok (.iconst 1, 1) := by decide +kernel
theorem dX5_isJudge_8 : decode cX5_isJudge 8 = .ok (.isub, 1) := by decide +kernel
theorem dX5_isJudge_9 : decode cX5_isJudge 9 = .ok (.i2l, 1) := by decide +kernel
theorem dX5_isJudge_10 : decode cX5_isJudge 10 = .ok (.invokestatic 57, 3) := by decide +kernel
theorem dX5_isJudge_13 : decode cX5_isJudge 13 = .ok (.ireturn, 1) := by decide +kernel
theorem dX5_isParty_0 : decode cX5_isParty 0 = .ok (.iload_n 0, 1) := by decide +kernel
theorem dX5_isParty_1 : decode cX5_isParty 1 = .ok (.i2l, 1) := by decide +kernel
theorem dX5_isParty_2 : decode cX5_isParty 2 = .ok (.lconst 0, 1) := by decide +kernel
theorem dX5_isParty_3 : decode cX5_isParty 3 = .ok (.ldc2_w 171, 3) := by decide +kernel
theorem dX5_isParty_6 : decode cX5_isParty 6 = .ok (.invokestatic 57, 3) := by decide +kernel
theorem dX5_isParty_9 : decode cX5_isParty 9 = .ok (.ireturn, 1) := by decide +kernel
theorem dX5_isSlip_0 : decode cX5_isSlip 0 = .ok (.iload_n 0, 1) := by decide +kernel
theorem dX5_isSlip_1 : decode cX5_isSlip 1 = .ok (.i2l, 1) := by decide +kernel
theorem dX5_isSlip_2 : decode cX5_isSlip 2 = .ok (.lconst 0, 1) := by decide +kernel
theorem dX5_isSlip_3 : decode cX5_isSlip 3 = .ok (.ldc2_w 208, 3) := by decide +kernel
theorem dX5_isSlip_6 : decode cX5_isSlip 6 = .ok (.invokestatic 57, 3) := by decide +kernel
theorem dX5_isSlip_9 : decode cX5_isSlip 9 = .ok (.ireturn, 1) := by decide +kernel
theorem dX5_isSmall_0 : decode cX5_isSmall 0 = .ok (.iload_n 0, 1) := by decide +kernel
theorem dX5_isSmall_1 : decode cX5_isSmall 1 = .ok (.i2l, 1) := by decide +kernel
theorem dX5_isSmall_2 : decode cX5_isSmall 2 = .ok (.ldc2_w 64, 3) := by decide +kernel
theorem dX5_isSmall_5 : decode cX5_isSmall 5 = .ok (.ldc2_w 66, 3) := by decide +kernel
theorem dX5_isSmall_8 : decode cX5_isSmall 8 = .ok (.invokestatic 57, 3) := by decide +kernel
theorem dX5_isSmall_11 : decode cX5_isSmall 11 = .ok (.ireturn, 1) := by decide +kernel
theorem dX5_isSubject_0 : decode cX5_isSubject 0 = .ok (.iload_n 0, 1) := by decide +kernel
theorem dX5_isSubject_1 : decode cX5_isSubject 1 = .ok (.i2l, 1) := by decide +kernel
theorem dX5_isSubject_2 : decode cX5_isSubject 2 = .ok (.lconst 0, 1) := by decide +kernel
theorem dX5_isSubject_3 : decode cX5_isSubject 3 = .ok (.ldc2_w 91, 3) := by decide +kernel
theorem dX5_isSubject_6 : decode cX5_isSubject 6 = .ok (.invokestatic 57, 3) := by decide +kernel
theorem dX5_isSubject_9 : decode cX5_isSubject 9 = .ok (.ireturn, 1) := by decide +kernel
theorem dX5_isWord_0 : decode cX5_isWord 0 = .ok (.aload_n 0, 1) := by decide +kernel
theorem dX5_isWord_1 : decode cX5_isWord 1 = .ok (.getfield 72, 3) := by decide +kernel
theorem dX5_isWord_4 : decode cX5_isWord 4 = .ok (.aload_n 0, 1) := by decide +kernel
theorem dX5_isWord_5 : decode cX5_isWord 5 = .ok (.getfield 75, 3) := by decide +kernel
theorem dX5_isWord_8 : decode cX5_isWord 8 = .ok (.if_icmp .le 21, 3) := by decide +kernel
theorem dX5_isWord_11 : decode cX5_isWord 11 = .ok (.aload_n 0, 1) := by decide +kernel
theorem dX5_isWord_12 : decode cX5_isWord 12 = .ok (.getfield 72, 3) := by decide +kernel
theorem dX5_isWord_15 : decode cX5_isWord 15 = .ok (.aload_n 0, 1) := by decide +kernel
theorem dX5_isWord_16 : decode cX5_isWord 16 = .ok (.getfield 75, 3) := by decide +kernel
theorem dX5_isWord_19 : decode cX5_isWord 19 = .ok (.isub, 1) := by decide +kernel
theorem dX5_isWord_20 : decode cX5_isWord 20 = .ok (.bipush 7, 2) := by decide +kernel
theorem dX5_isWord_22 : decode cX5_isWord 22 = .ok (.if_icmp .ge 7, 3) := by decide +kernel
theorem dX5_isWord_25 : decode cX5_isWord 25 = .ok (.iconst 1, 1) := by decide +kernel
theorem dX5_isWord_26 : decode cX5_isWord 26 = .ok (.goto 4, 3) := by decide +kernel
theorem dX5_isWord_29 : decode cX5_isWord 29 = .ok (.iconst 0, 1) := by decide +kernel
theorem dX5_isWord_30 : decode cX5_isWord 30 = .ok (.istore_n 2, 1) := by decide +kernel
theorem dX5_isWord_31 : decode cX5_isWord 31 = .ok (.iconst 0, 1) := by decide +kernel
theorem dX5_isWord_32 : decode cX5_isWord 32 = .ok (.istore_n 3, 1) := by decide +kernel
theorem dX5_isWord_33 : decode cX5_isWord 33 = .ok (.iload_n 3, 1) := by decide +kernel
theorem dX5_isWord_34 : decode cX5_isWord 34 = .ok (.bipush 6, 2) := by decide +kernel
theorem dX5_isWord_36 : decode cX5_isWord 36 = .ok (.if_icmp .ge 61, 3) := by decide +kernel
theorem dX5_isWord_39 : decode cX5_isWord 39 = .ok (.iload_n 2, 1) := by decide +kernel
theorem dX5_isWord_40 : decode cX5_isWord 40 = .ok (.ifCond .eq 57, 3) := by decide +kernel
theorem dX5_isWord_43 : decode cX5_isWord 43 = .ok (.aload_n 0, 1) := by decide +kernel
theorem dX5_isWord_44 : decode cX5_isWord 44 = .ok (.getfield 35, 3) := by decide +kernel
theorem dX5_isWord_47 : decode cX5_isWord 47 = .ok (.bipush 6, 2) := by decide +kernel
theorem dX5_isWord_49 : decode cX5_isWord 49 = .ok (.iload_n 1, 1) := by decide +kernel
theorem dX5_isWord_50 : decode cX5_isWord 50 = .ok (.imul, 1) := by decide +kernel
theorem dX5_isWord_51 : decode cX5_isWord 51 = .ok (.iload_n 3, 1) := by decide +kernel
theorem dX5_isWord_52 : decode cX5_isWord 52 = .ok (.iadd, 1) := by decide +kernel
theorem dX5_isWord_53 : decode cX5_isWord 53 = .ok (.iaload, 1) := by decide +kernel
theorem dX5_isWord_54 : decode cX5_isWord 54 = .ok (.aload_n 0, 1) := by decide +kernel
theorem dX5_isWord_55 : decode cX5_isWord 55 = .ok (.getfield 75, 3) := by decide +kernel
theorem dX5_isWord_58 : decode cX5_isWord 58 = .ok (.iload_n 3, 1) := by decide +kernel
theorem dX5_isWord_59 : decode cX5_isWord 59 = .ok (.iadd, 1) := by decide +kernel
theorem dX5_isWord_60 : decode cX5_isWord 60 = .ok (.aload_n 0, 1) := by decide +kernel
theorem dX5_isWord_61 : decode cX5_isWord 61 = .ok (.getfield 72, 3) := by decide +kernel
theorem dX5_isWord_64 : decode cX5_isWord 64 = .ok (.if_icmp .ge 17, 3) := by decide +kernel
theorem dX5_isWord_67 : decode cX5_isWord 67 = .ok (.aload_n 0, 1) := by decide +kernel
theorem dX5_isWord_68 : decode cX5_isWord 68 = .ok (.getfield 23, 3) := by decide +kernel
theorem dX5_isWord_71 : decode cX5_isWord 71 = .ok (.aload_n 0, 1) := by decide +kernel
theorem dX5_isWord_72 : decode cX5_isWord 72 = .ok (.getfield 75, 3) := by decide +kernel
theorem dX5_isWord_75 : decode cX5_isWord 75 = .ok (.iload_n 3, 1) := by decide +kernel
theorem dX5_isWord_76 : decode cX5_isWord 76 = .ok (.iadd, 1) := by decide +kernel
theorem dX5_isWord_77 : decode cX5_isWord 77 = .ok (.iaload, 1) := by decide +kernel
theorem dX5_isWord_78 : decode cX5_isWord 78 = .ok (.goto 4, 3) := by decide +kernel
theorem dX5_isWord_81 : decode cX5_isWord 81 = .ok (.iconst 0, 1) := by decide +kernel
theorem dX5_isWord_82 : decode cX5_isWord 82 = .ok (.if_icmp .ne 7, 3) := by decide +kernel
theorem dX5_isWord_85 : decode cX5_isWord 85 = .ok (.iconst 1, 1) := by decide +kernel
theorem dX5_isWord_86 : decode cX5_isWord 86 = .ok (.goto 4, 3) := by decide +kernel
theorem dX5_isWord_89 : decode cX5_isWord 89 = .ok (.iconst 0, 1) := by decide +kernel
theorem dX5_isWord_90 : decode cX5_isWord 90 = .ok (.istore_n 2, 1) := by decide +kernel
theorem dX5_isWord_91 : decode cX5_isWord 91 = .ok (.iinc 3 1, 3) := by decide +kernel
theorem dX5_isWord_94 : decode cX5_isWord 94 = .ok (.goto (-61), 3) := by decide +kernel
theorem dX5_isWord_97 : decode cX5_isWord 97 = .ok (.iload_n 2, 1) := by decide +kernel
theorem dX5_isWord_98 : decode cX5_isWord 98 = .ok (.ireturn, 1) := by decide +kernel
theorem dX5_join_0 : decode cX5_join 0 = .ok (.iload_n 1, 1) := by decide +kernel
theorem dX5_join_1 : decode cX5_join 1 = .ok (.invokestatic 210, 3) := by decide +kernel
theorem dX5_join_4 : decode cX5_join 4 = .ok (.ifCond .eq 10, 3) := by decide +kernel
theorem dX5_join_7 : decode cX5_join 7 = .ok (.iload_n 2, 1) := by decide +kernel
theorem dX5_join_8 : decode cX5_join 8 = .ok (.invokestatic 210, 3) := by decide +kernel
theorem dX5_join_11 : decode cX5_join 11 = .ok (.ifCond .ne 6, 3) := by decide +kernel
theorem dX5_join_14 : decode cX5_join 14 = .ok (.bipush (-2), 2) := by decide +kernel
theorem dX5_join_16 : decode cX5_join 16 = .ok (.ireturn, 1) := by decide +kernel
theorem dX5_join_17 : decode cX5_join 17 = .ok (.aload_n 0, 1) := by decide +kernel
theorem dX5_join_18 : decode cX5_join 18 = .ok (.getfield 26, 3) := by decide +kernel
theorem dX5_join_21 : decode cX5_join 21 = .ok (.iload_n 1, 1) := by decide +kernel
theorem dX5_join_22 : decode cX5_join 22 = .ok (.iaload, 1) := by decide +kernel
theorem dX5_join_23 : decode cX5_join 23 = .ok (.ifCond .lt 12, 3) := by decide +kernel
theorem dX5_join_26 : decode cX5_join 26 = .ok (.aload_n 0, 1) := by decide +kernel
theorem dX5_join_27 : decode cX5_join 27 = .ok (.getfield 26, 3) := by decide +kernel
theorem dX5_join_30 : decode cX5_join 30 = .ok (.iload_n 2, 1) := by decide +kernel
theorem dX5_join_31 : decode cX5_join 31 = .ok (.iaload, 1) := by decide +kernel
theorem dX5_join_32 : decode cX5_join 32 = .ok (.ifCond .ge 6, 3) := by decide +kernel
theorem dX5_join_35 : decode cX5_join 35 = .ok (.bipush (-11), 2) := by decide +kernel
theorem dX5_join_37 : decode cX5_join 37 = .ok (.ireturn, 1) := by decide +kernel
theorem dX5_join_38 : decode cX5_join 38 = .ok (.aload_n 0, 1) := by decide +kernel
theorem dX5_join_39 : decode cX5_join 39 = .ok (.getfield 26, 3) := by decide +kernel
theorem dX5_join_42 : decode cX5_join 42 = .ok (.iload_n 2, 1) := by decide +kernel
theorem dX5_join_43 : decode cX5_join 43 = .ok (.iaload, 1) := by decide +kernel
theorem dX5_join_44 : decode cX5_join 44 = .ok (.istore_n 3, 1) := by decide +kernel
theorem dX5_join_45 : decode cX5_join 45 = .ok (.aload_n 0, 1) := by decide +kernel
theorem dX5_join_46 : decode cX5_join 46 = .ok (.getfield 26, 3) := by decide +kernel
theorem dX5_join_49 : decode cX5_join 49 = .ok (.iload_n 1, 1) := by decide +kernel
theorem dX5_join_50 : decode cX5_join 50 = .ok (.iaload, 1) := by decide +kernel
theorem dX5_join_51 : decode cX5_join 51 = .ok (.iload_n 3, 1) := by decide +kernel
theorem dX5_join_52 : decode cX5_join 52 = .ok (.iadd, 1) := by decide +kernel
theorem dX5_join_53 : decode cX5_join 53 = .ok (.bipush 40, 2) := by decide +kernel
theorem dX5_join_55 : decode cX5_join 55 = .ok (.if_icmp .le 6, 3) := by decide +kernel
theorem dX5_join_58 : decode cX5_join 58 = .ok (.bipush (-13), 2) := by decide +kernel
theorem dX5_join_60 : decode cX5_join 60 = .ok (.ireturn, 1) := by decide +kernel
theorem dX5_join_61 : decode cX5_join 61 = .ok (.iconst 0, 1) := by decide +kernel
theorem dX5_join_62 : decode cX5_join 62 = .ok (.istore 4, 2) := by decide +kernel
theorem dX5_join_64 : decode cX5_join 64 = .ok (.iload 4, 2) := by decide +kernel
theorem dX5_join_66 : decode cX5_join 66 = .ok (.iload_n 3, 1) := by decide +kernel
theorem dX5_join_67 : decode cX5_join 67 = .ok (.if_icmp .ge 47, 3) := by decide +kernel
theorem dX5_join_70 : decode cX5_join 70 = .ok (.aload_n 0, 1) := by decide +kernel
theorem dX5_join_71 : decode cX5_join 71 = .ok (.getfield 29, 3) := by decide +kernel
theorem dX5_join_74 : decode cX5_join 74 = .ok (.bipush 40, 2) := by decide +kernel
theorem dX5_join_76 : decode cX5_join 76 = .ok (.iload_n 1, 1) := by decide +kernel
theorem dX5_join_77 : decode cX5_join 77 = .ok (.imul, 1) := by decide +kernel
theorem dX5_join_78 : decode cX5_join 78 = .ok (.aload_n 0, 1) := by decide +kernel
theorem dX5_join_79 : decode cX5_join 79 = .ok (.getfield 26, 3) := by decide +kernel
theorem dX5_join_82 : decode cX5_join 82 = .ok (.iload_n 1, 1) := by decide +kernel
theorem dX5_join_83 : decode cX5_join 83 = .ok (.iaload, 1) := by decide +kernel
theorem dX5_join_84 : decode cX5_join 84 = .ok (.iadd, 1) := by decide +kernel
theorem dX5_join_85 : decode cX5_join 85 = .ok (.aload_n 0, 1) := by decide +kernel
theorem dX5_join_86 : decode cX5_join 86 = .ok (.getfield 29, 3) := by decide +kernel
theorem dX5_join_89 : decode cX5_join 89 = .ok (.bipush 40, 2) := by decide +kernel
theorem dX5_join_91 : decode cX5_join 91 = .ok (.iload_n 2, 1) := by decide +kernel
theorem dX5_join_92 : decode cX5_join 92 = .ok (.imul, 1) := by decide +kernel
theorem dX5_join_93 : decode cX5_join 93 = .ok (.iload 4, 2) := by decide +kernel
theorem dX5_join_95 : decode cX5_join 95 = .ok (.iadd, 1) := by decide +kernel
theorem dX5_join_96 : decode cX5_join 96 = .ok (.iaload, 1) := by decide +kernel
theorem dX5_join_97 : decode cX5_join 97 = .ok (.iastore, 1) := by decide +kernel
theorem dX5_join_98 : decode cX5_join 98 = .ok (.aload_n 0, 1) := by decide +kernel
theorem dX5_join_99 : decode cX5_join 99 = .ok (.getfield 26, 3) := by decide +kernel
theorem dX5_join_102 : decode cX5_join 102 = .ok (.iload_n 1, 1) := by decide +kernel
theorem dX5_join_103 : decode cX5_join 103 = .ok (.dup2, 1) := by decide +kernel
theorem dX5_join_104 : decode cX5_join 104 = .ok (.iaload, 1) := by decide +kernel
theorem dX5_join_105 : decode cX5_join 105 = .ok (.iconst 1, 1) := by decide +kernel
theorem dX5_join_106 : decode cX5_join 106 = .ok (.iadd, 1) := by decide +kernel
theorem dX5_join_107 : decode cX5_join 107 = .ok (.iastore, 1) := by decide +kernel
theorem dX5_join_108 : decode cX5_join 108 = .ok (.iinc 4 1, 3) := by decide +kernel
theorem dX5_join_111 : decode cX5_join 111 = .ok (.goto (-47), 3) := by decide +kernel
theorem dX5_join_114 : decode cX5_join 114 = .ok (.aload_n 0, 1) := by decide +kernel
theorem dX5_join_115 : decode cX5_join 115 = .ok (.getfield 26, 3) := by decide +kernel
theorem dX5_join_118 : decode cX5_join 118 = .ok (.iload_n 1, 1) := by decide +kernel
theorem dX5_join_119 : decode cX5_join 119 = .ok (.iaload, 1) := by decide +kernel
theorem dX5_join_120 : decode cX5_join 120 = .ok (.ireturn, 1) := by decide +kernel
theorem dX5_judge_0 : decode cX5_judge 0 = .ok (.aload_n 0, 1) := by decide +kernel
theorem dX5_judge_1 : decode cX5_judge 1 = .ok (.iload_n 1, 1) := by decide +kernel
theorem dX5_judge_2 : decode cX5_judge 2 = .ok (.invokevirtual 139, 3) := by decide +kernel
theorem dX5_judge_5 : decode cX5_judge 5 = .ok (.ifCond .ne 6, 3) := by decide +kernel
theorem dX5_judge_8 : decode cX5_judge 8 = .ok (.bipush (-2), 2) := by decide +kernel
theorem dX5_judge_10 : decode cX5_judge 10 = .ok (.ireturn, 1) := by decide +kernel
theorem dX5_judge_11 : decode cX5_judge 11 = .ok (.iload_n 2, 1) := by decide +kernel
theorem dX5_judge_12 : decode cX5_judge 12 = .ok (.tableswitch 133 0 5 #[40, 47, 54, 63, 74, 87], 40) := by decide +kernel
theorem dX5_judge_52 : decode cX5_judge 52 = .ok (.aload_n 0, 1) := by decide +kernel
theorem dX5_judge_53 : decode cX5_judge 53 = .ok (.getfield 13, 3) := by decide +kernel
theorem dX5_judge_56 : decode cX5_judge 56 = .ok (.iload_n 1, 1) := by decide +kernel
theorem dX5_judge_57 : decode cX5_judge 57 = .ok (.iaload, 1) := by decide +kernel
theorem dX5_judge_58 : decode cX5_judge 58 = .ok (.ireturn, 1) := by decide +kernel
theorem dX5_judge_59 : decode cX5_judge 59 = .ok (.aload_n 0, 1) := by decide +kernel
theorem dX5_judge_60 : decode cX5_judge 60 = .ok (.getfield 16, 3) := by decide +kernel
theorem dX5_judge_63 : decode cX5_judge 63 = .ok (.iload_n 1, 1) := by decide +kernel
theorem dX5_judge_64 : decode cX5_judge 64 = .ok (.iaload, 1) := by decide +kernel
theorem dX5_judge_65 : decode cX5_judge 65 = .ok (.ireturn, 1) := by decide +kernel
theorem dX5_judge_66 : decode cX5_judge 66 = .ok (.aload_n 0, 1) := by decide +kernel
theorem dX5_judge_67 : decode cX5_judge 67 = .ok (.getfield 7, 3) := by decide +kernel
theorem dX5_judge_70 : decode cX5_judge 70 = .ok (.iconst 5, 1) := by decide +kernel
theorem dX5_judge_71 : decode cX5_judge 71 = .ok (.iload_n 1, 1) := by decide +kernel
theorem dX5_judge_72 : decode cX5_judge 72 = .ok (.iadd, 1) := by decide +kernel
theorem dX5_judge_73 : decode cX5_judge 73 = .ok (.iaload, 1) := by decide +kernel
theorem dX5_judge_74 : decode cX5_judge 74 = .ok (.ireturn, 1) := by decide +kernel
theorem dX5_judge_75 : decode cX5_judge 75 = .ok (.aload_n 0, 1) := by decide +kernel
theorem dX5_judge_76 : decode cX5_judge 76 = .ok (.getfield 7, 3) := by decide +kernel
theorem dX5_judge_79 : decode cX5_judge 79 = .ok (.iconst 4, 1) := by decide +kernel
theorem dX5_judge_80 : decode cX5_judge 80 = .ok (.iaload, 1) := by decide +kernel
theorem dX5_judge_81 : decode cX5_judge 81 = .ok (.iload_n 1, 1) := by decide +kernel
theorem dX5_judge_82 : decode cX5_judge 82 = .ok (.ishr, 1) := by decide +kernel
theorem dX5_judge_83 : decode cX5_judge 83 = .ok (.iconst 1, 1) := by decide +kernel
theorem dX5_judge_84 : decode cX5_judge 84 = .ok (.iand, 1) := by decide +kernel
theorem dX5_judge_85 : decode cX5_judge 85 = .ok (.ireturn, 1) := by decide +kernel
theorem dX5_judge_86 : decode cX5_judge 86 = .ok (.aload_n 0, 1) := by decide +kernel
theorem dX5_judge_87 : decode cX5_judge 87 = .ok (.getfield 7, 3) := by decide +kernel
theorem dX5_judge_90 : decode cX5_judge 90 = .ok (.bipush 11, 2) := by decide +kernel
theorem dX5_judge_92 : decode cX5_judge 92 = .ok (.iload_n 1, 1) := by decide +kernel
theorem dX5_judge_93 : decode cX5_judge 93 = .ok (.iadd, 1) := by decide +kernel
theorem dX5_judge_94 : decode cX5_judge 94 = .ok (.iaload, 1) := by decide +kernel
theorem dX5_judge_95 : decode cX5_judge 95 = .ok (.bipush 100, 2) := by decide +kernel
theorem dX5_judge_97 : decode cX5_judge 97 = .ok (.iadd, 1) := by decide +kernel
theorem dX5_judge_98 : decode cX5_judge 98 = .ok (.ireturn, 1) := by decide +kernel
theorem dX5_judge_99 : decode cX5_judge 99 = .ok (.iconst 0, 1) := by decide +kernel
theorem dX5_judge_100 : decode cX5_judge 100 = .ok (.istore_n 3, 1) := by decide +kernel
theorem dX5_judge_101 : decode cX5_judge 101 = .ok (.iconst 0, 1) := by decide +kernel
theorem dX5_judge_102 : decode cX5_judge 102 = .ok (.istore 4, 2) := by decide +kernel
theorem dX5_judge_104 : decode cX5_judge 104 = .ok (.iload 4, 2) := by decide +kernel
theorem dX5_judge_106 : decode cX5_judge 106 = .ok (.aload_n 0, 1) := by decide +kernel
theorem dX5_judge_107 : decode cX5_judge 107 = .ok (.getfield 7, 3) := by decide +kernel
theorem dX5_judge_110 : decode cX5_judge 110 = .ok (.iconst 3, 1) := by decide +kernel
theorem dX5_judge_111 : decode cX5_judge 111 = .ok (.iaload, 1) := by decide +kernel
theorem dX5_judge_112 : decode cX5_judge 112 = .ok (.if_icmp .ge 31, 3) := by decide +kernel
theorem dX5_judge_115 : decode cX5_judge 115 = .ok (.iload_n 3, 1) := by decide +kernel
theorem dX5_judge_116 : decode cX5_judge 116 = .ok (.aload_n 0, 1) := by decide +kernel
theorem dX5_judge_117 : decode cX5_judge 117 = .ok (.getfield 7, 3) := by decide +kernel
theorem dX5_judge_120 : decode cX5_judge 120 = .ok (.bipush 57, 2) := by decide +kernel
theorem dX5_judge_122 : decode cX5_judge 122 = .ok (.iload 4, 2) := by decide +kernel
theorem dX5_judge_124 : decode cX5_judge 124 = .ok (.iadd, 1) := by decide +kernel
theorem dX5_judge_125 : decode cX5_judge 125 = .ok (.iaload, 1) := by decide +kernel
theorem dX5_judge_126 : decode cX5_judge 126 = .ok (.iload_n 1, 1) := by decide +kernel
theorem dX5_judge_127 : decode cX5_judge 127 = .ok (.if_icmp .ne 7, 3) := by decide +kernel
theorem dX5_judge_130 : decode cX5_judge 130 = .ok (.iconst 1, 1) := by decide +kernel
theorem dX5_judge_131 : decode cX5_judge 131 = .ok (.goto 4, 3) := by decide +kernel
theorem dX5_judge_134 : decode cX5_judge 134 = .ok (.iconst 0, 1) := by decide +kernel
theorem dX5_judge_135 : decode cX5_judge 135 = .ok (.iadd, 1) := by decide +kernel
theorem dX5_judge_136 : decode cX5_judge 136 = .ok (.istore_n 3, 1) := by decide +kernel
theorem dX5_judge_137 : decode cX5_judge 137 = .ok (.iinc 4 1, 3) := by decide +kernel
theorem dX5_judge_140 : decode cX5_judge 140 = .ok (.goto (-36), 3) := by decide +kernel
theorem dX5_judge_143 : decode cX5_judge 143 = .ok (.iload_n 3, 1) := by decide +kernel
theorem dX5_judge_144 : decode cX5_judge 144 = .ok (.ireturn, 1) := by decide +kernel
theorem dX5_judge_145 : decode cX5_judge 145 = .ok (.bipush (-3), 2) := by decide +kernel
theorem dX5_judge_147 : decode cX5_judge 147 = .ok (.ireturn, 1) := by decide +kernel
