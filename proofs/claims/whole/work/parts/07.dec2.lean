theorem dX4_assign_0 : decode cX4_assign 0 = .ok (.iload_n 1, 1) := by decide +kernel
theorem dX4_assign_1 : decode cX4_assign 1 = .ok (.invokestatic 144, 3) := by decide +kernel
theorem dX4_assign_4 : decode cX4_assign 4 = .ok (.ifCond .eq 10, 3) := by decide +kernel
theorem dX4_assign_7 : decode cX4_assign 7 = .ok (.iload_n 2, 1) := by decide +kernel
theorem dX4_assign_8 : decode cX4_assign 8 = .ok (.invokestatic 147, 3) := by decide +kernel
theorem dX4_assign_11 : decode cX4_assign 11 = .ok (.ifCond .ne 6, 3) := by decide +kernel
theorem dX4_assign_14 : decode cX4_assign 14 = .ok (.bipush (-3), 2) := by decide +kernel
theorem dX4_assign_16 : decode cX4_assign 16 = .ok (.ireturn, 1) := by decide +kernel
theorem dX4_assign_17 : decode cX4_assign 17 = .ok (.aload_n 0, 1) := by decide +kernel
theorem dX4_assign_18 : decode cX4_assign 18 = .ok (.getfield 48, 3) := by decide +kernel
theorem dX4_assign_21 : decode cX4_assign 21 = .ok (.iload_n 2, 1) := by decide +kernel
theorem dX4_assign_22 : decode cX4_assign 22 = .ok (.iconst (-1), 1) := by decide +kernel
theorem dX4_assign_23 : decode cX4_assign 23 = .ok (.invokevirtual 150, 3) := by decide +kernel
theorem dX4_assign_26 : decode cX4_assign 26 = .ok (.ifCond .ne 6, 3) := by decide +kernel
theorem dX4_assign_29 : decode cX4_assign 29 = .ok (.bipush (-4), 2) := by decide +kernel
theorem dX4_assign_31 : decode cX4_assign 31 = .ok (.ireturn, 1) := by decide +kernel
theorem dX4_assign_32 : decode cX4_assign 32 = .ok (.aload_n 0, 1) := by decide +kernel
theorem dX4_assign_33 : decode cX4_assign 33 = .ok (.getfield 48, 3) := by decide +kernel
theorem dX4_assign_36 : decode cX4_assign 36 = .ok (.getfield 138, 3) := by decide +kernel
theorem dX4_assign_39 : decode cX4_assign 39 = .ok (.bipush 20, 2) := by decide +kernel
theorem dX4_assign_41 : decode cX4_assign 41 = .ok (.if_icmp .lt 6, 3) := by decide +kernel
theorem dX4_assign_44 : decode cX4_assign 44 = .ok (.bipush (-5), 2) := by decide +kernel
theorem dX4_assign_46 : decode cX4_assign 46 = .ok (.ireturn, 1) := by decide +kernel
theorem dX4_assign_47 : decode cX4_assign 47 = .ok (.aload_n 0, 1) := by decide +kernel
theorem dX4_assign_48 : decode cX4_assign 48 = .ok (.getfield 57, 3) := by decide +kernel
theorem dX4_assign_51 : decode cX4_assign 51 = .ok (.aload_n 0, 1) := by decide +kernel
theorem dX4_assign_52 : decode cX4_assign 52 = .ok (.getfield 48, 3) := by decide +kernel
theorem dX4_assign_55 : decode cX4_assign 55 = .ok (.invokevirtual 154, 3) := by decide +kernel
theorem dX4_assign_58 : decode cX4_assign 58 = .ok (.aload_n 0, 1) := by decide +kernel
theorem dX4_assign_59 : decode cX4_assign 59 = .ok (.getfield 48, 3) := by decide +kernel
theorem dX4_assign_62 : decode cX4_assign 62 = .ok (.iload_n 1, 1) := by decide +kernel
theorem dX4_assign_63 : decode cX4_assign 63 = .ok (.iload_n 2, 1) := by decide +kernel
theorem dX4_assign_64 : decode cX4_assign 64 = .ok (.invokevirtual 157, 3) := by decide +kernel
theorem dX4_assign_67 : decode cX4_assign 67 = .ok (.ireturn, 1) := by decide +kernel
theorem dX4_away_0 : decode cX4_away 0 = .ok (.aload_n 0, 1) := by decide +kernel
theorem dX4_away_1 : decode cX4_away 1 = .ok (.getfield 48, 3) := by decide +kernel
theorem dX4_away_4 : decode cX4_away 4 = .ok (.iload_n 1, 1) := by decide +kernel
theorem dX4_away_5 : decode cX4_away 5 = .ok (.invokevirtual 100, 3) := by decide +kernel
theorem dX4_away_8 : decode cX4_away 8 = .ok (.ifCond .ne 6, 3) := by decide +kernel
theorem dX4_away_11 : decode cX4_away 11 = .ok (.bipush (-2), 2) := by decide +kernel
theorem dX4_away_13 : decode cX4_away 13 = .ok (.ireturn, 1) := by decide +kernel
theorem dX4_away_14 : decode cX4_away 14 = .ok (.iload_n 2, 1) := by decide +kernel
theorem dX4_away_15 : decode cX4_away 15 = .ok (.ifCond .lt 8, 3) := by decide +kernel
theorem dX4_away_18 : decode cX4_away 18 = .ok (.iload_n 2, 1) := by decide +kernel
theorem dX4_away_19 : decode cX4_away 19 = .ok (.iconst 1, 1) := by decide +kernel
theorem dX4_away_20 : decode cX4_away 20 = .ok (.if_icmp .le 6, 3) := by decide +kernel
theorem dX4_away_23 : decode cX4_away 23 = .ok (.bipush (-3), 2) := by decide +kernel
theorem dX4_away_25 : decode cX4_away 25 = .ok (.ireturn, 1) := by decide +kernel
theorem dX4_away_26 : decode cX4_away 26 = .ok (.aload_n 0, 1) := by decide +kernel
theorem dX4_away_27 : decode cX4_away 27 = .ok (.getfield 48, 3) := by decide +kernel
theorem dX4_away_30 : decode cX4_away 30 = .ok (.iload_n 1, 1) := by decide +kernel
theorem dX4_away_31 : decode cX4_away 31 = .ok (.invokevirtual 113, 3) := by decide +kernel
theorem dX4_away_34 : decode cX4_away 34 = .ok (.iload_n 2, 1) := by decide +kernel
theorem dX4_away_35 : decode cX4_away 35 = .ok (.iconst 1, 1) := by decide +kernel
theorem dX4_away_36 : decode cX4_away 36 = .ok (.if_icmp .ne 7, 3) := by decide +kernel
theorem dX4_away_39 : decode cX4_away 39 = .ok (.iconst 1, 1) := by decide +kernel
theorem dX4_away_40 : decode cX4_away 40 = .ok (.goto 4, 3) := by decide +kernel
theorem dX4_away_43 : decode cX4_away 43 = .ok (.iconst 0, 1) := by decide +kernel
theorem dX4_away_44 : decode cX4_away 44 = .ok (.if_icmp .ne 6, 3) := by decide +kernel
theorem dX4_away_47 : decode cX4_away 47 = .ok (.bipush (-4), 2) := by decide +kernel
theorem dX4_away_49 : decode cX4_away 49 = .ok (.ireturn, 1) := by decide +kernel
theorem dX4_away_50 : decode cX4_away 50 = .ok (.aload_n 0, 1) := by decide +kernel
theorem dX4_away_51 : decode cX4_away 51 = .ok (.getfield 57, 3) := by decide +kernel
theorem dX4_away_54 : decode cX4_away 54 = .ok (.aload_n 0, 1) := by decide +kernel
theorem dX4_away_55 : decode cX4_away 55 = .ok (.getfield 48, 3) := by decide +kernel
theorem dX4_away_58 : decode cX4_away 58 = .ok (.invokevirtual 154, 3) := by decide +kernel
theorem dX4_away_61 : decode cX4_away 61 = .ok (.aload_n 0, 1) := by decide +kernel
theorem dX4_away_62 : decode cX4_away 62 = .ok (.getfield 48, 3) := by decide +kernel
theorem dX4_away_65 : decode cX4_away 65 = .ok (.dup, 1) := by decide +kernel
theorem dX4_away_66 : decode cX4_away 66 = .ok (.getfield 164, 3) := by decide +kernel
theorem dX4_away_69 : decode cX4_away 69 = .ok (.iconst 1, 1) := by decide +kernel
theorem dX4_away_70 : decode cX4_away 70 = .ok (.iload_n 1, 1) := by decide +kernel
theorem dX4_away_71 : decode cX4_away 71 = .ok (.ishl, 1) := by decide +kernel
theorem dX4_away_72 : decode cX4_away 72 = .ok (.ixor, 1) := by decide +kernel
theorem dX4_away_73 : decode cX4_away 73 = .ok (.putfield 164, 3) := by decide +kernel
theorem dX4_away_76 : decode cX4_away 76 = .ok (.iconst 1, 1) := by decide +kernel
theorem dX4_away_77 : decode cX4_away 77 = .ok (.ireturn, 1) := by decide +kernel
theorem dX4_back_0 : decode cX4_back 0 = .ok (.iload_n 1, 1) := by decide +kernel
theorem dX4_back_1 : decode cX4_back 1 = .ok (.ifCond .lt 8, 3) := by decide +kernel
theorem dX4_back_4 : decode cX4_back 4 = .ok (.iload_n 1, 1) := by decide +kernel
theorem dX4_back_5 : decode cX4_back 5 = .ok (.iconst 2, 1) := by decide +kernel
theorem dX4_back_6 : decode cX4_back 6 = .ok (.if_icmp .lt 6, 3) := by decide +kernel
theorem dX4_back_9 : decode cX4_back 9 = .ok (.bipush (-2), 2) := by decide +kernel
theorem dX4_back_11 : decode cX4_back 11 = .ok (.ireturn, 1) := by decide +kernel
theorem dX4_back_12 : decode cX4_back 12 = .ok (.aload_n 0, 1) := by decide +kernel
theorem dX4_back_13 : decode cX4_back 13 = .ok (.getfield 65, 3) := by decide +kernel
theorem dX4_back_16 : decode cX4_back 16 = .ok (.iload_n 1, 1) := by decide +kernel
theorem dX4_back_17 : decode cX4_back 17 = .ok (.baload, 1) := by decide +kernel
theorem dX4_back_18 : decode cX4_back 18 = .ok (.ifCond .ne 6, 3) := by decide +kernel
theorem dX4_back_21 : decode cX4_back 21 = .ok (.bipush (-4), 2) := by decide +kernel
theorem dX4_back_23 : decode cX4_back 23 = .ok (.ireturn, 1) := by decide +kernel
theorem dX4_back_24 : decode cX4_back 24 = .ok (.aload_n 0, 1) := by decide +kernel
theorem dX4_back_25 : decode cX4_back 25 = .ok (.getfield 48, 3) := by decide +kernel
theorem dX4_back_28 : decode cX4_back 28 = .ok (.aload_n 0, 1) := by decide +kernel
theorem dX4_back_29 : decode cX4_back 29 = .ok (.getfield 61, 3) := by decide +kernel
theorem dX4_back_32 : decode cX4_back 32 = .ok (.iload_n 1, 1) := by decide +kernel
theorem dX4_back_33 : decode cX4_back 33 = .ok (.aaload, 1) := by decide +kernel
theorem dX4_back_34 : decode cX4_back 34 = .ok (.invokevirtual 84, 3) := by decide +kernel
theorem dX4_back_37 : decode cX4_back 37 = .ok (.aload_n 0, 1) := by decide +kernel
theorem dX4_back_38 : decode cX4_back 38 = .ok (.getfield 57, 3) := by decide +kernel
theorem dX4_back_41 : decode cX4_back 41 = .ok (.invokevirtual 88, 3) := by decide +kernel
theorem dX4_back_44 : decode cX4_back 44 = .ok (.aload_n 0, 1) := by decide +kernel
theorem dX4_back_45 : decode cX4_back 45 = .ok (.getfield 48, 3) := by decide +kernel
theorem dX4_back_48 : decode cX4_back 48 = .ok (.getfield 138, 3) := by decide +kernel
theorem dX4_back_51 : decode cX4_back 51 = .ok (.ireturn, 1) := by decide +kernel
theorem dX4_caseOf_0 : decode cX4_caseOf 0 = .ok (.aload_n 0, 1) := by decide +kernel
theorem dX4_caseOf_1 : decode cX4_caseOf 1 = .ok (.getfield 48, 3) := by decide +kernel
theorem dX4_caseOf_4 : decode cX4_caseOf 4 = .ok (.iload_n 1, 1) := by decide +kernel
theorem dX4_caseOf_5 : decode cX4_caseOf 5 = .ok (.invokevirtual 123, 3) := by decide +kernel
theorem dX4_caseOf_8 : decode cX4_caseOf 8 = .ok (.ifCond .ne 6, 3) := by decide +kernel
theorem dX4_caseOf_11 : decode cX4_caseOf 11 = .ok (.bipush (-2), 2) := by decide +kernel
theorem dX4_caseOf_13 : decode cX4_caseOf 13 = .ok (.ireturn, 1) := by decide +kernel
theorem dX4_caseOf_14 : decode cX4_caseOf 14 = .ok (.iload_n 2, 1) := by decide +kernel
theorem dX4_caseOf_15 : decode cX4_caseOf 15 = .ok (.tableswitch 55 0 2 #[25, 35, 45], 25) := by decide +kernel
theorem dX4_caseOf_40 : decode cX4_caseOf 40 = .ok (.aload_n 0, 1) := by decide +kernel
theorem dX4_caseOf_41 : decode cX4_caseOf 41 = .ok (.getfield 48, 3) := by decide +kernel
theorem dX4_caseOf_44 : decode cX4_caseOf 44 = .ok (.getfield 126, 3) := by decide +kernel
theorem dX4_caseOf_47 : decode cX4_caseOf 47 = .ok (.iload_n 1, 1) := by decide +kernel
theorem dX4_caseOf_48 : decode cX4_caseOf 48 = .ok (.iaload, 1) := by decide +kernel
theorem dX4_caseOf_49 : decode cX4_caseOf 49 = .ok (.ireturn, 1) := by decide +kernel
theorem dX4_caseOf_50 : decode cX4_caseOf 50 = .ok (.aload_n 0, 1) := by decide +kernel
theorem dX4_caseOf_51 : decode cX4_caseOf 51 = .ok (.getfield 48, 3) := by decide +kernel
theorem dX4_caseOf_54 : decode cX4_caseOf 54 = .ok (.getfield 129, 3) := by decide +kernel
theorem dX4_caseOf_57 : decode cX4_caseOf 57 = .ok (.iload_n 1, 1) := by decide +kernel
theorem dX4_caseOf_58 : decode cX4_caseOf 58 = .ok (.iaload, 1) := by decide +kernel
theorem dX4_caseOf_59 : decode cX4_caseOf 59 = .ok (.ireturn, 1) := by decide +kernel
theorem dX4_caseOf_60 : decode cX4_caseOf 60 = .ok (.aload_n 0, 1) := by decide +kernel
theorem dX4_caseOf_61 : decode cX4_caseOf 61 = .ok (.getfield 48, 3) := by decide +kernel
theorem dX4_caseOf_64 : decode cX4_caseOf 64 = .ok (.getfield 132, 3) := by decide +kernel
theorem dX4_caseOf_67 : decode cX4_caseOf 67 = .ok (.iload_n 1, 1) := by decide +kernel
theorem dX4_caseOf_68 : decode cX4_caseOf 68 = .ok (.iaload, 1) := by decide +kernel
theorem dX4_caseOf_69 : decode cX4_caseOf 69 = .ok (.ireturn, 1) := by decide +kernel
theorem dX4_caseOf_70 : decode cX4_caseOf 70 = .ok (.bipush (-3), 2) := by decide +kernel
theorem dX4_caseOf_72 : decode cX4_caseOf 72 = .ok (.ireturn, 1) := by decide +kernel
theorem dX4_commonDivisor_0 : decode cX4_commonDivisor 0 = .ok (.iload_n 0, 1) := by decide +kernel
theorem dX4_commonDivisor_1 : decode cX4_commonDivisor 1 = .ok (.iconst 1, 1) := by decide +kernel
theorem dX4_commonDivisor_2 : decode cX4_commonDivisor 2 = .ok (.invokestatic 259, 3) := by decide +kernel
theorem dX4_commonDivisor_5 : decode cX4_commonDivisor 5 = .ok (.istore_n 2, 1) := by decide +kernel
theorem dX4_commonDivisor_6 : decode cX4_commonDivisor 6 = .ok (.iload_n 1, 1) := by decide +kernel
theorem dX4_commonDivisor_7 : decode cX4_commonDivisor 7 = .ok (.iconst 0, 1) := by decide +kernel
theorem dX4_commonDivisor_8 : decode cX4_commonDivisor 8 = .ok (.invokestatic 259, 3) := by decide +kernel
theorem dX4_commonDivisor_11 : decode cX4_commonDivisor 11 = .ok (.istore_n 3, 1) := by decide +kernel
theorem dX4_commonDivisor_12 : decode cX4_commonDivisor 12 = .ok (.iconst 0, 1) := by decide +kernel
theorem dX4_commonDivisor_13 : decode cX4_commonDivisor 13 = .ok (.istore 4, 2) := by decide +kernel
theorem dX4_commonDivisor_15 : decode cX4_commonDivisor 15 = .ok (.iload 4, 2) := by decide +kernel
theorem dX4_commonDivisor_17 : decode cX4_commonDivisor 17 = .ok (.ldc_w 264, 3) := by decide +kernel
theorem dX4_commonDivisor_20 : decode cX4_commonDivisor 20 = .ok (.if_icmp .ge 23, 3) := by decide +kernel
theorem dX4_commonDivisor_23 : decode cX4_commonDivisor 23 = .ok (.iload_n 3, 1) := by decide +kernel
theorem dX4_commonDivisor_24 : decode cX4_commonDivisor 24 = .ok (.ifCond .le 19, 3) := by decide +kernel
theorem dX4_commonDivisor_27 : decode cX4_commonDivisor 27 = .ok (.iload_n 2, 1) := by decide +kernel
theorem dX4_commonDivisor_28 : decode cX4_commonDivisor 28 = .ok (.iload_n 3, 1) := by decide +kernel
theorem dX4_commonDivisor_29 : decode cX4_commonDivisor 29 = .ok (.irem, 1) := by decide +kernel
theorem dX4_commonDivisor_30 : decode cX4_commonDivisor 30 = .ok (.istore 5, 2) := by decide +kernel
theorem dX4_commonDivisor_32 : decode cX4_commonDivisor 32 = .ok (.iload_n 3, 1) := by decide +kernel
theorem dX4_commonDivisor_33 : decode cX4_commonDivisor 33 = .ok (.istore_n 2, 1) := by decide +kernel
theorem dX4_commonDivisor_34 : decode cX4_commonDivisor 34 = .ok (.iload 5, 2) := by decide +kernel
theorem dX4_commonDivisor_36 : decode cX4_commonDivisor 36 = .ok (.istore_n 3, 1) := by decide +kernel
theorem dX4_commonDivisor_37 : decode cX4_commonDivisor 37 = .ok (.iinc 4 1, 3) := by decide +kernel
theorem dX4_commonDivisor_40 : decode cX4_commonDivisor 40 = .ok (.goto (-25), 3) := by decide +kernel
theorem dX4_commonDivisor_43 : decode cX4_commonDivisor 43 = .ok (.iload_n 2, 1) := by decide +kernel
theorem dX4_commonDivisor_44 : decode cX4_commonDivisor 44 = .ok (.ireturn, 1) := by decide +kernel
theorem dX4_count_0 : decode cX4_count 0 = .ok (.iload_n 1, 1) := by decide +kernel
theorem dX4_count_1 : decode cX4_count 1 = .ok (.invokestatic 135, 3) := by decide +kernel
theorem dX4_count_4 : decode cX4_count 4 = .ok (.ifCond .eq 12, 3) := by decide +kernel
theorem dX4_count_7 : decode cX4_count 7 = .ok (.iload_n 2, 1) := by decide +kernel
theorem dX4_count_8 : decode cX4_count 8 = .ok (.ifCond .lt 8, 3) := by decide +kernel
theorem dX4_count_11 : decode cX4_count 11 = .ok (.iload_n 2, 1) := by decide +kernel
theorem dX4_count_12 : decode cX4_count 12 = .ok (.iconst 1, 1) := by decide +kernel
theorem dX4_count_13 : decode cX4_count 13 = .ok (.if_icmp .le 6, 3) := by decide +kernel
theorem dX4_count_16 : decode cX4_count 16 = .ok (.bipush (-3), 2) := by decide +kernel
theorem dX4_count_18 : decode cX4_count 18 = .ok (.ireturn, 1) := by decide +kernel
theorem dX4_count_19 : decode cX4_count 19 = .ok (.aload_n 0, 1) := by decide +kernel
theorem dX4_count_20 : decode cX4_count 20 = .ok (.getfield 48, 3) := by decide +kernel
theorem dX4_count_23 : decode cX4_count 23 = .ok (.invokevirtual 198, 3) := by decide +kernel
theorem dX4_count_26 : decode cX4_count 26 = .ok (.ifCond .ne 6, 3) := by decide +kernel
theorem dX4_count_29 : decode cX4_count 29 = .ok (.bipush (-4), 2) := by decide +kernel
theorem dX4_count_31 : decode cX4_count 31 = .ok (.ireturn, 1) := by decide +kernel
theorem dX4_count_32 : decode cX4_count 32 = .ok (.aload_n 0, 1) := by decide +kernel
theorem dX4_count_33 : decode cX4_count 33 = .ok (.getfield 51, 3) := by decide +kernel
theorem dX4_count_36 : decode cX4_count 36 = .ok (.aload_n 0, 1) := by decide +kernel
theorem dX4_count_37 : decode cX4_count 37 = .ok (.getfield 48, 3) := by decide +kernel
theorem dX4_count_40 : decode cX4_count 40 = .ok (.invokevirtual 84, 3) := by decide +kernel
theorem dX4_count_43 : decode cX4_count 43 = .ok (.aload_n 0, 1) := by decide +kernel
theorem dX4_count_44 : decode cX4_count 44 = .ok (.iload_n 1, 1) := by decide +kernel
theorem dX4_count_45 : decode cX4_count 45 = .ok (.iconst 0, 1) := by decide +kernel
theorem dX4_count_46 : decode cX4_count 46 = .ok (.invokevirtual 202, 3) := by decide +kernel
theorem dX4_count_49 : decode cX4_count 49 = .ok (.istore_n 3, 1) := by decide +kernel
theorem dX4_count_50 : decode cX4_count 50 = .ok (.iload_n 2, 1) := by decide +kernel
theorem dX4_count_51 : decode cX4_count 51 = .ok (.ifCond .ne 7, 3) := by decide +kernel
theorem dX4_count_54 : decode cX4_count 54 = .ok (.iload_n 3, 1) := by decide +kernel
theorem dX4_count_55 : decode cX4_count 55 = .ok (.goto 10, 3) := by decide +kernel
theorem dX4_count_58 : decode cX4_count 58 = .ok (.aload_n 0, 1) := by decide +kernel
theorem dX4_count_59 : decode cX4_count 59 = .ok (.getfield 51, 3) := by decide +kernel
theorem dX4_count_62 : decode cX4_count 62 = .ok (.getfield 205, 3) := by decide +kernel
theorem dX4_count_65 : decode cX4_count 65 = .ok (.ireturn, 1) := by decide +kernel
theorem dX4_cut_0 : decode cX4_cut 0 = .ok (.iload_n 1, 1) := by decide +kernel
theorem dX4_cut_1 : decode cX4_cut 1 = .ok (.invokestatic 208, 3) := by decide +kernel
theorem dX4_cut_4 : decode cX4_cut 4 = .ok (.ifCond .ne 6, 3) := by decide +kernel
theorem dX4_cut_7 : decode cX4_cut 7 = .ok (.bipush (-2), 2) := by decide +kernel
theorem dX4_cut_9 : decode cX4_cut 9 = .ok (.ireturn, 1) := by decide +kernel
theorem dX4_cut_10 : decode cX4_cut 10 = .ok (.aload_n 0, 1) := by decide +kernel
theorem dX4_cut_11 : decode cX4_cut 11 = .ok (.getfield 25, 3) := by decide +kernel
theorem dX4_cut_14 : decode cX4_cut 14 = .ok (.iload_n 1, 1) := by decide +kernel
theorem dX4_cut_15 : decode cX4_cut 15 = .ok (.baload, 1) := by decide +kernel
theorem dX4_cut_16 : decode cX4_cut 16 = .ok (.ifCond .ne 6, 3) := by decide +kernel
theorem dX4_cut_19 : decode cX4_cut 19 = .ok (.bipush (-11), 2) := by decide +kernel
theorem dX4_cut_21 : decode cX4_cut 21 = .ok (.ireturn, 1) := by decide +kernel
theorem dX4_cut_22 : decode cX4_cut 22 = .ok (.iload_n 2, 1) := by decide +kernel
theorem dX4_cut_23 : decode cX4_cut 23 = .ok (.ifCond .lt 21, 3) := by decide +kernel
theorem dX4_cut_26 : decode cX4_cut 26 = .ok (.iload_n 3, 1) := by decide +kernel
theorem dX4_cut_27 : decode cX4_cut 27 = .ok (.iload_n 2, 1) := by decide +kernel
theorem dX4_cut_28 : decode cX4_cut 28 = .ok (.if_icmp .lt 16, 3) := by decide +kernel
theorem dX4_cut_31 : decode cX4_cut 31 = .ok (.iload_n 3, 1) := by decide +kernel
theorem dX4_cut_32 : decode cX4_cut 32 = .ok (.aload_n 0, 1) := by decide +kernel
theorem dX4_cut_33 : decode cX4_cut 33 = .ok (.getfield 21, 3) := by decide +kernel
theorem dX4_cut_36 : decode cX4_cut 36 = .ok (.iload_n 1, 1) := by decide +kernel
theorem dX4_cut_37 : decode cX4_cut 37 = .ok (.aaload, 1) := by decide +kernel
theorem dX4_cut_38 : decode cX4_cut 38 = .ok (.getfield 72, 3) := by decide +kernel
theorem dX4_cut_41 : decode cX4_cut 41 = .ok (.if_icmp .le 6, 3) := by decide +kernel
theorem dX4_cut_44 : decode cX4_cut 44 = .ok (.bipush (-12), 2) := by decide +kernel
theorem dX4_cut_46 : decode cX4_cut 46 = .ok (.ireturn, 1) := by decide +kernel
theorem dX4_cut_47 : decode cX4_cut 47 = .ok (.aload_n 0, 1) := by decide +kernel
theorem dX4_cut_48 : decode cX4_cut 48 = .ok (.getfield 21, 3) := by decide +kernel
theorem dX4_cut_51 : decode cX4_cut 51 = .ok (.iload_n 1, 1) := by decide +kernel
theorem dX4_cut_52 : decode cX4_cut 52 = .ok (.aaload, 1) := by decide +kernel
theorem dX4_cut_53 : decode cX4_cut 53 = .ok (.iload_n 2, 1) := by decide +kernel
theorem dX4_cut_54 : decode cX4_cut 54 = .ok (.iload_n 3, 1) := by decide +kernel
theorem dX4_cut_55 : decode cX4_cut 55 = .ok (.invokevirtual 214, 3) := by decide +kernel
theorem dX4_cut_58 : decode cX4_cut 58 = .ok (.aload_n 0, 1) := by decide +kernel
theorem dX4_cut_59 : decode cX4_cut 59 = .ok (.getfield 21, 3) := by decide +kernel
theorem dX4_cut_62 : decode cX4_cut 62 = .ok (.iload_n 1, 1) := by decide +kernel
theorem dX4_cut_63 : decode cX4_cut 63 = .ok (.aaload, 1) := by decide +kernel
theorem dX4_cut_64 : decode cX4_cut 64 = .ok (.getfield 72, 3) := by decide +kernel
theorem dX4_cut_67 : decode cX4_cut 67 = .ok (.ireturn, 1) := by decide +kernel
theorem dX4_drop_0 : decode cX4_drop 0 = .ok (.iload_n 1, 1) := by decide +kernel
theorem dX4_drop_1 : decode cX4_drop 1 = .ok (.invokestatic 208, 3) := by decide +kernel
theorem dX4_drop_4 : decode cX4_drop 4 = .ok (.ifCond .ne 6, 3) := by decide +kernel
theorem dX4_drop_7 : decode cX4_drop 7 = .ok (.bipush (-2), 2) := by decide +kernel
theorem dX4_drop_9 : decode cX4_drop 9 = .ok (.ireturn, 1) := by decide +kernel
theorem dX4_drop_10 : decode cX4_drop 10 = .ok (.aload_n 0, 1) := by decide +kernel
theorem dX4_drop_11 : decode cX4_drop 11 = .ok (.getfield 25, 3) := by decide +kernel
theorem dX4_drop_14 : decode cX4_drop 14 = .ok (.iload_n 1, 1) := by decide +kernel
theorem dX4_drop_15 : decode cX4_drop 15 = .ok (.baload, 1) := by decide +kernel
theorem dX4_drop_16 : decode cX4_drop 16 = .ok (.ifCond .ne 6, 3) := by decide +kernel
theorem dX4_drop_19 : decode cX4_drop 19 = .ok (.bipush (-11), 2) := by decide +kernel
theorem dX4_drop_21 : decode cX4_drop 21 = .ok (.ireturn, 1) := by decide +kernel
theorem dX4_drop_22 : decode cX4_drop 22 = .ok (.aload_n 0, 1) := by decide +kernel
theorem dX4_drop_23 : decode cX4_drop 23 = .ok (.getfield 25, 3) := by decide +kernel
theorem dX4_drop_26 : decode cX4_drop 26 = .ok (.iload_n 1, 1) := by decide +kernel
theorem dX4_drop_27 : decode cX4_drop 27 = .ok (.iconst 0, 1) := by decide +kernel
theorem dX4_drop_28 : decode cX4_drop 28 = .ok (.bastore, 1) := by decide +kernel
theorem dX4_drop_29 : decode cX4_drop 29 = .ok (.aload_n 0, 1) := by decide +kernel
theorem dX4_drop_30 : decode cX4_drop 30 = .ok (.getfield 21, 3) := by decide +kernel
theorem dX4_drop_33 : decode cX4_drop 33 = .ok (.iload_n 1, 1) := by decide +kernel
theorem dX4_drop_34 : decode cX4_drop 34 = .ok (.aaload, 1) := by decide +kernel
theorem dX4_drop_35 : decode cX4_drop 35 = .ok (.getfield 72, 3) := by decide +kernel
theorem dX4_drop_38 : decode cX4_drop 38 = .ok (.ireturn, 1) := by decide +kernel
theorem dX4_dropAllSlips_0 : decode cX4_dropAllSlips 0 = .ok (.iconst 0, 1) := by decide +kernel
theorem dX4_dropAllSlips_1 : decode cX4_dropAllSlips 1 = .ok (.istore_n 1, 1) := by decide +kernel
theorem dX4_dropAllSlips_2 : decode cX4_dropAllSlips 2 = .ok (.iload_n 1, 1) := by decide +kernel
theorem dX4_dropAllSlips_3 : decode cX4_dropAllSlips 3 = .ok (.iconst 3, 1) := by decide +kernel
theorem dX4_dropAllSlips_4 : decode cX4_dropAllSlips 4 = .ok (.if_icmp .ge 16, 3) := by decide +kernel
theorem dX4_dropAllSlips_7 : decode cX4_dropAllSlips 7 = .ok (.aload_n 0, 1) := by decide +kernel
theorem dX4_dropAllSlips_8 : decode cX4_dropAllSlips 8 = .ok (.getfield 25, 3) := by decide +kernel
theorem dX4_dropAllSlips_11 : decode cX4_dropAllSlips 11 = .ok (.iload_n 1, 1) := by decide +kernel
theorem dX4_dropAllSlips_12 : decode cX4_dropAllSlips 12 = .ok (.iconst 0, 1) := by decide +kernel
theorem dX4_dropAllSlips_13 : decode cX4_dropAllSlips 13 = .ok (.bastore, 1) := by decide +kernel
theorem dX4_dropAllSlips_14 : decode cX4_dropAllSlips 14 = .ok (.iinc 1 1, 3) := by decide +kernel
theorem dX4_dropAllSlips_17 : decode cX4_dropAllSlips 17 = .ok (.goto (-15), 3) := by decide +kernel
theorem dX4_dropAllSlips_20 : decode cX4_dropAllSlips 20 = .ok (.return_, 1) := by decide +kernel
theorem dX4_erase_0 : decode cX4_erase 0 = .ok (.aload_n 0, 1) := by decide +kernel
theorem dX4_erase_1 : decode cX4_erase 1 = .ok (.getfield 14, 3) := by decide +kernel
theorem dX4_erase_4 : decode cX4_erase 4 = .ok (.getfield 72, 3) := by decide +kernel
theorem dX4_erase_7 : decode cX4_erase 7 = .ok (.istore_n 1, 1) := by decide +kernel
theorem dX4_erase_8 : decode cX4_erase 8 = .ok (.aload_n 0, 1) := by decide +kernel
theorem dX4_erase_9 : decode cX4_erase 9 = .ok (.getfield 14, 3) := by decide +kernel
theorem dX4_erase_12 : decode cX4_erase 12 = .ok (.iconst 0, 1) := by decide +kernel
theorem dX4_erase_13 : decode cX4_erase 13 = .ok (.putfield 72, 3) := by decide +kernel
theorem dX4_erase_16 : decode cX4_erase 16 = .ok (.iload_n 1, 1) := by decide +kernel
theorem dX4_erase_17 : decode cX4_erase 17 = .ok (.ireturn, 1) := by decide +kernel
theorem dX4_fault_0 : decode cX4_fault 0 = .ok (.aload_n 0, 1) := by decide +kernel
theorem dX4_fault_1 : decode cX4_fault 1 = .ok (.invokevirtual 80, 3) := by decide +kernel
theorem dX4_fault_4 : decode cX4_fault 4 = .ok (.ireturn, 1) := by decide +kernel
theorem dX4_find_0 : decode cX4_find 0 = .ok (.iload_n 1, 1) := by decide +kernel
theorem dX4_find_1 : decode cX4_find 1 = .ok (.invokestatic 208, 3) := by decide +kernel
theorem dX4_find_4 : decode cX4_find 4 = .ok (.ifCond .ne 6, 3) := by decide +kernel
theorem dX4_find_7 : decode cX4_find 7 = .ok (.bipush (-2), 2) := by decide +kernel
theorem dX4_find_9 : decode cX4_find 9 = .ok (.ireturn, 1) := by decide +kernel
theorem dX4_find_10 : decode cX4_find 10 = .ok (.iload_n 2, 1) := by decide +kernel
theorem dX4_find_11 : decode cX4_find 11 = .ok (.ifCond .lt 8, 3) := by decide +kernel
theorem dX4_find_14 : decode cX4_find 14 = .ok (.iload_n 2, 1) := by decide +kernel
theorem dX4_find_15 : decode cX4_find 15 = .ok (.iconst 3, 1) := by decide +kernel
theorem dX4_find_16 : decode cX4_find 16 = .ok (.if_icmp .le 6, 3) := by decide +kernel
theorem dX4_find_19 : decode cX4_find 19 = .ok (.bipush (-3), 2) := by decide +kernel
theorem dX4_find_21 : decode cX4_find 21 = .ok (.ireturn, 1) := by decide +kernel
theorem dX4_find_22 : decode cX4_find 22 = .ok (.aload_n 0, 1) := by decide +kernel
theorem dX4_find_23 : decode cX4_find 23 = .ok (.getfield 25, 3) := by decide +kernel
theorem dX4_find_26 : decode cX4_find 26 = .ok (.iload_n 1, 1) := by decide +kernel
theorem dX4_find_27 : decode cX4_find 27 = .ok (.baload, 1) := by decide +kernel
theorem dX4_find_28 : decode cX4_find 28 = .ok (.ifCond .ne 6, 3) := by decide +kernel
theorem dX4_find_31 : decode cX4_find 31 = .ok (.bipush (-11), 2) := by decide +kernel
theorem dX4_find_33 : decode cX4_find 33 = .ok (.ireturn, 1) := by decide +kernel
theorem dX4_find_34 : decode cX4_find 34 = .ok (.iload_n 2, 1) := by decide +kernel
theorem dX4_find_35 : decode cX4_find 35 = .ok (.ifCond .ne 21, 3) := by decide +kernel
theorem dX4_find_38 : decode cX4_find 38 = .ok (.aload_n 0, 1) := by decide +kernel
theorem dX4_find_39 : decode cX4_find 39 = .ok (.invokevirtual 173, 3) := by decide +kernel
theorem dX4_find_42 : decode cX4_find 42 = .ok (.aload_n 0, 1) := by decide +kernel
theorem dX4_find_43 : decode cX4_find 43 = .ok (.getfield 18, 3) := by decide +kernel
theorem dX4_find_46 : decode cX4_find 46 = .ok (.aload_n 0, 1) := by decide +kernel
theorem dX4_find_47 : decode cX4_find 47 = .ok (.getfield 21, 3) := by decide +kernel
theorem dX4_find_50 : decode cX4_find 50 = .ok (.iload_n 1, 1) := by decide +kernel
theorem dX4_find_51 : decode cX4_find 51 = .ok (.aaload, 1) := by decide +kernel
theorem dX4_find_52 : decode cX4_find 52 = .ok (.invokevirtual 220, 3) := by decide +kernel
theorem dX4_find_55 : decode cX4_find 55 = .ok (.ireturn, 1) := by decide +kernel
theorem dX4_find_56 : decode cX4_find 56 = .ok (.aload_n 0, 1) := by decide +kernel
theorem dX4_find_57 : decode cX4_find 57 = .ok (.getfield 25, 3) := by decide +kernel
theorem dX4_find_60 : decode cX4_find 60 = .ok (.iload_n 2, 1) := by decide +kernel
theorem dX4_find_61 : decode cX4_find 61 = .ok (.iconst 1, 1) := by decide +kernel
theorem dX4_find_62 : decode cX4_find 62 = .ok (.isub, 1) := by decide +kernel
theorem dX4_find_63 : decode cX4_find 63 = .ok (.baload, 1) := by decide +kernel
theorem dX4_find_64 : decode cX4_find 64 = .ok (.ifCond .ne 6, 3) := by decide +kernel
theorem dX4_find_67 : decode cX4_find 67 = .ok (.bipush (-11), 2) := by decide +kernel
theorem dX4_find_69 : decode cX4_find 69 = .ok (.ireturn, 1) := by decide +kernel
theorem dX4_find_70 : decode cX4_find 70 = .ok (.aload_n 0, 1) := by decide +kernel
theorem dX4_find_71 : decode cX4_find 71 = .ok (.getfield 21, 3) := by decide +kernel
theorem dX4_find_74 : decode cX4_find 74 = .ok (.iload_n 2, 1) := by decide +kernel
theorem dX4_find_75 : decode cX4_find 75 = .ok (.iconst 1, 1) := by decide +kernel
theorem dX4_find_76 : decode cX4_find 76 = .ok (.isub, 1) := by decide +kernel
theorem dX4_find_77 : decode cX4_find 77 = .ok (.aaload, 1) := by decide +kernel
theorem dX4_find_78 : decode cX4_find 78 = .ok (.aload_n 0, 1) := by decide +kernel
theorem dX4_find_79 : decode cX4_find 79 = .ok (.getfield 21, 3) := by decide +kernel
theorem dX4_find_82 : decode cX4_find 82 = .ok (.iload_n 1, 1) := by decide +kernel
theorem dX4_find_83 : decode cX4_find 83 = .ok (.aaload, 1) := by decide +kernel
theorem dX4_find_84 : decode cX4_find 84 = .ok (.invokevirtual 220, 3) := by decide +kernel
theorem dX4_find_87 : decode cX4_find 87 = .ok (.ireturn, 1) := by decide +kernel
theorem dX4_forgetKept_0 : decode cX4_forgetKept 0 = .ok (.iconst 0, 1) := by decide +kernel
theorem dX4_forgetKept_1 : decode cX4_forgetKept 1 = .ok (.istore_n 1, 1) := by decide +kernel
theorem dX4_forgetKept_2 : decode cX4_forgetKept 2 = .ok (.iload_n 1, 1) := by decide +kernel
theorem dX4_forgetKept_3 : decode cX4_forgetKept 3 = .ok (.iconst 2, 1) := by decide +kernel
theorem dX4_forgetKept_4 : decode cX4_forgetKept 4 = .ok (.if_icmp .ge 16, 3) := by decide +kernel
theorem dX4_forgetKept_7 : decode cX4_forgetKept 7 = .ok (.aload_n 0, 1) := by decide +kernel
theorem dX4_forgetKept_8 : decode cX4_forgetKept 8 = .ok (.getfield 65, 3) := by decide +kernel
theorem dX4_forgetKept_11 : decode cX4_forgetKept 11 = .ok (.iload_n 1, 1) := by decide +kernel
theorem dX4_forgetKept_12 : decode cX4_forgetKept 12 = .ok (.iconst 0, 1) := by decide +kernel
theorem dX4_forgetKept_13 : decode cX4_forgetKept 13 = .ok (.bastore, 1) := by decide +kernel
theorem dX4_forgetKept_14 : decode cX4_forgetKept 14 = .ok (.iinc 1 1, 3) := by decide +kernel
theorem dX4_forgetKept_17 : decode cX4_forgetKept 17 = .ok (.goto (-15), 3) := by decide +kernel
theorem dX4_forgetKept_20 : decode cX4_forgetKept 20 = .ok (.return_, 1) := by decide +kernel
theorem dX4_init_0 : decode cX4_init 0 = .ok (.aload_n 0, 1) := by decide +kernel
theorem dX4_init_1 : decode cX4_init 1 = .ok (.invokespecial 1, 3) := by decide +kernel
theorem dX4_init_4 : decode cX4_init 4 = .ok (.aload_n 0, 1) := by decide +kernel
theorem dX4_init_5 : decode cX4_init 5 = .ok (.new 7, 3) := by decide +kernel
theorem dX4_init_8 : decode cX4_init 8 = .ok (.dup, 1) := by decide +kernel
theorem dX4_init_9 : decode cX4_init 9 = .ok (.sipush 200, 3) := by decide +kernel
theorem dX4_init_12 : decode cX4_init 12 = .ok (.invokespecial 11, 3) := by decide +kernel
theorem dX4_init_15 : decode cX4_init 15 = .ok (.putfield 14, 3) := by decide +kernel
theorem dX4_init_18 : decode cX4_init 18 = .ok (.aload_n 0, 1) := by decide +kernel
theorem dX4_init_19 : decode cX4_init 19 = .ok (.new 7, 3) := by decide +kernel
theorem dX4_init_22 : decode cX4_init 22 = .ok (.dup, 1) := by decide +kernel
theorem dX4_init_23 : decode cX4_init 23 = .ok (.sipush 130, 3) := by decide +kernel
theorem dX4_init_26 : decode cX4_init 26 = .ok (.invokespecial 11, 3) := by decide +kernel
theorem dX4_init_29 : decode cX4_init 29 = .ok (.putfield 18, 3) := by decide +kernel
theorem dX4_init_32 : decode cX4_init 32 = .ok (.aload_n 0, 1) := by decide +kernel
theorem dX4_init_33 : decode cX4_init 33 = .ok (.iconst 3, 1) := by decide +kernel
theorem dX4_init_34 : decode cX4_init 34 = .ok (.anewarray 7, 3) := by decide +kernel
theorem dX4_init_37 : decode cX4_init 37 = .ok (.putfield 21, 3) := by decide +kernel
theorem dX4_init_40 : decode cX4_init 40 = .ok (.aload_n 0, 1) := by decide +kernel
theorem dX4_init_41 : decode cX4_init 41 = .ok (.iconst 3, 1) := by decide +kernel
theorem dX4_init_42 : decode cX4_init 42 = .ok (.newarray .boolean, 2) := by decide +kernel
theorem dX4_init_44 : decode cX4_init 44 = .ok (.putfield 25, 3) := by decide +kernel
theorem dX4_init_47 : decode cX4_init 47 = .ok (.aload_n 0, 1) := by decide +kernel
theorem dX4_init_48 : decode cX4_init 48 = .ok (.new 29, 3) := by decide +kernel
theorem dX4_init_51 : decode cX4_init 51 = .ok (.dup, 1) := by decide +kernel
theorem dX4_init_52 : decode cX4_init 52 = .ok (.aload_n 0, 1) := by decide +kernel
theorem dX4_init_53 : decode cX4_init 53 = .ok (.getfield 14, 3) := by decide +kernel
theorem dX4_init_56 : decode cX4_init 56 = .ok (.invokespecial 31, 3) := by decide +kernel
theorem dX4_init_59 : decode cX4_init 59 = .ok (.putfield 34, 3) := by decide +kernel
theorem dX4_init_62 : decode cX4_init 62 = .ok (.aload_n 0, 1) := by decide +kernel
theorem dX4_init_63 : decode cX4_init 63 = .ok (.new 38, 3) := by decide +kernel
theorem dX4_init_66 : decode cX4_init 66 = .ok (.dup, 1) := by decide +kernel
theorem dX4_init_67 : decode cX4_init 67 = .ok (.invokespecial 40, 3) := by decide +kernel
theorem dX4_init_70 : decode cX4_init 70 = .ok (.putfield 41, 3) := by decide +kernel
theorem dX4_init_73 : decode cX4_init 73 = .ok (.aload_n 0, 1) := by decide +kernel
theorem dX4_init_74 : decode cX4_init 74 = .ok (.new 38, 3) := by decide +kernel
theorem dX4_init_77 : decode cX4_init 77 = .ok (.dup, 1) := by decide +kernel
theorem dX4_init_78 : decode cX4_init 78 = .ok (.invokespecial 40, 3) := by decide +kernel
theorem dX4_init_81 : decode cX4_init 81 = .ok (.putfield 45, 3) := by decide +kernel
theorem dX4_init_84 : decode cX4_init 84 = .ok (.aload_n 0, 1) := by decide +kernel
theorem dX4_init_85 : decode cX4_init 85 = .ok (.new 38, 3) := by decide +kernel
theorem dX4_init_88 : decode cX4_init 88 = .ok (.dup, 1) := by decide +kernel
theorem dX4_init_89 : decode cX4_init 89 = .ok (.invokespecial 40, 3) := by decide +kernel
theorem dX4_init_92 : decode cX4_init 92 = .ok (.putfield 48, 3) := by decide +kernel
theorem dX4_init_95 : decode cX4_init 95 = .ok (.aload_n 0, 1) := by decide +kernel
theorem dX4_init_96 : decode cX4_init 96 = .ok (.new 38, 3) := by decide +kernel
theorem dX4_init_99 : decode cX4_init 99 = .ok (.dup, 1) := by decide +kernel
theorem dX4_init_100 : decode cX4_init 100 = .ok (.invokespecial 40, 3) := by decide +kernel
theorem dX4_init_103 : decode cX4_init 103 = .ok (.putfield 51, 3) := by decide +kernel
theorem dX4_init_106 : decode cX4_init 106 = .ok (.aload_n 0, 1) := by decide +kernel
theorem dX4_init_107 : decode cX4_init 107 = .ok (.new 54, 3) := by decide +kernel
theorem dX4_init_110 : decode cX4_init 110 = .ok (.dup, 1) := by decide +kernel
theorem dX4_init_111 : decode cX4_init 111 = .ok (.invokespecial 56, 3) := by decide +kernel
theorem dX4_init_114 : decode cX4_init 114 = .ok (.putfield 57, 3) := by decide +kernel
theorem dX4_init_117 : decode cX4_init 117 = .ok (.aload_n 0, 1) := by decide +kernel
theorem dX4_init_118 : decode cX4_init 118 = .ok (.iconst 2, 1) := by decide +kernel
theorem dX4_init_119 : decode cX4_init 119 = .ok (.anewarray 38, 3) := by decide +kernel
theorem dX4_init_122 : decode cX4_init 122 = .ok (.putfield 61, 3) := by decide +kernel
theorem dX4_init_125 : decode cX4_init 125 = .ok (.aload_n 0, 1) := by decide +kernel
theorem dX4_init_126 : decode cX4_init 126 = .ok (.iconst 2, 1) := by decide +kernel
theorem dX4_init_127 : decode cX4_init 127 = .ok (.newarray .boolean, 2) := by decide +kernel
theorem dX4_init_129 : decode cX4_init 129 = .ok (.putfield 65, 3) := by decide +kernel
theorem dX4_init_132 : decode cX4_init 132 = .ok (.iconst 0, 1) := by decide +kernel
theorem dX4_init_133 : decode cX4_init 133 = .ok (.istore_n 1, 1) := by decide +kernel
theorem dX4_init_134 : decode cX4_init 134 = .ok (.iload_n 1, 1) := by decide +kernel
theorem dX4_init_135 : decode cX4_init 135 = .ok (.iconst 3, 1) := by decide +kernel
theorem dX4_init_136 : decode cX4_init 136 = .ok (.if_icmp .ge 24, 3) := by decide +kernel
theorem dX4_init_139 : decode cX4_init 139 = .ok (.aload_n 0, 1) := by decide +kernel
theorem dX4_init_140 : decode cX4_init 140 = .ok (.getfield 21, 3) := by decide +kernel
theorem dX4_init_143 : decode cX4_init 143 = .ok (.iload_n 1, 1) := by decide +kernel
theorem dX4_init_144 : decode cX4_init 144 = .ok (.new 7, 3) := by decide +kernel
theorem dX4_init_147 : decode cX4_init 147 = .ok (.dup, 1) := by decide +kernel
theorem dX4_init_148 : decode cX4_init 148 = .ok (.bipush 40, 2) := by decide +kernel
theorem dX4_init_150 : decode cX4_init 150 = .ok (.invokespecial 11, 3) := by decide +kernel
theorem dX4_init_153 : decode cX4_init 153 = .ok (.aastore, 1) := by decide +kernel
theorem dX4_init_154 : decode cX4_init 154 = .ok (.iinc 1 1, 3) := by decide +kernel
theorem dX4_init_157 : decode cX4_init 157 = .ok (.goto (-23), 3) := by decide +kernel
theorem dX4_init_160 : decode cX4_init 160 = .ok (.iconst 0, 1) := by decide +kernel
theorem dX4_init_161 : decode cX4_init 161 = .ok (.istore_n 1, 1) := by decide +kernel
theorem dX4_init_162 : decode cX4_init 162 = .ok (.iload_n 1, 1) := by decide +kernel
theorem dX4_init_163 : decode cX4_init 163 = .ok (.iconst 2, 1) := by decide +kernel
theorem dX4_init_164 : decode cX4_init 164 = .ok (.if_icmp .ge 22, 3) := by decide +kernel
theorem dX4_init_167 : decode cX4_init 167 = .ok (.aload_n 0, 1) := by decide +kernel
theorem dX4_init_168 : decode cX4_init 168 = .ok (.getfield 61, 3) := by decide +kernel
theorem dX4_init_171 : decode cX4_init 171 = .ok (.iload_n 1, 1) := by decide +kernel
theorem dX4_init_172 : decode cX4_init 172 = .ok (.new 38, 3) := by decide +kernel
theorem dX4_init_175 : decode cX4_init 175 = .ok (.dup, 1) := by decide +kernel
theorem dX4_init_176 : decode cX4_init 176 = .ok (.invokespecial 40, 3) := by decide +kernel
theorem dX4_init_179 : decode cX4_init 179 = .ok (.aastore, 1) := by decide +kernel
theorem dX4_init_180 : decode cX4_init 180 = .ok (.iinc 1 1, 3) := by decide +kernel
theorem dX4_init_183 : decode cX4_init 183 = .ok (.goto (-21), 3) := by decide +kernel
theorem dX4_init_186 : decode cX4_init 186 = .ok (.return_, 1) := by decide +kernel
theorem dX4_insert_0 : decode cX4_insert 0 = .ok (.iload_n 1, 1) := by decide +kernel
theorem dX4_insert_1 : decode cX4_insert 1 = .ok (.invokestatic 208, 3) := by decide +kernel
theorem dX4_insert_4 : decode cX4_insert 4 = .ok (.ifCond .ne 6, 3) := by decide +kernel
theorem dX4_insert_7 : decode cX4_insert 7 = .ok (.bipush (-2), 2) := by decide +kernel
theorem dX4_insert_9 : decode cX4_insert 9 = .ok (.ireturn, 1) := by decide +kernel
theorem dX4_insert_10 : decode cX4_insert 10 = .ok (.iload_n 3, 1) := by decide +kernel
theorem dX4_insert_11 : decode cX4_insert 11 = .ok (.invokestatic 211, 3) := by decide +kernel
theorem dX4_insert_14 : decode cX4_insert 14 = .ok (.ifCond .ne 6, 3) := by decide +kernel
theorem dX4_insert_17 : decode cX4_insert 17 = .ok (.bipush (-3), 2) := by decide +kernel
theorem dX4_insert_19 : decode cX4_insert 19 = .ok (.ireturn, 1) := by decide +kernel
theorem dX4_insert_20 : decode cX4_insert 20 = .ok (.aload_n 0, 1) := by decide +kernel
theorem dX4_insert_21 : decode cX4_insert 21 = .ok (.getfield 25, 3) := by decide +kernel
theorem dX4_insert_24 : decode cX4_insert 24 = .ok (.iload_n 1, 1) := by decide +kernel
theorem dX4_insert_25 : decode cX4_insert 25 = .ok (.baload, 1) := by decide +kernel
theorem dX4_insert_26 : decode cX4_insert 26 = .ok (.ifCond .ne 6, 3) := by decide +kernel
theorem dX4_insert_29 : decode cX4_insert 29 = .ok (.bipush (-11), 2) := by decide +kernel
theorem dX4_insert_31 : decode cX4_insert 31 = .ok (.ireturn, 1) := by decide +kernel
theorem dX4_insert_32 : decode cX4_insert 32 = .ok (.iload_n 2, 1) := by decide +kernel
theorem dX4_insert_33 : decode cX4_insert 33 = .ok (.ifCond .lt 16, 3) := by decide +kernel
theorem dX4_insert_36 : decode cX4_insert 36 = .ok (.iload_n 2, 1) := by decide +kernel
theorem dX4_insert_37 : decode cX4_insert 37 = .ok (.aload_n 0, 1) := by decide +kernel
theorem dX4_insert_38 : decode cX4_insert 38 = .ok (.getfield 21, 3) := by decide +kernel
theorem dX4_insert_41 : decode cX4_insert 41 = .ok (.iload_n 1, 1) := by decide +kernel
theorem dX4_insert_42 : decode cX4_insert 42 = .ok (.aaload, 1) := by decide +kernel
theorem dX4_insert_43 : decode cX4_insert 43 = .ok (.getfield 72, 3) := by decide +kernel
theorem dX4_insert_46 : decode cX4_insert 46 = .ok (.if_icmp .le 6, 3) := by decide +kernel
theorem dX4_insert_49 : decode cX4_insert 49 = .ok (.bipush (-12), 2) := by decide +kernel
theorem dX4_insert_51 : decode cX4_insert 51 = .ok (.ireturn, 1) := by decide +kernel
theorem dX4_insert_52 : decode cX4_insert 52 = .ok (.aload_n 0, 1) := by decide +kernel
theorem dX4_insert_53 : decode cX4_insert 53 = .ok (.getfield 21, 3) := by decide +kernel
theorem dX4_insert_56 : decode cX4_insert 56 = .ok (.iload_n 1, 1) := by decide +kernel
theorem dX4_insert_57 : decode cX4_insert 57 = .ok (.aaload, 1) := by decide +kernel
theorem dX4_insert_58 : decode cX4_insert 58 = .ok (.iconst 1, 1) := by decide +kernel
theorem dX4_insert_59 : decode cX4_insert 59 = .ok (.invokevirtual 68, 3) := by decide +kernel
theorem dX4_insert_62 : decode cX4_insert 62 = .ok (.ifCond .ne 6, 3) := by decide +kernel
theorem dX4_insert_65 : decode cX4_insert 65 = .ok (.bipush (-13), 2) := by decide +kernel
theorem dX4_insert_67 : decode cX4_insert 67 = .ok (.ireturn, 1) := by decide +kernel
theorem dX4_insert_68 : decode cX4_insert 68 = .ok (.aload_n 0, 1) := by decide +kernel
theorem dX4_insert_69 : decode cX4_insert 69 = .ok (.getfield 21, 3) := by decide +kernel
theorem dX4_insert_72 : decode cX4_insert 72 = .ok (.iload_n 1, 1) := by decide +kernel
theorem dX4_insert_73 : decode cX4_insert 73 = .ok (.aaload, 1) := by decide +kernel
theorem dX4_insert_74 : decode cX4_insert 74 = .ok (.iload_n 2, 1) := by decide +kernel
theorem dX4_insert_75 : decode cX4_insert 75 = .ok (.iload_n 3, 1) := by decide +kernel
theorem dX4_insert_76 : decode cX4_insert 76 = .ok (.invokevirtual 76, 3) := by decide +kernel
theorem dX4_insert_79 : decode cX4_insert 79 = .ok (.aload_n 0, 1) := by decide +kernel
theorem dX4_insert_80 : decode cX4_insert 80 = .ok (.getfield 21, 3) := by decide +kernel
theorem dX4_insert_83 : decode cX4_insert 83 = .ok (.iload_n 1, 1) := by decide +kernel
theorem dX4_insert_84 : decode cX4_insert 84 = .ok (.aaload, 1) := by decide +kernel
theorem dX4_insert_85 : decode cX4_insert 85 = .ok (.getfield 72, 3) := by decide +kernel
theorem dX4_insert_88 : decode cX4_insert 88 = .ok (.ireturn, 1) := by decide +kernel
theorem dX4_isDigit_0 : decode cX4_isDigit 0 = .ok (.iload_n 0, 1) := by decide +kernel
theorem dX4_isDigit_1 : decode cX4_isDigit 1 = .ok (.bipush 48, 2) := by decide +kernel
theorem dX4_isDigit_3 : decode cX4_isDigit 3 = .ok (.if_icmp .lt 13, 3) := by decide +kernel
theorem dX4_isDigit_6 : decode cX4_isDigit 6 = .ok (.iload_n 0, 1) := by decide +kernel
theorem dX4_isDigit_7 : decode cX4_isDigit 7 = .ok (.bipush 57, 2) := by decide +kernel
theorem dX4_isDigit_9 : decode cX4_isDigit 9 = .ok (.if_icmp .gt 7, 3) := by decide +kernel
theorem dX4_isDigit_12 : decode cX4_isDigit 12 = .ok (.iconst 1, 1) := by decide +kernel
theorem dX4_isDigit_13 : decode cX4_isDigit 13 = .ok (.goto 4, 3) := by decide +kernel
theorem dX4_isDigit_16 : decode cX4_isDigit 16 = .ok (.iconst 0, 1) := by decide +kernel
theorem dX4_isDigit_17 : decode cX4_isDigit 17 = .ok (.ireturn, 1) := by decide +kernel
theorem dX4_isParty_0 : decode cX4_isParty 0 = .ok (.iload_n 0, 1) := by decide +kernel
theorem dX4_isParty_1 : decode cX4_isParty 1 = .ok (.ifCond .lt 13, 3) := by decide +kernel
theorem dX4_isParty_4 : decode cX4_isParty 4 = .ok (.iload_n 0, 1) := by decide +kernel
theorem dX4_isParty_5 : decode cX4_isParty 5 = .ok (.bipush 10, 2) := by decide +kernel
theorem dX4_isParty_7 : decode cX4_isParty 7 = .ok (.if_icmp .ge 7, 3) := by decide +kernel
theorem dX4_isParty_10 : decode cX4_isParty 10 = .ok (.iconst 1, 1) := by decide +kernel
theorem dX4_isParty_11 : decode cX4_isParty 11 = .ok (.goto 4, 3) := by decide +kernel
theorem dX4_isParty_14 : decode cX4_isParty 14 = .ok (.iconst 0, 1) := by decide +kernel
theorem dX4_isParty_15 : decode cX4_isParty 15 = .ok (.ireturn, 1) := by decide +kernel
theorem dX4_isSeed_0 : decode cX4_isSeed 0 = .ok (.iload_n 0, 1) := by decide +kernel
theorem dX4_isSeed_1 : decode cX4_isSeed 1 = .ok (.iconst 1, 1) := by decide +kernel
theorem dX4_isSeed_2 : decode cX4_isSeed 2 = .ok (.if_icmp .lt 7, 3) := by decide +kernel
theorem dX4_isSeed_5 : decode cX4_isSeed 5 = .ok (.iconst 1, 1) := by decide +kernel
theorem dX4_isSeed_6 : decode cX4_isSeed 6 = .ok (.goto 4, 3) := by decide +kernel
theorem dX4_isSeed_9 : decode cX4_isSeed 9 = .ok (.iconst 0, 1) := by decide +kernel
theorem dX4_isSeed_10 : decode cX4_isSeed 10 = .ok (.ireturn, 1) := by decide +kernel
theorem dX4_isSlip_0 : decode cX4_isSlip 0 = .ok (.iload_n 0, 1) := by decide +kernel
theorem dX4_isSlip_1 : decode cX4_isSlip 1 = .ok (.ifCond .lt 12, 3) := by decide +kernel
theorem dX4_isSlip_4 : decode cX4_isSlip 4 = .ok (.iload_n 0, 1) := by decide +kernel
theorem dX4_isSlip_5 : decode cX4_isSlip 5 = .ok (.iconst 3, 1) := by decide +kernel
theorem dX4_isSlip_6 : decode cX4_isSlip 6 = .ok (.if_icmp .ge 7, 3) := by decide +kernel
theorem dX4_isSlip_9 : decode cX4_isSlip 9 = .ok (.iconst 1, 1) := by decide +kernel
theorem dX4_isSlip_10 : decode cX4_isSlip 10 = .ok (.goto 4, 3) := by decide +kernel
theorem dX4_isSlip_13 : decode cX4_isSlip 13 = .ok (.iconst 0, 1) := by decide +kernel
theorem dX4_isSlip_14 : decode cX4_isSlip 14 = .ok (.ireturn, 1) := by decide +kernel
theorem dX4_isSlipLetter_0 : decode cX4_isSlipLetter 0 = .ok (.iload_n 0, 1) := by decide +kernel
theorem dX4_isSlipLetter_1 : decode cX4_isSlipLetter 1 = .ok (.invokestatic 246, 3) := by decide +kernel
theorem dX4_isSlipLetter_4 : decode cX4_isSlipLetter 4 = .ok (.ifCond .ne 16, 3) := by decide +kernel
theorem dX4_isSlipLetter_7 : decode cX4_isSlipLetter 7 = .ok (.iload_n 0, 1) := by decide +kernel
theorem dX4_isSlipLetter_8 : decode cX4_isSlipLetter 8 = .ok (.invokestatic 249, 3) := by decide +kernel
theorem dX4_isSlipLetter_11 : decode cX4_isSlipLetter 11 = .ok (.ifCond .ne 9, 3) := by decide +kernel
theorem dX4_isSlipLetter_14 : decode cX4_isSlipLetter 14 = .ok (.iload_n 0, 1) := by decide +kernel
theorem dX4_isSlipLetter_15 : decode cX4_isSlipLetter 15 = .ok (.bipush 46, 2) := by decide +kernel
theorem dX4_isSlipLetter_17 : decode cX4_isSlipLetter 17 = .ok (.if_icmp .ne 7, 3) := by decide +kernel
theorem dX4_isSlipLetter_20 : decode cX4_isSlipLetter 20 = .ok (.iconst 1, 1) := by decide +kernel
theorem dX4_isSlipLetter_21 : decode cX4_isSlipLetter 21 = .ok (.goto 4, 3) := by decide +kernel
theorem dX4_isSlipLetter_24 : decode cX4_isSlipLetter 24 = .ok (.iconst 0, 1) := by decide +kernel
theorem dX4_isSlipLetter_25 : decode cX4_isSlipLetter 25 = .ok (.ireturn, 1) := by decide +kernel
theorem dX4_isSmallLetter_0 : decode cX4_isSmallLetter 0 = .ok (.iload_n 0, 1) := by decide +kernel
theorem dX4_isSmallLetter_1 : decode cX4_isSmallLetter 1 = .ok (.bipush 97, 2) := by decide +kernel
theorem dX4_isSmallLetter_3 : decode cX4_isSmallLetter 3 = .ok (.if_icmp .lt 13, 3) := by decide +kernel
theorem dX4_isSmallLetter_6 : decode cX4_isSmallLetter 6 = .ok (.iload_n 0, 1) := by decide +kernel
theorem dX4_isSmallLetter_7 : decode cX4_isSmallLetter 7 = .ok (.bipush 122, 2) := by decide +kernel
theorem dX4_isSmallLetter_9 : decode cX4_isSmallLetter 9 = .ok (.if_icmp .gt 7, 3) := by decide +kernel
theorem dX4_isSmallLetter_12 : decode cX4_isSmallLetter 12 = .ok (.iconst 1, 1) := by decide +kernel
theorem dX4_isSmallLetter_13 : decode cX4_isSmallLetter 13 = .ok (.goto 4, 3) := by decide +kernel
theorem dX4_isSmallLetter_16 : decode cX4_isSmallLetter 16 = .ok (.iconst 0, 1) := by decide +kernel
theorem dX4_isSmallLetter_17 : decode cX4_isSmallLetter 17 = .ok (.ireturn, 1) := by decide +kernel
theorem dX4_isSubject_0 : decode cX4_isSubject 0 = .ok (.iload_n 0, 1) := by decide +kernel
theorem dX4_isSubject_1 : decode cX4_isSubject 1 = .ok (.ifCond .lt 12, 3) := by decide +kernel
theorem dX4_isSubject_4 : decode cX4_isSubject 4 = .ok (.iload_n 0, 1) := by decide +kernel
theorem dX4_isSubject_5 : decode cX4_isSubject 5 = .ok (.iconst 5, 1) := by decide +kernel
theorem dX4_isSubject_6 : decode cX4_isSubject 6 = .ok (.if_icmp .ge 7, 3) := by decide +kernel
theorem dX4_isSubject_9 : decode cX4_isSubject 9 = .ok (.iconst 1, 1) := by decide +kernel
theorem dX4_isSubject_10 : decode cX4_isSubject 10 = .ok (.goto 4, 3) := by decide +kernel
theorem dX4_isSubject_13 : decode cX4_isSubject 13 = .ok (.iconst 0, 1) := by decide +kernel
theorem dX4_isSubject_14 : decode cX4_isSubject 14 = .ok (.ireturn, 1) := by decide +kernel
theorem dX4_join_0 : decode cX4_join 0 = .ok (.iload_n 1, 1) := by decide +kernel
theorem dX4_join_1 : decode cX4_join 1 = .ok (.invokestatic 208, 3) := by decide +kernel
theorem dX4_join_4 : decode cX4_join 4 = .ok (.ifCond .eq 10, 3) := by decide +kernel
theorem dX4_join_7 : decode cX4_join 7 = .ok (.iload_n 2, 1) := by decide +kernel
theorem dX4_join_8 : decode cX4_join 8 = .ok (.invokestatic 208, 3) := by decide +kernel
theorem dX4_join_11 : decode cX4_join 11 = .ok (.ifCond .ne 6, 3) := by decide +kernel
theorem dX4_join_14 : decode cX4_join 14 = .ok (.bipush (-2), 2) := by decide +kernel
theorem dX4_join_16 : decode cX4_join 16 = .ok (.ireturn, 1) := by decide +kernel
theorem dX4_join_17 : decode cX4_join 17 = .ok (.aload_n 0, 1) := by decide +kernel
theorem dX4_join_18 : decode cX4_join 18 = .ok (.getfield 25, 3) := by decide +kernel
theorem dX4_join_21 : decode cX4_join 21 = .ok (.iload_n 1, 1) := by decide +kernel
theorem dX4_join_22 : decode cX4_join 22 = .ok (.baload, 1) := by decide +kernel
theorem dX4_join_23 : decode cX4_join 23 = .ok (.ifCond .eq 12, 3) := by decide +kernel
theorem dX4_join_26 : decode cX4_join 26 = .ok (.aload_n 0, 1) := by decide +kernel
theorem dX4_join_27 : decode cX4_join 27 = .ok (.getfield 25, 3) := by decide +kernel
theorem dX4_join_30 : decode cX4_join 30 = .ok (.iload_n 2, 1) := by decide +kernel
theorem dX4_join_31 : decode cX4_join 31 = .ok (.baload, 1) := by decide +kernel
theorem dX4_join_32 : decode cX4_join 32 = .ok (.ifCond .ne 6, 3) := by decide +kernel
theorem dX4_join_35 : decode cX4_join 35 = .ok (.bipush (-11), 2) := by decide +kernel
theorem dX4_join_37 : decode cX4_join 37 = .ok (.ireturn, 1) := by decide +kernel
theorem dX4_join_38 : decode cX4_join 38 = .ok (.aload_n 0, 1) := by decide +kernel
theorem dX4_join_39 : decode cX4_join 39 = .ok (.getfield 21, 3) := by decide +kernel
theorem dX4_join_42 : decode cX4_join 42 = .ok (.iload_n 1, 1) := by decide +kernel
theorem dX4_join_43 : decode cX4_join 43 = .ok (.aaload, 1) := by decide +kernel
theorem dX4_join_44 : decode cX4_join 44 = .ok (.aload_n 0, 1) := by decide +kernel
theorem dX4_join_45 : decode cX4_join 45 = .ok (.getfield 21, 3) := by decide +kernel
theorem dX4_join_48 : decode cX4_join 48 = .ok (.iload_n 2, 1) := by decide +kernel
theorem dX4_join_49 : decode cX4_join 49 = .ok (.aaload, 1) := by decide +kernel
theorem dX4_join_50 : decode cX4_join 50 = .ok (.getfield 72, 3) := by decide +kernel
theorem dX4_join_53 : decode cX4_join 53 = .ok (.invokevirtual 68, 3) := by decide +kernel
theorem dX4_join_56 : decode cX4_join 56 = .ok (.ifCond .ne 6, 3) := by decide +kernel
theorem dX4_join_59 : decode cX4_join 59 = .ok (.bipush (-13), 2) := by decide +kernel
theorem dX4_join_61 : decode cX4_join 61 = .ok (.ireturn, 1) := by decide +kernel
theorem dX4_join_62 : decode cX4_join 62 = .ok (.aload_n 0, 1) := by decide +kernel
theorem dX4_join_63 : decode cX4_join 63 = .ok (.getfield 21, 3) := by decide +kernel
theorem dX4_join_66 : decode cX4_join 66 = .ok (.iload_n 1, 1) := by decide +kernel
theorem dX4_join_67 : decode cX4_join 67 = .ok (.aaload, 1) := by decide +kernel
theorem dX4_join_68 : decode cX4_join 68 = .ok (.aload_n 0, 1) := by decide +kernel
theorem dX4_join_69 : decode cX4_join 69 = .ok (.getfield 21, 3) := by decide +kernel
theorem dX4_join_72 : decode cX4_join 72 = .ok (.iload_n 2, 1) := by decide +kernel
theorem dX4_join_73 : decode cX4_join 73 = .ok (.aaload, 1) := by decide +kernel
theorem dX4_join_74 : decode cX4_join 74 = .ok (.invokevirtual 217, 3) := by decide +kernel
theorem dX4_join_77 : decode cX4_join 77 = .ok (.aload_n 0, 1) := by decide +kernel
theorem dX4_join_78 : decode cX4_join 78 = .ok (.getfield 21, 3) := by decide +kernel
theorem dX4_join_81 : decode cX4_join 81 = .ok (.iload_n 1, 1) := by decide +kernel
theorem dX4_join_82 : decode cX4_join 82 = .ok (.aaload, 1) := by decide +kernel
theorem dX4_join_83 : decode cX4_join 83 = .ok (.getfield 72, 3) := by decide +kernel
theorem dX4_join_86 : decode cX4_join 86 = .ok (.ireturn, 1) := by decide +kernel
theorem dX4_judge_0 : decode cX4_judge 0 = .ok (.aload_n 0, 1) := by decide +kernel
theorem dX4_judge_1 : decode cX4_judge 1 = .ok (.getfield 48, 3) := by decide +kernel
theorem dX4_judge_4 : decode cX4_judge 4 = .ok (.iload_n 1, 1) := by decide +kernel
theorem dX4_judge_5 : decode cX4_judge 5 = .ok (.invokevirtual 100, 3) := by decide +kernel
theorem dX4_judge_8 : decode cX4_judge 8 = .ok (.ifCond .ne 6, 3) := by decide +kernel
theorem dX4_judge_11 : decode cX4_judge 11 = .ok (.bipush (-2), 2) := by decide +kernel
theorem dX4_judge_13 : decode cX4_judge 13 = .ok (.ireturn, 1) := by decide +kernel
theorem dX4_judge_14 : decode cX4_judge 14 = .ok (.iload_n 2, 1) := by decide +kernel
theorem dX4_judge_15 : decode cX4_judge 15 = .ok (.tableswitch 106 0 5 #[37, 47, 57, 67, 84, 97], 37) := by decide +kernel
theorem dX4_judge_52 : decode cX4_judge 52 = .ok (.aload_n 0, 1) := by decide +kernel
theorem dX4_judge_53 : decode cX4_judge 53 = .ok (.getfield 48, 3) := by decide +kernel
theorem dX4_judge_56 : decode cX4_judge 56 = .ok (.getfield 103, 3) := by decide +kernel
theorem dX4_judge_59 : decode cX4_judge 59 = .ok (.iload_n 1, 1) := by decide +kernel
theorem dX4_judge_60 : decode cX4_judge 60 = .ok (.iaload, 1) := by decide +kernel
theorem dX4_judge_61 : decode cX4_judge 61 = .ok (.ireturn, 1) := by decide +kernel
theorem dX4_judge_62 : decode cX4_judge 62 = .ok (.aload_n 0, 1) := by decide +kernel
theorem dX4_judge_63 : decode cX4_judge 63 = .ok (.getfield 48, 3) := by decide +kernel
theorem dX4_judge_66 : decode cX4_judge 66 = .ok (.getfield 107, 3) := by decide +kernel
theorem dX4_judge_69 : decode cX4_judge 69 = .ok (.iload_n 1, 1) := by decide +kernel
theorem dX4_judge_70 : decode cX4_judge 70 = .ok (.iaload, 1) := by decide +kernel
theorem dX4_judge_71 : decode cX4_judge 71 = .ok (.ireturn, 1) := by decide +kernel
theorem dX4_judge_72 : decode cX4_judge 72 = .ok (.aload_n 0, 1) := by decide +kernel
theorem dX4_judge_73 : decode cX4_judge 73 = .ok (.getfield 48, 3) := by decide +kernel
theorem dX4_judge_76 : decode cX4_judge 76 = .ok (.getfield 110, 3) := by decide +kernel
theorem dX4_judge_79 : decode cX4_judge 79 = .ok (.iload_n 1, 1) := by decide +kernel
theorem dX4_judge_80 : decode cX4_judge 80 = .ok (.iaload, 1) := by decide +kernel
theorem dX4_judge_81 : decode cX4_judge 81 = .ok (.ireturn, 1) := by decide +kernel
theorem dX4_judge_82 : decode cX4_judge 82 = .ok (.aload_n 0, 1) := by decide +kernel
theorem dX4_judge_83 : decode cX4_judge 83 = .ok (.getfield 48, 3) := by decide +kernel
theorem dX4_judge_86 : decode cX4_judge 86 = .ok (.iload_n 1, 1) := by decide +kernel
theorem dX4_judge_87 : decode cX4_judge 87 = .ok (.invokevirtual 113, 3) := by decide +kernel
theorem dX4_judge_90 : decode cX4_judge 90 = .ok (.ifCond .eq 7, 3) := by decide +kernel
theorem dX4_judge_93 : decode cX4_judge 93 = .ok (.iconst 1, 1) := by decide +kernel
theorem dX4_judge_94 : decode cX4_judge 94 = .ok (.goto 4, 3) := by decide +kernel
theorem dX4_judge_97 : decode cX4_judge 97 = .ok (.iconst 0, 1) := by decide +kernel
theorem dX4_judge_98 : decode cX4_judge 98 = .ok (.ireturn, 1) := by decide +kernel
theorem dX4_judge_99 : decode cX4_judge 99 = .ok (.aload_n 0, 1) := by decide +kernel
theorem dX4_judge_100 : decode cX4_judge 100 = .ok (.getfield 48, 3) := by decide +kernel
theorem dX4_judge_103 : decode cX4_judge 103 = .ok (.getfield 116, 3) := by decide +kernel
theorem dX4_judge_106 : decode cX4_judge 106 = .ok (.iload_n 1, 1) := by decide +kernel
theorem dX4_judge_107 : decode cX4_judge 107 = .ok (.iaload, 1) := by decide +kernel
theorem dX4_judge_108 : decode cX4_judge 108 = .ok (.bipush 100, 2) := by decide +kernel
theorem dX4_judge_110 : decode cX4_judge 110 = .ok (.iadd, 1) := by decide +kernel
theorem dX4_judge_111 : decode cX4_judge 111 = .ok (.ireturn, 1) := by decide +kernel
theorem dX4_judge_112 : decode cX4_judge 112 = .ok (.aload_n 0, 1) := by decide +kernel
theorem dX4_judge_113 : decode cX4_judge 113 = .ok (.getfield 48, 3) := by decide +kernel
theorem dX4_judge_116 : decode cX4_judge 116 = .ok (.iload_n 1, 1) := by decide +kernel
theorem dX4_judge_117 : decode cX4_judge 117 = .ok (.invokevirtual 119, 3) := by decide +kernel
theorem dX4_judge_120 : decode cX4_judge 120 = .ok (.ireturn, 1) := by decide +kernel
theorem dX4_judge_121 : decode cX4_judge 121 = .ok (.bipush (-3), 2) := by decide +kernel
theorem dX4_judge_123 : decode cX4_judge 123 = .ok (.ireturn, 1) := by decide +kernel
theorem dX4_keep_0 : decode cX4_keep 0 = .ok (.iload_n 1, 1) := by decide +kernel
theorem dX4_keep_1 : decode cX4_keep 1 = .ok (.ifCond .lt 8, 3) := by decide +kernel
theorem dX4_keep_4 : decode cX4_keep 4 = .ok (.iload_n 1, 1) := by decide +kernel
theorem dX4_keep_5 : decode cX4_keep 5 = .ok (.iconst 2, 1) := by decide +kernel
theorem dX4_keep_6 : decode cX4_keep 6 = .ok (.if_icmp .lt 6, 3) := by decide +kernel
theorem dX4_keep_9 : decode cX4_keep 9 = .ok (.bipush (-2), 2) := by decide +kernel
theorem dX4_keep_11 : decode cX4_keep 11 = .ok (.ireturn, 1) := by decide +kernel
theorem dX4_keep_12 : decode cX4_keep 12 = .ok (.aload_n 0, 1) := by decide +kernel
theorem dX4_keep_13 : decode cX4_keep 13 = .ok (.getfield 61, 3) := by decide +kernel
theorem dX4_keep_16 : decode cX4_keep 16 = .ok (.iload_n 1, 1) := by decide +kernel
theorem dX4_keep_17 : decode cX4_keep 17 = .ok (.aaload, 1) := by decide +kernel
theorem dX4_keep_18 : decode cX4_keep 18 = .ok (.aload_n 0, 1) := by decide +kernel
theorem dX4_keep_19 : decode cX4_keep 19 = .ok (.getfield 48, 3) := by decide +kernel
theorem dX4_keep_22 : decode cX4_keep 22 = .ok (.invokevirtual 84, 3) := by decide +kernel
theorem dX4_keep_25 : decode cX4_keep 25 = .ok (.aload_n 0, 1) := by decide +kernel
theorem dX4_keep_26 : decode cX4_keep 26 = .ok (.getfield 65, 3) := by decide +kernel
theorem dX4_keep_29 : decode cX4_keep 29 = .ok (.iload_n 1, 1) := by decide +kernel
theorem dX4_keep_30 : decode cX4_keep 30 = .ok (.iconst 1, 1) := by decide +kernel
theorem dX4_keep_31 : decode cX4_keep 31 = .ok (.bastore, 1) := by decide +kernel
theorem dX4_keep_32 : decode cX4_keep 32 = .ok (.aload_n 0, 1) := by decide +kernel
theorem dX4_keep_33 : decode cX4_keep 33 = .ok (.getfield 48, 3) := by decide +kernel
theorem dX4_keep_36 : decode cX4_keep 36 = .ok (.getfield 138, 3) := by decide +kernel
theorem dX4_keep_39 : decode cX4_keep 39 = .ok (.ireturn, 1) := by decide +kernel
theorem dX4_letter_0 : decode cX4_letter 0 = .ok (.iload_n 1, 1) := by decide +kernel
theorem dX4_letter_1 : decode cX4_letter 1 = .ok (.invokestatic 208, 3) := by decide +kernel
theorem dX4_letter_4 : decode cX4_letter 4 = .ok (.ifCond .ne 6, 3) := by decide +kernel
theorem dX4_letter_7 : decode cX4_letter 7 = .ok (.bipush (-2), 2) := by decide +kernel
theorem dX4_letter_9 : decode cX4_letter 9 = .ok (.ireturn, 1) := by decide +kernel
theorem dX4_letter_10 : decode cX4_letter 10 = .ok (.aload_n 0, 1) := by decide +kernel
theorem dX4_letter_11 : decode cX4_letter 11 = .ok (.getfield 25, 3) := by decide +kernel
theorem dX4_letter_14 : decode cX4_letter 14 = .ok (.iload_n 1, 1) := by decide +kernel
theorem dX4_letter_15 : decode cX4_letter 15 = .ok (.baload, 1) := by decide +kernel
theorem dX4_letter_16 : decode cX4_letter 16 = .ok (.ifCond .ne 6, 3) := by decide +kernel
theorem dX4_letter_19 : decode cX4_letter 19 = .ok (.bipush (-11), 2) := by decide +kernel
theorem dX4_letter_21 : decode cX4_letter 21 = .ok (.ireturn, 1) := by decide +kernel
theorem dX4_letter_22 : decode cX4_letter 22 = .ok (.iload_n 2, 1) := by decide +kernel
theorem dX4_letter_23 : decode cX4_letter 23 = .ok (.ifCond .lt 16, 3) := by decide +kernel
theorem dX4_letter_26 : decode cX4_letter 26 = .ok (.iload_n 2, 1) := by decide +kernel
theorem dX4_letter_27 : decode cX4_letter 27 = .ok (.aload_n 0, 1) := by decide +kernel
theorem dX4_letter_28 : decode cX4_letter 28 = .ok (.getfield 21, 3) := by decide +kernel
theorem dX4_letter_31 : decode cX4_letter 31 = .ok (.iload_n 1, 1) := by decide +kernel
theorem dX4_letter_32 : decode cX4_letter 32 = .ok (.aaload, 1) := by decide +kernel
theorem dX4_letter_33 : decode cX4_letter 33 = .ok (.getfield 72, 3) := by decide +kernel
theorem dX4_letter_36 : decode cX4_letter 36 = .ok (.if_icmp .lt 6, 3) := by decide +kernel
theorem dX4_letter_39 : decode cX4_letter 39 = .ok (.bipush (-12), 2) := by decide +kernel
theorem dX4_letter_41 : decode cX4_letter 41 = .ok (.ireturn, 1) := by decide +kernel
theorem dX4_letter_42 : decode cX4_letter 42 = .ok (.aload_n 0, 1) := by decide +kernel
theorem dX4_letter_43 : decode cX4_letter 43 = .ok (.getfield 21, 3) := by decide +kernel
theorem dX4_letter_46 : decode cX4_letter 46 = .ok (.iload_n 1, 1) := by decide +kernel
theorem dX4_letter_47 : decode cX4_letter 47 = .ok (.aaload, 1) := by decide +kernel
theorem dX4_letter_48 : decode cX4_letter 48 = .ok (.getfield 176, 3) := by decide +kernel
theorem dX4_letter_51 : decode cX4_letter 51 = .ok (.iload_n 2, 1) := by decide +kernel
theorem dX4_letter_52 : decode cX4_letter 52 = .ok (.iaload, 1) := by decide +kernel
theorem dX4_letter_53 : decode cX4_letter 53 = .ok (.ireturn, 1) := by decide +kernel
theorem dX4_lettersOfSlips_0 : decode cX4_lettersOfSlips 0 = .ok (.iconst 0, 1) := by decide +kernel
theorem dX4_lettersOfSlips_1 : decode cX4_lettersOfSlips 1 = .ok (.istore_n 1, 1) := by decide +kernel
theorem dX4_lettersOfSlips_2 : decode cX4_lettersOfSlips 2 = .ok (.iconst 0, 1) := by decide +kernel
theorem dX4_lettersOfSlips_3 : decode cX4_lettersOfSlips 3 = .ok (.istore_n 2, 1) := by decide +kernel
theorem dX4_lettersOfSlips_4 : decode cX4_lettersOfSlips 4 = .ok (.iload_n 2, 1) := by decide +kernel
theorem dX4_lettersOfSlips_5 : decode cX4_lettersOfSlips 5 = .ok (.iconst 3, 1) := by decide +kernel
theorem dX4_lettersOfSlips_6 : decode cX4_lettersOfSlips 6 = .ok (.if_icmp .ge 30, 3) := by decide +kernel
theorem dX4_lettersOfSlips_9 : decode cX4_lettersOfSlips 9 = .ok (.aload_n 0, 1) := by decide +kernel
theorem dX4_lettersOfSlips_10 : decode cX4_lettersOfSlips 10 = .ok (.getfield 25, 3) := by decide +kernel
theorem dX4_lettersOfSlips_13 : decode cX4_lettersOfSlips 13 = .ok (.iload_n 2, 1) := by decide +kernel
theorem dX4_lettersOfSlips_14 : decode cX4_lettersOfSlips 14 = .ok (.baload, 1) := by decide +kernel
theorem dX4_lettersOfSlips_15 : decode cX4_lettersOfSlips 15 = .ok (.ifCond .eq 15, 3) := by decide +kernel
theorem dX4_lettersOfSlips_18 : decode cX4_lettersOfSlips 18 = .ok (.iload_n 1, 1) := by decide +kernel
theorem dX4_lettersOfSlips_19 : decode cX4_lettersOfSlips 19 = .ok (.aload_n 0, 1) := by decide +kernel
theorem dX4_lettersOfSlips_20 : decode cX4_lettersOfSlips 20 = .ok (.getfield 21, 3) := by decide +kernel
theorem dX4_lettersOfSlips_23 : decode cX4_lettersOfSlips 23 = .ok (.iload_n 2, 1) := by decide +kernel
theorem dX4_lettersOfSlips_24 : decode cX4_lettersOfSlips 24 = .ok (.aaload, 1) := by decide +kernel
theorem dX4_lettersOfSlips_25 : decode cX4_lettersOfSlips 25 = .ok (.getfield 72, 3) := by decide +kernel
theorem dX4_lettersOfSlips_28 : decode cX4_lettersOfSlips 28 = .ok (.iadd, 1) := by decide +kernel
theorem dX4_lettersOfSlips_29 : decode cX4_lettersOfSlips 29 = .ok (.istore_n 1, 1) := by decide +kernel
theorem dX4_lettersOfSlips_30 : decode cX4_lettersOfSlips 30 = .ok (.iinc 2 1, 3) := by decide +kernel
theorem dX4_lettersOfSlips_33 : decode cX4_lettersOfSlips 33 = .ok (.goto (-29), 3) := by decide +kernel
theorem dX4_lettersOfSlips_36 : decode cX4_lettersOfSlips 36 = .ok (.iload_n 1, 1) := by decide +kernel
theorem dX4_lettersOfSlips_37 : decode cX4_lettersOfSlips 37 = .ok (.ireturn, 1) := by decide +kernel
theorem dX4_lettersOfWriting_0 : decode cX4_lettersOfWriting 0 = .ok (.aload_n 0, 1) := by decide +kernel
theorem dX4_lettersOfWriting_1 : decode cX4_lettersOfWriting 1 = .ok (.invokevirtual 173, 3) := by decide +kernel
theorem dX4_lettersOfWriting_4 : decode cX4_lettersOfWriting 4 = .ok (.aload_n 0, 1) := by decide +kernel
theorem dX4_lettersOfWriting_5 : decode cX4_lettersOfWriting 5 = .ok (.getfield 18, 3) := by decide +kernel
theorem dX4_lettersOfWriting_8 : decode cX4_lettersOfWriting 8 = .ok (.getfield 72, 3) := by decide +kernel
theorem dX4_lettersOfWriting_11 : decode cX4_lettersOfWriting 11 = .ok (.ireturn, 1) := by decide +kernel
theorem dX4_like_0 : decode cX4_like 0 = .ok (.iload_n 1, 1) := by decide +kernel
theorem dX4_like_1 : decode cX4_like 1 = .ok (.iconst 1, 1) := by decide +kernel
theorem dX4_like_2 : decode cX4_like 2 = .ok (.if_icmp .lt 9, 3) := by decide +kernel
theorem dX4_like_5 : decode cX4_like 5 = .ok (.iload_n 1, 1) := by decide +kernel
theorem dX4_like_6 : decode cX4_like 6 = .ok (.bipush 20, 2) := by decide +kernel
theorem dX4_like_8 : decode cX4_like 8 = .ok (.if_icmp .le 6, 3) := by decide +kernel
theorem dX4_like_11 : decode cX4_like 11 = .ok (.bipush (-3), 2) := by decide +kernel
theorem dX4_like_13 : decode cX4_like 13 = .ok (.ireturn, 1) := by decide +kernel
theorem dX4_like_14 : decode cX4_like 14 = .ok (.aload_n 0, 1) := by decide +kernel
theorem dX4_like_15 : decode cX4_like 15 = .ok (.getfield 48, 3) := by decide +kernel
theorem dX4_like_18 : decode cX4_like 18 = .ok (.invokevirtual 198, 3) := by decide +kernel
theorem dX4_like_21 : decode cX4_like 21 = .ok (.ifCond .ne 6, 3) := by decide +kernel
theorem dX4_like_24 : decode cX4_like 24 = .ok (.bipush (-4), 2) := by decide +kernel
theorem dX4_like_26 : decode cX4_like 26 = .ok (.ireturn, 1) := by decide +kernel
theorem dX4_like_27 : decode cX4_like 27 = .ok (.iload_n 1, 1) := by decide +kernel
theorem dX4_like_28 : decode cX4_like 28 = .ok (.aload_n 0, 1) := by decide +kernel
theorem dX4_like_29 : decode cX4_like 29 = .ok (.getfield 48, 3) := by decide +kernel
theorem dX4_like_32 : decode cX4_like 32 = .ok (.getfield 138, 3) := by decide +kernel
theorem dX4_like_35 : decode cX4_like 35 = .ok (.if_icmp .le 5, 3) := by decide +kernel
theorem dX4_like_38 : decode cX4_like 38 = .ok (.iconst (-1), 1) := by decide +kernel
theorem dX4_like_39 : decode cX4_like 39 = .ok (.ireturn, 1) := by decide +kernel
theorem dX4_like_40 : decode cX4_like 40 = .ok (.aload_n 0, 1) := by decide +kernel
theorem dX4_like_41 : decode cX4_like 41 = .ok (.getfield 51, 3) := by decide +kernel
theorem dX4_like_44 : decode cX4_like 44 = .ok (.aload_n 0, 1) := by decide +kernel
theorem dX4_like_45 : decode cX4_like 45 = .ok (.getfield 48, 3) := by decide +kernel
theorem dX4_like_48 : decode cX4_like 48 = .ok (.invokevirtual 84, 3) := by decide +kernel
theorem dX4_like_51 : decode cX4_like 51 = .ok (.iconst 1, 1) := by decide +kernel
theorem dX4_like_52 : decode cX4_like 52 = .ok (.istore_n 2, 1) := by decide +kernel
theorem dX4_like_53 : decode cX4_like 53 = .ok (.iload_n 2, 1) := by decide +kernel
theorem dX4_like_54 : decode cX4_like 54 = .ok (.sipush 300, 3) := by decide +kernel
theorem dX4_like_57 : decode cX4_like 57 = .ok (.if_icmp .gt 21, 3) := by decide +kernel
theorem dX4_like_60 : decode cX4_like 60 = .ok (.aload_n 0, 1) := by decide +kernel
theorem dX4_like_61 : decode cX4_like 61 = .ok (.iload_n 2, 1) := by decide +kernel
theorem dX4_like_62 : decode cX4_like 62 = .ok (.iload_n 1, 1) := by decide +kernel
theorem dX4_like_63 : decode cX4_like 63 = .ok (.invokevirtual 202, 3) := by decide +kernel
theorem dX4_like_66 : decode cX4_like 66 = .ok (.iload_n 1, 1) := by decide +kernel
theorem dX4_like_67 : decode cX4_like 67 = .ok (.if_icmp .lt 5, 3) := by decide +kernel
theorem dX4_like_70 : decode cX4_like 70 = .ok (.iload_n 2, 1) := by decide +kernel
theorem dX4_like_71 : decode cX4_like 71 = .ok (.ireturn, 1) := by decide +kernel
theorem dX4_like_72 : decode cX4_like 72 = .ok (.iinc 2 1, 3) := by decide +kernel
theorem dX4_like_75 : decode cX4_like 75 = .ok (.goto (-22), 3) := by decide +kernel
theorem dX4_like_78 : decode cX4_like 78 = .ok (.iconst (-1), 1) := by decide +kernel
theorem dX4_like_79 : decode cX4_like 79 = .ok (.ireturn, 1) := by decide +kernel
theorem dX4_named_0 : decode cX4_named 0 = .ok (.iload_n 1, 1) := by decide +kernel
theorem dX4_named_1 : decode cX4_named 1 = .ok (.invokestatic 208, 3) := by decide +kernel
theorem dX4_named_4 : decode cX4_named 4 = .ok (.ifCond .ne 6, 3) := by decide +kernel
theorem dX4_named_7 : decode cX4_named 7 = .ok (.bipush (-2), 2) := by decide +kernel
theorem dX4_named_9 : decode cX4_named 9 = .ok (.ireturn, 1) := by decide +kernel
theorem dX4_named_10 : decode cX4_named 10 = .ok (.aload_n 0, 1) := by decide +kernel
theorem dX4_named_11 : decode cX4_named 11 = .ok (.getfield 25, 3) := by decide +kernel
theorem dX4_named_14 : decode cX4_named 14 = .ok (.iload_n 1, 1) := by decide +kernel
theorem dX4_named_15 : decode cX4_named 15 = .ok (.baload, 1) := by decide +kernel
theorem dX4_named_16 : decode cX4_named 16 = .ok (.ifCond .ne 6, 3) := by decide +kernel
theorem dX4_named_19 : decode cX4_named 19 = .ok (.bipush (-11), 2) := by decide +kernel
theorem dX4_named_21 : decode cX4_named 21 = .ok (.ireturn, 1) := by decide +kernel
theorem dX4_named_22 : decode cX4_named 22 = .ok (.aload_n 0, 1) := by decide +kernel
theorem dX4_named_23 : decode cX4_named 23 = .ok (.getfield 21, 3) := by decide +kernel
theorem dX4_named_26 : decode cX4_named 26 = .ok (.iload_n 1, 1) := by decide +kernel
theorem dX4_named_27 : decode cX4_named 27 = .ok (.aaload, 1) := by decide +kernel
theorem dX4_named_28 : decode cX4_named 28 = .ok (.iconst 0, 1) := by decide +kernel
theorem dX4_named_29 : decode cX4_named 29 = .ok (.aload_n 0, 1) := by decide +kernel
theorem dX4_named_30 : decode cX4_named 30 = .ok (.getfield 21, 3) := by decide +kernel
theorem dX4_named_33 : decode cX4_named 33 = .ok (.iload_n 1, 1) := by decide +kernel
theorem dX4_named_34 : decode cX4_named 34 = .ok (.aaload, 1) := by decide +kernel
theorem dX4_named_35 : decode cX4_named 35 = .ok (.getfield 72, 3) := by decide +kernel
theorem dX4_named_38 : decode cX4_named 38 = .ok (.invokevirtual 228, 3) := by decide +kernel
theorem dX4_named_41 : decode cX4_named 41 = .ok (.ireturn, 1) := by decide +kernel
theorem dX4_next_0 : decode cX4_next 0 = .ok (.iload_n 1, 1) := by decide +kernel
theorem dX4_next_1 : decode cX4_next 1 = .ok (.invokestatic 144, 3) := by decide +kernel
theorem dX4_next_4 : decode cX4_next 4 = .ok (.ifCond .eq 10, 3) := by decide +kernel
theorem dX4_next_7 : decode cX4_next 7 = .ok (.iload_n 2, 1) := by decide +kernel
theorem dX4_next_8 : decode cX4_next 8 = .ok (.invokestatic 147, 3) := by decide +kernel
theorem dX4_next_11 : decode cX4_next 11 = .ok (.ifCond .ne 6, 3) := by decide +kernel
theorem dX4_next_14 : decode cX4_next 14 = .ok (.bipush (-3), 2) := by decide +kernel
theorem dX4_next_16 : decode cX4_next 16 = .ok (.ireturn, 1) := by decide +kernel
theorem dX4_next_17 : decode cX4_next 17 = .ok (.aload_n 0, 1) := by decide +kernel
theorem dX4_next_18 : decode cX4_next 18 = .ok (.getfield 48, 3) := by decide +kernel
theorem dX4_next_21 : decode cX4_next 21 = .ok (.iload_n 2, 1) := by decide +kernel
theorem dX4_next_22 : decode cX4_next 22 = .ok (.iconst (-1), 1) := by decide +kernel
theorem dX4_next_23 : decode cX4_next 23 = .ok (.invokevirtual 150, 3) := by decide +kernel
theorem dX4_next_26 : decode cX4_next 26 = .ok (.ifCond .ne 6, 3) := by decide +kernel
theorem dX4_next_29 : decode cX4_next 29 = .ok (.bipush (-4), 2) := by decide +kernel
theorem dX4_next_31 : decode cX4_next 31 = .ok (.ireturn, 1) := by decide +kernel
theorem dX4_next_32 : decode cX4_next 32 = .ok (.aload_n 0, 1) := by decide +kernel
theorem dX4_next_33 : decode cX4_next 33 = .ok (.getfield 51, 3) := by decide +kernel
theorem dX4_next_36 : decode cX4_next 36 = .ok (.aload_n 0, 1) := by decide +kernel
theorem dX4_next_37 : decode cX4_next 37 = .ok (.getfield 48, 3) := by decide +kernel
theorem dX4_next_40 : decode cX4_next 40 = .ok (.invokevirtual 84, 3) := by decide +kernel
theorem dX4_next_43 : decode cX4_next 43 = .ok (.aload_n 0, 1) := by decide +kernel
theorem dX4_next_44 : decode cX4_next 44 = .ok (.getfield 51, 3) := by decide +kernel
theorem dX4_next_47 : decode cX4_next 47 = .ok (.iload_n 1, 1) := by decide +kernel
theorem dX4_next_48 : decode cX4_next 48 = .ok (.iload_n 2, 1) := by decide +kernel
theorem dX4_next_49 : decode cX4_next 49 = .ok (.invokevirtual 195, 3) := by decide +kernel
theorem dX4_next_52 : decode cX4_next 52 = .ok (.ireturn, 1) := by decide +kernel
theorem dX4_odds_0 : decode cX4_odds 0 = .ok (.aload_n 0, 1) := by decide +kernel
theorem dX4_odds_1 : decode cX4_odds 1 = .ok (.getfield 48, 3) := by decide +kernel
theorem dX4_odds_4 : decode cX4_odds 4 = .ok (.iload_n 1, 1) := by decide +kernel
theorem dX4_odds_5 : decode cX4_odds 5 = .ok (.invokevirtual 100, 3) := by decide +kernel
theorem dX4_odds_8 : decode cX4_odds 8 = .ok (.ifCond .ne 6, 3) := by decide +kernel
theorem dX4_odds_11 : decode cX4_odds 11 = .ok (.bipush (-2), 2) := by decide +kernel
theorem dX4_odds_13 : decode cX4_odds 13 = .ok (.ireturn, 1) := by decide +kernel
theorem dX4_odds_14 : decode cX4_odds 14 = .ok (.iload_n 2, 1) := by decide +kernel
theorem dX4_odds_15 : decode cX4_odds 15 = .ok (.invokestatic 144, 3) := by decide +kernel
theorem dX4_odds_18 : decode cX4_odds 18 = .ok (.ifCond .eq 21, 3) := by decide +kernel
theorem dX4_odds_21 : decode cX4_odds 21 = .ok (.iload_n 3, 1) := by decide +kernel
theorem dX4_odds_22 : decode cX4_odds 22 = .ok (.invokestatic 147, 3) := by decide +kernel
theorem dX4_odds_25 : decode cX4_odds 25 = .ok (.ifCond .eq 14, 3) := by decide +kernel
theorem dX4_odds_28 : decode cX4_odds 28 = .ok (.iload 4, 2) := by decide +kernel
theorem dX4_odds_30 : decode cX4_odds 30 = .ok (.ifCond .lt 9, 3) := by decide +kernel
theorem dX4_odds_33 : decode cX4_odds 33 = .ok (.iload 4, 2) := by decide +kernel
theorem dX4_odds_35 : decode cX4_odds 35 = .ok (.iconst 1, 1) := by decide +kernel
theorem dX4_odds_36 : decode cX4_odds 36 = .ok (.if_icmp .le 6, 3) := by decide +kernel
theorem dX4_odds_39 : decode cX4_odds 39 = .ok (.bipush (-3), 2) := by decide +kernel
theorem dX4_odds_41 : decode cX4_odds 41 = .ok (.ireturn, 1) := by decide +kernel
theorem dX4_odds_42 : decode cX4_odds 42 = .ok (.aload_n 0, 1) := by decide +kernel
theorem dX4_odds_43 : decode cX4_odds 43 = .ok (.getfield 48, 3) := by decide +kernel
theorem dX4_odds_46 : decode cX4_odds 46 = .ok (.iload_n 3, 1) := by decide +kernel
theorem dX4_odds_47 : decode cX4_odds 47 = .ok (.iconst (-1), 1) := by decide +kernel
theorem dX4_odds_48 : decode cX4_odds 48 = .ok (.invokevirtual 150, 3) := by decide +kernel
theorem dX4_odds_51 : decode cX4_odds 51 = .ok (.ifCond .ne 6, 3) := by decide +kernel
theorem dX4_odds_54 : decode cX4_odds 54 = .ok (.bipush (-4), 2) := by decide +kernel
theorem dX4_odds_56 : decode cX4_odds 56 = .ok (.ireturn, 1) := by decide +kernel
theorem dX4_odds_57 : decode cX4_odds 57 = .ok (.aload_n 0, 1) := by decide +kernel
theorem dX4_odds_58 : decode cX4_odds 58 = .ok (.getfield 48, 3) := by decide +kernel
theorem dX4_odds_61 : decode cX4_odds 61 = .ok (.iload_n 1, 1) := by decide +kernel
theorem dX4_odds_62 : decode cX4_odds 62 = .ok (.iload_n 3, 1) := by decide +kernel
theorem dX4_odds_63 : decode cX4_odds 63 = .ok (.invokevirtual 186, 3) := by decide +kernel
theorem dX4_odds_66 : decode cX4_odds 66 = .ok (.ifCond .ne 6, 3) := by decide +kernel
theorem dX4_odds_69 : decode cX4_odds 69 = .ok (.iload 4, 2) := by decide +kernel
theorem dX4_odds_71 : decode cX4_odds 71 = .ok (.ireturn, 1) := by decide +kernel
theorem dX4_odds_72 : decode cX4_odds 72 = .ok (.aload_n 0, 1) := by decide +kernel
theorem dX4_odds_73 : decode cX4_odds 73 = .ok (.getfield 48, 3) := by decide +kernel
theorem dX4_odds_76 : decode cX4_odds 76 = .ok (.iload_n 1, 1) := by decide +kernel
theorem dX4_odds_77 : decode cX4_odds 77 = .ok (.iload_n 2, 1) := by decide +kernel
theorem dX4_odds_78 : decode cX4_odds 78 = .ok (.invokevirtual 183, 3) := by decide +kernel
theorem dX4_odds_81 : decode cX4_odds 81 = .ok (.istore 5, 2) := by decide +kernel
theorem dX4_odds_83 : decode cX4_odds 83 = .ok (.aload_n 0, 1) := by decide +kernel
theorem dX4_odds_84 : decode cX4_odds 84 = .ok (.getfield 48, 3) := by decide +kernel
theorem dX4_odds_87 : decode cX4_odds 87 = .ok (.iload_n 2, 1) := by decide +kernel
theorem dX4_odds_88 : decode cX4_odds 88 = .ok (.iload_n 3, 1) := by decide +kernel
theorem dX4_odds_89 : decode cX4_odds 89 = .ok (.invokevirtual 189, 3) := by decide +kernel
theorem dX4_odds_92 : decode cX4_odds 92 = .ok (.istore 6, 2) := by decide +kernel
theorem dX4_odds_94 : decode cX4_odds 94 = .ok (.iload 5, 2) := by decide +kernel
theorem dX4_odds_96 : decode cX4_odds 96 = .ok (.iload 6, 2) := by decide +kernel
theorem dX4_odds_98 : decode cX4_odds 98 = .ok (.invokestatic 192, 3) := by decide +kernel
theorem dX4_odds_101 : decode cX4_odds 101 = .ok (.istore 7, 2) := by decide +kernel
theorem dX4_odds_103 : decode cX4_odds 103 = .ok (.iload 4, 2) := by decide +kernel
theorem dX4_odds_105 : decode cX4_odds 105 = .ok (.ifCond .ne 8, 3) := by decide +kernel
theorem dX4_odds_108 : decode cX4_odds 108 = .ok (.iload 5, 2) := by decide +kernel
theorem dX4_odds_110 : decode cX4_odds 110 = .ok (.goto 5, 3) := by decide +kernel
theorem dX4_odds_113 : decode cX4_odds 113 = .ok (.iload 6, 2) := by decide +kernel
theorem dX4_odds_115 : decode cX4_odds 115 = .ok (.iload 7, 2) := by decide +kernel
theorem dX4_odds_117 : decode cX4_odds 117 = .ok (.idiv, 1) := by decide +kernel
theorem dX4_odds_118 : decode cX4_odds 118 = .ok (.ireturn, 1) := by decide +kernel
theorem dX4_readText_0 : decode cX4_readText 0 = .ok (.aload_n 0, 1) := by decide +kernel
theorem dX4_readText_1 : decode cX4_readText 1 = .ok (.getfield 45, 3) := by decide +kernel
theorem dX4_readText_4 : decode cX4_readText 4 = .ok (.aload_n 0, 1) := by decide +kernel
theorem dX4_readText_5 : decode cX4_readText 5 = .ok (.getfield 41, 3) := by decide +kernel
theorem dX4_readText_8 : decode cX4_readText 8 = .ok (.invokevirtual 84, 3) := by decide +kernel
theorem dX4_readText_11 : decode cX4_readText 11 = .ok (.aload_n 0, 1) := by decide +kernel
theorem dX4_readText_12 : decode cX4_readText 12 = .ok (.getfield 34, 3) := by decide +kernel
theorem dX4_readText_15 : decode cX4_readText 15 = .ok (.aload_n 0, 1) := by decide +kernel
theorem dX4_readText_16 : decode cX4_readText 16 = .ok (.getfield 45, 3) := by decide +kernel
theorem dX4_readText_19 : decode cX4_readText 19 = .ok (.invokevirtual 265, 3) := by decide +kernel
theorem dX4_readText_22 : decode cX4_readText 22 = .ok (.ireturn, 1) := by decide +kernel
theorem dX4_recountBy_0 : decode cX4_recountBy 0 = .ok (.iconst 0, 1) := by decide +kernel
theorem dX4_recountBy_1 : decode cX4_recountBy 1 = .ok (.istore_n 3, 1) := by decide +kernel
theorem dX4_recountBy_2 : decode cX4_recountBy 2 = .ok (.aload_n 0, 1) := by decide +kernel
theorem dX4_recountBy_3 : decode cX4_recountBy 3 = .ok (.getfield 51, 3) := by decide +kernel
theorem dX4_recountBy_6 : decode cX4_recountBy 6 = .ok (.iload_n 1, 1) := by decide +kernel
theorem dX4_recountBy_7 : decode cX4_recountBy 7 = .ok (.invokevirtual 141, 3) := by decide +kernel
theorem dX4_recountBy_10 : decode cX4_recountBy 10 = .ok (.iconst 0, 1) := by decide +kernel
theorem dX4_recountBy_11 : decode cX4_recountBy 11 = .ok (.istore 4, 2) := by decide +kernel
theorem dX4_recountBy_13 : decode cX4_recountBy 13 = .ok (.iload 4, 2) := by decide +kernel
theorem dX4_recountBy_15 : decode cX4_recountBy 15 = .ok (.aload_n 0, 1) := by decide +kernel
theorem dX4_recountBy_16 : decode cX4_recountBy 16 = .ok (.getfield 48, 3) := by decide +kernel
theorem dX4_recountBy_19 : decode cX4_recountBy 19 = .ok (.getfield 138, 3) := by decide +kernel
theorem dX4_recountBy_22 : decode cX4_recountBy 22 = .ok (.if_icmp .ge 68, 3) := by decide +kernel
theorem dX4_recountBy_25 : decode cX4_recountBy 25 = .ok (.iload_n 3, 1) := by decide +kernel
theorem dX4_recountBy_26 : decode cX4_recountBy 26 = .ok (.aload_n 0, 1) := by decide +kernel
theorem dX4_recountBy_27 : decode cX4_recountBy 27 = .ok (.getfield 48, 3) := by decide +kernel
theorem dX4_recountBy_30 : decode cX4_recountBy 30 = .ok (.getfield 138, 3) := by decide +kernel
theorem dX4_recountBy_33 : decode cX4_recountBy 33 = .ok (.iadd, 1) := by decide +kernel
theorem dX4_recountBy_34 : decode cX4_recountBy 34 = .ok (.iload 4, 2) := by decide +kernel
theorem dX4_recountBy_36 : decode cX4_recountBy 36 = .ok (.isub, 1) := by decide +kernel
theorem dX4_recountBy_37 : decode cX4_recountBy 37 = .ok (.iload_n 2, 1) := by decide +kernel
theorem dX4_recountBy_38 : decode cX4_recountBy 38 = .ok (.if_icmp .lt 52, 3) := by decide +kernel
theorem dX4_recountBy_41 : decode cX4_recountBy 41 = .ok (.aload_n 0, 1) := by decide +kernel
theorem dX4_recountBy_42 : decode cX4_recountBy 42 = .ok (.getfield 51, 3) := by decide +kernel
theorem dX4_recountBy_45 : decode cX4_recountBy 45 = .ok (.aload_n 0, 1) := by decide +kernel
theorem dX4_recountBy_46 : decode cX4_recountBy 46 = .ok (.getfield 48, 3) := by decide +kernel
theorem dX4_recountBy_49 : decode cX4_recountBy 49 = .ok (.getfield 126, 3) := by decide +kernel
theorem dX4_recountBy_52 : decode cX4_recountBy 52 = .ok (.iload 4, 2) := by decide +kernel
theorem dX4_recountBy_54 : decode cX4_recountBy 54 = .ok (.iaload, 1) := by decide +kernel
theorem dX4_recountBy_55 : decode cX4_recountBy 55 = .ok (.aload_n 0, 1) := by decide +kernel
theorem dX4_recountBy_56 : decode cX4_recountBy 56 = .ok (.getfield 48, 3) := by decide +kernel
theorem dX4_recountBy_59 : decode cX4_recountBy 59 = .ok (.getfield 129, 3) := by decide +kernel
theorem dX4_recountBy_62 : decode cX4_recountBy 62 = .ok (.iload 4, 2) := by decide +kernel
theorem dX4_recountBy_64 : decode cX4_recountBy 64 = .ok (.iaload, 1) := by decide +kernel
theorem dX4_recountBy_65 : decode cX4_recountBy 65 = .ok (.invokevirtual 157, 3) := by decide +kernel
theorem dX4_recountBy_68 : decode cX4_recountBy 68 = .ok (.aload_n 0, 1) := by decide +kernel
theorem dX4_recountBy_69 : decode cX4_recountBy 69 = .ok (.getfield 48, 3) := by decide +kernel
theorem dX4_recountBy_72 : decode cX4_recountBy 72 = .ok (.getfield 132, 3) := by decide +kernel
theorem dX4_recountBy_75 : decode cX4_recountBy 75 = .ok (.iload 4, 2) := by decide +kernel
theorem dX4_recountBy_77 : decode cX4_recountBy 77 = .ok (.iaload, 1) := by decide +kernel
theorem dX4_recountBy_78 : decode cX4_recountBy 78 = .ok (.if_icmp .ne 6, 3) := by decide +kernel
theorem dX4_recountBy_81 : decode cX4_recountBy 81 = .ok (.iinc 3 1, 3) := by decide +kernel
theorem dX4_recountBy_84 : decode cX4_recountBy 84 = .ok (.iinc 4 1, 3) := by decide +kernel
theorem dX4_recountBy_87 : decode cX4_recountBy 87 = .ok (.goto (-74), 3) := by decide +kernel
theorem dX4_recountBy_90 : decode cX4_recountBy 90 = .ok (.iload_n 3, 1) := by decide +kernel
theorem dX4_recountBy_91 : decode cX4_recountBy 91 = .ok (.ireturn, 1) := by decide +kernel
theorem dX4_refuse_0 : decode cX4_refuse 0 = .ok (.aload_n 0, 1) := by decide +kernel
theorem dX4_refuse_1 : decode cX4_refuse 1 = .ok (.getfield 48, 3) := by decide +kernel
theorem dX4_refuse_4 : decode cX4_refuse 4 = .ok (.iload_n 1, 1) := by decide +kernel
theorem dX4_refuse_5 : decode cX4_refuse 5 = .ok (.invokevirtual 123, 3) := by decide +kernel
theorem dX4_refuse_8 : decode cX4_refuse 8 = .ok (.ifCond .ne 6, 3) := by decide +kernel
theorem dX4_refuse_11 : decode cX4_refuse 11 = .ok (.bipush (-2), 2) := by decide +kernel
theorem dX4_refuse_13 : decode cX4_refuse 13 = .ok (.ireturn, 1) := by decide +kernel
theorem dX4_refuse_14 : decode cX4_refuse 14 = .ok (.aload_n 0, 1) := by decide +kernel
theorem dX4_refuse_15 : decode cX4_refuse 15 = .ok (.getfield 48, 3) := by decide +kernel
theorem dX4_refuse_18 : decode cX4_refuse 18 = .ok (.aload_n 0, 1) := by decide +kernel
theorem dX4_refuse_19 : decode cX4_refuse 19 = .ok (.getfield 48, 3) := by decide +kernel
theorem dX4_refuse_22 : decode cX4_refuse 22 = .ok (.getfield 129, 3) := by decide +kernel
theorem dX4_refuse_25 : decode cX4_refuse 25 = .ok (.iload_n 1, 1) := by decide +kernel
theorem dX4_refuse_26 : decode cX4_refuse 26 = .ok (.iaload, 1) := by decide +kernel
theorem dX4_refuse_27 : decode cX4_refuse 27 = .ok (.aload_n 0, 1) := by decide +kernel
theorem dX4_refuse_28 : decode cX4_refuse 28 = .ok (.getfield 48, 3) := by decide +kernel
theorem dX4_refuse_31 : decode cX4_refuse 31 = .ok (.getfield 132, 3) := by decide +kernel
theorem dX4_refuse_34 : decode cX4_refuse 34 = .ok (.iload_n 1, 1) := by decide +kernel
theorem dX4_refuse_35 : decode cX4_refuse 35 = .ok (.iaload, 1) := by decide +kernel
theorem dX4_refuse_36 : decode cX4_refuse 36 = .ok (.invokevirtual 150, 3) := by decide +kernel
theorem dX4_refuse_39 : decode cX4_refuse 39 = .ok (.ifCond .ne 6, 3) := by decide +kernel
theorem dX4_refuse_42 : decode cX4_refuse 42 = .ok (.bipush (-4), 2) := by decide +kernel
theorem dX4_refuse_44 : decode cX4_refuse 44 = .ok (.ireturn, 1) := by decide +kernel
theorem dX4_refuse_45 : decode cX4_refuse 45 = .ok (.aload_n 0, 1) := by decide +kernel
theorem dX4_refuse_46 : decode cX4_refuse 46 = .ok (.getfield 57, 3) := by decide +kernel
theorem dX4_refuse_49 : decode cX4_refuse 49 = .ok (.aload_n 0, 1) := by decide +kernel
theorem dX4_refuse_50 : decode cX4_refuse 50 = .ok (.getfield 48, 3) := by decide +kernel
theorem dX4_refuse_53 : decode cX4_refuse 53 = .ok (.invokevirtual 154, 3) := by decide +kernel
theorem dX4_refuse_56 : decode cX4_refuse 56 = .ok (.aload_n 0, 1) := by decide +kernel
theorem dX4_refuse_57 : decode cX4_refuse 57 = .ok (.getfield 48, 3) := by decide +kernel
theorem dX4_refuse_60 : decode cX4_refuse 60 = .ok (.iload_n 1, 1) := by decide +kernel
theorem dX4_refuse_61 : decode cX4_refuse 61 = .ok (.invokevirtual 161, 3) := by decide +kernel
theorem dX4_refuse_64 : decode cX4_refuse 64 = .ok (.ireturn, 1) := by decide +kernel
theorem dX4_ruleName_0 : decode cX4_ruleName 0 = .ok (.iload_n 0, 1) := by decide +kernel
theorem dX4_ruleName_1 : decode cX4_ruleName 1 = .ok (.tableswitch 36 0 2 #[27, 30, 33], 27) := by decide +kernel
theorem dX4_ruleName_28 : decode cX4_ruleName 28 = .ok (.ldc 252, 2) := by decide +kernel
theorem dX4_ruleName_30 : decode cX4_ruleName 30 = .ok (.areturn, 1) := by decide +kernel
theorem dX4_ruleName_31 : decode cX4_ruleName 31 = .ok (.ldc 254, 2) := by decide +kernel
theorem dX4_ruleName_33 : decode cX4_ruleName 33 = .ok (.areturn, 1) := by decide +kernel
theorem dX4_ruleName_34 : decode cX4_ruleName 34 = .ok (.ldc 255, 2) := by decide +kernel
theorem dX4_ruleName_36 : decode cX4_ruleName 36 = .ok (.areturn, 1) := by decide +kernel
theorem dX4_ruleName_37 : decode cX4_ruleName 37 = .ok (.ldc_w 257, 3) := by decide +kernel
theorem dX4_ruleName_40 : decode cX4_ruleName 40 = .ok (.areturn, 1) := by decide +kernel
theorem dX4_seal_0 : decode cX4_seal 0 = .ok (.iload_n 1, 1) := by decide +kernel
theorem dX4_seal_1 : decode cX4_seal 1 = .ok (.invokestatic 135, 3) := by decide +kernel
theorem dX4_seal_4 : decode cX4_seal 4 = .ok (.ifCond .ne 6, 3) := by decide +kernel
theorem dX4_seal_7 : decode cX4_seal 7 = .ok (.bipush (-3), 2) := by decide +kernel
theorem dX4_seal_9 : decode cX4_seal 9 = .ok (.ireturn, 1) := by decide +kernel
theorem dX4_seal_10 : decode cX4_seal 10 = .ok (.aload_n 0, 1) := by decide +kernel
theorem dX4_seal_11 : decode cX4_seal 11 = .ok (.getfield 48, 3) := by decide +kernel
theorem dX4_seal_14 : decode cX4_seal 14 = .ok (.getfield 138, 3) := by decide +kernel
theorem dX4_seal_17 : decode cX4_seal 17 = .ok (.istore_n 2, 1) := by decide +kernel
theorem dX4_seal_18 : decode cX4_seal 18 = .ok (.aload_n 0, 1) := by decide +kernel
theorem dX4_seal_19 : decode cX4_seal 19 = .ok (.getfield 48, 3) := by decide +kernel
theorem dX4_seal_22 : decode cX4_seal 22 = .ok (.iload_n 1, 1) := by decide +kernel
theorem dX4_seal_23 : decode cX4_seal 23 = .ok (.invokevirtual 141, 3) := by decide +kernel
theorem dX4_seal_26 : decode cX4_seal 26 = .ok (.aload_n 0, 1) := by decide +kernel
theorem dX4_seal_27 : decode cX4_seal 27 = .ok (.getfield 57, 3) := by decide +kernel
theorem dX4_seal_30 : decode cX4_seal 30 = .ok (.invokevirtual 88, 3) := by decide +kernel
theorem dX4_seal_33 : decode cX4_seal 33 = .ok (.iload_n 2, 1) := by decide +kernel
theorem dX4_seal_34 : decode cX4_seal 34 = .ok (.ireturn, 1) := by decide +kernel
theorem dX4_sealOf_0 : decode cX4_sealOf 0 = .ok (.iload_n 1, 1) := by decide +kernel
theorem dX4_sealOf_1 : decode cX4_sealOf 1 = .ok (.invokestatic 135, 3) := by decide +kernel
theorem dX4_sealOf_4 : decode cX4_sealOf 4 = .ok (.ifCond .eq 13, 3) := by decide +kernel
theorem dX4_sealOf_7 : decode cX4_sealOf 7 = .ok (.iload_n 2, 1) := by decide +kernel
theorem dX4_sealOf_8 : decode cX4_sealOf 8 = .ok (.ifCond .lt 9, 3) := by decide +kernel
theorem dX4_sealOf_11 : decode cX4_sealOf 11 = .ok (.iload_n 2, 1) := by decide +kernel
theorem dX4_sealOf_12 : decode cX4_sealOf 12 = .ok (.bipush 8, 2) := by decide +kernel
theorem dX4_sealOf_14 : decode cX4_sealOf 14 = .ok (.if_icmp .lt 6, 3) := by decide +kernel
theorem dX4_sealOf_17 : decode cX4_sealOf 17 = .ok (.bipush (-3), 2) := by decide +kernel
theorem dX4_sealOf_19 : decode cX4_sealOf 19 = .ok (.ireturn, 1) := by decide +kernel
theorem dX4_sealOf_20 : decode cX4_sealOf 20 = .ok (.iload_n 1, 1) := by decide +kernel
theorem dX4_sealOf_21 : decode cX4_sealOf 21 = .ok (.ldc 179, 2) := by decide +kernel
theorem dX4_sealOf_23 : decode cX4_sealOf 23 = .ok (.ixor, 1) := by decide +kernel
theorem dX4_sealOf_24 : decode cX4_sealOf 24 = .ok (.istore_n 3, 1) := by decide +kernel
theorem dX4_sealOf_25 : decode cX4_sealOf 25 = .ok (.iconst 0, 1) := by decide +kernel
theorem dX4_sealOf_26 : decode cX4_sealOf 26 = .ok (.istore 4, 2) := by decide +kernel
theorem dX4_sealOf_28 : decode cX4_sealOf 28 = .ok (.iload 4, 2) := by decide +kernel
theorem dX4_sealOf_30 : decode cX4_sealOf 30 = .ok (.iconst 5, 1) := by decide +kernel
theorem dX4_sealOf_31 : decode cX4_sealOf 31 = .ok (.if_icmp .ge 14, 3) := by decide +kernel
theorem dX4_sealOf_34 : decode cX4_sealOf 34 = .ok (.iload_n 3, 1) := by decide +kernel
theorem dX4_sealOf_35 : decode cX4_sealOf 35 = .ok (.invokestatic 180, 3) := by decide +kernel
theorem dX4_sealOf_38 : decode cX4_sealOf 38 = .ok (.istore_n 3, 1) := by decide +kernel
theorem dX4_sealOf_39 : decode cX4_sealOf 39 = .ok (.iinc 4 1, 3) := by decide +kernel
theorem dX4_sealOf_42 : decode cX4_sealOf 42 = .ok (.goto (-14), 3) := by decide +kernel
theorem dX4_sealOf_45 : decode cX4_sealOf 45 = .ok (.bipush 7, 2) := by decide +kernel
theorem dX4_sealOf_47 : decode cX4_sealOf 47 = .ok (.iload_n 2, 1) := by decide +kernel
theorem dX4_sealOf_48 : decode cX4_sealOf 48 = .ok (.isub, 1) := by decide +kernel
theorem dX4_sealOf_49 : decode cX4_sealOf 49 = .ok (.istore 4, 2) := by decide +kernel
theorem dX4_sealOf_51 : decode cX4_sealOf 51 = .ok (.bipush 97, 2) := by decide +kernel
theorem dX4_sealOf_53 : decode cX4_sealOf 53 = .ok (.iload_n 3, 1) := by decide +kernel
theorem dX4_sealOf_54 : decode cX4_sealOf 54 = .ok (.iconst 4, 1) := by decide +kernel
theorem dX4_sealOf_55 : decode cX4_sealOf 55 = .ok (.iload 4, 2) := by decide +kernel
theorem dX4_sealOf_57 : decode cX4_sealOf 57 = .ok (.imul, 1) := by decide +kernel
theorem dX4_sealOf_58 : decode cX4_sealOf 58 = .ok (.iushr, 1) := by decide +kernel
theorem dX4_sealOf_59 : decode cX4_sealOf 59 = .ok (.bipush 15, 2) := by decide +kernel
theorem dX4_sealOf_61 : decode cX4_sealOf 61 = .ok (.iand, 1) := by decide +kernel
theorem dX4_sealOf_62 : decode cX4_sealOf 62 = .ok (.iadd, 1) := by decide +kernel
theorem dX4_sealOf_63 : decode cX4_sealOf 63 = .ok (.ireturn, 1) := by decide +kernel
theorem dX4_slip_0 : decode cX4_slip 0 = .ok (.iload_n 1, 1) := by decide +kernel
theorem dX4_slip_1 : decode cX4_slip 1 = .ok (.invokestatic 208, 3) := by decide +kernel
theorem dX4_slip_4 : decode cX4_slip 4 = .ok (.ifCond .ne 6, 3) := by decide +kernel
theorem dX4_slip_7 : decode cX4_slip 7 = .ok (.bipush (-2), 2) := by decide +kernel
theorem dX4_slip_9 : decode cX4_slip 9 = .ok (.ireturn, 1) := by decide +kernel
theorem dX4_slip_10 : decode cX4_slip 10 = .ok (.aload_n 0, 1) := by decide +kernel
theorem dX4_slip_11 : decode cX4_slip 11 = .ok (.getfield 21, 3) := by decide +kernel
theorem dX4_slip_14 : decode cX4_slip 14 = .ok (.iload_n 1, 1) := by decide +kernel
theorem dX4_slip_15 : decode cX4_slip 15 = .ok (.aaload, 1) := by decide +kernel
theorem dX4_slip_16 : decode cX4_slip 16 = .ok (.iconst 0, 1) := by decide +kernel
theorem dX4_slip_17 : decode cX4_slip 17 = .ok (.putfield 72, 3) := by decide +kernel
theorem dX4_slip_20 : decode cX4_slip 20 = .ok (.aload_n 0, 1) := by decide +kernel
theorem dX4_slip_21 : decode cX4_slip 21 = .ok (.getfield 25, 3) := by decide +kernel
theorem dX4_slip_24 : decode cX4_slip 24 = .ok (.iload_n 1, 1) := by decide +kernel
theorem dX4_slip_25 : decode cX4_slip 25 = .ok (.iconst 1, 1) := by decide +kernel
theorem dX4_slip_26 : decode cX4_slip 26 = .ok (.bastore, 1) := by decide +kernel
theorem dX4_slip_27 : decode cX4_slip 27 = .ok (.iconst 0, 1) := by decide +kernel
theorem dX4_slip_28 : decode cX4_slip 28 = .ok (.ireturn, 1) := by decide +kernel
theorem dX4_told_0 : decode cX4_told 0 = .ok (.iload_n 1, 1) := by decide +kernel
theorem dX4_told_1 : decode cX4_told 1 = .ok (.tableswitch 129 0 9 #[55, 63, 71, 79, 87, 92, 100, 108, 116, 121], 55) := by decide +kernel
theorem dX4_told_56 : decode cX4_told 56 = .ok (.aload_n 0, 1) := by decide +kernel
theorem dX4_told_57 : decode cX4_told 57 = .ok (.getfield 48, 3) := by decide +kernel
theorem dX4_told_60 : decode cX4_told 60 = .ok (.getfield 231, 3) := by decide +kernel
theorem dX4_told_63 : decode cX4_told 63 = .ok (.ireturn, 1) := by decide +kernel
theorem dX4_told_64 : decode cX4_told 64 = .ok (.aload_n 0, 1) := by decide +kernel
theorem dX4_told_65 : decode cX4_told 65 = .ok (.getfield 48, 3) := by decide +kernel
theorem dX4_told_68 : decode cX4_told 68 = .ok (.getfield 138, 3) := by decide +kernel
theorem dX4_told_71 : decode cX4_told 71 = .ok (.ireturn, 1) := by decide +kernel
theorem dX4_told_72 : decode cX4_told 72 = .ok (.aload_n 0, 1) := by decide +kernel
theorem dX4_told_73 : decode cX4_told 73 = .ok (.getfield 48, 3) := by decide +kernel
theorem dX4_told_76 : decode cX4_told 76 = .ok (.getfield 205, 3) := by decide +kernel
theorem dX4_told_79 : decode cX4_told 79 = .ok (.ireturn, 1) := by decide +kernel
theorem dX4_told_80 : decode cX4_told 80 = .ok (.aload_n 0, 1) := by decide +kernel
theorem dX4_told_81 : decode cX4_told 81 = .ok (.getfield 48, 3) := by decide +kernel
theorem dX4_told_84 : decode cX4_told 84 = .ok (.getfield 234, 3) := by decide +kernel
theorem dX4_told_87 : decode cX4_told 87 = .ok (.ireturn, 1) := by decide +kernel
theorem dX4_told_88 : decode cX4_told 88 = .ok (.aload_n 0, 1) := by decide +kernel
theorem dX4_told_89 : decode cX4_told 89 = .ok (.invokevirtual 237, 3) := by decide +kernel
theorem dX4_told_92 : decode cX4_told 92 = .ok (.ireturn, 1) := by decide +kernel
theorem dX4_told_93 : decode cX4_told 93 = .ok (.aload_n 0, 1) := by decide +kernel
theorem dX4_told_94 : decode cX4_told 94 = .ok (.getfield 48, 3) := by decide +kernel
theorem dX4_told_97 : decode cX4_told 97 = .ok (.getfield 164, 3) := by decide +kernel
theorem dX4_told_100 : decode cX4_told 100 = .ok (.ireturn, 1) := by decide +kernel
theorem dX4_told_101 : decode cX4_told 101 = .ok (.aload_n 0, 1) := by decide +kernel
theorem dX4_told_102 : decode cX4_told 102 = .ok (.getfield 57, 3) := by decide +kernel
theorem dX4_told_105 : decode cX4_told 105 = .ok (.getfield 167, 3) := by decide +kernel
theorem dX4_told_108 : decode cX4_told 108 = .ok (.ireturn, 1) := by decide +kernel
theorem dX4_told_109 : decode cX4_told 109 = .ok (.aload_n 0, 1) := by decide +kernel
theorem dX4_told_110 : decode cX4_told 110 = .ok (.getfield 14, 3) := by decide +kernel
theorem dX4_told_113 : decode cX4_told 113 = .ok (.getfield 72, 3) := by decide +kernel
theorem dX4_told_116 : decode cX4_told 116 = .ok (.ireturn, 1) := by decide +kernel
theorem dX4_told_117 : decode cX4_told 117 = .ok (.aload_n 0, 1) := by decide +kernel
theorem dX4_told_118 : decode cX4_told 118 = .ok (.invokevirtual 240, 3) := by decide +kernel
theorem dX4_told_121 : decode cX4_told 121 = .ok (.ireturn, 1) := by decide +kernel
theorem dX4_told_122 : decode cX4_told 122 = .ok (.aload_n 0, 1) := by decide +kernel
theorem dX4_told_123 : decode cX4_told 123 = .ok (.getfield 48, 3) := by decide +kernel
theorem dX4_told_126 : decode cX4_told 126 = .ok (.getfield 243, 3) := by decide +kernel
theorem dX4_told_129 : decode cX4_told 129 = .ok (.ireturn, 1) := by decide +kernel
theorem dX4_told_130 : decode cX4_told 130 = .ok (.bipush (-3), 2) := by decide +kernel
theorem dX4_told_132 : decode cX4_told 132 = .ok (.ireturn, 1) := by decide +kernel
theorem dX4_turned_0 : decode cX4_turned 0 = .ok (.iload_n 0, 1) := by decide +kernel
theorem dX4_turned_1 : decode cX4_turned 1 = .ok (.istore_n 1, 1) := by decide +kernel
theorem dX4_turned_2 : decode cX4_turned 2 = .ok (.iload_n 1, 1) := by decide +kernel
theorem dX4_turned_3 : decode cX4_turned 3 = .ok (.iload_n 1, 1) := by decide +kernel
theorem dX4_turned_4 : decode cX4_turned 4 = .ok (.bipush 13, 2) := by decide +kernel
theorem dX4_turned_6 : decode cX4_turned 6 = .ok (.ishl, 1) := by decide +kernel
theorem dX4_turned_7 : decode cX4_turned 7 = .ok (.ixor, 1) := by decide +kernel
theorem dX4_turned_8 : decode cX4_turned 8 = .ok (.istore_n 1, 1) := by decide +kernel
theorem dX4_turned_9 : decode cX4_turned 9 = .ok (.iload_n 1, 1) := by decide +kernel
theorem dX4_turned_10 : decode cX4_turned 10 = .ok (.iload_n 1, 1) := by decide +kernel
theorem dX4_turned_11 : decode cX4_turned 11 = .ok (.bipush 17, 2) := by decide +kernel
theorem dX4_turned_13 : decode cX4_turned 13 = .ok (.iushr, 1) := by decide +kernel
theorem dX4_turned_14 : decode cX4_turned 14 = .ok (.ixor, 1) := by decide +kernel
theorem dX4_turned_15 : decode cX4_turned 15 = .ok (.istore_n 1, 1) := by decide +kernel
theorem dX4_turned_16 : decode cX4_turned 16 = .ok (.iload_n 1, 1) := by decide +kernel
theorem dX4_turned_17 : decode cX4_turned 17 = .ok (.iload_n 1, 1) := by decide +kernel
theorem dX4_turned_18 : decode cX4_turned 18 = .ok (.iconst 5, 1) := by decide +kernel
theorem dX4_turned_19 : decode cX4_turned 19 = .ok (.ishl, 1) := by decide +kernel
theorem dX4_turned_20 : decode cX4_turned 20 = .ok (.ixor, 1) := by decide +kernel
theorem dX4_turned_21 : decode cX4_turned 21 = .ok (.istore_n 1, 1) := by decide +kernel
theorem dX4_turned_22 : decode cX4_turned 22 = .ok (.iload_n 1, 1) := by decide +kernel
theorem dX4_turned_23 : decode cX4_turned 23 = .ok (.ireturn, 1) := by decide +kernel
theorem dX4_undo_0 : decode cX4_undo 0 = .ok (.aload_n 0, 1) := by decide +kernel
theorem dX4_undo_1 : decode cX4_undo 1 = .ok (.getfield 57, 3) := by decide +kernel
theorem dX4_undo_4 : decode cX4_undo 4 = .ok (.getfield 167, 3) := by decide +kernel
theorem dX4_undo_7 : decode cX4_undo 7 = .ok (.iconst 1, 1) := by decide +kernel
theorem dX4_undo_8 : decode cX4_undo 8 = .ok (.if_icmp .ge 6, 3) := by decide +kernel
theorem dX4_undo_11 : decode cX4_undo 11 = .ok (.bipush (-4), 2) := by decide +kernel
theorem dX4_undo_13 : decode cX4_undo 13 = .ok (.ireturn, 1) := by decide +kernel
theorem dX4_undo_14 : decode cX4_undo 14 = .ok (.aload_n 0, 1) := by decide +kernel
theorem dX4_undo_15 : decode cX4_undo 15 = .ok (.getfield 57, 3) := by decide +kernel
theorem dX4_undo_18 : decode cX4_undo 18 = .ok (.aload_n 0, 1) := by decide +kernel
theorem dX4_undo_19 : decode cX4_undo 19 = .ok (.getfield 48, 3) := by decide +kernel
theorem dX4_undo_22 : decode cX4_undo 22 = .ok (.invokevirtual 170, 3) := by decide +kernel
theorem dX4_undo_25 : decode cX4_undo 25 = .ok (.aload_n 0, 1) := by decide +kernel
theorem dX4_undo_26 : decode cX4_undo 26 = .ok (.getfield 57, 3) := by decide +kernel
theorem dX4_undo_29 : decode cX4_undo 29 = .ok (.getfield 167, 3) := by decide +kernel
theorem dX4_undo_32 : decode cX4_undo 32 = .ok (.ireturn, 1) := by decide +kernel
theorem dX4_value_0 : decode cX4_value 0 = .ok (.iload_n 1, 1) := by decide +kernel
theorem dX4_value_1 : decode cX4_value 1 = .ok (.invokestatic 208, 3) := by decide +kernel
theorem dX4_value_4 : decode cX4_value 4 = .ok (.ifCond .ne 6, 3) := by decide +kernel
theorem dX4_value_7 : decode cX4_value 7 = .ok (.bipush (-2), 2) := by decide +kernel
theorem dX4_value_9 : decode cX4_value 9 = .ok (.ireturn, 1) := by decide +kernel
theorem dX4_value_10 : decode cX4_value 10 = .ok (.aload_n 0, 1) := by decide +kernel
theorem dX4_value_11 : decode cX4_value 11 = .ok (.getfield 25, 3) := by decide +kernel
theorem dX4_value_14 : decode cX4_value 14 = .ok (.iload_n 1, 1) := by decide +kernel
theorem dX4_value_15 : decode cX4_value 15 = .ok (.baload, 1) := by decide +kernel
theorem dX4_value_16 : decode cX4_value 16 = .ok (.ifCond .ne 6, 3) := by decide +kernel
theorem dX4_value_19 : decode cX4_value 19 = .ok (.bipush (-11), 2) := by decide +kernel
theorem dX4_value_21 : decode cX4_value 21 = .ok (.ireturn, 1) := by decide +kernel
theorem dX4_value_22 : decode cX4_value 22 = .ok (.aload_n 0, 1) := by decide +kernel
theorem dX4_value_23 : decode cX4_value 23 = .ok (.getfield 21, 3) := by decide +kernel
theorem dX4_value_26 : decode cX4_value 26 = .ok (.iload_n 1, 1) := by decide +kernel
theorem dX4_value_27 : decode cX4_value 27 = .ok (.aaload, 1) := by decide +kernel
theorem dX4_value_28 : decode cX4_value 28 = .ok (.iconst 0, 1) := by decide +kernel
theorem dX4_value_29 : decode cX4_value 29 = .ok (.aload_n 0, 1) := by decide +kernel
theorem dX4_value_30 : decode cX4_value 30 = .ok (.getfield 21, 3) := by decide +kernel
theorem dX4_value_33 : decode cX4_value 33 = .ok (.iload_n 1, 1) := by decide +kernel
theorem dX4_value_34 : decode cX4_value 34 = .ok (.aaload, 1) := by decide +kernel
theorem dX4_value_35 : decode cX4_value 35 = .ok (.getfield 72, 3) := by decide +kernel
theorem dX4_value_38 : decode cX4_value 38 = .ok (.iconst 4, 1) := by decide +kernel
theorem dX4_value_39 : decode cX4_value 39 = .ok (.invokevirtual 224, 3) := by decide +kernel
theorem dX4_value_42 : decode cX4_value 42 = .ok (.istore_n 2, 1) := by decide +kernel
theorem dX4_value_43 : decode cX4_value 43 = .ok (.iload_n 2, 1) := by decide +kernel
theorem dX4_value_44 : decode cX4_value 44 = .ok (.iconst (-1), 1) := by decide +kernel
theorem dX4_value_45 : decode cX4_value 45 = .ok (.if_icmp .ne 8, 3) := by decide +kernel
theorem dX4_value_48 : decode cX4_value 48 = .ok (.bipush (-14), 2) := by decide +kernel
theorem dX4_value_50 : decode cX4_value 50 = .ok (.goto 4, 3) := by decide +kernel
theorem dX4_value_53 : decode cX4_value 53 = .ok (.iload_n 2, 1) := by decide +kernel
theorem dX4_value_54 : decode cX4_value 54 = .ok (.ireturn, 1) := by decide +kernel
theorem dX4_weight_0 : decode cX4_weight 0 = .ok (.aload_n 0, 1) := by decide +kernel
theorem dX4_weight_1 : decode cX4_weight 1 = .ok (.getfield 48, 3) := by decide +kernel
theorem dX4_weight_4 : decode cX4_weight 4 = .ok (.iload_n 1, 1) := by decide +kernel
theorem dX4_weight_5 : decode cX4_weight 5 = .ok (.invokevirtual 100, 3) := by decide +kernel
theorem dX4_weight_8 : decode cX4_weight 8 = .ok (.ifCond .ne 6, 3) := by decide +kernel
theorem dX4_weight_11 : decode cX4_weight 11 = .ok (.bipush (-2), 2) := by decide +kernel
theorem dX4_weight_13 : decode cX4_weight 13 = .ok (.ireturn, 1) := by decide +kernel
theorem dX4_weight_14 : decode cX4_weight 14 = .ok (.iload_n 2, 1) := by decide +kernel
theorem dX4_weight_15 : decode cX4_weight 15 = .ok (.invokestatic 144, 3) := by decide +kernel
theorem dX4_weight_18 : decode cX4_weight 18 = .ok (.ifCond .eq 15, 3) := by decide +kernel
theorem dX4_weight_21 : decode cX4_weight 21 = .ok (.aload_n 0, 1) := by decide +kernel
theorem dX4_weight_22 : decode cX4_weight 22 = .ok (.getfield 48, 3) := by decide +kernel
theorem dX4_weight_25 : decode cX4_weight 25 = .ok (.iload_n 1, 1) := by decide +kernel
theorem dX4_weight_26 : decode cX4_weight 26 = .ok (.iload_n 2, 1) := by decide +kernel
theorem dX4_weight_27 : decode cX4_weight 27 = .ok (.invokevirtual 183, 3) := by decide +kernel
theorem dX4_weight_30 : decode cX4_weight 30 = .ok (.goto 5, 3) := by decide +kernel
theorem dX4_weight_33 : decode cX4_weight 33 = .ok (.bipush (-3), 2) := by decide +kernel
theorem dX4_weight_35 : decode cX4_weight 35 = .ok (.ireturn, 1) := by decide +kernel
theorem dX4_wheel_0 : decode cX4_wheel 0 = .ok (.aload_n 0, 1) := by decide +kernel
theorem dX4_wheel_1 : decode cX4_wheel 1 = .ok (.invokevirtual 80, 3) := by decide +kernel
theorem dX4_wheel_4 : decode cX4_wheel 4 = .ok (.iconst (-1), 1) := by decide +kernel
theorem dX4_wheel_5 : decode cX4_wheel 5 = .ok (.if_icmp .eq 6, 3) := by decide +kernel
theorem dX4_wheel_8 : decode cX4_wheel 8 = .ok (.bipush (-4), 2) := by decide +kernel
theorem dX4_wheel_10 : decode cX4_wheel 10 = .ok (.ireturn, 1) := by decide +kernel
theorem dX4_wheel_11 : decode cX4_wheel 11 = .ok (.aload_n 0, 1) := by decide +kernel
theorem dX4_wheel_12 : decode cX4_wheel 12 = .ok (.getfield 41, 3) := by decide +kernel
theorem dX4_wheel_15 : decode cX4_wheel 15 = .ok (.aload_n 0, 1) := by decide +kernel
theorem dX4_wheel_16 : decode cX4_wheel 16 = .ok (.getfield 45, 3) := by decide +kernel
theorem dX4_wheel_19 : decode cX4_wheel 19 = .ok (.invokevirtual 84, 3) := by decide +kernel
theorem dX4_wheel_22 : decode cX4_wheel 22 = .ok (.aload_n 0, 1) := by decide +kernel
theorem dX4_wheel_23 : decode cX4_wheel 23 = .ok (.getfield 48, 3) := by decide +kernel
theorem dX4_wheel_26 : decode cX4_wheel 26 = .ok (.aload_n 0, 1) := by decide +kernel
theorem dX4_wheel_27 : decode cX4_wheel 27 = .ok (.getfield 41, 3) := by decide +kernel
theorem dX4_wheel_30 : decode cX4_wheel 30 = .ok (.invokevirtual 84, 3) := by decide +kernel
theorem dX4_wheel_33 : decode cX4_wheel 33 = .ok (.aload_n 0, 1) := by decide +kernel
theorem dX4_wheel_34 : decode cX4_wheel 34 = .ok (.getfield 57, 3) := by decide +kernel
theorem dX4_wheel_37 : decode cX4_wheel 37 = .ok (.invokevirtual 88, 3) := by decide +kernel
theorem dX4_wheel_40 : decode cX4_wheel 40 = .ok (.aload_n 0, 1) := by decide +kernel
theorem dX4_wheel_41 : decode cX4_wheel 41 = .ok (.invokevirtual 91, 3) := by decide +kernel
theorem dX4_wheel_44 : decode cX4_wheel 44 = .ok (.aload_n 0, 1) := by decide +kernel
theorem dX4_wheel_45 : decode cX4_wheel 45 = .ok (.invokevirtual 94, 3) := by decide +kernel
theorem dX4_wheel_48 : decode cX4_wheel 48 = .ok (.aload_n 0, 1) := by decide +kernel
theorem dX4_wheel_49 : decode cX4_wheel 49 = .ok (.getfield 14, 3) := by decide +kernel
theorem dX4_wheel_52 : decode cX4_wheel 52 = .ok (.iconst 0, 1) := by decide +kernel
theorem dX4_wheel_53 : decode cX4_wheel 53 = .ok (.putfield 72, 3) := by decide +kernel
theorem dX4_wheel_56 : decode cX4_wheel 56 = .ok (.aload_n 0, 1) := by decide +kernel
theorem dX4_wheel_57 : decode cX4_wheel 57 = .ok (.getfield 34, 3) := by decide +kernel
theorem dX4_wheel_60 : decode cX4_wheel 60 = .ok (.getfield 97, 3) := by decide +kernel
theorem dX4_wheel_63 : decode cX4_wheel 63 = .ok (.ireturn, 1) := by decide +kernel
theorem dX4_write_0 : decode cX4_write 0 = .ok (.iload_n 1, 1) := by decide +kernel
theorem dX4_write_1 : decode cX4_write 1 = .ok (.ifCond .lt 10, 3) := by decide +kernel
theorem dX4_write_4 : decode cX4_write 4 = .ok (.iload_n 1, 1) := by decide +kernel
theorem dX4_write_5 : decode cX4_write 5 = .ok (.sipush 255, 3) := by decide +kernel
theorem dX4_write_8 : decode cX4_write 8 = .ok (.if_icmp .le 6, 3) := by decide +kernel
theorem dX4_write_11 : decode cX4_write 11 = .ok (.bipush (-3), 2) := by decide +kernel
theorem dX4_write_13 : decode cX4_write 13 = .ok (.ireturn, 1) := by decide +kernel
theorem dX4_write_14 : decode cX4_write 14 = .ok (.aload_n 0, 1) := by decide +kernel
theorem dX4_write_15 : decode cX4_write 15 = .ok (.getfield 14, 3) := by decide +kernel
theorem dX4_write_18 : decode cX4_write 18 = .ok (.iconst 1, 1) := by decide +kernel
theorem dX4_write_19 : decode cX4_write 19 = .ok (.invokevirtual 68, 3) := by decide +kernel
theorem dX4_write_22 : decode cX4_write 22 = .ok (.ifCond .ne 6, 3) := by decide +kernel
theorem dX4_write_25 : decode cX4_write 25 = .ok (.bipush (-5), 2) := by decide +kernel
theorem dX4_write_27 : decode cX4_write 27 = .ok (.ireturn, 1) := by decide +kernel
theorem dX4_write_28 : decode cX4_write 28 = .ok (.aload_n 0, 1) := by decide +kernel
theorem dX4_write_29 : decode cX4_write 29 = .ok (.getfield 14, 3) := by decide +kernel
theorem dX4_write_32 : decode cX4_write 32 = .ok (.aload_n 0, 1) := by decide +kernel
theorem dX4_write_33 : decode cX4_write 33 = .ok (.getfield 14, 3) := by decide +kernel
theorem dX4_write_36 : decode cX4_write 36 = .ok (.getfield 72, 3) := by decide +kernel
theorem dX4_write_39 : decode cX4_write 39 = .ok (.iload_n 1, 1) := by decide +kernel
theorem dX4_write_40 : decode cX4_write 40 = .ok (.invokevirtual 76, 3) := by decide +kernel
theorem dX4_write_43 : decode cX4_write 43 = .ok (.aload_n 0, 1) := by decide +kernel
theorem dX4_write_44 : decode cX4_write 44 = .ok (.getfield 14, 3) := by decide +kernel
theorem dX4_write_47 : decode cX4_write 47 = .ok (.getfield 72, 3) := by decide +kernel
theorem dX4_write_50 : decode cX4_write 50 = .ok (.ireturn, 1) := by decide +kernel
theorem dX4_writeDocket_0 : decode cX4_writeDocket 0 = .ok (.aload_n 0, 1) := by decide +kernel
theorem dX4_writeDocket_1 : decode cX4_writeDocket 1 = .ok (.getfield 18, 3) := by decide +kernel
theorem dX4_writeDocket_4 : decode cX4_writeDocket 4 = .ok (.iconst 0, 1) := by decide +kernel
theorem dX4_writeDocket_5 : decode cX4_writeDocket 5 = .ok (.putfield 72, 3) := by decide +kernel
theorem dX4_writeDocket_8 : decode cX4_writeDocket 8 = .ok (.iconst 0, 1) := by decide +kernel
theorem dX4_writeDocket_9 : decode cX4_writeDocket 9 = .ok (.istore_n 1, 1) := by decide +kernel
theorem dX4_writeDocket_10 : decode cX4_writeDocket 10 = .ok (.iload_n 1, 1) := by decide +kernel
theorem dX4_writeDocket_11 : decode cX4_writeDocket 11 = .ok (.aload_n 0, 1) := by decide +kernel
theorem dX4_writeDocket_12 : decode cX4_writeDocket 12 = .ok (.getfield 48, 3) := by decide +kernel
theorem dX4_writeDocket_15 : decode cX4_writeDocket 15 = .ok (.getfield 138, 3) := by decide +kernel
theorem dX4_writeDocket_18 : decode cX4_writeDocket 18 = .ok (.if_icmp .ge 118, 3) := by decide +kernel
theorem dX4_writeDocket_21 : decode cX4_writeDocket 21 = .ok (.iload_n 1, 1) := by decide +kernel
theorem dX4_writeDocket_22 : decode cX4_writeDocket 22 = .ok (.bipush 10, 2) := by decide +kernel
theorem dX4_writeDocket_24 : decode cX4_writeDocket 24 = .ok (.if_icmp .lt 17, 3) := by decide +kernel
theorem dX4_writeDocket_27 : decode cX4_writeDocket 27 = .ok (.aload_n 0, 1) := by decide +kernel
theorem dX4_writeDocket_28 : decode cX4_writeDocket 28 = .ok (.getfield 18, 3) := by decide +kernel
theorem dX4_writeDocket_31 : decode cX4_writeDocket 31 = .ok (.bipush 48, 2) := by decide +kernel
theorem dX4_writeDocket_33 : decode cX4_writeDocket 33 = .ok (.iload_n 1, 1) := by decide +kernel
theorem dX4_writeDocket_34 : decode cX4_writeDocket 34 = .ok (.bipush 10, 2) := by decide +kernel
theorem dX4_writeDocket_36 : decode cX4_writeDocket 36 = .ok (.idiv, 1) := by decide +kernel
theorem dX4_writeDocket_37 : decode cX4_writeDocket 37 = .ok (.iadd, 1) := by decide +kernel
theorem dX4_writeDocket_38 : decode cX4_writeDocket 38 = .ok (.invokevirtual 269, 3) := by decide +kernel
theorem dX4_writeDocket_41 : decode cX4_writeDocket 41 = .ok (.aload_n 0, 1) := by decide +kernel
theorem dX4_writeDocket_42 : decode cX4_writeDocket 42 = .ok (.getfield 18, 3) := by decide +kernel
theorem dX4_writeDocket_45 : decode cX4_writeDocket 45 = .ok (.bipush 48, 2) := by decide +kernel
theorem dX4_writeDocket_47 : decode cX4_writeDocket 47 = .ok (.iload_n 1, 1) := by decide +kernel
theorem dX4_writeDocket_48 : decode cX4_writeDocket 48 = .ok (.bipush 10, 2) := by decide +kernel
theorem dX4_writeDocket_50 : decode cX4_writeDocket 50 = .ok (.irem, 1) := by decide +kernel
theorem dX4_writeDocket_51 : decode cX4_writeDocket 51 = .ok (.iadd, 1) := by decide +kernel
theorem dX4_writeDocket_52 : decode cX4_writeDocket 52 = .ok (.invokevirtual 269, 3) := by decide +kernel
theorem dX4_writeDocket_55 : decode cX4_writeDocket 55 = .ok (.aload_n 0, 1) := by decide +kernel
theorem dX4_writeDocket_56 : decode cX4_writeDocket 56 = .ok (.getfield 18, 3) := by decide +kernel
theorem dX4_writeDocket_59 : decode cX4_writeDocket 59 = .ok (.bipush 97, 2) := by decide +kernel
theorem dX4_writeDocket_61 : decode cX4_writeDocket 61 = .ok (.aload_n 0, 1) := by decide +kernel
theorem dX4_writeDocket_62 : decode cX4_writeDocket 62 = .ok (.getfield 48, 3) := by decide +kernel
theorem dX4_writeDocket_65 : decode cX4_writeDocket 65 = .ok (.getfield 126, 3) := by decide +kernel
theorem dX4_writeDocket_68 : decode cX4_writeDocket 68 = .ok (.iload_n 1, 1) := by decide +kernel
theorem dX4_writeDocket_69 : decode cX4_writeDocket 69 = .ok (.iaload, 1) := by decide +kernel
theorem dX4_writeDocket_70 : decode cX4_writeDocket 70 = .ok (.iadd, 1) := by decide +kernel
theorem dX4_writeDocket_71 : decode cX4_writeDocket 71 = .ok (.invokevirtual 269, 3) := by decide +kernel
theorem dX4_writeDocket_74 : decode cX4_writeDocket 74 = .ok (.aload_n 0, 1) := by decide +kernel
theorem dX4_writeDocket_75 : decode cX4_writeDocket 75 = .ok (.getfield 18, 3) := by decide +kernel
theorem dX4_writeDocket_78 : decode cX4_writeDocket 78 = .ok (.bipush 48, 2) := by decide +kernel
theorem dX4_writeDocket_80 : decode cX4_writeDocket 80 = .ok (.aload_n 0, 1) := by decide +kernel
theorem dX4_writeDocket_81 : decode cX4_writeDocket 81 = .ok (.getfield 48, 3) := by decide +kernel
theorem dX4_writeDocket_84 : decode cX4_writeDocket 84 = .ok (.getfield 129, 3) := by decide +kernel
theorem dX4_writeDocket_87 : decode cX4_writeDocket 87 = .ok (.iload_n 1, 1) := by decide +kernel
theorem dX4_writeDocket_88 : decode cX4_writeDocket 88 = .ok (.iaload, 1) := by decide +kernel
theorem dX4_writeDocket_89 : decode cX4_writeDocket 89 = .ok (.iadd, 1) := by decide +kernel
theorem dX4_writeDocket_90 : decode cX4_writeDocket 90 = .ok (.invokevirtual 269, 3) := by decide +kernel
theorem dX4_writeDocket_93 : decode cX4_writeDocket 93 = .ok (.aload_n 0, 1) := by decide +kernel
theorem dX4_writeDocket_94 : decode cX4_writeDocket 94 = .ok (.getfield 18, 3) := by decide +kernel
theorem dX4_writeDocket_97 : decode cX4_writeDocket 97 = .ok (.bipush 106, 2) := by decide +kernel
theorem dX4_writeDocket_99 : decode cX4_writeDocket 99 = .ok (.invokevirtual 269, 3) := by decide +kernel
theorem dX4_writeDocket_102 : decode cX4_writeDocket 102 = .ok (.aload_n 0, 1) := by decide +kernel
theorem dX4_writeDocket_103 : decode cX4_writeDocket 103 = .ok (.getfield 18, 3) := by decide +kernel
theorem dX4_writeDocket_106 : decode cX4_writeDocket 106 = .ok (.bipush 48, 2) := by decide +kernel
theorem dX4_writeDocket_108 : decode cX4_writeDocket 108 = .ok (.aload_n 0, 1) := by decide +kernel
theorem dX4_writeDocket_109 : decode cX4_writeDocket 109 = .ok (.getfield 48, 3) := by decide +kernel
theorem dX4_writeDocket_112 : decode cX4_writeDocket 112 = .ok (.getfield 132, 3) := by decide +kernel
theorem dX4_writeDocket_115 : decode cX4_writeDocket 115 = .ok (.iload_n 1, 1) := by decide +kernel
theorem dX4_writeDocket_116 : decode cX4_writeDocket 116 = .ok (.iaload, 1) := by decide +kernel
theorem dX4_writeDocket_117 : decode cX4_writeDocket 117 = .ok (.iadd, 1) := by decide +kernel
theorem dX4_writeDocket_118 : decode cX4_writeDocket 118 = .ok (.invokevirtual 269, 3) := by decide +kernel
theorem dX4_writeDocket_121 : decode cX4_writeDocket 121 = .ok (.aload_n 0, 1) := by decide +kernel
theorem dX4_writeDocket_122 : decode cX4_writeDocket 122 = .ok (.getfield 18, 3) := by decide +kernel
theorem dX4_writeDocket_125 : decode cX4_writeDocket 125 = .ok (.bipush 46, 2) := by decide +kernel
theorem dX4_writeDocket_127 : decode cX4_writeDocket 127 = .ok (.invokevirtual 269, 3) := by decide +kernel
theorem dX4_writeDocket_130 : decode cX4_writeDocket 130 = .ok (.iinc 1 1, 3) := by decide +kernel
theorem dX4_writeDocket_133 : decode cX4_writeDocket 133 = .ok (.goto (-123), 3) := by decide +kernel
theorem dX4_writeDocket_136 : decode cX4_writeDocket 136 = .ok (.return_, 1) := by decide +kernel
theorem dX4_writing_0 : decode cX4_writing 0 = .ok (.iload_n 1, 1) := by decide +kernel
theorem dX4_writing_1 : decode cX4_writing 1 = .ok (.ifCond .ge 6, 3) := by decide +kernel
theorem dX4_writing_4 : decode cX4_writing 4 = .ok (.bipush (-3), 2) := by decide +kernel
theorem dX4_writing_6 : decode cX4_writing 6 = .ok (.ireturn, 1) := by decide +kernel
theorem dX4_writing_7 : decode cX4_writing 7 = .ok (.aload_n 0, 1) := by decide +kernel
theorem dX4_writing_8 : decode cX4_writing 8 = .ok (.invokevirtual 173, 3) := by decide +kernel
theorem dX4_writing_11 : decode cX4_writing 11 = .ok (.iload_n 1, 1) := by decide +kernel
theorem dX4_writing_12 : decode cX4_writing 12 = .ok (.aload_n 0, 1) := by decide +kernel
theorem dX4_writing_13 : decode cX4_writing 13 = .ok (.getfield 18, 3) := by decide +kernel
theorem dX4_writing_16 : decode cX4_writing 16 = .ok (.getfield 72, 3) := by decide +kernel
theorem dX4_writing_19 : decode cX4_writing 19 = .ok (.if_icmp .ge 15, 3) := by decide +kernel
theorem dX4_writing_22 : decode cX4_writing 22 = .ok (.aload_n 0, 1) := by decide +kernel
theorem dX4_writing_23 : decode cX4_writing 23 = .ok (.getfield 18, 3) := by decide +kernel
theorem dX4_writing_26 : decode cX4_writing 26 = .ok (.getfield 176, 3) := by decide +kernel
theorem dX4_writing_29 : decode cX4_writing 29 = .ok (.iload_n 1, 1) := by decide +kernel
theorem dX4_writing_30 : decode cX4_writing 30 = .ok (.iaload, 1) := by decide +kernel
theorem dX4_writing_31 : decode cX4_writing 31 = .ok (.goto 4, 3) := by decide +kernel
theorem dX4_writing_34 : decode cX4_writing 34 = .ok (.iconst (-1), 1) := by decide +kernel
theorem dX4_writing_35 : decode cX4_writing 35 = .ok (.ireturn, 1) := by decide +kernel
