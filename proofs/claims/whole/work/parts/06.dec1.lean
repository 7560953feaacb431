theorem dX0_forget_0 : decode cX0_forget 0 = .ok (.aload_n 0, 1) := by decide +kernel
theorem dX0_forget_1 : decode cX0_forget 1 = .ok (.iconst 0, 1) := by decide +kernel
theorem dX0_forget_2 : decode cX0_forget 2 = .ok (.putfield 18, 3) := by decide +kernel
theorem dX0_forget_5 : decode cX0_forget 5 = .ok (.return_, 1) := by decide +kernel
theorem dX0_init_0 : decode cX0_init 0 = .ok (.aload_n 0, 1) := by decide +kernel
theorem dX0_init_1 : decode cX0_init 1 = .ok (.invokespecial 3, 3) := by decide +kernel
theorem dX0_init_4 : decode cX0_init 4 = .ok (.aload_n 0, 1) := by decide +kernel
theorem dX0_init_5 : decode cX0_init 5 = .ok (.bipush 8, 2) := by decide +kernel
theorem dX0_init_7 : decode cX0_init 7 = .ok (.anewarray 9, 3) := by decide +kernel
theorem dX0_init_10 : decode cX0_init 10 = .ok (.putfield 11, 3) := by decide +kernel
theorem dX0_init_13 : decode cX0_init 13 = .ok (.iconst 0, 1) := by decide +kernel
theorem dX0_init_14 : decode cX0_init 14 = .ok (.istore_n 1, 1) := by decide +kernel
theorem dX0_init_15 : decode cX0_init 15 = .ok (.iload_n 1, 1) := by decide +kernel
theorem dX0_init_16 : decode cX0_init 16 = .ok (.bipush 8, 2) := by decide +kernel
theorem dX0_init_18 : decode cX0_init 18 = .ok (.if_icmp .ge 22, 3) := by decide +kernel
theorem dX0_init_21 : decode cX0_init 21 = .ok (.aload_n 0, 1) := by decide +kernel
theorem dX0_init_22 : decode cX0_init 22 = .ok (.getfield 11, 3) := by decide +kernel
theorem dX0_init_25 : decode cX0_init 25 = .ok (.iload_n 1, 1) := by decide +kernel
theorem dX0_init_26 : decode cX0_init 26 = .ok (.new 9, 3) := by decide +kernel
theorem dX0_init_29 : decode cX0_init 29 = .ok (.dup, 1) := by decide +kernel
theorem dX0_init_30 : decode cX0_init 30 = .ok (.invokespecial 17, 3) := by decide +kernel
theorem dX0_init_33 : decode cX0_init 33 = .ok (.aastore, 1) := by decide +kernel
theorem dX0_init_34 : decode cX0_init 34 = .ok (.iinc 1 1, 3) := by decide +kernel
theorem dX0_init_37 : decode cX0_init 37 = .ok (.goto (-22), 3) := by decide +kernel
theorem dX0_init_40 : decode cX0_init 40 = .ok (.return_, 1) := by decide +kernel
theorem dX0_remember_0 : decode cX0_remember 0 = .ok (.aload_n 0, 1) := by decide +kernel
theorem dX0_remember_1 : decode cX0_remember 1 = .ok (.getfield 11, 3) := by decide +kernel
theorem dX0_remember_4 : decode cX0_remember 4 = .ok (.aload_n 0, 1) := by decide +kernel
theorem dX0_remember_5 : decode cX0_remember 5 = .ok (.getfield 22, 3) := by decide +kernel
theorem dX0_remember_8 : decode cX0_remember 8 = .ok (.aload_n 0, 1) := by decide +kernel
theorem dX0_remember_9 : decode cX0_remember 9 = .ok (.getfield 18, 3) := by decide +kernel
theorem dX0_remember_12 : decode cX0_remember 12 = .ok (.iadd, 1) := by decide +kernel
theorem dX0_remember_13 : decode cX0_remember 13 = .ok (.bipush 8, 2) := by decide +kernel
theorem dX0_remember_15 : decode cX0_remember 15 = .ok (.irem, 1) := by decide +kernel
theorem dX0_remember_16 : decode cX0_remember 16 = .ok (.aaload, 1) := by decide +kernel
theorem dX0_remember_17 : decode cX0_remember 17 = .ok (.aload_n 1, 1) := by decide +kernel
theorem dX0_remember_18 : decode cX0_remember 18 = .ok (.invokevirtual 25, 3) := by decide +kernel
theorem dX0_remember_21 : decode cX0_remember 21 = .ok (.aload_n 0, 1) := by decide +kernel
theorem dX0_remember_22 : decode cX0_remember 22 = .ok (.getfield 18, 3) := by decide +kernel
theorem dX0_remember_25 : decode cX0_remember 25 = .ok (.bipush 8, 2) := by decide +kernel
theorem dX0_remember_27 : decode cX0_remember 27 = .ok (.if_icmp .ge 16, 3) := by decide +kernel
theorem dX0_remember_30 : decode cX0_remember 30 = .ok (.aload_n 0, 1) := by decide +kernel
theorem dX0_remember_31 : decode cX0_remember 31 = .ok (.dup, 1) := by decide +kernel
theorem dX0_remember_32 : decode cX0_remember 32 = .ok (.getfield 18, 3) := by decide +kernel
theorem dX0_remember_35 : decode cX0_remember 35 = .ok (.iconst 1, 1) := by decide +kernel
theorem dX0_remember_36 : decode cX0_remember 36 = .ok (.iadd, 1) := by decide +kernel
theorem dX0_remember_37 : decode cX0_remember 37 = .ok (.putfield 18, 3) := by decide +kernel
theorem dX0_remember_40 : decode cX0_remember 40 = .ok (.goto 16, 3) := by decide +kernel
theorem dX0_remember_43 : decode cX0_remember 43 = .ok (.aload_n 0, 1) := by decide +kernel
theorem dX0_remember_44 : decode cX0_remember 44 = .ok (.aload_n 0, 1) := by decide +kernel
theorem dX0_remember_45 : decode cX0_remember 45 = .ok (.getfield 22, 3) := by decide +kernel
theorem dX0_remember_48 : decode cX0_remember 48 = .ok (.iconst 1, 1) := by decide +kernel
theorem dX0_remember_49 : decode cX0_remember 49 = .ok (.iadd, 1) := by decide +kernel
theorem dX0_remember_50 : decode cX0_remember 50 = .ok (.bipush 8, 2) := by decide +kernel
theorem dX0_remember_52 : decode cX0_remember 52 = .ok (.irem, 1) := by decide +kernel
theorem dX0_remember_53 : decode cX0_remember 53 = .ok (.putfield 22, 3) := by decide +kernel
theorem dX0_remember_56 : decode cX0_remember 56 = .ok (.return_, 1) := by decide +kernel
theorem dX0_takeBack_0 : decode cX0_takeBack 0 = .ok (.aload_n 0, 1) := by decide +kernel
theorem dX0_takeBack_1 : decode cX0_takeBack 1 = .ok (.getfield 18, 3) := by decide +kernel
theorem dX0_takeBack_4 : decode cX0_takeBack 4 = .ok (.iconst 1, 1) := by decide +kernel
theorem dX0_takeBack_5 : decode cX0_takeBack 5 = .ok (.if_icmp .ge 4, 3) := by decide +kernel
theorem dX0_takeBack_8 : decode cX0_takeBack 8 = .ok (.return_, 1) := by decide +kernel
theorem dX0_takeBack_9 : decode cX0_takeBack 9 = .ok (.aload_n 0, 1) := by decide +kernel
theorem dX0_takeBack_10 : decode cX0_takeBack 10 = .ok (.dup, 1) := by decide +kernel
theorem dX0_takeBack_11 : decode cX0_takeBack 11 = .ok (.getfield 18, 3) := by decide +kernel
theorem dX0_takeBack_14 : decode cX0_takeBack 14 = .ok (.iconst 1, 1) := by decide +kernel
theorem dX0_takeBack_15 : decode cX0_takeBack 15 = .ok (.isub, 1) := by decide +kernel
theorem dX0_takeBack_16 : decode cX0_takeBack 16 = .ok (.putfield 18, 3) := by decide +kernel
theorem dX0_takeBack_19 : decode cX0_takeBack 19 = .ok (.aload_n 1, 1) := by decide +kernel
theorem dX0_takeBack_20 : decode cX0_takeBack 20 = .ok (.aload_n 0, 1) := by decide +kernel
theorem dX0_takeBack_21 : decode cX0_takeBack 21 = .ok (.getfield 11, 3) := by decide +kernel
theorem dX0_takeBack_24 : decode cX0_takeBack 24 = .ok (.aload_n 0, 1) := by decide +kernel
theorem dX0_takeBack_25 : decode cX0_takeBack 25 = .ok (.getfield 22, 3) := by decide +kernel
theorem dX0_takeBack_28 : decode cX0_takeBack 28 = .ok (.aload_n 0, 1) := by decide +kernel
theorem dX0_takeBack_29 : decode cX0_takeBack 29 = .ok (.getfield 18, 3) := by decide +kernel
theorem dX0_takeBack_32 : decode cX0_takeBack 32 = .ok (.iadd, 1) := by decide +kernel
theorem dX0_takeBack_33 : decode cX0_takeBack 33 = .ok (.bipush 8, 2) := by decide +kernel
theorem dX0_takeBack_35 : decode cX0_takeBack 35 = .ok (.irem, 1) := by decide +kernel
theorem dX0_takeBack_36 : decode cX0_takeBack 36 = .ok (.aaload, 1) := by decide +kernel
theorem dX0_takeBack_37 : decode cX0_takeBack 37 = .ok (.invokevirtual 25, 3) := by decide +kernel
theorem dX0_takeBack_40 : decode cX0_takeBack 40 = .ok (.return_, 1) := by decide +kernel
theorem dX1_append_0 : decode cX1_append 0 = .ok (.aload_n 0, 1) := by decide +kernel
theorem dX1_append_1 : decode cX1_append 1 = .ok (.aload_n 0, 1) := by decide +kernel
theorem dX1_append_2 : decode cX1_append 2 = .ok (.getfield 21, 3) := by decide +kernel
theorem dX1_append_5 : decode cX1_append 5 = .ok (.iload_n 1, 1) := by decide +kernel
theorem dX1_append_6 : decode cX1_append 6 = .ok (.invokevirtual 25, 3) := by decide +kernel
theorem dX1_append_9 : decode cX1_append 9 = .ok (.return_, 1) := by decide +kernel
theorem dX1_appendAll_0 : decode cX1_appendAll 0 = .ok (.aload_n 1, 1) := by decide +kernel
theorem dX1_appendAll_1 : decode cX1_appendAll 1 = .ok (.getfield 21, 3) := by decide +kernel
theorem dX1_appendAll_4 : decode cX1_appendAll 4 = .ok (.istore_n 2, 1) := by decide +kernel
theorem dX1_appendAll_5 : decode cX1_appendAll 5 = .ok (.aload_n 0, 1) := by decide +kernel
theorem dX1_appendAll_6 : decode cX1_appendAll 6 = .ok (.iload_n 2, 1) := by decide +kernel
theorem dX1_appendAll_7 : decode cX1_appendAll 7 = .ok (.invokevirtual 29, 3) := by decide +kernel
theorem dX1_appendAll_10 : decode cX1_appendAll 10 = .ok (.ifCond .ne 4, 3) := by decide +kernel
theorem dX1_appendAll_13 : decode cX1_appendAll 13 = .ok (.return_, 1) := by decide +kernel
theorem dX1_appendAll_14 : decode cX1_appendAll 14 = .ok (.aload_n 1, 1) := by decide +kernel
theorem dX1_appendAll_15 : decode cX1_appendAll 15 = .ok (.getfield 15, 3) := by decide +kernel
theorem dX1_appendAll_18 : decode cX1_appendAll 18 = .ok (.iconst 0, 1) := by decide +kernel
theorem dX1_appendAll_19 : decode cX1_appendAll 19 = .ok (.aload_n 0, 1) := by decide +kernel
theorem dX1_appendAll_20 : decode cX1_appendAll 20 = .ok (.getfield 15, 3) := by decide +kernel
theorem dX1_appendAll_23 : decode cX1_appendAll 23 = .ok (.aload_n 0, 1) := by decide +kernel
theorem dX1_appendAll_24 : decode cX1_appendAll 24 = .ok (.getfield 21, 3) := by decide +kernel
theorem dX1_appendAll_27 : decode cX1_appendAll 27 = .ok (.iload_n 2, 1) := by decide +kernel
theorem dX1_appendAll_28 : decode cX1_appendAll 28 = .ok (.invokestatic 33, 3) := by decide +kernel
theorem dX1_appendAll_31 : decode cX1_appendAll 31 = .ok (.aload_n 0, 1) := by decide +kernel
theorem dX1_appendAll_32 : decode cX1_appendAll 32 = .ok (.dup, 1) := by decide +kernel
theorem dX1_appendAll_33 : decode cX1_appendAll 33 = .ok (.getfield 21, 3) := by decide +kernel
theorem dX1_appendAll_36 : decode cX1_appendAll 36 = .ok (.iload_n 2, 1) := by decide +kernel
theorem dX1_appendAll_37 : decode cX1_appendAll 37 = .ok (.iadd, 1) := by decide +kernel
theorem dX1_appendAll_38 : decode cX1_appendAll 38 = .ok (.putfield 21, 3) := by decide +kernel
theorem dX1_appendAll_41 : decode cX1_appendAll 41 = .ok (.return_, 1) := by decide +kernel
theorem dX1_hasRoomFor_0 : decode cX1_hasRoomFor 0 = .ok (.aload_n 0, 1) := by decide +kernel
theorem dX1_hasRoomFor_1 : decode cX1_hasRoomFor 1 = .ok (.getfield 21, 3) := by decide +kernel
theorem dX1_hasRoomFor_4 : decode cX1_hasRoomFor 4 = .ok (.iload_n 1, 1) := by decide +kernel
theorem dX1_hasRoomFor_5 : decode cX1_hasRoomFor 5 = .ok (.iadd, 1) := by decide +kernel
theorem dX1_hasRoomFor_6 : decode cX1_hasRoomFor 6 = .ok (.aload_n 0, 1) := by decide +kernel
theorem dX1_hasRoomFor_7 : decode cX1_hasRoomFor 7 = .ok (.getfield 15, 3) := by decide +kernel
theorem dX1_hasRoomFor_10 : decode cX1_hasRoomFor 10 = .ok (.arraylength, 1) := by decide +kernel
theorem dX1_hasRoomFor_11 : decode cX1_hasRoomFor 11 = .ok (.if_icmp .gt 7, 3) := by decide +kernel
theorem dX1_hasRoomFor_14 : decode cX1_hasRoomFor 14 = .ok (.iconst 1, 1) := by decide +kernel
theorem dX1_hasRoomFor_15 : decode cX1_hasRoomFor 15 = .ok (.goto 4, 3) := by decide +kernel
theorem dX1_hasRoomFor_18 : decode cX1_hasRoomFor 18 = .ok (.iconst 0, 1) := by decide +kernel
theorem dX1_hasRoomFor_19 : decode cX1_hasRoomFor 19 = .ok (.ireturn, 1) := by decide +kernel
theorem dX1_init_0 : decode cX1_init 0 = .ok (.aload_n 0, 1) := by decide +kernel
theorem dX1_init_1 : decode cX1_init 1 = .ok (.invokespecial 3, 3) := by decide +kernel
theorem dX1_init_4 : decode cX1_init 4 = .ok (.aload_n 0, 1) := by decide +kernel
theorem dX1_init_5 : decode cX1_init 5 = .ok (.iload_n 1, 1) := by decide +kernel
theorem dX1_init_6 : decode cX1_init 6 = .ok (.iconst 0, 1) := by decide +kernel
theorem dX1_init_7 : decode cX1_init 7 = .ok (.invokestatic 9, 3) := by decide +kernel
theorem dX1_init_10 : decode cX1_init 10 = .ok (.newarray .int, 2) := by decide +kernel
theorem dX1_init_12 : decode cX1_init 12 = .ok (.putfield 15, 3) := by decide +kernel
theorem dX1_init_15 : decode cX1_init 15 = .ok (.return_, 1) := by decide +kernel
theorem dX1_isWordAt_0 : decode cX1_isWordAt 0 = .ok (.iload_n 1, 1) := by decide +kernel
theorem dX1_isWordAt_1 : decode cX1_isWordAt 1 = .ok (.ifCond .lt 21, 3) := by decide +kernel
theorem dX1_isWordAt_4 : decode cX1_isWordAt 4 = .ok (.iload_n 2, 1) := by decide +kernel
theorem dX1_isWordAt_5 : decode cX1_isWordAt 5 = .ok (.aload_n 0, 1) := by decide +kernel
theorem dX1_isWordAt_6 : decode cX1_isWordAt 6 = .ok (.getfield 21, 3) := by decide +kernel
theorem dX1_isWordAt_9 : decode cX1_isWordAt 9 = .ok (.if_icmp .gt 13, 3) := by decide +kernel
theorem dX1_isWordAt_12 : decode cX1_isWordAt 12 = .ok (.iload_n 2, 1) := by decide +kernel
theorem dX1_isWordAt_13 : decode cX1_isWordAt 13 = .ok (.iload_n 1, 1) := by decide +kernel
theorem dX1_isWordAt_14 : decode cX1_isWordAt 14 = .ok (.isub, 1) := by decide +kernel
theorem dX1_isWordAt_15 : decode cX1_isWordAt 15 = .ok (.aload_n 3, 1) := by decide +kernel
theorem dX1_isWordAt_16 : decode cX1_isWordAt 16 = .ok (.invokevirtual 43, 3) := by decide +kernel
theorem dX1_isWordAt_19 : decode cX1_isWordAt 19 = .ok (.if_icmp .eq 5, 3) := by decide +kernel
theorem dX1_isWordAt_22 : decode cX1_isWordAt 22 = .ok (.iconst 0, 1) := by decide +kernel
theorem dX1_isWordAt_23 : decode cX1_isWordAt 23 = .ok (.ireturn, 1) := by decide +kernel
theorem dX1_isWordAt_24 : decode cX1_isWordAt 24 = .ok (.iconst 0, 1) := by decide +kernel
theorem dX1_isWordAt_25 : decode cX1_isWordAt 25 = .ok (.istore 4, 2) := by decide +kernel
theorem dX1_isWordAt_27 : decode cX1_isWordAt 27 = .ok (.iload 4, 2) := by decide +kernel
theorem dX1_isWordAt_29 : decode cX1_isWordAt 29 = .ok (.aload_n 3, 1) := by decide +kernel
theorem dX1_isWordAt_30 : decode cX1_isWordAt 30 = .ok (.invokevirtual 43, 3) := by decide +kernel
theorem dX1_isWordAt_33 : decode cX1_isWordAt 33 = .ok (.if_icmp .ge 29, 3) := by decide +kernel
theorem dX1_isWordAt_36 : decode cX1_isWordAt 36 = .ok (.aload_n 0, 1) := by decide +kernel
theorem dX1_isWordAt_37 : decode cX1_isWordAt 37 = .ok (.getfield 15, 3) := by decide +kernel
theorem dX1_isWordAt_40 : decode cX1_isWordAt 40 = .ok (.iload_n 1, 1) := by decide +kernel
theorem dX1_isWordAt_41 : decode cX1_isWordAt 41 = .ok (.iload 4, 2) := by decide +kernel
theorem dX1_isWordAt_43 : decode cX1_isWordAt 43 = .ok (.iadd, 1) := by decide +kernel
theorem dX1_isWordAt_44 : decode cX1_isWordAt 44 = .ok (.iaload, 1) := by decide +kernel
theorem dX1_isWordAt_45 : decode cX1_isWordAt 45 = .ok (.aload_n 3, 1) := by decide +kernel
theorem dX1_isWordAt_46 : decode cX1_isWordAt 46 = .ok (.iload 4, 2) := by decide +kernel
theorem dX1_isWordAt_48 : decode cX1_isWordAt 48 = .ok (.invokevirtual 48, 3) := by decide +kernel
theorem dX1_isWordAt_51 : decode cX1_isWordAt 51 = .ok (.if_icmp .eq 5, 3) := by decide +kernel
theorem dX1_isWordAt_54 : decode cX1_isWordAt 54 = .ok (.iconst 0, 1) := by decide +kernel
theorem dX1_isWordAt_55 : decode cX1_isWordAt 55 = .ok (.ireturn, 1) := by decide +kernel
theorem dX1_isWordAt_56 : decode cX1_isWordAt 56 = .ok (.iinc 4 1, 3) := by decide +kernel
theorem dX1_isWordAt_59 : decode cX1_isWordAt 59 = .ok (.goto (-32), 3) := by decide +kernel
theorem dX1_isWordAt_62 : decode cX1_isWordAt 62 = .ok (.iconst 1, 1) := by decide +kernel
theorem dX1_isWordAt_63 : decode cX1_isWordAt 63 = .ok (.ireturn, 1) := by decide +kernel
theorem dX1_numberAt_0 : decode cX1_numberAt 0 = .ok (.iload_n 1, 1) := by decide +kernel
theorem dX1_numberAt_1 : decode cX1_numberAt 1 = .ok (.ifCond .lt 23, 3) := by decide +kernel
theorem dX1_numberAt_4 : decode cX1_numberAt 4 = .ok (.iload_n 2, 1) := by decide +kernel
theorem dX1_numberAt_5 : decode cX1_numberAt 5 = .ok (.aload_n 0, 1) := by decide +kernel
theorem dX1_numberAt_6 : decode cX1_numberAt 6 = .ok (.getfield 21, 3) := by decide +kernel
theorem dX1_numberAt_9 : decode cX1_numberAt 9 = .ok (.if_icmp .gt 15, 3) := by decide +kernel
theorem dX1_numberAt_12 : decode cX1_numberAt 12 = .ok (.iload_n 2, 1) := by decide +kernel
theorem dX1_numberAt_13 : decode cX1_numberAt 13 = .ok (.iload_n 1, 1) := by decide +kernel
theorem dX1_numberAt_14 : decode cX1_numberAt 14 = .ok (.if_icmp .le 10, 3) := by decide +kernel
theorem dX1_numberAt_17 : decode cX1_numberAt 17 = .ok (.iload_n 2, 1) := by decide +kernel
theorem dX1_numberAt_18 : decode cX1_numberAt 18 = .ok (.iload_n 1, 1) := by decide +kernel
theorem dX1_numberAt_19 : decode cX1_numberAt 19 = .ok (.isub, 1) := by decide +kernel
theorem dX1_numberAt_20 : decode cX1_numberAt 20 = .ok (.iload_n 3, 1) := by decide +kernel
theorem dX1_numberAt_21 : decode cX1_numberAt 21 = .ok (.if_icmp .le 5, 3) := by decide +kernel
theorem dX1_numberAt_24 : decode cX1_numberAt 24 = .ok (.iconst (-1), 1) := by decide +kernel
theorem dX1_numberAt_25 : decode cX1_numberAt 25 = .ok (.ireturn, 1) := by decide +kernel
theorem dX1_numberAt_26 : decode cX1_numberAt 26 = .ok (.iconst 0, 1) := by decide +kernel
theorem dX1_numberAt_27 : decode cX1_numberAt 27 = .ok (.istore 4, 2) := by decide +kernel
theorem dX1_numberAt_29 : decode cX1_numberAt 29 = .ok (.iload_n 1, 1) := by decide +kernel
theorem dX1_numberAt_30 : decode cX1_numberAt 30 = .ok (.istore 5, 2) := by decide +kernel
theorem dX1_numberAt_32 : decode cX1_numberAt 32 = .ok (.iload 5, 2) := by decide +kernel
theorem dX1_numberAt_34 : decode cX1_numberAt 34 = .ok (.iload_n 2, 1) := by decide +kernel
theorem dX1_numberAt_35 : decode cX1_numberAt 35 = .ok (.if_icmp .ge 45, 3) := by decide +kernel
theorem dX1_numberAt_38 : decode cX1_numberAt 38 = .ok (.aload_n 0, 1) := by decide +kernel
theorem dX1_numberAt_39 : decode cX1_numberAt 39 = .ok (.getfield 15, 3) := by decide +kernel
theorem dX1_numberAt_42 : decode cX1_numberAt 42 = .ok (.iload 5, 2) := by decide +kernel
theorem dX1_numberAt_44 : decode cX1_numberAt 44 = .ok (.iaload, 1) := by decide +kernel
theorem dX1_numberAt_45 : decode cX1_numberAt 45 = .ok (.bipush 48, 2) := by decide +kernel
theorem dX1_numberAt_47 : decode cX1_numberAt 47 = .ok (.isub, 1) := by decide +kernel
theorem dX1_numberAt_48 : decode cX1_numberAt 48 = .ok (.istore 6, 2) := by decide +kernel
theorem dX1_numberAt_50 : decode cX1_numberAt 50 = .ok (.iload 6, 2) := by decide +kernel
theorem dX1_numberAt_52 : decode cX1_numberAt 52 = .ok (.ifCond .lt 10, 3) := by decide +kernel
theorem dX1_numberAt_55 : decode cX1_numberAt 55 = .ok (.iload 6, 2) := by decide +kernel
theorem dX1_numberAt_57 : decode cX1_numberAt 57 = .ok (.bipush 9, 2) := by decide +kernel
theorem dX1_numberAt_59 : decode cX1_numberAt 59 = .ok (.if_icmp .le 5, 3) := by decide +kernel
theorem dX1_numberAt_62 : decode cX1_numberAt 62 = .ok (.iconst (-1), 1) := by decide +kernel
theorem dX1_numberAt_63 : decode cX1_numberAt 63 = .ok (.ireturn, 1) := by decide +kernel
theorem dX1_numberAt_64 : decode cX1_numberAt 64 = .ok (.bipush 10, 2) := by decide +kernel
theorem dX1_numberAt_66 : decode cX1_numberAt 66 = .ok (.iload 4, 2) := by decide +kernel
theorem dX1_numberAt_68 : decode cX1_numberAt 68 = .ok (.imul, 1) := by decide +kernel
theorem dX1_numberAt_69 : decode cX1_numberAt 69 = .ok (.iload 6, 2) := by decide +kernel
theorem dX1_numberAt_71 : decode cX1_numberAt 71 = .ok (.iadd, 1) := by decide +kernel
theorem dX1_numberAt_72 : decode cX1_numberAt 72 = .ok (.istore 4, 2) := by decide +kernel
theorem dX1_numberAt_74 : decode cX1_numberAt 74 = .ok (.iinc 5 1, 3) := by decide +kernel
theorem dX1_numberAt_77 : decode cX1_numberAt 77 = .ok (.goto (-45), 3) := by decide +kernel
theorem dX1_numberAt_80 : decode cX1_numberAt 80 = .ok (.iload 4, 2) := by decide +kernel
theorem dX1_numberAt_82 : decode cX1_numberAt 82 = .ok (.ireturn, 1) := by decide +kernel
theorem dX1_placeOf_0 : decode cX1_placeOf 0 = .ok (.iconst 0, 1) := by decide +kernel
theorem dX1_placeOf_1 : decode cX1_placeOf 1 = .ok (.istore_n 2, 1) := by decide +kernel
theorem dX1_placeOf_2 : decode cX1_placeOf 2 = .ok (.iload_n 2, 1) := by decide +kernel
theorem dX1_placeOf_3 : decode cX1_placeOf 3 = .ok (.aload_n 1, 1) := by decide +kernel
theorem dX1_placeOf_4 : decode cX1_placeOf 4 = .ok (.getfield 21, 3) := by decide +kernel
theorem dX1_placeOf_7 : decode cX1_placeOf 7 = .ok (.iadd, 1) := by decide +kernel
theorem dX1_placeOf_8 : decode cX1_placeOf 8 = .ok (.aload_n 0, 1) := by decide +kernel
theorem dX1_placeOf_9 : decode cX1_placeOf 9 = .ok (.getfield 21, 3) := by decide +kernel
theorem dX1_placeOf_12 : decode cX1_placeOf 12 = .ok (.if_icmp .gt 20, 3) := by decide +kernel
theorem dX1_placeOf_15 : decode cX1_placeOf 15 = .ok (.aload_n 0, 1) := by decide +kernel
theorem dX1_placeOf_16 : decode cX1_placeOf 16 = .ok (.iload_n 2, 1) := by decide +kernel
theorem dX1_placeOf_17 : decode cX1_placeOf 17 = .ok (.aload_n 1, 1) := by decide +kernel
theorem dX1_placeOf_18 : decode cX1_placeOf 18 = .ok (.invokevirtual 39, 3) := by decide +kernel
theorem dX1_placeOf_21 : decode cX1_placeOf 21 = .ok (.ifCond .eq 5, 3) := by decide +kernel
theorem dX1_placeOf_24 : decode cX1_placeOf 24 = .ok (.iload_n 2, 1) := by decide +kernel
theorem dX1_placeOf_25 : decode cX1_placeOf 25 = .ok (.ireturn, 1) := by decide +kernel
theorem dX1_placeOf_26 : decode cX1_placeOf 26 = .ok (.iinc 2 1, 3) := by decide +kernel
theorem dX1_placeOf_29 : decode cX1_placeOf 29 = .ok (.goto (-27), 3) := by decide +kernel
theorem dX1_placeOf_32 : decode cX1_placeOf 32 = .ok (.iconst (-1), 1) := by decide +kernel
theorem dX1_placeOf_33 : decode cX1_placeOf 33 = .ok (.ireturn, 1) := by decide +kernel
theorem dX1_putAt_0 : decode cX1_putAt 0 = .ok (.iload_n 1, 1) := by decide +kernel
theorem dX1_putAt_1 : decode cX1_putAt 1 = .ok (.ifCond .lt 19, 3) := by decide +kernel
theorem dX1_putAt_4 : decode cX1_putAt 4 = .ok (.iload_n 1, 1) := by decide +kernel
theorem dX1_putAt_5 : decode cX1_putAt 5 = .ok (.aload_n 0, 1) := by decide +kernel
theorem dX1_putAt_6 : decode cX1_putAt 6 = .ok (.getfield 21, 3) := by decide +kernel
theorem dX1_putAt_9 : decode cX1_putAt 9 = .ok (.if_icmp .gt 11, 3) := by decide +kernel
theorem dX1_putAt_12 : decode cX1_putAt 12 = .ok (.aload_n 0, 1) := by decide +kernel
theorem dX1_putAt_13 : decode cX1_putAt 13 = .ok (.iconst 1, 1) := by decide +kernel
theorem dX1_putAt_14 : decode cX1_putAt 14 = .ok (.invokevirtual 29, 3) := by decide +kernel
theorem dX1_putAt_17 : decode cX1_putAt 17 = .ok (.ifCond .ne 4, 3) := by decide +kernel
theorem dX1_putAt_20 : decode cX1_putAt 20 = .ok (.return_, 1) := by decide +kernel
theorem dX1_putAt_21 : decode cX1_putAt 21 = .ok (.aload_n 0, 1) := by decide +kernel
theorem dX1_putAt_22 : decode cX1_putAt 22 = .ok (.getfield 15, 3) := by decide +kernel
theorem dX1_putAt_25 : decode cX1_putAt 25 = .ok (.iload_n 1, 1) := by decide +kernel
theorem dX1_putAt_26 : decode cX1_putAt 26 = .ok (.aload_n 0, 1) := by decide +kernel
theorem dX1_putAt_27 : decode cX1_putAt 27 = .ok (.getfield 15, 3) := by decide +kernel
theorem dX1_putAt_30 : decode cX1_putAt 30 = .ok (.iload_n 1, 1) := by decide +kernel
theorem dX1_putAt_31 : decode cX1_putAt 31 = .ok (.iconst 1, 1) := by decide +kernel
theorem dX1_putAt_32 : decode cX1_putAt 32 = .ok (.iadd, 1) := by decide +kernel
theorem dX1_putAt_33 : decode cX1_putAt 33 = .ok (.aload_n 0, 1) := by decide +kernel
theorem dX1_putAt_34 : decode cX1_putAt 34 = .ok (.getfield 21, 3) := by decide +kernel
theorem dX1_putAt_37 : decode cX1_putAt 37 = .ok (.iload_n 1, 1) := by decide +kernel
theorem dX1_putAt_38 : decode cX1_putAt 38 = .ok (.isub, 1) := by decide +kernel
theorem dX1_putAt_39 : decode cX1_putAt 39 = .ok (.invokestatic 33, 3) := by decide +kernel
theorem dX1_putAt_42 : decode cX1_putAt 42 = .ok (.aload_n 0, 1) := by decide +kernel
theorem dX1_putAt_43 : decode cX1_putAt 43 = .ok (.getfield 15, 3) := by decide +kernel
theorem dX1_putAt_46 : decode cX1_putAt 46 = .ok (.iload_n 1, 1) := by decide +kernel
theorem dX1_putAt_47 : decode cX1_putAt 47 = .ok (.iload_n 2, 1) := by decide +kernel
theorem dX1_putAt_48 : decode cX1_putAt 48 = .ok (.iastore, 1) := by decide +kernel
theorem dX1_putAt_49 : decode cX1_putAt 49 = .ok (.aload_n 0, 1) := by decide +kernel
theorem dX1_putAt_50 : decode cX1_putAt 50 = .ok (.dup, 1) := by decide +kernel
theorem dX1_putAt_51 : decode cX1_putAt 51 = .ok (.getfield 21, 3) := by decide +kernel
theorem dX1_putAt_54 : decode cX1_putAt 54 = .ok (.iconst 1, 1) := by decide +kernel
theorem dX1_putAt_55 : decode cX1_putAt 55 = .ok (.iadd, 1) := by decide +kernel
theorem dX1_putAt_56 : decode cX1_putAt 56 = .ok (.putfield 21, 3) := by decide +kernel
theorem dX1_putAt_59 : decode cX1_putAt 59 = .ok (.return_, 1) := by decide +kernel
theorem dX1_removeSpan_0 : decode cX1_removeSpan 0 = .ok (.iload_n 1, 1) := by decide +kernel
theorem dX1_removeSpan_1 : decode cX1_removeSpan 1 = .ok (.ifCond .lt 16, 3) := by decide +kernel
theorem dX1_removeSpan_4 : decode cX1_removeSpan 4 = .ok (.iload_n 2, 1) := by decide +kernel
theorem dX1_removeSpan_5 : decode cX1_removeSpan 5 = .ok (.iload_n 1, 1) := by decide +kernel
theorem dX1_removeSpan_6 : decode cX1_removeSpan 6 = .ok (.if_icmp .lt 11, 3) := by decide +kernel
theorem dX1_removeSpan_9 : decode cX1_removeSpan 9 = .ok (.iload_n 2, 1) := by decide +kernel
theorem dX1_removeSpan_10 : decode cX1_removeSpan 10 = .ok (.aload_n 0, 1) := by decide +kernel
theorem dX1_removeSpan_11 : decode cX1_removeSpan 11 = .ok (.getfield 21, 3) := by decide +kernel
theorem dX1_removeSpan_14 : decode cX1_removeSpan 14 = .ok (.if_icmp .le 4, 3) := by decide +kernel
theorem dX1_removeSpan_17 : decode cX1_removeSpan 17 = .ok (.return_, 1) := by decide +kernel
theorem dX1_removeSpan_18 : decode cX1_removeSpan 18 = .ok (.aload_n 0, 1) := by decide +kernel
theorem dX1_removeSpan_19 : decode cX1_removeSpan 19 = .ok (.getfield 15, 3) := by decide +kernel
theorem dX1_removeSpan_22 : decode cX1_removeSpan 22 = .ok (.iload_n 2, 1) := by decide +kernel
theorem dX1_removeSpan_23 : decode cX1_removeSpan 23 = .ok (.aload_n 0, 1) := by decide +kernel
theorem dX1_removeSpan_24 : decode cX1_removeSpan 24 = .ok (.getfield 15, 3) := by decide +kernel
theorem dX1_removeSpan_27 : decode cX1_removeSpan 27 = .ok (.iload_n 1, 1) := by decide +kernel
theorem dX1_removeSpan_28 : decode cX1_removeSpan 28 = .ok (.aload_n 0, 1) := by decide +kernel
theorem dX1_removeSpan_29 : decode cX1_removeSpan 29 = .ok (.getfield 21, 3) := by decide +kernel
theorem dX1_removeSpan_32 : decode cX1_removeSpan 32 = .ok (.iload_n 2, 1) := by decide +kernel
theorem dX1_removeSpan_33 : decode cX1_removeSpan 33 = .ok (.isub, 1) := by decide +kernel
theorem dX1_removeSpan_34 : decode cX1_removeSpan 34 = .ok (.invokestatic 33, 3) := by decide +kernel
theorem dX1_removeSpan_37 : decode cX1_removeSpan 37 = .ok (.aload_n 0, 1) := by decide +kernel
theorem dX1_removeSpan_38 : decode cX1_removeSpan 38 = .ok (.dup, 1) := by decide +kernel
theorem dX1_removeSpan_39 : decode cX1_removeSpan 39 = .ok (.getfield 21, 3) := by decide +kernel
theorem dX1_removeSpan_42 : decode cX1_removeSpan 42 = .ok (.iload_n 2, 1) := by decide +kernel
theorem dX1_removeSpan_43 : decode cX1_removeSpan 43 = .ok (.iload_n 1, 1) := by decide +kernel
theorem dX1_removeSpan_44 : decode cX1_removeSpan 44 = .ok (.isub, 1) := by decide +kernel
theorem dX1_removeSpan_45 : decode cX1_removeSpan 45 = .ok (.isub, 1) := by decide +kernel
theorem dX1_removeSpan_46 : decode cX1_removeSpan 46 = .ok (.putfield 21, 3) := by decide +kernel
theorem dX1_removeSpan_49 : decode cX1_removeSpan 49 = .ok (.return_, 1) := by decide +kernel
theorem dX1_ruleAt_0 : decode cX1_ruleAt 0 = .ok (.iconst 0, 1) := by decide +kernel
theorem dX1_ruleAt_1 : decode cX1_ruleAt 1 = .ok (.istore_n 3, 1) := by decide +kernel
theorem dX1_ruleAt_2 : decode cX1_ruleAt 2 = .ok (.iload_n 3, 1) := by decide +kernel
theorem dX1_ruleAt_3 : decode cX1_ruleAt 3 = .ok (.iconst 4, 1) := by decide +kernel
theorem dX1_ruleAt_4 : decode cX1_ruleAt 4 = .ok (.if_icmp .ge 24, 3) := by decide +kernel
theorem dX1_ruleAt_7 : decode cX1_ruleAt 7 = .ok (.aload_n 0, 1) := by decide +kernel
theorem dX1_ruleAt_8 : decode cX1_ruleAt 8 = .ok (.iload_n 1, 1) := by decide +kernel
theorem dX1_ruleAt_9 : decode cX1_ruleAt 9 = .ok (.iload_n 2, 1) := by decide +kernel
theorem dX1_ruleAt_10 : decode cX1_ruleAt 10 = .ok (.iload_n 3, 1) := by decide +kernel
theorem dX1_ruleAt_11 : decode cX1_ruleAt 11 = .ok (.invokestatic 52, 3) := by decide +kernel
theorem dX1_ruleAt_14 : decode cX1_ruleAt 14 = .ok (.invokevirtual 56, 3) := by decide +kernel
theorem dX1_ruleAt_17 : decode cX1_ruleAt 17 = .ok (.ifCond .eq 5, 3) := by decide +kernel
theorem dX1_ruleAt_20 : decode cX1_ruleAt 20 = .ok (.iload_n 3, 1) := by decide +kernel
theorem dX1_ruleAt_21 : decode cX1_ruleAt 21 = .ok (.ireturn, 1) := by decide +kernel
theorem dX1_ruleAt_22 : decode cX1_ruleAt 22 = .ok (.iinc 3 1, 3) := by decide +kernel
theorem dX1_ruleAt_25 : decode cX1_ruleAt 25 = .ok (.goto (-23), 3) := by decide +kernel
theorem dX1_ruleAt_28 : decode cX1_ruleAt 28 = .ok (.iconst (-1), 1) := by decide +kernel
theorem dX1_ruleAt_29 : decode cX1_ruleAt 29 = .ok (.ireturn, 1) := by decide +kernel
theorem dX1_standsAt_0 : decode cX1_standsAt 0 = .ok (.iconst 0, 1) := by decide +kernel
theorem dX1_standsAt_1 : decode cX1_standsAt 1 = .ok (.istore_n 3, 1) := by decide +kernel
theorem dX1_standsAt_2 : decode cX1_standsAt 2 = .ok (.iload_n 3, 1) := by decide +kernel
theorem dX1_standsAt_3 : decode cX1_standsAt 3 = .ok (.aload_n 2, 1) := by decide +kernel
theorem dX1_standsAt_4 : decode cX1_standsAt 4 = .ok (.getfield 21, 3) := by decide +kernel
theorem dX1_standsAt_7 : decode cX1_standsAt 7 = .ok (.if_icmp .ge 28, 3) := by decide +kernel
theorem dX1_standsAt_10 : decode cX1_standsAt 10 = .ok (.aload_n 0, 1) := by decide +kernel
theorem dX1_standsAt_11 : decode cX1_standsAt 11 = .ok (.getfield 15, 3) := by decide +kernel
theorem dX1_standsAt_14 : decode cX1_standsAt 14 = .ok (.iload_n 1, 1) := by decide +kernel
theorem dX1_standsAt_15 : decode cX1_standsAt 15 = .ok (.iload_n 3, 1) := by decide +kernel
theorem dX1_standsAt_16 : decode cX1_standsAt 16 = .ok (.iadd, 1) := by decide +kernel
theorem dX1_standsAt_17 : decode cX1_standsAt 17 = .ok (.iaload, 1) := by decide +kernel
theorem dX1_standsAt_18 : decode cX1_standsAt 18 = .ok (.aload_n 2, 1) := by decide +kernel
theorem dX1_standsAt_19 : decode cX1_standsAt 19 = .ok (.getfield 15, 3) := by decide +kernel
theorem dX1_standsAt_22 : decode cX1_standsAt 22 = .ok (.iload_n 3, 1) := by decide +kernel
theorem dX1_standsAt_23 : decode cX1_standsAt 23 = .ok (.iaload, 1) := by decide +kernel
theorem dX1_standsAt_24 : decode cX1_standsAt 24 = .ok (.if_icmp .eq 5, 3) := by decide +kernel
theorem dX1_standsAt_27 : decode cX1_standsAt 27 = .ok (.iconst 0, 1) := by decide +kernel
theorem dX1_standsAt_28 : decode cX1_standsAt 28 = .ok (.ireturn, 1) := by decide +kernel
theorem dX1_standsAt_29 : decode cX1_standsAt 29 = .ok (.iinc 3 1, 3) := by decide +kernel
theorem dX1_standsAt_32 : decode cX1_standsAt 32 = .ok (.goto (-30), 3) := by decide +kernel
theorem dX1_standsAt_35 : decode cX1_standsAt 35 = .ok (.iconst 1, 1) := by decide +kernel
theorem dX1_standsAt_36 : decode cX1_standsAt 36 = .ok (.ireturn, 1) := by decide +kernel
theorem dX2_addCase_0 : decode cX2_addCase 0 = .ok (.aload_n 0, 1) := by decide +kernel
theorem dX2_addCase_1 : decode cX2_addCase 1 = .ok (.getfield 61, 3) := by decide +kernel
theorem dX2_addCase_4 : decode cX2_addCase 4 = .ok (.bipush 20, 2) := by decide +kernel
theorem dX2_addCase_6 : decode cX2_addCase 6 = .ok (.if_icmp .lt 5, 3) := by decide +kernel
theorem dX2_addCase_9 : decode cX2_addCase 9 = .ok (.iconst (-1), 1) := by decide +kernel
theorem dX2_addCase_10 : decode cX2_addCase 10 = .ok (.ireturn, 1) := by decide +kernel
theorem dX2_addCase_11 : decode cX2_addCase 11 = .ok (.aload_n 0, 1) := by decide +kernel
theorem dX2_addCase_12 : decode cX2_addCase 12 = .ok (.iload_n 1, 1) := by decide +kernel
theorem dX2_addCase_13 : decode cX2_addCase 13 = .ok (.iload_n 2, 1) := by decide +kernel
theorem dX2_addCase_14 : decode cX2_addCase 14 = .ok (.invokevirtual 116, 3) := by decide +kernel
theorem dX2_addCase_17 : decode cX2_addCase 17 = .ok (.istore_n 3, 1) := by decide +kernel
theorem dX2_addCase_18 : decode cX2_addCase 18 = .ok (.aload_n 0, 1) := by decide +kernel
theorem dX2_addCase_19 : decode cX2_addCase 19 = .ok (.iload_n 3, 1) := by decide +kernel
theorem dX2_addCase_20 : decode cX2_addCase 20 = .ok (.invokevirtual 119, 3) := by decide +kernel
theorem dX2_addCase_23 : decode cX2_addCase 23 = .ok (.aload_n 0, 1) := by decide +kernel
theorem dX2_addCase_24 : decode cX2_addCase 24 = .ok (.getfield 24, 3) := by decide +kernel
theorem dX2_addCase_27 : decode cX2_addCase 27 = .ok (.aload_n 0, 1) := by decide +kernel
theorem dX2_addCase_28 : decode cX2_addCase 28 = .ok (.getfield 61, 3) := by decide +kernel
theorem dX2_addCase_31 : decode cX2_addCase 31 = .ok (.iload_n 1, 1) := by decide +kernel
theorem dX2_addCase_32 : decode cX2_addCase 32 = .ok (.iastore, 1) := by decide +kernel
theorem dX2_addCase_33 : decode cX2_addCase 33 = .ok (.aload_n 0, 1) := by decide +kernel
theorem dX2_addCase_34 : decode cX2_addCase 34 = .ok (.getfield 27, 3) := by decide +kernel
theorem dX2_addCase_37 : decode cX2_addCase 37 = .ok (.aload_n 0, 1) := by decide +kernel
theorem dX2_addCase_38 : decode cX2_addCase 38 = .ok (.getfield 61, 3) := by decide +kernel
theorem dX2_addCase_41 : decode cX2_addCase 41 = .ok (.iload_n 2, 1) := by decide +kernel
theorem dX2_addCase_42 : decode cX2_addCase 42 = .ok (.iastore, 1) := by decide +kernel
theorem dX2_addCase_43 : decode cX2_addCase 43 = .ok (.aload_n 0, 1) := by decide +kernel
theorem dX2_addCase_44 : decode cX2_addCase 44 = .ok (.getfield 30, 3) := by decide +kernel
theorem dX2_addCase_47 : decode cX2_addCase 47 = .ok (.aload_n 0, 1) := by decide +kernel
theorem dX2_addCase_48 : decode cX2_addCase 48 = .ok (.getfield 61, 3) := by decide +kernel
theorem dX2_addCase_51 : decode cX2_addCase 51 = .ok (.iload_n 3, 1) := by decide +kernel
theorem dX2_addCase_52 : decode cX2_addCase 52 = .ok (.iastore, 1) := by decide +kernel
theorem dX2_addCase_53 : decode cX2_addCase 53 = .ok (.aload_n 0, 1) := by decide +kernel
theorem dX2_addCase_54 : decode cX2_addCase 54 = .ok (.dup, 1) := by decide +kernel
theorem dX2_addCase_55 : decode cX2_addCase 55 = .ok (.getfield 61, 3) := by decide +kernel
theorem dX2_addCase_58 : decode cX2_addCase 58 = .ok (.iconst 1, 1) := by decide +kernel
theorem dX2_addCase_59 : decode cX2_addCase 59 = .ok (.iadd, 1) := by decide +kernel
theorem dX2_addCase_60 : decode cX2_addCase 60 = .ok (.putfield 61, 3) := by decide +kernel
theorem dX2_addCase_63 : decode cX2_addCase 63 = .ok (.iload_n 3, 1) := by decide +kernel
theorem dX2_addCase_64 : decode cX2_addCase 64 = .ok (.ireturn, 1) := by decide +kernel
theorem dX2_addJudge_0 : decode cX2_addJudge 0 = .ok (.aload_n 0, 1) := by decide +kernel
theorem dX2_addJudge_1 : decode cX2_addJudge 1 = .ok (.getfield 52, 3) := by decide +kernel
theorem dX2_addJudge_4 : decode cX2_addJudge 4 = .ok (.bipush 6, 2) := by decide +kernel
theorem dX2_addJudge_6 : decode cX2_addJudge 6 = .ok (.if_icmp .lt 4, 3) := by decide +kernel
theorem dX2_addJudge_9 : decode cX2_addJudge 9 = .ok (.return_, 1) := by decide +kernel
theorem dX2_addJudge_10 : decode cX2_addJudge 10 = .ok (.aload_n 0, 1) := by decide +kernel
theorem dX2_addJudge_11 : decode cX2_addJudge 11 = .ok (.getfield 9, 3) := by decide +kernel
theorem dX2_addJudge_14 : decode cX2_addJudge 14 = .ok (.aload_n 0, 1) := by decide +kernel
theorem dX2_addJudge_15 : decode cX2_addJudge 15 = .ok (.getfield 52, 3) := by decide +kernel
theorem dX2_addJudge_18 : decode cX2_addJudge 18 = .ok (.iload_n 1, 1) := by decide +kernel
theorem dX2_addJudge_19 : decode cX2_addJudge 19 = .ok (.iastore, 1) := by decide +kernel
theorem dX2_addJudge_20 : decode cX2_addJudge 20 = .ok (.aload_n 0, 1) := by decide +kernel
theorem dX2_addJudge_21 : decode cX2_addJudge 21 = .ok (.getfield 15, 3) := by decide +kernel
theorem dX2_addJudge_24 : decode cX2_addJudge 24 = .ok (.aload_n 0, 1) := by decide +kernel
theorem dX2_addJudge_25 : decode cX2_addJudge 25 = .ok (.getfield 52, 3) := by decide +kernel
theorem dX2_addJudge_28 : decode cX2_addJudge 28 = .ok (.iload_n 2, 1) := by decide +kernel
theorem dX2_addJudge_29 : decode cX2_addJudge 29 = .ok (.iastore, 1) := by decide +kernel
theorem dX2_addJudge_30 : decode cX2_addJudge 30 = .ok (.aload_n 0, 1) := by decide +kernel
theorem dX2_addJudge_31 : decode cX2_addJudge 31 = .ok (.getfield 18, 3) := by decide +kernel
theorem dX2_addJudge_34 : decode cX2_addJudge 34 = .ok (.aload_n 0, 1) := by decide +kernel
theorem dX2_addJudge_35 : decode cX2_addJudge 35 = .ok (.getfield 52, 3) := by decide +kernel
theorem dX2_addJudge_38 : decode cX2_addJudge 38 = .ok (.iconst 0, 1) := by decide +kernel
theorem dX2_addJudge_39 : decode cX2_addJudge 39 = .ok (.iastore, 1) := by decide +kernel
theorem dX2_addJudge_40 : decode cX2_addJudge 40 = .ok (.aload_n 0, 1) := by decide +kernel
theorem dX2_addJudge_41 : decode cX2_addJudge 41 = .ok (.getfield 21, 3) := by decide +kernel
theorem dX2_addJudge_44 : decode cX2_addJudge 44 = .ok (.aload_n 0, 1) := by decide +kernel
theorem dX2_addJudge_45 : decode cX2_addJudge 45 = .ok (.getfield 52, 3) := by decide +kernel
theorem dX2_addJudge_48 : decode cX2_addJudge 48 = .ok (.iconst 0, 1) := by decide +kernel
theorem dX2_addJudge_49 : decode cX2_addJudge 49 = .ok (.iastore, 1) := by decide +kernel
theorem dX2_addJudge_50 : decode cX2_addJudge 50 = .ok (.aload_n 0, 1) := by decide +kernel
theorem dX2_addJudge_51 : decode cX2_addJudge 51 = .ok (.dup, 1) := by decide +kernel
theorem dX2_addJudge_52 : decode cX2_addJudge 52 = .ok (.getfield 52, 3) := by decide +kernel
theorem dX2_addJudge_55 : decode cX2_addJudge 55 = .ok (.iconst 1, 1) := by decide +kernel
theorem dX2_addJudge_56 : decode cX2_addJudge 56 = .ok (.iadd, 1) := by decide +kernel
theorem dX2_addJudge_57 : decode cX2_addJudge 57 = .ok (.putfield 52, 3) := by decide +kernel
theorem dX2_addJudge_60 : decode cX2_addJudge 60 = .ok (.return_, 1) := by decide +kernel
theorem dX2_casesOf_0 : decode cX2_casesOf 0 = .ok (.iconst 0, 1) := by decide +kernel
theorem dX2_casesOf_1 : decode cX2_casesOf 1 = .ok (.istore_n 2, 1) := by decide +kernel
theorem dX2_casesOf_2 : decode cX2_casesOf 2 = .ok (.iconst 0, 1) := by decide +kernel
theorem dX2_casesOf_3 : decode cX2_casesOf 3 = .ok (.istore_n 3, 1) := by decide +kernel
theorem dX2_casesOf_4 : decode cX2_casesOf 4 = .ok (.iload_n 3, 1) := by decide +kernel
theorem dX2_casesOf_5 : decode cX2_casesOf 5 = .ok (.aload_n 0, 1) := by decide +kernel
theorem dX2_casesOf_6 : decode cX2_casesOf 6 = .ok (.getfield 61, 3) := by decide +kernel
theorem dX2_casesOf_9 : decode cX2_casesOf 9 = .ok (.if_icmp .ge 22, 3) := by decide +kernel
theorem dX2_casesOf_12 : decode cX2_casesOf 12 = .ok (.aload_n 0, 1) := by decide +kernel
theorem dX2_casesOf_13 : decode cX2_casesOf 13 = .ok (.getfield 30, 3) := by decide +kernel
theorem dX2_casesOf_16 : decode cX2_casesOf 16 = .ok (.iload_n 3, 1) := by decide +kernel
theorem dX2_casesOf_17 : decode cX2_casesOf 17 = .ok (.iaload, 1) := by decide +kernel
theorem dX2_casesOf_18 : decode cX2_casesOf 18 = .ok (.iload_n 1, 1) := by decide +kernel
theorem dX2_casesOf_19 : decode cX2_casesOf 19 = .ok (.if_icmp .ne 6, 3) := by decide +kernel
theorem dX2_casesOf_22 : decode cX2_casesOf 22 = .ok (.iinc 2 1, 3) := by decide +kernel
theorem dX2_casesOf_25 : decode cX2_casesOf 25 = .ok (.iinc 3 1, 3) := by decide +kernel
theorem dX2_casesOf_28 : decode cX2_casesOf 28 = .ok (.goto (-24), 3) := by decide +kernel
theorem dX2_casesOf_31 : decode cX2_casesOf 31 = .ok (.iload_n 2, 1) := by decide +kernel
theorem dX2_casesOf_32 : decode cX2_casesOf 32 = .ok (.ireturn, 1) := by decide +kernel
theorem dX2_clearAll_0 : decode cX2_clearAll 0 = .ok (.aload_n 0, 1) := by decide +kernel
theorem dX2_clearAll_1 : decode cX2_clearAll 1 = .ok (.iconst 0, 1) := by decide +kernel
theorem dX2_clearAll_2 : decode cX2_clearAll 2 = .ok (.putfield 52, 3) := by decide +kernel
theorem dX2_clearAll_5 : decode cX2_clearAll 5 = .ok (.aload_n 0, 1) := by decide +kernel
theorem dX2_clearAll_6 : decode cX2_clearAll 6 = .ok (.iconst 0, 1) := by decide +kernel
theorem dX2_clearAll_7 : decode cX2_clearAll 7 = .ok (.putfield 55, 3) := by decide +kernel
theorem dX2_clearAll_10 : decode cX2_clearAll 10 = .ok (.aload_n 0, 1) := by decide +kernel
theorem dX2_clearAll_11 : decode cX2_clearAll 11 = .ok (.iconst 0, 1) := by decide +kernel
theorem dX2_clearAll_12 : decode cX2_clearAll 12 = .ok (.putfield 36, 3) := by decide +kernel
theorem dX2_clearAll_15 : decode cX2_clearAll 15 = .ok (.aload_n 0, 1) := by decide +kernel
theorem dX2_clearAll_16 : decode cX2_clearAll 16 = .ok (.iconst 1, 1) := by decide +kernel
theorem dX2_clearAll_17 : decode cX2_clearAll 17 = .ok (.invokevirtual 64, 3) := by decide +kernel
theorem dX2_clearAll_20 : decode cX2_clearAll 20 = .ok (.return_, 1) := by decide +kernel
theorem dX2_copyFrom_0 : decode cX2_copyFrom 0 = .ok (.aload_n 1, 1) := by decide +kernel
theorem dX2_copyFrom_1 : decode cX2_copyFrom 1 = .ok (.getfield 9, 3) := by decide +kernel
theorem dX2_copyFrom_4 : decode cX2_copyFrom 4 = .ok (.iconst 0, 1) := by decide +kernel
theorem dX2_copyFrom_5 : decode cX2_copyFrom 5 = .ok (.aload_n 0, 1) := by decide +kernel
theorem dX2_copyFrom_6 : decode cX2_copyFrom 6 = .ok (.getfield 9, 3) := by decide +kernel
theorem dX2_copyFrom_9 : decode cX2_copyFrom 9 = .ok (.iconst 0, 1) := by decide +kernel
theorem dX2_copyFrom_10 : decode cX2_copyFrom 10 = .ok (.bipush 6, 2) := by decide +kernel
theorem dX2_copyFrom_12 : decode cX2_copyFrom 12 = .ok (.invokestatic 46, 3) := by decide +kernel
theorem dX2_copyFrom_15 : decode cX2_copyFrom 15 = .ok (.aload_n 1, 1) := by decide +kernel
theorem dX2_copyFrom_16 : decode cX2_copyFrom 16 = .ok (.getfield 15, 3) := by decide +kernel
theorem dX2_copyFrom_19 : decode cX2_copyFrom 19 = .ok (.iconst 0, 1) := by decide +kernel
theorem dX2_copyFrom_20 : decode cX2_copyFrom 20 = .ok (.aload_n 0, 1) := by decide +kernel
theorem dX2_copyFrom_21 : decode cX2_copyFrom 21 = .ok (.getfield 15, 3) := by decide +kernel
theorem dX2_copyFrom_24 : decode cX2_copyFrom 24 = .ok (.iconst 0, 1) := by decide +kernel
theorem dX2_copyFrom_25 : decode cX2_copyFrom 25 = .ok (.bipush 6, 2) := by decide +kernel
theorem dX2_copyFrom_27 : decode cX2_copyFrom 27 = .ok (.invokestatic 46, 3) := by decide +kernel
theorem dX2_copyFrom_30 : decode cX2_copyFrom 30 = .ok (.aload_n 1, 1) := by decide +kernel
theorem dX2_copyFrom_31 : decode cX2_copyFrom 31 = .ok (.getfield 18, 3) := by decide +kernel
theorem dX2_copyFrom_34 : decode cX2_copyFrom 34 = .ok (.iconst 0, 1) := by decide +kernel
theorem dX2_copyFrom_35 : decode cX2_copyFrom 35 = .ok (.aload_n 0, 1) := by decide +kernel
theorem dX2_copyFrom_36 : decode cX2_copyFrom 36 = .ok (.getfield 18, 3) := by decide +kernel
theorem dX2_copyFrom_39 : decode cX2_copyFrom 39 = .ok (.iconst 0, 1) := by decide +kernel
theorem dX2_copyFrom_40 : decode cX2_copyFrom 40 = .ok (.bipush 6, 2) := by decide +kernel
theorem dX2_copyFrom_42 : decode cX2_copyFrom 42 = .ok (.invokestatic 46, 3) := by decide +kernel
theorem dX2_copyFrom_45 : decode cX2_copyFrom 45 = .ok (.aload_n 1, 1) := by decide +kernel
theorem dX2_copyFrom_46 : decode cX2_copyFrom 46 = .ok (.getfield 21, 3) := by decide +kernel
theorem dX2_copyFrom_49 : decode cX2_copyFrom 49 = .ok (.iconst 0, 1) := by decide +kernel
theorem dX2_copyFrom_50 : decode cX2_copyFrom 50 = .ok (.aload_n 0, 1) := by decide +kernel
theorem dX2_copyFrom_51 : decode cX2_copyFrom 51 = .ok (.getfield 21, 3) := by decide +kernel
theorem dX2_copyFrom_54 : decode cX2_copyFrom 54 = .ok (.iconst 0, 1) := by decide +kernel
theorem dX2_copyFrom_55 : decode cX2_copyFrom 55 = .ok (.bipush 6, 2) := by decide +kernel
theorem dX2_copyFrom_57 : decode cX2_copyFrom 57 = .ok (.invokestatic 46, 3) := by decide +kernel
theorem dX2_copyFrom_60 : decode cX2_copyFrom 60 = .ok (.aload_n 1, 1) := by decide +kernel
theorem dX2_copyFrom_61 : decode cX2_copyFrom 61 = .ok (.getfield 24, 3) := by decide +kernel
theorem dX2_copyFrom_64 : decode cX2_copyFrom 64 = .ok (.iconst 0, 1) := by decide +kernel
theorem dX2_copyFrom_65 : decode cX2_copyFrom 65 = .ok (.aload_n 0, 1) := by decide +kernel
theorem dX2_copyFrom_66 : decode cX2_copyFrom 66 = .ok (.getfield 24, 3) := by decide +kernel
theorem dX2_copyFrom_69 : decode cX2_copyFrom 69 = .ok (.iconst 0, 1) := by decide +kernel
theorem dX2_copyFrom_70 : decode cX2_copyFrom 70 = .ok (.bipush 20, 2) := by decide +kernel
theorem dX2_copyFrom_72 : decode cX2_copyFrom 72 = .ok (.invokestatic 46, 3) := by decide +kernel
theorem dX2_copyFrom_75 : decode cX2_copyFrom 75 = .ok (.aload_n 1, 1) := by decide +kernel
theorem dX2_copyFrom_76 : decode cX2_copyFrom 76 = .ok (.getfield 27, 3) := by decide +kernel
theorem dX2_copyFrom_79 : decode cX2_copyFrom 79 = .ok (.iconst 0, 1) := by decide +kernel
theorem dX2_copyFrom_80 : decode cX2_copyFrom 80 = .ok (.aload_n 0, 1) := by decide +kernel
theorem dX2_copyFrom_81 : decode cX2_copyFrom 81 = .ok (.getfield 27, 3) := by decide +kernel
theorem dX2_copyFrom_84 : decode cX2_copyFrom 84 = .ok (.iconst 0, 1) := by decide +kernel
theorem dX2_copyFrom_85 : decode cX2_copyFrom 85 = .ok (.bipush 20, 2) := by decide +kernel
theorem dX2_copyFrom_87 : decode cX2_copyFrom 87 = .ok (.invokestatic 46, 3) := by decide +kernel
theorem dX2_copyFrom_90 : decode cX2_copyFrom 90 = .ok (.aload_n 1, 1) := by decide +kernel
theorem dX2_copyFrom_91 : decode cX2_copyFrom 91 = .ok (.getfield 30, 3) := by decide +kernel
theorem dX2_copyFrom_94 : decode cX2_copyFrom 94 = .ok (.iconst 0, 1) := by decide +kernel
theorem dX2_copyFrom_95 : decode cX2_copyFrom 95 = .ok (.aload_n 0, 1) := by decide +kernel
theorem dX2_copyFrom_96 : decode cX2_copyFrom 96 = .ok (.getfield 30, 3) := by decide +kernel
theorem dX2_copyFrom_99 : decode cX2_copyFrom 99 = .ok (.iconst 0, 1) := by decide +kernel
theorem dX2_copyFrom_100 : decode cX2_copyFrom 100 = .ok (.bipush 20, 2) := by decide +kernel
theorem dX2_copyFrom_102 : decode cX2_copyFrom 102 = .ok (.invokestatic 46, 3) := by decide +kernel
theorem dX2_copyFrom_105 : decode cX2_copyFrom 105 = .ok (.aload_n 0, 1) := by decide +kernel
theorem dX2_copyFrom_106 : decode cX2_copyFrom 106 = .ok (.aload_n 1, 1) := by decide +kernel
theorem dX2_copyFrom_107 : decode cX2_copyFrom 107 = .ok (.getfield 52, 3) := by decide +kernel
theorem dX2_copyFrom_110 : decode cX2_copyFrom 110 = .ok (.putfield 52, 3) := by decide +kernel
theorem dX2_copyFrom_113 : decode cX2_copyFrom 113 = .ok (.aload_n 0, 1) := by decide +kernel
theorem dX2_copyFrom_114 : decode cX2_copyFrom 114 = .ok (.aload_n 1, 1) := by decide +kernel
theorem dX2_copyFrom_115 : decode cX2_copyFrom 115 = .ok (.getfield 55, 3) := by decide +kernel
theorem dX2_copyFrom_118 : decode cX2_copyFrom 118 = .ok (.putfield 55, 3) := by decide +kernel
theorem dX2_copyFrom_121 : decode cX2_copyFrom 121 = .ok (.aload_n 0, 1) := by decide +kernel
theorem dX2_copyFrom_122 : decode cX2_copyFrom 122 = .ok (.aload_n 1, 1) := by decide +kernel
theorem dX2_copyFrom_123 : decode cX2_copyFrom 123 = .ok (.getfield 36, 3) := by decide +kernel
theorem dX2_copyFrom_126 : decode cX2_copyFrom 126 = .ok (.putfield 36, 3) := by decide +kernel
theorem dX2_copyFrom_129 : decode cX2_copyFrom 129 = .ok (.aload_n 0, 1) := by decide +kernel
theorem dX2_copyFrom_130 : decode cX2_copyFrom 130 = .ok (.aload_n 1, 1) := by decide +kernel
theorem dX2_copyFrom_131 : decode cX2_copyFrom 131 = .ok (.getfield 40, 3) := by decide +kernel
theorem dX2_copyFrom_134 : decode cX2_copyFrom 134 = .ok (.putfield 40, 3) := by decide +kernel
theorem dX2_copyFrom_137 : decode cX2_copyFrom 137 = .ok (.aload_n 0, 1) := by decide +kernel
theorem dX2_copyFrom_138 : decode cX2_copyFrom 138 = .ok (.aload_n 1, 1) := by decide +kernel
theorem dX2_copyFrom_139 : decode cX2_copyFrom 139 = .ok (.getfield 43, 3) := by decide +kernel
theorem dX2_copyFrom_142 : decode cX2_copyFrom 142 = .ok (.putfield 43, 3) := by decide +kernel
theorem dX2_copyFrom_145 : decode cX2_copyFrom 145 = .ok (.aload_n 0, 1) := by decide +kernel
theorem dX2_copyFrom_146 : decode cX2_copyFrom 146 = .ok (.aload_n 1, 1) := by decide +kernel
theorem dX2_copyFrom_147 : decode cX2_copyFrom 147 = .ok (.getfield 58, 3) := by decide +kernel
theorem dX2_copyFrom_150 : decode cX2_copyFrom 150 = .ok (.putfield 58, 3) := by decide +kernel
theorem dX2_copyFrom_153 : decode cX2_copyFrom 153 = .ok (.aload_n 0, 1) := by decide +kernel
theorem dX2_copyFrom_154 : decode cX2_copyFrom 154 = .ok (.aload_n 1, 1) := by decide +kernel
theorem dX2_copyFrom_155 : decode cX2_copyFrom 155 = .ok (.getfield 61, 3) := by decide +kernel
theorem dX2_copyFrom_158 : decode cX2_copyFrom 158 = .ok (.putfield 61, 3) := by decide +kernel
theorem dX2_copyFrom_161 : decode cX2_copyFrom 161 = .ok (.return_, 1) := by decide +kernel
theorem dX2_drawBelow_0 : decode cX2_drawBelow 0 = .ok (.iload_n 1, 1) := by decide +kernel
theorem dX2_drawBelow_1 : decode cX2_drawBelow 1 = .ok (.iconst 1, 1) := by decide +kernel
theorem dX2_drawBelow_2 : decode cX2_drawBelow 2 = .ok (.if_icmp .ge 5, 3) := by decide +kernel
theorem dX2_drawBelow_5 : decode cX2_drawBelow 5 = .ok (.iconst 0, 1) := by decide +kernel
theorem dX2_drawBelow_6 : decode cX2_drawBelow 6 = .ok (.ireturn, 1) := by decide +kernel
theorem dX2_drawBelow_7 : decode cX2_drawBelow 7 = .ok (.iload_n 1, 1) := by decide +kernel
theorem dX2_drawBelow_8 : decode cX2_drawBelow 8 = .ok (.i2l, 1) := by decide +kernel
theorem dX2_drawBelow_9 : decode cX2_drawBelow 9 = .ok (.ldc2_w 108, 3) := by decide +kernel
theorem dX2_drawBelow_12 : decode cX2_drawBelow 12 = .ok (.iload_n 1, 1) := by decide +kernel
theorem dX2_drawBelow_13 : decode cX2_drawBelow 13 = .ok (.i2l, 1) := by decide +kernel
theorem dX2_drawBelow_14 : decode cX2_drawBelow 14 = .ok (.ldiv, 1) := by decide +kernel
theorem dX2_drawBelow_15 : decode cX2_drawBelow 15 = .ok (.lmul, 1) := by decide +kernel
theorem dX2_drawBelow_16 : decode cX2_drawBelow 16 = .ok (.lstore_n 2, 1) := by decide +kernel
theorem dX2_drawBelow_17 : decode cX2_drawBelow 17 = .ok (.iconst 0, 1) := by decide +kernel
theorem dX2_drawBelow_18 : decode cX2_drawBelow 18 = .ok (.istore 4, 2) := by decide +kernel
theorem dX2_drawBelow_20 : decode cX2_drawBelow 20 = .ok (.iload 4, 2) := by decide +kernel
theorem dX2_drawBelow_22 : decode cX2_drawBelow 22 = .ok (.ldc 101, 2) := by decide +kernel
theorem dX2_drawBelow_24 : decode cX2_drawBelow 24 = .ok (.if_icmp .ge 51, 3) := by decide +kernel
theorem dX2_drawBelow_27 : decode cX2_drawBelow 27 = .ok (.aload_n 0, 1) := by decide +kernel
theorem dX2_drawBelow_28 : decode cX2_drawBelow 28 = .ok (.aload_n 0, 1) := by decide +kernel
theorem dX2_drawBelow_29 : decode cX2_drawBelow 29 = .ok (.getfield 43, 3) := by decide +kernel
theorem dX2_drawBelow_32 : decode cX2_drawBelow 32 = .ok (.invokestatic 110, 3) := by decide +kernel
theorem dX2_drawBelow_35 : decode cX2_drawBelow 35 = .ok (.putfield 43, 3) := by decide +kernel
theorem dX2_drawBelow_38 : decode cX2_drawBelow 38 = .ok (.aload_n 0, 1) := by decide +kernel
theorem dX2_drawBelow_39 : decode cX2_drawBelow 39 = .ok (.dup, 1) := by decide +kernel
theorem dX2_drawBelow_40 : decode cX2_drawBelow 40 = .ok (.getfield 58, 3) := by decide +kernel
theorem dX2_drawBelow_43 : decode cX2_drawBelow 43 = .ok (.iconst 1, 1) := by decide +kernel
theorem dX2_drawBelow_44 : decode cX2_drawBelow 44 = .ok (.iadd, 1) := by decide +kernel
theorem dX2_drawBelow_45 : decode cX2_drawBelow 45 = .ok (.putfield 58, 3) := by decide +kernel
theorem dX2_drawBelow_48 : decode cX2_drawBelow 48 = .ok (.aload_n 0, 1) := by decide +kernel
theorem dX2_drawBelow_49 : decode cX2_drawBelow 49 = .ok (.getfield 43, 3) := by decide +kernel
theorem dX2_drawBelow_52 : decode cX2_drawBelow 52 = .ok (.iconst 1, 1) := by decide +kernel
theorem dX2_drawBelow_53 : decode cX2_drawBelow 53 = .ok (.iushr, 1) := by decide +kernel
theorem dX2_drawBelow_54 : decode cX2_drawBelow 54 = .ok (.istore 5, 2) := by decide +kernel
theorem dX2_drawBelow_56 : decode cX2_drawBelow 56 = .ok (.iload 5, 2) := by decide +kernel
theorem dX2_drawBelow_58 : decode cX2_drawBelow 58 = .ok (.i2l, 1) := by decide +kernel
theorem dX2_drawBelow_59 : decode cX2_drawBelow 59 = .ok (.lload_n 2, 1) := by decide +kernel
theorem dX2_drawBelow_60 : decode cX2_drawBelow 60 = .ok (.lcmp, 1) := by decide +kernel
theorem dX2_drawBelow_61 : decode cX2_drawBelow 61 = .ok (.ifCond .ge 8, 3) := by decide +kernel
theorem dX2_drawBelow_64 : decode cX2_drawBelow 64 = .ok (.iload 5, 2) := by decide +kernel
theorem dX2_drawBelow_66 : decode cX2_drawBelow 66 = .ok (.iload_n 1, 1) := by decide +kernel
theorem dX2_drawBelow_67 : decode cX2_drawBelow 67 = .ok (.irem, 1) := by decide +kernel
theorem dX2_drawBelow_68 : decode cX2_drawBelow 68 = .ok (.ireturn, 1) := by decide +kernel
theorem dX2_drawBelow_69 : decode cX2_drawBelow 69 = .ok (.iinc 4 1, 3) := by decide +kernel
theorem dX2_drawBelow_72 : decode cX2_drawBelow 72 = .ok (.goto (-52), 3) := by decide +kernel
theorem dX2_drawBelow_75 : decode cX2_drawBelow 75 = .ok (.iconst 0, 1) := by decide +kernel
theorem dX2_drawBelow_76 : decode cX2_drawBelow 76 = .ok (.ireturn, 1) := by decide +kernel
theorem dX2_drawCaseAgain_0 : decode cX2_drawCaseAgain 0 = .ok (.aload_n 0, 1) := by decide +kernel
theorem dX2_drawCaseAgain_1 : decode cX2_drawCaseAgain 1 = .ok (.getfield 18, 3) := by decide +kernel
theorem dX2_drawCaseAgain_4 : decode cX2_drawCaseAgain 4 = .ok (.aload_n 0, 1) := by decide +kernel
theorem dX2_drawCaseAgain_5 : decode cX2_drawCaseAgain 5 = .ok (.getfield 30, 3) := by decide +kernel
theorem dX2_drawCaseAgain_8 : decode cX2_drawCaseAgain 8 = .ok (.iload_n 1, 1) := by decide +kernel
theorem dX2_drawCaseAgain_9 : decode cX2_drawCaseAgain 9 = .ok (.iaload, 1) := by decide +kernel
theorem dX2_drawCaseAgain_10 : decode cX2_drawCaseAgain 10 = .ok (.dup2, 1) := by decide +kernel
theorem dX2_drawCaseAgain_11 : decode cX2_drawCaseAgain 11 = .ok (.iaload, 1) := by decide +kernel
theorem dX2_drawCaseAgain_12 : decode cX2_drawCaseAgain 12 = .ok (.iconst 1, 1) := by decide +kernel
theorem dX2_drawCaseAgain_13 : decode cX2_drawCaseAgain 13 = .ok (.aload_n 0, 1) := by decide +kernel
theorem dX2_drawCaseAgain_14 : decode cX2_drawCaseAgain 14 = .ok (.getfield 27, 3) := by decide +kernel
theorem dX2_drawCaseAgain_17 : decode cX2_drawCaseAgain 17 = .ok (.iload_n 1, 1) := by decide +kernel
theorem dX2_drawCaseAgain_18 : decode cX2_drawCaseAgain 18 = .ok (.iaload, 1) := by decide +kernel
theorem dX2_drawCaseAgain_19 : decode cX2_drawCaseAgain 19 = .ok (.ishl, 1) := by decide +kernel
theorem dX2_drawCaseAgain_20 : decode cX2_drawCaseAgain 20 = .ok (.ior, 1) := by decide +kernel
theorem dX2_drawCaseAgain_21 : decode cX2_drawCaseAgain 21 = .ok (.iastore, 1) := by decide +kernel
theorem dX2_drawCaseAgain_22 : decode cX2_drawCaseAgain 22 = .ok (.aload_n 0, 1) := by decide +kernel
theorem dX2_drawCaseAgain_23 : decode cX2_drawCaseAgain 23 = .ok (.aload_n 0, 1) := by decide +kernel
theorem dX2_drawCaseAgain_24 : decode cX2_drawCaseAgain 24 = .ok (.getfield 24, 3) := by decide +kernel
theorem dX2_drawCaseAgain_27 : decode cX2_drawCaseAgain 27 = .ok (.iload_n 1, 1) := by decide +kernel
theorem dX2_drawCaseAgain_28 : decode cX2_drawCaseAgain 28 = .ok (.iaload, 1) := by decide +kernel
theorem dX2_drawCaseAgain_29 : decode cX2_drawCaseAgain 29 = .ok (.aload_n 0, 1) := by decide +kernel
theorem dX2_drawCaseAgain_30 : decode cX2_drawCaseAgain 30 = .ok (.getfield 27, 3) := by decide +kernel
theorem dX2_drawCaseAgain_33 : decode cX2_drawCaseAgain 33 = .ok (.iload_n 1, 1) := by decide +kernel
theorem dX2_drawCaseAgain_34 : decode cX2_drawCaseAgain 34 = .ok (.iaload, 1) := by decide +kernel
theorem dX2_drawCaseAgain_35 : decode cX2_drawCaseAgain 35 = .ok (.invokevirtual 116, 3) := by decide +kernel
theorem dX2_drawCaseAgain_38 : decode cX2_drawCaseAgain 38 = .ok (.istore_n 2, 1) := by decide +kernel
theorem dX2_drawCaseAgain_39 : decode cX2_drawCaseAgain 39 = .ok (.aload_n 0, 1) := by decide +kernel
theorem dX2_drawCaseAgain_40 : decode cX2_drawCaseAgain 40 = .ok (.iload_n 2, 1) := by decide +kernel
theorem dX2_drawCaseAgain_41 : decode cX2_drawCaseAgain 41 = .ok (.invokevirtual 119, 3) := by decide +kernel
theorem dX2_drawCaseAgain_44 : decode cX2_drawCaseAgain 44 = .ok (.aload_n 0, 1) := by decide +kernel
theorem dX2_drawCaseAgain_45 : decode cX2_drawCaseAgain 45 = .ok (.getfield 30, 3) := by decide +kernel
theorem dX2_drawCaseAgain_48 : decode cX2_drawCaseAgain 48 = .ok (.iload_n 1, 1) := by decide +kernel
theorem dX2_drawCaseAgain_49 : decode cX2_drawCaseAgain 49 = .ok (.iload_n 2, 1) := by decide +kernel
theorem dX2_drawCaseAgain_50 : decode cX2_drawCaseAgain 50 = .ok (.iastore, 1) := by decide +kernel
theorem dX2_drawCaseAgain_51 : decode cX2_drawCaseAgain 51 = .ok (.iload_n 2, 1) := by decide +kernel
theorem dX2_drawCaseAgain_52 : decode cX2_drawCaseAgain 52 = .ok (.ireturn, 1) := by decide +kernel
theorem dX2_drawJudge_0 : decode cX2_drawJudge 0 = .ok (.aload_n 0, 1) := by decide +kernel
theorem dX2_drawJudge_1 : decode cX2_drawJudge 1 = .ok (.iload_n 1, 1) := by decide +kernel
theorem dX2_drawJudge_2 : decode cX2_drawJudge 2 = .ok (.invokevirtual 97, 3) := by decide +kernel
theorem dX2_drawJudge_5 : decode cX2_drawJudge 5 = .ok (.istore_n 3, 1) := by decide +kernel
theorem dX2_drawJudge_6 : decode cX2_drawJudge 6 = .ok (.iconst 0, 1) := by decide +kernel
theorem dX2_drawJudge_7 : decode cX2_drawJudge 7 = .ok (.istore 4, 2) := by decide +kernel
theorem dX2_drawJudge_9 : decode cX2_drawJudge 9 = .ok (.iload 4, 2) := by decide +kernel
theorem dX2_drawJudge_11 : decode cX2_drawJudge 11 = .ok (.ldc 101, 2) := by decide +kernel
theorem dX2_drawJudge_13 : decode cX2_drawJudge 13 = .ok (.if_icmp .ge 33, 3) := by decide +kernel
theorem dX2_drawJudge_16 : decode cX2_drawJudge 16 = .ok (.aload_n 0, 1) := by decide +kernel
theorem dX2_drawJudge_17 : decode cX2_drawJudge 17 = .ok (.aload_n 0, 1) := by decide +kernel
theorem dX2_drawJudge_18 : decode cX2_drawJudge 18 = .ok (.iload_n 3, 1) := by decide +kernel
theorem dX2_drawJudge_19 : decode cX2_drawJudge 19 = .ok (.invokevirtual 102, 3) := by decide +kernel
theorem dX2_drawJudge_22 : decode cX2_drawJudge 22 = .ok (.invokevirtual 105, 3) := by decide +kernel
theorem dX2_drawJudge_25 : decode cX2_drawJudge 25 = .ok (.istore 5, 2) := by decide +kernel
theorem dX2_drawJudge_27 : decode cX2_drawJudge 27 = .ok (.aload_n 0, 1) := by decide +kernel
theorem dX2_drawJudge_28 : decode cX2_drawJudge 28 = .ok (.iload 5, 2) := by decide +kernel
theorem dX2_drawJudge_30 : decode cX2_drawJudge 30 = .ok (.iload_n 2, 1) := by decide +kernel
theorem dX2_drawJudge_31 : decode cX2_drawJudge 31 = .ok (.invokevirtual 82, 3) := by decide +kernel
theorem dX2_drawJudge_34 : decode cX2_drawJudge 34 = .ok (.ifCond .eq 6, 3) := by decide +kernel
theorem dX2_drawJudge_37 : decode cX2_drawJudge 37 = .ok (.iload 5, 2) := by decide +kernel
theorem dX2_drawJudge_39 : decode cX2_drawJudge 39 = .ok (.ireturn, 1) := by decide +kernel
theorem dX2_drawJudge_40 : decode cX2_drawJudge 40 = .ok (.iinc 4 1, 3) := by decide +kernel
theorem dX2_drawJudge_43 : decode cX2_drawJudge 43 = .ok (.goto (-34), 3) := by decide +kernel
theorem dX2_drawJudge_46 : decode cX2_drawJudge 46 = .ok (.iconst 0, 1) := by decide +kernel
theorem dX2_drawJudge_47 : decode cX2_drawJudge 47 = .ok (.ireturn, 1) := by decide +kernel
theorem dX2_everyCaseHasSomeone_0 : decode cX2_everyCaseHasSomeone 0 = .ok (.iconst 0, 1) := by decide +kernel
theorem dX2_everyCaseHasSomeone_1 : decode cX2_everyCaseHasSomeone 1 = .ok (.istore_n 1, 1) := by decide +kernel
theorem dX2_everyCaseHasSomeone_2 : decode cX2_everyCaseHasSomeone 2 = .ok (.iload_n 1, 1) := by decide +kernel
theorem dX2_everyCaseHasSomeone_3 : decode cX2_everyCaseHasSomeone 3 = .ok (.aload_n 0, 1) := by decide +kernel
theorem dX2_everyCaseHasSomeone_4 : decode cX2_everyCaseHasSomeone 4 = .ok (.getfield 61, 3) := by decide +kernel
theorem dX2_everyCaseHasSomeone_7 : decode cX2_everyCaseHasSomeone 7 = .ok (.if_icmp .ge 25, 3) := by decide +kernel
theorem dX2_everyCaseHasSomeone_10 : decode cX2_everyCaseHasSomeone 10 = .ok (.aload_n 0, 1) := by decide +kernel
theorem dX2_everyCaseHasSomeone_11 : decode cX2_everyCaseHasSomeone 11 = .ok (.aload_n 0, 1) := by decide +kernel
theorem dX2_everyCaseHasSomeone_12 : decode cX2_everyCaseHasSomeone 12 = .ok (.getfield 27, 3) := by decide +kernel
theorem dX2_everyCaseHasSomeone_15 : decode cX2_everyCaseHasSomeone 15 = .ok (.iload_n 1, 1) := by decide +kernel
theorem dX2_everyCaseHasSomeone_16 : decode cX2_everyCaseHasSomeone 16 = .ok (.iaload, 1) := by decide +kernel
theorem dX2_everyCaseHasSomeone_17 : decode cX2_everyCaseHasSomeone 17 = .ok (.iconst (-1), 1) := by decide +kernel
theorem dX2_everyCaseHasSomeone_18 : decode cX2_everyCaseHasSomeone 18 = .ok (.invokevirtual 85, 3) := by decide +kernel
theorem dX2_everyCaseHasSomeone_21 : decode cX2_everyCaseHasSomeone 21 = .ok (.ifCond .ne 5, 3) := by decide +kernel
theorem dX2_everyCaseHasSomeone_24 : decode cX2_everyCaseHasSomeone 24 = .ok (.iconst 0, 1) := by decide +kernel
theorem dX2_everyCaseHasSomeone_25 : decode cX2_everyCaseHasSomeone 25 = .ok (.ireturn, 1) := by decide +kernel
theorem dX2_everyCaseHasSomeone_26 : decode cX2_everyCaseHasSomeone 26 = .ok (.iinc 1 1, 3) := by decide +kernel
theorem dX2_everyCaseHasSomeone_29 : decode cX2_everyCaseHasSomeone 29 = .ok (.goto (-27), 3) := by decide +kernel
theorem dX2_everyCaseHasSomeone_32 : decode cX2_everyCaseHasSomeone 32 = .ok (.iconst 1, 1) := by decide +kernel
theorem dX2_everyCaseHasSomeone_33 : decode cX2_everyCaseHasSomeone 33 = .ok (.ireturn, 1) := by decide +kernel
theorem dX2_hasCase_0 : decode cX2_hasCase 0 = .ok (.iload_n 1, 1) := by decide +kernel
theorem dX2_hasCase_1 : decode cX2_hasCase 1 = .ok (.ifCond .lt 15, 3) := by decide +kernel
theorem dX2_hasCase_4 : decode cX2_hasCase 4 = .ok (.iload_n 1, 1) := by decide +kernel
theorem dX2_hasCase_5 : decode cX2_hasCase 5 = .ok (.aload_n 0, 1) := by decide +kernel
theorem dX2_hasCase_6 : decode cX2_hasCase 6 = .ok (.getfield 61, 3) := by decide +kernel
theorem dX2_hasCase_9 : decode cX2_hasCase 9 = .ok (.if_icmp .ge 7, 3) := by decide +kernel
theorem dX2_hasCase_12 : decode cX2_hasCase 12 = .ok (.iconst 1, 1) := by decide +kernel
theorem dX2_hasCase_13 : decode cX2_hasCase 13 = .ok (.goto 4, 3) := by decide +kernel
theorem dX2_hasCase_16 : decode cX2_hasCase 16 = .ok (.iconst 0, 1) := by decide +kernel
theorem dX2_hasCase_17 : decode cX2_hasCase 17 = .ok (.ireturn, 1) := by decide +kernel
theorem dX2_hasJudge_0 : decode cX2_hasJudge 0 = .ok (.iload_n 1, 1) := by decide +kernel
theorem dX2_hasJudge_1 : decode cX2_hasJudge 1 = .ok (.ifCond .lt 15, 3) := by decide +kernel
theorem dX2_hasJudge_4 : decode cX2_hasJudge 4 = .ok (.iload_n 1, 1) := by decide +kernel
theorem dX2_hasJudge_5 : decode cX2_hasJudge 5 = .ok (.aload_n 0, 1) := by decide +kernel
theorem dX2_hasJudge_6 : decode cX2_hasJudge 6 = .ok (.getfield 52, 3) := by decide +kernel
theorem dX2_hasJudge_9 : decode cX2_hasJudge 9 = .ok (.if_icmp .ge 7, 3) := by decide +kernel
theorem dX2_hasJudge_12 : decode cX2_hasJudge 12 = .ok (.iconst 1, 1) := by decide +kernel
theorem dX2_hasJudge_13 : decode cX2_hasJudge 13 = .ok (.goto 4, 3) := by decide +kernel
theorem dX2_hasJudge_16 : decode cX2_hasJudge 16 = .ok (.iconst 0, 1) := by decide +kernel
theorem dX2_hasJudge_17 : decode cX2_hasJudge 17 = .ok (.ireturn, 1) := by decide +kernel
theorem dX2_hasSomeoneFor_0 : decode cX2_hasSomeoneFor 0 = .ok (.iconst 0, 1) := by decide +kernel
theorem dX2_hasSomeoneFor_1 : decode cX2_hasSomeoneFor 1 = .ok (.istore_n 3, 1) := by decide +kernel
theorem dX2_hasSomeoneFor_2 : decode cX2_hasSomeoneFor 2 = .ok (.iload_n 3, 1) := by decide +kernel
theorem dX2_hasSomeoneFor_3 : decode cX2_hasSomeoneFor 3 = .ok (.aload_n 0, 1) := by decide +kernel
theorem dX2_hasSomeoneFor_4 : decode cX2_hasSomeoneFor 4 = .ok (.getfield 52, 3) := by decide +kernel
theorem dX2_hasSomeoneFor_7 : decode cX2_hasSomeoneFor 7 = .ok (.if_icmp .ge 25, 3) := by decide +kernel
theorem dX2_hasSomeoneFor_10 : decode cX2_hasSomeoneFor 10 = .ok (.iload_n 3, 1) := by decide +kernel
theorem dX2_hasSomeoneFor_11 : decode cX2_hasSomeoneFor 11 = .ok (.iload_n 2, 1) := by decide +kernel
theorem dX2_hasSomeoneFor_12 : decode cX2_hasSomeoneFor 12 = .ok (.if_icmp .eq 14, 3) := by decide +kernel
theorem dX2_hasSomeoneFor_15 : decode cX2_hasSomeoneFor 15 = .ok (.aload_n 0, 1) := by decide +kernel
theorem dX2_hasSomeoneFor_16 : decode cX2_hasSomeoneFor 16 = .ok (.iload_n 3, 1) := by decide +kernel
theorem dX2_hasSomeoneFor_17 : decode cX2_hasSomeoneFor 17 = .ok (.iload_n 1, 1) := by decide +kernel
theorem dX2_hasSomeoneFor_18 : decode cX2_hasSomeoneFor 18 = .ok (.invokevirtual 82, 3) := by decide +kernel
theorem dX2_hasSomeoneFor_21 : decode cX2_hasSomeoneFor 21 = .ok (.ifCond .eq 5, 3) := by decide +kernel
theorem dX2_hasSomeoneFor_24 : decode cX2_hasSomeoneFor 24 = .ok (.iconst 1, 1) := by decide +kernel
theorem dX2_hasSomeoneFor_25 : decode cX2_hasSomeoneFor 25 = .ok (.ireturn, 1) := by decide +kernel
theorem dX2_hasSomeoneFor_26 : decode cX2_hasSomeoneFor 26 = .ok (.iinc 3 1, 3) := by decide +kernel
theorem dX2_hasSomeoneFor_29 : decode cX2_hasSomeoneFor 29 = .ok (.goto (-27), 3) := by decide +kernel
theorem dX2_hasSomeoneFor_32 : decode cX2_hasSomeoneFor 32 = .ok (.iconst 0, 1) := by decide +kernel
theorem dX2_hasSomeoneFor_33 : decode cX2_hasSomeoneFor 33 = .ok (.ireturn, 1) := by decide +kernel
theorem dX2_init_0 : decode cX2_init 0 = .ok (.aload_n 0, 1) := by decide +kernel
theorem dX2_init_1 : decode cX2_init 1 = .ok (.invokespecial 3, 3) := by decide +kernel
theorem dX2_init_4 : decode cX2_init 4 = .ok (.aload_n 0, 1) := by decide +kernel
theorem dX2_init_5 : decode cX2_init 5 = .ok (.bipush 6, 2) := by decide +kernel
theorem dX2_init_7 : decode cX2_init 7 = .ok (.newarray .int, 2) := by decide +kernel
theorem dX2_init_9 : decode cX2_init 9 = .ok (.putfield 9, 3) := by decide +kernel
theorem dX2_init_12 : decode cX2_init 12 = .ok (.aload_n 0, 1) := by decide +kernel
theorem dX2_init_13 : decode cX2_init 13 = .ok (.bipush 6, 2) := by decide +kernel
theorem dX2_init_15 : decode cX2_init 15 = .ok (.newarray .int, 2) := by decide +kernel
theorem dX2_init_17 : decode cX2_init 17 = .ok (.putfield 15, 3) := by decide +kernel
theorem dX2_init_20 : decode cX2_init 20 = .ok (.aload_n 0, 1) := by decide +kernel
theorem dX2_init_21 : decode cX2_init 21 = .ok (.bipush 6, 2) := by decide +kernel
theorem dX2_init_23 : decode cX2_init 23 = .ok (.newarray .int, 2) := by decide +kernel
theorem dX2_init_25 : decode cX2_init 25 = .ok (.putfield 18, 3) := by decide +kernel
theorem dX2_init_28 : decode cX2_init 28 = .ok (.aload_n 0, 1) := by decide +kernel
theorem dX2_init_29 : decode cX2_init 29 = .ok (.bipush 6, 2) := by decide +kernel
theorem dX2_init_31 : decode cX2_init 31 = .ok (.newarray .int, 2) := by decide +kernel
theorem dX2_init_33 : decode cX2_init 33 = .ok (.putfield 21, 3) := by decide +kernel
theorem dX2_init_36 : decode cX2_init 36 = .ok (.aload_n 0, 1) := by decide +kernel
theorem dX2_init_37 : decode cX2_init 37 = .ok (.bipush 20, 2) := by decide +kernel
theorem dX2_init_39 : decode cX2_init 39 = .ok (.newarray .int, 2) := by decide +kernel
theorem dX2_init_41 : decode cX2_init 41 = .ok (.putfield 24, 3) := by decide +kernel
theorem dX2_init_44 : decode cX2_init 44 = .ok (.aload_n 0, 1) := by decide +kernel
theorem dX2_init_45 : decode cX2_init 45 = .ok (.bipush 20, 2) := by decide +kernel
theorem dX2_init_47 : decode cX2_init 47 = .ok (.newarray .int, 2) := by decide +kernel
theorem dX2_init_49 : decode cX2_init 49 = .ok (.putfield 27, 3) := by decide +kernel
theorem dX2_init_52 : decode cX2_init 52 = .ok (.aload_n 0, 1) := by decide +kernel
theorem dX2_init_53 : decode cX2_init 53 = .ok (.bipush 20, 2) := by decide +kernel
theorem dX2_init_55 : decode cX2_init 55 = .ok (.newarray .int, 2) := by decide +kernel
theorem dX2_init_57 : decode cX2_init 57 = .ok (.putfield 30, 3) := by decide +kernel
theorem dX2_init_60 : decode cX2_init 60 = .ok (.aload_n 0, 1) := by decide +kernel
theorem dX2_init_61 : decode cX2_init 61 = .ok (.bipush 6, 2) := by decide +kernel
theorem dX2_init_63 : decode cX2_init 63 = .ok (.newarray .int, 2) := by decide +kernel
theorem dX2_init_65 : decode cX2_init 65 = .ok (.putfield 33, 3) := by decide +kernel
theorem dX2_init_68 : decode cX2_init 68 = .ok (.aload_n 0, 1) := by decide +kernel
theorem dX2_init_69 : decode cX2_init 69 = .ok (.iconst 0, 1) := by decide +kernel
theorem dX2_init_70 : decode cX2_init 70 = .ok (.putfield 36, 3) := by decide +kernel
theorem dX2_init_73 : decode cX2_init 73 = .ok (.aload_n 0, 1) := by decide +kernel
theorem dX2_init_74 : decode cX2_init 74 = .ok (.iconst 1, 1) := by decide +kernel
theorem dX2_init_75 : decode cX2_init 75 = .ok (.putfield 40, 3) := by decide +kernel
theorem dX2_init_78 : decode cX2_init 78 = .ok (.aload_n 0, 1) := by decide +kernel
theorem dX2_init_79 : decode cX2_init 79 = .ok (.iconst 1, 1) := by decide +kernel
theorem dX2_init_80 : decode cX2_init 80 = .ok (.putfield 43, 3) := by decide +kernel
theorem dX2_init_83 : decode cX2_init 83 = .ok (.return_, 1) := by decide +kernel
theorem dX2_isAway_0 : decode cX2_isAway 0 = .ok (.aload_n 0, 1) := by decide +kernel
theorem dX2_isAway_1 : decode cX2_isAway 1 = .ok (.getfield 55, 3) := by decide +kernel
theorem dX2_isAway_4 : decode cX2_isAway 4 = .ok (.iload_n 1, 1) := by decide +kernel
theorem dX2_isAway_5 : decode cX2_isAway 5 = .ok (.ishr, 1) := by decide +kernel
theorem dX2_isAway_6 : decode cX2_isAway 6 = .ok (.iconst 1, 1) := by decide +kernel
theorem dX2_isAway_7 : decode cX2_isAway 7 = .ok (.iand, 1) := by decide +kernel
theorem dX2_isAway_8 : decode cX2_isAway 8 = .ok (.iconst 1, 1) := by decide +kernel
theorem dX2_isAway_9 : decode cX2_isAway 9 = .ok (.if_icmp .ne 7, 3) := by decide +kernel
theorem dX2_isAway_12 : decode cX2_isAway 12 = .ok (.iconst 1, 1) := by decide +kernel
theorem dX2_isAway_13 : decode cX2_isAway 13 = .ok (.goto 4, 3) := by decide +kernel
theorem dX2_isAway_16 : decode cX2_isAway 16 = .ok (.iconst 0, 1) := by decide +kernel
theorem dX2_isAway_17 : decode cX2_isAway 17 = .ok (.ireturn, 1) := by decide +kernel
theorem dX2_isBarred_0 : decode cX2_isBarred 0 = .ok (.aload_n 0, 1) := by decide +kernel
theorem dX2_isBarred_1 : decode cX2_isBarred 1 = .ok (.getfield 18, 3) := by decide +kernel
theorem dX2_isBarred_4 : decode cX2_isBarred 4 = .ok (.iload_n 1, 1) := by decide +kernel
theorem dX2_isBarred_5 : decode cX2_isBarred 5 = .ok (.iaload, 1) := by decide +kernel
theorem dX2_isBarred_6 : decode cX2_isBarred 6 = .ok (.iload_n 2, 1) := by decide +kernel
theorem dX2_isBarred_7 : decode cX2_isBarred 7 = .ok (.ishr, 1) := by decide +kernel
theorem dX2_isBarred_8 : decode cX2_isBarred 8 = .ok (.iconst 1, 1) := by decide +kernel
theorem dX2_isBarred_9 : decode cX2_isBarred 9 = .ok (.iand, 1) := by decide +kernel
theorem dX2_isBarred_10 : decode cX2_isBarred 10 = .ok (.iconst 1, 1) := by decide +kernel
theorem dX2_isBarred_11 : decode cX2_isBarred 11 = .ok (.if_icmp .ne 7, 3) := by decide +kernel
theorem dX2_isBarred_14 : decode cX2_isBarred 14 = .ok (.iconst 1, 1) := by decide +kernel
theorem dX2_isBarred_15 : decode cX2_isBarred 15 = .ok (.goto 4, 3) := by decide +kernel
theorem dX2_isBarred_18 : decode cX2_isBarred 18 = .ok (.iconst 0, 1) := by decide +kernel
theorem dX2_isBarred_19 : decode cX2_isBarred 19 = .ok (.ireturn, 1) := by decide +kernel
theorem dX2_isFreeFor_0 : decode cX2_isFreeFor 0 = .ok (.aload_n 0, 1) := by decide +kernel
theorem dX2_isFreeFor_1 : decode cX2_isFreeFor 1 = .ok (.iload_n 1, 1) := by decide +kernel
theorem dX2_isFreeFor_2 : decode cX2_isFreeFor 2 = .ok (.invokevirtual 74, 3) := by decide +kernel
theorem dX2_isFreeFor_5 : decode cX2_isFreeFor 5 = .ok (.ifCond .ne 16, 3) := by decide +kernel
theorem dX2_isFreeFor_8 : decode cX2_isFreeFor 8 = .ok (.aload_n 0, 1) := by decide +kernel
theorem dX2_isFreeFor_9 : decode cX2_isFreeFor 9 = .ok (.iload_n 1, 1) := by decide +kernel
theorem dX2_isFreeFor_10 : decode cX2_isFreeFor 10 = .ok (.iload_n 2, 1) := by decide +kernel
theorem dX2_isFreeFor_11 : decode cX2_isFreeFor 11 = .ok (.invokevirtual 78, 3) := by decide +kernel
theorem dX2_isFreeFor_14 : decode cX2_isFreeFor 14 = .ok (.ifCond .ne 7, 3) := by decide +kernel
theorem dX2_isFreeFor_17 : decode cX2_isFreeFor 17 = .ok (.iconst 1, 1) := by decide +kernel
theorem dX2_isFreeFor_18 : decode cX2_isFreeFor 18 = .ok (.goto 4, 3) := by decide +kernel
theorem dX2_isFreeFor_21 : decode cX2_isFreeFor 21 = .ok (.iconst 0, 1) := by decide +kernel
theorem dX2_isFreeFor_22 : decode cX2_isFreeFor 22 = .ok (.ireturn, 1) := by decide +kernel
theorem dX2_judgeReaching_0 : decode cX2_judgeReaching 0 = .ok (.iconst 0, 1) := by decide +kernel
theorem dX2_judgeReaching_1 : decode cX2_judgeReaching 1 = .ok (.istore_n 2, 1) := by decide +kernel
theorem dX2_judgeReaching_2 : decode cX2_judgeReaching 2 = .ok (.iload_n 2, 1) := by decide +kernel
theorem dX2_judgeReaching_3 : decode cX2_judgeReaching 3 = .ok (.aload_n 0, 1) := by decide +kernel
theorem dX2_judgeReaching_4 : decode cX2_judgeReaching 4 = .ok (.getfield 52, 3) := by decide +kernel
theorem dX2_judgeReaching_7 : decode cX2_judgeReaching 7 = .ok (.if_icmp .ge 21, 3) := by decide +kernel
theorem dX2_judgeReaching_10 : decode cX2_judgeReaching 10 = .ok (.aload_n 0, 1) := by decide +kernel
theorem dX2_judgeReaching_11 : decode cX2_judgeReaching 11 = .ok (.getfield 33, 3) := by decide +kernel
theorem dX2_judgeReaching_14 : decode cX2_judgeReaching 14 = .ok (.iload_n 2, 1) := by decide +kernel
theorem dX2_judgeReaching_15 : decode cX2_judgeReaching 15 = .ok (.iaload, 1) := by decide +kernel
theorem dX2_judgeReaching_16 : decode cX2_judgeReaching 16 = .ok (.iload_n 1, 1) := by decide +kernel
theorem dX2_judgeReaching_17 : decode cX2_judgeReaching 17 = .ok (.if_icmp .le 5, 3) := by decide +kernel
theorem dX2_judgeReaching_20 : decode cX2_judgeReaching 20 = .ok (.iload_n 2, 1) := by decide +kernel
theorem dX2_judgeReaching_21 : decode cX2_judgeReaching 21 = .ok (.ireturn, 1) := by decide +kernel
theorem dX2_judgeReaching_22 : decode cX2_judgeReaching 22 = .ok (.iinc 2 1, 3) := by decide +kernel
theorem dX2_judgeReaching_25 : decode cX2_judgeReaching 25 = .ok (.goto (-23), 3) := by decide +kernel
theorem dX2_judgeReaching_28 : decode cX2_judgeReaching 28 = .ok (.iconst 0, 1) := by decide +kernel
theorem dX2_judgeReaching_29 : decode cX2_judgeReaching 29 = .ok (.ireturn, 1) := by decide +kernel
theorem dX2_settleDebts_0 : decode cX2_settleDebts 0 = .ok (.iconst 0, 1) := by decide +kernel
theorem dX2_settleDebts_1 : decode cX2_settleDebts 1 = .ok (.istore_n 2, 1) := by decide +kernel
theorem dX2_settleDebts_2 : decode cX2_settleDebts 2 = .ok (.iconst 0, 1) := by decide +kernel
theorem dX2_settleDebts_3 : decode cX2_settleDebts 3 = .ok (.istore_n 3, 1) := by decide +kernel
theorem dX2_settleDebts_4 : decode cX2_settleDebts 4 = .ok (.iload_n 3, 1) := by decide +kernel
theorem dX2_settleDebts_5 : decode cX2_settleDebts 5 = .ok (.aload_n 0, 1) := by decide +kernel
theorem dX2_settleDebts_6 : decode cX2_settleDebts 6 = .ok (.getfield 52, 3) := by decide +kernel
theorem dX2_settleDebts_9 : decode cX2_settleDebts 9 = .ok (.if_icmp .ge 30, 3) := by decide +kernel
theorem dX2_settleDebts_12 : decode cX2_settleDebts 12 = .ok (.iload_n 2, 1) := by decide +kernel
theorem dX2_settleDebts_13 : decode cX2_settleDebts 13 = .ok (.aload_n 0, 1) := by decide +kernel
theorem dX2_settleDebts_14 : decode cX2_settleDebts 14 = .ok (.iload_n 3, 1) := by decide +kernel
theorem dX2_settleDebts_15 : decode cX2_settleDebts 15 = .ok (.invokevirtual 74, 3) := by decide +kernel
theorem dX2_settleDebts_18 : decode cX2_settleDebts 18 = .ok (.ifCond .eq 7, 3) := by decide +kernel
theorem dX2_settleDebts_21 : decode cX2_settleDebts 21 = .ok (.iconst 0, 1) := by decide +kernel
theorem dX2_settleDebts_22 : decode cX2_settleDebts 22 = .ok (.goto 9, 3) := by decide +kernel
theorem dX2_settleDebts_25 : decode cX2_settleDebts 25 = .ok (.aload_n 0, 1) := by decide +kernel
theorem dX2_settleDebts_26 : decode cX2_settleDebts 26 = .ok (.getfield 9, 3) := by decide +kernel
theorem dX2_settleDebts_29 : decode cX2_settleDebts 29 = .ok (.iload_n 3, 1) := by decide +kernel
theorem dX2_settleDebts_30 : decode cX2_settleDebts 30 = .ok (.iaload, 1) := by decide +kernel
theorem dX2_settleDebts_31 : decode cX2_settleDebts 31 = .ok (.iadd, 1) := by decide +kernel
theorem dX2_settleDebts_32 : decode cX2_settleDebts 32 = .ok (.istore_n 2, 1) := by decide +kernel
theorem dX2_settleDebts_33 : decode cX2_settleDebts 33 = .ok (.iinc 3 1, 3) := by decide +kernel
theorem dX2_settleDebts_36 : decode cX2_settleDebts 36 = .ok (.goto (-32), 3) := by decide +kernel
theorem dX2_settleDebts_39 : decode cX2_settleDebts 39 = .ok (.iconst 0, 1) := by decide +kernel
theorem dX2_settleDebts_40 : decode cX2_settleDebts 40 = .ok (.istore_n 3, 1) := by decide +kernel
theorem dX2_settleDebts_41 : decode cX2_settleDebts 41 = .ok (.iload_n 3, 1) := by decide +kernel
theorem dX2_settleDebts_42 : decode cX2_settleDebts 42 = .ok (.aload_n 0, 1) := by decide +kernel
theorem dX2_settleDebts_43 : decode cX2_settleDebts 43 = .ok (.getfield 52, 3) := by decide +kernel
theorem dX2_settleDebts_46 : decode cX2_settleDebts 46 = .ok (.if_icmp .ge 65, 3) := by decide +kernel
theorem dX2_settleDebts_49 : decode cX2_settleDebts 49 = .ok (.aload_n 0, 1) := by decide +kernel
theorem dX2_settleDebts_50 : decode cX2_settleDebts 50 = .ok (.getfield 21, 3) := by decide +kernel
theorem dX2_settleDebts_53 : decode cX2_settleDebts 53 = .ok (.iload_n 3, 1) := by decide +kernel
theorem dX2_settleDebts_54 : decode cX2_settleDebts 54 = .ok (.iaload, 1) := by decide +kernel
theorem dX2_settleDebts_55 : decode cX2_settleDebts 55 = .ok (.aload_n 0, 1) := by decide +kernel
theorem dX2_settleDebts_56 : decode cX2_settleDebts 56 = .ok (.iload_n 3, 1) := by decide +kernel
theorem dX2_settleDebts_57 : decode cX2_settleDebts 57 = .ok (.invokevirtual 74, 3) := by decide +kernel
theorem dX2_settleDebts_60 : decode cX2_settleDebts 60 = .ok (.ifCond .eq 7, 3) := by decide +kernel
theorem dX2_settleDebts_63 : decode cX2_settleDebts 63 = .ok (.iconst 0, 1) := by decide +kernel
theorem dX2_settleDebts_64 : decode cX2_settleDebts 64 = .ok (.goto 9, 3) := by decide +kernel
theorem dX2_settleDebts_67 : decode cX2_settleDebts 67 = .ok (.aload_n 0, 1) := by decide +kernel
theorem dX2_settleDebts_68 : decode cX2_settleDebts 68 = .ok (.getfield 9, 3) := by decide +kernel
theorem dX2_settleDebts_71 : decode cX2_settleDebts 71 = .ok (.iload_n 3, 1) := by decide +kernel
theorem dX2_settleDebts_72 : decode cX2_settleDebts 72 = .ok (.iaload, 1) := by decide +kernel
theorem dX2_settleDebts_73 : decode cX2_settleDebts 73 = .ok (.iadd, 1) := by decide +kernel
theorem dX2_settleDebts_74 : decode cX2_settleDebts 74 = .ok (.istore 4, 2) := by decide +kernel
theorem dX2_settleDebts_76 : decode cX2_settleDebts 76 = .ok (.iload_n 3, 1) := by decide +kernel
theorem dX2_settleDebts_77 : decode cX2_settleDebts 77 = .ok (.iload_n 1, 1) := by decide +kernel
theorem dX2_settleDebts_78 : decode cX2_settleDebts 78 = .ok (.if_icmp .ne 9, 3) := by decide +kernel
theorem dX2_settleDebts_81 : decode cX2_settleDebts 81 = .ok (.iload 4, 2) := by decide +kernel
theorem dX2_settleDebts_83 : decode cX2_settleDebts 83 = .ok (.iload_n 2, 1) := by decide +kernel
theorem dX2_settleDebts_84 : decode cX2_settleDebts 84 = .ok (.isub, 1) := by decide +kernel
theorem dX2_settleDebts_85 : decode cX2_settleDebts 85 = .ok (.istore 4, 2) := by decide +kernel
theorem dX2_settleDebts_87 : decode cX2_settleDebts 87 = .ok (.aload_n 0, 1) := by decide +kernel
theorem dX2_settleDebts_88 : decode cX2_settleDebts 88 = .ok (.getfield 21, 3) := by decide +kernel
theorem dX2_settleDebts_91 : decode cX2_settleDebts 91 = .ok (.iload_n 3, 1) := by decide +kernel
theorem dX2_settleDebts_92 : decode cX2_settleDebts 92 = .ok (.bipush (-99), 2) := by decide +kernel
theorem dX2_settleDebts_94 : decode cX2_settleDebts 94 = .ok (.bipush 99, 2) := by decide +kernel
theorem dX2_settleDebts_96 : decode cX2_settleDebts 96 = .ok (.iload 4, 2) := by decide +kernel
theorem dX2_settleDebts_98 : decode cX2_settleDebts 98 = .ok (.invokestatic 113, 3) := by decide +kernel
theorem dX2_settleDebts_101 : decode cX2_settleDebts 101 = .ok (.invokestatic 88, 3) := by decide +kernel
theorem dX2_settleDebts_104 : decode cX2_settleDebts 104 = .ok (.iastore, 1) := by decide +kernel
theorem dX2_settleDebts_105 : decode cX2_settleDebts 105 = .ok (.iinc 3 1, 3) := by decide +kernel
theorem dX2_settleDebts_108 : decode cX2_settleDebts 108 = .ok (.goto (-67), 3) := by decide +kernel
theorem dX2_settleDebts_111 : decode cX2_settleDebts 111 = .ok (.return_, 1) := by decide +kernel
theorem dX2_startAnew_0 : decode cX2_startAnew 0 = .ok (.aload_n 0, 1) := by decide +kernel
theorem dX2_startAnew_1 : decode cX2_startAnew 1 = .ok (.iload_n 1, 1) := by decide +kernel
theorem dX2_startAnew_2 : decode cX2_startAnew 2 = .ok (.putfield 40, 3) := by decide +kernel
theorem dX2_startAnew_5 : decode cX2_startAnew 5 = .ok (.aload_n 0, 1) := by decide +kernel
theorem dX2_startAnew_6 : decode cX2_startAnew 6 = .ok (.iload_n 1, 1) := by decide +kernel
theorem dX2_startAnew_7 : decode cX2_startAnew 7 = .ok (.putfield 43, 3) := by decide +kernel
theorem dX2_startAnew_10 : decode cX2_startAnew 10 = .ok (.aload_n 0, 1) := by decide +kernel
theorem dX2_startAnew_11 : decode cX2_startAnew 11 = .ok (.iconst 0, 1) := by decide +kernel
theorem dX2_startAnew_12 : decode cX2_startAnew 12 = .ok (.putfield 58, 3) := by decide +kernel
theorem dX2_startAnew_15 : decode cX2_startAnew 15 = .ok (.aload_n 0, 1) := by decide +kernel
theorem dX2_startAnew_16 : decode cX2_startAnew 16 = .ok (.iconst 0, 1) := by decide +kernel
theorem dX2_startAnew_17 : decode cX2_startAnew 17 = .ok (.putfield 61, 3) := by decide +kernel
theorem dX2_startAnew_20 : decode cX2_startAnew 20 = .ok (.aload_n 0, 1) := by decide +kernel
theorem dX2_startAnew_21 : decode cX2_startAnew 21 = .ok (.getfield 21, 3) := by decide +kernel
theorem dX2_startAnew_24 : decode cX2_startAnew 24 = .ok (.iconst 0, 1) := by decide +kernel
theorem dX2_startAnew_25 : decode cX2_startAnew 25 = .ok (.invokestatic 68, 3) := by decide +kernel
theorem dX2_startAnew_28 : decode cX2_startAnew 28 = .ok (.return_, 1) := by decide +kernel
theorem dX2_weighAll_0 : decode cX2_weighAll 0 = .ok (.iconst 0, 1) := by decide +kernel
theorem dX2_weighAll_1 : decode cX2_weighAll 1 = .ok (.istore_n 2, 1) := by decide +kernel
theorem dX2_weighAll_2 : decode cX2_weighAll 2 = .ok (.iconst 0, 1) := by decide +kernel
theorem dX2_weighAll_3 : decode cX2_weighAll 3 = .ok (.istore_n 3, 1) := by decide +kernel
theorem dX2_weighAll_4 : decode cX2_weighAll 4 = .ok (.iload_n 3, 1) := by decide +kernel
theorem dX2_weighAll_5 : decode cX2_weighAll 5 = .ok (.aload_n 0, 1) := by decide +kernel
theorem dX2_weighAll_6 : decode cX2_weighAll 6 = .ok (.getfield 52, 3) := by decide +kernel
theorem dX2_weighAll_9 : decode cX2_weighAll 9 = .ok (.if_icmp .ge 25, 3) := by decide +kernel
theorem dX2_weighAll_12 : decode cX2_weighAll 12 = .ok (.iload_n 2, 1) := by decide +kernel
theorem dX2_weighAll_13 : decode cX2_weighAll 13 = .ok (.aload_n 0, 1) := by decide +kernel
theorem dX2_weighAll_14 : decode cX2_weighAll 14 = .ok (.iload_n 3, 1) := by decide +kernel
theorem dX2_weighAll_15 : decode cX2_weighAll 15 = .ok (.iload_n 1, 1) := by decide +kernel
theorem dX2_weighAll_16 : decode cX2_weighAll 16 = .ok (.invokevirtual 94, 3) := by decide +kernel
theorem dX2_weighAll_19 : decode cX2_weighAll 19 = .ok (.iadd, 1) := by decide +kernel
theorem dX2_weighAll_20 : decode cX2_weighAll 20 = .ok (.istore_n 2, 1) := by decide +kernel
theorem dX2_weighAll_21 : decode cX2_weighAll 21 = .ok (.aload_n 0, 1) := by decide +kernel
theorem dX2_weighAll_22 : decode cX2_weighAll 22 = .ok (.getfield 33, 3) := by decide +kernel
theorem dX2_weighAll_25 : decode cX2_weighAll 25 = .ok (.iload_n 3, 1) := by decide +kernel
theorem dX2_weighAll_26 : decode cX2_weighAll 26 = .ok (.iload_n 2, 1) := by decide +kernel
theorem dX2_weighAll_27 : decode cX2_weighAll 27 = .ok (.iastore, 1) := by decide +kernel
theorem dX2_weighAll_28 : decode cX2_weighAll 28 = .ok (.iinc 3 1, 3) := by decide +kernel
theorem dX2_weighAll_31 : decode cX2_weighAll 31 = .ok (.goto (-27), 3) := by decide +kernel
theorem dX2_weighAll_34 : decode cX2_weighAll 34 = .ok (.iload_n 2, 1) := by decide +kernel
theorem dX2_weighAll_35 : decode cX2_weighAll 35 = .ok (.ireturn, 1) := by decide +kernel
theorem dX2_weightOf_0 : decode cX2_weightOf 0 = .ok (.aload_n 0, 1) := by decide +kernel
theorem dX2_weightOf_1 : decode cX2_weightOf 1 = .ok (.iload_n 1, 1) := by decide +kernel
theorem dX2_weightOf_2 : decode cX2_weightOf 2 = .ok (.invokevirtual 74, 3) := by decide +kernel
theorem dX2_weightOf_5 : decode cX2_weightOf 5 = .ok (.ifCond .eq 5, 3) := by decide +kernel
theorem dX2_weightOf_8 : decode cX2_weightOf 8 = .ok (.iconst 0, 1) := by decide +kernel
theorem dX2_weightOf_9 : decode cX2_weightOf 9 = .ok (.ireturn, 1) := by decide +kernel
theorem dX2_weightOf_10 : decode cX2_weightOf 10 = .ok (.aload_n 0, 1) := by decide +kernel
theorem dX2_weightOf_11 : decode cX2_weightOf 11 = .ok (.getfield 9, 3) := by decide +kernel
theorem dX2_weightOf_14 : decode cX2_weightOf 14 = .ok (.iload_n 1, 1) := by decide +kernel
theorem dX2_weightOf_15 : decode cX2_weightOf 15 = .ok (.iaload, 1) := by decide +kernel
theorem dX2_weightOf_16 : decode cX2_weightOf 16 = .ok (.istore_n 3, 1) := by decide +kernel
theorem dX2_weightOf_17 : decode cX2_weightOf 17 = .ok (.aload_n 0, 1) := by decide +kernel
theorem dX2_weightOf_18 : decode cX2_weightOf 18 = .ok (.getfield 36, 3) := by decide +kernel
theorem dX2_weightOf_21 : decode cX2_weightOf 21 = .ok (.iconst 1, 1) := by decide +kernel
theorem dX2_weightOf_22 : decode cX2_weightOf 22 = .ok (.iand, 1) := by decide +kernel
theorem dX2_weightOf_23 : decode cX2_weightOf 23 = .ok (.ifCond .eq 21, 3) := by decide +kernel
theorem dX2_weightOf_26 : decode cX2_weightOf 26 = .ok (.aload_n 0, 1) := by decide +kernel
theorem dX2_weightOf_27 : decode cX2_weightOf 27 = .ok (.getfield 15, 3) := by decide +kernel
theorem dX2_weightOf_30 : decode cX2_weightOf 30 = .ok (.iload_n 1, 1) := by decide +kernel
theorem dX2_weightOf_31 : decode cX2_weightOf 31 = .ok (.iaload, 1) := by decide +kernel
theorem dX2_weightOf_32 : decode cX2_weightOf 32 = .ok (.iload_n 2, 1) := by decide +kernel
theorem dX2_weightOf_33 : decode cX2_weightOf 33 = .ok (.ishr, 1) := by decide +kernel
theorem dX2_weightOf_34 : decode cX2_weightOf 34 = .ok (.iconst 1, 1) := by decide +kernel
theorem dX2_weightOf_35 : decode cX2_weightOf 35 = .ok (.iand, 1) := by decide +kernel
theorem dX2_weightOf_36 : decode cX2_weightOf 36 = .ok (.iconst 1, 1) := by decide +kernel
theorem dX2_weightOf_37 : decode cX2_weightOf 37 = .ok (.if_icmp .ne 7, 3) := by decide +kernel
theorem dX2_weightOf_40 : decode cX2_weightOf 40 = .ok (.iload_n 3, 1) := by decide +kernel
theorem dX2_weightOf_41 : decode cX2_weightOf 41 = .ok (.iload_n 3, 1) := by decide +kernel
theorem dX2_weightOf_42 : decode cX2_weightOf 42 = .ok (.iadd, 1) := by decide +kernel
theorem dX2_weightOf_43 : decode cX2_weightOf 43 = .ok (.istore_n 3, 1) := by decide +kernel
theorem dX2_weightOf_44 : decode cX2_weightOf 44 = .ok (.aload_n 0, 1) := by decide +kernel
theorem dX2_weightOf_45 : decode cX2_weightOf 45 = .ok (.getfield 36, 3) := by decide +kernel
theorem dX2_weightOf_48 : decode cX2_weightOf 48 = .ok (.iconst 2, 1) := by decide +kernel
theorem dX2_weightOf_49 : decode cX2_weightOf 49 = .ok (.iand, 1) := by decide +kernel
theorem dX2_weightOf_50 : decode cX2_weightOf 50 = .ok (.ifCond .eq 12, 3) := by decide +kernel
theorem dX2_weightOf_53 : decode cX2_weightOf 53 = .ok (.iload_n 3, 1) := by decide +kernel
theorem dX2_weightOf_54 : decode cX2_weightOf 54 = .ok (.aload_n 0, 1) := by decide +kernel
theorem dX2_weightOf_55 : decode cX2_weightOf 55 = .ok (.getfield 21, 3) := by decide +kernel
theorem dX2_weightOf_58 : decode cX2_weightOf 58 = .ok (.iload_n 1, 1) := by decide +kernel
theorem dX2_weightOf_59 : decode cX2_weightOf 59 = .ok (.iaload, 1) := by decide +kernel
theorem dX2_weightOf_60 : decode cX2_weightOf 60 = .ok (.iadd, 1) := by decide +kernel
theorem dX2_weightOf_61 : decode cX2_weightOf 61 = .ok (.istore_n 3, 1) := by decide +kernel
theorem dX2_weightOf_62 : decode cX2_weightOf 62 = .ok (.iload_n 3, 1) := by decide +kernel
theorem dX2_weightOf_63 : decode cX2_weightOf 63 = .ok (.iconst 1, 1) := by decide +kernel
theorem dX2_weightOf_64 : decode cX2_weightOf 64 = .ok (.invokestatic 88, 3) := by decide +kernel
theorem dX2_weightOf_67 : decode cX2_weightOf 67 = .ok (.ireturn, 1) := by decide +kernel
theorem dX2_weightsFreeFor_0 : decode cX2_weightsFreeFor 0 = .ok (.iconst 0, 1) := by decide +kernel
theorem dX2_weightsFreeFor_1 : decode cX2_weightsFreeFor 1 = .ok (.istore_n 3, 1) := by decide +kernel
theorem dX2_weightsFreeFor_2 : decode cX2_weightsFreeFor 2 = .ok (.iconst 0, 1) := by decide +kernel
theorem dX2_weightsFreeFor_3 : decode cX2_weightsFreeFor 3 = .ok (.istore 4, 2) := by decide +kernel
theorem dX2_weightsFreeFor_5 : decode cX2_weightsFreeFor 5 = .ok (.iload 4, 2) := by decide +kernel
theorem dX2_weightsFreeFor_7 : decode cX2_weightsFreeFor 7 = .ok (.aload_n 0, 1) := by decide +kernel
theorem dX2_weightsFreeFor_8 : decode cX2_weightsFreeFor 8 = .ok (.getfield 52, 3) := by decide +kernel
theorem dX2_weightsFreeFor_11 : decode cX2_weightsFreeFor 11 = .ok (.if_icmp .ge 29, 3) := by decide +kernel
theorem dX2_weightsFreeFor_14 : decode cX2_weightsFreeFor 14 = .ok (.aload_n 0, 1) := by decide +kernel
theorem dX2_weightsFreeFor_15 : decode cX2_weightsFreeFor 15 = .ok (.iload 4, 2) := by decide +kernel
theorem dX2_weightsFreeFor_17 : decode cX2_weightsFreeFor 17 = .ok (.iload_n 2, 1) := by decide +kernel
theorem dX2_weightsFreeFor_18 : decode cX2_weightsFreeFor 18 = .ok (.invokevirtual 78, 3) := by decide +kernel
theorem dX2_weightsFreeFor_21 : decode cX2_weightsFreeFor 21 = .ok (.ifCond .ne 13, 3) := by decide +kernel
theorem dX2_weightsFreeFor_24 : decode cX2_weightsFreeFor 24 = .ok (.iload_n 3, 1) := by decide +kernel
theorem dX2_weightsFreeFor_25 : decode cX2_weightsFreeFor 25 = .ok (.aload_n 0, 1) := by decide +kernel
theorem dX2_weightsFreeFor_26 : decode cX2_weightsFreeFor 26 = .ok (.iload 4, 2) := by decide +kernel
theorem dX2_weightsFreeFor_28 : decode cX2_weightsFreeFor 28 = .ok (.iload_n 1, 1) := by decide +kernel
theorem dX2_weightsFreeFor_29 : decode cX2_weightsFreeFor 29 = .ok (.invokevirtual 94, 3) := by decide +kernel
theorem dX2_weightsFreeFor_32 : decode cX2_weightsFreeFor 32 = .ok (.iadd, 1) := by decide +kernel
theorem dX2_weightsFreeFor_33 : decode cX2_weightsFreeFor 33 = .ok (.istore_n 3, 1) := by decide +kernel
theorem dX2_weightsFreeFor_34 : decode cX2_weightsFreeFor 34 = .ok (.iinc 4 1, 3) := by decide +kernel
theorem dX2_weightsFreeFor_37 : decode cX2_weightsFreeFor 37 = .ok (.goto (-32), 3) := by decide +kernel
theorem dX2_weightsFreeFor_40 : decode cX2_weightsFreeFor 40 = .ok (.iload_n 3, 1) := by decide +kernel
theorem dX2_weightsFreeFor_41 : decode cX2_weightsFreeFor 41 = .ok (.ireturn, 1) := by decide +kernel
theorem dX3_init_0 : decode cX3_init 0 = .ok (.aload_n 0, 1) := by decide +kernel
theorem dX3_init_1 : decode cX3_init 1 = .ok (.invokespecial 3, 3) := by decide +kernel
theorem dX3_init_4 : decode cX3_init 4 = .ok (.aload_n 0, 1) := by decide +kernel
theorem dX3_init_5 : decode cX3_init 5 = .ok (.aload_n 1, 1) := by decide +kernel
theorem dX3_init_6 : decode cX3_init 6 = .ok (.putfield 9, 3) := by decide +kernel
theorem dX3_init_9 : decode cX3_init 9 = .ok (.return_, 1) := by decide +kernel
theorem dX3_isOther_0 : decode cX3_isOther 0 = .ok (.aload_n 0, 1) := by decide +kernel
theorem dX3_isOther_1 : decode cX3_isOther 1 = .ok (.getfield 32, 3) := by decide +kernel
theorem dX3_isOther_4 : decode cX3_isOther 4 = .ok (.iconst 3, 1) := by decide +kernel
theorem dX3_isOther_5 : decode cX3_isOther 5 = .ok (.if_icmp .ne 37, 3) := by decide +kernel
theorem dX3_isOther_8 : decode cX3_isOther 8 = .ok (.aload_n 0, 1) := by decide +kernel
theorem dX3_isOther_9 : decode cX3_isOther 9 = .ok (.getfield 29, 3) := by decide +kernel
theorem dX3_isOther_12 : decode cX3_isOther 12 = .ok (.aload_n 0, 1) := by decide +kernel
theorem dX3_isOther_13 : decode cX3_isOther 13 = .ok (.getfield 9, 3) := by decide +kernel
theorem dX3_isOther_16 : decode cX3_isOther 16 = .ok (.getfield 39, 3) := by decide +kernel
theorem dX3_isOther_19 : decode cX3_isOther 19 = .ok (.if_icmp .ge 23, 3) := by decide +kernel
theorem dX3_isOther_22 : decode cX3_isOther 22 = .ok (.aload_n 0, 1) := by decide +kernel
theorem dX3_isOther_23 : decode cX3_isOther 23 = .ok (.getfield 9, 3) := by decide +kernel
theorem dX3_isOther_26 : decode cX3_isOther 26 = .ok (.getfield 44, 3) := by decide +kernel
theorem dX3_isOther_29 : decode cX3_isOther 29 = .ok (.aload_n 0, 1) := by decide +kernel
theorem dX3_isOther_30 : decode cX3_isOther 30 = .ok (.getfield 29, 3) := by decide +kernel
theorem dX3_isOther_33 : decode cX3_isOther 33 = .ok (.iaload, 1) := by decide +kernel
theorem dX3_isOther_34 : decode cX3_isOther 34 = .ok (.iload_n 1, 1) := by decide +kernel
theorem dX3_isOther_35 : decode cX3_isOther 35 = .ok (.if_icmp .ne 7, 3) := by decide +kernel
theorem dX3_isOther_38 : decode cX3_isOther 38 = .ok (.iconst 1, 1) := by decide +kernel
theorem dX3_isOther_39 : decode cX3_isOther 39 = .ok (.goto 4, 3) := by decide +kernel
theorem dX3_isOther_42 : decode cX3_isOther 42 = .ok (.iconst 0, 1) := by decide +kernel
theorem dX3_isOther_43 : decode cX3_isOther 43 = .ok (.ireturn, 1) := by decide +kernel
theorem dX3_isWord_0 : decode cX3_isWord 0 = .ok (.aload_n 0, 1) := by decide +kernel
theorem dX3_isWord_1 : decode cX3_isWord 1 = .ok (.getfield 32, 3) := by decide +kernel
theorem dX3_isWord_4 : decode cX3_isWord 4 = .ok (.iconst 1, 1) := by decide +kernel
theorem dX3_isWord_5 : decode cX3_isWord 5 = .ok (.if_icmp .ne 26, 3) := by decide +kernel
theorem dX3_isWord_8 : decode cX3_isWord 8 = .ok (.aload_n 0, 1) := by decide +kernel
theorem dX3_isWord_9 : decode cX3_isWord 9 = .ok (.getfield 9, 3) := by decide +kernel
theorem dX3_isWord_12 : decode cX3_isWord 12 = .ok (.aload_n 0, 1) := by decide +kernel
theorem dX3_isWord_13 : decode cX3_isWord 13 = .ok (.getfield 29, 3) := by decide +kernel
theorem dX3_isWord_16 : decode cX3_isWord 16 = .ok (.aload_n 0, 1) := by decide +kernel
theorem dX3_isWord_17 : decode cX3_isWord 17 = .ok (.getfield 15, 3) := by decide +kernel
theorem dX3_isWord_20 : decode cX3_isWord 20 = .ok (.aload_n 1, 1) := by decide +kernel
theorem dX3_isWord_21 : decode cX3_isWord 21 = .ok (.invokevirtual 54, 3) := by decide +kernel
theorem dX3_isWord_24 : decode cX3_isWord 24 = .ok (.ifCond .eq 7, 3) := by decide +kernel
theorem dX3_isWord_27 : decode cX3_isWord 27 = .ok (.iconst 1, 1) := by decide +kernel
theorem dX3_isWord_28 : decode cX3_isWord 28 = .ok (.goto 4, 3) := by decide +kernel
theorem dX3_isWord_31 : decode cX3_isWord 31 = .ok (.iconst 0, 1) := by decide +kernel
theorem dX3_isWord_32 : decode cX3_isWord 32 = .ok (.ireturn, 1) := by decide +kernel
theorem dX3_numberWithin_0 : decode cX3_numberWithin 0 = .ok (.aload_n 0, 1) := by decide +kernel
theorem dX3_numberWithin_1 : decode cX3_numberWithin 1 = .ok (.getfield 32, 3) := by decide +kernel
theorem dX3_numberWithin_4 : decode cX3_numberWithin 4 = .ok (.iconst 2, 1) := by decide +kernel
theorem dX3_numberWithin_5 : decode cX3_numberWithin 5 = .ok (.if_icmp .ne 22, 3) := by decide +kernel
theorem dX3_numberWithin_8 : decode cX3_numberWithin 8 = .ok (.aload_n 0, 1) := by decide +kernel
theorem dX3_numberWithin_9 : decode cX3_numberWithin 9 = .ok (.getfield 9, 3) := by decide +kernel
theorem dX3_numberWithin_12 : decode cX3_numberWithin 12 = .ok (.aload_n 0, 1) := by decide +kernel
theorem dX3_numberWithin_13 : decode cX3_numberWithin 13 = .ok (.getfield 29, 3) := by decide +kernel
theorem dX3_numberWithin_16 : decode cX3_numberWithin 16 = .ok (.aload_n 0, 1) := by decide +kernel
theorem dX3_numberWithin_17 : decode cX3_numberWithin 17 = .ok (.getfield 15, 3) := by decide +kernel
theorem dX3_numberWithin_20 : decode cX3_numberWithin 20 = .ok (.iconst 2, 1) := by decide +kernel
theorem dX3_numberWithin_21 : decode cX3_numberWithin 21 = .ok (.invokevirtual 58, 3) := by decide +kernel
theorem dX3_numberWithin_24 : decode cX3_numberWithin 24 = .ok (.goto 4, 3) := by decide +kernel
theorem dX3_numberWithin_27 : decode cX3_numberWithin 27 = .ok (.iconst (-1), 1) := by decide +kernel
theorem dX3_numberWithin_28 : decode cX3_numberWithin 28 = .ok (.istore_n 3, 1) := by decide +kernel
theorem dX3_numberWithin_29 : decode cX3_numberWithin 29 = .ok (.iload_n 3, 1) := by decide +kernel
theorem dX3_numberWithin_30 : decode cX3_numberWithin 30 = .ok (.iload_n 1, 1) := by decide +kernel
theorem dX3_numberWithin_31 : decode cX3_numberWithin 31 = .ok (.if_icmp .lt 12, 3) := by decide +kernel
theorem dX3_numberWithin_34 : decode cX3_numberWithin 34 = .ok (.iload_n 3, 1) := by decide +kernel
theorem dX3_numberWithin_35 : decode cX3_numberWithin 35 = .ok (.iload_n 2, 1) := by decide +kernel
theorem dX3_numberWithin_36 : decode cX3_numberWithin 36 = .ok (.if_icmp .gt 7, 3) := by decide +kernel
theorem dX3_numberWithin_39 : decode cX3_numberWithin 39 = .ok (.iload_n 3, 1) := by decide +kernel
theorem dX3_numberWithin_40 : decode cX3_numberWithin 40 = .ok (.goto 4, 3) := by decide +kernel
theorem dX3_numberWithin_43 : decode cX3_numberWithin 43 = .ok (.iconst (-1), 1) := by decide +kernel
theorem dX3_numberWithin_44 : decode cX3_numberWithin 44 = .ok (.ireturn, 1) := by decide +kernel
theorem dX3_readAway_0 : decode cX3_readAway 0 = .ok (.aload_n 0, 1) := by decide +kernel
theorem dX3_readAway_1 : decode cX3_readAway 1 = .ok (.invokevirtual 22, 3) := by decide +kernel
theorem dX3_readAway_4 : decode cX3_readAway 4 = .ok (.aload_n 0, 1) := by decide +kernel
theorem dX3_readAway_5 : decode cX3_readAway 5 = .ok (.iconst 0, 1) := by decide +kernel
theorem dX3_readAway_6 : decode cX3_readAway 6 = .ok (.aload_n 1, 1) := by decide +kernel
theorem dX3_readAway_7 : decode cX3_readAway 7 = .ok (.getfield 93, 3) := by decide +kernel
theorem dX3_readAway_10 : decode cX3_readAway 10 = .ok (.iconst 1, 1) := by decide +kernel
theorem dX3_readAway_11 : decode cX3_readAway 11 = .ok (.isub, 1) := by decide +kernel
theorem dX3_readAway_12 : decode cX3_readAway 12 = .ok (.invokevirtual 96, 3) := by decide +kernel
theorem dX3_readAway_15 : decode cX3_readAway 15 = .ok (.istore_n 2, 1) := by decide +kernel
theorem dX3_readAway_16 : decode cX3_readAway 16 = .ok (.iload_n 2, 1) := by decide +kernel
theorem dX3_readAway_17 : decode cX3_readAway 17 = .ok (.iconst (-1), 1) := by decide +kernel
theorem dX3_readAway_18 : decode cX3_readAway 18 = .ok (.if_icmp .ne 5, 3) := by decide +kernel
theorem dX3_readAway_21 : decode cX3_readAway 21 = .ok (.iconst 0, 1) := by decide +kernel
theorem dX3_readAway_22 : decode cX3_readAway 22 = .ok (.ireturn, 1) := by decide +kernel
theorem dX3_readAway_23 : decode cX3_readAway 23 = .ok (.aload_n 1, 1) := by decide +kernel
theorem dX3_readAway_24 : decode cX3_readAway 24 = .ok (.dup, 1) := by decide +kernel
theorem dX3_readAway_25 : decode cX3_readAway 25 = .ok (.getfield 114, 3) := by decide +kernel
theorem dX3_readAway_28 : decode cX3_readAway 28 = .ok (.iconst 1, 1) := by decide +kernel
theorem dX3_readAway_29 : decode cX3_readAway 29 = .ok (.iload_n 2, 1) := by decide +kernel
theorem dX3_readAway_30 : decode cX3_readAway 30 = .ok (.ishl, 1) := by decide +kernel
theorem dX3_readAway_31 : decode cX3_readAway 31 = .ok (.ior, 1) := by decide +kernel
theorem dX3_readAway_32 : decode cX3_readAway 32 = .ok (.putfield 114, 3) := by decide +kernel
theorem dX3_readAway_35 : decode cX3_readAway 35 = .ok (.aload_n 0, 1) := by decide +kernel
theorem dX3_readAway_36 : decode cX3_readAway 36 = .ok (.invokevirtual 22, 3) := by decide +kernel
theorem dX3_readAway_39 : decode cX3_readAway 39 = .ok (.iconst 1, 1) := by decide +kernel
theorem dX3_readAway_40 : decode cX3_readAway 40 = .ok (.ireturn, 1) := by decide +kernel
theorem dX3_readBar_0 : decode cX3_readBar 0 = .ok (.aload_n 0, 1) := by decide +kernel
theorem dX3_readBar_1 : decode cX3_readBar 1 = .ok (.invokevirtual 22, 3) := by decide +kernel
theorem dX3_readBar_4 : decode cX3_readBar 4 = .ok (.aload_n 0, 1) := by decide +kernel
theorem dX3_readBar_5 : decode cX3_readBar 5 = .ok (.iconst 0, 1) := by decide +kernel
theorem dX3_readBar_6 : decode cX3_readBar 6 = .ok (.aload_n 1, 1) := by decide +kernel
theorem dX3_readBar_7 : decode cX3_readBar 7 = .ok (.getfield 93, 3) := by decide +kernel
theorem dX3_readBar_10 : decode cX3_readBar 10 = .ok (.iconst 1, 1) := by decide +kernel
theorem dX3_readBar_11 : decode cX3_readBar 11 = .ok (.isub, 1) := by decide +kernel
theorem dX3_readBar_12 : decode cX3_readBar 12 = .ok (.invokevirtual 96, 3) := by decide +kernel
theorem dX3_readBar_15 : decode cX3_readBar 15 = .ok (.istore_n 2, 1) := by decide +kernel
theorem dX3_readBar_16 : decode cX3_readBar 16 = .ok (.iload_n 2, 1) := by decide +kernel
theorem dX3_readBar_17 : decode cX3_readBar 17 = .ok (.iconst (-1), 1) := by decide +kernel
theorem dX3_readBar_18 : decode cX3_readBar 18 = .ok (.if_icmp .ne 5, 3) := by decide +kernel
theorem dX3_readBar_21 : decode cX3_readBar 21 = .ok (.iconst 0, 1) := by decide +kernel
theorem dX3_readBar_22 : decode cX3_readBar 22 = .ok (.ireturn, 1) := by decide +kernel
theorem dX3_readBar_23 : decode cX3_readBar 23 = .ok (.aload_n 0, 1) := by decide +kernel
theorem dX3_readBar_24 : decode cX3_readBar 24 = .ok (.invokevirtual 22, 3) := by decide +kernel
theorem dX3_readBar_27 : decode cX3_readBar 27 = .ok (.aload_n 0, 1) := by decide +kernel
theorem dX3_readBar_28 : decode cX3_readBar 28 = .ok (.iconst 0, 1) := by decide +kernel
theorem dX3_readBar_29 : decode cX3_readBar 29 = .ok (.bipush 9, 2) := by decide +kernel
theorem dX3_readBar_31 : decode cX3_readBar 31 = .ok (.invokevirtual 96, 3) := by decide +kernel
theorem dX3_readBar_34 : decode cX3_readBar 34 = .ok (.istore_n 3, 1) := by decide +kernel
theorem dX3_readBar_35 : decode cX3_readBar 35 = .ok (.iload_n 3, 1) := by decide +kernel
theorem dX3_readBar_36 : decode cX3_readBar 36 = .ok (.iconst (-1), 1) := by decide +kernel
theorem dX3_readBar_37 : decode cX3_readBar 37 = .ok (.if_icmp .ne 5, 3) := by decide +kernel
theorem dX3_readBar_40 : decode cX3_readBar 40 = .ok (.iconst 0, 1) := by decide +kernel
theorem dX3_readBar_41 : decode cX3_readBar 41 = .ok (.ireturn, 1) := by decide +kernel
theorem dX3_readBar_42 : decode cX3_readBar 42 = .ok (.aload_n 1, 1) := by decide +kernel
theorem dX3_readBar_43 : decode cX3_readBar 43 = .ok (.getfield 111, 3) := by decide +kernel
theorem dX3_readBar_46 : decode cX3_readBar 46 = .ok (.iload_n 2, 1) := by decide +kernel
theorem dX3_readBar_47 : decode cX3_readBar 47 = .ok (.dup2, 1) := by decide +kernel
theorem dX3_readBar_48 : decode cX3_readBar 48 = .ok (.iaload, 1) := by decide +kernel
theorem dX3_readBar_49 : decode cX3_readBar 49 = .ok (.iconst 1, 1) := by decide +kernel
theorem dX3_readBar_50 : decode cX3_readBar 50 = .ok (.iload_n 3, 1) := by decide +kernel
theorem dX3_readBar_51 : decode cX3_readBar 51 = .ok (.ishl, 1) := by decide +kernel
theorem dX3_readBar_52 : decode cX3_readBar 52 = .ok (.ior, 1) := by decide +kernel
theorem dX3_readBar_53 : decode cX3_readBar 53 = .ok (.iastore, 1) := by decide +kernel
theorem dX3_readBar_54 : decode cX3_readBar 54 = .ok (.aload_n 0, 1) := by decide +kernel
theorem dX3_readBar_55 : decode cX3_readBar 55 = .ok (.invokevirtual 22, 3) := by decide +kernel
theorem dX3_readBar_58 : decode cX3_readBar 58 = .ok (.iconst 1, 1) := by decide +kernel
theorem dX3_readBar_59 : decode cX3_readBar 59 = .ok (.ireturn, 1) := by decide +kernel
theorem dX3_readClause_0 : decode cX3_readClause 0 = .ok (.aload_n 0, 1) := by decide +kernel
theorem dX3_readClause_1 : decode cX3_readClause 1 = .ok (.ldc 62, 2) := by decide +kernel
theorem dX3_readClause_3 : decode cX3_readClause 3 = .ok (.invokevirtual 64, 3) := by decide +kernel
theorem dX3_readClause_6 : decode cX3_readClause 6 = .ok (.ifCond .eq 13, 3) := by decide +kernel
theorem dX3_readClause_9 : decode cX3_readClause 9 = .ok (.aload_n 1, 1) := by decide +kernel
theorem dX3_readClause_10 : decode cX3_readClause 10 = .ok (.invokevirtual 68, 3) := by decide +kernel
theorem dX3_readClause_13 : decode cX3_readClause 13 = .ok (.aload_n 0, 1) := by decide +kernel
theorem dX3_readClause_14 : decode cX3_readClause 14 = .ok (.invokevirtual 22, 3) := by decide +kernel
theorem dX3_readClause_17 : decode cX3_readClause 17 = .ok (.iconst 1, 1) := by decide +kernel
theorem dX3_readClause_18 : decode cX3_readClause 18 = .ok (.ireturn, 1) := by decide +kernel
theorem dX3_readClause_19 : decode cX3_readClause 19 = .ok (.aload_n 0, 1) := by decide +kernel
theorem dX3_readClause_20 : decode cX3_readClause 20 = .ok (.ldc 73, 2) := by decide +kernel
theorem dX3_readClause_22 : decode cX3_readClause 22 = .ok (.invokevirtual 64, 3) := by decide +kernel
theorem dX3_readClause_25 : decode cX3_readClause 25 = .ok (.ifCond .eq 9, 3) := by decide +kernel
theorem dX3_readClause_28 : decode cX3_readClause 28 = .ok (.aload_n 0, 1) := by decide +kernel
theorem dX3_readClause_29 : decode cX3_readClause 29 = .ok (.aload_n 1, 1) := by decide +kernel
theorem dX3_readClause_30 : decode cX3_readClause 30 = .ok (.invokevirtual 75, 3) := by decide +kernel
theorem dX3_readClause_33 : decode cX3_readClause 33 = .ok (.ireturn, 1) := by decide +kernel
theorem dX3_readClause_34 : decode cX3_readClause 34 = .ok (.aload_n 0, 1) := by decide +kernel
theorem dX3_readClause_35 : decode cX3_readClause 35 = .ok (.ldc 78, 2) := by decide +kernel
theorem dX3_readClause_37 : decode cX3_readClause 37 = .ok (.invokevirtual 64, 3) := by decide +kernel
theorem dX3_readClause_40 : decode cX3_readClause 40 = .ok (.ifCond .eq 9, 3) := by decide +kernel
theorem dX3_readClause_43 : decode cX3_readClause 43 = .ok (.aload_n 0, 1) := by decide +kernel
theorem dX3_readClause_44 : decode cX3_readClause 44 = .ok (.aload_n 1, 1) := by decide +kernel
theorem dX3_readClause_45 : decode cX3_readClause 45 = .ok (.invokevirtual 80, 3) := by decide +kernel
theorem dX3_readClause_48 : decode cX3_readClause 48 = .ok (.ireturn, 1) := by decide +kernel
theorem dX3_readClause_49 : decode cX3_readClause 49 = .ok (.aload_n 0, 1) := by decide +kernel
theorem dX3_readClause_50 : decode cX3_readClause 50 = .ok (.ldc 83, 2) := by decide +kernel
theorem dX3_readClause_52 : decode cX3_readClause 52 = .ok (.invokevirtual 64, 3) := by decide +kernel
theorem dX3_readClause_55 : decode cX3_readClause 55 = .ok (.ifCond .eq 9, 3) := by decide +kernel
theorem dX3_readClause_58 : decode cX3_readClause 58 = .ok (.aload_n 0, 1) := by decide +kernel
theorem dX3_readClause_59 : decode cX3_readClause 59 = .ok (.aload_n 1, 1) := by decide +kernel
theorem dX3_readClause_60 : decode cX3_readClause 60 = .ok (.invokevirtual 85, 3) := by decide +kernel
theorem dX3_readClause_63 : decode cX3_readClause 63 = .ok (.ireturn, 1) := by decide +kernel
theorem dX3_readClause_64 : decode cX3_readClause 64 = .ok (.aload_n 0, 1) := by decide +kernel
theorem dX3_readClause_65 : decode cX3_readClause 65 = .ok (.ldc 88, 2) := by decide +kernel
theorem dX3_readClause_67 : decode cX3_readClause 67 = .ok (.invokevirtual 64, 3) := by decide +kernel
theorem dX3_readClause_70 : decode cX3_readClause 70 = .ok (.ifCond .eq 15, 3) := by decide +kernel
theorem dX3_readClause_73 : decode cX3_readClause 73 = .ok (.aload_n 0, 1) := by decide +kernel
theorem dX3_readClause_74 : decode cX3_readClause 74 = .ok (.aload_n 1, 1) := by decide +kernel
theorem dX3_readClause_75 : decode cX3_readClause 75 = .ok (.invokevirtual 90, 3) := by decide +kernel
theorem dX3_readClause_78 : decode cX3_readClause 78 = .ok (.ifCond .eq 7, 3) := by decide +kernel
theorem dX3_readClause_81 : decode cX3_readClause 81 = .ok (.iconst 1, 1) := by decide +kernel
theorem dX3_readClause_82 : decode cX3_readClause 82 = .ok (.goto 4, 3) := by decide +kernel
theorem dX3_readClause_85 : decode cX3_readClause 85 = .ok (.iconst 0, 1) := by decide +kernel
theorem dX3_readClause_86 : decode cX3_readClause 86 = .ok (.ireturn, 1) := by decide +kernel
theorem dX3_readInto_0 : decode cX3_readInto 0 = .ok (.aload_n 0, 1) := by decide +kernel
theorem dX3_readInto_1 : decode cX3_readInto 1 = .ok (.iconst 0, 1) := by decide +kernel
theorem dX3_readInto_2 : decode cX3_readInto 2 = .ok (.putfield 15, 3) := by decide +kernel
theorem dX3_readInto_5 : decode cX3_readInto 5 = .ok (.aload_n 0, 1) := by decide +kernel
theorem dX3_readInto_6 : decode cX3_readInto 6 = .ok (.iconst 0, 1) := by decide +kernel
theorem dX3_readInto_7 : decode cX3_readInto 7 = .ok (.putfield 19, 3) := by decide +kernel
theorem dX3_readInto_10 : decode cX3_readInto 10 = .ok (.iconst 0, 1) := by decide +kernel
theorem dX3_readInto_11 : decode cX3_readInto 11 = .ok (.istore_n 2, 1) := by decide +kernel
theorem dX3_readInto_12 : decode cX3_readInto 12 = .ok (.iload_n 2, 1) := by decide +kernel
theorem dX3_readInto_13 : decode cX3_readInto 13 = .ok (.bipush 24, 2) := by decide +kernel
theorem dX3_readInto_15 : decode cX3_readInto 15 = .ok (.if_icmp .ge 59, 3) := by decide +kernel
theorem dX3_readInto_18 : decode cX3_readInto 18 = .ok (.aload_n 0, 1) := by decide +kernel
theorem dX3_readInto_19 : decode cX3_readInto 19 = .ok (.invokevirtual 22, 3) := by decide +kernel
theorem dX3_readInto_22 : decode cX3_readInto 22 = .ok (.aload_n 0, 1) := by decide +kernel
theorem dX3_readInto_23 : decode cX3_readInto 23 = .ok (.aload_n 1, 1) := by decide +kernel
theorem dX3_readInto_24 : decode cX3_readInto 24 = .ok (.invokevirtual 25, 3) := by decide +kernel
theorem dX3_readInto_27 : decode cX3_readInto 27 = .ok (.ifCond .ne 8, 3) := by decide +kernel
theorem dX3_readInto_30 : decode cX3_readInto 30 = .ok (.aload_n 0, 1) := by decide +kernel
theorem dX3_readInto_31 : decode cX3_readInto 31 = .ok (.getfield 29, 3) := by decide +kernel
theorem dX3_readInto_34 : decode cX3_readInto 34 = .ok (.ireturn, 1) := by decide +kernel
theorem dX3_readInto_35 : decode cX3_readInto 35 = .ok (.aload_n 0, 1) := by decide +kernel
theorem dX3_readInto_36 : decode cX3_readInto 36 = .ok (.dup, 1) := by decide +kernel
theorem dX3_readInto_37 : decode cX3_readInto 37 = .ok (.getfield 19, 3) := by decide +kernel
theorem dX3_readInto_40 : decode cX3_readInto 40 = .ok (.iconst 1, 1) := by decide +kernel
theorem dX3_readInto_41 : decode cX3_readInto 41 = .ok (.iadd, 1) := by decide +kernel
theorem dX3_readInto_42 : decode cX3_readInto 42 = .ok (.putfield 19, 3) := by decide +kernel
theorem dX3_readInto_45 : decode cX3_readInto 45 = .ok (.aload_n 0, 1) := by decide +kernel
theorem dX3_readInto_46 : decode cX3_readInto 46 = .ok (.getfield 32, 3) := by decide +kernel
theorem dX3_readInto_49 : decode cX3_readInto 49 = .ok (.ifCond .ne 5, 3) := by decide +kernel
theorem dX3_readInto_52 : decode cX3_readInto 52 = .ok (.iconst (-1), 1) := by decide +kernel
theorem dX3_readInto_53 : decode cX3_readInto 53 = .ok (.ireturn, 1) := by decide +kernel
theorem dX3_readInto_54 : decode cX3_readInto 54 = .ok (.aload_n 0, 1) := by decide +kernel
theorem dX3_readInto_55 : decode cX3_readInto 55 = .ok (.bipush 59, 2) := by decide +kernel
theorem dX3_readInto_57 : decode cX3_readInto 57 = .ok (.invokevirtual 35, 3) := by decide +kernel
theorem dX3_readInto_60 : decode cX3_readInto 60 = .ok (.ifCond .ne 8, 3) := by decide +kernel
theorem dX3_readInto_63 : decode cX3_readInto 63 = .ok (.aload_n 0, 1) := by decide +kernel
theorem dX3_readInto_64 : decode cX3_readInto 64 = .ok (.getfield 29, 3) := by decide +kernel
theorem dX3_readInto_67 : decode cX3_readInto 67 = .ok (.ireturn, 1) := by decide +kernel
theorem dX3_readInto_68 : decode cX3_readInto 68 = .ok (.iinc 2 1, 3) := by decide +kernel
theorem dX3_readInto_71 : decode cX3_readInto 71 = .ok (.goto (-59), 3) := by decide +kernel
theorem dX3_readInto_74 : decode cX3_readInto 74 = .ok (.aload_n 0, 1) := by decide +kernel
theorem dX3_readInto_75 : decode cX3_readInto 75 = .ok (.getfield 29, 3) := by decide +kernel
theorem dX3_readInto_78 : decode cX3_readInto 78 = .ok (.ireturn, 1) := by decide +kernel
theorem dX3_readJudge_0 : decode cX3_readJudge 0 = .ok (.aload_n 1, 1) := by decide +kernel
theorem dX3_readJudge_1 : decode cX3_readJudge 1 = .ok (.getfield 93, 3) := by decide +kernel
theorem dX3_readJudge_4 : decode cX3_readJudge 4 = .ok (.bipush 6, 2) := by decide +kernel
theorem dX3_readJudge_6 : decode cX3_readJudge 6 = .ok (.if_icmp .lt 5, 3) := by decide +kernel
theorem dX3_readJudge_9 : decode cX3_readJudge 9 = .ok (.iconst 0, 1) := by decide +kernel
theorem dX3_readJudge_10 : decode cX3_readJudge 10 = .ok (.ireturn, 1) := by decide +kernel
theorem dX3_readJudge_11 : decode cX3_readJudge 11 = .ok (.aload_n 0, 1) := by decide +kernel
theorem dX3_readJudge_12 : decode cX3_readJudge 12 = .ok (.invokevirtual 22, 3) := by decide +kernel
theorem dX3_readJudge_15 : decode cX3_readJudge 15 = .ok (.aload_n 0, 1) := by decide +kernel
theorem dX3_readJudge_16 : decode cX3_readJudge 16 = .ok (.iconst 1, 1) := by decide +kernel
theorem dX3_readJudge_17 : decode cX3_readJudge 17 = .ok (.bipush 9, 2) := by decide +kernel
theorem dX3_readJudge_19 : decode cX3_readJudge 19 = .ok (.invokevirtual 96, 3) := by decide +kernel
theorem dX3_readJudge_22 : decode cX3_readJudge 22 = .ok (.istore_n 2, 1) := by decide +kernel
theorem dX3_readJudge_23 : decode cX3_readJudge 23 = .ok (.iload_n 2, 1) := by decide +kernel
theorem dX3_readJudge_24 : decode cX3_readJudge 24 = .ok (.iconst (-1), 1) := by decide +kernel
theorem dX3_readJudge_25 : decode cX3_readJudge 25 = .ok (.if_icmp .ne 5, 3) := by decide +kernel
theorem dX3_readJudge_28 : decode cX3_readJudge 28 = .ok (.iconst 0, 1) := by decide +kernel
theorem dX3_readJudge_29 : decode cX3_readJudge 29 = .ok (.ireturn, 1) := by decide +kernel
theorem dX3_readJudge_30 : decode cX3_readJudge 30 = .ok (.aload_n 0, 1) := by decide +kernel
theorem dX3_readJudge_31 : decode cX3_readJudge 31 = .ok (.invokevirtual 22, 3) := by decide +kernel
theorem dX3_readJudge_34 : decode cX3_readJudge 34 = .ok (.iconst 0, 1) := by decide +kernel
theorem dX3_readJudge_35 : decode cX3_readJudge 35 = .ok (.istore_n 3, 1) := by decide +kernel
theorem dX3_readJudge_36 : decode cX3_readJudge 36 = .ok (.aload_n 0, 1) := by decide +kernel
theorem dX3_readJudge_37 : decode cX3_readJudge 37 = .ok (.getfield 32, 3) := by decide +kernel
theorem dX3_readJudge_40 : decode cX3_readJudge 40 = .ok (.iconst 1, 1) := by decide +kernel
theorem dX3_readJudge_41 : decode cX3_readJudge 41 = .ok (.if_icmp .ne 18, 3) := by decide +kernel
theorem dX3_readJudge_44 : decode cX3_readJudge 44 = .ok (.aload_n 0, 1) := by decide +kernel
theorem dX3_readJudge_45 : decode cX3_readJudge 45 = .ok (.invokevirtual 100, 3) := by decide +kernel
theorem dX3_readJudge_48 : decode cX3_readJudge 48 = .ok (.istore_n 3, 1) := by decide +kernel
theorem dX3_readJudge_49 : decode cX3_readJudge 49 = .ok (.iload_n 3, 1) := by decide +kernel
theorem dX3_readJudge_50 : decode cX3_readJudge 50 = .ok (.ifCond .ne 5, 3) := by decide +kernel
theorem dX3_readJudge_53 : decode cX3_readJudge 53 = .ok (.iconst 0, 1) := by decide +kernel
theorem dX3_readJudge_54 : decode cX3_readJudge 54 = .ok (.ireturn, 1) := by decide +kernel
theorem dX3_readJudge_55 : decode cX3_readJudge 55 = .ok (.aload_n 0, 1) := by decide +kernel
theorem dX3_readJudge_56 : decode cX3_readJudge 56 = .ok (.invokevirtual 22, 3) := by decide +kernel
theorem dX3_readJudge_59 : decode cX3_readJudge 59 = .ok (.aload_n 1, 1) := by decide +kernel
theorem dX3_readJudge_60 : decode cX3_readJudge 60 = .ok (.iload_n 2, 1) := by decide +kernel
theorem dX3_readJudge_61 : decode cX3_readJudge 61 = .ok (.iload_n 3, 1) := by decide +kernel
theorem dX3_readJudge_62 : decode cX3_readJudge 62 = .ok (.invokevirtual 104, 3) := by decide +kernel
theorem dX3_readJudge_65 : decode cX3_readJudge 65 = .ok (.iconst 1, 1) := by decide +kernel
theorem dX3_readJudge_66 : decode cX3_readJudge 66 = .ok (.ireturn, 1) := by decide +kernel
theorem dX3_readRule_0 : decode cX3_readRule 0 = .ok (.aload_n 0, 1) := by decide +kernel
theorem dX3_readRule_1 : decode cX3_readRule 1 = .ok (.invokevirtual 22, 3) := by decide +kernel
theorem dX3_readRule_4 : decode cX3_readRule 4 = .ok (.aload_n 0, 1) := by decide +kernel
theorem dX3_readRule_5 : decode cX3_readRule 5 = .ok (.getfield 32, 3) := by decide +kernel
theorem dX3_readRule_8 : decode cX3_readRule 8 = .ok (.iconst 1, 1) := by decide +kernel
theorem dX3_readRule_9 : decode cX3_readRule 9 = .ok (.if_icmp .ne 21, 3) := by decide +kernel
theorem dX3_readRule_12 : decode cX3_readRule 12 = .ok (.aload_n 0, 1) := by decide +kernel
theorem dX3_readRule_13 : decode cX3_readRule 13 = .ok (.getfield 9, 3) := by decide +kernel
theorem dX3_readRule_16 : decode cX3_readRule 16 = .ok (.aload_n 0, 1) := by decide +kernel
theorem dX3_readRule_17 : decode cX3_readRule 17 = .ok (.getfield 29, 3) := by decide +kernel
theorem dX3_readRule_20 : decode cX3_readRule 20 = .ok (.aload_n 0, 1) := by decide +kernel
theorem dX3_readRule_21 : decode cX3_readRule 21 = .ok (.getfield 15, 3) := by decide +kernel
theorem dX3_readRule_24 : decode cX3_readRule 24 = .ok (.invokevirtual 116, 3) := by decide +kernel
theorem dX3_readRule_27 : decode cX3_readRule 27 = .ok (.goto 4, 3) := by decide +kernel
theorem dX3_readRule_30 : decode cX3_readRule 30 = .ok (.iconst (-1), 1) := by decide +kernel
theorem dX3_readRule_31 : decode cX3_readRule 31 = .ok (.istore_n 2, 1) := by decide +kernel
theorem dX3_readRule_32 : decode cX3_readRule 32 = .ok (.iload_n 2, 1) := by decide +kernel
theorem dX3_readRule_33 : decode cX3_readRule 33 = .ok (.iconst (-1), 1) := by decide +kernel
theorem dX3_readRule_34 : decode cX3_readRule 34 = .ok (.if_icmp .ne 5, 3) := by decide +kernel
theorem dX3_readRule_37 : decode cX3_readRule 37 = .ok (.iconst 0, 1) := by decide +kernel
theorem dX3_readRule_38 : decode cX3_readRule 38 = .ok (.ireturn, 1) := by decide +kernel
theorem dX3_readRule_39 : decode cX3_readRule 39 = .ok (.aload_n 1, 1) := by decide +kernel
theorem dX3_readRule_40 : decode cX3_readRule 40 = .ok (.iload_n 2, 1) := by decide +kernel
theorem dX3_readRule_41 : decode cX3_readRule 41 = .ok (.putfield 119, 3) := by decide +kernel
theorem dX3_readRule_44 : decode cX3_readRule 44 = .ok (.aload_n 0, 1) := by decide +kernel
theorem dX3_readRule_45 : decode cX3_readRule 45 = .ok (.invokevirtual 22, 3) := by decide +kernel
theorem dX3_readRule_48 : decode cX3_readRule 48 = .ok (.iconst 1, 1) := by decide +kernel
theorem dX3_readRule_49 : decode cX3_readRule 49 = .ok (.ireturn, 1) := by decide +kernel
theorem dX3_step_0 : decode cX3_step 0 = .ok (.aload_n 0, 1) := by decide +kernel
theorem dX3_step_1 : decode cX3_step 1 = .ok (.aload_n 0, 1) := by decide +kernel
theorem dX3_step_2 : decode cX3_step 2 = .ok (.getfield 15, 3) := by decide +kernel
theorem dX3_step_5 : decode cX3_step 5 = .ok (.putfield 29, 3) := by decide +kernel
theorem dX3_step_8 : decode cX3_step 8 = .ok (.aload_n 0, 1) := by decide +kernel
theorem dX3_step_9 : decode cX3_step 9 = .ok (.getfield 29, 3) := by decide +kernel
theorem dX3_step_12 : decode cX3_step 12 = .ok (.aload_n 0, 1) := by decide +kernel
theorem dX3_step_13 : decode cX3_step 13 = .ok (.getfield 9, 3) := by decide +kernel
theorem dX3_step_16 : decode cX3_step 16 = .ok (.getfield 39, 3) := by decide +kernel
theorem dX3_step_19 : decode cX3_step 19 = .ok (.if_icmp .ge 33, 3) := by decide +kernel
theorem dX3_step_22 : decode cX3_step 22 = .ok (.aload_n 0, 1) := by decide +kernel
theorem dX3_step_23 : decode cX3_step 23 = .ok (.getfield 9, 3) := by decide +kernel
theorem dX3_step_26 : decode cX3_step 26 = .ok (.getfield 44, 3) := by decide +kernel
theorem dX3_step_29 : decode cX3_step 29 = .ok (.aload_n 0, 1) := by decide +kernel
theorem dX3_step_30 : decode cX3_step 30 = .ok (.getfield 29, 3) := by decide +kernel
theorem dX3_step_33 : decode cX3_step 33 = .ok (.iaload, 1) := by decide +kernel
theorem dX3_step_34 : decode cX3_step 34 = .ok (.bipush 32, 2) := by decide +kernel
theorem dX3_step_36 : decode cX3_step 36 = .ok (.if_icmp .ne 16, 3) := by decide +kernel
theorem dX3_step_39 : decode cX3_step 39 = .ok (.aload_n 0, 1) := by decide +kernel
theorem dX3_step_40 : decode cX3_step 40 = .ok (.dup, 1) := by decide +kernel
theorem dX3_step_41 : decode cX3_step 41 = .ok (.getfield 29, 3) := by decide +kernel
theorem dX3_step_44 : decode cX3_step 44 = .ok (.iconst 1, 1) := by decide +kernel
theorem dX3_step_45 : decode cX3_step 45 = .ok (.iadd, 1) := by decide +kernel
theorem dX3_step_46 : decode cX3_step 46 = .ok (.putfield 29, 3) := by decide +kernel
theorem dX3_step_49 : decode cX3_step 49 = .ok (.goto (-41), 3) := by decide +kernel
theorem dX3_step_52 : decode cX3_step 52 = .ok (.aload_n 0, 1) := by decide +kernel
theorem dX3_step_53 : decode cX3_step 53 = .ok (.aload_n 0, 1) := by decide +kernel
theorem dX3_step_54 : decode cX3_step 54 = .ok (.getfield 29, 3) := by decide +kernel
theorem dX3_step_57 : decode cX3_step 57 = .ok (.putfield 15, 3) := by decide +kernel
theorem dX3_step_60 : decode cX3_step 60 = .ok (.aload_n 0, 1) := by decide +kernel
theorem dX3_step_61 : decode cX3_step 61 = .ok (.getfield 29, 3) := by decide +kernel
theorem dX3_step_64 : decode cX3_step 64 = .ok (.aload_n 0, 1) := by decide +kernel
theorem dX3_step_65 : decode cX3_step 65 = .ok (.getfield 9, 3) := by decide +kernel
theorem dX3_step_68 : decode cX3_step 68 = .ok (.getfield 39, 3) := by decide +kernel
theorem dX3_step_71 : decode cX3_step 71 = .ok (.if_icmp .lt 11, 3) := by decide +kernel
theorem dX3_step_74 : decode cX3_step 74 = .ok (.aload_n 0, 1) := by decide +kernel
theorem dX3_step_75 : decode cX3_step 75 = .ok (.iconst 0, 1) := by decide +kernel
theorem dX3_step_76 : decode cX3_step 76 = .ok (.putfield 32, 3) := by decide +kernel
theorem dX3_step_79 : decode cX3_step 79 = .ok (.goto 154, 3) := by decide +kernel
theorem dX3_step_82 : decode cX3_step 82 = .ok (.aload_n 0, 1) := by decide +kernel
theorem dX3_step_83 : decode cX3_step 83 = .ok (.getfield 9, 3) := by decide +kernel
theorem dX3_step_86 : decode cX3_step 86 = .ok (.getfield 44, 3) := by decide +kernel
theorem dX3_step_89 : decode cX3_step 89 = .ok (.aload_n 0, 1) := by decide +kernel
theorem dX3_step_90 : decode cX3_step 90 = .ok (.getfield 29, 3) := by decide +kernel
theorem dX3_step_93 : decode cX3_step 93 = .ok (.iaload, 1) := by decide +kernel
theorem dX3_step_94 : decode cX3_step 94 = .ok (.invokestatic 48, 3) := by decide +kernel
theorem dX3_step_97 : decode cX3_step 97 = .ok (.ifCond .eq 53, 3) := by decide +kernel
theorem dX3_step_100 : decode cX3_step 100 = .ok (.aload_n 0, 1) := by decide +kernel
theorem dX3_step_101 : decode cX3_step 101 = .ok (.iconst 1, 1) := by decide +kernel
theorem dX3_step_102 : decode cX3_step 102 = .ok (.putfield 32, 3) := by decide +kernel
theorem dX3_step_105 : decode cX3_step 105 = .ok (.aload_n 0, 1) := by decide +kernel
theorem dX3_step_106 : decode cX3_step 106 = .ok (.getfield 15, 3) := by decide +kernel
theorem dX3_step_109 : decode cX3_step 109 = .ok (.aload_n 0, 1) := by decide +kernel
theorem dX3_step_110 : decode cX3_step 110 = .ok (.getfield 9, 3) := by decide +kernel
theorem dX3_step_113 : decode cX3_step 113 = .ok (.getfield 39, 3) := by decide +kernel
theorem dX3_step_116 : decode cX3_step 116 = .ok (.if_icmp .ge 117, 3) := by decide +kernel
theorem dX3_step_119 : decode cX3_step 119 = .ok (.aload_n 0, 1) := by decide +kernel
theorem dX3_step_120 : decode cX3_step 120 = .ok (.getfield 9, 3) := by decide +kernel
theorem dX3_step_123 : decode cX3_step 123 = .ok (.getfield 44, 3) := by decide +kernel
theorem dX3_step_126 : decode cX3_step 126 = .ok (.aload_n 0, 1) := by decide +kernel
theorem dX3_step_127 : decode cX3_step 127 = .ok (.getfield 15, 3) := by decide +kernel
theorem dX3_step_130 : decode cX3_step 130 = .ok (.iaload, 1) := by decide +kernel
theorem dX3_step_131 : decode cX3_step 131 = .ok (.invokestatic 48, 3) := by decide +kernel
theorem dX3_step_134 : decode cX3_step 134 = .ok (.ifCond .eq 99, 3) := by decide +kernel
theorem dX3_step_137 : decode cX3_step 137 = .ok (.aload_n 0, 1) := by decide +kernel
theorem dX3_step_138 : decode cX3_step 138 = .ok (.dup, 1) := by decide +kernel
theorem dX3_step_139 : decode cX3_step 139 = .ok (.getfield 15, 3) := by decide +kernel
theorem dX3_step_142 : decode cX3_step 142 = .ok (.iconst 1, 1) := by decide +kernel
theorem dX3_step_143 : decode cX3_step 143 = .ok (.iadd, 1) := by decide +kernel
theorem dX3_step_144 : decode cX3_step 144 = .ok (.putfield 15, 3) := by decide +kernel
theorem dX3_step_147 : decode cX3_step 147 = .ok (.goto (-42), 3) := by decide +kernel
theorem dX3_step_150 : decode cX3_step 150 = .ok (.aload_n 0, 1) := by decide +kernel
theorem dX3_step_151 : decode cX3_step 151 = .ok (.getfield 9, 3) := by decide +kernel
theorem dX3_step_154 : decode cX3_step 154 = .ok (.getfield 44, 3) := by decide +kernel
theorem dX3_step_157 : decode cX3_step 157 = .ok (.aload_n 0, 1) := by decide +kernel
theorem dX3_step_158 : decode cX3_step 158 = .ok (.getfield 29, 3) := by decide +kernel
theorem dX3_step_161 : decode cX3_step 161 = .ok (.iaload, 1) := by decide +kernel
theorem dX3_step_162 : decode cX3_step 162 = .ok (.invokestatic 51, 3) := by decide +kernel
theorem dX3_step_165 : decode cX3_step 165 = .ok (.ifCond .eq 53, 3) := by decide +kernel
theorem dX3_step_168 : decode cX3_step 168 = .ok (.aload_n 0, 1) := by decide +kernel
theorem dX3_step_169 : decode cX3_step 169 = .ok (.iconst 2, 1) := by decide +kernel
theorem dX3_step_170 : decode cX3_step 170 = .ok (.putfield 32, 3) := by decide +kernel
theorem dX3_step_173 : decode cX3_step 173 = .ok (.aload_n 0, 1) := by decide +kernel
theorem dX3_step_174 : decode cX3_step 174 = .ok (.getfield 15, 3) := by decide +kernel
theorem dX3_step_177 : decode cX3_step 177 = .ok (.aload_n 0, 1) := by decide +kernel
theorem dX3_step_178 : decode cX3_step 178 = .ok (.getfield 9, 3) := by decide +kernel
theorem dX3_step_181 : decode cX3_step 181 = .ok (.getfield 39, 3) := by decide +kernel
theorem dX3_step_184 : decode cX3_step 184 = .ok (.if_icmp .ge 49, 3) := by decide +kernel
theorem dX3_step_187 : decode cX3_step 187 = .ok (.aload_n 0, 1) := by decide +kernel
theorem dX3_step_188 : decode cX3_step 188 = .ok (.getfield 9, 3) := by decide +kernel
theorem dX3_step_191 : decode cX3_step 191 = .ok (.getfield 44, 3) := by decide +kernel
theorem dX3_step_194 : decode cX3_step 194 = .ok (.aload_n 0, 1) := by decide +kernel
theorem dX3_step_195 : decode cX3_step 195 = .ok (.getfield 15, 3) := by decide +kernel
theorem dX3_step_198 : decode cX3_step 198 = .ok (.iaload, 1) := by decide +kernel
theorem dX3_step_199 : decode cX3_step 199 = .ok (.invokestatic 51, 3) := by decide +kernel
theorem dX3_step_202 : decode cX3_step 202 = .ok (.ifCond .eq 31, 3) := by decide +kernel
theorem dX3_step_205 : decode cX3_step 205 = .ok (.aload_n 0, 1) := by decide +kernel
theorem dX3_step_206 : decode cX3_step 206 = .ok (.dup, 1) := by decide +kernel
theorem dX3_step_207 : decode cX3_step 207 = .ok (.getfield 15, 3) := by decide +kernel
theorem dX3_step_210 : decode cX3_step 210 = .ok (.iconst 1, 1) := by decide +kernel
theorem dX3_step_211 : decode cX3_step 211 = .ok (.iadd, 1) := by decide +kernel
theorem dX3_step_212 : decode cX3_step 212 = .ok (.putfield 15, 3) := by decide +kernel
theorem dX3_step_215 : decode cX3_step 215 = .ok (.goto (-42), 3) := by decide +kernel
theorem dX3_step_218 : decode cX3_step 218 = .ok (.aload_n 0, 1) := by decide +kernel
theorem dX3_step_219 : decode cX3_step 219 = .ok (.iconst 3, 1) := by decide +kernel
theorem dX3_step_220 : decode cX3_step 220 = .ok (.putfield 32, 3) := by decide +kernel
theorem dX3_step_223 : decode cX3_step 223 = .ok (.aload_n 0, 1) := by decide +kernel
theorem dX3_step_224 : decode cX3_step 224 = .ok (.dup, 1) := by decide +kernel
theorem dX3_step_225 : decode cX3_step 225 = .ok (.getfield 15, 3) := by decide +kernel
theorem dX3_step_228 : decode cX3_step 228 = .ok (.iconst 1, 1) := by decide +kernel
theorem dX3_step_229 : decode cX3_step 229 = .ok (.iadd, 1) := by decide +kernel
theorem dX3_step_230 : decode cX3_step 230 = .ok (.putfield 15, 3) := by decide +kernel
theorem dX3_step_233 : decode cX3_step 233 = .ok (.return_, 1) := by decide +kernel
theorem dX3_versedTold_0 : decode cX3_versedTold 0 = .ok (.iconst 0, 1) := by decide +kernel
theorem dX3_versedTold_1 : decode cX3_versedTold 1 = .ok (.istore_n 1, 1) := by decide +kernel
theorem dX3_versedTold_2 : decode cX3_versedTold 2 = .ok (.aload_n 0, 1) := by decide +kernel
theorem dX3_versedTold_3 : decode cX3_versedTold 3 = .ok (.getfield 29, 3) := by decide +kernel
theorem dX3_versedTold_6 : decode cX3_versedTold 6 = .ok (.istore_n 2, 1) := by decide +kernel
theorem dX3_versedTold_7 : decode cX3_versedTold 7 = .ok (.iload_n 2, 1) := by decide +kernel
theorem dX3_versedTold_8 : decode cX3_versedTold 8 = .ok (.aload_n 0, 1) := by decide +kernel
theorem dX3_versedTold_9 : decode cX3_versedTold 9 = .ok (.getfield 15, 3) := by decide +kernel
theorem dX3_versedTold_12 : decode cX3_versedTold 12 = .ok (.if_icmp .ge 46, 3) := by decide +kernel
theorem dX3_versedTold_15 : decode cX3_versedTold 15 = .ok (.aload_n 0, 1) := by decide +kernel
theorem dX3_versedTold_16 : decode cX3_versedTold 16 = .ok (.getfield 9, 3) := by decide +kernel
theorem dX3_versedTold_19 : decode cX3_versedTold 19 = .ok (.getfield 44, 3) := by decide +kernel
theorem dX3_versedTold_22 : decode cX3_versedTold 22 = .ok (.iload_n 2, 1) := by decide +kernel
theorem dX3_versedTold_23 : decode cX3_versedTold 23 = .ok (.iaload, 1) := by decide +kernel
theorem dX3_versedTold_24 : decode cX3_versedTold 24 = .ok (.bipush 97, 2) := by decide +kernel
theorem dX3_versedTold_26 : decode cX3_versedTold 26 = .ok (.isub, 1) := by decide +kernel
theorem dX3_versedTold_27 : decode cX3_versedTold 27 = .ok (.istore_n 3, 1) := by decide +kernel
theorem dX3_versedTold_28 : decode cX3_versedTold 28 = .ok (.iload_n 3, 1) := by decide +kernel
theorem dX3_versedTold_29 : decode cX3_versedTold 29 = .ok (.invokestatic 108, 3) := by decide +kernel
theorem dX3_versedTold_32 : decode cX3_versedTold 32 = .ok (.ifCond .eq 12, 3) := by decide +kernel
theorem dX3_versedTold_35 : decode cX3_versedTold 35 = .ok (.iload_n 1, 1) := by decide +kernel
theorem dX3_versedTold_36 : decode cX3_versedTold 36 = .ok (.iload_n 3, 1) := by decide +kernel
theorem dX3_versedTold_37 : decode cX3_versedTold 37 = .ok (.ishr, 1) := by decide +kernel
theorem dX3_versedTold_38 : decode cX3_versedTold 38 = .ok (.iconst 1, 1) := by decide +kernel
theorem dX3_versedTold_39 : decode cX3_versedTold 39 = .ok (.iand, 1) := by decide +kernel
theorem dX3_versedTold_40 : decode cX3_versedTold 40 = .ok (.iconst 1, 1) := by decide +kernel
theorem dX3_versedTold_41 : decode cX3_versedTold 41 = .ok (.if_icmp .ne 5, 3) := by decide +kernel
theorem dX3_versedTold_44 : decode cX3_versedTold 44 = .ok (.iconst 0, 1) := by decide +kernel
theorem dX3_versedTold_45 : decode cX3_versedTold 45 = .ok (.ireturn, 1) := by decide +kernel
theorem dX3_versedTold_46 : decode cX3_versedTold 46 = .ok (.iload_n 1, 1) := by decide +kernel
theorem dX3_versedTold_47 : decode cX3_versedTold 47 = .ok (.iconst 1, 1) := by decide +kernel
theorem dX3_versedTold_48 : decode cX3_versedTold 48 = .ok (.iload_n 3, 1) := by decide +kernel
theorem dX3_versedTold_49 : decode cX3_versedTold 49 = .ok (.ishl, 1) := by decide +kernel
theorem dX3_versedTold_50 : decode cX3_versedTold 50 = .ok (.ior, 1) := by decide +kernel
theorem dX3_versedTold_51 : decode cX3_versedTold 51 = .ok (.istore_n 1, 1) := by decide +kernel
theorem dX3_versedTold_52 : decode cX3_versedTold 52 = .ok (.iinc 2 1, 3) := by decide +kernel
theorem dX3_versedTold_55 : decode cX3_versedTold 55 = .ok (.goto (-48), 3) := by decide +kernel
theorem dX3_versedTold_58 : decode cX3_versedTold 58 = .ok (.iload_n 1, 1) := by decide +kernel
theorem dX3_versedTold_59 : decode cX3_versedTold 59 = .ok (.ireturn, 1) := by decide +kernel
