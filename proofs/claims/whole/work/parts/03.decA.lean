theorem dX0_init_0 : decode cX0_init 0 = .ok (.aload_n 0, 1) := by decide +kernel
theorem dX0_init_1 : decode cX0_init 1 = .ok (.invokespecial 3, 3) := by decide +kernel
theorem dX0_init_4 : decode cX0_init 4 = .ok (.aload_n 0, 1) := by decide +kernel
theorem dX0_init_5 : decode cX0_init 5 = .ok (.bipush 20, 2) := by decide +kernel
theorem dX0_init_7 : decode cX0_init 7 = .ok (.newarray .int, 2) := by decide +kernel
theorem dX0_init_9 : decode cX0_init 9 = .ok (.putfield 11, 3) := by decide +kernel
theorem dX0_init_12 : decode cX0_init 12 = .ok (.aload_n 0, 1) := by decide +kernel
theorem dX0_init_13 : decode cX0_init 13 = .ok (.bipush 20, 2) := by decide +kernel
theorem dX0_init_15 : decode cX0_init 15 = .ok (.newarray .int, 2) := by decide +kernel
theorem dX0_init_17 : decode cX0_init 17 = .ok (.putfield 15, 3) := by decide +kernel
theorem dX0_init_20 : decode cX0_init 20 = .ok (.aload_n 0, 1) := by decide +kernel
theorem dX0_init_21 : decode cX0_init 21 = .ok (.bipush 20, 2) := by decide +kernel
theorem dX0_init_23 : decode cX0_init 23 = .ok (.newarray .int, 2) := by decide +kernel
theorem dX0_init_25 : decode cX0_init 25 = .ok (.putfield 18, 3) := by decide +kernel
theorem dX0_init_28 : decode cX0_init 28 = .ok (.aload_n 0, 1) := by decide +kernel
theorem dX0_init_29 : decode cX0_init 29 = .ok (.iconst 0, 1) := by decide +kernel
theorem dX0_init_30 : decode cX0_init 30 = .ok (.putfield 21, 3) := by decide +kernel
theorem dX0_init_33 : decode cX0_init 33 = .ok (.return_, 1) := by decide +kernel
theorem dX0_hasRoom_0 : decode cX0_hasRoom 0 = .ok (.aload_n 0, 1) := by decide +kernel
theorem dX0_hasRoom_1 : decode cX0_hasRoom 1 = .ok (.getfield 21, 3) := by decide +kernel
theorem dX0_hasRoom_4 : decode cX0_hasRoom 4 = .ok (.bipush 20, 2) := by decide +kernel
theorem dX0_hasRoom_6 : decode cX0_hasRoom 6 = .ok (.if_icmp .ge 7, 3) := by decide +kernel
theorem dX0_hasRoom_9 : decode cX0_hasRoom 9 = .ok (.iconst 1, 1) := by decide +kernel
theorem dX0_hasRoom_10 : decode cX0_hasRoom 10 = .ok (.goto 4, 3) := by decide +kernel
theorem dX0_hasRoom_13 : decode cX0_hasRoom 13 = .ok (.iconst 0, 1) := by decide +kernel
theorem dX0_hasRoom_14 : decode cX0_hasRoom 14 = .ok (.ireturn, 1) := by decide +kernel
theorem dX0_entries_0 : decode cX0_entries 0 = .ok (.aload_n 0, 1) := by decide +kernel
theorem dX0_entries_1 : decode cX0_entries 1 = .ok (.getfield 21, 3) := by decide +kernel
theorem dX0_entries_4 : decode cX0_entries 4 = .ok (.ireturn, 1) := by decide +kernel
theorem dX0_add_0 : decode cX0_add 0 = .ok (.aload_n 0, 1) := by decide +kernel
theorem dX0_add_1 : decode cX0_add 1 = .ok (.invokevirtual 25, 3) := by decide +kernel
theorem dX0_add_4 : decode cX0_add 4 = .ok (.ifCond .eq 43, 3) := by decide +kernel
theorem dX0_add_7 : decode cX0_add 7 = .ok (.aload_n 0, 1) := by decide +kernel
theorem dX0_add_8 : decode cX0_add 8 = .ok (.getfield 11, 3) := by decide +kernel
theorem dX0_add_11 : decode cX0_add 11 = .ok (.aload_n 0, 1) := by decide +kernel
theorem dX0_add_12 : decode cX0_add 12 = .ok (.getfield 21, 3) := by decide +kernel
theorem dX0_add_15 : decode cX0_add 15 = .ok (.iload_n 1, 1) := by decide +kernel
theorem dX0_add_16 : decode cX0_add 16 = .ok (.iastore, 1) := by decide +kernel
theorem dX0_add_17 : decode cX0_add 17 = .ok (.aload_n 0, 1) := by decide +kernel
theorem dX0_add_18 : decode cX0_add 18 = .ok (.getfield 15, 3) := by decide +kernel
theorem dX0_add_21 : decode cX0_add 21 = .ok (.aload_n 0, 1) := by decide +kernel
theorem dX0_add_22 : decode cX0_add 22 = .ok (.getfield 21, 3) := by decide +kernel
theorem dX0_add_25 : decode cX0_add 25 = .ok (.iload_n 2, 1) := by decide +kernel
theorem dX0_add_26 : decode cX0_add 26 = .ok (.iastore, 1) := by decide +kernel
theorem dX0_add_27 : decode cX0_add 27 = .ok (.aload_n 0, 1) := by decide +kernel
theorem dX0_add_28 : decode cX0_add 28 = .ok (.getfield 18, 3) := by decide +kernel
theorem dX0_add_31 : decode cX0_add 31 = .ok (.aload_n 0, 1) := by decide +kernel
theorem dX0_add_32 : decode cX0_add 32 = .ok (.getfield 21, 3) := by decide +kernel
theorem dX0_add_35 : decode cX0_add 35 = .ok (.iload_n 3, 1) := by decide +kernel
theorem dX0_add_36 : decode cX0_add 36 = .ok (.iastore, 1) := by decide +kernel
theorem dX0_add_37 : decode cX0_add 37 = .ok (.aload_n 0, 1) := by decide +kernel
theorem dX0_add_38 : decode cX0_add 38 = .ok (.dup, 1) := by decide +kernel
theorem dX0_add_39 : decode cX0_add 39 = .ok (.getfield 21, 3) := by decide +kernel
theorem dX0_add_42 : decode cX0_add 42 = .ok (.iconst 1, 1) := by decide +kernel
theorem dX0_add_43 : decode cX0_add 43 = .ok (.iadd, 1) := by decide +kernel
theorem dX0_add_44 : decode cX0_add 44 = .ok (.putfield 21, 3) := by decide +kernel
theorem dX0_add_47 : decode cX0_add 47 = .ok (.return_, 1) := by decide +kernel
theorem dX0_clear_0 : decode cX0_clear 0 = .ok (.aload_n 0, 1) := by decide +kernel
theorem dX0_clear_1 : decode cX0_clear 1 = .ok (.iconst 0, 1) := by decide +kernel
theorem dX0_clear_2 : decode cX0_clear 2 = .ok (.putfield 21, 3) := by decide +kernel
theorem dX0_clear_5 : decode cX0_clear 5 = .ok (.return_, 1) := by decide +kernel
theorem dX0_firstWrong_0 : decode cX0_firstWrong 0 = .ok (.aload_n 1, 1) := by decide +kernel
theorem dX0_firstWrong_1 : decode cX0_firstWrong 1 = .ok (.ifnull 7, 3) := by decide +kernel
theorem dX0_firstWrong_4 : decode cX0_firstWrong 4 = .ok (.aload_n 2, 1) := by decide +kernel
theorem dX0_firstWrong_5 : decode cX0_firstWrong 5 = .ok (.ifnonnull 5, 3) := by decide +kernel
theorem dX0_firstWrong_8 : decode cX0_firstWrong 8 = .ok (.iconst (-1), 1) := by decide +kernel
theorem dX0_firstWrong_9 : decode cX0_firstWrong 9 = .ok (.ireturn, 1) := by decide +kernel
theorem dX0_firstWrong_10 : decode cX0_firstWrong 10 = .ok (.iconst 0, 1) := by decide +kernel
theorem dX0_firstWrong_11 : decode cX0_firstWrong 11 = .ok (.istore_n 3, 1) := by decide +kernel
theorem dX0_firstWrong_12 : decode cX0_firstWrong 12 = .ok (.iload_n 3, 1) := by decide +kernel
theorem dX0_firstWrong_13 : decode cX0_firstWrong 13 = .ok (.aload_n 0, 1) := by decide +kernel
theorem dX0_firstWrong_14 : decode cX0_firstWrong 14 = .ok (.getfield 21, 3) := by decide +kernel
theorem dX0_firstWrong_17 : decode cX0_firstWrong 17 = .ok (.if_icmp .ge 49, 3) := by decide +kernel
theorem dX0_firstWrong_20 : decode cX0_firstWrong 20 = .ok (.aload_n 1, 1) := by decide +kernel
theorem dX0_firstWrong_21 : decode cX0_firstWrong 21 = .ok (.aload_n 0, 1) := by decide +kernel
theorem dX0_firstWrong_22 : decode cX0_firstWrong 22 = .ok (.getfield 15, 3) := by decide +kernel
theorem dX0_firstWrong_25 : decode cX0_firstWrong 25 = .ok (.iload_n 3, 1) := by decide +kernel
theorem dX0_firstWrong_26 : decode cX0_firstWrong 26 = .ok (.iaload, 1) := by decide +kernel
theorem dX0_firstWrong_27 : decode cX0_firstWrong 27 = .ok (.invokevirtual 29, 3) := by decide +kernel
theorem dX0_firstWrong_30 : decode cX0_firstWrong 30 = .ok (.ifCond .eq 28, 3) := by decide +kernel
theorem dX0_firstWrong_33 : decode cX0_firstWrong 33 = .ok (.aload_n 2, 1) := by decide +kernel
theorem dX0_firstWrong_34 : decode cX0_firstWrong 34 = .ok (.aload_n 0, 1) := by decide +kernel
theorem dX0_firstWrong_35 : decode cX0_firstWrong 35 = .ok (.getfield 11, 3) := by decide +kernel
theorem dX0_firstWrong_38 : decode cX0_firstWrong 38 = .ok (.iload_n 3, 1) := by decide +kernel
theorem dX0_firstWrong_39 : decode cX0_firstWrong 39 = .ok (.iaload, 1) := by decide +kernel
theorem dX0_firstWrong_40 : decode cX0_firstWrong 40 = .ok (.aload_n 0, 1) := by decide +kernel
theorem dX0_firstWrong_41 : decode cX0_firstWrong 41 = .ok (.getfield 15, 3) := by decide +kernel
theorem dX0_firstWrong_44 : decode cX0_firstWrong 44 = .ok (.iload_n 3, 1) := by decide +kernel
theorem dX0_firstWrong_45 : decode cX0_firstWrong 45 = .ok (.iaload, 1) := by decide +kernel
theorem dX0_firstWrong_46 : decode cX0_firstWrong 46 = .ok (.invokevirtual 35, 3) := by decide +kernel
theorem dX0_firstWrong_49 : decode cX0_firstWrong 49 = .ok (.aload_n 0, 1) := by decide +kernel
theorem dX0_firstWrong_50 : decode cX0_firstWrong 50 = .ok (.getfield 18, 3) := by decide +kernel
theorem dX0_firstWrong_53 : decode cX0_firstWrong 53 = .ok (.iload_n 3, 1) := by decide +kernel
theorem dX0_firstWrong_54 : decode cX0_firstWrong 54 = .ok (.iaload, 1) := by decide +kernel
theorem dX0_firstWrong_55 : decode cX0_firstWrong 55 = .ok (.if_icmp .eq 5, 3) := by decide +kernel
theorem dX0_firstWrong_58 : decode cX0_firstWrong 58 = .ok (.iload_n 3, 1) := by decide +kernel
theorem dX0_firstWrong_59 : decode cX0_firstWrong 59 = .ok (.ireturn, 1) := by decide +kernel
theorem dX0_firstWrong_60 : decode cX0_firstWrong 60 = .ok (.iinc 3 1, 3) := by decide +kernel
theorem dX0_firstWrong_63 : decode cX0_firstWrong 63 = .ok (.goto (-51), 3) := by decide +kernel
theorem dX0_firstWrong_66 : decode cX0_firstWrong 66 = .ok (.iconst (-1), 1) := by decide +kernel
theorem dX0_firstWrong_67 : decode cX0_firstWrong 67 = .ok (.ireturn, 1) := by decide +kernel
theorem dX1_init_0 : decode cX1_init 0 = .ok (.aload_n 0, 1) := by decide +kernel
theorem dX1_init_1 : decode cX1_init 1 = .ok (.invokespecial 3, 3) := by decide +kernel
theorem dX1_init_4 : decode cX1_init 4 = .ok (.aload_n 0, 1) := by decide +kernel
theorem dX1_init_5 : decode cX1_init 5 = .ok (.bipush 16, 2) := by decide +kernel
theorem dX1_init_7 : decode cX1_init 7 = .ok (.anewarray 9, 3) := by decide +kernel
theorem dX1_init_10 : decode cX1_init 10 = .ok (.putfield 11, 3) := by decide +kernel
theorem dX1_init_13 : decode cX1_init 13 = .ok (.aload_n 0, 1) := by decide +kernel
theorem dX1_init_14 : decode cX1_init 14 = .ok (.iconst 0, 1) := by decide +kernel
theorem dX1_init_15 : decode cX1_init 15 = .ok (.putfield 17, 3) := by decide +kernel
theorem dX1_init_18 : decode cX1_init 18 = .ok (.iconst 0, 1) := by decide +kernel
theorem dX1_init_19 : decode cX1_init 19 = .ok (.istore_n 1, 1) := by decide +kernel
theorem dX1_init_20 : decode cX1_init 20 = .ok (.iload_n 1, 1) := by decide +kernel
theorem dX1_init_21 : decode cX1_init 21 = .ok (.bipush 16, 2) := by decide +kernel
theorem dX1_init_23 : decode cX1_init 23 = .ok (.if_icmp .ge 22, 3) := by decide +kernel
theorem dX1_init_26 : decode cX1_init 26 = .ok (.aload_n 0, 1) := by decide +kernel
theorem dX1_init_27 : decode cX1_init 27 = .ok (.getfield 11, 3) := by decide +kernel
theorem dX1_init_30 : decode cX1_init 30 = .ok (.iload_n 1, 1) := by decide +kernel
theorem dX1_init_31 : decode cX1_init 31 = .ok (.new 9, 3) := by decide +kernel
theorem dX1_init_34 : decode cX1_init 34 = .ok (.dup, 1) := by decide +kernel
theorem dX1_init_35 : decode cX1_init 35 = .ok (.invokespecial 21, 3) := by decide +kernel
theorem dX1_init_38 : decode cX1_init 38 = .ok (.aastore, 1) := by decide +kernel
theorem dX1_init_39 : decode cX1_init 39 = .ok (.iinc 1 1, 3) := by decide +kernel
theorem dX1_init_42 : decode cX1_init 42 = .ok (.goto (-22), 3) := by decide +kernel
theorem dX1_init_45 : decode cX1_init 45 = .ok (.return_, 1) := by decide +kernel
theorem dX1_number_0 : decode cX1_number 0 = .ok (.aload_n 0, 1) := by decide +kernel
theorem dX1_number_1 : decode cX1_number 1 = .ok (.getfield 17, 3) := by decide +kernel
theorem dX1_number_4 : decode cX1_number 4 = .ok (.ireturn, 1) := by decide +kernel
theorem dX1_forget_0 : decode cX1_forget 0 = .ok (.aload_n 0, 1) := by decide +kernel
theorem dX1_forget_1 : decode cX1_forget 1 = .ok (.iconst 0, 1) := by decide +kernel
theorem dX1_forget_2 : decode cX1_forget 2 = .ok (.putfield 17, 3) := by decide +kernel
theorem dX1_forget_5 : decode cX1_forget 5 = .ok (.return_, 1) := by decide +kernel
theorem dX1_remember_0 : decode cX1_remember 0 = .ok (.aload_n 0, 1) := by decide +kernel
theorem dX1_remember_1 : decode cX1_remember 1 = .ok (.getfield 17, 3) := by decide +kernel
theorem dX1_remember_4 : decode cX1_remember 4 = .ok (.bipush 16, 2) := by decide +kernel
theorem dX1_remember_6 : decode cX1_remember 6 = .ok (.if_icmp .lt 7, 3) := by decide +kernel
theorem dX1_remember_9 : decode cX1_remember 9 = .ok (.aload_n 0, 1) := by decide +kernel
theorem dX1_remember_10 : decode cX1_remember 10 = .ok (.invokevirtual 22, 3) := by decide +kernel
theorem dX1_remember_13 : decode cX1_remember 13 = .ok (.aload_n 0, 1) := by decide +kernel
theorem dX1_remember_14 : decode cX1_remember 14 = .ok (.getfield 17, 3) := by decide +kernel
theorem dX1_remember_17 : decode cX1_remember 17 = .ok (.ifCond .lt 47, 3) := by decide +kernel
theorem dX1_remember_20 : decode cX1_remember 20 = .ok (.aload_n 0, 1) := by decide +kernel
theorem dX1_remember_21 : decode cX1_remember 21 = .ok (.getfield 17, 3) := by decide +kernel
theorem dX1_remember_24 : decode cX1_remember 24 = .ok (.bipush 16, 2) := by decide +kernel
theorem dX1_remember_26 : decode cX1_remember 26 = .ok (.if_icmp .ge 38, 3) := by decide +kernel
theorem dX1_remember_29 : decode cX1_remember 29 = .ok (.aload_n 0, 1) := by decide +kernel
theorem dX1_remember_30 : decode cX1_remember 30 = .ok (.getfield 11, 3) := by decide +kernel
theorem dX1_remember_33 : decode cX1_remember 33 = .ok (.aload_n 0, 1) := by decide +kernel
theorem dX1_remember_34 : decode cX1_remember 34 = .ok (.getfield 17, 3) := by decide +kernel
theorem dX1_remember_37 : decode cX1_remember 37 = .ok (.aaload, 1) := by decide +kernel
theorem dX1_remember_38 : decode cX1_remember 38 = .ok (.ifnull 26, 3) := by decide +kernel
theorem dX1_remember_41 : decode cX1_remember 41 = .ok (.aload_n 0, 1) := by decide +kernel
theorem dX1_remember_42 : decode cX1_remember 42 = .ok (.getfield 11, 3) := by decide +kernel
theorem dX1_remember_45 : decode cX1_remember 45 = .ok (.aload_n 0, 1) := by decide +kernel
theorem dX1_remember_46 : decode cX1_remember 46 = .ok (.getfield 17, 3) := by decide +kernel
theorem dX1_remember_49 : decode cX1_remember 49 = .ok (.aaload, 1) := by decide +kernel
theorem dX1_remember_50 : decode cX1_remember 50 = .ok (.aload_n 1, 1) := by decide +kernel
theorem dX1_remember_51 : decode cX1_remember 51 = .ok (.invokevirtual 25, 3) := by decide +kernel
theorem dX1_remember_54 : decode cX1_remember 54 = .ok (.aload_n 0, 1) := by decide +kernel
theorem dX1_remember_55 : decode cX1_remember 55 = .ok (.dup, 1) := by decide +kernel
theorem dX1_remember_56 : decode cX1_remember 56 = .ok (.getfield 17, 3) := by decide +kernel
theorem dX1_remember_59 : decode cX1_remember 59 = .ok (.iconst 1, 1) := by decide +kernel
theorem dX1_remember_60 : decode cX1_remember 60 = .ok (.iadd, 1) := by decide +kernel
theorem dX1_remember_61 : decode cX1_remember 61 = .ok (.putfield 17, 3) := by decide +kernel
theorem dX1_remember_64 : decode cX1_remember 64 = .ok (.return_, 1) := by decide +kernel
theorem dX1_takeBack_0 : decode cX1_takeBack 0 = .ok (.iload_n 1, 1) := by decide +kernel
theorem dX1_takeBack_1 : decode cX1_takeBack 1 = .ok (.iconst 1, 1) := by decide +kernel
theorem dX1_takeBack_2 : decode cX1_takeBack 2 = .ok (.if_icmp .lt 38, 3) := by decide +kernel
theorem dX1_takeBack_5 : decode cX1_takeBack 5 = .ok (.iload_n 1, 1) := by decide +kernel
theorem dX1_takeBack_6 : decode cX1_takeBack 6 = .ok (.aload_n 0, 1) := by decide +kernel
theorem dX1_takeBack_7 : decode cX1_takeBack 7 = .ok (.getfield 17, 3) := by decide +kernel
theorem dX1_takeBack_10 : decode cX1_takeBack 10 = .ok (.if_icmp .gt 30, 3) := by decide +kernel
theorem dX1_takeBack_13 : decode cX1_takeBack 13 = .ok (.aload_n 2, 1) := by decide +kernel
theorem dX1_takeBack_14 : decode cX1_takeBack 14 = .ok (.ifnull 26, 3) := by decide +kernel
theorem dX1_takeBack_17 : decode cX1_takeBack 17 = .ok (.aload_n 0, 1) := by decide +kernel
theorem dX1_takeBack_18 : decode cX1_takeBack 18 = .ok (.dup, 1) := by decide +kernel
theorem dX1_takeBack_19 : decode cX1_takeBack 19 = .ok (.getfield 17, 3) := by decide +kernel
theorem dX1_takeBack_22 : decode cX1_takeBack 22 = .ok (.iload_n 1, 1) := by decide +kernel
theorem dX1_takeBack_23 : decode cX1_takeBack 23 = .ok (.isub, 1) := by decide +kernel
theorem dX1_takeBack_24 : decode cX1_takeBack 24 = .ok (.putfield 17, 3) := by decide +kernel
theorem dX1_takeBack_27 : decode cX1_takeBack 27 = .ok (.aload_n 2, 1) := by decide +kernel
theorem dX1_takeBack_28 : decode cX1_takeBack 28 = .ok (.aload_n 0, 1) := by decide +kernel
theorem dX1_takeBack_29 : decode cX1_takeBack 29 = .ok (.getfield 11, 3) := by decide +kernel
theorem dX1_takeBack_32 : decode cX1_takeBack 32 = .ok (.aload_n 0, 1) := by decide +kernel
theorem dX1_takeBack_33 : decode cX1_takeBack 33 = .ok (.getfield 17, 3) := by decide +kernel
theorem dX1_takeBack_36 : decode cX1_takeBack 36 = .ok (.aaload, 1) := by decide +kernel
theorem dX1_takeBack_37 : decode cX1_takeBack 37 = .ok (.invokevirtual 25, 3) := by decide +kernel
theorem dX1_takeBack_40 : decode cX1_takeBack 40 = .ok (.return_, 1) := by decide +kernel
theorem dX1_dropOldest_0 : decode cX1_dropOldest 0 = .ok (.aload_n 0, 1) := by decide +kernel
theorem dX1_dropOldest_1 : decode cX1_dropOldest 1 = .ok (.getfield 11, 3) := by decide +kernel
theorem dX1_dropOldest_4 : decode cX1_dropOldest 4 = .ok (.iconst 0, 1) := by decide +kernel
theorem dX1_dropOldest_5 : decode cX1_dropOldest 5 = .ok (.aaload, 1) := by decide +kernel
theorem dX1_dropOldest_6 : decode cX1_dropOldest 6 = .ok (.astore_n 1, 1) := by decide +kernel
theorem dX1_dropOldest_7 : decode cX1_dropOldest 7 = .ok (.iconst 1, 1) := by decide +kernel
theorem dX1_dropOldest_8 : decode cX1_dropOldest 8 = .ok (.istore_n 2, 1) := by decide +kernel
theorem dX1_dropOldest_9 : decode cX1_dropOldest 9 = .ok (.iload_n 2, 1) := by decide +kernel
theorem dX1_dropOldest_10 : decode cX1_dropOldest 10 = .ok (.bipush 16, 2) := by decide +kernel
theorem dX1_dropOldest_12 : decode cX1_dropOldest 12 = .ok (.if_icmp .ge 23, 3) := by decide +kernel
theorem dX1_dropOldest_15 : decode cX1_dropOldest 15 = .ok (.aload_n 0, 1) := by decide +kernel
theorem dX1_dropOldest_16 : decode cX1_dropOldest 16 = .ok (.getfield 11, 3) := by decide +kernel
theorem dX1_dropOldest_19 : decode cX1_dropOldest 19 = .ok (.iload_n 2, 1) := by decide +kernel
theorem dX1_dropOldest_20 : decode cX1_dropOldest 20 = .ok (.iconst 1, 1) := by decide +kernel
theorem dX1_dropOldest_21 : decode cX1_dropOldest 21 = .ok (.isub, 1) := by decide +kernel
theorem dX1_dropOldest_22 : decode cX1_dropOldest 22 = .ok (.aload_n 0, 1) := by decide +kernel
theorem dX1_dropOldest_23 : decode cX1_dropOldest 23 = .ok (.getfield 11, 3) := by decide +kernel
theorem dX1_dropOldest_26 : decode cX1_dropOldest 26 = .ok (.iload_n 2, 1) := by decide +kernel
theorem dX1_dropOldest_27 : decode cX1_dropOldest 27 = .ok (.aaload, 1) := by decide +kernel
theorem dX1_dropOldest_28 : decode cX1_dropOldest 28 = .ok (.aastore, 1) := by decide +kernel
theorem dX1_dropOldest_29 : decode cX1_dropOldest 29 = .ok (.iinc 2 1, 3) := by decide +kernel
theorem dX1_dropOldest_32 : decode cX1_dropOldest 32 = .ok (.goto (-23), 3) := by decide +kernel
theorem dX1_dropOldest_35 : decode cX1_dropOldest 35 = .ok (.aload_n 0, 1) := by decide +kernel
theorem dX1_dropOldest_36 : decode cX1_dropOldest 36 = .ok (.getfield 11, 3) := by decide +kernel
theorem dX1_dropOldest_39 : decode cX1_dropOldest 39 = .ok (.bipush 15, 2) := by decide +kernel
theorem dX1_dropOldest_41 : decode cX1_dropOldest 41 = .ok (.aload_n 1, 1) := by decide +kernel
theorem dX1_dropOldest_42 : decode cX1_dropOldest 42 = .ok (.aastore, 1) := by decide +kernel
theorem dX1_dropOldest_43 : decode cX1_dropOldest 43 = .ok (.aload_n 0, 1) := by decide +kernel
theorem dX1_dropOldest_44 : decode cX1_dropOldest 44 = .ok (.bipush 15, 2) := by decide +kernel
theorem dX1_dropOldest_46 : decode cX1_dropOldest 46 = .ok (.putfield 17, 3) := by decide +kernel
theorem dX1_dropOldest_49 : decode cX1_dropOldest 49 = .ok (.return_, 1) := by decide +kernel
theorem dX2_init_0 : decode cX2_init 0 = .ok (.aload_n 0, 1) := by decide +kernel
theorem dX2_init_1 : decode cX2_init 1 = .ok (.invokespecial 3, 3) := by decide +kernel
theorem dX2_init_4 : decode cX2_init 4 = .ok (.aload_n 0, 1) := by decide +kernel
theorem dX2_init_5 : decode cX2_init 5 = .ok (.new 9, 3) := by decide +kernel
theorem dX2_init_8 : decode cX2_init 8 = .ok (.dup, 1) := by decide +kernel
theorem dX2_init_9 : decode cX2_init 9 = .ok (.invokespecial 11, 3) := by decide +kernel
theorem dX2_init_12 : decode cX2_init 12 = .ok (.putfield 12, 3) := by decide +kernel
theorem dX2_init_15 : decode cX2_init 15 = .ok (.aload_n 0, 1) := by decide +kernel
theorem dX2_init_16 : decode cX2_init 16 = .ok (.new 18, 3) := by decide +kernel
theorem dX2_init_19 : decode cX2_init 19 = .ok (.dup, 1) := by decide +kernel
theorem dX2_init_20 : decode cX2_init 20 = .ok (.invokespecial 20, 3) := by decide +kernel
theorem dX2_init_23 : decode cX2_init 23 = .ok (.putfield 21, 3) := by decide +kernel
theorem dX2_init_26 : decode cX2_init 26 = .ok (.aload_n 0, 1) := by decide +kernel
theorem dX2_init_27 : decode cX2_init 27 = .ok (.new 25, 3) := by decide +kernel
theorem dX2_init_30 : decode cX2_init 30 = .ok (.dup, 1) := by decide +kernel
theorem dX2_init_31 : decode cX2_init 31 = .ok (.invokespecial 27, 3) := by decide +kernel
theorem dX2_init_34 : decode cX2_init 34 = .ok (.putfield 28, 3) := by decide +kernel
theorem dX2_init_37 : decode cX2_init 37 = .ok (.aload_n 0, 1) := by decide +kernel
theorem dX2_init_38 : decode cX2_init 38 = .ok (.new 32, 3) := by decide +kernel
theorem dX2_init_41 : decode cX2_init 41 = .ok (.dup, 1) := by decide +kernel
theorem dX2_init_42 : decode cX2_init 42 = .ok (.invokespecial 34, 3) := by decide +kernel
theorem dX2_init_45 : decode cX2_init 45 = .ok (.putfield 35, 3) := by decide +kernel
theorem dX2_init_48 : decode cX2_init 48 = .ok (.return_, 1) := by decide +kernel
theorem dX2_hot_0 : decode cX2_hot 0 = .ok (.iconst 0, 1) := by decide +kernel
theorem dX2_hot_1 : decode cX2_hot 1 = .ok (.istore_n 2, 1) := by decide +kernel
theorem dX2_hot_2 : decode cX2_hot 2 = .ok (.iconst 0, 1) := by decide +kernel
theorem dX2_hot_3 : decode cX2_hot 3 = .ok (.istore_n 3, 1) := by decide +kernel
theorem dX2_hot_4 : decode cX2_hot 4 = .ok (.iload_n 3, 1) := by decide +kernel
theorem dX2_hot_5 : decode cX2_hot 5 = .ok (.bipush 8, 2) := by decide +kernel
theorem dX2_hot_7 : decode cX2_hot 7 = .ok (.if_icmp .ge 28, 3) := by decide +kernel
theorem dX2_hot_10 : decode cX2_hot 10 = .ok (.aload_n 0, 1) := by decide +kernel
theorem dX2_hot_11 : decode cX2_hot 11 = .ok (.getfield 21, 3) := by decide +kernel
theorem dX2_hot_14 : decode cX2_hot 14 = .ok (.iload_n 3, 1) := by decide +kernel
theorem dX2_hot_15 : decode cX2_hot 15 = .ok (.iload_n 1, 1) := by decide +kernel
theorem dX2_hot_16 : decode cX2_hot 16 = .ok (.invokevirtual 39, 3) := by decide +kernel
theorem dX2_hot_19 : decode cX2_hot 19 = .ok (.ifCond .le 10, 3) := by decide +kernel
theorem dX2_hot_22 : decode cX2_hot 22 = .ok (.iload_n 2, 1) := by decide +kernel
theorem dX2_hot_23 : decode cX2_hot 23 = .ok (.iload_n 3, 1) := by decide +kernel
theorem dX2_hot_24 : decode cX2_hot 24 = .ok (.invokestatic 43, 3) := by decide +kernel
theorem dX2_hot_27 : decode cX2_hot 27 = .ok (.ior, 1) := by decide +kernel
theorem dX2_hot_28 : decode cX2_hot 28 = .ok (.istore_n 2, 1) := by decide +kernel
theorem dX2_hot_29 : decode cX2_hot 29 = .ok (.iinc 3 1, 3) := by decide +kernel
theorem dX2_hot_32 : decode cX2_hot 32 = .ok (.goto (-28), 3) := by decide +kernel
theorem dX2_hot_35 : decode cX2_hot 35 = .ok (.iload_n 2, 1) := by decide +kernel
theorem dX2_hot_36 : decode cX2_hot 36 = .ok (.ireturn, 1) := by decide +kernel
theorem dX2_top_0 : decode cX2_top 0 = .ok (.iconst (-1), 1) := by decide +kernel
theorem dX2_top_1 : decode cX2_top 1 = .ok (.istore_n 2, 1) := by decide +kernel
theorem dX2_top_2 : decode cX2_top 2 = .ok (.iconst 0, 1) := by decide +kernel
theorem dX2_top_3 : decode cX2_top 3 = .ok (.istore_n 3, 1) := by decide +kernel
theorem dX2_top_4 : decode cX2_top 4 = .ok (.iload_n 3, 1) := by decide +kernel
theorem dX2_top_5 : decode cX2_top 5 = .ok (.bipush 8, 2) := by decide +kernel
theorem dX2_top_7 : decode cX2_top 7 = .ok (.if_icmp .ge 38, 3) := by decide +kernel
theorem dX2_top_10 : decode cX2_top 10 = .ok (.aload_n 0, 1) := by decide +kernel
theorem dX2_top_11 : decode cX2_top 11 = .ok (.getfield 21, 3) := by decide +kernel
theorem dX2_top_14 : decode cX2_top 14 = .ok (.iload_n 3, 1) := by decide +kernel
theorem dX2_top_15 : decode cX2_top 15 = .ok (.iload_n 1, 1) := by decide +kernel
theorem dX2_top_16 : decode cX2_top 16 = .ok (.invokevirtual 39, 3) := by decide +kernel
theorem dX2_top_19 : decode cX2_top 19 = .ok (.ifCond .le 20, 3) := by decide +kernel
theorem dX2_top_22 : decode cX2_top 22 = .ok (.iload_n 2, 1) := by decide +kernel
theorem dX2_top_23 : decode cX2_top 23 = .ok (.iconst (-1), 1) := by decide +kernel
theorem dX2_top_24 : decode cX2_top 24 = .ok (.if_icmp .eq 13, 3) := by decide +kernel
theorem dX2_top_27 : decode cX2_top 27 = .ok (.aload_n 0, 1) := by decide +kernel
theorem dX2_top_28 : decode cX2_top 28 = .ok (.iload_n 3, 1) := by decide +kernel
theorem dX2_top_29 : decode cX2_top 29 = .ok (.iload_n 2, 1) := by decide +kernel
theorem dX2_top_30 : decode cX2_top 30 = .ok (.iload_n 1, 1) := by decide +kernel
theorem dX2_top_31 : decode cX2_top 31 = .ok (.invokevirtual 47, 3) := by decide +kernel
theorem dX2_top_34 : decode cX2_top 34 = .ok (.ifCond .eq 5, 3) := by decide +kernel
theorem dX2_top_37 : decode cX2_top 37 = .ok (.iload_n 3, 1) := by decide +kernel
theorem dX2_top_38 : decode cX2_top 38 = .ok (.istore_n 2, 1) := by decide +kernel
theorem dX2_top_39 : decode cX2_top 39 = .ok (.iinc 3 1, 3) := by decide +kernel
theorem dX2_top_42 : decode cX2_top 42 = .ok (.goto (-38), 3) := by decide +kernel
theorem dX2_top_45 : decode cX2_top 45 = .ok (.iload_n 2, 1) := by decide +kernel
theorem dX2_top_46 : decode cX2_top 46 = .ok (.ireturn, 1) := by decide +kernel
theorem dX2_isAbove_0 : decode cX2_isAbove 0 = .ok (.aload_n 0, 1) := by decide +kernel
theorem dX2_isAbove_1 : decode cX2_isAbove 1 = .ok (.getfield 21, 3) := by decide +kernel
theorem dX2_isAbove_4 : decode cX2_isAbove 4 = .ok (.iload_n 1, 1) := by decide +kernel
theorem dX2_isAbove_5 : decode cX2_isAbove 5 = .ok (.iload_n 3, 1) := by decide +kernel
theorem dX2_isAbove_6 : decode cX2_isAbove 6 = .ok (.invokevirtual 39, 3) := by decide +kernel
theorem dX2_isAbove_9 : decode cX2_isAbove 9 = .ok (.aload_n 0, 1) := by decide +kernel
theorem dX2_isAbove_10 : decode cX2_isAbove 10 = .ok (.getfield 21, 3) := by decide +kernel
theorem dX2_isAbove_13 : decode cX2_isAbove 13 = .ok (.iload_n 2, 1) := by decide +kernel
theorem dX2_isAbove_14 : decode cX2_isAbove 14 = .ok (.iload_n 3, 1) := by decide +kernel
theorem dX2_isAbove_15 : decode cX2_isAbove 15 = .ok (.invokevirtual 39, 3) := by decide +kernel
theorem dX2_isAbove_18 : decode cX2_isAbove 18 = .ok (.if_icmp .eq 30, 3) := by decide +kernel
theorem dX2_isAbove_21 : decode cX2_isAbove 21 = .ok (.aload_n 0, 1) := by decide +kernel
theorem dX2_isAbove_22 : decode cX2_isAbove 22 = .ok (.getfield 21, 3) := by decide +kernel
theorem dX2_isAbove_25 : decode cX2_isAbove 25 = .ok (.iload_n 1, 1) := by decide +kernel
theorem dX2_isAbove_26 : decode cX2_isAbove 26 = .ok (.iload_n 3, 1) := by decide +kernel
theorem dX2_isAbove_27 : decode cX2_isAbove 27 = .ok (.invokevirtual 39, 3) := by decide +kernel
theorem dX2_isAbove_30 : decode cX2_isAbove 30 = .ok (.aload_n 0, 1) := by decide +kernel
theorem dX2_isAbove_31 : decode cX2_isAbove 31 = .ok (.getfield 21, 3) := by decide +kernel
theorem dX2_isAbove_34 : decode cX2_isAbove 34 = .ok (.iload_n 2, 1) := by decide +kernel
theorem dX2_isAbove_35 : decode cX2_isAbove 35 = .ok (.iload_n 3, 1) := by decide +kernel
theorem dX2_isAbove_36 : decode cX2_isAbove 36 = .ok (.invokevirtual 39, 3) := by decide +kernel
theorem dX2_isAbove_39 : decode cX2_isAbove 39 = .ok (.if_icmp .le 7, 3) := by decide +kernel
theorem dX2_isAbove_42 : decode cX2_isAbove 42 = .ok (.iconst 1, 1) := by decide +kernel
theorem dX2_isAbove_43 : decode cX2_isAbove 43 = .ok (.goto 4, 3) := by decide +kernel
theorem dX2_isAbove_46 : decode cX2_isAbove 46 = .ok (.iconst 0, 1) := by decide +kernel
theorem dX2_isAbove_47 : decode cX2_isAbove 47 = .ok (.ireturn, 1) := by decide +kernel
theorem dX2_isAbove_48 : decode cX2_isAbove 48 = .ok (.aload_n 0, 1) := by decide +kernel
theorem dX2_isAbove_49 : decode cX2_isAbove 49 = .ok (.getfield 12, 3) := by decide +kernel
theorem dX2_isAbove_52 : decode cX2_isAbove 52 = .ok (.iload_n 1, 1) := by decide +kernel
theorem dX2_isAbove_53 : decode cX2_isAbove 53 = .ok (.iload_n 3, 1) := by decide +kernel
theorem dX2_isAbove_54 : decode cX2_isAbove 54 = .ok (.invokevirtual 51, 3) := by decide +kernel
theorem dX2_isAbove_57 : decode cX2_isAbove 57 = .ok (.aload_n 0, 1) := by decide +kernel
theorem dX2_isAbove_58 : decode cX2_isAbove 58 = .ok (.getfield 12, 3) := by decide +kernel
theorem dX2_isAbove_61 : decode cX2_isAbove 61 = .ok (.iload_n 2, 1) := by decide +kernel
theorem dX2_isAbove_62 : decode cX2_isAbove 62 = .ok (.iload_n 3, 1) := by decide +kernel
theorem dX2_isAbove_63 : decode cX2_isAbove 63 = .ok (.invokevirtual 51, 3) := by decide +kernel
theorem dX2_isAbove_66 : decode cX2_isAbove 66 = .ok (.if_icmp .le 7, 3) := by decide +kernel
theorem dX2_isAbove_69 : decode cX2_isAbove 69 = .ok (.iconst 1, 1) := by decide +kernel
theorem dX2_isAbove_70 : decode cX2_isAbove 70 = .ok (.goto 4, 3) := by decide +kernel
theorem dX2_isAbove_73 : decode cX2_isAbove 73 = .ok (.iconst 0, 1) := by decide +kernel
theorem dX2_isAbove_74 : decode cX2_isAbove 74 = .ok (.ireturn, 1) := by decide +kernel
theorem dX3_init_0 : decode cX3_init 0 = .ok (.aload_n 0, 1) := by decide +kernel
theorem dX3_init_1 : decode cX3_init 1 = .ok (.invokespecial 3, 3) := by decide +kernel
theorem dX3_init_4 : decode cX3_init 4 = .ok (.aload_n 0, 1) := by decide +kernel
theorem dX3_init_5 : decode cX3_init 5 = .ok (.bipush 9, 2) := by decide +kernel
theorem dX3_init_7 : decode cX3_init 7 = .ok (.sipush 144, 3) := by decide +kernel
theorem dX3_init_10 : decode cX3_init 10 = .ok (.multianewarray 11 2, 4) := by decide +kernel
theorem dX3_init_14 : decode cX3_init 14 = .ok (.putfield 13, 3) := by decide +kernel
theorem dX3_init_17 : decode cX3_init 17 = .ok (.aload_n 0, 1) := by decide +kernel
theorem dX3_init_18 : decode cX3_init 18 = .ok (.iconst 0, 1) := by decide +kernel
theorem dX3_init_19 : decode cX3_init 19 = .ok (.putfield 16, 3) := by decide +kernel
theorem dX3_init_22 : decode cX3_init 22 = .ok (.return_, 1) := by decide +kernel
theorem dX3_number_0 : decode cX3_number 0 = .ok (.aload_n 0, 1) := by decide +kernel
theorem dX3_number_1 : decode cX3_number 1 = .ok (.getfield 16, 3) := by decide +kernel
theorem dX3_number_4 : decode cX3_number 4 = .ok (.ireturn, 1) := by decide +kernel
theorem dX3_has_0 : decode cX3_has 0 = .ok (.iload_n 1, 1) := by decide +kernel
theorem dX3_has_1 : decode cX3_has 1 = .ok (.ifCond .lt 15, 3) := by decide +kernel
theorem dX3_has_4 : decode cX3_has 4 = .ok (.iload_n 1, 1) := by decide +kernel
theorem dX3_has_5 : decode cX3_has 5 = .ok (.aload_n 0, 1) := by decide +kernel
theorem dX3_has_6 : decode cX3_has 6 = .ok (.getfield 16, 3) := by decide +kernel
theorem dX3_has_9 : decode cX3_has 9 = .ok (.if_icmp .ge 7, 3) := by decide +kernel
theorem dX3_has_12 : decode cX3_has 12 = .ok (.iconst 1, 1) := by decide +kernel
theorem dX3_has_13 : decode cX3_has 13 = .ok (.goto 4, 3) := by decide +kernel
theorem dX3_has_16 : decode cX3_has 16 = .ok (.iconst 0, 1) := by decide +kernel
theorem dX3_has_17 : decode cX3_has 17 = .ok (.ireturn, 1) := by decide +kernel
theorem dX3_hasDay_0 : decode cX3_hasDay 0 = .ok (.aload_n 0, 1) := by decide +kernel
theorem dX3_hasDay_1 : decode cX3_hasDay 1 = .ok (.iload_n 1, 1) := by decide +kernel
theorem dX3_hasDay_2 : decode cX3_hasDay 2 = .ok (.invokevirtual 20, 3) := by decide +kernel
theorem dX3_hasDay_5 : decode cX3_hasDay 5 = .ok (.ifCond .eq 31, 3) := by decide +kernel
theorem dX3_hasDay_8 : decode cX3_hasDay 8 = .ok (.aload_n 0, 1) := by decide +kernel
theorem dX3_hasDay_9 : decode cX3_hasDay 9 = .ok (.getfield 13, 3) := by decide +kernel
theorem dX3_hasDay_12 : decode cX3_hasDay 12 = .ok (.iconst 2, 1) := by decide +kernel
theorem dX3_hasDay_13 : decode cX3_hasDay 13 = .ok (.aaload, 1) := by decide +kernel
theorem dX3_hasDay_14 : decode cX3_hasDay 14 = .ok (.iload_n 1, 1) := by decide +kernel
theorem dX3_hasDay_15 : decode cX3_hasDay 15 = .ok (.iaload, 1) := by decide +kernel
theorem dX3_hasDay_16 : decode cX3_hasDay 16 = .ok (.iload_n 2, 1) := by decide +kernel
theorem dX3_hasDay_17 : decode cX3_hasDay 17 = .ok (.if_icmp .gt 19, 3) := by decide +kernel
theorem dX3_hasDay_20 : decode cX3_hasDay 20 = .ok (.iload_n 2, 1) := by decide +kernel
theorem dX3_hasDay_21 : decode cX3_hasDay 21 = .ok (.aload_n 0, 1) := by decide +kernel
theorem dX3_hasDay_22 : decode cX3_hasDay 22 = .ok (.getfield 13, 3) := by decide +kernel
theorem dX3_hasDay_25 : decode cX3_hasDay 25 = .ok (.iconst 3, 1) := by decide +kernel
theorem dX3_hasDay_26 : decode cX3_hasDay 26 = .ok (.aaload, 1) := by decide +kernel
theorem dX3_hasDay_27 : decode cX3_hasDay 27 = .ok (.iload_n 1, 1) := by decide +kernel
theorem dX3_hasDay_28 : decode cX3_hasDay 28 = .ok (.iaload, 1) := by decide +kernel
theorem dX3_hasDay_29 : decode cX3_hasDay 29 = .ok (.if_icmp .gt 7, 3) := by decide +kernel
theorem dX3_hasDay_32 : decode cX3_hasDay 32 = .ok (.iconst 1, 1) := by decide +kernel
theorem dX3_hasDay_33 : decode cX3_hasDay 33 = .ok (.goto 4, 3) := by decide +kernel
theorem dX3_hasDay_36 : decode cX3_hasDay 36 = .ok (.iconst 0, 1) := by decide +kernel
theorem dX3_hasDay_37 : decode cX3_hasDay 37 = .ok (.ireturn, 1) := by decide +kernel
theorem dX3_isAtOne_0 : decode cX3_isAtOne 0 = .ok (.aload_n 0, 1) := by decide +kernel
theorem dX3_isAtOne_1 : decode cX3_isAtOne 1 = .ok (.iload_n 1, 1) := by decide +kernel
theorem dX3_isAtOne_2 : decode cX3_isAtOne 2 = .ok (.invokevirtual 20, 3) := by decide +kernel
theorem dX3_isAtOne_5 : decode cX3_isAtOne 5 = .ok (.ifCond .eq 19, 3) := by decide +kernel
theorem dX3_isAtOne_8 : decode cX3_isAtOne 8 = .ok (.aload_n 0, 1) := by decide +kernel
theorem dX3_isAtOne_9 : decode cX3_isAtOne 9 = .ok (.getfield 13, 3) := by decide +kernel
theorem dX3_isAtOne_12 : decode cX3_isAtOne 12 = .ok (.iconst 1, 1) := by decide +kernel
theorem dX3_isAtOne_13 : decode cX3_isAtOne 13 = .ok (.aaload, 1) := by decide +kernel
theorem dX3_isAtOne_14 : decode cX3_isAtOne 14 = .ok (.iload_n 1, 1) := by decide +kernel
theorem dX3_isAtOne_15 : decode cX3_isAtOne 15 = .ok (.iaload, 1) := by decide +kernel
theorem dX3_isAtOne_16 : decode cX3_isAtOne 16 = .ok (.iconst 1, 1) := by decide +kernel
theorem dX3_isAtOne_17 : decode cX3_isAtOne 17 = .ok (.if_icmp .ne 7, 3) := by decide +kernel
theorem dX3_isAtOne_20 : decode cX3_isAtOne 20 = .ok (.iconst 1, 1) := by decide +kernel
theorem dX3_isAtOne_21 : decode cX3_isAtOne 21 = .ok (.goto 4, 3) := by decide +kernel
theorem dX3_isAtOne_24 : decode cX3_isAtOne 24 = .ok (.iconst 0, 1) := by decide +kernel
theorem dX3_isAtOne_25 : decode cX3_isAtOne 25 = .ok (.ireturn, 1) := by decide +kernel
theorem dX3_setOf_0 : decode cX3_setOf 0 = .ok (.aload_n 0, 1) := by decide +kernel
theorem dX3_setOf_1 : decode cX3_setOf 1 = .ok (.iload_n 1, 1) := by decide +kernel
theorem dX3_setOf_2 : decode cX3_setOf 2 = .ok (.invokevirtual 20, 3) := by decide +kernel
theorem dX3_setOf_5 : decode cX3_setOf 5 = .ok (.ifCond .eq 17, 3) := by decide +kernel
theorem dX3_setOf_8 : decode cX3_setOf 8 = .ok (.aload_n 0, 1) := by decide +kernel
theorem dX3_setOf_9 : decode cX3_setOf 9 = .ok (.getfield 13, 3) := by decide +kernel
theorem dX3_setOf_12 : decode cX3_setOf 12 = .ok (.iconst 0, 1) := by decide +kernel
theorem dX3_setOf_13 : decode cX3_setOf 13 = .ok (.aaload, 1) := by decide +kernel
theorem dX3_setOf_14 : decode cX3_setOf 14 = .ok (.iload_n 1, 1) := by decide +kernel
theorem dX3_setOf_15 : decode cX3_setOf 15 = .ok (.iaload, 1) := by decide +kernel
theorem dX3_setOf_16 : decode cX3_setOf 16 = .ok (.invokestatic 24, 3) := by decide +kernel
theorem dX3_setOf_19 : decode cX3_setOf 19 = .ok (.goto 4, 3) := by decide +kernel
theorem dX3_setOf_22 : decode cX3_setOf 22 = .ok (.iconst 0, 1) := by decide +kernel
theorem dX3_setOf_23 : decode cX3_setOf 23 = .ok (.ireturn, 1) := by decide +kernel
theorem dX3_isFact_0 : decode cX3_isFact 0 = .ok (.iload_n 0, 1) := by decide +kernel
theorem dX3_isFact_1 : decode cX3_isFact 1 = .ok (.ifCond .lt 13, 3) := by decide +kernel
theorem dX3_isFact_4 : decode cX3_isFact 4 = .ok (.iload_n 0, 1) := by decide +kernel
theorem dX3_isFact_5 : decode cX3_isFact 5 = .ok (.bipush 9, 2) := by decide +kernel
theorem dX3_isFact_7 : decode cX3_isFact 7 = .ok (.if_icmp .ge 7, 3) := by decide +kernel
theorem dX3_isFact_10 : decode cX3_isFact 10 = .ok (.iconst 1, 1) := by decide +kernel
theorem dX3_isFact_11 : decode cX3_isFact 11 = .ok (.goto 4, 3) := by decide +kernel
theorem dX3_isFact_14 : decode cX3_isFact 14 = .ok (.iconst 0, 1) := by decide +kernel
theorem dX3_isFact_15 : decode cX3_isFact 15 = .ok (.ireturn, 1) := by decide +kernel
theorem dX3_fact_0 : decode cX3_fact 0 = .ok (.aload_n 0, 1) := by decide +kernel
theorem dX3_fact_1 : decode cX3_fact 1 = .ok (.iload_n 1, 1) := by decide +kernel
theorem dX3_fact_2 : decode cX3_fact 2 = .ok (.invokevirtual 20, 3) := by decide +kernel
theorem dX3_fact_5 : decode cX3_fact 5 = .ok (.ifCond .eq 21, 3) := by decide +kernel
theorem dX3_fact_8 : decode cX3_fact 8 = .ok (.iload_n 2, 1) := by decide +kernel
theorem dX3_fact_9 : decode cX3_fact 9 = .ok (.invokestatic 28, 3) := by decide +kernel
theorem dX3_fact_12 : decode cX3_fact 12 = .ok (.ifCond .eq 14, 3) := by decide +kernel
theorem dX3_fact_15 : decode cX3_fact 15 = .ok (.aload_n 0, 1) := by decide +kernel
theorem dX3_fact_16 : decode cX3_fact 16 = .ok (.getfield 13, 3) := by decide +kernel
theorem dX3_fact_19 : decode cX3_fact 19 = .ok (.iload_n 2, 1) := by decide +kernel
theorem dX3_fact_20 : decode cX3_fact 20 = .ok (.aaload, 1) := by decide +kernel
theorem dX3_fact_21 : decode cX3_fact 21 = .ok (.iload_n 1, 1) := by decide +kernel
theorem dX3_fact_22 : decode cX3_fact 22 = .ok (.iaload, 1) := by decide +kernel
theorem dX3_fact_23 : decode cX3_fact 23 = .ok (.goto 4, 3) := by decide +kernel
theorem dX3_fact_26 : decode cX3_fact 26 = .ok (.iconst (-1), 1) := by decide +kernel
theorem dX3_fact_27 : decode cX3_fact 27 = .ok (.ireturn, 1) := by decide +kernel
theorem dX3_putStory_0 : decode cX3_putStory 0 = .ok (.aload_n 0, 1) := by decide +kernel
theorem dX3_putStory_1 : decode cX3_putStory 1 = .ok (.iload_n 1, 1) := by decide +kernel
theorem dX3_putStory_2 : decode cX3_putStory 2 = .ok (.invokevirtual 20, 3) := by decide +kernel
theorem dX3_putStory_5 : decode cX3_putStory 5 = .ok (.ifCond .eq 13, 3) := by decide +kernel
theorem dX3_putStory_8 : decode cX3_putStory 8 = .ok (.aload_n 0, 1) := by decide +kernel
theorem dX3_putStory_9 : decode cX3_putStory 9 = .ok (.getfield 13, 3) := by decide +kernel
theorem dX3_putStory_12 : decode cX3_putStory 12 = .ok (.bipush 8, 2) := by decide +kernel
theorem dX3_putStory_14 : decode cX3_putStory 14 = .ok (.aaload, 1) := by decide +kernel
theorem dX3_putStory_15 : decode cX3_putStory 15 = .ok (.iload_n 1, 1) := by decide +kernel
theorem dX3_putStory_16 : decode cX3_putStory 16 = .ok (.iload_n 2, 1) := by decide +kernel
theorem dX3_putStory_17 : decode cX3_putStory 17 = .ok (.iastore, 1) := by decide +kernel
theorem dX3_putStory_18 : decode cX3_putStory 18 = .ok (.return_, 1) := by decide +kernel
theorem dX3_findAll_0 : decode cX3_findAll 0 = .ok (.aload_n 0, 1) := by decide +kernel
theorem dX3_findAll_1 : decode cX3_findAll 1 = .ok (.iconst 0, 1) := by decide +kernel
theorem dX3_findAll_2 : decode cX3_findAll 2 = .ok (.putfield 16, 3) := by decide +kernel
theorem dX3_findAll_5 : decode cX3_findAll 5 = .ok (.iconst 0, 1) := by decide +kernel
theorem dX3_findAll_6 : decode cX3_findAll 6 = .ok (.istore_n 3, 1) := by decide +kernel
theorem dX3_findAll_7 : decode cX3_findAll 7 = .ok (.iload_n 3, 1) := by decide +kernel
theorem dX3_findAll_8 : decode cX3_findAll 8 = .ok (.bipush 8, 2) := by decide +kernel
theorem dX3_findAll_10 : decode cX3_findAll 10 = .ok (.if_icmp .ge 39, 3) := by decide +kernel
theorem dX3_findAll_13 : decode cX3_findAll 13 = .ok (.iconst 1, 1) := by decide +kernel
theorem dX3_findAll_14 : decode cX3_findAll 14 = .ok (.istore 4, 2) := by decide +kernel
theorem dX3_findAll_16 : decode cX3_findAll 16 = .ok (.iload 4, 2) := by decide +kernel
theorem dX3_findAll_18 : decode cX3_findAll 18 = .ok (.aload_n 1, 1) := by decide +kernel
theorem dX3_findAll_19 : decode cX3_findAll 19 = .ok (.invokevirtual 31, 3) := by decide +kernel
theorem dX3_findAll_22 : decode cX3_findAll 22 = .ok (.if_icmp .gt 21, 3) := by decide +kernel
theorem dX3_findAll_25 : decode cX3_findAll 25 = .ok (.aload_n 0, 1) := by decide +kernel
theorem dX3_findAll_26 : decode cX3_findAll 26 = .ok (.aload_n 2, 1) := by decide +kernel
theorem dX3_findAll_27 : decode cX3_findAll 27 = .ok (.iload_n 3, 1) := by decide +kernel
theorem dX3_findAll_28 : decode cX3_findAll 28 = .ok (.iload 4, 2) := by decide +kernel
theorem dX3_findAll_30 : decode cX3_findAll 30 = .ok (.aload_n 1, 1) := by decide +kernel
theorem dX3_findAll_31 : decode cX3_findAll 31 = .ok (.invokevirtual 37, 3) := by decide +kernel
theorem dX3_findAll_34 : decode cX3_findAll 34 = .ok (.invokevirtual 40, 3) := by decide +kernel
theorem dX3_findAll_37 : decode cX3_findAll 37 = .ok (.iinc 4 1, 3) := by decide +kernel
theorem dX3_findAll_40 : decode cX3_findAll 40 = .ok (.goto (-24), 3) := by decide +kernel
theorem dX3_findAll_43 : decode cX3_findAll 43 = .ok (.iinc 3 1, 3) := by decide +kernel
theorem dX3_findAll_46 : decode cX3_findAll 46 = .ok (.goto (-39), 3) := by decide +kernel
theorem dX3_findAll_49 : decode cX3_findAll 49 = .ok (.iconst 0, 1) := by decide +kernel
theorem dX3_findAll_50 : decode cX3_findAll 50 = .ok (.istore_n 3, 1) := by decide +kernel
theorem dX3_findAll_51 : decode cX3_findAll 51 = .ok (.iload_n 3, 1) := by decide +kernel
theorem dX3_findAll_52 : decode cX3_findAll 52 = .ok (.aload_n 0, 1) := by decide +kernel
theorem dX3_findAll_53 : decode cX3_findAll 53 = .ok (.getfield 16, 3) := by decide +kernel
theorem dX3_findAll_56 : decode cX3_findAll 56 = .ok (.if_icmp .ge 80, 3) := by decide +kernel
theorem dX3_findAll_59 : decode cX3_findAll 59 = .ok (.aload_n 0, 1) := by decide +kernel
theorem dX3_findAll_60 : decode cX3_findAll 60 = .ok (.getfield 13, 3) := by decide +kernel
theorem dX3_findAll_63 : decode cX3_findAll 63 = .ok (.iconst 4, 1) := by decide +kernel
theorem dX3_findAll_64 : decode cX3_findAll 64 = .ok (.aaload, 1) := by decide +kernel
theorem dX3_findAll_65 : decode cX3_findAll 65 = .ok (.iload_n 3, 1) := by decide +kernel
theorem dX3_findAll_66 : decode cX3_findAll 66 = .ok (.aload_n 0, 1) := by decide +kernel
theorem dX3_findAll_67 : decode cX3_findAll 67 = .ok (.iload_n 3, 1) := by decide +kernel
theorem dX3_findAll_68 : decode cX3_findAll 68 = .ok (.invokevirtual 44, 3) := by decide +kernel
theorem dX3_findAll_71 : decode cX3_findAll 71 = .ok (.iastore, 1) := by decide +kernel
theorem dX3_findAll_72 : decode cX3_findAll 72 = .ok (.aload_n 0, 1) := by decide +kernel
theorem dX3_findAll_73 : decode cX3_findAll 73 = .ok (.getfield 13, 3) := by decide +kernel
theorem dX3_findAll_76 : decode cX3_findAll 76 = .ok (.iconst 5, 1) := by decide +kernel
theorem dX3_findAll_77 : decode cX3_findAll 77 = .ok (.aaload, 1) := by decide +kernel
theorem dX3_findAll_78 : decode cX3_findAll 78 = .ok (.iload_n 3, 1) := by decide +kernel
theorem dX3_findAll_79 : decode cX3_findAll 79 = .ok (.aload_n 0, 1) := by decide +kernel
theorem dX3_findAll_80 : decode cX3_findAll 80 = .ok (.aload_n 1, 1) := by decide +kernel
theorem dX3_findAll_81 : decode cX3_findAll 81 = .ok (.iload_n 3, 1) := by decide +kernel
theorem dX3_findAll_82 : decode cX3_findAll 82 = .ok (.invokevirtual 47, 3) := by decide +kernel
theorem dX3_findAll_85 : decode cX3_findAll 85 = .ok (.sipush 1000, 3) := by decide +kernel
theorem dX3_findAll_88 : decode cX3_findAll 88 = .ok (.iadd, 1) := by decide +kernel
theorem dX3_findAll_89 : decode cX3_findAll 89 = .ok (.iastore, 1) := by decide +kernel
theorem dX3_findAll_90 : decode cX3_findAll 90 = .ok (.aload_n 0, 1) := by decide +kernel
theorem dX3_findAll_91 : decode cX3_findAll 91 = .ok (.getfield 13, 3) := by decide +kernel
theorem dX3_findAll_94 : decode cX3_findAll 94 = .ok (.bipush 6, 2) := by decide +kernel
theorem dX3_findAll_96 : decode cX3_findAll 96 = .ok (.aaload, 1) := by decide +kernel
theorem dX3_findAll_97 : decode cX3_findAll 97 = .ok (.iload_n 3, 1) := by decide +kernel
theorem dX3_findAll_98 : decode cX3_findAll 98 = .ok (.aload_n 0, 1) := by decide +kernel
theorem dX3_findAll_99 : decode cX3_findAll 99 = .ok (.aload_n 1, 1) := by decide +kernel
theorem dX3_findAll_100 : decode cX3_findAll 100 = .ok (.iload_n 3, 1) := by decide +kernel
theorem dX3_findAll_101 : decode cX3_findAll 101 = .ok (.invokevirtual 51, 3) := by decide +kernel
theorem dX3_findAll_104 : decode cX3_findAll 104 = .ok (.iastore, 1) := by decide +kernel
theorem dX3_findAll_105 : decode cX3_findAll 105 = .ok (.aload_n 0, 1) := by decide +kernel
theorem dX3_findAll_106 : decode cX3_findAll 106 = .ok (.getfield 13, 3) := by decide +kernel
theorem dX3_findAll_109 : decode cX3_findAll 109 = .ok (.bipush 7, 2) := by decide +kernel
theorem dX3_findAll_111 : decode cX3_findAll 111 = .ok (.aaload, 1) := by decide +kernel
theorem dX3_findAll_112 : decode cX3_findAll 112 = .ok (.iload_n 3, 1) := by decide +kernel
theorem dX3_findAll_113 : decode cX3_findAll 113 = .ok (.aload_n 0, 1) := by decide +kernel
theorem dX3_findAll_114 : decode cX3_findAll 114 = .ok (.aload_n 1, 1) := by decide +kernel
theorem dX3_findAll_115 : decode cX3_findAll 115 = .ok (.iload_n 3, 1) := by decide +kernel
theorem dX3_findAll_116 : decode cX3_findAll 116 = .ok (.invokevirtual 54, 3) := by decide +kernel
theorem dX3_findAll_119 : decode cX3_findAll 119 = .ok (.iastore, 1) := by decide +kernel
theorem dX3_findAll_120 : decode cX3_findAll 120 = .ok (.aload_n 0, 1) := by decide +kernel
theorem dX3_findAll_121 : decode cX3_findAll 121 = .ok (.getfield 13, 3) := by decide +kernel
theorem dX3_findAll_124 : decode cX3_findAll 124 = .ok (.bipush 8, 2) := by decide +kernel
theorem dX3_findAll_126 : decode cX3_findAll 126 = .ok (.aaload, 1) := by decide +kernel
theorem dX3_findAll_127 : decode cX3_findAll 127 = .ok (.iload_n 3, 1) := by decide +kernel
theorem dX3_findAll_128 : decode cX3_findAll 128 = .ok (.iconst (-1), 1) := by decide +kernel
theorem dX3_findAll_129 : decode cX3_findAll 129 = .ok (.iastore, 1) := by decide +kernel
theorem dX3_findAll_130 : decode cX3_findAll 130 = .ok (.iinc 3 1, 3) := by decide +kernel
theorem dX3_findAll_133 : decode cX3_findAll 133 = .ok (.goto (-82), 3) := by decide +kernel
theorem dX3_findAll_136 : decode cX3_findAll 136 = .ok (.return_, 1) := by decide +kernel
theorem dX3_findAt_0 : decode cX3_findAt 0 = .ok (.iconst (-1), 1) := by decide +kernel
theorem dX3_findAt_1 : decode cX3_findAt 1 = .ok (.istore 5, 2) := by decide +kernel
theorem dX3_findAt_3 : decode cX3_findAt 3 = .ok (.iconst 0, 1) := by decide +kernel
theorem dX3_findAt_4 : decode cX3_findAt 4 = .ok (.istore 6, 2) := by decide +kernel
theorem dX3_findAt_6 : decode cX3_findAt 6 = .ok (.iload 6, 2) := by decide +kernel
theorem dX3_findAt_8 : decode cX3_findAt 8 = .ok (.iload 4, 2) := by decide +kernel
theorem dX3_findAt_10 : decode cX3_findAt 10 = .ok (.if_icmp .gt 78, 3) := by decide +kernel
theorem dX3_findAt_13 : decode cX3_findAt 13 = .ok (.iload 6, 2) := by decide +kernel
theorem dX3_findAt_15 : decode cX3_findAt 15 = .ok (.iload 4, 2) := by decide +kernel
theorem dX3_findAt_17 : decode cX3_findAt 17 = .ok (.if_icmp .ge 18, 3) := by decide +kernel
theorem dX3_findAt_20 : decode cX3_findAt 20 = .ok (.aload_n 1, 1) := by decide +kernel
theorem dX3_findAt_21 : decode cX3_findAt 21 = .ok (.iload_n 2, 1) := by decide +kernel
theorem dX3_findAt_22 : decode cX3_findAt 22 = .ok (.iload 6, 2) := by decide +kernel
theorem dX3_findAt_24 : decode cX3_findAt 24 = .ok (.invokevirtual 57, 3) := by decide +kernel
theorem dX3_findAt_27 : decode cX3_findAt 27 = .ok (.iload_n 3, 1) := by decide +kernel
theorem dX3_findAt_28 : decode cX3_findAt 28 = .ok (.if_icmp .lt 7, 3) := by decide +kernel
theorem dX3_findAt_31 : decode cX3_findAt 31 = .ok (.iconst 1, 1) := by decide +kernel
theorem dX3_findAt_32 : decode cX3_findAt 32 = .ok (.goto 4, 3) := by decide +kernel
theorem dX3_findAt_35 : decode cX3_findAt 35 = .ok (.iconst 0, 1) := by decide +kernel
theorem dX3_findAt_36 : decode cX3_findAt 36 = .ok (.istore 7, 2) := by decide +kernel
theorem dX3_findAt_38 : decode cX3_findAt 38 = .ok (.iload 7, 2) := by decide +kernel
theorem dX3_findAt_40 : decode cX3_findAt 40 = .ok (.ifCond .eq 16, 3) := by decide +kernel
theorem dX3_findAt_43 : decode cX3_findAt 43 = .ok (.iload 5, 2) := by decide +kernel
theorem dX3_findAt_45 : decode cX3_findAt 45 = .ok (.iconst (-1), 1) := by decide +kernel
theorem dX3_findAt_46 : decode cX3_findAt 46 = .ok (.if_icmp .ne 10, 3) := by decide +kernel
theorem dX3_findAt_49 : decode cX3_findAt 49 = .ok (.iload 6, 2) := by decide +kernel
theorem dX3_findAt_51 : decode cX3_findAt 51 = .ok (.istore 5, 2) := by decide +kernel
theorem dX3_findAt_53 : decode cX3_findAt 53 = .ok (.goto 29, 3) := by decide +kernel
theorem dX3_findAt_56 : decode cX3_findAt 56 = .ok (.iload 7, 2) := by decide +kernel
theorem dX3_findAt_58 : decode cX3_findAt 58 = .ok (.ifCond .ne 24, 3) := by decide +kernel
theorem dX3_findAt_61 : decode cX3_findAt 61 = .ok (.iload 5, 2) := by decide +kernel
theorem dX3_findAt_63 : decode cX3_findAt 63 = .ok (.iconst (-1), 1) := by decide +kernel
theorem dX3_findAt_64 : decode cX3_findAt 64 = .ok (.if_icmp .eq 18, 3) := by decide +kernel
theorem dX3_findAt_67 : decode cX3_findAt 67 = .ok (.aload_n 0, 1) := by decide +kernel
theorem dX3_findAt_68 : decode cX3_findAt 68 = .ok (.iload_n 2, 1) := by decide +kernel
theorem dX3_findAt_69 : decode cX3_findAt 69 = .ok (.iload_n 3, 1) := by decide +kernel
theorem dX3_findAt_70 : decode cX3_findAt 70 = .ok (.iload 5, 2) := by decide +kernel
theorem dX3_findAt_72 : decode cX3_findAt 72 = .ok (.iload 6, 2) := by decide +kernel
theorem dX3_findAt_74 : decode cX3_findAt 74 = .ok (.iconst 1, 1) := by decide +kernel
theorem dX3_findAt_75 : decode cX3_findAt 75 = .ok (.isub, 1) := by decide +kernel
theorem dX3_findAt_76 : decode cX3_findAt 76 = .ok (.invokevirtual 63, 3) := by decide +kernel
theorem dX3_findAt_79 : decode cX3_findAt 79 = .ok (.iconst (-1), 1) := by decide +kernel
theorem dX3_findAt_80 : decode cX3_findAt 80 = .ok (.istore 5, 2) := by decide +kernel
theorem dX3_findAt_82 : decode cX3_findAt 82 = .ok (.iinc 6 1, 3) := by decide +kernel
theorem dX3_findAt_85 : decode cX3_findAt 85 = .ok (.goto (-79), 3) := by decide +kernel
theorem dX3_findAt_88 : decode cX3_findAt 88 = .ok (.return_, 1) := by decide +kernel
theorem dX3_add_0 : decode cX3_add 0 = .ok (.aload_n 0, 1) := by decide +kernel
theorem dX3_add_1 : decode cX3_add 1 = .ok (.getfield 16, 3) := by decide +kernel
theorem dX3_add_4 : decode cX3_add 4 = .ok (.sipush 144, 3) := by decide +kernel
theorem dX3_add_7 : decode cX3_add 7 = .ok (.if_icmp .ge 62, 3) := by decide +kernel
theorem dX3_add_10 : decode cX3_add 10 = .ok (.aload_n 0, 1) := by decide +kernel
theorem dX3_add_11 : decode cX3_add 11 = .ok (.getfield 13, 3) := by decide +kernel
theorem dX3_add_14 : decode cX3_add 14 = .ok (.iconst 0, 1) := by decide +kernel
theorem dX3_add_15 : decode cX3_add 15 = .ok (.aaload, 1) := by decide +kernel
theorem dX3_add_16 : decode cX3_add 16 = .ok (.aload_n 0, 1) := by decide +kernel
theorem dX3_add_17 : decode cX3_add 17 = .ok (.getfield 16, 3) := by decide +kernel
theorem dX3_add_20 : decode cX3_add 20 = .ok (.iload_n 1, 1) := by decide +kernel
theorem dX3_add_21 : decode cX3_add 21 = .ok (.iastore, 1) := by decide +kernel
theorem dX3_add_22 : decode cX3_add 22 = .ok (.aload_n 0, 1) := by decide +kernel
theorem dX3_add_23 : decode cX3_add 23 = .ok (.getfield 13, 3) := by decide +kernel
theorem dX3_add_26 : decode cX3_add 26 = .ok (.iconst 1, 1) := by decide +kernel
theorem dX3_add_27 : decode cX3_add 27 = .ok (.aaload, 1) := by decide +kernel
theorem dX3_add_28 : decode cX3_add 28 = .ok (.aload_n 0, 1) := by decide +kernel
theorem dX3_add_29 : decode cX3_add 29 = .ok (.getfield 16, 3) := by decide +kernel
theorem dX3_add_32 : decode cX3_add 32 = .ok (.iload_n 2, 1) := by decide +kernel
theorem dX3_add_33 : decode cX3_add 33 = .ok (.iastore, 1) := by decide +kernel
theorem dX3_add_34 : decode cX3_add 34 = .ok (.aload_n 0, 1) := by decide +kernel
theorem dX3_add_35 : decode cX3_add 35 = .ok (.getfield 13, 3) := by decide +kernel
theorem dX3_add_38 : decode cX3_add 38 = .ok (.iconst 2, 1) := by decide +kernel
theorem dX3_add_39 : decode cX3_add 39 = .ok (.aaload, 1) := by decide +kernel
theorem dX3_add_40 : decode cX3_add 40 = .ok (.aload_n 0, 1) := by decide +kernel
theorem dX3_add_41 : decode cX3_add 41 = .ok (.getfield 16, 3) := by decide +kernel
theorem dX3_add_44 : decode cX3_add 44 = .ok (.iload_n 3, 1) := by decide +kernel
theorem dX3_add_45 : decode cX3_add 45 = .ok (.iastore, 1) := by decide +kernel
theorem dX3_add_46 : decode cX3_add 46 = .ok (.aload_n 0, 1) := by decide +kernel
theorem dX3_add_47 : decode cX3_add 47 = .ok (.getfield 13, 3) := by decide +kernel
theorem dX3_add_50 : decode cX3_add 50 = .ok (.iconst 3, 1) := by decide +kernel
theorem dX3_add_51 : decode cX3_add 51 = .ok (.aaload, 1) := by decide +kernel
theorem dX3_add_52 : decode cX3_add 52 = .ok (.aload_n 0, 1) := by decide +kernel
theorem dX3_add_53 : decode cX3_add 53 = .ok (.getfield 16, 3) := by decide +kernel
theorem dX3_add_56 : decode cX3_add 56 = .ok (.iload 4, 2) := by decide +kernel
theorem dX3_add_58 : decode cX3_add 58 = .ok (.iastore, 1) := by decide +kernel
theorem dX3_add_59 : decode cX3_add 59 = .ok (.aload_n 0, 1) := by decide +kernel
theorem dX3_add_60 : decode cX3_add 60 = .ok (.dup, 1) := by decide +kernel
theorem dX3_add_61 : decode cX3_add 61 = .ok (.getfield 16, 3) := by decide +kernel
theorem dX3_add_64 : decode cX3_add 64 = .ok (.iconst 1, 1) := by decide +kernel
theorem dX3_add_65 : decode cX3_add 65 = .ok (.iadd, 1) := by decide +kernel
theorem dX3_add_66 : decode cX3_add 66 = .ok (.putfield 16, 3) := by decide +kernel
theorem dX3_add_69 : decode cX3_add 69 = .ok (.return_, 1) := by decide +kernel
theorem dX3_around_0 : decode cX3_around 0 = .ok (.iconst 0, 1) := by decide +kernel
theorem dX3_around_1 : decode cX3_around 1 = .ok (.istore_n 2, 1) := by decide +kernel
theorem dX3_around_2 : decode cX3_around 2 = .ok (.iload_n 2, 1) := by decide +kernel
theorem dX3_around_3 : decode cX3_around 3 = .ok (.iload_n 1, 1) := by decide +kernel
theorem dX3_around_4 : decode cX3_around 4 = .ok (.if_icmp .ge 67, 3) := by decide +kernel
theorem dX3_around_7 : decode cX3_around 7 = .ok (.aload_n 0, 1) := by decide +kernel
theorem dX3_around_8 : decode cX3_around 8 = .ok (.getfield 13, 3) := by decide +kernel
theorem dX3_around_11 : decode cX3_around 11 = .ok (.iconst 0, 1) := by decide +kernel
theorem dX3_around_12 : decode cX3_around 12 = .ok (.aaload, 1) := by decide +kernel
theorem dX3_around_13 : decode cX3_around 13 = .ok (.iload_n 2, 1) := by decide +kernel
theorem dX3_around_14 : decode cX3_around 14 = .ok (.iaload, 1) := by decide +kernel
theorem dX3_around_15 : decode cX3_around 15 = .ok (.aload_n 0, 1) := by decide +kernel
theorem dX3_around_16 : decode cX3_around 16 = .ok (.getfield 13, 3) := by decide +kernel
theorem dX3_around_19 : decode cX3_around 19 = .ok (.iconst 0, 1) := by decide +kernel
theorem dX3_around_20 : decode cX3_around 20 = .ok (.aaload, 1) := by decide +kernel
theorem dX3_around_21 : decode cX3_around 21 = .ok (.iload_n 1, 1) := by decide +kernel
theorem dX3_around_22 : decode cX3_around 22 = .ok (.iaload, 1) := by decide +kernel
theorem dX3_around_23 : decode cX3_around 23 = .ok (.if_icmp .ne 42, 3) := by decide +kernel
theorem dX3_around_26 : decode cX3_around 26 = .ok (.aload_n 0, 1) := by decide +kernel
theorem dX3_around_27 : decode cX3_around 27 = .ok (.getfield 13, 3) := by decide +kernel
theorem dX3_around_30 : decode cX3_around 30 = .ok (.iconst 1, 1) := by decide +kernel
theorem dX3_around_31 : decode cX3_around 31 = .ok (.aaload, 1) := by decide +kernel
theorem dX3_around_32 : decode cX3_around 32 = .ok (.iload_n 2, 1) := by decide +kernel
theorem dX3_around_33 : decode cX3_around 33 = .ok (.iaload, 1) := by decide +kernel
theorem dX3_around_34 : decode cX3_around 34 = .ok (.aload_n 0, 1) := by decide +kernel
theorem dX3_around_35 : decode cX3_around 35 = .ok (.getfield 13, 3) := by decide +kernel
theorem dX3_around_38 : decode cX3_around 38 = .ok (.iconst 1, 1) := by decide +kernel
theorem dX3_around_39 : decode cX3_around 39 = .ok (.aaload, 1) := by decide +kernel
theorem dX3_around_40 : decode cX3_around 40 = .ok (.iload_n 1, 1) := by decide +kernel
theorem dX3_around_41 : decode cX3_around 41 = .ok (.iaload, 1) := by decide +kernel
theorem dX3_around_42 : decode cX3_around 42 = .ok (.iconst 1, 1) := by decide +kernel
theorem dX3_around_43 : decode cX3_around 43 = .ok (.isub, 1) := by decide +kernel
theorem dX3_around_44 : decode cX3_around 44 = .ok (.if_icmp .ne 21, 3) := by decide +kernel
theorem dX3_around_47 : decode cX3_around 47 = .ok (.aload_n 0, 1) := by decide +kernel
theorem dX3_around_48 : decode cX3_around 48 = .ok (.iload_n 2, 1) := by decide +kernel
theorem dX3_around_49 : decode cX3_around 49 = .ok (.aload_n 0, 1) := by decide +kernel
theorem dX3_around_50 : decode cX3_around 50 = .ok (.getfield 13, 3) := by decide +kernel
theorem dX3_around_53 : decode cX3_around 53 = .ok (.iconst 2, 1) := by decide +kernel
theorem dX3_around_54 : decode cX3_around 54 = .ok (.aaload, 1) := by decide +kernel
theorem dX3_around_55 : decode cX3_around 55 = .ok (.iload_n 1, 1) := by decide +kernel
theorem dX3_around_56 : decode cX3_around 56 = .ok (.iaload, 1) := by decide +kernel
theorem dX3_around_57 : decode cX3_around 57 = .ok (.invokevirtual 67, 3) := by decide +kernel
theorem dX3_around_60 : decode cX3_around 60 = .ok (.ifCond .eq 5, 3) := by decide +kernel
theorem dX3_around_63 : decode cX3_around 63 = .ok (.iload_n 2, 1) := by decide +kernel
theorem dX3_around_64 : decode cX3_around 64 = .ok (.ireturn, 1) := by decide +kernel
theorem dX3_around_65 : decode cX3_around 65 = .ok (.iinc 2 1, 3) := by decide +kernel
theorem dX3_around_68 : decode cX3_around 68 = .ok (.goto (-66), 3) := by decide +kernel
theorem dX3_around_71 : decode cX3_around 71 = .ok (.iconst (-1), 1) := by decide +kernel
theorem dX3_around_72 : decode cX3_around 72 = .ok (.ireturn, 1) := by decide +kernel
theorem dX3_weightOf_0 : decode cX3_weightOf 0 = .ok (.aload_n 0, 1) := by decide +kernel
theorem dX3_weightOf_1 : decode cX3_weightOf 1 = .ok (.getfield 13, 3) := by decide +kernel
theorem dX3_weightOf_4 : decode cX3_weightOf 4 = .ok (.iconst 0, 1) := by decide +kernel
theorem dX3_weightOf_5 : decode cX3_weightOf 5 = .ok (.aaload, 1) := by decide +kernel
theorem dX3_weightOf_6 : decode cX3_weightOf 6 = .ok (.iload_n 2, 1) := by decide +kernel
theorem dX3_weightOf_7 : decode cX3_weightOf 7 = .ok (.iaload, 1) := by decide +kernel
theorem dX3_weightOf_8 : decode cX3_weightOf 8 = .ok (.istore_n 3, 1) := by decide +kernel
theorem dX3_weightOf_9 : decode cX3_weightOf 9 = .ok (.aload_n 0, 1) := by decide +kernel
theorem dX3_weightOf_10 : decode cX3_weightOf 10 = .ok (.getfield 13, 3) := by decide +kernel
theorem dX3_weightOf_13 : decode cX3_weightOf 13 = .ok (.iconst 1, 1) := by decide +kernel
theorem dX3_weightOf_14 : decode cX3_weightOf 14 = .ok (.aaload, 1) := by decide +kernel
theorem dX3_weightOf_15 : decode cX3_weightOf 15 = .ok (.iload_n 2, 1) := by decide +kernel
theorem dX3_weightOf_16 : decode cX3_weightOf 16 = .ok (.iaload, 1) := by decide +kernel
theorem dX3_weightOf_17 : decode cX3_weightOf 17 = .ok (.istore 4, 2) := by decide +kernel
theorem dX3_weightOf_19 : decode cX3_weightOf 19 = .ok (.iconst 0, 1) := by decide +kernel
theorem dX3_weightOf_20 : decode cX3_weightOf 20 = .ok (.istore 5, 2) := by decide +kernel
theorem dX3_weightOf_22 : decode cX3_weightOf 22 = .ok (.aload_n 0, 1) := by decide +kernel
theorem dX3_weightOf_23 : decode cX3_weightOf 23 = .ok (.getfield 13, 3) := by decide +kernel
theorem dX3_weightOf_26 : decode cX3_weightOf 26 = .ok (.iconst 2, 1) := by decide +kernel
theorem dX3_weightOf_27 : decode cX3_weightOf 27 = .ok (.aaload, 1) := by decide +kernel
theorem dX3_weightOf_28 : decode cX3_weightOf 28 = .ok (.iload_n 2, 1) := by decide +kernel
theorem dX3_weightOf_29 : decode cX3_weightOf 29 = .ok (.iaload, 1) := by decide +kernel
theorem dX3_weightOf_30 : decode cX3_weightOf 30 = .ok (.istore 6, 2) := by decide +kernel
theorem dX3_weightOf_32 : decode cX3_weightOf 32 = .ok (.iload 6, 2) := by decide +kernel
theorem dX3_weightOf_34 : decode cX3_weightOf 34 = .ok (.aload_n 0, 1) := by decide +kernel
theorem dX3_weightOf_35 : decode cX3_weightOf 35 = .ok (.getfield 13, 3) := by decide +kernel
theorem dX3_weightOf_38 : decode cX3_weightOf 38 = .ok (.iconst 3, 1) := by decide +kernel
theorem dX3_weightOf_39 : decode cX3_weightOf 39 = .ok (.aaload, 1) := by decide +kernel
theorem dX3_weightOf_40 : decode cX3_weightOf 40 = .ok (.iload_n 2, 1) := by decide +kernel
theorem dX3_weightOf_41 : decode cX3_weightOf 41 = .ok (.iaload, 1) := by decide +kernel
theorem dX3_weightOf_42 : decode cX3_weightOf 42 = .ok (.if_icmp .gt 35, 3) := by decide +kernel
theorem dX3_weightOf_45 : decode cX3_weightOf 45 = .ok (.iload 5, 2) := by decide +kernel
theorem dX3_weightOf_47 : decode cX3_weightOf 47 = .ok (.aload_n 1, 1) := by decide +kernel
theorem dX3_weightOf_48 : decode cX3_weightOf 48 = .ok (.iload_n 3, 1) := by decide +kernel
theorem dX3_weightOf_49 : decode cX3_weightOf 49 = .ok (.iload 6, 2) := by decide +kernel
theorem dX3_weightOf_51 : decode cX3_weightOf 51 = .ok (.iload 4, 2) := by decide +kernel
theorem dX3_weightOf_53 : decode cX3_weightOf 53 = .ok (.iconst 1, 1) := by decide +kernel
theorem dX3_weightOf_54 : decode cX3_weightOf 54 = .ok (.isub, 1) := by decide +kernel
theorem dX3_weightOf_55 : decode cX3_weightOf 55 = .ok (.invokevirtual 71, 3) := by decide +kernel
theorem dX3_weightOf_58 : decode cX3_weightOf 58 = .ok (.aload_n 1, 1) := by decide +kernel
theorem dX3_weightOf_59 : decode cX3_weightOf 59 = .ok (.iload_n 3, 1) := by decide +kernel
theorem dX3_weightOf_60 : decode cX3_weightOf 60 = .ok (.iload 6, 2) := by decide +kernel
theorem dX3_weightOf_62 : decode cX3_weightOf 62 = .ok (.iload 4, 2) := by decide +kernel
theorem dX3_weightOf_64 : decode cX3_weightOf 64 = .ok (.invokevirtual 71, 3) := by decide +kernel
theorem dX3_weightOf_67 : decode cX3_weightOf 67 = .ok (.isub, 1) := by decide +kernel
theorem dX3_weightOf_68 : decode cX3_weightOf 68 = .ok (.iadd, 1) := by decide +kernel
theorem dX3_weightOf_69 : decode cX3_weightOf 69 = .ok (.istore 5, 2) := by decide +kernel
theorem dX3_weightOf_71 : decode cX3_weightOf 71 = .ok (.iinc 6 1, 3) := by decide +kernel
theorem dX3_weightOf_74 : decode cX3_weightOf 74 = .ok (.goto (-42), 3) := by decide +kernel
theorem dX3_weightOf_77 : decode cX3_weightOf 77 = .ok (.iload 5, 2) := by decide +kernel
theorem dX3_weightOf_79 : decode cX3_weightOf 79 = .ok (.ireturn, 1) := by decide +kernel
theorem dX3_peakOf_0 : decode cX3_peakOf 0 = .ok (.aload_n 0, 1) := by decide +kernel
theorem dX3_peakOf_1 : decode cX3_peakOf 1 = .ok (.getfield 13, 3) := by decide +kernel
theorem dX3_peakOf_4 : decode cX3_peakOf 4 = .ok (.iconst 0, 1) := by decide +kernel
theorem dX3_peakOf_5 : decode cX3_peakOf 5 = .ok (.aaload, 1) := by decide +kernel
theorem dX3_peakOf_6 : decode cX3_peakOf 6 = .ok (.iload_n 2, 1) := by decide +kernel
theorem dX3_peakOf_7 : decode cX3_peakOf 7 = .ok (.iaload, 1) := by decide +kernel
theorem dX3_peakOf_8 : decode cX3_peakOf 8 = .ok (.istore_n 3, 1) := by decide +kernel
theorem dX3_peakOf_9 : decode cX3_peakOf 9 = .ok (.aload_n 0, 1) := by decide +kernel
theorem dX3_peakOf_10 : decode cX3_peakOf 10 = .ok (.getfield 13, 3) := by decide +kernel
theorem dX3_peakOf_13 : decode cX3_peakOf 13 = .ok (.iconst 2, 1) := by decide +kernel
theorem dX3_peakOf_14 : decode cX3_peakOf 14 = .ok (.aaload, 1) := by decide +kernel
theorem dX3_peakOf_15 : decode cX3_peakOf 15 = .ok (.iload_n 2, 1) := by decide +kernel
theorem dX3_peakOf_16 : decode cX3_peakOf 16 = .ok (.iaload, 1) := by decide +kernel
theorem dX3_peakOf_17 : decode cX3_peakOf 17 = .ok (.istore 4, 2) := by decide +kernel
theorem dX3_peakOf_19 : decode cX3_peakOf 19 = .ok (.iload 4, 2) := by decide +kernel
theorem dX3_peakOf_21 : decode cX3_peakOf 21 = .ok (.iconst 1, 1) := by decide +kernel
theorem dX3_peakOf_22 : decode cX3_peakOf 22 = .ok (.iadd, 1) := by decide +kernel
theorem dX3_peakOf_23 : decode cX3_peakOf 23 = .ok (.istore 5, 2) := by decide +kernel
theorem dX3_peakOf_25 : decode cX3_peakOf 25 = .ok (.iload 5, 2) := by decide +kernel
theorem dX3_peakOf_27 : decode cX3_peakOf 27 = .ok (.aload_n 0, 1) := by decide +kernel
theorem dX3_peakOf_28 : decode cX3_peakOf 28 = .ok (.getfield 13, 3) := by decide +kernel
theorem dX3_peakOf_31 : decode cX3_peakOf 31 = .ok (.iconst 3, 1) := by decide +kernel
theorem dX3_peakOf_32 : decode cX3_peakOf 32 = .ok (.aaload, 1) := by decide +kernel
theorem dX3_peakOf_33 : decode cX3_peakOf 33 = .ok (.iload_n 2, 1) := by decide +kernel
theorem dX3_peakOf_34 : decode cX3_peakOf 34 = .ok (.iaload, 1) := by decide +kernel
theorem dX3_peakOf_35 : decode cX3_peakOf 35 = .ok (.if_icmp .gt 30, 3) := by decide +kernel
theorem dX3_peakOf_38 : decode cX3_peakOf 38 = .ok (.aload_n 1, 1) := by decide +kernel
theorem dX3_peakOf_39 : decode cX3_peakOf 39 = .ok (.iload_n 3, 1) := by decide +kernel
theorem dX3_peakOf_40 : decode cX3_peakOf 40 = .ok (.iload 5, 2) := by decide +kernel
theorem dX3_peakOf_42 : decode cX3_peakOf 42 = .ok (.invokevirtual 75, 3) := by decide +kernel
theorem dX3_peakOf_45 : decode cX3_peakOf 45 = .ok (.aload_n 1, 1) := by decide +kernel
theorem dX3_peakOf_46 : decode cX3_peakOf 46 = .ok (.iload_n 3, 1) := by decide +kernel
theorem dX3_peakOf_47 : decode cX3_peakOf 47 = .ok (.iload 4, 2) := by decide +kernel
theorem dX3_peakOf_49 : decode cX3_peakOf 49 = .ok (.invokevirtual 75, 3) := by decide +kernel
theorem dX3_peakOf_52 : decode cX3_peakOf 52 = .ok (.if_icmp .le 7, 3) := by decide +kernel
theorem dX3_peakOf_55 : decode cX3_peakOf 55 = .ok (.iload 5, 2) := by decide +kernel
theorem dX3_peakOf_57 : decode cX3_peakOf 57 = .ok (.istore 4, 2) := by decide +kernel
theorem dX3_peakOf_59 : decode cX3_peakOf 59 = .ok (.iinc 5 1, 3) := by decide +kernel
theorem dX3_peakOf_62 : decode cX3_peakOf 62 = .ok (.goto (-37), 3) := by decide +kernel
theorem dX3_peakOf_65 : decode cX3_peakOf 65 = .ok (.iload 4, 2) := by decide +kernel
theorem dX3_peakOf_67 : decode cX3_peakOf 67 = .ok (.ireturn, 1) := by decide +kernel
theorem dX3_fadeOf_0 : decode cX3_fadeOf 0 = .ok (.aload_n 0, 1) := by decide +kernel
theorem dX3_fadeOf_1 : decode cX3_fadeOf 1 = .ok (.getfield 13, 3) := by decide +kernel
theorem dX3_fadeOf_4 : decode cX3_fadeOf 4 = .ok (.iconst 0, 1) := by decide +kernel
theorem dX3_fadeOf_5 : decode cX3_fadeOf 5 = .ok (.aaload, 1) := by decide +kernel
theorem dX3_fadeOf_6 : decode cX3_fadeOf 6 = .ok (.iload_n 2, 1) := by decide +kernel
theorem dX3_fadeOf_7 : decode cX3_fadeOf 7 = .ok (.iaload, 1) := by decide +kernel
theorem dX3_fadeOf_8 : decode cX3_fadeOf 8 = .ok (.istore_n 3, 1) := by decide +kernel
theorem dX3_fadeOf_9 : decode cX3_fadeOf 9 = .ok (.aload_n 1, 1) := by decide +kernel
theorem dX3_fadeOf_10 : decode cX3_fadeOf 10 = .ok (.iload_n 3, 1) := by decide +kernel
theorem dX3_fadeOf_11 : decode cX3_fadeOf 11 = .ok (.aload_n 0, 1) := by decide +kernel
theorem dX3_fadeOf_12 : decode cX3_fadeOf 12 = .ok (.getfield 13, 3) := by decide +kernel
theorem dX3_fadeOf_15 : decode cX3_fadeOf 15 = .ok (.bipush 6, 2) := by decide +kernel
theorem dX3_fadeOf_17 : decode cX3_fadeOf 17 = .ok (.aaload, 1) := by decide +kernel
theorem dX3_fadeOf_18 : decode cX3_fadeOf 18 = .ok (.iload_n 2, 1) := by decide +kernel
theorem dX3_fadeOf_19 : decode cX3_fadeOf 19 = .ok (.iaload, 1) := by decide +kernel
theorem dX3_fadeOf_20 : decode cX3_fadeOf 20 = .ok (.invokevirtual 75, 3) := by decide +kernel
theorem dX3_fadeOf_23 : decode cX3_fadeOf 23 = .ok (.aload_n 1, 1) := by decide +kernel
theorem dX3_fadeOf_24 : decode cX3_fadeOf 24 = .ok (.iload_n 3, 1) := by decide +kernel
theorem dX3_fadeOf_25 : decode cX3_fadeOf 25 = .ok (.aload_n 0, 1) := by decide +kernel
theorem dX3_fadeOf_26 : decode cX3_fadeOf 26 = .ok (.getfield 13, 3) := by decide +kernel
theorem dX3_fadeOf_29 : decode cX3_fadeOf 29 = .ok (.iconst 3, 1) := by decide +kernel
theorem dX3_fadeOf_30 : decode cX3_fadeOf 30 = .ok (.aaload, 1) := by decide +kernel
theorem dX3_fadeOf_31 : decode cX3_fadeOf 31 = .ok (.iload_n 2, 1) := by decide +kernel
theorem dX3_fadeOf_32 : decode cX3_fadeOf 32 = .ok (.iaload, 1) := by decide +kernel
theorem dX3_fadeOf_33 : decode cX3_fadeOf 33 = .ok (.invokevirtual 75, 3) := by decide +kernel
theorem dX3_fadeOf_36 : decode cX3_fadeOf 36 = .ok (.isub, 1) := by decide +kernel
theorem dX3_fadeOf_37 : decode cX3_fadeOf 37 = .ok (.ireturn, 1) := by decide +kernel
theorem dX4_init_0 : decode cX4_init 0 = .ok (.aload_n 0, 1) := by decide +kernel
theorem dX4_init_1 : decode cX4_init 1 = .ok (.invokespecial 1, 3) := by decide +kernel
theorem dX4_init_4 : decode cX4_init 4 = .ok (.aload_n 0, 1) := by decide +kernel
theorem dX4_init_5 : decode cX4_init 5 = .ok (.new 7, 3) := by decide +kernel
theorem dX4_init_8 : decode cX4_init 8 = .ok (.dup, 1) := by decide +kernel
theorem dX4_init_9 : decode cX4_init 9 = .ok (.invokespecial 9, 3) := by decide +kernel
theorem dX4_init_12 : decode cX4_init 12 = .ok (.putfield 10, 3) := by decide +kernel
theorem dX4_init_15 : decode cX4_init 15 = .ok (.aload_n 0, 1) := by decide +kernel
theorem dX4_init_16 : decode cX4_init 16 = .ok (.iconst 0, 1) := by decide +kernel
theorem dX4_init_17 : decode cX4_init 17 = .ok (.putfield 16, 3) := by decide +kernel
theorem dX4_init_20 : decode cX4_init 20 = .ok (.aload_n 0, 1) := by decide +kernel
theorem dX4_init_21 : decode cX4_init 21 = .ok (.iconst 0, 1) := by decide +kernel
theorem dX4_init_22 : decode cX4_init 22 = .ok (.putfield 20, 3) := by decide +kernel
theorem dX4_init_25 : decode cX4_init 25 = .ok (.return_, 1) := by decide +kernel
theorem dX4_hold_0 : decode cX4_hold 0 = .ok (.aload_n 0, 1) := by decide +kernel
theorem dX4_hold_1 : decode cX4_hold 1 = .ok (.getfield 10, 3) := by decide +kernel
theorem dX4_hold_4 : decode cX4_hold 4 = .ok (.aload_n 1, 1) := by decide +kernel
theorem dX4_hold_5 : decode cX4_hold 5 = .ok (.invokevirtual 24, 3) := by decide +kernel
theorem dX4_hold_8 : decode cX4_hold 8 = .ok (.aload_n 0, 1) := by decide +kernel
theorem dX4_hold_9 : decode cX4_hold 9 = .ok (.iload_n 2, 1) := by decide +kernel
theorem dX4_hold_10 : decode cX4_hold 10 = .ok (.putfield 16, 3) := by decide +kernel
theorem dX4_hold_13 : decode cX4_hold 13 = .ok (.aload_n 0, 1) := by decide +kernel
theorem dX4_hold_14 : decode cX4_hold 14 = .ok (.iconst 1, 1) := by decide +kernel
theorem dX4_hold_15 : decode cX4_hold 15 = .ok (.putfield 20, 3) := by decide +kernel
theorem dX4_hold_18 : decode cX4_hold 18 = .ok (.return_, 1) := by decide +kernel
theorem dX4_isHeld_0 : decode cX4_isHeld 0 = .ok (.aload_n 0, 1) := by decide +kernel
theorem dX4_isHeld_1 : decode cX4_isHeld 1 = .ok (.getfield 20, 3) := by decide +kernel
theorem dX4_isHeld_4 : decode cX4_isHeld 4 = .ok (.ireturn, 1) := by decide +kernel
theorem dX4_heldNews_0 : decode cX4_heldNews 0 = .ok (.aload_n 0, 1) := by decide +kernel
theorem dX4_heldNews_1 : decode cX4_heldNews 1 = .ok (.getfield 10, 3) := by decide +kernel
theorem dX4_heldNews_4 : decode cX4_heldNews 4 = .ok (.areturn, 1) := by decide +kernel
theorem dX4_heldSeed_0 : decode cX4_heldSeed 0 = .ok (.aload_n 0, 1) := by decide +kernel
theorem dX4_heldSeed_1 : decode cX4_heldSeed 1 = .ok (.getfield 16, 3) := by decide +kernel
theorem dX4_heldSeed_4 : decode cX4_heldSeed 4 = .ok (.ireturn, 1) := by decide +kernel
theorem dX5_init_0 : decode cX5_init 0 = .ok (.aload_n 0, 1) := by decide +kernel
theorem dX5_init_1 : decode cX5_init 1 = .ok (.invokespecial 3, 3) := by decide +kernel
theorem dX5_init_4 : decode cX5_init 4 = .ok (.aload_n 0, 1) := by decide +kernel
theorem dX5_init_5 : decode cX5_init 5 = .ok (.bipush 8, 2) := by decide +kernel
theorem dX5_init_7 : decode cX5_init 7 = .ok (.bipush 12, 2) := by decide +kernel
theorem dX5_init_9 : decode cX5_init 9 = .ok (.multianewarray 9 2, 4) := by decide +kernel
theorem dX5_init_13 : decode cX5_init 13 = .ok (.putfield 11, 3) := by decide +kernel
theorem dX5_init_16 : decode cX5_init 16 = .ok (.aload_n 0, 1) := by decide +kernel
theorem dX5_init_17 : decode cX5_init 17 = .ok (.bipush 8, 2) := by decide +kernel
theorem dX5_init_19 : decode cX5_init 19 = .ok (.newarray .int, 2) := by decide +kernel
theorem dX5_init_21 : decode cX5_init 21 = .ok (.putfield 16, 3) := by decide +kernel
theorem dX5_init_24 : decode cX5_init 24 = .ok (.aload_n 0, 1) := by decide +kernel
theorem dX5_init_25 : decode cX5_init 25 = .ok (.bipush 12, 2) := by decide +kernel
theorem dX5_init_27 : decode cX5_init 27 = .ok (.iconst 4, 1) := by decide +kernel
theorem dX5_init_28 : decode cX5_init 28 = .ok (.multianewarray 9 2, 4) := by decide +kernel
theorem dX5_init_32 : decode cX5_init 32 = .ok (.putfield 20, 3) := by decide +kernel
theorem dX5_init_35 : decode cX5_init 35 = .ok (.return_, 1) := by decide +kernel
theorem dX5_findAll_0 : decode cX5_findAll 0 = .ok (.iconst 0, 1) := by decide +kernel
theorem dX5_findAll_1 : decode cX5_findAll 1 = .ok (.istore_n 2, 1) := by decide +kernel
theorem dX5_findAll_2 : decode cX5_findAll 2 = .ok (.iload_n 2, 1) := by decide +kernel
theorem dX5_findAll_3 : decode cX5_findAll 3 = .ok (.bipush 8, 2) := by decide +kernel
theorem dX5_findAll_5 : decode cX5_findAll 5 = .ok (.if_icmp .ge 41, 3) := by decide +kernel
theorem dX5_findAll_8 : decode cX5_findAll 8 = .ok (.aload_n 0, 1) := by decide +kernel
theorem dX5_findAll_9 : decode cX5_findAll 9 = .ok (.aload_n 1, 1) := by decide +kernel
theorem dX5_findAll_10 : decode cX5_findAll 10 = .ok (.iload_n 2, 1) := by decide +kernel
theorem dX5_findAll_11 : decode cX5_findAll 11 = .ok (.invokevirtual 23, 3) := by decide +kernel
theorem dX5_findAll_14 : decode cX5_findAll 14 = .ok (.aload_n 0, 1) := by decide +kernel
theorem dX5_findAll_15 : decode cX5_findAll 15 = .ok (.getfield 16, 3) := by decide +kernel
theorem dX5_findAll_18 : decode cX5_findAll 18 = .ok (.iload_n 2, 1) := by decide +kernel
theorem dX5_findAll_19 : decode cX5_findAll 19 = .ok (.aload_n 0, 1) := by decide +kernel
theorem dX5_findAll_20 : decode cX5_findAll 20 = .ok (.aload_n 1, 1) := by decide +kernel
theorem dX5_findAll_21 : decode cX5_findAll 21 = .ok (.iconst 0, 1) := by decide +kernel
theorem dX5_findAll_22 : decode cX5_findAll 22 = .ok (.iconst 0, 1) := by decide +kernel
theorem dX5_findAll_23 : decode cX5_findAll 23 = .ok (.aload_n 0, 1) := by decide +kernel
theorem dX5_findAll_24 : decode cX5_findAll 24 = .ok (.aload_n 1, 1) := by decide +kernel
theorem dX5_findAll_25 : decode cX5_findAll 25 = .ok (.iconst 0, 1) := by decide +kernel
theorem dX5_findAll_26 : decode cX5_findAll 26 = .ok (.iconst 0, 1) := by decide +kernel
theorem dX5_findAll_27 : decode cX5_findAll 27 = .ok (.invokevirtual 27, 3) := by decide +kernel
theorem dX5_findAll_30 : decode cX5_findAll 30 = .ok (.invokevirtual 31, 3) := by decide +kernel
theorem dX5_findAll_33 : decode cX5_findAll 33 = .ok (.iastore, 1) := by decide +kernel
theorem dX5_findAll_34 : decode cX5_findAll 34 = .ok (.aload_n 0, 1) := by decide +kernel
theorem dX5_findAll_35 : decode cX5_findAll 35 = .ok (.aload_n 1, 1) := by decide +kernel
theorem dX5_findAll_36 : decode cX5_findAll 36 = .ok (.iload_n 2, 1) := by decide +kernel
theorem dX5_findAll_37 : decode cX5_findAll 37 = .ok (.invokevirtual 35, 3) := by decide +kernel
theorem dX5_findAll_40 : decode cX5_findAll 40 = .ok (.iinc 2 1, 3) := by decide +kernel
theorem dX5_findAll_43 : decode cX5_findAll 43 = .ok (.goto (-41), 3) := by decide +kernel
theorem dX5_findAll_46 : decode cX5_findAll 46 = .ok (.return_, 1) := by decide +kernel
theorem dX5_of_0 : decode cX5_of 0 = .ok (.iload_n 1, 1) := by decide +kernel
theorem dX5_of_1 : decode cX5_of 1 = .ok (.invokestatic 38, 3) := by decide +kernel
theorem dX5_of_4 : decode cX5_of 4 = .ok (.ifCond .eq 21, 3) := by decide +kernel
theorem dX5_of_7 : decode cX5_of 7 = .ok (.iload_n 2, 1) := by decide +kernel
theorem dX5_of_8 : decode cX5_of 8 = .ok (.invokestatic 42, 3) := by decide +kernel
theorem dX5_of_11 : decode cX5_of 11 = .ok (.ifCond .eq 14, 3) := by decide +kernel
theorem dX5_of_14 : decode cX5_of 14 = .ok (.aload_n 0, 1) := by decide +kernel
theorem dX5_of_15 : decode cX5_of 15 = .ok (.getfield 11, 3) := by decide +kernel
theorem dX5_of_18 : decode cX5_of 18 = .ok (.iload_n 1, 1) := by decide +kernel
theorem dX5_of_19 : decode cX5_of 19 = .ok (.aaload, 1) := by decide +kernel
theorem dX5_of_20 : decode cX5_of 20 = .ok (.iload_n 2, 1) := by decide +kernel
theorem dX5_of_21 : decode cX5_of 21 = .ok (.iaload, 1) := by decide +kernel
theorem dX5_of_22 : decode cX5_of 22 = .ok (.goto 4, 3) := by decide +kernel
theorem dX5_of_25 : decode cX5_of 25 = .ok (.iconst 0, 1) := by decide +kernel
theorem dX5_of_26 : decode cX5_of 26 = .ok (.ireturn, 1) := by decide +kernel
theorem dX5_costOf_0 : decode cX5_costOf 0 = .ok (.iload_n 1, 1) := by decide +kernel
theorem dX5_costOf_1 : decode cX5_costOf 1 = .ok (.invokestatic 38, 3) := by decide +kernel
theorem dX5_costOf_4 : decode cX5_costOf 4 = .ok (.ifCond .eq 12, 3) := by decide +kernel
theorem dX5_costOf_7 : decode cX5_costOf 7 = .ok (.aload_n 0, 1) := by decide +kernel
theorem dX5_costOf_8 : decode cX5_costOf 8 = .ok (.getfield 16, 3) := by decide +kernel
theorem dX5_costOf_11 : decode cX5_costOf 11 = .ok (.iload_n 1, 1) := by decide +kernel
theorem dX5_costOf_12 : decode cX5_costOf 12 = .ok (.iaload, 1) := by decide +kernel
theorem dX5_costOf_13 : decode cX5_costOf 13 = .ok (.goto 4, 3) := by decide +kernel
theorem dX5_costOf_16 : decode cX5_costOf 16 = .ok (.iconst 0, 1) := by decide +kernel
theorem dX5_costOf_17 : decode cX5_costOf 17 = .ok (.ireturn, 1) := by decide +kernel
theorem dX5_costRests_0 : decode cX5_costRests 0 = .ok (.aload_n 1, 1) := by decide +kernel
theorem dX5_costRests_1 : decode cX5_costRests 1 = .ok (.invokevirtual 47, 3) := by decide +kernel
theorem dX5_costRests_4 : decode cX5_costRests 4 = .ok (.iconst 1, 1) := by decide +kernel
theorem dX5_costRests_5 : decode cX5_costRests 5 = .ok (.isub, 1) := by decide +kernel
theorem dX5_costRests_6 : decode cX5_costRests 6 = .ok (.istore_n 3, 1) := by decide +kernel
theorem dX5_costRests_7 : decode cX5_costRests 7 = .ok (.iload_n 3, 1) := by decide +kernel
theorem dX5_costRests_8 : decode cX5_costRests 8 = .ok (.istore 4, 2) := by decide +kernel
theorem dX5_costRests_10 : decode cX5_costRests 10 = .ok (.iload 4, 2) := by decide +kernel
theorem dX5_costRests_12 : decode cX5_costRests 12 = .ok (.ifCond .lt 83, 3) := by decide +kernel
theorem dX5_costRests_15 : decode cX5_costRests 15 = .ok (.iconst 0, 1) := by decide +kernel
theorem dX5_costRests_16 : decode cX5_costRests 16 = .ok (.istore 5, 2) := by decide +kernel
theorem dX5_costRests_18 : decode cX5_costRests 18 = .ok (.iload 5, 2) := by decide +kernel
theorem dX5_costRests_20 : decode cX5_costRests 20 = .ok (.aload_n 1, 1) := by decide +kernel
theorem dX5_costRests_21 : decode cX5_costRests 21 = .ok (.invokevirtual 51, 3) := by decide +kernel
theorem dX5_costRests_24 : decode cX5_costRests 24 = .ok (.if_icmp .gt 65, 3) := by decide +kernel
theorem dX5_costRests_27 : decode cX5_costRests 27 = .ok (.iload 4, 2) := by decide +kernel
theorem dX5_costRests_29 : decode cX5_costRests 29 = .ok (.iload_n 3, 1) := by decide +kernel
theorem dX5_costRests_30 : decode cX5_costRests 30 = .ok (.if_icmp .ne 7, 3) := by decide +kernel
theorem dX5_costRests_33 : decode cX5_costRests 33 = .ok (.iconst 0, 1) := by decide +kernel
theorem dX5_costRests_34 : decode cX5_costRests 34 = .ok (.goto 25, 3) := by decide +kernel
theorem dX5_costRests_37 : decode cX5_costRests 37 = .ok (.aload_n 0, 1) := by decide +kernel
theorem dX5_costRests_38 : decode cX5_costRests 38 = .ok (.aload_n 1, 1) := by decide +kernel
theorem dX5_costRests_39 : decode cX5_costRests 39 = .ok (.iload 4, 2) := by decide +kernel
theorem dX5_costRests_41 : decode cX5_costRests 41 = .ok (.iconst 1, 1) := by decide +kernel
theorem dX5_costRests_42 : decode cX5_costRests 42 = .ok (.iadd, 1) := by decide +kernel
theorem dX5_costRests_43 : decode cX5_costRests 43 = .ok (.iload 5, 2) := by decide +kernel
theorem dX5_costRests_45 : decode cX5_costRests 45 = .ok (.aload_n 0, 1) := by decide +kernel
theorem dX5_costRests_46 : decode cX5_costRests 46 = .ok (.aload_n 1, 1) := by decide +kernel
theorem dX5_costRests_47 : decode cX5_costRests 47 = .ok (.iload 4, 2) := by decide +kernel
theorem dX5_costRests_49 : decode cX5_costRests 49 = .ok (.iconst 1, 1) := by decide +kernel
theorem dX5_costRests_50 : decode cX5_costRests 50 = .ok (.iadd, 1) := by decide +kernel
theorem dX5_costRests_51 : decode cX5_costRests 51 = .ok (.iload 5, 2) := by decide +kernel
theorem dX5_costRests_53 : decode cX5_costRests 53 = .ok (.invokevirtual 27, 3) := by decide +kernel
theorem dX5_costRests_56 : decode cX5_costRests 56 = .ok (.invokevirtual 31, 3) := by decide +kernel
theorem dX5_costRests_59 : decode cX5_costRests 59 = .ok (.istore 6, 2) := by decide +kernel
theorem dX5_costRests_61 : decode cX5_costRests 61 = .ok (.aload_n 0, 1) := by decide +kernel
theorem dX5_costRests_62 : decode cX5_costRests 62 = .ok (.getfield 20, 3) := by decide +kernel
theorem dX5_costRests_65 : decode cX5_costRests 65 = .ok (.iload 4, 2) := by decide +kernel
theorem dX5_costRests_67 : decode cX5_costRests 67 = .ok (.aaload, 1) := by decide +kernel
theorem dX5_costRests_68 : decode cX5_costRests 68 = .ok (.iload 5, 2) := by decide +kernel
theorem dX5_costRests_70 : decode cX5_costRests 70 = .ok (.aload_n 1, 1) := by decide +kernel
theorem dX5_costRests_71 : decode cX5_costRests 71 = .ok (.iload_n 2, 1) := by decide +kernel
theorem dX5_costRests_72 : decode cX5_costRests 72 = .ok (.iload 4, 2) := by decide +kernel
theorem dX5_costRests_74 : decode cX5_costRests 74 = .ok (.iload 5, 2) := by decide +kernel
theorem dX5_costRests_76 : decode cX5_costRests 76 = .ok (.invokevirtual 54, 3) := by decide +kernel
theorem dX5_costRests_79 : decode cX5_costRests 79 = .ok (.iload 6, 2) := by decide +kernel
theorem dX5_costRests_81 : decode cX5_costRests 81 = .ok (.iadd, 1) := by decide +kernel
theorem dX5_costRests_82 : decode cX5_costRests 82 = .ok (.iastore, 1) := by decide +kernel
theorem dX5_costRests_83 : decode cX5_costRests 83 = .ok (.iinc 5 1, 3) := by decide +kernel
theorem dX5_costRests_86 : decode cX5_costRests 86 = .ok (.goto (-68), 3) := by decide +kernel
theorem dX5_costRests_89 : decode cX5_costRests 89 = .ok (.iinc 4 (-1), 3) := by decide +kernel
theorem dX5_costRests_92 : decode cX5_costRests 92 = .ok (.goto (-82), 3) := by decide +kernel
theorem dX5_costRests_95 : decode cX5_costRests 95 = .ok (.return_, 1) := by decide +kernel
theorem dX5_walk_0 : decode cX5_walk 0 = .ok (.iconst 0, 1) := by decide +kernel
theorem dX5_walk_1 : decode cX5_walk 1 = .ok (.istore_n 3, 1) := by decide +kernel
theorem dX5_walk_2 : decode cX5_walk 2 = .ok (.iconst 0, 1) := by decide +kernel
theorem dX5_walk_3 : decode cX5_walk 3 = .ok (.istore 4, 2) := by decide +kernel
theorem dX5_walk_5 : decode cX5_walk 5 = .ok (.iload 4, 2) := by decide +kernel
theorem dX5_walk_7 : decode cX5_walk 7 = .ok (.aload_n 1, 1) := by decide +kernel
theorem dX5_walk_8 : decode cX5_walk 8 = .ok (.invokevirtual 47, 3) := by decide +kernel
theorem dX5_walk_11 : decode cX5_walk 11 = .ok (.if_icmp .ge 28, 3) := by decide +kernel
theorem dX5_walk_14 : decode cX5_walk 14 = .ok (.aload_n 0, 1) := by decide +kernel
theorem dX5_walk_15 : decode cX5_walk 15 = .ok (.aload_n 1, 1) := by decide +kernel
theorem dX5_walk_16 : decode cX5_walk 16 = .ok (.iload 4, 2) := by decide +kernel
theorem dX5_walk_18 : decode cX5_walk 18 = .ok (.iload_n 3, 1) := by decide +kernel
theorem dX5_walk_19 : decode cX5_walk 19 = .ok (.invokevirtual 27, 3) := by decide +kernel
theorem dX5_walk_22 : decode cX5_walk 22 = .ok (.istore_n 3, 1) := by decide +kernel
theorem dX5_walk_23 : decode cX5_walk 23 = .ok (.aload_n 0, 1) := by decide +kernel
theorem dX5_walk_24 : decode cX5_walk 24 = .ok (.getfield 11, 3) := by decide +kernel
theorem dX5_walk_27 : decode cX5_walk 27 = .ok (.iload_n 2, 1) := by decide +kernel
theorem dX5_walk_28 : decode cX5_walk 28 = .ok (.aaload, 1) := by decide +kernel
theorem dX5_walk_29 : decode cX5_walk 29 = .ok (.iload 4, 2) := by decide +kernel
theorem dX5_walk_31 : decode cX5_walk 31 = .ok (.iload_n 3, 1) := by decide +kernel
theorem dX5_walk_32 : decode cX5_walk 32 = .ok (.iastore, 1) := by decide +kernel
theorem dX5_walk_33 : decode cX5_walk 33 = .ok (.iinc 4 1, 3) := by decide +kernel
theorem dX5_walk_36 : decode cX5_walk 36 = .ok (.goto (-31), 3) := by decide +kernel
theorem dX5_walk_39 : decode cX5_walk 39 = .ok (.return_, 1) := by decide +kernel
theorem dX5_leastFrom_0 : decode cX5_leastFrom 0 = .ok (.iconst 0, 1) := by decide +kernel
theorem dX5_leastFrom_1 : decode cX5_leastFrom 1 = .ok (.istore 4, 2) := by decide +kernel
theorem dX5_leastFrom_3 : decode cX5_leastFrom 3 = .ok (.iconst 1, 1) := by decide +kernel
theorem dX5_leastFrom_4 : decode cX5_leastFrom 4 = .ok (.istore 5, 2) := by decide +kernel
theorem dX5_leastFrom_6 : decode cX5_leastFrom 6 = .ok (.iload 5, 2) := by decide +kernel
theorem dX5_leastFrom_8 : decode cX5_leastFrom 8 = .ok (.aload_n 1, 1) := by decide +kernel
theorem dX5_leastFrom_9 : decode cX5_leastFrom 9 = .ok (.invokevirtual 51, 3) := by decide +kernel
theorem dX5_leastFrom_12 : decode cX5_leastFrom 12 = .ok (.if_icmp .gt 34, 3) := by decide +kernel
theorem dX5_leastFrom_15 : decode cX5_leastFrom 15 = .ok (.aload_n 0, 1) := by decide +kernel
theorem dX5_leastFrom_16 : decode cX5_leastFrom 16 = .ok (.aload_n 1, 1) := by decide +kernel
theorem dX5_leastFrom_17 : decode cX5_leastFrom 17 = .ok (.iload_n 2, 1) := by decide +kernel
theorem dX5_leastFrom_18 : decode cX5_leastFrom 18 = .ok (.iload_n 3, 1) := by decide +kernel
theorem dX5_leastFrom_19 : decode cX5_leastFrom 19 = .ok (.iload 5, 2) := by decide +kernel
theorem dX5_leastFrom_21 : decode cX5_leastFrom 21 = .ok (.invokevirtual 31, 3) := by decide +kernel
theorem dX5_leastFrom_24 : decode cX5_leastFrom 24 = .ok (.aload_n 0, 1) := by decide +kernel
theorem dX5_leastFrom_25 : decode cX5_leastFrom 25 = .ok (.aload_n 1, 1) := by decide +kernel
theorem dX5_leastFrom_26 : decode cX5_leastFrom 26 = .ok (.iload_n 2, 1) := by decide +kernel
theorem dX5_leastFrom_27 : decode cX5_leastFrom 27 = .ok (.iload_n 3, 1) := by decide +kernel
theorem dX5_leastFrom_28 : decode cX5_leastFrom 28 = .ok (.iload 4, 2) := by decide +kernel
theorem dX5_leastFrom_30 : decode cX5_leastFrom 30 = .ok (.invokevirtual 31, 3) := by decide +kernel
theorem dX5_leastFrom_33 : decode cX5_leastFrom 33 = .ok (.if_icmp .ge 7, 3) := by decide +kernel
theorem dX5_leastFrom_36 : decode cX5_leastFrom 36 = .ok (.iload 5, 2) := by decide +kernel
theorem dX5_leastFrom_38 : decode cX5_leastFrom 38 = .ok (.istore 4, 2) := by decide +kernel
theorem dX5_leastFrom_40 : decode cX5_leastFrom 40 = .ok (.iinc 5 1, 3) := by decide +kernel
theorem dX5_leastFrom_43 : decode cX5_leastFrom 43 = .ok (.goto (-37), 3) := by decide +kernel
theorem dX5_leastFrom_46 : decode cX5_leastFrom 46 = .ok (.iload 4, 2) := by decide +kernel
theorem dX5_leastFrom_48 : decode cX5_leastFrom 48 = .ok (.ireturn, 1) := by decide +kernel
theorem dX5_costFrom_0 : decode cX5_costFrom 0 = .ok (.iload_n 2, 1) := by decide +kernel
theorem dX5_costFrom_1 : decode cX5_costFrom 1 = .ok (.invokestatic 42, 3) := by decide +kernel
theorem dX5_costFrom_4 : decode cX5_costFrom 4 = .ok (.ifCond .eq 18, 3) := by decide +kernel
theorem dX5_costFrom_7 : decode cX5_costFrom 7 = .ok (.iload 4, 2) := by decide +kernel
theorem dX5_costFrom_9 : decode cX5_costFrom 9 = .ok (.ifCond .lt 13, 3) := by decide +kernel
theorem dX5_costFrom_12 : decode cX5_costFrom 12 = .ok (.iload 4, 2) := by decide +kernel
theorem dX5_costFrom_14 : decode cX5_costFrom 14 = .ok (.iconst 3, 1) := by decide +kernel
theorem dX5_costFrom_15 : decode cX5_costFrom 15 = .ok (.if_icmp .gt 7, 3) := by decide +kernel
theorem dX5_costFrom_18 : decode cX5_costFrom 18 = .ok (.iconst 1, 1) := by decide +kernel
theorem dX5_costFrom_19 : decode cX5_costFrom 19 = .ok (.goto 4, 3) := by decide +kernel
theorem dX5_costFrom_22 : decode cX5_costFrom 22 = .ok (.iconst 0, 1) := by decide +kernel
theorem dX5_costFrom_23 : decode cX5_costFrom 23 = .ok (.istore 5, 2) := by decide +kernel
theorem dX5_costFrom_25 : decode cX5_costFrom 25 = .ok (.iload 5, 2) := by decide +kernel
theorem dX5_costFrom_27 : decode cX5_costFrom 27 = .ok (.ifCond .eq 23, 3) := by decide +kernel
theorem dX5_costFrom_30 : decode cX5_costFrom 30 = .ok (.aload_n 0, 1) := by decide +kernel
theorem dX5_costFrom_31 : decode cX5_costFrom 31 = .ok (.getfield 20, 3) := by decide +kernel
theorem dX5_costFrom_34 : decode cX5_costFrom 34 = .ok (.iload_n 2, 1) := by decide +kernel
theorem dX5_costFrom_35 : decode cX5_costFrom 35 = .ok (.aaload, 1) := by decide +kernel
theorem dX5_costFrom_36 : decode cX5_costFrom 36 = .ok (.iload 4, 2) := by decide +kernel
theorem dX5_costFrom_38 : decode cX5_costFrom 38 = .ok (.iaload, 1) := by decide +kernel
theorem dX5_costFrom_39 : decode cX5_costFrom 39 = .ok (.aload_n 1, 1) := by decide +kernel
theorem dX5_costFrom_40 : decode cX5_costFrom 40 = .ok (.iload_n 3, 1) := by decide +kernel
theorem dX5_costFrom_41 : decode cX5_costFrom 41 = .ok (.iload 4, 2) := by decide +kernel
theorem dX5_costFrom_43 : decode cX5_costFrom 43 = .ok (.invokevirtual 58, 3) := by decide +kernel
theorem dX5_costFrom_46 : decode cX5_costFrom 46 = .ok (.iadd, 1) := by decide +kernel
theorem dX5_costFrom_47 : decode cX5_costFrom 47 = .ok (.goto 4, 3) := by decide +kernel
theorem dX5_costFrom_50 : decode cX5_costFrom 50 = .ok (.iconst 0, 1) := by decide +kernel
theorem dX5_costFrom_51 : decode cX5_costFrom 51 = .ok (.ireturn, 1) := by decide +kernel
theorem dX6_init_0 : decode cX6_init 0 = .ok (.aload_n 0, 1) := by decide +kernel
theorem dX6_init_1 : decode cX6_init 1 = .ok (.invokespecial 3, 3) := by decide +kernel
theorem dX6_init_4 : decode cX6_init 4 = .ok (.aload_n 0, 1) := by decide +kernel
theorem dX6_init_5 : decode cX6_init 5 = .ok (.getstatic 9, 3) := by decide +kernel
theorem dX6_init_8 : decode cX6_init 8 = .ok (.invokevirtual 15, 3) := by decide +kernel
theorem dX6_init_11 : decode cX6_init 11 = .ok (.checkcast 16, 3) := by decide +kernel
theorem dX6_init_14 : decode cX6_init 14 = .ok (.putfield 20, 3) := by decide +kernel
theorem dX6_init_17 : decode cX6_init 17 = .ok (.aload_n 0, 1) := by decide +kernel
theorem dX6_init_18 : decode cX6_init 18 = .ok (.bipush 40, 2) := by decide +kernel
theorem dX6_init_20 : decode cX6_init 20 = .ok (.newarray .int, 2) := by decide +kernel
theorem dX6_init_22 : decode cX6_init 22 = .ok (.putfield 23, 3) := by decide +kernel
theorem dX6_init_25 : decode cX6_init 25 = .ok (.aload_n 0, 1) := by decide +kernel
theorem dX6_init_26 : decode cX6_init 26 = .ok (.bipush 40, 2) := by decide +kernel
theorem dX6_init_28 : decode cX6_init 28 = .ok (.newarray .int, 2) := by decide +kernel
theorem dX6_init_30 : decode cX6_init 30 = .ok (.putfield 26, 3) := by decide +kernel
theorem dX6_init_33 : decode cX6_init 33 = .ok (.aload_n 0, 1) := by decide +kernel
theorem dX6_init_34 : decode cX6_init 34 = .ok (.bipush 6, 2) := by decide +kernel
theorem dX6_init_36 : decode cX6_init 36 = .ok (.putfield 29, 3) := by decide +kernel
theorem dX6_init_39 : decode cX6_init 39 = .ok (.aload_n 0, 1) := by decide +kernel
theorem dX6_init_40 : decode cX6_init 40 = .ok (.iconst 0, 1) := by decide +kernel
theorem dX6_init_41 : decode cX6_init 41 = .ok (.putfield 33, 3) := by decide +kernel
theorem dX6_init_44 : decode cX6_init 44 = .ok (.return_, 1) := by decide +kernel
theorem dX6_isTerm_0 : decode cX6_isTerm 0 = .ok (.iload_n 0, 1) := by decide +kernel
theorem dX6_isTerm_1 : decode cX6_isTerm 1 = .ok (.ifCond .lt 12, 3) := by decide +kernel
theorem dX6_isTerm_4 : decode cX6_isTerm 4 = .ok (.iload_n 0, 1) := by decide +kernel
theorem dX6_isTerm_5 : decode cX6_isTerm 5 = .ok (.iconst 4, 1) := by decide +kernel
theorem dX6_isTerm_6 : decode cX6_isTerm 6 = .ok (.if_icmp .ge 7, 3) := by decide +kernel
theorem dX6_isTerm_9 : decode cX6_isTerm 9 = .ok (.iconst 1, 1) := by decide +kernel
theorem dX6_isTerm_10 : decode cX6_isTerm 10 = .ok (.goto 4, 3) := by decide +kernel
theorem dX6_isTerm_13 : decode cX6_isTerm 13 = .ok (.iconst 0, 1) := by decide +kernel
theorem dX6_isTerm_14 : decode cX6_isTerm 14 = .ok (.ireturn, 1) := by decide +kernel
theorem dX6_isInBounds_0 : decode cX6_isInBounds 0 = .ok (.iload_n 0, 1) := by decide +kernel
theorem dX6_isInBounds_1 : decode cX6_isInBounds 1 = .ok (.invokestatic 36, 3) := by decide +kernel
theorem dX6_isInBounds_4 : decode cX6_isInBounds 4 = .ok (.ifCond .eq 25, 3) := by decide +kernel
theorem dX6_isInBounds_7 : decode cX6_isInBounds 7 = .ok (.iload_n 1, 1) := by decide +kernel
theorem dX6_isInBounds_8 : decode cX6_isInBounds 8 = .ok (.getstatic 40, 3) := by decide +kernel
theorem dX6_isInBounds_11 : decode cX6_isInBounds 11 = .ok (.iload_n 0, 1) := by decide +kernel
theorem dX6_isInBounds_12 : decode cX6_isInBounds 12 = .ok (.iaload, 1) := by decide +kernel
theorem dX6_isInBounds_13 : decode cX6_isInBounds 13 = .ok (.if_icmp .lt 16, 3) := by decide +kernel
theorem dX6_isInBounds_16 : decode cX6_isInBounds 16 = .ok (.iload_n 1, 1) := by decide +kernel
theorem dX6_isInBounds_17 : decode cX6_isInBounds 17 = .ok (.getstatic 43, 3) := by decide +kernel
theorem dX6_isInBounds_20 : decode cX6_isInBounds 20 = .ok (.iload_n 0, 1) := by decide +kernel
theorem dX6_isInBounds_21 : decode cX6_isInBounds 21 = .ok (.iaload, 1) := by decide +kernel
theorem dX6_isInBounds_22 : decode cX6_isInBounds 22 = .ok (.if_icmp .gt 7, 3) := by decide +kernel
theorem dX6_isInBounds_25 : decode cX6_isInBounds 25 = .ok (.iconst 1, 1) := by decide +kernel
theorem dX6_isInBounds_26 : decode cX6_isInBounds 26 = .ok (.goto 4, 3) := by decide +kernel
theorem dX6_isInBounds_29 : decode cX6_isInBounds 29 = .ok (.iconst 0, 1) := by decide +kernel
theorem dX6_isInBounds_30 : decode cX6_isInBounds 30 = .ok (.ireturn, 1) := by decide +kernel
theorem dX6_termOf_0 : decode cX6_termOf 0 = .ok (.iload_n 1, 1) := by decide +kernel
theorem dX6_termOf_1 : decode cX6_termOf 1 = .ok (.invokestatic 36, 3) := by decide +kernel
theorem dX6_termOf_4 : decode cX6_termOf 4 = .ok (.ifCond .eq 12, 3) := by decide +kernel
theorem dX6_termOf_7 : decode cX6_termOf 7 = .ok (.aload_n 0, 1) := by decide +kernel
theorem dX6_termOf_8 : decode cX6_termOf 8 = .ok (.getfield 20, 3) := by decide +kernel
theorem dX6_termOf_11 : decode cX6_termOf 11 = .ok (.iload_n 1, 1) := by decide +kernel
theorem dX6_termOf_12 : decode cX6_termOf 12 = .ok (.iaload, 1) := by decide +kernel
theorem dX6_termOf_13 : decode cX6_termOf 13 = .ok (.goto 4, 3) := by decide +kernel
theorem dX6_termOf_16 : decode cX6_termOf 16 = .ok (.iconst (-1), 1) := by decide +kernel
theorem dX6_termOf_17 : decode cX6_termOf 17 = .ok (.ireturn, 1) := by decide +kernel
theorem dX6_setTerm_0 : decode cX6_setTerm 0 = .ok (.iload_n 1, 1) := by decide +kernel
theorem dX6_setTerm_1 : decode cX6_setTerm 1 = .ok (.iload_n 2, 1) := by decide +kernel
theorem dX6_setTerm_2 : decode cX6_setTerm 2 = .ok (.invokestatic 46, 3) := by decide +kernel
theorem dX6_setTerm_5 : decode cX6_setTerm 5 = .ok (.ifCond .eq 10, 3) := by decide +kernel
theorem dX6_setTerm_8 : decode cX6_setTerm 8 = .ok (.aload_n 0, 1) := by decide +kernel
theorem dX6_setTerm_9 : decode cX6_setTerm 9 = .ok (.getfield 20, 3) := by decide +kernel
theorem dX6_setTerm_12 : decode cX6_setTerm 12 = .ok (.iload_n 1, 1) := by decide +kernel
theorem dX6_setTerm_13 : decode cX6_setTerm 13 = .ok (.iload_n 2, 1) := by decide +kernel
theorem dX6_setTerm_14 : decode cX6_setTerm 14 = .ok (.iastore, 1) := by decide +kernel
theorem dX6_setTerm_15 : decode cX6_setTerm 15 = .ok (.return_, 1) := by decide +kernel
theorem dX6_levels_0 : decode cX6_levels 0 = .ok (.aload_n 0, 1) := by decide +kernel
theorem dX6_levels_1 : decode cX6_levels 1 = .ok (.getfield 20, 3) := by decide +kernel
theorem dX6_levels_4 : decode cX6_levels 4 = .ok (.iconst 0, 1) := by decide +kernel
theorem dX6_levels_5 : decode cX6_levels 5 = .ok (.iaload, 1) := by decide +kernel
theorem dX6_levels_6 : decode cX6_levels 6 = .ok (.ireturn, 1) := by decide +kernel
theorem dX6_base_0 : decode cX6_base 0 = .ok (.aload_n 0, 1) := by decide +kernel
theorem dX6_base_1 : decode cX6_base 1 = .ok (.getfield 20, 3) := by decide +kernel
theorem dX6_base_4 : decode cX6_base 4 = .ok (.iconst 1, 1) := by decide +kernel
theorem dX6_base_5 : decode cX6_base 5 = .ok (.iaload, 1) := by decide +kernel
theorem dX6_base_6 : decode cX6_base 6 = .ok (.ireturn, 1) := by decide +kernel
theorem dX6_step_0 : decode cX6_step 0 = .ok (.aload_n 0, 1) := by decide +kernel
theorem dX6_step_1 : decode cX6_step 1 = .ok (.getfield 20, 3) := by decide +kernel
theorem dX6_step_4 : decode cX6_step 4 = .ok (.iconst 2, 1) := by decide +kernel
theorem dX6_step_5 : decode cX6_step 5 = .ok (.iaload, 1) := by decide +kernel
theorem dX6_step_6 : decode cX6_step 6 = .ok (.ireturn, 1) := by decide +kernel
theorem dX6_rise_0 : decode cX6_rise 0 = .ok (.aload_n 0, 1) := by decide +kernel
theorem dX6_rise_1 : decode cX6_rise 1 = .ok (.getfield 20, 3) := by decide +kernel
theorem dX6_rise_4 : decode cX6_rise 4 = .ok (.iconst 3, 1) := by decide +kernel
theorem dX6_rise_5 : decode cX6_rise 5 = .ok (.iaload, 1) := by decide +kernel
theorem dX6_rise_6 : decode cX6_rise 6 = .ok (.ireturn, 1) := by decide +kernel
theorem dX6_hasLevel_0 : decode cX6_hasLevel 0 = .ok (.iload_n 1, 1) := by decide +kernel
theorem dX6_hasLevel_1 : decode cX6_hasLevel 1 = .ok (.ifCond .lt 17, 3) := by decide +kernel
theorem dX6_hasLevel_4 : decode cX6_hasLevel 4 = .ok (.iload_n 1, 1) := by decide +kernel
theorem dX6_hasLevel_5 : decode cX6_hasLevel 5 = .ok (.aload_n 0, 1) := by decide +kernel
theorem dX6_hasLevel_6 : decode cX6_hasLevel 6 = .ok (.getfield 20, 3) := by decide +kernel
theorem dX6_hasLevel_9 : decode cX6_hasLevel 9 = .ok (.iconst 0, 1) := by decide +kernel
theorem dX6_hasLevel_10 : decode cX6_hasLevel 10 = .ok (.iaload, 1) := by decide +kernel
theorem dX6_hasLevel_11 : decode cX6_hasLevel 11 = .ok (.if_icmp .gt 7, 3) := by decide +kernel
theorem dX6_hasLevel_14 : decode cX6_hasLevel 14 = .ok (.iconst 1, 1) := by decide +kernel
theorem dX6_hasLevel_15 : decode cX6_hasLevel 15 = .ok (.goto 4, 3) := by decide +kernel
theorem dX6_hasLevel_18 : decode cX6_hasLevel 18 = .ok (.iconst 0, 1) := by decide +kernel
theorem dX6_hasLevel_19 : decode cX6_hasLevel 19 = .ok (.ireturn, 1) := by decide +kernel
theorem dX6_dayCount_0 : decode cX6_dayCount 0 = .ok (.aload_n 0, 1) := by decide +kernel
theorem dX6_dayCount_1 : decode cX6_dayCount 1 = .ok (.getfield 29, 3) := by decide +kernel
theorem dX6_dayCount_4 : decode cX6_dayCount 4 = .ok (.ireturn, 1) := by decide +kernel
theorem dX6_hasDay_0 : decode cX6_hasDay 0 = .ok (.iload_n 1, 1) := by decide +kernel
theorem dX6_hasDay_1 : decode cX6_hasDay 1 = .ok (.ifCond .lt 15, 3) := by decide +kernel
theorem dX6_hasDay_4 : decode cX6_hasDay 4 = .ok (.iload_n 1, 1) := by decide +kernel
theorem dX6_hasDay_5 : decode cX6_hasDay 5 = .ok (.aload_n 0, 1) := by decide +kernel
theorem dX6_hasDay_6 : decode cX6_hasDay 6 = .ok (.getfield 29, 3) := by decide +kernel
theorem dX6_hasDay_9 : decode cX6_hasDay 9 = .ok (.if_icmp .ge 7, 3) := by decide +kernel
theorem dX6_hasDay_12 : decode cX6_hasDay 12 = .ok (.iconst 1, 1) := by decide +kernel
theorem dX6_hasDay_13 : decode cX6_hasDay 13 = .ok (.goto 4, 3) := by decide +kernel
theorem dX6_hasDay_16 : decode cX6_hasDay 16 = .ok (.iconst 0, 1) := by decide +kernel
theorem dX6_hasDay_17 : decode cX6_hasDay 17 = .ok (.ireturn, 1) := by decide +kernel
theorem dX6_setDayCount_0 : decode cX6_setDayCount 0 = .ok (.aload_n 0, 1) := by decide +kernel
theorem dX6_setDayCount_1 : decode cX6_setDayCount 1 = .ok (.iconst 1, 1) := by decide +kernel
theorem dX6_setDayCount_2 : decode cX6_setDayCount 2 = .ok (.iload_n 1, 1) := by decide +kernel
theorem dX6_setDayCount_3 : decode cX6_setDayCount 3 = .ok (.bipush 12, 2) := by decide +kernel
theorem dX6_setDayCount_5 : decode cX6_setDayCount 5 = .ok (.invokestatic 50, 3) := by decide +kernel
theorem dX6_setDayCount_8 : decode cX6_setDayCount 8 = .ok (.invokestatic 56, 3) := by decide +kernel
theorem dX6_setDayCount_11 : decode cX6_setDayCount 11 = .ok (.putfield 29, 3) := by decide +kernel
theorem dX6_setDayCount_14 : decode cX6_setDayCount 14 = .ok (.return_, 1) := by decide +kernel
theorem dX6_count_0 : decode cX6_count 0 = .ok (.aload_n 0, 1) := by decide +kernel
theorem dX6_count_1 : decode cX6_count 1 = .ok (.getfield 33, 3) := by decide +kernel
theorem dX6_count_4 : decode cX6_count 4 = .ok (.ireturn, 1) := by decide +kernel
theorem dX6_hasPiece_0 : decode cX6_hasPiece 0 = .ok (.iload_n 1, 1) := by decide +kernel
theorem dX6_hasPiece_1 : decode cX6_hasPiece 1 = .ok (.ifCond .lt 15, 3) := by decide +kernel
theorem dX6_hasPiece_4 : decode cX6_hasPiece 4 = .ok (.iload_n 1, 1) := by decide +kernel
theorem dX6_hasPiece_5 : decode cX6_hasPiece 5 = .ok (.aload_n 0, 1) := by decide +kernel
theorem dX6_hasPiece_6 : decode cX6_hasPiece 6 = .ok (.getfield 33, 3) := by decide +kernel
theorem dX6_hasPiece_9 : decode cX6_hasPiece 9 = .ok (.if_icmp .ge 7, 3) := by decide +kernel
theorem dX6_hasPiece_12 : decode cX6_hasPiece 12 = .ok (.iconst 1, 1) := by decide +kernel
theorem dX6_hasPiece_13 : decode cX6_hasPiece 13 = .ok (.goto 4, 3) := by decide +kernel
theorem dX6_hasPiece_16 : decode cX6_hasPiece 16 = .ok (.iconst 0, 1) := by decide +kernel
theorem dX6_hasPiece_17 : decode cX6_hasPiece 17 = .ok (.ireturn, 1) := by decide +kernel
theorem dX6_hasRoom_0 : decode cX6_hasRoom 0 = .ok (.aload_n 0, 1) := by decide +kernel
theorem dX6_hasRoom_1 : decode cX6_hasRoom 1 = .ok (.getfield 33, 3) := by decide +kernel
theorem dX6_hasRoom_4 : decode cX6_hasRoom 4 = .ok (.bipush 40, 2) := by decide +kernel
theorem dX6_hasRoom_6 : decode cX6_hasRoom 6 = .ok (.if_icmp .ge 7, 3) := by decide +kernel
theorem dX6_hasRoom_9 : decode cX6_hasRoom 9 = .ok (.iconst 1, 1) := by decide +kernel
theorem dX6_hasRoom_10 : decode cX6_hasRoom 10 = .ok (.goto 4, 3) := by decide +kernel
theorem dX6_hasRoom_13 : decode cX6_hasRoom 13 = .ok (.iconst 0, 1) := by decide +kernel
theorem dX6_hasRoom_14 : decode cX6_hasRoom 14 = .ok (.ireturn, 1) := by decide +kernel
theorem dX6_dayOf_0 : decode cX6_dayOf 0 = .ok (.aload_n 0, 1) := by decide +kernel
theorem dX6_dayOf_1 : decode cX6_dayOf 1 = .ok (.iload_n 1, 1) := by decide +kernel
theorem dX6_dayOf_2 : decode cX6_dayOf 2 = .ok (.invokevirtual 59, 3) := by decide +kernel
theorem dX6_dayOf_5 : decode cX6_dayOf 5 = .ok (.ifCond .eq 12, 3) := by decide +kernel
theorem dX6_dayOf_8 : decode cX6_dayOf 8 = .ok (.aload_n 0, 1) := by decide +kernel
theorem dX6_dayOf_9 : decode cX6_dayOf 9 = .ok (.getfield 23, 3) := by decide +kernel
theorem dX6_dayOf_12 : decode cX6_dayOf 12 = .ok (.iload_n 1, 1) := by decide +kernel
theorem dX6_dayOf_13 : decode cX6_dayOf 13 = .ok (.iaload, 1) := by decide +kernel
theorem dX6_dayOf_14 : decode cX6_dayOf 14 = .ok (.goto 4, 3) := by decide +kernel
theorem dX6_dayOf_17 : decode cX6_dayOf 17 = .ok (.iconst (-1), 1) := by decide +kernel
theorem dX6_dayOf_18 : decode cX6_dayOf 18 = .ok (.ireturn, 1) := by decide +kernel
theorem dX6_setOf_0 : decode cX6_setOf 0 = .ok (.aload_n 0, 1) := by decide +kernel
theorem dX6_setOf_1 : decode cX6_setOf 1 = .ok (.iload_n 1, 1) := by decide +kernel
theorem dX6_setOf_2 : decode cX6_setOf 2 = .ok (.invokevirtual 59, 3) := by decide +kernel
theorem dX6_setOf_5 : decode cX6_setOf 5 = .ok (.ifCond .eq 12, 3) := by decide +kernel
theorem dX6_setOf_8 : decode cX6_setOf 8 = .ok (.aload_n 0, 1) := by decide +kernel
theorem dX6_setOf_9 : decode cX6_setOf 9 = .ok (.getfield 26, 3) := by decide +kernel
theorem dX6_setOf_12 : decode cX6_setOf 12 = .ok (.iload_n 1, 1) := by decide +kernel
theorem dX6_setOf_13 : decode cX6_setOf 13 = .ok (.iaload, 1) := by decide +kernel
theorem dX6_setOf_14 : decode cX6_setOf 14 = .ok (.goto 4, 3) := by decide +kernel
theorem dX6_setOf_17 : decode cX6_setOf 17 = .ok (.iconst 0, 1) := by decide +kernel
theorem dX6_setOf_18 : decode cX6_setOf 18 = .ok (.ireturn, 1) := by decide +kernel
theorem dX6_add_0 : decode cX6_add 0 = .ok (.aload_n 0, 1) := by decide +kernel
theorem dX6_add_1 : decode cX6_add 1 = .ok (.invokevirtual 62, 3) := by decide +kernel
theorem dX6_add_4 : decode cX6_add 4 = .ok (.ifCond .eq 33, 3) := by decide +kernel
theorem dX6_add_7 : decode cX6_add 7 = .ok (.aload_n 0, 1) := by decide +kernel
theorem dX6_add_8 : decode cX6_add 8 = .ok (.getfield 23, 3) := by decide +kernel
theorem dX6_add_11 : decode cX6_add 11 = .ok (.aload_n 0, 1) := by decide +kernel
theorem dX6_add_12 : decode cX6_add 12 = .ok (.getfield 33, 3) := by decide +kernel
theorem dX6_add_15 : decode cX6_add 15 = .ok (.iload_n 1, 1) := by decide +kernel
theorem dX6_add_16 : decode cX6_add 16 = .ok (.iastore, 1) := by decide +kernel
theorem dX6_add_17 : decode cX6_add 17 = .ok (.aload_n 0, 1) := by decide +kernel
theorem dX6_add_18 : decode cX6_add 18 = .ok (.getfield 26, 3) := by decide +kernel
theorem dX6_add_21 : decode cX6_add 21 = .ok (.aload_n 0, 1) := by decide +kernel
theorem dX6_add_22 : decode cX6_add 22 = .ok (.getfield 33, 3) := by decide +kernel
theorem dX6_add_25 : decode cX6_add 25 = .ok (.iload_n 2, 1) := by decide +kernel
theorem dX6_add_26 : decode cX6_add 26 = .ok (.iastore, 1) := by decide +kernel
theorem dX6_add_27 : decode cX6_add 27 = .ok (.aload_n 0, 1) := by decide +kernel
theorem dX6_add_28 : decode cX6_add 28 = .ok (.dup, 1) := by decide +kernel
theorem dX6_add_29 : decode cX6_add 29 = .ok (.getfield 33, 3) := by decide +kernel
theorem dX6_add_32 : decode cX6_add 32 = .ok (.iconst 1, 1) := by decide +kernel
theorem dX6_add_33 : decode cX6_add 33 = .ok (.iadd, 1) := by decide +kernel
theorem dX6_add_34 : decode cX6_add 34 = .ok (.putfield 33, 3) := by decide +kernel
theorem dX6_add_37 : decode cX6_add 37 = .ok (.return_, 1) := by decide +kernel
theorem dX6_remove_0 : decode cX6_remove 0 = .ok (.aload_n 0, 1) := by decide +kernel
theorem dX6_remove_1 : decode cX6_remove 1 = .ok (.iload_n 1, 1) := by decide +kernel
theorem dX6_remove_2 : decode cX6_remove 2 = .ok (.invokevirtual 59, 3) := by decide +kernel
theorem dX6_remove_5 : decode cX6_remove 5 = .ok (.ifCond .ne 4, 3) := by decide +kernel
theorem dX6_remove_8 : decode cX6_remove 8 = .ok (.return_, 1) := by decide +kernel
theorem dX6_remove_9 : decode cX6_remove 9 = .ok (.iload_n 1, 1) := by decide +kernel
theorem dX6_remove_10 : decode cX6_remove 10 = .ok (.iconst 1, 1) := by decide +kernel
theorem dX6_remove_11 : decode cX6_remove 11 = .ok (.iadd, 1) := by decide +kernel
theorem dX6_remove_12 : decode cX6_remove 12 = .ok (.istore_n 2, 1) := by decide +kernel
theorem dX6_remove_13 : decode cX6_remove 13 = .ok (.iload_n 2, 1) := by decide +kernel
theorem dX6_remove_14 : decode cX6_remove 14 = .ok (.aload_n 0, 1) := by decide +kernel
theorem dX6_remove_15 : decode cX6_remove 15 = .ok (.getfield 33, 3) := by decide +kernel
theorem dX6_remove_18 : decode cX6_remove 18 = .ok (.if_icmp .ge 37, 3) := by decide +kernel
theorem dX6_remove_21 : decode cX6_remove 21 = .ok (.aload_n 0, 1) := by decide +kernel
theorem dX6_remove_22 : decode cX6_remove 22 = .ok (.getfield 23, 3) := by decide +kernel
theorem dX6_remove_25 : decode cX6_remove 25 = .ok (.iload_n 2, 1) := by decide +kernel
theorem dX6_remove_26 : decode cX6_remove 26 = .ok (.iconst 1, 1) := by decide +kernel
theorem dX6_remove_27 : decode cX6_remove 27 = .ok (.isub, 1) := by decide +kernel
theorem dX6_remove_28 : decode cX6_remove 28 = .ok (.aload_n 0, 1) := by decide +kernel
theorem dX6_remove_29 : decode cX6_remove 29 = .ok (.getfield 23, 3) := by decide +kernel
theorem dX6_remove_32 : decode cX6_remove 32 = .ok (.iload_n 2, 1) := by decide +kernel
theorem dX6_remove_33 : decode cX6_remove 33 = .ok (.iaload, 1) := by decide +kernel
theorem dX6_remove_34 : decode cX6_remove 34 = .ok (.iastore, 1) := by decide +kernel
theorem dX6_remove_35 : decode cX6_remove 35 = .ok (.aload_n 0, 1) := by decide +kernel
theorem dX6_remove_36 : decode cX6_remove 36 = .ok (.getfield 26, 3) := by decide +kernel
theorem dX6_remove_39 : decode cX6_remove 39 = .ok (.iload_n 2, 1) := by decide +kernel
theorem dX6_remove_40 : decode cX6_remove 40 = .ok (.iconst 1, 1) := by decide +kernel
theorem dX6_remove_41 : decode cX6_remove 41 = .ok (.isub, 1) := by decide +kernel
theorem dX6_remove_42 : decode cX6_remove 42 = .ok (.aload_n 0, 1) := by decide +kernel
theorem dX6_remove_43 : decode cX6_remove 43 = .ok (.getfield 26, 3) := by decide +kernel
theorem dX6_remove_46 : decode cX6_remove 46 = .ok (.iload_n 2, 1) := by decide +kernel
theorem dX6_remove_47 : decode cX6_remove 47 = .ok (.iaload, 1) := by decide +kernel
theorem dX6_remove_48 : decode cX6_remove 48 = .ok (.iastore, 1) := by decide +kernel
theorem dX6_remove_49 : decode cX6_remove 49 = .ok (.iinc 2 1, 3) := by decide +kernel
theorem dX6_remove_52 : decode cX6_remove 52 = .ok (.goto (-39), 3) := by decide +kernel
theorem dX6_remove_55 : decode cX6_remove 55 = .ok (.aload_n 0, 1) := by decide +kernel
theorem dX6_remove_56 : decode cX6_remove 56 = .ok (.dup, 1) := by decide +kernel
theorem dX6_remove_57 : decode cX6_remove 57 = .ok (.getfield 33, 3) := by decide +kernel
theorem dX6_remove_60 : decode cX6_remove 60 = .ok (.iconst 1, 1) := by decide +kernel
theorem dX6_remove_61 : decode cX6_remove 61 = .ok (.isub, 1) := by decide +kernel
theorem dX6_remove_62 : decode cX6_remove 62 = .ok (.putfield 33, 3) := by decide +kernel
theorem dX6_remove_65 : decode cX6_remove 65 = .ok (.return_, 1) := by decide +kernel
theorem dX6_putOn_0 : decode cX6_putOn 0 = .ok (.aload_n 0, 1) := by decide +kernel
theorem dX6_putOn_1 : decode cX6_putOn 1 = .ok (.iload_n 1, 1) := by decide +kernel
theorem dX6_putOn_2 : decode cX6_putOn 2 = .ok (.invokevirtual 59, 3) := by decide +kernel
theorem dX6_putOn_5 : decode cX6_putOn 5 = .ok (.ifCond .eq 10, 3) := by decide +kernel
theorem dX6_putOn_8 : decode cX6_putOn 8 = .ok (.aload_n 0, 1) := by decide +kernel
theorem dX6_putOn_9 : decode cX6_putOn 9 = .ok (.getfield 23, 3) := by decide +kernel
theorem dX6_putOn_12 : decode cX6_putOn 12 = .ok (.iload_n 1, 1) := by decide +kernel
theorem dX6_putOn_13 : decode cX6_putOn 13 = .ok (.iload_n 2, 1) := by decide +kernel
theorem dX6_putOn_14 : decode cX6_putOn 14 = .ok (.iastore, 1) := by decide +kernel
theorem dX6_putOn_15 : decode cX6_putOn 15 = .ok (.return_, 1) := by decide +kernel
theorem dX6_hasPieceFrom_0 : decode cX6_hasPieceFrom 0 = .ok (.iconst 0, 1) := by decide +kernel
theorem dX6_hasPieceFrom_1 : decode cX6_hasPieceFrom 1 = .ok (.istore_n 2, 1) := by decide +kernel
theorem dX6_hasPieceFrom_2 : decode cX6_hasPieceFrom 2 = .ok (.iload_n 2, 1) := by decide +kernel
theorem dX6_hasPieceFrom_3 : decode cX6_hasPieceFrom 3 = .ok (.aload_n 0, 1) := by decide +kernel
theorem dX6_hasPieceFrom_4 : decode cX6_hasPieceFrom 4 = .ok (.getfield 33, 3) := by decide +kernel
theorem dX6_hasPieceFrom_7 : decode cX6_hasPieceFrom 7 = .ok (.if_icmp .ge 21, 3) := by decide +kernel
theorem dX6_hasPieceFrom_10 : decode cX6_hasPieceFrom 10 = .ok (.aload_n 0, 1) := by decide +kernel
theorem dX6_hasPieceFrom_11 : decode cX6_hasPieceFrom 11 = .ok (.getfield 23, 3) := by decide +kernel
theorem dX6_hasPieceFrom_14 : decode cX6_hasPieceFrom 14 = .ok (.iload_n 2, 1) := by decide +kernel
theorem dX6_hasPieceFrom_15 : decode cX6_hasPieceFrom 15 = .ok (.iaload, 1) := by decide +kernel
theorem dX6_hasPieceFrom_16 : decode cX6_hasPieceFrom 16 = .ok (.iload_n 1, 1) := by decide +kernel
theorem dX6_hasPieceFrom_17 : decode cX6_hasPieceFrom 17 = .ok (.if_icmp .lt 5, 3) := by decide +kernel
theorem dX6_hasPieceFrom_20 : decode cX6_hasPieceFrom 20 = .ok (.iconst 1, 1) := by decide +kernel
theorem dX6_hasPieceFrom_21 : decode cX6_hasPieceFrom 21 = .ok (.ireturn, 1) := by decide +kernel
theorem dX6_hasPieceFrom_22 : decode cX6_hasPieceFrom 22 = .ok (.iinc 2 1, 3) := by decide +kernel
theorem dX6_hasPieceFrom_25 : decode cX6_hasPieceFrom 25 = .ok (.goto (-23), 3) := by decide +kernel
theorem dX6_hasPieceFrom_28 : decode cX6_hasPieceFrom 28 = .ok (.iconst 0, 1) := by decide +kernel
theorem dX6_hasPieceFrom_29 : decode cX6_hasPieceFrom 29 = .ok (.ireturn, 1) := by decide +kernel
theorem dX6_countWith_0 : decode cX6_countWith 0 = .ok (.iconst 0, 1) := by decide +kernel
theorem dX6_countWith_1 : decode cX6_countWith 1 = .ok (.istore_n 2, 1) := by decide +kernel
theorem dX6_countWith_2 : decode cX6_countWith 2 = .ok (.iconst 0, 1) := by decide +kernel
theorem dX6_countWith_3 : decode cX6_countWith 3 = .ok (.istore_n 3, 1) := by decide +kernel
theorem dX6_countWith_4 : decode cX6_countWith 4 = .ok (.iload_n 3, 1) := by decide +kernel
theorem dX6_countWith_5 : decode cX6_countWith 5 = .ok (.aload_n 0, 1) := by decide +kernel
theorem dX6_countWith_6 : decode cX6_countWith 6 = .ok (.getfield 33, 3) := by decide +kernel
theorem dX6_countWith_9 : decode cX6_countWith 9 = .ok (.if_icmp .ge 24, 3) := by decide +kernel
theorem dX6_countWith_12 : decode cX6_countWith 12 = .ok (.aload_n 0, 1) := by decide +kernel
theorem dX6_countWith_13 : decode cX6_countWith 13 = .ok (.getfield 26, 3) := by decide +kernel
theorem dX6_countWith_16 : decode cX6_countWith 16 = .ok (.iload_n 3, 1) := by decide +kernel
theorem dX6_countWith_17 : decode cX6_countWith 17 = .ok (.iaload, 1) := by decide +kernel
theorem dX6_countWith_18 : decode cX6_countWith 18 = .ok (.iload_n 1, 1) := by decide +kernel
theorem dX6_countWith_19 : decode cX6_countWith 19 = .ok (.iand, 1) := by decide +kernel
theorem dX6_countWith_20 : decode cX6_countWith 20 = .ok (.iload_n 1, 1) := by decide +kernel
theorem dX6_countWith_21 : decode cX6_countWith 21 = .ok (.if_icmp .ne 6, 3) := by decide +kernel
theorem dX6_countWith_24 : decode cX6_countWith 24 = .ok (.iinc 2 1, 3) := by decide +kernel
theorem dX6_countWith_27 : decode cX6_countWith 27 = .ok (.iinc 3 1, 3) := by decide +kernel
theorem dX6_countWith_30 : decode cX6_countWith 30 = .ok (.goto (-26), 3) := by decide +kernel
theorem dX6_countWith_33 : decode cX6_countWith 33 = .ok (.iload_n 2, 1) := by decide +kernel
theorem dX6_countWith_34 : decode cX6_countWith 34 = .ok (.ireturn, 1) := by decide +kernel
theorem dX6_countWithOn_0 : decode cX6_countWithOn 0 = .ok (.iconst 0, 1) := by decide +kernel
theorem dX6_countWithOn_1 : decode cX6_countWithOn 1 = .ok (.istore_n 3, 1) := by decide +kernel
theorem dX6_countWithOn_2 : decode cX6_countWithOn 2 = .ok (.iconst 0, 1) := by decide +kernel
theorem dX6_countWithOn_3 : decode cX6_countWithOn 3 = .ok (.istore 4, 2) := by decide +kernel
theorem dX6_countWithOn_5 : decode cX6_countWithOn 5 = .ok (.iload 4, 2) := by decide +kernel
theorem dX6_countWithOn_7 : decode cX6_countWithOn 7 = .ok (.aload_n 0, 1) := by decide +kernel
theorem dX6_countWithOn_8 : decode cX6_countWithOn 8 = .ok (.getfield 33, 3) := by decide +kernel
theorem dX6_countWithOn_11 : decode cX6_countWithOn 11 = .ok (.if_icmp .ge 36, 3) := by decide +kernel
theorem dX6_countWithOn_14 : decode cX6_countWithOn 14 = .ok (.aload_n 0, 1) := by decide +kernel
theorem dX6_countWithOn_15 : decode cX6_countWithOn 15 = .ok (.getfield 23, 3) := by decide +kernel
theorem dX6_countWithOn_18 : decode cX6_countWithOn 18 = .ok (.iload 4, 2) := by decide +kernel
theorem dX6_countWithOn_20 : decode cX6_countWithOn 20 = .ok (.iaload, 1) := by decide +kernel
theorem dX6_countWithOn_21 : decode cX6_countWithOn 21 = .ok (.iload_n 2, 1) := by decide +kernel
theorem dX6_countWithOn_22 : decode cX6_countWithOn 22 = .ok (.if_icmp .ne 19, 3) := by decide +kernel
theorem dX6_countWithOn_25 : decode cX6_countWithOn 25 = .ok (.aload_n 0, 1) := by decide +kernel
theorem dX6_countWithOn_26 : decode cX6_countWithOn 26 = .ok (.getfield 26, 3) := by decide +kernel
theorem dX6_countWithOn_29 : decode cX6_countWithOn 29 = .ok (.iload 4, 2) := by decide +kernel
theorem dX6_countWithOn_31 : decode cX6_countWithOn 31 = .ok (.iaload, 1) := by decide +kernel
theorem dX6_countWithOn_32 : decode cX6_countWithOn 32 = .ok (.iload_n 1, 1) := by decide +kernel
theorem dX6_countWithOn_33 : decode cX6_countWithOn 33 = .ok (.iand, 1) := by decide +kernel
theorem dX6_countWithOn_34 : decode cX6_countWithOn 34 = .ok (.iload_n 1, 1) := by decide +kernel
theorem dX6_countWithOn_35 : decode cX6_countWithOn 35 = .ok (.if_icmp .ne 6, 3) := by decide +kernel
theorem dX6_countWithOn_38 : decode cX6_countWithOn 38 = .ok (.iinc 3 1, 3) := by decide +kernel
theorem dX6_countWithOn_41 : decode cX6_countWithOn 41 = .ok (.iinc 4 1, 3) := by decide +kernel
theorem dX6_countWithOn_44 : decode cX6_countWithOn 44 = .ok (.goto (-39), 3) := by decide +kernel
theorem dX6_countWithOn_47 : decode cX6_countWithOn 47 = .ok (.iload_n 3, 1) := by decide +kernel
theorem dX6_countWithOn_48 : decode cX6_countWithOn 48 = .ok (.ireturn, 1) := by decide +kernel
theorem dX6_become_0 : decode cX6_become 0 = .ok (.aload_n 1, 1) := by decide +kernel
theorem dX6_become_1 : decode cX6_become 1 = .ok (.ifnonnull 4, 3) := by decide +kernel
theorem dX6_become_4 : decode cX6_become 4 = .ok (.return_, 1) := by decide +kernel
theorem dX6_become_5 : decode cX6_become 5 = .ok (.aload_n 0, 1) := by decide +kernel
theorem dX6_become_6 : decode cX6_become 6 = .ok (.aload_n 1, 1) := by decide +kernel
theorem dX6_become_7 : decode cX6_become 7 = .ok (.getfield 29, 3) := by decide +kernel
theorem dX6_become_10 : decode cX6_become 10 = .ok (.putfield 29, 3) := by decide +kernel
theorem dX6_become_13 : decode cX6_become 13 = .ok (.aload_n 0, 1) := by decide +kernel
theorem dX6_become_14 : decode cX6_become 14 = .ok (.aload_n 1, 1) := by decide +kernel
theorem dX6_become_15 : decode cX6_become 15 = .ok (.getfield 33, 3) := by decide +kernel
theorem dX6_become_18 : decode cX6_become 18 = .ok (.putfield 33, 3) := by decide +kernel
theorem dX6_become_21 : decode cX6_become 21 = .ok (.aload_n 1, 1) := by decide +kernel
theorem dX6_become_22 : decode cX6_become 22 = .ok (.getfield 20, 3) := by decide +kernel
theorem dX6_become_25 : decode cX6_become 25 = .ok (.iconst 0, 1) := by decide +kernel
theorem dX6_become_26 : decode cX6_become 26 = .ok (.aload_n 0, 1) := by decide +kernel
theorem dX6_become_27 : decode cX6_become 27 = .ok (.getfield 20, 3) := by decide +kernel
theorem dX6_become_30 : decode cX6_become 30 = .ok (.iconst 0, 1) := by decide +kernel
theorem dX6_become_31 : decode cX6_become 31 = .ok (.iconst 4, 1) := by decide +kernel
theorem dX6_become_32 : decode cX6_become 32 = .ok (.invokestatic 66, 3) := by decide +kernel
theorem dX6_become_35 : decode cX6_become 35 = .ok (.aload_n 1, 1) := by decide +kernel
theorem dX6_become_36 : decode cX6_become 36 = .ok (.getfield 23, 3) := by decide +kernel
theorem dX6_become_39 : decode cX6_become 39 = .ok (.iconst 0, 1) := by decide +kernel
theorem dX6_become_40 : decode cX6_become 40 = .ok (.aload_n 0, 1) := by decide +kernel
theorem dX6_become_41 : decode cX6_become 41 = .ok (.getfield 23, 3) := by decide +kernel
theorem dX6_become_44 : decode cX6_become 44 = .ok (.iconst 0, 1) := by decide +kernel
theorem dX6_become_45 : decode cX6_become 45 = .ok (.bipush 40, 2) := by decide +kernel
theorem dX6_become_47 : decode cX6_become 47 = .ok (.invokestatic 66, 3) := by decide +kernel
theorem dX6_become_50 : decode cX6_become 50 = .ok (.aload_n 1, 1) := by decide +kernel
theorem dX6_become_51 : decode cX6_become 51 = .ok (.getfield 26, 3) := by decide +kernel
theorem dX6_become_54 : decode cX6_become 54 = .ok (.iconst 0, 1) := by decide +kernel
theorem dX6_become_55 : decode cX6_become 55 = .ok (.aload_n 0, 1) := by decide +kernel
theorem dX6_become_56 : decode cX6_become 56 = .ok (.getfield 26, 3) := by decide +kernel
theorem dX6_become_59 : decode cX6_become 59 = .ok (.iconst 0, 1) := by decide +kernel
theorem dX6_become_60 : decode cX6_become 60 = .ok (.bipush 40, 2) := by decide +kernel
theorem dX6_become_62 : decode cX6_become 62 = .ok (.invokestatic 66, 3) := by decide +kernel
theorem dX6_become_65 : decode cX6_become 65 = .ok (.return_, 1) := by decide +kernel
theorem dX7_init_0 : decode cX7_init 0 = .ok (.aload_n 0, 1) := by decide +kernel
theorem dX7_init_1 : decode cX7_init 1 = .ok (.invokespecial 3, 3) := by decide +kernel
theorem dX7_init_4 : decode cX7_init 4 = .ok (.aload_n 0, 1) := by decide +kernel
theorem dX7_init_5 : decode cX7_init 5 = .ok (.sipush 144, 3) := by decide +kernel
theorem dX7_init_8 : decode cX7_init 8 = .ok (.newarray .int, 2) := by decide +kernel
theorem dX7_init_10 : decode cX7_init 10 = .ok (.putfield 11, 3) := by decide +kernel
theorem dX7_init_13 : decode cX7_init 13 = .ok (.aload_n 0, 1) := by decide +kernel
theorem dX7_init_14 : decode cX7_init 14 = .ok (.iconst 4, 1) := by decide +kernel
theorem dX7_init_15 : decode cX7_init 15 = .ok (.bipush 48, 2) := by decide +kernel
theorem dX7_init_17 : decode cX7_init 17 = .ok (.multianewarray 17 2, 4) := by decide +kernel
theorem dX7_init_21 : decode cX7_init 21 = .ok (.putfield 19, 3) := by decide +kernel
theorem dX7_init_24 : decode cX7_init 24 = .ok (.aload_n 0, 1) := by decide +kernel
theorem dX7_init_25 : decode cX7_init 25 = .ok (.iconst 0, 1) := by decide +kernel
theorem dX7_init_26 : decode cX7_init 26 = .ok (.putfield 22, 3) := by decide +kernel
theorem dX7_init_29 : decode cX7_init 29 = .ok (.return_, 1) := by decide +kernel
theorem dX7_number_0 : decode cX7_number 0 = .ok (.aload_n 0, 1) := by decide +kernel
theorem dX7_number_1 : decode cX7_number 1 = .ok (.getfield 22, 3) := by decide +kernel
theorem dX7_number_4 : decode cX7_number 4 = .ok (.ireturn, 1) := by decide +kernel
theorem dX7_has_0 : decode cX7_has 0 = .ok (.iload_n 1, 1) := by decide +kernel
theorem dX7_has_1 : decode cX7_has 1 = .ok (.ifCond .lt 15, 3) := by decide +kernel
theorem dX7_has_4 : decode cX7_has 4 = .ok (.iload_n 1, 1) := by decide +kernel
theorem dX7_has_5 : decode cX7_has 5 = .ok (.aload_n 0, 1) := by decide +kernel
theorem dX7_has_6 : decode cX7_has 6 = .ok (.getfield 22, 3) := by decide +kernel
theorem dX7_has_9 : decode cX7_has 9 = .ok (.if_icmp .ge 7, 3) := by decide +kernel
theorem dX7_has_12 : decode cX7_has 12 = .ok (.iconst 1, 1) := by decide +kernel
theorem dX7_has_13 : decode cX7_has 13 = .ok (.goto 4, 3) := by decide +kernel
theorem dX7_has_16 : decode cX7_has 16 = .ok (.iconst 0, 1) := by decide +kernel
theorem dX7_has_17 : decode cX7_has 17 = .ok (.ireturn, 1) := by decide +kernel
theorem dX7_isFact_0 : decode cX7_isFact 0 = .ok (.iload_n 0, 1) := by decide +kernel
theorem dX7_isFact_1 : decode cX7_isFact 1 = .ok (.ifCond .lt 12, 3) := by decide +kernel
theorem dX7_isFact_4 : decode cX7_isFact 4 = .ok (.iload_n 0, 1) := by decide +kernel
theorem dX7_isFact_5 : decode cX7_isFact 5 = .ok (.iconst 4, 1) := by decide +kernel
theorem dX7_isFact_6 : decode cX7_isFact 6 = .ok (.if_icmp .ge 7, 3) := by decide +kernel
theorem dX7_isFact_9 : decode cX7_isFact 9 = .ok (.iconst 1, 1) := by decide +kernel
theorem dX7_isFact_10 : decode cX7_isFact 10 = .ok (.goto 4, 3) := by decide +kernel
theorem dX7_isFact_13 : decode cX7_isFact 13 = .ok (.iconst 0, 1) := by decide +kernel
theorem dX7_isFact_14 : decode cX7_isFact 14 = .ok (.ireturn, 1) := by decide +kernel
theorem dX7_fact_0 : decode cX7_fact 0 = .ok (.aload_n 0, 1) := by decide +kernel
theorem dX7_fact_1 : decode cX7_fact 1 = .ok (.iload_n 1, 1) := by decide +kernel
theorem dX7_fact_2 : decode cX7_fact 2 = .ok (.invokevirtual 26, 3) := by decide +kernel
theorem dX7_fact_5 : decode cX7_fact 5 = .ok (.ifCond .eq 21, 3) := by decide +kernel
theorem dX7_fact_8 : decode cX7_fact 8 = .ok (.iload_n 2, 1) := by decide +kernel
theorem dX7_fact_9 : decode cX7_fact 9 = .ok (.invokestatic 30, 3) := by decide +kernel
theorem dX7_fact_12 : decode cX7_fact 12 = .ok (.ifCond .eq 14, 3) := by decide +kernel
theorem dX7_fact_15 : decode cX7_fact 15 = .ok (.aload_n 0, 1) := by decide +kernel
theorem dX7_fact_16 : decode cX7_fact 16 = .ok (.getfield 19, 3) := by decide +kernel
theorem dX7_fact_19 : decode cX7_fact 19 = .ok (.iload_n 2, 1) := by decide +kernel
theorem dX7_fact_20 : decode cX7_fact 20 = .ok (.aaload, 1) := by decide +kernel
theorem dX7_fact_21 : decode cX7_fact 21 = .ok (.iload_n 1, 1) := by decide +kernel
theorem dX7_fact_22 : decode cX7_fact 22 = .ok (.iaload, 1) := by decide +kernel
theorem dX7_fact_23 : decode cX7_fact 23 = .ok (.goto 4, 3) := by decide +kernel
theorem dX7_fact_26 : decode cX7_fact 26 = .ok (.iconst (-1), 1) := by decide +kernel
theorem dX7_fact_27 : decode cX7_fact 27 = .ok (.ireturn, 1) := by decide +kernel
theorem dX7_findAll_0 : decode cX7_findAll 0 = .ok (.iconst 0, 1) := by decide +kernel
theorem dX7_findAll_1 : decode cX7_findAll 1 = .ok (.istore_n 3, 1) := by decide +kernel
theorem dX7_findAll_2 : decode cX7_findAll 2 = .ok (.iload_n 3, 1) := by decide +kernel
theorem dX7_findAll_3 : decode cX7_findAll 3 = .ok (.aload_n 2, 1) := by decide +kernel
theorem dX7_findAll_4 : decode cX7_findAll 4 = .ok (.invokevirtual 33, 3) := by decide +kernel
theorem dX7_findAll_7 : decode cX7_findAll 7 = .ok (.if_icmp .ge 28, 3) := by decide +kernel
theorem dX7_findAll_10 : decode cX7_findAll 10 = .ok (.aload_n 0, 1) := by decide +kernel
theorem dX7_findAll_11 : decode cX7_findAll 11 = .ok (.getfield 11, 3) := by decide +kernel
theorem dX7_findAll_14 : decode cX7_findAll 14 = .ok (.iload_n 3, 1) := by decide +kernel
theorem dX7_findAll_15 : decode cX7_findAll 15 = .ok (.aload_n 2, 1) := by decide +kernel
theorem dX7_findAll_16 : decode cX7_findAll 16 = .ok (.iload_n 3, 1) := by decide +kernel
theorem dX7_findAll_17 : decode cX7_findAll 17 = .ok (.invokevirtual 36, 3) := by decide +kernel
theorem dX7_findAll_20 : decode cX7_findAll 20 = .ok (.ifCond .eq 7, 3) := by decide +kernel
theorem dX7_findAll_23 : decode cX7_findAll 23 = .ok (.iload_n 3, 1) := by decide +kernel
theorem dX7_findAll_24 : decode cX7_findAll 24 = .ok (.goto 4, 3) := by decide +kernel
theorem dX7_findAll_27 : decode cX7_findAll 27 = .ok (.iconst (-1), 1) := by decide +kernel
theorem dX7_findAll_28 : decode cX7_findAll 28 = .ok (.iastore, 1) := by decide +kernel
theorem dX7_findAll_29 : decode cX7_findAll 29 = .ok (.iinc 3 1, 3) := by decide +kernel
theorem dX7_findAll_32 : decode cX7_findAll 32 = .ok (.goto (-30), 3) := by decide +kernel
theorem dX7_findAll_35 : decode cX7_findAll 35 = .ok (.iconst 0, 1) := by decide +kernel
theorem dX7_findAll_36 : decode cX7_findAll 36 = .ok (.istore_n 3, 1) := by decide +kernel
theorem dX7_findAll_37 : decode cX7_findAll 37 = .ok (.iload_n 3, 1) := by decide +kernel
theorem dX7_findAll_38 : decode cX7_findAll 38 = .ok (.aload_n 1, 1) := by decide +kernel
theorem dX7_findAll_39 : decode cX7_findAll 39 = .ok (.invokevirtual 39, 3) := by decide +kernel
theorem dX7_findAll_42 : decode cX7_findAll 42 = .ok (.if_icmp .ge 24, 3) := by decide +kernel
theorem dX7_findAll_45 : decode cX7_findAll 45 = .ok (.aload_n 0, 1) := by decide +kernel
theorem dX7_findAll_46 : decode cX7_findAll 46 = .ok (.aload_n 2, 1) := by decide +kernel
theorem dX7_findAll_47 : decode cX7_findAll 47 = .ok (.aload_n 1, 1) := by decide +kernel
theorem dX7_findAll_48 : decode cX7_findAll 48 = .ok (.iload_n 3, 1) := by decide +kernel
theorem dX7_findAll_49 : decode cX7_findAll 49 = .ok (.invokevirtual 44, 3) := by decide +kernel
theorem dX7_findAll_52 : decode cX7_findAll 52 = .ok (.aload_n 1, 1) := by decide +kernel
theorem dX7_findAll_53 : decode cX7_findAll 53 = .ok (.iload_n 3, 1) := by decide +kernel
theorem dX7_findAll_54 : decode cX7_findAll 54 = .ok (.invokevirtual 48, 3) := by decide +kernel
theorem dX7_findAll_57 : decode cX7_findAll 57 = .ok (.invokevirtual 51, 3) := by decide +kernel
theorem dX7_findAll_60 : decode cX7_findAll 60 = .ok (.iinc 3 1, 3) := by decide +kernel
theorem dX7_findAll_63 : decode cX7_findAll 63 = .ok (.goto (-26), 3) := by decide +kernel
theorem dX7_findAll_66 : decode cX7_findAll 66 = .ok (.aload_n 0, 1) := by decide +kernel
theorem dX7_findAll_67 : decode cX7_findAll 67 = .ok (.aload_n 2, 1) := by decide +kernel
theorem dX7_findAll_68 : decode cX7_findAll 68 = .ok (.invokevirtual 55, 3) := by decide +kernel
theorem dX7_findAll_71 : decode cX7_findAll 71 = .ok (.return_, 1) := by decide +kernel
theorem dX7_tieBy_0 : decode cX7_tieBy 0 = .ok (.iconst (-1), 1) := by decide +kernel
theorem dX7_tieBy_1 : decode cX7_tieBy 1 = .ok (.istore 4, 2) := by decide +kernel
theorem dX7_tieBy_3 : decode cX7_tieBy 3 = .ok (.iconst 0, 1) := by decide +kernel
theorem dX7_tieBy_4 : decode cX7_tieBy 4 = .ok (.istore 5, 2) := by decide +kernel
theorem dX7_tieBy_6 : decode cX7_tieBy 6 = .ok (.iload 5, 2) := by decide +kernel
theorem dX7_tieBy_8 : decode cX7_tieBy 8 = .ok (.aload_n 1, 1) := by decide +kernel
theorem dX7_tieBy_9 : decode cX7_tieBy 9 = .ok (.invokevirtual 33, 3) := by decide +kernel
theorem dX7_tieBy_12 : decode cX7_tieBy 12 = .ok (.if_icmp .ge 86, 3) := by decide +kernel
theorem dX7_tieBy_15 : decode cX7_tieBy 15 = .ok (.aload_n 1, 1) := by decide +kernel
theorem dX7_tieBy_16 : decode cX7_tieBy 16 = .ok (.iload 5, 2) := by decide +kernel
theorem dX7_tieBy_18 : decode cX7_tieBy 18 = .ok (.invokevirtual 36, 3) := by decide +kernel
theorem dX7_tieBy_21 : decode cX7_tieBy 21 = .ok (.ifCond .eq 28, 3) := by decide +kernel
theorem dX7_tieBy_24 : decode cX7_tieBy 24 = .ok (.aload_n 1, 1) := by decide +kernel
theorem dX7_tieBy_25 : decode cX7_tieBy 25 = .ok (.iload 5, 2) := by decide +kernel
theorem dX7_tieBy_27 : decode cX7_tieBy 27 = .ok (.iload_n 2, 1) := by decide +kernel
theorem dX7_tieBy_28 : decode cX7_tieBy 28 = .ok (.invokevirtual 59, 3) := by decide +kernel
theorem dX7_tieBy_31 : decode cX7_tieBy 31 = .ok (.ifCond .eq 18, 3) := by decide +kernel
theorem dX7_tieBy_34 : decode cX7_tieBy 34 = .ok (.iload_n 3, 1) := by decide +kernel
theorem dX7_tieBy_35 : decode cX7_tieBy 35 = .ok (.aload_n 1, 1) := by decide +kernel
theorem dX7_tieBy_36 : decode cX7_tieBy 36 = .ok (.iload 5, 2) := by decide +kernel
theorem dX7_tieBy_38 : decode cX7_tieBy 38 = .ok (.invokevirtual 63, 3) := by decide +kernel
theorem dX7_tieBy_41 : decode cX7_tieBy 41 = .ok (.iand, 1) := by decide +kernel
theorem dX7_tieBy_42 : decode cX7_tieBy 42 = .ok (.ifCond .eq 7, 3) := by decide +kernel
theorem dX7_tieBy_45 : decode cX7_tieBy 45 = .ok (.iconst 1, 1) := by decide +kernel
theorem dX7_tieBy_46 : decode cX7_tieBy 46 = .ok (.goto 4, 3) := by decide +kernel
theorem dX7_tieBy_49 : decode cX7_tieBy 49 = .ok (.iconst 0, 1) := by decide +kernel
theorem dX7_tieBy_50 : decode cX7_tieBy 50 = .ok (.istore 6, 2) := by decide +kernel
theorem dX7_tieBy_52 : decode cX7_tieBy 52 = .ok (.iload 6, 2) := by decide +kernel
theorem dX7_tieBy_54 : decode cX7_tieBy 54 = .ok (.ifCond .eq 38, 3) := by decide +kernel
theorem dX7_tieBy_57 : decode cX7_tieBy 57 = .ok (.iload 4, 2) := by decide +kernel
theorem dX7_tieBy_59 : decode cX7_tieBy 59 = .ok (.iconst (-1), 1) := by decide +kernel
theorem dX7_tieBy_60 : decode cX7_tieBy 60 = .ok (.if_icmp .ne 13, 3) := by decide +kernel
theorem dX7_tieBy_63 : decode cX7_tieBy 63 = .ok (.aload_n 0, 1) := by decide +kernel
theorem dX7_tieBy_64 : decode cX7_tieBy 64 = .ok (.getfield 11, 3) := by decide +kernel
theorem dX7_tieBy_67 : decode cX7_tieBy 67 = .ok (.iload 5, 2) := by decide +kernel
theorem dX7_tieBy_69 : decode cX7_tieBy 69 = .ok (.iaload, 1) := by decide +kernel
theorem dX7_tieBy_70 : decode cX7_tieBy 70 = .ok (.goto 20, 3) := by decide +kernel
theorem dX7_tieBy_73 : decode cX7_tieBy 73 = .ok (.aload_n 0, 1) := by decide +kernel
theorem dX7_tieBy_74 : decode cX7_tieBy 74 = .ok (.iload 4, 2) := by decide +kernel
theorem dX7_tieBy_76 : decode cX7_tieBy 76 = .ok (.aload_n 0, 1) := by decide +kernel
theorem dX7_tieBy_77 : decode cX7_tieBy 77 = .ok (.getfield 11, 3) := by decide +kernel
theorem dX7_tieBy_80 : decode cX7_tieBy 80 = .ok (.iload 5, 2) := by decide +kernel
theorem dX7_tieBy_82 : decode cX7_tieBy 82 = .ok (.iaload, 1) := by decide +kernel
theorem dX7_tieBy_83 : decode cX7_tieBy 83 = .ok (.aload_n 1, 1) := by decide +kernel
theorem dX7_tieBy_84 : decode cX7_tieBy 84 = .ok (.invokevirtual 33, 3) := by decide +kernel
theorem dX7_tieBy_87 : decode cX7_tieBy 87 = .ok (.invokevirtual 64, 3) := by decide +kernel
theorem dX7_tieBy_90 : decode cX7_tieBy 90 = .ok (.istore 4, 2) := by decide +kernel
theorem dX7_tieBy_92 : decode cX7_tieBy 92 = .ok (.iinc 5 1, 3) := by decide +kernel
theorem dX7_tieBy_95 : decode cX7_tieBy 95 = .ok (.goto (-89), 3) := by decide +kernel
theorem dX7_tieBy_98 : decode cX7_tieBy 98 = .ok (.return_, 1) := by decide +kernel
theorem dX7_joined_0 : decode cX7_joined 0 = .ok (.iload_n 1, 1) := by decide +kernel
theorem dX7_joined_1 : decode cX7_joined 1 = .ok (.iload_n 2, 1) := by decide +kernel
theorem dX7_joined_2 : decode cX7_joined 2 = .ok (.invokestatic 68, 3) := by decide +kernel
theorem dX7_joined_5 : decode cX7_joined 5 = .ok (.istore 4, 2) := by decide +kernel
theorem dX7_joined_7 : decode cX7_joined 7 = .ok (.iload_n 1, 1) := by decide +kernel
theorem dX7_joined_8 : decode cX7_joined 8 = .ok (.iload_n 2, 1) := by decide +kernel
theorem dX7_joined_9 : decode cX7_joined 9 = .ok (.invokestatic 74, 3) := by decide +kernel
theorem dX7_joined_12 : decode cX7_joined 12 = .ok (.istore 5, 2) := by decide +kernel
theorem dX7_joined_14 : decode cX7_joined 14 = .ok (.iconst 0, 1) := by decide +kernel
theorem dX7_joined_15 : decode cX7_joined 15 = .ok (.istore 6, 2) := by decide +kernel
theorem dX7_joined_17 : decode cX7_joined 17 = .ok (.iload 6, 2) := by decide +kernel
theorem dX7_joined_19 : decode cX7_joined 19 = .ok (.iload_n 3, 1) := by decide +kernel
theorem dX7_joined_20 : decode cX7_joined 20 = .ok (.if_icmp .ge 30, 3) := by decide +kernel
theorem dX7_joined_23 : decode cX7_joined 23 = .ok (.aload_n 0, 1) := by decide +kernel
theorem dX7_joined_24 : decode cX7_joined 24 = .ok (.getfield 11, 3) := by decide +kernel
theorem dX7_joined_27 : decode cX7_joined 27 = .ok (.iload 6, 2) := by decide +kernel
theorem dX7_joined_29 : decode cX7_joined 29 = .ok (.iaload, 1) := by decide +kernel
theorem dX7_joined_30 : decode cX7_joined 30 = .ok (.iload 5, 2) := by decide +kernel
theorem dX7_joined_32 : decode cX7_joined 32 = .ok (.if_icmp .ne 12, 3) := by decide +kernel
theorem dX7_joined_35 : decode cX7_joined 35 = .ok (.aload_n 0, 1) := by decide +kernel
theorem dX7_joined_36 : decode cX7_joined 36 = .ok (.getfield 11, 3) := by decide +kernel
theorem dX7_joined_39 : decode cX7_joined 39 = .ok (.iload 6, 2) := by decide +kernel
theorem dX7_joined_41 : decode cX7_joined 41 = .ok (.iload 4, 2) := by decide +kernel
theorem dX7_joined_43 : decode cX7_joined 43 = .ok (.iastore, 1) := by decide +kernel
theorem dX7_joined_44 : decode cX7_joined 44 = .ok (.iinc 6 1, 3) := by decide +kernel
theorem dX7_joined_47 : decode cX7_joined 47 = .ok (.goto (-30), 3) := by decide +kernel
theorem dX7_joined_50 : decode cX7_joined 50 = .ok (.iload 4, 2) := by decide +kernel
theorem dX7_joined_52 : decode cX7_joined 52 = .ok (.ireturn, 1) := by decide +kernel
theorem dX7_numberHeaps_0 : decode cX7_numberHeaps 0 = .ok (.aload_n 0, 1) := by decide +kernel
theorem dX7_numberHeaps_1 : decode cX7_numberHeaps 1 = .ok (.iconst 0, 1) := by decide +kernel
theorem dX7_numberHeaps_2 : decode cX7_numberHeaps 2 = .ok (.putfield 22, 3) := by decide +kernel
theorem dX7_numberHeaps_5 : decode cX7_numberHeaps 5 = .ok (.iconst 0, 1) := by decide +kernel
theorem dX7_numberHeaps_6 : decode cX7_numberHeaps 6 = .ok (.istore_n 2, 1) := by decide +kernel
theorem dX7_numberHeaps_7 : decode cX7_numberHeaps 7 = .ok (.iload_n 2, 1) := by decide +kernel
theorem dX7_numberHeaps_8 : decode cX7_numberHeaps 8 = .ok (.aload_n 1, 1) := by decide +kernel
theorem dX7_numberHeaps_9 : decode cX7_numberHeaps 9 = .ok (.invokevirtual 33, 3) := by decide +kernel
theorem dX7_numberHeaps_12 : decode cX7_numberHeaps 12 = .ok (.if_icmp .ge 62, 3) := by decide +kernel
theorem dX7_numberHeaps_15 : decode cX7_numberHeaps 15 = .ok (.aload_n 1, 1) := by decide +kernel
theorem dX7_numberHeaps_16 : decode cX7_numberHeaps 16 = .ok (.iload_n 2, 1) := by decide +kernel
theorem dX7_numberHeaps_17 : decode cX7_numberHeaps 17 = .ok (.invokevirtual 36, 3) := by decide +kernel
theorem dX7_numberHeaps_20 : decode cX7_numberHeaps 20 = .ok (.ifCond .eq 48, 3) := by decide +kernel
theorem dX7_numberHeaps_23 : decode cX7_numberHeaps 23 = .ok (.aload_n 0, 1) := by decide +kernel
theorem dX7_numberHeaps_24 : decode cX7_numberHeaps 24 = .ok (.getfield 11, 3) := by decide +kernel
theorem dX7_numberHeaps_27 : decode cX7_numberHeaps 27 = .ok (.iload_n 2, 1) := by decide +kernel
theorem dX7_numberHeaps_28 : decode cX7_numberHeaps 28 = .ok (.iaload, 1) := by decide +kernel
theorem dX7_numberHeaps_29 : decode cX7_numberHeaps 29 = .ok (.iload_n 2, 1) := by decide +kernel
theorem dX7_numberHeaps_30 : decode cX7_numberHeaps 30 = .ok (.if_icmp .ne 12, 3) := by decide +kernel
theorem dX7_numberHeaps_33 : decode cX7_numberHeaps 33 = .ok (.aload_n 0, 1) := by decide +kernel
theorem dX7_numberHeaps_34 : decode cX7_numberHeaps 34 = .ok (.aload_n 1, 1) := by decide +kernel
theorem dX7_numberHeaps_35 : decode cX7_numberHeaps 35 = .ok (.iload_n 2, 1) := by decide +kernel
theorem dX7_numberHeaps_36 : decode cX7_numberHeaps 36 = .ok (.invokevirtual 77, 3) := by decide +kernel
theorem dX7_numberHeaps_39 : decode cX7_numberHeaps 39 = .ok (.goto 15, 3) := by decide +kernel
theorem dX7_numberHeaps_42 : decode cX7_numberHeaps 42 = .ok (.aload_n 1, 1) := by decide +kernel
theorem dX7_numberHeaps_43 : decode cX7_numberHeaps 43 = .ok (.aload_n 0, 1) := by decide +kernel
theorem dX7_numberHeaps_44 : decode cX7_numberHeaps 44 = .ok (.getfield 11, 3) := by decide +kernel
theorem dX7_numberHeaps_47 : decode cX7_numberHeaps 47 = .ok (.iload_n 2, 1) := by decide +kernel
theorem dX7_numberHeaps_48 : decode cX7_numberHeaps 48 = .ok (.iaload, 1) := by decide +kernel
theorem dX7_numberHeaps_49 : decode cX7_numberHeaps 49 = .ok (.bipush 8, 2) := by decide +kernel
theorem dX7_numberHeaps_51 : decode cX7_numberHeaps 51 = .ok (.invokevirtual 81, 3) := by decide +kernel
theorem dX7_numberHeaps_54 : decode cX7_numberHeaps 54 = .ok (.istore_n 3, 1) := by decide +kernel
theorem dX7_numberHeaps_55 : decode cX7_numberHeaps 55 = .ok (.aload_n 1, 1) := by decide +kernel
theorem dX7_numberHeaps_56 : decode cX7_numberHeaps 56 = .ok (.iload_n 2, 1) := by decide +kernel
theorem dX7_numberHeaps_57 : decode cX7_numberHeaps 57 = .ok (.iload_n 3, 1) := by decide +kernel
theorem dX7_numberHeaps_58 : decode cX7_numberHeaps 58 = .ok (.invokevirtual 84, 3) := by decide +kernel
theorem dX7_numberHeaps_61 : decode cX7_numberHeaps 61 = .ok (.aload_n 0, 1) := by decide +kernel
theorem dX7_numberHeaps_62 : decode cX7_numberHeaps 62 = .ok (.iload_n 3, 1) := by decide +kernel
theorem dX7_numberHeaps_63 : decode cX7_numberHeaps 63 = .ok (.aload_n 1, 1) := by decide +kernel
theorem dX7_numberHeaps_64 : decode cX7_numberHeaps 64 = .ok (.iload_n 2, 1) := by decide +kernel
theorem dX7_numberHeaps_65 : decode cX7_numberHeaps 65 = .ok (.invokevirtual 88, 3) := by decide +kernel
theorem dX7_numberHeaps_68 : decode cX7_numberHeaps 68 = .ok (.iinc 2 1, 3) := by decide +kernel
theorem dX7_numberHeaps_71 : decode cX7_numberHeaps 71 = .ok (.goto (-64), 3) := by decide +kernel
theorem dX7_numberHeaps_74 : decode cX7_numberHeaps 74 = .ok (.return_, 1) := by decide +kernel
theorem dX7_begun_0 : decode cX7_begun 0 = .ok (.aload_n 0, 1) := by decide +kernel
theorem dX7_begun_1 : decode cX7_begun 1 = .ok (.getfield 22, 3) := by decide +kernel
theorem dX7_begun_4 : decode cX7_begun 4 = .ok (.bipush 48, 2) := by decide +kernel
theorem dX7_begun_6 : decode cX7_begun 6 = .ok (.if_icmp .lt 5, 3) := by decide +kernel
theorem dX7_begun_9 : decode cX7_begun 9 = .ok (.iconst (-1), 1) := by decide +kernel
theorem dX7_begun_10 : decode cX7_begun 10 = .ok (.ireturn, 1) := by decide +kernel
theorem dX7_begun_11 : decode cX7_begun 11 = .ok (.aload_n 0, 1) := by decide +kernel
theorem dX7_begun_12 : decode cX7_begun 12 = .ok (.getfield 19, 3) := by decide +kernel
theorem dX7_begun_15 : decode cX7_begun 15 = .ok (.iconst 0, 1) := by decide +kernel
theorem dX7_begun_16 : decode cX7_begun 16 = .ok (.aaload, 1) := by decide +kernel
theorem dX7_begun_17 : decode cX7_begun 17 = .ok (.aload_n 0, 1) := by decide +kernel
theorem dX7_begun_18 : decode cX7_begun 18 = .ok (.getfield 22, 3) := by decide +kernel
theorem dX7_begun_21 : decode cX7_begun 21 = .ok (.iconst 0, 1) := by decide +kernel
theorem dX7_begun_22 : decode cX7_begun 22 = .ok (.iastore, 1) := by decide +kernel
theorem dX7_begun_23 : decode cX7_begun 23 = .ok (.aload_n 0, 1) := by decide +kernel
theorem dX7_begun_24 : decode cX7_begun 24 = .ok (.getfield 19, 3) := by decide +kernel
theorem dX7_begun_27 : decode cX7_begun 27 = .ok (.iconst 1, 1) := by decide +kernel
theorem dX7_begun_28 : decode cX7_begun 28 = .ok (.aaload, 1) := by decide +kernel
theorem dX7_begun_29 : decode cX7_begun 29 = .ok (.aload_n 0, 1) := by decide +kernel
theorem dX7_begun_30 : decode cX7_begun 30 = .ok (.getfield 22, 3) := by decide +kernel
theorem dX7_begun_33 : decode cX7_begun 33 = .ok (.iconst 0, 1) := by decide +kernel
theorem dX7_begun_34 : decode cX7_begun 34 = .ok (.iastore, 1) := by decide +kernel
theorem dX7_begun_35 : decode cX7_begun 35 = .ok (.aload_n 0, 1) := by decide +kernel
theorem dX7_begun_36 : decode cX7_begun 36 = .ok (.getfield 19, 3) := by decide +kernel
theorem dX7_begun_39 : decode cX7_begun 39 = .ok (.iconst 2, 1) := by decide +kernel
theorem dX7_begun_40 : decode cX7_begun 40 = .ok (.aaload, 1) := by decide +kernel
theorem dX7_begun_41 : decode cX7_begun 41 = .ok (.aload_n 0, 1) := by decide +kernel
theorem dX7_begun_42 : decode cX7_begun 42 = .ok (.getfield 22, 3) := by decide +kernel
theorem dX7_begun_45 : decode cX7_begun 45 = .ok (.aload_n 1, 1) := by decide +kernel
theorem dX7_begun_46 : decode cX7_begun 46 = .ok (.iload_n 2, 1) := by decide +kernel
theorem dX7_begun_47 : decode cX7_begun 47 = .ok (.iconst 2, 1) := by decide +kernel
theorem dX7_begun_48 : decode cX7_begun 48 = .ok (.invokevirtual 81, 3) := by decide +kernel
theorem dX7_begun_51 : decode cX7_begun 51 = .ok (.iastore, 1) := by decide +kernel
theorem dX7_begun_52 : decode cX7_begun 52 = .ok (.aload_n 0, 1) := by decide +kernel
theorem dX7_begun_53 : decode cX7_begun 53 = .ok (.getfield 19, 3) := by decide +kernel
theorem dX7_begun_56 : decode cX7_begun 56 = .ok (.iconst 3, 1) := by decide +kernel
theorem dX7_begun_57 : decode cX7_begun 57 = .ok (.aaload, 1) := by decide +kernel
theorem dX7_begun_58 : decode cX7_begun 58 = .ok (.aload_n 0, 1) := by decide +kernel
theorem dX7_begun_59 : decode cX7_begun 59 = .ok (.getfield 22, 3) := by decide +kernel
theorem dX7_begun_62 : decode cX7_begun 62 = .ok (.aload_n 1, 1) := by decide +kernel
theorem dX7_begun_63 : decode cX7_begun 63 = .ok (.iload_n 2, 1) := by decide +kernel
theorem dX7_begun_64 : decode cX7_begun 64 = .ok (.iconst 3, 1) := by decide +kernel
theorem dX7_begun_65 : decode cX7_begun 65 = .ok (.invokevirtual 81, 3) := by decide +kernel
theorem dX7_begun_68 : decode cX7_begun 68 = .ok (.iastore, 1) := by decide +kernel
theorem dX7_begun_69 : decode cX7_begun 69 = .ok (.aload_n 0, 1) := by decide +kernel
theorem dX7_begun_70 : decode cX7_begun 70 = .ok (.dup, 1) := by decide +kernel
theorem dX7_begun_71 : decode cX7_begun 71 = .ok (.getfield 22, 3) := by decide +kernel
theorem dX7_begun_74 : decode cX7_begun 74 = .ok (.iconst 1, 1) := by decide +kernel
theorem dX7_begun_75 : decode cX7_begun 75 = .ok (.iadd, 1) := by decide +kernel
theorem dX7_begun_76 : decode cX7_begun 76 = .ok (.putfield 22, 3) := by decide +kernel
theorem dX7_begun_79 : decode cX7_begun 79 = .ok (.aload_n 0, 1) := by decide +kernel
theorem dX7_begun_80 : decode cX7_begun 80 = .ok (.getfield 22, 3) := by decide +kernel
theorem dX7_begun_83 : decode cX7_begun 83 = .ok (.iconst 1, 1) := by decide +kernel
theorem dX7_begun_84 : decode cX7_begun 84 = .ok (.isub, 1) := by decide +kernel
theorem dX7_begun_85 : decode cX7_begun 85 = .ok (.ireturn, 1) := by decide +kernel
theorem dX7_grow_0 : decode cX7_grow 0 = .ok (.aload_n 0, 1) := by decide +kernel
theorem dX7_grow_1 : decode cX7_grow 1 = .ok (.iload_n 1, 1) := by decide +kernel
theorem dX7_grow_2 : decode cX7_grow 2 = .ok (.invokevirtual 26, 3) := by decide +kernel
theorem dX7_grow_5 : decode cX7_grow 5 = .ok (.ifCond .ne 4, 3) := by decide +kernel
theorem dX7_grow_8 : decode cX7_grow 8 = .ok (.return_, 1) := by decide +kernel
theorem dX7_grow_9 : decode cX7_grow 9 = .ok (.aload_n 0, 1) := by decide +kernel
theorem dX7_grow_10 : decode cX7_grow 10 = .ok (.getfield 19, 3) := by decide +kernel
theorem dX7_grow_13 : decode cX7_grow 13 = .ok (.iconst 0, 1) := by decide +kernel
theorem dX7_grow_14 : decode cX7_grow 14 = .ok (.aaload, 1) := by decide +kernel
theorem dX7_grow_15 : decode cX7_grow 15 = .ok (.iload_n 1, 1) := by decide +kernel
theorem dX7_grow_16 : decode cX7_grow 16 = .ok (.dup2, 1) := by decide +kernel
theorem dX7_grow_17 : decode cX7_grow 17 = .ok (.iaload, 1) := by decide +kernel
theorem dX7_grow_18 : decode cX7_grow 18 = .ok (.iconst 1, 1) := by decide +kernel
theorem dX7_grow_19 : decode cX7_grow 19 = .ok (.iadd, 1) := by decide +kernel
theorem dX7_grow_20 : decode cX7_grow 20 = .ok (.iastore, 1) := by decide +kernel
theorem dX7_grow_21 : decode cX7_grow 21 = .ok (.aload_n 0, 1) := by decide +kernel
theorem dX7_grow_22 : decode cX7_grow 22 = .ok (.getfield 19, 3) := by decide +kernel
theorem dX7_grow_25 : decode cX7_grow 25 = .ok (.iconst 1, 1) := by decide +kernel
theorem dX7_grow_26 : decode cX7_grow 26 = .ok (.aaload, 1) := by decide +kernel
theorem dX7_grow_27 : decode cX7_grow 27 = .ok (.iload_n 1, 1) := by decide +kernel
theorem dX7_grow_28 : decode cX7_grow 28 = .ok (.dup2, 1) := by decide +kernel
theorem dX7_grow_29 : decode cX7_grow 29 = .ok (.iaload, 1) := by decide +kernel
theorem dX7_grow_30 : decode cX7_grow 30 = .ok (.aload_n 2, 1) := by decide +kernel
theorem dX7_grow_31 : decode cX7_grow 31 = .ok (.iload_n 3, 1) := by decide +kernel
theorem dX7_grow_32 : decode cX7_grow 32 = .ok (.invokevirtual 63, 3) := by decide +kernel
theorem dX7_grow_35 : decode cX7_grow 35 = .ok (.ior, 1) := by decide +kernel
theorem dX7_grow_36 : decode cX7_grow 36 = .ok (.iastore, 1) := by decide +kernel
theorem dX7_grow_37 : decode cX7_grow 37 = .ok (.aload_n 0, 1) := by decide +kernel
theorem dX7_grow_38 : decode cX7_grow 38 = .ok (.getfield 19, 3) := by decide +kernel
theorem dX7_grow_41 : decode cX7_grow 41 = .ok (.iconst 2, 1) := by decide +kernel
theorem dX7_grow_42 : decode cX7_grow 42 = .ok (.aaload, 1) := by decide +kernel
theorem dX7_grow_43 : decode cX7_grow 43 = .ok (.iload_n 1, 1) := by decide +kernel
theorem dX7_grow_44 : decode cX7_grow 44 = .ok (.aload_n 0, 1) := by decide +kernel
theorem dX7_grow_45 : decode cX7_grow 45 = .ok (.getfield 19, 3) := by decide +kernel
theorem dX7_grow_48 : decode cX7_grow 48 = .ok (.iconst 2, 1) := by decide +kernel
theorem dX7_grow_49 : decode cX7_grow 49 = .ok (.aaload, 1) := by decide +kernel
theorem dX7_grow_50 : decode cX7_grow 50 = .ok (.iload_n 1, 1) := by decide +kernel
theorem dX7_grow_51 : decode cX7_grow 51 = .ok (.iaload, 1) := by decide +kernel
theorem dX7_grow_52 : decode cX7_grow 52 = .ok (.aload_n 2, 1) := by decide +kernel
theorem dX7_grow_53 : decode cX7_grow 53 = .ok (.iload_n 3, 1) := by decide +kernel
theorem dX7_grow_54 : decode cX7_grow 54 = .ok (.iconst 2, 1) := by decide +kernel
theorem dX7_grow_55 : decode cX7_grow 55 = .ok (.invokevirtual 81, 3) := by decide +kernel
theorem dX7_grow_58 : decode cX7_grow 58 = .ok (.invokestatic 68, 3) := by decide +kernel
theorem dX7_grow_61 : decode cX7_grow 61 = .ok (.iastore, 1) := by decide +kernel
theorem dX7_grow_62 : decode cX7_grow 62 = .ok (.aload_n 0, 1) := by decide +kernel
theorem dX7_grow_63 : decode cX7_grow 63 = .ok (.getfield 19, 3) := by decide +kernel
theorem dX7_grow_66 : decode cX7_grow 66 = .ok (.iconst 3, 1) := by decide +kernel
theorem dX7_grow_67 : decode cX7_grow 67 = .ok (.aaload, 1) := by decide +kernel
theorem dX7_grow_68 : decode cX7_grow 68 = .ok (.iload_n 1, 1) := by decide +kernel
theorem dX7_grow_69 : decode cX7_grow 69 = .ok (.aload_n 0, 1) := by decide +kernel
theorem dX7_grow_70 : decode cX7_grow 70 = .ok (.getfield 19, 3) := by decide +kernel
theorem dX7_grow_73 : decode cX7_grow 73 = .ok (.iconst 3, 1) := by decide +kernel
theorem dX7_grow_74 : decode cX7_grow 74 = .ok (.aaload, 1) := by decide +kernel
theorem dX7_grow_75 : decode cX7_grow 75 = .ok (.iload_n 1, 1) := by decide +kernel
theorem dX7_grow_76 : decode cX7_grow 76 = .ok (.iaload, 1) := by decide +kernel
theorem dX7_grow_77 : decode cX7_grow 77 = .ok (.aload_n 2, 1) := by decide +kernel
theorem dX7_grow_78 : decode cX7_grow 78 = .ok (.iload_n 3, 1) := by decide +kernel
theorem dX7_grow_79 : decode cX7_grow 79 = .ok (.iconst 3, 1) := by decide +kernel
theorem dX7_grow_80 : decode cX7_grow 80 = .ok (.invokevirtual 81, 3) := by decide +kernel
theorem dX7_grow_83 : decode cX7_grow 83 = .ok (.invokestatic 74, 3) := by decide +kernel
theorem dX7_grow_86 : decode cX7_grow 86 = .ok (.iastore, 1) := by decide +kernel
theorem dX7_grow_87 : decode cX7_grow 87 = .ok (.return_, 1) := by decide +kernel
theorem dX8_init_0 : decode cX8_init 0 = .ok (.aload_n 0, 1) := by decide +kernel
theorem dX8_init_1 : decode cX8_init 1 = .ok (.invokespecial 3, 3) := by decide +kernel
theorem dX8_init_4 : decode cX8_init 4 = .ok (.aload_n 0, 1) := by decide +kernel
theorem dX8_init_5 : decode cX8_init 5 = .ok (.bipush 12, 2) := by decide +kernel
theorem dX8_init_7 : decode cX8_init 7 = .ok (.newarray .int, 2) := by decide +kernel
theorem dX8_init_9 : decode cX8_init 9 = .ok (.putfield 9, 3) := by decide +kernel
theorem dX8_init_12 : decode cX8_init 12 = .ok (.aload_n 0, 1) := by decide +kernel
theorem dX8_init_13 : decode cX8_init 13 = .ok (.bipush 8, 2) := by decide +kernel
theorem dX8_init_15 : decode cX8_init 15 = .ok (.bipush 12, 2) := by decide +kernel
theorem dX8_init_17 : decode cX8_init 17 = .ok (.multianewarray 15 2, 4) := by decide +kernel
theorem dX8_init_21 : decode cX8_init 21 = .ok (.putfield 17, 3) := by decide +kernel
theorem dX8_init_24 : decode cX8_init 24 = .ok (.aload_n 0, 1) := by decide +kernel
theorem dX8_init_25 : decode cX8_init 25 = .ok (.bipush 8, 2) := by decide +kernel
theorem dX8_init_27 : decode cX8_init 27 = .ok (.bipush 12, 2) := by decide +kernel
theorem dX8_init_29 : decode cX8_init 29 = .ok (.multianewarray 15 2, 4) := by decide +kernel
theorem dX8_init_33 : decode cX8_init 33 = .ok (.putfield 20, 3) := by decide +kernel
theorem dX8_init_36 : decode cX8_init 36 = .ok (.aload_n 0, 1) := by decide +kernel
theorem dX8_init_37 : decode cX8_init 37 = .ok (.iconst 0, 1) := by decide +kernel
theorem dX8_init_38 : decode cX8_init 38 = .ok (.putfield 23, 3) := by decide +kernel
theorem dX8_init_41 : decode cX8_init 41 = .ok (.aload_n 0, 1) := by decide +kernel
theorem dX8_init_42 : decode cX8_init 42 = .ok (.iconst 0, 1) := by decide +kernel
theorem dX8_init_43 : decode cX8_init 43 = .ok (.putfield 27, 3) := by decide +kernel
theorem dX8_init_46 : decode cX8_init 46 = .ok (.aload_n 0, 1) := by decide +kernel
theorem dX8_init_47 : decode cX8_init 47 = .ok (.iconst 0, 1) := by decide +kernel
theorem dX8_init_48 : decode cX8_init 48 = .ok (.putfield 30, 3) := by decide +kernel
theorem dX8_init_51 : decode cX8_init 51 = .ok (.aload_n 0, 1) := by decide +kernel
theorem dX8_init_52 : decode cX8_init 52 = .ok (.iconst 0, 1) := by decide +kernel
theorem dX8_init_53 : decode cX8_init 53 = .ok (.putfield 33, 3) := by decide +kernel
theorem dX8_init_56 : decode cX8_init 56 = .ok (.aload_n 0, 1) := by decide +kernel
theorem dX8_init_57 : decode cX8_init 57 = .ok (.iconst 0, 1) := by decide +kernel
theorem dX8_init_58 : decode cX8_init 58 = .ok (.putfield 36, 3) := by decide +kernel
theorem dX8_init_61 : decode cX8_init 61 = .ok (.return_, 1) := by decide +kernel
theorem dX8_countAll_0 : decode cX8_countAll 0 = .ok (.aload_n 0, 1) := by decide +kernel
theorem dX8_countAll_1 : decode cX8_countAll 1 = .ok (.aload_n 1, 1) := by decide +kernel
theorem dX8_countAll_2 : decode cX8_countAll 2 = .ok (.invokevirtual 39, 3) := by decide +kernel
theorem dX8_countAll_5 : decode cX8_countAll 5 = .ok (.putfield 23, 3) := by decide +kernel
theorem dX8_countAll_8 : decode cX8_countAll 8 = .ok (.aload_n 0, 1) := by decide +kernel
theorem dX8_countAll_9 : decode cX8_countAll 9 = .ok (.aload_n 1, 1) := by decide +kernel
theorem dX8_countAll_10 : decode cX8_countAll 10 = .ok (.invokevirtual 44, 3) := by decide +kernel
theorem dX8_countAll_13 : decode cX8_countAll 13 = .ok (.putfield 27, 3) := by decide +kernel
theorem dX8_countAll_16 : decode cX8_countAll 16 = .ok (.aload_n 0, 1) := by decide +kernel
theorem dX8_countAll_17 : decode cX8_countAll 17 = .ok (.aload_n 1, 1) := by decide +kernel
theorem dX8_countAll_18 : decode cX8_countAll 18 = .ok (.invokevirtual 47, 3) := by decide +kernel
theorem dX8_countAll_21 : decode cX8_countAll 21 = .ok (.putfield 30, 3) := by decide +kernel
theorem dX8_countAll_24 : decode cX8_countAll 24 = .ok (.aload_n 0, 1) := by decide +kernel
theorem dX8_countAll_25 : decode cX8_countAll 25 = .ok (.aload_n 1, 1) := by decide +kernel
theorem dX8_countAll_26 : decode cX8_countAll 26 = .ok (.invokevirtual 49, 3) := by decide +kernel
theorem dX8_countAll_29 : decode cX8_countAll 29 = .ok (.putfield 33, 3) := by decide +kernel
theorem dX8_countAll_32 : decode cX8_countAll 32 = .ok (.aload_n 0, 1) := by decide +kernel
theorem dX8_countAll_33 : decode cX8_countAll 33 = .ok (.aload_n 1, 1) := by decide +kernel
theorem dX8_countAll_34 : decode cX8_countAll 34 = .ok (.invokevirtual 51, 3) := by decide +kernel
theorem dX8_countAll_37 : decode cX8_countAll 37 = .ok (.putfield 36, 3) := by decide +kernel
theorem dX8_countAll_40 : decode cX8_countAll 40 = .ok (.iconst 0, 1) := by decide +kernel
theorem dX8_countAll_41 : decode cX8_countAll 41 = .ok (.istore_n 2, 1) := by decide +kernel
theorem dX8_countAll_42 : decode cX8_countAll 42 = .ok (.iload_n 2, 1) := by decide +kernel
theorem dX8_countAll_43 : decode cX8_countAll 43 = .ok (.bipush 12, 2) := by decide +kernel
theorem dX8_countAll_45 : decode cX8_countAll 45 = .ok (.if_icmp .ge 21, 3) := by decide +kernel
theorem dX8_countAll_48 : decode cX8_countAll 48 = .ok (.aload_n 0, 1) := by decide +kernel
theorem dX8_countAll_49 : decode cX8_countAll 49 = .ok (.getfield 9, 3) := by decide +kernel
theorem dX8_countAll_52 : decode cX8_countAll 52 = .ok (.iload_n 2, 1) := by decide +kernel
theorem dX8_countAll_53 : decode cX8_countAll 53 = .ok (.aload_n 1, 1) := by decide +kernel
theorem dX8_countAll_54 : decode cX8_countAll 54 = .ok (.iconst 0, 1) := by decide +kernel
theorem dX8_countAll_55 : decode cX8_countAll 55 = .ok (.iload_n 2, 1) := by decide +kernel
theorem dX8_countAll_56 : decode cX8_countAll 56 = .ok (.invokevirtual 53, 3) := by decide +kernel
theorem dX8_countAll_59 : decode cX8_countAll 59 = .ok (.iastore, 1) := by decide +kernel
theorem dX8_countAll_60 : decode cX8_countAll 60 = .ok (.iinc 2 1, 3) := by decide +kernel
theorem dX8_countAll_63 : decode cX8_countAll 63 = .ok (.goto (-21), 3) := by decide +kernel
theorem dX8_countAll_66 : decode cX8_countAll 66 = .ok (.iconst 0, 1) := by decide +kernel
theorem dX8_countAll_67 : decode cX8_countAll 67 = .ok (.istore_n 2, 1) := by decide +kernel
theorem dX8_countAll_68 : decode cX8_countAll 68 = .ok (.iload_n 2, 1) := by decide +kernel
theorem dX8_countAll_69 : decode cX8_countAll 69 = .ok (.bipush 8, 2) := by decide +kernel
theorem dX8_countAll_71 : decode cX8_countAll 71 = .ok (.if_icmp .ge 15, 3) := by decide +kernel
theorem dX8_countAll_74 : decode cX8_countAll 74 = .ok (.aload_n 0, 1) := by decide +kernel
theorem dX8_countAll_75 : decode cX8_countAll 75 = .ok (.aload_n 1, 1) := by decide +kernel
theorem dX8_countAll_76 : decode cX8_countAll 76 = .ok (.iload_n 2, 1) := by decide +kernel
theorem dX8_countAll_77 : decode cX8_countAll 77 = .ok (.invokevirtual 57, 3) := by decide +kernel
theorem dX8_countAll_80 : decode cX8_countAll 80 = .ok (.iinc 2 1, 3) := by decide +kernel
theorem dX8_countAll_83 : decode cX8_countAll 83 = .ok (.goto (-15), 3) := by decide +kernel
theorem dX8_countAll_86 : decode cX8_countAll 86 = .ok (.return_, 1) := by decide +kernel
theorem dX8_countWord_0 : decode cX8_countWord 0 = .ok (.aload_n 1, 1) := by decide +kernel
theorem dX8_countWord_1 : decode cX8_countWord 1 = .ok (.invokevirtual 61, 3) := by decide +kernel
theorem dX8_countWord_4 : decode cX8_countWord 4 = .ok (.istore_n 3, 1) := by decide +kernel
theorem dX8_countWord_5 : decode cX8_countWord 5 = .ok (.aload_n 1, 1) := by decide +kernel
theorem dX8_countWord_6 : decode cX8_countWord 6 = .ok (.iload_n 2, 1) := by decide +kernel
theorem dX8_countWord_7 : decode cX8_countWord 7 = .ok (.invokestatic 64, 3) := by decide +kernel
theorem dX8_countWord_10 : decode cX8_countWord 10 = .ok (.invokevirtual 68, 3) := by decide +kernel
theorem dX8_countWord_13 : decode cX8_countWord 13 = .ok (.istore 4, 2) := by decide +kernel
theorem dX8_countWord_15 : decode cX8_countWord 15 = .ok (.iconst 0, 1) := by decide +kernel
theorem dX8_countWord_16 : decode cX8_countWord 16 = .ok (.istore 5, 2) := by decide +kernel
theorem dX8_countWord_18 : decode cX8_countWord 18 = .ok (.iload 5, 2) := by decide +kernel
theorem dX8_countWord_20 : decode cX8_countWord 20 = .ok (.bipush 12, 2) := by decide +kernel
theorem dX8_countWord_22 : decode cX8_countWord 22 = .ok (.if_icmp .ge 58, 3) := by decide +kernel
theorem dX8_countWord_25 : decode cX8_countWord 25 = .ok (.aload_n 0, 1) := by decide +kernel
theorem dX8_countWord_26 : decode cX8_countWord 26 = .ok (.getfield 17, 3) := by decide +kernel
theorem dX8_countWord_29 : decode cX8_countWord 29 = .ok (.iload_n 2, 1) := by decide +kernel
theorem dX8_countWord_30 : decode cX8_countWord 30 = .ok (.aaload, 1) := by decide +kernel
theorem dX8_countWord_31 : decode cX8_countWord 31 = .ok (.iload 5, 2) := by decide +kernel
theorem dX8_countWord_33 : decode cX8_countWord 33 = .ok (.aload_n 1, 1) := by decide +kernel
theorem dX8_countWord_34 : decode cX8_countWord 34 = .ok (.iload_n 2, 1) := by decide +kernel
theorem dX8_countWord_35 : decode cX8_countWord 35 = .ok (.invokestatic 64, 3) := by decide +kernel
theorem dX8_countWord_38 : decode cX8_countWord 38 = .ok (.iload 5, 2) := by decide +kernel
theorem dX8_countWord_40 : decode cX8_countWord 40 = .ok (.invokevirtual 53, 3) := by decide +kernel
theorem dX8_countWord_43 : decode cX8_countWord 43 = .ok (.iastore, 1) := by decide +kernel
theorem dX8_countWord_44 : decode cX8_countWord 44 = .ok (.aload_n 0, 1) := by decide +kernel
theorem dX8_countWord_45 : decode cX8_countWord 45 = .ok (.getfield 20, 3) := by decide +kernel
theorem dX8_countWord_48 : decode cX8_countWord 48 = .ok (.iload_n 2, 1) := by decide +kernel
theorem dX8_countWord_49 : decode cX8_countWord 49 = .ok (.aaload, 1) := by decide +kernel
theorem dX8_countWord_50 : decode cX8_countWord 50 = .ok (.iload 5, 2) := by decide +kernel
theorem dX8_countWord_52 : decode cX8_countWord 52 = .ok (.iload_n 3, 1) := by decide +kernel
theorem dX8_countWord_53 : decode cX8_countWord 53 = .ok (.iconst 1, 1) := by decide +kernel
theorem dX8_countWord_54 : decode cX8_countWord 54 = .ok (.if_icmp .ge 7, 3) := by decide +kernel
theorem dX8_countWord_57 : decode cX8_countWord 57 = .ok (.iconst 0, 1) := by decide +kernel
theorem dX8_countWord_58 : decode cX8_countWord 58 = .ok (.goto 15, 3) := by decide +kernel
theorem dX8_countWord_61 : decode cX8_countWord 61 = .ok (.aload_n 0, 1) := by decide +kernel
theorem dX8_countWord_62 : decode cX8_countWord 62 = .ok (.getfield 9, 3) := by decide +kernel
theorem dX8_countWord_65 : decode cX8_countWord 65 = .ok (.iload 5, 2) := by decide +kernel
theorem dX8_countWord_67 : decode cX8_countWord 67 = .ok (.iaload, 1) := by decide +kernel
theorem dX8_countWord_68 : decode cX8_countWord 68 = .ok (.iload 4, 2) := by decide +kernel
theorem dX8_countWord_70 : decode cX8_countWord 70 = .ok (.imul, 1) := by decide +kernel
theorem dX8_countWord_71 : decode cX8_countWord 71 = .ok (.iload_n 3, 1) := by decide +kernel
theorem dX8_countWord_72 : decode cX8_countWord 72 = .ok (.idiv, 1) := by decide +kernel
theorem dX8_countWord_73 : decode cX8_countWord 73 = .ok (.iastore, 1) := by decide +kernel
theorem dX8_countWord_74 : decode cX8_countWord 74 = .ok (.iinc 5 1, 3) := by decide +kernel
theorem dX8_countWord_77 : decode cX8_countWord 77 = .ok (.goto (-59), 3) := by decide +kernel
theorem dX8_countWord_80 : decode cX8_countWord 80 = .ok (.return_, 1) := by decide +kernel
theorem dX8_isDay_0 : decode cX8_isDay 0 = .ok (.iload_n 0, 1) := by decide +kernel
theorem dX8_isDay_1 : decode cX8_isDay 1 = .ok (.ifCond .lt 13, 3) := by decide +kernel
theorem dX8_isDay_4 : decode cX8_isDay 4 = .ok (.iload_n 0, 1) := by decide +kernel
theorem dX8_isDay_5 : decode cX8_isDay 5 = .ok (.bipush 12, 2) := by decide +kernel
theorem dX8_isDay_7 : decode cX8_isDay 7 = .ok (.if_icmp .ge 7, 3) := by decide +kernel
theorem dX8_isDay_10 : decode cX8_isDay 10 = .ok (.iconst 1, 1) := by decide +kernel
theorem dX8_isDay_11 : decode cX8_isDay 11 = .ok (.goto 4, 3) := by decide +kernel
theorem dX8_isDay_14 : decode cX8_isDay 14 = .ok (.iconst 0, 1) := by decide +kernel
theorem dX8_isDay_15 : decode cX8_isDay 15 = .ok (.ireturn, 1) := by decide +kernel
theorem dX8_dayCount_0 : decode cX8_dayCount 0 = .ok (.aload_n 0, 1) := by decide +kernel
theorem dX8_dayCount_1 : decode cX8_dayCount 1 = .ok (.getfield 23, 3) := by decide +kernel
theorem dX8_dayCount_4 : decode cX8_dayCount 4 = .ok (.ireturn, 1) := by decide +kernel
theorem dX8_highest_0 : decode cX8_highest 0 = .ok (.aload_n 0, 1) := by decide +kernel
theorem dX8_highest_1 : decode cX8_highest 1 = .ok (.getfield 27, 3) := by decide +kernel
theorem dX8_highest_4 : decode cX8_highest 4 = .ok (.ireturn, 1) := by decide +kernel
theorem dX8_all_0 : decode cX8_all 0 = .ok (.iload_n 1, 1) := by decide +kernel
theorem dX8_all_1 : decode cX8_all 1 = .ok (.invokestatic 71, 3) := by decide +kernel
theorem dX8_all_4 : decode cX8_all 4 = .ok (.ifCond .eq 12, 3) := by decide +kernel
theorem dX8_all_7 : decode cX8_all 7 = .ok (.aload_n 0, 1) := by decide +kernel
theorem dX8_all_8 : decode cX8_all 8 = .ok (.getfield 9, 3) := by decide +kernel
theorem dX8_all_11 : decode cX8_all 11 = .ok (.iload_n 1, 1) := by decide +kernel
theorem dX8_all_12 : decode cX8_all 12 = .ok (.iaload, 1) := by decide +kernel
theorem dX8_all_13 : decode cX8_all 13 = .ok (.goto 4, 3) := by decide +kernel
theorem dX8_all_16 : decode cX8_all 16 = .ok (.iconst 0, 1) := by decide +kernel
theorem dX8_all_17 : decode cX8_all 17 = .ok (.ireturn, 1) := by decide +kernel
theorem dX8_count_0 : decode cX8_count 0 = .ok (.iload_n 1, 1) := by decide +kernel
theorem dX8_count_1 : decode cX8_count 1 = .ok (.invokestatic 75, 3) := by decide +kernel
theorem dX8_count_4 : decode cX8_count 4 = .ok (.ifCond .eq 21, 3) := by decide +kernel
theorem dX8_count_7 : decode cX8_count 7 = .ok (.iload_n 2, 1) := by decide +kernel
theorem dX8_count_8 : decode cX8_count 8 = .ok (.invokestatic 71, 3) := by decide +kernel
theorem dX8_count_11 : decode cX8_count 11 = .ok (.ifCond .eq 14, 3) := by decide +kernel
theorem dX8_count_14 : decode cX8_count 14 = .ok (.aload_n 0, 1) := by decide +kernel
theorem dX8_count_15 : decode cX8_count 15 = .ok (.getfield 17, 3) := by decide +kernel
theorem dX8_count_18 : decode cX8_count 18 = .ok (.iload_n 1, 1) := by decide +kernel
theorem dX8_count_19 : decode cX8_count 19 = .ok (.aaload, 1) := by decide +kernel
theorem dX8_count_20 : decode cX8_count 20 = .ok (.iload_n 2, 1) := by decide +kernel
theorem dX8_count_21 : decode cX8_count 21 = .ok (.iaload, 1) := by decide +kernel
theorem dX8_count_22 : decode cX8_count 22 = .ok (.goto 4, 3) := by decide +kernel
theorem dX8_count_25 : decode cX8_count 25 = .ok (.iconst 0, 1) := by decide +kernel
theorem dX8_count_26 : decode cX8_count 26 = .ok (.ireturn, 1) := by decide +kernel
theorem dX8_wanted_0 : decode cX8_wanted 0 = .ok (.iload_n 1, 1) := by decide +kernel
theorem dX8_wanted_1 : decode cX8_wanted 1 = .ok (.invokestatic 75, 3) := by decide +kernel
theorem dX8_wanted_4 : decode cX8_wanted 4 = .ok (.ifCond .eq 28, 3) := by decide +kernel
theorem dX8_wanted_7 : decode cX8_wanted 7 = .ok (.iload_n 2, 1) := by decide +kernel
theorem dX8_wanted_8 : decode cX8_wanted 8 = .ok (.invokestatic 71, 3) := by decide +kernel
theorem dX8_wanted_11 : decode cX8_wanted 11 = .ok (.ifCond .eq 21, 3) := by decide +kernel
theorem dX8_wanted_14 : decode cX8_wanted 14 = .ok (.aload_n 0, 1) := by decide +kernel
theorem dX8_wanted_15 : decode cX8_wanted 15 = .ok (.getfield 20, 3) := by decide +kernel
theorem dX8_wanted_18 : decode cX8_wanted 18 = .ok (.iload_n 1, 1) := by decide +kernel
theorem dX8_wanted_19 : decode cX8_wanted 19 = .ok (.aaload, 1) := by decide +kernel
theorem dX8_wanted_20 : decode cX8_wanted 20 = .ok (.iload_n 2, 1) := by decide +kernel
theorem dX8_wanted_21 : decode cX8_wanted 21 = .ok (.iaload, 1) := by decide +kernel
theorem dX8_wanted_22 : decode cX8_wanted 22 = .ok (.iload_n 3, 1) := by decide +kernel
theorem dX8_wanted_23 : decode cX8_wanted 23 = .ok (.aload_n 0, 1) := by decide +kernel
theorem dX8_wanted_24 : decode cX8_wanted 24 = .ok (.getfield 33, 3) := by decide +kernel
theorem dX8_wanted_27 : decode cX8_wanted 27 = .ok (.imul, 1) := by decide +kernel
theorem dX8_wanted_28 : decode cX8_wanted 28 = .ok (.iadd, 1) := by decide +kernel
theorem dX8_wanted_29 : decode cX8_wanted 29 = .ok (.goto 4, 3) := by decide +kernel
theorem dX8_wanted_32 : decode cX8_wanted 32 = .ok (.iconst 0, 1) := by decide +kernel
theorem dX8_wanted_33 : decode cX8_wanted 33 = .ok (.ireturn, 1) := by decide +kernel
theorem dX8_unlikely_0 : decode cX8_unlikely 0 = .ok (.aload_n 0, 1) := by decide +kernel
theorem dX8_unlikely_1 : decode cX8_unlikely 1 = .ok (.getfield 30, 3) := by decide +kernel
theorem dX8_unlikely_4 : decode cX8_unlikely 4 = .ok (.aload_n 0, 1) := by decide +kernel
theorem dX8_unlikely_5 : decode cX8_unlikely 5 = .ok (.iload_n 1, 1) := by decide +kernel
theorem dX8_unlikely_6 : decode cX8_unlikely 6 = .ok (.iload_n 2, 1) := by decide +kernel
theorem dX8_unlikely_7 : decode cX8_unlikely 7 = .ok (.invokevirtual 78, 3) := by decide +kernel
theorem dX8_unlikely_10 : decode cX8_unlikely 10 = .ok (.aload_n 0, 1) := by decide +kernel
theorem dX8_unlikely_11 : decode cX8_unlikely 11 = .ok (.iload_n 1, 1) := by decide +kernel
theorem dX8_unlikely_12 : decode cX8_unlikely 12 = .ok (.iload_n 2, 1) := by decide +kernel
theorem dX8_unlikely_13 : decode cX8_unlikely 13 = .ok (.iload_n 3, 1) := by decide +kernel
theorem dX8_unlikely_14 : decode cX8_unlikely 14 = .ok (.invokevirtual 80, 3) := by decide +kernel
theorem dX8_unlikely_17 : decode cX8_unlikely 17 = .ok (.isub, 1) := by decide +kernel
theorem dX8_unlikely_18 : decode cX8_unlikely 18 = .ok (.invokestatic 84, 3) := by decide +kernel
theorem dX8_unlikely_21 : decode cX8_unlikely 21 = .ok (.imul, 1) := by decide +kernel
theorem dX8_unlikely_22 : decode cX8_unlikely 22 = .ok (.ireturn, 1) := by decide +kernel
theorem dX8_costOfRise_0 : decode cX8_costOfRise 0 = .ok (.iload_n 2, 1) := by decide +kernel
theorem dX8_costOfRise_1 : decode cX8_costOfRise 1 = .ok (.iload_n 1, 1) := by decide +kernel
theorem dX8_costOfRise_2 : decode cX8_costOfRise 2 = .ok (.if_icmp .le 14, 3) := by decide +kernel
theorem dX8_costOfRise_5 : decode cX8_costOfRise 5 = .ok (.aload_n 0, 1) := by decide +kernel
theorem dX8_costOfRise_6 : decode cX8_costOfRise 6 = .ok (.getfield 36, 3) := by decide +kernel
theorem dX8_costOfRise_9 : decode cX8_costOfRise 9 = .ok (.iload_n 2, 1) := by decide +kernel
theorem dX8_costOfRise_10 : decode cX8_costOfRise 10 = .ok (.iload_n 1, 1) := by decide +kernel
theorem dX8_costOfRise_11 : decode cX8_costOfRise 11 = .ok (.isub, 1) := by decide +kernel
theorem dX8_costOfRise_12 : decode cX8_costOfRise 12 = .ok (.imul, 1) := by decide +kernel
theorem dX8_costOfRise_13 : decode cX8_costOfRise 13 = .ok (.goto 4, 3) := by decide +kernel
theorem dX8_costOfRise_16 : decode cX8_costOfRise 16 = .ok (.iconst 0, 1) := by decide +kernel
theorem dX8_costOfRise_17 : decode cX8_costOfRise 17 = .ok (.ireturn, 1) := by decide +kernel
theorem dX8_costOfSteady_0 : decode cX8_costOfSteady 0 = .ok (.aload_n 0, 1) := by decide +kernel
theorem dX8_costOfSteady_1 : decode cX8_costOfSteady 1 = .ok (.iconst 0, 1) := by decide +kernel
theorem dX8_costOfSteady_2 : decode cX8_costOfSteady 2 = .ok (.iload_n 2, 1) := by decide +kernel
theorem dX8_costOfSteady_3 : decode cX8_costOfSteady 3 = .ok (.invokevirtual 89, 3) := by decide +kernel
theorem dX8_costOfSteady_6 : decode cX8_costOfSteady 6 = .ok (.istore_n 3, 1) := by decide +kernel
theorem dX8_costOfSteady_7 : decode cX8_costOfSteady 7 = .ok (.iconst 0, 1) := by decide +kernel
theorem dX8_costOfSteady_8 : decode cX8_costOfSteady 8 = .ok (.istore 4, 2) := by decide +kernel
theorem dX8_costOfSteady_10 : decode cX8_costOfSteady 10 = .ok (.iload 4, 2) := by decide +kernel
theorem dX8_costOfSteady_12 : decode cX8_costOfSteady 12 = .ok (.aload_n 0, 1) := by decide +kernel
theorem dX8_costOfSteady_13 : decode cX8_costOfSteady 13 = .ok (.getfield 23, 3) := by decide +kernel
theorem dX8_costOfSteady_16 : decode cX8_costOfSteady 16 = .ok (.if_icmp .ge 20, 3) := by decide +kernel
theorem dX8_costOfSteady_19 : decode cX8_costOfSteady 19 = .ok (.iload_n 3, 1) := by decide +kernel
theorem dX8_costOfSteady_20 : decode cX8_costOfSteady 20 = .ok (.aload_n 0, 1) := by decide +kernel
theorem dX8_costOfSteady_21 : decode cX8_costOfSteady 21 = .ok (.iload_n 1, 1) := by decide +kernel
theorem dX8_costOfSteady_22 : decode cX8_costOfSteady 22 = .ok (.iload 4, 2) := by decide +kernel
theorem dX8_costOfSteady_24 : decode cX8_costOfSteady 24 = .ok (.iload_n 2, 1) := by decide +kernel
theorem dX8_costOfSteady_25 : decode cX8_costOfSteady 25 = .ok (.invokevirtual 92, 3) := by decide +kernel
theorem dX8_costOfSteady_28 : decode cX8_costOfSteady 28 = .ok (.iadd, 1) := by decide +kernel
theorem dX8_costOfSteady_29 : decode cX8_costOfSteady 29 = .ok (.istore_n 3, 1) := by decide +kernel
theorem dX8_costOfSteady_30 : decode cX8_costOfSteady 30 = .ok (.iinc 4 1, 3) := by decide +kernel
theorem dX8_costOfSteady_33 : decode cX8_costOfSteady 33 = .ok (.goto (-23), 3) := by decide +kernel
theorem dX8_costOfSteady_36 : decode cX8_costOfSteady 36 = .ok (.iload_n 3, 1) := by decide +kernel
theorem dX8_costOfSteady_37 : decode cX8_costOfSteady 37 = .ok (.ireturn, 1) := by decide +kernel
theorem dX9_init_0 : decode cX9_init 0 = .ok (.aload_n 0, 1) := by decide +kernel
theorem dX9_init_1 : decode cX9_init 1 = .ok (.invokespecial 5, 3) := by decide +kernel
theorem dX9_init_4 : decode cX9_init 4 = .ok (.aload_n 0, 1) := by decide +kernel
theorem dX9_init_5 : decode cX9_init 5 = .ok (.bipush 60, 2) := by decide +kernel
theorem dX9_init_7 : decode cX9_init 7 = .ok (.newarray .int, 2) := by decide +kernel
theorem dX9_init_9 : decode cX9_init 9 = .ok (.putfield 11, 3) := by decide +kernel
theorem dX9_init_12 : decode cX9_init 12 = .ok (.aload_n 0, 1) := by decide +kernel
theorem dX9_init_13 : decode cX9_init 13 = .ok (.bipush 20, 2) := by decide +kernel
theorem dX9_init_15 : decode cX9_init 15 = .ok (.newarray .int, 2) := by decide +kernel
theorem dX9_init_17 : decode cX9_init 17 = .ok (.putfield 15, 3) := by decide +kernel
theorem dX9_init_20 : decode cX9_init 20 = .ok (.aload_n 0, 1) := by decide +kernel
theorem dX9_init_21 : decode cX9_init 21 = .ok (.bipush 20, 2) := by decide +kernel
theorem dX9_init_23 : decode cX9_init 23 = .ok (.newarray .int, 2) := by decide +kernel
theorem dX9_init_25 : decode cX9_init 25 = .ok (.putfield 18, 3) := by decide +kernel
theorem dX9_init_28 : decode cX9_init 28 = .ok (.aload_n 0, 1) := by decide +kernel
theorem dX9_init_29 : decode cX9_init 29 = .ok (.iconst 0, 1) := by decide +kernel
theorem dX9_init_30 : decode cX9_init 30 = .ok (.putfield 21, 3) := by decide +kernel
theorem dX9_init_33 : decode cX9_init 33 = .ok (.aload_n 0, 1) := by decide +kernel
theorem dX9_init_34 : decode cX9_init 34 = .ok (.iconst 0, 1) := by decide +kernel
theorem dX9_init_35 : decode cX9_init 35 = .ok (.putfield 25, 3) := by decide +kernel
theorem dX9_init_38 : decode cX9_init 38 = .ok (.aload_n 0, 1) := by decide +kernel
theorem dX9_init_39 : decode cX9_init 39 = .ok (.iconst 0, 1) := by decide +kernel
theorem dX9_init_40 : decode cX9_init 40 = .ok (.putfield 28, 3) := by decide +kernel
theorem dX9_init_43 : decode cX9_init 43 = .ok (.return_, 1) := by decide +kernel
theorem dX9_hasRoom_0 : decode cX9_hasRoom 0 = .ok (.aload_n 0, 1) := by decide +kernel
theorem dX9_hasRoom_1 : decode cX9_hasRoom 1 = .ok (.getfield 21, 3) := by decide +kernel
theorem dX9_hasRoom_4 : decode cX9_hasRoom 4 = .ok (.bipush 60, 2) := by decide +kernel
theorem dX9_hasRoom_6 : decode cX9_hasRoom 6 = .ok (.if_icmp .ge 7, 3) := by decide +kernel
theorem dX9_hasRoom_9 : decode cX9_hasRoom 9 = .ok (.iconst 1, 1) := by decide +kernel
theorem dX9_hasRoom_10 : decode cX9_hasRoom 10 = .ok (.goto 4, 3) := by decide +kernel
theorem dX9_hasRoom_13 : decode cX9_hasRoom 13 = .ok (.iconst 0, 1) := by decide +kernel
theorem dX9_hasRoom_14 : decode cX9_hasRoom 14 = .ok (.ireturn, 1) := by decide +kernel
theorem dX9_length_0 : decode cX9_length 0 = .ok (.aload_n 0, 1) := by decide +kernel
theorem dX9_length_1 : decode cX9_length 1 = .ok (.getfield 21, 3) := by decide +kernel
theorem dX9_length_4 : decode cX9_length 4 = .ok (.ireturn, 1) := by decide +kernel
theorem dX9_add_0 : decode cX9_add 0 = .ok (.aload_n 0, 1) := by decide +kernel
theorem dX9_add_1 : decode cX9_add 1 = .ok (.invokevirtual 31, 3) := by decide +kernel
theorem dX9_add_4 : decode cX9_add 4 = .ok (.ifCond .eq 23, 3) := by decide +kernel
theorem dX9_add_7 : decode cX9_add 7 = .ok (.aload_n 0, 1) := by decide +kernel
theorem dX9_add_8 : decode cX9_add 8 = .ok (.getfield 11, 3) := by decide +kernel
theorem dX9_add_11 : decode cX9_add 11 = .ok (.aload_n 0, 1) := by decide +kernel
theorem dX9_add_12 : decode cX9_add 12 = .ok (.getfield 21, 3) := by decide +kernel
theorem dX9_add_15 : decode cX9_add 15 = .ok (.iload_n 1, 1) := by decide +kernel
theorem dX9_add_16 : decode cX9_add 16 = .ok (.iastore, 1) := by decide +kernel
theorem dX9_add_17 : decode cX9_add 17 = .ok (.aload_n 0, 1) := by decide +kernel
theorem dX9_add_18 : decode cX9_add 18 = .ok (.dup, 1) := by decide +kernel
theorem dX9_add_19 : decode cX9_add 19 = .ok (.getfield 21, 3) := by decide +kernel
theorem dX9_add_22 : decode cX9_add 22 = .ok (.iconst 1, 1) := by decide +kernel
theorem dX9_add_23 : decode cX9_add 23 = .ok (.iadd, 1) := by decide +kernel
theorem dX9_add_24 : decode cX9_add 24 = .ok (.putfield 21, 3) := by decide +kernel
theorem dX9_add_27 : decode cX9_add 27 = .ok (.return_, 1) := by decide +kernel
theorem dX9_clear_0 : decode cX9_clear 0 = .ok (.aload_n 0, 1) := by decide +kernel
theorem dX9_clear_1 : decode cX9_clear 1 = .ok (.iconst 0, 1) := by decide +kernel
theorem dX9_clear_2 : decode cX9_clear 2 = .ok (.putfield 21, 3) := by decide +kernel
theorem dX9_clear_5 : decode cX9_clear 5 = .ok (.return_, 1) := by decide +kernel
theorem dX9_place_0 : decode cX9_place 0 = .ok (.aload_n 0, 1) := by decide +kernel
theorem dX9_place_1 : decode cX9_place 1 = .ok (.getfield 28, 3) := by decide +kernel
theorem dX9_place_4 : decode cX9_place 4 = .ok (.ireturn, 1) := by decide +kernel
theorem dX9_readCount_0 : decode cX9_readCount 0 = .ok (.aload_n 0, 1) := by decide +kernel
theorem dX9_readCount_1 : decode cX9_readCount 1 = .ok (.getfield 25, 3) := by decide +kernel
theorem dX9_readCount_4 : decode cX9_readCount 4 = .ok (.ireturn, 1) := by decide +kernel
theorem dX9_dayRead_0 : decode cX9_dayRead 0 = .ok (.iload_n 1, 1) := by decide +kernel
theorem dX9_dayRead_1 : decode cX9_dayRead 1 = .ok (.ifCond .lt 20, 3) := by decide +kernel
theorem dX9_dayRead_4 : decode cX9_dayRead 4 = .ok (.iload_n 1, 1) := by decide +kernel
theorem dX9_dayRead_5 : decode cX9_dayRead 5 = .ok (.aload_n 0, 1) := by decide +kernel
theorem dX9_dayRead_6 : decode cX9_dayRead 6 = .ok (.getfield 25, 3) := by decide +kernel
theorem dX9_dayRead_9 : decode cX9_dayRead 9 = .ok (.if_icmp .ge 12, 3) := by decide +kernel
theorem dX9_dayRead_12 : decode cX9_dayRead 12 = .ok (.aload_n 0, 1) := by decide +kernel
theorem dX9_dayRead_13 : decode cX9_dayRead 13 = .ok (.getfield 15, 3) := by decide +kernel
theorem dX9_dayRead_16 : decode cX9_dayRead 16 = .ok (.iload_n 1, 1) := by decide +kernel
theorem dX9_dayRead_17 : decode cX9_dayRead 17 = .ok (.iaload, 1) := by decide +kernel
theorem dX9_dayRead_18 : decode cX9_dayRead 18 = .ok (.goto 4, 3) := by decide +kernel
theorem dX9_dayRead_21 : decode cX9_dayRead 21 = .ok (.iconst (-1), 1) := by decide +kernel
theorem dX9_dayRead_22 : decode cX9_dayRead 22 = .ok (.ireturn, 1) := by decide +kernel
theorem dX9_setRead_0 : decode cX9_setRead 0 = .ok (.iload_n 1, 1) := by decide +kernel
theorem dX9_setRead_1 : decode cX9_setRead 1 = .ok (.ifCond .lt 20, 3) := by decide +kernel
theorem dX9_setRead_4 : decode cX9_setRead 4 = .ok (.iload_n 1, 1) := by decide +kernel
theorem dX9_setRead_5 : decode cX9_setRead 5 = .ok (.aload_n 0, 1) := by decide +kernel
theorem dX9_setRead_6 : decode cX9_setRead 6 = .ok (.getfield 25, 3) := by decide +kernel
theorem dX9_setRead_9 : decode cX9_setRead 9 = .ok (.if_icmp .ge 12, 3) := by decide +kernel
theorem dX9_setRead_12 : decode cX9_setRead 12 = .ok (.aload_n 0, 1) := by decide +kernel
theorem dX9_setRead_13 : decode cX9_setRead 13 = .ok (.getfield 18, 3) := by decide +kernel
theorem dX9_setRead_16 : decode cX9_setRead 16 = .ok (.iload_n 1, 1) := by decide +kernel
theorem dX9_setRead_17 : decode cX9_setRead 17 = .ok (.iaload, 1) := by decide +kernel
theorem dX9_setRead_18 : decode cX9_setRead 18 = .ok (.goto 4, 3) := by decide +kernel
theorem dX9_setRead_21 : decode cX9_setRead 21 = .ok (.iconst 0, 1) := by decide +kernel
theorem dX9_setRead_22 : decode cX9_setRead 22 = .ok (.ireturn, 1) := by decide +kernel
theorem dX9_read_0 : decode cX9_read 0 = .ok (.aload_n 0, 1) := by decide +kernel
theorem dX9_read_1 : decode cX9_read 1 = .ok (.iconst 0, 1) := by decide +kernel
theorem dX9_read_2 : decode cX9_read 2 = .ok (.putfield 28, 3) := by decide +kernel
theorem dX9_read_5 : decode cX9_read 5 = .ok (.aload_n 0, 1) := by decide +kernel
theorem dX9_read_6 : decode cX9_read 6 = .ok (.iconst 0, 1) := by decide +kernel
theorem dX9_read_7 : decode cX9_read 7 = .ok (.putfield 25, 3) := by decide +kernel
theorem dX9_read_10 : decode cX9_read 10 = .ok (.iconst 0, 1) := by decide +kernel
theorem dX9_read_11 : decode cX9_read 11 = .ok (.istore_n 3, 1) := by decide +kernel
theorem dX9_read_12 : decode cX9_read 12 = .ok (.iconst 0, 1) := by decide +kernel
theorem dX9_read_13 : decode cX9_read 13 = .ok (.istore 4, 2) := by decide +kernel
theorem dX9_read_15 : decode cX9_read 15 = .ok (.iload 4, 2) := by decide +kernel
theorem dX9_read_17 : decode cX9_read 17 = .ok (.bipush 20, 2) := by decide +kernel
theorem dX9_read_19 : decode cX9_read 19 = .ok (.if_icmp .ge 31, 3) := by decide +kernel
theorem dX9_read_22 : decode cX9_read 22 = .ok (.aload_n 0, 1) := by decide +kernel
theorem dX9_read_23 : decode cX9_read 23 = .ok (.getfield 28, 3) := by decide +kernel
theorem dX9_read_26 : decode cX9_read 26 = .ok (.aload_n 0, 1) := by decide +kernel
theorem dX9_read_27 : decode cX9_read 27 = .ok (.getfield 21, 3) := by decide +kernel
theorem dX9_read_30 : decode cX9_read 30 = .ok (.if_icmp .ge 20, 3) := by decide +kernel
theorem dX9_read_33 : decode cX9_read 33 = .ok (.iload_n 3, 1) := by decide +kernel
theorem dX9_read_34 : decode cX9_read 34 = .ok (.ifCond .ne 16, 3) := by decide +kernel
theorem dX9_read_37 : decode cX9_read 37 = .ok (.aload_n 0, 1) := by decide +kernel
theorem dX9_read_38 : decode cX9_read 38 = .ok (.iload_n 1, 1) := by decide +kernel
theorem dX9_read_39 : decode cX9_read 39 = .ok (.iload_n 2, 1) := by decide +kernel
theorem dX9_read_40 : decode cX9_read 40 = .ok (.invokevirtual 35, 3) := by decide +kernel
theorem dX9_read_43 : decode cX9_read 43 = .ok (.istore_n 3, 1) := by decide +kernel
theorem dX9_read_44 : decode cX9_read 44 = .ok (.iinc 4 1, 3) := by decide +kernel
theorem dX9_read_47 : decode cX9_read 47 = .ok (.goto (-32), 3) := by decide +kernel
theorem dX9_read_50 : decode cX9_read 50 = .ok (.iload_n 3, 1) := by decide +kernel
theorem dX9_read_51 : decode cX9_read 51 = .ok (.ireturn, 1) := by decide +kernel
theorem dX9_readPiece_0 : decode cX9_readPiece 0 = .ok (.aload_n 0, 1) := by decide +kernel
theorem dX9_readPiece_1 : decode cX9_readPiece 1 = .ok (.aload_n 0, 1) := by decide +kernel
theorem dX9_readPiece_2 : decode cX9_readPiece 2 = .ok (.getfield 28, 3) := by decide +kernel
theorem dX9_readPiece_5 : decode cX9_readPiece 5 = .ok (.invokevirtual 39, 3) := by decide +kernel
theorem dX9_readPiece_8 : decode cX9_readPiece 8 = .ok (.invokestatic 43, 3) := by decide +kernel
theorem dX9_readPiece_11 : decode cX9_readPiece 11 = .ok (.ifCond .ne 5, 3) := by decide +kernel
theorem dX9_readPiece_14 : decode cX9_readPiece 14 = .ok (.iconst 1, 1) := by decide +kernel
theorem dX9_readPiece_15 : decode cX9_readPiece 15 = .ok (.ireturn, 1) := by decide +kernel
theorem dX9_readPiece_16 : decode cX9_readPiece 16 = .ok (.aload_n 0, 1) := by decide +kernel
theorem dX9_readPiece_17 : decode cX9_readPiece 17 = .ok (.invokevirtual 47, 3) := by decide +kernel
theorem dX9_readPiece_20 : decode cX9_readPiece 20 = .ok (.istore_n 3, 1) := by decide +kernel
theorem dX9_readPiece_21 : decode cX9_readPiece 21 = .ok (.iload_n 3, 1) := by decide +kernel
theorem dX9_readPiece_22 : decode cX9_readPiece 22 = .ok (.ifCond .eq 22, 3) := by decide +kernel
theorem dX9_readPiece_25 : decode cX9_readPiece 25 = .ok (.bipush 10, 2) := by decide +kernel
theorem dX9_readPiece_27 : decode cX9_readPiece 27 = .ok (.aload_n 0, 1) := by decide +kernel
theorem dX9_readPiece_28 : decode cX9_readPiece 28 = .ok (.aload_n 0, 1) := by decide +kernel
theorem dX9_readPiece_29 : decode cX9_readPiece 29 = .ok (.getfield 28, 3) := by decide +kernel
theorem dX9_readPiece_32 : decode cX9_readPiece 32 = .ok (.iconst 1, 1) := by decide +kernel
theorem dX9_readPiece_33 : decode cX9_readPiece 33 = .ok (.iadd, 1) := by decide +kernel
theorem dX9_readPiece_34 : decode cX9_readPiece 34 = .ok (.invokevirtual 39, 3) := by decide +kernel
theorem dX9_readPiece_37 : decode cX9_readPiece 37 = .ok (.iadd, 1) := by decide +kernel
theorem dX9_readPiece_38 : decode cX9_readPiece 38 = .ok (.bipush 48, 2) := by decide +kernel
theorem dX9_readPiece_40 : decode cX9_readPiece 40 = .ok (.isub, 1) := by decide +kernel
theorem dX9_readPiece_41 : decode cX9_readPiece 41 = .ok (.goto 14, 3) := by decide +kernel
theorem dX9_readPiece_44 : decode cX9_readPiece 44 = .ok (.aload_n 0, 1) := by decide +kernel
theorem dX9_readPiece_45 : decode cX9_readPiece 45 = .ok (.aload_n 0, 1) := by decide +kernel
theorem dX9_readPiece_46 : decode cX9_readPiece 46 = .ok (.getfield 28, 3) := by decide +kernel
theorem dX9_readPiece_49 : decode cX9_readPiece 49 = .ok (.invokevirtual 39, 3) := by decide +kernel
theorem dX9_readPiece_52 : decode cX9_readPiece 52 = .ok (.bipush 48, 2) := by decide +kernel
theorem dX9_readPiece_54 : decode cX9_readPiece 54 = .ok (.isub, 1) := by decide +kernel
theorem dX9_readPiece_55 : decode cX9_readPiece 55 = .ok (.istore 4, 2) := by decide +kernel
theorem dX9_readPiece_57 : decode cX9_readPiece 57 = .ok (.iload 4, 2) := by decide +kernel
theorem dX9_readPiece_59 : decode cX9_readPiece 59 = .ok (.iload_n 1, 1) := by decide +kernel
theorem dX9_readPiece_60 : decode cX9_readPiece 60 = .ok (.if_icmp .lt 5, 3) := by decide +kernel
theorem dX9_readPiece_63 : decode cX9_readPiece 63 = .ok (.iconst 2, 1) := by decide +kernel
theorem dX9_readPiece_64 : decode cX9_readPiece 64 = .ok (.ireturn, 1) := by decide +kernel
theorem dX9_readPiece_65 : decode cX9_readPiece 65 = .ok (.aload_n 0, 1) := by decide +kernel
theorem dX9_readPiece_66 : decode cX9_readPiece 66 = .ok (.getfield 25, 3) := by decide +kernel
theorem dX9_readPiece_69 : decode cX9_readPiece 69 = .ok (.iload_n 2, 1) := by decide +kernel
theorem dX9_readPiece_70 : decode cX9_readPiece 70 = .ok (.if_icmp .ge 12, 3) := by decide +kernel
theorem dX9_readPiece_73 : decode cX9_readPiece 73 = .ok (.aload_n 0, 1) := by decide +kernel
theorem dX9_readPiece_74 : decode cX9_readPiece 74 = .ok (.getfield 25, 3) := by decide +kernel
theorem dX9_readPiece_77 : decode cX9_readPiece 77 = .ok (.bipush 20, 2) := by decide +kernel
theorem dX9_readPiece_79 : decode cX9_readPiece 79 = .ok (.if_icmp .lt 5, 3) := by decide +kernel
theorem dX9_readPiece_82 : decode cX9_readPiece 82 = .ok (.iconst 3, 1) := by decide +kernel
theorem dX9_readPiece_83 : decode cX9_readPiece 83 = .ok (.ireturn, 1) := by decide +kernel
theorem dX9_readPiece_84 : decode cX9_readPiece 84 = .ok (.aload_n 0, 1) := by decide +kernel
theorem dX9_readPiece_85 : decode cX9_readPiece 85 = .ok (.dup, 1) := by decide +kernel
theorem dX9_readPiece_86 : decode cX9_readPiece 86 = .ok (.getfield 28, 3) := by decide +kernel
theorem dX9_readPiece_89 : decode cX9_readPiece 89 = .ok (.iload_n 3, 1) := by decide +kernel
theorem dX9_readPiece_90 : decode cX9_readPiece 90 = .ok (.ifCond .eq 7, 3) := by decide +kernel
theorem dX9_readPiece_93 : decode cX9_readPiece 93 = .ok (.iconst 2, 1) := by decide +kernel
theorem dX9_readPiece_94 : decode cX9_readPiece 94 = .ok (.goto 4, 3) := by decide +kernel
theorem dX9_readPiece_97 : decode cX9_readPiece 97 = .ok (.iconst 1, 1) := by decide +kernel
theorem dX9_readPiece_98 : decode cX9_readPiece 98 = .ok (.iadd, 1) := by decide +kernel
theorem dX9_readPiece_99 : decode cX9_readPiece 99 = .ok (.putfield 28, 3) := by decide +kernel
theorem dX9_readPiece_102 : decode cX9_readPiece 102 = .ok (.aload_n 0, 1) := by decide +kernel
theorem dX9_readPiece_103 : decode cX9_readPiece 103 = .ok (.bipush 58, 2) := by decide +kernel
theorem dX9_readPiece_105 : decode cX9_readPiece 105 = .ok (.invokevirtual 50, 3) := by decide +kernel
theorem dX9_readPiece_108 : decode cX9_readPiece 108 = .ok (.ifCond .ne 5, 3) := by decide +kernel
theorem dX9_readPiece_111 : decode cX9_readPiece 111 = .ok (.iconst 1, 1) := by decide +kernel
theorem dX9_readPiece_112 : decode cX9_readPiece 112 = .ok (.ireturn, 1) := by decide +kernel
theorem dX9_readPiece_113 : decode cX9_readPiece 113 = .ok (.aload_n 0, 1) := by decide +kernel
theorem dX9_readPiece_114 : decode cX9_readPiece 114 = .ok (.invokevirtual 54, 3) := by decide +kernel
theorem dX9_readPiece_117 : decode cX9_readPiece 117 = .ok (.istore 5, 2) := by decide +kernel
theorem dX9_readPiece_119 : decode cX9_readPiece 119 = .ok (.aload_n 0, 1) := by decide +kernel
theorem dX9_readPiece_120 : decode cX9_readPiece 120 = .ok (.bipush 59, 2) := by decide +kernel
theorem dX9_readPiece_122 : decode cX9_readPiece 122 = .ok (.invokevirtual 50, 3) := by decide +kernel
theorem dX9_readPiece_125 : decode cX9_readPiece 125 = .ok (.ifCond .ne 5, 3) := by decide +kernel
theorem dX9_readPiece_128 : decode cX9_readPiece 128 = .ok (.iconst 1, 1) := by decide +kernel
theorem dX9_readPiece_129 : decode cX9_readPiece 129 = .ok (.ireturn, 1) := by decide +kernel
theorem dX9_readPiece_130 : decode cX9_readPiece 130 = .ok (.aload_n 0, 1) := by decide +kernel
theorem dX9_readPiece_131 : decode cX9_readPiece 131 = .ok (.getfield 15, 3) := by decide +kernel
theorem dX9_readPiece_134 : decode cX9_readPiece 134 = .ok (.aload_n 0, 1) := by decide +kernel
theorem dX9_readPiece_135 : decode cX9_readPiece 135 = .ok (.getfield 25, 3) := by decide +kernel
theorem dX9_readPiece_138 : decode cX9_readPiece 138 = .ok (.iload 4, 2) := by decide +kernel
theorem dX9_readPiece_140 : decode cX9_readPiece 140 = .ok (.iastore, 1) := by decide +kernel
theorem dX9_readPiece_141 : decode cX9_readPiece 141 = .ok (.aload_n 0, 1) := by decide +kernel
theorem dX9_readPiece_142 : decode cX9_readPiece 142 = .ok (.getfield 18, 3) := by decide +kernel
theorem dX9_readPiece_145 : decode cX9_readPiece 145 = .ok (.aload_n 0, 1) := by decide +kernel
theorem dX9_readPiece_146 : decode cX9_readPiece 146 = .ok (.getfield 25, 3) := by decide +kernel
theorem dX9_readPiece_149 : decode cX9_readPiece 149 = .ok (.iload 5, 2) := by decide +kernel
theorem dX9_readPiece_151 : decode cX9_readPiece 151 = .ok (.iastore, 1) := by decide +kernel
theorem dX9_readPiece_152 : decode cX9_readPiece 152 = .ok (.aload_n 0, 1) := by decide +kernel
theorem dX9_readPiece_153 : decode cX9_readPiece 153 = .ok (.dup, 1) := by decide +kernel
theorem dX9_readPiece_154 : decode cX9_readPiece 154 = .ok (.getfield 25, 3) := by decide +kernel
theorem dX9_readPiece_157 : decode cX9_readPiece 157 = .ok (.iconst 1, 1) := by decide +kernel
theorem dX9_readPiece_158 : decode cX9_readPiece 158 = .ok (.iadd, 1) := by decide +kernel
theorem dX9_readPiece_159 : decode cX9_readPiece 159 = .ok (.putfield 25, 3) := by decide +kernel
theorem dX9_readPiece_162 : decode cX9_readPiece 162 = .ok (.iconst 0, 1) := by decide +kernel
theorem dX9_readPiece_163 : decode cX9_readPiece 163 = .ok (.ireturn, 1) := by decide +kernel
theorem dX9_hasTwoFigures_0 : decode cX9_hasTwoFigures 0 = .ok (.aload_n 0, 1) := by decide +kernel
theorem dX9_hasTwoFigures_1 : decode cX9_hasTwoFigures 1 = .ok (.aload_n 0, 1) := by decide +kernel
theorem dX9_hasTwoFigures_2 : decode cX9_hasTwoFigures 2 = .ok (.getfield 28, 3) := by decide +kernel
theorem dX9_hasTwoFigures_5 : decode cX9_hasTwoFigures 5 = .ok (.iconst 1, 1) := by decide +kernel
theorem dX9_hasTwoFigures_6 : decode cX9_hasTwoFigures 6 = .ok (.iadd, 1) := by decide +kernel
theorem dX9_hasTwoFigures_7 : decode cX9_hasTwoFigures 7 = .ok (.invokevirtual 39, 3) := by decide +kernel
theorem dX9_hasTwoFigures_10 : decode cX9_hasTwoFigures 10 = .ok (.istore_n 1, 1) := by decide +kernel
theorem dX9_hasTwoFigures_11 : decode cX9_hasTwoFigures 11 = .ok (.aload_n 0, 1) := by decide +kernel
theorem dX9_hasTwoFigures_12 : decode cX9_hasTwoFigures 12 = .ok (.aload_n 0, 1) := by decide +kernel
theorem dX9_hasTwoFigures_13 : decode cX9_hasTwoFigures 13 = .ok (.getfield 28, 3) := by decide +kernel
theorem dX9_hasTwoFigures_16 : decode cX9_hasTwoFigures 16 = .ok (.invokevirtual 39, 3) := by decide +kernel
theorem dX9_hasTwoFigures_19 : decode cX9_hasTwoFigures 19 = .ok (.bipush 49, 2) := by decide +kernel
theorem dX9_hasTwoFigures_21 : decode cX9_hasTwoFigures 21 = .ok (.if_icmp .ne 19, 3) := by decide +kernel
theorem dX9_hasTwoFigures_24 : decode cX9_hasTwoFigures 24 = .ok (.iload_n 1, 1) := by decide +kernel
theorem dX9_hasTwoFigures_25 : decode cX9_hasTwoFigures 25 = .ok (.bipush 48, 2) := by decide +kernel
theorem dX9_hasTwoFigures_27 : decode cX9_hasTwoFigures 27 = .ok (.if_icmp .eq 9, 3) := by decide +kernel
theorem dX9_hasTwoFigures_30 : decode cX9_hasTwoFigures 30 = .ok (.iload_n 1, 1) := by decide +kernel
theorem dX9_hasTwoFigures_31 : decode cX9_hasTwoFigures 31 = .ok (.bipush 49, 2) := by decide +kernel
theorem dX9_hasTwoFigures_33 : decode cX9_hasTwoFigures 33 = .ok (.if_icmp .ne 7, 3) := by decide +kernel
theorem dX9_hasTwoFigures_36 : decode cX9_hasTwoFigures 36 = .ok (.iconst 1, 1) := by decide +kernel
theorem dX9_hasTwoFigures_37 : decode cX9_hasTwoFigures 37 = .ok (.goto 4, 3) := by decide +kernel
theorem dX9_hasTwoFigures_40 : decode cX9_hasTwoFigures 40 = .ok (.iconst 0, 1) := by decide +kernel
theorem dX9_hasTwoFigures_41 : decode cX9_hasTwoFigures 41 = .ok (.ireturn, 1) := by decide +kernel
theorem dX9_readWords_0 : decode cX9_readWords 0 = .ok (.iconst 0, 1) := by decide +kernel
theorem dX9_readWords_1 : decode cX9_readWords 1 = .ok (.istore_n 1, 1) := by decide +kernel
theorem dX9_readWords_2 : decode cX9_readWords 2 = .ok (.aload_n 0, 1) := by decide +kernel
theorem dX9_readWords_3 : decode cX9_readWords 3 = .ok (.getfield 28, 3) := by decide +kernel
theorem dX9_readWords_6 : decode cX9_readWords 6 = .ok (.aload_n 0, 1) := by decide +kernel
theorem dX9_readWords_7 : decode cX9_readWords 7 = .ok (.getfield 21, 3) := by decide +kernel
theorem dX9_readWords_10 : decode cX9_readWords 10 = .ok (.if_icmp .ge 50, 3) := by decide +kernel
theorem dX9_readWords_13 : decode cX9_readWords 13 = .ok (.aload_n 0, 1) := by decide +kernel
theorem dX9_readWords_14 : decode cX9_readWords 14 = .ok (.aload_n 0, 1) := by decide +kernel
theorem dX9_readWords_15 : decode cX9_readWords 15 = .ok (.getfield 28, 3) := by decide +kernel
theorem dX9_readWords_18 : decode cX9_readWords 18 = .ok (.invokevirtual 39, 3) := by decide +kernel
theorem dX9_readWords_21 : decode cX9_readWords 21 = .ok (.bipush 97, 2) := by decide +kernel
theorem dX9_readWords_23 : decode cX9_readWords 23 = .ok (.isub, 1) := by decide +kernel
theorem dX9_readWords_24 : decode cX9_readWords 24 = .ok (.invokestatic 58, 3) := by decide +kernel
theorem dX9_readWords_27 : decode cX9_readWords 27 = .ok (.ifCond .eq 33, 3) := by decide +kernel
theorem dX9_readWords_30 : decode cX9_readWords 30 = .ok (.iload_n 1, 1) := by decide +kernel
theorem dX9_readWords_31 : decode cX9_readWords 31 = .ok (.aload_n 0, 1) := by decide +kernel
theorem dX9_readWords_32 : decode cX9_readWords 32 = .ok (.aload_n 0, 1) := by decide +kernel
theorem dX9_readWords_33 : decode cX9_readWords 33 = .ok (.getfield 28, 3) := by decide +kernel
theorem dX9_readWords_36 : decode cX9_readWords 36 = .ok (.invokevirtual 39, 3) := by decide +kernel
theorem dX9_readWords_39 : decode cX9_readWords 39 = .ok (.bipush 97, 2) := by decide +kernel
theorem dX9_readWords_41 : decode cX9_readWords 41 = .ok (.isub, 1) := by decide +kernel
theorem dX9_readWords_42 : decode cX9_readWords 42 = .ok (.invokestatic 61, 3) := by decide +kernel
theorem dX9_readWords_45 : decode cX9_readWords 45 = .ok (.ior, 1) := by decide +kernel
theorem dX9_readWords_46 : decode cX9_readWords 46 = .ok (.istore_n 1, 1) := by decide +kernel
theorem dX9_readWords_47 : decode cX9_readWords 47 = .ok (.aload_n 0, 1) := by decide +kernel
theorem dX9_readWords_48 : decode cX9_readWords 48 = .ok (.dup, 1) := by decide +kernel
theorem dX9_readWords_49 : decode cX9_readWords 49 = .ok (.getfield 28, 3) := by decide +kernel
theorem dX9_readWords_52 : decode cX9_readWords 52 = .ok (.iconst 1, 1) := by decide +kernel
theorem dX9_readWords_53 : decode cX9_readWords 53 = .ok (.iadd, 1) := by decide +kernel
theorem dX9_readWords_54 : decode cX9_readWords 54 = .ok (.putfield 28, 3) := by decide +kernel
theorem dX9_readWords_57 : decode cX9_readWords 57 = .ok (.goto (-55), 3) := by decide +kernel
theorem dX9_readWords_60 : decode cX9_readWords 60 = .ok (.iload_n 1, 1) := by decide +kernel
theorem dX9_readWords_61 : decode cX9_readWords 61 = .ok (.ireturn, 1) := by decide +kernel
theorem dX9_passes_0 : decode cX9_passes 0 = .ok (.aload_n 0, 1) := by decide +kernel
theorem dX9_passes_1 : decode cX9_passes 1 = .ok (.aload_n 0, 1) := by decide +kernel
theorem dX9_passes_2 : decode cX9_passes 2 = .ok (.getfield 28, 3) := by decide +kernel
theorem dX9_passes_5 : decode cX9_passes 5 = .ok (.invokevirtual 39, 3) := by decide +kernel
theorem dX9_passes_8 : decode cX9_passes 8 = .ok (.iload_n 1, 1) := by decide +kernel
theorem dX9_passes_9 : decode cX9_passes 9 = .ok (.if_icmp .ne 7, 3) := by decide +kernel
theorem dX9_passes_12 : decode cX9_passes 12 = .ok (.iconst 1, 1) := by decide +kernel
theorem dX9_passes_13 : decode cX9_passes 13 = .ok (.goto 4, 3) := by decide +kernel
theorem dX9_passes_16 : decode cX9_passes 16 = .ok (.iconst 0, 1) := by decide +kernel
theorem dX9_passes_17 : decode cX9_passes 17 = .ok (.istore_n 2, 1) := by decide +kernel
theorem dX9_passes_18 : decode cX9_passes 18 = .ok (.iload_n 2, 1) := by decide +kernel
theorem dX9_passes_19 : decode cX9_passes 19 = .ok (.ifCond .eq 13, 3) := by decide +kernel
theorem dX9_passes_22 : decode cX9_passes 22 = .ok (.aload_n 0, 1) := by decide +kernel
theorem dX9_passes_23 : decode cX9_passes 23 = .ok (.dup, 1) := by decide +kernel
theorem dX9_passes_24 : decode cX9_passes 24 = .ok (.getfield 28, 3) := by decide +kernel
theorem dX9_passes_27 : decode cX9_passes 27 = .ok (.iconst 1, 1) := by decide +kernel
theorem dX9_passes_28 : decode cX9_passes 28 = .ok (.iadd, 1) := by decide +kernel
theorem dX9_passes_29 : decode cX9_passes 29 = .ok (.putfield 28, 3) := by decide +kernel
theorem dX9_passes_32 : decode cX9_passes 32 = .ok (.iload_n 2, 1) := by decide +kernel
theorem dX9_passes_33 : decode cX9_passes 33 = .ok (.ireturn, 1) := by decide +kernel
theorem dX9_letterAt_0 : decode cX9_letterAt 0 = .ok (.iload_n 1, 1) := by decide +kernel
theorem dX9_letterAt_1 : decode cX9_letterAt 1 = .ok (.ifCond .lt 20, 3) := by decide +kernel
theorem dX9_letterAt_4 : decode cX9_letterAt 4 = .ok (.iload_n 1, 1) := by decide +kernel
theorem dX9_letterAt_5 : decode cX9_letterAt 5 = .ok (.aload_n 0, 1) := by decide +kernel
theorem dX9_letterAt_6 : decode cX9_letterAt 6 = .ok (.getfield 21, 3) := by decide +kernel
theorem dX9_letterAt_9 : decode cX9_letterAt 9 = .ok (.if_icmp .ge 12, 3) := by decide +kernel
theorem dX9_letterAt_12 : decode cX9_letterAt 12 = .ok (.aload_n 0, 1) := by decide +kernel
theorem dX9_letterAt_13 : decode cX9_letterAt 13 = .ok (.getfield 11, 3) := by decide +kernel
theorem dX9_letterAt_16 : decode cX9_letterAt 16 = .ok (.iload_n 1, 1) := by decide +kernel
theorem dX9_letterAt_17 : decode cX9_letterAt 17 = .ok (.iaload, 1) := by decide +kernel
theorem dX9_letterAt_18 : decode cX9_letterAt 18 = .ok (.goto 4, 3) := by decide +kernel
theorem dX9_letterAt_21 : decode cX9_letterAt 21 = .ok (.iconst (-1), 1) := by decide +kernel
theorem dX9_letterAt_22 : decode cX9_letterAt 22 = .ok (.ireturn, 1) := by decide +kernel
theorem dX9_isFigure_0 : decode cX9_isFigure 0 = .ok (.iload_n 0, 1) := by decide +kernel
theorem dX9_isFigure_1 : decode cX9_isFigure 1 = .ok (.bipush 48, 2) := by decide +kernel
theorem dX9_isFigure_3 : decode cX9_isFigure 3 = .ok (.if_icmp .lt 13, 3) := by decide +kernel
theorem dX9_isFigure_6 : decode cX9_isFigure 6 = .ok (.iload_n 0, 1) := by decide +kernel
theorem dX9_isFigure_7 : decode cX9_isFigure 7 = .ok (.bipush 57, 2) := by decide +kernel
theorem dX9_isFigure_9 : decode cX9_isFigure 9 = .ok (.if_icmp .gt 7, 3) := by decide +kernel
theorem dX9_isFigure_12 : decode cX9_isFigure 12 = .ok (.iconst 1, 1) := by decide +kernel
theorem dX9_isFigure_13 : decode cX9_isFigure 13 = .ok (.goto 4, 3) := by decide +kernel
theorem dX9_isFigure_16 : decode cX9_isFigure 16 = .ok (.iconst 0, 1) := by decide +kernel
theorem dX9_isFigure_17 : decode cX9_isFigure 17 = .ok (.ireturn, 1) := by decide +kernel
