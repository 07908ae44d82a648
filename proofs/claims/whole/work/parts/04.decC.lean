theorem dX0_init_0 : decode cX0_init 0 = .ok (.aload_n 0, 1) := by decide +kernel
theorem dX0_init_1 : decode cX0_init 1 = .ok (.invokespecial 3, 3) := by decide +kernel
theorem dX0_init_4 : decode cX0_init 4 = .ok (.aload_n 0, 1) := by decide +kernel
theorem dX0_init_5 : decode cX0_init 5 = .ok (.bipush 12, 2) := by decide +kernel
theorem dX0_init_7 : decode cX0_init 7 = .ok (.newarray .int, 2) := by decide +kernel
theorem dX0_init_9 : decode cX0_init 9 = .ok (.putfield 9, 3) := by decide +kernel
theorem dX0_init_12 : decode cX0_init 12 = .ok (.aload_n 0, 1) := by decide +kernel
theorem dX0_init_13 : decode cX0_init 13 = .ok (.bipush 12, 2) := by decide +kernel
theorem dX0_init_15 : decode cX0_init 15 = .ok (.newarray .int, 2) := by decide +kernel
theorem dX0_init_17 : decode cX0_init 17 = .ok (.putfield 15, 3) := by decide +kernel
theorem dX0_init_20 : decode cX0_init 20 = .ok (.aload_n 0, 1) := by decide +kernel
theorem dX0_init_21 : decode cX0_init 21 = .ok (.bipush 12, 2) := by decide +kernel
theorem dX0_init_23 : decode cX0_init 23 = .ok (.newarray .int, 2) := by decide +kernel
theorem dX0_init_25 : decode cX0_init 25 = .ok (.putfield 18, 3) := by decide +kernel
theorem dX0_init_28 : decode cX0_init 28 = .ok (.return_, 1) := by decide +kernel
theorem dX0_count_0 : decode cX0_count 0 = .ok (.aload_n 0, 1) := by decide +kernel
theorem dX0_count_1 : decode cX0_count 1 = .ok (.getfield 21, 3) := by decide +kernel
theorem dX0_count_4 : decode cX0_count 4 = .ok (.ireturn, 1) := by decide +kernel
theorem dX0_isFull_0 : decode cX0_isFull 0 = .ok (.aload_n 0, 1) := by decide +kernel
theorem dX0_isFull_1 : decode cX0_isFull 1 = .ok (.getfield 21, 3) := by decide +kernel
theorem dX0_isFull_4 : decode cX0_isFull 4 = .ok (.bipush 12, 2) := by decide +kernel
theorem dX0_isFull_6 : decode cX0_isFull 6 = .ok (.if_icmp .lt 7, 3) := by decide +kernel
theorem dX0_isFull_9 : decode cX0_isFull 9 = .ok (.iconst 1, 1) := by decide +kernel
theorem dX0_isFull_10 : decode cX0_isFull 10 = .ok (.goto 4, 3) := by decide +kernel
theorem dX0_isFull_13 : decode cX0_isFull 13 = .ok (.iconst 0, 1) := by decide +kernel
theorem dX0_isFull_14 : decode cX0_isFull 14 = .ok (.ireturn, 1) := by decide +kernel
theorem dX0_has_0 : decode cX0_has 0 = .ok (.iload_n 1, 1) := by decide +kernel
theorem dX0_has_1 : decode cX0_has 1 = .ok (.ifCond .lt 15, 3) := by decide +kernel
theorem dX0_has_4 : decode cX0_has 4 = .ok (.iload_n 1, 1) := by decide +kernel
theorem dX0_has_5 : decode cX0_has 5 = .ok (.aload_n 0, 1) := by decide +kernel
theorem dX0_has_6 : decode cX0_has 6 = .ok (.getfield 21, 3) := by decide +kernel
theorem dX0_has_9 : decode cX0_has 9 = .ok (.if_icmp .ge 7, 3) := by decide +kernel
theorem dX0_has_12 : decode cX0_has 12 = .ok (.iconst 1, 1) := by decide +kernel
theorem dX0_has_13 : decode cX0_has 13 = .ok (.goto 4, 3) := by decide +kernel
theorem dX0_has_16 : decode cX0_has 16 = .ok (.iconst 0, 1) := by decide +kernel
theorem dX0_has_17 : decode cX0_has 17 = .ok (.ireturn, 1) := by decide +kernel
theorem dX0_add_0 : decode cX0_add 0 = .ok (.aload_n 0, 1) := by decide +kernel
theorem dX0_add_1 : decode cX0_add 1 = .ok (.invokevirtual 25, 3) := by decide +kernel
theorem dX0_add_4 : decode cX0_add 4 = .ok (.ifCond .ne 43, 3) := by decide +kernel
theorem dX0_add_7 : decode cX0_add 7 = .ok (.aload_n 0, 1) := by decide +kernel
theorem dX0_add_8 : decode cX0_add 8 = .ok (.getfield 9, 3) := by decide +kernel
theorem dX0_add_11 : decode cX0_add 11 = .ok (.aload_n 0, 1) := by decide +kernel
theorem dX0_add_12 : decode cX0_add 12 = .ok (.getfield 21, 3) := by decide +kernel
theorem dX0_add_15 : decode cX0_add 15 = .ok (.iload_n 1, 1) := by decide +kernel
theorem dX0_add_16 : decode cX0_add 16 = .ok (.iastore, 1) := by decide +kernel
theorem dX0_add_17 : decode cX0_add 17 = .ok (.aload_n 0, 1) := by decide +kernel
theorem dX0_add_18 : decode cX0_add 18 = .ok (.getfield 15, 3) := by decide +kernel
theorem dX0_add_21 : decode cX0_add 21 = .ok (.aload_n 0, 1) := by decide +kernel
theorem dX0_add_22 : decode cX0_add 22 = .ok (.getfield 21, 3) := by decide +kernel
theorem dX0_add_25 : decode cX0_add 25 = .ok (.iload_n 2, 1) := by decide +kernel
theorem dX0_add_26 : decode cX0_add 26 = .ok (.iastore, 1) := by decide +kernel
theorem dX0_add_27 : decode cX0_add 27 = .ok (.aload_n 0, 1) := by decide +kernel
theorem dX0_add_28 : decode cX0_add 28 = .ok (.getfield 18, 3) := by decide +kernel
theorem dX0_add_31 : decode cX0_add 31 = .ok (.aload_n 0, 1) := by decide +kernel
theorem dX0_add_32 : decode cX0_add 32 = .ok (.getfield 21, 3) := by decide +kernel
theorem dX0_add_35 : decode cX0_add 35 = .ok (.iload_n 3, 1) := by decide +kernel
theorem dX0_add_36 : decode cX0_add 36 = .ok (.iastore, 1) := by decide +kernel
theorem dX0_add_37 : decode cX0_add 37 = .ok (.aload_n 0, 1) := by decide +kernel
theorem dX0_add_38 : decode cX0_add 38 = .ok (.dup, 1) := by decide +kernel
theorem dX0_add_39 : decode cX0_add 39 = .ok (.getfield 21, 3) := by decide +kernel
theorem dX0_add_42 : decode cX0_add 42 = .ok (.iconst 1, 1) := by decide +kernel
theorem dX0_add_43 : decode cX0_add 43 = .ok (.iadd, 1) := by decide +kernel
theorem dX0_add_44 : decode cX0_add 44 = .ok (.putfield 21, 3) := by decide +kernel
theorem dX0_add_47 : decode cX0_add 47 = .ok (.return_, 1) := by decide +kernel
theorem dX0_yearOf_0 : decode cX0_yearOf 0 = .ok (.aload_n 0, 1) := by decide +kernel
theorem dX0_yearOf_1 : decode cX0_yearOf 1 = .ok (.getfield 9, 3) := by decide +kernel
theorem dX0_yearOf_4 : decode cX0_yearOf 4 = .ok (.iload_n 1, 1) := by decide +kernel
theorem dX0_yearOf_5 : decode cX0_yearOf 5 = .ok (.invokestatic 29, 3) := by decide +kernel
theorem dX0_yearOf_8 : decode cX0_yearOf 8 = .ok (.ireturn, 1) := by decide +kernel
theorem dX0_schoolOf_0 : decode cX0_schoolOf 0 = .ok (.aload_n 0, 1) := by decide +kernel
theorem dX0_schoolOf_1 : decode cX0_schoolOf 1 = .ok (.getfield 15, 3) := by decide +kernel
theorem dX0_schoolOf_4 : decode cX0_schoolOf 4 = .ok (.iload_n 1, 1) := by decide +kernel
theorem dX0_schoolOf_5 : decode cX0_schoolOf 5 = .ok (.invokestatic 29, 3) := by decide +kernel
theorem dX0_schoolOf_8 : decode cX0_schoolOf 8 = .ok (.ireturn, 1) := by decide +kernel
theorem dX0_latestCalled_0 : decode cX0_latestCalled 0 = .ok (.iconst (-1), 1) := by decide +kernel
theorem dX0_latestCalled_1 : decode cX0_latestCalled 1 = .ok (.istore_n 3, 1) := by decide +kernel
theorem dX0_latestCalled_2 : decode cX0_latestCalled 2 = .ok (.iconst 0, 1) := by decide +kernel
theorem dX0_latestCalled_3 : decode cX0_latestCalled 3 = .ok (.istore 4, 2) := by decide +kernel
theorem dX0_latestCalled_5 : decode cX0_latestCalled 5 = .ok (.iload 4, 2) := by decide +kernel
theorem dX0_latestCalled_7 : decode cX0_latestCalled 7 = .ok (.aload_n 0, 1) := by decide +kernel
theorem dX0_latestCalled_8 : decode cX0_latestCalled 8 = .ok (.getfield 21, 3) := by decide +kernel
theorem dX0_latestCalled_11 : decode cX0_latestCalled 11 = .ok (.if_icmp .ge 39, 3) := by decide +kernel
theorem dX0_latestCalled_14 : decode cX0_latestCalled 14 = .ok (.aload_n 0, 1) := by decide +kernel
theorem dX0_latestCalled_15 : decode cX0_latestCalled 15 = .ok (.getfield 18, 3) := by decide +kernel
theorem dX0_latestCalled_18 : decode cX0_latestCalled 18 = .ok (.iload 4, 2) := by decide +kernel
theorem dX0_latestCalled_20 : decode cX0_latestCalled 20 = .ok (.iaload, 1) := by decide +kernel
theorem dX0_latestCalled_21 : decode cX0_latestCalled 21 = .ok (.iload_n 1, 1) := by decide +kernel
theorem dX0_latestCalled_22 : decode cX0_latestCalled 22 = .ok (.if_icmp .ne 22, 3) := by decide +kernel
theorem dX0_latestCalled_25 : decode cX0_latestCalled 25 = .ok (.aload_n 0, 1) := by decide +kernel
theorem dX0_latestCalled_26 : decode cX0_latestCalled 26 = .ok (.getfield 9, 3) := by decide +kernel
theorem dX0_latestCalled_29 : decode cX0_latestCalled 29 = .ok (.iload 4, 2) := by decide +kernel
theorem dX0_latestCalled_31 : decode cX0_latestCalled 31 = .ok (.iaload, 1) := by decide +kernel
theorem dX0_latestCalled_32 : decode cX0_latestCalled 32 = .ok (.iload_n 2, 1) := by decide +kernel
theorem dX0_latestCalled_33 : decode cX0_latestCalled 33 = .ok (.if_icmp .gt 11, 3) := by decide +kernel
theorem dX0_latestCalled_36 : decode cX0_latestCalled 36 = .ok (.aload_n 0, 1) := by decide +kernel
theorem dX0_latestCalled_37 : decode cX0_latestCalled 37 = .ok (.iload_n 3, 1) := by decide +kernel
theorem dX0_latestCalled_38 : decode cX0_latestCalled 38 = .ok (.iload 4, 2) := by decide +kernel
theorem dX0_latestCalled_40 : decode cX0_latestCalled 40 = .ok (.invokevirtual 33, 3) := by decide +kernel
theorem dX0_latestCalled_43 : decode cX0_latestCalled 43 = .ok (.istore_n 3, 1) := by decide +kernel
theorem dX0_latestCalled_44 : decode cX0_latestCalled 44 = .ok (.iinc 4 1, 3) := by decide +kernel
theorem dX0_latestCalled_47 : decode cX0_latestCalled 47 = .ok (.goto (-42), 3) := by decide +kernel
theorem dX0_latestCalled_50 : decode cX0_latestCalled 50 = .ok (.iload_n 3, 1) := by decide +kernel
theorem dX0_latestCalled_51 : decode cX0_latestCalled 51 = .ok (.ireturn, 1) := by decide +kernel
theorem dX0_latestAmong_0 : decode cX0_latestAmong 0 = .ok (.iconst (-1), 1) := by decide +kernel
theorem dX0_latestAmong_1 : decode cX0_latestAmong 1 = .ok (.istore_n 3, 1) := by decide +kernel
theorem dX0_latestAmong_2 : decode cX0_latestAmong 2 = .ok (.iconst 0, 1) := by decide +kernel
theorem dX0_latestAmong_3 : decode cX0_latestAmong 3 = .ok (.istore 4, 2) := by decide +kernel
theorem dX0_latestAmong_5 : decode cX0_latestAmong 5 = .ok (.iload 4, 2) := by decide +kernel
theorem dX0_latestAmong_7 : decode cX0_latestAmong 7 = .ok (.aload_n 0, 1) := by decide +kernel
theorem dX0_latestAmong_8 : decode cX0_latestAmong 8 = .ok (.getfield 21, 3) := by decide +kernel
theorem dX0_latestAmong_11 : decode cX0_latestAmong 11 = .ok (.if_icmp .ge 43, 3) := by decide +kernel
theorem dX0_latestAmong_14 : decode cX0_latestAmong 14 = .ok (.iload_n 1, 1) := by decide +kernel
theorem dX0_latestAmong_15 : decode cX0_latestAmong 15 = .ok (.iload 4, 2) := by decide +kernel
theorem dX0_latestAmong_17 : decode cX0_latestAmong 17 = .ok (.ishr, 1) := by decide +kernel
theorem dX0_latestAmong_18 : decode cX0_latestAmong 18 = .ok (.iconst 1, 1) := by decide +kernel
theorem dX0_latestAmong_19 : decode cX0_latestAmong 19 = .ok (.iand, 1) := by decide +kernel
theorem dX0_latestAmong_20 : decode cX0_latestAmong 20 = .ok (.iconst 1, 1) := by decide +kernel
theorem dX0_latestAmong_21 : decode cX0_latestAmong 21 = .ok (.if_icmp .ne 27, 3) := by decide +kernel
theorem dX0_latestAmong_24 : decode cX0_latestAmong 24 = .ok (.iload_n 2, 1) := by decide +kernel
theorem dX0_latestAmong_25 : decode cX0_latestAmong 25 = .ok (.iconst (-1), 1) := by decide +kernel
theorem dX0_latestAmong_26 : decode cX0_latestAmong 26 = .ok (.if_icmp .eq 14, 3) := by decide +kernel
theorem dX0_latestAmong_29 : decode cX0_latestAmong 29 = .ok (.aload_n 0, 1) := by decide +kernel
theorem dX0_latestAmong_30 : decode cX0_latestAmong 30 = .ok (.getfield 15, 3) := by decide +kernel
theorem dX0_latestAmong_33 : decode cX0_latestAmong 33 = .ok (.iload 4, 2) := by decide +kernel
theorem dX0_latestAmong_35 : decode cX0_latestAmong 35 = .ok (.iaload, 1) := by decide +kernel
theorem dX0_latestAmong_36 : decode cX0_latestAmong 36 = .ok (.iload_n 2, 1) := by decide +kernel
theorem dX0_latestAmong_37 : decode cX0_latestAmong 37 = .ok (.if_icmp .ne 11, 3) := by decide +kernel
theorem dX0_latestAmong_40 : decode cX0_latestAmong 40 = .ok (.aload_n 0, 1) := by decide +kernel
theorem dX0_latestAmong_41 : decode cX0_latestAmong 41 = .ok (.iload_n 3, 1) := by decide +kernel
theorem dX0_latestAmong_42 : decode cX0_latestAmong 42 = .ok (.iload 4, 2) := by decide +kernel
theorem dX0_latestAmong_44 : decode cX0_latestAmong 44 = .ok (.invokevirtual 33, 3) := by decide +kernel
theorem dX0_latestAmong_47 : decode cX0_latestAmong 47 = .ok (.istore_n 3, 1) := by decide +kernel
theorem dX0_latestAmong_48 : decode cX0_latestAmong 48 = .ok (.iinc 4 1, 3) := by decide +kernel
theorem dX0_latestAmong_51 : decode cX0_latestAmong 51 = .ok (.goto (-46), 3) := by decide +kernel
theorem dX0_latestAmong_54 : decode cX0_latestAmong 54 = .ok (.iload_n 3, 1) := by decide +kernel
theorem dX0_latestAmong_55 : decode cX0_latestAmong 55 = .ok (.ireturn, 1) := by decide +kernel
theorem dX0_later_0 : decode cX0_later 0 = .ok (.iload_n 1, 1) := by decide +kernel
theorem dX0_later_1 : decode cX0_later 1 = .ok (.iconst (-1), 1) := by decide +kernel
theorem dX0_later_2 : decode cX0_later 2 = .ok (.if_icmp .eq 16, 3) := by decide +kernel
theorem dX0_later_5 : decode cX0_later 5 = .ok (.aload_n 0, 1) := by decide +kernel
theorem dX0_later_6 : decode cX0_later 6 = .ok (.iload_n 2, 1) := by decide +kernel
theorem dX0_later_7 : decode cX0_later 7 = .ok (.invokevirtual 37, 3) := by decide +kernel
theorem dX0_later_10 : decode cX0_later 10 = .ok (.aload_n 0, 1) := by decide +kernel
theorem dX0_later_11 : decode cX0_later 11 = .ok (.iload_n 1, 1) := by decide +kernel
theorem dX0_later_12 : decode cX0_later 12 = .ok (.invokevirtual 37, 3) := by decide +kernel
theorem dX0_later_15 : decode cX0_later 15 = .ok (.if_icmp .le 7, 3) := by decide +kernel
theorem dX0_later_18 : decode cX0_later 18 = .ok (.iload_n 2, 1) := by decide +kernel
theorem dX0_later_19 : decode cX0_later 19 = .ok (.goto 4, 3) := by decide +kernel
theorem dX0_later_22 : decode cX0_later 22 = .ok (.iload_n 1, 1) := by decide +kernel
theorem dX0_later_23 : decode cX0_later 23 = .ok (.ireturn, 1) := by decide +kernel
theorem dX1_init_0 : decode cX1_init 0 = .ok (.aload_n 0, 1) := by decide +kernel
theorem dX1_init_1 : decode cX1_init 1 = .ok (.invokespecial 3, 3) := by decide +kernel
theorem dX1_init_4 : decode cX1_init 4 = .ok (.aload_n 0, 1) := by decide +kernel
theorem dX1_init_5 : decode cX1_init 5 = .ok (.bipush 60, 2) := by decide +kernel
theorem dX1_init_7 : decode cX1_init 7 = .ok (.newarray .int, 2) := by decide +kernel
theorem dX1_init_9 : decode cX1_init 9 = .ok (.putfield 9, 3) := by decide +kernel
theorem dX1_init_12 : decode cX1_init 12 = .ok (.aload_n 0, 1) := by decide +kernel
theorem dX1_init_13 : decode cX1_init 13 = .ok (.bipush 60, 2) := by decide +kernel
theorem dX1_init_15 : decode cX1_init 15 = .ok (.newarray .int, 2) := by decide +kernel
theorem dX1_init_17 : decode cX1_init 17 = .ok (.putfield 15, 3) := by decide +kernel
theorem dX1_init_20 : decode cX1_init 20 = .ok (.aload_n 0, 1) := by decide +kernel
theorem dX1_init_21 : decode cX1_init 21 = .ok (.bipush 60, 2) := by decide +kernel
theorem dX1_init_23 : decode cX1_init 23 = .ok (.newarray .int, 2) := by decide +kernel
theorem dX1_init_25 : decode cX1_init 25 = .ok (.putfield 18, 3) := by decide +kernel
theorem dX1_init_28 : decode cX1_init 28 = .ok (.aload_n 0, 1) := by decide +kernel
theorem dX1_init_29 : decode cX1_init 29 = .ok (.bipush 60, 2) := by decide +kernel
theorem dX1_init_31 : decode cX1_init 31 = .ok (.newarray .int, 2) := by decide +kernel
theorem dX1_init_33 : decode cX1_init 33 = .ok (.putfield 21, 3) := by decide +kernel
theorem dX1_init_36 : decode cX1_init 36 = .ok (.aload_n 0, 1) := by decide +kernel
theorem dX1_init_37 : decode cX1_init 37 = .ok (.bipush 60, 2) := by decide +kernel
theorem dX1_init_39 : decode cX1_init 39 = .ok (.newarray .int, 2) := by decide +kernel
theorem dX1_init_41 : decode cX1_init 41 = .ok (.putfield 24, 3) := by decide +kernel
theorem dX1_init_44 : decode cX1_init 44 = .ok (.aload_n 0, 1) := by decide +kernel
theorem dX1_init_45 : decode cX1_init 45 = .ok (.bipush 60, 2) := by decide +kernel
theorem dX1_init_47 : decode cX1_init 47 = .ok (.newarray .int, 2) := by decide +kernel
theorem dX1_init_49 : decode cX1_init 49 = .ok (.putfield 27, 3) := by decide +kernel
theorem dX1_init_52 : decode cX1_init 52 = .ok (.aload_n 0, 1) := by decide +kernel
theorem dX1_init_53 : decode cX1_init 53 = .ok (.bipush 60, 2) := by decide +kernel
theorem dX1_init_55 : decode cX1_init 55 = .ok (.newarray .int, 2) := by decide +kernel
theorem dX1_init_57 : decode cX1_init 57 = .ok (.putfield 30, 3) := by decide +kernel
theorem dX1_init_60 : decode cX1_init 60 = .ok (.aload_n 0, 1) := by decide +kernel
theorem dX1_init_61 : decode cX1_init 61 = .ok (.bipush 60, 2) := by decide +kernel
theorem dX1_init_63 : decode cX1_init 63 = .ok (.newarray .int, 2) := by decide +kernel
theorem dX1_init_65 : decode cX1_init 65 = .ok (.putfield 33, 3) := by decide +kernel
theorem dX1_init_68 : decode cX1_init 68 = .ok (.aload_n 0, 1) := by decide +kernel
theorem dX1_init_69 : decode cX1_init 69 = .ok (.bipush 60, 2) := by decide +kernel
theorem dX1_init_71 : decode cX1_init 71 = .ok (.newarray .int, 2) := by decide +kernel
theorem dX1_init_73 : decode cX1_init 73 = .ok (.putfield 36, 3) := by decide +kernel
theorem dX1_init_76 : decode cX1_init 76 = .ok (.aload_n 0, 1) := by decide +kernel
theorem dX1_init_77 : decode cX1_init 77 = .ok (.bipush 60, 2) := by decide +kernel
theorem dX1_init_79 : decode cX1_init 79 = .ok (.newarray .boolean, 2) := by decide +kernel
theorem dX1_init_81 : decode cX1_init 81 = .ok (.putfield 39, 3) := by decide +kernel
theorem dX1_init_84 : decode cX1_init 84 = .ok (.aload_n 0, 1) := by decide +kernel
theorem dX1_init_85 : decode cX1_init 85 = .ok (.bipush 60, 2) := by decide +kernel
theorem dX1_init_87 : decode cX1_init 87 = .ok (.newarray .int, 2) := by decide +kernel
theorem dX1_init_89 : decode cX1_init 89 = .ok (.putfield 43, 3) := by decide +kernel
theorem dX1_init_92 : decode cX1_init 92 = .ok (.return_, 1) := by decide +kernel
theorem dX1_count_0 : decode cX1_count 0 = .ok (.aload_n 0, 1) := by decide +kernel
theorem dX1_count_1 : decode cX1_count 1 = .ok (.getfield 46, 3) := by decide +kernel
theorem dX1_count_4 : decode cX1_count 4 = .ok (.ireturn, 1) := by decide +kernel
theorem dX1_isFull_0 : decode cX1_isFull 0 = .ok (.aload_n 0, 1) := by decide +kernel
theorem dX1_isFull_1 : decode cX1_isFull 1 = .ok (.getfield 46, 3) := by decide +kernel
theorem dX1_isFull_4 : decode cX1_isFull 4 = .ok (.bipush 60, 2) := by decide +kernel
theorem dX1_isFull_6 : decode cX1_isFull 6 = .ok (.if_icmp .lt 7, 3) := by decide +kernel
theorem dX1_isFull_9 : decode cX1_isFull 9 = .ok (.iconst 1, 1) := by decide +kernel
theorem dX1_isFull_10 : decode cX1_isFull 10 = .ok (.goto 4, 3) := by decide +kernel
theorem dX1_isFull_13 : decode cX1_isFull 13 = .ok (.iconst 0, 1) := by decide +kernel
theorem dX1_isFull_14 : decode cX1_isFull 14 = .ok (.ireturn, 1) := by decide +kernel
theorem dX1_has_0 : decode cX1_has 0 = .ok (.iload_n 1, 1) := by decide +kernel
theorem dX1_has_1 : decode cX1_has 1 = .ok (.ifCond .lt 15, 3) := by decide +kernel
theorem dX1_has_4 : decode cX1_has 4 = .ok (.iload_n 1, 1) := by decide +kernel
theorem dX1_has_5 : decode cX1_has 5 = .ok (.aload_n 0, 1) := by decide +kernel
theorem dX1_has_6 : decode cX1_has 6 = .ok (.getfield 46, 3) := by decide +kernel
theorem dX1_has_9 : decode cX1_has 9 = .ok (.if_icmp .ge 7, 3) := by decide +kernel
theorem dX1_has_12 : decode cX1_has 12 = .ok (.iconst 1, 1) := by decide +kernel
theorem dX1_has_13 : decode cX1_has 13 = .ok (.goto 4, 3) := by decide +kernel
theorem dX1_has_16 : decode cX1_has 16 = .ok (.iconst 0, 1) := by decide +kernel
theorem dX1_has_17 : decode cX1_has 17 = .ok (.ireturn, 1) := by decide +kernel
theorem dX1_add_0 : decode cX1_add 0 = .ok (.aload_n 0, 1) := by decide +kernel
theorem dX1_add_1 : decode cX1_add 1 = .ok (.invokevirtual 50, 3) := by decide +kernel
theorem dX1_add_4 : decode cX1_add 4 = .ok (.ifCond .eq 5, 3) := by decide +kernel
theorem dX1_add_7 : decode cX1_add 7 = .ok (.iconst (-1), 1) := by decide +kernel
theorem dX1_add_8 : decode cX1_add 8 = .ok (.ireturn, 1) := by decide +kernel
theorem dX1_add_9 : decode cX1_add 9 = .ok (.aload_n 0, 1) := by decide +kernel
theorem dX1_add_10 : decode cX1_add 10 = .ok (.getfield 9, 3) := by decide +kernel
theorem dX1_add_13 : decode cX1_add 13 = .ok (.aload_n 0, 1) := by decide +kernel
theorem dX1_add_14 : decode cX1_add 14 = .ok (.getfield 46, 3) := by decide +kernel
theorem dX1_add_17 : decode cX1_add 17 = .ok (.iload_n 1, 1) := by decide +kernel
theorem dX1_add_18 : decode cX1_add 18 = .ok (.iastore, 1) := by decide +kernel
theorem dX1_add_19 : decode cX1_add 19 = .ok (.aload_n 0, 1) := by decide +kernel
theorem dX1_add_20 : decode cX1_add 20 = .ok (.getfield 15, 3) := by decide +kernel
theorem dX1_add_23 : decode cX1_add 23 = .ok (.aload_n 0, 1) := by decide +kernel
theorem dX1_add_24 : decode cX1_add 24 = .ok (.getfield 46, 3) := by decide +kernel
theorem dX1_add_27 : decode cX1_add 27 = .ok (.iload_n 2, 1) := by decide +kernel
theorem dX1_add_28 : decode cX1_add 28 = .ok (.iastore, 1) := by decide +kernel
theorem dX1_add_29 : decode cX1_add 29 = .ok (.aload_n 0, 1) := by decide +kernel
theorem dX1_add_30 : decode cX1_add 30 = .ok (.getfield 18, 3) := by decide +kernel
theorem dX1_add_33 : decode cX1_add 33 = .ok (.aload_n 0, 1) := by decide +kernel
theorem dX1_add_34 : decode cX1_add 34 = .ok (.getfield 46, 3) := by decide +kernel
theorem dX1_add_37 : decode cX1_add 37 = .ok (.iload_n 3, 1) := by decide +kernel
theorem dX1_add_38 : decode cX1_add 38 = .ok (.iastore, 1) := by decide +kernel
theorem dX1_add_39 : decode cX1_add 39 = .ok (.aload_n 0, 1) := by decide +kernel
theorem dX1_add_40 : decode cX1_add 40 = .ok (.getfield 21, 3) := by decide +kernel
theorem dX1_add_43 : decode cX1_add 43 = .ok (.aload_n 0, 1) := by decide +kernel
theorem dX1_add_44 : decode cX1_add 44 = .ok (.getfield 46, 3) := by decide +kernel
theorem dX1_add_47 : decode cX1_add 47 = .ok (.iload 4, 2) := by decide +kernel
theorem dX1_add_49 : decode cX1_add 49 = .ok (.iastore, 1) := by decide +kernel
theorem dX1_add_50 : decode cX1_add 50 = .ok (.aload_n 0, 1) := by decide +kernel
theorem dX1_add_51 : decode cX1_add 51 = .ok (.dup, 1) := by decide +kernel
theorem dX1_add_52 : decode cX1_add 52 = .ok (.getfield 46, 3) := by decide +kernel
theorem dX1_add_55 : decode cX1_add 55 = .ok (.iconst 1, 1) := by decide +kernel
theorem dX1_add_56 : decode cX1_add 56 = .ok (.iadd, 1) := by decide +kernel
theorem dX1_add_57 : decode cX1_add 57 = .ok (.putfield 46, 3) := by decide +kernel
theorem dX1_add_60 : decode cX1_add 60 = .ok (.aload_n 0, 1) := by decide +kernel
theorem dX1_add_61 : decode cX1_add 61 = .ok (.getfield 46, 3) := by decide +kernel
theorem dX1_add_64 : decode cX1_add 64 = .ok (.iconst 1, 1) := by decide +kernel
theorem dX1_add_65 : decode cX1_add 65 = .ok (.isub, 1) := by decide +kernel
theorem dX1_add_66 : decode cX1_add 66 = .ok (.ireturn, 1) := by decide +kernel
theorem dX1_hookTo_0 : decode cX1_hookTo 0 = .ok (.aload_n 0, 1) := by decide +kernel
theorem dX1_hookTo_1 : decode cX1_hookTo 1 = .ok (.iload_n 1, 1) := by decide +kernel
theorem dX1_hookTo_2 : decode cX1_hookTo 2 = .ok (.invokevirtual 54, 3) := by decide +kernel
theorem dX1_hookTo_5 : decode cX1_hookTo 5 = .ok (.ifCond .eq 39, 3) := by decide +kernel
theorem dX1_hookTo_8 : decode cX1_hookTo 8 = .ok (.aload_n 0, 1) := by decide +kernel
theorem dX1_hookTo_9 : decode cX1_hookTo 9 = .ok (.getfield 24, 3) := by decide +kernel
theorem dX1_hookTo_12 : decode cX1_hookTo 12 = .ok (.iload_n 1, 1) := by decide +kernel
theorem dX1_hookTo_13 : decode cX1_hookTo 13 = .ok (.iconst (-1), 1) := by decide +kernel
theorem dX1_hookTo_14 : decode cX1_hookTo 14 = .ok (.iastore, 1) := by decide +kernel
theorem dX1_hookTo_15 : decode cX1_hookTo 15 = .ok (.aload_n 0, 1) := by decide +kernel
theorem dX1_hookTo_16 : decode cX1_hookTo 16 = .ok (.getfield 27, 3) := by decide +kernel
theorem dX1_hookTo_19 : decode cX1_hookTo 19 = .ok (.iload_n 1, 1) := by decide +kernel
theorem dX1_hookTo_20 : decode cX1_hookTo 20 = .ok (.iload_n 1, 1) := by decide +kernel
theorem dX1_hookTo_21 : decode cX1_hookTo 21 = .ok (.iastore, 1) := by decide +kernel
theorem dX1_hookTo_22 : decode cX1_hookTo 22 = .ok (.aload_n 0, 1) := by decide +kernel
theorem dX1_hookTo_23 : decode cX1_hookTo 23 = .ok (.getfield 30, 3) := by decide +kernel
theorem dX1_hookTo_26 : decode cX1_hookTo 26 = .ok (.iload_n 1, 1) := by decide +kernel
theorem dX1_hookTo_27 : decode cX1_hookTo 27 = .ok (.iload_n 2, 1) := by decide +kernel
theorem dX1_hookTo_28 : decode cX1_hookTo 28 = .ok (.iastore, 1) := by decide +kernel
theorem dX1_hookTo_29 : decode cX1_hookTo 29 = .ok (.aload_n 0, 1) := by decide +kernel
theorem dX1_hookTo_30 : decode cX1_hookTo 30 = .ok (.getfield 33, 3) := by decide +kernel
theorem dX1_hookTo_33 : decode cX1_hookTo 33 = .ok (.iload_n 1, 1) := by decide +kernel
theorem dX1_hookTo_34 : decode cX1_hookTo 34 = .ok (.iload_n 3, 1) := by decide +kernel
theorem dX1_hookTo_35 : decode cX1_hookTo 35 = .ok (.iastore, 1) := by decide +kernel
theorem dX1_hookTo_36 : decode cX1_hookTo 36 = .ok (.aload_n 0, 1) := by decide +kernel
theorem dX1_hookTo_37 : decode cX1_hookTo 37 = .ok (.getfield 36, 3) := by decide +kernel
theorem dX1_hookTo_40 : decode cX1_hookTo 40 = .ok (.iload_n 1, 1) := by decide +kernel
theorem dX1_hookTo_41 : decode cX1_hookTo 41 = .ok (.iload 4, 2) := by decide +kernel
theorem dX1_hookTo_43 : decode cX1_hookTo 43 = .ok (.iastore, 1) := by decide +kernel
theorem dX1_hookTo_44 : decode cX1_hookTo 44 = .ok (.return_, 1) := by decide +kernel
theorem dX1_putOn_0 : decode cX1_putOn 0 = .ok (.aload_n 0, 1) := by decide +kernel
theorem dX1_putOn_1 : decode cX1_putOn 1 = .ok (.iload_n 1, 1) := by decide +kernel
theorem dX1_putOn_2 : decode cX1_putOn 2 = .ok (.invokevirtual 54, 3) := by decide +kernel
theorem dX1_putOn_5 : decode cX1_putOn 5 = .ok (.ifCond .eq 24, 3) := by decide +kernel
theorem dX1_putOn_8 : decode cX1_putOn 8 = .ok (.aload_n 0, 1) := by decide +kernel
theorem dX1_putOn_9 : decode cX1_putOn 9 = .ok (.getfield 24, 3) := by decide +kernel
theorem dX1_putOn_12 : decode cX1_putOn 12 = .ok (.iload_n 1, 1) := by decide +kernel
theorem dX1_putOn_13 : decode cX1_putOn 13 = .ok (.iload_n 2, 1) := by decide +kernel
theorem dX1_putOn_14 : decode cX1_putOn 14 = .ok (.iastore, 1) := by decide +kernel
theorem dX1_putOn_15 : decode cX1_putOn 15 = .ok (.aload_n 0, 1) := by decide +kernel
theorem dX1_putOn_16 : decode cX1_putOn 16 = .ok (.getfield 27, 3) := by decide +kernel
theorem dX1_putOn_19 : decode cX1_putOn 19 = .ok (.iload_n 1, 1) := by decide +kernel
theorem dX1_putOn_20 : decode cX1_putOn 20 = .ok (.aload_n 0, 1) := by decide +kernel
theorem dX1_putOn_21 : decode cX1_putOn 21 = .ok (.getfield 27, 3) := by decide +kernel
theorem dX1_putOn_24 : decode cX1_putOn 24 = .ok (.iload_n 2, 1) := by decide +kernel
theorem dX1_putOn_25 : decode cX1_putOn 25 = .ok (.invokestatic 58, 3) := by decide +kernel
theorem dX1_putOn_28 : decode cX1_putOn 28 = .ok (.iastore, 1) := by decide +kernel
theorem dX1_putOn_29 : decode cX1_putOn 29 = .ok (.return_, 1) := by decide +kernel
theorem dX1_authorOf_0 : decode cX1_authorOf 0 = .ok (.aload_n 0, 1) := by decide +kernel
theorem dX1_authorOf_1 : decode cX1_authorOf 1 = .ok (.getfield 9, 3) := by decide +kernel
theorem dX1_authorOf_4 : decode cX1_authorOf 4 = .ok (.iload_n 1, 1) := by decide +kernel
theorem dX1_authorOf_5 : decode cX1_authorOf 5 = .ok (.invokestatic 58, 3) := by decide +kernel
theorem dX1_authorOf_8 : decode cX1_authorOf 8 = .ok (.ireturn, 1) := by decide +kernel
theorem dX1_kindOf_0 : decode cX1_kindOf 0 = .ok (.aload_n 0, 1) := by decide +kernel
theorem dX1_kindOf_1 : decode cX1_kindOf 1 = .ok (.getfield 15, 3) := by decide +kernel
theorem dX1_kindOf_4 : decode cX1_kindOf 4 = .ok (.iload_n 1, 1) := by decide +kernel
theorem dX1_kindOf_5 : decode cX1_kindOf 5 = .ok (.invokestatic 58, 3) := by decide +kernel
theorem dX1_kindOf_8 : decode cX1_kindOf 8 = .ok (.ireturn, 1) := by decide +kernel
theorem dX1_linesOf_0 : decode cX1_linesOf 0 = .ok (.aload_n 0, 1) := by decide +kernel
theorem dX1_linesOf_1 : decode cX1_linesOf 1 = .ok (.getfield 18, 3) := by decide +kernel
theorem dX1_linesOf_4 : decode cX1_linesOf 4 = .ok (.iload_n 1, 1) := by decide +kernel
theorem dX1_linesOf_5 : decode cX1_linesOf 5 = .ok (.invokestatic 58, 3) := by decide +kernel
theorem dX1_linesOf_8 : decode cX1_linesOf 8 = .ok (.ireturn, 1) := by decide +kernel
theorem dX1_marginOf_0 : decode cX1_marginOf 0 = .ok (.aload_n 0, 1) := by decide +kernel
theorem dX1_marginOf_1 : decode cX1_marginOf 1 = .ok (.getfield 21, 3) := by decide +kernel
theorem dX1_marginOf_4 : decode cX1_marginOf 4 = .ok (.iload_n 1, 1) := by decide +kernel
theorem dX1_marginOf_5 : decode cX1_marginOf 5 = .ok (.invokestatic 58, 3) := by decide +kernel
theorem dX1_marginOf_8 : decode cX1_marginOf 8 = .ok (.ireturn, 1) := by decide +kernel
theorem dX1_parentOf_0 : decode cX1_parentOf 0 = .ok (.aload_n 0, 1) := by decide +kernel
theorem dX1_parentOf_1 : decode cX1_parentOf 1 = .ok (.getfield 24, 3) := by decide +kernel
theorem dX1_parentOf_4 : decode cX1_parentOf 4 = .ok (.iload_n 1, 1) := by decide +kernel
theorem dX1_parentOf_5 : decode cX1_parentOf 5 = .ok (.invokestatic 58, 3) := by decide +kernel
theorem dX1_parentOf_8 : decode cX1_parentOf 8 = .ok (.ireturn, 1) := by decide +kernel
theorem dX1_unitOf_0 : decode cX1_unitOf 0 = .ok (.aload_n 0, 1) := by decide +kernel
theorem dX1_unitOf_1 : decode cX1_unitOf 1 = .ok (.getfield 30, 3) := by decide +kernel
theorem dX1_unitOf_4 : decode cX1_unitOf 4 = .ok (.aload_n 0, 1) := by decide +kernel
theorem dX1_unitOf_5 : decode cX1_unitOf 5 = .ok (.getfield 27, 3) := by decide +kernel
theorem dX1_unitOf_8 : decode cX1_unitOf 8 = .ok (.iload_n 1, 1) := by decide +kernel
theorem dX1_unitOf_9 : decode cX1_unitOf 9 = .ok (.invokestatic 58, 3) := by decide +kernel
theorem dX1_unitOf_12 : decode cX1_unitOf 12 = .ok (.invokestatic 58, 3) := by decide +kernel
theorem dX1_unitOf_15 : decode cX1_unitOf 15 = .ok (.ireturn, 1) := by decide +kernel
theorem dX1_placeOf_0 : decode cX1_placeOf 0 = .ok (.aload_n 0, 1) := by decide +kernel
theorem dX1_placeOf_1 : decode cX1_placeOf 1 = .ok (.getfield 33, 3) := by decide +kernel
theorem dX1_placeOf_4 : decode cX1_placeOf 4 = .ok (.aload_n 0, 1) := by decide +kernel
theorem dX1_placeOf_5 : decode cX1_placeOf 5 = .ok (.getfield 27, 3) := by decide +kernel
theorem dX1_placeOf_8 : decode cX1_placeOf 8 = .ok (.iload_n 1, 1) := by decide +kernel
theorem dX1_placeOf_9 : decode cX1_placeOf 9 = .ok (.invokestatic 58, 3) := by decide +kernel
theorem dX1_placeOf_12 : decode cX1_placeOf 12 = .ok (.invokestatic 58, 3) := by decide +kernel
theorem dX1_placeOf_15 : decode cX1_placeOf 15 = .ok (.ireturn, 1) := by decide +kernel
theorem dX1_isLost_0 : decode cX1_isLost 0 = .ok (.aload_n 0, 1) := by decide +kernel
theorem dX1_isLost_1 : decode cX1_isLost 1 = .ok (.getfield 27, 3) := by decide +kernel
theorem dX1_isLost_4 : decode cX1_isLost 4 = .ok (.iload_n 1, 1) := by decide +kernel
theorem dX1_isLost_5 : decode cX1_isLost 5 = .ok (.invokestatic 58, 3) := by decide +kernel
theorem dX1_isLost_8 : decode cX1_isLost 8 = .ok (.istore_n 2, 1) := by decide +kernel
theorem dX1_isLost_9 : decode cX1_isLost 9 = .ok (.aload_n 0, 1) := by decide +kernel
theorem dX1_isLost_10 : decode cX1_isLost 10 = .ok (.iload_n 2, 1) := by decide +kernel
theorem dX1_isLost_11 : decode cX1_isLost 11 = .ok (.invokevirtual 54, 3) := by decide +kernel
theorem dX1_isLost_14 : decode cX1_isLost 14 = .ok (.ifCond .eq 16, 3) := by decide +kernel
theorem dX1_isLost_17 : decode cX1_isLost 17 = .ok (.aload_n 0, 1) := by decide +kernel
theorem dX1_isLost_18 : decode cX1_isLost 18 = .ok (.getfield 39, 3) := by decide +kernel
theorem dX1_isLost_21 : decode cX1_isLost 21 = .ok (.iload_n 2, 1) := by decide +kernel
theorem dX1_isLost_22 : decode cX1_isLost 22 = .ok (.baload, 1) := by decide +kernel
theorem dX1_isLost_23 : decode cX1_isLost 23 = .ok (.ifCond .eq 7, 3) := by decide +kernel
theorem dX1_isLost_26 : decode cX1_isLost 26 = .ok (.iconst 1, 1) := by decide +kernel
theorem dX1_isLost_27 : decode cX1_isLost 27 = .ok (.goto 4, 3) := by decide +kernel
theorem dX1_isLost_30 : decode cX1_isLost 30 = .ok (.iconst 0, 1) := by decide +kernel
theorem dX1_isLost_31 : decode cX1_isLost 31 = .ok (.ireturn, 1) := by decide +kernel
theorem dX1_isHook_0 : decode cX1_isHook 0 = .ok (.aload_n 0, 1) := by decide +kernel
theorem dX1_isHook_1 : decode cX1_isHook 1 = .ok (.iload_n 1, 1) := by decide +kernel
theorem dX1_isHook_2 : decode cX1_isHook 2 = .ok (.invokevirtual 54, 3) := by decide +kernel
theorem dX1_isHook_5 : decode cX1_isHook 5 = .ok (.ifCond .eq 27, 3) := by decide +kernel
theorem dX1_isHook_8 : decode cX1_isHook 8 = .ok (.aload_n 0, 1) := by decide +kernel
theorem dX1_isHook_9 : decode cX1_isHook 9 = .ok (.getfield 24, 3) := by decide +kernel
theorem dX1_isHook_12 : decode cX1_isHook 12 = .ok (.iload_n 1, 1) := by decide +kernel
theorem dX1_isHook_13 : decode cX1_isHook 13 = .ok (.iaload, 1) := by decide +kernel
theorem dX1_isHook_14 : decode cX1_isHook 14 = .ok (.iconst (-1), 1) := by decide +kernel
theorem dX1_isHook_15 : decode cX1_isHook 15 = .ok (.if_icmp .ne 17, 3) := by decide +kernel
theorem dX1_isHook_18 : decode cX1_isHook 18 = .ok (.aload_n 0, 1) := by decide +kernel
theorem dX1_isHook_19 : decode cX1_isHook 19 = .ok (.getfield 30, 3) := by decide +kernel
theorem dX1_isHook_22 : decode cX1_isHook 22 = .ok (.iload_n 1, 1) := by decide +kernel
theorem dX1_isHook_23 : decode cX1_isHook 23 = .ok (.iaload, 1) := by decide +kernel
theorem dX1_isHook_24 : decode cX1_isHook 24 = .ok (.iload_n 2, 1) := by decide +kernel
theorem dX1_isHook_25 : decode cX1_isHook 25 = .ok (.if_icmp .ne 7, 3) := by decide +kernel
theorem dX1_isHook_28 : decode cX1_isHook 28 = .ok (.iconst 1, 1) := by decide +kernel
theorem dX1_isHook_29 : decode cX1_isHook 29 = .ok (.goto 4, 3) := by decide +kernel
theorem dX1_isHook_32 : decode cX1_isHook 32 = .ok (.iconst 0, 1) := by decide +kernel
theorem dX1_isHook_33 : decode cX1_isHook 33 = .ok (.ireturn, 1) := by decide +kernel
theorem dX1_closeGap_0 : decode cX1_closeGap 0 = .ok (.iconst 0, 1) := by decide +kernel
theorem dX1_closeGap_1 : decode cX1_closeGap 1 = .ok (.istore 4, 2) := by decide +kernel
theorem dX1_closeGap_3 : decode cX1_closeGap 3 = .ok (.iload 4, 2) := by decide +kernel
theorem dX1_closeGap_5 : decode cX1_closeGap 5 = .ok (.aload_n 0, 1) := by decide +kernel
theorem dX1_closeGap_6 : decode cX1_closeGap 6 = .ok (.getfield 46, 3) := by decide +kernel
theorem dX1_closeGap_9 : decode cX1_closeGap 9 = .ok (.if_icmp .ge 54, 3) := by decide +kernel
theorem dX1_closeGap_12 : decode cX1_closeGap 12 = .ok (.aload_n 0, 1) := by decide +kernel
theorem dX1_closeGap_13 : decode cX1_closeGap 13 = .ok (.iload 4, 2) := by decide +kernel
theorem dX1_closeGap_15 : decode cX1_closeGap 15 = .ok (.iload_n 1, 1) := by decide +kernel
theorem dX1_closeGap_16 : decode cX1_closeGap 16 = .ok (.invokevirtual 62, 3) := by decide +kernel
theorem dX1_closeGap_19 : decode cX1_closeGap 19 = .ok (.ifCond .eq 38, 3) := by decide +kernel
theorem dX1_closeGap_22 : decode cX1_closeGap 22 = .ok (.aload_n 0, 1) := by decide +kernel
theorem dX1_closeGap_23 : decode cX1_closeGap 23 = .ok (.getfield 33, 3) := by decide +kernel
theorem dX1_closeGap_26 : decode cX1_closeGap 26 = .ok (.iload 4, 2) := by decide +kernel
theorem dX1_closeGap_28 : decode cX1_closeGap 28 = .ok (.iaload, 1) := by decide +kernel
theorem dX1_closeGap_29 : decode cX1_closeGap 29 = .ok (.istore 5, 2) := by decide +kernel
theorem dX1_closeGap_31 : decode cX1_closeGap 31 = .ok (.aload_n 0, 1) := by decide +kernel
theorem dX1_closeGap_32 : decode cX1_closeGap 32 = .ok (.getfield 33, 3) := by decide +kernel
theorem dX1_closeGap_35 : decode cX1_closeGap 35 = .ok (.iload 4, 2) := by decide +kernel
theorem dX1_closeGap_37 : decode cX1_closeGap 37 = .ok (.iload 5, 2) := by decide +kernel
theorem dX1_closeGap_39 : decode cX1_closeGap 39 = .ok (.iload_n 2, 1) := by decide +kernel
theorem dX1_closeGap_40 : decode cX1_closeGap 40 = .ok (.if_icmp .le 10, 3) := by decide +kernel
theorem dX1_closeGap_43 : decode cX1_closeGap 43 = .ok (.iload 5, 2) := by decide +kernel
theorem dX1_closeGap_45 : decode cX1_closeGap 45 = .ok (.iconst 1, 1) := by decide +kernel
theorem dX1_closeGap_46 : decode cX1_closeGap 46 = .ok (.isub, 1) := by decide +kernel
theorem dX1_closeGap_47 : decode cX1_closeGap 47 = .ok (.goto 5, 3) := by decide +kernel
theorem dX1_closeGap_50 : decode cX1_closeGap 50 = .ok (.iload 5, 2) := by decide +kernel
theorem dX1_closeGap_52 : decode cX1_closeGap 52 = .ok (.iload_n 3, 1) := by decide +kernel
theorem dX1_closeGap_53 : decode cX1_closeGap 53 = .ok (.invokestatic 66, 3) := by decide +kernel
theorem dX1_closeGap_56 : decode cX1_closeGap 56 = .ok (.iastore, 1) := by decide +kernel
theorem dX1_closeGap_57 : decode cX1_closeGap 57 = .ok (.iinc 4 1, 3) := by decide +kernel
theorem dX1_closeGap_60 : decode cX1_closeGap 60 = .ok (.goto (-57), 3) := by decide +kernel
theorem dX1_closeGap_63 : decode cX1_closeGap 63 = .ok (.return_, 1) := by decide +kernel
theorem dX1_hookAnew_0 : decode cX1_hookAnew 0 = .ok (.iconst 0, 1) := by decide +kernel
theorem dX1_hookAnew_1 : decode cX1_hookAnew 1 = .ok (.istore_n 3, 1) := by decide +kernel
theorem dX1_hookAnew_2 : decode cX1_hookAnew 2 = .ok (.iconst 0, 1) := by decide +kernel
theorem dX1_hookAnew_3 : decode cX1_hookAnew 3 = .ok (.istore 4, 2) := by decide +kernel
theorem dX1_hookAnew_5 : decode cX1_hookAnew 5 = .ok (.iload 4, 2) := by decide +kernel
theorem dX1_hookAnew_7 : decode cX1_hookAnew 7 = .ok (.aload_n 0, 1) := by decide +kernel
theorem dX1_hookAnew_8 : decode cX1_hookAnew 8 = .ok (.getfield 46, 3) := by decide +kernel
theorem dX1_hookAnew_11 : decode cX1_hookAnew 11 = .ok (.if_icmp .ge 91, 3) := by decide +kernel
theorem dX1_hookAnew_14 : decode cX1_hookAnew 14 = .ok (.aload_n 0, 1) := by decide +kernel
theorem dX1_hookAnew_15 : decode cX1_hookAnew 15 = .ok (.iload 4, 2) := by decide +kernel
theorem dX1_hookAnew_17 : decode cX1_hookAnew 17 = .ok (.iload_n 1, 1) := by decide +kernel
theorem dX1_hookAnew_18 : decode cX1_hookAnew 18 = .ok (.invokevirtual 62, 3) := by decide +kernel
theorem dX1_hookAnew_21 : decode cX1_hookAnew 21 = .ok (.ifCond .eq 75, 3) := by decide +kernel
theorem dX1_hookAnew_24 : decode cX1_hookAnew 24 = .ok (.aload_n 2, 1) := by decide +kernel
theorem dX1_hookAnew_25 : decode cX1_hookAnew 25 = .ok (.iload_n 1, 1) := by decide +kernel
theorem dX1_hookAnew_26 : decode cX1_hookAnew 26 = .ok (.aload_n 0, 1) := by decide +kernel
theorem dX1_hookAnew_27 : decode cX1_hookAnew 27 = .ok (.getfield 36, 3) := by decide +kernel
theorem dX1_hookAnew_30 : decode cX1_hookAnew 30 = .ok (.iload 4, 2) := by decide +kernel
theorem dX1_hookAnew_32 : decode cX1_hookAnew 32 = .ok (.iaload, 1) := by decide +kernel
theorem dX1_hookAnew_33 : decode cX1_hookAnew 33 = .ok (.aload_n 0, 1) := by decide +kernel
theorem dX1_hookAnew_34 : decode cX1_hookAnew 34 = .ok (.getfield 33, 3) := by decide +kernel
theorem dX1_hookAnew_37 : decode cX1_hookAnew 37 = .ok (.iload 4, 2) := by decide +kernel
theorem dX1_hookAnew_39 : decode cX1_hookAnew 39 = .ok (.iaload, 1) := by decide +kernel
theorem dX1_hookAnew_40 : decode cX1_hookAnew 40 = .ok (.invokevirtual 72, 3) := by decide +kernel
theorem dX1_hookAnew_43 : decode cX1_hookAnew 43 = .ok (.istore 5, 2) := by decide +kernel
theorem dX1_hookAnew_45 : decode cX1_hookAnew 45 = .ok (.iload 5, 2) := by decide +kernel
theorem dX1_hookAnew_47 : decode cX1_hookAnew 47 = .ok (.iconst (-1), 1) := by decide +kernel
theorem dX1_hookAnew_48 : decode cX1_hookAnew 48 = .ok (.if_icmp .ne 7, 3) := by decide +kernel
theorem dX1_hookAnew_51 : decode cX1_hookAnew 51 = .ok (.iconst 1, 1) := by decide +kernel
theorem dX1_hookAnew_52 : decode cX1_hookAnew 52 = .ok (.goto 4, 3) := by decide +kernel
theorem dX1_hookAnew_55 : decode cX1_hookAnew 55 = .ok (.iconst 0, 1) := by decide +kernel
theorem dX1_hookAnew_56 : decode cX1_hookAnew 56 = .ok (.istore 6, 2) := by decide +kernel
theorem dX1_hookAnew_58 : decode cX1_hookAnew 58 = .ok (.iload 6, 2) := by decide +kernel
theorem dX1_hookAnew_60 : decode cX1_hookAnew 60 = .ok (.ifCond .ne 12, 3) := by decide +kernel
theorem dX1_hookAnew_63 : decode cX1_hookAnew 63 = .ok (.aload_n 0, 1) := by decide +kernel
theorem dX1_hookAnew_64 : decode cX1_hookAnew 64 = .ok (.getfield 33, 3) := by decide +kernel
theorem dX1_hookAnew_67 : decode cX1_hookAnew 67 = .ok (.iload 4, 2) := by decide +kernel
theorem dX1_hookAnew_69 : decode cX1_hookAnew 69 = .ok (.iload 5, 2) := by decide +kernel
theorem dX1_hookAnew_71 : decode cX1_hookAnew 71 = .ok (.iastore, 1) := by decide +kernel
theorem dX1_hookAnew_72 : decode cX1_hookAnew 72 = .ok (.iload 6, 2) := by decide +kernel
theorem dX1_hookAnew_74 : decode cX1_hookAnew 74 = .ok (.aload_n 0, 1) := by decide +kernel
theorem dX1_hookAnew_75 : decode cX1_hookAnew 75 = .ok (.getfield 39, 3) := by decide +kernel
theorem dX1_hookAnew_78 : decode cX1_hookAnew 78 = .ok (.iload 4, 2) := by decide +kernel
theorem dX1_hookAnew_80 : decode cX1_hookAnew 80 = .ok (.baload, 1) := by decide +kernel
theorem dX1_hookAnew_81 : decode cX1_hookAnew 81 = .ok (.if_icmp .eq 15, 3) := by decide +kernel
theorem dX1_hookAnew_84 : decode cX1_hookAnew 84 = .ok (.aload_n 0, 1) := by decide +kernel
theorem dX1_hookAnew_85 : decode cX1_hookAnew 85 = .ok (.getfield 39, 3) := by decide +kernel
theorem dX1_hookAnew_88 : decode cX1_hookAnew 88 = .ok (.iload 4, 2) := by decide +kernel
theorem dX1_hookAnew_90 : decode cX1_hookAnew 90 = .ok (.iload 6, 2) := by decide +kernel
theorem dX1_hookAnew_92 : decode cX1_hookAnew 92 = .ok (.bastore, 1) := by decide +kernel
theorem dX1_hookAnew_93 : decode cX1_hookAnew 93 = .ok (.iinc 3 1, 3) := by decide +kernel
theorem dX1_hookAnew_96 : decode cX1_hookAnew 96 = .ok (.iinc 4 1, 3) := by decide +kernel
theorem dX1_hookAnew_99 : decode cX1_hookAnew 99 = .ok (.goto (-94), 3) := by decide +kernel
theorem dX1_hookAnew_102 : decode cX1_hookAnew 102 = .ok (.iload_n 3, 1) := by decide +kernel
theorem dX1_hookAnew_103 : decode cX1_hookAnew 103 = .ok (.ireturn, 1) := by decide +kernel
theorem dX1_stands_0 : decode cX1_stands 0 = .ok (.aload_n 0, 1) := by decide +kernel
theorem dX1_stands_1 : decode cX1_stands 1 = .ok (.invokevirtual 78, 3) := by decide +kernel
theorem dX1_stands_4 : decode cX1_stands 4 = .ok (.aload_n 0, 1) := by decide +kernel
theorem dX1_stands_5 : decode cX1_stands 5 = .ok (.iload_n 1, 1) := by decide +kernel
theorem dX1_stands_6 : decode cX1_stands 6 = .ok (.invokevirtual 81, 3) := by decide +kernel
theorem dX1_stands_9 : decode cX1_stands 9 = .ok (.ireturn, 1) := by decide +kernel
theorem dX1_weigh_0 : decode cX1_weigh 0 = .ok (.aload_n 0, 1) := by decide +kernel
theorem dX1_weigh_1 : decode cX1_weigh 1 = .ok (.getfield 43, 3) := by decide +kernel
theorem dX1_weigh_4 : decode cX1_weigh 4 = .ok (.iconst 0, 1) := by decide +kernel
theorem dX1_weigh_5 : decode cX1_weigh 5 = .ok (.invokestatic 84, 3) := by decide +kernel
theorem dX1_weigh_8 : decode cX1_weigh 8 = .ok (.aload_n 0, 1) := by decide +kernel
theorem dX1_weigh_9 : decode cX1_weigh 9 = .ok (.getfield 46, 3) := by decide +kernel
theorem dX1_weigh_12 : decode cX1_weigh 12 = .ok (.iconst 1, 1) := by decide +kernel
theorem dX1_weigh_13 : decode cX1_weigh 13 = .ok (.isub, 1) := by decide +kernel
theorem dX1_weigh_14 : decode cX1_weigh 14 = .ok (.istore_n 1, 1) := by decide +kernel
theorem dX1_weigh_15 : decode cX1_weigh 15 = .ok (.iload_n 1, 1) := by decide +kernel
theorem dX1_weigh_16 : decode cX1_weigh 16 = .ok (.ifCond .lt 50, 3) := by decide +kernel
theorem dX1_weigh_19 : decode cX1_weigh 19 = .ok (.aload_n 0, 1) := by decide +kernel
theorem dX1_weigh_20 : decode cX1_weigh 20 = .ok (.getfield 24, 3) := by decide +kernel
theorem dX1_weigh_23 : decode cX1_weigh 23 = .ok (.iload_n 1, 1) := by decide +kernel
theorem dX1_weigh_24 : decode cX1_weigh 24 = .ok (.iaload, 1) := by decide +kernel
theorem dX1_weigh_25 : decode cX1_weigh 25 = .ok (.istore_n 2, 1) := by decide +kernel
theorem dX1_weigh_26 : decode cX1_weigh 26 = .ok (.aload_n 0, 1) := by decide +kernel
theorem dX1_weigh_27 : decode cX1_weigh 27 = .ok (.iload_n 2, 1) := by decide +kernel
theorem dX1_weigh_28 : decode cX1_weigh 28 = .ok (.invokevirtual 54, 3) := by decide +kernel
theorem dX1_weigh_31 : decode cX1_weigh 31 = .ok (.ifCond .eq 29, 3) := by decide +kernel
theorem dX1_weigh_34 : decode cX1_weigh 34 = .ok (.aload_n 0, 1) := by decide +kernel
theorem dX1_weigh_35 : decode cX1_weigh 35 = .ok (.iload_n 1, 1) := by decide +kernel
theorem dX1_weigh_36 : decode cX1_weigh 36 = .ok (.invokevirtual 81, 3) := by decide +kernel
theorem dX1_weigh_39 : decode cX1_weigh 39 = .ok (.ifCond .eq 21, 3) := by decide +kernel
theorem dX1_weigh_42 : decode cX1_weigh 42 = .ok (.aload_n 0, 1) := by decide +kernel
theorem dX1_weigh_43 : decode cX1_weigh 43 = .ok (.getfield 43, 3) := by decide +kernel
theorem dX1_weigh_46 : decode cX1_weigh 46 = .ok (.iload_n 2, 1) := by decide +kernel
theorem dX1_weigh_47 : decode cX1_weigh 47 = .ok (.dup2, 1) := by decide +kernel
theorem dX1_weigh_48 : decode cX1_weigh 48 = .ok (.iaload, 1) := by decide +kernel
theorem dX1_weigh_49 : decode cX1_weigh 49 = .ok (.aload_n 0, 1) := by decide +kernel
theorem dX1_weigh_50 : decode cX1_weigh 50 = .ok (.getfield 15, 3) := by decide +kernel
theorem dX1_weigh_53 : decode cX1_weigh 53 = .ok (.iload_n 1, 1) := by decide +kernel
theorem dX1_weigh_54 : decode cX1_weigh 54 = .ok (.iaload, 1) := by decide +kernel
theorem dX1_weigh_55 : decode cX1_weigh 55 = .ok (.invokestatic 90, 3) := by decide +kernel
theorem dX1_weigh_58 : decode cX1_weigh 58 = .ok (.iadd, 1) := by decide +kernel
theorem dX1_weigh_59 : decode cX1_weigh 59 = .ok (.iastore, 1) := by decide +kernel
theorem dX1_weigh_60 : decode cX1_weigh 60 = .ok (.iinc 1 (-1), 3) := by decide +kernel
theorem dX1_weigh_63 : decode cX1_weigh 63 = .ok (.goto (-48), 3) := by decide +kernel
theorem dX1_weigh_66 : decode cX1_weigh 66 = .ok (.return_, 1) := by decide +kernel
theorem dX1_isLight_0 : decode cX1_isLight 0 = .ok (.aload_n 0, 1) := by decide +kernel
theorem dX1_isLight_1 : decode cX1_isLight 1 = .ok (.getfield 43, 3) := by decide +kernel
theorem dX1_isLight_4 : decode cX1_isLight 4 = .ok (.iload_n 1, 1) := by decide +kernel
theorem dX1_isLight_5 : decode cX1_isLight 5 = .ok (.invokestatic 58, 3) := by decide +kernel
theorem dX1_isLight_8 : decode cX1_isLight 8 = .ok (.iconst 1, 1) := by decide +kernel
theorem dX1_isLight_9 : decode cX1_isLight 9 = .ok (.if_icmp .ge 7, 3) := by decide +kernel
theorem dX1_isLight_12 : decode cX1_isLight 12 = .ok (.iconst 1, 1) := by decide +kernel
theorem dX1_isLight_13 : decode cX1_isLight 13 = .ok (.goto 4, 3) := by decide +kernel
theorem dX1_isLight_16 : decode cX1_isLight 16 = .ok (.iconst 0, 1) := by decide +kernel
theorem dX1_isLight_17 : decode cX1_isLight 17 = .ok (.ireturn, 1) := by decide +kernel
theorem dX1_burdenOf_0 : decode cX1_burdenOf 0 = .ok (.iload_n 0, 1) := by decide +kernel
theorem dX1_burdenOf_1 : decode cX1_burdenOf 1 = .ok (.iconst 1, 1) := by decide +kernel
theorem dX1_burdenOf_2 : decode cX1_burdenOf 2 = .ok (.if_icmp .eq 8, 3) := by decide +kernel
theorem dX1_burdenOf_5 : decode cX1_burdenOf 5 = .ok (.iload_n 0, 1) := by decide +kernel
theorem dX1_burdenOf_6 : decode cX1_burdenOf 6 = .ok (.iconst 3, 1) := by decide +kernel
theorem dX1_burdenOf_7 : decode cX1_burdenOf 7 = .ok (.if_icmp .ne 5, 3) := by decide +kernel
theorem dX1_burdenOf_10 : decode cX1_burdenOf 10 = .ok (.iconst 1, 1) := by decide +kernel
theorem dX1_burdenOf_11 : decode cX1_burdenOf 11 = .ok (.ireturn, 1) := by decide +kernel
theorem dX1_burdenOf_12 : decode cX1_burdenOf 12 = .ok (.iload_n 0, 1) := by decide +kernel
theorem dX1_burdenOf_13 : decode cX1_burdenOf 13 = .ok (.iconst 2, 1) := by decide +kernel
theorem dX1_burdenOf_14 : decode cX1_burdenOf 14 = .ok (.if_icmp .ne 7, 3) := by decide +kernel
theorem dX1_burdenOf_17 : decode cX1_burdenOf 17 = .ok (.iconst (-1), 1) := by decide +kernel
theorem dX1_burdenOf_18 : decode cX1_burdenOf 18 = .ok (.goto 4, 3) := by decide +kernel
theorem dX1_burdenOf_21 : decode cX1_burdenOf 21 = .ok (.iconst 0, 1) := by decide +kernel
theorem dX1_burdenOf_22 : decode cX1_burdenOf 22 = .ok (.ireturn, 1) := by decide +kernel
theorem dX1_isDoubt_0 : decode cX1_isDoubt 0 = .ok (.aload_n 0, 1) := by decide +kernel
theorem dX1_isDoubt_1 : decode cX1_isDoubt 1 = .ok (.iload_n 1, 1) := by decide +kernel
theorem dX1_isDoubt_2 : decode cX1_isDoubt 2 = .ok (.invokevirtual 94, 3) := by decide +kernel
theorem dX1_isDoubt_5 : decode cX1_isDoubt 5 = .ok (.istore_n 2, 1) := by decide +kernel
theorem dX1_isDoubt_6 : decode cX1_isDoubt 6 = .ok (.aload_n 0, 1) := by decide +kernel
theorem dX1_isDoubt_7 : decode cX1_isDoubt 7 = .ok (.iload_n 1, 1) := by decide +kernel
theorem dX1_isDoubt_8 : decode cX1_isDoubt 8 = .ok (.invokevirtual 97, 3) := by decide +kernel
theorem dX1_isDoubt_11 : decode cX1_isDoubt 11 = .ok (.iconst (-1), 1) := by decide +kernel
theorem dX1_isDoubt_12 : decode cX1_isDoubt 12 = .ok (.if_icmp .ne 16, 3) := by decide +kernel
theorem dX1_isDoubt_15 : decode cX1_isDoubt 15 = .ok (.iload_n 2, 1) := by decide +kernel
theorem dX1_isDoubt_16 : decode cX1_isDoubt 16 = .ok (.ifCond .eq 8, 3) := by decide +kernel
theorem dX1_isDoubt_19 : decode cX1_isDoubt 19 = .ok (.iload_n 2, 1) := by decide +kernel
theorem dX1_isDoubt_20 : decode cX1_isDoubt 20 = .ok (.iconst 1, 1) := by decide +kernel
theorem dX1_isDoubt_21 : decode cX1_isDoubt 21 = .ok (.if_icmp .ne 7, 3) := by decide +kernel
theorem dX1_isDoubt_24 : decode cX1_isDoubt 24 = .ok (.iconst 1, 1) := by decide +kernel
theorem dX1_isDoubt_25 : decode cX1_isDoubt 25 = .ok (.goto 4, 3) := by decide +kernel
theorem dX1_isDoubt_28 : decode cX1_isDoubt 28 = .ok (.iconst 0, 1) := by decide +kernel
theorem dX1_isDoubt_29 : decode cX1_isDoubt 29 = .ok (.ireturn, 1) := by decide +kernel
theorem dX1_haveDoubtOn_0 : decode cX1_haveDoubtOn 0 = .ok (.aload_n 0, 1) := by decide +kernel
theorem dX1_haveDoubtOn_1 : decode cX1_haveDoubtOn 1 = .ok (.invokevirtual 78, 3) := by decide +kernel
theorem dX1_haveDoubtOn_4 : decode cX1_haveDoubtOn 4 = .ok (.iconst 0, 1) := by decide +kernel
theorem dX1_haveDoubtOn_5 : decode cX1_haveDoubtOn 5 = .ok (.istore_n 2, 1) := by decide +kernel
theorem dX1_haveDoubtOn_6 : decode cX1_haveDoubtOn 6 = .ok (.iload_n 2, 1) := by decide +kernel
theorem dX1_haveDoubtOn_7 : decode cX1_haveDoubtOn 7 = .ok (.aload_n 0, 1) := by decide +kernel
theorem dX1_haveDoubtOn_8 : decode cX1_haveDoubtOn 8 = .ok (.getfield 46, 3) := by decide +kernel
theorem dX1_haveDoubtOn_11 : decode cX1_haveDoubtOn 11 = .ok (.if_icmp .ge 36, 3) := by decide +kernel
theorem dX1_haveDoubtOn_14 : decode cX1_haveDoubtOn 14 = .ok (.aload_n 0, 1) := by decide +kernel
theorem dX1_haveDoubtOn_15 : decode cX1_haveDoubtOn 15 = .ok (.iload_n 2, 1) := by decide +kernel
theorem dX1_haveDoubtOn_16 : decode cX1_haveDoubtOn 16 = .ok (.iload_n 1, 1) := by decide +kernel
theorem dX1_haveDoubtOn_17 : decode cX1_haveDoubtOn 17 = .ok (.invokevirtual 62, 3) := by decide +kernel
theorem dX1_haveDoubtOn_20 : decode cX1_haveDoubtOn 20 = .ok (.ifCond .eq 21, 3) := by decide +kernel
theorem dX1_haveDoubtOn_23 : decode cX1_haveDoubtOn 23 = .ok (.aload_n 0, 1) := by decide +kernel
theorem dX1_haveDoubtOn_24 : decode cX1_haveDoubtOn 24 = .ok (.iload_n 2, 1) := by decide +kernel
theorem dX1_haveDoubtOn_25 : decode cX1_haveDoubtOn 25 = .ok (.invokevirtual 100, 3) := by decide +kernel
theorem dX1_haveDoubtOn_28 : decode cX1_haveDoubtOn 28 = .ok (.ifCond .eq 13, 3) := by decide +kernel
theorem dX1_haveDoubtOn_31 : decode cX1_haveDoubtOn 31 = .ok (.aload_n 0, 1) := by decide +kernel
theorem dX1_haveDoubtOn_32 : decode cX1_haveDoubtOn 32 = .ok (.iload_n 2, 1) := by decide +kernel
theorem dX1_haveDoubtOn_33 : decode cX1_haveDoubtOn 33 = .ok (.invokevirtual 81, 3) := by decide +kernel
theorem dX1_haveDoubtOn_36 : decode cX1_haveDoubtOn 36 = .ok (.ifCond .eq 5, 3) := by decide +kernel
theorem dX1_haveDoubtOn_39 : decode cX1_haveDoubtOn 39 = .ok (.iconst 1, 1) := by decide +kernel
theorem dX1_haveDoubtOn_40 : decode cX1_haveDoubtOn 40 = .ok (.ireturn, 1) := by decide +kernel
theorem dX1_haveDoubtOn_41 : decode cX1_haveDoubtOn 41 = .ok (.iinc 2 1, 3) := by decide +kernel
theorem dX1_haveDoubtOn_44 : decode cX1_haveDoubtOn 44 = .ok (.goto (-38), 3) := by decide +kernel
theorem dX1_haveDoubtOn_47 : decode cX1_haveDoubtOn 47 = .ok (.iconst 0, 1) := by decide +kernel
theorem dX1_haveDoubtOn_48 : decode cX1_haveDoubtOn 48 = .ok (.ireturn, 1) := by decide +kernel
theorem dX1_solvedBy_0 : decode cX1_solvedBy 0 = .ok (.aload_n 0, 1) := by decide +kernel
theorem dX1_solvedBy_1 : decode cX1_solvedBy 1 = .ok (.invokevirtual 78, 3) := by decide +kernel
theorem dX1_solvedBy_4 : decode cX1_solvedBy 4 = .ok (.iconst 0, 1) := by decide +kernel
theorem dX1_solvedBy_5 : decode cX1_solvedBy 5 = .ok (.istore_n 3, 1) := by decide +kernel
theorem dX1_solvedBy_6 : decode cX1_solvedBy 6 = .ok (.iconst 0, 1) := by decide +kernel
theorem dX1_solvedBy_7 : decode cX1_solvedBy 7 = .ok (.istore 4, 2) := by decide +kernel
theorem dX1_solvedBy_9 : decode cX1_solvedBy 9 = .ok (.iload 4, 2) := by decide +kernel
theorem dX1_solvedBy_11 : decode cX1_solvedBy 11 = .ok (.aload_n 0, 1) := by decide +kernel
theorem dX1_solvedBy_12 : decode cX1_solvedBy 12 = .ok (.getfield 46, 3) := by decide +kernel
theorem dX1_solvedBy_15 : decode cX1_solvedBy 15 = .ok (.if_icmp .ge 58, 3) := by decide +kernel
theorem dX1_solvedBy_18 : decode cX1_solvedBy 18 = .ok (.aload_n 0, 1) := by decide +kernel
theorem dX1_solvedBy_19 : decode cX1_solvedBy 19 = .ok (.iload 4, 2) := by decide +kernel
theorem dX1_solvedBy_21 : decode cX1_solvedBy 21 = .ok (.invokevirtual 100, 3) := by decide +kernel
theorem dX1_solvedBy_24 : decode cX1_solvedBy 24 = .ok (.ifCond .eq 43, 3) := by decide +kernel
theorem dX1_solvedBy_27 : decode cX1_solvedBy 27 = .ok (.aload_n 0, 1) := by decide +kernel
theorem dX1_solvedBy_28 : decode cX1_solvedBy 28 = .ok (.iload 4, 2) := by decide +kernel
theorem dX1_solvedBy_30 : decode cX1_solvedBy 30 = .ok (.invokevirtual 81, 3) := by decide +kernel
theorem dX1_solvedBy_33 : decode cX1_solvedBy 33 = .ok (.ifCond .ne 34, 3) := by decide +kernel
theorem dX1_solvedBy_36 : decode cX1_solvedBy 36 = .ok (.aload_n 0, 1) := by decide +kernel
theorem dX1_solvedBy_37 : decode cX1_solvedBy 37 = .ok (.iload 4, 2) := by decide +kernel
theorem dX1_solvedBy_39 : decode cX1_solvedBy 39 = .ok (.invokevirtual 103, 3) := by decide +kernel
theorem dX1_solvedBy_42 : decode cX1_solvedBy 42 = .ok (.istore 5, 2) := by decide +kernel
theorem dX1_solvedBy_44 : decode cX1_solvedBy 44 = .ok (.iload 5, 2) := by decide +kernel
theorem dX1_solvedBy_46 : decode cX1_solvedBy 46 = .ok (.iconst (-1), 1) := by decide +kernel
theorem dX1_solvedBy_47 : decode cX1_solvedBy 47 = .ok (.if_icmp .eq 20, 3) := by decide +kernel
theorem dX1_solvedBy_50 : decode cX1_solvedBy 50 = .ok (.aload_n 2, 1) := by decide +kernel
theorem dX1_solvedBy_51 : decode cX1_solvedBy 51 = .ok (.aload_n 0, 1) := by decide +kernel
theorem dX1_solvedBy_52 : decode cX1_solvedBy 52 = .ok (.iload 5, 2) := by decide +kernel
theorem dX1_solvedBy_54 : decode cX1_solvedBy 54 = .ok (.invokevirtual 106, 3) := by decide +kernel
theorem dX1_solvedBy_57 : decode cX1_solvedBy 57 = .ok (.invokevirtual 109, 3) := by decide +kernel
theorem dX1_solvedBy_60 : decode cX1_solvedBy 60 = .ok (.iload_n 1, 1) := by decide +kernel
theorem dX1_solvedBy_61 : decode cX1_solvedBy 61 = .ok (.if_icmp .ne 6, 3) := by decide +kernel
theorem dX1_solvedBy_64 : decode cX1_solvedBy 64 = .ok (.iinc 3 1, 3) := by decide +kernel
theorem dX1_solvedBy_67 : decode cX1_solvedBy 67 = .ok (.iinc 4 1, 3) := by decide +kernel
theorem dX1_solvedBy_70 : decode cX1_solvedBy 70 = .ok (.goto (-61), 3) := by decide +kernel
theorem dX1_solvedBy_73 : decode cX1_solvedBy 73 = .ok (.iload_n 3, 1) := by decide +kernel
theorem dX1_solvedBy_74 : decode cX1_solvedBy 74 = .ok (.ireturn, 1) := by decide +kernel
theorem dX1_lowestAnswerTo_0 : decode cX1_lowestAnswerTo 0 = .ok (.iload_n 1, 1) := by decide +kernel
theorem dX1_lowestAnswerTo_1 : decode cX1_lowestAnswerTo 1 = .ok (.iconst 1, 1) := by decide +kernel
theorem dX1_lowestAnswerTo_2 : decode cX1_lowestAnswerTo 2 = .ok (.iadd, 1) := by decide +kernel
theorem dX1_lowestAnswerTo_3 : decode cX1_lowestAnswerTo 3 = .ok (.istore_n 2, 1) := by decide +kernel
theorem dX1_lowestAnswerTo_4 : decode cX1_lowestAnswerTo 4 = .ok (.iload_n 2, 1) := by decide +kernel
theorem dX1_lowestAnswerTo_5 : decode cX1_lowestAnswerTo 5 = .ok (.aload_n 0, 1) := by decide +kernel
theorem dX1_lowestAnswerTo_6 : decode cX1_lowestAnswerTo 6 = .ok (.getfield 46, 3) := by decide +kernel
theorem dX1_lowestAnswerTo_9 : decode cX1_lowestAnswerTo 9 = .ok (.if_icmp .ge 37, 3) := by decide +kernel
theorem dX1_lowestAnswerTo_12 : decode cX1_lowestAnswerTo 12 = .ok (.aload_n 0, 1) := by decide +kernel
theorem dX1_lowestAnswerTo_13 : decode cX1_lowestAnswerTo 13 = .ok (.iload_n 2, 1) := by decide +kernel
theorem dX1_lowestAnswerTo_14 : decode cX1_lowestAnswerTo 14 = .ok (.invokevirtual 97, 3) := by decide +kernel
theorem dX1_lowestAnswerTo_17 : decode cX1_lowestAnswerTo 17 = .ok (.iload_n 1, 1) := by decide +kernel
theorem dX1_lowestAnswerTo_18 : decode cX1_lowestAnswerTo 18 = .ok (.if_icmp .ne 22, 3) := by decide +kernel
theorem dX1_lowestAnswerTo_21 : decode cX1_lowestAnswerTo 21 = .ok (.aload_n 0, 1) := by decide +kernel
theorem dX1_lowestAnswerTo_22 : decode cX1_lowestAnswerTo 22 = .ok (.iload_n 2, 1) := by decide +kernel
theorem dX1_lowestAnswerTo_23 : decode cX1_lowestAnswerTo 23 = .ok (.invokevirtual 94, 3) := by decide +kernel
theorem dX1_lowestAnswerTo_26 : decode cX1_lowestAnswerTo 26 = .ok (.iconst 3, 1) := by decide +kernel
theorem dX1_lowestAnswerTo_27 : decode cX1_lowestAnswerTo 27 = .ok (.if_icmp .ne 13, 3) := by decide +kernel
theorem dX1_lowestAnswerTo_30 : decode cX1_lowestAnswerTo 30 = .ok (.aload_n 0, 1) := by decide +kernel
theorem dX1_lowestAnswerTo_31 : decode cX1_lowestAnswerTo 31 = .ok (.iload_n 2, 1) := by decide +kernel
theorem dX1_lowestAnswerTo_32 : decode cX1_lowestAnswerTo 32 = .ok (.invokevirtual 81, 3) := by decide +kernel
theorem dX1_lowestAnswerTo_35 : decode cX1_lowestAnswerTo 35 = .ok (.ifCond .eq 5, 3) := by decide +kernel
theorem dX1_lowestAnswerTo_38 : decode cX1_lowestAnswerTo 38 = .ok (.iload_n 2, 1) := by decide +kernel
theorem dX1_lowestAnswerTo_39 : decode cX1_lowestAnswerTo 39 = .ok (.ireturn, 1) := by decide +kernel
theorem dX1_lowestAnswerTo_40 : decode cX1_lowestAnswerTo 40 = .ok (.iinc 2 1, 3) := by decide +kernel
theorem dX1_lowestAnswerTo_43 : decode cX1_lowestAnswerTo 43 = .ok (.goto (-39), 3) := by decide +kernel
theorem dX1_lowestAnswerTo_46 : decode cX1_lowestAnswerTo 46 = .ok (.iconst (-1), 1) := by decide +kernel
theorem dX1_lowestAnswerTo_47 : decode cX1_lowestAnswerTo 47 = .ok (.ireturn, 1) := by decide +kernel
theorem dX2_init_0 : decode cX2_init 0 = .ok (.aload_n 0, 1) := by decide +kernel
theorem dX2_init_1 : decode cX2_init 1 = .ok (.invokespecial 3, 3) := by decide +kernel
theorem dX2_init_4 : decode cX2_init 4 = .ok (.aload_n 0, 1) := by decide +kernel
theorem dX2_init_5 : decode cX2_init 5 = .ok (.sipush 160, 3) := by decide +kernel
theorem dX2_init_8 : decode cX2_init 8 = .ok (.newarray .int, 2) := by decide +kernel
theorem dX2_init_10 : decode cX2_init 10 = .ok (.putfield 9, 3) := by decide +kernel
theorem dX2_init_13 : decode cX2_init 13 = .ok (.aload_n 0, 1) := by decide +kernel
theorem dX2_init_14 : decode cX2_init 14 = .ok (.bipush 8, 2) := by decide +kernel
theorem dX2_init_16 : decode cX2_init 16 = .ok (.newarray .int, 2) := by decide +kernel
theorem dX2_init_18 : decode cX2_init 18 = .ok (.putfield 15, 3) := by decide +kernel
theorem dX2_init_21 : decode cX2_init 21 = .ok (.aload_n 0, 1) := by decide +kernel
theorem dX2_init_22 : decode cX2_init 22 = .ok (.bipush 8, 2) := by decide +kernel
theorem dX2_init_24 : decode cX2_init 24 = .ok (.newarray .int, 2) := by decide +kernel
theorem dX2_init_26 : decode cX2_init 26 = .ok (.putfield 18, 3) := by decide +kernel
theorem dX2_init_29 : decode cX2_init 29 = .ok (.return_, 1) := by decide +kernel
theorem dX2_count_0 : decode cX2_count 0 = .ok (.aload_n 0, 1) := by decide +kernel
theorem dX2_count_1 : decode cX2_count 1 = .ok (.getfield 21, 3) := by decide +kernel
theorem dX2_count_4 : decode cX2_count 4 = .ok (.ireturn, 1) := by decide +kernel
theorem dX2_isFull_0 : decode cX2_isFull 0 = .ok (.aload_n 0, 1) := by decide +kernel
theorem dX2_isFull_1 : decode cX2_isFull 1 = .ok (.getfield 21, 3) := by decide +kernel
theorem dX2_isFull_4 : decode cX2_isFull 4 = .ok (.bipush 8, 2) := by decide +kernel
theorem dX2_isFull_6 : decode cX2_isFull 6 = .ok (.if_icmp .lt 7, 3) := by decide +kernel
theorem dX2_isFull_9 : decode cX2_isFull 9 = .ok (.iconst 1, 1) := by decide +kernel
theorem dX2_isFull_10 : decode cX2_isFull 10 = .ok (.goto 4, 3) := by decide +kernel
theorem dX2_isFull_13 : decode cX2_isFull 13 = .ok (.iconst 0, 1) := by decide +kernel
theorem dX2_isFull_14 : decode cX2_isFull 14 = .ok (.ireturn, 1) := by decide +kernel
theorem dX2_has_0 : decode cX2_has 0 = .ok (.iload_n 1, 1) := by decide +kernel
theorem dX2_has_1 : decode cX2_has 1 = .ok (.ifCond .lt 15, 3) := by decide +kernel
theorem dX2_has_4 : decode cX2_has 4 = .ok (.iload_n 1, 1) := by decide +kernel
theorem dX2_has_5 : decode cX2_has 5 = .ok (.aload_n 0, 1) := by decide +kernel
theorem dX2_has_6 : decode cX2_has 6 = .ok (.getfield 21, 3) := by decide +kernel
theorem dX2_has_9 : decode cX2_has 9 = .ok (.if_icmp .ge 7, 3) := by decide +kernel
theorem dX2_has_12 : decode cX2_has 12 = .ok (.iconst 1, 1) := by decide +kernel
theorem dX2_has_13 : decode cX2_has 13 = .ok (.goto 4, 3) := by decide +kernel
theorem dX2_has_16 : decode cX2_has 16 = .ok (.iconst 0, 1) := by decide +kernel
theorem dX2_has_17 : decode cX2_has 17 = .ok (.ireturn, 1) := by decide +kernel
theorem dX2_latestWidth_0 : decode cX2_latestWidth 0 = .ok (.aload_n 0, 1) := by decide +kernel
theorem dX2_latestWidth_1 : decode cX2_latestWidth 1 = .ok (.getfield 25, 3) := by decide +kernel
theorem dX2_latestWidth_4 : decode cX2_latestWidth 4 = .ok (.ireturn, 1) := by decide +kernel
theorem dX2_add_0 : decode cX2_add 0 = .ok (.aload_n 0, 1) := by decide +kernel
theorem dX2_add_1 : decode cX2_add 1 = .ok (.invokevirtual 28, 3) := by decide +kernel
theorem dX2_add_4 : decode cX2_add 4 = .ok (.ifCond .ne 9, 3) := by decide +kernel
theorem dX2_add_7 : decode cX2_add 7 = .ok (.iload 4, 2) := by decide +kernel
theorem dX2_add_9 : decode cX2_add 9 = .ok (.iconst 1, 1) := by decide +kernel
theorem dX2_add_10 : decode cX2_add 10 = .ok (.if_icmp .ge 4, 3) := by decide +kernel
theorem dX2_add_13 : decode cX2_add 13 = .ok (.return_, 1) := by decide +kernel
theorem dX2_add_14 : decode cX2_add 14 = .ok (.aload_n 0, 1) := by decide +kernel
theorem dX2_add_15 : decode cX2_add 15 = .ok (.iload_n 3, 1) := by decide +kernel
theorem dX2_add_16 : decode cX2_add 16 = .ok (.putfield 25, 3) := by decide +kernel
theorem dX2_add_19 : decode cX2_add 19 = .ok (.aload_n 0, 1) := by decide +kernel
theorem dX2_add_20 : decode cX2_add 20 = .ok (.getfield 15, 3) := by decide +kernel
theorem dX2_add_23 : decode cX2_add 23 = .ok (.aload_n 0, 1) := by decide +kernel
theorem dX2_add_24 : decode cX2_add 24 = .ok (.getfield 21, 3) := by decide +kernel
theorem dX2_add_27 : decode cX2_add 27 = .ok (.aload_n 1, 1) := by decide +kernel
theorem dX2_add_28 : decode cX2_add 28 = .ok (.invokevirtual 32, 3) := by decide +kernel
theorem dX2_add_31 : decode cX2_add 31 = .ok (.iload 4, 2) := by decide +kernel
theorem dX2_add_33 : decode cX2_add 33 = .ok (.iadd, 1) := by decide +kernel
theorem dX2_add_34 : decode cX2_add 34 = .ok (.iconst 1, 1) := by decide +kernel
theorem dX2_add_35 : decode cX2_add 35 = .ok (.isub, 1) := by decide +kernel
theorem dX2_add_36 : decode cX2_add 36 = .ok (.iload 4, 2) := by decide +kernel
theorem dX2_add_38 : decode cX2_add 38 = .ok (.idiv, 1) := by decide +kernel
theorem dX2_add_39 : decode cX2_add 39 = .ok (.iastore, 1) := by decide +kernel
theorem dX2_add_40 : decode cX2_add 40 = .ok (.aload_n 0, 1) := by decide +kernel
theorem dX2_add_41 : decode cX2_add 41 = .ok (.getfield 18, 3) := by decide +kernel
theorem dX2_add_44 : decode cX2_add 44 = .ok (.aload_n 0, 1) := by decide +kernel
theorem dX2_add_45 : decode cX2_add 45 = .ok (.getfield 21, 3) := by decide +kernel
theorem dX2_add_48 : decode cX2_add 48 = .ok (.iload_n 2, 1) := by decide +kernel
theorem dX2_add_49 : decode cX2_add 49 = .ok (.iastore, 1) := by decide +kernel
theorem dX2_add_50 : decode cX2_add 50 = .ok (.iconst 0, 1) := by decide +kernel
theorem dX2_add_51 : decode cX2_add 51 = .ok (.istore 5, 2) := by decide +kernel
theorem dX2_add_53 : decode cX2_add 53 = .ok (.iload 5, 2) := by decide +kernel
theorem dX2_add_55 : decode cX2_add 55 = .ok (.iload_n 2, 1) := by decide +kernel
theorem dX2_add_56 : decode cX2_add 56 = .ok (.if_icmp .ge 53, 3) := by decide +kernel
theorem dX2_add_59 : decode cX2_add 59 = .ok (.iload 5, 2) := by decide +kernel
theorem dX2_add_61 : decode cX2_add 61 = .ok (.bipush 20, 2) := by decide +kernel
theorem dX2_add_63 : decode cX2_add 63 = .ok (.if_icmp .ge 46, 3) := by decide +kernel
theorem dX2_add_66 : decode cX2_add 66 = .ok (.aload_n 1, 1) := by decide +kernel
theorem dX2_add_67 : decode cX2_add 67 = .ok (.iload 5, 2) := by decide +kernel
theorem dX2_add_69 : decode cX2_add 69 = .ok (.invokevirtual 38, 3) := by decide +kernel
theorem dX2_add_72 : decode cX2_add 72 = .ok (.istore 6, 2) := by decide +kernel
theorem dX2_add_74 : decode cX2_add 74 = .ok (.aload_n 0, 1) := by decide +kernel
theorem dX2_add_75 : decode cX2_add 75 = .ok (.getfield 9, 3) := by decide +kernel
theorem dX2_add_78 : decode cX2_add 78 = .ok (.aload_n 0, 1) := by decide +kernel
theorem dX2_add_79 : decode cX2_add 79 = .ok (.getfield 21, 3) := by decide +kernel
theorem dX2_add_82 : decode cX2_add 82 = .ok (.bipush 20, 2) := by decide +kernel
theorem dX2_add_84 : decode cX2_add 84 = .ok (.imul, 1) := by decide +kernel
theorem dX2_add_85 : decode cX2_add 85 = .ok (.iload 5, 2) := by decide +kernel
theorem dX2_add_87 : decode cX2_add 87 = .ok (.iadd, 1) := by decide +kernel
theorem dX2_add_88 : decode cX2_add 88 = .ok (.bipush 100, 2) := by decide +kernel
theorem dX2_add_90 : decode cX2_add 90 = .ok (.iload 6, 2) := by decide +kernel
theorem dX2_add_92 : decode cX2_add 92 = .ok (.iload 4, 2) := by decide +kernel
theorem dX2_add_94 : decode cX2_add 94 = .ok (.idiv, 1) := by decide +kernel
theorem dX2_add_95 : decode cX2_add 95 = .ok (.imul, 1) := by decide +kernel
theorem dX2_add_96 : decode cX2_add 96 = .ok (.iload 6, 2) := by decide +kernel
theorem dX2_add_98 : decode cX2_add 98 = .ok (.iload 4, 2) := by decide +kernel
theorem dX2_add_100 : decode cX2_add 100 = .ok (.irem, 1) := by decide +kernel
theorem dX2_add_101 : decode cX2_add 101 = .ok (.iadd, 1) := by decide +kernel
theorem dX2_add_102 : decode cX2_add 102 = .ok (.iastore, 1) := by decide +kernel
theorem dX2_add_103 : decode cX2_add 103 = .ok (.iinc 5 1, 3) := by decide +kernel
theorem dX2_add_106 : decode cX2_add 106 = .ok (.goto (-53), 3) := by decide +kernel
theorem dX2_add_109 : decode cX2_add 109 = .ok (.aload_n 0, 1) := by decide +kernel
theorem dX2_add_110 : decode cX2_add 110 = .ok (.dup, 1) := by decide +kernel
theorem dX2_add_111 : decode cX2_add 111 = .ok (.getfield 21, 3) := by decide +kernel
theorem dX2_add_114 : decode cX2_add 114 = .ok (.iconst 1, 1) := by decide +kernel
theorem dX2_add_115 : decode cX2_add 115 = .ok (.iadd, 1) := by decide +kernel
theorem dX2_add_116 : decode cX2_add 116 = .ok (.putfield 21, 3) := by decide +kernel
theorem dX2_add_119 : decode cX2_add 119 = .ok (.return_, 1) := by decide +kernel
theorem dX2_pagesOf_0 : decode cX2_pagesOf 0 = .ok (.aload_n 0, 1) := by decide +kernel
theorem dX2_pagesOf_1 : decode cX2_pagesOf 1 = .ok (.getfield 15, 3) := by decide +kernel
theorem dX2_pagesOf_4 : decode cX2_pagesOf 4 = .ok (.iload_n 1, 1) := by decide +kernel
theorem dX2_pagesOf_5 : decode cX2_pagesOf 5 = .ok (.invokestatic 42, 3) := by decide +kernel
theorem dX2_pagesOf_8 : decode cX2_pagesOf 8 = .ok (.ireturn, 1) := by decide +kernel
theorem dX2_addressIn_0 : decode cX2_addressIn 0 = .ok (.aload_n 0, 1) := by decide +kernel
theorem dX2_addressIn_1 : decode cX2_addressIn 1 = .ok (.iload_n 1, 1) := by decide +kernel
theorem dX2_addressIn_2 : decode cX2_addressIn 2 = .ok (.invokevirtual 46, 3) := by decide +kernel
theorem dX2_addressIn_5 : decode cX2_addressIn 5 = .ok (.ifCond .eq 21, 3) := by decide +kernel
theorem dX2_addressIn_8 : decode cX2_addressIn 8 = .ok (.iload_n 2, 1) := by decide +kernel
theorem dX2_addressIn_9 : decode cX2_addressIn 9 = .ok (.ifCond .lt 17, 3) := by decide +kernel
theorem dX2_addressIn_12 : decode cX2_addressIn 12 = .ok (.iload_n 2, 1) := by decide +kernel
theorem dX2_addressIn_13 : decode cX2_addressIn 13 = .ok (.aload_n 0, 1) := by decide +kernel
theorem dX2_addressIn_14 : decode cX2_addressIn 14 = .ok (.getfield 18, 3) := by decide +kernel
theorem dX2_addressIn_17 : decode cX2_addressIn 17 = .ok (.iload_n 1, 1) := by decide +kernel
theorem dX2_addressIn_18 : decode cX2_addressIn 18 = .ok (.iaload, 1) := by decide +kernel
theorem dX2_addressIn_19 : decode cX2_addressIn 19 = .ok (.if_icmp .ge 7, 3) := by decide +kernel
theorem dX2_addressIn_22 : decode cX2_addressIn 22 = .ok (.iconst 1, 1) := by decide +kernel
theorem dX2_addressIn_23 : decode cX2_addressIn 23 = .ok (.goto 4, 3) := by decide +kernel
theorem dX2_addressIn_26 : decode cX2_addressIn 26 = .ok (.iconst 0, 1) := by decide +kernel
theorem dX2_addressIn_27 : decode cX2_addressIn 27 = .ok (.istore_n 3, 1) := by decide +kernel
theorem dX2_addressIn_28 : decode cX2_addressIn 28 = .ok (.iload_n 3, 1) := by decide +kernel
theorem dX2_addressIn_29 : decode cX2_addressIn 29 = .ok (.ifCond .eq 19, 3) := by decide +kernel
theorem dX2_addressIn_32 : decode cX2_addressIn 32 = .ok (.aload_n 0, 1) := by decide +kernel
theorem dX2_addressIn_33 : decode cX2_addressIn 33 = .ok (.getfield 9, 3) := by decide +kernel
theorem dX2_addressIn_36 : decode cX2_addressIn 36 = .ok (.iload_n 1, 1) := by decide +kernel
theorem dX2_addressIn_37 : decode cX2_addressIn 37 = .ok (.bipush 20, 2) := by decide +kernel
theorem dX2_addressIn_39 : decode cX2_addressIn 39 = .ok (.imul, 1) := by decide +kernel
theorem dX2_addressIn_40 : decode cX2_addressIn 40 = .ok (.iload_n 2, 1) := by decide +kernel
theorem dX2_addressIn_41 : decode cX2_addressIn 41 = .ok (.iadd, 1) := by decide +kernel
theorem dX2_addressIn_42 : decode cX2_addressIn 42 = .ok (.invokestatic 42, 3) := by decide +kernel
theorem dX2_addressIn_45 : decode cX2_addressIn 45 = .ok (.goto 4, 3) := by decide +kernel
theorem dX2_addressIn_48 : decode cX2_addressIn 48 = .ok (.iconst (-1), 1) := by decide +kernel
theorem dX2_addressIn_49 : decode cX2_addressIn 49 = .ok (.ireturn, 1) := by decide +kernel
theorem dX2_pageIn_0 : decode cX2_pageIn 0 = .ok (.aload_n 0, 1) := by decide +kernel
theorem dX2_pageIn_1 : decode cX2_pageIn 1 = .ok (.iload_n 1, 1) := by decide +kernel
theorem dX2_pageIn_2 : decode cX2_pageIn 2 = .ok (.iload_n 2, 1) := by decide +kernel
theorem dX2_pageIn_3 : decode cX2_pageIn 3 = .ok (.invokevirtual 50, 3) := by decide +kernel
theorem dX2_pageIn_6 : decode cX2_pageIn 6 = .ok (.istore_n 3, 1) := by decide +kernel
theorem dX2_pageIn_7 : decode cX2_pageIn 7 = .ok (.iload_n 3, 1) := by decide +kernel
theorem dX2_pageIn_8 : decode cX2_pageIn 8 = .ok (.iconst (-1), 1) := by decide +kernel
theorem dX2_pageIn_9 : decode cX2_pageIn 9 = .ok (.if_icmp .ne 7, 3) := by decide +kernel
theorem dX2_pageIn_12 : decode cX2_pageIn 12 = .ok (.iconst (-1), 1) := by decide +kernel
theorem dX2_pageIn_13 : decode cX2_pageIn 13 = .ok (.goto 7, 3) := by decide +kernel
theorem dX2_pageIn_16 : decode cX2_pageIn 16 = .ok (.iload_n 3, 1) := by decide +kernel
theorem dX2_pageIn_17 : decode cX2_pageIn 17 = .ok (.bipush 100, 2) := by decide +kernel
theorem dX2_pageIn_19 : decode cX2_pageIn 19 = .ok (.idiv, 1) := by decide +kernel
theorem dX2_pageIn_20 : decode cX2_pageIn 20 = .ok (.ireturn, 1) := by decide +kernel
theorem dX2_countHeld_0 : decode cX2_countHeld 0 = .ok (.iconst 0, 1) := by decide +kernel
theorem dX2_countHeld_1 : decode cX2_countHeld 1 = .ok (.istore_n 2, 1) := by decide +kernel
theorem dX2_countHeld_2 : decode cX2_countHeld 2 = .ok (.iconst 0, 1) := by decide +kernel
theorem dX2_countHeld_3 : decode cX2_countHeld 3 = .ok (.istore_n 3, 1) := by decide +kernel
theorem dX2_countHeld_4 : decode cX2_countHeld 4 = .ok (.iload_n 3, 1) := by decide +kernel
theorem dX2_countHeld_5 : decode cX2_countHeld 5 = .ok (.bipush 20, 2) := by decide +kernel
theorem dX2_countHeld_7 : decode cX2_countHeld 7 = .ok (.if_icmp .ge 37, 3) := by decide +kernel
theorem dX2_countHeld_10 : decode cX2_countHeld 10 = .ok (.aload_n 0, 1) := by decide +kernel
theorem dX2_countHeld_11 : decode cX2_countHeld 11 = .ok (.iload_n 1, 1) := by decide +kernel
theorem dX2_countHeld_12 : decode cX2_countHeld 12 = .ok (.iload_n 3, 1) := by decide +kernel
theorem dX2_countHeld_13 : decode cX2_countHeld 13 = .ok (.invokevirtual 54, 3) := by decide +kernel
theorem dX2_countHeld_16 : decode cX2_countHeld 16 = .ok (.istore 4, 2) := by decide +kernel
theorem dX2_countHeld_18 : decode cX2_countHeld 18 = .ok (.iload 4, 2) := by decide +kernel
theorem dX2_countHeld_20 : decode cX2_countHeld 20 = .ok (.iconst (-1), 1) := by decide +kernel
theorem dX2_countHeld_21 : decode cX2_countHeld 21 = .ok (.if_icmp .eq 17, 3) := by decide +kernel
theorem dX2_countHeld_24 : decode cX2_countHeld 24 = .ok (.iload 4, 2) := by decide +kernel
theorem dX2_countHeld_26 : decode cX2_countHeld 26 = .ok (.aload_n 0, 1) := by decide +kernel
theorem dX2_countHeld_27 : decode cX2_countHeld 27 = .ok (.iconst 0, 1) := by decide +kernel
theorem dX2_countHeld_28 : decode cX2_countHeld 28 = .ok (.iload_n 3, 1) := by decide +kernel
theorem dX2_countHeld_29 : decode cX2_countHeld 29 = .ok (.invokevirtual 54, 3) := by decide +kernel
theorem dX2_countHeld_32 : decode cX2_countHeld 32 = .ok (.if_icmp .ne 6, 3) := by decide +kernel
theorem dX2_countHeld_35 : decode cX2_countHeld 35 = .ok (.iinc 2 1, 3) := by decide +kernel
theorem dX2_countHeld_38 : decode cX2_countHeld 38 = .ok (.iinc 3 1, 3) := by decide +kernel
theorem dX2_countHeld_41 : decode cX2_countHeld 41 = .ok (.goto (-37), 3) := by decide +kernel
theorem dX2_countHeld_44 : decode cX2_countHeld 44 = .ok (.iload_n 2, 1) := by decide +kernel
theorem dX2_countHeld_45 : decode cX2_countHeld 45 = .ok (.ireturn, 1) := by decide +kernel
theorem dX2_unitsOn_0 : decode cX2_unitsOn 0 = .ok (.aload_n 0, 1) := by decide +kernel
theorem dX2_unitsOn_1 : decode cX2_unitsOn 1 = .ok (.getfield 21, 3) := by decide +kernel
theorem dX2_unitsOn_4 : decode cX2_unitsOn 4 = .ok (.iconst 1, 1) := by decide +kernel
theorem dX2_unitsOn_5 : decode cX2_unitsOn 5 = .ok (.isub, 1) := by decide +kernel
theorem dX2_unitsOn_6 : decode cX2_unitsOn 6 = .ok (.istore_n 2, 1) := by decide +kernel
theorem dX2_unitsOn_7 : decode cX2_unitsOn 7 = .ok (.aload_n 0, 1) := by decide +kernel
theorem dX2_unitsOn_8 : decode cX2_unitsOn 8 = .ok (.iload_n 2, 1) := by decide +kernel
theorem dX2_unitsOn_9 : decode cX2_unitsOn 9 = .ok (.invokevirtual 57, 3) := by decide +kernel
theorem dX2_unitsOn_12 : decode cX2_unitsOn 12 = .ok (.istore_n 3, 1) := by decide +kernel
theorem dX2_unitsOn_13 : decode cX2_unitsOn 13 = .ok (.iload_n 3, 1) := by decide +kernel
theorem dX2_unitsOn_14 : decode cX2_unitsOn 14 = .ok (.iconst 1, 1) := by decide +kernel
theorem dX2_unitsOn_15 : decode cX2_unitsOn 15 = .ok (.if_icmp .ge 5, 3) := by decide +kernel
theorem dX2_unitsOn_18 : decode cX2_unitsOn 18 = .ok (.iconst 0, 1) := by decide +kernel
theorem dX2_unitsOn_19 : decode cX2_unitsOn 19 = .ok (.ireturn, 1) := by decide +kernel
theorem dX2_unitsOn_20 : decode cX2_unitsOn 20 = .ok (.iconst 0, 1) := by decide +kernel
theorem dX2_unitsOn_21 : decode cX2_unitsOn 21 = .ok (.istore 4, 2) := by decide +kernel
theorem dX2_unitsOn_23 : decode cX2_unitsOn 23 = .ok (.iconst 0, 1) := by decide +kernel
theorem dX2_unitsOn_24 : decode cX2_unitsOn 24 = .ok (.istore 5, 2) := by decide +kernel
theorem dX2_unitsOn_26 : decode cX2_unitsOn 26 = .ok (.iload 5, 2) := by decide +kernel
theorem dX2_unitsOn_28 : decode cX2_unitsOn 28 = .ok (.bipush 20, 2) := by decide +kernel
theorem dX2_unitsOn_30 : decode cX2_unitsOn 30 = .ok (.if_icmp .ge 31, 3) := by decide +kernel
theorem dX2_unitsOn_33 : decode cX2_unitsOn 33 = .ok (.aload_n 0, 1) := by decide +kernel
theorem dX2_unitsOn_34 : decode cX2_unitsOn 34 = .ok (.iload_n 2, 1) := by decide +kernel
theorem dX2_unitsOn_35 : decode cX2_unitsOn 35 = .ok (.iload 5, 2) := by decide +kernel
theorem dX2_unitsOn_37 : decode cX2_unitsOn 37 = .ok (.invokevirtual 54, 3) := by decide +kernel
theorem dX2_unitsOn_40 : decode cX2_unitsOn 40 = .ok (.iload_n 1, 1) := by decide +kernel
theorem dX2_unitsOn_41 : decode cX2_unitsOn 41 = .ok (.iload_n 3, 1) := by decide +kernel
theorem dX2_unitsOn_42 : decode cX2_unitsOn 42 = .ok (.irem, 1) := by decide +kernel
theorem dX2_unitsOn_43 : decode cX2_unitsOn 43 = .ok (.if_icmp .ne 12, 3) := by decide +kernel
theorem dX2_unitsOn_46 : decode cX2_unitsOn 46 = .ok (.iload 4, 2) := by decide +kernel
theorem dX2_unitsOn_48 : decode cX2_unitsOn 48 = .ok (.iconst 1, 1) := by decide +kernel
theorem dX2_unitsOn_49 : decode cX2_unitsOn 49 = .ok (.iload 5, 2) := by decide +kernel
theorem dX2_unitsOn_51 : decode cX2_unitsOn 51 = .ok (.ishl, 1) := by decide +kernel
theorem dX2_unitsOn_52 : decode cX2_unitsOn 52 = .ok (.ior, 1) := by decide +kernel
theorem dX2_unitsOn_53 : decode cX2_unitsOn 53 = .ok (.istore 4, 2) := by decide +kernel
theorem dX2_unitsOn_55 : decode cX2_unitsOn 55 = .ok (.iinc 5 1, 3) := by decide +kernel
theorem dX2_unitsOn_58 : decode cX2_unitsOn 58 = .ok (.goto (-32), 3) := by decide +kernel
theorem dX2_unitsOn_61 : decode cX2_unitsOn 61 = .ok (.iload 4, 2) := by decide +kernel
theorem dX2_unitsOn_63 : decode cX2_unitsOn 63 = .ok (.ireturn, 1) := by decide +kernel
theorem dX3_init_0 : decode cX3_init 0 = .ok (.aload_n 0, 1) := by decide +kernel
theorem dX3_init_1 : decode cX3_init 1 = .ok (.invokespecial 3, 3) := by decide +kernel
theorem dX3_init_4 : decode cX3_init 4 = .ok (.aload_n 0, 1) := by decide +kernel
theorem dX3_init_5 : decode cX3_init 5 = .ok (.sipush 240, 3) := by decide +kernel
theorem dX3_init_8 : decode cX3_init 8 = .ok (.newarray .int, 2) := by decide +kernel
theorem dX3_init_10 : decode cX3_init 10 = .ok (.putfield 9, 3) := by decide +kernel
theorem dX3_init_13 : decode cX3_init 13 = .ok (.return_, 1) := by decide +kernel
theorem dX3_free_0 : decode cX3_free 0 = .ok (.aload_n 0, 1) := by decide +kernel
theorem dX3_free_1 : decode cX3_free 1 = .ok (.getfield 15, 3) := by decide +kernel
theorem dX3_free_4 : decode cX3_free 4 = .ok (.ireturn, 1) := by decide +kernel
theorem dX3_clear_0 : decode cX3_clear 0 = .ok (.aload_n 0, 1) := by decide +kernel
theorem dX3_clear_1 : decode cX3_clear 1 = .ok (.getfield 9, 3) := by decide +kernel
theorem dX3_clear_4 : decode cX3_clear 4 = .ok (.iconst 0, 1) := by decide +kernel
theorem dX3_clear_5 : decode cX3_clear 5 = .ok (.invokestatic 19, 3) := by decide +kernel
theorem dX3_clear_8 : decode cX3_clear 8 = .ok (.aload_n 0, 1) := by decide +kernel
theorem dX3_clear_9 : decode cX3_clear 9 = .ok (.iconst 0, 1) := by decide +kernel
theorem dX3_clear_10 : decode cX3_clear 10 = .ok (.putfield 15, 3) := by decide +kernel
theorem dX3_clear_13 : decode cX3_clear 13 = .ok (.return_, 1) := by decide +kernel
theorem dX3_add_0 : decode cX3_add 0 = .ok (.iload_n 1, 1) := by decide +kernel
theorem dX3_add_1 : decode cX3_add 1 = .ok (.ifCond .lt 22, 3) := by decide +kernel
theorem dX3_add_4 : decode cX3_add 4 = .ok (.iload_n 1, 1) := by decide +kernel
theorem dX3_add_5 : decode cX3_add 5 = .ok (.aload_n 0, 1) := by decide +kernel
theorem dX3_add_6 : decode cX3_add 6 = .ok (.getfield 9, 3) := by decide +kernel
theorem dX3_add_9 : decode cX3_add 9 = .ok (.arraylength, 1) := by decide +kernel
theorem dX3_add_10 : decode cX3_add 10 = .ok (.if_icmp .ge 13, 3) := by decide +kernel
theorem dX3_add_13 : decode cX3_add 13 = .ok (.aload_n 0, 1) := by decide +kernel
theorem dX3_add_14 : decode cX3_add 14 = .ok (.getfield 9, 3) := by decide +kernel
theorem dX3_add_17 : decode cX3_add 17 = .ok (.iload_n 1, 1) := by decide +kernel
theorem dX3_add_18 : decode cX3_add 18 = .ok (.dup2, 1) := by decide +kernel
theorem dX3_add_19 : decode cX3_add 19 = .ok (.iaload, 1) := by decide +kernel
theorem dX3_add_20 : decode cX3_add 20 = .ok (.iload_n 2, 1) := by decide +kernel
theorem dX3_add_21 : decode cX3_add 21 = .ok (.iadd, 1) := by decide +kernel
theorem dX3_add_22 : decode cX3_add 22 = .ok (.iastore, 1) := by decide +kernel
theorem dX3_add_23 : decode cX3_add 23 = .ok (.return_, 1) := by decide +kernel
theorem dX3_rowFor_0 : decode cX3_rowFor 0 = .ok (.aload_n 0, 1) := by decide +kernel
theorem dX3_rowFor_1 : decode cX3_rowFor 1 = .ok (.getfield 9, 3) := by decide +kernel
theorem dX3_rowFor_4 : decode cX3_rowFor 4 = .ok (.iload_n 1, 1) := by decide +kernel
theorem dX3_rowFor_5 : decode cX3_rowFor 5 = .ok (.invokestatic 25, 3) := by decide +kernel
theorem dX3_rowFor_8 : decode cX3_rowFor 8 = .ok (.ifCond .le 14, 3) := by decide +kernel
theorem dX3_rowFor_11 : decode cX3_rowFor 11 = .ok (.iload_n 2, 1) := by decide +kernel
theorem dX3_rowFor_12 : decode cX3_rowFor 12 = .ok (.aload_n 0, 1) := by decide +kernel
theorem dX3_rowFor_13 : decode cX3_rowFor 13 = .ok (.getfield 15, 3) := by decide +kernel
theorem dX3_rowFor_16 : decode cX3_rowFor 16 = .ok (.invokestatic 29, 3) := by decide +kernel
theorem dX3_rowFor_19 : decode cX3_rowFor 19 = .ok (.goto 4, 3) := by decide +kernel
theorem dX3_rowFor_22 : decode cX3_rowFor 22 = .ok (.iload_n 2, 1) := by decide +kernel
theorem dX3_rowFor_23 : decode cX3_rowFor 23 = .ok (.ireturn, 1) := by decide +kernel
theorem dX3_fill_0 : decode cX3_fill 0 = .ok (.aload_n 0, 1) := by decide +kernel
theorem dX3_fill_1 : decode cX3_fill 1 = .ok (.getfield 9, 3) := by decide +kernel
theorem dX3_fill_4 : decode cX3_fill 4 = .ok (.iload_n 1, 1) := by decide +kernel
theorem dX3_fill_5 : decode cX3_fill 5 = .ok (.invokestatic 25, 3) := by decide +kernel
theorem dX3_fill_8 : decode cX3_fill 8 = .ok (.ifCond .le 17, 3) := by decide +kernel
theorem dX3_fill_11 : decode cX3_fill 11 = .ok (.aload_n 0, 1) := by decide +kernel
theorem dX3_fill_12 : decode cX3_fill 12 = .ok (.iload_n 2, 1) := by decide +kernel
theorem dX3_fill_13 : decode cX3_fill 13 = .ok (.aload_n 0, 1) := by decide +kernel
theorem dX3_fill_14 : decode cX3_fill 14 = .ok (.getfield 9, 3) := by decide +kernel
theorem dX3_fill_17 : decode cX3_fill 17 = .ok (.iload_n 1, 1) := by decide +kernel
theorem dX3_fill_18 : decode cX3_fill 18 = .ok (.invokestatic 25, 3) := by decide +kernel
theorem dX3_fill_21 : decode cX3_fill 21 = .ok (.iadd, 1) := by decide +kernel
theorem dX3_fill_22 : decode cX3_fill 22 = .ok (.putfield 15, 3) := by decide +kernel
theorem dX3_fill_25 : decode cX3_fill 25 = .ok (.return_, 1) := by decide +kernel
theorem dX4_init_0 : decode cX4_init 0 = .ok (.aload_n 0, 1) := by decide +kernel
theorem dX4_init_1 : decode cX4_init 1 = .ok (.invokespecial 3, 3) := by decide +kernel
theorem dX4_init_4 : decode cX4_init 4 = .ok (.aload_n 0, 1) := by decide +kernel
theorem dX4_init_5 : decode cX4_init 5 = .ok (.bipush 12, 2) := by decide +kernel
theorem dX4_init_7 : decode cX4_init 7 = .ok (.newarray .int, 2) := by decide +kernel
theorem dX4_init_9 : decode cX4_init 9 = .ok (.putfield 9, 3) := by decide +kernel
theorem dX4_init_12 : decode cX4_init 12 = .ok (.return_, 1) := by decide +kernel
theorem dX4_size_0 : decode cX4_size 0 = .ok (.aload_n 0, 1) := by decide +kernel
theorem dX4_size_1 : decode cX4_size 1 = .ok (.getfield 15, 3) := by decide +kernel
theorem dX4_size_4 : decode cX4_size 4 = .ok (.ireturn, 1) := by decide +kernel
theorem dX4_isFull_0 : decode cX4_isFull 0 = .ok (.aload_n 0, 1) := by decide +kernel
theorem dX4_isFull_1 : decode cX4_isFull 1 = .ok (.getfield 15, 3) := by decide +kernel
theorem dX4_isFull_4 : decode cX4_isFull 4 = .ok (.aload_n 0, 1) := by decide +kernel
theorem dX4_isFull_5 : decode cX4_isFull 5 = .ok (.getfield 9, 3) := by decide +kernel
theorem dX4_isFull_8 : decode cX4_isFull 8 = .ok (.arraylength, 1) := by decide +kernel
theorem dX4_isFull_9 : decode cX4_isFull 9 = .ok (.if_icmp .lt 7, 3) := by decide +kernel
theorem dX4_isFull_12 : decode cX4_isFull 12 = .ok (.iconst 1, 1) := by decide +kernel
theorem dX4_isFull_13 : decode cX4_isFull 13 = .ok (.goto 4, 3) := by decide +kernel
theorem dX4_isFull_16 : decode cX4_isFull 16 = .ok (.iconst 0, 1) := by decide +kernel
theorem dX4_isFull_17 : decode cX4_isFull 17 = .ok (.ireturn, 1) := by decide +kernel
theorem dX4_add_0 : decode cX4_add 0 = .ok (.aload_n 0, 1) := by decide +kernel
theorem dX4_add_1 : decode cX4_add 1 = .ok (.invokevirtual 19, 3) := by decide +kernel
theorem dX4_add_4 : decode cX4_add 4 = .ok (.ifCond .ne 23, 3) := by decide +kernel
theorem dX4_add_7 : decode cX4_add 7 = .ok (.aload_n 0, 1) := by decide +kernel
theorem dX4_add_8 : decode cX4_add 8 = .ok (.getfield 9, 3) := by decide +kernel
theorem dX4_add_11 : decode cX4_add 11 = .ok (.aload_n 0, 1) := by decide +kernel
theorem dX4_add_12 : decode cX4_add 12 = .ok (.getfield 15, 3) := by decide +kernel
theorem dX4_add_15 : decode cX4_add 15 = .ok (.iload_n 1, 1) := by decide +kernel
theorem dX4_add_16 : decode cX4_add 16 = .ok (.iastore, 1) := by decide +kernel
theorem dX4_add_17 : decode cX4_add 17 = .ok (.aload_n 0, 1) := by decide +kernel
theorem dX4_add_18 : decode cX4_add 18 = .ok (.dup, 1) := by decide +kernel
theorem dX4_add_19 : decode cX4_add 19 = .ok (.getfield 15, 3) := by decide +kernel
theorem dX4_add_22 : decode cX4_add 22 = .ok (.iconst 1, 1) := by decide +kernel
theorem dX4_add_23 : decode cX4_add 23 = .ok (.iadd, 1) := by decide +kernel
theorem dX4_add_24 : decode cX4_add 24 = .ok (.putfield 15, 3) := by decide +kernel
theorem dX4_add_27 : decode cX4_add 27 = .ok (.return_, 1) := by decide +kernel
theorem dX4_clear_0 : decode cX4_clear 0 = .ok (.aload_n 0, 1) := by decide +kernel
theorem dX4_clear_1 : decode cX4_clear 1 = .ok (.iconst 0, 1) := by decide +kernel
theorem dX4_clear_2 : decode cX4_clear 2 = .ok (.putfield 15, 3) := by decide +kernel
theorem dX4_clear_5 : decode cX4_clear 5 = .ok (.return_, 1) := by decide +kernel
theorem dX4_wordAt_0 : decode cX4_wordAt 0 = .ok (.iload_n 1, 1) := by decide +kernel
theorem dX4_wordAt_1 : decode cX4_wordAt 1 = .ok (.aload_n 0, 1) := by decide +kernel
theorem dX4_wordAt_2 : decode cX4_wordAt 2 = .ok (.getfield 15, 3) := by decide +kernel
theorem dX4_wordAt_5 : decode cX4_wordAt 5 = .ok (.if_icmp .ge 14, 3) := by decide +kernel
theorem dX4_wordAt_8 : decode cX4_wordAt 8 = .ok (.aload_n 0, 1) := by decide +kernel
theorem dX4_wordAt_9 : decode cX4_wordAt 9 = .ok (.getfield 9, 3) := by decide +kernel
theorem dX4_wordAt_12 : decode cX4_wordAt 12 = .ok (.iload_n 1, 1) := by decide +kernel
theorem dX4_wordAt_13 : decode cX4_wordAt 13 = .ok (.invokestatic 23, 3) := by decide +kernel
theorem dX4_wordAt_16 : decode cX4_wordAt 16 = .ok (.goto 4, 3) := by decide +kernel
theorem dX4_wordAt_19 : decode cX4_wordAt 19 = .ok (.iconst (-1), 1) := by decide +kernel
theorem dX4_wordAt_20 : decode cX4_wordAt 20 = .ok (.ireturn, 1) := by decide +kernel
theorem dX5_init_0 : decode cX5_init 0 = .ok (.aload_n 0, 1) := by decide +kernel
theorem dX5_init_1 : decode cX5_init 1 = .ok (.invokespecial 3, 3) := by decide +kernel
theorem dX5_init_4 : decode cX5_init 4 = .ok (.aload_n 0, 1) := by decide +kernel
theorem dX5_init_5 : decode cX5_init 5 = .ok (.bipush 10, 2) := by decide +kernel
theorem dX5_init_7 : decode cX5_init 7 = .ok (.newarray .int, 2) := by decide +kernel
theorem dX5_init_9 : decode cX5_init 9 = .ok (.putfield 9, 3) := by decide +kernel
theorem dX5_init_12 : decode cX5_init 12 = .ok (.aload_n 0, 1) := by decide +kernel
theorem dX5_init_13 : decode cX5_init 13 = .ok (.bipush 10, 2) := by decide +kernel
theorem dX5_init_15 : decode cX5_init 15 = .ok (.newarray .int, 2) := by decide +kernel
theorem dX5_init_17 : decode cX5_init 17 = .ok (.putfield 15, 3) := by decide +kernel
theorem dX5_init_20 : decode cX5_init 20 = .ok (.aload_n 0, 1) := by decide +kernel
theorem dX5_init_21 : decode cX5_init 21 = .ok (.bipush 6, 2) := by decide +kernel
theorem dX5_init_23 : decode cX5_init 23 = .ok (.newarray .int, 2) := by decide +kernel
theorem dX5_init_25 : decode cX5_init 25 = .ok (.putfield 18, 3) := by decide +kernel
theorem dX5_init_28 : decode cX5_init 28 = .ok (.aload_n 0, 1) := by decide +kernel
theorem dX5_init_29 : decode cX5_init 29 = .ok (.bipush 6, 2) := by decide +kernel
theorem dX5_init_31 : decode cX5_init 31 = .ok (.newarray .int, 2) := by decide +kernel
theorem dX5_init_33 : decode cX5_init 33 = .ok (.putfield 21, 3) := by decide +kernel
theorem dX5_init_36 : decode cX5_init 36 = .ok (.return_, 1) := by decide +kernel
theorem dX5_has_0 : decode cX5_has 0 = .ok (.aload_n 0, 1) := by decide +kernel
theorem dX5_has_1 : decode cX5_has 1 = .ok (.getfield 9, 3) := by decide +kernel
theorem dX5_has_4 : decode cX5_has 4 = .ok (.iload_n 2, 1) := by decide +kernel
theorem dX5_has_5 : decode cX5_has 5 = .ok (.invokestatic 24, 3) := by decide +kernel
theorem dX5_has_8 : decode cX5_has 8 = .ok (.iload_n 1, 1) := by decide +kernel
theorem dX5_has_9 : decode cX5_has 9 = .ok (.ishr, 1) := by decide +kernel
theorem dX5_has_10 : decode cX5_has 10 = .ok (.iconst 1, 1) := by decide +kernel
theorem dX5_has_11 : decode cX5_has 11 = .ok (.iand, 1) := by decide +kernel
theorem dX5_has_12 : decode cX5_has 12 = .ok (.iconst 1, 1) := by decide +kernel
theorem dX5_has_13 : decode cX5_has 13 = .ok (.if_icmp .ne 7, 3) := by decide +kernel
theorem dX5_has_16 : decode cX5_has 16 = .ok (.iconst 1, 1) := by decide +kernel
theorem dX5_has_17 : decode cX5_has 17 = .ok (.goto 4, 3) := by decide +kernel
theorem dX5_has_20 : decode cX5_has 20 = .ok (.iconst 0, 1) := by decide +kernel
theorem dX5_has_21 : decode cX5_has 21 = .ok (.ireturn, 1) := by decide +kernel
theorem dX5_add_0 : decode cX5_add 0 = .ok (.iload_n 2, 1) := by decide +kernel
theorem dX5_add_1 : decode cX5_add 1 = .ok (.ifCond .lt 41, 3) := by decide +kernel
theorem dX5_add_4 : decode cX5_add 4 = .ok (.iload_n 2, 1) := by decide +kernel
theorem dX5_add_5 : decode cX5_add 5 = .ok (.bipush 10, 2) := by decide +kernel
theorem dX5_add_7 : decode cX5_add 7 = .ok (.if_icmp .ge 35, 3) := by decide +kernel
theorem dX5_add_10 : decode cX5_add 10 = .ok (.aload_n 0, 1) := by decide +kernel
theorem dX5_add_11 : decode cX5_add 11 = .ok (.getfield 9, 3) := by decide +kernel
theorem dX5_add_14 : decode cX5_add 14 = .ok (.iload_n 2, 1) := by decide +kernel
theorem dX5_add_15 : decode cX5_add 15 = .ok (.dup2, 1) := by decide +kernel
theorem dX5_add_16 : decode cX5_add 16 = .ok (.iaload, 1) := by decide +kernel
theorem dX5_add_17 : decode cX5_add 17 = .ok (.iconst 1, 1) := by decide +kernel
theorem dX5_add_18 : decode cX5_add 18 = .ok (.iload_n 1, 1) := by decide +kernel
theorem dX5_add_19 : decode cX5_add 19 = .ok (.ishl, 1) := by decide +kernel
theorem dX5_add_20 : decode cX5_add 20 = .ok (.ior, 1) := by decide +kernel
theorem dX5_add_21 : decode cX5_add 21 = .ok (.iastore, 1) := by decide +kernel
theorem dX5_add_22 : decode cX5_add 22 = .ok (.aload_n 0, 1) := by decide +kernel
theorem dX5_add_23 : decode cX5_add 23 = .ok (.getfield 15, 3) := by decide +kernel
theorem dX5_add_26 : decode cX5_add 26 = .ok (.iload_n 2, 1) := by decide +kernel
theorem dX5_add_27 : decode cX5_add 27 = .ok (.dup2, 1) := by decide +kernel
theorem dX5_add_28 : decode cX5_add 28 = .ok (.iaload, 1) := by decide +kernel
theorem dX5_add_29 : decode cX5_add 29 = .ok (.iload_n 3, 1) := by decide +kernel
theorem dX5_add_30 : decode cX5_add 30 = .ok (.ifCond .eq 9, 3) := by decide +kernel
theorem dX5_add_33 : decode cX5_add 33 = .ok (.iconst 1, 1) := by decide +kernel
theorem dX5_add_34 : decode cX5_add 34 = .ok (.iload_n 1, 1) := by decide +kernel
theorem dX5_add_35 : decode cX5_add 35 = .ok (.ishl, 1) := by decide +kernel
theorem dX5_add_36 : decode cX5_add 36 = .ok (.goto 4, 3) := by decide +kernel
theorem dX5_add_39 : decode cX5_add 39 = .ok (.iconst 0, 1) := by decide +kernel
theorem dX5_add_40 : decode cX5_add 40 = .ok (.ior, 1) := by decide +kernel
theorem dX5_add_41 : decode cX5_add 41 = .ok (.iastore, 1) := by decide +kernel
theorem dX5_add_42 : decode cX5_add 42 = .ok (.return_, 1) := by decide +kernel
theorem dX5_countOn_0 : decode cX5_countOn 0 = .ok (.aload_n 0, 1) := by decide +kernel
theorem dX5_countOn_1 : decode cX5_countOn 1 = .ok (.getfield 9, 3) := by decide +kernel
theorem dX5_countOn_4 : decode cX5_countOn 4 = .ok (.iload_n 1, 1) := by decide +kernel
theorem dX5_countOn_5 : decode cX5_countOn 5 = .ok (.invokestatic 24, 3) := by decide +kernel
theorem dX5_countOn_8 : decode cX5_countOn 8 = .ok (.invokestatic 28, 3) := by decide +kernel
theorem dX5_countOn_11 : decode cX5_countOn 11 = .ok (.ireturn, 1) := by decide +kernel
theorem dX5_areRulesFull_0 : decode cX5_areRulesFull 0 = .ok (.aload_n 0, 1) := by decide +kernel
theorem dX5_areRulesFull_1 : decode cX5_areRulesFull 1 = .ok (.getfield 34, 3) := by decide +kernel
theorem dX5_areRulesFull_4 : decode cX5_areRulesFull 4 = .ok (.bipush 6, 2) := by decide +kernel
theorem dX5_areRulesFull_6 : decode cX5_areRulesFull 6 = .ok (.if_icmp .lt 7, 3) := by decide +kernel
theorem dX5_areRulesFull_9 : decode cX5_areRulesFull 9 = .ok (.iconst 1, 1) := by decide +kernel
theorem dX5_areRulesFull_10 : decode cX5_areRulesFull 10 = .ok (.goto 4, 3) := by decide +kernel
theorem dX5_areRulesFull_13 : decode cX5_areRulesFull 13 = .ok (.iconst 0, 1) := by decide +kernel
theorem dX5_areRulesFull_14 : decode cX5_areRulesFull 14 = .ok (.ireturn, 1) := by decide +kernel
theorem dX5_countRules_0 : decode cX5_countRules 0 = .ok (.aload_n 0, 1) := by decide +kernel
theorem dX5_countRules_1 : decode cX5_countRules 1 = .ok (.getfield 34, 3) := by decide +kernel
theorem dX5_countRules_4 : decode cX5_countRules 4 = .ok (.ireturn, 1) := by decide +kernel
theorem dX5_hasRule_0 : decode cX5_hasRule 0 = .ok (.iload_n 1, 1) := by decide +kernel
theorem dX5_hasRule_1 : decode cX5_hasRule 1 = .ok (.ifCond .lt 15, 3) := by decide +kernel
theorem dX5_hasRule_4 : decode cX5_hasRule 4 = .ok (.iload_n 1, 1) := by decide +kernel
theorem dX5_hasRule_5 : decode cX5_hasRule 5 = .ok (.aload_n 0, 1) := by decide +kernel
theorem dX5_hasRule_6 : decode cX5_hasRule 6 = .ok (.getfield 34, 3) := by decide +kernel
theorem dX5_hasRule_9 : decode cX5_hasRule 9 = .ok (.if_icmp .ge 7, 3) := by decide +kernel
theorem dX5_hasRule_12 : decode cX5_hasRule 12 = .ok (.iconst 1, 1) := by decide +kernel
theorem dX5_hasRule_13 : decode cX5_hasRule 13 = .ok (.goto 4, 3) := by decide +kernel
theorem dX5_hasRule_16 : decode cX5_hasRule 16 = .ok (.iconst 0, 1) := by decide +kernel
theorem dX5_hasRule_17 : decode cX5_hasRule 17 = .ok (.ireturn, 1) := by decide +kernel
theorem dX5_kindOfRule_0 : decode cX5_kindOfRule 0 = .ok (.aload_n 0, 1) := by decide +kernel
theorem dX5_kindOfRule_1 : decode cX5_kindOfRule 1 = .ok (.getfield 18, 3) := by decide +kernel
theorem dX5_kindOfRule_4 : decode cX5_kindOfRule 4 = .ok (.iload_n 1, 1) := by decide +kernel
theorem dX5_kindOfRule_5 : decode cX5_kindOfRule 5 = .ok (.invokestatic 24, 3) := by decide +kernel
theorem dX5_kindOfRule_8 : decode cX5_kindOfRule 8 = .ok (.ireturn, 1) := by decide +kernel
theorem dX5_addRule_0 : decode cX5_addRule 0 = .ok (.aload_n 0, 1) := by decide +kernel
theorem dX5_addRule_1 : decode cX5_addRule 1 = .ok (.invokevirtual 38, 3) := by decide +kernel
theorem dX5_addRule_4 : decode cX5_addRule 4 = .ok (.ifCond .ne 33, 3) := by decide +kernel
theorem dX5_addRule_7 : decode cX5_addRule 7 = .ok (.aload_n 0, 1) := by decide +kernel
theorem dX5_addRule_8 : decode cX5_addRule 8 = .ok (.getfield 18, 3) := by decide +kernel
theorem dX5_addRule_11 : decode cX5_addRule 11 = .ok (.aload_n 0, 1) := by decide +kernel
theorem dX5_addRule_12 : decode cX5_addRule 12 = .ok (.getfield 34, 3) := by decide +kernel
theorem dX5_addRule_15 : decode cX5_addRule 15 = .ok (.iload_n 1, 1) := by decide +kernel
theorem dX5_addRule_16 : decode cX5_addRule 16 = .ok (.iastore, 1) := by decide +kernel
theorem dX5_addRule_17 : decode cX5_addRule 17 = .ok (.aload_n 0, 1) := by decide +kernel
theorem dX5_addRule_18 : decode cX5_addRule 18 = .ok (.getfield 21, 3) := by decide +kernel
theorem dX5_addRule_21 : decode cX5_addRule 21 = .ok (.aload_n 0, 1) := by decide +kernel
theorem dX5_addRule_22 : decode cX5_addRule 22 = .ok (.getfield 34, 3) := by decide +kernel
theorem dX5_addRule_25 : decode cX5_addRule 25 = .ok (.iload_n 2, 1) := by decide +kernel
theorem dX5_addRule_26 : decode cX5_addRule 26 = .ok (.iastore, 1) := by decide +kernel
theorem dX5_addRule_27 : decode cX5_addRule 27 = .ok (.aload_n 0, 1) := by decide +kernel
theorem dX5_addRule_28 : decode cX5_addRule 28 = .ok (.dup, 1) := by decide +kernel
theorem dX5_addRule_29 : decode cX5_addRule 29 = .ok (.getfield 34, 3) := by decide +kernel
theorem dX5_addRule_32 : decode cX5_addRule 32 = .ok (.iconst 1, 1) := by decide +kernel
theorem dX5_addRule_33 : decode cX5_addRule 33 = .ok (.iadd, 1) := by decide +kernel
theorem dX5_addRule_34 : decode cX5_addRule 34 = .ok (.putfield 34, 3) := by decide +kernel
theorem dX5_addRule_37 : decode cX5_addRule 37 = .ok (.return_, 1) := by decide +kernel
theorem dX5_removeRule_0 : decode cX5_removeRule 0 = .ok (.aload_n 0, 1) := by decide +kernel
theorem dX5_removeRule_1 : decode cX5_removeRule 1 = .ok (.iload_n 1, 1) := by decide +kernel
theorem dX5_removeRule_2 : decode cX5_removeRule 2 = .ok (.invokevirtual 42, 3) := by decide +kernel
theorem dX5_removeRule_5 : decode cX5_removeRule 5 = .ok (.ifCond .ne 4, 3) := by decide +kernel
theorem dX5_removeRule_8 : decode cX5_removeRule 8 = .ok (.return_, 1) := by decide +kernel
theorem dX5_removeRule_9 : decode cX5_removeRule 9 = .ok (.aload_n 0, 1) := by decide +kernel
theorem dX5_removeRule_10 : decode cX5_removeRule 10 = .ok (.dup, 1) := by decide +kernel
theorem dX5_removeRule_11 : decode cX5_removeRule 11 = .ok (.getfield 34, 3) := by decide +kernel
theorem dX5_removeRule_14 : decode cX5_removeRule 14 = .ok (.iconst 1, 1) := by decide +kernel
theorem dX5_removeRule_15 : decode cX5_removeRule 15 = .ok (.isub, 1) := by decide +kernel
theorem dX5_removeRule_16 : decode cX5_removeRule 16 = .ok (.putfield 34, 3) := by decide +kernel
theorem dX5_removeRule_19 : decode cX5_removeRule 19 = .ok (.iload_n 1, 1) := by decide +kernel
theorem dX5_removeRule_20 : decode cX5_removeRule 20 = .ok (.istore_n 2, 1) := by decide +kernel
theorem dX5_removeRule_21 : decode cX5_removeRule 21 = .ok (.iload_n 2, 1) := by decide +kernel
theorem dX5_removeRule_22 : decode cX5_removeRule 22 = .ok (.aload_n 0, 1) := by decide +kernel
theorem dX5_removeRule_23 : decode cX5_removeRule 23 = .ok (.getfield 34, 3) := by decide +kernel
theorem dX5_removeRule_26 : decode cX5_removeRule 26 = .ok (.if_icmp .ge 45, 3) := by decide +kernel
theorem dX5_removeRule_29 : decode cX5_removeRule 29 = .ok (.iload_n 2, 1) := by decide +kernel
theorem dX5_removeRule_30 : decode cX5_removeRule 30 = .ok (.iconst 1, 1) := by decide +kernel
theorem dX5_removeRule_31 : decode cX5_removeRule 31 = .ok (.iadd, 1) := by decide +kernel
theorem dX5_removeRule_32 : decode cX5_removeRule 32 = .ok (.bipush 6, 2) := by decide +kernel
theorem dX5_removeRule_34 : decode cX5_removeRule 34 = .ok (.if_icmp .ge 37, 3) := by decide +kernel
theorem dX5_removeRule_37 : decode cX5_removeRule 37 = .ok (.aload_n 0, 1) := by decide +kernel
theorem dX5_removeRule_38 : decode cX5_removeRule 38 = .ok (.getfield 18, 3) := by decide +kernel
theorem dX5_removeRule_41 : decode cX5_removeRule 41 = .ok (.iload_n 2, 1) := by decide +kernel
theorem dX5_removeRule_42 : decode cX5_removeRule 42 = .ok (.aload_n 0, 1) := by decide +kernel
theorem dX5_removeRule_43 : decode cX5_removeRule 43 = .ok (.getfield 18, 3) := by decide +kernel
theorem dX5_removeRule_46 : decode cX5_removeRule 46 = .ok (.iload_n 2, 1) := by decide +kernel
theorem dX5_removeRule_47 : decode cX5_removeRule 47 = .ok (.iconst 1, 1) := by decide +kernel
theorem dX5_removeRule_48 : decode cX5_removeRule 48 = .ok (.iadd, 1) := by decide +kernel
theorem dX5_removeRule_49 : decode cX5_removeRule 49 = .ok (.iaload, 1) := by decide +kernel
theorem dX5_removeRule_50 : decode cX5_removeRule 50 = .ok (.iastore, 1) := by decide +kernel
theorem dX5_removeRule_51 : decode cX5_removeRule 51 = .ok (.aload_n 0, 1) := by decide +kernel
theorem dX5_removeRule_52 : decode cX5_removeRule 52 = .ok (.getfield 21, 3) := by decide +kernel
theorem dX5_removeRule_55 : decode cX5_removeRule 55 = .ok (.iload_n 2, 1) := by decide +kernel
theorem dX5_removeRule_56 : decode cX5_removeRule 56 = .ok (.aload_n 0, 1) := by decide +kernel
theorem dX5_removeRule_57 : decode cX5_removeRule 57 = .ok (.getfield 21, 3) := by decide +kernel
theorem dX5_removeRule_60 : decode cX5_removeRule 60 = .ok (.iload_n 2, 1) := by decide +kernel
theorem dX5_removeRule_61 : decode cX5_removeRule 61 = .ok (.iconst 1, 1) := by decide +kernel
theorem dX5_removeRule_62 : decode cX5_removeRule 62 = .ok (.iadd, 1) := by decide +kernel
theorem dX5_removeRule_63 : decode cX5_removeRule 63 = .ok (.iaload, 1) := by decide +kernel
theorem dX5_removeRule_64 : decode cX5_removeRule 64 = .ok (.iastore, 1) := by decide +kernel
theorem dX5_removeRule_65 : decode cX5_removeRule 65 = .ok (.iinc 2 1, 3) := by decide +kernel
theorem dX5_removeRule_68 : decode cX5_removeRule 68 = .ok (.goto (-47), 3) := by decide +kernel
theorem dX5_removeRule_71 : decode cX5_removeRule 71 = .ok (.return_, 1) := by decide +kernel
theorem dX5_decide_0 : decode cX5_decide 0 = .ok (.iconst 0, 1) := by decide +kernel
theorem dX5_decide_1 : decode cX5_decide 1 = .ok (.istore_n 3, 1) := by decide +kernel
theorem dX5_decide_2 : decode cX5_decide 2 = .ok (.iload_n 3, 1) := by decide +kernel
theorem dX5_decide_3 : decode cX5_decide 3 = .ok (.aload_n 0, 1) := by decide +kernel
theorem dX5_decide_4 : decode cX5_decide 4 = .ok (.getfield 34, 3) := by decide +kernel
theorem dX5_decide_7 : decode cX5_decide 7 = .ok (.if_icmp .ge 43, 3) := by decide +kernel
theorem dX5_decide_10 : decode cX5_decide 10 = .ok (.aload_n 0, 1) := by decide +kernel
theorem dX5_decide_11 : decode cX5_decide 11 = .ok (.aload_n 0, 1) := by decide +kernel
theorem dX5_decide_12 : decode cX5_decide 12 = .ok (.getfield 18, 3) := by decide +kernel
theorem dX5_decide_15 : decode cX5_decide 15 = .ok (.iload_n 3, 1) := by decide +kernel
theorem dX5_decide_16 : decode cX5_decide 16 = .ok (.iaload, 1) := by decide +kernel
theorem dX5_decide_17 : decode cX5_decide 17 = .ok (.aload_n 0, 1) := by decide +kernel
theorem dX5_decide_18 : decode cX5_decide 18 = .ok (.getfield 21, 3) := by decide +kernel
theorem dX5_decide_21 : decode cX5_decide 21 = .ok (.iload_n 3, 1) := by decide +kernel
theorem dX5_decide_22 : decode cX5_decide 22 = .ok (.iaload, 1) := by decide +kernel
theorem dX5_decide_23 : decode cX5_decide 23 = .ok (.iload_n 1, 1) := by decide +kernel
theorem dX5_decide_24 : decode cX5_decide 24 = .ok (.aload_n 2, 1) := by decide +kernel
theorem dX5_decide_25 : decode cX5_decide 25 = .ok (.invokevirtual 46, 3) := by decide +kernel
theorem dX5_decide_28 : decode cX5_decide 28 = .ok (.istore 4, 2) := by decide +kernel
theorem dX5_decide_30 : decode cX5_decide 30 = .ok (.iload 4, 2) := by decide +kernel
theorem dX5_decide_32 : decode cX5_decide 32 = .ok (.iconst (-1), 1) := by decide +kernel
theorem dX5_decide_33 : decode cX5_decide 33 = .ok (.if_icmp .eq 11, 3) := by decide +kernel
theorem dX5_decide_36 : decode cX5_decide 36 = .ok (.bipush 10, 2) := by decide +kernel
theorem dX5_decide_38 : decode cX5_decide 38 = .ok (.iload_n 3, 1) := by decide +kernel
theorem dX5_decide_39 : decode cX5_decide 39 = .ok (.imul, 1) := by decide +kernel
theorem dX5_decide_40 : decode cX5_decide 40 = .ok (.iload 4, 2) := by decide +kernel
theorem dX5_decide_42 : decode cX5_decide 42 = .ok (.iadd, 1) := by decide +kernel
theorem dX5_decide_43 : decode cX5_decide 43 = .ok (.ireturn, 1) := by decide +kernel
theorem dX5_decide_44 : decode cX5_decide 44 = .ok (.iinc 3 1, 3) := by decide +kernel
theorem dX5_decide_47 : decode cX5_decide 47 = .ok (.goto (-45), 3) := by decide +kernel
theorem dX5_decide_50 : decode cX5_decide 50 = .ok (.iconst (-1), 1) := by decide +kernel
theorem dX5_decide_51 : decode cX5_decide 51 = .ok (.ireturn, 1) := by decide +kernel
theorem dX5_tell_0 : decode cX5_tell 0 = .ok (.iload_n 1, 1) := by decide +kernel
theorem dX5_tell_1 : decode cX5_tell 1 = .ok (.tableswitch 73 0 2 #[27, 47, 67], 27) := by decide +kernel
theorem dX5_tell_28 : decode cX5_tell 28 = .ok (.aload_n 0, 1) := by decide +kernel
theorem dX5_tell_29 : decode cX5_tell 29 = .ok (.aload 4, 2) := by decide +kernel
theorem dX5_tell_31 : decode cX5_tell 31 = .ok (.aload_n 0, 1) := by decide +kernel
theorem dX5_tell_32 : decode cX5_tell 32 = .ok (.getfield 9, 3) := by decide +kernel
theorem dX5_tell_35 : decode cX5_tell 35 = .ok (.iload_n 3, 1) := by decide +kernel
theorem dX5_tell_36 : decode cX5_tell 36 = .ok (.invokestatic 24, 3) := by decide +kernel
theorem dX5_tell_39 : decode cX5_tell 39 = .ok (.iload_n 2, 1) := by decide +kernel
theorem dX5_tell_40 : decode cX5_tell 40 = .ok (.invokevirtual 50, 3) := by decide +kernel
theorem dX5_tell_43 : decode cX5_tell 43 = .ok (.iload_n 3, 1) := by decide +kernel
theorem dX5_tell_44 : decode cX5_tell 44 = .ok (.invokevirtual 56, 3) := by decide +kernel
theorem dX5_tell_47 : decode cX5_tell 47 = .ok (.ireturn, 1) := by decide +kernel
theorem dX5_tell_48 : decode cX5_tell 48 = .ok (.aload_n 0, 1) := by decide +kernel
theorem dX5_tell_49 : decode cX5_tell 49 = .ok (.aload 4, 2) := by decide +kernel
theorem dX5_tell_51 : decode cX5_tell 51 = .ok (.aload_n 0, 1) := by decide +kernel
theorem dX5_tell_52 : decode cX5_tell 52 = .ok (.getfield 9, 3) := by decide +kernel
theorem dX5_tell_55 : decode cX5_tell 55 = .ok (.iload_n 3, 1) := by decide +kernel
theorem dX5_tell_56 : decode cX5_tell 56 = .ok (.invokestatic 24, 3) := by decide +kernel
theorem dX5_tell_59 : decode cX5_tell 59 = .ok (.iconst (-1), 1) := by decide +kernel
theorem dX5_tell_60 : decode cX5_tell 60 = .ok (.invokevirtual 50, 3) := by decide +kernel
theorem dX5_tell_63 : decode cX5_tell 63 = .ok (.iload_n 3, 1) := by decide +kernel
theorem dX5_tell_64 : decode cX5_tell 64 = .ok (.invokevirtual 56, 3) := by decide +kernel
theorem dX5_tell_67 : decode cX5_tell 67 = .ok (.ireturn, 1) := by decide +kernel
theorem dX5_tell_68 : decode cX5_tell 68 = .ok (.aload_n 0, 1) := by decide +kernel
theorem dX5_tell_69 : decode cX5_tell 69 = .ok (.iload_n 3, 1) := by decide +kernel
theorem dX5_tell_70 : decode cX5_tell 70 = .ok (.invokevirtual 59, 3) := by decide +kernel
theorem dX5_tell_73 : decode cX5_tell 73 = .ok (.ireturn, 1) := by decide +kernel
theorem dX5_tell_74 : decode cX5_tell 74 = .ok (.iload_n 2, 1) := by decide +kernel
theorem dX5_tell_75 : decode cX5_tell 75 = .ok (.iconst 1, 1) := by decide +kernel
theorem dX5_tell_76 : decode cX5_tell 76 = .ok (.ishr, 1) := by decide +kernel
theorem dX5_tell_77 : decode cX5_tell 77 = .ok (.iload_n 3, 1) := by decide +kernel
theorem dX5_tell_78 : decode cX5_tell 78 = .ok (.if_icmp .ne 9, 3) := by decide +kernel
theorem dX5_tell_81 : decode cX5_tell 81 = .ok (.iload_n 2, 1) := by decide +kernel
theorem dX5_tell_82 : decode cX5_tell 82 = .ok (.iconst 1, 1) := by decide +kernel
theorem dX5_tell_83 : decode cX5_tell 83 = .ok (.iand, 1) := by decide +kernel
theorem dX5_tell_84 : decode cX5_tell 84 = .ok (.goto 4, 3) := by decide +kernel
theorem dX5_tell_87 : decode cX5_tell 87 = .ok (.iconst (-1), 1) := by decide +kernel
theorem dX5_tell_88 : decode cX5_tell 88 = .ok (.ireturn, 1) := by decide +kernel
theorem dX5_rulingOf_0 : decode cX5_rulingOf 0 = .ok (.iload_n 1, 1) := by decide +kernel
theorem dX5_rulingOf_1 : decode cX5_rulingOf 1 = .ok (.iconst (-1), 1) := by decide +kernel
theorem dX5_rulingOf_2 : decode cX5_rulingOf 2 = .ok (.if_icmp .ne 7, 3) := by decide +kernel
theorem dX5_rulingOf_5 : decode cX5_rulingOf 5 = .ok (.iconst (-1), 1) := by decide +kernel
theorem dX5_rulingOf_6 : decode cX5_rulingOf 6 = .ok (.goto 15, 3) := by decide +kernel
theorem dX5_rulingOf_9 : decode cX5_rulingOf 9 = .ok (.aload_n 0, 1) := by decide +kernel
theorem dX5_rulingOf_10 : decode cX5_rulingOf 10 = .ok (.getfield 15, 3) := by decide +kernel
theorem dX5_rulingOf_13 : decode cX5_rulingOf 13 = .ok (.iload_n 2, 1) := by decide +kernel
theorem dX5_rulingOf_14 : decode cX5_rulingOf 14 = .ok (.invokestatic 24, 3) := by decide +kernel
theorem dX5_rulingOf_17 : decode cX5_rulingOf 17 = .ok (.iload_n 1, 1) := by decide +kernel
theorem dX5_rulingOf_18 : decode cX5_rulingOf 18 = .ok (.ishr, 1) := by decide +kernel
theorem dX5_rulingOf_19 : decode cX5_rulingOf 19 = .ok (.iconst 1, 1) := by decide +kernel
theorem dX5_rulingOf_20 : decode cX5_rulingOf 20 = .ok (.iand, 1) := by decide +kernel
theorem dX5_rulingOf_21 : decode cX5_rulingOf 21 = .ok (.ireturn, 1) := by decide +kernel
theorem dX5_rulingOfMost_0 : decode cX5_rulingOfMost 0 = .ok (.aload_n 0, 1) := by decide +kernel
theorem dX5_rulingOfMost_1 : decode cX5_rulingOfMost 1 = .ok (.getfield 15, 3) := by decide +kernel
theorem dX5_rulingOfMost_4 : decode cX5_rulingOfMost 4 = .ok (.iload_n 1, 1) := by decide +kernel
theorem dX5_rulingOfMost_5 : decode cX5_rulingOfMost 5 = .ok (.invokestatic 24, 3) := by decide +kernel
theorem dX5_rulingOfMost_8 : decode cX5_rulingOfMost 8 = .ok (.invokestatic 28, 3) := by decide +kernel
theorem dX5_rulingOfMost_11 : decode cX5_rulingOfMost 11 = .ok (.istore_n 2, 1) := by decide +kernel
theorem dX5_rulingOfMost_12 : decode cX5_rulingOfMost 12 = .ok (.aload_n 0, 1) := by decide +kernel
theorem dX5_rulingOfMost_13 : decode cX5_rulingOfMost 13 = .ok (.iload_n 1, 1) := by decide +kernel
theorem dX5_rulingOfMost_14 : decode cX5_rulingOfMost 14 = .ok (.invokevirtual 62, 3) := by decide +kernel
theorem dX5_rulingOfMost_17 : decode cX5_rulingOfMost 17 = .ok (.iload_n 2, 1) := by decide +kernel
theorem dX5_rulingOfMost_18 : decode cX5_rulingOfMost 18 = .ok (.isub, 1) := by decide +kernel
theorem dX5_rulingOfMost_19 : decode cX5_rulingOfMost 19 = .ok (.istore_n 3, 1) := by decide +kernel
theorem dX5_rulingOfMost_20 : decode cX5_rulingOfMost 20 = .ok (.iload_n 2, 1) := by decide +kernel
theorem dX5_rulingOfMost_21 : decode cX5_rulingOfMost 21 = .ok (.iload_n 3, 1) := by decide +kernel
theorem dX5_rulingOfMost_22 : decode cX5_rulingOfMost 22 = .ok (.if_icmp .ne 5, 3) := by decide +kernel
theorem dX5_rulingOfMost_25 : decode cX5_rulingOfMost 25 = .ok (.iconst (-1), 1) := by decide +kernel
theorem dX5_rulingOfMost_26 : decode cX5_rulingOfMost 26 = .ok (.ireturn, 1) := by decide +kernel
theorem dX5_rulingOfMost_27 : decode cX5_rulingOfMost 27 = .ok (.iload_n 2, 1) := by decide +kernel
theorem dX5_rulingOfMost_28 : decode cX5_rulingOfMost 28 = .ok (.iload_n 3, 1) := by decide +kernel
theorem dX5_rulingOfMost_29 : decode cX5_rulingOfMost 29 = .ok (.if_icmp .le 7, 3) := by decide +kernel
theorem dX5_rulingOfMost_32 : decode cX5_rulingOfMost 32 = .ok (.iconst 1, 1) := by decide +kernel
theorem dX5_rulingOfMost_33 : decode cX5_rulingOfMost 33 = .ok (.goto 4, 3) := by decide +kernel
theorem dX5_rulingOfMost_36 : decode cX5_rulingOfMost 36 = .ok (.iconst 0, 1) := by decide +kernel
theorem dX5_rulingOfMost_37 : decode cX5_rulingOfMost 37 = .ok (.ireturn, 1) := by decide +kernel
theorem dX6_init_0 : decode cX6_init 0 = .ok (.aload_n 0, 1) := by decide +kernel
theorem dX6_init_1 : decode cX6_init 1 = .ok (.invokespecial 3, 3) := by decide +kernel
theorem dX6_init_4 : decode cX6_init 4 = .ok (.aload_n 0, 1) := by decide +kernel
theorem dX6_init_5 : decode cX6_init 5 = .ok (.new 9, 3) := by decide +kernel
theorem dX6_init_8 : decode cX6_init 8 = .ok (.dup, 1) := by decide +kernel
theorem dX6_init_9 : decode cX6_init 9 = .ok (.invokespecial 11, 3) := by decide +kernel
theorem dX6_init_12 : decode cX6_init 12 = .ok (.putfield 12, 3) := by decide +kernel
theorem dX6_init_15 : decode cX6_init 15 = .ok (.aload_n 0, 1) := by decide +kernel
theorem dX6_init_16 : decode cX6_init 16 = .ok (.new 9, 3) := by decide +kernel
theorem dX6_init_19 : decode cX6_init 19 = .ok (.dup, 1) := by decide +kernel
theorem dX6_init_20 : decode cX6_init 20 = .ok (.invokespecial 11, 3) := by decide +kernel
theorem dX6_init_23 : decode cX6_init 23 = .ok (.putfield 18, 3) := by decide +kernel
theorem dX6_init_26 : decode cX6_init 26 = .ok (.aload_n 0, 1) := by decide +kernel
theorem dX6_init_27 : decode cX6_init 27 = .ok (.sipush 240, 3) := by decide +kernel
theorem dX6_init_30 : decode cX6_init 30 = .ok (.newarray .int, 2) := by decide +kernel
theorem dX6_init_32 : decode cX6_init 32 = .ok (.putfield 21, 3) := by decide +kernel
theorem dX6_init_35 : decode cX6_init 35 = .ok (.return_, 1) := by decide +kernel
theorem dX6_set_0 : decode cX6_set 0 = .ok (.aload_n 0, 1) := by decide +kernel
theorem dX6_set_1 : decode cX6_set 1 = .ok (.iload_n 3, 1) := by decide +kernel
theorem dX6_set_2 : decode cX6_set 2 = .ok (.putfield 25, 3) := by decide +kernel
theorem dX6_set_5 : decode cX6_set 5 = .ok (.aload_n 0, 1) := by decide +kernel
theorem dX6_set_6 : decode cX6_set 6 = .ok (.iconst 0, 1) := by decide +kernel
theorem dX6_set_7 : decode cX6_set 7 = .ok (.putfield 29, 3) := by decide +kernel
theorem dX6_set_10 : decode cX6_set 10 = .ok (.aload_n 0, 1) := by decide +kernel
theorem dX6_set_11 : decode cX6_set 11 = .ok (.getfield 12, 3) := by decide +kernel
theorem dX6_set_14 : decode cX6_set 14 = .ok (.invokevirtual 32, 3) := by decide +kernel
theorem dX6_set_17 : decode cX6_set 17 = .ok (.aload_n 0, 1) := by decide +kernel
theorem dX6_set_18 : decode cX6_set 18 = .ok (.getfield 18, 3) := by decide +kernel
theorem dX6_set_21 : decode cX6_set 21 = .ok (.invokevirtual 32, 3) := by decide +kernel
theorem dX6_set_24 : decode cX6_set 24 = .ok (.aload_n 0, 1) := by decide +kernel
theorem dX6_set_25 : decode cX6_set 25 = .ok (.aload_n 2, 1) := by decide +kernel
theorem dX6_set_26 : decode cX6_set 26 = .ok (.invokevirtual 35, 3) := by decide +kernel
theorem dX6_set_29 : decode cX6_set 29 = .ok (.iconst 0, 1) := by decide +kernel
theorem dX6_set_30 : decode cX6_set 30 = .ok (.istore 4, 2) := by decide +kernel
theorem dX6_set_32 : decode cX6_set 32 = .ok (.iload 4, 2) := by decide +kernel
theorem dX6_set_34 : decode cX6_set 34 = .ok (.aload_n 1, 1) := by decide +kernel
theorem dX6_set_35 : decode cX6_set 35 = .ok (.invokevirtual 39, 3) := by decide +kernel
theorem dX6_set_38 : decode cX6_set 38 = .ok (.if_icmp .ge 52, 3) := by decide +kernel
theorem dX6_set_41 : decode cX6_set 41 = .ok (.iconst 0, 1) := by decide +kernel
theorem dX6_set_42 : decode cX6_set 42 = .ok (.istore 5, 2) := by decide +kernel
theorem dX6_set_44 : decode cX6_set 44 = .ok (.iload 5, 2) := by decide +kernel
theorem dX6_set_46 : decode cX6_set 46 = .ok (.aload_n 1, 1) := by decide +kernel
theorem dX6_set_47 : decode cX6_set 47 = .ok (.iload 4, 2) := by decide +kernel
theorem dX6_set_49 : decode cX6_set 49 = .ok (.invokevirtual 45, 3) := by decide +kernel
theorem dX6_set_52 : decode cX6_set 52 = .ok (.if_icmp .ge 32, 3) := by decide +kernel
theorem dX6_set_55 : decode cX6_set 55 = .ok (.aload_n 0, 1) := by decide +kernel
theorem dX6_set_56 : decode cX6_set 56 = .ok (.iload 5, 2) := by decide +kernel
theorem dX6_set_58 : decode cX6_set 58 = .ok (.invokevirtual 49, 3) := by decide +kernel
theorem dX6_set_61 : decode cX6_set 61 = .ok (.iload 5, 2) := by decide +kernel
theorem dX6_set_63 : decode cX6_set 63 = .ok (.if_icmp .ne 15, 3) := by decide +kernel
theorem dX6_set_66 : decode cX6_set 66 = .ok (.aload_n 0, 1) := by decide +kernel
theorem dX6_set_67 : decode cX6_set 67 = .ok (.iload 4, 2) := by decide +kernel
theorem dX6_set_69 : decode cX6_set 69 = .ok (.bipush 12, 2) := by decide +kernel
theorem dX6_set_71 : decode cX6_set 71 = .ok (.imul, 1) := by decide +kernel
theorem dX6_set_72 : decode cX6_set 72 = .ok (.iload 5, 2) := by decide +kernel
theorem dX6_set_74 : decode cX6_set 74 = .ok (.iadd, 1) := by decide +kernel
theorem dX6_set_75 : decode cX6_set 75 = .ok (.invokevirtual 52, 3) := by decide +kernel
theorem dX6_set_78 : decode cX6_set 78 = .ok (.iinc 5 1, 3) := by decide +kernel
theorem dX6_set_81 : decode cX6_set 81 = .ok (.goto (-37), 3) := by decide +kernel
theorem dX6_set_84 : decode cX6_set 84 = .ok (.iinc 4 1, 3) := by decide +kernel
theorem dX6_set_87 : decode cX6_set 87 = .ok (.goto (-55), 3) := by decide +kernel
theorem dX6_set_90 : decode cX6_set 90 = .ok (.return_, 1) := by decide +kernel
theorem dX6_firstOfLine_0 : decode cX6_firstOfLine 0 = .ok (.aload_n 0, 1) := by decide +kernel
theorem dX6_firstOfLine_1 : decode cX6_firstOfLine 1 = .ok (.getfield 25, 3) := by decide +kernel
theorem dX6_firstOfLine_4 : decode cX6_firstOfLine 4 = .ok (.iconst 1, 1) := by decide +kernel
theorem dX6_firstOfLine_5 : decode cX6_firstOfLine 5 = .ok (.if_icmp .ge 7, 3) := by decide +kernel
theorem dX6_firstOfLine_8 : decode cX6_firstOfLine 8 = .ok (.iload_n 1, 1) := by decide +kernel
theorem dX6_firstOfLine_9 : decode cX6_firstOfLine 9 = .ok (.goto 11, 3) := by decide +kernel
theorem dX6_firstOfLine_12 : decode cX6_firstOfLine 12 = .ok (.iload_n 1, 1) := by decide +kernel
theorem dX6_firstOfLine_13 : decode cX6_firstOfLine 13 = .ok (.iload_n 1, 1) := by decide +kernel
theorem dX6_firstOfLine_14 : decode cX6_firstOfLine 14 = .ok (.aload_n 0, 1) := by decide +kernel
theorem dX6_firstOfLine_15 : decode cX6_firstOfLine 15 = .ok (.getfield 25, 3) := by decide +kernel
theorem dX6_firstOfLine_18 : decode cX6_firstOfLine 18 = .ok (.irem, 1) := by decide +kernel
theorem dX6_firstOfLine_19 : decode cX6_firstOfLine 19 = .ok (.isub, 1) := by decide +kernel
theorem dX6_firstOfLine_20 : decode cX6_firstOfLine 20 = .ok (.ireturn, 1) := by decide +kernel
theorem dX6_gatherNotes_0 : decode cX6_gatherNotes 0 = .ok (.iconst 0, 1) := by decide +kernel
theorem dX6_gatherNotes_1 : decode cX6_gatherNotes 1 = .ok (.istore_n 2, 1) := by decide +kernel
theorem dX6_gatherNotes_2 : decode cX6_gatherNotes 2 = .ok (.iload_n 2, 1) := by decide +kernel
theorem dX6_gatherNotes_3 : decode cX6_gatherNotes 3 = .ok (.aload_n 1, 1) := by decide +kernel
theorem dX6_gatherNotes_4 : decode cX6_gatherNotes 4 = .ok (.invokevirtual 56, 3) := by decide +kernel
theorem dX6_gatherNotes_7 : decode cX6_gatherNotes 7 = .ok (.if_icmp .ge 52, 3) := by decide +kernel
theorem dX6_gatherNotes_10 : decode cX6_gatherNotes 10 = .ok (.aload_n 1, 1) := by decide +kernel
theorem dX6_gatherNotes_11 : decode cX6_gatherNotes 11 = .ok (.iload_n 2, 1) := by decide +kernel
theorem dX6_gatherNotes_12 : decode cX6_gatherNotes 12 = .ok (.invokevirtual 59, 3) := by decide +kernel
theorem dX6_gatherNotes_15 : decode cX6_gatherNotes 15 = .ok (.ifCond .ne 38, 3) := by decide +kernel
theorem dX6_gatherNotes_18 : decode cX6_gatherNotes 18 = .ok (.aload_n 1, 1) := by decide +kernel
theorem dX6_gatherNotes_19 : decode cX6_gatherNotes 19 = .ok (.iload_n 2, 1) := by decide +kernel
theorem dX6_gatherNotes_20 : decode cX6_gatherNotes 20 = .ok (.invokevirtual 63, 3) := by decide +kernel
theorem dX6_gatherNotes_23 : decode cX6_gatherNotes 23 = .ok (.ifCond .ne 10, 3) := by decide +kernel
theorem dX6_gatherNotes_26 : decode cX6_gatherNotes 26 = .ok (.aload_n 0, 1) := by decide +kernel
theorem dX6_gatherNotes_27 : decode cX6_gatherNotes 27 = .ok (.getfield 12, 3) := by decide +kernel
theorem dX6_gatherNotes_30 : decode cX6_gatherNotes 30 = .ok (.goto 7, 3) := by decide +kernel
theorem dX6_gatherNotes_33 : decode cX6_gatherNotes 33 = .ok (.aload_n 0, 1) := by decide +kernel
theorem dX6_gatherNotes_34 : decode cX6_gatherNotes 34 = .ok (.getfield 18, 3) := by decide +kernel
theorem dX6_gatherNotes_37 : decode cX6_gatherNotes 37 = .ok (.astore_n 3, 1) := by decide +kernel
theorem dX6_gatherNotes_38 : decode cX6_gatherNotes 38 = .ok (.aload_n 3, 1) := by decide +kernel
theorem dX6_gatherNotes_39 : decode cX6_gatherNotes 39 = .ok (.aload_n 0, 1) := by decide +kernel
theorem dX6_gatherNotes_40 : decode cX6_gatherNotes 40 = .ok (.iload_n 2, 1) := by decide +kernel
theorem dX6_gatherNotes_41 : decode cX6_gatherNotes 41 = .ok (.aload_n 1, 1) := by decide +kernel
theorem dX6_gatherNotes_42 : decode cX6_gatherNotes 42 = .ok (.invokevirtual 66, 3) := by decide +kernel
theorem dX6_gatherNotes_45 : decode cX6_gatherNotes 45 = .ok (.aload_n 1, 1) := by decide +kernel
theorem dX6_gatherNotes_46 : decode cX6_gatherNotes 46 = .ok (.iload_n 2, 1) := by decide +kernel
theorem dX6_gatherNotes_47 : decode cX6_gatherNotes 47 = .ok (.invokevirtual 70, 3) := by decide +kernel
theorem dX6_gatherNotes_50 : decode cX6_gatherNotes 50 = .ok (.invokevirtual 73, 3) := by decide +kernel
theorem dX6_gatherNotes_53 : decode cX6_gatherNotes 53 = .ok (.iinc 2 1, 3) := by decide +kernel
theorem dX6_gatherNotes_56 : decode cX6_gatherNotes 56 = .ok (.goto (-54), 3) := by decide +kernel
theorem dX6_gatherNotes_59 : decode cX6_gatherNotes 59 = .ok (.return_, 1) := by decide +kernel
theorem dX6_lineOf_0 : decode cX6_lineOf 0 = .ok (.aload_n 2, 1) := by decide +kernel
theorem dX6_lineOf_1 : decode cX6_lineOf 1 = .ok (.iload_n 1, 1) := by decide +kernel
theorem dX6_lineOf_2 : decode cX6_lineOf 2 = .ok (.invokevirtual 77, 3) := by decide +kernel
theorem dX6_lineOf_5 : decode cX6_lineOf 5 = .ok (.bipush 12, 2) := by decide +kernel
theorem dX6_lineOf_7 : decode cX6_lineOf 7 = .ok (.imul, 1) := by decide +kernel
theorem dX6_lineOf_8 : decode cX6_lineOf 8 = .ok (.aload_n 0, 1) := by decide +kernel
theorem dX6_lineOf_9 : decode cX6_lineOf 9 = .ok (.aload_n 2, 1) := by decide +kernel
theorem dX6_lineOf_10 : decode cX6_lineOf 10 = .ok (.iload_n 1, 1) := by decide +kernel
theorem dX6_lineOf_11 : decode cX6_lineOf 11 = .ok (.invokevirtual 80, 3) := by decide +kernel
theorem dX6_lineOf_14 : decode cX6_lineOf 14 = .ok (.invokevirtual 49, 3) := by decide +kernel
theorem dX6_lineOf_17 : decode cX6_lineOf 17 = .ok (.iadd, 1) := by decide +kernel
theorem dX6_lineOf_18 : decode cX6_lineOf 18 = .ok (.ireturn, 1) := by decide +kernel
theorem dX6_setLine_0 : decode cX6_setLine 0 = .ok (.aload_n 0, 1) := by decide +kernel
theorem dX6_setLine_1 : decode cX6_setLine 1 = .ok (.getfield 18, 3) := by decide +kernel
theorem dX6_setLine_4 : decode cX6_setLine 4 = .ok (.iload_n 1, 1) := by decide +kernel
theorem dX6_setLine_5 : decode cX6_setLine 5 = .ok (.aload_n 0, 1) := by decide +kernel
theorem dX6_setLine_6 : decode cX6_setLine 6 = .ok (.getfield 12, 3) := by decide +kernel
theorem dX6_setLine_9 : decode cX6_setLine 9 = .ok (.iload_n 1, 1) := by decide +kernel
theorem dX6_setLine_10 : decode cX6_setLine 10 = .ok (.aload_n 0, 1) := by decide +kernel
theorem dX6_setLine_11 : decode cX6_setLine 11 = .ok (.getfield 29, 3) := by decide +kernel
theorem dX6_setLine_14 : decode cX6_setLine 14 = .ok (.invokevirtual 83, 3) := by decide +kernel
theorem dX6_setLine_17 : decode cX6_setLine 17 = .ok (.invokevirtual 83, 3) := by decide +kernel
theorem dX6_setLine_20 : decode cX6_setLine 20 = .ok (.istore_n 2, 1) := by decide +kernel
theorem dX6_setLine_21 : decode cX6_setLine 21 = .ok (.aload_n 0, 1) := by decide +kernel
theorem dX6_setLine_22 : decode cX6_setLine 22 = .ok (.getfield 12, 3) := by decide +kernel
theorem dX6_setLine_25 : decode cX6_setLine 25 = .ok (.iload_n 1, 1) := by decide +kernel
theorem dX6_setLine_26 : decode cX6_setLine 26 = .ok (.iload_n 2, 1) := by decide +kernel
theorem dX6_setLine_27 : decode cX6_setLine 27 = .ok (.invokevirtual 87, 3) := by decide +kernel
theorem dX6_setLine_30 : decode cX6_setLine 30 = .ok (.aload_n 0, 1) := by decide +kernel
theorem dX6_setLine_31 : decode cX6_setLine 31 = .ok (.getfield 18, 3) := by decide +kernel
theorem dX6_setLine_34 : decode cX6_setLine 34 = .ok (.iload_n 1, 1) := by decide +kernel
theorem dX6_setLine_35 : decode cX6_setLine 35 = .ok (.iload_n 2, 1) := by decide +kernel
theorem dX6_setLine_36 : decode cX6_setLine 36 = .ok (.invokevirtual 87, 3) := by decide +kernel
theorem dX6_setLine_39 : decode cX6_setLine 39 = .ok (.iload_n 1, 1) := by decide +kernel
theorem dX6_setLine_40 : decode cX6_setLine 40 = .ok (.ifCond .lt 19, 3) := by decide +kernel
theorem dX6_setLine_43 : decode cX6_setLine 43 = .ok (.iload_n 1, 1) := by decide +kernel
theorem dX6_setLine_44 : decode cX6_setLine 44 = .ok (.aload_n 0, 1) := by decide +kernel
theorem dX6_setLine_45 : decode cX6_setLine 45 = .ok (.getfield 21, 3) := by decide +kernel
theorem dX6_setLine_48 : decode cX6_setLine 48 = .ok (.arraylength, 1) := by decide +kernel
theorem dX6_setLine_49 : decode cX6_setLine 49 = .ok (.if_icmp .ge 10, 3) := by decide +kernel
theorem dX6_setLine_52 : decode cX6_setLine 52 = .ok (.aload_n 0, 1) := by decide +kernel
theorem dX6_setLine_53 : decode cX6_setLine 53 = .ok (.getfield 21, 3) := by decide +kernel
theorem dX6_setLine_56 : decode cX6_setLine 56 = .ok (.iload_n 1, 1) := by decide +kernel
theorem dX6_setLine_57 : decode cX6_setLine 57 = .ok (.iload_n 2, 1) := by decide +kernel
theorem dX6_setLine_58 : decode cX6_setLine 58 = .ok (.iastore, 1) := by decide +kernel
theorem dX6_setLine_59 : decode cX6_setLine 59 = .ok (.aload_n 0, 1) := by decide +kernel
theorem dX6_setLine_60 : decode cX6_setLine 60 = .ok (.iload_n 2, 1) := by decide +kernel
theorem dX6_setLine_61 : decode cX6_setLine 61 = .ok (.iconst 1, 1) := by decide +kernel
theorem dX6_setLine_62 : decode cX6_setLine 62 = .ok (.iadd, 1) := by decide +kernel
theorem dX6_setLine_63 : decode cX6_setLine 63 = .ok (.putfield 29, 3) := by decide +kernel
theorem dX6_setLine_66 : decode cX6_setLine 66 = .ok (.return_, 1) := by decide +kernel
theorem dX6_rowOfUnit_0 : decode cX6_rowOfUnit 0 = .ok (.aload_n 0, 1) := by decide +kernel
theorem dX6_rowOfUnit_1 : decode cX6_rowOfUnit 1 = .ok (.getfield 21, 3) := by decide +kernel
theorem dX6_rowOfUnit_4 : decode cX6_rowOfUnit 4 = .ok (.iload_n 1, 1) := by decide +kernel
theorem dX6_rowOfUnit_5 : decode cX6_rowOfUnit 5 = .ok (.bipush 12, 2) := by decide +kernel
theorem dX6_rowOfUnit_7 : decode cX6_rowOfUnit 7 = .ok (.imul, 1) := by decide +kernel
theorem dX6_rowOfUnit_8 : decode cX6_rowOfUnit 8 = .ok (.invokestatic 90, 3) := by decide +kernel
theorem dX6_rowOfUnit_11 : decode cX6_rowOfUnit 11 = .ok (.ireturn, 1) := by decide +kernel
theorem dX6_rowOfNote_0 : decode cX6_rowOfNote 0 = .ok (.aload_n 0, 1) := by decide +kernel
theorem dX6_rowOfNote_1 : decode cX6_rowOfNote 1 = .ok (.iload_n 1, 1) := by decide +kernel
theorem dX6_rowOfNote_2 : decode cX6_rowOfNote 2 = .ok (.aload_n 2, 1) := by decide +kernel
theorem dX6_rowOfNote_3 : decode cX6_rowOfNote 3 = .ok (.invokevirtual 66, 3) := by decide +kernel
theorem dX6_rowOfNote_6 : decode cX6_rowOfNote 6 = .ok (.istore_n 3, 1) := by decide +kernel
theorem dX6_rowOfNote_7 : decode cX6_rowOfNote 7 = .ok (.aload_n 0, 1) := by decide +kernel
theorem dX6_rowOfNote_8 : decode cX6_rowOfNote 8 = .ok (.getfield 21, 3) := by decide +kernel
theorem dX6_rowOfNote_11 : decode cX6_rowOfNote 11 = .ok (.iload_n 3, 1) := by decide +kernel
theorem dX6_rowOfNote_12 : decode cX6_rowOfNote 12 = .ok (.invokestatic 90, 3) := by decide +kernel
theorem dX6_rowOfNote_15 : decode cX6_rowOfNote 15 = .ok (.istore 4, 2) := by decide +kernel
theorem dX6_rowOfNote_17 : decode cX6_rowOfNote 17 = .ok (.iconst 0, 1) := by decide +kernel
theorem dX6_rowOfNote_18 : decode cX6_rowOfNote 18 = .ok (.istore 5, 2) := by decide +kernel
theorem dX6_rowOfNote_20 : decode cX6_rowOfNote 20 = .ok (.iload 5, 2) := by decide +kernel
theorem dX6_rowOfNote_22 : decode cX6_rowOfNote 22 = .ok (.iload_n 1, 1) := by decide +kernel
theorem dX6_rowOfNote_23 : decode cX6_rowOfNote 23 = .ok (.if_icmp .ge 54, 3) := by decide +kernel
theorem dX6_rowOfNote_26 : decode cX6_rowOfNote 26 = .ok (.aload_n 2, 1) := by decide +kernel
theorem dX6_rowOfNote_27 : decode cX6_rowOfNote 27 = .ok (.iload 5, 2) := by decide +kernel
theorem dX6_rowOfNote_29 : decode cX6_rowOfNote 29 = .ok (.invokevirtual 59, 3) := by decide +kernel
theorem dX6_rowOfNote_32 : decode cX6_rowOfNote 32 = .ok (.ifCond .ne 39, 3) := by decide +kernel
theorem dX6_rowOfNote_35 : decode cX6_rowOfNote 35 = .ok (.aload_n 0, 1) := by decide +kernel
theorem dX6_rowOfNote_36 : decode cX6_rowOfNote 36 = .ok (.iload 5, 2) := by decide +kernel
theorem dX6_rowOfNote_38 : decode cX6_rowOfNote 38 = .ok (.aload_n 2, 1) := by decide +kernel
theorem dX6_rowOfNote_39 : decode cX6_rowOfNote 39 = .ok (.invokevirtual 66, 3) := by decide +kernel
theorem dX6_rowOfNote_42 : decode cX6_rowOfNote 42 = .ok (.iload_n 3, 1) := by decide +kernel
theorem dX6_rowOfNote_43 : decode cX6_rowOfNote 43 = .ok (.if_icmp .ne 28, 3) := by decide +kernel
theorem dX6_rowOfNote_46 : decode cX6_rowOfNote 46 = .ok (.aload_n 2, 1) := by decide +kernel
theorem dX6_rowOfNote_47 : decode cX6_rowOfNote 47 = .ok (.iload 5, 2) := by decide +kernel
theorem dX6_rowOfNote_49 : decode cX6_rowOfNote 49 = .ok (.invokevirtual 63, 3) := by decide +kernel
theorem dX6_rowOfNote_52 : decode cX6_rowOfNote 52 = .ok (.aload_n 2, 1) := by decide +kernel
theorem dX6_rowOfNote_53 : decode cX6_rowOfNote 53 = .ok (.iload_n 1, 1) := by decide +kernel
theorem dX6_rowOfNote_54 : decode cX6_rowOfNote 54 = .ok (.invokevirtual 63, 3) := by decide +kernel
theorem dX6_rowOfNote_57 : decode cX6_rowOfNote 57 = .ok (.if_icmp .ne 14, 3) := by decide +kernel
theorem dX6_rowOfNote_60 : decode cX6_rowOfNote 60 = .ok (.iload 4, 2) := by decide +kernel
theorem dX6_rowOfNote_62 : decode cX6_rowOfNote 62 = .ok (.aload_n 2, 1) := by decide +kernel
theorem dX6_rowOfNote_63 : decode cX6_rowOfNote 63 = .ok (.iload 5, 2) := by decide +kernel
theorem dX6_rowOfNote_65 : decode cX6_rowOfNote 65 = .ok (.invokevirtual 70, 3) := by decide +kernel
theorem dX6_rowOfNote_68 : decode cX6_rowOfNote 68 = .ok (.iadd, 1) := by decide +kernel
theorem dX6_rowOfNote_69 : decode cX6_rowOfNote 69 = .ok (.istore 4, 2) := by decide +kernel
theorem dX6_rowOfNote_71 : decode cX6_rowOfNote 71 = .ok (.iinc 5 1, 3) := by decide +kernel
theorem dX6_rowOfNote_74 : decode cX6_rowOfNote 74 = .ok (.goto (-54), 3) := by decide +kernel
theorem dX6_rowOfNote_77 : decode cX6_rowOfNote 77 = .ok (.iload 4, 2) := by decide +kernel
theorem dX6_rowOfNote_79 : decode cX6_rowOfNote 79 = .ok (.ireturn, 1) := by decide +kernel
theorem dX6_height_0 : decode cX6_height 0 = .ok (.aload_n 0, 1) := by decide +kernel
theorem dX6_height_1 : decode cX6_height 1 = .ok (.getfield 29, 3) := by decide +kernel
theorem dX6_height_4 : decode cX6_height 4 = .ok (.aload_n 0, 1) := by decide +kernel
theorem dX6_height_5 : decode cX6_height 5 = .ok (.getfield 12, 3) := by decide +kernel
theorem dX6_height_8 : decode cX6_height 8 = .ok (.invokevirtual 94, 3) := by decide +kernel
theorem dX6_height_11 : decode cX6_height 11 = .ok (.aload_n 0, 1) := by decide +kernel
theorem dX6_height_12 : decode cX6_height 12 = .ok (.getfield 18, 3) := by decide +kernel
theorem dX6_height_15 : decode cX6_height 15 = .ok (.invokevirtual 94, 3) := by decide +kernel
theorem dX6_height_18 : decode cX6_height 18 = .ok (.invokestatic 97, 3) := by decide +kernel
theorem dX6_height_21 : decode cX6_height 21 = .ok (.invokestatic 97, 3) := by decide +kernel
theorem dX6_height_24 : decode cX6_height 24 = .ok (.ireturn, 1) := by decide +kernel
theorem dX7_init_0 : decode cX7_init 0 = .ok (.aload_n 0, 1) := by decide +kernel
theorem dX7_init_1 : decode cX7_init 1 = .ok (.invokespecial 3, 3) := by decide +kernel
theorem dX7_init_4 : decode cX7_init 4 = .ok (.aload_n 0, 1) := by decide +kernel
theorem dX7_init_5 : decode cX7_init 5 = .ok (.sipush 240, 3) := by decide +kernel
theorem dX7_init_8 : decode cX7_init 8 = .ok (.newarray .int, 2) := by decide +kernel
theorem dX7_init_10 : decode cX7_init 10 = .ok (.putfield 9, 3) := by decide +kernel
theorem dX7_init_13 : decode cX7_init 13 = .ok (.aload_n 0, 1) := by decide +kernel
theorem dX7_init_14 : decode cX7_init 14 = .ok (.bipush 20, 2) := by decide +kernel
theorem dX7_init_16 : decode cX7_init 16 = .ok (.newarray .int, 2) := by decide +kernel
theorem dX7_init_18 : decode cX7_init 18 = .ok (.putfield 15, 3) := by decide +kernel
theorem dX7_init_21 : decode cX7_init 21 = .ok (.aload_n 0, 1) := by decide +kernel
theorem dX7_init_22 : decode cX7_init 22 = .ok (.bipush 13, 2) := by decide +kernel
theorem dX7_init_24 : decode cX7_init 24 = .ok (.newarray .int, 2) := by decide +kernel
theorem dX7_init_26 : decode cX7_init 26 = .ok (.putfield 18, 3) := by decide +kernel
theorem dX7_init_29 : decode cX7_init 29 = .ok (.return_, 1) := by decide +kernel
theorem dX7_count_0 : decode cX7_count 0 = .ok (.aload_n 0, 1) := by decide +kernel
theorem dX7_count_1 : decode cX7_count 1 = .ok (.getfield 21, 3) := by decide +kernel
theorem dX7_count_4 : decode cX7_count 4 = .ok (.ireturn, 1) := by decide +kernel
theorem dX7_isFull_0 : decode cX7_isFull 0 = .ok (.aload_n 0, 1) := by decide +kernel
theorem dX7_isFull_1 : decode cX7_isFull 1 = .ok (.getfield 21, 3) := by decide +kernel
theorem dX7_isFull_4 : decode cX7_isFull 4 = .ok (.aload_n 0, 1) := by decide +kernel
theorem dX7_isFull_5 : decode cX7_isFull 5 = .ok (.getfield 15, 3) := by decide +kernel
theorem dX7_isFull_8 : decode cX7_isFull 8 = .ok (.arraylength, 1) := by decide +kernel
theorem dX7_isFull_9 : decode cX7_isFull 9 = .ok (.if_icmp .lt 7, 3) := by decide +kernel
theorem dX7_isFull_12 : decode cX7_isFull 12 = .ok (.iconst 1, 1) := by decide +kernel
theorem dX7_isFull_13 : decode cX7_isFull 13 = .ok (.goto 4, 3) := by decide +kernel
theorem dX7_isFull_16 : decode cX7_isFull 16 = .ok (.iconst 0, 1) := by decide +kernel
theorem dX7_isFull_17 : decode cX7_isFull 17 = .ok (.ireturn, 1) := by decide +kernel
theorem dX7_has_0 : decode cX7_has 0 = .ok (.iload_n 1, 1) := by decide +kernel
theorem dX7_has_1 : decode cX7_has 1 = .ok (.ifCond .lt 15, 3) := by decide +kernel
theorem dX7_has_4 : decode cX7_has 4 = .ok (.iload_n 1, 1) := by decide +kernel
theorem dX7_has_5 : decode cX7_has 5 = .ok (.aload_n 0, 1) := by decide +kernel
theorem dX7_has_6 : decode cX7_has 6 = .ok (.getfield 21, 3) := by decide +kernel
theorem dX7_has_9 : decode cX7_has 9 = .ok (.if_icmp .ge 7, 3) := by decide +kernel
theorem dX7_has_12 : decode cX7_has 12 = .ok (.iconst 1, 1) := by decide +kernel
theorem dX7_has_13 : decode cX7_has 13 = .ok (.goto 4, 3) := by decide +kernel
theorem dX7_has_16 : decode cX7_has 16 = .ok (.iconst 0, 1) := by decide +kernel
theorem dX7_has_17 : decode cX7_has 17 = .ok (.ireturn, 1) := by decide +kernel
theorem dX7_hasPlace_0 : decode cX7_hasPlace 0 = .ok (.iload_n 2, 1) := by decide +kernel
theorem dX7_hasPlace_1 : decode cX7_hasPlace 1 = .ok (.ifCond .lt 16, 3) := by decide +kernel
theorem dX7_hasPlace_4 : decode cX7_hasPlace 4 = .ok (.iload_n 2, 1) := by decide +kernel
theorem dX7_hasPlace_5 : decode cX7_hasPlace 5 = .ok (.aload_n 0, 1) := by decide +kernel
theorem dX7_hasPlace_6 : decode cX7_hasPlace 6 = .ok (.iload_n 1, 1) := by decide +kernel
theorem dX7_hasPlace_7 : decode cX7_hasPlace 7 = .ok (.invokevirtual 25, 3) := by decide +kernel
theorem dX7_hasPlace_10 : decode cX7_hasPlace 10 = .ok (.if_icmp .ge 7, 3) := by decide +kernel
theorem dX7_hasPlace_13 : decode cX7_hasPlace 13 = .ok (.iconst 1, 1) := by decide +kernel
theorem dX7_hasPlace_14 : decode cX7_hasPlace 14 = .ok (.goto 4, 3) := by decide +kernel
theorem dX7_hasPlace_17 : decode cX7_hasPlace 17 = .ok (.iconst 0, 1) := by decide +kernel
theorem dX7_hasPlace_18 : decode cX7_hasPlace 18 = .ok (.ireturn, 1) := by decide +kernel
theorem dX7_sizeOf_0 : decode cX7_sizeOf 0 = .ok (.aload_n 0, 1) := by decide +kernel
theorem dX7_sizeOf_1 : decode cX7_sizeOf 1 = .ok (.iload_n 1, 1) := by decide +kernel
theorem dX7_sizeOf_2 : decode cX7_sizeOf 2 = .ok (.invokevirtual 29, 3) := by decide +kernel
theorem dX7_sizeOf_5 : decode cX7_sizeOf 5 = .ok (.ifCond .eq 12, 3) := by decide +kernel
theorem dX7_sizeOf_8 : decode cX7_sizeOf 8 = .ok (.aload_n 0, 1) := by decide +kernel
theorem dX7_sizeOf_9 : decode cX7_sizeOf 9 = .ok (.getfield 15, 3) := by decide +kernel
theorem dX7_sizeOf_12 : decode cX7_sizeOf 12 = .ok (.iload_n 1, 1) := by decide +kernel
theorem dX7_sizeOf_13 : decode cX7_sizeOf 13 = .ok (.iaload, 1) := by decide +kernel
theorem dX7_sizeOf_14 : decode cX7_sizeOf 14 = .ok (.goto 4, 3) := by decide +kernel
theorem dX7_sizeOf_17 : decode cX7_sizeOf 17 = .ok (.iconst 0, 1) := by decide +kernel
theorem dX7_sizeOf_18 : decode cX7_sizeOf 18 = .ok (.ireturn, 1) := by decide +kernel
theorem dX7_wordAt_0 : decode cX7_wordAt 0 = .ok (.aload_n 0, 1) := by decide +kernel
theorem dX7_wordAt_1 : decode cX7_wordAt 1 = .ok (.iload_n 1, 1) := by decide +kernel
theorem dX7_wordAt_2 : decode cX7_wordAt 2 = .ok (.iload_n 2, 1) := by decide +kernel
theorem dX7_wordAt_3 : decode cX7_wordAt 3 = .ok (.invokevirtual 33, 3) := by decide +kernel
theorem dX7_wordAt_6 : decode cX7_wordAt 6 = .ok (.ifCond .eq 17, 3) := by decide +kernel
theorem dX7_wordAt_9 : decode cX7_wordAt 9 = .ok (.aload_n 0, 1) := by decide +kernel
theorem dX7_wordAt_10 : decode cX7_wordAt 10 = .ok (.getfield 9, 3) := by decide +kernel
theorem dX7_wordAt_13 : decode cX7_wordAt 13 = .ok (.iload_n 1, 1) := by decide +kernel
theorem dX7_wordAt_14 : decode cX7_wordAt 14 = .ok (.bipush 12, 2) := by decide +kernel
theorem dX7_wordAt_16 : decode cX7_wordAt 16 = .ok (.imul, 1) := by decide +kernel
theorem dX7_wordAt_17 : decode cX7_wordAt 17 = .ok (.iload_n 2, 1) := by decide +kernel
theorem dX7_wordAt_18 : decode cX7_wordAt 18 = .ok (.iadd, 1) := by decide +kernel
theorem dX7_wordAt_19 : decode cX7_wordAt 19 = .ok (.iaload, 1) := by decide +kernel
theorem dX7_wordAt_20 : decode cX7_wordAt 20 = .ok (.goto 4, 3) := by decide +kernel
theorem dX7_wordAt_23 : decode cX7_wordAt 23 = .ok (.iconst (-1), 1) := by decide +kernel
theorem dX7_wordAt_24 : decode cX7_wordAt 24 = .ok (.ireturn, 1) := by decide +kernel
theorem dX7_put_0 : decode cX7_put 0 = .ok (.aload_n 0, 1) := by decide +kernel
theorem dX7_put_1 : decode cX7_put 1 = .ok (.iload_n 1, 1) := by decide +kernel
theorem dX7_put_2 : decode cX7_put 2 = .ok (.iload_n 2, 1) := by decide +kernel
theorem dX7_put_3 : decode cX7_put 3 = .ok (.invokevirtual 33, 3) := by decide +kernel
theorem dX7_put_6 : decode cX7_put 6 = .ok (.ifCond .eq 15, 3) := by decide +kernel
theorem dX7_put_9 : decode cX7_put 9 = .ok (.aload_n 0, 1) := by decide +kernel
theorem dX7_put_10 : decode cX7_put 10 = .ok (.getfield 9, 3) := by decide +kernel
theorem dX7_put_13 : decode cX7_put 13 = .ok (.iload_n 1, 1) := by decide +kernel
theorem dX7_put_14 : decode cX7_put 14 = .ok (.bipush 12, 2) := by decide +kernel
theorem dX7_put_16 : decode cX7_put 16 = .ok (.imul, 1) := by decide +kernel
theorem dX7_put_17 : decode cX7_put 17 = .ok (.iload_n 2, 1) := by decide +kernel
theorem dX7_put_18 : decode cX7_put 18 = .ok (.iadd, 1) := by decide +kernel
theorem dX7_put_19 : decode cX7_put 19 = .ok (.iload_n 3, 1) := by decide +kernel
theorem dX7_put_20 : decode cX7_put 20 = .ok (.iastore, 1) := by decide +kernel
theorem dX7_put_21 : decode cX7_put 21 = .ok (.return_, 1) := by decide +kernel
theorem dX7_add_0 : decode cX7_add 0 = .ok (.aload_n 0, 1) := by decide +kernel
theorem dX7_add_1 : decode cX7_add 1 = .ok (.invokevirtual 37, 3) := by decide +kernel
theorem dX7_add_4 : decode cX7_add 4 = .ok (.ifCond .eq 4, 3) := by decide +kernel
theorem dX7_add_7 : decode cX7_add 7 = .ok (.return_, 1) := by decide +kernel
theorem dX7_add_8 : decode cX7_add 8 = .ok (.aload_n 0, 1) := by decide +kernel
theorem dX7_add_9 : decode cX7_add 9 = .ok (.getfield 21, 3) := by decide +kernel
theorem dX7_add_12 : decode cX7_add 12 = .ok (.istore_n 2, 1) := by decide +kernel
theorem dX7_add_13 : decode cX7_add 13 = .ok (.aload_n 0, 1) := by decide +kernel
theorem dX7_add_14 : decode cX7_add 14 = .ok (.dup, 1) := by decide +kernel
theorem dX7_add_15 : decode cX7_add 15 = .ok (.getfield 21, 3) := by decide +kernel
theorem dX7_add_18 : decode cX7_add 18 = .ok (.iconst 1, 1) := by decide +kernel
theorem dX7_add_19 : decode cX7_add 19 = .ok (.iadd, 1) := by decide +kernel
theorem dX7_add_20 : decode cX7_add 20 = .ok (.putfield 21, 3) := by decide +kernel
theorem dX7_add_23 : decode cX7_add 23 = .ok (.aload_n 0, 1) := by decide +kernel
theorem dX7_add_24 : decode cX7_add 24 = .ok (.getfield 15, 3) := by decide +kernel
theorem dX7_add_27 : decode cX7_add 27 = .ok (.iload_n 2, 1) := by decide +kernel
theorem dX7_add_28 : decode cX7_add 28 = .ok (.aload_n 1, 1) := by decide +kernel
theorem dX7_add_29 : decode cX7_add 29 = .ok (.invokevirtual 41, 3) := by decide +kernel
theorem dX7_add_32 : decode cX7_add 32 = .ok (.iastore, 1) := by decide +kernel
theorem dX7_add_33 : decode cX7_add 33 = .ok (.iconst 0, 1) := by decide +kernel
theorem dX7_add_34 : decode cX7_add 34 = .ok (.istore_n 3, 1) := by decide +kernel
theorem dX7_add_35 : decode cX7_add 35 = .ok (.iload_n 3, 1) := by decide +kernel
theorem dX7_add_36 : decode cX7_add 36 = .ok (.aload_n 1, 1) := by decide +kernel
theorem dX7_add_37 : decode cX7_add 37 = .ok (.invokevirtual 41, 3) := by decide +kernel
theorem dX7_add_40 : decode cX7_add 40 = .ok (.if_icmp .ge 20, 3) := by decide +kernel
theorem dX7_add_43 : decode cX7_add 43 = .ok (.aload_n 0, 1) := by decide +kernel
theorem dX7_add_44 : decode cX7_add 44 = .ok (.iload_n 2, 1) := by decide +kernel
theorem dX7_add_45 : decode cX7_add 45 = .ok (.iload_n 3, 1) := by decide +kernel
theorem dX7_add_46 : decode cX7_add 46 = .ok (.aload_n 1, 1) := by decide +kernel
theorem dX7_add_47 : decode cX7_add 47 = .ok (.iload_n 3, 1) := by decide +kernel
theorem dX7_add_48 : decode cX7_add 48 = .ok (.invokevirtual 47, 3) := by decide +kernel
theorem dX7_add_51 : decode cX7_add 51 = .ok (.invokevirtual 50, 3) := by decide +kernel
theorem dX7_add_54 : decode cX7_add 54 = .ok (.iinc 3 1, 3) := by decide +kernel
theorem dX7_add_57 : decode cX7_add 57 = .ok (.goto (-22), 3) := by decide +kernel
theorem dX7_add_60 : decode cX7_add 60 = .ok (.return_, 1) := by decide +kernel
theorem dX7_takeOut_0 : decode cX7_takeOut 0 = .ok (.aload_n 0, 1) := by decide +kernel
theorem dX7_takeOut_1 : decode cX7_takeOut 1 = .ok (.iload_n 1, 1) := by decide +kernel
theorem dX7_takeOut_2 : decode cX7_takeOut 2 = .ok (.iload_n 2, 1) := by decide +kernel
theorem dX7_takeOut_3 : decode cX7_takeOut 3 = .ok (.invokevirtual 33, 3) := by decide +kernel
theorem dX7_takeOut_6 : decode cX7_takeOut 6 = .ok (.ifCond .ne 4, 3) := by decide +kernel
theorem dX7_takeOut_9 : decode cX7_takeOut 9 = .ok (.return_, 1) := by decide +kernel
theorem dX7_takeOut_10 : decode cX7_takeOut 10 = .ok (.iload_n 2, 1) := by decide +kernel
theorem dX7_takeOut_11 : decode cX7_takeOut 11 = .ok (.istore_n 3, 1) := by decide +kernel
theorem dX7_takeOut_12 : decode cX7_takeOut 12 = .ok (.iload_n 3, 1) := by decide +kernel
theorem dX7_takeOut_13 : decode cX7_takeOut 13 = .ok (.iconst 1, 1) := by decide +kernel
theorem dX7_takeOut_14 : decode cX7_takeOut 14 = .ok (.iadd, 1) := by decide +kernel
theorem dX7_takeOut_15 : decode cX7_takeOut 15 = .ok (.aload_n 0, 1) := by decide +kernel
theorem dX7_takeOut_16 : decode cX7_takeOut 16 = .ok (.getfield 15, 3) := by decide +kernel
theorem dX7_takeOut_19 : decode cX7_takeOut 19 = .ok (.iload_n 1, 1) := by decide +kernel
theorem dX7_takeOut_20 : decode cX7_takeOut 20 = .ok (.iaload, 1) := by decide +kernel
theorem dX7_takeOut_21 : decode cX7_takeOut 21 = .ok (.if_icmp .ge 23, 3) := by decide +kernel
theorem dX7_takeOut_24 : decode cX7_takeOut 24 = .ok (.aload_n 0, 1) := by decide +kernel
theorem dX7_takeOut_25 : decode cX7_takeOut 25 = .ok (.iload_n 1, 1) := by decide +kernel
theorem dX7_takeOut_26 : decode cX7_takeOut 26 = .ok (.iload_n 3, 1) := by decide +kernel
theorem dX7_takeOut_27 : decode cX7_takeOut 27 = .ok (.aload_n 0, 1) := by decide +kernel
theorem dX7_takeOut_28 : decode cX7_takeOut 28 = .ok (.iload_n 1, 1) := by decide +kernel
theorem dX7_takeOut_29 : decode cX7_takeOut 29 = .ok (.iload_n 3, 1) := by decide +kernel
theorem dX7_takeOut_30 : decode cX7_takeOut 30 = .ok (.iconst 1, 1) := by decide +kernel
theorem dX7_takeOut_31 : decode cX7_takeOut 31 = .ok (.iadd, 1) := by decide +kernel
theorem dX7_takeOut_32 : decode cX7_takeOut 32 = .ok (.invokevirtual 54, 3) := by decide +kernel
theorem dX7_takeOut_35 : decode cX7_takeOut 35 = .ok (.invokevirtual 50, 3) := by decide +kernel
theorem dX7_takeOut_38 : decode cX7_takeOut 38 = .ok (.iinc 3 1, 3) := by decide +kernel
theorem dX7_takeOut_41 : decode cX7_takeOut 41 = .ok (.goto (-29), 3) := by decide +kernel
theorem dX7_takeOut_44 : decode cX7_takeOut 44 = .ok (.aload_n 0, 1) := by decide +kernel
theorem dX7_takeOut_45 : decode cX7_takeOut 45 = .ok (.getfield 15, 3) := by decide +kernel
theorem dX7_takeOut_48 : decode cX7_takeOut 48 = .ok (.iload_n 1, 1) := by decide +kernel
theorem dX7_takeOut_49 : decode cX7_takeOut 49 = .ok (.dup2, 1) := by decide +kernel
theorem dX7_takeOut_50 : decode cX7_takeOut 50 = .ok (.iaload, 1) := by decide +kernel
theorem dX7_takeOut_51 : decode cX7_takeOut 51 = .ok (.iconst 1, 1) := by decide +kernel
theorem dX7_takeOut_52 : decode cX7_takeOut 52 = .ok (.isub, 1) := by decide +kernel
theorem dX7_takeOut_53 : decode cX7_takeOut 53 = .ok (.iastore, 1) := by decide +kernel
theorem dX7_takeOut_54 : decode cX7_takeOut 54 = .ok (.return_, 1) := by decide +kernel
theorem dX7_placeOf_0 : decode cX7_placeOf 0 = .ok (.iconst 0, 1) := by decide +kernel
theorem dX7_placeOf_1 : decode cX7_placeOf 1 = .ok (.istore 4, 2) := by decide +kernel
theorem dX7_placeOf_3 : decode cX7_placeOf 3 = .ok (.iconst 0, 1) := by decide +kernel
theorem dX7_placeOf_4 : decode cX7_placeOf 4 = .ok (.istore 5, 2) := by decide +kernel
theorem dX7_placeOf_6 : decode cX7_placeOf 6 = .ok (.iload 5, 2) := by decide +kernel
theorem dX7_placeOf_8 : decode cX7_placeOf 8 = .ok (.aload_n 0, 1) := by decide +kernel
theorem dX7_placeOf_9 : decode cX7_placeOf 9 = .ok (.iload_n 1, 1) := by decide +kernel
theorem dX7_placeOf_10 : decode cX7_placeOf 10 = .ok (.invokevirtual 25, 3) := by decide +kernel
theorem dX7_placeOf_13 : decode cX7_placeOf 13 = .ok (.if_icmp .ge 32, 3) := by decide +kernel
theorem dX7_placeOf_16 : decode cX7_placeOf 16 = .ok (.aload_n 0, 1) := by decide +kernel
theorem dX7_placeOf_17 : decode cX7_placeOf 17 = .ok (.iload_n 1, 1) := by decide +kernel
theorem dX7_placeOf_18 : decode cX7_placeOf 18 = .ok (.iload 5, 2) := by decide +kernel
theorem dX7_placeOf_20 : decode cX7_placeOf 20 = .ok (.invokevirtual 54, 3) := by decide +kernel
theorem dX7_placeOf_23 : decode cX7_placeOf 23 = .ok (.iload_n 2, 1) := by decide +kernel
theorem dX7_placeOf_24 : decode cX7_placeOf 24 = .ok (.if_icmp .ne 15, 3) := by decide +kernel
theorem dX7_placeOf_27 : decode cX7_placeOf 27 = .ok (.iinc 4 1, 3) := by decide +kernel
theorem dX7_placeOf_30 : decode cX7_placeOf 30 = .ok (.iload 4, 2) := by decide +kernel
theorem dX7_placeOf_32 : decode cX7_placeOf 32 = .ok (.iload_n 3, 1) := by decide +kernel
theorem dX7_placeOf_33 : decode cX7_placeOf 33 = .ok (.if_icmp .ne 6, 3) := by decide +kernel
theorem dX7_placeOf_36 : decode cX7_placeOf 36 = .ok (.iload 5, 2) := by decide +kernel
theorem dX7_placeOf_38 : decode cX7_placeOf 38 = .ok (.ireturn, 1) := by decide +kernel
theorem dX7_placeOf_39 : decode cX7_placeOf 39 = .ok (.iinc 5 1, 3) := by decide +kernel
theorem dX7_placeOf_42 : decode cX7_placeOf 42 = .ok (.goto (-36), 3) := by decide +kernel
theorem dX7_placeOf_45 : decode cX7_placeOf 45 = .ok (.iconst (-1), 1) := by decide +kernel
theorem dX7_placeOf_46 : decode cX7_placeOf 46 = .ok (.ireturn, 1) := by decide +kernel
theorem dX7_nearest_0 : decode cX7_nearest 0 = .ok (.iconst (-1), 1) := by decide +kernel
theorem dX7_nearest_1 : decode cX7_nearest 1 = .ok (.istore 4, 2) := by decide +kernel
theorem dX7_nearest_3 : decode cX7_nearest 3 = .ok (.iconst 0, 1) := by decide +kernel
theorem dX7_nearest_4 : decode cX7_nearest 4 = .ok (.istore 5, 2) := by decide +kernel
theorem dX7_nearest_6 : decode cX7_nearest 6 = .ok (.iload 5, 2) := by decide +kernel
theorem dX7_nearest_8 : decode cX7_nearest 8 = .ok (.aload_n 0, 1) := by decide +kernel
theorem dX7_nearest_9 : decode cX7_nearest 9 = .ok (.iload_n 1, 1) := by decide +kernel
theorem dX7_nearest_10 : decode cX7_nearest 10 = .ok (.invokevirtual 25, 3) := by decide +kernel
theorem dX7_nearest_13 : decode cX7_nearest 13 = .ok (.if_icmp .ge 47, 3) := by decide +kernel
theorem dX7_nearest_16 : decode cX7_nearest 16 = .ok (.aload_n 0, 1) := by decide +kernel
theorem dX7_nearest_17 : decode cX7_nearest 17 = .ok (.iload_n 1, 1) := by decide +kernel
theorem dX7_nearest_18 : decode cX7_nearest 18 = .ok (.iload 5, 2) := by decide +kernel
theorem dX7_nearest_20 : decode cX7_nearest 20 = .ok (.invokevirtual 54, 3) := by decide +kernel
theorem dX7_nearest_23 : decode cX7_nearest 23 = .ok (.iload_n 2, 1) := by decide +kernel
theorem dX7_nearest_24 : decode cX7_nearest 24 = .ok (.if_icmp .ne 30, 3) := by decide +kernel
theorem dX7_nearest_27 : decode cX7_nearest 27 = .ok (.iload 4, 2) := by decide +kernel
theorem dX7_nearest_29 : decode cX7_nearest 29 = .ok (.iconst (-1), 1) := by decide +kernel
theorem dX7_nearest_30 : decode cX7_nearest 30 = .ok (.if_icmp .eq 20, 3) := by decide +kernel
theorem dX7_nearest_33 : decode cX7_nearest 33 = .ok (.iload 5, 2) := by decide +kernel
theorem dX7_nearest_35 : decode cX7_nearest 35 = .ok (.iload_n 3, 1) := by decide +kernel
theorem dX7_nearest_36 : decode cX7_nearest 36 = .ok (.isub, 1) := by decide +kernel
theorem dX7_nearest_37 : decode cX7_nearest 37 = .ok (.invokestatic 57, 3) := by decide +kernel
theorem dX7_nearest_40 : decode cX7_nearest 40 = .ok (.iload 4, 2) := by decide +kernel
theorem dX7_nearest_42 : decode cX7_nearest 42 = .ok (.iload_n 3, 1) := by decide +kernel
theorem dX7_nearest_43 : decode cX7_nearest 43 = .ok (.isub, 1) := by decide +kernel
theorem dX7_nearest_44 : decode cX7_nearest 44 = .ok (.invokestatic 57, 3) := by decide +kernel
theorem dX7_nearest_47 : decode cX7_nearest 47 = .ok (.if_icmp .ge 7, 3) := by decide +kernel
theorem dX7_nearest_50 : decode cX7_nearest 50 = .ok (.iload 5, 2) := by decide +kernel
theorem dX7_nearest_52 : decode cX7_nearest 52 = .ok (.istore 4, 2) := by decide +kernel
theorem dX7_nearest_54 : decode cX7_nearest 54 = .ok (.iinc 5 1, 3) := by decide +kernel
theorem dX7_nearest_57 : decode cX7_nearest 57 = .ok (.goto (-51), 3) := by decide +kernel
theorem dX7_nearest_60 : decode cX7_nearest 60 = .ok (.iload 4, 2) := by decide +kernel
theorem dX7_nearest_62 : decode cX7_nearest 62 = .ok (.ireturn, 1) := by decide +kernel
theorem dX7_mostLike_0 : decode cX7_mostLike 0 = .ok (.iconst (-1), 1) := by decide +kernel
theorem dX7_mostLike_1 : decode cX7_mostLike 1 = .ok (.istore_n 2, 1) := by decide +kernel
theorem dX7_mostLike_2 : decode cX7_mostLike 2 = .ok (.iconst 0, 1) := by decide +kernel
theorem dX7_mostLike_3 : decode cX7_mostLike 3 = .ok (.istore_n 3, 1) := by decide +kernel
theorem dX7_mostLike_4 : decode cX7_mostLike 4 = .ok (.iconst 0, 1) := by decide +kernel
theorem dX7_mostLike_5 : decode cX7_mostLike 5 = .ok (.istore 4, 2) := by decide +kernel
theorem dX7_mostLike_7 : decode cX7_mostLike 7 = .ok (.iload 4, 2) := by decide +kernel
theorem dX7_mostLike_9 : decode cX7_mostLike 9 = .ok (.aload_n 0, 1) := by decide +kernel
theorem dX7_mostLike_10 : decode cX7_mostLike 10 = .ok (.getfield 21, 3) := by decide +kernel
theorem dX7_mostLike_13 : decode cX7_mostLike 13 = .ok (.if_icmp .ge 30, 3) := by decide +kernel
theorem dX7_mostLike_16 : decode cX7_mostLike 16 = .ok (.aload_n 0, 1) := by decide +kernel
theorem dX7_mostLike_17 : decode cX7_mostLike 17 = .ok (.iload 4, 2) := by decide +kernel
theorem dX7_mostLike_19 : decode cX7_mostLike 19 = .ok (.aload_n 1, 1) := by decide +kernel
theorem dX7_mostLike_20 : decode cX7_mostLike 20 = .ok (.invokevirtual 62, 3) := by decide +kernel
theorem dX7_mostLike_23 : decode cX7_mostLike 23 = .ok (.istore 5, 2) := by decide +kernel
theorem dX7_mostLike_25 : decode cX7_mostLike 25 = .ok (.iload 5, 2) := by decide +kernel
theorem dX7_mostLike_27 : decode cX7_mostLike 27 = .ok (.iload_n 3, 1) := by decide +kernel
theorem dX7_mostLike_28 : decode cX7_mostLike 28 = .ok (.if_icmp .le 9, 3) := by decide +kernel
theorem dX7_mostLike_31 : decode cX7_mostLike 31 = .ok (.iload 5, 2) := by decide +kernel
theorem dX7_mostLike_33 : decode cX7_mostLike 33 = .ok (.istore_n 3, 1) := by decide +kernel
theorem dX7_mostLike_34 : decode cX7_mostLike 34 = .ok (.iload 4, 2) := by decide +kernel
theorem dX7_mostLike_36 : decode cX7_mostLike 36 = .ok (.istore_n 2, 1) := by decide +kernel
theorem dX7_mostLike_37 : decode cX7_mostLike 37 = .ok (.iinc 4 1, 3) := by decide +kernel
theorem dX7_mostLike_40 : decode cX7_mostLike 40 = .ok (.goto (-33), 3) := by decide +kernel
theorem dX7_mostLike_43 : decode cX7_mostLike 43 = .ok (.iload_n 2, 1) := by decide +kernel
theorem dX7_mostLike_44 : decode cX7_mostLike 44 = .ok (.ireturn, 1) := by decide +kernel
theorem dX7_likeness_0 : decode cX7_likeness 0 = .ok (.aload_n 0, 1) := by decide +kernel
theorem dX7_likeness_1 : decode cX7_likeness 1 = .ok (.getfield 18, 3) := by decide +kernel
theorem dX7_likeness_4 : decode cX7_likeness 4 = .ok (.iconst 0, 1) := by decide +kernel
theorem dX7_likeness_5 : decode cX7_likeness 5 = .ok (.invokestatic 66, 3) := by decide +kernel
theorem dX7_likeness_8 : decode cX7_likeness 8 = .ok (.iconst 0, 1) := by decide +kernel
theorem dX7_likeness_9 : decode cX7_likeness 9 = .ok (.istore_n 3, 1) := by decide +kernel
theorem dX7_likeness_10 : decode cX7_likeness 10 = .ok (.iload_n 3, 1) := by decide +kernel
theorem dX7_likeness_11 : decode cX7_likeness 11 = .ok (.aload_n 0, 1) := by decide +kernel
theorem dX7_likeness_12 : decode cX7_likeness 12 = .ok (.iload_n 1, 1) := by decide +kernel
theorem dX7_likeness_13 : decode cX7_likeness 13 = .ok (.invokevirtual 25, 3) := by decide +kernel
theorem dX7_likeness_16 : decode cX7_likeness 16 = .ok (.if_icmp .ge 102, 3) := by decide +kernel
theorem dX7_likeness_19 : decode cX7_likeness 19 = .ok (.aload_n 0, 1) := by decide +kernel
theorem dX7_likeness_20 : decode cX7_likeness 20 = .ok (.iload_n 1, 1) := by decide +kernel
theorem dX7_likeness_21 : decode cX7_likeness 21 = .ok (.iload_n 3, 1) := by decide +kernel
theorem dX7_likeness_22 : decode cX7_likeness 22 = .ok (.invokevirtual 54, 3) := by decide +kernel
theorem dX7_likeness_25 : decode cX7_likeness 25 = .ok (.istore 4, 2) := by decide +kernel
theorem dX7_likeness_27 : decode cX7_likeness 27 = .ok (.iconst 0, 1) := by decide +kernel
theorem dX7_likeness_28 : decode cX7_likeness 28 = .ok (.istore 5, 2) := by decide +kernel
theorem dX7_likeness_30 : decode cX7_likeness 30 = .ok (.iconst 1, 1) := by decide +kernel
theorem dX7_likeness_31 : decode cX7_likeness 31 = .ok (.istore 6, 2) := by decide +kernel
theorem dX7_likeness_33 : decode cX7_likeness 33 = .ok (.iload 6, 2) := by decide +kernel
theorem dX7_likeness_35 : decode cX7_likeness 35 = .ok (.aload_n 2, 1) := by decide +kernel
theorem dX7_likeness_36 : decode cX7_likeness 36 = .ok (.invokevirtual 41, 3) := by decide +kernel
theorem dX7_likeness_39 : decode cX7_likeness 39 = .ok (.if_icmp .gt 73, 3) := by decide +kernel
theorem dX7_likeness_42 : decode cX7_likeness 42 = .ok (.iload 6, 2) := by decide +kernel
theorem dX7_likeness_44 : decode cX7_likeness 44 = .ok (.aload_n 0, 1) := by decide +kernel
theorem dX7_likeness_45 : decode cX7_likeness 45 = .ok (.getfield 18, 3) := by decide +kernel
theorem dX7_likeness_48 : decode cX7_likeness 48 = .ok (.arraylength, 1) := by decide +kernel
theorem dX7_likeness_49 : decode cX7_likeness 49 = .ok (.if_icmp .ge 63, 3) := by decide +kernel
theorem dX7_likeness_52 : decode cX7_likeness 52 = .ok (.aload_n 0, 1) := by decide +kernel
theorem dX7_likeness_53 : decode cX7_likeness 53 = .ok (.getfield 18, 3) := by decide +kernel
theorem dX7_likeness_56 : decode cX7_likeness 56 = .ok (.iload 6, 2) := by decide +kernel
theorem dX7_likeness_58 : decode cX7_likeness 58 = .ok (.iaload, 1) := by decide +kernel
theorem dX7_likeness_59 : decode cX7_likeness 59 = .ok (.istore 7, 2) := by decide +kernel
theorem dX7_likeness_61 : decode cX7_likeness 61 = .ok (.aload_n 0, 1) := by decide +kernel
theorem dX7_likeness_62 : decode cX7_likeness 62 = .ok (.getfield 18, 3) := by decide +kernel
theorem dX7_likeness_65 : decode cX7_likeness 65 = .ok (.iload 6, 2) := by decide +kernel
theorem dX7_likeness_67 : decode cX7_likeness 67 = .ok (.aload_n 2, 1) := by decide +kernel
theorem dX7_likeness_68 : decode cX7_likeness 68 = .ok (.iload 6, 2) := by decide +kernel
theorem dX7_likeness_70 : decode cX7_likeness 70 = .ok (.iconst 1, 1) := by decide +kernel
theorem dX7_likeness_71 : decode cX7_likeness 71 = .ok (.isub, 1) := by decide +kernel
theorem dX7_likeness_72 : decode cX7_likeness 72 = .ok (.invokevirtual 47, 3) := by decide +kernel
theorem dX7_likeness_75 : decode cX7_likeness 75 = .ok (.iload 4, 2) := by decide +kernel
theorem dX7_likeness_77 : decode cX7_likeness 77 = .ok (.if_icmp .ne 10, 3) := by decide +kernel
theorem dX7_likeness_80 : decode cX7_likeness 80 = .ok (.iload 5, 2) := by decide +kernel
theorem dX7_likeness_82 : decode cX7_likeness 82 = .ok (.iconst 1, 1) := by decide +kernel
theorem dX7_likeness_83 : decode cX7_likeness 83 = .ok (.iadd, 1) := by decide +kernel
theorem dX7_likeness_84 : decode cX7_likeness 84 = .ok (.goto 17, 3) := by decide +kernel
theorem dX7_likeness_87 : decode cX7_likeness 87 = .ok (.iload 7, 2) := by decide +kernel
theorem dX7_likeness_89 : decode cX7_likeness 89 = .ok (.aload_n 0, 1) := by decide +kernel
theorem dX7_likeness_90 : decode cX7_likeness 90 = .ok (.getfield 18, 3) := by decide +kernel
theorem dX7_likeness_93 : decode cX7_likeness 93 = .ok (.iload 6, 2) := by decide +kernel
theorem dX7_likeness_95 : decode cX7_likeness 95 = .ok (.iconst 1, 1) := by decide +kernel
theorem dX7_likeness_96 : decode cX7_likeness 96 = .ok (.isub, 1) := by decide +kernel
theorem dX7_likeness_97 : decode cX7_likeness 97 = .ok (.iaload, 1) := by decide +kernel
theorem dX7_likeness_98 : decode cX7_likeness 98 = .ok (.invokestatic 72, 3) := by decide +kernel
theorem dX7_likeness_101 : decode cX7_likeness 101 = .ok (.iastore, 1) := by decide +kernel
theorem dX7_likeness_102 : decode cX7_likeness 102 = .ok (.iload 7, 2) := by decide +kernel
theorem dX7_likeness_104 : decode cX7_likeness 104 = .ok (.istore 5, 2) := by decide +kernel
theorem dX7_likeness_106 : decode cX7_likeness 106 = .ok (.iinc 6 1, 3) := by decide +kernel
theorem dX7_likeness_109 : decode cX7_likeness 109 = .ok (.goto (-76), 3) := by decide +kernel
theorem dX7_likeness_112 : decode cX7_likeness 112 = .ok (.iinc 3 1, 3) := by decide +kernel
theorem dX7_likeness_115 : decode cX7_likeness 115 = .ok (.goto (-105), 3) := by decide +kernel
theorem dX7_likeness_118 : decode cX7_likeness 118 = .ok (.aload_n 0, 1) := by decide +kernel
theorem dX7_likeness_119 : decode cX7_likeness 119 = .ok (.getfield 18, 3) := by decide +kernel
theorem dX7_likeness_122 : decode cX7_likeness 122 = .ok (.aload_n 2, 1) := by decide +kernel
theorem dX7_likeness_123 : decode cX7_likeness 123 = .ok (.invokevirtual 41, 3) := by decide +kernel
theorem dX7_likeness_126 : decode cX7_likeness 126 = .ok (.invokestatic 75, 3) := by decide +kernel
theorem dX7_likeness_129 : decode cX7_likeness 129 = .ok (.ireturn, 1) := by decide +kernel
theorem dX8_init_0 : decode cX8_init 0 = .ok (.aload_n 0, 1) := by decide +kernel
theorem dX8_init_1 : decode cX8_init 1 = .ok (.invokespecial 3, 3) := by decide +kernel
theorem dX8_init_4 : decode cX8_init 4 = .ok (.aload_n 0, 1) := by decide +kernel
theorem dX8_init_5 : decode cX8_init 5 = .ok (.new 9, 3) := by decide +kernel
theorem dX8_init_8 : decode cX8_init 8 = .ok (.dup, 1) := by decide +kernel
theorem dX8_init_9 : decode cX8_init 9 = .ok (.invokespecial 11, 3) := by decide +kernel
theorem dX8_init_12 : decode cX8_init 12 = .ok (.putfield 12, 3) := by decide +kernel
theorem dX8_init_15 : decode cX8_init 15 = .ok (.aload_n 0, 1) := by decide +kernel
theorem dX8_init_16 : decode cX8_init 16 = .ok (.new 16, 3) := by decide +kernel
theorem dX8_init_19 : decode cX8_init 19 = .ok (.dup, 1) := by decide +kernel
theorem dX8_init_20 : decode cX8_init 20 = .ok (.invokespecial 18, 3) := by decide +kernel
theorem dX8_init_23 : decode cX8_init 23 = .ok (.putfield 19, 3) := by decide +kernel
theorem dX8_init_26 : decode cX8_init 26 = .ok (.aload_n 0, 1) := by decide +kernel
theorem dX8_init_27 : decode cX8_init 27 = .ok (.new 23, 3) := by decide +kernel
theorem dX8_init_30 : decode cX8_init 30 = .ok (.dup, 1) := by decide +kernel
theorem dX8_init_31 : decode cX8_init 31 = .ok (.invokespecial 25, 3) := by decide +kernel
theorem dX8_init_34 : decode cX8_init 34 = .ok (.putfield 26, 3) := by decide +kernel
theorem dX8_init_37 : decode cX8_init 37 = .ok (.aload_n 0, 1) := by decide +kernel
theorem dX8_init_38 : decode cX8_init 38 = .ok (.new 30, 3) := by decide +kernel
theorem dX8_init_41 : decode cX8_init 41 = .ok (.dup, 1) := by decide +kernel
theorem dX8_init_42 : decode cX8_init 42 = .ok (.invokespecial 32, 3) := by decide +kernel
theorem dX8_init_45 : decode cX8_init 45 = .ok (.putfield 33, 3) := by decide +kernel
theorem dX8_init_48 : decode cX8_init 48 = .ok (.aload_n 0, 1) := by decide +kernel
theorem dX8_init_49 : decode cX8_init 49 = .ok (.new 37, 3) := by decide +kernel
theorem dX8_init_52 : decode cX8_init 52 = .ok (.dup, 1) := by decide +kernel
theorem dX8_init_53 : decode cX8_init 53 = .ok (.invokespecial 39, 3) := by decide +kernel
theorem dX8_init_56 : decode cX8_init 56 = .ok (.putfield 40, 3) := by decide +kernel
theorem dX8_init_59 : decode cX8_init 59 = .ok (.aload_n 0, 1) := by decide +kernel
theorem dX8_init_60 : decode cX8_init 60 = .ok (.new 44, 3) := by decide +kernel
theorem dX8_init_63 : decode cX8_init 63 = .ok (.dup, 1) := by decide +kernel
theorem dX8_init_64 : decode cX8_init 64 = .ok (.invokespecial 46, 3) := by decide +kernel
theorem dX8_init_67 : decode cX8_init 67 = .ok (.putfield 47, 3) := by decide +kernel
theorem dX8_init_70 : decode cX8_init 70 = .ok (.aload_n 0, 1) := by decide +kernel
theorem dX8_init_71 : decode cX8_init 71 = .ok (.new 51, 3) := by decide +kernel
theorem dX8_init_74 : decode cX8_init 74 = .ok (.dup, 1) := by decide +kernel
theorem dX8_init_75 : decode cX8_init 75 = .ok (.invokespecial 53, 3) := by decide +kernel
theorem dX8_init_78 : decode cX8_init 78 = .ok (.putfield 54, 3) := by decide +kernel
theorem dX8_init_81 : decode cX8_init 81 = .ok (.return_, 1) := by decide +kernel
theorem dX8_word_0 : decode cX8_word 0 = .ok (.iload_n 1, 1) := by decide +kernel
theorem dX8_word_1 : decode cX8_word 1 = .ok (.iconst 0, 1) := by decide +kernel
theorem dX8_word_2 : decode cX8_word 2 = .ok (.bipush 59, 2) := by decide +kernel
theorem dX8_word_4 : decode cX8_word 4 = .ok (.invokestatic 58, 3) := by decide +kernel
theorem dX8_word_7 : decode cX8_word 7 = .ok (.aload_n 0, 1) := by decide +kernel
theorem dX8_word_8 : decode cX8_word 8 = .ok (.getfield 12, 3) := by decide +kernel
theorem dX8_word_11 : decode cX8_word 11 = .ok (.invokevirtual 62, 3) := by decide +kernel
theorem dX8_word_14 : decode cX8_word 14 = .ok (.ifCond .eq 13, 3) := by decide +kernel
theorem dX8_word_17 : decode cX8_word 17 = .ok (.new 66, 3) := by decide +kernel
theorem dX8_word_20 : decode cX8_word 20 = .ok (.dup, 1) := by decide +kernel
theorem dX8_word_21 : decode cX8_word 21 = .ok (.ldc 68, 2) := by decide +kernel
theorem dX8_word_23 : decode cX8_word 23 = .ok (.invokespecial 70, 3) := by decide +kernel
theorem dX8_word_26 : decode cX8_word 26 = .ok (.athrow, 1) := by decide +kernel
theorem dX8_word_27 : decode cX8_word 27 = .ok (.aload_n 0, 1) := by decide +kernel
theorem dX8_word_28 : decode cX8_word 28 = .ok (.getfield 12, 3) := by decide +kernel
theorem dX8_word_31 : decode cX8_word 31 = .ok (.iload_n 1, 1) := by decide +kernel
theorem dX8_word_32 : decode cX8_word 32 = .ok (.invokevirtual 73, 3) := by decide +kernel
theorem dX8_word_35 : decode cX8_word 35 = .ok (.aload_n 0, 1) := by decide +kernel
theorem dX8_word_36 : decode cX8_word 36 = .ok (.getfield 12, 3) := by decide +kernel
theorem dX8_word_39 : decode cX8_word 39 = .ok (.invokevirtual 77, 3) := by decide +kernel
theorem dX8_word_42 : decode cX8_word 42 = .ok (.ireturn, 1) := by decide +kernel
theorem dX8_wipe_0 : decode cX8_wipe 0 = .ok (.aload_n 0, 1) := by decide +kernel
theorem dX8_wipe_1 : decode cX8_wipe 1 = .ok (.getfield 12, 3) := by decide +kernel
theorem dX8_wipe_4 : decode cX8_wipe 4 = .ok (.invokevirtual 77, 3) := by decide +kernel
theorem dX8_wipe_7 : decode cX8_wipe 7 = .ok (.istore_n 1, 1) := by decide +kernel
theorem dX8_wipe_8 : decode cX8_wipe 8 = .ok (.aload_n 0, 1) := by decide +kernel
theorem dX8_wipe_9 : decode cX8_wipe 9 = .ok (.getfield 12, 3) := by decide +kernel
theorem dX8_wipe_12 : decode cX8_wipe 12 = .ok (.invokevirtual 81, 3) := by decide +kernel
theorem dX8_wipe_15 : decode cX8_wipe 15 = .ok (.iload_n 1, 1) := by decide +kernel
theorem dX8_wipe_16 : decode cX8_wipe 16 = .ok (.ireturn, 1) := by decide +kernel
theorem dX8_unit_0 : decode cX8_unit 0 = .ok (.aload_n 0, 1) := by decide +kernel
theorem dX8_unit_1 : decode cX8_unit 1 = .ok (.getfield 12, 3) := by decide +kernel
theorem dX8_unit_4 : decode cX8_unit 4 = .ok (.invokevirtual 77, 3) := by decide +kernel
theorem dX8_unit_7 : decode cX8_unit 7 = .ok (.ifCond .ne 13, 3) := by decide +kernel
theorem dX8_unit_10 : decode cX8_unit 10 = .ok (.new 66, 3) := by decide +kernel
theorem dX8_unit_13 : decode cX8_unit 13 = .ok (.dup, 1) := by decide +kernel
theorem dX8_unit_14 : decode cX8_unit 14 = .ok (.ldc 84, 2) := by decide +kernel
theorem dX8_unit_16 : decode cX8_unit 16 = .ok (.invokespecial 70, 3) := by decide +kernel
theorem dX8_unit_19 : decode cX8_unit 19 = .ok (.athrow, 1) := by decide +kernel
theorem dX8_unit_20 : decode cX8_unit 20 = .ok (.aload_n 0, 1) := by decide +kernel
theorem dX8_unit_21 : decode cX8_unit 21 = .ok (.getfield 19, 3) := by decide +kernel
theorem dX8_unit_24 : decode cX8_unit 24 = .ok (.invokevirtual 86, 3) := by decide +kernel
theorem dX8_unit_27 : decode cX8_unit 27 = .ok (.ifCond .eq 13, 3) := by decide +kernel
theorem dX8_unit_30 : decode cX8_unit 30 = .ok (.new 66, 3) := by decide +kernel
theorem dX8_unit_33 : decode cX8_unit 33 = .ok (.dup, 1) := by decide +kernel
theorem dX8_unit_34 : decode cX8_unit 34 = .ok (.ldc 87, 2) := by decide +kernel
theorem dX8_unit_36 : decode cX8_unit 36 = .ok (.invokespecial 70, 3) := by decide +kernel
theorem dX8_unit_39 : decode cX8_unit 39 = .ok (.athrow, 1) := by decide +kernel
theorem dX8_unit_40 : decode cX8_unit 40 = .ok (.aload_n 0, 1) := by decide +kernel
theorem dX8_unit_41 : decode cX8_unit 41 = .ok (.getfield 19, 3) := by decide +kernel
theorem dX8_unit_44 : decode cX8_unit 44 = .ok (.aload_n 0, 1) := by decide +kernel
theorem dX8_unit_45 : decode cX8_unit 45 = .ok (.getfield 12, 3) := by decide +kernel
theorem dX8_unit_48 : decode cX8_unit 48 = .ok (.invokevirtual 89, 3) := by decide +kernel
theorem dX8_unit_51 : decode cX8_unit 51 = .ok (.aload_n 0, 1) := by decide +kernel
theorem dX8_unit_52 : decode cX8_unit 52 = .ok (.getfield 12, 3) := by decide +kernel
theorem dX8_unit_55 : decode cX8_unit 55 = .ok (.invokevirtual 81, 3) := by decide +kernel
theorem dX8_unit_58 : decode cX8_unit 58 = .ok (.aload_n 0, 1) := by decide +kernel
theorem dX8_unit_59 : decode cX8_unit 59 = .ok (.getfield 19, 3) := by decide +kernel
theorem dX8_unit_62 : decode cX8_unit 62 = .ok (.invokevirtual 92, 3) := by decide +kernel
theorem dX8_unit_65 : decode cX8_unit 65 = .ok (.iconst 1, 1) := by decide +kernel
theorem dX8_unit_66 : decode cX8_unit 66 = .ok (.isub, 1) := by decide +kernel
theorem dX8_unit_67 : decode cX8_unit 67 = .ok (.ireturn, 1) := by decide +kernel
theorem dX8_emend_0 : decode cX8_emend 0 = .ok (.aload_n 0, 1) := by decide +kernel
theorem dX8_emend_1 : decode cX8_emend 1 = .ok (.getfield 19, 3) := by decide +kernel
theorem dX8_emend_4 : decode cX8_emend 4 = .ok (.iload_n 1, 1) := by decide +kernel
theorem dX8_emend_5 : decode cX8_emend 5 = .ok (.iload_n 2, 1) := by decide +kernel
theorem dX8_emend_6 : decode cX8_emend 6 = .ok (.invokevirtual 95, 3) := by decide +kernel
theorem dX8_emend_9 : decode cX8_emend 9 = .ok (.ifCond .ne 13, 3) := by decide +kernel
theorem dX8_emend_12 : decode cX8_emend 12 = .ok (.new 99, 3) := by decide +kernel
theorem dX8_emend_15 : decode cX8_emend 15 = .ok (.dup, 1) := by decide +kernel
theorem dX8_emend_16 : decode cX8_emend 16 = .ok (.ldc 101, 2) := by decide +kernel
theorem dX8_emend_18 : decode cX8_emend 18 = .ok (.invokespecial 103, 3) := by decide +kernel
theorem dX8_emend_21 : decode cX8_emend 21 = .ok (.athrow, 1) := by decide +kernel
theorem dX8_emend_22 : decode cX8_emend 22 = .ok (.iload_n 3, 1) := by decide +kernel
theorem dX8_emend_23 : decode cX8_emend 23 = .ok (.iconst (-1), 1) := by decide +kernel
theorem dX8_emend_24 : decode cX8_emend 24 = .ok (.bipush 59, 2) := by decide +kernel
theorem dX8_emend_26 : decode cX8_emend 26 = .ok (.invokestatic 58, 3) := by decide +kernel
theorem dX8_emend_29 : decode cX8_emend 29 = .ok (.iload_n 3, 1) := by decide +kernel
theorem dX8_emend_30 : decode cX8_emend 30 = .ok (.iconst (-1), 1) := by decide +kernel
theorem dX8_emend_31 : decode cX8_emend 31 = .ok (.if_icmp .eq 26, 3) := by decide +kernel
theorem dX8_emend_34 : decode cX8_emend 34 = .ok (.aload_n 0, 1) := by decide +kernel
theorem dX8_emend_35 : decode cX8_emend 35 = .ok (.getfield 19, 3) := by decide +kernel
theorem dX8_emend_38 : decode cX8_emend 38 = .ok (.iload_n 1, 1) := by decide +kernel
theorem dX8_emend_39 : decode cX8_emend 39 = .ok (.iload_n 2, 1) := by decide +kernel
theorem dX8_emend_40 : decode cX8_emend 40 = .ok (.iload_n 3, 1) := by decide +kernel
theorem dX8_emend_41 : decode cX8_emend 41 = .ok (.invokevirtual 104, 3) := by decide +kernel
theorem dX8_emend_44 : decode cX8_emend 44 = .ok (.aload_n 0, 1) := by decide +kernel
theorem dX8_emend_45 : decode cX8_emend 45 = .ok (.getfield 33, 3) := by decide +kernel
theorem dX8_emend_48 : decode cX8_emend 48 = .ok (.iload_n 1, 1) := by decide +kernel
theorem dX8_emend_49 : decode cX8_emend 49 = .ok (.aload_n 0, 1) := by decide +kernel
theorem dX8_emend_50 : decode cX8_emend 50 = .ok (.getfield 19, 3) := by decide +kernel
theorem dX8_emend_53 : decode cX8_emend 53 = .ok (.invokevirtual 107, 3) := by decide +kernel
theorem dX8_emend_56 : decode cX8_emend 56 = .ok (.ireturn, 1) := by decide +kernel
theorem dX8_emend_57 : decode cX8_emend 57 = .ok (.aload_n 0, 1) := by decide +kernel
theorem dX8_emend_58 : decode cX8_emend 58 = .ok (.getfield 19, 3) := by decide +kernel
theorem dX8_emend_61 : decode cX8_emend 61 = .ok (.iload_n 1, 1) := by decide +kernel
theorem dX8_emend_62 : decode cX8_emend 62 = .ok (.invokevirtual 111, 3) := by decide +kernel
theorem dX8_emend_65 : decode cX8_emend 65 = .ok (.iconst 1, 1) := by decide +kernel
theorem dX8_emend_66 : decode cX8_emend 66 = .ok (.if_icmp .gt 13, 3) := by decide +kernel
theorem dX8_emend_69 : decode cX8_emend 69 = .ok (.new 66, 3) := by decide +kernel
theorem dX8_emend_72 : decode cX8_emend 72 = .ok (.dup, 1) := by decide +kernel
theorem dX8_emend_73 : decode cX8_emend 73 = .ok (.ldc 115, 2) := by decide +kernel
theorem dX8_emend_75 : decode cX8_emend 75 = .ok (.invokespecial 70, 3) := by decide +kernel
theorem dX8_emend_78 : decode cX8_emend 78 = .ok (.athrow, 1) := by decide +kernel
theorem dX8_emend_79 : decode cX8_emend 79 = .ok (.aload_n 0, 1) := by decide +kernel
theorem dX8_emend_80 : decode cX8_emend 80 = .ok (.getfield 19, 3) := by decide +kernel
theorem dX8_emend_83 : decode cX8_emend 83 = .ok (.iload_n 1, 1) := by decide +kernel
theorem dX8_emend_84 : decode cX8_emend 84 = .ok (.iload_n 2, 1) := by decide +kernel
theorem dX8_emend_85 : decode cX8_emend 85 = .ok (.invokevirtual 117, 3) := by decide +kernel
theorem dX8_emend_88 : decode cX8_emend 88 = .ok (.aload_n 0, 1) := by decide +kernel
theorem dX8_emend_89 : decode cX8_emend 89 = .ok (.getfield 33, 3) := by decide +kernel
theorem dX8_emend_92 : decode cX8_emend 92 = .ok (.iload_n 1, 1) := by decide +kernel
theorem dX8_emend_93 : decode cX8_emend 93 = .ok (.iload_n 2, 1) := by decide +kernel
theorem dX8_emend_94 : decode cX8_emend 94 = .ok (.aload_n 0, 1) := by decide +kernel
theorem dX8_emend_95 : decode cX8_emend 95 = .ok (.getfield 19, 3) := by decide +kernel
theorem dX8_emend_98 : decode cX8_emend 98 = .ok (.iload_n 1, 1) := by decide +kernel
theorem dX8_emend_99 : decode cX8_emend 99 = .ok (.invokevirtual 111, 3) := by decide +kernel
theorem dX8_emend_102 : decode cX8_emend 102 = .ok (.iconst 1, 1) := by decide +kernel
theorem dX8_emend_103 : decode cX8_emend 103 = .ok (.isub, 1) := by decide +kernel
theorem dX8_emend_104 : decode cX8_emend 104 = .ok (.invokevirtual 121, 3) := by decide +kernel
theorem dX8_emend_107 : decode cX8_emend 107 = .ok (.aload_n 0, 1) := by decide +kernel
theorem dX8_emend_108 : decode cX8_emend 108 = .ok (.getfield 33, 3) := by decide +kernel
theorem dX8_emend_111 : decode cX8_emend 111 = .ok (.iload_n 1, 1) := by decide +kernel
theorem dX8_emend_112 : decode cX8_emend 112 = .ok (.aload_n 0, 1) := by decide +kernel
theorem dX8_emend_113 : decode cX8_emend 113 = .ok (.getfield 19, 3) := by decide +kernel
theorem dX8_emend_116 : decode cX8_emend 116 = .ok (.invokevirtual 107, 3) := by decide +kernel
theorem dX8_emend_119 : decode cX8_emend 119 = .ok (.ireturn, 1) := by decide +kernel
theorem dX8_textOf_0 : decode cX8_textOf 0 = .ok (.aload_n 0, 1) := by decide +kernel
theorem dX8_textOf_1 : decode cX8_textOf 1 = .ok (.iload_n 1, 1) := by decide +kernel
theorem dX8_textOf_2 : decode cX8_textOf 2 = .ok (.invokevirtual 124, 3) := by decide +kernel
theorem dX8_textOf_5 : decode cX8_textOf 5 = .ok (.iload_n 2, 1) := by decide +kernel
theorem dX8_textOf_6 : decode cX8_textOf 6 = .ok (.ifCond .ge 13, 3) := by decide +kernel
theorem dX8_textOf_9 : decode cX8_textOf 9 = .ok (.new 99, 3) := by decide +kernel
theorem dX8_textOf_12 : decode cX8_textOf 12 = .ok (.dup, 1) := by decide +kernel
theorem dX8_textOf_13 : decode cX8_textOf 13 = .ok (.ldc 127, 2) := by decide +kernel
theorem dX8_textOf_15 : decode cX8_textOf 15 = .ok (.invokespecial 103, 3) := by decide +kernel
theorem dX8_textOf_18 : decode cX8_textOf 18 = .ok (.athrow, 1) := by decide +kernel
theorem dX8_textOf_19 : decode cX8_textOf 19 = .ok (.aload_n 0, 1) := by decide +kernel
theorem dX8_textOf_20 : decode cX8_textOf 20 = .ok (.getfield 19, 3) := by decide +kernel
theorem dX8_textOf_23 : decode cX8_textOf 23 = .ok (.iload_n 1, 1) := by decide +kernel
theorem dX8_textOf_24 : decode cX8_textOf 24 = .ok (.iload_n 2, 1) := by decide +kernel
theorem dX8_textOf_25 : decode cX8_textOf 25 = .ok (.invokevirtual 129, 3) := by decide +kernel
theorem dX8_textOf_28 : decode cX8_textOf 28 = .ok (.ireturn, 1) := by decide +kernel
theorem dX8_author_0 : decode cX8_author 0 = .ok (.iload_n 1, 1) := by decide +kernel
theorem dX8_author_1 : decode cX8_author 1 = .ok (.iconst 0, 1) := by decide +kernel
theorem dX8_author_2 : decode cX8_author 2 = .ok (.sipush 2000, 3) := by decide +kernel
theorem dX8_author_5 : decode cX8_author 5 = .ok (.invokestatic 58, 3) := by decide +kernel
theorem dX8_author_8 : decode cX8_author 8 = .ok (.iload_n 2, 1) := by decide +kernel
theorem dX8_author_9 : decode cX8_author 9 = .ok (.iconst 0, 1) := by decide +kernel
theorem dX8_author_10 : decode cX8_author 10 = .ok (.iconst 3, 1) := by decide +kernel
theorem dX8_author_11 : decode cX8_author 11 = .ok (.invokestatic 58, 3) := by decide +kernel
theorem dX8_author_14 : decode cX8_author 14 = .ok (.iload_n 3, 1) := by decide +kernel
theorem dX8_author_15 : decode cX8_author 15 = .ok (.iconst 0, 1) := by decide +kernel
theorem dX8_author_16 : decode cX8_author 16 = .ok (.bipush 99, 2) := by decide +kernel
theorem dX8_author_18 : decode cX8_author 18 = .ok (.invokestatic 58, 3) := by decide +kernel
theorem dX8_author_21 : decode cX8_author 21 = .ok (.aload_n 0, 1) := by decide +kernel
theorem dX8_author_22 : decode cX8_author 22 = .ok (.getfield 26, 3) := by decide +kernel
theorem dX8_author_25 : decode cX8_author 25 = .ok (.invokevirtual 133, 3) := by decide +kernel
theorem dX8_author_28 : decode cX8_author 28 = .ok (.ifCond .eq 13, 3) := by decide +kernel
theorem dX8_author_31 : decode cX8_author 31 = .ok (.new 66, 3) := by decide +kernel
theorem dX8_author_34 : decode cX8_author 34 = .ok (.dup, 1) := by decide +kernel
theorem dX8_author_35 : decode cX8_author 35 = .ok (.ldc 134, 2) := by decide +kernel
theorem dX8_author_37 : decode cX8_author 37 = .ok (.invokespecial 70, 3) := by decide +kernel
theorem dX8_author_40 : decode cX8_author 40 = .ok (.athrow, 1) := by decide +kernel
theorem dX8_author_41 : decode cX8_author 41 = .ok (.aload_n 0, 1) := by decide +kernel
theorem dX8_author_42 : decode cX8_author 42 = .ok (.getfield 26, 3) := by decide +kernel
theorem dX8_author_45 : decode cX8_author 45 = .ok (.iload_n 1, 1) := by decide +kernel
theorem dX8_author_46 : decode cX8_author 46 = .ok (.iload_n 2, 1) := by decide +kernel
theorem dX8_author_47 : decode cX8_author 47 = .ok (.iload_n 3, 1) := by decide +kernel
theorem dX8_author_48 : decode cX8_author 48 = .ok (.invokevirtual 136, 3) := by decide +kernel
theorem dX8_author_51 : decode cX8_author 51 = .ok (.aload_n 0, 1) := by decide +kernel
theorem dX8_author_52 : decode cX8_author 52 = .ok (.getfield 26, 3) := by decide +kernel
theorem dX8_author_55 : decode cX8_author 55 = .ok (.invokevirtual 138, 3) := by decide +kernel
theorem dX8_author_58 : decode cX8_author 58 = .ok (.iconst 1, 1) := by decide +kernel
theorem dX8_author_59 : decode cX8_author 59 = .ok (.isub, 1) := by decide +kernel
theorem dX8_author_60 : decode cX8_author 60 = .ok (.ireturn, 1) := by decide +kernel
theorem dX8_meant_0 : decode cX8_meant 0 = .ok (.iload_n 1, 1) := by decide +kernel
theorem dX8_meant_1 : decode cX8_meant 1 = .ok (.iconst 0, 1) := by decide +kernel
theorem dX8_meant_2 : decode cX8_meant 2 = .ok (.bipush 99, 2) := by decide +kernel
theorem dX8_meant_4 : decode cX8_meant 4 = .ok (.invokestatic 58, 3) := by decide +kernel
theorem dX8_meant_7 : decode cX8_meant 7 = .ok (.iload_n 2, 1) := by decide +kernel
theorem dX8_meant_8 : decode cX8_meant 8 = .ok (.iconst 0, 1) := by decide +kernel
theorem dX8_meant_9 : decode cX8_meant 9 = .ok (.sipush 2000, 3) := by decide +kernel
theorem dX8_meant_12 : decode cX8_meant 12 = .ok (.invokestatic 58, 3) := by decide +kernel
theorem dX8_meant_15 : decode cX8_meant 15 = .ok (.aload_n 0, 1) := by decide +kernel
theorem dX8_meant_16 : decode cX8_meant 16 = .ok (.getfield 26, 3) := by decide +kernel
theorem dX8_meant_19 : decode cX8_meant 19 = .ok (.iload_n 1, 1) := by decide +kernel
theorem dX8_meant_20 : decode cX8_meant 20 = .ok (.iload_n 2, 1) := by decide +kernel
theorem dX8_meant_21 : decode cX8_meant 21 = .ok (.invokevirtual 139, 3) := by decide +kernel
theorem dX8_meant_24 : decode cX8_meant 24 = .ok (.ireturn, 1) := by decide +kernel
theorem dX8_comment_0 : decode cX8_comment 0 = .ok (.aload_n 0, 1) := by decide +kernel
theorem dX8_comment_1 : decode cX8_comment 1 = .ok (.iload_n 1, 1) := by decide +kernel
theorem dX8_comment_2 : decode cX8_comment 2 = .ok (.invokevirtual 142, 3) := by decide +kernel
theorem dX8_comment_5 : decode cX8_comment 5 = .ok (.aload_n 0, 1) := by decide +kernel
theorem dX8_comment_6 : decode cX8_comment 6 = .ok (.iload_n 2, 1) := by decide +kernel
theorem dX8_comment_7 : decode cX8_comment 7 = .ok (.invokevirtual 124, 3) := by decide +kernel
theorem dX8_comment_10 : decode cX8_comment 10 = .ok (.iload_n 3, 1) := by decide +kernel
theorem dX8_comment_11 : decode cX8_comment 11 = .ok (.iconst 0, 1) := by decide +kernel
theorem dX8_comment_12 : decode cX8_comment 12 = .ok (.iconst 4, 1) := by decide +kernel
theorem dX8_comment_13 : decode cX8_comment 13 = .ok (.invokestatic 58, 3) := by decide +kernel
theorem dX8_comment_16 : decode cX8_comment 16 = .ok (.iload 4, 2) := by decide +kernel
theorem dX8_comment_18 : decode cX8_comment 18 = .ok (.iconst 0, 1) := by decide +kernel
theorem dX8_comment_19 : decode cX8_comment 19 = .ok (.bipush 59, 2) := by decide +kernel
theorem dX8_comment_21 : decode cX8_comment 21 = .ok (.invokestatic 58, 3) := by decide +kernel
theorem dX8_comment_24 : decode cX8_comment 24 = .ok (.iload 5, 2) := by decide +kernel
theorem dX8_comment_26 : decode cX8_comment 26 = .ok (.iconst 1, 1) := by decide +kernel
theorem dX8_comment_27 : decode cX8_comment 27 = .ok (.bipush 12, 2) := by decide +kernel
theorem dX8_comment_29 : decode cX8_comment 29 = .ok (.invokestatic 58, 3) := by decide +kernel
theorem dX8_comment_32 : decode cX8_comment 32 = .ok (.iload 6, 2) := by decide +kernel
theorem dX8_comment_34 : decode cX8_comment 34 = .ok (.iconst 1, 1) := by decide +kernel
theorem dX8_comment_35 : decode cX8_comment 35 = .ok (.bipush 9, 2) := by decide +kernel
theorem dX8_comment_37 : decode cX8_comment 37 = .ok (.invokestatic 58, 3) := by decide +kernel
theorem dX8_comment_40 : decode cX8_comment 40 = .ok (.iload 7, 2) := by decide +kernel
theorem dX8_comment_42 : decode cX8_comment 42 = .ok (.iconst 0, 1) := by decide +kernel
theorem dX8_comment_43 : decode cX8_comment 43 = .ok (.iconst 1, 1) := by decide +kernel
theorem dX8_comment_44 : decode cX8_comment 44 = .ok (.invokestatic 58, 3) := by decide +kernel
theorem dX8_comment_47 : decode cX8_comment 47 = .ok (.aload_n 0, 1) := by decide +kernel
theorem dX8_comment_48 : decode cX8_comment 48 = .ok (.invokevirtual 145, 3) := by decide +kernel
theorem dX8_comment_51 : decode cX8_comment 51 = .ok (.aload_n 0, 1) := by decide +kernel
theorem dX8_comment_52 : decode cX8_comment 52 = .ok (.getfield 19, 3) := by decide +kernel
theorem dX8_comment_55 : decode cX8_comment 55 = .ok (.iload_n 2, 1) := by decide +kernel
theorem dX8_comment_56 : decode cX8_comment 56 = .ok (.iload 4, 2) := by decide +kernel
theorem dX8_comment_58 : decode cX8_comment 58 = .ok (.iload 5, 2) := by decide +kernel
theorem dX8_comment_60 : decode cX8_comment 60 = .ok (.invokevirtual 148, 3) := by decide +kernel
theorem dX8_comment_63 : decode cX8_comment 63 = .ok (.istore 8, 2) := by decide +kernel
theorem dX8_comment_65 : decode cX8_comment 65 = .ok (.iload 8, 2) := by decide +kernel
theorem dX8_comment_67 : decode cX8_comment 67 = .ok (.iconst (-1), 1) := by decide +kernel
theorem dX8_comment_68 : decode cX8_comment 68 = .ok (.if_icmp .ne 13, 3) := by decide +kernel
theorem dX8_comment_71 : decode cX8_comment 71 = .ok (.new 66, 3) := by decide +kernel
theorem dX8_comment_74 : decode cX8_comment 74 = .ok (.dup, 1) := by decide +kernel
theorem dX8_comment_75 : decode cX8_comment 75 = .ok (.ldc 152, 2) := by decide +kernel
theorem dX8_comment_77 : decode cX8_comment 77 = .ok (.invokespecial 70, 3) := by decide +kernel
theorem dX8_comment_80 : decode cX8_comment 80 = .ok (.athrow, 1) := by decide +kernel
theorem dX8_comment_81 : decode cX8_comment 81 = .ok (.aload_n 0, 1) := by decide +kernel
theorem dX8_comment_82 : decode cX8_comment 82 = .ok (.getfield 33, 3) := by decide +kernel
theorem dX8_comment_85 : decode cX8_comment 85 = .ok (.iload_n 1, 1) := by decide +kernel
theorem dX8_comment_86 : decode cX8_comment 86 = .ok (.iload_n 3, 1) := by decide +kernel
theorem dX8_comment_87 : decode cX8_comment 87 = .ok (.iload 6, 2) := by decide +kernel
theorem dX8_comment_89 : decode cX8_comment 89 = .ok (.iload 7, 2) := by decide +kernel
theorem dX8_comment_91 : decode cX8_comment 91 = .ok (.invokevirtual 154, 3) := by decide +kernel
theorem dX8_comment_94 : decode cX8_comment 94 = .ok (.istore 9, 2) := by decide +kernel
theorem dX8_comment_96 : decode cX8_comment 96 = .ok (.aload_n 0, 1) := by decide +kernel
theorem dX8_comment_97 : decode cX8_comment 97 = .ok (.getfield 33, 3) := by decide +kernel
theorem dX8_comment_100 : decode cX8_comment 100 = .ok (.iload 9, 2) := by decide +kernel
theorem dX8_comment_102 : decode cX8_comment 102 = .ok (.iload_n 2, 1) := by decide +kernel
theorem dX8_comment_103 : decode cX8_comment 103 = .ok (.iload 8, 2) := by decide +kernel
theorem dX8_comment_105 : decode cX8_comment 105 = .ok (.iload 4, 2) := by decide +kernel
theorem dX8_comment_107 : decode cX8_comment 107 = .ok (.invokevirtual 157, 3) := by decide +kernel
theorem dX8_comment_110 : decode cX8_comment 110 = .ok (.iload 9, 2) := by decide +kernel
theorem dX8_comment_112 : decode cX8_comment 112 = .ok (.ireturn, 1) := by decide +kernel
theorem dX8_gloss_0 : decode cX8_gloss 0 = .ok (.aload_n 0, 1) := by decide +kernel
theorem dX8_gloss_1 : decode cX8_gloss 1 = .ok (.iload_n 1, 1) := by decide +kernel
theorem dX8_gloss_2 : decode cX8_gloss 2 = .ok (.invokevirtual 142, 3) := by decide +kernel
theorem dX8_gloss_5 : decode cX8_gloss 5 = .ok (.aload_n 0, 1) := by decide +kernel
theorem dX8_gloss_6 : decode cX8_gloss 6 = .ok (.iload_n 2, 1) := by decide +kernel
theorem dX8_gloss_7 : decode cX8_gloss 7 = .ok (.invokevirtual 161, 3) := by decide +kernel
theorem dX8_gloss_10 : decode cX8_gloss 10 = .ok (.iload_n 3, 1) := by decide +kernel
theorem dX8_gloss_11 : decode cX8_gloss 11 = .ok (.iconst 0, 1) := by decide +kernel
theorem dX8_gloss_12 : decode cX8_gloss 12 = .ok (.iconst 4, 1) := by decide +kernel
theorem dX8_gloss_13 : decode cX8_gloss 13 = .ok (.invokestatic 58, 3) := by decide +kernel
theorem dX8_gloss_16 : decode cX8_gloss 16 = .ok (.iload 4, 2) := by decide +kernel
theorem dX8_gloss_18 : decode cX8_gloss 18 = .ok (.iconst 1, 1) := by decide +kernel
theorem dX8_gloss_19 : decode cX8_gloss 19 = .ok (.bipush 9, 2) := by decide +kernel
theorem dX8_gloss_21 : decode cX8_gloss 21 = .ok (.invokestatic 58, 3) := by decide +kernel
theorem dX8_gloss_24 : decode cX8_gloss 24 = .ok (.iload 5, 2) := by decide +kernel
theorem dX8_gloss_26 : decode cX8_gloss 26 = .ok (.iconst 0, 1) := by decide +kernel
theorem dX8_gloss_27 : decode cX8_gloss 27 = .ok (.iconst 1, 1) := by decide +kernel
theorem dX8_gloss_28 : decode cX8_gloss 28 = .ok (.invokestatic 58, 3) := by decide +kernel
theorem dX8_gloss_31 : decode cX8_gloss 31 = .ok (.aload_n 0, 1) := by decide +kernel
theorem dX8_gloss_32 : decode cX8_gloss 32 = .ok (.invokevirtual 145, 3) := by decide +kernel
theorem dX8_gloss_35 : decode cX8_gloss 35 = .ok (.aload_n 0, 1) := by decide +kernel
theorem dX8_gloss_36 : decode cX8_gloss 36 = .ok (.getfield 26, 3) := by decide +kernel
theorem dX8_gloss_39 : decode cX8_gloss 39 = .ok (.aload_n 0, 1) := by decide +kernel
theorem dX8_gloss_40 : decode cX8_gloss 40 = .ok (.getfield 33, 3) := by decide +kernel
theorem dX8_gloss_43 : decode cX8_gloss 43 = .ok (.iload_n 2, 1) := by decide +kernel
theorem dX8_gloss_44 : decode cX8_gloss 44 = .ok (.invokevirtual 164, 3) := by decide +kernel
theorem dX8_gloss_47 : decode cX8_gloss 47 = .ok (.invokevirtual 167, 3) := by decide +kernel
theorem dX8_gloss_50 : decode cX8_gloss 50 = .ok (.aload_n 0, 1) := by decide +kernel
theorem dX8_gloss_51 : decode cX8_gloss 51 = .ok (.getfield 26, 3) := by decide +kernel
theorem dX8_gloss_54 : decode cX8_gloss 54 = .ok (.iload_n 1, 1) := by decide +kernel
theorem dX8_gloss_55 : decode cX8_gloss 55 = .ok (.invokevirtual 167, 3) := by decide +kernel
theorem dX8_gloss_58 : decode cX8_gloss 58 = .ok (.if_icmp .le 13, 3) := by decide +kernel
theorem dX8_gloss_61 : decode cX8_gloss 61 = .ok (.new 66, 3) := by decide +kernel
theorem dX8_gloss_64 : decode cX8_gloss 64 = .ok (.dup, 1) := by decide +kernel
theorem dX8_gloss_65 : decode cX8_gloss 65 = .ok (.ldc 170, 2) := by decide +kernel
theorem dX8_gloss_67 : decode cX8_gloss 67 = .ok (.invokespecial 70, 3) := by decide +kernel
theorem dX8_gloss_70 : decode cX8_gloss 70 = .ok (.athrow, 1) := by decide +kernel
theorem dX8_gloss_71 : decode cX8_gloss 71 = .ok (.aload_n 0, 1) := by decide +kernel
theorem dX8_gloss_72 : decode cX8_gloss 72 = .ok (.getfield 33, 3) := by decide +kernel
theorem dX8_gloss_75 : decode cX8_gloss 75 = .ok (.iload_n 1, 1) := by decide +kernel
theorem dX8_gloss_76 : decode cX8_gloss 76 = .ok (.iload_n 3, 1) := by decide +kernel
theorem dX8_gloss_77 : decode cX8_gloss 77 = .ok (.iload 4, 2) := by decide +kernel
theorem dX8_gloss_79 : decode cX8_gloss 79 = .ok (.iload 5, 2) := by decide +kernel
theorem dX8_gloss_81 : decode cX8_gloss 81 = .ok (.invokevirtual 154, 3) := by decide +kernel
theorem dX8_gloss_84 : decode cX8_gloss 84 = .ok (.istore 6, 2) := by decide +kernel
theorem dX8_gloss_86 : decode cX8_gloss 86 = .ok (.aload_n 0, 1) := by decide +kernel
theorem dX8_gloss_87 : decode cX8_gloss 87 = .ok (.getfield 33, 3) := by decide +kernel
theorem dX8_gloss_90 : decode cX8_gloss 90 = .ok (.iload 6, 2) := by decide +kernel
theorem dX8_gloss_92 : decode cX8_gloss 92 = .ok (.iload_n 2, 1) := by decide +kernel
theorem dX8_gloss_93 : decode cX8_gloss 93 = .ok (.invokevirtual 172, 3) := by decide +kernel
theorem dX8_gloss_96 : decode cX8_gloss 96 = .ok (.iload 6, 2) := by decide +kernel
theorem dX8_gloss_98 : decode cX8_gloss 98 = .ok (.ireturn, 1) := by decide +kernel
theorem dX8_told_0 : decode cX8_told 0 = .ok (.aload_n 0, 1) := by decide +kernel
theorem dX8_told_1 : decode cX8_told 1 = .ok (.iload_n 1, 1) := by decide +kernel
theorem dX8_told_2 : decode cX8_told 2 = .ok (.invokevirtual 161, 3) := by decide +kernel
theorem dX8_told_5 : decode cX8_told 5 = .ok (.iload_n 2, 1) := by decide +kernel
theorem dX8_told_6 : decode cX8_told 6 = .ok (.iconst 0, 1) := by decide +kernel
theorem dX8_told_7 : decode cX8_told 7 = .ok (.bipush 6, 2) := by decide +kernel
theorem dX8_told_9 : decode cX8_told 9 = .ok (.invokestatic 58, 3) := by decide +kernel
theorem dX8_told_12 : decode cX8_told 12 = .ok (.iload_n 2, 1) := by decide +kernel
theorem dX8_told_13 : decode cX8_told 13 = .ok (.tableswitch 109 0 5 #[39, 48, 57, 66, 83, 100], 39) := by decide +kernel
theorem dX8_told_52 : decode cX8_told 52 = .ok (.aload_n 0, 1) := by decide +kernel
theorem dX8_told_53 : decode cX8_told 53 = .ok (.getfield 33, 3) := by decide +kernel
theorem dX8_told_56 : decode cX8_told 56 = .ok (.iload_n 1, 1) := by decide +kernel
theorem dX8_told_57 : decode cX8_told 57 = .ok (.invokevirtual 164, 3) := by decide +kernel
theorem dX8_told_60 : decode cX8_told 60 = .ok (.ireturn, 1) := by decide +kernel
theorem dX8_told_61 : decode cX8_told 61 = .ok (.aload_n 0, 1) := by decide +kernel
theorem dX8_told_62 : decode cX8_told 62 = .ok (.getfield 33, 3) := by decide +kernel
theorem dX8_told_65 : decode cX8_told 65 = .ok (.iload_n 1, 1) := by decide +kernel
theorem dX8_told_66 : decode cX8_told 66 = .ok (.invokevirtual 175, 3) := by decide +kernel
theorem dX8_told_69 : decode cX8_told 69 = .ok (.ireturn, 1) := by decide +kernel
theorem dX8_told_70 : decode cX8_told 70 = .ok (.aload_n 0, 1) := by decide +kernel
theorem dX8_told_71 : decode cX8_told 71 = .ok (.getfield 33, 3) := by decide +kernel
theorem dX8_told_74 : decode cX8_told 74 = .ok (.iload_n 1, 1) := by decide +kernel
theorem dX8_told_75 : decode cX8_told 75 = .ok (.invokevirtual 178, 3) := by decide +kernel
theorem dX8_told_78 : decode cX8_told 78 = .ok (.ireturn, 1) := by decide +kernel
theorem dX8_told_79 : decode cX8_told 79 = .ok (.aload_n 0, 1) := by decide +kernel
theorem dX8_told_80 : decode cX8_told 80 = .ok (.getfield 33, 3) := by decide +kernel
theorem dX8_told_83 : decode cX8_told 83 = .ok (.iload_n 1, 1) := by decide +kernel
theorem dX8_told_84 : decode cX8_told 84 = .ok (.invokevirtual 180, 3) := by decide +kernel
theorem dX8_told_87 : decode cX8_told 87 = .ok (.ifCond .eq 7, 3) := by decide +kernel
theorem dX8_told_90 : decode cX8_told 90 = .ok (.iconst 1, 1) := by decide +kernel
theorem dX8_told_91 : decode cX8_told 91 = .ok (.goto 4, 3) := by decide +kernel
theorem dX8_told_94 : decode cX8_told 94 = .ok (.iconst 0, 1) := by decide +kernel
theorem dX8_told_95 : decode cX8_told 95 = .ok (.ireturn, 1) := by decide +kernel
theorem dX8_told_96 : decode cX8_told 96 = .ok (.aload_n 0, 1) := by decide +kernel
theorem dX8_told_97 : decode cX8_told 97 = .ok (.getfield 33, 3) := by decide +kernel
theorem dX8_told_100 : decode cX8_told 100 = .ok (.iload_n 1, 1) := by decide +kernel
theorem dX8_told_101 : decode cX8_told 101 = .ok (.invokevirtual 184, 3) := by decide +kernel
theorem dX8_told_104 : decode cX8_told 104 = .ok (.ifCond .eq 7, 3) := by decide +kernel
theorem dX8_told_107 : decode cX8_told 107 = .ok (.iconst 1, 1) := by decide +kernel
theorem dX8_told_108 : decode cX8_told 108 = .ok (.goto 4, 3) := by decide +kernel
theorem dX8_told_111 : decode cX8_told 111 = .ok (.iconst 0, 1) := by decide +kernel
theorem dX8_told_112 : decode cX8_told 112 = .ok (.ireturn, 1) := by decide +kernel
theorem dX8_told_113 : decode cX8_told 113 = .ok (.aload_n 0, 1) := by decide +kernel
theorem dX8_told_114 : decode cX8_told 114 = .ok (.getfield 33, 3) := by decide +kernel
theorem dX8_told_117 : decode cX8_told 117 = .ok (.iload_n 1, 1) := by decide +kernel
theorem dX8_told_118 : decode cX8_told 118 = .ok (.invokevirtual 187, 3) := by decide +kernel
theorem dX8_told_121 : decode cX8_told 121 = .ok (.ireturn, 1) := by decide +kernel
theorem dX8_told_122 : decode cX8_told 122 = .ok (.aload_n 0, 1) := by decide +kernel
theorem dX8_told_123 : decode cX8_told 123 = .ok (.getfield 33, 3) := by decide +kernel
theorem dX8_told_126 : decode cX8_told 126 = .ok (.iload_n 1, 1) := by decide +kernel
theorem dX8_told_127 : decode cX8_told 127 = .ok (.invokevirtual 190, 3) := by decide +kernel
theorem dX8_told_130 : decode cX8_told 130 = .ok (.ireturn, 1) := by decide +kernel
theorem dX8_standsAnew_0 : decode cX8_standsAnew 0 = .ok (.aload_n 0, 1) := by decide +kernel
theorem dX8_standsAnew_1 : decode cX8_standsAnew 1 = .ok (.iload_n 1, 1) := by decide +kernel
theorem dX8_standsAnew_2 : decode cX8_standsAnew 2 = .ok (.invokevirtual 161, 3) := by decide +kernel
theorem dX8_standsAnew_5 : decode cX8_standsAnew 5 = .ok (.aload_n 0, 1) := by decide +kernel
theorem dX8_standsAnew_6 : decode cX8_standsAnew 6 = .ok (.getfield 33, 3) := by decide +kernel
theorem dX8_standsAnew_9 : decode cX8_standsAnew 9 = .ok (.iload_n 1, 1) := by decide +kernel
theorem dX8_standsAnew_10 : decode cX8_standsAnew 10 = .ok (.invokevirtual 184, 3) := by decide +kernel
theorem dX8_standsAnew_13 : decode cX8_standsAnew 13 = .ok (.ireturn, 1) := by decide +kernel
theorem dX8_isHard_0 : decode cX8_isHard 0 = .ok (.aload_n 0, 1) := by decide +kernel
theorem dX8_isHard_1 : decode cX8_isHard 1 = .ok (.iload_n 1, 1) := by decide +kernel
theorem dX8_isHard_2 : decode cX8_isHard 2 = .ok (.invokevirtual 124, 3) := by decide +kernel
theorem dX8_isHard_5 : decode cX8_isHard 5 = .ok (.aload_n 0, 1) := by decide +kernel
theorem dX8_isHard_6 : decode cX8_isHard 6 = .ok (.getfield 33, 3) := by decide +kernel
theorem dX8_isHard_9 : decode cX8_isHard 9 = .ok (.iload_n 1, 1) := by decide +kernel
theorem dX8_isHard_10 : decode cX8_isHard 10 = .ok (.invokevirtual 193, 3) := by decide +kernel
theorem dX8_isHard_13 : decode cX8_isHard 13 = .ok (.ireturn, 1) := by decide +kernel
theorem dX8_solved_0 : decode cX8_solved 0 = .ok (.iload_n 1, 1) := by decide +kernel
theorem dX8_solved_1 : decode cX8_solved 1 = .ok (.iconst 0, 1) := by decide +kernel
theorem dX8_solved_2 : decode cX8_solved 2 = .ok (.iconst 3, 1) := by decide +kernel
theorem dX8_solved_3 : decode cX8_solved 3 = .ok (.invokestatic 58, 3) := by decide +kernel
theorem dX8_solved_6 : decode cX8_solved 6 = .ok (.aload_n 0, 1) := by decide +kernel
theorem dX8_solved_7 : decode cX8_solved 7 = .ok (.getfield 33, 3) := by decide +kernel
theorem dX8_solved_10 : decode cX8_solved 10 = .ok (.iload_n 1, 1) := by decide +kernel
theorem dX8_solved_11 : decode cX8_solved 11 = .ok (.aload_n 0, 1) := by decide +kernel
theorem dX8_solved_12 : decode cX8_solved 12 = .ok (.getfield 26, 3) := by decide +kernel
theorem dX8_solved_15 : decode cX8_solved 15 = .ok (.invokevirtual 196, 3) := by decide +kernel
theorem dX8_solved_18 : decode cX8_solved 18 = .ok (.ireturn, 1) := by decide +kernel
theorem dX8_found_0 : decode cX8_found 0 = .ok (.aload_n 0, 1) := by decide +kernel
theorem dX8_found_1 : decode cX8_found 1 = .ok (.getfield 19, 3) := by decide +kernel
theorem dX8_found_4 : decode cX8_found 4 = .ok (.aload_n 0, 1) := by decide +kernel
theorem dX8_found_5 : decode cX8_found 5 = .ok (.getfield 12, 3) := by decide +kernel
theorem dX8_found_8 : decode cX8_found 8 = .ok (.invokevirtual 200, 3) := by decide +kernel
theorem dX8_found_11 : decode cX8_found 11 = .ok (.ireturn, 1) := by decide +kernel
theorem dX8_exact_0 : decode cX8_exact 0 = .ok (.aload_n 0, 1) := by decide +kernel
theorem dX8_exact_1 : decode cX8_exact 1 = .ok (.getfield 19, 3) := by decide +kernel
theorem dX8_exact_4 : decode cX8_exact 4 = .ok (.aload_n 0, 1) := by decide +kernel
theorem dX8_exact_5 : decode cX8_exact 5 = .ok (.getfield 12, 3) := by decide +kernel
theorem dX8_exact_8 : decode cX8_exact 8 = .ok (.invokevirtual 200, 3) := by decide +kernel
theorem dX8_exact_11 : decode cX8_exact 11 = .ok (.istore_n 1, 1) := by decide +kernel
theorem dX8_exact_12 : decode cX8_exact 12 = .ok (.aload_n 0, 1) := by decide +kernel
theorem dX8_exact_13 : decode cX8_exact 13 = .ok (.getfield 12, 3) := by decide +kernel
theorem dX8_exact_16 : decode cX8_exact 16 = .ok (.invokevirtual 77, 3) := by decide +kernel
theorem dX8_exact_19 : decode cX8_exact 19 = .ok (.aload_n 0, 1) := by decide +kernel
theorem dX8_exact_20 : decode cX8_exact 20 = .ok (.getfield 19, 3) := by decide +kernel
theorem dX8_exact_23 : decode cX8_exact 23 = .ok (.iload_n 1, 1) := by decide +kernel
theorem dX8_exact_24 : decode cX8_exact 24 = .ok (.invokevirtual 111, 3) := by decide +kernel
theorem dX8_exact_27 : decode cX8_exact 27 = .ok (.iadd, 1) := by decide +kernel
theorem dX8_exact_28 : decode cX8_exact 28 = .ok (.istore_n 2, 1) := by decide +kernel
theorem dX8_exact_29 : decode cX8_exact 29 = .ok (.iload_n 1, 1) := by decide +kernel
theorem dX8_exact_30 : decode cX8_exact 30 = .ok (.iconst (-1), 1) := by decide +kernel
theorem dX8_exact_31 : decode cX8_exact 31 = .ok (.if_icmp .eq 7, 3) := by decide +kernel
theorem dX8_exact_34 : decode cX8_exact 34 = .ok (.iload_n 2, 1) := by decide +kernel
theorem dX8_exact_35 : decode cX8_exact 35 = .ok (.ifCond .ne 5, 3) := by decide +kernel
theorem dX8_exact_38 : decode cX8_exact 38 = .ok (.iconst 0, 1) := by decide +kernel
theorem dX8_exact_39 : decode cX8_exact 39 = .ok (.ireturn, 1) := by decide +kernel
theorem dX8_exact_40 : decode cX8_exact 40 = .ok (.iconst 2, 1) := by decide +kernel
theorem dX8_exact_41 : decode cX8_exact 41 = .ok (.aload_n 0, 1) := by decide +kernel
theorem dX8_exact_42 : decode cX8_exact 42 = .ok (.getfield 19, 3) := by decide +kernel
theorem dX8_exact_45 : decode cX8_exact 45 = .ok (.iload_n 1, 1) := by decide +kernel
theorem dX8_exact_46 : decode cX8_exact 46 = .ok (.aload_n 0, 1) := by decide +kernel
theorem dX8_exact_47 : decode cX8_exact 47 = .ok (.getfield 12, 3) := by decide +kernel
theorem dX8_exact_50 : decode cX8_exact 50 = .ok (.invokevirtual 204, 3) := by decide +kernel
theorem dX8_exact_53 : decode cX8_exact 53 = .ok (.imul, 1) := by decide +kernel
theorem dX8_exact_54 : decode cX8_exact 54 = .ok (.bipush 100, 2) := by decide +kernel
theorem dX8_exact_56 : decode cX8_exact 56 = .ok (.imul, 1) := by decide +kernel
theorem dX8_exact_57 : decode cX8_exact 57 = .ok (.iload_n 2, 1) := by decide +kernel
theorem dX8_exact_58 : decode cX8_exact 58 = .ok (.idiv, 1) := by decide +kernel
theorem dX8_exact_59 : decode cX8_exact 59 = .ok (.ireturn, 1) := by decide +kernel
theorem dX8_ruling_0 : decode cX8_ruling 0 = .ok (.aload_n 0, 1) := by decide +kernel
theorem dX8_ruling_1 : decode cX8_ruling 1 = .ok (.iload_n 1, 1) := by decide +kernel
theorem dX8_ruling_2 : decode cX8_ruling 2 = .ok (.invokevirtual 142, 3) := by decide +kernel
theorem dX8_ruling_5 : decode cX8_ruling 5 = .ok (.iload_n 2, 1) := by decide +kernel
theorem dX8_ruling_6 : decode cX8_ruling 6 = .ok (.invokestatic 208, 3) := by decide +kernel
theorem dX8_ruling_9 : decode cX8_ruling 9 = .ok (.aload_n 0, 1) := by decide +kernel
theorem dX8_ruling_10 : decode cX8_ruling 10 = .ok (.getfield 40, 3) := by decide +kernel
theorem dX8_ruling_13 : decode cX8_ruling 13 = .ok (.iload_n 1, 1) := by decide +kernel
theorem dX8_ruling_14 : decode cX8_ruling 14 = .ok (.iload_n 2, 1) := by decide +kernel
theorem dX8_ruling_15 : decode cX8_ruling 15 = .ok (.invokevirtual 211, 3) := by decide +kernel
theorem dX8_ruling_18 : decode cX8_ruling 18 = .ok (.ifCond .eq 13, 3) := by decide +kernel
theorem dX8_ruling_21 : decode cX8_ruling 21 = .ok (.new 66, 3) := by decide +kernel
theorem dX8_ruling_24 : decode cX8_ruling 24 = .ok (.dup, 1) := by decide +kernel
theorem dX8_ruling_25 : decode cX8_ruling 25 = .ok (.ldc 214, 2) := by decide +kernel
theorem dX8_ruling_27 : decode cX8_ruling 27 = .ok (.invokespecial 70, 3) := by decide +kernel
theorem dX8_ruling_30 : decode cX8_ruling 30 = .ok (.athrow, 1) := by decide +kernel
theorem dX8_ruling_31 : decode cX8_ruling 31 = .ok (.aload_n 0, 1) := by decide +kernel
theorem dX8_ruling_32 : decode cX8_ruling 32 = .ok (.getfield 40, 3) := by decide +kernel
theorem dX8_ruling_35 : decode cX8_ruling 35 = .ok (.iload_n 1, 1) := by decide +kernel
theorem dX8_ruling_36 : decode cX8_ruling 36 = .ok (.iload_n 2, 1) := by decide +kernel
theorem dX8_ruling_37 : decode cX8_ruling 37 = .ok (.iload_n 3, 1) := by decide +kernel
theorem dX8_ruling_38 : decode cX8_ruling 38 = .ok (.invokevirtual 216, 3) := by decide +kernel
theorem dX8_ruling_41 : decode cX8_ruling 41 = .ok (.aload_n 0, 1) := by decide +kernel
theorem dX8_ruling_42 : decode cX8_ruling 42 = .ok (.getfield 40, 3) := by decide +kernel
theorem dX8_ruling_45 : decode cX8_ruling 45 = .ok (.iload_n 2, 1) := by decide +kernel
theorem dX8_ruling_46 : decode cX8_ruling 46 = .ok (.invokevirtual 219, 3) := by decide +kernel
theorem dX8_ruling_49 : decode cX8_ruling 49 = .ok (.ireturn, 1) := by decide +kernel
theorem dX8_follow_0 : decode cX8_follow 0 = .ok (.iload_n 1, 1) := by decide +kernel
theorem dX8_follow_1 : decode cX8_follow 1 = .ok (.iconst 0, 1) := by decide +kernel
theorem dX8_follow_2 : decode cX8_follow 2 = .ok (.iconst 3, 1) := by decide +kernel
theorem dX8_follow_3 : decode cX8_follow 3 = .ok (.invokestatic 58, 3) := by decide +kernel
theorem dX8_follow_6 : decode cX8_follow 6 = .ok (.iload_n 1, 1) := by decide +kernel
theorem dX8_follow_7 : decode cX8_follow 7 = .ok (.ifCond .ne 9, 3) := by decide +kernel
theorem dX8_follow_10 : decode cX8_follow 10 = .ok (.iload_n 2, 1) := by decide +kernel
theorem dX8_follow_11 : decode cX8_follow 11 = .ok (.iconst 0, 1) := by decide +kernel
theorem dX8_follow_12 : decode cX8_follow 12 = .ok (.iconst 3, 1) := by decide +kernel
theorem dX8_follow_13 : decode cX8_follow 13 = .ok (.invokestatic 58, 3) := by decide +kernel
theorem dX8_follow_16 : decode cX8_follow 16 = .ok (.iload_n 1, 1) := by decide +kernel
theorem dX8_follow_17 : decode cX8_follow 17 = .ok (.iconst 3, 1) := by decide +kernel
theorem dX8_follow_18 : decode cX8_follow 18 = .ok (.if_icmp .ne 10, 3) := by decide +kernel
theorem dX8_follow_21 : decode cX8_follow 21 = .ok (.iload_n 2, 1) := by decide +kernel
theorem dX8_follow_22 : decode cX8_follow 22 = .ok (.iconst 0, 1) := by decide +kernel
theorem dX8_follow_23 : decode cX8_follow 23 = .ok (.bipush 19, 2) := by decide +kernel
theorem dX8_follow_25 : decode cX8_follow 25 = .ok (.invokestatic 58, 3) := by decide +kernel
theorem dX8_follow_28 : decode cX8_follow 28 = .ok (.aload_n 0, 1) := by decide +kernel
theorem dX8_follow_29 : decode cX8_follow 29 = .ok (.getfield 40, 3) := by decide +kernel
theorem dX8_follow_32 : decode cX8_follow 32 = .ok (.invokevirtual 222, 3) := by decide +kernel
theorem dX8_follow_35 : decode cX8_follow 35 = .ok (.ifCond .eq 13, 3) := by decide +kernel
theorem dX8_follow_38 : decode cX8_follow 38 = .ok (.new 66, 3) := by decide +kernel
theorem dX8_follow_41 : decode cX8_follow 41 = .ok (.dup, 1) := by decide +kernel
theorem dX8_follow_42 : decode cX8_follow 42 = .ok (.ldc 225, 2) := by decide +kernel
theorem dX8_follow_44 : decode cX8_follow 44 = .ok (.invokespecial 70, 3) := by decide +kernel
theorem dX8_follow_47 : decode cX8_follow 47 = .ok (.athrow, 1) := by decide +kernel
theorem dX8_follow_48 : decode cX8_follow 48 = .ok (.aload_n 0, 1) := by decide +kernel
theorem dX8_follow_49 : decode cX8_follow 49 = .ok (.getfield 40, 3) := by decide +kernel
theorem dX8_follow_52 : decode cX8_follow 52 = .ok (.iload_n 1, 1) := by decide +kernel
theorem dX8_follow_53 : decode cX8_follow 53 = .ok (.iload_n 2, 1) := by decide +kernel
theorem dX8_follow_54 : decode cX8_follow 54 = .ok (.invokevirtual 227, 3) := by decide +kernel
theorem dX8_follow_57 : decode cX8_follow 57 = .ok (.aload_n 0, 1) := by decide +kernel
theorem dX8_follow_58 : decode cX8_follow 58 = .ok (.getfield 40, 3) := by decide +kernel
theorem dX8_follow_61 : decode cX8_follow 61 = .ok (.invokevirtual 230, 3) := by decide +kernel
theorem dX8_follow_64 : decode cX8_follow 64 = .ok (.ireturn, 1) := by decide +kernel
theorem dX8_unfollow_0 : decode cX8_unfollow 0 = .ok (.aload_n 0, 1) := by decide +kernel
theorem dX8_unfollow_1 : decode cX8_unfollow 1 = .ok (.getfield 40, 3) := by decide +kernel
theorem dX8_unfollow_4 : decode cX8_unfollow 4 = .ok (.iload_n 1, 1) := by decide +kernel
theorem dX8_unfollow_5 : decode cX8_unfollow 5 = .ok (.invokevirtual 233, 3) := by decide +kernel
theorem dX8_unfollow_8 : decode cX8_unfollow 8 = .ok (.ifCond .ne 13, 3) := by decide +kernel
theorem dX8_unfollow_11 : decode cX8_unfollow 11 = .ok (.new 99, 3) := by decide +kernel
theorem dX8_unfollow_14 : decode cX8_unfollow 14 = .ok (.dup, 1) := by decide +kernel
theorem dX8_unfollow_15 : decode cX8_unfollow 15 = .ok (.ldc 236, 2) := by decide +kernel
theorem dX8_unfollow_17 : decode cX8_unfollow 17 = .ok (.invokespecial 103, 3) := by decide +kernel
theorem dX8_unfollow_20 : decode cX8_unfollow 20 = .ok (.athrow, 1) := by decide +kernel
theorem dX8_unfollow_21 : decode cX8_unfollow 21 = .ok (.aload_n 0, 1) := by decide +kernel
theorem dX8_unfollow_22 : decode cX8_unfollow 22 = .ok (.getfield 40, 3) := by decide +kernel
theorem dX8_unfollow_25 : decode cX8_unfollow 25 = .ok (.iload_n 1, 1) := by decide +kernel
theorem dX8_unfollow_26 : decode cX8_unfollow 26 = .ok (.invokevirtual 238, 3) := by decide +kernel
theorem dX8_unfollow_29 : decode cX8_unfollow 29 = .ok (.istore_n 2, 1) := by decide +kernel
theorem dX8_unfollow_30 : decode cX8_unfollow 30 = .ok (.aload_n 0, 1) := by decide +kernel
theorem dX8_unfollow_31 : decode cX8_unfollow 31 = .ok (.getfield 40, 3) := by decide +kernel
theorem dX8_unfollow_34 : decode cX8_unfollow 34 = .ok (.iload_n 1, 1) := by decide +kernel
theorem dX8_unfollow_35 : decode cX8_unfollow 35 = .ok (.invokevirtual 241, 3) := by decide +kernel
theorem dX8_unfollow_38 : decode cX8_unfollow 38 = .ok (.iload_n 2, 1) := by decide +kernel
theorem dX8_unfollow_39 : decode cX8_unfollow 39 = .ok (.ireturn, 1) := by decide +kernel
theorem dX8_decided_0 : decode cX8_decided 0 = .ok (.iload_n 1, 1) := by decide +kernel
theorem dX8_decided_1 : decode cX8_decided 1 = .ok (.invokestatic 208, 3) := by decide +kernel
theorem dX8_decided_4 : decode cX8_decided 4 = .ok (.aload_n 0, 1) := by decide +kernel
theorem dX8_decided_5 : decode cX8_decided 5 = .ok (.getfield 40, 3) := by decide +kernel
theorem dX8_decided_8 : decode cX8_decided 8 = .ok (.iload_n 1, 1) := by decide +kernel
theorem dX8_decided_9 : decode cX8_decided 9 = .ok (.aload_n 0, 1) := by decide +kernel
theorem dX8_decided_10 : decode cX8_decided 10 = .ok (.getfield 26, 3) := by decide +kernel
theorem dX8_decided_13 : decode cX8_decided 13 = .ok (.invokevirtual 244, 3) := by decide +kernel
theorem dX8_decided_16 : decode cX8_decided 16 = .ok (.ireturn, 1) := by decide +kernel
theorem dX8_edition_0 : decode cX8_edition 0 = .ok (.iload_n 1, 1) := by decide +kernel
theorem dX8_edition_1 : decode cX8_edition 1 = .ok (.iconst 1, 1) := by decide +kernel
theorem dX8_edition_2 : decode cX8_edition 2 = .ok (.bipush 12, 2) := by decide +kernel
theorem dX8_edition_4 : decode cX8_edition 4 = .ok (.invokestatic 58, 3) := by decide +kernel
theorem dX8_edition_7 : decode cX8_edition 7 = .ok (.iload_n 2, 1) := by decide +kernel
theorem dX8_edition_8 : decode cX8_edition 8 = .ok (.iconst 1, 1) := by decide +kernel
theorem dX8_edition_9 : decode cX8_edition 9 = .ok (.bipush 60, 2) := by decide +kernel
theorem dX8_edition_11 : decode cX8_edition 11 = .ok (.invokestatic 58, 3) := by decide +kernel
theorem dX8_edition_14 : decode cX8_edition 14 = .ok (.aload_n 0, 1) := by decide +kernel
theorem dX8_edition_15 : decode cX8_edition 15 = .ok (.getfield 19, 3) := by decide +kernel
theorem dX8_edition_18 : decode cX8_edition 18 = .ok (.invokevirtual 92, 3) := by decide +kernel
theorem dX8_edition_21 : decode cX8_edition 21 = .ok (.ifCond .ne 13, 3) := by decide +kernel
theorem dX8_edition_24 : decode cX8_edition 24 = .ok (.new 66, 3) := by decide +kernel
theorem dX8_edition_27 : decode cX8_edition 27 = .ok (.dup, 1) := by decide +kernel
theorem dX8_edition_28 : decode cX8_edition 28 = .ok (.ldc 247, 2) := by decide +kernel
theorem dX8_edition_30 : decode cX8_edition 30 = .ok (.invokespecial 70, 3) := by decide +kernel
theorem dX8_edition_33 : decode cX8_edition 33 = .ok (.athrow, 1) := by decide +kernel
theorem dX8_edition_34 : decode cX8_edition 34 = .ok (.aload_n 0, 1) := by decide +kernel
theorem dX8_edition_35 : decode cX8_edition 35 = .ok (.getfield 54, 3) := by decide +kernel
theorem dX8_edition_38 : decode cX8_edition 38 = .ok (.invokevirtual 249, 3) := by decide +kernel
theorem dX8_edition_41 : decode cX8_edition 41 = .ok (.ifCond .eq 13, 3) := by decide +kernel
theorem dX8_edition_44 : decode cX8_edition 44 = .ok (.new 66, 3) := by decide +kernel
theorem dX8_edition_47 : decode cX8_edition 47 = .ok (.dup, 1) := by decide +kernel
theorem dX8_edition_48 : decode cX8_edition 48 = .ok (.ldc 250, 2) := by decide +kernel
theorem dX8_edition_50 : decode cX8_edition 50 = .ok (.invokespecial 70, 3) := by decide +kernel
theorem dX8_edition_53 : decode cX8_edition 53 = .ok (.athrow, 1) := by decide +kernel
theorem dX8_edition_54 : decode cX8_edition 54 = .ok (.aload_n 0, 1) := by decide +kernel
theorem dX8_edition_55 : decode cX8_edition 55 = .ok (.getfield 47, 3) := by decide +kernel
theorem dX8_edition_58 : decode cX8_edition 58 = .ok (.aload_n 0, 1) := by decide +kernel
theorem dX8_edition_59 : decode cX8_edition 59 = .ok (.getfield 19, 3) := by decide +kernel
theorem dX8_edition_62 : decode cX8_edition 62 = .ok (.aload_n 0, 1) := by decide +kernel
theorem dX8_edition_63 : decode cX8_edition 63 = .ok (.getfield 33, 3) := by decide +kernel
theorem dX8_edition_66 : decode cX8_edition 66 = .ok (.iload_n 1, 1) := by decide +kernel
theorem dX8_edition_67 : decode cX8_edition 67 = .ok (.invokevirtual 252, 3) := by decide +kernel
theorem dX8_edition_70 : decode cX8_edition 70 = .ok (.aload_n 0, 1) := by decide +kernel
theorem dX8_edition_71 : decode cX8_edition 71 = .ok (.getfield 54, 3) := by decide +kernel
theorem dX8_edition_74 : decode cX8_edition 74 = .ok (.aload_n 0, 1) := by decide +kernel
theorem dX8_edition_75 : decode cX8_edition 75 = .ok (.getfield 47, 3) := by decide +kernel
theorem dX8_edition_78 : decode cX8_edition 78 = .ok (.aload_n 0, 1) := by decide +kernel
theorem dX8_edition_79 : decode cX8_edition 79 = .ok (.getfield 19, 3) := by decide +kernel
theorem dX8_edition_82 : decode cX8_edition 82 = .ok (.invokevirtual 92, 3) := by decide +kernel
theorem dX8_edition_85 : decode cX8_edition 85 = .ok (.iload_n 1, 1) := by decide +kernel
theorem dX8_edition_86 : decode cX8_edition 86 = .ok (.iload_n 2, 1) := by decide +kernel
theorem dX8_edition_87 : decode cX8_edition 87 = .ok (.invokevirtual 256, 3) := by decide +kernel
theorem dX8_edition_90 : decode cX8_edition 90 = .ok (.aload_n 0, 1) := by decide +kernel
theorem dX8_edition_91 : decode cX8_edition 91 = .ok (.getfield 54, 3) := by decide +kernel
theorem dX8_edition_94 : decode cX8_edition 94 = .ok (.invokevirtual 259, 3) := by decide +kernel
theorem dX8_edition_97 : decode cX8_edition 97 = .ok (.iconst 1, 1) := by decide +kernel
theorem dX8_edition_98 : decode cX8_edition 98 = .ok (.isub, 1) := by decide +kernel
theorem dX8_edition_99 : decode cX8_edition 99 = .ok (.ireturn, 1) := by decide +kernel
theorem dX8_address_0 : decode cX8_address 0 = .ok (.aload_n 0, 1) := by decide +kernel
theorem dX8_address_1 : decode cX8_address 1 = .ok (.iload_n 1, 1) := by decide +kernel
theorem dX8_address_2 : decode cX8_address 2 = .ok (.invokevirtual 260, 3) := by decide +kernel
theorem dX8_address_5 : decode cX8_address 5 = .ok (.aload_n 0, 1) := by decide +kernel
theorem dX8_address_6 : decode cX8_address 6 = .ok (.iload_n 2, 1) := by decide +kernel
theorem dX8_address_7 : decode cX8_address 7 = .ok (.invokevirtual 124, 3) := by decide +kernel
theorem dX8_address_10 : decode cX8_address 10 = .ok (.aload_n 0, 1) := by decide +kernel
theorem dX8_address_11 : decode cX8_address 11 = .ok (.getfield 54, 3) := by decide +kernel
theorem dX8_address_14 : decode cX8_address 14 = .ok (.iload_n 1, 1) := by decide +kernel
theorem dX8_address_15 : decode cX8_address 15 = .ok (.iload_n 2, 1) := by decide +kernel
theorem dX8_address_16 : decode cX8_address 16 = .ok (.invokevirtual 263, 3) := by decide +kernel
theorem dX8_address_19 : decode cX8_address 19 = .ok (.ireturn, 1) := by decide +kernel
theorem dX8_pages_0 : decode cX8_pages 0 = .ok (.aload_n 0, 1) := by decide +kernel
theorem dX8_pages_1 : decode cX8_pages 1 = .ok (.iload_n 1, 1) := by decide +kernel
theorem dX8_pages_2 : decode cX8_pages 2 = .ok (.invokevirtual 260, 3) := by decide +kernel
theorem dX8_pages_5 : decode cX8_pages 5 = .ok (.aload_n 0, 1) := by decide +kernel
theorem dX8_pages_6 : decode cX8_pages 6 = .ok (.getfield 54, 3) := by decide +kernel
theorem dX8_pages_9 : decode cX8_pages 9 = .ok (.iload_n 1, 1) := by decide +kernel
theorem dX8_pages_10 : decode cX8_pages 10 = .ok (.invokevirtual 266, 3) := by decide +kernel
theorem dX8_pages_13 : decode cX8_pages 13 = .ok (.ireturn, 1) := by decide +kernel
theorem dX8_row_0 : decode cX8_row 0 = .ok (.aload_n 0, 1) := by decide +kernel
theorem dX8_row_1 : decode cX8_row 1 = .ok (.iload_n 1, 1) := by decide +kernel
theorem dX8_row_2 : decode cX8_row 2 = .ok (.invokevirtual 161, 3) := by decide +kernel
theorem dX8_row_5 : decode cX8_row 5 = .ok (.aload_n 0, 1) := by decide +kernel
theorem dX8_row_6 : decode cX8_row 6 = .ok (.getfield 54, 3) := by decide +kernel
theorem dX8_row_9 : decode cX8_row 9 = .ok (.invokevirtual 259, 3) := by decide +kernel
theorem dX8_row_12 : decode cX8_row 12 = .ok (.ifCond .eq 14, 3) := by decide +kernel
theorem dX8_row_15 : decode cX8_row 15 = .ok (.aload_n 0, 1) := by decide +kernel
theorem dX8_row_16 : decode cX8_row 16 = .ok (.getfield 33, 3) := by decide +kernel
theorem dX8_row_19 : decode cX8_row 19 = .ok (.iload_n 1, 1) := by decide +kernel
theorem dX8_row_20 : decode cX8_row 20 = .ok (.invokevirtual 180, 3) := by decide +kernel
theorem dX8_row_23 : decode cX8_row 23 = .ok (.ifCond .eq 5, 3) := by decide +kernel
theorem dX8_row_26 : decode cX8_row 26 = .ok (.iconst (-1), 1) := by decide +kernel
theorem dX8_row_27 : decode cX8_row 27 = .ok (.ireturn, 1) := by decide +kernel
theorem dX8_row_28 : decode cX8_row 28 = .ok (.aload_n 0, 1) := by decide +kernel
theorem dX8_row_29 : decode cX8_row 29 = .ok (.getfield 47, 3) := by decide +kernel
theorem dX8_row_32 : decode cX8_row 32 = .ok (.aload_n 0, 1) := by decide +kernel
theorem dX8_row_33 : decode cX8_row 33 = .ok (.getfield 19, 3) := by decide +kernel
theorem dX8_row_36 : decode cX8_row 36 = .ok (.aload_n 0, 1) := by decide +kernel
theorem dX8_row_37 : decode cX8_row 37 = .ok (.getfield 33, 3) := by decide +kernel
theorem dX8_row_40 : decode cX8_row 40 = .ok (.aload_n 0, 1) := by decide +kernel
theorem dX8_row_41 : decode cX8_row 41 = .ok (.getfield 54, 3) := by decide +kernel
theorem dX8_row_44 : decode cX8_row 44 = .ok (.invokevirtual 269, 3) := by decide +kernel
theorem dX8_row_47 : decode cX8_row 47 = .ok (.invokevirtual 252, 3) := by decide +kernel
theorem dX8_row_50 : decode cX8_row 50 = .ok (.aload_n 0, 1) := by decide +kernel
theorem dX8_row_51 : decode cX8_row 51 = .ok (.getfield 47, 3) := by decide +kernel
theorem dX8_row_54 : decode cX8_row 54 = .ok (.iload_n 1, 1) := by decide +kernel
theorem dX8_row_55 : decode cX8_row 55 = .ok (.aload_n 0, 1) := by decide +kernel
theorem dX8_row_56 : decode cX8_row 56 = .ok (.getfield 33, 3) := by decide +kernel
theorem dX8_row_59 : decode cX8_row 59 = .ok (.invokevirtual 272, 3) := by decide +kernel
theorem dX8_row_62 : decode cX8_row 62 = .ok (.ireturn, 1) := by decide +kernel
theorem dX8_holds_0 : decode cX8_holds 0 = .ok (.aload_n 0, 1) := by decide +kernel
theorem dX8_holds_1 : decode cX8_holds 1 = .ok (.iload_n 1, 1) := by decide +kernel
theorem dX8_holds_2 : decode cX8_holds 2 = .ok (.invokevirtual 260, 3) := by decide +kernel
theorem dX8_holds_5 : decode cX8_holds 5 = .ok (.aload_n 0, 1) := by decide +kernel
theorem dX8_holds_6 : decode cX8_holds 6 = .ok (.getfield 54, 3) := by decide +kernel
theorem dX8_holds_9 : decode cX8_holds 9 = .ok (.iload_n 1, 1) := by decide +kernel
theorem dX8_holds_10 : decode cX8_holds 10 = .ok (.invokevirtual 276, 3) := by decide +kernel
theorem dX8_holds_13 : decode cX8_holds 13 = .ok (.ireturn, 1) := by decide +kernel
theorem dX8_daily_0 : decode cX8_daily 0 = .ok (.iload_n 1, 1) := by decide +kernel
theorem dX8_daily_1 : decode cX8_daily 1 = .ok (.iconst 0, 1) := by decide +kernel
theorem dX8_daily_2 : decode cX8_daily 2 = .ok (.ldc_w 279, 3) := by decide +kernel
theorem dX8_daily_5 : decode cX8_daily 5 = .ok (.invokestatic 58, 3) := by decide +kernel
theorem dX8_daily_8 : decode cX8_daily 8 = .ok (.aload_n 0, 1) := by decide +kernel
theorem dX8_daily_9 : decode cX8_daily 9 = .ok (.getfield 54, 3) := by decide +kernel
theorem dX8_daily_12 : decode cX8_daily 12 = .ok (.iload_n 1, 1) := by decide +kernel
theorem dX8_daily_13 : decode cX8_daily 13 = .ok (.invokevirtual 280, 3) := by decide +kernel
theorem dX8_daily_16 : decode cX8_daily 16 = .ok (.ireturn, 1) := by decide +kernel
theorem dX8_needArgument_0 : decode cX8_needArgument 0 = .ok (.iload_n 0, 1) := by decide +kernel
theorem dX8_needArgument_1 : decode cX8_needArgument 1 = .ok (.iload_n 1, 1) := by decide +kernel
theorem dX8_needArgument_2 : decode cX8_needArgument 2 = .ok (.if_icmp .lt 8, 3) := by decide +kernel
theorem dX8_needArgument_5 : decode cX8_needArgument 5 = .ok (.iload_n 0, 1) := by decide +kernel
theorem dX8_needArgument_6 : decode cX8_needArgument 6 = .ok (.iload_n 2, 1) := by decide +kernel
theorem dX8_needArgument_7 : decode cX8_needArgument 7 = .ok (.if_icmp .le 14, 3) := by decide +kernel
theorem dX8_needArgument_10 : decode cX8_needArgument 10 = .ok (.new 283, 3) := by decide +kernel
theorem dX8_needArgument_13 : decode cX8_needArgument 13 = .ok (.dup, 1) := by decide +kernel
theorem dX8_needArgument_14 : decode cX8_needArgument 14 = .ok (.ldc_w 285, 3) := by decide +kernel
theorem dX8_needArgument_17 : decode cX8_needArgument 17 = .ok (.invokespecial 287, 3) := by decide +kernel
theorem dX8_needArgument_20 : decode cX8_needArgument 20 = .ok (.athrow, 1) := by decide +kernel
theorem dX8_needArgument_21 : decode cX8_needArgument 21 = .ok (.return_, 1) := by decide +kernel
theorem dX8_needUnit_0 : decode cX8_needUnit 0 = .ok (.aload_n 0, 1) := by decide +kernel
theorem dX8_needUnit_1 : decode cX8_needUnit 1 = .ok (.getfield 19, 3) := by decide +kernel
theorem dX8_needUnit_4 : decode cX8_needUnit 4 = .ok (.iload_n 1, 1) := by decide +kernel
theorem dX8_needUnit_5 : decode cX8_needUnit 5 = .ok (.invokevirtual 288, 3) := by decide +kernel
theorem dX8_needUnit_8 : decode cX8_needUnit 8 = .ok (.ifCond .ne 14, 3) := by decide +kernel
theorem dX8_needUnit_11 : decode cX8_needUnit 11 = .ok (.new 99, 3) := by decide +kernel
theorem dX8_needUnit_14 : decode cX8_needUnit 14 = .ok (.dup, 1) := by decide +kernel
theorem dX8_needUnit_15 : decode cX8_needUnit 15 = .ok (.ldc_w 290, 3) := by decide +kernel
theorem dX8_needUnit_18 : decode cX8_needUnit 18 = .ok (.invokespecial 103, 3) := by decide +kernel
theorem dX8_needUnit_21 : decode cX8_needUnit 21 = .ok (.athrow, 1) := by decide +kernel
theorem dX8_needUnit_22 : decode cX8_needUnit 22 = .ok (.return_, 1) := by decide +kernel
theorem dX8_needAuthor_0 : decode cX8_needAuthor 0 = .ok (.aload_n 0, 1) := by decide +kernel
theorem dX8_needAuthor_1 : decode cX8_needAuthor 1 = .ok (.getfield 26, 3) := by decide +kernel
theorem dX8_needAuthor_4 : decode cX8_needAuthor 4 = .ok (.iload_n 1, 1) := by decide +kernel
theorem dX8_needAuthor_5 : decode cX8_needAuthor 5 = .ok (.invokevirtual 292, 3) := by decide +kernel
theorem dX8_needAuthor_8 : decode cX8_needAuthor 8 = .ok (.ifCond .ne 14, 3) := by decide +kernel
theorem dX8_needAuthor_11 : decode cX8_needAuthor 11 = .ok (.new 99, 3) := by decide +kernel
theorem dX8_needAuthor_14 : decode cX8_needAuthor 14 = .ok (.dup, 1) := by decide +kernel
theorem dX8_needAuthor_15 : decode cX8_needAuthor 15 = .ok (.ldc_w 293, 3) := by decide +kernel
theorem dX8_needAuthor_18 : decode cX8_needAuthor 18 = .ok (.invokespecial 103, 3) := by decide +kernel
theorem dX8_needAuthor_21 : decode cX8_needAuthor 21 = .ok (.athrow, 1) := by decide +kernel
theorem dX8_needAuthor_22 : decode cX8_needAuthor 22 = .ok (.return_, 1) := by decide +kernel
theorem dX8_needComment_0 : decode cX8_needComment 0 = .ok (.aload_n 0, 1) := by decide +kernel
theorem dX8_needComment_1 : decode cX8_needComment 1 = .ok (.getfield 33, 3) := by decide +kernel
theorem dX8_needComment_4 : decode cX8_needComment 4 = .ok (.iload_n 1, 1) := by decide +kernel
theorem dX8_needComment_5 : decode cX8_needComment 5 = .ok (.invokevirtual 295, 3) := by decide +kernel
theorem dX8_needComment_8 : decode cX8_needComment 8 = .ok (.ifCond .ne 14, 3) := by decide +kernel
theorem dX8_needComment_11 : decode cX8_needComment 11 = .ok (.new 99, 3) := by decide +kernel
theorem dX8_needComment_14 : decode cX8_needComment 14 = .ok (.dup, 1) := by decide +kernel
theorem dX8_needComment_15 : decode cX8_needComment 15 = .ok (.ldc_w 296, 3) := by decide +kernel
theorem dX8_needComment_18 : decode cX8_needComment 18 = .ok (.invokespecial 103, 3) := by decide +kernel
theorem dX8_needComment_21 : decode cX8_needComment 21 = .ok (.athrow, 1) := by decide +kernel
theorem dX8_needComment_22 : decode cX8_needComment 22 = .ok (.return_, 1) := by decide +kernel
theorem dX8_needRoomForComment_0 : decode cX8_needRoomForComment 0 = .ok (.aload_n 0, 1) := by decide +kernel
theorem dX8_needRoomForComment_1 : decode cX8_needRoomForComment 1 = .ok (.getfield 33, 3) := by decide +kernel
theorem dX8_needRoomForComment_4 : decode cX8_needRoomForComment 4 = .ok (.invokevirtual 298, 3) := by decide +kernel
theorem dX8_needRoomForComment_7 : decode cX8_needRoomForComment 7 = .ok (.ifCond .eq 14, 3) := by decide +kernel
theorem dX8_needRoomForComment_10 : decode cX8_needRoomForComment 10 = .ok (.new 66, 3) := by decide +kernel
theorem dX8_needRoomForComment_13 : decode cX8_needRoomForComment 13 = .ok (.dup, 1) := by decide +kernel
theorem dX8_needRoomForComment_14 : decode cX8_needRoomForComment 14 = .ok (.ldc_w 299, 3) := by decide +kernel
theorem dX8_needRoomForComment_17 : decode cX8_needRoomForComment 17 = .ok (.invokespecial 70, 3) := by decide +kernel
theorem dX8_needRoomForComment_20 : decode cX8_needRoomForComment 20 = .ok (.athrow, 1) := by decide +kernel
theorem dX8_needRoomForComment_21 : decode cX8_needRoomForComment 21 = .ok (.return_, 1) := by decide +kernel
theorem dX8_needTopic_0 : decode cX8_needTopic 0 = .ok (.iload_n 0, 1) := by decide +kernel
theorem dX8_needTopic_1 : decode cX8_needTopic 1 = .ok (.ifCond .lt 9, 3) := by decide +kernel
theorem dX8_needTopic_4 : decode cX8_needTopic 4 = .ok (.iload_n 0, 1) := by decide +kernel
theorem dX8_needTopic_5 : decode cX8_needTopic 5 = .ok (.bipush 10, 2) := by decide +kernel
theorem dX8_needTopic_7 : decode cX8_needTopic 7 = .ok (.if_icmp .lt 14, 3) := by decide +kernel
theorem dX8_needTopic_10 : decode cX8_needTopic 10 = .ok (.new 99, 3) := by decide +kernel
theorem dX8_needTopic_13 : decode cX8_needTopic 13 = .ok (.dup, 1) := by decide +kernel
theorem dX8_needTopic_14 : decode cX8_needTopic 14 = .ok (.ldc_w 301, 3) := by decide +kernel
theorem dX8_needTopic_17 : decode cX8_needTopic 17 = .ok (.invokespecial 103, 3) := by decide +kernel
theorem dX8_needTopic_20 : decode cX8_needTopic 20 = .ok (.athrow, 1) := by decide +kernel
theorem dX8_needTopic_21 : decode cX8_needTopic 21 = .ok (.return_, 1) := by decide +kernel
theorem dX8_needEdition_0 : decode cX8_needEdition 0 = .ok (.aload_n 0, 1) := by decide +kernel
theorem dX8_needEdition_1 : decode cX8_needEdition 1 = .ok (.getfield 54, 3) := by decide +kernel
theorem dX8_needEdition_4 : decode cX8_needEdition 4 = .ok (.iload_n 1, 1) := by decide +kernel
theorem dX8_needEdition_5 : decode cX8_needEdition 5 = .ok (.invokevirtual 303, 3) := by decide +kernel
theorem dX8_needEdition_8 : decode cX8_needEdition 8 = .ok (.ifCond .ne 14, 3) := by decide +kernel
theorem dX8_needEdition_11 : decode cX8_needEdition 11 = .ok (.new 99, 3) := by decide +kernel
theorem dX8_needEdition_14 : decode cX8_needEdition 14 = .ok (.dup, 1) := by decide +kernel
theorem dX8_needEdition_15 : decode cX8_needEdition 15 = .ok (.ldc_w 304, 3) := by decide +kernel
theorem dX8_needEdition_18 : decode cX8_needEdition 18 = .ok (.invokespecial 103, 3) := by decide +kernel
theorem dX8_needEdition_21 : decode cX8_needEdition 21 = .ok (.athrow, 1) := by decide +kernel
theorem dX8_needEdition_22 : decode cX8_needEdition 22 = .ok (.return_, 1) := by decide +kernel
theorem dX8_at_0 : decode cX8_at 0 = .ok (.iload_n 1, 1) := by decide +kernel
theorem dX8_at_1 : decode cX8_at 1 = .ok (.ifCond .lt 15, 3) := by decide +kernel
theorem dX8_at_4 : decode cX8_at 4 = .ok (.iload_n 1, 1) := by decide +kernel
theorem dX8_at_5 : decode cX8_at 5 = .ok (.aload_n 0, 1) := by decide +kernel
theorem dX8_at_6 : decode cX8_at 6 = .ok (.arraylength, 1) := by decide +kernel
theorem dX8_at_7 : decode cX8_at 7 = .ok (.if_icmp .ge 9, 3) := by decide +kernel
theorem dX8_at_10 : decode cX8_at 10 = .ok (.aload_n 0, 1) := by decide +kernel
theorem dX8_at_11 : decode cX8_at 11 = .ok (.iload_n 1, 1) := by decide +kernel
theorem dX8_at_12 : decode cX8_at 12 = .ok (.iaload, 1) := by decide +kernel
theorem dX8_at_13 : decode cX8_at 13 = .ok (.goto 4, 3) := by decide +kernel
theorem dX8_at_16 : decode cX8_at 16 = .ok (.iconst (-1), 1) := by decide +kernel
theorem dX8_at_17 : decode cX8_at 17 = .ok (.ireturn, 1) := by decide +kernel
theorem dJ6_bitCount_0f7a4_0 : decode cJ6_bitCount_0f7a4 0 = .ok (.iload_n 0, 1) := by decide +kernel
theorem dJ6_bitCount_0f7a4_1 : decode cJ6_bitCount_0f7a4 1 = .ok (.iload_n 0, 1) := by decide +kernel
theorem dJ6_bitCount_0f7a4_2 : decode cJ6_bitCount_0f7a4 2 = .ok (.iconst 1, 1) := by decide +kernel
theorem dJ6_bitCount_0f7a4_3 : decode cJ6_bitCount_0f7a4 3 = .ok (.iushr, 1) := by decide +kernel
theorem dJ6_bitCount_0f7a4_4 : decode cJ6_bitCount_0f7a4 4 = .ok (.ldc_w 265, 3) := by decide +kernel
theorem dJ6_bitCount_0f7a4_7 : decode cJ6_bitCount_0f7a4 7 = .ok (.iand, 1) := by decide +kernel
theorem dJ6_bitCount_0f7a4_8 : decode cJ6_bitCount_0f7a4 8 = .ok (.isub, 1) := by decide +kernel
theorem dJ6_bitCount_0f7a4_9 : decode cJ6_bitCount_0f7a4 9 = .ok (.istore_n 0, 1) := by decide +kernel
theorem dJ6_bitCount_0f7a4_10 : decode cJ6_bitCount_0f7a4 10 = .ok (.iload_n 0, 1) := by decide +kernel
theorem dJ6_bitCount_0f7a4_11 : decode cJ6_bitCount_0f7a4 11 = .ok (.ldc_w 266, 3) := by decide +kernel
theorem dJ6_bitCount_0f7a4_14 : decode cJ6_bitCount_0f7a4 14 = .ok (.iand, 1) := by decide +kernel
theorem dJ6_bitCount_0f7a4_15 : decode cJ6_bitCount_0f7a4 15 = .ok (.iload_n 0, 1) := by decide +kernel
theorem dJ6_bitCount_0f7a4_16 : decode cJ6_bitCount_0f7a4 16 = .ok (.iconst 2, 1) := by decide +kernel
theorem dJ6_bitCount_0f7a4_17 : decode cJ6_bitCount_0f7a4 17 = .ok (.iushr, 1) := by decide +kernel
theorem dJ6_bitCount_0f7a4_18 : decode cJ6_bitCount_0f7a4 18 = .ok (.ldc_w 266, 3) := by decide +kernel
theorem dJ6_bitCount_0f7a4_21 : decode cJ6_bitCount_0f7a4 21 = .ok (.iand, 1) := by decide +kernel
theorem dJ6_bitCount_0f7a4_22 : decode cJ6_bitCount_0f7a4 22 = .ok (.iadd, 1) := by decide +kernel
theorem dJ6_bitCount_0f7a4_23 : decode cJ6_bitCount_0f7a4 23 = .ok (.istore_n 0, 1) := by decide +kernel
theorem dJ6_bitCount_0f7a4_24 : decode cJ6_bitCount_0f7a4 24 = .ok (.iload_n 0, 1) := by decide +kernel
theorem dJ6_bitCount_0f7a4_25 : decode cJ6_bitCount_0f7a4 25 = .ok (.iload_n 0, 1) := by decide +kernel
theorem dJ6_bitCount_0f7a4_26 : decode cJ6_bitCount_0f7a4 26 = .ok (.iconst 4, 1) := by decide +kernel
theorem dJ6_bitCount_0f7a4_27 : decode cJ6_bitCount_0f7a4 27 = .ok (.iushr, 1) := by decide +kernel
theorem dJ6_bitCount_0f7a4_28 : decode cJ6_bitCount_0f7a4 28 = .ok (.iadd, 1) := by decide +kernel
theorem dJ6_bitCount_0f7a4_29 : decode cJ6_bitCount_0f7a4 29 = .ok (.ldc_w 267, 3) := by decide +kernel
theorem dJ6_bitCount_0f7a4_32 : decode cJ6_bitCount_0f7a4 32 = .ok (.iand, 1) := by decide +kernel
theorem dJ6_bitCount_0f7a4_33 : decode cJ6_bitCount_0f7a4 33 = .ok (.istore_n 0, 1) := by decide +kernel
theorem dJ6_bitCount_0f7a4_34 : decode cJ6_bitCount_0f7a4 34 = .ok (.iload_n 0, 1) := by decide +kernel
theorem dJ6_bitCount_0f7a4_35 : decode cJ6_bitCount_0f7a4 35 = .ok (.iload_n 0, 1) := by decide +kernel
theorem dJ6_bitCount_0f7a4_36 : decode cJ6_bitCount_0f7a4 36 = .ok (.bipush 8, 2) := by decide +kernel
theorem dJ6_bitCount_0f7a4_38 : decode cJ6_bitCount_0f7a4 38 = .ok (.iushr, 1) := by decide +kernel
theorem dJ6_bitCount_0f7a4_39 : decode cJ6_bitCount_0f7a4 39 = .ok (.iadd, 1) := by decide +kernel
theorem dJ6_bitCount_0f7a4_40 : decode cJ6_bitCount_0f7a4 40 = .ok (.istore_n 0, 1) := by decide +kernel
theorem dJ6_bitCount_0f7a4_41 : decode cJ6_bitCount_0f7a4 41 = .ok (.iload_n 0, 1) := by decide +kernel
theorem dJ6_bitCount_0f7a4_42 : decode cJ6_bitCount_0f7a4 42 = .ok (.iload_n 0, 1) := by decide +kernel
theorem dJ6_bitCount_0f7a4_43 : decode cJ6_bitCount_0f7a4 43 = .ok (.bipush 16, 2) := by decide +kernel
theorem dJ6_bitCount_0f7a4_45 : decode cJ6_bitCount_0f7a4 45 = .ok (.iushr, 1) := by decide +kernel
theorem dJ6_bitCount_0f7a4_46 : decode cJ6_bitCount_0f7a4 46 = .ok (.iadd, 1) := by decide +kernel
theorem dJ6_bitCount_0f7a4_47 : decode cJ6_bitCount_0f7a4 47 = .ok (.istore_n 0, 1) := by decide +kernel
theorem dJ6_bitCount_0f7a4_48 : decode cJ6_bitCount_0f7a4 48 = .ok (.iload_n 0, 1) := by decide +kernel
theorem dJ6_bitCount_0f7a4_49 : decode cJ6_bitCount_0f7a4 49 = .ok (.bipush 63, 2) := by decide +kernel
theorem dJ6_bitCount_0f7a4_51 : decode cJ6_bitCount_0f7a4 51 = .ok (.iand, 1) := by decide +kernel
theorem dJ6_bitCount_0f7a4_52 : decode cJ6_bitCount_0f7a4 52 = .ok (.ireturn, 1) := by decide +kernel
theorem dJ9_abs_0f7a4_0 : decode cJ9_abs_0f7a4 0 = .ok (.iload_n 0, 1) := by decide +kernel
theorem dJ9_abs_0f7a4_1 : decode cJ9_abs_0f7a4 1 = .ok (.ifCond .ge 8, 3) := by decide +kernel
theorem dJ9_abs_0f7a4_4 : decode cJ9_abs_0f7a4 4 = .ok (.iload_n 0, 1) := by decide +kernel
theorem dJ9_abs_0f7a4_5 : decode cJ9_abs_0f7a4 5 = .ok (.ineg, 1) := by decide +kernel
theorem dJ9_abs_0f7a4_6 : decode cJ9_abs_0f7a4 6 = .ok (.goto 4, 3) := by decide +kernel
theorem dJ9_abs_0f7a4_9 : decode cJ9_abs_0f7a4 9 = .ok (.iload_n 0, 1) := by decide +kernel
theorem dJ9_abs_0f7a4_10 : decode cJ9_abs_0f7a4 10 = .ok (.ireturn, 1) := by decide +kernel
theorem dJ9_max_7cf53_0 : decode cJ9_max_7cf53 0 = .ok (.iload_n 0, 1) := by decide +kernel
theorem dJ9_max_7cf53_1 : decode cJ9_max_7cf53 1 = .ok (.iload_n 1, 1) := by decide +kernel
theorem dJ9_max_7cf53_2 : decode cJ9_max_7cf53 2 = .ok (.if_icmp .lt 7, 3) := by decide +kernel
theorem dJ9_max_7cf53_5 : decode cJ9_max_7cf53 5 = .ok (.iload_n 0, 1) := by decide +kernel
theorem dJ9_max_7cf53_6 : decode cJ9_max_7cf53 6 = .ok (.goto 4, 3) := by decide +kernel
theorem dJ9_max_7cf53_9 : decode cJ9_max_7cf53 9 = .ok (.iload_n 1, 1) := by decide +kernel
theorem dJ9_max_7cf53_10 : decode cJ9_max_7cf53 10 = .ok (.ireturn, 1) := by decide +kernel
theorem dJ9_min_7cf53_0 : decode cJ9_min_7cf53 0 = .ok (.iload_n 0, 1) := by decide +kernel
theorem dJ9_min_7cf53_1 : decode cJ9_min_7cf53 1 = .ok (.iload_n 1, 1) := by decide +kernel
theorem dJ9_min_7cf53_2 : decode cJ9_min_7cf53 2 = .ok (.if_icmp .gt 7, 3) := by decide +kernel
theorem dJ9_min_7cf53_5 : decode cJ9_min_7cf53 5 = .ok (.iload_n 0, 1) := by decide +kernel
theorem dJ9_min_7cf53_6 : decode cJ9_min_7cf53 6 = .ok (.goto 4, 3) := by decide +kernel
theorem dJ9_min_7cf53_9 : decode cJ9_min_7cf53 9 = .ok (.iload_n 1, 1) := by decide +kernel
theorem dJ9_min_7cf53_10 : decode cJ9_min_7cf53 10 = .ok (.ireturn, 1) := by decide +kernel
theorem dJ7_fill_53178_0 : decode cJ7_fill_53178 0 = .ok (.iconst 0, 1) := by decide +kernel
theorem dJ7_fill_53178_1 : decode cJ7_fill_53178 1 = .ok (.istore_n 2, 1) := by decide +kernel
theorem dJ7_fill_53178_2 : decode cJ7_fill_53178 2 = .ok (.aload_n 0, 1) := by decide +kernel
theorem dJ7_fill_53178_3 : decode cJ7_fill_53178 3 = .ok (.arraylength, 1) := by decide +kernel
theorem dJ7_fill_53178_4 : decode cJ7_fill_53178 4 = .ok (.istore_n 3, 1) := by decide +kernel
theorem dJ7_fill_53178_5 : decode cJ7_fill_53178 5 = .ok (.iload_n 2, 1) := by decide +kernel
theorem dJ7_fill_53178_6 : decode cJ7_fill_53178 6 = .ok (.iload_n 3, 1) := by decide +kernel
theorem dJ7_fill_53178_7 : decode cJ7_fill_53178 7 = .ok (.if_icmp .ge 13, 3) := by decide +kernel
theorem dJ7_fill_53178_10 : decode cJ7_fill_53178 10 = .ok (.aload_n 0, 1) := by decide +kernel
theorem dJ7_fill_53178_11 : decode cJ7_fill_53178 11 = .ok (.iload_n 2, 1) := by decide +kernel
theorem dJ7_fill_53178_12 : decode cJ7_fill_53178 12 = .ok (.iload_n 1, 1) := by decide +kernel
theorem dJ7_fill_53178_13 : decode cJ7_fill_53178 13 = .ok (.iastore, 1) := by decide +kernel
theorem dJ7_fill_53178_14 : decode cJ7_fill_53178 14 = .ok (.iinc 2 1, 3) := by decide +kernel
theorem dJ7_fill_53178_17 : decode cJ7_fill_53178 17 = .ok (.goto (-12), 3) := by decide +kernel
theorem dJ7_fill_53178_20 : decode cJ7_fill_53178 20 = .ok (.return_, 1) := by decide +kernel
