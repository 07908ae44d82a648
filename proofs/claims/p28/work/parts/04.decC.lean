theorem dX0_init_0 : decode cX0_init 0 = .ok (.aload_n 0, 1) := by decide +kernel
theorem dX0_init_1 : decode cX0_init 1 = .ok (.invokespecial 3, 3) := by decide +kernel
theorem dX0_init_4 : decode cX0_init 4 = .ok (.aload_n 0, 1) := by decide +kernel
theorem dX0_init_5 : decode cX0_init 5 = .ok (.bipush 12, 2) := by decide +kernel
theorem dX0_init_7 : decode cX0_init 7 = .ok (.newarray .int, 2) := by decide +kernel
theorem dX0_init_9 : decode cX0_init 9 = .ok (.putfield 9, 3) := by decide +kernel
theorem dX0_init_12 : decode cX0_init 12 = .ok (.aload_n 0, 1) := by decide +kernel
theorem dX0_init_13 : decode cX0_init 13 = .ok (.bipush 12, 2) := by decide +kernel
theorem dX0_init_15 : decode cX0_init 15 = .ok (.newarray .int, 2) := by decide +kernel
theorem dX0_init_17 : decode cX0_init 17 = .ok (.putfield 15, 3) := by decide +kernel
theorem dX0_init_20 : decode cX0_init 20 = .ok (.aload_n 0, 1) := by decide +kernel
theorem dX0_init_21 : decode cX0_init 21 = .ok (.bipush 12, 2) := by decide +kernel
theorem dX0_init_23 : decode cX0_init 23 = .ok (.newarray .int, 2) := by decide +kernel
theorem dX0_init_25 : decode cX0_init 25 = .ok (.putfield 18, 3) := by decide +kernel
theorem dX0_init_28 : decode cX0_init 28 = .ok (.return_, 1) := by decide +kernel
theorem dX0_count_0 : decode cX0_count 0 = .ok (.aload_n 0, 1) := by decide +kernel
theorem dX0_count_1 : decode cX0_count 1 = .ok (.getfield 21, 3) := by decide +kernel
theorem dX0_count_4 : decode cX0_count 4 = .ok (.ireturn, 1) := by decide +kernel
theorem dX0_isFull_0 : decode cX0_isFull 0 = .ok (.aload_n 0, 1) := by decide +kernel
theorem dX0_isFull_1 : decode cX0_isFull 1 = .ok (.getfield 21, 3) := by decide +kernel
theorem dX0_isFull_4 : decode cX0_isFull 4 = .ok (.bipush 12, 2) := by decide +kernel
theorem dX0_isFull_6 : decode cX0_isFull 6 = .ok (.if_icmp .lt 7, 3) := by decide +kernel
theorem dX0_isFull_9 : decode cX0_isFull 9 = .ok (.iconst 1, 1) := by decide +kernel
theorem dX0_isFull_10 : decode cX0_isFull 10 = .ok (.goto 4, 3) := by decide +kernel
theorem dX0_isFull_13 : decode cX0_isFull 13 = .ok (.iconst 0, 1) := by decide +kernel
theorem dX0_isFull_14 : decode cX0_isFull 14 = .ok (.ireturn, 1) := by decide +kernel
theorem dX0_has_0 : decode cX0_has 0 = .ok (.iload_n 1, 1) := by decide +kernel
theorem dX0_has_1 : decode cX0_has 1 = .ok (.ifCond .lt 15, 3) := by decide +kernel
theorem dX0_has_4 : decode cX0_has 4 = .ok (.iload_n 1, 1) := by decide +kernel
theorem dX0_has_5 : decode cX0_has 5 = .ok (.aload_n 0, 1) := by decide +kernel
theorem dX0_has_6 : decode cX0_has 6 = .ok (.getfield 21, 3) := by decide +kernel
theorem dX0_has_9 : decode cX0_has 9 = .ok (.if_icmp .ge 7, 3) := by decide +kernel
theorem dX0_has_12 : decode cX0_has 12 = .ok (.iconst 1, 1) := by decide +kernel
theorem dX0_has_13 : decode cX0_has 13 = .ok (.goto 4, 3) := by decide +kernel
theorem dX0_has_16 : decode cX0_has 16 = .ok (.iconst 0, 1) := by decide +kernel
theorem dX0_has_17 : decode cX0_has 17 = .ok (.ireturn, 1) := by decide +kernel
theorem dX0_add_0 : decode cX0_add 0 = .ok (.aload_n 0, 1) := by decide +kernel
theorem dX0_add_1 : decode cX0_add 1 = .ok (.invokevirtual 25, 3) := by decide +kernel
theorem dX0_add_4 : decode cX0_add 4 = .ok (.ifCond .ne 43, 3) := by decide +kernel
theorem dX0_add_7 : decode cX0_add 7 = .ok (.aload_n 0, 1) := by decide +kernel
theorem dX0_add_8 : decode cX0_add 8 = .ok (.getfield 9, 3) := by decide +kernel
theorem dX0_add_11 : decode cX0_add 11 = .ok (.aload_n 0, 1) := by decide +kernel
theorem dX0_add_12 : decode cX0_add 12 = .ok (.getfield 21, 3) := by decide +kernel
theorem dX0_add_15 : decode cX0_add 15 = .ok (.iload_n 1, 1) := by decide +kernel
theorem dX0_add_16 : decode cX0_add 16 = .ok (.iastore, 1) := by decide +kernel
theorem dX0_add_17 : decode cX0_add 17 = .ok (.aload_n 0, 1) := by decide +kernel
theorem dX0_add_18 : decode cX0_add 18 = .ok (.getfield 15, 3) := by decide +kernel
theorem dX0_add_21 : decode cX0_add 21 = .ok (.aload_n 0, 1) := by decide +kernel
theorem dX0_add_22 : decode cX0_add 22 = .ok (.getfield 21, 3) := by decide +kernel
theorem dX0_add_25 : decode cX0_add 25 = .ok (.iload_n 2, 1) := by decide +kernel
theorem dX0_add_26 : decode cX0_add 26 = .ok (.iastore, 1) := by decide +kernel
theorem dX0_add_27 : decode cX0_add 27 = .ok (.aload_n 0, 1) := by decide +kernel
theorem dX0_add_28 : decode cX0_add 28 = .ok (.getfield 18, 3) := by decide +kernel
theorem dX0_add_31 : decode cX0_add 31 = .ok (.aload_n 0, 1) := by decide +kernel
theorem dX0_add_32 : decode cX0_add 32 = .ok (.getfield 21, 3) := by decide +kernel
theorem dX0_add_35 : decode cX0_add 35 = .ok (.iload_n 3, 1) := by decide +kernel
theorem dX0_add_36 : decode cX0_add 36 = .ok (.iastore, 1) := by decide +kernel
theorem dX0_add_37 : decode cX0_add 37 = .ok (.aload_n 0, 1) := by decide +kernel
theorem dX0_add_38 : decode cX0_add 38 = .ok (.dup, 1) := by decide +kernel
theorem dX0_add_39 : decode cX0_add 39 = .ok (.getfield 21, 3) := by decide +kernel
theorem dX0_add_42 : decode cX0_add 42 = .ok (.iconst 1, 1) := by decide +kernel
theorem dX0_add_43 : decode cX0_add 43 = .ok (.iadd, 1) := by decide +kernel
theorem dX0_add_44 : decode cX0_add 44 = .ok (.putfield 21, 3) := by decide +kernel
theorem dX0_add_47 : decode cX0_add 47 = .ok (.return_, 1) := by decide +kernel
theorem dX1_init_0 : decode cX1_init 0 = .ok (.aload_n 0, 1) := by decide +kernel
theorem dX1_init_1 : decode cX1_init 1 = .ok (.invokespecial 3, 3) := by decide +kernel
theorem dX1_init_4 : decode cX1_init 4 = .ok (.aload_n 0, 1) := by decide +kernel
theorem dX1_init_5 : decode cX1_init 5 = .ok (.bipush 60, 2) := by decide +kernel
theorem dX1_init_7 : decode cX1_init 7 = .ok (.newarray .int, 2) := by decide +kernel
theorem dX1_init_9 : decode cX1_init 9 = .ok (.putfield 9, 3) := by decide +kernel
theorem dX1_init_12 : decode cX1_init 12 = .ok (.aload_n 0, 1) := by decide +kernel
theorem dX1_init_13 : decode cX1_init 13 = .ok (.bipush 60, 2) := by decide +kernel
theorem dX1_init_15 : decode cX1_init 15 = .ok (.newarray .int, 2) := by decide +kernel
theorem dX1_init_17 : decode cX1_init 17 = .ok (.putfield 15, 3) := by decide +kernel
theorem dX1_init_20 : decode cX1_init 20 = .ok (.aload_n 0, 1) := by decide +kernel
theorem dX1_init_21 : decode cX1_init 21 = .ok (.bipush 60, 2) := by decide +kernel
theorem dX1_init_23 : decode cX1_init 23 = .ok (.newarray .int, 2) := by decide +kernel
theorem dX1_init_25 : decode cX1_init 25 = .ok (.putfield 18, 3) := by decide +kernel
theorem dX1_init_28 : decode cX1_init 28 = .ok (.aload_n 0, 1) := by decide +kernel
theorem dX1_init_29 : decode cX1_init 29 = .ok (.bipush 60, 2) := by decide +kernel
theorem dX1_init_31 : decode cX1_init 31 = .ok (.newarray .int, 2) := by decide +kernel
theorem dX1_init_33 : decode cX1_init 33 = .ok (.putfield 21, 3) := by decide +kernel
theorem dX1_init_36 : decode cX1_init 36 = .ok (.aload_n 0, 1) := by decide +kernel
theorem dX1_init_37 : decode cX1_init 37 = .ok (.bipush 60, 2) := by decide +kernel
theorem dX1_init_39 : decode cX1_init 39 = .ok (.newarray .int, 2) := by decide +kernel
theorem dX1_init_41 : decode cX1_init 41 = .ok (.putfield 24, 3) := by decide +kernel
theorem dX1_init_44 : decode cX1_init 44 = .ok (.aload_n 0, 1) := by decide +kernel
theorem dX1_init_45 : decode cX1_init 45 = .ok (.bipush 60, 2) := by decide +kernel
theorem dX1_init_47 : decode cX1_init 47 = .ok (.newarray .int, 2) := by decide +kernel
theorem dX1_init_49 : decode cX1_init 49 = .ok (.putfield 27, 3) := by decide +kernel
theorem dX1_init_52 : decode cX1_init 52 = .ok (.aload_n 0, 1) := by decide +kernel
theorem dX1_init_53 : decode cX1_init 53 = .ok (.bipush 60, 2) := by decide +kernel
theorem dX1_init_55 : decode cX1_init 55 = .ok (.newarray .int, 2) := by decide +kernel
theorem dX1_init_57 : decode cX1_init 57 = .ok (.putfield 30, 3) := by decide +kernel
theorem dX1_init_60 : decode cX1_init 60 = .ok (.aload_n 0, 1) := by decide +kernel
theorem dX1_init_61 : decode cX1_init 61 = .ok (.bipush 60, 2) := by decide +kernel
theorem dX1_init_63 : decode cX1_init 63 = .ok (.newarray .int, 2) := by decide +kernel
theorem dX1_init_65 : decode cX1_init 65 = .ok (.putfield 33, 3) := by decide +kernel
theorem dX1_init_68 : decode cX1_init 68 = .ok (.aload_n 0, 1) := by decide +kernel
theorem dX1_init_69 : decode cX1_init 69 = .ok (.bipush 60, 2) := by decide +kernel
theorem dX1_init_71 : decode cX1_init 71 = .ok (.newarray .int, 2) := by decide +kernel
theorem dX1_init_73 : decode cX1_init 73 = .ok (.putfield 36, 3) := by decide +kernel
theorem dX1_init_76 : decode cX1_init 76 = .ok (.aload_n 0, 1) := by decide +kernel
theorem dX1_init_77 : decode cX1_init 77 = .ok (.bipush 60, 2) := by decide +kernel
theorem dX1_init_79 : decode cX1_init 79 = .ok (.newarray .boolean, 2) := by decide +kernel
theorem dX1_init_81 : decode cX1_init 81 = .ok (.putfield 39, 3) := by decide +kernel
theorem dX1_init_84 : decode cX1_init 84 = .ok (.aload_n 0, 1) := by decide +kernel
theorem dX1_init_85 : decode cX1_init 85 = .ok (.bipush 60, 2) := by decide +kernel
theorem dX1_init_87 : decode cX1_init 87 = .ok (.newarray .int, 2) := by decide +kernel
theorem dX1_init_89 : decode cX1_init 89 = .ok (.putfield 43, 3) := by decide +kernel
theorem dX1_init_92 : decode cX1_init 92 = .ok (.return_, 1) := by decide +kernel
theorem dX1_isFull_0 : decode cX1_isFull 0 = .ok (.aload_n 0, 1) := by decide +kernel
theorem dX1_isFull_1 : decode cX1_isFull 1 = .ok (.getfield 46, 3) := by decide +kernel
theorem dX1_isFull_4 : decode cX1_isFull 4 = .ok (.bipush 60, 2) := by decide +kernel
theorem dX1_isFull_6 : decode cX1_isFull 6 = .ok (.if_icmp .lt 7, 3) := by decide +kernel
theorem dX1_isFull_9 : decode cX1_isFull 9 = .ok (.iconst 1, 1) := by decide +kernel
theorem dX1_isFull_10 : decode cX1_isFull 10 = .ok (.goto 4, 3) := by decide +kernel
theorem dX1_isFull_13 : decode cX1_isFull 13 = .ok (.iconst 0, 1) := by decide +kernel
theorem dX1_isFull_14 : decode cX1_isFull 14 = .ok (.ireturn, 1) := by decide +kernel
theorem dX1_has_0 : decode cX1_has 0 = .ok (.iload_n 1, 1) := by decide +kernel
theorem dX1_has_1 : decode cX1_has 1 = .ok (.ifCond .lt 15, 3) := by decide +kernel
theorem dX1_has_4 : decode cX1_has 4 = .ok (.iload_n 1, 1) := by decide +kernel
theorem dX1_has_5 : decode cX1_has 5 = .ok (.aload_n 0, 1) := by decide +kernel
theorem dX1_has_6 : decode cX1_has 6 = .ok (.getfield 46, 3) := by decide +kernel
theorem dX1_has_9 : decode cX1_has 9 = .ok (.if_icmp .ge 7, 3) := by decide +kernel
theorem dX1_has_12 : decode cX1_has 12 = .ok (.iconst 1, 1) := by decide +kernel
theorem dX1_has_13 : decode cX1_has 13 = .ok (.goto 4, 3) := by decide +kernel
theorem dX1_has_16 : decode cX1_has 16 = .ok (.iconst 0, 1) := by decide +kernel
theorem dX1_has_17 : decode cX1_has 17 = .ok (.ireturn, 1) := by decide +kernel
theorem dX1_add_0 : decode cX1_add 0 = .ok (.aload_n 0, 1) := by decide +kernel
theorem dX1_add_1 : decode cX1_add 1 = .ok (.invokevirtual 50, 3) := by decide +kernel
theorem dX1_add_4 : decode cX1_add 4 = .ok (.ifCond .eq 5, 3) := by decide +kernel
theorem dX1_add_7 : decode cX1_add 7 = .ok (.iconst (-1), 1) := by decide +kernel
theorem dX1_add_8 : decode cX1_add 8 = .ok (.ireturn, 1) := by decide +kernel
theorem dX1_add_9 : decode cX1_add 9 = .ok (.aload_n 0, 1) := by decide +kernel
theorem dX1_add_10 : decode cX1_add 10 = .ok (.getfield 9, 3) := by decide +kernel
theorem dX1_add_13 : decode cX1_add 13 = .ok (.aload_n 0, 1) := by decide +kernel
theorem dX1_add_14 : decode cX1_add 14 = .ok (.getfield 46, 3) := by decide +kernel
theorem dX1_add_17 : decode cX1_add 17 = .ok (.iload_n 1, 1) := by decide +kernel
theorem dX1_add_18 : decode cX1_add 18 = .ok (.iastore, 1) := by decide +kernel
theorem dX1_add_19 : decode cX1_add 19 = .ok (.aload_n 0, 1) := by decide +kernel
theorem dX1_add_20 : decode cX1_add 20 = .ok (.getfield 15, 3) := by decide +kernel
theorem dX1_add_23 : decode cX1_add 23 = .ok (.aload_n 0, 1) := by decide +kernel
theorem dX1_add_24 : decode cX1_add 24 = .ok (.getfield 46, 3) := by decide +kernel
theorem dX1_add_27 : decode cX1_add 27 = .ok (.iload_n 2, 1) := by decide +kernel
theorem dX1_add_28 : decode cX1_add 28 = .ok (.iastore, 1) := by decide +kernel
theorem dX1_add_29 : decode cX1_add 29 = .ok (.aload_n 0, 1) := by decide +kernel
theorem dX1_add_30 : decode cX1_add 30 = .ok (.getfield 18, 3) := by decide +kernel
theorem dX1_add_33 : decode cX1_add 33 = .ok (.aload_n 0, 1) := by decide +kernel
theorem dX1_add_34 : decode cX1_add 34 = .ok (.getfield 46, 3) := by decide +kernel
theorem dX1_add_37 : decode cX1_add 37 = .ok (.iload_n 3, 1) := by decide +kernel
theorem dX1_add_38 : decode cX1_add 38 = .ok (.iastore, 1) := by decide +kernel
theorem dX1_add_39 : decode cX1_add 39 = .ok (.aload_n 0, 1) := by decide +kernel
theorem dX1_add_40 : decode cX1_add 40 = .ok (.getfield 21, 3) := by decide +kernel
theorem dX1_add_43 : decode cX1_add 43 = .ok (.aload_n 0, 1) := by decide +kernel
theorem dX1_add_44 : decode cX1_add 44 = .ok (.getfield 46, 3) := by decide +kernel
theorem dX1_add_47 : decode cX1_add 47 = .ok (.iload 4, 2) := by decide +kernel
theorem dX1_add_49 : decode cX1_add 49 = .ok (.iastore, 1) := by decide +kernel
theorem dX1_add_50 : decode cX1_add 50 = .ok (.aload_n 0, 1) := by decide +kernel
theorem dX1_add_51 : decode cX1_add 51 = .ok (.dup, 1) := by decide +kernel
theorem dX1_add_52 : decode cX1_add 52 = .ok (.getfield 46, 3) := by decide +kernel
theorem dX1_add_55 : decode cX1_add 55 = .ok (.iconst 1, 1) := by decide +kernel
theorem dX1_add_56 : decode cX1_add 56 = .ok (.iadd, 1) := by decide +kernel
theorem dX1_add_57 : decode cX1_add 57 = .ok (.putfield 46, 3) := by decide +kernel
theorem dX1_add_60 : decode cX1_add 60 = .ok (.aload_n 0, 1) := by decide +kernel
theorem dX1_add_61 : decode cX1_add 61 = .ok (.getfield 46, 3) := by decide +kernel
theorem dX1_add_64 : decode cX1_add 64 = .ok (.iconst 1, 1) := by decide +kernel
theorem dX1_add_65 : decode cX1_add 65 = .ok (.isub, 1) := by decide +kernel
theorem dX1_add_66 : decode cX1_add 66 = .ok (.ireturn, 1) := by decide +kernel
theorem dX1_hookTo_0 : decode cX1_hookTo 0 = .ok (.aload_n 0, 1) := by decide +kernel
theorem dX1_hookTo_1 : decode cX1_hookTo 1 = .ok (.iload_n 1, 1) := by decide +kernel
theorem dX1_hookTo_2 : decode cX1_hookTo 2 = .ok (.invokevirtual 54, 3) := by decide +kernel
theorem dX1_hookTo_5 : decode cX1_hookTo 5 = .ok (.ifCond .eq 39, 3) := by decide +kernel
theorem dX1_hookTo_8 : decode cX1_hookTo 8 = .ok (.aload_n 0, 1) := by decide +kernel
theorem dX1_hookTo_9 : decode cX1_hookTo 9 = .ok (.getfield 24, 3) := by decide +kernel
theorem dX1_hookTo_12 : decode cX1_hookTo 12 = .ok (.iload_n 1, 1) := by decide +kernel
theorem dX1_hookTo_13 : decode cX1_hookTo 13 = .ok (.iconst (-1), 1) := by decide +kernel
theorem dX1_hookTo_14 : decode cX1_hookTo 14 = .ok (.iastore, 1) := by decide +kernel
theorem dX1_hookTo_15 : decode cX1_hookTo 15 = .ok (.aload_n 0, 1) := by decide +kernel
theorem dX1_hookTo_16 : decode cX1_hookTo 16 = .ok (.getfield 27, 3) := by decide +kernel
theorem dX1_hookTo_19 : decode cX1_hookTo 19 = .ok (.iload_n 1, 1) := by decide +kernel
theorem dX1_hookTo_20 : decode cX1_hookTo 20 = .ok (.iload_n 1, 1) := by decide +kernel
theorem dX1_hookTo_21 : decode cX1_hookTo 21 = .ok (.iastore, 1) := by decide +kernel
theorem dX1_hookTo_22 : decode cX1_hookTo 22 = .ok (.aload_n 0, 1) := by decide +kernel
theorem dX1_hookTo_23 : decode cX1_hookTo 23 = .ok (.getfield 30, 3) := by decide +kernel
theorem dX1_hookTo_26 : decode cX1_hookTo 26 = .ok (.iload_n 1, 1) := by decide +kernel
theorem dX1_hookTo_27 : decode cX1_hookTo 27 = .ok (.iload_n 2, 1) := by decide +kernel
theorem dX1_hookTo_28 : decode cX1_hookTo 28 = .ok (.iastore, 1) := by decide +kernel
theorem dX1_hookTo_29 : decode cX1_hookTo 29 = .ok (.aload_n 0, 1) := by decide +kernel
theorem dX1_hookTo_30 : decode cX1_hookTo 30 = .ok (.getfield 33, 3) := by decide +kernel
theorem dX1_hookTo_33 : decode cX1_hookTo 33 = .ok (.iload_n 1, 1) := by decide +kernel
theorem dX1_hookTo_34 : decode cX1_hookTo 34 = .ok (.iload_n 3, 1) := by decide +kernel
theorem dX1_hookTo_35 : decode cX1_hookTo 35 = .ok (.iastore, 1) := by decide +kernel
theorem dX1_hookTo_36 : decode cX1_hookTo 36 = .ok (.aload_n 0, 1) := by decide +kernel
theorem dX1_hookTo_37 : decode cX1_hookTo 37 = .ok (.getfield 36, 3) := by decide +kernel
theorem dX1_hookTo_40 : decode cX1_hookTo 40 = .ok (.iload_n 1, 1) := by decide +kernel
theorem dX1_hookTo_41 : decode cX1_hookTo 41 = .ok (.iload 4, 2) := by decide +kernel
theorem dX1_hookTo_43 : decode cX1_hookTo 43 = .ok (.iastore, 1) := by decide +kernel
theorem dX1_hookTo_44 : decode cX1_hookTo 44 = .ok (.return_, 1) := by decide +kernel
theorem dX1_authorOf_0 : decode cX1_authorOf 0 = .ok (.aload_n 0, 1) := by decide +kernel
theorem dX1_authorOf_1 : decode cX1_authorOf 1 = .ok (.getfield 9, 3) := by decide +kernel
theorem dX1_authorOf_4 : decode cX1_authorOf 4 = .ok (.iload_n 1, 1) := by decide +kernel
theorem dX1_authorOf_5 : decode cX1_authorOf 5 = .ok (.invokestatic 58, 3) := by decide +kernel
theorem dX1_authorOf_8 : decode cX1_authorOf 8 = .ok (.ireturn, 1) := by decide +kernel
theorem dX1_kindOf_0 : decode cX1_kindOf 0 = .ok (.aload_n 0, 1) := by decide +kernel
theorem dX1_kindOf_1 : decode cX1_kindOf 1 = .ok (.getfield 15, 3) := by decide +kernel
theorem dX1_kindOf_4 : decode cX1_kindOf 4 = .ok (.iload_n 1, 1) := by decide +kernel
theorem dX1_kindOf_5 : decode cX1_kindOf 5 = .ok (.invokestatic 58, 3) := by decide +kernel
theorem dX1_kindOf_8 : decode cX1_kindOf 8 = .ok (.ireturn, 1) := by decide +kernel
theorem dX1_parentOf_0 : decode cX1_parentOf 0 = .ok (.aload_n 0, 1) := by decide +kernel
theorem dX1_parentOf_1 : decode cX1_parentOf 1 = .ok (.getfield 24, 3) := by decide +kernel
theorem dX1_parentOf_4 : decode cX1_parentOf 4 = .ok (.iload_n 1, 1) := by decide +kernel
theorem dX1_parentOf_5 : decode cX1_parentOf 5 = .ok (.invokestatic 58, 3) := by decide +kernel
theorem dX1_parentOf_8 : decode cX1_parentOf 8 = .ok (.ireturn, 1) := by decide +kernel
theorem dX1_unitOf_0 : decode cX1_unitOf 0 = .ok (.aload_n 0, 1) := by decide +kernel
theorem dX1_unitOf_1 : decode cX1_unitOf 1 = .ok (.getfield 30, 3) := by decide +kernel
theorem dX1_unitOf_4 : decode cX1_unitOf 4 = .ok (.aload_n 0, 1) := by decide +kernel
theorem dX1_unitOf_5 : decode cX1_unitOf 5 = .ok (.getfield 27, 3) := by decide +kernel
theorem dX1_unitOf_8 : decode cX1_unitOf 8 = .ok (.iload_n 1, 1) := by decide +kernel
theorem dX1_unitOf_9 : decode cX1_unitOf 9 = .ok (.invokestatic 58, 3) := by decide +kernel
theorem dX1_unitOf_12 : decode cX1_unitOf 12 = .ok (.invokestatic 58, 3) := by decide +kernel
theorem dX1_unitOf_15 : decode cX1_unitOf 15 = .ok (.ireturn, 1) := by decide +kernel
theorem dX1_placeOf_0 : decode cX1_placeOf 0 = .ok (.aload_n 0, 1) := by decide +kernel
theorem dX1_placeOf_1 : decode cX1_placeOf 1 = .ok (.getfield 33, 3) := by decide +kernel
theorem dX1_placeOf_4 : decode cX1_placeOf 4 = .ok (.aload_n 0, 1) := by decide +kernel
theorem dX1_placeOf_5 : decode cX1_placeOf 5 = .ok (.getfield 27, 3) := by decide +kernel
theorem dX1_placeOf_8 : decode cX1_placeOf 8 = .ok (.iload_n 1, 1) := by decide +kernel
theorem dX1_placeOf_9 : decode cX1_placeOf 9 = .ok (.invokestatic 58, 3) := by decide +kernel
theorem dX1_placeOf_12 : decode cX1_placeOf 12 = .ok (.invokestatic 58, 3) := by decide +kernel
theorem dX1_placeOf_15 : decode cX1_placeOf 15 = .ok (.ireturn, 1) := by decide +kernel
theorem dX1_isLost_0 : decode cX1_isLost 0 = .ok (.aload_n 0, 1) := by decide +kernel
theorem dX1_isLost_1 : decode cX1_isLost 1 = .ok (.getfield 27, 3) := by decide +kernel
theorem dX1_isLost_4 : decode cX1_isLost 4 = .ok (.iload_n 1, 1) := by decide +kernel
theorem dX1_isLost_5 : decode cX1_isLost 5 = .ok (.invokestatic 58, 3) := by decide +kernel
theorem dX1_isLost_8 : decode cX1_isLost 8 = .ok (.istore_n 2, 1) := by decide +kernel
theorem dX1_isLost_9 : decode cX1_isLost 9 = .ok (.aload_n 0, 1) := by decide +kernel
theorem dX1_isLost_10 : decode cX1_isLost 10 = .ok (.iload_n 2, 1) := by decide +kernel
theorem dX1_isLost_11 : decode cX1_isLost 11 = .ok (.invokevirtual 54, 3) := by decide +kernel
theorem dX1_isLost_14 : decode cX1_isLost 14 = .ok (.ifCond .eq 16, 3) := by decide +kernel
theorem dX1_isLost_17 : decode cX1_isLost 17 = .ok (.aload_n 0, 1) := by decide +kernel
theorem dX1_isLost_18 : decode cX1_isLost 18 = .ok (.getfield 39, 3) := by decide +kernel
theorem dX1_isLost_21 : decode cX1_isLost 21 = .ok (.iload_n 2, 1) := by decide +kernel
theorem dX1_isLost_22 : decode cX1_isLost 22 = .ok (.baload, 1) := by decide +kernel
theorem dX1_isLost_23 : decode cX1_isLost 23 = .ok (.ifCond .eq 7, 3) := by decide +kernel
theorem dX1_isLost_26 : decode cX1_isLost 26 = .ok (.iconst 1, 1) := by decide +kernel
theorem dX1_isLost_27 : decode cX1_isLost 27 = .ok (.goto 4, 3) := by decide +kernel
theorem dX1_isLost_30 : decode cX1_isLost 30 = .ok (.iconst 0, 1) := by decide +kernel
theorem dX1_isLost_31 : decode cX1_isLost 31 = .ok (.ireturn, 1) := by decide +kernel
theorem dX1_isHook_0 : decode cX1_isHook 0 = .ok (.aload_n 0, 1) := by decide +kernel
theorem dX1_isHook_1 : decode cX1_isHook 1 = .ok (.iload_n 1, 1) := by decide +kernel
theorem dX1_isHook_2 : decode cX1_isHook 2 = .ok (.invokevirtual 54, 3) := by decide +kernel
theorem dX1_isHook_5 : decode cX1_isHook 5 = .ok (.ifCond .eq 27, 3) := by decide +kernel
theorem dX1_isHook_8 : decode cX1_isHook 8 = .ok (.aload_n 0, 1) := by decide +kernel
theorem dX1_isHook_9 : decode cX1_isHook 9 = .ok (.getfield 24, 3) := by decide +kernel
theorem dX1_isHook_12 : decode cX1_isHook 12 = .ok (.iload_n 1, 1) := by decide +kernel
theorem dX1_isHook_13 : decode cX1_isHook 13 = .ok (.iaload, 1) := by decide +kernel
theorem dX1_isHook_14 : decode cX1_isHook 14 = .ok (.iconst (-1), 1) := by decide +kernel
theorem dX1_isHook_15 : decode cX1_isHook 15 = .ok (.if_icmp .ne 17, 3) := by decide +kernel
theorem dX1_isHook_18 : decode cX1_isHook 18 = .ok (.aload_n 0, 1) := by decide +kernel
theorem dX1_isHook_19 : decode cX1_isHook 19 = .ok (.getfield 30, 3) := by decide +kernel
theorem dX1_isHook_22 : decode cX1_isHook 22 = .ok (.iload_n 1, 1) := by decide +kernel
theorem dX1_isHook_23 : decode cX1_isHook 23 = .ok (.iaload, 1) := by decide +kernel
theorem dX1_isHook_24 : decode cX1_isHook 24 = .ok (.iload_n 2, 1) := by decide +kernel
theorem dX1_isHook_25 : decode cX1_isHook 25 = .ok (.if_icmp .ne 7, 3) := by decide +kernel
theorem dX1_isHook_28 : decode cX1_isHook 28 = .ok (.iconst 1, 1) := by decide +kernel
theorem dX1_isHook_29 : decode cX1_isHook 29 = .ok (.goto 4, 3) := by decide +kernel
theorem dX1_isHook_32 : decode cX1_isHook 32 = .ok (.iconst 0, 1) := by decide +kernel
theorem dX1_isHook_33 : decode cX1_isHook 33 = .ok (.ireturn, 1) := by decide +kernel
theorem dX1_closeGap_0 : decode cX1_closeGap 0 = .ok (.iconst 0, 1) := by decide +kernel
theorem dX1_closeGap_1 : decode cX1_closeGap 1 = .ok (.istore 4, 2) := by decide +kernel
theorem dX1_closeGap_3 : decode cX1_closeGap 3 = .ok (.iload 4, 2) := by decide +kernel
theorem dX1_closeGap_5 : decode cX1_closeGap 5 = .ok (.aload_n 0, 1) := by decide +kernel
theorem dX1_closeGap_6 : decode cX1_closeGap 6 = .ok (.getfield 46, 3) := by decide +kernel
theorem dX1_closeGap_9 : decode cX1_closeGap 9 = .ok (.if_icmp .ge 54, 3) := by decide +kernel
theorem dX1_closeGap_12 : decode cX1_closeGap 12 = .ok (.aload_n 0, 1) := by decide +kernel
theorem dX1_closeGap_13 : decode cX1_closeGap 13 = .ok (.iload 4, 2) := by decide +kernel
theorem dX1_closeGap_15 : decode cX1_closeGap 15 = .ok (.iload_n 1, 1) := by decide +kernel
theorem dX1_closeGap_16 : decode cX1_closeGap 16 = .ok (.invokevirtual 62, 3) := by decide +kernel
theorem dX1_closeGap_19 : decode cX1_closeGap 19 = .ok (.ifCond .eq 38, 3) := by decide +kernel
theorem dX1_closeGap_22 : decode cX1_closeGap 22 = .ok (.aload_n 0, 1) := by decide +kernel
theorem dX1_closeGap_23 : decode cX1_closeGap 23 = .ok (.getfield 33, 3) := by decide +kernel
theorem dX1_closeGap_26 : decode cX1_closeGap 26 = .ok (.iload 4, 2) := by decide +kernel
theorem dX1_closeGap_28 : decode cX1_closeGap 28 = .ok (.iaload, 1) := by decide +kernel
theorem dX1_closeGap_29 : decode cX1_closeGap 29 = .ok (.istore 5, 2) := by decide +kernel
theorem dX1_closeGap_31 : decode cX1_closeGap 31 = .ok (.aload_n 0, 1) := by decide +kernel
theorem dX1_closeGap_32 : decode cX1_closeGap 32 = .ok (.getfield 33, 3) := by decide +kernel
theorem dX1_closeGap_35 : decode cX1_closeGap 35 = .ok (.iload 4, 2) := by decide +kernel
theorem dX1_closeGap_37 : decode cX1_closeGap 37 = .ok (.iload 5, 2) := by decide +kernel
theorem dX1_closeGap_39 : decode cX1_closeGap 39 = .ok (.iload_n 2, 1) := by decide +kernel
theorem dX1_closeGap_40 : decode cX1_closeGap 40 = .ok (.if_icmp .le 10, 3) := by decide +kernel
theorem dX1_closeGap_43 : decode cX1_closeGap 43 = .ok (.iload 5, 2) := by decide +kernel
theorem dX1_closeGap_45 : decode cX1_closeGap 45 = .ok (.iconst 1, 1) := by decide +kernel
theorem dX1_closeGap_46 : decode cX1_closeGap 46 = .ok (.isub, 1) := by decide +kernel
theorem dX1_closeGap_47 : decode cX1_closeGap 47 = .ok (.goto 5, 3) := by decide +kernel
theorem dX1_closeGap_50 : decode cX1_closeGap 50 = .ok (.iload 5, 2) := by decide +kernel
theorem dX1_closeGap_52 : decode cX1_closeGap 52 = .ok (.iload_n 3, 1) := by decide +kernel
theorem dX1_closeGap_53 : decode cX1_closeGap 53 = .ok (.invokestatic 66, 3) := by decide +kernel
theorem dX1_closeGap_56 : decode cX1_closeGap 56 = .ok (.iastore, 1) := by decide +kernel
theorem dX1_closeGap_57 : decode cX1_closeGap 57 = .ok (.iinc 4 1, 3) := by decide +kernel
theorem dX1_closeGap_60 : decode cX1_closeGap 60 = .ok (.goto (-57), 3) := by decide +kernel
theorem dX1_closeGap_63 : decode cX1_closeGap 63 = .ok (.return_, 1) := by decide +kernel
theorem dX1_hookAnew_0 : decode cX1_hookAnew 0 = .ok (.iconst 0, 1) := by decide +kernel
theorem dX1_hookAnew_1 : decode cX1_hookAnew 1 = .ok (.istore_n 3, 1) := by decide +kernel
theorem dX1_hookAnew_2 : decode cX1_hookAnew 2 = .ok (.iconst 0, 1) := by decide +kernel
theorem dX1_hookAnew_3 : decode cX1_hookAnew 3 = .ok (.istore 4, 2) := by decide +kernel
theorem dX1_hookAnew_5 : decode cX1_hookAnew 5 = .ok (.iload 4, 2) := by decide +kernel
theorem dX1_hookAnew_7 : decode cX1_hookAnew 7 = .ok (.aload_n 0, 1) := by decide +kernel
theorem dX1_hookAnew_8 : decode cX1_hookAnew 8 = .ok (.getfield 46, 3) := by decide +kernel
theorem dX1_hookAnew_11 : decode cX1_hookAnew 11 = .ok (.if_icmp .ge 91, 3) := by decide +kernel
theorem dX1_hookAnew_14 : decode cX1_hookAnew 14 = .ok (.aload_n 0, 1) := by decide +kernel
theorem dX1_hookAnew_15 : decode cX1_hookAnew 15 = .ok (.iload 4, 2) := by decide +kernel
theorem dX1_hookAnew_17 : decode cX1_hookAnew 17 = .ok (.iload_n 1, 1) := by decide +kernel
theorem dX1_hookAnew_18 : decode cX1_hookAnew 18 = .ok (.invokevirtual 62, 3) := by decide +kernel
theorem dX1_hookAnew_21 : decode cX1_hookAnew 21 = .ok (.ifCond .eq 75, 3) := by decide +kernel
theorem dX1_hookAnew_24 : decode cX1_hookAnew 24 = .ok (.aload_n 2, 1) := by decide +kernel
theorem dX1_hookAnew_25 : decode cX1_hookAnew 25 = .ok (.iload_n 1, 1) := by decide +kernel
theorem dX1_hookAnew_26 : decode cX1_hookAnew 26 = .ok (.aload_n 0, 1) := by decide +kernel
theorem dX1_hookAnew_27 : decode cX1_hookAnew 27 = .ok (.getfield 36, 3) := by decide +kernel
theorem dX1_hookAnew_30 : decode cX1_hookAnew 30 = .ok (.iload 4, 2) := by decide +kernel
theorem dX1_hookAnew_32 : decode cX1_hookAnew 32 = .ok (.iaload, 1) := by decide +kernel
theorem dX1_hookAnew_33 : decode cX1_hookAnew 33 = .ok (.aload_n 0, 1) := by decide +kernel
theorem dX1_hookAnew_34 : decode cX1_hookAnew 34 = .ok (.getfield 33, 3) := by decide +kernel
theorem dX1_hookAnew_37 : decode cX1_hookAnew 37 = .ok (.iload 4, 2) := by decide +kernel
theorem dX1_hookAnew_39 : decode cX1_hookAnew 39 = .ok (.iaload, 1) := by decide +kernel
theorem dX1_hookAnew_40 : decode cX1_hookAnew 40 = .ok (.invokevirtual 72, 3) := by decide +kernel
theorem dX1_hookAnew_43 : decode cX1_hookAnew 43 = .ok (.istore 5, 2) := by decide +kernel
theorem dX1_hookAnew_45 : decode cX1_hookAnew 45 = .ok (.iload 5, 2) := by decide +kernel
theorem dX1_hookAnew_47 : decode cX1_hookAnew 47 = .ok (.iconst (-1), 1) := by decide +kernel
theorem dX1_hookAnew_48 : decode cX1_hookAnew 48 = .ok (.if_icmp .ne 7, 3) := by decide +kernel
theorem dX1_hookAnew_51 : decode cX1_hookAnew 51 = .ok (.iconst 1, 1) := by decide +kernel
theorem dX1_hookAnew_52 : decode cX1_hookAnew 52 = .ok (.goto 4, 3) := by decide +kernel
theorem dX1_hookAnew_55 : decode cX1_hookAnew 55 = .ok (.iconst 0, 1) := by decide +kernel
theorem dX1_hookAnew_56 : decode cX1_hookAnew 56 = .ok (.istore 6, 2) := by decide +kernel
theorem dX1_hookAnew_58 : decode cX1_hookAnew 58 = .ok (.iload 6, 2) := by decide +kernel
theorem dX1_hookAnew_60 : decode cX1_hookAnew 60 = .ok (.ifCond .ne 12, 3) := by decide +kernel
theorem dX1_hookAnew_63 : decode cX1_hookAnew 63 = .ok (.aload_n 0, 1) := by decide +kernel
theorem dX1_hookAnew_64 : decode cX1_hookAnew 64 = .ok (.getfield 33, 3) := by decide +kernel
theorem dX1_hookAnew_67 : decode cX1_hookAnew 67 = .ok (.iload 4, 2) := by decide +kernel
theorem dX1_hookAnew_69 : decode cX1_hookAnew 69 = .ok (.iload 5, 2) := by decide +kernel
theorem dX1_hookAnew_71 : decode cX1_hookAnew 71 = .ok (.iastore, 1) := by decide +kernel
theorem dX1_hookAnew_72 : decode cX1_hookAnew 72 = .ok (.iload 6, 2) := by decide +kernel
theorem dX1_hookAnew_74 : decode cX1_hookAnew 74 = .ok (.aload_n 0, 1) := by decide +kernel
theorem dX1_hookAnew_75 : decode cX1_hookAnew 75 = .ok (.getfield 39, 3) := by decide +kernel
theorem dX1_hookAnew_78 : decode cX1_hookAnew 78 = .ok (.iload 4, 2) := by decide +kernel
theorem dX1_hookAnew_80 : decode cX1_hookAnew 80 = .ok (.baload, 1) := by decide +kernel
theorem dX1_hookAnew_81 : decode cX1_hookAnew 81 = .ok (.if_icmp .eq 15, 3) := by decide +kernel
theorem dX1_hookAnew_84 : decode cX1_hookAnew 84 = .ok (.aload_n 0, 1) := by decide +kernel
theorem dX1_hookAnew_85 : decode cX1_hookAnew 85 = .ok (.getfield 39, 3) := by decide +kernel
theorem dX1_hookAnew_88 : decode cX1_hookAnew 88 = .ok (.iload 4, 2) := by decide +kernel
theorem dX1_hookAnew_90 : decode cX1_hookAnew 90 = .ok (.iload 6, 2) := by decide +kernel
theorem dX1_hookAnew_92 : decode cX1_hookAnew 92 = .ok (.bastore, 1) := by decide +kernel
theorem dX1_hookAnew_93 : decode cX1_hookAnew 93 = .ok (.iinc 3 1, 3) := by decide +kernel
theorem dX1_hookAnew_96 : decode cX1_hookAnew 96 = .ok (.iinc 4 1, 3) := by decide +kernel
theorem dX1_hookAnew_99 : decode cX1_hookAnew 99 = .ok (.goto (-94), 3) := by decide +kernel
theorem dX1_hookAnew_102 : decode cX1_hookAnew 102 = .ok (.iload_n 3, 1) := by decide +kernel
theorem dX1_hookAnew_103 : decode cX1_hookAnew 103 = .ok (.ireturn, 1) := by decide +kernel
theorem dX1_stands_0 : decode cX1_stands 0 = .ok (.aload_n 0, 1) := by decide +kernel
theorem dX1_stands_1 : decode cX1_stands 1 = .ok (.invokevirtual 78, 3) := by decide +kernel
theorem dX1_stands_4 : decode cX1_stands 4 = .ok (.aload_n 0, 1) := by decide +kernel
theorem dX1_stands_5 : decode cX1_stands 5 = .ok (.iload_n 1, 1) := by decide +kernel
theorem dX1_stands_6 : decode cX1_stands 6 = .ok (.invokevirtual 81, 3) := by decide +kernel
theorem dX1_stands_9 : decode cX1_stands 9 = .ok (.ireturn, 1) := by decide +kernel
theorem dX1_weigh_0 : decode cX1_weigh 0 = .ok (.aload_n 0, 1) := by decide +kernel
theorem dX1_weigh_1 : decode cX1_weigh 1 = .ok (.getfield 43, 3) := by decide +kernel
theorem dX1_weigh_4 : decode cX1_weigh 4 = .ok (.iconst 0, 1) := by decide +kernel
theorem dX1_weigh_5 : decode cX1_weigh 5 = .ok (.invokestatic 84, 3) := by decide +kernel
theorem dX1_weigh_8 : decode cX1_weigh 8 = .ok (.aload_n 0, 1) := by decide +kernel
theorem dX1_weigh_9 : decode cX1_weigh 9 = .ok (.getfield 46, 3) := by decide +kernel
theorem dX1_weigh_12 : decode cX1_weigh 12 = .ok (.iconst 1, 1) := by decide +kernel
theorem dX1_weigh_13 : decode cX1_weigh 13 = .ok (.isub, 1) := by decide +kernel
theorem dX1_weigh_14 : decode cX1_weigh 14 = .ok (.istore_n 1, 1) := by decide +kernel
theorem dX1_weigh_15 : decode cX1_weigh 15 = .ok (.iload_n 1, 1) := by decide +kernel
theorem dX1_weigh_16 : decode cX1_weigh 16 = .ok (.ifCond .lt 50, 3) := by decide +kernel
theorem dX1_weigh_19 : decode cX1_weigh 19 = .ok (.aload_n 0, 1) := by decide +kernel
theorem dX1_weigh_20 : decode cX1_weigh 20 = .ok (.getfield 24, 3) := by decide +kernel
theorem dX1_weigh_23 : decode cX1_weigh 23 = .ok (.iload_n 1, 1) := by decide +kernel
theorem dX1_weigh_24 : decode cX1_weigh 24 = .ok (.iaload, 1) := by decide +kernel
theorem dX1_weigh_25 : decode cX1_weigh 25 = .ok (.istore_n 2, 1) := by decide +kernel
theorem dX1_weigh_26 : decode cX1_weigh 26 = .ok (.aload_n 0, 1) := by decide +kernel
theorem dX1_weigh_27 : decode cX1_weigh 27 = .ok (.iload_n 2, 1) := by decide +kernel
theorem dX1_weigh_28 : decode cX1_weigh 28 = .ok (.invokevirtual 54, 3) := by decide +kernel
theorem dX1_weigh_31 : decode cX1_weigh 31 = .ok (.ifCond .eq 29, 3) := by decide +kernel
theorem dX1_weigh_34 : decode cX1_weigh 34 = .ok (.aload_n 0, 1) := by decide +kernel
theorem dX1_weigh_35 : decode cX1_weigh 35 = .ok (.iload_n 1, 1) := by decide +kernel
theorem dX1_weigh_36 : decode cX1_weigh 36 = .ok (.invokevirtual 81, 3) := by decide +kernel
theorem dX1_weigh_39 : decode cX1_weigh 39 = .ok (.ifCond .eq 21, 3) := by decide +kernel
theorem dX1_weigh_42 : decode cX1_weigh 42 = .ok (.aload_n 0, 1) := by decide +kernel
theorem dX1_weigh_43 : decode cX1_weigh 43 = .ok (.getfield 43, 3) := by decide +kernel
theorem dX1_weigh_46 : decode cX1_weigh 46 = .ok (.iload_n 2, 1) := by decide +kernel
theorem dX1_weigh_47 : decode cX1_weigh 47 = .ok (.dup2, 1) := by decide +kernel
theorem dX1_weigh_48 : decode cX1_weigh 48 = .ok (.iaload, 1) := by decide +kernel
theorem dX1_weigh_49 : decode cX1_weigh 49 = .ok (.aload_n 0, 1) := by decide +kernel
theorem dX1_weigh_50 : decode cX1_weigh 50 = .ok (.getfield 15, 3) := by decide +kernel
theorem dX1_weigh_53 : decode cX1_weigh 53 = .ok (.iload_n 1, 1) := by decide +kernel
theorem dX1_weigh_54 : decode cX1_weigh 54 = .ok (.iaload, 1) := by decide +kernel
theorem dX1_weigh_55 : decode cX1_weigh 55 = .ok (.invokestatic 90, 3) := by decide +kernel
theorem dX1_weigh_58 : decode cX1_weigh 58 = .ok (.iadd, 1) := by decide +kernel
theorem dX1_weigh_59 : decode cX1_weigh 59 = .ok (.iastore, 1) := by decide +kernel
theorem dX1_weigh_60 : decode cX1_weigh 60 = .ok (.iinc 1 (-1), 3) := by decide +kernel
theorem dX1_weigh_63 : decode cX1_weigh 63 = .ok (.goto (-48), 3) := by decide +kernel
theorem dX1_weigh_66 : decode cX1_weigh 66 = .ok (.return_, 1) := by decide +kernel
theorem dX1_isLight_0 : decode cX1_isLight 0 = .ok (.aload_n 0, 1) := by decide +kernel
theorem dX1_isLight_1 : decode cX1_isLight 1 = .ok (.getfield 43, 3) := by decide +kernel
theorem dX1_isLight_4 : decode cX1_isLight 4 = .ok (.iload_n 1, 1) := by decide +kernel
theorem dX1_isLight_5 : decode cX1_isLight 5 = .ok (.invokestatic 58, 3) := by decide +kernel
theorem dX1_isLight_8 : decode cX1_isLight 8 = .ok (.iconst 1, 1) := by decide +kernel
theorem dX1_isLight_9 : decode cX1_isLight 9 = .ok (.if_icmp .ge 7, 3) := by decide +kernel
theorem dX1_isLight_12 : decode cX1_isLight 12 = .ok (.iconst 1, 1) := by decide +kernel
theorem dX1_isLight_13 : decode cX1_isLight 13 = .ok (.goto 4, 3) := by decide +kernel
theorem dX1_isLight_16 : decode cX1_isLight 16 = .ok (.iconst 0, 1) := by decide +kernel
theorem dX1_isLight_17 : decode cX1_isLight 17 = .ok (.ireturn, 1) := by decide +kernel
theorem dX1_burdenOf_0 : decode cX1_burdenOf 0 = .ok (.iload_n 0, 1) := by decide +kernel
theorem dX1_burdenOf_1 : decode cX1_burdenOf 1 = .ok (.iconst 1, 1) := by decide +kernel
theorem dX1_burdenOf_2 : decode cX1_burdenOf 2 = .ok (.if_icmp .eq 8, 3) := by decide +kernel
theorem dX1_burdenOf_5 : decode cX1_burdenOf 5 = .ok (.iload_n 0, 1) := by decide +kernel
theorem dX1_burdenOf_6 : decode cX1_burdenOf 6 = .ok (.iconst 3, 1) := by decide +kernel
theorem dX1_burdenOf_7 : decode cX1_burdenOf 7 = .ok (.if_icmp .ne 5, 3) := by decide +kernel
theorem dX1_burdenOf_10 : decode cX1_burdenOf 10 = .ok (.iconst 1, 1) := by decide +kernel
theorem dX1_burdenOf_11 : decode cX1_burdenOf 11 = .ok (.ireturn, 1) := by decide +kernel
theorem dX1_burdenOf_12 : decode cX1_burdenOf 12 = .ok (.iload_n 0, 1) := by decide +kernel
theorem dX1_burdenOf_13 : decode cX1_burdenOf 13 = .ok (.iconst 2, 1) := by decide +kernel
theorem dX1_burdenOf_14 : decode cX1_burdenOf 14 = .ok (.if_icmp .ne 7, 3) := by decide +kernel
theorem dX1_burdenOf_17 : decode cX1_burdenOf 17 = .ok (.iconst (-1), 1) := by decide +kernel
theorem dX1_burdenOf_18 : decode cX1_burdenOf 18 = .ok (.goto 4, 3) := by decide +kernel
theorem dX1_burdenOf_21 : decode cX1_burdenOf 21 = .ok (.iconst 0, 1) := by decide +kernel
theorem dX1_burdenOf_22 : decode cX1_burdenOf 22 = .ok (.ireturn, 1) := by decide +kernel
theorem dX2_init_0 : decode cX2_init 0 = .ok (.aload_n 0, 1) := by decide +kernel
theorem dX2_init_1 : decode cX2_init 1 = .ok (.invokespecial 3, 3) := by decide +kernel
theorem dX2_init_4 : decode cX2_init 4 = .ok (.aload_n 0, 1) := by decide +kernel
theorem dX2_init_5 : decode cX2_init 5 = .ok (.sipush 160, 3) := by decide +kernel
theorem dX2_init_8 : decode cX2_init 8 = .ok (.newarray .int, 2) := by decide +kernel
theorem dX2_init_10 : decode cX2_init 10 = .ok (.putfield 9, 3) := by decide +kernel
theorem dX2_init_13 : decode cX2_init 13 = .ok (.aload_n 0, 1) := by decide +kernel
theorem dX2_init_14 : decode cX2_init 14 = .ok (.bipush 8, 2) := by decide +kernel
theorem dX2_init_16 : decode cX2_init 16 = .ok (.newarray .int, 2) := by decide +kernel
theorem dX2_init_18 : decode cX2_init 18 = .ok (.putfield 15, 3) := by decide +kernel
theorem dX2_init_21 : decode cX2_init 21 = .ok (.aload_n 0, 1) := by decide +kernel
theorem dX2_init_22 : decode cX2_init 22 = .ok (.bipush 8, 2) := by decide +kernel
theorem dX2_init_24 : decode cX2_init 24 = .ok (.newarray .int, 2) := by decide +kernel
theorem dX2_init_26 : decode cX2_init 26 = .ok (.putfield 18, 3) := by decide +kernel
theorem dX2_init_29 : decode cX2_init 29 = .ok (.return_, 1) := by decide +kernel
theorem dX3_init_0 : decode cX3_init 0 = .ok (.aload_n 0, 1) := by decide +kernel
theorem dX3_init_1 : decode cX3_init 1 = .ok (.invokespecial 3, 3) := by decide +kernel
theorem dX3_init_4 : decode cX3_init 4 = .ok (.aload_n 0, 1) := by decide +kernel
theorem dX3_init_5 : decode cX3_init 5 = .ok (.sipush 240, 3) := by decide +kernel
theorem dX3_init_8 : decode cX3_init 8 = .ok (.newarray .int, 2) := by decide +kernel
theorem dX3_init_10 : decode cX3_init 10 = .ok (.putfield 9, 3) := by decide +kernel
theorem dX3_init_13 : decode cX3_init 13 = .ok (.return_, 1) := by decide +kernel
theorem dX4_init_0 : decode cX4_init 0 = .ok (.aload_n 0, 1) := by decide +kernel
theorem dX4_init_1 : decode cX4_init 1 = .ok (.invokespecial 3, 3) := by decide +kernel
theorem dX4_init_4 : decode cX4_init 4 = .ok (.aload_n 0, 1) := by decide +kernel
theorem dX4_init_5 : decode cX4_init 5 = .ok (.bipush 12, 2) := by decide +kernel
theorem dX4_init_7 : decode cX4_init 7 = .ok (.newarray .int, 2) := by decide +kernel
theorem dX4_init_9 : decode cX4_init 9 = .ok (.putfield 9, 3) := by decide +kernel
theorem dX4_init_12 : decode cX4_init 12 = .ok (.return_, 1) := by decide +kernel
theorem dX4_size_0 : decode cX4_size 0 = .ok (.aload_n 0, 1) := by decide +kernel
theorem dX4_size_1 : decode cX4_size 1 = .ok (.getfield 15, 3) := by decide +kernel
theorem dX4_size_4 : decode cX4_size 4 = .ok (.ireturn, 1) := by decide +kernel
theorem dX4_isFull_0 : decode cX4_isFull 0 = .ok (.aload_n 0, 1) := by decide +kernel
theorem dX4_isFull_1 : decode cX4_isFull 1 = .ok (.getfield 15, 3) := by decide +kernel
theorem dX4_isFull_4 : decode cX4_isFull 4 = .ok (.aload_n 0, 1) := by decide +kernel
theorem dX4_isFull_5 : decode cX4_isFull 5 = .ok (.getfield 9, 3) := by decide +kernel
theorem dX4_isFull_8 : decode cX4_isFull 8 = .ok (.arraylength, 1) := by decide +kernel
theorem dX4_isFull_9 : decode cX4_isFull 9 = .ok (.if_icmp .lt 7, 3) := by decide +kernel
theorem dX4_isFull_12 : decode cX4_isFull 12 = .ok (.iconst 1, 1) := by decide +kernel
theorem dX4_isFull_13 : decode cX4_isFull 13 = .ok (.goto 4, 3) := by decide +kernel
theorem dX4_isFull_16 : decode cX4_isFull 16 = .ok (.iconst 0, 1) := by decide +kernel
theorem dX4_isFull_17 : decode cX4_isFull 17 = .ok (.ireturn, 1) := by decide +kernel
theorem dX4_add_0 : decode cX4_add 0 = .ok (.aload_n 0, 1) := by decide +kernel
theorem dX4_add_1 : decode cX4_add 1 = .ok (.invokevirtual 19, 3) := by decide +kernel
theorem dX4_add_4 : decode cX4_add 4 = .ok (.ifCond .ne 23, 3) := by decide +kernel
theorem dX4_add_7 : decode cX4_add 7 = .ok (.aload_n 0, 1) := by decide +kernel
theorem dX4_add_8 : decode cX4_add 8 = .ok (.getfield 9, 3) := by decide +kernel
theorem dX4_add_11 : decode cX4_add 11 = .ok (.aload_n 0, 1) := by decide +kernel
theorem dX4_add_12 : decode cX4_add 12 = .ok (.getfield 15, 3) := by decide +kernel
theorem dX4_add_15 : decode cX4_add 15 = .ok (.iload_n 1, 1) := by decide +kernel
theorem dX4_add_16 : decode cX4_add 16 = .ok (.iastore, 1) := by decide +kernel
theorem dX4_add_17 : decode cX4_add 17 = .ok (.aload_n 0, 1) := by decide +kernel
theorem dX4_add_18 : decode cX4_add 18 = .ok (.dup, 1) := by decide +kernel
theorem dX4_add_19 : decode cX4_add 19 = .ok (.getfield 15, 3) := by decide +kernel
theorem dX4_add_22 : decode cX4_add 22 = .ok (.iconst 1, 1) := by decide +kernel
theorem dX4_add_23 : decode cX4_add 23 = .ok (.iadd, 1) := by decide +kernel
theorem dX4_add_24 : decode cX4_add 24 = .ok (.putfield 15, 3) := by decide +kernel
theorem dX4_add_27 : decode cX4_add 27 = .ok (.return_, 1) := by decide +kernel
theorem dX4_clear_0 : decode cX4_clear 0 = .ok (.aload_n 0, 1) := by decide +kernel
theorem dX4_clear_1 : decode cX4_clear 1 = .ok (.iconst 0, 1) := by decide +kernel
theorem dX4_clear_2 : decode cX4_clear 2 = .ok (.putfield 15, 3) := by decide +kernel
theorem dX4_clear_5 : decode cX4_clear 5 = .ok (.return_, 1) := by decide +kernel
theorem dX4_wordAt_0 : decode cX4_wordAt 0 = .ok (.iload_n 1, 1) := by decide +kernel
theorem dX4_wordAt_1 : decode cX4_wordAt 1 = .ok (.aload_n 0, 1) := by decide +kernel
theorem dX4_wordAt_2 : decode cX4_wordAt 2 = .ok (.getfield 15, 3) := by decide +kernel
theorem dX4_wordAt_5 : decode cX4_wordAt 5 = .ok (.if_icmp .ge 14, 3) := by decide +kernel
theorem dX4_wordAt_8 : decode cX4_wordAt 8 = .ok (.aload_n 0, 1) := by decide +kernel
theorem dX4_wordAt_9 : decode cX4_wordAt 9 = .ok (.getfield 9, 3) := by decide +kernel
theorem dX4_wordAt_12 : decode cX4_wordAt 12 = .ok (.iload_n 1, 1) := by decide +kernel
theorem dX4_wordAt_13 : decode cX4_wordAt 13 = .ok (.invokestatic 23, 3) := by decide +kernel
theorem dX4_wordAt_16 : decode cX4_wordAt 16 = .ok (.goto 4, 3) := by decide +kernel
theorem dX4_wordAt_19 : decode cX4_wordAt 19 = .ok (.iconst (-1), 1) := by decide +kernel
theorem dX4_wordAt_20 : decode cX4_wordAt 20 = .ok (.ireturn, 1) := by decide +kernel
theorem dX5_init_0 : decode cX5_init 0 = .ok (.aload_n 0, 1) := by decide +kernel
theorem dX5_init_1 : decode cX5_init 1 = .ok (.invokespecial 3, 3) := by decide +kernel
theorem dX5_init_4 : decode cX5_init 4 = .ok (.aload_n 0, 1) := by decide +kernel
theorem dX5_init_5 : decode cX5_init 5 = .ok (.bipush 10, 2) := by decide +kernel
theorem dX5_init_7 : decode cX5_init 7 = .ok (.newarray .int, 2) := by decide +kernel
theorem dX5_init_9 : decode cX5_init 9 = .ok (.putfield 9, 3) := by decide +kernel
theorem dX5_init_12 : decode cX5_init 12 = .ok (.aload_n 0, 1) := by decide +kernel
theorem dX5_init_13 : decode cX5_init 13 = .ok (.bipush 10, 2) := by decide +kernel
theorem dX5_init_15 : decode cX5_init 15 = .ok (.newarray .int, 2) := by decide +kernel
theorem dX5_init_17 : decode cX5_init 17 = .ok (.putfield 15, 3) := by decide +kernel
theorem dX5_init_20 : decode cX5_init 20 = .ok (.aload_n 0, 1) := by decide +kernel
theorem dX5_init_21 : decode cX5_init 21 = .ok (.bipush 6, 2) := by decide +kernel
theorem dX5_init_23 : decode cX5_init 23 = .ok (.newarray .int, 2) := by decide +kernel
theorem dX5_init_25 : decode cX5_init 25 = .ok (.putfield 18, 3) := by decide +kernel
theorem dX5_init_28 : decode cX5_init 28 = .ok (.aload_n 0, 1) := by decide +kernel
theorem dX5_init_29 : decode cX5_init 29 = .ok (.bipush 6, 2) := by decide +kernel
theorem dX5_init_31 : decode cX5_init 31 = .ok (.newarray .int, 2) := by decide +kernel
theorem dX5_init_33 : decode cX5_init 33 = .ok (.putfield 21, 3) := by decide +kernel
theorem dX5_init_36 : decode cX5_init 36 = .ok (.return_, 1) := by decide +kernel
theorem dX6_init_0 : decode cX6_init 0 = .ok (.aload_n 0, 1) := by decide +kernel
theorem dX6_init_1 : decode cX6_init 1 = .ok (.invokespecial 3, 3) := by decide +kernel
theorem dX6_init_4 : decode cX6_init 4 = .ok (.aload_n 0, 1) := by decide +kernel
theorem dX6_init_5 : decode cX6_init 5 = .ok (.new 9, 3) := by decide +kernel
theorem dX6_init_8 : decode cX6_init 8 = .ok (.dup, 1) := by decide +kernel
theorem dX6_init_9 : decode cX6_init 9 = .ok (.invokespecial 11, 3) := by decide +kernel
theorem dX6_init_12 : decode cX6_init 12 = .ok (.putfield 12, 3) := by decide +kernel
theorem dX6_init_15 : decode cX6_init 15 = .ok (.aload_n 0, 1) := by decide +kernel
theorem dX6_init_16 : decode cX6_init 16 = .ok (.new 9, 3) := by decide +kernel
theorem dX6_init_19 : decode cX6_init 19 = .ok (.dup, 1) := by decide +kernel
theorem dX6_init_20 : decode cX6_init 20 = .ok (.invokespecial 11, 3) := by decide +kernel
theorem dX6_init_23 : decode cX6_init 23 = .ok (.putfield 18, 3) := by decide +kernel
theorem dX6_init_26 : decode cX6_init 26 = .ok (.aload_n 0, 1) := by decide +kernel
theorem dX6_init_27 : decode cX6_init 27 = .ok (.sipush 240, 3) := by decide +kernel
theorem dX6_init_30 : decode cX6_init 30 = .ok (.newarray .int, 2) := by decide +kernel
theorem dX6_init_32 : decode cX6_init 32 = .ok (.putfield 21, 3) := by decide +kernel
theorem dX6_init_35 : decode cX6_init 35 = .ok (.return_, 1) := by decide +kernel
theorem dX7_init_0 : decode cX7_init 0 = .ok (.aload_n 0, 1) := by decide +kernel
theorem dX7_init_1 : decode cX7_init 1 = .ok (.invokespecial 3, 3) := by decide +kernel
theorem dX7_init_4 : decode cX7_init 4 = .ok (.aload_n 0, 1) := by decide +kernel
theorem dX7_init_5 : decode cX7_init 5 = .ok (.sipush 240, 3) := by decide +kernel
theorem dX7_init_8 : decode cX7_init 8 = .ok (.newarray .int, 2) := by decide +kernel
theorem dX7_init_10 : decode cX7_init 10 = .ok (.putfield 9, 3) := by decide +kernel
theorem dX7_init_13 : decode cX7_init 13 = .ok (.aload_n 0, 1) := by decide +kernel
theorem dX7_init_14 : decode cX7_init 14 = .ok (.bipush 20, 2) := by decide +kernel
theorem dX7_init_16 : decode cX7_init 16 = .ok (.newarray .int, 2) := by decide +kernel
theorem dX7_init_18 : decode cX7_init 18 = .ok (.putfield 15, 3) := by decide +kernel
theorem dX7_init_21 : decode cX7_init 21 = .ok (.aload_n 0, 1) := by decide +kernel
theorem dX7_init_22 : decode cX7_init 22 = .ok (.bipush 13, 2) := by decide +kernel
theorem dX7_init_24 : decode cX7_init 24 = .ok (.newarray .int, 2) := by decide +kernel
theorem dX7_init_26 : decode cX7_init 26 = .ok (.putfield 18, 3) := by decide +kernel
theorem dX7_init_29 : decode cX7_init 29 = .ok (.return_, 1) := by decide +kernel
theorem dX7_count_0 : decode cX7_count 0 = .ok (.aload_n 0, 1) := by decide +kernel
theorem dX7_count_1 : decode cX7_count 1 = .ok (.getfield 21, 3) := by decide +kernel
theorem dX7_count_4 : decode cX7_count 4 = .ok (.ireturn, 1) := by decide +kernel
theorem dX7_isFull_0 : decode cX7_isFull 0 = .ok (.aload_n 0, 1) := by decide +kernel
theorem dX7_isFull_1 : decode cX7_isFull 1 = .ok (.getfield 21, 3) := by decide +kernel
theorem dX7_isFull_4 : decode cX7_isFull 4 = .ok (.aload_n 0, 1) := by decide +kernel
theorem dX7_isFull_5 : decode cX7_isFull 5 = .ok (.getfield 15, 3) := by decide +kernel
theorem dX7_isFull_8 : decode cX7_isFull 8 = .ok (.arraylength, 1) := by decide +kernel
theorem dX7_isFull_9 : decode cX7_isFull 9 = .ok (.if_icmp .lt 7, 3) := by decide +kernel
theorem dX7_isFull_12 : decode cX7_isFull 12 = .ok (.iconst 1, 1) := by decide +kernel
theorem dX7_isFull_13 : decode cX7_isFull 13 = .ok (.goto 4, 3) := by decide +kernel
theorem dX7_isFull_16 : decode cX7_isFull 16 = .ok (.iconst 0, 1) := by decide +kernel
theorem dX7_isFull_17 : decode cX7_isFull 17 = .ok (.ireturn, 1) := by decide +kernel
theorem dX7_has_0 : decode cX7_has 0 = .ok (.iload_n 1, 1) := by decide +kernel
theorem dX7_has_1 : decode cX7_has 1 = .ok (.ifCond .lt 15, 3) := by decide +kernel
theorem dX7_has_4 : decode cX7_has 4 = .ok (.iload_n 1, 1) := by decide +kernel
theorem dX7_has_5 : decode cX7_has 5 = .ok (.aload_n 0, 1) := by decide +kernel
theorem dX7_has_6 : decode cX7_has 6 = .ok (.getfield 21, 3) := by decide +kernel
theorem dX7_has_9 : decode cX7_has 9 = .ok (.if_icmp .ge 7, 3) := by decide +kernel
theorem dX7_has_12 : decode cX7_has 12 = .ok (.iconst 1, 1) := by decide +kernel
theorem dX7_has_13 : decode cX7_has 13 = .ok (.goto 4, 3) := by decide +kernel
theorem dX7_has_16 : decode cX7_has 16 = .ok (.iconst 0, 1) := by decide +kernel
theorem dX7_has_17 : decode cX7_has 17 = .ok (.ireturn, 1) := by decide +kernel
theorem dX7_hasPlace_0 : decode cX7_hasPlace 0 = .ok (.iload_n 2, 1) := by decide +kernel
theorem dX7_hasPlace_1 : decode cX7_hasPlace 1 = .ok (.ifCond .lt 16, 3) := by decide +kernel
theorem dX7_hasPlace_4 : decode cX7_hasPlace 4 = .ok (.iload_n 2, 1) := by decide +kernel
theorem dX7_hasPlace_5 : decode cX7_hasPlace 5 = .ok (.aload_n 0, 1) := by decide +kernel
theorem dX7_hasPlace_6 : decode cX7_hasPlace 6 = .ok (.iload_n 1, 1) := by decide +kernel
theorem dX7_hasPlace_7 : decode cX7_hasPlace 7 = .ok (.invokevirtual 25, 3) := by decide +kernel
theorem dX7_hasPlace_10 : decode cX7_hasPlace 10 = .ok (.if_icmp .ge 7, 3) := by decide +kernel
theorem dX7_hasPlace_13 : decode cX7_hasPlace 13 = .ok (.iconst 1, 1) := by decide +kernel
theorem dX7_hasPlace_14 : decode cX7_hasPlace 14 = .ok (.goto 4, 3) := by decide +kernel
theorem dX7_hasPlace_17 : decode cX7_hasPlace 17 = .ok (.iconst 0, 1) := by decide +kernel
theorem dX7_hasPlace_18 : decode cX7_hasPlace 18 = .ok (.ireturn, 1) := by decide +kernel
theorem dX7_sizeOf_0 : decode cX7_sizeOf 0 = .ok (.aload_n 0, 1) := by decide +kernel
theorem dX7_sizeOf_1 : decode cX7_sizeOf 1 = .ok (.iload_n 1, 1) := by decide +kernel
theorem dX7_sizeOf_2 : decode cX7_sizeOf 2 = .ok (.invokevirtual 29, 3) := by decide +kernel
theorem dX7_sizeOf_5 : decode cX7_sizeOf 5 = .ok (.ifCond .eq 12, 3) := by decide +kernel
theorem dX7_sizeOf_8 : decode cX7_sizeOf 8 = .ok (.aload_n 0, 1) := by decide +kernel
theorem dX7_sizeOf_9 : decode cX7_sizeOf 9 = .ok (.getfield 15, 3) := by decide +kernel
theorem dX7_sizeOf_12 : decode cX7_sizeOf 12 = .ok (.iload_n 1, 1) := by decide +kernel
theorem dX7_sizeOf_13 : decode cX7_sizeOf 13 = .ok (.iaload, 1) := by decide +kernel
theorem dX7_sizeOf_14 : decode cX7_sizeOf 14 = .ok (.goto 4, 3) := by decide +kernel
theorem dX7_sizeOf_17 : decode cX7_sizeOf 17 = .ok (.iconst 0, 1) := by decide +kernel
theorem dX7_sizeOf_18 : decode cX7_sizeOf 18 = .ok (.ireturn, 1) := by decide +kernel
theorem dX7_wordAt_0 : decode cX7_wordAt 0 = .ok (.aload_n 0, 1) := by decide +kernel
theorem dX7_wordAt_1 : decode cX7_wordAt 1 = .ok (.iload_n 1, 1) := by decide +kernel
theorem dX7_wordAt_2 : decode cX7_wordAt 2 = .ok (.iload_n 2, 1) := by decide +kernel
theorem dX7_wordAt_3 : decode cX7_wordAt 3 = .ok (.invokevirtual 33, 3) := by decide +kernel
theorem dX7_wordAt_6 : decode cX7_wordAt 6 = .ok (.ifCond .eq 17, 3) := by decide +kernel
theorem dX7_wordAt_9 : decode cX7_wordAt 9 = .ok (.aload_n 0, 1) := by decide +kernel
theorem dX7_wordAt_10 : decode cX7_wordAt 10 = .ok (.getfield 9, 3) := by decide +kernel
theorem dX7_wordAt_13 : decode cX7_wordAt 13 = .ok (.iload_n 1, 1) := by decide +kernel
theorem dX7_wordAt_14 : decode cX7_wordAt 14 = .ok (.bipush 12, 2) := by decide +kernel
theorem dX7_wordAt_16 : decode cX7_wordAt 16 = .ok (.imul, 1) := by decide +kernel
theorem dX7_wordAt_17 : decode cX7_wordAt 17 = .ok (.iload_n 2, 1) := by decide +kernel
theorem dX7_wordAt_18 : decode cX7_wordAt 18 = .ok (.iadd, 1) := by decide +kernel
theorem dX7_wordAt_19 : decode cX7_wordAt 19 = .ok (.iaload, 1) := by decide +kernel
theorem dX7_wordAt_20 : decode cX7_wordAt 20 = .ok (.goto 4, 3) := by decide +kernel
theorem dX7_wordAt_23 : decode cX7_wordAt 23 = .ok (.iconst (-1), 1) := by decide +kernel
theorem dX7_wordAt_24 : decode cX7_wordAt 24 = .ok (.ireturn, 1) := by decide +kernel
theorem dX7_put_0 : decode cX7_put 0 = .ok (.aload_n 0, 1) := by decide +kernel
theorem dX7_put_1 : decode cX7_put 1 = .ok (.iload_n 1, 1) := by decide +kernel
theorem dX7_put_2 : decode cX7_put 2 = .ok (.iload_n 2, 1) := by decide +kernel
theorem dX7_put_3 : decode cX7_put 3 = .ok (.invokevirtual 33, 3) := by decide +kernel
theorem dX7_put_6 : decode cX7_put 6 = .ok (.ifCond .eq 15, 3) := by decide +kernel
theorem dX7_put_9 : decode cX7_put 9 = .ok (.aload_n 0, 1) := by decide +kernel
theorem dX7_put_10 : decode cX7_put 10 = .ok (.getfield 9, 3) := by decide +kernel
theorem dX7_put_13 : decode cX7_put 13 = .ok (.iload_n 1, 1) := by decide +kernel
theorem dX7_put_14 : decode cX7_put 14 = .ok (.bipush 12, 2) := by decide +kernel
theorem dX7_put_16 : decode cX7_put 16 = .ok (.imul, 1) := by decide +kernel
theorem dX7_put_17 : decode cX7_put 17 = .ok (.iload_n 2, 1) := by decide +kernel
theorem dX7_put_18 : decode cX7_put 18 = .ok (.iadd, 1) := by decide +kernel
theorem dX7_put_19 : decode cX7_put 19 = .ok (.iload_n 3, 1) := by decide +kernel
theorem dX7_put_20 : decode cX7_put 20 = .ok (.iastore, 1) := by decide +kernel
theorem dX7_put_21 : decode cX7_put 21 = .ok (.return_, 1) := by decide +kernel
theorem dX7_add_0 : decode cX7_add 0 = .ok (.aload_n 0, 1) := by decide +kernel
theorem dX7_add_1 : decode cX7_add 1 = .ok (.invokevirtual 37, 3) := by decide +kernel
theorem dX7_add_4 : decode cX7_add 4 = .ok (.ifCond .eq 4, 3) := by decide +kernel
theorem dX7_add_7 : decode cX7_add 7 = .ok (.return_, 1) := by decide +kernel
theorem dX7_add_8 : decode cX7_add 8 = .ok (.aload_n 0, 1) := by decide +kernel
theorem dX7_add_9 : decode cX7_add 9 = .ok (.getfield 21, 3) := by decide +kernel
theorem dX7_add_12 : decode cX7_add 12 = .ok (.istore_n 2, 1) := by decide +kernel
theorem dX7_add_13 : decode cX7_add 13 = .ok (.aload_n 0, 1) := by decide +kernel
theorem dX7_add_14 : decode cX7_add 14 = .ok (.dup, 1) := by decide +kernel
theorem dX7_add_15 : decode cX7_add 15 = .ok (.getfield 21, 3) := by decide +kernel
theorem dX7_add_18 : decode cX7_add 18 = .ok (.iconst 1, 1) := by decide +kernel
theorem dX7_add_19 : decode cX7_add 19 = .ok (.iadd, 1) := by decide +kernel
theorem dX7_add_20 : decode cX7_add 20 = .ok (.putfield 21, 3) := by decide +kernel
theorem dX7_add_23 : decode cX7_add 23 = .ok (.aload_n 0, 1) := by decide +kernel
theorem dX7_add_24 : decode cX7_add 24 = .ok (.getfield 15, 3) := by decide +kernel
theorem dX7_add_27 : decode cX7_add 27 = .ok (.iload_n 2, 1) := by decide +kernel
theorem dX7_add_28 : decode cX7_add 28 = .ok (.aload_n 1, 1) := by decide +kernel
theorem dX7_add_29 : decode cX7_add 29 = .ok (.invokevirtual 41, 3) := by decide +kernel
theorem dX7_add_32 : decode cX7_add 32 = .ok (.iastore, 1) := by decide +kernel
theorem dX7_add_33 : decode cX7_add 33 = .ok (.iconst 0, 1) := by decide +kernel
theorem dX7_add_34 : decode cX7_add 34 = .ok (.istore_n 3, 1) := by decide +kernel
theorem dX7_add_35 : decode cX7_add 35 = .ok (.iload_n 3, 1) := by decide +kernel
theorem dX7_add_36 : decode cX7_add 36 = .ok (.aload_n 1, 1) := by decide +kernel
theorem dX7_add_37 : decode cX7_add 37 = .ok (.invokevirtual 41, 3) := by decide +kernel
theorem dX7_add_40 : decode cX7_add 40 = .ok (.if_icmp .ge 20, 3) := by decide +kernel
theorem dX7_add_43 : decode cX7_add 43 = .ok (.aload_n 0, 1) := by decide +kernel
theorem dX7_add_44 : decode cX7_add 44 = .ok (.iload_n 2, 1) := by decide +kernel
theorem dX7_add_45 : decode cX7_add 45 = .ok (.iload_n 3, 1) := by decide +kernel
theorem dX7_add_46 : decode cX7_add 46 = .ok (.aload_n 1, 1) := by decide +kernel
theorem dX7_add_47 : decode cX7_add 47 = .ok (.iload_n 3, 1) := by decide +kernel
theorem dX7_add_48 : decode cX7_add 48 = .ok (.invokevirtual 47, 3) := by decide +kernel
theorem dX7_add_51 : decode cX7_add 51 = .ok (.invokevirtual 50, 3) := by decide +kernel
theorem dX7_add_54 : decode cX7_add 54 = .ok (.iinc 3 1, 3) := by decide +kernel
theorem dX7_add_57 : decode cX7_add 57 = .ok (.goto (-22), 3) := by decide +kernel
theorem dX7_add_60 : decode cX7_add 60 = .ok (.return_, 1) := by decide +kernel
theorem dX7_takeOut_0 : decode cX7_takeOut 0 = .ok (.aload_n 0, 1) := by decide +kernel
theorem dX7_takeOut_1 : decode cX7_takeOut 1 = .ok (.iload_n 1, 1) := by decide +kernel
theorem dX7_takeOut_2 : decode cX7_takeOut 2 = .ok (.iload_n 2, 1) := by decide +kernel
theorem dX7_takeOut_3 : decode cX7_takeOut 3 = .ok (.invokevirtual 33, 3) := by decide +kernel
theorem dX7_takeOut_6 : decode cX7_takeOut 6 = .ok (.ifCond .ne 4, 3) := by decide +kernel
theorem dX7_takeOut_9 : decode cX7_takeOut 9 = .ok (.return_, 1) := by decide +kernel
theorem dX7_takeOut_10 : decode cX7_takeOut 10 = .ok (.iload_n 2, 1) := by decide +kernel
theorem dX7_takeOut_11 : decode cX7_takeOut 11 = .ok (.istore_n 3, 1) := by decide +kernel
theorem dX7_takeOut_12 : decode cX7_takeOut 12 = .ok (.iload_n 3, 1) := by decide +kernel
theorem dX7_takeOut_13 : decode cX7_takeOut 13 = .ok (.iconst 1, 1) := by decide +kernel
theorem dX7_takeOut_14 : decode cX7_takeOut 14 = .ok (.iadd, 1) := by decide +kernel
theorem dX7_takeOut_15 : decode cX7_takeOut 15 = .ok (.aload_n 0, 1) := by decide +kernel
theorem dX7_takeOut_16 : decode cX7_takeOut 16 = .ok (.getfield 15, 3) := by decide +kernel
theorem dX7_takeOut_19 : decode cX7_takeOut 19 = .ok (.iload_n 1, 1) := by decide +kernel
theorem dX7_takeOut_20 : decode cX7_takeOut 20 = .ok (.iaload, 1) := by decide +kernel
theorem dX7_takeOut_21 : decode cX7_takeOut 21 = .ok (.if_icmp .ge 23, 3) := by decide +kernel
theorem dX7_takeOut_24 : decode cX7_takeOut 24 = .ok (.aload_n 0, 1) := by decide +kernel
theorem dX7_takeOut_25 : decode cX7_takeOut 25 = .ok (.iload_n 1, 1) := by decide +kernel
theorem dX7_takeOut_26 : decode cX7_takeOut 26 = .ok (.iload_n 3, 1) := by decide +kernel
theorem dX7_takeOut_27 : decode cX7_takeOut 27 = .ok (.aload_n 0, 1) := by decide +kernel
theorem dX7_takeOut_28 : decode cX7_takeOut 28 = .ok (.iload_n 1, 1) := by decide +kernel
theorem dX7_takeOut_29 : decode cX7_takeOut 29 = .ok (.iload_n 3, 1) := by decide +kernel
theorem dX7_takeOut_30 : decode cX7_takeOut 30 = .ok (.iconst 1, 1) := by decide +kernel
theorem dX7_takeOut_31 : decode cX7_takeOut 31 = .ok (.iadd, 1) := by decide +kernel
theorem dX7_takeOut_32 : decode cX7_takeOut 32 = .ok (.invokevirtual 54, 3) := by decide +kernel
theorem dX7_takeOut_35 : decode cX7_takeOut 35 = .ok (.invokevirtual 50, 3) := by decide +kernel
theorem dX7_takeOut_38 : decode cX7_takeOut 38 = .ok (.iinc 3 1, 3) := by decide +kernel
theorem dX7_takeOut_41 : decode cX7_takeOut 41 = .ok (.goto (-29), 3) := by decide +kernel
theorem dX7_takeOut_44 : decode cX7_takeOut 44 = .ok (.aload_n 0, 1) := by decide +kernel
theorem dX7_takeOut_45 : decode cX7_takeOut 45 = .ok (.getfield 15, 3) := by decide +kernel
theorem dX7_takeOut_48 : decode cX7_takeOut 48 = .ok (.iload_n 1, 1) := by decide +kernel
theorem dX7_takeOut_49 : decode cX7_takeOut 49 = .ok (.dup2, 1) := by decide +kernel
theorem dX7_takeOut_50 : decode cX7_takeOut 50 = .ok (.iaload, 1) := by decide +kernel
theorem dX7_takeOut_51 : decode cX7_takeOut 51 = .ok (.iconst 1, 1) := by decide +kernel
theorem dX7_takeOut_52 : decode cX7_takeOut 52 = .ok (.isub, 1) := by decide +kernel
theorem dX7_takeOut_53 : decode cX7_takeOut 53 = .ok (.iastore, 1) := by decide +kernel
theorem dX7_takeOut_54 : decode cX7_takeOut 54 = .ok (.return_, 1) := by decide +kernel
theorem dX7_placeOf_0 : decode cX7_placeOf 0 = .ok (.iconst 0, 1) := by decide +kernel
theorem dX7_placeOf_1 : decode cX7_placeOf 1 = .ok (.istore 4, 2) := by decide +kernel
theorem dX7_placeOf_3 : decode cX7_placeOf 3 = .ok (.iconst 0, 1) := by decide +kernel
theorem dX7_placeOf_4 : decode cX7_placeOf 4 = .ok (.istore 5, 2) := by decide +kernel
theorem dX7_placeOf_6 : decode cX7_placeOf 6 = .ok (.iload 5, 2) := by decide +kernel
theorem dX7_placeOf_8 : decode cX7_placeOf 8 = .ok (.aload_n 0, 1) := by decide +kernel
theorem dX7_placeOf_9 : decode cX7_placeOf 9 = .ok (.iload_n 1, 1) := by decide +kernel
theorem dX7_placeOf_10 : decode cX7_placeOf 10 = .ok (.invokevirtual 25, 3) := by decide +kernel
theorem dX7_placeOf_13 : decode cX7_placeOf 13 = .ok (.if_icmp .ge 32, 3) := by decide +kernel
theorem dX7_placeOf_16 : decode cX7_placeOf 16 = .ok (.aload_n 0, 1) := by decide +kernel
theorem dX7_placeOf_17 : decode cX7_placeOf 17 = .ok (.iload_n 1, 1) := by decide +kernel
theorem dX7_placeOf_18 : decode cX7_placeOf 18 = .ok (.iload 5, 2) := by decide +kernel
theorem dX7_placeOf_20 : decode cX7_placeOf 20 = .ok (.invokevirtual 54, 3) := by decide +kernel
theorem dX7_placeOf_23 : decode cX7_placeOf 23 = .ok (.iload_n 2, 1) := by decide +kernel
theorem dX7_placeOf_24 : decode cX7_placeOf 24 = .ok (.if_icmp .ne 15, 3) := by decide +kernel
theorem dX7_placeOf_27 : decode cX7_placeOf 27 = .ok (.iinc 4 1, 3) := by decide +kernel
theorem dX7_placeOf_30 : decode cX7_placeOf 30 = .ok (.iload 4, 2) := by decide +kernel
theorem dX7_placeOf_32 : decode cX7_placeOf 32 = .ok (.iload_n 3, 1) := by decide +kernel
theorem dX7_placeOf_33 : decode cX7_placeOf 33 = .ok (.if_icmp .ne 6, 3) := by decide +kernel
theorem dX7_placeOf_36 : decode cX7_placeOf 36 = .ok (.iload 5, 2) := by decide +kernel
theorem dX7_placeOf_38 : decode cX7_placeOf 38 = .ok (.ireturn, 1) := by decide +kernel
theorem dX7_placeOf_39 : decode cX7_placeOf 39 = .ok (.iinc 5 1, 3) := by decide +kernel
theorem dX7_placeOf_42 : decode cX7_placeOf 42 = .ok (.goto (-36), 3) := by decide +kernel
theorem dX7_placeOf_45 : decode cX7_placeOf 45 = .ok (.iconst (-1), 1) := by decide +kernel
theorem dX7_placeOf_46 : decode cX7_placeOf 46 = .ok (.ireturn, 1) := by decide +kernel
theorem dX7_nearest_0 : decode cX7_nearest 0 = .ok (.iconst (-1), 1) := by decide +kernel
theorem dX7_nearest_1 : decode cX7_nearest 1 = .ok (.istore 4, 2) := by decide +kernel
theorem dX7_nearest_3 : decode cX7_nearest 3 = .ok (.iconst 0, 1) := by decide +kernel
theorem dX7_nearest_4 : decode cX7_nearest 4 = .ok (.istore 5, 2) := by decide +kernel
theorem dX7_nearest_6 : decode cX7_nearest 6 = .ok (.iload 5, 2) := by decide +kernel
theorem dX7_nearest_8 : decode cX7_nearest 8 = .ok (.aload_n 0, 1) := by decide +kernel
theorem dX7_nearest_9 : decode cX7_nearest 9 = .ok (.iload_n 1, 1) := by decide +kernel
theorem dX7_nearest_10 : decode cX7_nearest 10 = .ok (.invokevirtual 25, 3) := by decide +kernel
theorem dX7_nearest_13 : decode cX7_nearest 13 = .ok (.if_icmp .ge 47, 3) := by decide +kernel
theorem dX7_nearest_16 : decode cX7_nearest 16 = .ok (.aload_n 0, 1) := by decide +kernel
theorem dX7_nearest_17 : decode cX7_nearest 17 = .ok (.iload_n 1, 1) := by decide +kernel
theorem dX7_nearest_18 : decode cX7_nearest 18 = .ok (.iload 5, 2) := by decide +kernel
theorem dX7_nearest_20 : decode cX7_nearest 20 = .ok (.invokevirtual 54, 3) := by decide +kernel
theorem dX7_nearest_23 : decode cX7_nearest 23 = .ok (.iload_n 2, 1) := by decide +kernel
theorem dX7_nearest_24 : decode cX7_nearest 24 = .ok (.if_icmp .ne 30, 3) := by decide +kernel
theorem dX7_nearest_27 : decode cX7_nearest 27 = .ok (.iload 4, 2) := by decide +kernel
theorem dX7_nearest_29 : decode cX7_nearest 29 = .ok (.iconst (-1), 1) := by decide +kernel
theorem dX7_nearest_30 : decode cX7_nearest 30 = .ok (.if_icmp .eq 20, 3) := by decide +kernel
theorem dX7_nearest_33 : decode cX7_nearest 33 = .ok (.iload 5, 2) := by decide +kernel
theorem dX7_nearest_35 : decode cX7_nearest 35 = .ok (.iload_n 3, 1) := by decide +kernel
theorem dX7_nearest_36 : decode cX7_nearest 36 = .ok (.isub, 1) := by decide +kernel
theorem dX7_nearest_37 : decode cX7_nearest 37 = .ok (.invokestatic 57, 3) := by decide +kernel
theorem dX7_nearest_40 : decode cX7_nearest 40 = .ok (.iload 4, 2) := by decide +kernel
theorem dX7_nearest_42 : decode cX7_nearest 42 = .ok (.iload_n 3, 1) := by decide +kernel
theorem dX7_nearest_43 : decode cX7_nearest 43 = .ok (.isub, 1) := by decide +kernel
theorem dX7_nearest_44 : decode cX7_nearest 44 = .ok (.invokestatic 57, 3) := by decide +kernel
theorem dX7_nearest_47 : decode cX7_nearest 47 = .ok (.if_icmp .ge 7, 3) := by decide +kernel
theorem dX7_nearest_50 : decode cX7_nearest 50 = .ok (.iload 5, 2) := by decide +kernel
theorem dX7_nearest_52 : decode cX7_nearest 52 = .ok (.istore 4, 2) := by decide +kernel
theorem dX7_nearest_54 : decode cX7_nearest 54 = .ok (.iinc 5 1, 3) := by decide +kernel
theorem dX7_nearest_57 : decode cX7_nearest 57 = .ok (.goto (-51), 3) := by decide +kernel
theorem dX7_nearest_60 : decode cX7_nearest 60 = .ok (.iload 4, 2) := by decide +kernel
theorem dX7_nearest_62 : decode cX7_nearest 62 = .ok (.ireturn, 1) := by decide +kernel
theorem dX8_init_0 : decode cX8_init 0 = .ok (.aload_n 0, 1) := by decide +kernel
theorem dX8_init_1 : decode cX8_init 1 = .ok (.invokespecial 3, 3) := by decide +kernel
theorem dX8_init_4 : decode cX8_init 4 = .ok (.aload_n 0, 1) := by decide +kernel
theorem dX8_init_5 : decode cX8_init 5 = .ok (.new 9, 3) := by decide +kernel
theorem dX8_init_8 : decode cX8_init 8 = .ok (.dup, 1) := by decide +kernel
theorem dX8_init_9 : decode cX8_init 9 = .ok (.invokespecial 11, 3) := by decide +kernel
theorem dX8_init_12 : decode cX8_init 12 = .ok (.putfield 12, 3) := by decide +kernel
theorem dX8_init_15 : decode cX8_init 15 = .ok (.aload_n 0, 1) := by decide +kernel
theorem dX8_init_16 : decode cX8_init 16 = .ok (.new 16, 3) := by decide +kernel
theorem dX8_init_19 : decode cX8_init 19 = .ok (.dup, 1) := by decide +kernel
theorem dX8_init_20 : decode cX8_init 20 = .ok (.invokespecial 18, 3) := by decide +kernel
theorem dX8_init_23 : decode cX8_init 23 = .ok (.putfield 19, 3) := by decide +kernel
theorem dX8_init_26 : decode cX8_init 26 = .ok (.aload_n 0, 1) := by decide +kernel
theorem dX8_init_27 : decode cX8_init 27 = .ok (.new 23, 3) := by decide +kernel
theorem dX8_init_30 : decode cX8_init 30 = .ok (.dup, 1) := by decide +kernel
theorem dX8_init_31 : decode cX8_init 31 = .ok (.invokespecial 25, 3) := by decide +kernel
theorem dX8_init_34 : decode cX8_init 34 = .ok (.putfield 26, 3) := by decide +kernel
theorem dX8_init_37 : decode cX8_init 37 = .ok (.aload_n 0, 1) := by decide +kernel
theorem dX8_init_38 : decode cX8_init 38 = .ok (.new 30, 3) := by decide +kernel
theorem dX8_init_41 : decode cX8_init 41 = .ok (.dup, 1) := by decide +kernel
theorem dX8_init_42 : decode cX8_init 42 = .ok (.invokespecial 32, 3) := by decide +kernel
theorem dX8_init_45 : decode cX8_init 45 = .ok (.putfield 33, 3) := by decide +kernel
theorem dX8_init_48 : decode cX8_init 48 = .ok (.aload_n 0, 1) := by decide +kernel
theorem dX8_init_49 : decode cX8_init 49 = .ok (.new 37, 3) := by decide +kernel
theorem dX8_init_52 : decode cX8_init 52 = .ok (.dup, 1) := by decide +kernel
theorem dX8_init_53 : decode cX8_init 53 = .ok (.invokespecial 39, 3) := by decide +kernel
theorem dX8_init_56 : decode cX8_init 56 = .ok (.putfield 40, 3) := by decide +kernel
theorem dX8_init_59 : decode cX8_init 59 = .ok (.aload_n 0, 1) := by decide +kernel
theorem dX8_init_60 : decode cX8_init 60 = .ok (.new 44, 3) := by decide +kernel
theorem dX8_init_63 : decode cX8_init 63 = .ok (.dup, 1) := by decide +kernel
theorem dX8_init_64 : decode cX8_init 64 = .ok (.invokespecial 46, 3) := by decide +kernel
theorem dX8_init_67 : decode cX8_init 67 = .ok (.putfield 47, 3) := by decide +kernel
theorem dX8_init_70 : decode cX8_init 70 = .ok (.aload_n 0, 1) := by decide +kernel
theorem dX8_init_71 : decode cX8_init 71 = .ok (.new 51, 3) := by decide +kernel
theorem dX8_init_74 : decode cX8_init 74 = .ok (.dup, 1) := by decide +kernel
theorem dX8_init_75 : decode cX8_init 75 = .ok (.invokespecial 53, 3) := by decide +kernel
theorem dX8_init_78 : decode cX8_init 78 = .ok (.putfield 54, 3) := by decide +kernel
theorem dX8_init_81 : decode cX8_init 81 = .ok (.return_, 1) := by decide +kernel
theorem dX8_word_0 : decode cX8_word 0 = .ok (.iload_n 1, 1) := by decide +kernel
theorem dX8_word_1 : decode cX8_word 1 = .ok (.iconst 0, 1) := by decide +kernel
theorem dX8_word_2 : decode cX8_word 2 = .ok (.bipush 59, 2) := by decide +kernel
theorem dX8_word_4 : decode cX8_word 4 = .ok (.invokestatic 58, 3) := by decide +kernel
theorem dX8_word_7 : decode cX8_word 7 = .ok (.aload_n 0, 1) := by decide +kernel
theorem dX8_word_8 : decode cX8_word 8 = .ok (.getfield 12, 3) := by decide +kernel
theorem dX8_word_11 : decode cX8_word 11 = .ok (.invokevirtual 62, 3) := by decide +kernel
theorem dX8_word_14 : decode cX8_word 14 = .ok (.ifCond .eq 13, 3) := by decide +kernel
theorem dX8_word_17 : decode cX8_word 17 = .ok (.new 66, 3) := by decide +kernel
theorem dX8_word_20 : decode cX8_word 20 = .ok (.dup, 1) := by decide +kernel
theorem dX8_word_21 : decode cX8_word 21 = .ok (.ldc 68, 2) := by decide +kernel
theorem dX8_word_23 : decode cX8_word 23 = .ok (.invokespecial 70, 3) := by decide +kernel
theorem dX8_word_26 : decode cX8_word 26 = .ok (.athrow, 1) := by decide +kernel
theorem dX8_word_27 : decode cX8_word 27 = .ok (.aload_n 0, 1) := by decide +kernel
theorem dX8_word_28 : decode cX8_word 28 = .ok (.getfield 12, 3) := by decide +kernel
theorem dX8_word_31 : decode cX8_word 31 = .ok (.iload_n 1, 1) := by decide +kernel
theorem dX8_word_32 : decode cX8_word 32 = .ok (.invokevirtual 73, 3) := by decide +kernel
theorem dX8_word_35 : decode cX8_word 35 = .ok (.aload_n 0, 1) := by decide +kernel
theorem dX8_word_36 : decode cX8_word 36 = .ok (.getfield 12, 3) := by decide +kernel
theorem dX8_word_39 : decode cX8_word 39 = .ok (.invokevirtual 77, 3) := by decide +kernel
theorem dX8_word_42 : decode cX8_word 42 = .ok (.ireturn, 1) := by decide +kernel
theorem dX8_unit_0 : decode cX8_unit 0 = .ok (.aload_n 0, 1) := by decide +kernel
theorem dX8_unit_1 : decode cX8_unit 1 = .ok (.getfield 12, 3) := by decide +kernel
theorem dX8_unit_4 : decode cX8_unit 4 = .ok (.invokevirtual 77, 3) := by decide +kernel
theorem dX8_unit_7 : decode cX8_unit 7 = .ok (.ifCond .ne 13, 3) := by decide +kernel
theorem dX8_unit_10 : decode cX8_unit 10 = .ok (.new 66, 3) := by decide +kernel
theorem dX8_unit_13 : decode cX8_unit 13 = .ok (.dup, 1) := by decide +kernel
theorem dX8_unit_14 : decode cX8_unit 14 = .ok (.ldc 84, 2) := by decide +kernel
theorem dX8_unit_16 : decode cX8_unit 16 = .ok (.invokespecial 70, 3) := by decide +kernel
theorem dX8_unit_19 : decode cX8_unit 19 = .ok (.athrow, 1) := by decide +kernel
theorem dX8_unit_20 : decode cX8_unit 20 = .ok (.aload_n 0, 1) := by decide +kernel
theorem dX8_unit_21 : decode cX8_unit 21 = .ok (.getfield 19, 3) := by decide +kernel
theorem dX8_unit_24 : decode cX8_unit 24 = .ok (.invokevirtual 86, 3) := by decide +kernel
theorem dX8_unit_27 : decode cX8_unit 27 = .ok (.ifCond .eq 13, 3) := by decide +kernel
theorem dX8_unit_30 : decode cX8_unit 30 = .ok (.new 66, 3) := by decide +kernel
theorem dX8_unit_33 : decode cX8_unit 33 = .ok (.dup, 1) := by decide +kernel
theorem dX8_unit_34 : decode cX8_unit 34 = .ok (.ldc 87, 2) := by decide +kernel
theorem dX8_unit_36 : decode cX8_unit 36 = .ok (.invokespecial 70, 3) := by decide +kernel
theorem dX8_unit_39 : decode cX8_unit 39 = .ok (.athrow, 1) := by decide +kernel
theorem dX8_unit_40 : decode cX8_unit 40 = .ok (.aload_n 0, 1) := by decide +kernel
theorem dX8_unit_41 : decode cX8_unit 41 = .ok (.getfield 19, 3) := by decide +kernel
theorem dX8_unit_44 : decode cX8_unit 44 = .ok (.aload_n 0, 1) := by decide +kernel
theorem dX8_unit_45 : decode cX8_unit 45 = .ok (.getfield 12, 3) := by decide +kernel
theorem dX8_unit_48 : decode cX8_unit 48 = .ok (.invokevirtual 89, 3) := by decide +kernel
theorem dX8_unit_51 : decode cX8_unit 51 = .ok (.aload_n 0, 1) := by decide +kernel
theorem dX8_unit_52 : decode cX8_unit 52 = .ok (.getfield 12, 3) := by decide +kernel
theorem dX8_unit_55 : decode cX8_unit 55 = .ok (.invokevirtual 81, 3) := by decide +kernel
theorem dX8_unit_58 : decode cX8_unit 58 = .ok (.aload_n 0, 1) := by decide +kernel
theorem dX8_unit_59 : decode cX8_unit 59 = .ok (.getfield 19, 3) := by decide +kernel
theorem dX8_unit_62 : decode cX8_unit 62 = .ok (.invokevirtual 92, 3) := by decide +kernel
theorem dX8_unit_65 : decode cX8_unit 65 = .ok (.iconst 1, 1) := by decide +kernel
theorem dX8_unit_66 : decode cX8_unit 66 = .ok (.isub, 1) := by decide +kernel
theorem dX8_unit_67 : decode cX8_unit 67 = .ok (.ireturn, 1) := by decide +kernel
theorem dX8_emend_0 : decode cX8_emend 0 = .ok (.aload_n 0, 1) := by decide +kernel
theorem dX8_emend_1 : decode cX8_emend 1 = .ok (.getfield 19, 3) := by decide +kernel
theorem dX8_emend_4 : decode cX8_emend 4 = .ok (.iload_n 1, 1) := by decide +kernel
theorem dX8_emend_5 : decode cX8_emend 5 = .ok (.iload_n 2, 1) := by decide +kernel
theorem dX8_emend_6 : decode cX8_emend 6 = .ok (.invokevirtual 95, 3) := by decide +kernel
theorem dX8_emend_9 : decode cX8_emend 9 = .ok (.ifCond .ne 13, 3) := by decide +kernel
theorem dX8_emend_12 : decode cX8_emend 12 = .ok (.new 99, 3) := by decide +kernel
theorem dX8_emend_15 : decode cX8_emend 15 = .ok (.dup, 1) := by decide +kernel
theorem dX8_emend_16 : decode cX8_emend 16 = .ok (.ldc 101, 2) := by decide +kernel
theorem dX8_emend_18 : decode cX8_emend 18 = .ok (.invokespecial 103, 3) := by decide +kernel
theorem dX8_emend_21 : decode cX8_emend 21 = .ok (.athrow, 1) := by decide +kernel
theorem dX8_emend_22 : decode cX8_emend 22 = .ok (.iload_n 3, 1) := by decide +kernel
theorem dX8_emend_23 : decode cX8_emend 23 = .ok (.iconst (-1), 1) := by decide +kernel
theorem dX8_emend_24 : decode cX8_emend 24 = .ok (.bipush 59, 2) := by decide +kernel
theorem dX8_emend_26 : decode cX8_emend 26 = .ok (.invokestatic 58, 3) := by decide +kernel
theorem dX8_emend_29 : decode cX8_emend 29 = .ok (.iload_n 3, 1) := by decide +kernel
theorem dX8_emend_30 : decode cX8_emend 30 = .ok (.iconst (-1), 1) := by decide +kernel
theorem dX8_emend_31 : decode cX8_emend 31 = .ok (.if_icmp .eq 26, 3) := by decide +kernel
theorem dX8_emend_34 : decode cX8_emend 34 = .ok (.aload_n 0, 1) := by decide +kernel
theorem dX8_emend_35 : decode cX8_emend 35 = .ok (.getfield 19, 3) := by decide +kernel
theorem dX8_emend_38 : decode cX8_emend 38 = .ok (.iload_n 1, 1) := by decide +kernel
theorem dX8_emend_39 : decode cX8_emend 39 = .ok (.iload_n 2, 1) := by decide +kernel
theorem dX8_emend_40 : decode cX8_emend 40 = .ok (.iload_n 3, 1) := by decide +kernel
theorem dX8_emend_41 : decode cX8_emend 41 = .ok (.invokevirtual 104, 3) := by decide +kernel
theorem dX8_emend_44 : decode cX8_emend 44 = .ok (.aload_n 0, 1) := by decide +kernel
theorem dX8_emend_45 : decode cX8_emend 45 = .ok (.getfield 33, 3) := by decide +kernel
theorem dX8_emend_48 : decode cX8_emend 48 = .ok (.iload_n 1, 1) := by decide +kernel
theorem dX8_emend_49 : decode cX8_emend 49 = .ok (.aload_n 0, 1) := by decide +kernel
theorem dX8_emend_50 : decode cX8_emend 50 = .ok (.getfield 19, 3) := by decide +kernel
theorem dX8_emend_53 : decode cX8_emend 53 = .ok (.invokevirtual 107, 3) := by decide +kernel
theorem dX8_emend_56 : decode cX8_emend 56 = .ok (.ireturn, 1) := by decide +kernel
theorem dX8_emend_57 : decode cX8_emend 57 = .ok (.aload_n 0, 1) := by decide +kernel
theorem dX8_emend_58 : decode cX8_emend 58 = .ok (.getfield 19, 3) := by decide +kernel
theorem dX8_emend_61 : decode cX8_emend 61 = .ok (.iload_n 1, 1) := by decide +kernel
theorem dX8_emend_62 : decode cX8_emend 62 = .ok (.invokevirtual 111, 3) := by decide +kernel
theorem dX8_emend_65 : decode cX8_emend 65 = .ok (.iconst 1, 1) := by decide +kernel
theorem dX8_emend_66 : decode cX8_emend 66 = .ok (.if_icmp .gt 13, 3) := by decide +kernel
theorem dX8_emend_69 : decode cX8_emend 69 = .ok (.new 66, 3) := by decide +kernel
theorem dX8_emend_72 : decode cX8_emend 72 = .ok (.dup, 1) := by decide +kernel
theorem dX8_emend_73 : decode cX8_emend 73 = .ok (.ldc 115, 2) := by decide +kernel
theorem dX8_emend_75 : decode cX8_emend 75 = .ok (.invokespecial 70, 3) := by decide +kernel
theorem dX8_emend_78 : decode cX8_emend 78 = .ok (.athrow, 1) := by decide +kernel
theorem dX8_emend_79 : decode cX8_emend 79 = .ok (.aload_n 0, 1) := by decide +kernel
theorem dX8_emend_80 : decode cX8_emend 80 = .ok (.getfield 19, 3) := by decide +kernel
theorem dX8_emend_83 : decode cX8_emend 83 = .ok (.iload_n 1, 1) := by decide +kernel
theorem dX8_emend_84 : decode cX8_emend 84 = .ok (.iload_n 2, 1) := by decide +kernel
theorem dX8_emend_85 : decode cX8_emend 85 = .ok (.invokevirtual 117, 3) := by decide +kernel
theorem dX8_emend_88 : decode cX8_emend 88 = .ok (.aload_n 0, 1) := by decide +kernel
theorem dX8_emend_89 : decode cX8_emend 89 = .ok (.getfield 33, 3) := by decide +kernel
theorem dX8_emend_92 : decode cX8_emend 92 = .ok (.iload_n 1, 1) := by decide +kernel
theorem dX8_emend_93 : decode cX8_emend 93 = .ok (.iload_n 2, 1) := by decide +kernel
theorem dX8_emend_94 : decode cX8_emend 94 = .ok (.aload_n 0, 1) := by decide +kernel
theorem dX8_emend_95 : decode cX8_emend 95 = .ok (.getfield 19, 3) := by decide +kernel
theorem dX8_emend_98 : decode cX8_emend 98 = .ok (.iload_n 1, 1) := by decide +kernel
theorem dX8_emend_99 : decode cX8_emend 99 = .ok (.invokevirtual 111, 3) := by decide +kernel
theorem dX8_emend_102 : decode cX8_emend 102 = .ok (.iconst 1, 1) := by decide +kernel
theorem dX8_emend_103 : decode cX8_emend 103 = .ok (.isub, 1) := by decide +kernel
theorem dX8_emend_104 : decode cX8_emend 104 = .ok (.invokevirtual 121, 3) := by decide +kernel
theorem dX8_emend_107 : decode cX8_emend 107 = .ok (.aload_n 0, 1) := by decide +kernel
theorem dX8_emend_108 : decode cX8_emend 108 = .ok (.getfield 33, 3) := by decide +kernel
theorem dX8_emend_111 : decode cX8_emend 111 = .ok (.iload_n 1, 1) := by decide +kernel
theorem dX8_emend_112 : decode cX8_emend 112 = .ok (.aload_n 0, 1) := by decide +kernel
theorem dX8_emend_113 : decode cX8_emend 113 = .ok (.getfield 19, 3) := by decide +kernel
theorem dX8_emend_116 : decode cX8_emend 116 = .ok (.invokevirtual 107, 3) := by decide +kernel
theorem dX8_emend_119 : decode cX8_emend 119 = .ok (.ireturn, 1) := by decide +kernel
theorem dX8_textOf_0 : decode cX8_textOf 0 = .ok (.aload_n 0, 1) := by decide +kernel
theorem dX8_textOf_1 : decode cX8_textOf 1 = .ok (.iload_n 1, 1) := by decide +kernel
theorem dX8_textOf_2 : decode cX8_textOf 2 = .ok (.invokevirtual 124, 3) := by decide +kernel
theorem dX8_textOf_5 : decode cX8_textOf 5 = .ok (.iload_n 2, 1) := by decide +kernel
theorem dX8_textOf_6 : decode cX8_textOf 6 = .ok (.ifCond .ge 13, 3) := by decide +kernel
theorem dX8_textOf_9 : decode cX8_textOf 9 = .ok (.new 99, 3) := by decide +kernel
theorem dX8_textOf_12 : decode cX8_textOf 12 = .ok (.dup, 1) := by decide +kernel
theorem dX8_textOf_13 : decode cX8_textOf 13 = .ok (.ldc 127, 2) := by decide +kernel
theorem dX8_textOf_15 : decode cX8_textOf 15 = .ok (.invokespecial 103, 3) := by decide +kernel
theorem dX8_textOf_18 : decode cX8_textOf 18 = .ok (.athrow, 1) := by decide +kernel
theorem dX8_textOf_19 : decode cX8_textOf 19 = .ok (.aload_n 0, 1) := by decide +kernel
theorem dX8_textOf_20 : decode cX8_textOf 20 = .ok (.getfield 19, 3) := by decide +kernel
theorem dX8_textOf_23 : decode cX8_textOf 23 = .ok (.iload_n 1, 1) := by decide +kernel
theorem dX8_textOf_24 : decode cX8_textOf 24 = .ok (.iload_n 2, 1) := by decide +kernel
theorem dX8_textOf_25 : decode cX8_textOf 25 = .ok (.invokevirtual 129, 3) := by decide +kernel
theorem dX8_textOf_28 : decode cX8_textOf 28 = .ok (.ireturn, 1) := by decide +kernel
theorem dX8_author_0 : decode cX8_author 0 = .ok (.iload_n 1, 1) := by decide +kernel
theorem dX8_author_1 : decode cX8_author 1 = .ok (.iconst 0, 1) := by decide +kernel
theorem dX8_author_2 : decode cX8_author 2 = .ok (.sipush 2000, 3) := by decide +kernel
theorem dX8_author_5 : decode cX8_author 5 = .ok (.invokestatic 58, 3) := by decide +kernel
theorem dX8_author_8 : decode cX8_author 8 = .ok (.iload_n 2, 1) := by decide +kernel
theorem dX8_author_9 : decode cX8_author 9 = .ok (.iconst 0, 1) := by decide +kernel
theorem dX8_author_10 : decode cX8_author 10 = .ok (.iconst 3, 1) := by decide +kernel
theorem dX8_author_11 : decode cX8_author 11 = .ok (.invokestatic 58, 3) := by decide +kernel
theorem dX8_author_14 : decode cX8_author 14 = .ok (.iload_n 3, 1) := by decide +kernel
theorem dX8_author_15 : decode cX8_author 15 = .ok (.iconst 0, 1) := by decide +kernel
theorem dX8_author_16 : decode cX8_author 16 = .ok (.bipush 99, 2) := by decide +kernel
theorem dX8_author_18 : decode cX8_author 18 = .ok (.invokestatic 58, 3) := by decide +kernel
theorem dX8_author_21 : decode cX8_author 21 = .ok (.aload_n 0, 1) := by decide +kernel
theorem dX8_author_22 : decode cX8_author 22 = .ok (.getfield 26, 3) := by decide +kernel
theorem dX8_author_25 : decode cX8_author 25 = .ok (.invokevirtual 133, 3) := by decide +kernel
theorem dX8_author_28 : decode cX8_author 28 = .ok (.ifCond .eq 13, 3) := by decide +kernel
theorem dX8_author_31 : decode cX8_author 31 = .ok (.new 66, 3) := by decide +kernel
theorem dX8_author_34 : decode cX8_author 34 = .ok (.dup, 1) := by decide +kernel
theorem dX8_author_35 : decode cX8_author 35 = .ok (.ldc 134, 2) := by decide +kernel
theorem dX8_author_37 : decode cX8_author 37 = .ok (.invokespecial 70, 3) := by decide +kernel
theorem dX8_author_40 : decode cX8_author 40 = .ok (.athrow, 1) := by decide +kernel
theorem dX8_author_41 : decode cX8_author 41 = .ok (.aload_n 0, 1) := by decide +kernel
theorem dX8_author_42 : decode cX8_author 42 = .ok (.getfield 26, 3) := by decide +kernel
theorem dX8_author_45 : decode cX8_author 45 = .ok (.iload_n 1, 1) := by decide +kernel
theorem dX8_author_46 : decode cX8_author 46 = .ok (.iload_n 2, 1) := by decide +kernel
theorem dX8_author_47 : decode cX8_author 47 = .ok (.iload_n 3, 1) := by decide +kernel
theorem dX8_author_48 : decode cX8_author 48 = .ok (.invokevirtual 136, 3) := by decide +kernel
theorem dX8_author_51 : decode cX8_author 51 = .ok (.aload_n 0, 1) := by decide +kernel
theorem dX8_author_52 : decode cX8_author 52 = .ok (.getfield 26, 3) := by decide +kernel
theorem dX8_author_55 : decode cX8_author 55 = .ok (.invokevirtual 138, 3) := by decide +kernel
theorem dX8_author_58 : decode cX8_author 58 = .ok (.iconst 1, 1) := by decide +kernel
theorem dX8_author_59 : decode cX8_author 59 = .ok (.isub, 1) := by decide +kernel
theorem dX8_author_60 : decode cX8_author 60 = .ok (.ireturn, 1) := by decide +kernel
theorem dX8_comment_0 : decode cX8_comment 0 = .ok (.aload_n 0, 1) := by decide +kernel
theorem dX8_comment_1 : decode cX8_comment 1 = .ok (.iload_n 1, 1) := by decide +kernel
theorem dX8_comment_2 : decode cX8_comment 2 = .ok (.invokevirtual 142, 3) := by decide +kernel
theorem dX8_comment_5 : decode cX8_comment 5 = .ok (.aload_n 0, 1) := by decide +kernel
theorem dX8_comment_6 : decode cX8_comment 6 = .ok (.iload_n 2, 1) := by decide +kernel
theorem dX8_comment_7 : decode cX8_comment 7 = .ok (.invokevirtual 124, 3) := by decide +kernel
theorem dX8_comment_10 : decode cX8_comment 10 = .ok (.iload_n 3, 1) := by decide +kernel
theorem dX8_comment_11 : decode cX8_comment 11 = .ok (.iconst 0, 1) := by decide +kernel
theorem dX8_comment_12 : decode cX8_comment 12 = .ok (.iconst 4, 1) := by decide +kernel
theorem dX8_comment_13 : decode cX8_comment 13 = .ok (.invokestatic 58, 3) := by decide +kernel
theorem dX8_comment_16 : decode cX8_comment 16 = .ok (.iload 4, 2) := by decide +kernel
theorem dX8_comment_18 : decode cX8_comment 18 = .ok (.iconst 0, 1) := by decide +kernel
theorem dX8_comment_19 : decode cX8_comment 19 = .ok (.bipush 59, 2) := by decide +kernel
theorem dX8_comment_21 : decode cX8_comment 21 = .ok (.invokestatic 58, 3) := by decide +kernel
theorem dX8_comment_24 : decode cX8_comment 24 = .ok (.iload 5, 2) := by decide +kernel
theorem dX8_comment_26 : decode cX8_comment 26 = .ok (.iconst 1, 1) := by decide +kernel
theorem dX8_comment_27 : decode cX8_comment 27 = .ok (.bipush 12, 2) := by decide +kernel
theorem dX8_comment_29 : decode cX8_comment 29 = .ok (.invokestatic 58, 3) := by decide +kernel
theorem dX8_comment_32 : decode cX8_comment 32 = .ok (.iload 6, 2) := by decide +kernel
theorem dX8_comment_34 : decode cX8_comment 34 = .ok (.iconst 1, 1) := by decide +kernel
theorem dX8_comment_35 : decode cX8_comment 35 = .ok (.bipush 9, 2) := by decide +kernel
theorem dX8_comment_37 : decode cX8_comment 37 = .ok (.invokestatic 58, 3) := by decide +kernel
theorem dX8_comment_40 : decode cX8_comment 40 = .ok (.iload 7, 2) := by decide +kernel
theorem dX8_comment_42 : decode cX8_comment 42 = .ok (.iconst 0, 1) := by decide +kernel
theorem dX8_comment_43 : decode cX8_comment 43 = .ok (.iconst 1, 1) := by decide +kernel
theorem dX8_comment_44 : decode cX8_comment 44 = .ok (.invokestatic 58, 3) := by decide +kernel
theorem dX8_comment_47 : decode cX8_comment 47 = .ok (.aload_n 0, 1) := by decide +kernel
theorem dX8_comment_48 : decode cX8_comment 48 = .ok (.invokevirtual 145, 3) := by decide +kernel
theorem dX8_comment_51 : decode cX8_comment 51 = .ok (.aload_n 0, 1) := by decide +kernel
theorem dX8_comment_52 : decode cX8_comment 52 = .ok (.getfield 19, 3) := by decide +kernel
theorem dX8_comment_55 : decode cX8_comment 55 = .ok (.iload_n 2, 1) := by decide +kernel
theorem dX8_comment_56 : decode cX8_comment 56 = .ok (.iload 4, 2) := by decide +kernel
theorem dX8_comment_58 : decode cX8_comment 58 = .ok (.iload 5, 2) := by decide +kernel
theorem dX8_comment_60 : decode cX8_comment 60 = .ok (.invokevirtual 148, 3) := by decide +kernel
theorem dX8_comment_63 : decode cX8_comment 63 = .ok (.istore 8, 2) := by decide +kernel
theorem dX8_comment_65 : decode cX8_comment 65 = .ok (.iload 8, 2) := by decide +kernel
theorem dX8_comment_67 : decode cX8_comment 67 = .ok (.iconst (-1), 1) := by decide +kernel
theorem dX8_comment_68 : decode cX8_comment 68 = .ok (.if_icmp .ne 13, 3) := by decide +kernel
theorem dX8_comment_71 : decode cX8_comment 71 = .ok (.new 66, 3) := by decide +kernel
theorem dX8_comment_74 : decode cX8_comment 74 = .ok (.dup, 1) := by decide +kernel
theorem dX8_comment_75 : decode cX8_comment 75 = .ok (.ldc 152, 2) := by decide +kernel
theorem dX8_comment_77 : decode cX8_comment 77 = .ok (.invokespecial 70, 3) := by decide +kernel
theorem dX8_comment_80 : decode cX8_comment 80 = .ok (.athrow, 1) := by decide +kernel
theorem dX8_comment_81 : decode cX8_comment 81 = .ok (.aload_n 0, 1) := by decide +kernel
theorem dX8_comment_82 : decode cX8_comment 82 = .ok (.getfield 33, 3) := by decide +kernel
theorem dX8_comment_85 : decode cX8_comment 85 = .ok (.iload_n 1, 1) := by decide +kernel
theorem dX8_comment_86 : decode cX8_comment 86 = .ok (.iload_n 3, 1) := by decide +kernel
theorem dX8_comment_87 : decode cX8_comment 87 = .ok (.iload 6, 2) := by decide +kernel
theorem dX8_comment_89 : decode cX8_comment 89 = .ok (.iload 7, 2) := by decide +kernel
theorem dX8_comment_91 : decode cX8_comment 91 = .ok (.invokevirtual 154, 3) := by decide +kernel
theorem dX8_comment_94 : decode cX8_comment 94 = .ok (.istore 9, 2) := by decide +kernel
theorem dX8_comment_96 : decode cX8_comment 96 = .ok (.aload_n 0, 1) := by decide +kernel
theorem dX8_comment_97 : decode cX8_comment 97 = .ok (.getfield 33, 3) := by decide +kernel
theorem dX8_comment_100 : decode cX8_comment 100 = .ok (.iload 9, 2) := by decide +kernel
theorem dX8_comment_102 : decode cX8_comment 102 = .ok (.iload_n 2, 1) := by decide +kernel
theorem dX8_comment_103 : decode cX8_comment 103 = .ok (.iload 8, 2) := by decide +kernel
theorem dX8_comment_105 : decode cX8_comment 105 = .ok (.iload 4, 2) := by decide +kernel
theorem dX8_comment_107 : decode cX8_comment 107 = .ok (.invokevirtual 157, 3) := by decide +kernel
theorem dX8_comment_110 : decode cX8_comment 110 = .ok (.iload 9, 2) := by decide +kernel
theorem dX8_comment_112 : decode cX8_comment 112 = .ok (.ireturn, 1) := by decide +kernel
theorem dX8_told_0 : decode cX8_told 0 = .ok (.aload_n 0, 1) := by decide +kernel
theorem dX8_told_1 : decode cX8_told 1 = .ok (.iload_n 1, 1) := by decide +kernel
theorem dX8_told_2 : decode cX8_told 2 = .ok (.invokevirtual 161, 3) := by decide +kernel
theorem dX8_told_5 : decode cX8_told 5 = .ok (.iload_n 2, 1) := by decide +kernel
theorem dX8_told_6 : decode cX8_told 6 = .ok (.iconst 0, 1) := by decide +kernel
theorem dX8_told_7 : decode cX8_told 7 = .ok (.bipush 6, 2) := by decide +kernel
theorem dX8_told_9 : decode cX8_told 9 = .ok (.invokestatic 58, 3) := by decide +kernel
theorem dX8_told_12 : decode cX8_told 12 = .ok (.iload_n 2, 1) := by decide +kernel
theorem dX8_told_13 : decode cX8_told 13 = .ok (.tableswitch 109 0 5 #[39, 48, 57, 66, 83, 100], 39) := by decide +kernel
theorem dX8_told_52 : decode cX8_told 52 = .ok (.aload_n 0, 1) := by decide +kernel
theorem dX8_told_53 : decode cX8_told 53 = .ok (.getfield 33, 3) := by decide +kernel
theorem dX8_told_56 : decode cX8_told 56 = .ok (.iload_n 1, 1) := by decide +kernel
theorem dX8_told_57 : decode cX8_told 57 = .ok (.invokevirtual 164, 3) := by decide +kernel
theorem dX8_told_60 : decode cX8_told 60 = .ok (.ireturn, 1) := by decide +kernel
theorem dX8_told_61 : decode cX8_told 61 = .ok (.aload_n 0, 1) := by decide +kernel
theorem dX8_told_62 : decode cX8_told 62 = .ok (.getfield 33, 3) := by decide +kernel
theorem dX8_told_65 : decode cX8_told 65 = .ok (.iload_n 1, 1) := by decide +kernel
theorem dX8_told_66 : decode cX8_told 66 = .ok (.invokevirtual 175, 3) := by decide +kernel
theorem dX8_told_69 : decode cX8_told 69 = .ok (.ireturn, 1) := by decide +kernel
theorem dX8_told_70 : decode cX8_told 70 = .ok (.aload_n 0, 1) := by decide +kernel
theorem dX8_told_71 : decode cX8_told 71 = .ok (.getfield 33, 3) := by decide +kernel
theorem dX8_told_74 : decode cX8_told 74 = .ok (.iload_n 1, 1) := by decide +kernel
theorem dX8_told_75 : decode cX8_told 75 = .ok (.invokevirtual 178, 3) := by decide +kernel
theorem dX8_told_78 : decode cX8_told 78 = .ok (.ireturn, 1) := by decide +kernel
theorem dX8_told_79 : decode cX8_told 79 = .ok (.aload_n 0, 1) := by decide +kernel
theorem dX8_told_80 : decode cX8_told 80 = .ok (.getfield 33, 3) := by decide +kernel
theorem dX8_told_83 : decode cX8_told 83 = .ok (.iload_n 1, 1) := by decide +kernel
theorem dX8_told_84 : decode cX8_told 84 = .ok (.invokevirtual 180, 3) := by decide +kernel
theorem dX8_told_87 : decode cX8_told 87 = .ok (.ifCond .eq 7, 3) := by decide +kernel
theorem dX8_told_90 : decode cX8_told 90 = .ok (.iconst 1, 1) := by decide +kernel
theorem dX8_told_91 : decode cX8_told 91 = .ok (.goto 4, 3) := by decide +kernel
theorem dX8_told_94 : decode cX8_told 94 = .ok (.iconst 0, 1) := by decide +kernel
theorem dX8_told_95 : decode cX8_told 95 = .ok (.ireturn, 1) := by decide +kernel
theorem dX8_told_96 : decode cX8_told 96 = .ok (.aload_n 0, 1) := by decide +kernel
theorem dX8_told_97 : decode cX8_told 97 = .ok (.getfield 33, 3) := by decide +kernel
theorem dX8_told_100 : decode cX8_told 100 = .ok (.iload_n 1, 1) := by decide +kernel
theorem dX8_told_101 : decode cX8_told 101 = .ok (.invokevirtual 184, 3) := by decide +kernel
theorem dX8_told_104 : decode cX8_told 104 = .ok (.ifCond .eq 7, 3) := by decide +kernel
theorem dX8_told_107 : decode cX8_told 107 = .ok (.iconst 1, 1) := by decide +kernel
theorem dX8_told_108 : decode cX8_told 108 = .ok (.goto 4, 3) := by decide +kernel
theorem dX8_told_111 : decode cX8_told 111 = .ok (.iconst 0, 1) := by decide +kernel
theorem dX8_told_112 : decode cX8_told 112 = .ok (.ireturn, 1) := by decide +kernel
theorem dX8_told_113 : decode cX8_told 113 = .ok (.aload_n 0, 1) := by decide +kernel
theorem dX8_told_114 : decode cX8_told 114 = .ok (.getfield 33, 3) := by decide +kernel
theorem dX8_told_117 : decode cX8_told 117 = .ok (.iload_n 1, 1) := by decide +kernel
theorem dX8_told_118 : decode cX8_told 118 = .ok (.invokevirtual 187, 3) := by decide +kernel
theorem dX8_told_121 : decode cX8_told 121 = .ok (.ireturn, 1) := by decide +kernel
theorem dX8_told_122 : decode cX8_told 122 = .ok (.aload_n 0, 1) := by decide +kernel
theorem dX8_told_123 : decode cX8_told 123 = .ok (.getfield 33, 3) := by decide +kernel
theorem dX8_told_126 : decode cX8_told 126 = .ok (.iload_n 1, 1) := by decide +kernel
theorem dX8_told_127 : decode cX8_told 127 = .ok (.invokevirtual 190, 3) := by decide +kernel
theorem dX8_told_130 : decode cX8_told 130 = .ok (.ireturn, 1) := by decide +kernel
theorem dX8_needArgument_0 : decode cX8_needArgument 0 = .ok (.iload_n 0, 1) := by decide +kernel
theorem dX8_needArgument_1 : decode cX8_needArgument 1 = .ok (.iload_n 1, 1) := by decide +kernel
theorem dX8_needArgument_2 : decode cX8_needArgument 2 = .ok (.if_icmp .lt 8, 3) := by decide +kernel
theorem dX8_needArgument_5 : decode cX8_needArgument 5 = .ok (.iload_n 0, 1) := by decide +kernel
theorem dX8_needArgument_6 : decode cX8_needArgument 6 = .ok (.iload_n 2, 1) := by decide +kernel
theorem dX8_needArgument_7 : decode cX8_needArgument 7 = .ok (.if_icmp .le 14, 3) := by decide +kernel
theorem dX8_needArgument_10 : decode cX8_needArgument 10 = .ok (.new 283, 3) := by decide +kernel
theorem dX8_needArgument_13 : decode cX8_needArgument 13 = .ok (.dup, 1) := by decide +kernel
theorem dX8_needArgument_14 : decode cX8_needArgument 14 = .ok (.ldc_w 285, 3) := by decide +kernel
theorem dX8_needArgument_17 : decode cX8_needArgument 17 = .ok (.invokespecial 287, 3) := by decide +kernel
theorem dX8_needArgument_20 : decode cX8_needArgument 20 = .ok (.athrow, 1) := by decide +kernel
theorem dX8_needArgument_21 : decode cX8_needArgument 21 = .ok (.return_, 1) := by decide +kernel
theorem dX8_needUnit_0 : decode cX8_needUnit 0 = .ok (.aload_n 0, 1) := by decide +kernel
theorem dX8_needUnit_1 : decode cX8_needUnit 1 = .ok (.getfield 19, 3) := by decide +kernel
theorem dX8_needUnit_4 : decode cX8_needUnit 4 = .ok (.iload_n 1, 1) := by decide +kernel
theorem dX8_needUnit_5 : decode cX8_needUnit 5 = .ok (.invokevirtual 288, 3) := by decide +kernel
theorem dX8_needUnit_8 : decode cX8_needUnit 8 = .ok (.ifCond .ne 14, 3) := by decide +kernel
theorem dX8_needUnit_11 : decode cX8_needUnit 11 = .ok (.new 99, 3) := by decide +kernel
theorem dX8_needUnit_14 : decode cX8_needUnit 14 = .ok (.dup, 1) := by decide +kernel
theorem dX8_needUnit_15 : decode cX8_needUnit 15 = .ok (.ldc_w 290, 3) := by decide +kernel
theorem dX8_needUnit_18 : decode cX8_needUnit 18 = .ok (.invokespecial 103, 3) := by decide +kernel
theorem dX8_needUnit_21 : decode cX8_needUnit 21 = .ok (.athrow, 1) := by decide +kernel
theorem dX8_needUnit_22 : decode cX8_needUnit 22 = .ok (.return_, 1) := by decide +kernel
theorem dX8_needAuthor_0 : decode cX8_needAuthor 0 = .ok (.aload_n 0, 1) := by decide +kernel
theorem dX8_needAuthor_1 : decode cX8_needAuthor 1 = .ok (.getfield 26, 3) := by decide +kernel
theorem dX8_needAuthor_4 : decode cX8_needAuthor 4 = .ok (.iload_n 1, 1) := by decide +kernel
theorem dX8_needAuthor_5 : decode cX8_needAuthor 5 = .ok (.invokevirtual 292, 3) := by decide +kernel
theorem dX8_needAuthor_8 : decode cX8_needAuthor 8 = .ok (.ifCond .ne 14, 3) := by decide +kernel
theorem dX8_needAuthor_11 : decode cX8_needAuthor 11 = .ok (.new 99, 3) := by decide +kernel
theorem dX8_needAuthor_14 : decode cX8_needAuthor 14 = .ok (.dup, 1) := by decide +kernel
theorem dX8_needAuthor_15 : decode cX8_needAuthor 15 = .ok (.ldc_w 293, 3) := by decide +kernel
theorem dX8_needAuthor_18 : decode cX8_needAuthor 18 = .ok (.invokespecial 103, 3) := by decide +kernel
theorem dX8_needAuthor_21 : decode cX8_needAuthor 21 = .ok (.athrow, 1) := by decide +kernel
theorem dX8_needAuthor_22 : decode cX8_needAuthor 22 = .ok (.return_, 1) := by decide +kernel
theorem dX8_needComment_0 : decode cX8_needComment 0 = .ok (.aload_n 0, 1) := by decide +kernel
theorem dX8_needComment_1 : decode cX8_needComment 1 = .ok (.getfield 33, 3) := by decide +kernel
theorem dX8_needComment_4 : decode cX8_needComment 4 = .ok (.iload_n 1, 1) := by decide +kernel
theorem dX8_needComment_5 : decode cX8_needComment 5 = .ok (.invokevirtual 295, 3) := by decide +kernel
theorem dX8_needComment_8 : decode cX8_needComment 8 = .ok (.ifCond .ne 14, 3) := by decide +kernel
theorem dX8_needComment_11 : decode cX8_needComment 11 = .ok (.new 99, 3) := by decide +kernel
theorem dX8_needComment_14 : decode cX8_needComment 14 = .ok (.dup, 1) := by decide +kernel
theorem dX8_needComment_15 : decode cX8_needComment 15 = .ok (.ldc_w 296, 3) := by decide +kernel
theorem dX8_needComment_18 : decode cX8_needComment 18 = .ok (.invokespecial 103, 3) := by decide +kernel
theorem dX8_needComment_21 : decode cX8_needComment 21 = .ok (.athrow, 1) := by decide +kernel
theorem dX8_needComment_22 : decode cX8_needComment 22 = .ok (.return_, 1) := by decide +kernel
theorem dX8_needRoomForComment_0 : decode cX8_needRoomForComment 0 = .ok (.aload_n 0, 1) := by decide +kernel
theorem dX8_needRoomForComment_1 : decode cX8_needRoomForComment 1 = .ok (.getfield 33, 3) := by decide +kernel
theorem dX8_needRoomForComment_4 : decode cX8_needRoomForComment 4 = .ok (.invokevirtual 298, 3) := by decide +kernel
theorem dX8_needRoomForComment_7 : decode cX8_needRoomForComment 7 = .ok (.ifCond .eq 14, 3) := by decide +kernel
theorem dX8_needRoomForComment_10 : decode cX8_needRoomForComment 10 = .ok (.new 66, 3) := by decide +kernel
theorem dX8_needRoomForComment_13 : decode cX8_needRoomForComment 13 = .ok (.dup, 1) := by decide +kernel
theorem dX8_needRoomForComment_14 : decode cX8_needRoomForComment 14 = .ok (.ldc_w 299, 3) := by decide +kernel
theorem dX8_needRoomForComment_17 : decode cX8_needRoomForComment 17 = .ok (.invokespecial 70, 3) := by decide +kernel
theorem dX8_needRoomForComment_20 : decode cX8_needRoomForComment 20 = .ok (.athrow, 1) := by decide +kernel
theorem dX8_needRoomForComment_21 : decode cX8_needRoomForComment 21 = .ok (.return_, 1) := by decide +kernel
theorem dX8_at_0 : decode cX8_at 0 = .ok (.iload_n 1, 1) := by decide +kernel
theorem dX8_at_1 : decode cX8_at 1 = .ok (.ifCond .lt 15, 3) := by decide +kernel
theorem dX8_at_4 : decode cX8_at 4 = .ok (.iload_n 1, 1) := by decide +kernel
theorem dX8_at_5 : decode cX8_at 5 = .ok (.aload_n 0, 1) := by decide +kernel
theorem dX8_at_6 : decode cX8_at 6 = .ok (.arraylength, 1) := by decide +kernel
theorem dX8_at_7 : decode cX8_at 7 = .ok (.if_icmp .ge 9, 3) := by decide +kernel
theorem dX8_at_10 : decode cX8_at 10 = .ok (.aload_n 0, 1) := by decide +kernel
theorem dX8_at_11 : decode cX8_at 11 = .ok (.iload_n 1, 1) := by decide +kernel
theorem dX8_at_12 : decode cX8_at 12 = .ok (.iaload, 1) := by decide +kernel
theorem dX8_at_13 : decode cX8_at 13 = .ok (.goto 4, 3) := by decide +kernel
theorem dX8_at_16 : decode cX8_at 16 = .ok (.iconst (-1), 1) := by decide +kernel
theorem dX8_at_17 : decode cX8_at 17 = .ok (.ireturn, 1) := by decide +kernel
theorem dJ9_abs_0f7a4_0 : decode cJ9_abs_0f7a4 0 = .ok (.iload_n 0, 1) := by decide +kernel
theorem dJ9_abs_0f7a4_1 : decode cJ9_abs_0f7a4 1 = .ok (.ifCond .ge 8, 3) := by decide +kernel
theorem dJ9_abs_0f7a4_4 : decode cJ9_abs_0f7a4 4 = .ok (.iload_n 0, 1) := by decide +kernel
theorem dJ9_abs_0f7a4_5 : decode cJ9_abs_0f7a4 5 = .ok (.ineg, 1) := by decide +kernel
theorem dJ9_abs_0f7a4_6 : decode cJ9_abs_0f7a4 6 = .ok (.goto 4, 3) := by decide +kernel
theorem dJ9_abs_0f7a4_9 : decode cJ9_abs_0f7a4 9 = .ok (.iload_n 0, 1) := by decide +kernel
theorem dJ9_abs_0f7a4_10 : decode cJ9_abs_0f7a4 10 = .ok (.ireturn, 1) := by decide +kernel
theorem dJ9_min_7cf53_0 : decode cJ9_min_7cf53 0 = .ok (.iload_n 0, 1) := by decide +kernel
theorem dJ9_min_7cf53_1 : decode cJ9_min_7cf53 1 = .ok (.iload_n 1, 1) := by decide +kernel
theorem dJ9_min_7cf53_2 : decode cJ9_min_7cf53 2 = .ok (.if_icmp .gt 7, 3) := by decide +kernel
theorem dJ9_min_7cf53_5 : decode cJ9_min_7cf53 5 = .ok (.iload_n 0, 1) := by decide +kernel
theorem dJ9_min_7cf53_6 : decode cJ9_min_7cf53 6 = .ok (.goto 4, 3) := by decide +kernel
theorem dJ9_min_7cf53_9 : decode cJ9_min_7cf53 9 = .ok (.iload_n 1, 1) := by decide +kernel
theorem dJ9_min_7cf53_10 : decode cJ9_min_7cf53 10 = .ok (.ireturn, 1) := by decide +kernel
theorem dJ7_fill_53178_0 : decode cJ7_fill_53178 0 = .ok (.iconst 0, 1) := by decide +kernel
theorem dJ7_fill_53178_1 : decode cJ7_fill_53178 1 = .ok (.istore_n 2, 1) := by decide +kernel
theorem dJ7_fill_53178_2 : decode cJ7_fill_53178 2 = .ok (.aload_n 0, 1) := by decide +kernel
theorem dJ7_fill_53178_3 : decode cJ7_fill_53178 3 = .ok (.arraylength, 1) := by decide +kernel
theorem dJ7_fill_53178_4 : decode cJ7_fill_53178 4 = .ok (.istore_n 3, 1) := by decide +kernel
theorem dJ7_fill_53178_5 : decode cJ7_fill_53178 5 = .ok (.iload_n 2, 1) := by decide +kernel
theorem dJ7_fill_53178_6 : decode cJ7_fill_53178 6 = .ok (.iload_n 3, 1) := by decide +kernel
theorem dJ7_fill_53178_7 : decode cJ7_fill_53178 7 = .ok (.if_icmp .ge 13, 3) := by decide +kernel
theorem dJ7_fill_53178_10 : decode cJ7_fill_53178 10 = .ok (.aload_n 0, 1) := by decide +kernel
theorem dJ7_fill_53178_11 : decode cJ7_fill_53178 11 = .ok (.iload_n 2, 1) := by decide +kernel
theorem dJ7_fill_53178_12 : decode cJ7_fill_53178 12 = .ok (.iload_n 1, 1) := by decide +kernel
theorem dJ7_fill_53178_13 : decode cJ7_fill_53178 13 = .ok (.iastore, 1) := by decide +kernel
theorem dJ7_fill_53178_14 : decode cJ7_fill_53178 14 = .ok (.iinc 2 1, 3) := by decide +kernel
theorem dJ7_fill_53178_17 : decode cJ7_fill_53178 17 = .ok (.goto (-12), 3) := by decide +kernel
theorem dJ7_fill_53178_20 : decode cJ7_fill_53178 20 = .ok (.return_, 1) := by decide +kernel
