theorem dX0_init_0 : decode cX0_init 0 = .ok (.aload_n 0, 1) := by decide +kernel
theorem dX0_init_1 : decode cX0_init 1 = .ok (.invokespecial 3, 3) := by decide +kernel
theorem dX0_init_4 : decode cX0_init 4 = .ok (.return_, 1) := by decide +kernel
theorem dX0_read_0 : decode cX0_read 0 = .ok (.aload_n 0, 1) := by decide +kernel
theorem dX0_read_1 : decode cX0_read 1 = .ok (.aload_n 1, 1) := by decide +kernel
theorem dX0_read_2 : decode cX0_read 2 = .ok (.iload_n 2, 1) := by decide +kernel
theorem dX0_read_3 : decode cX0_read 3 = .ok (.iconst 1, 1) := by decide +kernel
theorem dX0_read_4 : decode cX0_read 4 = .ok (.iadd, 1) := by decide +kernel
theorem dX0_read_5 : decode cX0_read 5 = .ok (.invokevirtual 9, 3) := by decide +kernel
theorem dX0_read_8 : decode cX0_read 8 = .ok (.ifCond .eq 17, 3) := by decide +kernel
theorem dX0_read_11 : decode cX0_read 11 = .ok (.aload_n 1, 1) := by decide +kernel
theorem dX0_read_12 : decode cX0_read 12 = .ok (.getfield 15, 3) := by decide +kernel
theorem dX0_read_15 : decode cX0_read 15 = .ok (.iload_n 2, 1) := by decide +kernel
theorem dX0_read_16 : decode cX0_read 16 = .ok (.iconst 1, 1) := by decide +kernel
theorem dX0_read_17 : decode cX0_read 17 = .ok (.iadd, 1) := by decide +kernel
theorem dX0_read_18 : decode cX0_read 18 = .ok (.iaload, 1) := by decide +kernel
theorem dX0_read_19 : decode cX0_read 19 = .ok (.invokestatic 19, 3) := by decide +kernel
theorem dX0_read_22 : decode cX0_read 22 = .ok (.goto 4, 3) := by decide +kernel
theorem dX0_read_25 : decode cX0_read 25 = .ok (.iconst 0, 1) := by decide +kernel
theorem dX0_read_26 : decode cX0_read 26 = .ok (.putfield 25, 3) := by decide +kernel
theorem dX0_read_29 : decode cX0_read 29 = .ok (.aload_n 0, 1) := by decide +kernel
theorem dX0_read_30 : decode cX0_read 30 = .ok (.aload_n 1, 1) := by decide +kernel
theorem dX0_read_31 : decode cX0_read 31 = .ok (.iload_n 2, 1) := by decide +kernel
theorem dX0_read_32 : decode cX0_read 32 = .ok (.iconst 2, 1) := by decide +kernel
theorem dX0_read_33 : decode cX0_read 33 = .ok (.iadd, 1) := by decide +kernel
theorem dX0_read_34 : decode cX0_read 34 = .ok (.invokestatic 31, 3) := by decide +kernel
theorem dX0_read_37 : decode cX0_read 37 = .ok (.putfield 35, 3) := by decide +kernel
theorem dX0_read_40 : decode cX0_read 40 = .ok (.aload_n 0, 1) := by decide +kernel
theorem dX0_read_41 : decode cX0_read 41 = .ok (.aload_n 1, 1) := by decide +kernel
theorem dX0_read_42 : decode cX0_read 42 = .ok (.iload_n 2, 1) := by decide +kernel
theorem dX0_read_43 : decode cX0_read 43 = .ok (.iconst 4, 1) := by decide +kernel
theorem dX0_read_44 : decode cX0_read 44 = .ok (.iadd, 1) := by decide +kernel
theorem dX0_read_45 : decode cX0_read 45 = .ok (.invokestatic 38, 3) := by decide +kernel
theorem dX0_read_48 : decode cX0_read 48 = .ok (.putfield 41, 3) := by decide +kernel
theorem dX0_read_51 : decode cX0_read 51 = .ok (.aload_n 0, 1) := by decide +kernel
theorem dX0_read_52 : decode cX0_read 52 = .ok (.aload_n 1, 1) := by decide +kernel
theorem dX0_read_53 : decode cX0_read 53 = .ok (.iload_n 2, 1) := by decide +kernel
theorem dX0_read_54 : decode cX0_read 54 = .ok (.iconst 5, 1) := by decide +kernel
theorem dX0_read_55 : decode cX0_read 55 = .ok (.iadd, 1) := by decide +kernel
theorem dX0_read_56 : decode cX0_read 56 = .ok (.invokestatic 38, 3) := by decide +kernel
theorem dX0_read_59 : decode cX0_read 59 = .ok (.putfield 44, 3) := by decide +kernel
theorem dX0_read_62 : decode cX0_read 62 = .ok (.aload_n 0, 1) := by decide +kernel
theorem dX0_read_63 : decode cX0_read 63 = .ok (.aload_n 1, 1) := by decide +kernel
theorem dX0_read_64 : decode cX0_read 64 = .ok (.iload_n 2, 1) := by decide +kernel
theorem dX0_read_65 : decode cX0_read 65 = .ok (.bipush 6, 2) := by decide +kernel
theorem dX0_read_67 : decode cX0_read 67 = .ok (.iadd, 1) := by decide +kernel
theorem dX0_read_68 : decode cX0_read 68 = .ok (.invokestatic 38, 3) := by decide +kernel
theorem dX0_read_71 : decode cX0_read 71 = .ok (.putfield 47, 3) := by decide +kernel
theorem dX0_read_74 : decode cX0_read 74 = .ok (.return_, 1) := by decide +kernel
theorem dX0_term_0 : decode cX0_term 0 = .ok (.iload_n 1, 1) := by decide +kernel
theorem dX0_term_1 : decode cX0_term 1 = .ok (.bipush 55, 2) := by decide +kernel
theorem dX0_term_3 : decode cX0_term 3 = .ok (.imul, 1) := by decide +kernel
theorem dX0_term_4 : decode cX0_term 4 = .ok (.istore_n 2, 1) := by decide +kernel
theorem dX0_term_5 : decode cX0_term 5 = .ok (.aload_n 0, 1) := by decide +kernel
theorem dX0_term_6 : decode cX0_term 6 = .ok (.getfield 35, 3) := by decide +kernel
theorem dX0_term_9 : decode cX0_term 9 = .ok (.iconst 1, 1) := by decide +kernel
theorem dX0_term_10 : decode cX0_term 10 = .ok (.iadd, 1) := by decide +kernel
theorem dX0_term_11 : decode cX0_term 11 = .ok (.iload_n 2, 1) := by decide +kernel
theorem dX0_term_12 : decode cX0_term 12 = .ok (.invokestatic 50, 3) := by decide +kernel
theorem dX0_term_15 : decode cX0_term 15 = .ok (.istore_n 3, 1) := by decide +kernel
theorem dX0_term_16 : decode cX0_term 16 = .ok (.iload_n 2, 1) := by decide +kernel
theorem dX0_term_17 : decode cX0_term 17 = .ok (.bipush 55, 2) := by decide +kernel
theorem dX0_term_19 : decode cX0_term 19 = .ok (.iadd, 1) := by decide +kernel
theorem dX0_term_20 : decode cX0_term 20 = .ok (.iconst 1, 1) := by decide +kernel
theorem dX0_term_21 : decode cX0_term 21 = .ok (.isub, 1) := by decide +kernel
theorem dX0_term_22 : decode cX0_term 22 = .ok (.istore 4, 2) := by decide +kernel
theorem dX0_term_24 : decode cX0_term 24 = .ok (.aload_n 0, 1) := by decide +kernel
theorem dX0_term_25 : decode cX0_term 25 = .ok (.getfield 25, 3) := by decide +kernel
theorem dX0_term_28 : decode cX0_term 28 = .ok (.iconst 1, 1) := by decide +kernel
theorem dX0_term_29 : decode cX0_term 29 = .ok (.if_icmp .ne 22, 3) := by decide +kernel
theorem dX0_term_32 : decode cX0_term 32 = .ok (.aload_n 0, 1) := by decide +kernel
theorem dX0_term_33 : decode cX0_term 33 = .ok (.getfield 35, 3) := by decide +kernel
theorem dX0_term_36 : decode cX0_term 36 = .ok (.bipush 10, 2) := by decide +kernel
theorem dX0_term_38 : decode cX0_term 38 = .ok (.aload_n 0, 1) := by decide +kernel
theorem dX0_term_39 : decode cX0_term 39 = .ok (.getfield 47, 3) := by decide +kernel
theorem dX0_term_42 : decode cX0_term 42 = .ok (.imul, 1) := by decide +kernel
theorem dX0_term_43 : decode cX0_term 43 = .ok (.iadd, 1) := by decide +kernel
theorem dX0_term_44 : decode cX0_term 44 = .ok (.iload 4, 2) := by decide +kernel
theorem dX0_term_46 : decode cX0_term 46 = .ok (.invokestatic 56, 3) := by decide +kernel
theorem dX0_term_49 : decode cX0_term 49 = .ok (.istore 4, 2) := by decide +kernel
theorem dX0_term_51 : decode cX0_term 51 = .ok (.iload 4, 2) := by decide +kernel
theorem dX0_term_53 : decode cX0_term 53 = .ok (.iload_n 3, 1) := by decide +kernel
theorem dX0_term_54 : decode cX0_term 54 = .ok (.isub, 1) := by decide +kernel
theorem dX0_term_55 : decode cX0_term 55 = .ok (.iconst 1, 1) := by decide +kernel
theorem dX0_term_56 : decode cX0_term 56 = .ok (.iadd, 1) := by decide +kernel
theorem dX0_term_57 : decode cX0_term 57 = .ok (.istore 5, 2) := by decide +kernel
theorem dX0_term_59 : decode cX0_term 59 = .ok (.iload 5, 2) := by decide +kernel
theorem dX0_term_61 : decode cX0_term 61 = .ok (.ifCond .gt 7, 3) := by decide +kernel
theorem dX0_term_64 : decode cX0_term 64 = .ok (.lconst 0, 1) := by decide +kernel
theorem dX0_term_65 : decode cX0_term 65 = .ok (.goto 13, 3) := by decide +kernel
theorem dX0_term_68 : decode cX0_term 68 = .ok (.lconst 1, 1) := by decide +kernel
theorem dX0_term_69 : decode cX0_term 69 = .ok (.iload 5, 2) := by decide +kernel
theorem dX0_term_71 : decode cX0_term 71 = .ok (.lshl, 1) := by decide +kernel
theorem dX0_term_72 : decode cX0_term 72 = .ok (.lconst 1, 1) := by decide +kernel
theorem dX0_term_73 : decode cX0_term 73 = .ok (.lsub, 1) := by decide +kernel
theorem dX0_term_74 : decode cX0_term 74 = .ok (.iload_n 3, 1) := by decide +kernel
theorem dX0_term_75 : decode cX0_term 75 = .ok (.iload_n 2, 1) := by decide +kernel
theorem dX0_term_76 : decode cX0_term 76 = .ok (.isub, 1) := by decide +kernel
theorem dX0_term_77 : decode cX0_term 77 = .ok (.lshl, 1) := by decide +kernel
theorem dX0_term_78 : decode cX0_term 78 = .ok (.lreturn, 1) := by decide +kernel
theorem dX1_init_0 : decode cX1_init 0 = .ok (.aload_n 0, 1) := by decide +kernel
theorem dX1_init_1 : decode cX1_init 1 = .ok (.invokespecial 3, 3) := by decide +kernel
theorem dX1_init_4 : decode cX1_init 4 = .ok (.aload_n 0, 1) := by decide +kernel
theorem dX1_init_5 : decode cX1_init 5 = .ok (.new 9, 3) := by decide +kernel
theorem dX1_init_8 : decode cX1_init 8 = .ok (.dup, 1) := by decide +kernel
theorem dX1_init_9 : decode cX1_init 9 = .ok (.invokespecial 11, 3) := by decide +kernel
theorem dX1_init_12 : decode cX1_init 12 = .ok (.putfield 12, 3) := by decide +kernel
theorem dX1_init_15 : decode cX1_init 15 = .ok (.aload_n 0, 1) := by decide +kernel
theorem dX1_init_16 : decode cX1_init 16 = .ok (.bipush 6, 2) := by decide +kernel
theorem dX1_init_18 : decode cX1_init 18 = .ok (.anewarray 18, 3) := by decide +kernel
theorem dX1_init_21 : decode cX1_init 21 = .ok (.putfield 20, 3) := by decide +kernel
theorem dX1_init_24 : decode cX1_init 24 = .ok (.iconst 0, 1) := by decide +kernel
theorem dX1_init_25 : decode cX1_init 25 = .ok (.istore_n 1, 1) := by decide +kernel
theorem dX1_init_26 : decode cX1_init 26 = .ok (.iload_n 1, 1) := by decide +kernel
theorem dX1_init_27 : decode cX1_init 27 = .ok (.bipush 6, 2) := by decide +kernel
theorem dX1_init_29 : decode cX1_init 29 = .ok (.if_icmp .ge 22, 3) := by decide +kernel
theorem dX1_init_32 : decode cX1_init 32 = .ok (.aload_n 0, 1) := by decide +kernel
theorem dX1_init_33 : decode cX1_init 33 = .ok (.getfield 20, 3) := by decide +kernel
theorem dX1_init_36 : decode cX1_init 36 = .ok (.iload_n 1, 1) := by decide +kernel
theorem dX1_init_37 : decode cX1_init 37 = .ok (.new 18, 3) := by decide +kernel
theorem dX1_init_40 : decode cX1_init 40 = .ok (.dup, 1) := by decide +kernel
theorem dX1_init_41 : decode cX1_init 41 = .ok (.invokespecial 24, 3) := by decide +kernel
theorem dX1_init_44 : decode cX1_init 44 = .ok (.aastore, 1) := by decide +kernel
theorem dX1_init_45 : decode cX1_init 45 = .ok (.iinc 1 1, 3) := by decide +kernel
theorem dX1_init_48 : decode cX1_init 48 = .ok (.goto (-22), 3) := by decide +kernel
theorem dX1_init_51 : decode cX1_init 51 = .ok (.return_, 1) := by decide +kernel
theorem dX1_found_0 : decode cX1_found 0 = .ok (.aload_n 0, 1) := by decide +kernel
theorem dX1_found_1 : decode cX1_found 1 = .ok (.getfield 12, 3) := by decide +kernel
theorem dX1_found_4 : decode cX1_found 4 = .ok (.aload_n 1, 1) := by decide +kernel
theorem dX1_found_5 : decode cX1_found 5 = .ok (.iload_n 2, 1) := by decide +kernel
theorem dX1_found_6 : decode cX1_found 6 = .ok (.invokevirtual 25, 3) := by decide +kernel
theorem dX1_found_9 : decode cX1_found 9 = .ok (.aload_n 0, 1) := by decide +kernel
theorem dX1_found_10 : decode cX1_found 10 = .ok (.aload_n 1, 1) := by decide +kernel
theorem dX1_found_11 : decode cX1_found 11 = .ok (.iload_n 2, 1) := by decide +kernel
theorem dX1_found_12 : decode cX1_found 12 = .ok (.bipush 6, 2) := by decide +kernel
theorem dX1_found_14 : decode cX1_found 14 = .ok (.iadd, 1) := by decide +kernel
theorem dX1_found_15 : decode cX1_found 15 = .ok (.invokestatic 29, 3) := by decide +kernel
theorem dX1_found_18 : decode cX1_found 18 = .ok (.putfield 35, 3) := by decide +kernel
theorem dX1_found_21 : decode cX1_found 21 = .ok (.aload_n 0, 1) := by decide +kernel
theorem dX1_found_22 : decode cX1_found 22 = .ok (.iload_n 3, 1) := by decide +kernel
theorem dX1_found_23 : decode cX1_found 23 = .ok (.bipush 7, 2) := by decide +kernel
theorem dX1_found_25 : decode cX1_found 25 = .ok (.idiv, 1) := by decide +kernel
theorem dX1_found_26 : decode cX1_found 26 = .ok (.iconst 1, 1) := by decide +kernel
theorem dX1_found_27 : decode cX1_found 27 = .ok (.isub, 1) := by decide +kernel
theorem dX1_found_28 : decode cX1_found 28 = .ok (.bipush 6, 2) := by decide +kernel
theorem dX1_found_30 : decode cX1_found 30 = .ok (.invokestatic 39, 3) := by decide +kernel
theorem dX1_found_33 : decode cX1_found 33 = .ok (.putfield 45, 3) := by decide +kernel
theorem dX1_found_36 : decode cX1_found 36 = .ok (.iconst 0, 1) := by decide +kernel
theorem dX1_found_37 : decode cX1_found 37 = .ok (.istore 4, 2) := by decide +kernel
theorem dX1_found_39 : decode cX1_found 39 = .ok (.iload 4, 2) := by decide +kernel
theorem dX1_found_41 : decode cX1_found 41 = .ok (.aload_n 0, 1) := by decide +kernel
theorem dX1_found_42 : decode cX1_found 42 = .ok (.getfield 45, 3) := by decide +kernel
theorem dX1_found_45 : decode cX1_found 45 = .ok (.if_icmp .ge 29, 3) := by decide +kernel
theorem dX1_found_48 : decode cX1_found 48 = .ok (.aload_n 0, 1) := by decide +kernel
theorem dX1_found_49 : decode cX1_found 49 = .ok (.getfield 20, 3) := by decide +kernel
theorem dX1_found_52 : decode cX1_found 52 = .ok (.iload 4, 2) := by decide +kernel
theorem dX1_found_54 : decode cX1_found 54 = .ok (.aaload, 1) := by decide +kernel
theorem dX1_found_55 : decode cX1_found 55 = .ok (.aload_n 1, 1) := by decide +kernel
theorem dX1_found_56 : decode cX1_found 56 = .ok (.iload_n 2, 1) := by decide +kernel
theorem dX1_found_57 : decode cX1_found 57 = .ok (.bipush 7, 2) := by decide +kernel
theorem dX1_found_59 : decode cX1_found 59 = .ok (.iload 4, 2) := by decide +kernel
theorem dX1_found_61 : decode cX1_found 61 = .ok (.iconst 1, 1) := by decide +kernel
theorem dX1_found_62 : decode cX1_found 62 = .ok (.iadd, 1) := by decide +kernel
theorem dX1_found_63 : decode cX1_found 63 = .ok (.imul, 1) := by decide +kernel
theorem dX1_found_64 : decode cX1_found 64 = .ok (.iadd, 1) := by decide +kernel
theorem dX1_found_65 : decode cX1_found 65 = .ok (.invokevirtual 48, 3) := by decide +kernel
theorem dX1_found_68 : decode cX1_found 68 = .ok (.iinc 4 1, 3) := by decide +kernel
theorem dX1_found_71 : decode cX1_found 71 = .ok (.goto (-32), 3) := by decide +kernel
theorem dX1_found_74 : decode cX1_found 74 = .ok (.return_, 1) := by decide +kernel
theorem dX1_settle_0 : decode cX1_settle 0 = .ok (.aload_n 0, 1) := by decide +kernel
theorem dX1_settle_1 : decode cX1_settle 1 = .ok (.invokevirtual 49, 3) := by decide +kernel
theorem dX1_settle_4 : decode cX1_settle 4 = .ok (.aload_n 0, 1) := by decide +kernel
theorem dX1_settle_5 : decode cX1_settle 5 = .ok (.aload_n 0, 1) := by decide +kernel
theorem dX1_settle_6 : decode cX1_settle 6 = .ok (.getfield 12, 3) := by decide +kernel
theorem dX1_settle_9 : decode cX1_settle 9 = .ok (.invokevirtual 52, 3) := by decide +kernel
theorem dX1_settle_12 : decode cX1_settle 12 = .ok (.bipush 6, 2) := by decide +kernel
theorem dX1_settle_14 : decode cX1_settle 14 = .ok (.invokevirtual 56, 3) := by decide +kernel
theorem dX1_settle_17 : decode cX1_settle 17 = .ok (.return_, 1) := by decide +kernel
theorem dX1_watchAll_0 : decode cX1_watchAll 0 = .ok (.iconst 0, 1) := by decide +kernel
theorem dX1_watchAll_1 : decode cX1_watchAll 1 = .ok (.istore_n 1, 1) := by decide +kernel
theorem dX1_watchAll_2 : decode cX1_watchAll 2 = .ok (.iload_n 1, 1) := by decide +kernel
theorem dX1_watchAll_3 : decode cX1_watchAll 3 = .ok (.aload_n 0, 1) := by decide +kernel
theorem dX1_watchAll_4 : decode cX1_watchAll 4 = .ok (.getfield 45, 3) := by decide +kernel
theorem dX1_watchAll_7 : decode cX1_watchAll 7 = .ok (.if_icmp .ge 40, 3) := by decide +kernel
theorem dX1_watchAll_10 : decode cX1_watchAll 10 = .ok (.aload_n 0, 1) := by decide +kernel
theorem dX1_watchAll_11 : decode cX1_watchAll 11 = .ok (.getfield 20, 3) := by decide +kernel
theorem dX1_watchAll_14 : decode cX1_watchAll 14 = .ok (.iload_n 1, 1) := by decide +kernel
theorem dX1_watchAll_15 : decode cX1_watchAll 15 = .ok (.aaload, 1) := by decide +kernel
theorem dX1_watchAll_16 : decode cX1_watchAll 16 = .ok (.astore_n 2, 1) := by decide +kernel
theorem dX1_watchAll_17 : decode cX1_watchAll 17 = .ok (.aload_n 2, 1) := by decide +kernel
theorem dX1_watchAll_18 : decode cX1_watchAll 18 = .ok (.aload_n 0, 1) := by decide +kernel
theorem dX1_watchAll_19 : decode cX1_watchAll 19 = .ok (.getfield 12, 3) := by decide +kernel
theorem dX1_watchAll_22 : decode cX1_watchAll 22 = .ok (.aload_n 2, 1) := by decide +kernel
theorem dX1_watchAll_23 : decode cX1_watchAll 23 = .ok (.getfield 60, 3) := by decide +kernel
theorem dX1_watchAll_26 : decode cX1_watchAll 26 = .ok (.aload_n 2, 1) := by decide +kernel
theorem dX1_watchAll_27 : decode cX1_watchAll 27 = .ok (.getfield 60, 3) := by decide +kernel
theorem dX1_watchAll_30 : decode cX1_watchAll 30 = .ok (.aload_n 0, 1) := by decide +kernel
theorem dX1_watchAll_31 : decode cX1_watchAll 31 = .ok (.getfield 35, 3) := by decide +kernel
theorem dX1_watchAll_34 : decode cX1_watchAll 34 = .ok (.iadd, 1) := by decide +kernel
theorem dX1_watchAll_35 : decode cX1_watchAll 35 = .ok (.invokevirtual 63, 3) := by decide +kernel
theorem dX1_watchAll_38 : decode cX1_watchAll 38 = .ok (.putfield 66, 3) := by decide +kernel
theorem dX1_watchAll_41 : decode cX1_watchAll 41 = .ok (.iinc 1 1, 3) := by decide +kernel
theorem dX1_watchAll_44 : decode cX1_watchAll 44 = .ok (.goto (-42), 3) := by decide +kernel
theorem dX1_watchAll_47 : decode cX1_watchAll 47 = .ok (.return_, 1) := by decide +kernel
theorem dX1_allMoons_0 : decode cX1_allMoons 0 = .ok (.iconst 0, 1) := by decide +kernel
theorem dX1_allMoons_1 : decode cX1_allMoons 1 = .ok (.istore_n 1, 1) := by decide +kernel
theorem dX1_allMoons_2 : decode cX1_allMoons 2 = .ok (.iconst 0, 1) := by decide +kernel
theorem dX1_allMoons_3 : decode cX1_allMoons 3 = .ok (.istore_n 2, 1) := by decide +kernel
theorem dX1_allMoons_4 : decode cX1_allMoons 4 = .ok (.iload_n 2, 1) := by decide +kernel
theorem dX1_allMoons_5 : decode cX1_allMoons 5 = .ok (.aload_n 0, 1) := by decide +kernel
theorem dX1_allMoons_6 : decode cX1_allMoons 6 = .ok (.getfield 45, 3) := by decide +kernel
theorem dX1_allMoons_9 : decode cX1_allMoons 9 = .ok (.if_icmp .ge 21, 3) := by decide +kernel
theorem dX1_allMoons_12 : decode cX1_allMoons 12 = .ok (.iload_n 1, 1) := by decide +kernel
theorem dX1_allMoons_13 : decode cX1_allMoons 13 = .ok (.aload_n 0, 1) := by decide +kernel
theorem dX1_allMoons_14 : decode cX1_allMoons 14 = .ok (.getfield 20, 3) := by decide +kernel
theorem dX1_allMoons_17 : decode cX1_allMoons 17 = .ok (.iload_n 2, 1) := by decide +kernel
theorem dX1_allMoons_18 : decode cX1_allMoons 18 = .ok (.aaload, 1) := by decide +kernel
theorem dX1_allMoons_19 : decode cX1_allMoons 19 = .ok (.getfield 66, 3) := by decide +kernel
theorem dX1_allMoons_22 : decode cX1_allMoons 22 = .ok (.ior, 1) := by decide +kernel
theorem dX1_allMoons_23 : decode cX1_allMoons 23 = .ok (.istore_n 1, 1) := by decide +kernel
theorem dX1_allMoons_24 : decode cX1_allMoons 24 = .ok (.iinc 2 1, 3) := by decide +kernel
theorem dX1_allMoons_27 : decode cX1_allMoons 27 = .ok (.goto (-23), 3) := by decide +kernel
theorem dX1_allMoons_30 : decode cX1_allMoons 30 = .ok (.iload_n 1, 1) := by decide +kernel
theorem dX1_allMoons_31 : decode cX1_allMoons 31 = .ok (.ireturn, 1) := by decide +kernel
theorem dX1_pass_0 : decode cX1_pass 0 = .ok (.aload_n 0, 1) := by decide +kernel
theorem dX1_pass_1 : decode cX1_pass 1 = .ok (.iconst 0, 1) := by decide +kernel
theorem dX1_pass_2 : decode cX1_pass 2 = .ok (.putfield 69, 3) := by decide +kernel
theorem dX1_pass_5 : decode cX1_pass 5 = .ok (.iconst 0, 1) := by decide +kernel
theorem dX1_pass_6 : decode cX1_pass 6 = .ok (.istore_n 3, 1) := by decide +kernel
theorem dX1_pass_7 : decode cX1_pass 7 = .ok (.iconst 0, 1) := by decide +kernel
theorem dX1_pass_8 : decode cX1_pass 8 = .ok (.istore 4, 2) := by decide +kernel
theorem dX1_pass_10 : decode cX1_pass 10 = .ok (.iload 4, 2) := by decide +kernel
theorem dX1_pass_12 : decode cX1_pass 12 = .ok (.aload_n 0, 1) := by decide +kernel
theorem dX1_pass_13 : decode cX1_pass 13 = .ok (.getfield 45, 3) := by decide +kernel
theorem dX1_pass_16 : decode cX1_pass 16 = .ok (.if_icmp .ge 126, 3) := by decide +kernel
theorem dX1_pass_19 : decode cX1_pass 19 = .ok (.aload_n 0, 1) := by decide +kernel
theorem dX1_pass_20 : decode cX1_pass 20 = .ok (.iload_n 3, 1) := by decide +kernel
theorem dX1_pass_21 : decode cX1_pass 21 = .ok (.invokevirtual 72, 3) := by decide +kernel
theorem dX1_pass_24 : decode cX1_pass 24 = .ok (.istore 5, 2) := by decide +kernel
theorem dX1_pass_26 : decode cX1_pass 26 = .ok (.iload_n 3, 1) := by decide +kernel
theorem dX1_pass_27 : decode cX1_pass 27 = .ok (.iconst 1, 1) := by decide +kernel
theorem dX1_pass_28 : decode cX1_pass 28 = .ok (.iload 5, 2) := by decide +kernel
theorem dX1_pass_30 : decode cX1_pass 30 = .ok (.ishl, 1) := by decide +kernel
theorem dX1_pass_31 : decode cX1_pass 31 = .ok (.ior, 1) := by decide +kernel
theorem dX1_pass_32 : decode cX1_pass 32 = .ok (.istore_n 3, 1) := by decide +kernel
theorem dX1_pass_33 : decode cX1_pass 33 = .ok (.aload_n 0, 1) := by decide +kernel
theorem dX1_pass_34 : decode cX1_pass 34 = .ok (.getfield 20, 3) := by decide +kernel
theorem dX1_pass_37 : decode cX1_pass 37 = .ok (.iload 5, 2) := by decide +kernel
theorem dX1_pass_39 : decode cX1_pass 39 = .ok (.aaload, 1) := by decide +kernel
theorem dX1_pass_40 : decode cX1_pass 40 = .ok (.astore 6, 2) := by decide +kernel
theorem dX1_pass_42 : decode cX1_pass 42 = .ok (.iload 5, 2) := by decide +kernel
theorem dX1_pass_44 : decode cX1_pass 44 = .ok (.iload_n 2, 1) := by decide +kernel
theorem dX1_pass_45 : decode cX1_pass 45 = .ok (.if_icmp .eq 15, 3) := by decide +kernel
theorem dX1_pass_48 : decode cX1_pass 48 = .ok (.aload 6, 2) := by decide +kernel
theorem dX1_pass_50 : decode cX1_pass 50 = .ok (.getfield 66, 3) := by decide +kernel
theorem dX1_pass_53 : decode cX1_pass 53 = .ok (.iload_n 1, 1) := by decide +kernel
theorem dX1_pass_54 : decode cX1_pass 54 = .ok (.iconst (-1), 1) := by decide +kernel
theorem dX1_pass_55 : decode cX1_pass 55 = .ok (.ixor, 1) := by decide +kernel
theorem dX1_pass_56 : decode cX1_pass 56 = .ok (.iand, 1) := by decide +kernel
theorem dX1_pass_57 : decode cX1_pass 57 = .ok (.ifCond .eq 7, 3) := by decide +kernel
theorem dX1_pass_60 : decode cX1_pass 60 = .ok (.iconst 1, 1) := by decide +kernel
theorem dX1_pass_61 : decode cX1_pass 61 = .ok (.goto 4, 3) := by decide +kernel
theorem dX1_pass_64 : decode cX1_pass 64 = .ok (.iconst 0, 1) := by decide +kernel
theorem dX1_pass_65 : decode cX1_pass 65 = .ok (.istore 7, 2) := by decide +kernel
theorem dX1_pass_67 : decode cX1_pass 67 = .ok (.aload 6, 2) := by decide +kernel
theorem dX1_pass_69 : decode cX1_pass 69 = .ok (.getfield 76, 3) := by decide +kernel
theorem dX1_pass_72 : decode cX1_pass 72 = .ok (.bipush 6, 2) := by decide +kernel
theorem dX1_pass_74 : decode cX1_pass 74 = .ok (.if_icmp .eq 32, 3) := by decide +kernel
theorem dX1_pass_77 : decode cX1_pass 77 = .ok (.aload 6, 2) := by decide +kernel
theorem dX1_pass_79 : decode cX1_pass 79 = .ok (.getfield 76, 3) := by decide +kernel
theorem dX1_pass_82 : decode cX1_pass 82 = .ok (.aload_n 0, 1) := by decide +kernel
theorem dX1_pass_83 : decode cX1_pass 83 = .ok (.getfield 45, 3) := by decide +kernel
theorem dX1_pass_86 : decode cX1_pass 86 = .ok (.if_icmp .ge 24, 3) := by decide +kernel
theorem dX1_pass_89 : decode cX1_pass 89 = .ok (.aload_n 0, 1) := by decide +kernel
theorem dX1_pass_90 : decode cX1_pass 90 = .ok (.aload 6, 2) := by decide +kernel
theorem dX1_pass_92 : decode cX1_pass 92 = .ok (.getfield 76, 3) := by decide +kernel
theorem dX1_pass_95 : decode cX1_pass 95 = .ok (.aload 6, 2) := by decide +kernel
theorem dX1_pass_97 : decode cX1_pass 97 = .ok (.getfield 60, 3) := by decide +kernel
theorem dX1_pass_100 : decode cX1_pass 100 = .ok (.invokevirtual 79, 3) := by decide +kernel
theorem dX1_pass_103 : decode cX1_pass 103 = .ok (.ifCond .eq 7, 3) := by decide +kernel
theorem dX1_pass_106 : decode cX1_pass 106 = .ok (.iconst 1, 1) := by decide +kernel
theorem dX1_pass_107 : decode cX1_pass 107 = .ok (.goto 4, 3) := by decide +kernel
theorem dX1_pass_110 : decode cX1_pass 110 = .ok (.iconst 0, 1) := by decide +kernel
theorem dX1_pass_111 : decode cX1_pass 111 = .ok (.istore 8, 2) := by decide +kernel
theorem dX1_pass_113 : decode cX1_pass 113 = .ok (.iload 7, 2) := by decide +kernel
theorem dX1_pass_115 : decode cX1_pass 115 = .ok (.ifCond .ne 21, 3) := by decide +kernel
theorem dX1_pass_118 : decode cX1_pass 118 = .ok (.iload 8, 2) := by decide +kernel
theorem dX1_pass_120 : decode cX1_pass 120 = .ok (.ifCond .eq 16, 3) := by decide +kernel
theorem dX1_pass_123 : decode cX1_pass 123 = .ok (.aload_n 0, 1) := by decide +kernel
theorem dX1_pass_124 : decode cX1_pass 124 = .ok (.dup, 1) := by decide +kernel
theorem dX1_pass_125 : decode cX1_pass 125 = .ok (.getfield 69, 3) := by decide +kernel
theorem dX1_pass_128 : decode cX1_pass 128 = .ok (.iconst 1, 1) := by decide +kernel
theorem dX1_pass_129 : decode cX1_pass 129 = .ok (.iload 5, 2) := by decide +kernel
theorem dX1_pass_131 : decode cX1_pass 131 = .ok (.ishl, 1) := by decide +kernel
theorem dX1_pass_132 : decode cX1_pass 132 = .ok (.ior, 1) := by decide +kernel
theorem dX1_pass_133 : decode cX1_pass 133 = .ok (.putfield 69, 3) := by decide +kernel
theorem dX1_pass_136 : decode cX1_pass 136 = .ok (.iinc 4 1, 3) := by decide +kernel
theorem dX1_pass_139 : decode cX1_pass 139 = .ok (.goto (-129), 3) := by decide +kernel
theorem dX1_pass_142 : decode cX1_pass 142 = .ok (.return_, 1) := by decide +kernel
theorem dX1_earliestBut_0 : decode cX1_earliestBut 0 = .ok (.iconst 0, 1) := by decide +kernel
theorem dX1_earliestBut_1 : decode cX1_earliestBut 1 = .ok (.istore_n 2, 1) := by decide +kernel
theorem dX1_earliestBut_2 : decode cX1_earliestBut 2 = .ok (.bipush 110, 2) := by decide +kernel
theorem dX1_earliestBut_4 : decode cX1_earliestBut 4 = .ok (.istore_n 3, 1) := by decide +kernel
theorem dX1_earliestBut_5 : decode cX1_earliestBut 5 = .ok (.iconst 0, 1) := by decide +kernel
theorem dX1_earliestBut_6 : decode cX1_earliestBut 6 = .ok (.istore 4, 2) := by decide +kernel
theorem dX1_earliestBut_8 : decode cX1_earliestBut 8 = .ok (.iload 4, 2) := by decide +kernel
theorem dX1_earliestBut_10 : decode cX1_earliestBut 10 = .ok (.aload_n 0, 1) := by decide +kernel
theorem dX1_earliestBut_11 : decode cX1_earliestBut 11 = .ok (.getfield 45, 3) := by decide +kernel
theorem dX1_earliestBut_14 : decode cX1_earliestBut 14 = .ok (.if_icmp .ge 46, 3) := by decide +kernel
theorem dX1_earliestBut_17 : decode cX1_earliestBut 17 = .ok (.iload_n 1, 1) := by decide +kernel
theorem dX1_earliestBut_18 : decode cX1_earliestBut 18 = .ok (.iload 4, 2) := by decide +kernel
theorem dX1_earliestBut_20 : decode cX1_earliestBut 20 = .ok (.ishr, 1) := by decide +kernel
theorem dX1_earliestBut_21 : decode cX1_earliestBut 21 = .ok (.iconst 1, 1) := by decide +kernel
theorem dX1_earliestBut_22 : decode cX1_earliestBut 22 = .ok (.iand, 1) := by decide +kernel
theorem dX1_earliestBut_23 : decode cX1_earliestBut 23 = .ok (.ifCond .ne 31, 3) := by decide +kernel
theorem dX1_earliestBut_26 : decode cX1_earliestBut 26 = .ok (.aload_n 0, 1) := by decide +kernel
theorem dX1_earliestBut_27 : decode cX1_earliestBut 27 = .ok (.getfield 20, 3) := by decide +kernel
theorem dX1_earliestBut_30 : decode cX1_earliestBut 30 = .ok (.iload 4, 2) := by decide +kernel
theorem dX1_earliestBut_32 : decode cX1_earliestBut 32 = .ok (.aaload, 1) := by decide +kernel
theorem dX1_earliestBut_33 : decode cX1_earliestBut 33 = .ok (.getfield 60, 3) := by decide +kernel
theorem dX1_earliestBut_36 : decode cX1_earliestBut 36 = .ok (.iload_n 3, 1) := by decide +kernel
theorem dX1_earliestBut_37 : decode cX1_earliestBut 37 = .ok (.if_icmp .ge 17, 3) := by decide +kernel
theorem dX1_earliestBut_40 : decode cX1_earliestBut 40 = .ok (.iload 4, 2) := by decide +kernel
theorem dX1_earliestBut_42 : decode cX1_earliestBut 42 = .ok (.istore_n 2, 1) := by decide +kernel
theorem dX1_earliestBut_43 : decode cX1_earliestBut 43 = .ok (.aload_n 0, 1) := by decide +kernel
theorem dX1_earliestBut_44 : decode cX1_earliestBut 44 = .ok (.getfield 20, 3) := by decide +kernel
theorem dX1_earliestBut_47 : decode cX1_earliestBut 47 = .ok (.iload 4, 2) := by decide +kernel
theorem dX1_earliestBut_49 : decode cX1_earliestBut 49 = .ok (.aaload, 1) := by decide +kernel
theorem dX1_earliestBut_50 : decode cX1_earliestBut 50 = .ok (.getfield 60, 3) := by decide +kernel
theorem dX1_earliestBut_53 : decode cX1_earliestBut 53 = .ok (.istore_n 3, 1) := by decide +kernel
theorem dX1_earliestBut_54 : decode cX1_earliestBut 54 = .ok (.iinc 4 1, 3) := by decide +kernel
theorem dX1_earliestBut_57 : decode cX1_earliestBut 57 = .ok (.goto (-49), 3) := by decide +kernel
theorem dX1_earliestBut_60 : decode cX1_earliestBut 60 = .ok (.iload_n 2, 1) := by decide +kernel
theorem dX1_earliestBut_61 : decode cX1_earliestBut 61 = .ok (.ireturn, 1) := by decide +kernel
theorem dX1_isLater_0 : decode cX1_isLater 0 = .ok (.aload_n 0, 1) := by decide +kernel
theorem dX1_isLater_1 : decode cX1_isLater 1 = .ok (.getfield 20, 3) := by decide +kernel
theorem dX1_isLater_4 : decode cX1_isLater 4 = .ok (.iload_n 1, 1) := by decide +kernel
theorem dX1_isLater_5 : decode cX1_isLater 5 = .ok (.aaload, 1) := by decide +kernel
theorem dX1_isLater_6 : decode cX1_isLater 6 = .ok (.getfield 60, 3) := by decide +kernel
theorem dX1_isLater_9 : decode cX1_isLater 9 = .ok (.aload_n 0, 1) := by decide +kernel
theorem dX1_isLater_10 : decode cX1_isLater 10 = .ok (.getfield 20, 3) := by decide +kernel
theorem dX1_isLater_13 : decode cX1_isLater 13 = .ok (.iload_n 2, 1) := by decide +kernel
theorem dX1_isLater_14 : decode cX1_isLater 14 = .ok (.aaload, 1) := by decide +kernel
theorem dX1_isLater_15 : decode cX1_isLater 15 = .ok (.getfield 60, 3) := by decide +kernel
theorem dX1_isLater_18 : decode cX1_isLater 18 = .ok (.isub, 1) := by decide +kernel
theorem dX1_isLater_19 : decode cX1_isLater 19 = .ok (.istore_n 3, 1) := by decide +kernel
theorem dX1_isLater_20 : decode cX1_isLater 20 = .ok (.iload_n 3, 1) := by decide +kernel
theorem dX1_isLater_21 : decode cX1_isLater 21 = .ok (.ifCond .gt 12, 3) := by decide +kernel
theorem dX1_isLater_24 : decode cX1_isLater 24 = .ok (.iload_n 3, 1) := by decide +kernel
theorem dX1_isLater_25 : decode cX1_isLater 25 = .ok (.ifCond .ne 12, 3) := by decide +kernel
theorem dX1_isLater_28 : decode cX1_isLater 28 = .ok (.iload_n 1, 1) := by decide +kernel
theorem dX1_isLater_29 : decode cX1_isLater 29 = .ok (.iload_n 2, 1) := by decide +kernel
theorem dX1_isLater_30 : decode cX1_isLater 30 = .ok (.if_icmp .le 7, 3) := by decide +kernel
theorem dX1_isLater_33 : decode cX1_isLater 33 = .ok (.iconst 1, 1) := by decide +kernel
theorem dX1_isLater_34 : decode cX1_isLater 34 = .ok (.goto 4, 3) := by decide +kernel
theorem dX1_isLater_37 : decode cX1_isLater 37 = .ok (.iconst 0, 1) := by decide +kernel
theorem dX1_isLater_38 : decode cX1_isLater 38 = .ok (.ireturn, 1) := by decide +kernel
theorem dX1_daysInForce_0 : decode cX1_daysInForce 0 = .ok (.aload_n 0, 1) := by decide +kernel
theorem dX1_daysInForce_1 : decode cX1_daysInForce 1 = .ok (.getfield 69, 3) := by decide +kernel
theorem dX1_daysInForce_4 : decode cX1_daysInForce 4 = .ok (.iload_n 1, 1) := by decide +kernel
theorem dX1_daysInForce_5 : decode cX1_daysInForce 5 = .ok (.ishr, 1) := by decide +kernel
theorem dX1_daysInForce_6 : decode cX1_daysInForce 6 = .ok (.iconst 1, 1) := by decide +kernel
theorem dX1_daysInForce_7 : decode cX1_daysInForce 7 = .ok (.iand, 1) := by decide +kernel
theorem dX1_daysInForce_8 : decode cX1_daysInForce 8 = .ok (.ifCond .eq 9, 3) := by decide +kernel
theorem dX1_daysInForce_11 : decode cX1_daysInForce 11 = .ok (.iload_n 3, 1) := by decide +kernel
theorem dX1_daysInForce_12 : decode cX1_daysInForce 12 = .ok (.bipush 6, 2) := by decide +kernel
theorem dX1_daysInForce_14 : decode cX1_daysInForce 14 = .ok (.if_icmp .le 5, 3) := by decide +kernel
theorem dX1_daysInForce_17 : decode cX1_daysInForce 17 = .ok (.lconst 0, 1) := by decide +kernel
theorem dX1_daysInForce_18 : decode cX1_daysInForce 18 = .ok (.lreturn, 1) := by decide +kernel
theorem dX1_daysInForce_19 : decode cX1_daysInForce 19 = .ok (.aload_n 0, 1) := by decide +kernel
theorem dX1_daysInForce_20 : decode cX1_daysInForce 20 = .ok (.getfield 20, 3) := by decide +kernel
theorem dX1_daysInForce_23 : decode cX1_daysInForce 23 = .ok (.iload_n 1, 1) := by decide +kernel
theorem dX1_daysInForce_24 : decode cX1_daysInForce 24 = .ok (.aaload, 1) := by decide +kernel
theorem dX1_daysInForce_25 : decode cX1_daysInForce 25 = .ok (.iload_n 2, 1) := by decide +kernel
theorem dX1_daysInForce_26 : decode cX1_daysInForce 26 = .ok (.invokevirtual 83, 3) := by decide +kernel
theorem dX1_daysInForce_29 : decode cX1_daysInForce 29 = .ok (.lstore 4, 2) := by decide +kernel
theorem dX1_daysInForce_31 : decode cX1_daysInForce 31 = .ok (.iconst 0, 1) := by decide +kernel
theorem dX1_daysInForce_32 : decode cX1_daysInForce 32 = .ok (.istore 6, 2) := by decide +kernel
theorem dX1_daysInForce_34 : decode cX1_daysInForce 34 = .ok (.iload 6, 2) := by decide +kernel
theorem dX1_daysInForce_36 : decode cX1_daysInForce 36 = .ok (.aload_n 0, 1) := by decide +kernel
theorem dX1_daysInForce_37 : decode cX1_daysInForce 37 = .ok (.getfield 45, 3) := by decide +kernel
theorem dX1_daysInForce_40 : decode cX1_daysInForce 40 = .ok (.if_icmp .ge 73, 3) := by decide +kernel
theorem dX1_daysInForce_43 : decode cX1_daysInForce 43 = .ok (.lload 4, 2) := by decide +kernel
theorem dX1_daysInForce_45 : decode cX1_daysInForce 45 = .ok (.lconst 0, 1) := by decide +kernel
theorem dX1_daysInForce_46 : decode cX1_daysInForce 46 = .ok (.lcmp, 1) := by decide +kernel
theorem dX1_daysInForce_47 : decode cX1_daysInForce 47 = .ok (.ifCond .eq 66, 3) := by decide +kernel
theorem dX1_daysInForce_50 : decode cX1_daysInForce 50 = .ok (.aload_n 0, 1) := by decide +kernel
theorem dX1_daysInForce_51 : decode cX1_daysInForce 51 = .ok (.getfield 20, 3) := by decide +kernel
theorem dX1_daysInForce_54 : decode cX1_daysInForce 54 = .ok (.iload 6, 2) := by decide +kernel
theorem dX1_daysInForce_56 : decode cX1_daysInForce 56 = .ok (.aaload, 1) := by decide +kernel
theorem dX1_daysInForce_57 : decode cX1_daysInForce 57 = .ok (.getfield 87, 3) := by decide +kernel
theorem dX1_daysInForce_60 : decode cX1_daysInForce 60 = .ok (.iconst 2, 1) := by decide +kernel
theorem dX1_daysInForce_61 : decode cX1_daysInForce 61 = .ok (.if_icmp .ne 46, 3) := by decide +kernel
theorem dX1_daysInForce_64 : decode cX1_daysInForce 64 = .ok (.aload_n 0, 1) := by decide +kernel
theorem dX1_daysInForce_65 : decode cX1_daysInForce 65 = .ok (.getfield 20, 3) := by decide +kernel
theorem dX1_daysInForce_68 : decode cX1_daysInForce 68 = .ok (.iload 6, 2) := by decide +kernel
theorem dX1_daysInForce_70 : decode cX1_daysInForce 70 = .ok (.aaload, 1) := by decide +kernel
theorem dX1_daysInForce_71 : decode cX1_daysInForce 71 = .ok (.getfield 90, 3) := by decide +kernel
theorem dX1_daysInForce_74 : decode cX1_daysInForce 74 = .ok (.iload_n 1, 1) := by decide +kernel
theorem dX1_daysInForce_75 : decode cX1_daysInForce 75 = .ok (.if_icmp .ne 32, 3) := by decide +kernel
theorem dX1_daysInForce_78 : decode cX1_daysInForce 78 = .ok (.aload_n 0, 1) := by decide +kernel
theorem dX1_daysInForce_79 : decode cX1_daysInForce 79 = .ok (.iload 6, 2) := by decide +kernel
theorem dX1_daysInForce_81 : decode cX1_daysInForce 81 = .ok (.iload_n 1, 1) := by decide +kernel
theorem dX1_daysInForce_82 : decode cX1_daysInForce 82 = .ok (.invokevirtual 93, 3) := by decide +kernel
theorem dX1_daysInForce_85 : decode cX1_daysInForce 85 = .ok (.ifCond .eq 22, 3) := by decide +kernel
theorem dX1_daysInForce_88 : decode cX1_daysInForce 88 = .ok (.lload 4, 2) := by decide +kernel
theorem dX1_daysInForce_90 : decode cX1_daysInForce 90 = .ok (.aload_n 0, 1) := by decide +kernel
theorem dX1_daysInForce_91 : decode cX1_daysInForce 91 = .ok (.iload 6, 2) := by decide +kernel
theorem dX1_daysInForce_93 : decode cX1_daysInForce 93 = .ok (.iload_n 2, 1) := by decide +kernel
theorem dX1_daysInForce_94 : decode cX1_daysInForce 94 = .ok (.iload_n 3, 1) := by decide +kernel
theorem dX1_daysInForce_95 : decode cX1_daysInForce 95 = .ok (.iconst 1, 1) := by decide +kernel
theorem dX1_daysInForce_96 : decode cX1_daysInForce 96 = .ok (.iadd, 1) := by decide +kernel
theorem dX1_daysInForce_97 : decode cX1_daysInForce 97 = .ok (.invokevirtual 96, 3) := by decide +kernel
theorem dX1_daysInForce_100 : decode cX1_daysInForce 100 = .ok (.ldc2_w 100, 3) := by decide +kernel
theorem dX1_daysInForce_103 : decode cX1_daysInForce 103 = .ok (.lxor, 1) := by decide +kernel
theorem dX1_daysInForce_104 : decode cX1_daysInForce 104 = .ok (.land, 1) := by decide +kernel
theorem dX1_daysInForce_105 : decode cX1_daysInForce 105 = .ok (.lstore 4, 2) := by decide +kernel
theorem dX1_daysInForce_107 : decode cX1_daysInForce 107 = .ok (.iinc 6 1, 3) := by decide +kernel
theorem dX1_daysInForce_110 : decode cX1_daysInForce 110 = .ok (.goto (-76), 3) := by decide +kernel
theorem dX1_daysInForce_113 : decode cX1_daysInForce 113 = .ok (.lload 4, 2) := by decide +kernel
theorem dX1_daysInForce_115 : decode cX1_daysInForce 115 = .ok (.lreturn, 1) := by decide +kernel
theorem dX1_isInForce_0 : decode cX1_isInForce 0 = .ok (.aload_n 0, 1) := by decide +kernel
theorem dX1_isInForce_1 : decode cX1_isInForce 1 = .ok (.iload_n 1, 1) := by decide +kernel
theorem dX1_isInForce_2 : decode cX1_isInForce 2 = .ok (.iload_n 2, 1) := by decide +kernel
theorem dX1_isInForce_3 : decode cX1_isInForce 3 = .ok (.bipush 55, 2) := by decide +kernel
theorem dX1_isInForce_5 : decode cX1_isInForce 5 = .ok (.idiv, 1) := by decide +kernel
theorem dX1_isInForce_6 : decode cX1_isInForce 6 = .ok (.iconst 1, 1) := by decide +kernel
theorem dX1_isInForce_7 : decode cX1_isInForce 7 = .ok (.invokevirtual 96, 3) := by decide +kernel
theorem dX1_isInForce_10 : decode cX1_isInForce 10 = .ok (.iload_n 2, 1) := by decide +kernel
theorem dX1_isInForce_11 : decode cX1_isInForce 11 = .ok (.bipush 55, 2) := by decide +kernel
theorem dX1_isInForce_13 : decode cX1_isInForce 13 = .ok (.irem, 1) := by decide +kernel
theorem dX1_isInForce_14 : decode cX1_isInForce 14 = .ok (.lshr, 1) := by decide +kernel
theorem dX1_isInForce_15 : decode cX1_isInForce 15 = .ok (.lconst 1, 1) := by decide +kernel
theorem dX1_isInForce_16 : decode cX1_isInForce 16 = .ok (.land, 1) := by decide +kernel
theorem dX1_isInForce_17 : decode cX1_isInForce 17 = .ok (.lconst 0, 1) := by decide +kernel
theorem dX1_isInForce_18 : decode cX1_isInForce 18 = .ok (.lcmp, 1) := by decide +kernel
theorem dX1_isInForce_19 : decode cX1_isInForce 19 = .ok (.ifCond .eq 7, 3) := by decide +kernel
theorem dX1_isInForce_22 : decode cX1_isInForce 22 = .ok (.iconst 1, 1) := by decide +kernel
theorem dX1_isInForce_23 : decode cX1_isInForce 23 = .ok (.goto 4, 3) := by decide +kernel
theorem dX1_isInForce_26 : decode cX1_isInForce 26 = .ok (.iconst 0, 1) := by decide +kernel
theorem dX1_isInForce_27 : decode cX1_isInForce 27 = .ok (.ireturn, 1) := by decide +kernel
theorem dX1_allInForce_0 : decode cX1_allInForce 0 = .ok (.iconst 0, 1) := by decide +kernel
theorem dX1_allInForce_1 : decode cX1_allInForce 1 = .ok (.istore_n 2, 1) := by decide +kernel
theorem dX1_allInForce_2 : decode cX1_allInForce 2 = .ok (.iconst 0, 1) := by decide +kernel
theorem dX1_allInForce_3 : decode cX1_allInForce 3 = .ok (.istore_n 3, 1) := by decide +kernel
theorem dX1_allInForce_4 : decode cX1_allInForce 4 = .ok (.iload_n 3, 1) := by decide +kernel
theorem dX1_allInForce_5 : decode cX1_allInForce 5 = .ok (.aload_n 0, 1) := by decide +kernel
theorem dX1_allInForce_6 : decode cX1_allInForce 6 = .ok (.getfield 45, 3) := by decide +kernel
theorem dX1_allInForce_9 : decode cX1_allInForce 9 = .ok (.if_icmp .ge 24, 3) := by decide +kernel
theorem dX1_allInForce_12 : decode cX1_allInForce 12 = .ok (.aload_n 0, 1) := by decide +kernel
theorem dX1_allInForce_13 : decode cX1_allInForce 13 = .ok (.iload_n 3, 1) := by decide +kernel
theorem dX1_allInForce_14 : decode cX1_allInForce 14 = .ok (.iload_n 1, 1) := by decide +kernel
theorem dX1_allInForce_15 : decode cX1_allInForce 15 = .ok (.invokevirtual 79, 3) := by decide +kernel
theorem dX1_allInForce_18 : decode cX1_allInForce 18 = .ok (.ifCond .eq 9, 3) := by decide +kernel
theorem dX1_allInForce_21 : decode cX1_allInForce 21 = .ok (.iload_n 2, 1) := by decide +kernel
theorem dX1_allInForce_22 : decode cX1_allInForce 22 = .ok (.iconst 1, 1) := by decide +kernel
theorem dX1_allInForce_23 : decode cX1_allInForce 23 = .ok (.iload_n 3, 1) := by decide +kernel
theorem dX1_allInForce_24 : decode cX1_allInForce 24 = .ok (.ishl, 1) := by decide +kernel
theorem dX1_allInForce_25 : decode cX1_allInForce 25 = .ok (.ior, 1) := by decide +kernel
theorem dX1_allInForce_26 : decode cX1_allInForce 26 = .ok (.istore_n 2, 1) := by decide +kernel
theorem dX1_allInForce_27 : decode cX1_allInForce 27 = .ok (.iinc 3 1, 3) := by decide +kernel
theorem dX1_allInForce_30 : decode cX1_allInForce 30 = .ok (.goto (-26), 3) := by decide +kernel
theorem dX1_allInForce_33 : decode cX1_allInForce 33 = .ok (.iload_n 2, 1) := by decide +kernel
theorem dX1_allInForce_34 : decode cX1_allInForce 34 = .ok (.ireturn, 1) := by decide +kernel
theorem dX1_daysHeld_0 : decode cX1_daysHeld 0 = .ok (.aload_n 0, 1) := by decide +kernel
theorem dX1_daysHeld_1 : decode cX1_daysHeld 1 = .ok (.iload_n 1, 1) := by decide +kernel
theorem dX1_daysHeld_2 : decode cX1_daysHeld 2 = .ok (.iconst 0, 1) := by decide +kernel
theorem dX1_daysHeld_3 : decode cX1_daysHeld 3 = .ok (.iconst 1, 1) := by decide +kernel
theorem dX1_daysHeld_4 : decode cX1_daysHeld 4 = .ok (.invokevirtual 96, 3) := by decide +kernel
theorem dX1_daysHeld_7 : decode cX1_daysHeld 7 = .ok (.invokestatic 102, 3) := by decide +kernel
theorem dX1_daysHeld_10 : decode cX1_daysHeld 10 = .ok (.aload_n 0, 1) := by decide +kernel
theorem dX1_daysHeld_11 : decode cX1_daysHeld 11 = .ok (.iload_n 1, 1) := by decide +kernel
theorem dX1_daysHeld_12 : decode cX1_daysHeld 12 = .ok (.iconst 1, 1) := by decide +kernel
theorem dX1_daysHeld_13 : decode cX1_daysHeld 13 = .ok (.iconst 1, 1) := by decide +kernel
theorem dX1_daysHeld_14 : decode cX1_daysHeld 14 = .ok (.invokevirtual 96, 3) := by decide +kernel
theorem dX1_daysHeld_17 : decode cX1_daysHeld 17 = .ok (.invokestatic 102, 3) := by decide +kernel
theorem dX1_daysHeld_20 : decode cX1_daysHeld 20 = .ok (.iadd, 1) := by decide +kernel
theorem dX1_daysHeld_21 : decode cX1_daysHeld 21 = .ok (.ireturn, 1) := by decide +kernel
theorem dX1_daysHeldByOthers_0 : decode cX1_daysHeldByOthers 0 = .ok (.iconst 0, 1) := by decide +kernel
theorem dX1_daysHeldByOthers_1 : decode cX1_daysHeldByOthers 1 = .ok (.istore_n 2, 1) := by decide +kernel
theorem dX1_daysHeldByOthers_2 : decode cX1_daysHeldByOthers 2 = .ok (.iconst 0, 1) := by decide +kernel
theorem dX1_daysHeldByOthers_3 : decode cX1_daysHeldByOthers 3 = .ok (.istore_n 3, 1) := by decide +kernel
theorem dX1_daysHeldByOthers_4 : decode cX1_daysHeldByOthers 4 = .ok (.iload_n 3, 1) := by decide +kernel
theorem dX1_daysHeldByOthers_5 : decode cX1_daysHeldByOthers 5 = .ok (.aload_n 0, 1) := by decide +kernel
theorem dX1_daysHeldByOthers_6 : decode cX1_daysHeldByOthers 6 = .ok (.getfield 45, 3) := by decide +kernel
theorem dX1_daysHeldByOthers_9 : decode cX1_daysHeldByOthers 9 = .ok (.if_icmp .ge 26, 3) := by decide +kernel
theorem dX1_daysHeldByOthers_12 : decode cX1_daysHeldByOthers 12 = .ok (.iload_n 2, 1) := by decide +kernel
theorem dX1_daysHeldByOthers_13 : decode cX1_daysHeldByOthers 13 = .ok (.iload_n 3, 1) := by decide +kernel
theorem dX1_daysHeldByOthers_14 : decode cX1_daysHeldByOthers 14 = .ok (.iload_n 1, 1) := by decide +kernel
theorem dX1_daysHeldByOthers_15 : decode cX1_daysHeldByOthers 15 = .ok (.if_icmp .ne 7, 3) := by decide +kernel
theorem dX1_daysHeldByOthers_18 : decode cX1_daysHeldByOthers 18 = .ok (.iconst 0, 1) := by decide +kernel
theorem dX1_daysHeldByOthers_19 : decode cX1_daysHeldByOthers 19 = .ok (.goto 8, 3) := by decide +kernel
theorem dX1_daysHeldByOthers_22 : decode cX1_daysHeldByOthers 22 = .ok (.aload_n 0, 1) := by decide +kernel
theorem dX1_daysHeldByOthers_23 : decode cX1_daysHeldByOthers 23 = .ok (.iload_n 3, 1) := by decide +kernel
theorem dX1_daysHeldByOthers_24 : decode cX1_daysHeldByOthers 24 = .ok (.invokevirtual 108, 3) := by decide +kernel
theorem dX1_daysHeldByOthers_27 : decode cX1_daysHeldByOthers 27 = .ok (.iadd, 1) := by decide +kernel
theorem dX1_daysHeldByOthers_28 : decode cX1_daysHeldByOthers 28 = .ok (.istore_n 2, 1) := by decide +kernel
theorem dX1_daysHeldByOthers_29 : decode cX1_daysHeldByOthers 29 = .ok (.iinc 3 1, 3) := by decide +kernel
theorem dX1_daysHeldByOthers_32 : decode cX1_daysHeldByOthers 32 = .ok (.goto (-28), 3) := by decide +kernel
theorem dX1_daysHeldByOthers_35 : decode cX1_daysHeldByOthers 35 = .ok (.iload_n 2, 1) := by decide +kernel
theorem dX1_daysHeldByOthers_36 : decode cX1_daysHeldByOthers 36 = .ok (.ireturn, 1) := by decide +kernel
theorem dX2_init_0 : decode cX2_init 0 = .ok (.aload_n 0, 1) := by decide +kernel
theorem dX2_init_1 : decode cX2_init 1 = .ok (.invokespecial 3, 3) := by decide +kernel
theorem dX2_init_4 : decode cX2_init 4 = .ok (.aload_n 0, 1) := by decide +kernel
theorem dX2_init_5 : decode cX2_init 5 = .ok (.bipush 8, 2) := by decide +kernel
theorem dX2_init_7 : decode cX2_init 7 = .ok (.newarray .int, 2) := by decide +kernel
theorem dX2_init_9 : decode cX2_init 9 = .ok (.putfield 9, 3) := by decide +kernel
theorem dX2_init_12 : decode cX2_init 12 = .ok (.aload_n 0, 1) := by decide +kernel
theorem dX2_init_13 : decode cX2_init 13 = .ok (.bipush 8, 2) := by decide +kernel
theorem dX2_init_15 : decode cX2_init 15 = .ok (.newarray .int, 2) := by decide +kernel
theorem dX2_init_17 : decode cX2_init 17 = .ok (.putfield 15, 3) := by decide +kernel
theorem dX2_init_20 : decode cX2_init 20 = .ok (.aload_n 0, 1) := by decide +kernel
theorem dX2_init_21 : decode cX2_init 21 = .ok (.bipush 8, 2) := by decide +kernel
theorem dX2_init_23 : decode cX2_init 23 = .ok (.newarray .boolean, 2) := by decide +kernel
theorem dX2_init_25 : decode cX2_init 25 = .ok (.putfield 18, 3) := by decide +kernel
theorem dX2_init_28 : decode cX2_init 28 = .ok (.return_, 1) := by decide +kernel
theorem dX2_append_0 : decode cX2_append 0 = .ok (.aload_n 0, 1) := by decide +kernel
theorem dX2_append_1 : decode cX2_append 1 = .ok (.getfield 22, 3) := by decide +kernel
theorem dX2_append_4 : decode cX2_append 4 = .ok (.istore 4, 2) := by decide +kernel
theorem dX2_append_6 : decode cX2_append 6 = .ok (.aload_n 0, 1) := by decide +kernel
theorem dX2_append_7 : decode cX2_append 7 = .ok (.getfield 9, 3) := by decide +kernel
theorem dX2_append_10 : decode cX2_append 10 = .ok (.iload 4, 2) := by decide +kernel
theorem dX2_append_12 : decode cX2_append 12 = .ok (.iload_n 1, 1) := by decide +kernel
theorem dX2_append_13 : decode cX2_append 13 = .ok (.iastore, 1) := by decide +kernel
theorem dX2_append_14 : decode cX2_append 14 = .ok (.aload_n 0, 1) := by decide +kernel
theorem dX2_append_15 : decode cX2_append 15 = .ok (.getfield 15, 3) := by decide +kernel
theorem dX2_append_18 : decode cX2_append 18 = .ok (.iload 4, 2) := by decide +kernel
theorem dX2_append_20 : decode cX2_append 20 = .ok (.iload_n 2, 1) := by decide +kernel
theorem dX2_append_21 : decode cX2_append 21 = .ok (.iastore, 1) := by decide +kernel
theorem dX2_append_22 : decode cX2_append 22 = .ok (.aload_n 0, 1) := by decide +kernel
theorem dX2_append_23 : decode cX2_append 23 = .ok (.getfield 18, 3) := by decide +kernel
theorem dX2_append_26 : decode cX2_append 26 = .ok (.iload 4, 2) := by decide +kernel
theorem dX2_append_28 : decode cX2_append 28 = .ok (.iload_n 3, 1) := by decide +kernel
theorem dX2_append_29 : decode cX2_append 29 = .ok (.bastore, 1) := by decide +kernel
theorem dX2_append_30 : decode cX2_append 30 = .ok (.aload_n 0, 1) := by decide +kernel
theorem dX2_append_31 : decode cX2_append 31 = .ok (.dup, 1) := by decide +kernel
theorem dX2_append_32 : decode cX2_append 32 = .ok (.getfield 22, 3) := by decide +kernel
theorem dX2_append_35 : decode cX2_append 35 = .ok (.iconst 1, 1) := by decide +kernel
theorem dX2_append_36 : decode cX2_append 36 = .ok (.iadd, 1) := by decide +kernel
theorem dX2_append_37 : decode cX2_append 37 = .ok (.putfield 22, 3) := by decide +kernel
theorem dX2_append_40 : decode cX2_append 40 = .ok (.iload 4, 2) := by decide +kernel
theorem dX2_append_42 : decode cX2_append 42 = .ok (.ireturn, 1) := by decide +kernel
theorem dX2_areSo_0 : decode cX2_areSo 0 = .ok (.iconst 0, 1) := by decide +kernel
theorem dX2_areSo_1 : decode cX2_areSo 1 = .ok (.istore_n 2, 1) := by decide +kernel
theorem dX2_areSo_2 : decode cX2_areSo 2 = .ok (.iload_n 2, 1) := by decide +kernel
theorem dX2_areSo_3 : decode cX2_areSo 3 = .ok (.aload_n 0, 1) := by decide +kernel
theorem dX2_areSo_4 : decode cX2_areSo 4 = .ok (.getfield 22, 3) := by decide +kernel
theorem dX2_areSo_7 : decode cX2_areSo 7 = .ok (.if_icmp .ge 36, 3) := by decide +kernel
theorem dX2_areSo_10 : decode cX2_areSo 10 = .ok (.aload_n 1, 1) := by decide +kernel
theorem dX2_areSo_11 : decode cX2_areSo 11 = .ok (.aload_n 0, 1) := by decide +kernel
theorem dX2_areSo_12 : decode cX2_areSo 12 = .ok (.getfield 9, 3) := by decide +kernel
theorem dX2_areSo_15 : decode cX2_areSo 15 = .ok (.iload_n 2, 1) := by decide +kernel
theorem dX2_areSo_16 : decode cX2_areSo 16 = .ok (.iaload, 1) := by decide +kernel
theorem dX2_areSo_17 : decode cX2_areSo 17 = .ok (.aload_n 0, 1) := by decide +kernel
theorem dX2_areSo_18 : decode cX2_areSo 18 = .ok (.getfield 15, 3) := by decide +kernel
theorem dX2_areSo_21 : decode cX2_areSo 21 = .ok (.iload_n 2, 1) := by decide +kernel
theorem dX2_areSo_22 : decode cX2_areSo 22 = .ok (.iaload, 1) := by decide +kernel
theorem dX2_areSo_23 : decode cX2_areSo 23 = .ok (.invokevirtual 26, 3) := by decide +kernel
theorem dX2_areSo_26 : decode cX2_areSo 26 = .ok (.aload_n 0, 1) := by decide +kernel
theorem dX2_areSo_27 : decode cX2_areSo 27 = .ok (.getfield 18, 3) := by decide +kernel
theorem dX2_areSo_30 : decode cX2_areSo 30 = .ok (.iload_n 2, 1) := by decide +kernel
theorem dX2_areSo_31 : decode cX2_areSo 31 = .ok (.baload, 1) := by decide +kernel
theorem dX2_areSo_32 : decode cX2_areSo 32 = .ok (.if_icmp .eq 5, 3) := by decide +kernel
theorem dX2_areSo_35 : decode cX2_areSo 35 = .ok (.iconst 0, 1) := by decide +kernel
theorem dX2_areSo_36 : decode cX2_areSo 36 = .ok (.ireturn, 1) := by decide +kernel
theorem dX2_areSo_37 : decode cX2_areSo 37 = .ok (.iinc 2 1, 3) := by decide +kernel
theorem dX2_areSo_40 : decode cX2_areSo 40 = .ok (.goto (-38), 3) := by decide +kernel
theorem dX2_areSo_43 : decode cX2_areSo 43 = .ok (.iconst 1, 1) := by decide +kernel
theorem dX2_areSo_44 : decode cX2_areSo 44 = .ok (.ireturn, 1) := by decide +kernel
theorem dX3_init_0 : decode cX3_init 0 = .ok (.aload_n 0, 1) := by decide +kernel
theorem dX3_init_1 : decode cX3_init 1 = .ok (.invokespecial 3, 3) := by decide +kernel
theorem dX3_init_4 : decode cX3_init 4 = .ok (.aload_n 0, 1) := by decide +kernel
theorem dX3_init_5 : decode cX3_init 5 = .ok (.bipush 60, 2) := by decide +kernel
theorem dX3_init_7 : decode cX3_init 7 = .ok (.newarray .int, 2) := by decide +kernel
theorem dX3_init_9 : decode cX3_init 9 = .ok (.putfield 9, 3) := by decide +kernel
theorem dX3_init_12 : decode cX3_init 12 = .ok (.aload_n 0, 1) := by decide +kernel
theorem dX3_init_13 : decode cX3_init 13 = .ok (.iconst (-1), 1) := by decide +kernel
theorem dX3_init_14 : decode cX3_init 14 = .ok (.putfield 15, 3) := by decide +kernel
theorem dX3_init_17 : decode cX3_init 17 = .ok (.return_, 1) := by decide +kernel
theorem dX3_begin_0 : decode cX3_begin 0 = .ok (.aload_n 0, 1) := by decide +kernel
theorem dX3_begin_1 : decode cX3_begin 1 = .ok (.iload_n 1, 1) := by decide +kernel
theorem dX3_begin_2 : decode cX3_begin 2 = .ok (.putfield 15, 3) := by decide +kernel
theorem dX3_begin_5 : decode cX3_begin 5 = .ok (.aload_n 0, 1) := by decide +kernel
theorem dX3_begin_6 : decode cX3_begin 6 = .ok (.iload_n 2, 1) := by decide +kernel
theorem dX3_begin_7 : decode cX3_begin 7 = .ok (.putfield 19, 3) := by decide +kernel
theorem dX3_begin_10 : decode cX3_begin 10 = .ok (.iconst 0, 1) := by decide +kernel
theorem dX3_begin_11 : decode cX3_begin 11 = .ok (.istore_n 3, 1) := by decide +kernel
theorem dX3_begin_12 : decode cX3_begin 12 = .ok (.iload_n 3, 1) := by decide +kernel
theorem dX3_begin_13 : decode cX3_begin 13 = .ok (.bipush 60, 2) := by decide +kernel
theorem dX3_begin_15 : decode cX3_begin 15 = .ok (.if_icmp .ge 16, 3) := by decide +kernel
theorem dX3_begin_18 : decode cX3_begin 18 = .ok (.aload_n 0, 1) := by decide +kernel
theorem dX3_begin_19 : decode cX3_begin 19 = .ok (.getfield 9, 3) := by decide +kernel
theorem dX3_begin_22 : decode cX3_begin 22 = .ok (.iload_n 3, 1) := by decide +kernel
theorem dX3_begin_23 : decode cX3_begin 23 = .ok (.iconst 0, 1) := by decide +kernel
theorem dX3_begin_24 : decode cX3_begin 24 = .ok (.iastore, 1) := by decide +kernel
theorem dX3_begin_25 : decode cX3_begin 25 = .ok (.iinc 3 1, 3) := by decide +kernel
theorem dX3_begin_28 : decode cX3_begin 28 = .ok (.goto (-16), 3) := by decide +kernel
theorem dX3_begin_31 : decode cX3_begin 31 = .ok (.return_, 1) := by decide +kernel
theorem dX3_drop_0 : decode cX3_drop 0 = .ok (.aload_n 0, 1) := by decide +kernel
theorem dX3_drop_1 : decode cX3_drop 1 = .ok (.iconst (-1), 1) := by decide +kernel
theorem dX3_drop_2 : decode cX3_drop 2 = .ok (.putfield 15, 3) := by decide +kernel
theorem dX3_drop_5 : decode cX3_drop 5 = .ok (.aload_n 0, 1) := by decide +kernel
theorem dX3_drop_6 : decode cX3_drop 6 = .ok (.iconst 0, 1) := by decide +kernel
theorem dX3_drop_7 : decode cX3_drop 7 = .ok (.putfield 19, 3) := by decide +kernel
theorem dX3_drop_10 : decode cX3_drop 10 = .ok (.return_, 1) := by decide +kernel
theorem dX3_isNothing_0 : decode cX3_isNothing 0 = .ok (.aload_n 0, 1) := by decide +kernel
theorem dX3_isNothing_1 : decode cX3_isNothing 1 = .ok (.getfield 15, 3) := by decide +kernel
theorem dX3_isNothing_4 : decode cX3_isNothing 4 = .ok (.iconst (-1), 1) := by decide +kernel
theorem dX3_isNothing_5 : decode cX3_isNothing 5 = .ok (.if_icmp .ne 7, 3) := by decide +kernel
theorem dX3_isNothing_8 : decode cX3_isNothing 8 = .ok (.iconst 1, 1) := by decide +kernel
theorem dX3_isNothing_9 : decode cX3_isNothing 9 = .ok (.goto 4, 3) := by decide +kernel
theorem dX3_isNothing_12 : decode cX3_isNothing 12 = .ok (.iconst 0, 1) := by decide +kernel
theorem dX3_isNothing_13 : decode cX3_isNothing 13 = .ok (.ireturn, 1) := by decide +kernel
theorem dX3_has_0 : decode cX3_has 0 = .ok (.iload_n 1, 1) := by decide +kernel
theorem dX3_has_1 : decode cX3_has 1 = .ok (.ifCond .lt 15, 3) := by decide +kernel
theorem dX3_has_4 : decode cX3_has 4 = .ok (.iload_n 1, 1) := by decide +kernel
theorem dX3_has_5 : decode cX3_has 5 = .ok (.aload_n 0, 1) := by decide +kernel
theorem dX3_has_6 : decode cX3_has 6 = .ok (.getfield 19, 3) := by decide +kernel
theorem dX3_has_9 : decode cX3_has 9 = .ok (.if_icmp .ge 7, 3) := by decide +kernel
theorem dX3_has_12 : decode cX3_has 12 = .ok (.iconst 1, 1) := by decide +kernel
theorem dX3_has_13 : decode cX3_has 13 = .ok (.goto 4, 3) := by decide +kernel
theorem dX3_has_16 : decode cX3_has 16 = .ok (.iconst 0, 1) := by decide +kernel
theorem dX3_has_17 : decode cX3_has 17 = .ok (.ireturn, 1) := by decide +kernel
theorem dX3_hasAll_0 : decode cX3_hasAll 0 = .ok (.iload_n 1, 1) := by decide +kernel
theorem dX3_hasAll_1 : decode cX3_hasAll 1 = .ok (.aload_n 0, 1) := by decide +kernel
theorem dX3_hasAll_2 : decode cX3_hasAll 2 = .ok (.getfield 19, 3) := by decide +kernel
theorem dX3_hasAll_5 : decode cX3_hasAll 5 = .ok (.invokestatic 22, 3) := by decide +kernel
theorem dX3_hasAll_8 : decode cX3_hasAll 8 = .ok (.ifCond .eq 17, 3) := by decide +kernel
theorem dX3_hasAll_11 : decode cX3_hasAll 11 = .ok (.iload_n 2, 1) := by decide +kernel
theorem dX3_hasAll_12 : decode cX3_hasAll 12 = .ok (.aload_n 0, 1) := by decide +kernel
theorem dX3_hasAll_13 : decode cX3_hasAll 13 = .ok (.getfield 19, 3) := by decide +kernel
theorem dX3_hasAll_16 : decode cX3_hasAll 16 = .ok (.iload_n 1, 1) := by decide +kernel
theorem dX3_hasAll_17 : decode cX3_hasAll 17 = .ok (.isub, 1) := by decide +kernel
theorem dX3_hasAll_18 : decode cX3_hasAll 18 = .ok (.if_icmp .gt 7, 3) := by decide +kernel
theorem dX3_hasAll_21 : decode cX3_hasAll 21 = .ok (.iconst 1, 1) := by decide +kernel
theorem dX3_hasAll_22 : decode cX3_hasAll 22 = .ok (.goto 4, 3) := by decide +kernel
theorem dX3_hasAll_25 : decode cX3_hasAll 25 = .ok (.iconst 0, 1) := by decide +kernel
theorem dX3_hasAll_26 : decode cX3_hasAll 26 = .ok (.ireturn, 1) := by decide +kernel
theorem dX3_cut_0 : decode cX3_cut 0 = .ok (.aload_n 0, 1) := by decide +kernel
theorem dX3_cut_1 : decode cX3_cut 1 = .ok (.getfield 15, 3) := by decide +kernel
theorem dX3_cut_4 : decode cX3_cut 4 = .ok (.ifCond .ne 6, 3) := by decide +kernel
theorem dX3_cut_7 : decode cX3_cut 7 = .ok (.iload_n 1, 1) := by decide +kernel
theorem dX3_cut_8 : decode cX3_cut 8 = .ok (.i2b, 1) := by decide +kernel
theorem dX3_cut_9 : decode cX3_cut 9 = .ok (.ireturn, 1) := by decide +kernel
theorem dX3_cut_10 : decode cX3_cut 10 = .ok (.aload_n 0, 1) := by decide +kernel
theorem dX3_cut_11 : decode cX3_cut 11 = .ok (.getfield 15, 3) := by decide +kernel
theorem dX3_cut_14 : decode cX3_cut 14 = .ok (.iconst 1, 1) := by decide +kernel
theorem dX3_cut_15 : decode cX3_cut 15 = .ok (.if_icmp .ne 8, 3) := by decide +kernel
theorem dX3_cut_18 : decode cX3_cut 18 = .ok (.iload_n 1, 1) := by decide +kernel
theorem dX3_cut_19 : decode cX3_cut 19 = .ok (.i2s, 1) := by decide +kernel
theorem dX3_cut_20 : decode cX3_cut 20 = .ok (.goto 4, 3) := by decide +kernel
theorem dX3_cut_23 : decode cX3_cut 23 = .ok (.iload_n 1, 1) := by decide +kernel
theorem dX3_cut_24 : decode cX3_cut 24 = .ok (.ireturn, 1) := by decide +kernel
theorem dX3_faultOfLane_0 : decode cX3_faultOfLane 0 = .ok (.aload_n 0, 1) := by decide +kernel
theorem dX3_faultOfLane_1 : decode cX3_faultOfLane 1 = .ok (.invokevirtual 26, 3) := by decide +kernel
theorem dX3_faultOfLane_4 : decode cX3_faultOfLane 4 = .ok (.ifCond .eq 5, 3) := by decide +kernel
theorem dX3_faultOfLane_7 : decode cX3_faultOfLane 7 = .ok (.iconst 1, 1) := by decide +kernel
theorem dX3_faultOfLane_8 : decode cX3_faultOfLane 8 = .ok (.ireturn, 1) := by decide +kernel
theorem dX3_faultOfLane_9 : decode cX3_faultOfLane 9 = .ok (.aload_n 0, 1) := by decide +kernel
theorem dX3_faultOfLane_10 : decode cX3_faultOfLane 10 = .ok (.getfield 15, 3) := by decide +kernel
theorem dX3_faultOfLane_13 : decode cX3_faultOfLane 13 = .ok (.iload_n 1, 1) := by decide +kernel
theorem dX3_faultOfLane_14 : decode cX3_faultOfLane 14 = .ok (.if_icmp .ne 7, 3) := by decide +kernel
theorem dX3_faultOfLane_17 : decode cX3_faultOfLane 17 = .ok (.iconst 0, 1) := by decide +kernel
theorem dX3_faultOfLane_18 : decode cX3_faultOfLane 18 = .ok (.goto 4, 3) := by decide +kernel
theorem dX3_faultOfLane_21 : decode cX3_faultOfLane 21 = .ok (.iconst 2, 1) := by decide +kernel
theorem dX3_faultOfLane_22 : decode cX3_faultOfLane 22 = .ok (.ireturn, 1) := by decide +kernel
theorem dX3_faultOfCells_0 : decode cX3_faultOfCells 0 = .ok (.aload_n 0, 1) := by decide +kernel
theorem dX3_faultOfCells_1 : decode cX3_faultOfCells 1 = .ok (.iload_n 1, 1) := by decide +kernel
theorem dX3_faultOfCells_2 : decode cX3_faultOfCells 2 = .ok (.invokevirtual 30, 3) := by decide +kernel
theorem dX3_faultOfCells_5 : decode cX3_faultOfCells 5 = .ok (.istore 4, 2) := by decide +kernel
theorem dX3_faultOfCells_7 : decode cX3_faultOfCells 7 = .ok (.iload 4, 2) := by decide +kernel
theorem dX3_faultOfCells_9 : decode cX3_faultOfCells 9 = .ok (.ifCond .eq 6, 3) := by decide +kernel
theorem dX3_faultOfCells_12 : decode cX3_faultOfCells 12 = .ok (.iload 4, 2) := by decide +kernel
theorem dX3_faultOfCells_14 : decode cX3_faultOfCells 14 = .ok (.ireturn, 1) := by decide +kernel
theorem dX3_faultOfCells_15 : decode cX3_faultOfCells 15 = .ok (.iload_n 3, 1) := by decide +kernel
theorem dX3_faultOfCells_16 : decode cX3_faultOfCells 16 = .ok (.ifCond .ge 5, 3) := by decide +kernel
theorem dX3_faultOfCells_19 : decode cX3_faultOfCells 19 = .ok (.iconst 4, 1) := by decide +kernel
theorem dX3_faultOfCells_20 : decode cX3_faultOfCells 20 = .ok (.ireturn, 1) := by decide +kernel
theorem dX3_faultOfCells_21 : decode cX3_faultOfCells 21 = .ok (.aload_n 0, 1) := by decide +kernel
theorem dX3_faultOfCells_22 : decode cX3_faultOfCells 22 = .ok (.iload_n 2, 1) := by decide +kernel
theorem dX3_faultOfCells_23 : decode cX3_faultOfCells 23 = .ok (.iload_n 3, 1) := by decide +kernel
theorem dX3_faultOfCells_24 : decode cX3_faultOfCells 24 = .ok (.invokevirtual 34, 3) := by decide +kernel
theorem dX3_faultOfCells_27 : decode cX3_faultOfCells 27 = .ok (.ifCond .eq 7, 3) := by decide +kernel
theorem dX3_faultOfCells_30 : decode cX3_faultOfCells 30 = .ok (.iconst 0, 1) := by decide +kernel
theorem dX3_faultOfCells_31 : decode cX3_faultOfCells 31 = .ok (.goto 4, 3) := by decide +kernel
theorem dX3_faultOfCells_34 : decode cX3_faultOfCells 34 = .ok (.iconst 3, 1) := by decide +kernel
theorem dX3_faultOfCells_35 : decode cX3_faultOfCells 35 = .ok (.ireturn, 1) := by decide +kernel
theorem dX4_init_0 : decode cX4_init 0 = .ok (.aload_n 0, 1) := by decide +kernel
theorem dX4_init_1 : decode cX4_init 1 = .ok (.invokespecial 3, 3) := by decide +kernel
theorem dX4_init_4 : decode cX4_init 4 = .ok (.aload_n 0, 1) := by decide +kernel
theorem dX4_init_5 : decode cX4_init 5 = .ok (.bipush 110, 2) := by decide +kernel
theorem dX4_init_7 : decode cX4_init 7 = .ok (.newarray .boolean, 2) := by decide +kernel
theorem dX4_init_9 : decode cX4_init 9 = .ok (.putfield 9, 3) := by decide +kernel
theorem dX4_init_12 : decode cX4_init 12 = .ok (.return_, 1) := by decide +kernel
theorem dX4_read_0 : decode cX4_read 0 = .ok (.aload_n 0, 1) := by decide +kernel
theorem dX4_read_1 : decode cX4_read 1 = .ok (.aload_n 1, 1) := by decide +kernel
theorem dX4_read_2 : decode cX4_read 2 = .ok (.iload_n 2, 1) := by decide +kernel
theorem dX4_read_3 : decode cX4_read 3 = .ok (.iconst 1, 1) := by decide +kernel
theorem dX4_read_4 : decode cX4_read 4 = .ok (.iadd, 1) := by decide +kernel
theorem dX4_read_5 : decode cX4_read 5 = .ok (.invokestatic 15, 3) := by decide +kernel
