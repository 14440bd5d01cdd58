theorem dX8_holds_16 : decode cX8_holds 16 = .ok (.iconst (-1), 1) := by decide +kernel
theorem dX8_holds_17 : decode cX8_holds 17 = .ok (.ireturn, 1) := by decide +kernel
theorem dX8_chronicle_0 : decode cX8_chronicle 0 = .ok (.aload_n 0, 1) := by decide +kernel
theorem dX8_chronicle_1 : decode cX8_chronicle 1 = .ok (.iconst 0, 1) := by decide +kernel
theorem dX8_chronicle_2 : decode cX8_chronicle 2 = .ok (.putfield 63, 3) := by decide +kernel
theorem dX8_chronicle_5 : decode cX8_chronicle 5 = .ok (.iload_n 1, 1) := by decide +kernel
theorem dX8_chronicle_6 : decode cX8_chronicle 6 = .ok (.invokestatic 82, 3) := by decide +kernel
theorem dX8_chronicle_9 : decode cX8_chronicle 9 = .ok (.ifCond .ne 5, 3) := by decide +kernel
theorem dX8_chronicle_12 : decode cX8_chronicle 12 = .ok (.iconst (-1), 1) := by decide +kernel
theorem dX8_chronicle_13 : decode cX8_chronicle 13 = .ok (.ireturn, 1) := by decide +kernel
theorem dX8_chronicle_14 : decode cX8_chronicle 14 = .ok (.iload_n 2, 1) := by decide +kernel
theorem dX8_chronicle_15 : decode cX8_chronicle 15 = .ok (.invokestatic 86, 3) := by decide +kernel
theorem dX8_chronicle_18 : decode cX8_chronicle 18 = .ok (.ifCond .ne 6, 3) := by decide +kernel
theorem dX8_chronicle_21 : decode cX8_chronicle 21 = .ok (.bipush (-2), 2) := by decide +kernel
theorem dX8_chronicle_23 : decode cX8_chronicle 23 = .ok (.ireturn, 1) := by decide +kernel
theorem dX8_chronicle_24 : decode cX8_chronicle 24 = .ok (.aload_n 0, 1) := by decide +kernel
theorem dX8_chronicle_25 : decode cX8_chronicle 25 = .ok (.iload_n 1, 1) := by decide +kernel
theorem dX8_chronicle_26 : decode cX8_chronicle 26 = .ok (.iload_n 2, 1) := by decide +kernel
theorem dX8_chronicle_27 : decode cX8_chronicle 27 = .ok (.iload_n 3, 1) := by decide +kernel
theorem dX8_chronicle_28 : decode cX8_chronicle 28 = .ok (.iload 4, 2) := by decide +kernel
theorem dX8_chronicle_30 : decode cX8_chronicle 30 = .ok (.invokevirtual 89, 3) := by decide +kernel
theorem dX8_chronicle_33 : decode cX8_chronicle 33 = .ok (.istore 5, 2) := by decide +kernel
theorem dX8_chronicle_35 : decode cX8_chronicle 35 = .ok (.iload 5, 2) := by decide +kernel
theorem dX8_chronicle_37 : decode cX8_chronicle 37 = .ok (.ifCond .eq 10, 3) := by decide +kernel
theorem dX8_chronicle_40 : decode cX8_chronicle 40 = .ok (.aload_n 0, 1) := by decide +kernel
theorem dX8_chronicle_41 : decode cX8_chronicle 41 = .ok (.iload 5, 2) := by decide +kernel
theorem dX8_chronicle_43 : decode cX8_chronicle 43 = .ok (.invokevirtual 93, 3) := by decide +kernel
theorem dX8_chronicle_46 : decode cX8_chronicle 46 = .ok (.ireturn, 1) := by decide +kernel
theorem dX8_chronicle_47 : decode cX8_chronicle 47 = .ok (.aload_n 0, 1) := by decide +kernel
theorem dX8_chronicle_48 : decode cX8_chronicle 48 = .ok (.getfield 72, 3) := by decide +kernel
theorem dX8_chronicle_51 : decode cX8_chronicle 51 = .ok (.ifCond .ne 6, 3) := by decide +kernel
theorem dX8_chronicle_54 : decode cX8_chronicle 54 = .ok (.bipush (-3), 2) := by decide +kernel
theorem dX8_chronicle_56 : decode cX8_chronicle 56 = .ok (.ireturn, 1) := by decide +kernel
theorem dX8_chronicle_57 : decode cX8_chronicle 57 = .ok (.aload_n 0, 1) := by decide +kernel
theorem dX8_chronicle_58 : decode cX8_chronicle 58 = .ok (.invokevirtual 178, 3) := by decide +kernel
theorem dX8_chronicle_61 : decode cX8_chronicle 61 = .ok (.iconst 0, 1) := by decide +kernel
theorem dX8_chronicle_62 : decode cX8_chronicle 62 = .ok (.istore 6, 2) := by decide +kernel
theorem dX8_chronicle_64 : decode cX8_chronicle 64 = .ok (.iload 6, 2) := by decide +kernel
theorem dX8_chronicle_66 : decode cX8_chronicle 66 = .ok (.iload 4, 2) := by decide +kernel
theorem dX8_chronicle_68 : decode cX8_chronicle 68 = .ok (.if_icmp .ge 35, 3) := by decide +kernel
theorem dX8_chronicle_71 : decode cX8_chronicle 71 = .ok (.aload_n 0, 1) := by decide +kernel
theorem dX8_chronicle_72 : decode cX8_chronicle 72 = .ok (.iload 6, 2) := by decide +kernel
theorem dX8_chronicle_74 : decode cX8_chronicle 74 = .ok (.invokevirtual 181, 3) := by decide +kernel
theorem dX8_chronicle_77 : decode cX8_chronicle 77 = .ok (.aload_n 0, 1) := by decide +kernel
theorem dX8_chronicle_78 : decode cX8_chronicle 78 = .ok (.getfield 16, 3) := by decide +kernel
theorem dX8_chronicle_81 : decode cX8_chronicle 81 = .ok (.bipush 60, 2) := by decide +kernel
theorem dX8_chronicle_83 : decode cX8_chronicle 83 = .ok (.iload_n 1, 1) := by decide +kernel
theorem dX8_chronicle_84 : decode cX8_chronicle 84 = .ok (.imul, 1) := by decide +kernel
theorem dX8_chronicle_85 : decode cX8_chronicle 85 = .ok (.iload_n 3, 1) := by decide +kernel
theorem dX8_chronicle_86 : decode cX8_chronicle 86 = .ok (.iadd, 1) := by decide +kernel
theorem dX8_chronicle_87 : decode cX8_chronicle 87 = .ok (.iload 6, 2) := by decide +kernel
theorem dX8_chronicle_89 : decode cX8_chronicle 89 = .ok (.iadd, 1) := by decide +kernel
theorem dX8_chronicle_90 : decode cX8_chronicle 90 = .ok (.iaload, 1) := by decide +kernel
theorem dX8_chronicle_91 : decode cX8_chronicle 91 = .ok (.if_icmp .eq 6, 3) := by decide +kernel
theorem dX8_chronicle_94 : decode cX8_chronicle 94 = .ok (.iload 6, 2) := by decide +kernel
theorem dX8_chronicle_96 : decode cX8_chronicle 96 = .ok (.ireturn, 1) := by decide +kernel
theorem dX8_chronicle_97 : decode cX8_chronicle 97 = .ok (.iinc 6 1, 3) := by decide +kernel
theorem dX8_chronicle_100 : decode cX8_chronicle 100 = .ok (.goto (-36), 3) := by decide +kernel
theorem dX8_chronicle_103 : decode cX8_chronicle 103 = .ok (.bipush (-9), 2) := by decide +kernel
theorem dX8_chronicle_105 : decode cX8_chronicle 105 = .ok (.ireturn, 1) := by decide +kernel
theorem dX8_size_0 : decode cX8_size 0 = .ok (.iconst 0, 1) := by decide +kernel
theorem dX8_size_1 : decode cX8_size 1 = .ok (.istore_n 1, 1) := by decide +kernel
theorem dX8_size_2 : decode cX8_size 2 = .ok (.iload_n 0, 1) := by decide +kernel
theorem dX8_size_3 : decode cX8_size 3 = .ok (.istore_n 2, 1) := by decide +kernel
theorem dX8_size_4 : decode cX8_size 4 = .ok (.iload_n 2, 1) := by decide +kernel
theorem dX8_size_5 : decode cX8_size 5 = .ok (.ifCond .le 16, 3) := by decide +kernel
theorem dX8_size_8 : decode cX8_size 8 = .ok (.iload_n 1, 1) := by decide +kernel
theorem dX8_size_9 : decode cX8_size 9 = .ok (.iload_n 2, 1) := by decide +kernel
theorem dX8_size_10 : decode cX8_size 10 = .ok (.iconst 1, 1) := by decide +kernel
theorem dX8_size_11 : decode cX8_size 11 = .ok (.iand, 1) := by decide +kernel
theorem dX8_size_12 : decode cX8_size 12 = .ok (.iadd, 1) := by decide +kernel
theorem dX8_size_13 : decode cX8_size 13 = .ok (.istore_n 1, 1) := by decide +kernel
theorem dX8_size_14 : decode cX8_size 14 = .ok (.iload_n 2, 1) := by decide +kernel
theorem dX8_size_15 : decode cX8_size 15 = .ok (.iconst 1, 1) := by decide +kernel
theorem dX8_size_16 : decode cX8_size 16 = .ok (.ishr, 1) := by decide +kernel
theorem dX8_size_17 : decode cX8_size 17 = .ok (.istore_n 2, 1) := by decide +kernel
theorem dX8_size_18 : decode cX8_size 18 = .ok (.goto (-14), 3) := by decide +kernel
theorem dX8_size_21 : decode cX8_size 21 = .ok (.iload_n 1, 1) := by decide +kernel
theorem dX8_size_22 : decode cX8_size 22 = .ok (.ireturn, 1) := by decide +kernel
theorem dX8_darkMoons_0 : decode cX8_darkMoons 0 = .ok (.iconst 0, 1) := by decide +kernel
theorem dX8_darkMoons_1 : decode cX8_darkMoons 1 = .ok (.istore_n 1, 1) := by decide +kernel
theorem dX8_darkMoons_2 : decode cX8_darkMoons 2 = .ok (.iconst 0, 1) := by decide +kernel
theorem dX8_darkMoons_3 : decode cX8_darkMoons 3 = .ok (.istore_n 2, 1) := by decide +kernel
theorem dX8_darkMoons_4 : decode cX8_darkMoons 4 = .ok (.aload_n 0, 1) := by decide +kernel
theorem dX8_darkMoons_5 : decode cX8_darkMoons 5 = .ok (.iload_n 2, 1) := by decide +kernel
theorem dX8_darkMoons_6 : decode cX8_darkMoons 6 = .ok (.invokevirtual 149, 3) := by decide +kernel
theorem dX8_darkMoons_9 : decode cX8_darkMoons 9 = .ok (.bipush 110, 2) := by decide +kernel
theorem dX8_darkMoons_11 : decode cX8_darkMoons 11 = .ok (.if_icmp .ge 32, 3) := by decide +kernel
theorem dX8_darkMoons_14 : decode cX8_darkMoons 14 = .ok (.iload_n 1, 1) := by decide +kernel
theorem dX8_darkMoons_15 : decode cX8_darkMoons 15 = .ok (.aload_n 0, 1) := by decide +kernel
theorem dX8_darkMoons_16 : decode cX8_darkMoons 16 = .ok (.getfield 34, 3) := by decide +kernel
theorem dX8_darkMoons_19 : decode cX8_darkMoons 19 = .ok (.aload_n 0, 1) := by decide +kernel
theorem dX8_darkMoons_20 : decode cX8_darkMoons 20 = .ok (.iload_n 2, 1) := by decide +kernel
theorem dX8_darkMoons_21 : decode cX8_darkMoons 21 = .ok (.invokevirtual 149, 3) := by decide +kernel
theorem dX8_darkMoons_24 : decode cX8_darkMoons 24 = .ok (.baload, 1) := by decide +kernel
theorem dX8_darkMoons_25 : decode cX8_darkMoons 25 = .ok (.ifCond .eq 9, 3) := by decide +kernel
theorem dX8_darkMoons_28 : decode cX8_darkMoons 28 = .ok (.iconst 1, 1) := by decide +kernel
theorem dX8_darkMoons_29 : decode cX8_darkMoons 29 = .ok (.iload_n 2, 1) := by decide +kernel
theorem dX8_darkMoons_30 : decode cX8_darkMoons 30 = .ok (.ishl, 1) := by decide +kernel
theorem dX8_darkMoons_31 : decode cX8_darkMoons 31 = .ok (.goto 4, 3) := by decide +kernel
theorem dX8_darkMoons_34 : decode cX8_darkMoons 34 = .ok (.iconst 0, 1) := by decide +kernel
theorem dX8_darkMoons_35 : decode cX8_darkMoons 35 = .ok (.ior, 1) := by decide +kernel
theorem dX8_darkMoons_36 : decode cX8_darkMoons 36 = .ok (.istore_n 1, 1) := by decide +kernel
theorem dX8_darkMoons_37 : decode cX8_darkMoons 37 = .ok (.iinc 2 1, 3) := by decide +kernel
theorem dX8_darkMoons_40 : decode cX8_darkMoons 40 = .ok (.goto (-36), 3) := by decide +kernel
theorem dX8_darkMoons_43 : decode cX8_darkMoons 43 = .ok (.iload_n 1, 1) := by decide +kernel
theorem dX8_darkMoons_44 : decode cX8_darkMoons 44 = .ok (.ireturn, 1) := by decide +kernel
theorem dX8_buy_0 : decode cX8_buy 0 = .ok (.aload_n 0, 1) := by decide +kernel
theorem dX8_buy_1 : decode cX8_buy 1 = .ok (.iload_n 1, 1) := by decide +kernel
theorem dX8_buy_2 : decode cX8_buy 2 = .ok (.invokevirtual 146, 3) := by decide +kernel
theorem dX8_buy_5 : decode cX8_buy 5 = .ok (.ifCond .ne 5, 3) := by decide +kernel
theorem dX8_buy_8 : decode cX8_buy 8 = .ok (.iconst (-1), 1) := by decide +kernel
theorem dX8_buy_9 : decode cX8_buy 9 = .ok (.ireturn, 1) := by decide +kernel
theorem dX8_buy_10 : decode cX8_buy 10 = .ok (.iload_n 2, 1) := by decide +kernel
theorem dX8_buy_11 : decode cX8_buy 11 = .ok (.invokestatic 152, 3) := by decide +kernel
theorem dX8_buy_14 : decode cX8_buy 14 = .ok (.ifCond .ne 6, 3) := by decide +kernel
theorem dX8_buy_17 : decode cX8_buy 17 = .ok (.bipush (-2), 2) := by decide +kernel
theorem dX8_buy_19 : decode cX8_buy 19 = .ok (.ireturn, 1) := by decide +kernel
theorem dX8_buy_20 : decode cX8_buy 20 = .ok (.aload_n 0, 1) := by decide +kernel
theorem dX8_buy_21 : decode cX8_buy 21 = .ok (.invokevirtual 190, 3) := by decide +kernel
theorem dX8_buy_24 : decode cX8_buy 24 = .ok (.istore_n 3, 1) := by decide +kernel
theorem dX8_buy_25 : decode cX8_buy 25 = .ok (.iconst 1, 1) := by decide +kernel
theorem dX8_buy_26 : decode cX8_buy 26 = .ok (.aload_n 0, 1) := by decide +kernel
theorem dX8_buy_27 : decode cX8_buy 27 = .ok (.invokevirtual 194, 3) := by decide +kernel
theorem dX8_buy_30 : decode cX8_buy 30 = .ok (.ishl, 1) := by decide +kernel
theorem dX8_buy_31 : decode cX8_buy 31 = .ok (.istore 4, 2) := by decide +kernel
theorem dX8_buy_33 : decode cX8_buy 33 = .ok (.bipush (-9), 2) := by decide +kernel
theorem dX8_buy_35 : decode cX8_buy 35 = .ok (.istore 5, 2) := by decide +kernel
theorem dX8_buy_37 : decode cX8_buy 37 = .ok (.iconst 0, 1) := by decide +kernel
theorem dX8_buy_38 : decode cX8_buy 38 = .ok (.istore 6, 2) := by decide +kernel
theorem dX8_buy_40 : decode cX8_buy 40 = .ok (.iload 6, 2) := by decide +kernel
theorem dX8_buy_42 : decode cX8_buy 42 = .ok (.iload 4, 2) := by decide +kernel
theorem dX8_buy_44 : decode cX8_buy 44 = .ok (.if_icmp .ge 64, 3) := by decide +kernel
theorem dX8_buy_47 : decode cX8_buy 47 = .ok (.iload 6, 2) := by decide +kernel
theorem dX8_buy_49 : decode cX8_buy 49 = .ok (.iload_n 3, 1) := by decide +kernel
theorem dX8_buy_50 : decode cX8_buy 50 = .ok (.iand, 1) := by decide +kernel
theorem dX8_buy_51 : decode cX8_buy 51 = .ok (.ifCond .ne 51, 3) := by decide +kernel
theorem dX8_buy_54 : decode cX8_buy 54 = .ok (.iload 5, 2) := by decide +kernel
theorem dX8_buy_56 : decode cX8_buy 56 = .ok (.bipush (-9), 2) := by decide +kernel
theorem dX8_buy_58 : decode cX8_buy 58 = .ok (.if_icmp .eq 16, 3) := by decide +kernel
theorem dX8_buy_61 : decode cX8_buy 61 = .ok (.iload 6, 2) := by decide +kernel
theorem dX8_buy_63 : decode cX8_buy 63 = .ok (.invokestatic 197, 3) := by decide +kernel
theorem dX8_buy_66 : decode cX8_buy 66 = .ok (.iload 5, 2) := by decide +kernel
theorem dX8_buy_68 : decode cX8_buy 68 = .ok (.invokestatic 197, 3) := by decide +kernel
theorem dX8_buy_71 : decode cX8_buy 71 = .ok (.if_icmp .ge 31, 3) := by decide +kernel
theorem dX8_buy_74 : decode cX8_buy 74 = .ok (.aload_n 0, 1) := by decide +kernel
theorem dX8_buy_75 : decode cX8_buy 75 = .ok (.iload 6, 2) := by decide +kernel
theorem dX8_buy_77 : decode cX8_buy 77 = .ok (.putfield 155, 3) := by decide +kernel
theorem dX8_buy_80 : decode cX8_buy 80 = .ok (.aload_n 0, 1) := by decide +kernel
theorem dX8_buy_81 : decode cX8_buy 81 = .ok (.iload_n 2, 1) := by decide +kernel
theorem dX8_buy_82 : decode cX8_buy 82 = .ok (.invokevirtual 184, 3) := by decide +kernel
theorem dX8_buy_85 : decode cX8_buy 85 = .ok (.iload_n 1, 1) := by decide +kernel
theorem dX8_buy_86 : decode cX8_buy 86 = .ok (.ishr, 1) := by decide +kernel
theorem dX8_buy_87 : decode cX8_buy 87 = .ok (.iconst 1, 1) := by decide +kernel
theorem dX8_buy_88 : decode cX8_buy 88 = .ok (.iand, 1) := by decide +kernel
theorem dX8_buy_89 : decode cX8_buy 89 = .ok (.iconst 1, 1) := by decide +kernel
theorem dX8_buy_90 : decode cX8_buy 90 = .ok (.if_icmp .ne 8, 3) := by decide +kernel
theorem dX8_buy_93 : decode cX8_buy 93 = .ok (.iload 6, 2) := by decide +kernel
theorem dX8_buy_95 : decode cX8_buy 95 = .ok (.goto 5, 3) := by decide +kernel
theorem dX8_buy_98 : decode cX8_buy 98 = .ok (.iload 5, 2) := by decide +kernel
theorem dX8_buy_100 : decode cX8_buy 100 = .ok (.istore 5, 2) := by decide +kernel
theorem dX8_buy_102 : decode cX8_buy 102 = .ok (.iinc 6 1, 3) := by decide +kernel
theorem dX8_buy_105 : decode cX8_buy 105 = .ok (.goto (-65), 3) := by decide +kernel
theorem dX8_buy_108 : decode cX8_buy 108 = .ok (.aload_n 0, 1) := by decide +kernel
theorem dX8_buy_109 : decode cX8_buy 109 = .ok (.iconst 0, 1) := by decide +kernel
theorem dX8_buy_110 : decode cX8_buy 110 = .ok (.putfield 155, 3) := by decide +kernel
theorem dX8_buy_113 : decode cX8_buy 113 = .ok (.iload 5, 2) := by decide +kernel
theorem dX8_buy_115 : decode cX8_buy 115 = .ok (.ireturn, 1) := by decide +kernel
theorem dX8_when_0 : decode cX8_when 0 = .ok (.aload_n 0, 1) := by decide +kernel
theorem dX8_when_1 : decode cX8_when 1 = .ok (.iload_n 1, 1) := by decide +kernel
theorem dX8_when_2 : decode cX8_when 2 = .ok (.invokevirtual 146, 3) := by decide +kernel
theorem dX8_when_5 : decode cX8_when 5 = .ok (.ifCond .ne 5, 3) := by decide +kernel
theorem dX8_when_8 : decode cX8_when 8 = .ok (.iconst (-1), 1) := by decide +kernel
theorem dX8_when_9 : decode cX8_when 9 = .ok (.ireturn, 1) := by decide +kernel
theorem dX8_when_10 : decode cX8_when 10 = .ok (.iload_n 2, 1) := by decide +kernel
theorem dX8_when_11 : decode cX8_when 11 = .ok (.invokestatic 152, 3) := by decide +kernel
theorem dX8_when_14 : decode cX8_when 14 = .ok (.ifCond .ne 6, 3) := by decide +kernel
theorem dX8_when_17 : decode cX8_when 17 = .ok (.bipush (-2), 2) := by decide +kernel
theorem dX8_when_19 : decode cX8_when 19 = .ok (.ireturn, 1) := by decide +kernel
theorem dX8_when_20 : decode cX8_when 20 = .ok (.aload_n 0, 1) := by decide +kernel
theorem dX8_when_21 : decode cX8_when 21 = .ok (.getfield 22, 3) := by decide +kernel
theorem dX8_when_24 : decode cX8_when 24 = .ok (.iload_n 1, 1) := by decide +kernel
theorem dX8_when_25 : decode cX8_when 25 = .ok (.iaload, 1) := by decide +kernel
theorem dX8_when_26 : decode cX8_when 26 = .ok (.istore_n 3, 1) := by decide +kernel
theorem dX8_when_27 : decode cX8_when 27 = .ok (.bipush (-9), 2) := by decide +kernel
theorem dX8_when_29 : decode cX8_when 29 = .ok (.istore 4, 2) := by decide +kernel
theorem dX8_when_31 : decode cX8_when 31 = .ok (.iconst 0, 1) := by decide +kernel
theorem dX8_when_32 : decode cX8_when 32 = .ok (.istore 5, 2) := by decide +kernel
theorem dX8_when_34 : decode cX8_when 34 = .ok (.iload 5, 2) := by decide +kernel
theorem dX8_when_36 : decode cX8_when 36 = .ok (.bipush 100, 2) := by decide +kernel
theorem dX8_when_38 : decode cX8_when 38 = .ok (.if_icmp .ge 46, 3) := by decide +kernel
theorem dX8_when_41 : decode cX8_when 41 = .ok (.iload 4, 2) := by decide +kernel
theorem dX8_when_43 : decode cX8_when 43 = .ok (.bipush (-9), 2) := by decide +kernel
theorem dX8_when_45 : decode cX8_when 45 = .ok (.if_icmp .ne 39, 3) := by decide +kernel
theorem dX8_when_48 : decode cX8_when 48 = .ok (.aload_n 0, 1) := by decide +kernel
theorem dX8_when_49 : decode cX8_when 49 = .ok (.getfield 22, 3) := by decide +kernel
theorem dX8_when_52 : decode cX8_when 52 = .ok (.iload_n 1, 1) := by decide +kernel
theorem dX8_when_53 : decode cX8_when 53 = .ok (.iload 5, 2) := by decide +kernel
theorem dX8_when_55 : decode cX8_when 55 = .ok (.iastore, 1) := by decide +kernel
theorem dX8_when_56 : decode cX8_when 56 = .ok (.aload_n 0, 1) := by decide +kernel
theorem dX8_when_57 : decode cX8_when 57 = .ok (.iload_n 2, 1) := by decide +kernel
theorem dX8_when_58 : decode cX8_when 58 = .ok (.invokevirtual 184, 3) := by decide +kernel
theorem dX8_when_61 : decode cX8_when 61 = .ok (.iload_n 1, 1) := by decide +kernel
theorem dX8_when_62 : decode cX8_when 62 = .ok (.ishr, 1) := by decide +kernel
theorem dX8_when_63 : decode cX8_when 63 = .ok (.iconst 1, 1) := by decide +kernel
theorem dX8_when_64 : decode cX8_when 64 = .ok (.iand, 1) := by decide +kernel
theorem dX8_when_65 : decode cX8_when 65 = .ok (.iconst 1, 1) := by decide +kernel
theorem dX8_when_66 : decode cX8_when 66 = .ok (.if_icmp .ne 8, 3) := by decide +kernel
theorem dX8_when_69 : decode cX8_when 69 = .ok (.iload 5, 2) := by decide +kernel
theorem dX8_when_71 : decode cX8_when 71 = .ok (.goto 5, 3) := by decide +kernel
theorem dX8_when_74 : decode cX8_when 74 = .ok (.bipush (-9), 2) := by decide +kernel
theorem dX8_when_76 : decode cX8_when 76 = .ok (.istore 4, 2) := by decide +kernel
theorem dX8_when_78 : decode cX8_when 78 = .ok (.iinc 5 1, 3) := by decide +kernel
theorem dX8_when_81 : decode cX8_when 81 = .ok (.goto (-47), 3) := by decide +kernel
theorem dX8_when_84 : decode cX8_when 84 = .ok (.aload_n 0, 1) := by decide +kernel
theorem dX8_when_85 : decode cX8_when 85 = .ok (.getfield 22, 3) := by decide +kernel
theorem dX8_when_88 : decode cX8_when 88 = .ok (.iload_n 1, 1) := by decide +kernel
theorem dX8_when_89 : decode cX8_when 89 = .ok (.iload_n 3, 1) := by decide +kernel
theorem dX8_when_90 : decode cX8_when 90 = .ok (.iastore, 1) := by decide +kernel
theorem dX8_when_91 : decode cX8_when 91 = .ok (.iload 4, 2) := by decide +kernel
theorem dX8_when_93 : decode cX8_when 93 = .ok (.ireturn, 1) := by decide +kernel
theorem dX8_longest_0 : decode cX8_longest 0 = .ok (.aload_n 0, 1) := by decide +kernel
theorem dX8_longest_1 : decode cX8_longest 1 = .ok (.iload_n 1, 1) := by decide +kernel
theorem dX8_longest_2 : decode cX8_longest 2 = .ok (.invokevirtual 146, 3) := by decide +kernel
theorem dX8_longest_5 : decode cX8_longest 5 = .ok (.ifCond .ne 5, 3) := by decide +kernel
theorem dX8_longest_8 : decode cX8_longest 8 = .ok (.iconst (-1), 1) := by decide +kernel
theorem dX8_longest_9 : decode cX8_longest 9 = .ok (.ireturn, 1) := by decide +kernel
theorem dX8_longest_10 : decode cX8_longest 10 = .ok (.iload_n 2, 1) := by decide +kernel
theorem dX8_longest_11 : decode cX8_longest 11 = .ok (.iconst 0, 1) := by decide +kernel
theorem dX8_longest_12 : decode cX8_longest 12 = .ok (.iconst 1, 1) := by decide +kernel
theorem dX8_longest_13 : decode cX8_longest 13 = .ok (.invokestatic 68, 3) := by decide +kernel
theorem dX8_longest_16 : decode cX8_longest 16 = .ok (.ifCond .ne 6, 3) := by decide +kernel
theorem dX8_longest_19 : decode cX8_longest 19 = .ok (.bipush (-2), 2) := by decide +kernel
theorem dX8_longest_21 : decode cX8_longest 21 = .ok (.ireturn, 1) := by decide +kernel
theorem dX8_longest_22 : decode cX8_longest 22 = .ok (.aload_n 0, 1) := by decide +kernel
theorem dX8_longest_23 : decode cX8_longest 23 = .ok (.getfield 22, 3) := by decide +kernel
theorem dX8_longest_26 : decode cX8_longest 26 = .ok (.iload_n 1, 1) := by decide +kernel
theorem dX8_longest_27 : decode cX8_longest 27 = .ok (.iaload, 1) := by decide +kernel
theorem dX8_longest_28 : decode cX8_longest 28 = .ok (.istore_n 3, 1) := by decide +kernel
theorem dX8_longest_29 : decode cX8_longest 29 = .ok (.bipush (-9), 2) := by decide +kernel
theorem dX8_longest_31 : decode cX8_longest 31 = .ok (.istore 4, 2) := by decide +kernel
theorem dX8_longest_33 : decode cX8_longest 33 = .ok (.iconst 0, 1) := by decide +kernel
theorem dX8_longest_34 : decode cX8_longest 34 = .ok (.istore 5, 2) := by decide +kernel
theorem dX8_longest_36 : decode cX8_longest 36 = .ok (.iconst 0, 1) := by decide +kernel
theorem dX8_longest_37 : decode cX8_longest 37 = .ok (.istore 6, 2) := by decide +kernel
theorem dX8_longest_39 : decode cX8_longest 39 = .ok (.iload 6, 2) := by decide +kernel
theorem dX8_longest_41 : decode cX8_longest 41 = .ok (.bipush 100, 2) := by decide +kernel
theorem dX8_longest_43 : decode cX8_longest 43 = .ok (.if_icmp .ge 46, 3) := by decide +kernel
theorem dX8_longest_46 : decode cX8_longest 46 = .ok (.aload_n 0, 1) := by decide +kernel
theorem dX8_longest_47 : decode cX8_longest 47 = .ok (.getfield 22, 3) := by decide +kernel
theorem dX8_longest_50 : decode cX8_longest 50 = .ok (.iload_n 1, 1) := by decide +kernel
theorem dX8_longest_51 : decode cX8_longest 51 = .ok (.iload 6, 2) := by decide +kernel
theorem dX8_longest_53 : decode cX8_longest 53 = .ok (.iastore, 1) := by decide +kernel
theorem dX8_longest_54 : decode cX8_longest 54 = .ok (.aload_n 0, 1) := by decide +kernel
theorem dX8_longest_55 : decode cX8_longest 55 = .ok (.iload_n 1, 1) := by decide +kernel
theorem dX8_longest_56 : decode cX8_longest 56 = .ok (.invokevirtual 187, 3) := by decide +kernel
theorem dX8_longest_59 : decode cX8_longest 59 = .ok (.istore 7, 2) := by decide +kernel
theorem dX8_longest_61 : decode cX8_longest 61 = .ok (.iload 4, 2) := by decide +kernel
theorem dX8_longest_63 : decode cX8_longest 63 = .ok (.bipush (-9), 2) := by decide +kernel
theorem dX8_longest_65 : decode cX8_longest 65 = .ok (.if_icmp .eq 10, 3) := by decide +kernel
theorem dX8_longest_68 : decode cX8_longest 68 = .ok (.iload 7, 2) := by decide +kernel
theorem dX8_longest_70 : decode cX8_longest 70 = .ok (.iload 5, 2) := by decide +kernel
theorem dX8_longest_72 : decode cX8_longest 72 = .ok (.if_icmp .le 11, 3) := by decide +kernel
theorem dX8_longest_75 : decode cX8_longest 75 = .ok (.iload 6, 2) := by decide +kernel
theorem dX8_longest_77 : decode cX8_longest 77 = .ok (.istore 4, 2) := by decide +kernel
theorem dX8_longest_79 : decode cX8_longest 79 = .ok (.iload 7, 2) := by decide +kernel
theorem dX8_longest_81 : decode cX8_longest 81 = .ok (.istore 5, 2) := by decide +kernel
theorem dX8_longest_83 : decode cX8_longest 83 = .ok (.iinc 6 1, 3) := by decide +kernel
theorem dX8_longest_86 : decode cX8_longest 86 = .ok (.goto (-47), 3) := by decide +kernel
theorem dX8_longest_89 : decode cX8_longest 89 = .ok (.aload_n 0, 1) := by decide +kernel
theorem dX8_longest_90 : decode cX8_longest 90 = .ok (.getfield 22, 3) := by decide +kernel
theorem dX8_longest_93 : decode cX8_longest 93 = .ok (.iload_n 1, 1) := by decide +kernel
theorem dX8_longest_94 : decode cX8_longest 94 = .ok (.iload_n 3, 1) := by decide +kernel
theorem dX8_longest_95 : decode cX8_longest 95 = .ok (.iastore, 1) := by decide +kernel
theorem dX8_longest_96 : decode cX8_longest 96 = .ok (.iload_n 2, 1) := by decide +kernel
theorem dX8_longest_97 : decode cX8_longest 97 = .ok (.ifCond .ne 8, 3) := by decide +kernel
theorem dX8_longest_100 : decode cX8_longest 100 = .ok (.iload 4, 2) := by decide +kernel
theorem dX8_longest_102 : decode cX8_longest 102 = .ok (.goto 5, 3) := by decide +kernel
theorem dX8_longest_105 : decode cX8_longest 105 = .ok (.iload 5, 2) := by decide +kernel
theorem dX8_longest_107 : decode cX8_longest 107 = .ok (.ireturn, 1) := by decide +kernel
theorem dX8_othersHold_0 : decode cX8_othersHold 0 = .ok (.aload_n 0, 1) := by decide +kernel
theorem dX8_othersHold_1 : decode cX8_othersHold 1 = .ok (.invokevirtual 178, 3) := by decide +kernel
theorem dX8_othersHold_4 : decode cX8_othersHold 4 = .ok (.iconst 0, 1) := by decide +kernel
theorem dX8_othersHold_5 : decode cX8_othersHold 5 = .ok (.istore_n 2, 1) := by decide +kernel
theorem dX8_othersHold_6 : decode cX8_othersHold 6 = .ok (.iconst 0, 1) := by decide +kernel
theorem dX8_othersHold_7 : decode cX8_othersHold 7 = .ok (.istore_n 3, 1) := by decide +kernel
theorem dX8_othersHold_8 : decode cX8_othersHold 8 = .ok (.iload_n 3, 1) := by decide +kernel
theorem dX8_othersHold_9 : decode cX8_othersHold 9 = .ok (.bipush 110, 2) := by decide +kernel
theorem dX8_othersHold_11 : decode cX8_othersHold 11 = .ok (.if_icmp .ge 26, 3) := by decide +kernel
theorem dX8_othersHold_14 : decode cX8_othersHold 14 = .ok (.iload_n 2, 1) := by decide +kernel
theorem dX8_othersHold_15 : decode cX8_othersHold 15 = .ok (.aload_n 0, 1) := by decide +kernel
theorem dX8_othersHold_16 : decode cX8_othersHold 16 = .ok (.iload_n 3, 1) := by decide +kernel
theorem dX8_othersHold_17 : decode cX8_othersHold 17 = .ok (.invokevirtual 181, 3) := by decide +kernel
theorem dX8_othersHold_20 : decode cX8_othersHold 20 = .ok (.iconst 1, 1) := by decide +kernel
theorem dX8_othersHold_21 : decode cX8_othersHold 21 = .ok (.iload_n 1, 1) := by decide +kernel
theorem dX8_othersHold_22 : decode cX8_othersHold 22 = .ok (.ishl, 1) := by decide +kernel
theorem dX8_othersHold_23 : decode cX8_othersHold 23 = .ok (.iconst (-1), 1) := by decide +kernel
theorem dX8_othersHold_24 : decode cX8_othersHold 24 = .ok (.ixor, 1) := by decide +kernel
theorem dX8_othersHold_25 : decode cX8_othersHold 25 = .ok (.iand, 1) := by decide +kernel
theorem dX8_othersHold_26 : decode cX8_othersHold 26 = .ok (.invokestatic 197, 3) := by decide +kernel
theorem dX8_othersHold_29 : decode cX8_othersHold 29 = .ok (.iadd, 1) := by decide +kernel
theorem dX8_othersHold_30 : decode cX8_othersHold 30 = .ok (.istore_n 2, 1) := by decide +kernel
theorem dX8_othersHold_31 : decode cX8_othersHold 31 = .ok (.iinc 3 1, 3) := by decide +kernel
theorem dX8_othersHold_34 : decode cX8_othersHold 34 = .ok (.goto (-26), 3) := by decide +kernel
theorem dX8_othersHold_37 : decode cX8_othersHold 37 = .ok (.iload_n 2, 1) := by decide +kernel
theorem dX8_othersHold_38 : decode cX8_othersHold 38 = .ok (.ireturn, 1) := by decide +kernel
theorem dX8_worth_0 : decode cX8_worth 0 = .ok (.aload_n 0, 1) := by decide +kernel
theorem dX8_worth_1 : decode cX8_worth 1 = .ok (.iload_n 1, 1) := by decide +kernel
theorem dX8_worth_2 : decode cX8_worth 2 = .ok (.invokevirtual 146, 3) := by decide +kernel
theorem dX8_worth_5 : decode cX8_worth 5 = .ok (.ifCond .ne 5, 3) := by decide +kernel
theorem dX8_worth_8 : decode cX8_worth 8 = .ok (.iconst (-1), 1) := by decide +kernel
theorem dX8_worth_9 : decode cX8_worth 9 = .ok (.ireturn, 1) := by decide +kernel
theorem dX8_worth_10 : decode cX8_worth 10 = .ok (.aload_n 0, 1) := by decide +kernel
theorem dX8_worth_11 : decode cX8_worth 11 = .ok (.iload_n 1, 1) := by decide +kernel
theorem dX8_worth_12 : decode cX8_worth 12 = .ok (.invokevirtual 200, 3) := by decide +kernel
theorem dX8_worth_15 : decode cX8_worth 15 = .ok (.istore_n 2, 1) := by decide +kernel
theorem dX8_worth_16 : decode cX8_worth 16 = .ok (.aload_n 0, 1) := by decide +kernel
theorem dX8_worth_17 : decode cX8_worth 17 = .ok (.iload_n 1, 1) := by decide +kernel
theorem dX8_worth_18 : decode cX8_worth 18 = .ok (.putfield 38, 3) := by decide +kernel
theorem dX8_worth_21 : decode cX8_worth 21 = .ok (.aload_n 0, 1) := by decide +kernel
theorem dX8_worth_22 : decode cX8_worth 22 = .ok (.iload_n 1, 1) := by decide +kernel
theorem dX8_worth_23 : decode cX8_worth 23 = .ok (.invokevirtual 200, 3) := by decide +kernel
theorem dX8_worth_26 : decode cX8_worth 26 = .ok (.istore_n 3, 1) := by decide +kernel
theorem dX8_worth_27 : decode cX8_worth 27 = .ok (.aload_n 0, 1) := by decide +kernel
theorem dX8_worth_28 : decode cX8_worth 28 = .ok (.bipush (-9), 2) := by decide +kernel
theorem dX8_worth_30 : decode cX8_worth 30 = .ok (.putfield 38, 3) := by decide +kernel
theorem dX8_worth_33 : decode cX8_worth 33 = .ok (.iload_n 2, 1) := by decide +kernel
theorem dX8_worth_34 : decode cX8_worth 34 = .ok (.iload_n 3, 1) := by decide +kernel
theorem dX8_worth_35 : decode cX8_worth 35 = .ok (.isub, 1) := by decide +kernel
theorem dX8_worth_36 : decode cX8_worth 36 = .ok (.sipush 1000, 3) := by decide +kernel
theorem dX8_worth_39 : decode cX8_worth 39 = .ok (.iadd, 1) := by decide +kernel
theorem dX8_worth_40 : decode cX8_worth 40 = .ok (.ireturn, 1) := by decide +kernel
theorem dX8_reading_0 : decode cX8_reading 0 = .ok (.aload_n 0, 1) := by decide +kernel
theorem dX8_reading_1 : decode cX8_reading 1 = .ok (.iload_n 1, 1) := by decide +kernel
theorem dX8_reading_2 : decode cX8_reading 2 = .ok (.invokevirtual 146, 3) := by decide +kernel
theorem dX8_reading_5 : decode cX8_reading 5 = .ok (.ifCond .ne 5, 3) := by decide +kernel
theorem dX8_reading_8 : decode cX8_reading 8 = .ok (.iconst (-1), 1) := by decide +kernel
theorem dX8_reading_9 : decode cX8_reading 9 = .ok (.ireturn, 1) := by decide +kernel
theorem dX8_reading_10 : decode cX8_reading 10 = .ok (.iload_n 2, 1) := by decide +kernel
theorem dX8_reading_11 : decode cX8_reading 11 = .ok (.invokestatic 152, 3) := by decide +kernel
theorem dX8_reading_14 : decode cX8_reading 14 = .ok (.ifCond .ne 6, 3) := by decide +kernel
theorem dX8_reading_17 : decode cX8_reading 17 = .ok (.bipush (-2), 2) := by decide +kernel
theorem dX8_reading_19 : decode cX8_reading 19 = .ok (.ireturn, 1) := by decide +kernel
theorem dX8_reading_20 : decode cX8_reading 20 = .ok (.aload_n 0, 1) := by decide +kernel
theorem dX8_reading_21 : decode cX8_reading 21 = .ok (.getfield 130, 3) := by decide +kernel
theorem dX8_reading_24 : decode cX8_reading 24 = .ok (.bipush 8, 2) := by decide +kernel
theorem dX8_reading_26 : decode cX8_reading 26 = .ok (.if_icmp .ne 6, 3) := by decide +kernel
theorem dX8_reading_29 : decode cX8_reading 29 = .ok (.bipush (-4), 2) := by decide +kernel
theorem dX8_reading_31 : decode cX8_reading 31 = .ok (.ireturn, 1) := by decide +kernel
theorem dX8_reading_32 : decode cX8_reading 32 = .ok (.aload_n 0, 1) := by decide +kernel
theorem dX8_reading_33 : decode cX8_reading 33 = .ok (.getfield 54, 3) := by decide +kernel
theorem dX8_reading_36 : decode cX8_reading 36 = .ok (.aload_n 0, 1) := by decide +kernel
theorem dX8_reading_37 : decode cX8_reading 37 = .ok (.getfield 130, 3) := by decide +kernel
theorem dX8_reading_40 : decode cX8_reading 40 = .ok (.iload_n 1, 1) := by decide +kernel
theorem dX8_reading_41 : decode cX8_reading 41 = .ok (.iastore, 1) := by decide +kernel
theorem dX8_reading_42 : decode cX8_reading 42 = .ok (.aload_n 0, 1) := by decide +kernel
theorem dX8_reading_43 : decode cX8_reading 43 = .ok (.getfield 57, 3) := by decide +kernel
theorem dX8_reading_46 : decode cX8_reading 46 = .ok (.aload_n 0, 1) := by decide +kernel
theorem dX8_reading_47 : decode cX8_reading 47 = .ok (.getfield 130, 3) := by decide +kernel
theorem dX8_reading_50 : decode cX8_reading 50 = .ok (.iload_n 2, 1) := by decide +kernel
theorem dX8_reading_51 : decode cX8_reading 51 = .ok (.iastore, 1) := by decide +kernel
theorem dX8_reading_52 : decode cX8_reading 52 = .ok (.aload_n 0, 1) := by decide +kernel
theorem dX8_reading_53 : decode cX8_reading 53 = .ok (.getfield 60, 3) := by decide +kernel
theorem dX8_reading_56 : decode cX8_reading 56 = .ok (.aload_n 0, 1) := by decide +kernel
theorem dX8_reading_57 : decode cX8_reading 57 = .ok (.getfield 130, 3) := by decide +kernel
theorem dX8_reading_60 : decode cX8_reading 60 = .ok (.iload_n 3, 1) := by decide +kernel
theorem dX8_reading_61 : decode cX8_reading 61 = .ok (.bastore, 1) := by decide +kernel
theorem dX8_reading_62 : decode cX8_reading 62 = .ok (.aload_n 0, 1) := by decide +kernel
theorem dX8_reading_63 : decode cX8_reading 63 = .ok (.dup, 1) := by decide +kernel
theorem dX8_reading_64 : decode cX8_reading 64 = .ok (.getfield 130, 3) := by decide +kernel
theorem dX8_reading_67 : decode cX8_reading 67 = .ok (.iconst 1, 1) := by decide +kernel
theorem dX8_reading_68 : decode cX8_reading 68 = .ok (.iadd, 1) := by decide +kernel
theorem dX8_reading_69 : decode cX8_reading 69 = .ok (.putfield 130, 3) := by decide +kernel
theorem dX8_reading_72 : decode cX8_reading 72 = .ok (.aload_n 0, 1) := by decide +kernel
theorem dX8_reading_73 : decode cX8_reading 73 = .ok (.getfield 130, 3) := by decide +kernel
theorem dX8_reading_76 : decode cX8_reading 76 = .ok (.iconst 1, 1) := by decide +kernel
theorem dX8_reading_77 : decode cX8_reading 77 = .ok (.isub, 1) := by decide +kernel
theorem dX8_reading_78 : decode cX8_reading 78 = .ok (.ireturn, 1) := by decide +kernel
theorem dX8_back_0 : decode cX8_back 0 = .ok (.iload_n 1, 1) := by decide +kernel
theorem dX8_back_1 : decode cX8_back 1 = .ok (.iconst 0, 1) := by decide +kernel
theorem dX8_back_2 : decode cX8_back 2 = .ok (.aload_n 0, 1) := by decide +kernel
theorem dX8_back_3 : decode cX8_back 3 = .ok (.getfield 130, 3) := by decide +kernel
theorem dX8_back_6 : decode cX8_back 6 = .ok (.invokestatic 68, 3) := by decide +kernel
theorem dX8_back_9 : decode cX8_back 9 = .ok (.ifCond .ne 6, 3) := by decide +kernel
theorem dX8_back_12 : decode cX8_back 12 = .ok (.bipush (-2), 2) := by decide +kernel
theorem dX8_back_14 : decode cX8_back 14 = .ok (.ireturn, 1) := by decide +kernel
theorem dX8_back_15 : decode cX8_back 15 = .ok (.aload_n 0, 1) := by decide +kernel
theorem dX8_back_16 : decode cX8_back 16 = .ok (.dup, 1) := by decide +kernel
theorem dX8_back_17 : decode cX8_back 17 = .ok (.getfield 130, 3) := by decide +kernel
theorem dX8_back_20 : decode cX8_back 20 = .ok (.iload_n 1, 1) := by decide +kernel
theorem dX8_back_21 : decode cX8_back 21 = .ok (.isub, 1) := by decide +kernel
theorem dX8_back_22 : decode cX8_back 22 = .ok (.putfield 130, 3) := by decide +kernel
theorem dX8_back_25 : decode cX8_back 25 = .ok (.aload_n 0, 1) := by decide +kernel
theorem dX8_back_26 : decode cX8_back 26 = .ok (.getfield 130, 3) := by decide +kernel
theorem dX8_back_29 : decode cX8_back 29 = .ok (.ireturn, 1) := by decide +kernel
theorem dX8_areSo_0 : decode cX8_areSo 0 = .ok (.aload_n 0, 1) := by decide +kernel
theorem dX8_areSo_1 : decode cX8_areSo 1 = .ok (.invokevirtual 178, 3) := by decide +kernel
theorem dX8_areSo_4 : decode cX8_areSo 4 = .ok (.iconst 0, 1) := by decide +kernel
theorem dX8_areSo_5 : decode cX8_areSo 5 = .ok (.istore_n 1, 1) := by decide +kernel
theorem dX8_areSo_6 : decode cX8_areSo 6 = .ok (.iload_n 1, 1) := by decide +kernel
theorem dX8_areSo_7 : decode cX8_areSo 7 = .ok (.aload_n 0, 1) := by decide +kernel
theorem dX8_areSo_8 : decode cX8_areSo 8 = .ok (.getfield 130, 3) := by decide +kernel
theorem dX8_areSo_11 : decode cX8_areSo 11 = .ok (.if_icmp .ge 41, 3) := by decide +kernel
theorem dX8_areSo_14 : decode cX8_areSo 14 = .ok (.aload_n 0, 1) := by decide +kernel
theorem dX8_areSo_15 : decode cX8_areSo 15 = .ok (.aload_n 0, 1) := by decide +kernel
theorem dX8_areSo_16 : decode cX8_areSo 16 = .ok (.getfield 57, 3) := by decide +kernel
theorem dX8_areSo_19 : decode cX8_areSo 19 = .ok (.iload_n 1, 1) := by decide +kernel
theorem dX8_areSo_20 : decode cX8_areSo 20 = .ok (.iaload, 1) := by decide +kernel
theorem dX8_areSo_21 : decode cX8_areSo 21 = .ok (.invokevirtual 174, 3) := by decide +kernel
theorem dX8_areSo_24 : decode cX8_areSo 24 = .ok (.aload_n 0, 1) := by decide +kernel
theorem dX8_areSo_25 : decode cX8_areSo 25 = .ok (.getfield 51, 3) := by decide +kernel
theorem dX8_areSo_28 : decode cX8_areSo 28 = .ok (.aload_n 0, 1) := by decide +kernel
theorem dX8_areSo_29 : decode cX8_areSo 29 = .ok (.getfield 54, 3) := by decide +kernel
theorem dX8_areSo_32 : decode cX8_areSo 32 = .ok (.iload_n 1, 1) := by decide +kernel
theorem dX8_areSo_33 : decode cX8_areSo 33 = .ok (.iaload, 1) := by decide +kernel
theorem dX8_areSo_34 : decode cX8_areSo 34 = .ok (.baload, 1) := by decide +kernel
theorem dX8_areSo_35 : decode cX8_areSo 35 = .ok (.aload_n 0, 1) := by decide +kernel
theorem dX8_areSo_36 : decode cX8_areSo 36 = .ok (.getfield 60, 3) := by decide +kernel
theorem dX8_areSo_39 : decode cX8_areSo 39 = .ok (.iload_n 1, 1) := by decide +kernel
theorem dX8_areSo_40 : decode cX8_areSo 40 = .ok (.baload, 1) := by decide +kernel
theorem dX8_areSo_41 : decode cX8_areSo 41 = .ok (.if_icmp .eq 5, 3) := by decide +kernel
theorem dX8_areSo_44 : decode cX8_areSo 44 = .ok (.iconst 0, 1) := by decide +kernel
theorem dX8_areSo_45 : decode cX8_areSo 45 = .ok (.ireturn, 1) := by decide +kernel
theorem dX8_areSo_46 : decode cX8_areSo 46 = .ok (.iinc 1 1, 3) := by decide +kernel
theorem dX8_areSo_49 : decode cX8_areSo 49 = .ok (.goto (-43), 3) := by decide +kernel
theorem dX8_areSo_52 : decode cX8_areSo 52 = .ok (.iconst 1, 1) := by decide +kernel
theorem dX8_areSo_53 : decode cX8_areSo 53 = .ok (.ireturn, 1) := by decide +kernel
theorem dX8_spans_0 : decode cX8_spans 0 = .ok (.aload_n 0, 1) := by decide +kernel
theorem dX8_spans_1 : decode cX8_spans 1 = .ok (.getfield 72, 3) := by decide +kernel
theorem dX8_spans_4 : decode cX8_spans 4 = .ok (.ifCond .ne 6, 3) := by decide +kernel
theorem dX8_spans_7 : decode cX8_spans 7 = .ok (.bipush (-3), 2) := by decide +kernel
theorem dX8_spans_9 : decode cX8_spans 9 = .ok (.ireturn, 1) := by decide +kernel
theorem dX8_spans_10 : decode cX8_spans 10 = .ok (.aload_n 0, 1) := by decide +kernel
theorem dX8_spans_11 : decode cX8_spans 11 = .ok (.getfield 121, 3) := by decide +kernel
theorem dX8_spans_14 : decode cX8_spans 14 = .ok (.istore_n 1, 1) := by decide +kernel
theorem dX8_spans_15 : decode cX8_spans 15 = .ok (.iconst 0, 1) := by decide +kernel
theorem dX8_spans_16 : decode cX8_spans 16 = .ok (.istore_n 2, 1) := by decide +kernel
theorem dX8_spans_17 : decode cX8_spans 17 = .ok (.iconst 0, 1) := by decide +kernel
theorem dX8_spans_18 : decode cX8_spans 18 = .ok (.istore_n 3, 1) := by decide +kernel
theorem dX8_spans_19 : decode cX8_spans 19 = .ok (.iload_n 3, 1) := by decide +kernel
theorem dX8_spans_20 : decode cX8_spans 20 = .ok (.bipush 9, 2) := by decide +kernel
theorem dX8_spans_22 : decode cX8_spans 22 = .ok (.if_icmp .gt 31, 3) := by decide +kernel
theorem dX8_spans_25 : decode cX8_spans 25 = .ok (.aload_n 0, 1) := by decide +kernel
theorem dX8_spans_26 : decode cX8_spans 26 = .ok (.iload_n 3, 1) := by decide +kernel
theorem dX8_spans_27 : decode cX8_spans 27 = .ok (.putfield 121, 3) := by decide +kernel
theorem dX8_spans_30 : decode cX8_spans 30 = .ok (.iload_n 2, 1) := by decide +kernel
theorem dX8_spans_31 : decode cX8_spans 31 = .ok (.aload_n 0, 1) := by decide +kernel
theorem dX8_spans_32 : decode cX8_spans 32 = .ok (.invokevirtual 203, 3) := by decide +kernel
theorem dX8_spans_35 : decode cX8_spans 35 = .ok (.ifCond .eq 9, 3) := by decide +kernel
theorem dX8_spans_38 : decode cX8_spans 38 = .ok (.iconst 1, 1) := by decide +kernel
theorem dX8_spans_39 : decode cX8_spans 39 = .ok (.iload_n 3, 1) := by decide +kernel
theorem dX8_spans_40 : decode cX8_spans 40 = .ok (.ishl, 1) := by decide +kernel
theorem dX8_spans_41 : decode cX8_spans 41 = .ok (.goto 4, 3) := by decide +kernel
theorem dX8_spans_44 : decode cX8_spans 44 = .ok (.iconst 0, 1) := by decide +kernel
theorem dX8_spans_45 : decode cX8_spans 45 = .ok (.ior, 1) := by decide +kernel
theorem dX8_spans_46 : decode cX8_spans 46 = .ok (.istore_n 2, 1) := by decide +kernel
theorem dX8_spans_47 : decode cX8_spans 47 = .ok (.iinc 3 1, 3) := by decide +kernel
theorem dX8_spans_50 : decode cX8_spans 50 = .ok (.goto (-31), 3) := by decide +kernel
theorem dX8_spans_53 : decode cX8_spans 53 = .ok (.aload_n 0, 1) := by decide +kernel
theorem dX8_spans_54 : decode cX8_spans 54 = .ok (.iload_n 1, 1) := by decide +kernel
theorem dX8_spans_55 : decode cX8_spans 55 = .ok (.putfield 121, 3) := by decide +kernel
theorem dX8_spans_58 : decode cX8_spans 58 = .ok (.iload_n 2, 1) := by decide +kernel
theorem dX8_spans_59 : decode cX8_spans 59 = .ok (.ireturn, 1) := by decide +kernel
theorem dX8_origins_0 : decode cX8_origins 0 = .ok (.aload_n 0, 1) := by decide +kernel
theorem dX8_origins_1 : decode cX8_origins 1 = .ok (.getfield 72, 3) := by decide +kernel
theorem dX8_origins_4 : decode cX8_origins 4 = .ok (.ifCond .ne 6, 3) := by decide +kernel
theorem dX8_origins_7 : decode cX8_origins 7 = .ok (.bipush (-3), 2) := by decide +kernel
theorem dX8_origins_9 : decode cX8_origins 9 = .ok (.ireturn, 1) := by decide +kernel
theorem dX8_origins_10 : decode cX8_origins 10 = .ok (.aload_n 0, 1) := by decide +kernel
theorem dX8_origins_11 : decode cX8_origins 11 = .ok (.getfield 103, 3) := by decide +kernel
theorem dX8_origins_14 : decode cX8_origins 14 = .ok (.istore_n 1, 1) := by decide +kernel
theorem dX8_origins_15 : decode cX8_origins 15 = .ok (.iconst 0, 1) := by decide +kernel
theorem dX8_origins_16 : decode cX8_origins 16 = .ok (.istore_n 2, 1) := by decide +kernel
theorem dX8_origins_17 : decode cX8_origins 17 = .ok (.iconst 0, 1) := by decide +kernel
theorem dX8_origins_18 : decode cX8_origins 18 = .ok (.istore_n 3, 1) := by decide +kernel
theorem dX8_origins_19 : decode cX8_origins 19 = .ok (.iload_n 3, 1) := by decide +kernel
theorem dX8_origins_20 : decode cX8_origins 20 = .ok (.bipush 30, 2) := by decide +kernel
theorem dX8_origins_22 : decode cX8_origins 22 = .ok (.if_icmp .ge 31, 3) := by decide +kernel
theorem dX8_origins_25 : decode cX8_origins 25 = .ok (.aload_n 0, 1) := by decide +kernel
theorem dX8_origins_26 : decode cX8_origins 26 = .ok (.iload_n 3, 1) := by decide +kernel
theorem dX8_origins_27 : decode cX8_origins 27 = .ok (.putfield 103, 3) := by decide +kernel
theorem dX8_origins_30 : decode cX8_origins 30 = .ok (.iload_n 2, 1) := by decide +kernel
theorem dX8_origins_31 : decode cX8_origins 31 = .ok (.aload_n 0, 1) := by decide +kernel
theorem dX8_origins_32 : decode cX8_origins 32 = .ok (.invokevirtual 203, 3) := by decide +kernel
theorem dX8_origins_35 : decode cX8_origins 35 = .ok (.ifCond .eq 9, 3) := by decide +kernel
theorem dX8_origins_38 : decode cX8_origins 38 = .ok (.iconst 1, 1) := by decide +kernel
theorem dX8_origins_39 : decode cX8_origins 39 = .ok (.iload_n 3, 1) := by decide +kernel
theorem dX8_origins_40 : decode cX8_origins 40 = .ok (.ishl, 1) := by decide +kernel
theorem dX8_origins_41 : decode cX8_origins 41 = .ok (.goto 4, 3) := by decide +kernel
theorem dX8_origins_44 : decode cX8_origins 44 = .ok (.iconst 0, 1) := by decide +kernel
theorem dX8_origins_45 : decode cX8_origins 45 = .ok (.ior, 1) := by decide +kernel
theorem dX8_origins_46 : decode cX8_origins 46 = .ok (.istore_n 2, 1) := by decide +kernel
theorem dX8_origins_47 : decode cX8_origins 47 = .ok (.iinc 3 1, 3) := by decide +kernel
theorem dX8_origins_50 : decode cX8_origins 50 = .ok (.goto (-31), 3) := by decide +kernel
theorem dX8_origins_53 : decode cX8_origins 53 = .ok (.aload_n 0, 1) := by decide +kernel
theorem dX8_origins_54 : decode cX8_origins 54 = .ok (.iload_n 1, 1) := by decide +kernel
theorem dX8_origins_55 : decode cX8_origins 55 = .ok (.putfield 103, 3) := by decide +kernel
theorem dX8_origins_58 : decode cX8_origins 58 = .ok (.iload_n 2, 1) := by decide +kernel
theorem dX8_origins_59 : decode cX8_origins 59 = .ok (.ireturn, 1) := by decide +kernel
theorem dX8_kinds_0 : decode cX8_kinds 0 = .ok (.aload_n 0, 1) := by decide +kernel
theorem dX8_kinds_1 : decode cX8_kinds 1 = .ok (.iload_n 1, 1) := by decide +kernel
theorem dX8_kinds_2 : decode cX8_kinds 2 = .ok (.invokevirtual 146, 3) := by decide +kernel
theorem dX8_kinds_5 : decode cX8_kinds 5 = .ok (.ifCond .ne 5, 3) := by decide +kernel
theorem dX8_kinds_8 : decode cX8_kinds 8 = .ok (.iconst (-1), 1) := by decide +kernel
theorem dX8_kinds_9 : decode cX8_kinds 9 = .ok (.ireturn, 1) := by decide +kernel
theorem dX8_kinds_10 : decode cX8_kinds 10 = .ok (.aload_n 0, 1) := by decide +kernel
theorem dX8_kinds_11 : decode cX8_kinds 11 = .ok (.getfield 19, 3) := by decide +kernel
theorem dX8_kinds_14 : decode cX8_kinds 14 = .ok (.iload_n 1, 1) := by decide +kernel
theorem dX8_kinds_15 : decode cX8_kinds 15 = .ok (.iaload, 1) := by decide +kernel
theorem dX8_kinds_16 : decode cX8_kinds 16 = .ok (.istore_n 2, 1) := by decide +kernel
theorem dX8_kinds_17 : decode cX8_kinds 17 = .ok (.iconst 0, 1) := by decide +kernel
theorem dX8_kinds_18 : decode cX8_kinds 18 = .ok (.istore_n 3, 1) := by decide +kernel
theorem dX8_kinds_19 : decode cX8_kinds 19 = .ok (.iconst 0, 1) := by decide +kernel
theorem dX8_kinds_20 : decode cX8_kinds 20 = .ok (.istore 4, 2) := by decide +kernel
theorem dX8_kinds_22 : decode cX8_kinds 22 = .ok (.iload 4, 2) := by decide +kernel
theorem dX8_kinds_24 : decode cX8_kinds 24 = .ok (.iconst 3, 1) := by decide +kernel
theorem dX8_kinds_25 : decode cX8_kinds 25 = .ok (.if_icmp .ge 35, 3) := by decide +kernel
theorem dX8_kinds_28 : decode cX8_kinds 28 = .ok (.aload_n 0, 1) := by decide +kernel
theorem dX8_kinds_29 : decode cX8_kinds 29 = .ok (.getfield 19, 3) := by decide +kernel
theorem dX8_kinds_32 : decode cX8_kinds 32 = .ok (.iload_n 1, 1) := by decide +kernel
theorem dX8_kinds_33 : decode cX8_kinds 33 = .ok (.iload 4, 2) := by decide +kernel
theorem dX8_kinds_35 : decode cX8_kinds 35 = .ok (.iastore, 1) := by decide +kernel
theorem dX8_kinds_36 : decode cX8_kinds 36 = .ok (.iload_n 3, 1) := by decide +kernel
theorem dX8_kinds_37 : decode cX8_kinds 37 = .ok (.aload_n 0, 1) := by decide +kernel
theorem dX8_kinds_38 : decode cX8_kinds 38 = .ok (.invokevirtual 203, 3) := by decide +kernel
theorem dX8_kinds_41 : decode cX8_kinds 41 = .ok (.ifCond .eq 10, 3) := by decide +kernel
theorem dX8_kinds_44 : decode cX8_kinds 44 = .ok (.iconst 1, 1) := by decide +kernel
theorem dX8_kinds_45 : decode cX8_kinds 45 = .ok (.iload 4, 2) := by decide +kernel
theorem dX8_kinds_47 : decode cX8_kinds 47 = .ok (.ishl, 1) := by decide +kernel
theorem dX8_kinds_48 : decode cX8_kinds 48 = .ok (.goto 4, 3) := by decide +kernel
theorem dX8_kinds_51 : decode cX8_kinds 51 = .ok (.iconst 0, 1) := by decide +kernel
theorem dX8_kinds_52 : decode cX8_kinds 52 = .ok (.ior, 1) := by decide +kernel
theorem dX8_kinds_53 : decode cX8_kinds 53 = .ok (.istore_n 3, 1) := by decide +kernel
theorem dX8_kinds_54 : decode cX8_kinds 54 = .ok (.iinc 4 1, 3) := by decide +kernel
theorem dX8_kinds_57 : decode cX8_kinds 57 = .ok (.goto (-35), 3) := by decide +kernel
theorem dX8_kinds_60 : decode cX8_kinds 60 = .ok (.aload_n 0, 1) := by decide +kernel
theorem dX8_kinds_61 : decode cX8_kinds 61 = .ok (.getfield 19, 3) := by decide +kernel
theorem dX8_kinds_64 : decode cX8_kinds 64 = .ok (.iload_n 1, 1) := by decide +kernel
theorem dX8_kinds_65 : decode cX8_kinds 65 = .ok (.iload_n 2, 1) := by decide +kernel
theorem dX8_kinds_66 : decode cX8_kinds 66 = .ok (.iastore, 1) := by decide +kernel
theorem dX8_kinds_67 : decode cX8_kinds 67 = .ok (.iload_n 3, 1) := by decide +kernel
theorem dX8_kinds_68 : decode cX8_kinds 68 = .ok (.ireturn, 1) := by decide +kernel
theorem dX8_moved_0 : decode cX8_moved 0 = .ok (.aload_n 0, 1) := by decide +kernel
theorem dX8_moved_1 : decode cX8_moved 1 = .ok (.iload_n 1, 1) := by decide +kernel
theorem dX8_moved_2 : decode cX8_moved 2 = .ok (.invokevirtual 146, 3) := by decide +kernel
theorem dX8_moved_5 : decode cX8_moved 5 = .ok (.ifCond .ne 5, 3) := by decide +kernel
theorem dX8_moved_8 : decode cX8_moved 8 = .ok (.iconst (-1), 1) := by decide +kernel
theorem dX8_moved_9 : decode cX8_moved 9 = .ok (.ireturn, 1) := by decide +kernel
theorem dX8_moved_10 : decode cX8_moved 10 = .ok (.iload_n 2, 1) := by decide +kernel
theorem dX8_moved_11 : decode cX8_moved 11 = .ok (.iconst 0, 1) := by decide +kernel
theorem dX8_moved_12 : decode cX8_moved 12 = .ok (.iconst 1, 1) := by decide +kernel
theorem dX8_moved_13 : decode cX8_moved 13 = .ok (.invokestatic 68, 3) := by decide +kernel
theorem dX8_moved_16 : decode cX8_moved 16 = .ok (.ifCond .ne 6, 3) := by decide +kernel
theorem dX8_moved_19 : decode cX8_moved 19 = .ok (.bipush (-2), 2) := by decide +kernel
theorem dX8_moved_21 : decode cX8_moved 21 = .ok (.ireturn, 1) := by decide +kernel
theorem dX8_moved_22 : decode cX8_moved 22 = .ok (.aload_n 0, 1) := by decide +kernel
theorem dX8_moved_23 : decode cX8_moved 23 = .ok (.getfield 22, 3) := by decide +kernel
theorem dX8_moved_26 : decode cX8_moved 26 = .ok (.iload_n 1, 1) := by decide +kernel
theorem dX8_moved_27 : decode cX8_moved 27 = .ok (.iaload, 1) := by decide +kernel
theorem dX8_moved_28 : decode cX8_moved 28 = .ok (.istore_n 3, 1) := by decide +kernel
theorem dX8_moved_29 : decode cX8_moved 29 = .ok (.iconst 0, 1) := by decide +kernel
theorem dX8_moved_30 : decode cX8_moved 30 = .ok (.istore 4, 2) := by decide +kernel
theorem dX8_moved_32 : decode cX8_moved 32 = .ok (.bipush (-9), 2) := by decide +kernel
theorem dX8_moved_34 : decode cX8_moved 34 = .ok (.istore 5, 2) := by decide +kernel
theorem dX8_moved_36 : decode cX8_moved 36 = .ok (.iconst 0, 1) := by decide +kernel
theorem dX8_moved_37 : decode cX8_moved 37 = .ok (.istore 6, 2) := by decide +kernel
theorem dX8_moved_39 : decode cX8_moved 39 = .ok (.iload 6, 2) := by decide +kernel
theorem dX8_moved_41 : decode cX8_moved 41 = .ok (.bipush 100, 2) := by decide +kernel
theorem dX8_moved_43 : decode cX8_moved 43 = .ok (.if_icmp .ge 41, 3) := by decide +kernel
theorem dX8_moved_46 : decode cX8_moved 46 = .ok (.aload_n 0, 1) := by decide +kernel
theorem dX8_moved_47 : decode cX8_moved 47 = .ok (.getfield 22, 3) := by decide +kernel
theorem dX8_moved_50 : decode cX8_moved 50 = .ok (.iload_n 1, 1) := by decide +kernel
theorem dX8_moved_51 : decode cX8_moved 51 = .ok (.iload 6, 2) := by decide +kernel
theorem dX8_moved_53 : decode cX8_moved 53 = .ok (.iastore, 1) := by decide +kernel
theorem dX8_moved_54 : decode cX8_moved 54 = .ok (.aload_n 0, 1) := by decide +kernel
theorem dX8_moved_55 : decode cX8_moved 55 = .ok (.invokevirtual 203, 3) := by decide +kernel
theorem dX8_moved_58 : decode cX8_moved 58 = .ok (.ifCond .eq 20, 3) := by decide +kernel
theorem dX8_moved_61 : decode cX8_moved 61 = .ok (.iload 4, 2) := by decide +kernel
theorem dX8_moved_63 : decode cX8_moved 63 = .ok (.ifCond .ne 8, 3) := by decide +kernel
theorem dX8_moved_66 : decode cX8_moved 66 = .ok (.iload 6, 2) := by decide +kernel
theorem dX8_moved_68 : decode cX8_moved 68 = .ok (.goto 5, 3) := by decide +kernel
theorem dX8_moved_71 : decode cX8_moved 71 = .ok (.iload 5, 2) := by decide +kernel
theorem dX8_moved_73 : decode cX8_moved 73 = .ok (.istore 5, 2) := by decide +kernel
theorem dX8_moved_75 : decode cX8_moved 75 = .ok (.iinc 4 1, 3) := by decide +kernel
theorem dX8_moved_78 : decode cX8_moved 78 = .ok (.iinc 6 1, 3) := by decide +kernel
theorem dX8_moved_81 : decode cX8_moved 81 = .ok (.goto (-42), 3) := by decide +kernel
theorem dX8_moved_84 : decode cX8_moved 84 = .ok (.aload_n 0, 1) := by decide +kernel
theorem dX8_moved_85 : decode cX8_moved 85 = .ok (.getfield 22, 3) := by decide +kernel
theorem dX8_moved_88 : decode cX8_moved 88 = .ok (.iload_n 1, 1) := by decide +kernel
theorem dX8_moved_89 : decode cX8_moved 89 = .ok (.iload_n 3, 1) := by decide +kernel
theorem dX8_moved_90 : decode cX8_moved 90 = .ok (.iastore, 1) := by decide +kernel
theorem dX8_moved_91 : decode cX8_moved 91 = .ok (.iload_n 2, 1) := by decide +kernel
theorem dX8_moved_92 : decode cX8_moved 92 = .ok (.ifCond .ne 8, 3) := by decide +kernel
theorem dX8_moved_95 : decode cX8_moved 95 = .ok (.iload 4, 2) := by decide +kernel
theorem dX8_moved_97 : decode cX8_moved 97 = .ok (.goto 5, 3) := by decide +kernel
theorem dX8_moved_100 : decode cX8_moved 100 = .ok (.iload 5, 2) := by decide +kernel
theorem dX8_moved_102 : decode cX8_moved 102 = .ok (.ireturn, 1) := by decide +kernel
theorem dX8_inLeastTerms_0 : decode cX8_inLeastTerms 0 = .ok (.lload_n 0, 1) := by decide +kernel
theorem dX8_inLeastTerms_1 : decode cX8_inLeastTerms 1 = .ok (.lstore 5, 2) := by decide +kernel
theorem dX8_inLeastTerms_3 : decode cX8_inLeastTerms 3 = .ok (.lload_n 2, 1) := by decide +kernel
theorem dX8_inLeastTerms_4 : decode cX8_inLeastTerms 4 = .ok (.lstore 7, 2) := by decide +kernel
theorem dX8_inLeastTerms_6 : decode cX8_inLeastTerms 6 = .ok (.lload 7, 2) := by decide +kernel
theorem dX8_inLeastTerms_8 : decode cX8_inLeastTerms 8 = .ok (.lconst 0, 1) := by decide +kernel
theorem dX8_inLeastTerms_9 : decode cX8_inLeastTerms 9 = .ok (.lcmp, 1) := by decide +kernel
theorem dX8_inLeastTerms_10 : decode cX8_inLeastTerms 10 = .ok (.ifCond .eq 21, 3) := by decide +kernel
theorem dX8_inLeastTerms_13 : decode cX8_inLeastTerms 13 = .ok (.lload 5, 2) := by decide +kernel
theorem dX8_inLeastTerms_15 : decode cX8_inLeastTerms 15 = .ok (.lload 7, 2) := by decide +kernel
theorem dX8_inLeastTerms_17 : decode cX8_inLeastTerms 17 = .ok (.lrem, 1) := by decide +kernel
theorem dX8_inLeastTerms_18 : decode cX8_inLeastTerms 18 = .ok (.lstore 9, 2) := by decide +kernel
theorem dX8_inLeastTerms_20 : decode cX8_inLeastTerms 20 = .ok (.lload 7, 2) := by decide +kernel
theorem dX8_inLeastTerms_22 : decode cX8_inLeastTerms 22 = .ok (.lstore 5, 2) := by decide +kernel
theorem dX8_inLeastTerms_24 : decode cX8_inLeastTerms 24 = .ok (.lload 9, 2) := by decide +kernel
theorem dX8_inLeastTerms_26 : decode cX8_inLeastTerms 26 = .ok (.lstore 7, 2) := by decide +kernel
theorem dX8_inLeastTerms_28 : decode cX8_inLeastTerms 28 = .ok (.goto (-22), 3) := by decide +kernel
theorem dX8_inLeastTerms_31 : decode cX8_inLeastTerms 31 = .ok (.iload 4, 2) := by decide +kernel
theorem dX8_inLeastTerms_33 : decode cX8_inLeastTerms 33 = .ok (.ifCond .ne 10, 3) := by decide +kernel
theorem dX8_inLeastTerms_36 : decode cX8_inLeastTerms 36 = .ok (.lload_n 0, 1) := by decide +kernel
theorem dX8_inLeastTerms_37 : decode cX8_inLeastTerms 37 = .ok (.lload 5, 2) := by decide +kernel
theorem dX8_inLeastTerms_39 : decode cX8_inLeastTerms 39 = .ok (.ldiv, 1) := by decide +kernel
theorem dX8_inLeastTerms_40 : decode cX8_inLeastTerms 40 = .ok (.goto 7, 3) := by decide +kernel
theorem dX8_inLeastTerms_43 : decode cX8_inLeastTerms 43 = .ok (.lload_n 2, 1) := by decide +kernel
theorem dX8_inLeastTerms_44 : decode cX8_inLeastTerms 44 = .ok (.lload 5, 2) := by decide +kernel
theorem dX8_inLeastTerms_46 : decode cX8_inLeastTerms 46 = .ok (.ldiv, 1) := by decide +kernel
theorem dX8_inLeastTerms_47 : decode cX8_inLeastTerms 47 = .ok (.lreturn, 1) := by decide +kernel
theorem dX8_odds_0 : decode cX8_odds 0 = .ok (.aload_n 0, 1) := by decide +kernel
theorem dX8_odds_1 : decode cX8_odds 1 = .ok (.iload_n 1, 1) := by decide +kernel
theorem dX8_odds_2 : decode cX8_odds 2 = .ok (.invokevirtual 146, 3) := by decide +kernel
theorem dX8_odds_5 : decode cX8_odds 5 = .ok (.ifCond .eq 19, 3) := by decide +kernel
theorem dX8_odds_8 : decode cX8_odds 8 = .ok (.iload_n 2, 1) := by decide +kernel
theorem dX8_odds_9 : decode cX8_odds 9 = .ok (.invokestatic 152, 3) := by decide +kernel
theorem dX8_odds_12 : decode cX8_odds 12 = .ok (.ifCond .eq 12, 3) := by decide +kernel
theorem dX8_odds_15 : decode cX8_odds 15 = .ok (.iload_n 3, 1) := by decide +kernel
theorem dX8_odds_16 : decode cX8_odds 16 = .ok (.iconst 0, 1) := by decide +kernel
theorem dX8_odds_17 : decode cX8_odds 17 = .ok (.iconst 1, 1) := by decide +kernel
theorem dX8_odds_18 : decode cX8_odds 18 = .ok (.invokestatic 68, 3) := by decide +kernel
theorem dX8_odds_21 : decode cX8_odds 21 = .ok (.ifCond .ne 7, 3) := by decide +kernel
theorem dX8_odds_24 : decode cX8_odds 24 = .ok (.ldc2_w 66, 3) := by decide +kernel
theorem dX8_odds_27 : decode cX8_odds 27 = .ok (.lreturn, 1) := by decide +kernel
theorem dX8_odds_28 : decode cX8_odds 28 = .ok (.iconst 1, 1) := by decide +kernel
theorem dX8_odds_29 : decode cX8_odds 29 = .ok (.aload_n 0, 1) := by decide +kernel
theorem dX8_odds_30 : decode cX8_odds 30 = .ok (.invokevirtual 194, 3) := by decide +kernel
theorem dX8_odds_33 : decode cX8_odds 33 = .ok (.ishl, 1) := by decide +kernel
theorem dX8_odds_34 : decode cX8_odds 34 = .ok (.istore 4, 2) := by decide +kernel
theorem dX8_odds_36 : decode cX8_odds 36 = .ok (.iconst 0, 1) := by decide +kernel
theorem dX8_odds_37 : decode cX8_odds 37 = .ok (.istore 5, 2) := by decide +kernel
theorem dX8_odds_39 : decode cX8_odds 39 = .ok (.aload_n 0, 1) := by decide +kernel
theorem dX8_odds_40 : decode cX8_odds 40 = .ok (.iconst 1, 1) := by decide +kernel
theorem dX8_odds_41 : decode cX8_odds 41 = .ok (.putfield 158, 3) := by decide +kernel
theorem dX8_odds_44 : decode cX8_odds 44 = .ok (.iconst 0, 1) := by decide +kernel
theorem dX8_odds_45 : decode cX8_odds 45 = .ok (.istore 6, 2) := by decide +kernel
theorem dX8_odds_47 : decode cX8_odds 47 = .ok (.iload 6, 2) := by decide +kernel
theorem dX8_odds_49 : decode cX8_odds 49 = .ok (.iload 4, 2) := by decide +kernel
theorem dX8_odds_51 : decode cX8_odds 51 = .ok (.if_icmp .ge 29, 3) := by decide +kernel
theorem dX8_odds_54 : decode cX8_odds 54 = .ok (.aload_n 0, 1) := by decide +kernel
theorem dX8_odds_55 : decode cX8_odds 55 = .ok (.iload 6, 2) := by decide +kernel
theorem dX8_odds_57 : decode cX8_odds 57 = .ok (.putfield 155, 3) := by decide +kernel
theorem dX8_odds_60 : decode cX8_odds 60 = .ok (.iload 5, 2) := by decide +kernel
theorem dX8_odds_62 : decode cX8_odds 62 = .ok (.aload_n 0, 1) := by decide +kernel
theorem dX8_odds_63 : decode cX8_odds 63 = .ok (.iload_n 2, 1) := by decide +kernel
theorem dX8_odds_64 : decode cX8_odds 64 = .ok (.invokevirtual 184, 3) := by decide +kernel
theorem dX8_odds_67 : decode cX8_odds 67 = .ok (.iload_n 1, 1) := by decide +kernel
theorem dX8_odds_68 : decode cX8_odds 68 = .ok (.ishr, 1) := by decide +kernel
theorem dX8_odds_69 : decode cX8_odds 69 = .ok (.iconst 1, 1) := by decide +kernel
theorem dX8_odds_70 : decode cX8_odds 70 = .ok (.iand, 1) := by decide +kernel
theorem dX8_odds_71 : decode cX8_odds 71 = .ok (.iadd, 1) := by decide +kernel
theorem dX8_odds_72 : decode cX8_odds 72 = .ok (.istore 5, 2) := by decide +kernel
theorem dX8_odds_74 : decode cX8_odds 74 = .ok (.iinc 6 1, 3) := by decide +kernel
theorem dX8_odds_77 : decode cX8_odds 77 = .ok (.goto (-30), 3) := by decide +kernel
theorem dX8_odds_80 : decode cX8_odds 80 = .ok (.aload_n 0, 1) := by decide +kernel
theorem dX8_odds_81 : decode cX8_odds 81 = .ok (.iconst 0, 1) := by decide +kernel
theorem dX8_odds_82 : decode cX8_odds 82 = .ok (.putfield 158, 3) := by decide +kernel
theorem dX8_odds_85 : decode cX8_odds 85 = .ok (.aload_n 0, 1) := by decide +kernel
theorem dX8_odds_86 : decode cX8_odds 86 = .ok (.iconst 0, 1) := by decide +kernel
theorem dX8_odds_87 : decode cX8_odds 87 = .ok (.putfield 155, 3) := by decide +kernel
theorem dX8_odds_90 : decode cX8_odds 90 = .ok (.iload 5, 2) := by decide +kernel
theorem dX8_odds_92 : decode cX8_odds 92 = .ok (.i2l, 1) := by decide +kernel
theorem dX8_odds_93 : decode cX8_odds 93 = .ok (.iload 4, 2) := by decide +kernel
theorem dX8_odds_95 : decode cX8_odds 95 = .ok (.i2l, 1) := by decide +kernel
theorem dX8_odds_96 : decode cX8_odds 96 = .ok (.iload_n 3, 1) := by decide +kernel
theorem dX8_odds_97 : decode cX8_odds 97 = .ok (.invokestatic 207, 3) := by decide +kernel
theorem dX8_odds_100 : decode cX8_odds 100 = .ok (.lreturn, 1) := by decide +kernel
theorem dX8_sheet_0 : decode cX8_sheet 0 = .ok (.aload_n 0, 1) := by decide +kernel
theorem dX8_sheet_1 : decode cX8_sheet 1 = .ok (.iconst 0, 1) := by decide +kernel
theorem dX8_sheet_2 : decode cX8_sheet 2 = .ok (.putfield 63, 3) := by decide +kernel
theorem dX8_sheet_5 : decode cX8_sheet 5 = .ok (.iload_n 1, 1) := by decide +kernel
theorem dX8_sheet_6 : decode cX8_sheet 6 = .ok (.invokestatic 82, 3) := by decide +kernel
theorem dX8_sheet_9 : decode cX8_sheet 9 = .ok (.ifCond .ne 5, 3) := by decide +kernel
theorem dX8_sheet_12 : decode cX8_sheet 12 = .ok (.iconst (-1), 1) := by decide +kernel
theorem dX8_sheet_13 : decode cX8_sheet 13 = .ok (.ireturn, 1) := by decide +kernel
theorem dX8_sheet_14 : decode cX8_sheet 14 = .ok (.iload_n 2, 1) := by decide +kernel
theorem dX8_sheet_15 : decode cX8_sheet 15 = .ok (.invokestatic 86, 3) := by decide +kernel
theorem dX8_sheet_18 : decode cX8_sheet 18 = .ok (.ifCond .eq 9, 3) := by decide +kernel
theorem dX8_sheet_21 : decode cX8_sheet 21 = .ok (.iload_n 3, 1) := by decide +kernel
theorem dX8_sheet_22 : decode cX8_sheet 22 = .ok (.bipush 60, 2) := by decide +kernel
theorem dX8_sheet_24 : decode cX8_sheet 24 = .ok (.if_icmp .le 6, 3) := by decide +kernel
theorem dX8_sheet_27 : decode cX8_sheet 27 = .ok (.bipush (-2), 2) := by decide +kernel
theorem dX8_sheet_29 : decode cX8_sheet 29 = .ok (.ireturn, 1) := by decide +kernel
theorem dX8_sheet_30 : decode cX8_sheet 30 = .ok (.iload_n 3, 1) := by decide +kernel
theorem dX8_sheet_31 : decode cX8_sheet 31 = .ok (.ifCond .ge 9, 3) := by decide +kernel
theorem dX8_sheet_34 : decode cX8_sheet 34 = .ok (.aload_n 0, 1) := by decide +kernel
