theorem dX4_read_8 : decode cX4_read 8 = .ok (.putfield 21, 3) := by decide +kernel
theorem dX4_read_11 : decode cX4_read 11 = .ok (.aload_n 0, 1) := by decide +kernel
theorem dX4_read_12 : decode cX4_read 12 = .ok (.aload_n 1, 1) := by decide +kernel
theorem dX4_read_13 : decode cX4_read 13 = .ok (.iload_n 2, 1) := by decide +kernel
theorem dX4_read_14 : decode cX4_read 14 = .ok (.iconst 3, 1) := by decide +kernel
theorem dX4_read_15 : decode cX4_read 15 = .ok (.iadd, 1) := by decide +kernel
theorem dX4_read_16 : decode cX4_read 16 = .ok (.invokestatic 15, 3) := by decide +kernel
theorem dX4_read_19 : decode cX4_read 19 = .ok (.putfield 25, 3) := by decide +kernel
theorem dX4_read_22 : decode cX4_read 22 = .ok (.aload_n 0, 1) := by decide +kernel
theorem dX4_read_23 : decode cX4_read 23 = .ok (.aload_n 1, 1) := by decide +kernel
theorem dX4_read_24 : decode cX4_read 24 = .ok (.iload_n 2, 1) := by decide +kernel
theorem dX4_read_25 : decode cX4_read 25 = .ok (.iconst 5, 1) := by decide +kernel
theorem dX4_read_26 : decode cX4_read 26 = .ok (.iadd, 1) := by decide +kernel
theorem dX4_read_27 : decode cX4_read 27 = .ok (.invokestatic 28, 3) := by decide +kernel
theorem dX4_read_30 : decode cX4_read 30 = .ok (.putfield 31, 3) := by decide +kernel
theorem dX4_read_33 : decode cX4_read 33 = .ok (.aload_n 0, 1) := by decide +kernel
theorem dX4_read_34 : decode cX4_read 34 = .ok (.iconst 0, 1) := by decide +kernel
theorem dX4_read_35 : decode cX4_read 35 = .ok (.putfield 34, 3) := by decide +kernel
theorem dX4_read_38 : decode cX4_read 38 = .ok (.iconst 0, 1) := by decide +kernel
theorem dX4_read_39 : decode cX4_read 39 = .ok (.istore_n 3, 1) := by decide +kernel
theorem dX4_read_40 : decode cX4_read 40 = .ok (.iload_n 3, 1) := by decide +kernel
theorem dX4_read_41 : decode cX4_read 41 = .ok (.bipush 109, 2) := by decide +kernel
theorem dX4_read_43 : decode cX4_read 43 = .ok (.if_icmp .gt 16, 3) := by decide +kernel
theorem dX4_read_46 : decode cX4_read 46 = .ok (.aload_n 0, 1) := by decide +kernel
theorem dX4_read_47 : decode cX4_read 47 = .ok (.getfield 9, 3) := by decide +kernel
theorem dX4_read_50 : decode cX4_read 50 = .ok (.iload_n 3, 1) := by decide +kernel
theorem dX4_read_51 : decode cX4_read 51 = .ok (.iconst 0, 1) := by decide +kernel
theorem dX4_read_52 : decode cX4_read 52 = .ok (.bastore, 1) := by decide +kernel
theorem dX4_read_53 : decode cX4_read 53 = .ok (.iinc 3 1, 3) := by decide +kernel
theorem dX4_read_56 : decode cX4_read 56 = .ok (.goto (-16), 3) := by decide +kernel
theorem dX4_read_59 : decode cX4_read 59 = .ok (.return_, 1) := by decide +kernel
theorem dX4_cover_0 : decode cX4_cover 0 = .ok (.aload_n 0, 1) := by decide +kernel
theorem dX4_cover_1 : decode cX4_cover 1 = .ok (.getfield 9, 3) := by decide +kernel
theorem dX4_cover_4 : decode cX4_cover 4 = .ok (.iload_n 1, 1) := by decide +kernel
theorem dX4_cover_5 : decode cX4_cover 5 = .ok (.baload, 1) := by decide +kernel
theorem dX4_cover_6 : decode cX4_cover 6 = .ok (.iload_n 2, 1) := by decide +kernel
theorem dX4_cover_7 : decode cX4_cover 7 = .ok (.if_icmp .ne 5, 3) := by decide +kernel
theorem dX4_cover_10 : decode cX4_cover 10 = .ok (.iconst 0, 1) := by decide +kernel
theorem dX4_cover_11 : decode cX4_cover 11 = .ok (.ireturn, 1) := by decide +kernel
theorem dX4_cover_12 : decode cX4_cover 12 = .ok (.aload_n 0, 1) := by decide +kernel
theorem dX4_cover_13 : decode cX4_cover 13 = .ok (.getfield 9, 3) := by decide +kernel
theorem dX4_cover_16 : decode cX4_cover 16 = .ok (.iload_n 1, 1) := by decide +kernel
theorem dX4_cover_17 : decode cX4_cover 17 = .ok (.iload_n 2, 1) := by decide +kernel
theorem dX4_cover_18 : decode cX4_cover 18 = .ok (.bastore, 1) := by decide +kernel
theorem dX4_cover_19 : decode cX4_cover 19 = .ok (.aload_n 0, 1) := by decide +kernel
theorem dX4_cover_20 : decode cX4_cover 20 = .ok (.dup, 1) := by decide +kernel
theorem dX4_cover_21 : decode cX4_cover 21 = .ok (.getfield 34, 3) := by decide +kernel
theorem dX4_cover_24 : decode cX4_cover 24 = .ok (.iload_n 2, 1) := by decide +kernel
theorem dX4_cover_25 : decode cX4_cover 25 = .ok (.ifCond .eq 7, 3) := by decide +kernel
theorem dX4_cover_28 : decode cX4_cover 28 = .ok (.iconst 1, 1) := by decide +kernel
theorem dX4_cover_29 : decode cX4_cover 29 = .ok (.goto 4, 3) := by decide +kernel
theorem dX4_cover_32 : decode cX4_cover 32 = .ok (.iconst (-1), 1) := by decide +kernel
theorem dX4_cover_33 : decode cX4_cover 33 = .ok (.iadd, 1) := by decide +kernel
theorem dX4_cover_34 : decode cX4_cover 34 = .ok (.putfield 34, 3) := by decide +kernel
theorem dX4_cover_37 : decode cX4_cover 37 = .ok (.iconst 1, 1) := by decide +kernel
theorem dX4_cover_38 : decode cX4_cover 38 = .ok (.ireturn, 1) := by decide +kernel
theorem dX4_dayOfMoon_0 : decode cX4_dayOfMoon 0 = .ok (.iload_n 1, 1) := by decide +kernel
theorem dX4_dayOfMoon_1 : decode cX4_dayOfMoon 1 = .ok (.aload_n 0, 1) := by decide +kernel
theorem dX4_dayOfMoon_2 : decode cX4_dayOfMoon 2 = .ok (.getfield 25, 3) := by decide +kernel
theorem dX4_dayOfMoon_5 : decode cX4_dayOfMoon 5 = .ok (.imul, 1) := by decide +kernel
theorem dX4_dayOfMoon_6 : decode cX4_dayOfMoon 6 = .ok (.istore_n 2, 1) := by decide +kernel
theorem dX4_dayOfMoon_7 : decode cX4_dayOfMoon 7 = .ok (.aload_n 0, 1) := by decide +kernel
theorem dX4_dayOfMoon_8 : decode cX4_dayOfMoon 8 = .ok (.getfield 21, 3) := by decide +kernel
theorem dX4_dayOfMoon_11 : decode cX4_dayOfMoon 11 = .ok (.aload_n 0, 1) := by decide +kernel
theorem dX4_dayOfMoon_12 : decode cX4_dayOfMoon 12 = .ok (.getfield 31, 3) := by decide +kernel
theorem dX4_dayOfMoon_15 : decode cX4_dayOfMoon 15 = .ok (.iconst 2, 1) := by decide +kernel
theorem dX4_dayOfMoon_16 : decode cX4_dayOfMoon 16 = .ok (.if_icmp .ne 9, 3) := by decide +kernel
theorem dX4_dayOfMoon_19 : decode cX4_dayOfMoon 19 = .ok (.iload_n 2, 1) := by decide +kernel
theorem dX4_dayOfMoon_20 : decode cX4_dayOfMoon 20 = .ok (.iconst 2, 1) := by decide +kernel
theorem dX4_dayOfMoon_21 : decode cX4_dayOfMoon 21 = .ok (.idiv, 1) := by decide +kernel
theorem dX4_dayOfMoon_22 : decode cX4_dayOfMoon 22 = .ok (.goto 4, 3) := by decide +kernel
theorem dX4_dayOfMoon_25 : decode cX4_dayOfMoon 25 = .ok (.iload_n 2, 1) := by decide +kernel
theorem dX4_dayOfMoon_26 : decode cX4_dayOfMoon 26 = .ok (.iadd, 1) := by decide +kernel
theorem dX4_dayOfMoon_27 : decode cX4_dayOfMoon 27 = .ok (.ireturn, 1) := by decide +kernel
theorem dX4_moonsWithin_0 : decode cX4_moonsWithin 0 = .ok (.iconst 0, 1) := by decide +kernel
theorem dX4_moonsWithin_1 : decode cX4_moonsWithin 1 = .ok (.istore_n 3, 1) := by decide +kernel
theorem dX4_moonsWithin_2 : decode cX4_moonsWithin 2 = .ok (.iconst 0, 1) := by decide +kernel
theorem dX4_moonsWithin_3 : decode cX4_moonsWithin 3 = .ok (.istore 4, 2) := by decide +kernel
theorem dX4_moonsWithin_5 : decode cX4_moonsWithin 5 = .ok (.iload 4, 2) := by decide +kernel
theorem dX4_moonsWithin_7 : decode cX4_moonsWithin 7 = .ok (.bipush 11, 2) := by decide +kernel
theorem dX4_moonsWithin_9 : decode cX4_moonsWithin 9 = .ok (.if_icmp .ge 39, 3) := by decide +kernel
theorem dX4_moonsWithin_12 : decode cX4_moonsWithin 12 = .ok (.aload_n 0, 1) := by decide +kernel
theorem dX4_moonsWithin_13 : decode cX4_moonsWithin 13 = .ok (.iload 4, 2) := by decide +kernel
theorem dX4_moonsWithin_15 : decode cX4_moonsWithin 15 = .ok (.invokevirtual 37, 3) := by decide +kernel
theorem dX4_moonsWithin_18 : decode cX4_moonsWithin 18 = .ok (.istore 5, 2) := by decide +kernel
theorem dX4_moonsWithin_20 : decode cX4_moonsWithin 20 = .ok (.iload 5, 2) := by decide +kernel
theorem dX4_moonsWithin_22 : decode cX4_moonsWithin 22 = .ok (.iload_n 2, 1) := by decide +kernel
theorem dX4_moonsWithin_23 : decode cX4_moonsWithin 23 = .ok (.if_icmp .le 6, 3) := by decide +kernel
theorem dX4_moonsWithin_26 : decode cX4_moonsWithin 26 = .ok (.goto 22, 3) := by decide +kernel
theorem dX4_moonsWithin_29 : decode cX4_moonsWithin 29 = .ok (.iload 5, 2) := by decide +kernel
theorem dX4_moonsWithin_31 : decode cX4_moonsWithin 31 = .ok (.iload_n 1, 1) := by decide +kernel
theorem dX4_moonsWithin_32 : decode cX4_moonsWithin 32 = .ok (.if_icmp .lt 10, 3) := by decide +kernel
theorem dX4_moonsWithin_35 : decode cX4_moonsWithin 35 = .ok (.iload_n 3, 1) := by decide +kernel
theorem dX4_moonsWithin_36 : decode cX4_moonsWithin 36 = .ok (.iconst 1, 1) := by decide +kernel
theorem dX4_moonsWithin_37 : decode cX4_moonsWithin 37 = .ok (.iload 4, 2) := by decide +kernel
theorem dX4_moonsWithin_39 : decode cX4_moonsWithin 39 = .ok (.ishl, 1) := by decide +kernel
theorem dX4_moonsWithin_40 : decode cX4_moonsWithin 40 = .ok (.ior, 1) := by decide +kernel
theorem dX4_moonsWithin_41 : decode cX4_moonsWithin 41 = .ok (.istore_n 3, 1) := by decide +kernel
theorem dX4_moonsWithin_42 : decode cX4_moonsWithin 42 = .ok (.iinc 4 1, 3) := by decide +kernel
theorem dX4_moonsWithin_45 : decode cX4_moonsWithin 45 = .ok (.goto (-40), 3) := by decide +kernel
theorem dX4_moonsWithin_48 : decode cX4_moonsWithin 48 = .ok (.iload_n 3, 1) := by decide +kernel
theorem dX4_moonsWithin_49 : decode cX4_moonsWithin 49 = .ok (.ireturn, 1) := by decide +kernel
theorem dX4_cloudedMoons_0 : decode cX4_cloudedMoons 0 = .ok (.iconst 0, 1) := by decide +kernel
theorem dX4_cloudedMoons_1 : decode cX4_cloudedMoons 1 = .ok (.istore_n 1, 1) := by decide +kernel
theorem dX4_cloudedMoons_2 : decode cX4_cloudedMoons 2 = .ok (.iconst 0, 1) := by decide +kernel
theorem dX4_cloudedMoons_3 : decode cX4_cloudedMoons 3 = .ok (.istore_n 2, 1) := by decide +kernel
theorem dX4_cloudedMoons_4 : decode cX4_cloudedMoons 4 = .ok (.iload_n 2, 1) := by decide +kernel
theorem dX4_cloudedMoons_5 : decode cX4_cloudedMoons 5 = .ok (.bipush 11, 2) := by decide +kernel
theorem dX4_cloudedMoons_7 : decode cX4_cloudedMoons 7 = .ok (.if_icmp .ge 39, 3) := by decide +kernel
theorem dX4_cloudedMoons_10 : decode cX4_cloudedMoons 10 = .ok (.aload_n 0, 1) := by decide +kernel
theorem dX4_cloudedMoons_11 : decode cX4_cloudedMoons 11 = .ok (.iload_n 2, 1) := by decide +kernel
theorem dX4_cloudedMoons_12 : decode cX4_cloudedMoons 12 = .ok (.invokevirtual 37, 3) := by decide +kernel
theorem dX4_cloudedMoons_15 : decode cX4_cloudedMoons 15 = .ok (.istore_n 3, 1) := by decide +kernel
theorem dX4_cloudedMoons_16 : decode cX4_cloudedMoons 16 = .ok (.iload_n 3, 1) := by decide +kernel
theorem dX4_cloudedMoons_17 : decode cX4_cloudedMoons 17 = .ok (.bipush 109, 2) := by decide +kernel
theorem dX4_cloudedMoons_19 : decode cX4_cloudedMoons 19 = .ok (.if_icmp .le 6, 3) := by decide +kernel
theorem dX4_cloudedMoons_22 : decode cX4_cloudedMoons 22 = .ok (.goto 24, 3) := by decide +kernel
theorem dX4_cloudedMoons_25 : decode cX4_cloudedMoons 25 = .ok (.aload_n 0, 1) := by decide +kernel
theorem dX4_cloudedMoons_26 : decode cX4_cloudedMoons 26 = .ok (.getfield 9, 3) := by decide +kernel
theorem dX4_cloudedMoons_29 : decode cX4_cloudedMoons 29 = .ok (.iload_n 3, 1) := by decide +kernel
theorem dX4_cloudedMoons_30 : decode cX4_cloudedMoons 30 = .ok (.baload, 1) := by decide +kernel
theorem dX4_cloudedMoons_31 : decode cX4_cloudedMoons 31 = .ok (.ifCond .eq 9, 3) := by decide +kernel
theorem dX4_cloudedMoons_34 : decode cX4_cloudedMoons 34 = .ok (.iload_n 1, 1) := by decide +kernel
theorem dX4_cloudedMoons_35 : decode cX4_cloudedMoons 35 = .ok (.iconst 1, 1) := by decide +kernel
theorem dX4_cloudedMoons_36 : decode cX4_cloudedMoons 36 = .ok (.iload_n 2, 1) := by decide +kernel
theorem dX4_cloudedMoons_37 : decode cX4_cloudedMoons 37 = .ok (.ishl, 1) := by decide +kernel
theorem dX4_cloudedMoons_38 : decode cX4_cloudedMoons 38 = .ok (.ior, 1) := by decide +kernel
theorem dX4_cloudedMoons_39 : decode cX4_cloudedMoons 39 = .ok (.istore_n 1, 1) := by decide +kernel
theorem dX4_cloudedMoons_40 : decode cX4_cloudedMoons 40 = .ok (.iinc 2 1, 3) := by decide +kernel
theorem dX4_cloudedMoons_43 : decode cX4_cloudedMoons 43 = .ok (.goto (-39), 3) := by decide +kernel
theorem dX4_cloudedMoons_46 : decode cX4_cloudedMoons 46 = .ok (.iload_n 1, 1) := by decide +kernel
theorem dX4_cloudedMoons_47 : decode cX4_cloudedMoons 47 = .ok (.ireturn, 1) := by decide +kernel
theorem dX5_firstFault_0 : decode cX5_firstFault 0 = .ok (.iconst 0, 1) := by decide +kernel
theorem dX5_firstFault_1 : decode cX5_firstFault 1 = .ok (.istore_n 3, 1) := by decide +kernel
theorem dX5_firstFault_2 : decode cX5_firstFault 2 = .ok (.iload_n 3, 1) := by decide +kernel
theorem dX5_firstFault_3 : decode cX5_firstFault 3 = .ok (.iload_n 2, 1) := by decide +kernel
theorem dX5_firstFault_4 : decode cX5_firstFault 4 = .ok (.if_icmp .ge 48, 3) := by decide +kernel
theorem dX5_firstFault_7 : decode cX5_firstFault 7 = .ok (.iload_n 3, 1) := by decide +kernel
theorem dX5_firstFault_8 : decode cX5_firstFault 8 = .ok (.ifCond .ne 7, 3) := by decide +kernel
theorem dX5_firstFault_11 : decode cX5_firstFault 11 = .ok (.iconst 0, 1) := by decide +kernel
theorem dX5_firstFault_12 : decode cX5_firstFault 12 = .ok (.goto 13, 3) := by decide +kernel
theorem dX5_firstFault_15 : decode cX5_firstFault 15 = .ok (.aload_n 0, 1) := by decide +kernel
theorem dX5_firstFault_16 : decode cX5_firstFault 16 = .ok (.getfield 9, 3) := by decide +kernel
theorem dX5_firstFault_19 : decode cX5_firstFault 19 = .ok (.iload_n 1, 1) := by decide +kernel
theorem dX5_firstFault_20 : decode cX5_firstFault 20 = .ok (.iload_n 3, 1) := by decide +kernel
theorem dX5_firstFault_21 : decode cX5_firstFault 21 = .ok (.iadd, 1) := by decide +kernel
theorem dX5_firstFault_22 : decode cX5_firstFault 22 = .ok (.iconst 1, 1) := by decide +kernel
theorem dX5_firstFault_23 : decode cX5_firstFault 23 = .ok (.isub, 1) := by decide +kernel
theorem dX5_firstFault_24 : decode cX5_firstFault 24 = .ok (.iaload, 1) := by decide +kernel
theorem dX5_firstFault_25 : decode cX5_firstFault 25 = .ok (.istore 4, 2) := by decide +kernel
theorem dX5_firstFault_27 : decode cX5_firstFault 27 = .ok (.iload_n 3, 1) := by decide +kernel
theorem dX5_firstFault_28 : decode cX5_firstFault 28 = .ok (.aload_n 0, 1) := by decide +kernel
theorem dX5_firstFault_29 : decode cX5_firstFault 29 = .ok (.getfield 9, 3) := by decide +kernel
theorem dX5_firstFault_32 : decode cX5_firstFault 32 = .ok (.iload_n 1, 1) := by decide +kernel
theorem dX5_firstFault_33 : decode cX5_firstFault 33 = .ok (.iload_n 3, 1) := by decide +kernel
theorem dX5_firstFault_34 : decode cX5_firstFault 34 = .ok (.iadd, 1) := by decide +kernel
theorem dX5_firstFault_35 : decode cX5_firstFault 35 = .ok (.iaload, 1) := by decide +kernel
theorem dX5_firstFault_36 : decode cX5_firstFault 36 = .ok (.iload 4, 2) := by decide +kernel
theorem dX5_firstFault_38 : decode cX5_firstFault 38 = .ok (.invokestatic 15, 3) := by decide +kernel
theorem dX5_firstFault_41 : decode cX5_firstFault 41 = .ok (.ifCond .ne 5, 3) := by decide +kernel
theorem dX5_firstFault_44 : decode cX5_firstFault 44 = .ok (.iload_n 3, 1) := by decide +kernel
theorem dX5_firstFault_45 : decode cX5_firstFault 45 = .ok (.ireturn, 1) := by decide +kernel
theorem dX5_firstFault_46 : decode cX5_firstFault 46 = .ok (.iinc 3 1, 3) := by decide +kernel
theorem dX5_firstFault_49 : decode cX5_firstFault 49 = .ok (.goto (-47), 3) := by decide +kernel
theorem dX5_firstFault_52 : decode cX5_firstFault 52 = .ok (.iload_n 2, 1) := by decide +kernel
theorem dX5_firstFault_53 : decode cX5_firstFault 53 = .ok (.bipush 14, 2) := by decide +kernel
theorem dX5_firstFault_55 : decode cX5_firstFault 55 = .ok (.if_icmp .lt 14, 3) := by decide +kernel
theorem dX5_firstFault_58 : decode cX5_firstFault 58 = .ok (.iload_n 2, 1) := by decide +kernel
theorem dX5_firstFault_59 : decode cX5_firstFault 59 = .ok (.bipush 7, 2) := by decide +kernel
theorem dX5_firstFault_61 : decode cX5_firstFault 61 = .ok (.irem, 1) := by decide +kernel
theorem dX5_firstFault_62 : decode cX5_firstFault 62 = .ok (.ifCond .ne 7, 3) := by decide +kernel
theorem dX5_firstFault_65 : decode cX5_firstFault 65 = .ok (.iconst 1, 1) := by decide +kernel
theorem dX5_firstFault_66 : decode cX5_firstFault 66 = .ok (.goto 4, 3) := by decide +kernel
theorem dX5_firstFault_69 : decode cX5_firstFault 69 = .ok (.iconst 0, 1) := by decide +kernel
theorem dX5_firstFault_70 : decode cX5_firstFault 70 = .ok (.istore_n 3, 1) := by decide +kernel
theorem dX5_firstFault_71 : decode cX5_firstFault 71 = .ok (.iload_n 3, 1) := by decide +kernel
theorem dX5_firstFault_72 : decode cX5_firstFault 72 = .ok (.ifCond .eq 8, 3) := by decide +kernel
theorem dX5_firstFault_75 : decode cX5_firstFault 75 = .ok (.bipush (-9), 2) := by decide +kernel
theorem dX5_firstFault_77 : decode cX5_firstFault 77 = .ok (.goto 4, 3) := by decide +kernel
theorem dX5_firstFault_80 : decode cX5_firstFault 80 = .ok (.iload_n 2, 1) := by decide +kernel
theorem dX5_firstFault_81 : decode cX5_firstFault 81 = .ok (.ireturn, 1) := by decide +kernel
theorem dX5_fits_0 : decode cX5_fits 0 = .ok (.iload_n 0, 1) := by decide +kernel
theorem dX5_fits_1 : decode cX5_fits 1 = .ok (.bipush 49, 2) := by decide +kernel
theorem dX5_fits_3 : decode cX5_fits 3 = .ok (.if_icmp .lt 5, 3) := by decide +kernel
theorem dX5_fits_6 : decode cX5_fits 6 = .ok (.iconst 0, 1) := by decide +kernel
theorem dX5_fits_7 : decode cX5_fits 7 = .ok (.ireturn, 1) := by decide +kernel
theorem dX5_fits_8 : decode cX5_fits 8 = .ok (.iload_n 0, 1) := by decide +kernel
theorem dX5_fits_9 : decode cX5_fits 9 = .ok (.bipush 7, 2) := by decide +kernel
theorem dX5_fits_11 : decode cX5_fits 11 = .ok (.if_icmp .lt 26, 3) := by decide +kernel
theorem dX5_fits_14 : decode cX5_fits 14 = .ok (.iload_n 0, 1) := by decide +kernel
theorem dX5_fits_15 : decode cX5_fits 15 = .ok (.bipush 7, 2) := by decide +kernel
theorem dX5_fits_17 : decode cX5_fits 17 = .ok (.irem, 1) := by decide +kernel
theorem dX5_fits_18 : decode cX5_fits 18 = .ok (.iconst 1, 1) := by decide +kernel
theorem dX5_fits_19 : decode cX5_fits 19 = .ok (.if_icmp .ne 18, 3) := by decide +kernel
theorem dX5_fits_22 : decode cX5_fits 22 = .ok (.iload_n 1, 1) := by decide +kernel
theorem dX5_fits_23 : decode cX5_fits 23 = .ok (.invokestatic 21, 3) := by decide +kernel
theorem dX5_fits_26 : decode cX5_fits 26 = .ok (.bipush (-9), 2) := by decide +kernel
theorem dX5_fits_28 : decode cX5_fits 28 = .ok (.if_icmp .eq 7, 3) := by decide +kernel
theorem dX5_fits_31 : decode cX5_fits 31 = .ok (.iconst 1, 1) := by decide +kernel
theorem dX5_fits_32 : decode cX5_fits 32 = .ok (.goto 4, 3) := by decide +kernel
theorem dX5_fits_35 : decode cX5_fits 35 = .ok (.iconst 0, 1) := by decide +kernel
theorem dX5_fits_36 : decode cX5_fits 36 = .ok (.ireturn, 1) := by decide +kernel
theorem dX5_fits_37 : decode cX5_fits 37 = .ok (.iload_n 0, 1) := by decide +kernel
theorem dX5_fits_38 : decode cX5_fits 38 = .ok (.iconst 4, 1) := by decide +kernel
theorem dX5_fits_39 : decode cX5_fits 39 = .ok (.if_icmp .ne 21, 3) := by decide +kernel
theorem dX5_fits_42 : decode cX5_fits 42 = .ok (.iload_n 2, 1) := by decide +kernel
theorem dX5_fits_43 : decode cX5_fits 43 = .ok (.bipush 54, 2) := by decide +kernel
theorem dX5_fits_45 : decode cX5_fits 45 = .ok (.if_icmp .ne 15, 3) := by decide +kernel
theorem dX5_fits_48 : decode cX5_fits 48 = .ok (.iload_n 1, 1) := by decide +kernel
theorem dX5_fits_49 : decode cX5_fits 49 = .ok (.bipush 48, 2) := by decide +kernel
theorem dX5_fits_51 : decode cX5_fits 51 = .ok (.if_icmp .ne 7, 3) := by decide +kernel
theorem dX5_fits_54 : decode cX5_fits 54 = .ok (.iconst 1, 1) := by decide +kernel
theorem dX5_fits_55 : decode cX5_fits 55 = .ok (.goto 4, 3) := by decide +kernel
theorem dX5_fits_58 : decode cX5_fits 58 = .ok (.iconst 0, 1) := by decide +kernel
theorem dX5_fits_59 : decode cX5_fits 59 = .ok (.ireturn, 1) := by decide +kernel
theorem dX5_fits_60 : decode cX5_fits 60 = .ok (.iload_n 0, 1) := by decide +kernel
theorem dX5_fits_61 : decode cX5_fits 61 = .ok (.bipush 7, 2) := by decide +kernel
theorem dX5_fits_63 : decode cX5_fits 63 = .ok (.if_icmp .ge 7, 3) := by decide +kernel
theorem dX5_fits_66 : decode cX5_fits 66 = .ok (.iload_n 0, 1) := by decide +kernel
theorem dX5_fits_67 : decode cX5_fits 67 = .ok (.goto 10, 3) := by decide +kernel
theorem dX5_fits_70 : decode cX5_fits 70 = .ok (.bipush 7, 2) := by decide +kernel
theorem dX5_fits_72 : decode cX5_fits 72 = .ok (.iload_n 0, 1) := by decide +kernel
theorem dX5_fits_73 : decode cX5_fits 73 = .ok (.bipush 7, 2) := by decide +kernel
theorem dX5_fits_75 : decode cX5_fits 75 = .ok (.irem, 1) := by decide +kernel
theorem dX5_fits_76 : decode cX5_fits 76 = .ok (.iadd, 1) := by decide +kernel
theorem dX5_fits_77 : decode cX5_fits 77 = .ok (.istore_n 3, 1) := by decide +kernel
theorem dX5_fits_78 : decode cX5_fits 78 = .ok (.iload_n 1, 1) := by decide +kernel
theorem dX5_fits_79 : decode cX5_fits 79 = .ok (.ldc 25, 2) := by decide +kernel
theorem dX5_fits_81 : decode cX5_fits 81 = .ok (.iload_n 3, 1) := by decide +kernel
theorem dX5_fits_82 : decode cX5_fits 82 = .ok (.invokevirtual 27, 3) := by decide +kernel
theorem dX5_fits_85 : decode cX5_fits 85 = .ok (.if_icmp .lt 17, 3) := by decide +kernel
theorem dX5_fits_88 : decode cX5_fits 88 = .ok (.iload_n 1, 1) := by decide +kernel
theorem dX5_fits_89 : decode cX5_fits 89 = .ok (.ldc 33, 2) := by decide +kernel
theorem dX5_fits_91 : decode cX5_fits 91 = .ok (.iload_n 3, 1) := by decide +kernel
theorem dX5_fits_92 : decode cX5_fits 92 = .ok (.invokevirtual 27, 3) := by decide +kernel
theorem dX5_fits_95 : decode cX5_fits 95 = .ok (.if_icmp .gt 7, 3) := by decide +kernel
theorem dX5_fits_98 : decode cX5_fits 98 = .ok (.iconst 1, 1) := by decide +kernel
theorem dX5_fits_99 : decode cX5_fits 99 = .ok (.goto 4, 3) := by decide +kernel
theorem dX5_fits_102 : decode cX5_fits 102 = .ok (.iconst 0, 1) := by decide +kernel
theorem dX5_fits_103 : decode cX5_fits 103 = .ok (.ireturn, 1) := by decide +kernel
theorem dX5_kindOf_0 : decode cX5_kindOf 0 = .ok (.iload_n 0, 1) := by decide +kernel
theorem dX5_kindOf_1 : decode cX5_kindOf 1 = .ok (.lookupswitch 41 #[(98, 35), (114, 39), (115, 37)], 35) := by decide +kernel
theorem dX5_kindOf_36 : decode cX5_kindOf 36 = .ok (.iconst 0, 1) := by decide +kernel
theorem dX5_kindOf_37 : decode cX5_kindOf 37 = .ok (.ireturn, 1) := by decide +kernel
theorem dX5_kindOf_38 : decode cX5_kindOf 38 = .ok (.iconst 1, 1) := by decide +kernel
theorem dX5_kindOf_39 : decode cX5_kindOf 39 = .ok (.ireturn, 1) := by decide +kernel
theorem dX5_kindOf_40 : decode cX5_kindOf 40 = .ok (.iconst 2, 1) := by decide +kernel
theorem dX5_kindOf_41 : decode cX5_kindOf 41 = .ok (.ireturn, 1) := by decide +kernel
theorem dX5_kindOf_42 : decode cX5_kindOf 42 = .ok (.bipush (-9), 2) := by decide +kernel
theorem dX5_kindOf_44 : decode cX5_kindOf 44 = .ok (.ireturn, 1) := by decide +kernel
theorem dX5_digit_0 : decode cX5_digit 0 = .ok (.aload_n 0, 1) := by decide +kernel
theorem dX5_digit_1 : decode cX5_digit 1 = .ok (.iload_n 1, 1) := by decide +kernel
theorem dX5_digit_2 : decode cX5_digit 2 = .ok (.invokevirtual 35, 3) := by decide +kernel
theorem dX5_digit_5 : decode cX5_digit 5 = .ok (.ifCond .eq 15, 3) := by decide +kernel
theorem dX5_digit_8 : decode cX5_digit 8 = .ok (.aload_n 0, 1) := by decide +kernel
theorem dX5_digit_9 : decode cX5_digit 9 = .ok (.getfield 9, 3) := by decide +kernel
theorem dX5_digit_12 : decode cX5_digit 12 = .ok (.iload_n 1, 1) := by decide +kernel
theorem dX5_digit_13 : decode cX5_digit 13 = .ok (.iaload, 1) := by decide +kernel
theorem dX5_digit_14 : decode cX5_digit 14 = .ok (.bipush 48, 2) := by decide +kernel
theorem dX5_digit_16 : decode cX5_digit 16 = .ok (.isub, 1) := by decide +kernel
theorem dX5_digit_17 : decode cX5_digit 17 = .ok (.goto 4, 3) := by decide +kernel
theorem dX5_digit_20 : decode cX5_digit 20 = .ok (.iconst 0, 1) := by decide +kernel
theorem dX5_digit_21 : decode cX5_digit 21 = .ok (.ireturn, 1) := by decide +kernel
theorem dX5_twoDigits_0 : decode cX5_twoDigits 0 = .ok (.bipush 10, 2) := by decide +kernel
theorem dX5_twoDigits_2 : decode cX5_twoDigits 2 = .ok (.aload_n 0, 1) := by decide +kernel
theorem dX5_twoDigits_3 : decode cX5_twoDigits 3 = .ok (.iload_n 1, 1) := by decide +kernel
theorem dX5_twoDigits_4 : decode cX5_twoDigits 4 = .ok (.invokestatic 39, 3) := by decide +kernel
theorem dX5_twoDigits_7 : decode cX5_twoDigits 7 = .ok (.imul, 1) := by decide +kernel
theorem dX5_twoDigits_8 : decode cX5_twoDigits 8 = .ok (.aload_n 0, 1) := by decide +kernel
theorem dX5_twoDigits_9 : decode cX5_twoDigits 9 = .ok (.iload_n 1, 1) := by decide +kernel
theorem dX5_twoDigits_10 : decode cX5_twoDigits 10 = .ok (.iconst 1, 1) := by decide +kernel
theorem dX5_twoDigits_11 : decode cX5_twoDigits 11 = .ok (.iadd, 1) := by decide +kernel
theorem dX5_twoDigits_12 : decode cX5_twoDigits 12 = .ok (.invokestatic 39, 3) := by decide +kernel
theorem dX5_twoDigits_15 : decode cX5_twoDigits 15 = .ok (.iadd, 1) := by decide +kernel
theorem dX5_twoDigits_16 : decode cX5_twoDigits 16 = .ok (.ireturn, 1) := by decide +kernel
theorem dX6_fewestClouds_0 : decode cX6_fewestClouds 0 = .ok (.aload_n 0, 1) := by decide +kernel
theorem dX6_fewestClouds_1 : decode cX6_fewestClouds 1 = .ok (.invokevirtual 9, 3) := by decide +kernel
theorem dX6_fewestClouds_4 : decode cX6_fewestClouds 4 = .ok (.aload_n 0, 1) := by decide +kernel
theorem dX6_fewestClouds_5 : decode cX6_fewestClouds 5 = .ok (.getfield 14, 3) := by decide +kernel
theorem dX6_fewestClouds_8 : decode cX6_fewestClouds 8 = .ok (.invokevirtual 18, 3) := by decide +kernel
theorem dX6_fewestClouds_11 : decode cX6_fewestClouds 11 = .ok (.istore_n 3, 1) := by decide +kernel
theorem dX6_fewestClouds_12 : decode cX6_fewestClouds 12 = .ok (.aload_n 0, 1) := by decide +kernel
theorem dX6_fewestClouds_13 : decode cX6_fewestClouds 13 = .ok (.invokevirtual 24, 3) := by decide +kernel
theorem dX6_fewestClouds_16 : decode cX6_fewestClouds 16 = .ok (.iload_n 3, 1) := by decide +kernel
theorem dX6_fewestClouds_17 : decode cX6_fewestClouds 17 = .ok (.iconst (-1), 1) := by decide +kernel
theorem dX6_fewestClouds_18 : decode cX6_fewestClouds 18 = .ok (.ixor, 1) := by decide +kernel
theorem dX6_fewestClouds_19 : decode cX6_fewestClouds 19 = .ok (.iand, 1) := by decide +kernel
theorem dX6_fewestClouds_20 : decode cX6_fewestClouds 20 = .ok (.istore 4, 2) := by decide +kernel
theorem dX6_fewestClouds_22 : decode cX6_fewestClouds 22 = .ok (.bipush (-9), 2) := by decide +kernel
theorem dX6_fewestClouds_24 : decode cX6_fewestClouds 24 = .ok (.istore 5, 2) := by decide +kernel
theorem dX6_fewestClouds_26 : decode cX6_fewestClouds 26 = .ok (.iconst 0, 1) := by decide +kernel
theorem dX6_fewestClouds_27 : decode cX6_fewestClouds 27 = .ok (.istore 6, 2) := by decide +kernel
theorem dX6_fewestClouds_29 : decode cX6_fewestClouds 29 = .ok (.iload 6, 2) := by decide +kernel
theorem dX6_fewestClouds_31 : decode cX6_fewestClouds 31 = .ok (.iload 4, 2) := by decide +kernel
theorem dX6_fewestClouds_33 : decode cX6_fewestClouds 33 = .ok (.if_icmp .gt 79, 3) := by decide +kernel
theorem dX6_fewestClouds_36 : decode cX6_fewestClouds 36 = .ok (.iload 5, 2) := by decide +kernel
theorem dX6_fewestClouds_38 : decode cX6_fewestClouds 38 = .ok (.bipush (-9), 2) := by decide +kernel
theorem dX6_fewestClouds_40 : decode cX6_fewestClouds 40 = .ok (.if_icmp .eq 16, 3) := by decide +kernel
theorem dX6_fewestClouds_43 : decode cX6_fewestClouds 43 = .ok (.iload 6, 2) := by decide +kernel
theorem dX6_fewestClouds_45 : decode cX6_fewestClouds 45 = .ok (.invokestatic 27, 3) := by decide +kernel
theorem dX6_fewestClouds_48 : decode cX6_fewestClouds 48 = .ok (.iload 5, 2) := by decide +kernel
theorem dX6_fewestClouds_50 : decode cX6_fewestClouds 50 = .ok (.invokestatic 27, 3) := by decide +kernel
theorem dX6_fewestClouds_53 : decode cX6_fewestClouds 53 = .ok (.if_icmp .ge 7, 3) := by decide +kernel
theorem dX6_fewestClouds_56 : decode cX6_fewestClouds 56 = .ok (.iconst 1, 1) := by decide +kernel
theorem dX6_fewestClouds_57 : decode cX6_fewestClouds 57 = .ok (.goto 4, 3) := by decide +kernel
theorem dX6_fewestClouds_60 : decode cX6_fewestClouds 60 = .ok (.iconst 0, 1) := by decide +kernel
theorem dX6_fewestClouds_61 : decode cX6_fewestClouds 61 = .ok (.istore 7, 2) := by decide +kernel
theorem dX6_fewestClouds_63 : decode cX6_fewestClouds 63 = .ok (.iload 6, 2) := by decide +kernel
theorem dX6_fewestClouds_65 : decode cX6_fewestClouds 65 = .ok (.iload 4, 2) := by decide +kernel
theorem dX6_fewestClouds_67 : decode cX6_fewestClouds 67 = .ok (.iconst (-1), 1) := by decide +kernel
theorem dX6_fewestClouds_68 : decode cX6_fewestClouds 68 = .ok (.ixor, 1) := by decide +kernel
theorem dX6_fewestClouds_69 : decode cX6_fewestClouds 69 = .ok (.iand, 1) := by decide +kernel
theorem dX6_fewestClouds_70 : decode cX6_fewestClouds 70 = .ok (.ifCond .ne 36, 3) := by decide +kernel
theorem dX6_fewestClouds_73 : decode cX6_fewestClouds 73 = .ok (.iload 7, 2) := by decide +kernel
theorem dX6_fewestClouds_75 : decode cX6_fewestClouds 75 = .ok (.ifCond .eq 31, 3) := by decide +kernel
theorem dX6_fewestClouds_78 : decode cX6_fewestClouds 78 = .ok (.aload_n 0, 1) := by decide +kernel
theorem dX6_fewestClouds_79 : decode cX6_fewestClouds 79 = .ok (.iload_n 3, 1) := by decide +kernel
theorem dX6_fewestClouds_80 : decode cX6_fewestClouds 80 = .ok (.iload 6, 2) := by decide +kernel
theorem dX6_fewestClouds_82 : decode cX6_fewestClouds 82 = .ok (.ior, 1) := by decide +kernel
theorem dX6_fewestClouds_83 : decode cX6_fewestClouds 83 = .ok (.bipush 6, 2) := by decide +kernel
theorem dX6_fewestClouds_85 : decode cX6_fewestClouds 85 = .ok (.invokevirtual 33, 3) := by decide +kernel
theorem dX6_fewestClouds_88 : decode cX6_fewestClouds 88 = .ok (.aload_n 0, 1) := by decide +kernel
theorem dX6_fewestClouds_89 : decode cX6_fewestClouds 89 = .ok (.iload_n 1, 1) := by decide +kernel
theorem dX6_fewestClouds_90 : decode cX6_fewestClouds 90 = .ok (.iload_n 2, 1) := by decide +kernel
theorem dX6_fewestClouds_91 : decode cX6_fewestClouds 91 = .ok (.invokevirtual 37, 3) := by decide +kernel
theorem dX6_fewestClouds_94 : decode cX6_fewestClouds 94 = .ok (.ifCond .eq 8, 3) := by decide +kernel
theorem dX6_fewestClouds_97 : decode cX6_fewestClouds 97 = .ok (.iload 6, 2) := by decide +kernel
theorem dX6_fewestClouds_99 : decode cX6_fewestClouds 99 = .ok (.goto 5, 3) := by decide +kernel
theorem dX6_fewestClouds_102 : decode cX6_fewestClouds 102 = .ok (.iload 5, 2) := by decide +kernel
theorem dX6_fewestClouds_104 : decode cX6_fewestClouds 104 = .ok (.istore 5, 2) := by decide +kernel
theorem dX6_fewestClouds_106 : decode cX6_fewestClouds 106 = .ok (.iinc 6 1, 3) := by decide +kernel
theorem dX6_fewestClouds_109 : decode cX6_fewestClouds 109 = .ok (.goto (-80), 3) := by decide +kernel
theorem dX6_fewestClouds_112 : decode cX6_fewestClouds 112 = .ok (.iload 5, 2) := by decide +kernel
theorem dX6_fewestClouds_114 : decode cX6_fewestClouds 114 = .ok (.ireturn, 1) := by decide +kernel
theorem dX6_firstMove_0 : decode cX6_firstMove 0 = .ok (.aload_n 0, 1) := by decide +kernel
theorem dX6_firstMove_1 : decode cX6_firstMove 1 = .ok (.getfield 41, 3) := by decide +kernel
theorem dX6_firstMove_4 : decode cX6_firstMove 4 = .ok (.iload_n 1, 1) := by decide +kernel
theorem dX6_firstMove_5 : decode cX6_firstMove 5 = .ok (.aaload, 1) := by decide +kernel
theorem dX6_firstMove_6 : decode cX6_firstMove 6 = .ok (.astore_n 3, 1) := by decide +kernel
theorem dX6_firstMove_7 : decode cX6_firstMove 7 = .ok (.aload_n 3, 1) := by decide +kernel
theorem dX6_firstMove_8 : decode cX6_firstMove 8 = .ok (.getfield 45, 3) := by decide +kernel
theorem dX6_firstMove_11 : decode cX6_firstMove 11 = .ok (.istore 4, 2) := by decide +kernel
theorem dX6_firstMove_13 : decode cX6_firstMove 13 = .ok (.bipush (-9), 2) := by decide +kernel
theorem dX6_firstMove_15 : decode cX6_firstMove 15 = .ok (.istore 5, 2) := by decide +kernel
theorem dX6_firstMove_17 : decode cX6_firstMove 17 = .ok (.iconst 0, 1) := by decide +kernel
theorem dX6_firstMove_18 : decode cX6_firstMove 18 = .ok (.istore 6, 2) := by decide +kernel
theorem dX6_firstMove_20 : decode cX6_firstMove 20 = .ok (.iload 6, 2) := by decide +kernel
theorem dX6_firstMove_22 : decode cX6_firstMove 22 = .ok (.bipush 99, 2) := by decide +kernel
theorem dX6_firstMove_24 : decode cX6_firstMove 24 = .ok (.if_icmp .gt 44, 3) := by decide +kernel
theorem dX6_firstMove_27 : decode cX6_firstMove 27 = .ok (.iload 5, 2) := by decide +kernel
theorem dX6_firstMove_29 : decode cX6_firstMove 29 = .ok (.bipush (-9), 2) := by decide +kernel
theorem dX6_firstMove_31 : decode cX6_firstMove 31 = .ok (.if_icmp .ne 37, 3) := by decide +kernel
theorem dX6_firstMove_34 : decode cX6_firstMove 34 = .ok (.aload_n 3, 1) := by decide +kernel
theorem dX6_firstMove_35 : decode cX6_firstMove 35 = .ok (.iload 6, 2) := by decide +kernel
theorem dX6_firstMove_37 : decode cX6_firstMove 37 = .ok (.putfield 45, 3) := by decide +kernel
theorem dX6_firstMove_40 : decode cX6_firstMove 40 = .ok (.aload_n 0, 1) := by decide +kernel
theorem dX6_firstMove_41 : decode cX6_firstMove 41 = .ok (.invokevirtual 51, 3) := by decide +kernel
theorem dX6_firstMove_44 : decode cX6_firstMove 44 = .ok (.aload_n 0, 1) := by decide +kernel
theorem dX6_firstMove_45 : decode cX6_firstMove 45 = .ok (.iload_n 1, 1) := by decide +kernel
theorem dX6_firstMove_46 : decode cX6_firstMove 46 = .ok (.iload_n 2, 1) := by decide +kernel
theorem dX6_firstMove_47 : decode cX6_firstMove 47 = .ok (.invokevirtual 37, 3) := by decide +kernel
theorem dX6_firstMove_50 : decode cX6_firstMove 50 = .ok (.ifCond .eq 8, 3) := by decide +kernel
theorem dX6_firstMove_53 : decode cX6_firstMove 53 = .ok (.iload 6, 2) := by decide +kernel
theorem dX6_firstMove_55 : decode cX6_firstMove 55 = .ok (.goto 5, 3) := by decide +kernel
theorem dX6_firstMove_58 : decode cX6_firstMove 58 = .ok (.bipush (-9), 2) := by decide +kernel
theorem dX6_firstMove_60 : decode cX6_firstMove 60 = .ok (.istore 5, 2) := by decide +kernel
theorem dX6_firstMove_62 : decode cX6_firstMove 62 = .ok (.iinc 6 1, 3) := by decide +kernel
theorem dX6_firstMove_65 : decode cX6_firstMove 65 = .ok (.goto (-45), 3) := by decide +kernel
theorem dX6_firstMove_68 : decode cX6_firstMove 68 = .ok (.aload_n 3, 1) := by decide +kernel
theorem dX6_firstMove_69 : decode cX6_firstMove 69 = .ok (.iload 4, 2) := by decide +kernel
theorem dX6_firstMove_71 : decode cX6_firstMove 71 = .ok (.putfield 45, 3) := by decide +kernel
theorem dX6_firstMove_74 : decode cX6_firstMove 74 = .ok (.iload 5, 2) := by decide +kernel
theorem dX6_firstMove_76 : decode cX6_firstMove 76 = .ok (.ireturn, 1) := by decide +kernel
theorem dX6_longestMove_0 : decode cX6_longestMove 0 = .ok (.aload_n 0, 1) := by decide +kernel
theorem dX6_longestMove_1 : decode cX6_longestMove 1 = .ok (.getfield 41, 3) := by decide +kernel
theorem dX6_longestMove_4 : decode cX6_longestMove 4 = .ok (.iload_n 1, 1) := by decide +kernel
theorem dX6_longestMove_5 : decode cX6_longestMove 5 = .ok (.aaload, 1) := by decide +kernel
theorem dX6_longestMove_6 : decode cX6_longestMove 6 = .ok (.astore_n 3, 1) := by decide +kernel
theorem dX6_longestMove_7 : decode cX6_longestMove 7 = .ok (.aload_n 3, 1) := by decide +kernel
theorem dX6_longestMove_8 : decode cX6_longestMove 8 = .ok (.getfield 45, 3) := by decide +kernel
theorem dX6_longestMove_11 : decode cX6_longestMove 11 = .ok (.istore 4, 2) := by decide +kernel
theorem dX6_longestMove_13 : decode cX6_longestMove 13 = .ok (.iconst (-1), 1) := by decide +kernel
theorem dX6_longestMove_14 : decode cX6_longestMove 14 = .ok (.istore 5, 2) := by decide +kernel
theorem dX6_longestMove_16 : decode cX6_longestMove 16 = .ok (.iconst 0, 1) := by decide +kernel
theorem dX6_longestMove_17 : decode cX6_longestMove 17 = .ok (.istore 6, 2) := by decide +kernel
theorem dX6_longestMove_19 : decode cX6_longestMove 19 = .ok (.iconst 0, 1) := by decide +kernel
theorem dX6_longestMove_20 : decode cX6_longestMove 20 = .ok (.istore 7, 2) := by decide +kernel
theorem dX6_longestMove_22 : decode cX6_longestMove 22 = .ok (.iload 7, 2) := by decide +kernel
theorem dX6_longestMove_24 : decode cX6_longestMove 24 = .ok (.bipush 99, 2) := by decide +kernel
theorem dX6_longestMove_26 : decode cX6_longestMove 26 = .ok (.if_icmp .gt 41, 3) := by decide +kernel
theorem dX6_longestMove_29 : decode cX6_longestMove 29 = .ok (.aload_n 3, 1) := by decide +kernel
theorem dX6_longestMove_30 : decode cX6_longestMove 30 = .ok (.iload 7, 2) := by decide +kernel
theorem dX6_longestMove_32 : decode cX6_longestMove 32 = .ok (.putfield 45, 3) := by decide +kernel
theorem dX6_longestMove_35 : decode cX6_longestMove 35 = .ok (.aload_n 0, 1) := by decide +kernel
theorem dX6_longestMove_36 : decode cX6_longestMove 36 = .ok (.invokevirtual 51, 3) := by decide +kernel
theorem dX6_longestMove_39 : decode cX6_longestMove 39 = .ok (.aload_n 0, 1) := by decide +kernel
theorem dX6_longestMove_40 : decode cX6_longestMove 40 = .ok (.iload_n 1, 1) := by decide +kernel
theorem dX6_longestMove_41 : decode cX6_longestMove 41 = .ok (.invokevirtual 54, 3) := by decide +kernel
theorem dX6_longestMove_44 : decode cX6_longestMove 44 = .ok (.istore 8, 2) := by decide +kernel
theorem dX6_longestMove_46 : decode cX6_longestMove 46 = .ok (.iload 8, 2) := by decide +kernel
theorem dX6_longestMove_48 : decode cX6_longestMove 48 = .ok (.iload 5, 2) := by decide +kernel
theorem dX6_longestMove_50 : decode cX6_longestMove 50 = .ok (.if_icmp .le 11, 3) := by decide +kernel
theorem dX6_longestMove_53 : decode cX6_longestMove 53 = .ok (.iload 8, 2) := by decide +kernel
theorem dX6_longestMove_55 : decode cX6_longestMove 55 = .ok (.istore 5, 2) := by decide +kernel
theorem dX6_longestMove_57 : decode cX6_longestMove 57 = .ok (.iload 7, 2) := by decide +kernel
theorem dX6_longestMove_59 : decode cX6_longestMove 59 = .ok (.istore 6, 2) := by decide +kernel
theorem dX6_longestMove_61 : decode cX6_longestMove 61 = .ok (.iinc 7 1, 3) := by decide +kernel
theorem dX6_longestMove_64 : decode cX6_longestMove 64 = .ok (.goto (-42), 3) := by decide +kernel
theorem dX6_longestMove_67 : decode cX6_longestMove 67 = .ok (.aload_n 3, 1) := by decide +kernel
theorem dX6_longestMove_68 : decode cX6_longestMove 68 = .ok (.iload 4, 2) := by decide +kernel
theorem dX6_longestMove_70 : decode cX6_longestMove 70 = .ok (.putfield 45, 3) := by decide +kernel
theorem dX6_longestMove_73 : decode cX6_longestMove 73 = .ok (.iload_n 2, 1) := by decide +kernel
theorem dX6_longestMove_74 : decode cX6_longestMove 74 = .ok (.ifCond .eq 8, 3) := by decide +kernel
theorem dX6_longestMove_77 : decode cX6_longestMove 77 = .ok (.iload 5, 2) := by decide +kernel
theorem dX6_longestMove_79 : decode cX6_longestMove 79 = .ok (.goto 5, 3) := by decide +kernel
theorem dX6_longestMove_82 : decode cX6_longestMove 82 = .ok (.iload 6, 2) := by decide +kernel
theorem dX6_longestMove_84 : decode cX6_longestMove 84 = .ok (.ireturn, 1) := by decide +kernel
theorem dX6_gainOfOthers_0 : decode cX6_gainOfOthers 0 = .ok (.aload_n 0, 1) := by decide +kernel
theorem dX6_gainOfOthers_1 : decode cX6_gainOfOthers 1 = .ok (.invokevirtual 51, 3) := by decide +kernel
theorem dX6_gainOfOthers_4 : decode cX6_gainOfOthers 4 = .ok (.aload_n 0, 1) := by decide +kernel
theorem dX6_gainOfOthers_5 : decode cX6_gainOfOthers 5 = .ok (.iload_n 1, 1) := by decide +kernel
theorem dX6_gainOfOthers_6 : decode cX6_gainOfOthers 6 = .ok (.invokevirtual 57, 3) := by decide +kernel
theorem dX6_gainOfOthers_9 : decode cX6_gainOfOthers 9 = .ok (.istore_n 2, 1) := by decide +kernel
theorem dX6_gainOfOthers_10 : decode cX6_gainOfOthers 10 = .ok (.aload_n 0, 1) := by decide +kernel
theorem dX6_gainOfOthers_11 : decode cX6_gainOfOthers 11 = .ok (.aload_n 0, 1) := by decide +kernel
theorem dX6_gainOfOthers_12 : decode cX6_gainOfOthers 12 = .ok (.getfield 14, 3) := by decide +kernel
theorem dX6_gainOfOthers_15 : decode cX6_gainOfOthers 15 = .ok (.invokevirtual 18, 3) := by decide +kernel
theorem dX6_gainOfOthers_18 : decode cX6_gainOfOthers 18 = .ok (.iload_n 1, 1) := by decide +kernel
theorem dX6_gainOfOthers_19 : decode cX6_gainOfOthers 19 = .ok (.invokevirtual 33, 3) := by decide +kernel
theorem dX6_gainOfOthers_22 : decode cX6_gainOfOthers 22 = .ok (.iload_n 2, 1) := by decide +kernel
theorem dX6_gainOfOthers_23 : decode cX6_gainOfOthers 23 = .ok (.aload_n 0, 1) := by decide +kernel
theorem dX6_gainOfOthers_24 : decode cX6_gainOfOthers 24 = .ok (.iload_n 1, 1) := by decide +kernel
theorem dX6_gainOfOthers_25 : decode cX6_gainOfOthers 25 = .ok (.invokevirtual 57, 3) := by decide +kernel
theorem dX6_gainOfOthers_28 : decode cX6_gainOfOthers 28 = .ok (.isub, 1) := by decide +kernel
theorem dX6_gainOfOthers_29 : decode cX6_gainOfOthers 29 = .ok (.ireturn, 1) := by decide +kernel
theorem dX6_possibleSpans_0 : decode cX6_possibleSpans 0 = .ok (.aload_n 0, 1) := by decide +kernel
theorem dX6_possibleSpans_1 : decode cX6_possibleSpans 1 = .ok (.getfield 60, 3) := by decide +kernel
theorem dX6_possibleSpans_4 : decode cX6_possibleSpans 4 = .ok (.istore_n 2, 1) := by decide +kernel
theorem dX6_possibleSpans_5 : decode cX6_possibleSpans 5 = .ok (.iconst 0, 1) := by decide +kernel
theorem dX6_possibleSpans_6 : decode cX6_possibleSpans 6 = .ok (.istore_n 3, 1) := by decide +kernel
theorem dX6_possibleSpans_7 : decode cX6_possibleSpans 7 = .ok (.iconst 0, 1) := by decide +kernel
theorem dX6_possibleSpans_8 : decode cX6_possibleSpans 8 = .ok (.istore 4, 2) := by decide +kernel
theorem dX6_possibleSpans_10 : decode cX6_possibleSpans 10 = .ok (.iload 4, 2) := by decide +kernel
theorem dX6_possibleSpans_12 : decode cX6_possibleSpans 12 = .ok (.bipush 9, 2) := by decide +kernel
theorem dX6_possibleSpans_14 : decode cX6_possibleSpans 14 = .ok (.if_icmp .gt 38, 3) := by decide +kernel
theorem dX6_possibleSpans_17 : decode cX6_possibleSpans 17 = .ok (.aload_n 0, 1) := by decide +kernel
theorem dX6_possibleSpans_18 : decode cX6_possibleSpans 18 = .ok (.iload 4, 2) := by decide +kernel
theorem dX6_possibleSpans_20 : decode cX6_possibleSpans 20 = .ok (.putfield 60, 3) := by decide +kernel
theorem dX6_possibleSpans_23 : decode cX6_possibleSpans 23 = .ok (.aload_n 0, 1) := by decide +kernel
theorem dX6_possibleSpans_24 : decode cX6_possibleSpans 24 = .ok (.invokevirtual 51, 3) := by decide +kernel
theorem dX6_possibleSpans_27 : decode cX6_possibleSpans 27 = .ok (.iload_n 3, 1) := by decide +kernel
theorem dX6_possibleSpans_28 : decode cX6_possibleSpans 28 = .ok (.aload_n 1, 1) := by decide +kernel
theorem dX6_possibleSpans_29 : decode cX6_possibleSpans 29 = .ok (.aload_n 0, 1) := by decide +kernel
theorem dX6_possibleSpans_30 : decode cX6_possibleSpans 30 = .ok (.invokevirtual 63, 3) := by decide +kernel
theorem dX6_possibleSpans_33 : decode cX6_possibleSpans 33 = .ok (.ifCond .eq 10, 3) := by decide +kernel
theorem dX6_possibleSpans_36 : decode cX6_possibleSpans 36 = .ok (.iconst 1, 1) := by decide +kernel
theorem dX6_possibleSpans_37 : decode cX6_possibleSpans 37 = .ok (.iload 4, 2) := by decide +kernel
theorem dX6_possibleSpans_39 : decode cX6_possibleSpans 39 = .ok (.ishl, 1) := by decide +kernel
theorem dX6_possibleSpans_40 : decode cX6_possibleSpans 40 = .ok (.goto 4, 3) := by decide +kernel
theorem dX6_possibleSpans_43 : decode cX6_possibleSpans 43 = .ok (.iconst 0, 1) := by decide +kernel
theorem dX6_possibleSpans_44 : decode cX6_possibleSpans 44 = .ok (.ior, 1) := by decide +kernel
theorem dX6_possibleSpans_45 : decode cX6_possibleSpans 45 = .ok (.istore_n 3, 1) := by decide +kernel
theorem dX6_possibleSpans_46 : decode cX6_possibleSpans 46 = .ok (.iinc 4 1, 3) := by decide +kernel
theorem dX6_possibleSpans_49 : decode cX6_possibleSpans 49 = .ok (.goto (-39), 3) := by decide +kernel
theorem dX6_possibleSpans_52 : decode cX6_possibleSpans 52 = .ok (.aload_n 0, 1) := by decide +kernel
theorem dX6_possibleSpans_53 : decode cX6_possibleSpans 53 = .ok (.iload_n 2, 1) := by decide +kernel
theorem dX6_possibleSpans_54 : decode cX6_possibleSpans 54 = .ok (.putfield 60, 3) := by decide +kernel
theorem dX6_possibleSpans_57 : decode cX6_possibleSpans 57 = .ok (.iload_n 3, 1) := by decide +kernel
theorem dX6_possibleSpans_58 : decode cX6_possibleSpans 58 = .ok (.ireturn, 1) := by decide +kernel
theorem dX6_possibleOrigins_0 : decode cX6_possibleOrigins 0 = .ok (.aload_n 0, 1) := by decide +kernel
theorem dX6_possibleOrigins_1 : decode cX6_possibleOrigins 1 = .ok (.getfield 14, 3) := by decide +kernel
theorem dX6_possibleOrigins_4 : decode cX6_possibleOrigins 4 = .ok (.getfield 69, 3) := by decide +kernel
theorem dX6_possibleOrigins_7 : decode cX6_possibleOrigins 7 = .ok (.istore_n 2, 1) := by decide +kernel
theorem dX6_possibleOrigins_8 : decode cX6_possibleOrigins 8 = .ok (.iconst 0, 1) := by decide +kernel
theorem dX6_possibleOrigins_9 : decode cX6_possibleOrigins 9 = .ok (.istore_n 3, 1) := by decide +kernel
theorem dX6_possibleOrigins_10 : decode cX6_possibleOrigins 10 = .ok (.iconst 0, 1) := by decide +kernel
theorem dX6_possibleOrigins_11 : decode cX6_possibleOrigins 11 = .ok (.istore 4, 2) := by decide +kernel
theorem dX6_possibleOrigins_13 : decode cX6_possibleOrigins 13 = .ok (.iload 4, 2) := by decide +kernel
theorem dX6_possibleOrigins_15 : decode cX6_possibleOrigins 15 = .ok (.bipush 29, 2) := by decide +kernel
theorem dX6_possibleOrigins_17 : decode cX6_possibleOrigins 17 = .ok (.if_icmp .gt 41, 3) := by decide +kernel
theorem dX6_possibleOrigins_20 : decode cX6_possibleOrigins 20 = .ok (.aload_n 0, 1) := by decide +kernel
theorem dX6_possibleOrigins_21 : decode cX6_possibleOrigins 21 = .ok (.getfield 14, 3) := by decide +kernel
theorem dX6_possibleOrigins_24 : decode cX6_possibleOrigins 24 = .ok (.iload 4, 2) := by decide +kernel
theorem dX6_possibleOrigins_26 : decode cX6_possibleOrigins 26 = .ok (.putfield 69, 3) := by decide +kernel
theorem dX6_possibleOrigins_29 : decode cX6_possibleOrigins 29 = .ok (.aload_n 0, 1) := by decide +kernel
theorem dX6_possibleOrigins_30 : decode cX6_possibleOrigins 30 = .ok (.invokevirtual 51, 3) := by decide +kernel
theorem dX6_possibleOrigins_33 : decode cX6_possibleOrigins 33 = .ok (.iload_n 3, 1) := by decide +kernel
theorem dX6_possibleOrigins_34 : decode cX6_possibleOrigins 34 = .ok (.aload_n 1, 1) := by decide +kernel
theorem dX6_possibleOrigins_35 : decode cX6_possibleOrigins 35 = .ok (.aload_n 0, 1) := by decide +kernel
theorem dX6_possibleOrigins_36 : decode cX6_possibleOrigins 36 = .ok (.invokevirtual 63, 3) := by decide +kernel
theorem dX6_possibleOrigins_39 : decode cX6_possibleOrigins 39 = .ok (.ifCond .eq 10, 3) := by decide +kernel
theorem dX6_possibleOrigins_42 : decode cX6_possibleOrigins 42 = .ok (.iconst 1, 1) := by decide +kernel
theorem dX6_possibleOrigins_43 : decode cX6_possibleOrigins 43 = .ok (.iload 4, 2) := by decide +kernel
theorem dX6_possibleOrigins_45 : decode cX6_possibleOrigins 45 = .ok (.ishl, 1) := by decide +kernel
theorem dX6_possibleOrigins_46 : decode cX6_possibleOrigins 46 = .ok (.goto 4, 3) := by decide +kernel
theorem dX6_possibleOrigins_49 : decode cX6_possibleOrigins 49 = .ok (.iconst 0, 1) := by decide +kernel
theorem dX6_possibleOrigins_50 : decode cX6_possibleOrigins 50 = .ok (.ior, 1) := by decide +kernel
theorem dX6_possibleOrigins_51 : decode cX6_possibleOrigins 51 = .ok (.istore_n 3, 1) := by decide +kernel
theorem dX6_possibleOrigins_52 : decode cX6_possibleOrigins 52 = .ok (.iinc 4 1, 3) := by decide +kernel
theorem dX6_possibleOrigins_55 : decode cX6_possibleOrigins 55 = .ok (.goto (-42), 3) := by decide +kernel
theorem dX6_possibleOrigins_58 : decode cX6_possibleOrigins 58 = .ok (.aload_n 0, 1) := by decide +kernel
theorem dX6_possibleOrigins_59 : decode cX6_possibleOrigins 59 = .ok (.getfield 14, 3) := by decide +kernel
theorem dX6_possibleOrigins_62 : decode cX6_possibleOrigins 62 = .ok (.iload_n 2, 1) := by decide +kernel
theorem dX6_possibleOrigins_63 : decode cX6_possibleOrigins 63 = .ok (.putfield 69, 3) := by decide +kernel
theorem dX6_possibleOrigins_66 : decode cX6_possibleOrigins 66 = .ok (.iload_n 3, 1) := by decide +kernel
theorem dX6_possibleOrigins_67 : decode cX6_possibleOrigins 67 = .ok (.ireturn, 1) := by decide +kernel
theorem dX6_possibleKinds_0 : decode cX6_possibleKinds 0 = .ok (.aload_n 0, 1) := by decide +kernel
theorem dX6_possibleKinds_1 : decode cX6_possibleKinds 1 = .ok (.getfield 41, 3) := by decide +kernel
theorem dX6_possibleKinds_4 : decode cX6_possibleKinds 4 = .ok (.iload_n 2, 1) := by decide +kernel
theorem dX6_possibleKinds_5 : decode cX6_possibleKinds 5 = .ok (.aaload, 1) := by decide +kernel
theorem dX6_possibleKinds_6 : decode cX6_possibleKinds 6 = .ok (.astore_n 3, 1) := by decide +kernel
theorem dX6_possibleKinds_7 : decode cX6_possibleKinds 7 = .ok (.aload_n 3, 1) := by decide +kernel
theorem dX6_possibleKinds_8 : decode cX6_possibleKinds 8 = .ok (.getfield 72, 3) := by decide +kernel
theorem dX6_possibleKinds_11 : decode cX6_possibleKinds 11 = .ok (.istore 4, 2) := by decide +kernel
theorem dX6_possibleKinds_13 : decode cX6_possibleKinds 13 = .ok (.iconst 0, 1) := by decide +kernel
theorem dX6_possibleKinds_14 : decode cX6_possibleKinds 14 = .ok (.istore 5, 2) := by decide +kernel
theorem dX6_possibleKinds_16 : decode cX6_possibleKinds 16 = .ok (.iconst 0, 1) := by decide +kernel
theorem dX6_possibleKinds_17 : decode cX6_possibleKinds 17 = .ok (.istore 6, 2) := by decide +kernel
theorem dX6_possibleKinds_19 : decode cX6_possibleKinds 19 = .ok (.iload 6, 2) := by decide +kernel
theorem dX6_possibleKinds_21 : decode cX6_possibleKinds 21 = .ok (.iconst 2, 1) := by decide +kernel
theorem dX6_possibleKinds_22 : decode cX6_possibleKinds 22 = .ok (.if_icmp .gt 40, 3) := by decide +kernel
theorem dX6_possibleKinds_25 : decode cX6_possibleKinds 25 = .ok (.aload_n 3, 1) := by decide +kernel
theorem dX6_possibleKinds_26 : decode cX6_possibleKinds 26 = .ok (.iload 6, 2) := by decide +kernel
theorem dX6_possibleKinds_28 : decode cX6_possibleKinds 28 = .ok (.putfield 72, 3) := by decide +kernel
theorem dX6_possibleKinds_31 : decode cX6_possibleKinds 31 = .ok (.aload_n 0, 1) := by decide +kernel
theorem dX6_possibleKinds_32 : decode cX6_possibleKinds 32 = .ok (.invokevirtual 51, 3) := by decide +kernel
theorem dX6_possibleKinds_35 : decode cX6_possibleKinds 35 = .ok (.iload 5, 2) := by decide +kernel
theorem dX6_possibleKinds_37 : decode cX6_possibleKinds 37 = .ok (.aload_n 1, 1) := by decide +kernel
theorem dX6_possibleKinds_38 : decode cX6_possibleKinds 38 = .ok (.aload_n 0, 1) := by decide +kernel
theorem dX6_possibleKinds_39 : decode cX6_possibleKinds 39 = .ok (.invokevirtual 63, 3) := by decide +kernel
theorem dX6_possibleKinds_42 : decode cX6_possibleKinds 42 = .ok (.ifCond .eq 10, 3) := by decide +kernel
theorem dX6_possibleKinds_45 : decode cX6_possibleKinds 45 = .ok (.iconst 1, 1) := by decide +kernel
theorem dX6_possibleKinds_46 : decode cX6_possibleKinds 46 = .ok (.iload 6, 2) := by decide +kernel
theorem dX6_possibleKinds_48 : decode cX6_possibleKinds 48 = .ok (.ishl, 1) := by decide +kernel
theorem dX6_possibleKinds_49 : decode cX6_possibleKinds 49 = .ok (.goto 4, 3) := by decide +kernel
theorem dX6_possibleKinds_52 : decode cX6_possibleKinds 52 = .ok (.iconst 0, 1) := by decide +kernel
theorem dX6_possibleKinds_53 : decode cX6_possibleKinds 53 = .ok (.ior, 1) := by decide +kernel
theorem dX6_possibleKinds_54 : decode cX6_possibleKinds 54 = .ok (.istore 5, 2) := by decide +kernel
theorem dX6_possibleKinds_56 : decode cX6_possibleKinds 56 = .ok (.iinc 6 1, 3) := by decide +kernel
theorem dX6_possibleKinds_59 : decode cX6_possibleKinds 59 = .ok (.goto (-40), 3) := by decide +kernel
theorem dX6_possibleKinds_62 : decode cX6_possibleKinds 62 = .ok (.aload_n 3, 1) := by decide +kernel
theorem dX6_possibleKinds_63 : decode cX6_possibleKinds 63 = .ok (.iload 4, 2) := by decide +kernel
theorem dX6_possibleKinds_65 : decode cX6_possibleKinds 65 = .ok (.putfield 72, 3) := by decide +kernel
theorem dX6_possibleKinds_68 : decode cX6_possibleKinds 68 = .ok (.iload 5, 2) := by decide +kernel
theorem dX6_possibleKinds_70 : decode cX6_possibleKinds 70 = .ok (.ireturn, 1) := by decide +kernel
theorem dX6_possibleMoves_0 : decode cX6_possibleMoves 0 = .ok (.aload_n 0, 1) := by decide +kernel
theorem dX6_possibleMoves_1 : decode cX6_possibleMoves 1 = .ok (.getfield 41, 3) := by decide +kernel
theorem dX6_possibleMoves_4 : decode cX6_possibleMoves 4 = .ok (.iload_n 2, 1) := by decide +kernel
theorem dX6_possibleMoves_5 : decode cX6_possibleMoves 5 = .ok (.aaload, 1) := by decide +kernel
theorem dX6_possibleMoves_6 : decode cX6_possibleMoves 6 = .ok (.astore 4, 2) := by decide +kernel
theorem dX6_possibleMoves_8 : decode cX6_possibleMoves 8 = .ok (.aload 4, 2) := by decide +kernel
theorem dX6_possibleMoves_10 : decode cX6_possibleMoves 10 = .ok (.getfield 45, 3) := by decide +kernel
theorem dX6_possibleMoves_13 : decode cX6_possibleMoves 13 = .ok (.istore 5, 2) := by decide +kernel
theorem dX6_possibleMoves_15 : decode cX6_possibleMoves 15 = .ok (.iconst 0, 1) := by decide +kernel
theorem dX6_possibleMoves_16 : decode cX6_possibleMoves 16 = .ok (.istore 6, 2) := by decide +kernel
theorem dX6_possibleMoves_18 : decode cX6_possibleMoves 18 = .ok (.bipush (-9), 2) := by decide +kernel
theorem dX6_possibleMoves_20 : decode cX6_possibleMoves 20 = .ok (.istore 7, 2) := by decide +kernel
theorem dX6_possibleMoves_22 : decode cX6_possibleMoves 22 = .ok (.iconst 0, 1) := by decide +kernel
theorem dX6_possibleMoves_23 : decode cX6_possibleMoves 23 = .ok (.istore 8, 2) := by decide +kernel
theorem dX6_possibleMoves_25 : decode cX6_possibleMoves 25 = .ok (.iload 8, 2) := by decide +kernel
theorem dX6_possibleMoves_27 : decode cX6_possibleMoves 27 = .ok (.bipush 99, 2) := by decide +kernel
theorem dX6_possibleMoves_29 : decode cX6_possibleMoves 29 = .ok (.if_icmp .gt 47, 3) := by decide +kernel
theorem dX6_possibleMoves_32 : decode cX6_possibleMoves 32 = .ok (.aload 4, 2) := by decide +kernel
theorem dX6_possibleMoves_34 : decode cX6_possibleMoves 34 = .ok (.iload 8, 2) := by decide +kernel
theorem dX6_possibleMoves_36 : decode cX6_possibleMoves 36 = .ok (.putfield 45, 3) := by decide +kernel
theorem dX6_possibleMoves_39 : decode cX6_possibleMoves 39 = .ok (.aload_n 0, 1) := by decide +kernel
theorem dX6_possibleMoves_40 : decode cX6_possibleMoves 40 = .ok (.invokevirtual 51, 3) := by decide +kernel
theorem dX6_possibleMoves_43 : decode cX6_possibleMoves 43 = .ok (.aload_n 1, 1) := by decide +kernel
theorem dX6_possibleMoves_44 : decode cX6_possibleMoves 44 = .ok (.aload_n 0, 1) := by decide +kernel
theorem dX6_possibleMoves_45 : decode cX6_possibleMoves 45 = .ok (.invokevirtual 63, 3) := by decide +kernel
theorem dX6_possibleMoves_48 : decode cX6_possibleMoves 48 = .ok (.ifCond .eq 22, 3) := by decide +kernel
theorem dX6_possibleMoves_51 : decode cX6_possibleMoves 51 = .ok (.iinc 6 1, 3) := by decide +kernel
theorem dX6_possibleMoves_54 : decode cX6_possibleMoves 54 = .ok (.iload 7, 2) := by decide +kernel
theorem dX6_possibleMoves_56 : decode cX6_possibleMoves 56 = .ok (.bipush (-9), 2) := by decide +kernel
theorem dX6_possibleMoves_58 : decode cX6_possibleMoves 58 = .ok (.if_icmp .ne 8, 3) := by decide +kernel
theorem dX6_possibleMoves_61 : decode cX6_possibleMoves 61 = .ok (.iload 8, 2) := by decide +kernel
theorem dX6_possibleMoves_63 : decode cX6_possibleMoves 63 = .ok (.goto 5, 3) := by decide +kernel
theorem dX6_possibleMoves_66 : decode cX6_possibleMoves 66 = .ok (.iload 7, 2) := by decide +kernel
theorem dX6_possibleMoves_68 : decode cX6_possibleMoves 68 = .ok (.istore 7, 2) := by decide +kernel
theorem dX6_possibleMoves_70 : decode cX6_possibleMoves 70 = .ok (.iinc 8 1, 3) := by decide +kernel
theorem dX6_possibleMoves_73 : decode cX6_possibleMoves 73 = .ok (.goto (-48), 3) := by decide +kernel
theorem dX6_possibleMoves_76 : decode cX6_possibleMoves 76 = .ok (.aload 4, 2) := by decide +kernel
theorem dX6_possibleMoves_78 : decode cX6_possibleMoves 78 = .ok (.iload 5, 2) := by decide +kernel
theorem dX6_possibleMoves_80 : decode cX6_possibleMoves 80 = .ok (.putfield 45, 3) := by decide +kernel
theorem dX6_possibleMoves_83 : decode cX6_possibleMoves 83 = .ok (.iload_n 3, 1) := by decide +kernel
theorem dX6_possibleMoves_84 : decode cX6_possibleMoves 84 = .ok (.ifCond .eq 8, 3) := by decide +kernel
theorem dX6_possibleMoves_87 : decode cX6_possibleMoves 87 = .ok (.iload 7, 2) := by decide +kernel
theorem dX6_possibleMoves_89 : decode cX6_possibleMoves 89 = .ok (.goto 5, 3) := by decide +kernel
theorem dX6_possibleMoves_92 : decode cX6_possibleMoves 92 = .ok (.iload 6, 2) := by decide +kernel
theorem dX6_possibleMoves_94 : decode cX6_possibleMoves 94 = .ok (.ireturn, 1) := by decide +kernel
theorem dX6_shareOfClouds_0 : decode cX6_shareOfClouds 0 = .ok (.aload_n 0, 1) := by decide +kernel
theorem dX6_shareOfClouds_1 : decode cX6_shareOfClouds 1 = .ok (.invokevirtual 9, 3) := by decide +kernel
theorem dX6_shareOfClouds_4 : decode cX6_shareOfClouds 4 = .ok (.aload_n 0, 1) := by decide +kernel
theorem dX6_shareOfClouds_5 : decode cX6_shareOfClouds 5 = .ok (.invokevirtual 24, 3) := by decide +kernel
theorem dX6_shareOfClouds_8 : decode cX6_shareOfClouds 8 = .ok (.istore 4, 2) := by decide +kernel
theorem dX6_shareOfClouds_10 : decode cX6_shareOfClouds 10 = .ok (.iconst 0, 1) := by decide +kernel
theorem dX6_shareOfClouds_11 : decode cX6_shareOfClouds 11 = .ok (.istore 5, 2) := by decide +kernel
theorem dX6_shareOfClouds_13 : decode cX6_shareOfClouds 13 = .ok (.iconst 0, 1) := by decide +kernel
theorem dX6_shareOfClouds_14 : decode cX6_shareOfClouds 14 = .ok (.istore 6, 2) := by decide +kernel
theorem dX6_shareOfClouds_16 : decode cX6_shareOfClouds 16 = .ok (.iconst 0, 1) := by decide +kernel
theorem dX6_shareOfClouds_17 : decode cX6_shareOfClouds 17 = .ok (.istore 7, 2) := by decide +kernel
theorem dX6_shareOfClouds_19 : decode cX6_shareOfClouds 19 = .ok (.iload 7, 2) := by decide +kernel
theorem dX6_shareOfClouds_21 : decode cX6_shareOfClouds 21 = .ok (.iload 4, 2) := by decide +kernel
theorem dX6_shareOfClouds_23 : decode cX6_shareOfClouds 23 = .ok (.if_icmp .gt 49, 3) := by decide +kernel
theorem dX6_shareOfClouds_26 : decode cX6_shareOfClouds 26 = .ok (.iload 7, 2) := by decide +kernel
theorem dX6_shareOfClouds_28 : decode cX6_shareOfClouds 28 = .ok (.iload 4, 2) := by decide +kernel
theorem dX6_shareOfClouds_30 : decode cX6_shareOfClouds 30 = .ok (.iconst (-1), 1) := by decide +kernel
theorem dX6_shareOfClouds_31 : decode cX6_shareOfClouds 31 = .ok (.ixor, 1) := by decide +kernel
theorem dX6_shareOfClouds_32 : decode cX6_shareOfClouds 32 = .ok (.iand, 1) := by decide +kernel
theorem dX6_shareOfClouds_33 : decode cX6_shareOfClouds 33 = .ok (.ifCond .ne 33, 3) := by decide +kernel
theorem dX6_shareOfClouds_36 : decode cX6_shareOfClouds 36 = .ok (.aload_n 0, 1) := by decide +kernel
theorem dX6_shareOfClouds_37 : decode cX6_shareOfClouds 37 = .ok (.iload 7, 2) := by decide +kernel
theorem dX6_shareOfClouds_39 : decode cX6_shareOfClouds 39 = .ok (.bipush 6, 2) := by decide +kernel
theorem dX6_shareOfClouds_41 : decode cX6_shareOfClouds 41 = .ok (.invokevirtual 33, 3) := by decide +kernel
theorem dX6_shareOfClouds_44 : decode cX6_shareOfClouds 44 = .ok (.iload 5, 2) := by decide +kernel
theorem dX6_shareOfClouds_46 : decode cX6_shareOfClouds 46 = .ok (.aload_n 0, 1) := by decide +kernel
theorem dX6_shareOfClouds_47 : decode cX6_shareOfClouds 47 = .ok (.iload_n 1, 1) := by decide +kernel
theorem dX6_shareOfClouds_48 : decode cX6_shareOfClouds 48 = .ok (.iload_n 2, 1) := by decide +kernel
theorem dX6_shareOfClouds_49 : decode cX6_shareOfClouds 49 = .ok (.invokevirtual 37, 3) := by decide +kernel
theorem dX6_shareOfClouds_52 : decode cX6_shareOfClouds 52 = .ok (.ifCond .eq 7, 3) := by decide +kernel
theorem dX6_shareOfClouds_55 : decode cX6_shareOfClouds 55 = .ok (.iconst 1, 1) := by decide +kernel
theorem dX6_shareOfClouds_56 : decode cX6_shareOfClouds 56 = .ok (.goto 4, 3) := by decide +kernel
theorem dX6_shareOfClouds_59 : decode cX6_shareOfClouds 59 = .ok (.iconst 0, 1) := by decide +kernel
theorem dX6_shareOfClouds_60 : decode cX6_shareOfClouds 60 = .ok (.iadd, 1) := by decide +kernel
theorem dX6_shareOfClouds_61 : decode cX6_shareOfClouds 61 = .ok (.istore 5, 2) := by decide +kernel
theorem dX6_shareOfClouds_63 : decode cX6_shareOfClouds 63 = .ok (.iinc 6 1, 3) := by decide +kernel
theorem dX6_shareOfClouds_66 : decode cX6_shareOfClouds 66 = .ok (.iinc 7 1, 3) := by decide +kernel
theorem dX6_shareOfClouds_69 : decode cX6_shareOfClouds 69 = .ok (.goto (-50), 3) := by decide +kernel
theorem dX6_shareOfClouds_72 : decode cX6_shareOfClouds 72 = .ok (.iload 6, 2) := by decide +kernel
theorem dX6_shareOfClouds_74 : decode cX6_shareOfClouds 74 = .ok (.iconst 1, 1) := by decide +kernel
theorem dX6_shareOfClouds_75 : decode cX6_shareOfClouds 75 = .ok (.if_icmp .le 25, 3) := by decide +kernel
theorem dX6_shareOfClouds_78 : decode cX6_shareOfClouds 78 = .ok (.iload 5, 2) := by decide +kernel
theorem dX6_shareOfClouds_80 : decode cX6_shareOfClouds 80 = .ok (.iconst 2, 1) := by decide +kernel
theorem dX6_shareOfClouds_81 : decode cX6_shareOfClouds 81 = .ok (.irem, 1) := by decide +kernel
theorem dX6_shareOfClouds_82 : decode cX6_shareOfClouds 82 = .ok (.ifCond .ne 18, 3) := by decide +kernel
theorem dX6_shareOfClouds_85 : decode cX6_shareOfClouds 85 = .ok (.iload 5, 2) := by decide +kernel
theorem dX6_shareOfClouds_87 : decode cX6_shareOfClouds 87 = .ok (.iconst 2, 1) := by decide +kernel
theorem dX6_shareOfClouds_88 : decode cX6_shareOfClouds 88 = .ok (.idiv, 1) := by decide +kernel
theorem dX6_shareOfClouds_89 : decode cX6_shareOfClouds 89 = .ok (.istore 5, 2) := by decide +kernel
theorem dX6_shareOfClouds_91 : decode cX6_shareOfClouds 91 = .ok (.iload 6, 2) := by decide +kernel
theorem dX6_shareOfClouds_93 : decode cX6_shareOfClouds 93 = .ok (.iconst 2, 1) := by decide +kernel
theorem dX6_shareOfClouds_94 : decode cX6_shareOfClouds 94 = .ok (.idiv, 1) := by decide +kernel
theorem dX6_shareOfClouds_95 : decode cX6_shareOfClouds 95 = .ok (.istore 6, 2) := by decide +kernel
theorem dX6_shareOfClouds_97 : decode cX6_shareOfClouds 97 = .ok (.goto (-25), 3) := by decide +kernel
theorem dX6_shareOfClouds_100 : decode cX6_shareOfClouds 100 = .ok (.iload_n 3, 1) := by decide +kernel
theorem dX6_shareOfClouds_101 : decode cX6_shareOfClouds 101 = .ok (.ifCond .eq 9, 3) := by decide +kernel
theorem dX6_shareOfClouds_104 : decode cX6_shareOfClouds 104 = .ok (.iload 6, 2) := by decide +kernel
theorem dX6_shareOfClouds_106 : decode cX6_shareOfClouds 106 = .ok (.i2l, 1) := by decide +kernel
theorem dX6_shareOfClouds_107 : decode cX6_shareOfClouds 107 = .ok (.goto 6, 3) := by decide +kernel
theorem dX6_shareOfClouds_110 : decode cX6_shareOfClouds 110 = .ok (.iload 5, 2) := by decide +kernel
theorem dX6_shareOfClouds_112 : decode cX6_shareOfClouds 112 = .ok (.i2l, 1) := by decide +kernel
theorem dX6_shareOfClouds_113 : decode cX6_shareOfClouds 113 = .ok (.lreturn, 1) := by decide +kernel
theorem dX7_init_0 : decode cX7_init 0 = .ok (.aload_n 0, 1) := by decide +kernel
theorem dX7_init_1 : decode cX7_init 1 = .ok (.invokespecial 3, 3) := by decide +kernel
theorem dX7_init_4 : decode cX7_init 4 = .ok (.aload_n 0, 1) := by decide +kernel
theorem dX7_init_5 : decode cX7_init 5 = .ok (.new 9, 3) := by decide +kernel
theorem dX7_init_8 : decode cX7_init 8 = .ok (.dup, 1) := by decide +kernel
theorem dX7_init_9 : decode cX7_init 9 = .ok (.invokespecial 11, 3) := by decide +kernel
theorem dX7_init_12 : decode cX7_init 12 = .ok (.putfield 12, 3) := by decide +kernel
theorem dX7_init_15 : decode cX7_init 15 = .ok (.aload_n 0, 1) := by decide +kernel
theorem dX7_init_16 : decode cX7_init 16 = .ok (.new 18, 3) := by decide +kernel
theorem dX7_init_19 : decode cX7_init 19 = .ok (.dup, 1) := by decide +kernel
theorem dX7_init_20 : decode cX7_init 20 = .ok (.invokespecial 20, 3) := by decide +kernel
theorem dX7_init_23 : decode cX7_init 23 = .ok (.putfield 21, 3) := by decide +kernel
theorem dX7_init_26 : decode cX7_init 26 = .ok (.aload_n 0, 1) := by decide +kernel
theorem dX7_init_27 : decode cX7_init 27 = .ok (.iconst 4, 1) := by decide +kernel
theorem dX7_init_28 : decode cX7_init 28 = .ok (.anewarray 25, 3) := by decide +kernel
theorem dX7_init_31 : decode cX7_init 31 = .ok (.putfield 27, 3) := by decide +kernel
theorem dX7_init_34 : decode cX7_init 34 = .ok (.iconst 0, 1) := by decide +kernel
theorem dX7_init_35 : decode cX7_init 35 = .ok (.istore_n 1, 1) := by decide +kernel
theorem dX7_init_36 : decode cX7_init 36 = .ok (.iload_n 1, 1) := by decide +kernel
theorem dX7_init_37 : decode cX7_init 37 = .ok (.iconst 4, 1) := by decide +kernel
theorem dX7_init_38 : decode cX7_init 38 = .ok (.if_icmp .ge 22, 3) := by decide +kernel
theorem dX7_init_41 : decode cX7_init 41 = .ok (.aload_n 0, 1) := by decide +kernel
theorem dX7_init_42 : decode cX7_init 42 = .ok (.getfield 27, 3) := by decide +kernel
theorem dX7_init_45 : decode cX7_init 45 = .ok (.iload_n 1, 1) := by decide +kernel
theorem dX7_init_46 : decode cX7_init 46 = .ok (.new 25, 3) := by decide +kernel
theorem dX7_init_49 : decode cX7_init 49 = .ok (.dup, 1) := by decide +kernel
theorem dX7_init_50 : decode cX7_init 50 = .ok (.invokespecial 31, 3) := by decide +kernel
theorem dX7_init_53 : decode cX7_init 53 = .ok (.aastore, 1) := by decide +kernel
theorem dX7_init_54 : decode cX7_init 54 = .ok (.iinc 1 1, 3) := by decide +kernel
theorem dX7_init_57 : decode cX7_init 57 = .ok (.goto (-21), 3) := by decide +kernel
theorem dX7_init_60 : decode cX7_init 60 = .ok (.return_, 1) := by decide +kernel
theorem dX7_council_0 : decode cX7_council 0 = .ok (.aload_n 0, 1) := by decide +kernel
theorem dX7_council_1 : decode cX7_council 1 = .ok (.iconst 0, 1) := by decide +kernel
theorem dX7_council_2 : decode cX7_council 2 = .ok (.putfield 32, 3) := by decide +kernel
theorem dX7_council_5 : decode cX7_council 5 = .ok (.iload_n 1, 1) := by decide +kernel
theorem dX7_council_6 : decode cX7_council 6 = .ok (.invokestatic 36, 3) := by decide +kernel
theorem dX7_council_9 : decode cX7_council 9 = .ok (.ifCond .eq 5, 3) := by decide +kernel
theorem dX7_council_12 : decode cX7_council 12 = .ok (.iconst (-1), 1) := by decide +kernel
theorem dX7_council_13 : decode cX7_council 13 = .ok (.ireturn, 1) := by decide +kernel
theorem dX7_council_14 : decode cX7_council 14 = .ok (.iload_n 2, 1) := by decide +kernel
theorem dX7_council_15 : decode cX7_council 15 = .ok (.iconst 2, 1) := by decide +kernel
theorem dX7_council_16 : decode cX7_council 16 = .ok (.invokestatic 40, 3) := by decide +kernel
theorem dX7_council_19 : decode cX7_council 19 = .ok (.ifCond .ne 6, 3) := by decide +kernel
theorem dX7_council_22 : decode cX7_council 22 = .ok (.bipush (-2), 2) := by decide +kernel
theorem dX7_council_24 : decode cX7_council 24 = .ok (.ireturn, 1) := by decide +kernel
theorem dX7_council_25 : decode cX7_council 25 = .ok (.aload_n 0, 1) := by decide +kernel
theorem dX7_council_26 : decode cX7_council 26 = .ok (.getfield 27, 3) := by decide +kernel
theorem dX7_council_29 : decode cX7_council 29 = .ok (.iload_n 1, 1) := by decide +kernel
