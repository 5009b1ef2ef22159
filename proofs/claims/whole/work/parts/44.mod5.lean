theorem d_Mod_look_0 : decode b_Mod_look 0 = .ok (.iload_n 1, 1) := by decide +kernel
theorem d_Mod_look_1 : decode b_Mod_look 1 = .ok (.aload_n 0, 1) := by decide +kernel
theorem d_Mod_look_2 : decode b_Mod_look 2 = .ok (.getfield 78, 3) := by decide +kernel
theorem d_Mod_look_5 : decode b_Mod_look 5 = .ok (.if_icmp .ge 12, 3) := by decide +kernel
theorem d_Mod_look_8 : decode b_Mod_look 8 = .ok (.aload_n 0, 1) := by decide +kernel
theorem d_Mod_look_9 : decode b_Mod_look 9 = .ok (.getfield 7, 3) := by decide +kernel
theorem d_Mod_look_12 : decode b_Mod_look 12 = .ok (.iload_n 1, 1) := by decide +kernel
theorem d_Mod_look_13 : decode b_Mod_look 13 = .ok (.iaload, 1) := by decide +kernel
theorem d_Mod_look_14 : decode b_Mod_look 14 = .ok (.goto 4, 3) := by decide +kernel
theorem d_Mod_look_17 : decode b_Mod_look 17 = .ok (.iconst 0, 1) := by decide +kernel
theorem d_Mod_look_18 : decode b_Mod_look 18 = .ok (.ireturn, 1) := by decide +kernel
theorem d_Mod_digitOf_0 : decode b_Mod_digitOf 0 = .ok (.iload_n 0, 1) := by decide +kernel
theorem d_Mod_digitOf_1 : decode b_Mod_digitOf 1 = .ok (.bipush 48, 2) := by decide +kernel
theorem d_Mod_digitOf_3 : decode b_Mod_digitOf 3 = .ok (.if_icmp .lt 16, 3) := by decide +kernel
theorem d_Mod_digitOf_6 : decode b_Mod_digitOf 6 = .ok (.iload_n 0, 1) := by decide +kernel
theorem d_Mod_digitOf_7 : decode b_Mod_digitOf 7 = .ok (.bipush 57, 2) := by decide +kernel
theorem d_Mod_digitOf_9 : decode b_Mod_digitOf 9 = .ok (.if_icmp .gt 10, 3) := by decide +kernel
theorem d_Mod_digitOf_12 : decode b_Mod_digitOf 12 = .ok (.iload_n 0, 1) := by decide +kernel
theorem d_Mod_digitOf_13 : decode b_Mod_digitOf 13 = .ok (.bipush 48, 2) := by decide +kernel
theorem d_Mod_digitOf_15 : decode b_Mod_digitOf 15 = .ok (.isub, 1) := by decide +kernel
theorem d_Mod_digitOf_16 : decode b_Mod_digitOf 16 = .ok (.goto 49, 3) := by decide +kernel
theorem d_Mod_digitOf_19 : decode b_Mod_digitOf 19 = .ok (.iload_n 0, 1) := by decide +kernel
theorem d_Mod_digitOf_20 : decode b_Mod_digitOf 20 = .ok (.bipush 97, 2) := by decide +kernel
theorem d_Mod_digitOf_22 : decode b_Mod_digitOf 22 = .ok (.if_icmp .lt 19, 3) := by decide +kernel
theorem d_Mod_digitOf_25 : decode b_Mod_digitOf 25 = .ok (.iload_n 0, 1) := by decide +kernel
theorem d_Mod_digitOf_26 : decode b_Mod_digitOf 26 = .ok (.bipush 102, 2) := by decide +kernel
theorem d_Mod_digitOf_28 : decode b_Mod_digitOf 28 = .ok (.if_icmp .gt 13, 3) := by decide +kernel
theorem d_Mod_digitOf_31 : decode b_Mod_digitOf 31 = .ok (.iload_n 0, 1) := by decide +kernel
theorem d_Mod_digitOf_32 : decode b_Mod_digitOf 32 = .ok (.bipush 97, 2) := by decide +kernel
theorem d_Mod_digitOf_34 : decode b_Mod_digitOf 34 = .ok (.isub, 1) := by decide +kernel
theorem d_Mod_digitOf_35 : decode b_Mod_digitOf 35 = .ok (.bipush 10, 2) := by decide +kernel
theorem d_Mod_digitOf_37 : decode b_Mod_digitOf 37 = .ok (.iadd, 1) := by decide +kernel
theorem d_Mod_digitOf_38 : decode b_Mod_digitOf 38 = .ok (.goto 27, 3) := by decide +kernel
theorem d_Mod_digitOf_41 : decode b_Mod_digitOf 41 = .ok (.iload_n 0, 1) := by decide +kernel
theorem d_Mod_digitOf_42 : decode b_Mod_digitOf 42 = .ok (.bipush 65, 2) := by decide +kernel
theorem d_Mod_digitOf_44 : decode b_Mod_digitOf 44 = .ok (.if_icmp .lt 19, 3) := by decide +kernel
theorem d_Mod_digitOf_47 : decode b_Mod_digitOf 47 = .ok (.iload_n 0, 1) := by decide +kernel
theorem d_Mod_digitOf_48 : decode b_Mod_digitOf 48 = .ok (.bipush 70, 2) := by decide +kernel
theorem d_Mod_digitOf_50 : decode b_Mod_digitOf 50 = .ok (.if_icmp .gt 13, 3) := by decide +kernel
theorem d_Mod_digitOf_53 : decode b_Mod_digitOf 53 = .ok (.iload_n 0, 1) := by decide +kernel
theorem d_Mod_digitOf_54 : decode b_Mod_digitOf 54 = .ok (.bipush 65, 2) := by decide +kernel
theorem d_Mod_digitOf_56 : decode b_Mod_digitOf 56 = .ok (.isub, 1) := by decide +kernel
theorem d_Mod_digitOf_57 : decode b_Mod_digitOf 57 = .ok (.bipush 10, 2) := by decide +kernel
theorem d_Mod_digitOf_59 : decode b_Mod_digitOf 59 = .ok (.iadd, 1) := by decide +kernel
theorem d_Mod_digitOf_60 : decode b_Mod_digitOf 60 = .ok (.goto 5, 3) := by decide +kernel
theorem d_Mod_digitOf_63 : decode b_Mod_digitOf 63 = .ok (.bipush 99, 2) := by decide +kernel
theorem d_Mod_digitOf_65 : decode b_Mod_digitOf 65 = .ok (.ireturn, 1) := by decide +kernel
theorem d_Mod_skips_0 : decode b_Mod_skips 0 = .ok (.aload_n 0, 1) := by decide +kernel
theorem d_Mod_skips_1 : decode b_Mod_skips 1 = .ok (.aload_n 0, 1) := by decide +kernel
theorem d_Mod_skips_2 : decode b_Mod_skips 2 = .ok (.getfield 81, 3) := by decide +kernel
theorem d_Mod_skips_5 : decode b_Mod_skips 5 = .ok (.invokevirtual 84, 3) := by decide +kernel
theorem d_Mod_skips_8 : decode b_Mod_skips 8 = .ok (.iload_n 1, 1) := by decide +kernel
theorem d_Mod_skips_9 : decode b_Mod_skips 9 = .ok (.if_icmp .eq 17, 3) := by decide +kernel
theorem d_Mod_skips_12 : decode b_Mod_skips 12 = .ok (.aload_n 0, 1) := by decide +kernel
theorem d_Mod_skips_13 : decode b_Mod_skips 13 = .ok (.aload_n 0, 1) := by decide +kernel
theorem d_Mod_skips_14 : decode b_Mod_skips 14 = .ok (.getfield 81, 3) := by decide +kernel
theorem d_Mod_skips_17 : decode b_Mod_skips 17 = .ok (.invokevirtual 84, 3) := by decide +kernel
theorem d_Mod_skips_20 : decode b_Mod_skips 20 = .ok (.iload_n 2, 1) := by decide +kernel
theorem d_Mod_skips_21 : decode b_Mod_skips 21 = .ok (.if_icmp .eq 5, 3) := by decide +kernel
theorem d_Mod_skips_24 : decode b_Mod_skips 24 = .ok (.iconst 0, 1) := by decide +kernel
theorem d_Mod_skips_25 : decode b_Mod_skips 25 = .ok (.ireturn, 1) := by decide +kernel
theorem d_Mod_skips_26 : decode b_Mod_skips 26 = .ok (.aload_n 0, 1) := by decide +kernel
theorem d_Mod_skips_27 : decode b_Mod_skips 27 = .ok (.dup, 1) := by decide +kernel
theorem d_Mod_skips_28 : decode b_Mod_skips 28 = .ok (.getfield 81, 3) := by decide +kernel
theorem d_Mod_skips_31 : decode b_Mod_skips 31 = .ok (.iconst 1, 1) := by decide +kernel
theorem d_Mod_skips_32 : decode b_Mod_skips 32 = .ok (.iadd, 1) := by decide +kernel
theorem d_Mod_skips_33 : decode b_Mod_skips 33 = .ok (.putfield 81, 3) := by decide +kernel
theorem d_Mod_skips_36 : decode b_Mod_skips 36 = .ok (.iconst 1, 1) := by decide +kernel
theorem d_Mod_skips_37 : decode b_Mod_skips 37 = .ok (.ireturn, 1) := by decide +kernel
theorem d_Mod_digits_0 : decode b_Mod_digits 0 = .ok (.iload_n 1, 1) := by decide +kernel
theorem d_Mod_digits_1 : decode b_Mod_digits 1 = .ok (.istore_n 3, 1) := by decide +kernel
theorem d_Mod_digits_2 : decode b_Mod_digits 2 = .ok (.aload_n 0, 1) := by decide +kernel
theorem d_Mod_digits_3 : decode b_Mod_digits 3 = .ok (.iload_n 3, 1) := by decide +kernel
theorem d_Mod_digits_4 : decode b_Mod_digits 4 = .ok (.invokevirtual 84, 3) := by decide +kernel
theorem d_Mod_digits_7 : decode b_Mod_digits 7 = .ok (.invokestatic 87, 3) := by decide +kernel
theorem d_Mod_digits_10 : decode b_Mod_digits 10 = .ok (.iload_n 2, 1) := by decide +kernel
theorem d_Mod_digits_11 : decode b_Mod_digits 11 = .ok (.if_icmp .ge 9, 3) := by decide +kernel
theorem d_Mod_digits_14 : decode b_Mod_digits 14 = .ok (.iinc 3 1, 3) := by decide +kernel
theorem d_Mod_digits_17 : decode b_Mod_digits 17 = .ok (.goto (-15), 3) := by decide +kernel
theorem d_Mod_digits_20 : decode b_Mod_digits 20 = .ok (.iload_n 3, 1) := by decide +kernel
theorem d_Mod_digits_21 : decode b_Mod_digits 21 = .ok (.iload_n 1, 1) := by decide +kernel
theorem d_Mod_digits_22 : decode b_Mod_digits 22 = .ok (.isub, 1) := by decide +kernel
theorem d_Mod_digits_23 : decode b_Mod_digits 23 = .ok (.ireturn, 1) := by decide +kernel
theorem d_Mod_isWord_0 : decode b_Mod_isWord 0 = .ok (.aload_n 0, 1) := by decide +kernel
theorem d_Mod_isWord_1 : decode b_Mod_isWord 1 = .ok (.getfield 78, 3) := by decide +kernel
theorem d_Mod_isWord_4 : decode b_Mod_isWord 4 = .ok (.aload_n 0, 1) := by decide +kernel
theorem d_Mod_isWord_5 : decode b_Mod_isWord 5 = .ok (.getfield 81, 3) := by decide +kernel
theorem d_Mod_isWord_8 : decode b_Mod_isWord 8 = .ok (.isub, 1) := by decide +kernel
theorem d_Mod_isWord_9 : decode b_Mod_isWord 9 = .ok (.iload 4, 2) := by decide +kernel
theorem d_Mod_isWord_11 : decode b_Mod_isWord 11 = .ok (.if_icmp .ne 47, 3) := by decide +kernel
theorem d_Mod_isWord_14 : decode b_Mod_isWord 14 = .ok (.aload_n 0, 1) := by decide +kernel
theorem d_Mod_isWord_15 : decode b_Mod_isWord 15 = .ok (.aload_n 0, 1) := by decide +kernel
theorem d_Mod_isWord_16 : decode b_Mod_isWord 16 = .ok (.getfield 81, 3) := by decide +kernel
theorem d_Mod_isWord_19 : decode b_Mod_isWord 19 = .ok (.invokevirtual 84, 3) := by decide +kernel
theorem d_Mod_isWord_22 : decode b_Mod_isWord 22 = .ok (.iload_n 1, 1) := by decide +kernel
theorem d_Mod_isWord_23 : decode b_Mod_isWord 23 = .ok (.if_icmp .ne 35, 3) := by decide +kernel
theorem d_Mod_isWord_26 : decode b_Mod_isWord 26 = .ok (.aload_n 0, 1) := by decide +kernel
theorem d_Mod_isWord_27 : decode b_Mod_isWord 27 = .ok (.aload_n 0, 1) := by decide +kernel
theorem d_Mod_isWord_28 : decode b_Mod_isWord 28 = .ok (.getfield 81, 3) := by decide +kernel
theorem d_Mod_isWord_31 : decode b_Mod_isWord 31 = .ok (.iconst 1, 1) := by decide +kernel
theorem d_Mod_isWord_32 : decode b_Mod_isWord 32 = .ok (.iadd, 1) := by decide +kernel
theorem d_Mod_isWord_33 : decode b_Mod_isWord 33 = .ok (.invokevirtual 84, 3) := by decide +kernel
theorem d_Mod_isWord_36 : decode b_Mod_isWord 36 = .ok (.iload_n 2, 1) := by decide +kernel
theorem d_Mod_isWord_37 : decode b_Mod_isWord 37 = .ok (.if_icmp .ne 21, 3) := by decide +kernel
theorem d_Mod_isWord_40 : decode b_Mod_isWord 40 = .ok (.aload_n 0, 1) := by decide +kernel
theorem d_Mod_isWord_41 : decode b_Mod_isWord 41 = .ok (.aload_n 0, 1) := by decide +kernel
theorem d_Mod_isWord_42 : decode b_Mod_isWord 42 = .ok (.getfield 81, 3) := by decide +kernel
theorem d_Mod_isWord_45 : decode b_Mod_isWord 45 = .ok (.iconst 2, 1) := by decide +kernel
theorem d_Mod_isWord_46 : decode b_Mod_isWord 46 = .ok (.iadd, 1) := by decide +kernel
theorem d_Mod_isWord_47 : decode b_Mod_isWord 47 = .ok (.invokevirtual 84, 3) := by decide +kernel
theorem d_Mod_isWord_50 : decode b_Mod_isWord 50 = .ok (.iload_n 3, 1) := by decide +kernel
theorem d_Mod_isWord_51 : decode b_Mod_isWord 51 = .ok (.if_icmp .ne 7, 3) := by decide +kernel
theorem d_Mod_isWord_54 : decode b_Mod_isWord 54 = .ok (.iconst 1, 1) := by decide +kernel
theorem d_Mod_isWord_55 : decode b_Mod_isWord 55 = .ok (.goto 4, 3) := by decide +kernel
theorem d_Mod_isWord_58 : decode b_Mod_isWord 58 = .ok (.iconst 0, 1) := by decide +kernel
theorem d_Mod_isWord_59 : decode b_Mod_isWord 59 = .ok (.ireturn, 1) := by decide +kernel
theorem d_Mod_isInfinity_0 : decode b_Mod_isInfinity 0 = .ok (.aload_n 0, 1) := by decide +kernel
theorem d_Mod_isInfinity_1 : decode b_Mod_isInfinity 1 = .ok (.bipush 73, 2) := by decide +kernel
theorem d_Mod_isInfinity_3 : decode b_Mod_isInfinity 3 = .ok (.bipush 110, 2) := by decide +kernel
theorem d_Mod_isInfinity_5 : decode b_Mod_isInfinity 5 = .ok (.bipush 102, 2) := by decide +kernel
theorem d_Mod_isInfinity_7 : decode b_Mod_isInfinity 7 = .ok (.bipush 8, 2) := by decide +kernel
theorem d_Mod_isInfinity_9 : decode b_Mod_isInfinity 9 = .ok (.invokevirtual 90, 3) := by decide +kernel
theorem d_Mod_isInfinity_12 : decode b_Mod_isInfinity 12 = .ok (.ifCond .eq 84, 3) := by decide +kernel
theorem d_Mod_isInfinity_15 : decode b_Mod_isInfinity 15 = .ok (.aload_n 0, 1) := by decide +kernel
theorem d_Mod_isInfinity_16 : decode b_Mod_isInfinity 16 = .ok (.aload_n 0, 1) := by decide +kernel
theorem d_Mod_isInfinity_17 : decode b_Mod_isInfinity 17 = .ok (.getfield 81, 3) := by decide +kernel
theorem d_Mod_isInfinity_20 : decode b_Mod_isInfinity 20 = .ok (.iconst 3, 1) := by decide +kernel
theorem d_Mod_isInfinity_21 : decode b_Mod_isInfinity 21 = .ok (.iadd, 1) := by decide +kernel
theorem d_Mod_isInfinity_22 : decode b_Mod_isInfinity 22 = .ok (.invokevirtual 84, 3) := by decide +kernel
theorem d_Mod_isInfinity_25 : decode b_Mod_isInfinity 25 = .ok (.bipush 105, 2) := by decide +kernel
theorem d_Mod_isInfinity_27 : decode b_Mod_isInfinity 27 = .ok (.if_icmp .ne 69, 3) := by decide +kernel
theorem d_Mod_isInfinity_30 : decode b_Mod_isInfinity 30 = .ok (.aload_n 0, 1) := by decide +kernel
theorem d_Mod_isInfinity_31 : decode b_Mod_isInfinity 31 = .ok (.aload_n 0, 1) := by decide +kernel
theorem d_Mod_isInfinity_32 : decode b_Mod_isInfinity 32 = .ok (.getfield 81, 3) := by decide +kernel
theorem d_Mod_isInfinity_35 : decode b_Mod_isInfinity 35 = .ok (.iconst 4, 1) := by decide +kernel
theorem d_Mod_isInfinity_36 : decode b_Mod_isInfinity 36 = .ok (.iadd, 1) := by decide +kernel
theorem d_Mod_isInfinity_37 : decode b_Mod_isInfinity 37 = .ok (.invokevirtual 84, 3) := by decide +kernel
theorem d_Mod_isInfinity_40 : decode b_Mod_isInfinity 40 = .ok (.bipush 110, 2) := by decide +kernel
theorem d_Mod_isInfinity_42 : decode b_Mod_isInfinity 42 = .ok (.if_icmp .ne 54, 3) := by decide +kernel
theorem d_Mod_isInfinity_45 : decode b_Mod_isInfinity 45 = .ok (.aload_n 0, 1) := by decide +kernel
theorem d_Mod_isInfinity_46 : decode b_Mod_isInfinity 46 = .ok (.aload_n 0, 1) := by decide +kernel
theorem d_Mod_isInfinity_47 : decode b_Mod_isInfinity 47 = .ok (.getfield 81, 3) := by decide +kernel
theorem d_Mod_isInfinity_50 : decode b_Mod_isInfinity 50 = .ok (.iconst 5, 1) := by decide +kernel
theorem d_Mod_isInfinity_51 : decode b_Mod_isInfinity 51 = .ok (.iadd, 1) := by decide +kernel
theorem d_Mod_isInfinity_52 : decode b_Mod_isInfinity 52 = .ok (.invokevirtual 84, 3) := by decide +kernel
theorem d_Mod_isInfinity_55 : decode b_Mod_isInfinity 55 = .ok (.bipush 105, 2) := by decide +kernel
theorem d_Mod_isInfinity_57 : decode b_Mod_isInfinity 57 = .ok (.if_icmp .ne 39, 3) := by decide +kernel
theorem d_Mod_isInfinity_60 : decode b_Mod_isInfinity 60 = .ok (.aload_n 0, 1) := by decide +kernel
theorem d_Mod_isInfinity_61 : decode b_Mod_isInfinity 61 = .ok (.aload_n 0, 1) := by decide +kernel
theorem d_Mod_isInfinity_62 : decode b_Mod_isInfinity 62 = .ok (.getfield 81, 3) := by decide +kernel
theorem d_Mod_isInfinity_65 : decode b_Mod_isInfinity 65 = .ok (.bipush 6, 2) := by decide +kernel
theorem d_Mod_isInfinity_67 : decode b_Mod_isInfinity 67 = .ok (.iadd, 1) := by decide +kernel
theorem d_Mod_isInfinity_68 : decode b_Mod_isInfinity 68 = .ok (.invokevirtual 84, 3) := by decide +kernel
theorem d_Mod_isInfinity_71 : decode b_Mod_isInfinity 71 = .ok (.bipush 116, 2) := by decide +kernel
theorem d_Mod_isInfinity_73 : decode b_Mod_isInfinity 73 = .ok (.if_icmp .ne 23, 3) := by decide +kernel
theorem d_Mod_isInfinity_76 : decode b_Mod_isInfinity 76 = .ok (.aload_n 0, 1) := by decide +kernel
theorem d_Mod_isInfinity_77 : decode b_Mod_isInfinity 77 = .ok (.aload_n 0, 1) := by decide +kernel
theorem d_Mod_isInfinity_78 : decode b_Mod_isInfinity 78 = .ok (.getfield 81, 3) := by decide +kernel
theorem d_Mod_isInfinity_81 : decode b_Mod_isInfinity 81 = .ok (.bipush 7, 2) := by decide +kernel
theorem d_Mod_isInfinity_83 : decode b_Mod_isInfinity 83 = .ok (.iadd, 1) := by decide +kernel
theorem d_Mod_isInfinity_84 : decode b_Mod_isInfinity 84 = .ok (.invokevirtual 84, 3) := by decide +kernel
theorem d_Mod_isInfinity_87 : decode b_Mod_isInfinity 87 = .ok (.bipush 121, 2) := by decide +kernel
theorem d_Mod_isInfinity_89 : decode b_Mod_isInfinity 89 = .ok (.if_icmp .ne 7, 3) := by decide +kernel
theorem d_Mod_isInfinity_92 : decode b_Mod_isInfinity 92 = .ok (.iconst 1, 1) := by decide +kernel
theorem d_Mod_isInfinity_93 : decode b_Mod_isInfinity 93 = .ok (.goto 4, 3) := by decide +kernel
theorem d_Mod_isInfinity_96 : decode b_Mod_isInfinity 96 = .ok (.iconst 0, 1) := by decide +kernel
theorem d_Mod_isInfinity_97 : decode b_Mod_isInfinity 97 = .ok (.ireturn, 1) := by decide +kernel
theorem d_Mod_gather_0 : decode b_Mod_gather 0 = .ok (.aload_n 0, 1) := by decide +kernel
theorem d_Mod_gather_1 : decode b_Mod_gather 1 = .ok (.iconst 0, 1) := by decide +kernel
theorem d_Mod_gather_2 : decode b_Mod_gather 2 = .ok (.lconst 0, 1) := by decide +kernel
theorem d_Mod_gather_3 : decode b_Mod_gather 3 = .ok (.invokevirtual 138, 3) := by decide +kernel
theorem d_Mod_gather_6 : decode b_Mod_gather 6 = .ok (.iload_n 1, 1) := by decide +kernel
theorem d_Mod_gather_7 : decode b_Mod_gather 7 = .ok (.istore 5, 2) := by decide +kernel
theorem d_Mod_gather_9 : decode b_Mod_gather 9 = .ok (.iload 5, 2) := by decide +kernel
theorem d_Mod_gather_11 : decode b_Mod_gather 11 = .ok (.iload_n 2, 1) := by decide +kernel
theorem d_Mod_gather_12 : decode b_Mod_gather 12 = .ok (.if_icmp .ge 26, 3) := by decide +kernel
theorem d_Mod_gather_15 : decode b_Mod_gather 15 = .ok (.aload_n 0, 1) := by decide +kernel
theorem d_Mod_gather_16 : decode b_Mod_gather 16 = .ok (.iconst 0, 1) := by decide +kernel
theorem d_Mod_gather_17 : decode b_Mod_gather 17 = .ok (.iload 4, 2) := by decide +kernel
theorem d_Mod_gather_19 : decode b_Mod_gather 19 = .ok (.aload_n 0, 1) := by decide +kernel
theorem d_Mod_gather_20 : decode b_Mod_gather 20 = .ok (.getfield 7, 3) := by decide +kernel
theorem d_Mod_gather_23 : decode b_Mod_gather 23 = .ok (.iload 5, 2) := by decide +kernel
theorem d_Mod_gather_25 : decode b_Mod_gather 25 = .ok (.iaload, 1) := by decide +kernel
theorem d_Mod_gather_26 : decode b_Mod_gather 26 = .ok (.invokestatic 87, 3) := by decide +kernel
theorem d_Mod_gather_29 : decode b_Mod_gather 29 = .ok (.invokevirtual 26, 3) := by decide +kernel
theorem d_Mod_gather_32 : decode b_Mod_gather 32 = .ok (.iinc 5 1, 3) := by decide +kernel
theorem d_Mod_gather_35 : decode b_Mod_gather 35 = .ok (.goto (-26), 3) := by decide +kernel
theorem d_Mod_gather_38 : decode b_Mod_gather 38 = .ok (.iload_n 2, 1) := by decide +kernel
theorem d_Mod_gather_39 : decode b_Mod_gather 39 = .ok (.iconst 1, 1) := by decide +kernel
theorem d_Mod_gather_40 : decode b_Mod_gather 40 = .ok (.iadd, 1) := by decide +kernel
theorem d_Mod_gather_41 : decode b_Mod_gather 41 = .ok (.istore 5, 2) := by decide +kernel
theorem d_Mod_gather_43 : decode b_Mod_gather 43 = .ok (.iload 5, 2) := by decide +kernel
theorem d_Mod_gather_45 : decode b_Mod_gather 45 = .ok (.iload_n 2, 1) := by decide +kernel
theorem d_Mod_gather_46 : decode b_Mod_gather 46 = .ok (.iconst 1, 1) := by decide +kernel
theorem d_Mod_gather_47 : decode b_Mod_gather 47 = .ok (.iadd, 1) := by decide +kernel
theorem d_Mod_gather_48 : decode b_Mod_gather 48 = .ok (.iload_n 3, 1) := by decide +kernel
theorem d_Mod_gather_49 : decode b_Mod_gather 49 = .ok (.iadd, 1) := by decide +kernel
theorem d_Mod_gather_50 : decode b_Mod_gather 50 = .ok (.if_icmp .ge 26, 3) := by decide +kernel
theorem d_Mod_gather_53 : decode b_Mod_gather 53 = .ok (.aload_n 0, 1) := by decide +kernel
theorem d_Mod_gather_54 : decode b_Mod_gather 54 = .ok (.iconst 0, 1) := by decide +kernel
theorem d_Mod_gather_55 : decode b_Mod_gather 55 = .ok (.iload 4, 2) := by decide +kernel
theorem d_Mod_gather_57 : decode b_Mod_gather 57 = .ok (.aload_n 0, 1) := by decide +kernel
theorem d_Mod_gather_58 : decode b_Mod_gather 58 = .ok (.getfield 7, 3) := by decide +kernel
theorem d_Mod_gather_61 : decode b_Mod_gather 61 = .ok (.iload 5, 2) := by decide +kernel
theorem d_Mod_gather_63 : decode b_Mod_gather 63 = .ok (.iaload, 1) := by decide +kernel
theorem d_Mod_gather_64 : decode b_Mod_gather 64 = .ok (.invokestatic 87, 3) := by decide +kernel
theorem d_Mod_gather_67 : decode b_Mod_gather 67 = .ok (.invokevirtual 26, 3) := by decide +kernel
theorem d_Mod_gather_70 : decode b_Mod_gather 70 = .ok (.iinc 5 1, 3) := by decide +kernel
theorem d_Mod_gather_73 : decode b_Mod_gather 73 = .ok (.goto (-30), 3) := by decide +kernel
theorem d_Mod_gather_76 : decode b_Mod_gather 76 = .ok (.return_, 1) := by decide +kernel
theorem d_Mod_sized16_0 : decode b_Mod_sized16 0 = .ok (.aload_n 0, 1) := by decide +kernel
theorem d_Mod_sized16_1 : decode b_Mod_sized16 1 = .ok (.iload_n 1, 1) := by decide +kernel
theorem d_Mod_sized16_2 : decode b_Mod_sized16 2 = .ok (.iload_n 2, 1) := by decide +kernel
theorem d_Mod_sized16_3 : decode b_Mod_sized16 3 = .ok (.iload_n 3, 1) := by decide +kernel
theorem d_Mod_sized16_4 : decode b_Mod_sized16 4 = .ok (.bipush 16, 2) := by decide +kernel
theorem d_Mod_sized16_6 : decode b_Mod_sized16 6 = .ok (.invokevirtual 142, 3) := by decide +kernel
theorem d_Mod_sized16_9 : decode b_Mod_sized16 9 = .ok (.aload_n 0, 1) := by decide +kernel
theorem d_Mod_sized16_10 : decode b_Mod_sized16 10 = .ok (.iconst 1, 1) := by decide +kernel
theorem d_Mod_sized16_11 : decode b_Mod_sized16 11 = .ok (.lconst 1, 1) := by decide +kernel
theorem d_Mod_sized16_12 : decode b_Mod_sized16 12 = .ok (.invokevirtual 138, 3) := by decide +kernel
theorem d_Mod_sized16_15 : decode b_Mod_sized16 15 = .ok (.lload 4, 2) := by decide +kernel
theorem d_Mod_sized16_17 : decode b_Mod_sized16 17 = .ok (.ldc2_w 146, 3) := by decide +kernel
theorem d_Mod_sized16_20 : decode b_Mod_sized16 20 = .ok (.iload_n 3, 1) := by decide +kernel
theorem d_Mod_sized16_21 : decode b_Mod_sized16 21 = .ok (.i2l, 1) := by decide +kernel
theorem d_Mod_sized16_22 : decode b_Mod_sized16 22 = .ok (.lmul, 1) := by decide +kernel
theorem d_Mod_sized16_23 : decode b_Mod_sized16 23 = .ok (.lsub, 1) := by decide +kernel
theorem d_Mod_sized16_24 : decode b_Mod_sized16 24 = .ok (.lstore 7, 2) := by decide +kernel
theorem d_Mod_sized16_26 : decode b_Mod_sized16 26 = .ok (.aload_n 0, 1) := by decide +kernel
theorem d_Mod_sized16_27 : decode b_Mod_sized16 27 = .ok (.getfield 16, 3) := by decide +kernel
theorem d_Mod_sized16_30 : decode b_Mod_sized16 30 = .ok (.iconst 0, 1) := by decide +kernel
theorem d_Mod_sized16_31 : decode b_Mod_sized16 31 = .ok (.iaload, 1) := by decide +kernel
theorem d_Mod_sized16_32 : decode b_Mod_sized16 32 = .ok (.ifCond .eq 19, 3) := by decide +kernel
theorem d_Mod_sized16_35 : decode b_Mod_sized16 35 = .ok (.aload_n 0, 1) := by decide +kernel
theorem d_Mod_sized16_36 : decode b_Mod_sized16 36 = .ok (.iconst 0, 1) := by decide +kernel
theorem d_Mod_sized16_37 : decode b_Mod_sized16 37 = .ok (.invokevirtual 42, 3) := by decide +kernel
theorem d_Mod_sized16_40 : decode b_Mod_sized16 40 = .ok (.i2l, 1) := by decide +kernel
theorem d_Mod_sized16_41 : decode b_Mod_sized16 41 = .ok (.lload 7, 2) := by decide +kernel
theorem d_Mod_sized16_43 : decode b_Mod_sized16 43 = .ok (.ladd, 1) := by decide +kernel
theorem d_Mod_sized16_44 : decode b_Mod_sized16 44 = .ok (.ldc2_w 148, 3) := by decide +kernel
theorem d_Mod_sized16_47 : decode b_Mod_sized16 47 = .ok (.lcmp, 1) := by decide +kernel
theorem d_Mod_sized16_48 : decode b_Mod_sized16 48 = .ok (.ifCond .ge 5, 3) := by decide +kernel
theorem d_Mod_sized16_51 : decode b_Mod_sized16 51 = .ok (.lconst 0, 1) := by decide +kernel
theorem d_Mod_sized16_52 : decode b_Mod_sized16 52 = .ok (.lreturn, 1) := by decide +kernel
theorem d_Mod_sized16_53 : decode b_Mod_sized16 53 = .ok (.aload_n 0, 1) := by decide +kernel
theorem d_Mod_sized16_54 : decode b_Mod_sized16 54 = .ok (.iconst 0, 1) := by decide +kernel
theorem d_Mod_sized16_55 : decode b_Mod_sized16 55 = .ok (.invokevirtual 42, 3) := by decide +kernel
theorem d_Mod_sized16_58 : decode b_Mod_sized16 58 = .ok (.i2l, 1) := by decide +kernel
theorem d_Mod_sized16_59 : decode b_Mod_sized16 59 = .ok (.lload 7, 2) := by decide +kernel
theorem d_Mod_sized16_61 : decode b_Mod_sized16 61 = .ok (.ladd, 1) := by decide +kernel
theorem d_Mod_sized16_62 : decode b_Mod_sized16 62 = .ok (.ldc2_w 150, 3) := by decide +kernel
theorem d_Mod_sized16_65 : decode b_Mod_sized16 65 = .ok (.lcmp, 1) := by decide +kernel
theorem d_Mod_sized16_66 : decode b_Mod_sized16 66 = .ok (.ifCond .le 9, 3) := by decide +kernel
theorem d_Mod_sized16_69 : decode b_Mod_sized16 69 = .ok (.iload 6, 2) := by decide +kernel
theorem d_Mod_sized16_71 : decode b_Mod_sized16 71 = .ok (.invokestatic 46, 3) := by decide +kernel
theorem d_Mod_sized16_74 : decode b_Mod_sized16 74 = .ok (.lreturn, 1) := by decide +kernel
theorem d_Mod_sized16_75 : decode b_Mod_sized16 75 = .ok (.lload 7, 2) := by decide +kernel
theorem d_Mod_sized16_77 : decode b_Mod_sized16 77 = .ok (.lconst 0, 1) := by decide +kernel
theorem d_Mod_sized16_78 : decode b_Mod_sized16 78 = .ok (.lcmp, 1) := by decide +kernel
theorem d_Mod_sized16_79 : decode b_Mod_sized16 79 = .ok (.ifCond .ge 15, 3) := by decide +kernel
theorem d_Mod_sized16_82 : decode b_Mod_sized16 82 = .ok (.aload_n 0, 1) := by decide +kernel
theorem d_Mod_sized16_83 : decode b_Mod_sized16 83 = .ok (.iconst 1, 1) := by decide +kernel
theorem d_Mod_sized16_84 : decode b_Mod_sized16 84 = .ok (.lload 7, 2) := by decide +kernel
theorem d_Mod_sized16_86 : decode b_Mod_sized16 86 = .ok (.lneg, 1) := by decide +kernel
theorem d_Mod_sized16_87 : decode b_Mod_sized16 87 = .ok (.l2i, 1) := by decide +kernel
theorem d_Mod_sized16_88 : decode b_Mod_sized16 88 = .ok (.invokevirtual 50, 3) := by decide +kernel
theorem d_Mod_sized16_91 : decode b_Mod_sized16 91 = .ok (.goto 11, 3) := by decide +kernel
theorem d_Mod_sized16_94 : decode b_Mod_sized16 94 = .ok (.aload_n 0, 1) := by decide +kernel
theorem d_Mod_sized16_95 : decode b_Mod_sized16 95 = .ok (.iconst 0, 1) := by decide +kernel
theorem d_Mod_sized16_96 : decode b_Mod_sized16 96 = .ok (.lload 7, 2) := by decide +kernel
theorem d_Mod_sized16_98 : decode b_Mod_sized16 98 = .ok (.l2i, 1) := by decide +kernel
theorem d_Mod_sized16_99 : decode b_Mod_sized16 99 = .ok (.invokevirtual 50, 3) := by decide +kernel
theorem d_Mod_sized16_102 : decode b_Mod_sized16 102 = .ok (.aload_n 0, 1) := by decide +kernel
theorem d_Mod_sized16_103 : decode b_Mod_sized16 103 = .ok (.iload 6, 2) := by decide +kernel
theorem d_Mod_sized16_105 : decode b_Mod_sized16 105 = .ok (.invokevirtual 152, 3) := by decide +kernel
theorem d_Mod_sized16_108 : decode b_Mod_sized16 108 = .ok (.lreturn, 1) := by decide +kernel
theorem d_Mod_sized10_0 : decode b_Mod_sized10 0 = .ok (.aload_n 0, 1) := by decide +kernel
theorem d_Mod_sized10_1 : decode b_Mod_sized10 1 = .ok (.iload_n 1, 1) := by decide +kernel
theorem d_Mod_sized10_2 : decode b_Mod_sized10 2 = .ok (.iload_n 2, 1) := by decide +kernel
theorem d_Mod_sized10_3 : decode b_Mod_sized10 3 = .ok (.iload_n 3, 1) := by decide +kernel
theorem d_Mod_sized10_4 : decode b_Mod_sized10 4 = .ok (.bipush 10, 2) := by decide +kernel
theorem d_Mod_sized10_6 : decode b_Mod_sized10 6 = .ok (.invokevirtual 142, 3) := by decide +kernel
theorem d_Mod_sized10_9 : decode b_Mod_sized10 9 = .ok (.aload_n 0, 1) := by decide +kernel
theorem d_Mod_sized10_10 : decode b_Mod_sized10 10 = .ok (.iconst 1, 1) := by decide +kernel
theorem d_Mod_sized10_11 : decode b_Mod_sized10 11 = .ok (.lconst 1, 1) := by decide +kernel
theorem d_Mod_sized10_12 : decode b_Mod_sized10 12 = .ok (.invokevirtual 138, 3) := by decide +kernel
theorem d_Mod_sized10_15 : decode b_Mod_sized10 15 = .ok (.iload_n 1, 1) := by decide +kernel
theorem d_Mod_sized10_16 : decode b_Mod_sized10 16 = .ok (.istore 7, 2) := by decide +kernel
theorem d_Mod_sized10_18 : decode b_Mod_sized10 18 = .ok (.iload 7, 2) := by decide +kernel
theorem d_Mod_sized10_20 : decode b_Mod_sized10 20 = .ok (.iload_n 2, 1) := by decide +kernel
theorem d_Mod_sized10_21 : decode b_Mod_sized10 21 = .ok (.iconst 1, 1) := by decide +kernel
theorem d_Mod_sized10_22 : decode b_Mod_sized10 22 = .ok (.iadd, 1) := by decide +kernel
theorem d_Mod_sized10_23 : decode b_Mod_sized10 23 = .ok (.iload_n 3, 1) := by decide +kernel
theorem d_Mod_sized10_24 : decode b_Mod_sized10 24 = .ok (.iadd, 1) := by decide +kernel
theorem d_Mod_sized10_25 : decode b_Mod_sized10 25 = .ok (.if_icmp .ge 36, 3) := by decide +kernel
theorem d_Mod_sized10_28 : decode b_Mod_sized10 28 = .ok (.iload 7, 2) := by decide +kernel
theorem d_Mod_sized10_30 : decode b_Mod_sized10 30 = .ok (.iload_n 2, 1) := by decide +kernel
theorem d_Mod_sized10_31 : decode b_Mod_sized10 31 = .ok (.if_icmp .eq 15, 3) := by decide +kernel
theorem d_Mod_sized10_34 : decode b_Mod_sized10 34 = .ok (.aload_n 0, 1) := by decide +kernel
theorem d_Mod_sized10_35 : decode b_Mod_sized10 35 = .ok (.getfield 7, 3) := by decide +kernel
theorem d_Mod_sized10_38 : decode b_Mod_sized10 38 = .ok (.iload 7, 2) := by decide +kernel
theorem d_Mod_sized10_40 : decode b_Mod_sized10 40 = .ok (.iaload, 1) := by decide +kernel
theorem d_Mod_sized10_41 : decode b_Mod_sized10 41 = .ok (.bipush 48, 2) := by decide +kernel
theorem d_Mod_sized10_43 : decode b_Mod_sized10 43 = .ok (.if_icmp .ne 18, 3) := by decide +kernel
theorem d_Mod_sized10_46 : decode b_Mod_sized10 46 = .ok (.iload 7, 2) := by decide +kernel
theorem d_Mod_sized10_48 : decode b_Mod_sized10 48 = .ok (.aload_n 0, 1) := by decide +kernel
theorem d_Mod_sized10_49 : decode b_Mod_sized10 49 = .ok (.getfield 78, 3) := by decide +kernel
theorem d_Mod_sized10_52 : decode b_Mod_sized10 52 = .ok (.if_icmp .ge 9, 3) := by decide +kernel
theorem d_Mod_sized10_55 : decode b_Mod_sized10 55 = .ok (.iinc 7 1, 3) := by decide +kernel
theorem d_Mod_sized10_58 : decode b_Mod_sized10 58 = .ok (.goto (-40), 3) := by decide +kernel
theorem d_Mod_sized10_61 : decode b_Mod_sized10 61 = .ok (.iload 7, 2) := by decide +kernel
theorem d_Mod_sized10_63 : decode b_Mod_sized10 63 = .ok (.iload_n 2, 1) := by decide +kernel
theorem d_Mod_sized10_64 : decode b_Mod_sized10 64 = .ok (.if_icmp .ge 12, 3) := by decide +kernel
theorem d_Mod_sized10_67 : decode b_Mod_sized10 67 = .ok (.iload_n 2, 1) := by decide +kernel
theorem d_Mod_sized10_68 : decode b_Mod_sized10 68 = .ok (.iload 7, 2) := by decide +kernel
theorem d_Mod_sized10_70 : decode b_Mod_sized10 70 = .ok (.isub, 1) := by decide +kernel
theorem d_Mod_sized10_71 : decode b_Mod_sized10 71 = .ok (.iload_n 3, 1) := by decide +kernel
theorem d_Mod_sized10_72 : decode b_Mod_sized10 72 = .ok (.iadd, 1) := by decide +kernel
theorem d_Mod_sized10_73 : decode b_Mod_sized10 73 = .ok (.goto 11, 3) := by decide +kernel
theorem d_Mod_sized10_76 : decode b_Mod_sized10 76 = .ok (.iload_n 2, 1) := by decide +kernel
theorem d_Mod_sized10_77 : decode b_Mod_sized10 77 = .ok (.iconst 1, 1) := by decide +kernel
theorem d_Mod_sized10_78 : decode b_Mod_sized10 78 = .ok (.iadd, 1) := by decide +kernel
theorem d_Mod_sized10_79 : decode b_Mod_sized10 79 = .ok (.iload_n 3, 1) := by decide +kernel
theorem d_Mod_sized10_80 : decode b_Mod_sized10 80 = .ok (.iadd, 1) := by decide +kernel
theorem d_Mod_sized10_81 : decode b_Mod_sized10 81 = .ok (.iload 7, 2) := by decide +kernel
theorem d_Mod_sized10_83 : decode b_Mod_sized10 83 = .ok (.isub, 1) := by decide +kernel
theorem d_Mod_sized10_84 : decode b_Mod_sized10 84 = .ok (.i2l, 1) := by decide +kernel
theorem d_Mod_sized10_85 : decode b_Mod_sized10 85 = .ok (.lload 4, 2) := by decide +kernel
theorem d_Mod_sized10_87 : decode b_Mod_sized10 87 = .ok (.ladd, 1) := by decide +kernel
theorem d_Mod_sized10_88 : decode b_Mod_sized10 88 = .ok (.iload_n 3, 1) := by decide +kernel
theorem d_Mod_sized10_89 : decode b_Mod_sized10 89 = .ok (.i2l, 1) := by decide +kernel
theorem d_Mod_sized10_90 : decode b_Mod_sized10 90 = .ok (.lsub, 1) := by decide +kernel
theorem d_Mod_sized10_91 : decode b_Mod_sized10 91 = .ok (.lstore 8, 2) := by decide +kernel
theorem d_Mod_sized10_93 : decode b_Mod_sized10 93 = .ok (.aload_n 0, 1) := by decide +kernel
theorem d_Mod_sized10_94 : decode b_Mod_sized10 94 = .ok (.getfield 16, 3) := by decide +kernel
theorem d_Mod_sized10_97 : decode b_Mod_sized10 97 = .ok (.iconst 0, 1) := by decide +kernel
theorem d_Mod_sized10_98 : decode b_Mod_sized10 98 = .ok (.iaload, 1) := by decide +kernel
theorem d_Mod_sized10_99 : decode b_Mod_sized10 99 = .ok (.ifCond .eq 12, 3) := by decide +kernel
theorem d_Mod_sized10_102 : decode b_Mod_sized10 102 = .ok (.lload 8, 2) := by decide +kernel
theorem d_Mod_sized10_104 : decode b_Mod_sized10 104 = .ok (.ldc2_w 155, 3) := by decide +kernel
theorem d_Mod_sized10_107 : decode b_Mod_sized10 107 = .ok (.lcmp, 1) := by decide +kernel
theorem d_Mod_sized10_108 : decode b_Mod_sized10 108 = .ok (.ifCond .ge 5, 3) := by decide +kernel
theorem d_Mod_sized10_111 : decode b_Mod_sized10 111 = .ok (.lconst 0, 1) := by decide +kernel
theorem d_Mod_sized10_112 : decode b_Mod_sized10 112 = .ok (.lreturn, 1) := by decide +kernel
theorem d_Mod_sized10_113 : decode b_Mod_sized10 113 = .ok (.lload 8, 2) := by decide +kernel
theorem d_Mod_sized10_115 : decode b_Mod_sized10 115 = .ok (.ldc2_w 157, 3) := by decide +kernel
theorem d_Mod_sized10_118 : decode b_Mod_sized10 118 = .ok (.lcmp, 1) := by decide +kernel
theorem d_Mod_sized10_119 : decode b_Mod_sized10 119 = .ok (.ifCond .le 9, 3) := by decide +kernel
theorem d_Mod_sized10_122 : decode b_Mod_sized10 122 = .ok (.iload 6, 2) := by decide +kernel
theorem d_Mod_sized10_124 : decode b_Mod_sized10 124 = .ok (.invokestatic 46, 3) := by decide +kernel
theorem d_Mod_sized10_127 : decode b_Mod_sized10 127 = .ok (.lreturn, 1) := by decide +kernel
theorem d_Mod_sized10_128 : decode b_Mod_sized10 128 = .ok (.lload 4, 2) := by decide +kernel
theorem d_Mod_sized10_130 : decode b_Mod_sized10 130 = .ok (.iload_n 3, 1) := by decide +kernel
theorem d_Mod_sized10_131 : decode b_Mod_sized10 131 = .ok (.i2l, 1) := by decide +kernel
theorem d_Mod_sized10_132 : decode b_Mod_sized10 132 = .ok (.lsub, 1) := by decide +kernel
theorem d_Mod_sized10_133 : decode b_Mod_sized10 133 = .ok (.lstore 10, 2) := by decide +kernel
theorem d_Mod_sized10_135 : decode b_Mod_sized10 135 = .ok (.lconst 0, 1) := by decide +kernel
theorem d_Mod_sized10_136 : decode b_Mod_sized10 136 = .ok (.lstore 12, 2) := by decide +kernel
theorem d_Mod_sized10_138 : decode b_Mod_sized10 138 = .ok (.lload 12, 2) := by decide +kernel
theorem d_Mod_sized10_140 : decode b_Mod_sized10 140 = .ok (.lload 10, 2) := by decide +kernel
theorem d_Mod_sized10_142 : decode b_Mod_sized10 142 = .ok (.lcmp, 1) := by decide +kernel
theorem d_Mod_sized10_143 : decode b_Mod_sized10 143 = .ok (.ifCond .ge 20, 3) := by decide +kernel
theorem d_Mod_sized10_146 : decode b_Mod_sized10 146 = .ok (.aload_n 0, 1) := by decide +kernel
theorem d_Mod_sized10_147 : decode b_Mod_sized10 147 = .ok (.iconst 0, 1) := by decide +kernel
theorem d_Mod_sized10_148 : decode b_Mod_sized10 148 = .ok (.bipush 10, 2) := by decide +kernel
theorem d_Mod_sized10_150 : decode b_Mod_sized10 150 = .ok (.iconst 0, 1) := by decide +kernel
theorem d_Mod_sized10_151 : decode b_Mod_sized10 151 = .ok (.invokevirtual 26, 3) := by decide +kernel
theorem d_Mod_sized10_154 : decode b_Mod_sized10 154 = .ok (.lload 12, 2) := by decide +kernel
theorem d_Mod_sized10_156 : decode b_Mod_sized10 156 = .ok (.lconst 1, 1) := by decide +kernel
theorem d_Mod_sized10_157 : decode b_Mod_sized10 157 = .ok (.ladd, 1) := by decide +kernel
theorem d_Mod_sized10_158 : decode b_Mod_sized10 158 = .ok (.lstore 12, 2) := by decide +kernel
theorem d_Mod_sized10_160 : decode b_Mod_sized10 160 = .ok (.goto (-22), 3) := by decide +kernel
theorem d_Mod_sized10_163 : decode b_Mod_sized10 163 = .ok (.lconst 0, 1) := by decide +kernel
theorem d_Mod_sized10_164 : decode b_Mod_sized10 164 = .ok (.lstore 12, 2) := by decide +kernel
theorem d_Mod_sized10_166 : decode b_Mod_sized10 166 = .ok (.lload 12, 2) := by decide +kernel
theorem d_Mod_sized10_168 : decode b_Mod_sized10 168 = .ok (.lload 10, 2) := by decide +kernel
theorem d_Mod_sized10_170 : decode b_Mod_sized10 170 = .ok (.lneg, 1) := by decide +kernel
theorem d_Mod_sized10_171 : decode b_Mod_sized10 171 = .ok (.lcmp, 1) := by decide +kernel
theorem d_Mod_sized10_172 : decode b_Mod_sized10 172 = .ok (.ifCond .ge 20, 3) := by decide +kernel
theorem d_Mod_sized10_175 : decode b_Mod_sized10 175 = .ok (.aload_n 0, 1) := by decide +kernel
theorem d_Mod_sized10_176 : decode b_Mod_sized10 176 = .ok (.iconst 1, 1) := by decide +kernel
theorem d_Mod_sized10_177 : decode b_Mod_sized10 177 = .ok (.bipush 10, 2) := by decide +kernel
theorem d_Mod_sized10_179 : decode b_Mod_sized10 179 = .ok (.iconst 0, 1) := by decide +kernel
theorem d_Mod_sized10_180 : decode b_Mod_sized10 180 = .ok (.invokevirtual 26, 3) := by decide +kernel
theorem d_Mod_sized10_183 : decode b_Mod_sized10 183 = .ok (.lload 12, 2) := by decide +kernel
theorem d_Mod_sized10_185 : decode b_Mod_sized10 185 = .ok (.lconst 1, 1) := by decide +kernel
theorem d_Mod_sized10_186 : decode b_Mod_sized10 186 = .ok (.ladd, 1) := by decide +kernel
theorem d_Mod_sized10_187 : decode b_Mod_sized10 187 = .ok (.lstore 12, 2) := by decide +kernel
theorem d_Mod_sized10_189 : decode b_Mod_sized10 189 = .ok (.goto (-23), 3) := by decide +kernel
theorem d_Mod_sized10_192 : decode b_Mod_sized10 192 = .ok (.aload_n 0, 1) := by decide +kernel
theorem d_Mod_sized10_193 : decode b_Mod_sized10 193 = .ok (.iload 6, 2) := by decide +kernel
theorem d_Mod_sized10_195 : decode b_Mod_sized10 195 = .ok (.invokevirtual 152, 3) := by decide +kernel
theorem d_Mod_sized10_198 : decode b_Mod_sized10 198 = .ok (.lreturn, 1) := by decide +kernel
set_option maxHeartbeats 4000000 in
set_option maxRecDepth 100000 in
theorem c_Mod_look (l : Launch) (D : va_G) (E : evD) (md xx mm nn : Nat) (cX : ClassId) (ln rd : Int32) (R : Int64) (T : Nat → Nat) (at0 : Int32) (e : Nat) (he : e ≤ 2400) (k : Nat) (hk : k < 2147483648) : Ci (S := Unit) l y_Mod_look (wz y_Mod_look b_Mod_look 2 (some .int)) ({ frames := 0, cells := 0, slots := 0, locals := 0 }) D vcl (ev1 E) [.ref md, .int (nI k)] [(cX, .int)] [(md, .inr (5, [.ref xx, .int ln, .long R, .int rd, .ref mm, .ref nn, .int at0, .int (nI e)])), (xx, .inl (cX, 2400, .inl (tx T)))] 0 0 (fun (w : Int32) (_ : Unit) => w = nI (lk T e k)) (fun _ => [(cX, .int)]) (fun _ : Unit => [(md, .inr (5, [.ref xx, .int ln, .long R, .int rd, .ref mm, .ref nn, .int at0, .int (nI e)])), (xx, .inl (cX, 2400, .inl (tx T)))]) := by
  have hev := ev1_ok E
  unfold Ci
  refine ct_of (y := y_Mod_look) (av := [.ref md, .int (nI k)]) (cc := b_Mod_look) (maxL := 2) (ret := (some .int)) (Qc := fun A => va_Qi (S := Unit) (fun (w : Int32) (_ : Unit) => w = nI (lk T e k)) (fun u tS => ctB D vcl ((fun _ => [(cX, .int)]) u) ((fun _ : Unit => [(md, .inr (5, [.ref xx, .int ln, .long R, .int rd, .ref mm, .ref nn, .int at0, .int (nI e)])), (xx, .inl (cX, 2400, .inl (tx T)))]) u) A tS) A) (by decide) rfl (Nat.le_of_ble_eq_true rfl) ?_
  intro p ee s m below meth cde ls A H locs hx hb hml hrt hlocks hown hin hts hA hP hK hD hS hE hl
  have hown : s.vm.findClass R_Mod = some m.cls := hown
  have hts := wz_g hts
  have hl : lv_has ls 2 [(0, .ref md), (1, .int (nI k))] := hl
  refine lv_iload_n hx hb d_Mod_look_0 rfl (lv_at hl 1 rfl) ?_
  refine lv_aload_n hx hb d_Mod_look_1 rfl (lv_at hl 0 rfl) ?_
  refine va_get (D := D) (ci := 5) (v := .int (nI e)) (C := R_Mod) (T := F_Mod) (N := 8) hx hb hts w_Mod hown hK hP 0 rfl rfl 7 (by decide) (hts _ kF_Mod_78) (fun _ h9 => h9) rfl d_Mod_look_2 ?_
  refine lv_icmp_ge (tgt := 17) hx hb d_Mod_look_5 (by decide) (fun c5 => ?_) (fun c5 => ?_)
  · have e5 : ¬ k < e := by have := (nI_leI (by omega) (by omega)).mp c5; omega
    refine lv_iconst (v := 0) hx hb d_Mod_look_17 (by decide) ?_
    refine tv_i (nI (lk T e k)) (by rw [lk_out e5]; rfl) ?_
    exact rt_i hx hb hrt hlocks (rfl) (()) (rfl) (hP.sub [0, 1] rfl) (hK.sub [0] rfl) (hD.sub [0, 1] (by decide) rfl) hS d_Mod_look_18
  · have e5 : k < e := Nat.lt_of_not_le (fun z => c5 ((nI_leI (by omega) (by omega)).mpr z))
    refine lv_aload_n hx hb d_Mod_look_8 rfl (lv_at hl 0 rfl) ?_
    refine va_get (D := D) (ci := 5) (v := .ref xx) (C := R_Mod) (T := F_Mod) (N := 8) hx hb hts w_Mod hown hK hP 0 rfl rfl 0 (by decide) (hts _ kF_Mod_7) (fun _ h9 => h9) rfl d_Mod_look_9 ?_
    refine lv_iload_n hx hb d_Mod_look_12 rfl (lv_at hl 1 rfl) ?_
    refine va_iald hx hb hK hP 1 0 rfl rfl (i := nI k) (vp_in_nI (show k < 2400 by omega) (by decide)) d_Mod_look_13 ?_
    refine tv_i (nI (lk T e k)) (by rw [nI_clamp (by omega), lk_in e5]; rfl) ?_
    refine lv_goto (tgt := 18) hx hb d_Mod_look_14 (by decide) ?_
    exact rt_i hx hb hrt hlocks (rfl) (()) (rfl) (hP.sub [0, 1] rfl) (hK.sub [0] rfl) (hD.sub [0, 1] (by decide) rfl) hS d_Mod_look_18

set_option maxHeartbeats 4000000 in
set_option maxRecDepth 100000 in
theorem c_Mod_digitOf (l : Launch) (D : va_G) (E : evD) (c : Nat) (hc : c < 65536) : Ci (S := Unit) l y_Mod_digitOf (wz y_Mod_digitOf b_Mod_digitOf 1 (some .int)) ({ frames := 0, cells := 0, slots := 0, locals := 0 }) D vcl (ev1 E) [.int (nI c)] [] [] 0 0 (fun (w : Int32) (_ : Unit) => w = nI (dgm c)) (fun _ => []) (fun _ : Unit => []) := by
  have hev := ev1_ok E
  unfold Ci
  refine ct_of (y := y_Mod_digitOf) (av := [.int (nI c)]) (cc := b_Mod_digitOf) (maxL := 1) (ret := (some .int)) (Qc := fun A => va_Qi (S := Unit) (fun (w : Int32) (_ : Unit) => w = nI (dgm c)) (fun u tS => ctB D vcl ((fun _ => []) u) ((fun _ : Unit => []) u) A tS) A) (by decide) rfl (Nat.le_of_ble_eq_true rfl) ?_
  intro p ee s m below meth cde ls A H locs hx hb hml hrt hlocks hown hin hts hA hP hK hD hS hE hl
  have hown : s.vm.findClass R_Mod = some m.cls := hown
  have hts := wz_g hts
  have hl : lv_has ls 1 [(0, .int (nI c))] := hl
  refine lv_iload_n hx hb d_Mod_digitOf_0 rfl (lv_at hl 0 rfl) ?_
  refine lv_bipush (v := 48) hx hb d_Mod_digitOf_1 (by decide) ?_
  refine lv_icmp_lt (tgt := 19) hx hb d_Mod_digitOf_3 (by decide) (fun c3 => ?_) (fun c3 => ?_)
  · have e3 : c < 48 := (nI_ltI (b := 48) (by omega) (by decide)).mp c3
    refine lv_iload_n hx hb d_Mod_digitOf_19 rfl (lv_at hl 0 rfl) ?_
    refine lv_bipush (v := 97) hx hb d_Mod_digitOf_20 (by decide) ?_
    refine lv_icmp_lt (tgt := 41) hx hb d_Mod_digitOf_22 (by decide) (fun c22 => ?_) (fun c22 => ?_)
    · have e22 : c < 97 := (nI_ltI (b := 97) (by omega) (by decide)).mp c22
      refine lv_iload_n hx hb d_Mod_digitOf_41 rfl (lv_at hl 0 rfl) ?_
      refine lv_bipush (v := 65) hx hb d_Mod_digitOf_42 (by decide) ?_
      refine lv_icmp_lt (tgt := 63) hx hb d_Mod_digitOf_44 (by decide) (fun c44 => ?_) (fun c44 => ?_)
      · have e44 : c < 65 := (nI_ltI (b := 65) (by omega) (by decide)).mp c44
        refine lv_bipush (v := 99) hx hb d_Mod_digitOf_63 (by decide) ?_
        refine tv_i (nI 99) (rfl) ?_
        exact rt_i hx hb hrt hlocks (rfl) (()) (congrArg nI (by unfold dgm dg; (repeat' split) <;> omega)) (hP.sub [] rfl) (hK.sub [] rfl) (hD.sub [] (by decide) rfl) hS d_Mod_digitOf_65
      · have e44 : 65 ≤ c := Nat.le_of_not_lt (fun z => c44 ((nI_ltI (b := 65) (by omega) (by decide)).mpr z))
        refine lv_iload_n hx hb d_Mod_digitOf_47 rfl (lv_at hl 0 rfl) ?_
        refine lv_bipush (v := 70) hx hb d_Mod_digitOf_48 (by decide) ?_
        refine lv_icmp_gt (tgt := 63) hx hb d_Mod_digitOf_50 (by decide) (fun c50 => ?_) (fun c50 => ?_)
        · have e50 : 70 < c := (nI_ltI (a := 70) (by decide) (by omega)).mp c50
          refine lv_bipush (v := 99) hx hb d_Mod_digitOf_63 (by decide) ?_
          refine tv_i (nI 99) (rfl) ?_
          exact rt_i hx hb hrt hlocks (rfl) (()) (congrArg nI (by unfold dgm dg; (repeat' split) <;> omega)) (hP.sub [] rfl) (hK.sub [] rfl) (hD.sub [] (by decide) rfl) hS d_Mod_digitOf_65
        · have e50 : c ≤ 70 := Nat.le_of_not_lt (fun z => c50 ((nI_ltI (a := 70) (by decide) (by omega)).mpr z))
          refine lv_iload_n hx hb d_Mod_digitOf_53 rfl (lv_at hl 0 rfl) ?_
          refine lv_bipush (v := 65) hx hb d_Mod_digitOf_54 (by decide) ?_
          refine lv_isub hx hb d_Mod_digitOf_56 ?_
          refine tv_i (nI (c - 65)) (pk_sub (b := 65) (by omega)) ?_
          refine lv_bipush (v := 10) hx hb d_Mod_digitOf_57 (by decide) ?_
          refine lv_iadd hx hb d_Mod_digitOf_59 ?_
          refine tv_i (nI (c - 65 + 10)) (nI_add _ 10) ?_
          refine lv_goto (tgt := 65) hx hb d_Mod_digitOf_60 (by decide) ?_
          exact rt_i hx hb hrt hlocks (rfl) (()) (congrArg nI (by unfold dgm dg; (repeat' split) <;> omega)) (hP.sub [] rfl) (hK.sub [] rfl) (hD.sub [] (by decide) rfl) hS d_Mod_digitOf_65
    · have e22 : 97 ≤ c := Nat.le_of_not_lt (fun z => c22 ((nI_ltI (b := 97) (by omega) (by decide)).mpr z))
      refine lv_iload_n hx hb d_Mod_digitOf_25 rfl (lv_at hl 0 rfl) ?_
      refine lv_bipush (v := 102) hx hb d_Mod_digitOf_26 (by decide) ?_
      refine lv_icmp_gt (tgt := 41) hx hb d_Mod_digitOf_28 (by decide) (fun c28 => ?_) (fun c28 => ?_)
      · have e28 : 102 < c := (nI_ltI (a := 102) (by decide) (by omega)).mp c28
        refine lv_iload_n hx hb d_Mod_digitOf_41 rfl (lv_at hl 0 rfl) ?_
        refine lv_bipush (v := 65) hx hb d_Mod_digitOf_42 (by decide) ?_
        refine lv_icmp_lt (tgt := 63) hx hb d_Mod_digitOf_44 (by decide) (fun c44 => ?_) (fun c44 => ?_)
        · have e44 : c < 65 := (nI_ltI (b := 65) (by omega) (by decide)).mp c44
          refine lv_bipush (v := 99) hx hb d_Mod_digitOf_63 (by decide) ?_
          refine tv_i (nI 99) (rfl) ?_
          exact rt_i hx hb hrt hlocks (rfl) (()) (congrArg nI (by unfold dgm dg; (repeat' split) <;> omega)) (hP.sub [] rfl) (hK.sub [] rfl) (hD.sub [] (by decide) rfl) hS d_Mod_digitOf_65
        · have e44 : 65 ≤ c := Nat.le_of_not_lt (fun z => c44 ((nI_ltI (b := 65) (by omega) (by decide)).mpr z))
          refine lv_iload_n hx hb d_Mod_digitOf_47 rfl (lv_at hl 0 rfl) ?_
          refine lv_bipush (v := 70) hx hb d_Mod_digitOf_48 (by decide) ?_
          refine lv_icmp_gt (tgt := 63) hx hb d_Mod_digitOf_50 (by decide) (fun c50 => ?_) (fun c50 => ?_)
          · have e50 : 70 < c := (nI_ltI (a := 70) (by decide) (by omega)).mp c50
            refine lv_bipush (v := 99) hx hb d_Mod_digitOf_63 (by decide) ?_
            refine tv_i (nI 99) (rfl) ?_
            exact rt_i hx hb hrt hlocks (rfl) (()) (congrArg nI (by unfold dgm dg; (repeat' split) <;> omega)) (hP.sub [] rfl) (hK.sub [] rfl) (hD.sub [] (by decide) rfl) hS d_Mod_digitOf_65
          · have e50 : c ≤ 70 := Nat.le_of_not_lt (fun z => c50 ((nI_ltI (a := 70) (by decide) (by omega)).mpr z))
            refine lv_iload_n hx hb d_Mod_digitOf_53 rfl (lv_at hl 0 rfl) ?_
            refine lv_bipush (v := 65) hx hb d_Mod_digitOf_54 (by decide) ?_
            refine lv_isub hx hb d_Mod_digitOf_56 ?_
            refine tv_i (nI (c - 65)) (pk_sub (b := 65) (by omega)) ?_
            refine lv_bipush (v := 10) hx hb d_Mod_digitOf_57 (by decide) ?_
            refine lv_iadd hx hb d_Mod_digitOf_59 ?_
            refine tv_i (nI (c - 65 + 10)) (nI_add _ 10) ?_
            refine lv_goto (tgt := 65) hx hb d_Mod_digitOf_60 (by decide) ?_
            exact rt_i hx hb hrt hlocks (rfl) (()) (congrArg nI (by unfold dgm dg; (repeat' split) <;> omega)) (hP.sub [] rfl) (hK.sub [] rfl) (hD.sub [] (by decide) rfl) hS d_Mod_digitOf_65
      · have e28 : c ≤ 102 := Nat.le_of_not_lt (fun z => c28 ((nI_ltI (a := 102) (by decide) (by omega)).mpr z))
        refine lv_iload_n hx hb d_Mod_digitOf_31 rfl (lv_at hl 0 rfl) ?_
        refine lv_bipush (v := 97) hx hb d_Mod_digitOf_32 (by decide) ?_
        refine lv_isub hx hb d_Mod_digitOf_34 ?_
        refine tv_i (nI (c - 97)) (pk_sub (b := 97) (by omega)) ?_
        refine lv_bipush (v := 10) hx hb d_Mod_digitOf_35 (by decide) ?_
        refine lv_iadd hx hb d_Mod_digitOf_37 ?_
        refine tv_i (nI (c - 97 + 10)) (nI_add _ 10) ?_
        refine lv_goto (tgt := 65) hx hb d_Mod_digitOf_38 (by decide) ?_
        exact rt_i hx hb hrt hlocks (rfl) (()) (congrArg nI (by unfold dgm dg; (repeat' split) <;> omega)) (hP.sub [] rfl) (hK.sub [] rfl) (hD.sub [] (by decide) rfl) hS d_Mod_digitOf_65
  · have e3 : 48 ≤ c := Nat.le_of_not_lt (fun z => c3 ((nI_ltI (b := 48) (by omega) (by decide)).mpr z))
    refine lv_iload_n hx hb d_Mod_digitOf_6 rfl (lv_at hl 0 rfl) ?_
    refine lv_bipush (v := 57) hx hb d_Mod_digitOf_7 (by decide) ?_
    refine lv_icmp_gt (tgt := 19) hx hb d_Mod_digitOf_9 (by decide) (fun c9 => ?_) (fun c9 => ?_)
    · have e9 : 57 < c := (nI_ltI (a := 57) (by decide) (by omega)).mp c9
      refine lv_iload_n hx hb d_Mod_digitOf_19 rfl (lv_at hl 0 rfl) ?_
      refine lv_bipush (v := 97) hx hb d_Mod_digitOf_20 (by decide) ?_
      refine lv_icmp_lt (tgt := 41) hx hb d_Mod_digitOf_22 (by decide) (fun c22 => ?_) (fun c22 => ?_)
      · have e22 : c < 97 := (nI_ltI (b := 97) (by omega) (by decide)).mp c22
        refine lv_iload_n hx hb d_Mod_digitOf_41 rfl (lv_at hl 0 rfl) ?_
        refine lv_bipush (v := 65) hx hb d_Mod_digitOf_42 (by decide) ?_
        refine lv_icmp_lt (tgt := 63) hx hb d_Mod_digitOf_44 (by decide) (fun c44 => ?_) (fun c44 => ?_)
        · have e44 : c < 65 := (nI_ltI (b := 65) (by omega) (by decide)).mp c44
          refine lv_bipush (v := 99) hx hb d_Mod_digitOf_63 (by decide) ?_
          refine tv_i (nI 99) (rfl) ?_
          exact rt_i hx hb hrt hlocks (rfl) (()) (congrArg nI (by unfold dgm dg; (repeat' split) <;> omega)) (hP.sub [] rfl) (hK.sub [] rfl) (hD.sub [] (by decide) rfl) hS d_Mod_digitOf_65
        · have e44 : 65 ≤ c := Nat.le_of_not_lt (fun z => c44 ((nI_ltI (b := 65) (by omega) (by decide)).mpr z))
          refine lv_iload_n hx hb d_Mod_digitOf_47 rfl (lv_at hl 0 rfl) ?_
          refine lv_bipush (v := 70) hx hb d_Mod_digitOf_48 (by decide) ?_
          refine lv_icmp_gt (tgt := 63) hx hb d_Mod_digitOf_50 (by decide) (fun c50 => ?_) (fun c50 => ?_)
          · have e50 : 70 < c := (nI_ltI (a := 70) (by decide) (by omega)).mp c50
            refine lv_bipush (v := 99) hx hb d_Mod_digitOf_63 (by decide) ?_
            refine tv_i (nI 99) (rfl) ?_
            exact rt_i hx hb hrt hlocks (rfl) (()) (congrArg nI (by unfold dgm dg; (repeat' split) <;> omega)) (hP.sub [] rfl) (hK.sub [] rfl) (hD.sub [] (by decide) rfl) hS d_Mod_digitOf_65
          · have e50 : c ≤ 70 := Nat.le_of_not_lt (fun z => c50 ((nI_ltI (a := 70) (by decide) (by omega)).mpr z))
            refine lv_iload_n hx hb d_Mod_digitOf_53 rfl (lv_at hl 0 rfl) ?_
            refine lv_bipush (v := 65) hx hb d_Mod_digitOf_54 (by decide) ?_
            refine lv_isub hx hb d_Mod_digitOf_56 ?_
            refine tv_i (nI (c - 65)) (pk_sub (b := 65) (by omega)) ?_
            refine lv_bipush (v := 10) hx hb d_Mod_digitOf_57 (by decide) ?_
            refine lv_iadd hx hb d_Mod_digitOf_59 ?_
            refine tv_i (nI (c - 65 + 10)) (nI_add _ 10) ?_
            refine lv_goto (tgt := 65) hx hb d_Mod_digitOf_60 (by decide) ?_
            exact rt_i hx hb hrt hlocks (rfl) (()) (congrArg nI (by unfold dgm dg; (repeat' split) <;> omega)) (hP.sub [] rfl) (hK.sub [] rfl) (hD.sub [] (by decide) rfl) hS d_Mod_digitOf_65
      · have e22 : 97 ≤ c := Nat.le_of_not_lt (fun z => c22 ((nI_ltI (b := 97) (by omega) (by decide)).mpr z))
        refine lv_iload_n hx hb d_Mod_digitOf_25 rfl (lv_at hl 0 rfl) ?_
        refine lv_bipush (v := 102) hx hb d_Mod_digitOf_26 (by decide) ?_
        refine lv_icmp_gt (tgt := 41) hx hb d_Mod_digitOf_28 (by decide) (fun c28 => ?_) (fun c28 => ?_)
        · have e28 : 102 < c := (nI_ltI (a := 102) (by decide) (by omega)).mp c28
          refine lv_iload_n hx hb d_Mod_digitOf_41 rfl (lv_at hl 0 rfl) ?_
          refine lv_bipush (v := 65) hx hb d_Mod_digitOf_42 (by decide) ?_
          refine lv_icmp_lt (tgt := 63) hx hb d_Mod_digitOf_44 (by decide) (fun c44 => ?_) (fun c44 => ?_)
          · have e44 : c < 65 := (nI_ltI (b := 65) (by omega) (by decide)).mp c44
            refine lv_bipush (v := 99) hx hb d_Mod_digitOf_63 (by decide) ?_
            refine tv_i (nI 99) (rfl) ?_
            exact rt_i hx hb hrt hlocks (rfl) (()) (congrArg nI (by unfold dgm dg; (repeat' split) <;> omega)) (hP.sub [] rfl) (hK.sub [] rfl) (hD.sub [] (by decide) rfl) hS d_Mod_digitOf_65
          · have e44 : 65 ≤ c := Nat.le_of_not_lt (fun z => c44 ((nI_ltI (b := 65) (by omega) (by decide)).mpr z))
            refine lv_iload_n hx hb d_Mod_digitOf_47 rfl (lv_at hl 0 rfl) ?_
            refine lv_bipush (v := 70) hx hb d_Mod_digitOf_48 (by decide) ?_
            refine lv_icmp_gt (tgt := 63) hx hb d_Mod_digitOf_50 (by decide) (fun c50 => ?_) (fun c50 => ?_)
            · have e50 : 70 < c := (nI_ltI (a := 70) (by decide) (by omega)).mp c50
              refine lv_bipush (v := 99) hx hb d_Mod_digitOf_63 (by decide) ?_
              refine tv_i (nI 99) (rfl) ?_
              exact rt_i hx hb hrt hlocks (rfl) (()) (congrArg nI (by unfold dgm dg; (repeat' split) <;> omega)) (hP.sub [] rfl) (hK.sub [] rfl) (hD.sub [] (by decide) rfl) hS d_Mod_digitOf_65
            · have e50 : c ≤ 70 := Nat.le_of_not_lt (fun z => c50 ((nI_ltI (a := 70) (by decide) (by omega)).mpr z))
              refine lv_iload_n hx hb d_Mod_digitOf_53 rfl (lv_at hl 0 rfl) ?_
              refine lv_bipush (v := 65) hx hb d_Mod_digitOf_54 (by decide) ?_
              refine lv_isub hx hb d_Mod_digitOf_56 ?_
              refine tv_i (nI (c - 65)) (pk_sub (b := 65) (by omega)) ?_
              refine lv_bipush (v := 10) hx hb d_Mod_digitOf_57 (by decide) ?_
              refine lv_iadd hx hb d_Mod_digitOf_59 ?_
              refine tv_i (nI (c - 65 + 10)) (nI_add _ 10) ?_
              refine lv_goto (tgt := 65) hx hb d_Mod_digitOf_60 (by decide) ?_
              exact rt_i hx hb hrt hlocks (rfl) (()) (congrArg nI (by unfold dgm dg; (repeat' split) <;> omega)) (hP.sub [] rfl) (hK.sub [] rfl) (hD.sub [] (by decide) rfl) hS d_Mod_digitOf_65
        · have e28 : c ≤ 102 := Nat.le_of_not_lt (fun z => c28 ((nI_ltI (a := 102) (by decide) (by omega)).mpr z))
          refine lv_iload_n hx hb d_Mod_digitOf_31 rfl (lv_at hl 0 rfl) ?_
          refine lv_bipush (v := 97) hx hb d_Mod_digitOf_32 (by decide) ?_
          refine lv_isub hx hb d_Mod_digitOf_34 ?_
          refine tv_i (nI (c - 97)) (pk_sub (b := 97) (by omega)) ?_
          refine lv_bipush (v := 10) hx hb d_Mod_digitOf_35 (by decide) ?_
          refine lv_iadd hx hb d_Mod_digitOf_37 ?_
          refine tv_i (nI (c - 97 + 10)) (nI_add _ 10) ?_
          refine lv_goto (tgt := 65) hx hb d_Mod_digitOf_38 (by decide) ?_
          exact rt_i hx hb hrt hlocks (rfl) (()) (congrArg nI (by unfold dgm dg; (repeat' split) <;> omega)) (hP.sub [] rfl) (hK.sub [] rfl) (hD.sub [] (by decide) rfl) hS d_Mod_digitOf_65
    · have e9 : c ≤ 57 := Nat.le_of_not_lt (fun z => c9 ((nI_ltI (a := 57) (by decide) (by omega)).mpr z))
      refine lv_iload_n hx hb d_Mod_digitOf_12 rfl (lv_at hl 0 rfl) ?_
      refine lv_bipush (v := 48) hx hb d_Mod_digitOf_13 (by decide) ?_
      refine lv_isub hx hb d_Mod_digitOf_15 ?_
      refine tv_i (nI (c - 48)) (pk_sub (b := 48) (by omega)) ?_
      refine lv_goto (tgt := 65) hx hb d_Mod_digitOf_16 (by decide) ?_
      exact rt_i hx hb hrt hlocks (rfl) (()) (congrArg nI (by unfold dgm dg; (repeat' split) <;> omega)) (hP.sub [] rfl) (hK.sub [] rfl) (hD.sub [] (by decide) rfl) hS d_Mod_digitOf_65

set_option maxHeartbeats 4000000 in
set_option maxRecDepth 100000 in
theorem c_Mod_skips (l : Launch) (D : va_G) (E : evD) (md xx mm nn : Nat) (cX : ClassId) (ln rd : Int32) (R : Int64) (T : Nat → Nat) (hT : ∀ j, T j < 256) (e : Nat) (he : e ≤ 2400) (a : Nat) (ha : a ≤ 2400) (c1 c2 : Nat) (hc1 : c1 < 256) (hc2 : c2 < 256) : Ci (S := Unit) l y_Mod_skips (wz y_Mod_skips b_Mod_skips 3 (some .boolean)) ({ frames := 1, cells := 0, slots := 0, locals := 21 }) D vcl (ev1 E) [.ref md, .int (nI c1), .int (nI c2)] [(cX, .int)] [(md, .inr (5, [.ref xx, .int ln, .long R, .int rd, .ref mm, .ref nn, .int (nI a), .int (nI e)])), (xx, .inl (cX, 2400, .inl (tx T)))] 0 0 (fun (w : Int32) (_ : Unit) => w = bI (decide (lk T e a = c1 ∨ lk T e a = c2))) (fun _ => [(cX, .int)]) (fun _ : Unit => [(md, .inr (5, [.ref xx, .int ln, .long R, .int rd, .ref mm, .ref nn, .int (nI (if lk T e a = c1 ∨ lk T e a = c2 then a + 1 else a)), .int (nI e)])), (xx, .inl (cX, 2400, .inl (tx T)))]) := by
  have hev := ev1_ok E
  unfold Ci
  refine ct_of (y := y_Mod_skips) (av := [.ref md, .int (nI c1), .int (nI c2)]) (cc := b_Mod_skips) (maxL := 3) (ret := (some .boolean)) (Qc := fun A => va_Qi (S := Unit) (fun (w : Int32) (_ : Unit) => w = bI (decide (lk T e a = c1 ∨ lk T e a = c2))) (fun u tS => ctB D vcl ((fun _ => [(cX, .int)]) u) ((fun _ : Unit => [(md, .inr (5, [.ref xx, .int ln, .long R, .int rd, .ref mm, .ref nn, .int (nI (if lk T e a = c1 ∨ lk T e a = c2 then a + 1 else a)), .int (nI e)])), (xx, .inl (cX, 2400, .inl (tx T)))]) u) A tS) A) (by decide) rfl (Nat.le_of_ble_eq_true rfl) ?_
  intro p ee s m below meth cde ls A H locs hx hb hml hrt hlocks hown hin hts hA hP hK hD hS hE hl
  have hown : s.vm.findClass R_Mod = some m.cls := hown
  have hts := wz_g hts
  have hl : lv_has ls 3 [(0, .ref md), (1, .int (nI c1)), (2, .int (nI c2))] := hl
  have hlb := lk_b hT e a
  refine lv_aload_n hx hb d_Mod_skips_0 rfl (lv_at hl 0 rfl) ?_
  refine lv_aload_n hx hb d_Mod_skips_1 rfl (lv_at hl 0 rfl) ?_
  refine va_get (D := D) (ci := 5) (v := .int (nI a)) (C := R_Mod) (T := F_Mod) (N := 8) hx hb hts w_Mod hown hK hP 0 rfl rfl 6 (by decide) (hts _ kF_Mod_81) (fun _ h9 => h9) rfl d_Mod_skips_2 ?_
  refine ca_i [] (va_runV (As := [.int (nI a)]) (rest := []) ⟨hx, hb, hml, hown, hts⟩ (c_Mod_look l D E md xx mm nn cX ln rd R T (nI a) e he a (by omega) H.size) (xV 1 hts kC_Mod_look kM_Mod_84 kI_Mod_look kS_Mod_look kN_Mod rfl rfl (by decide +kernel) ⟨Nat.le_of_ble_eq_true rfl, Nat.le_of_ble_eq_true rfl⟩) ⟨ct_blind hev, va_recv hK hP (ci := 5) (q0 := 0) rfl rfl, ct_pre hev hP hK hD hS hA hE [0, 1] rfl (by decide) [0] rfl⟩ rfl rfl hl.1 rfl (lv_room (Nat.le_of_ble_eq_true rfl)) d_Mod_skips_5 ⟨Nat.le_of_ble_eq_true rfl, Nat.le_of_ble_eq_true rfl⟩) hP hD hS hA [0, 1] [] rfl rfl (by decide) (by decide) (fun rv u H locs hw hP hD hS hK1 => ?_)
  subst hw
  have hP : va_P D vcl [(md, .inr (5, [.ref xx, .int ln, .long R, .int rd, .ref mm, .ref nn, .int (nI a), .int (nI e)])), (xx, .inl (cX, 2400, .inl (tx T)))] H := hP
  have hD : va_D A [(md, .inr (5, [.ref xx, .int ln, .long R, .int rd, .ref mm, .ref nn, .int (nI a), .int (nI e)])), (xx, .inl (cX, 2400, .inl (tx T)))] := hD
  refine lv_iload_n hx hb d_Mod_skips_8 rfl (lv_at hl 1 rfl) ?_
  refine lv_icmp_eq (tgt := 26) hx hb d_Mod_skips_9 (by decide) (fun c9 => ?_) (fun c9 => ?_)
  · have hor : lk T e a = c1 ∨ lk T e a = c2 := Or.inl ((nI_eq (by omega) (by omega)).mp c9)
    refine lv_aload_n hx hb d_Mod_skips_26 rfl (lv_at hl 0 rfl) ?_
    refine lv_dup hx hb d_Mod_skips_27 rfl ?_
    refine va_get (D := D) (ci := 5) (v := .int (nI a)) (C := R_Mod) (T := F_Mod) (N := 8) hx hb hts w_Mod hown hK hP 0 rfl rfl 6 (by decide) (hts _ kF_Mod_81) (fun _ h9 => h9) rfl d_Mod_skips_28 ?_
    refine lv_iconst (v := 1) hx hb d_Mod_skips_31 (by decide) ?_
    refine lv_iadd hx hb d_Mod_skips_32 ?_
    refine tv_i (nI (if lk T e a = c1 ∨ lk T e a = c2 then a + 1 else a)) (by rw [if_pos hor]; exact nI_1 a) ?_
    refine va_put (D := D) (ci := 5) (v := .int (nI (if lk T e a = c1 ∨ lk T e a = c2 then a + 1 else a))) (ty := .int) (C := R_Mod) (T := F_Mod) (N := 8) hx hb hts w_Mod t_Mod tk_Mod n_Mod hown hK hP hD hS 0 rfl rfl 6 (by decide) (hts _ kF_Mod_81) (fun _ h9 => h9) rfl (by decide +kernel) (rfl) (rfl) (Nat.le_of_ble_eq_true rfl) d_Mod_skips_33 (fun H locs hP hD hS => ?_)
    have hP : va_P D vcl [(md, .inr (5, [.ref xx, .int ln, .long R, .int rd, .ref mm, .ref nn, .int (nI (if lk T e a = c1 ∨ lk T e a = c2 then a + 1 else a)), .int (nI e)])), (xx, .inl (cX, 2400, .inl (tx T)))] H := hP
    have hD : va_D A [(md, .inr (5, [.ref xx, .int ln, .long R, .int rd, .ref mm, .ref nn, .int (nI (if lk T e a = c1 ∨ lk T e a = c2 then a + 1 else a)), .int (nI e)])), (xx, .inl (cX, 2400, .inl (tx T)))] := hD
    refine lv_iconst (v := 1) hx hb d_Mod_skips_36 (by decide) ?_
    exact rt_i hx hb hrt hlocks (rfl) (()) (by rw [decide_eq_true hor]; rfl) (hP.sub [0, 1] rfl) (hK.sub [0] rfl) (hD.sub [0, 1] (by decide) rfl) hS d_Mod_skips_37
  · have e9 : lk T e a ≠ c1 := fun z => c9 (by rw [z])
    refine lv_aload_n hx hb d_Mod_skips_12 rfl (lv_at hl 0 rfl) ?_
    refine lv_aload_n hx hb d_Mod_skips_13 rfl (lv_at hl 0 rfl) ?_
    refine va_get (D := D) (ci := 5) (v := .int (nI a)) (C := R_Mod) (T := F_Mod) (N := 8) hx hb hts w_Mod hown hK hP 0 rfl rfl 6 (by decide) (hts _ kF_Mod_81) (fun _ h9 => h9) rfl d_Mod_skips_14 ?_
    refine ca_i [] (va_runV (As := [.int (nI a)]) (rest := []) ⟨hx, hb, hml, hown, hts⟩ (c_Mod_look l D E md xx mm nn cX ln rd R T (nI a) e he a (by omega) H.size) (xV 1 hts kC_Mod_look kM_Mod_84 kI_Mod_look kS_Mod_look kN_Mod rfl rfl (by decide +kernel) ⟨Nat.le_of_ble_eq_true rfl, Nat.le_of_ble_eq_true rfl⟩) ⟨ct_blind hev, va_recv hK hP (ci := 5) (q0 := 0) rfl rfl, ct_pre hev hP hK hD hS hA hE [0, 1] rfl (by decide) [0] rfl⟩ rfl rfl hl.1 rfl (lv_room (Nat.le_of_ble_eq_true rfl)) d_Mod_skips_17 ⟨Nat.le_of_ble_eq_true rfl, Nat.le_of_ble_eq_true rfl⟩) hP hD hS hA [0, 1] [] rfl rfl (by decide) (by decide) (fun rv u H locs hw hP hD hS hK1 => ?_)
    subst hw
    have hP : va_P D vcl [(md, .inr (5, [.ref xx, .int ln, .long R, .int rd, .ref mm, .ref nn, .int (nI a), .int (nI e)])), (xx, .inl (cX, 2400, .inl (tx T)))] H := hP
    have hD : va_D A [(md, .inr (5, [.ref xx, .int ln, .long R, .int rd, .ref mm, .ref nn, .int (nI a), .int (nI e)])), (xx, .inl (cX, 2400, .inl (tx T)))] := hD
    refine lv_iload_n hx hb d_Mod_skips_20 rfl (lv_at hl 2 rfl) ?_
    refine lv_icmp_eq (tgt := 26) hx hb d_Mod_skips_21 (by decide) (fun c21 => ?_) (fun c21 => ?_)
    · have hor : lk T e a = c1 ∨ lk T e a = c2 := Or.inr ((nI_eq (by omega) (by omega)).mp c21)
      refine lv_aload_n hx hb d_Mod_skips_26 rfl (lv_at hl 0 rfl) ?_
      refine lv_dup hx hb d_Mod_skips_27 rfl ?_
      refine va_get (D := D) (ci := 5) (v := .int (nI a)) (C := R_Mod) (T := F_Mod) (N := 8) hx hb hts w_Mod hown hK hP 0 rfl rfl 6 (by decide) (hts _ kF_Mod_81) (fun _ h9 => h9) rfl d_Mod_skips_28 ?_
      refine lv_iconst (v := 1) hx hb d_Mod_skips_31 (by decide) ?_
      refine lv_iadd hx hb d_Mod_skips_32 ?_
      refine tv_i (nI (if lk T e a = c1 ∨ lk T e a = c2 then a + 1 else a)) (by rw [if_pos hor]; exact nI_1 a) ?_
      refine va_put (D := D) (ci := 5) (v := .int (nI (if lk T e a = c1 ∨ lk T e a = c2 then a + 1 else a))) (ty := .int) (C := R_Mod) (T := F_Mod) (N := 8) hx hb hts w_Mod t_Mod tk_Mod n_Mod hown hK hP hD hS 0 rfl rfl 6 (by decide) (hts _ kF_Mod_81) (fun _ h9 => h9) rfl (by decide +kernel) (rfl) (rfl) (Nat.le_of_ble_eq_true rfl) d_Mod_skips_33 (fun H locs hP hD hS => ?_)
      have hP : va_P D vcl [(md, .inr (5, [.ref xx, .int ln, .long R, .int rd, .ref mm, .ref nn, .int (nI (if lk T e a = c1 ∨ lk T e a = c2 then a + 1 else a)), .int (nI e)])), (xx, .inl (cX, 2400, .inl (tx T)))] H := hP
      have hD : va_D A [(md, .inr (5, [.ref xx, .int ln, .long R, .int rd, .ref mm, .ref nn, .int (nI (if lk T e a = c1 ∨ lk T e a = c2 then a + 1 else a)), .int (nI e)])), (xx, .inl (cX, 2400, .inl (tx T)))] := hD
      refine lv_iconst (v := 1) hx hb d_Mod_skips_36 (by decide) ?_
      exact rt_i hx hb hrt hlocks (rfl) (()) (by rw [decide_eq_true hor]; rfl) (hP.sub [0, 1] rfl) (hK.sub [0] rfl) (hD.sub [0, 1] (by decide) rfl) hS d_Mod_skips_37
    · have hor : ¬ (lk T e a = c1 ∨ lk T e a = c2) := fun z => z.elim e9 (fun z => c21 (by rw [z]))
      refine lv_iconst (v := 0) hx hb d_Mod_skips_24 (by decide) ?_
      rw [show nI a = nI (if lk T e a = c1 ∨ lk T e a = c2 then a + 1 else a) from by rw [if_neg hor]] at hP hD
      exact rt_i hx hb hrt hlocks (rfl) (()) (by rw [decide_eq_false hor]; rfl) (hP.sub [0, 1] rfl) (hK.sub [0] rfl) (hD.sub [0, 1] (by decide) rfl) hS d_Mod_skips_25

set_option maxHeartbeats 4000000 in
set_option maxRecDepth 100000 in
theorem c_Mod_digits (l : Launch) (D : va_G) (E : evD) (md xx mm nn : Nat) (cX : ClassId) (ln rd : Int32) (R : Int64) (T : Nat → Nat) (at0 : Int32) (hT : ∀ j, T j < 256) (e : Nat) (he : e ≤ 2400) (k : Nat) (hke : k ≤ e) (be : Nat) (hbe : be ≤ 16) : Ci (S := Unit) l y_Mod_digits (wz y_Mod_digits b_Mod_digits 4 (some .int)) ({ frames := 1, cells := 0, slots := 0, locals := 21 }) D vcl (ev1 E) [.ref md, .int (nI k), .int (nI be)] [(cX, .int)] [(md, .inr (5, [.ref xx, .int ln, .long R, .int rd, .ref mm, .ref nn, .int at0, .int (nI e)])), (xx, .inl (cX, 2400, .inl (tx T)))] 0 0 (fun (w : Int32) (_ : Unit) => w = nI (sk be T e k - k)) (fun _ => [(cX, .int)]) (fun _ : Unit => [(md, .inr (5, [.ref xx, .int ln, .long R, .int rd, .ref mm, .ref nn, .int at0, .int (nI e)])), (xx, .inl (cX, 2400, .inl (tx T)))]) := by
  have hev := ev1_ok E
  unfold Ci
  refine ct_of (y := y_Mod_digits) (av := [.ref md, .int (nI k), .int (nI be)]) (cc := b_Mod_digits) (maxL := 4) (ret := (some .int)) (Qc := fun A => va_Qi (S := Unit) (fun (w : Int32) (_ : Unit) => w = nI (sk be T e k - k)) (fun u tS => ctB D vcl ((fun _ => [(cX, .int)]) u) ((fun _ : Unit => [(md, .inr (5, [.ref xx, .int ln, .long R, .int rd, .ref mm, .ref nn, .int at0, .int (nI e)])), (xx, .inl (cX, 2400, .inl (tx T)))]) u) A tS) A) (by decide) rfl (Nat.le_of_ble_eq_true rfl) ?_
  intro p ee s m below meth cde ls A H locs hx hb hml hrt hlocks hown hin hts hA hP hK hD hS hE hl
  have hown : s.vm.findClass R_Mod = some m.cls := hown
  have hts := wz_g hts
  have hl : lv_has ls 4 [(0, .ref md), (1, .int (nI k)), (2, .int (nI be))] := hl
  refine lv_iload_n hx hb d_Mod_digits_0 rfl (lv_at hl 1 rfl) ?_
  refine lv_istore_n (lv' := [(3, .int (nI k)), (0, .ref md), (1, .int (nI k)), (2, .int (nI be))]) hx hb d_Mod_digits_1 rfl hl (by decide) rfl (fun ls hl => ?_)
  have L2 : ∀ (kk : Nat) (j : Nat), e - j < kk → (k ≤ j) → (j ≤ e) → (sk be T e j = sk be T e k) → ∀ (H : Heap) (locs : List Loc) (ls : Array Slot), va_P D vcl [(md, .inr (5, [.ref xx, .int ln, .long R, .int rd, .ref mm, .ref nn, .int at0, .int (nI e)])), (xx, .inl (cX, 2400, .inl (tx T)))] H → va_D A [(md, .inr (5, [.ref xx, .int ln, .long R, .int rd, .ref mm, .ref nn, .int at0, .int (nI e)])), (xx, .inl (cX, 2400, .inl (tx T)))] → va_S A s.heap H locs → lv_has ls 4 [(0, .ref md), (1, .int (nI k)), (2, .int (nI be)), (3, .int (nI j))] → W p l ee ({ frames := 1, cells := 0, slots := 0, locals := 21 }) s m ([.ref md, .int (nI k), .int (nI be)] : List Value).toArray below meth cde H locs 0 0 (MQ below (va_Qi (S := Unit) (fun (w : Int32) (_ : Unit) => w = nI (sk be T e k - k)) (fun u tS => ctB D vcl ((fun _ => [(cX, .int)]) u) ((fun _ : Unit => [(md, .inr (5, [.ref xx, .int ln, .long R, .int rd, .ref mm, .ref nn, .int at0, .int (nI e)])), (xx, .inl (cX, 2400, .inl (tx T)))]) u) A tS) A) ([.ref md, .int (nI k), .int (nI be)] : List Value).toArray s 0 0 A) (F0 m 2 ls []) := by
    intro kk
    induction kk with
    | zero => intro j hmz; exact absurd hmz (Nat.not_lt_zero _)
    | succ kk ih =>
      intro j hmz hj1 hj2 hj3 H locs ls hP hD hS hl
      have hlb := lk_b hT e j
      refine lv_aload_n hx hb d_Mod_digits_2 rfl (lv_at hl 0 rfl) ?_
      refine lv_iload_n hx hb d_Mod_digits_3 rfl (lv_at hl 3 rfl) ?_
      refine ca_i [] (va_runV (As := [.int (nI j)]) (rest := []) ⟨hx, hb, hml, hown, hts⟩ (c_Mod_look l D E md xx mm nn cX ln rd R T at0 e he j (by omega) H.size) (xV 1 hts kC_Mod_look kM_Mod_84 kI_Mod_look kS_Mod_look kN_Mod rfl rfl (by decide +kernel) ⟨Nat.le_of_ble_eq_true rfl, Nat.le_of_ble_eq_true rfl⟩) ⟨ct_blind hev, va_recv hK hP (ci := 5) (q0 := 0) rfl rfl, ct_pre hev hP hK hD hS hA hE [0, 1] rfl (by decide) [0] rfl⟩ rfl rfl hl.1 rfl (lv_room (Nat.le_of_ble_eq_true rfl)) d_Mod_digits_4 ⟨Nat.le_of_ble_eq_true rfl, Nat.le_of_ble_eq_true rfl⟩) hP hD hS hA [0, 1] [] rfl rfl (by decide) (by decide) (fun rv u H locs hw hP hD hS hK1 => ?_)
      subst hw
      have hP : va_P D vcl [(md, .inr (5, [.ref xx, .int ln, .long R, .int rd, .ref mm, .ref nn, .int at0, .int (nI e)])), (xx, .inl (cX, 2400, .inl (tx T)))] H := hP
      have hD : va_D A [(md, .inr (5, [.ref xx, .int ln, .long R, .int rd, .ref mm, .ref nn, .int at0, .int (nI e)])), (xx, .inl (cX, 2400, .inl (tx T)))] := hD
      refine ca_i [(md, .inr (5, [.ref xx, .int ln, .long R, .int rd, .ref mm, .ref nn, .int at0, .int (nI e)])), (xx, .inl (cX, 2400, .inl (tx T)))] (va_runS (As := [.int (nI (lk T e j))]) (rest := []) ⟨hx, hb, hml, hown, hts⟩ (c_Mod_digitOf l D E (lk T e j) (by omega) H.size) (xS 1 hts kC_Mod_digitOf kM_Mod_87 kT_Mod_digitOf kN_Mod rfl rfl (by decide +kernel) ⟨Nat.le_of_ble_eq_true rfl, Nat.le_of_ble_eq_true rfl⟩) ⟨ct_blind hev, ct_pre hev hP hK hD hS hA hE [] rfl (by decide) [] rfl⟩ rfl rfl hl.1 rfl (lv_room (Nat.le_of_ble_eq_true rfl)) d_Mod_digits_7 ⟨Nat.le_of_ble_eq_true rfl, Nat.le_of_ble_eq_true rfl⟩) hP hD hS hA [] [0, 1] rfl rfl (by decide) (by decide) (fun rv u H locs hw hP hD hS hK1 => ?_)
      subst hw
      have hP : va_P D vcl [(md, .inr (5, [.ref xx, .int ln, .long R, .int rd, .ref mm, .ref nn, .int at0, .int (nI e)])), (xx, .inl (cX, 2400, .inl (tx T)))] H := hP
      have hD : va_D A [(md, .inr (5, [.ref xx, .int ln, .long R, .int rd, .ref mm, .ref nn, .int at0, .int (nI e)])), (xx, .inl (cX, 2400, .inl (tx T)))] := hD
      refine lv_iload_n hx hb d_Mod_digits_10 rfl (lv_at hl 2 rfl) ?_
      refine lv_icmp_ge (tgt := 20) hx hb d_Mod_digits_11 (by decide) (fun c11 => ?_) (fun c11 => ?_)
      · have e11 : ¬ (j < e ∧ dg (T j) < be) := fun z => by have h9 := (nI_leI (by omega) (by unfold dgm; split <;> omega)).mp c11; rw [lk_in z.1] at h9; have := (dgm_lt hbe).mpr z.2; omega
        refine lv_iload_n hx hb d_Mod_digits_20 rfl (lv_at hl 3 rfl) ?_
        refine lv_iload_n hx hb d_Mod_digits_21 rfl (lv_at hl 1 rfl) ?_
        refine lv_isub hx hb d_Mod_digits_22 ?_
        refine tv_i (nI (j - k)) (pk_sub hj1) ?_
        exact rt_i hx hb hrt hlocks (rfl) (()) (by rw [← hj3, sk_f e11]) (hP.sub [0, 1] rfl) (hK.sub [0] rfl) (hD.sub [0, 1] (by decide) rfl) hS d_Mod_digits_23
      · have e11 : j < e ∧ dg (T j) < be := by
          have h9 : dgm (lk T e j) < be := Nat.lt_of_not_le (fun z => c11 ((nI_leI (by omega) (by unfold dgm; split <;> omega)).mpr z))
          have h8 := (dgm_lt hbe).mp h9
          by_cases hje : j < e
          · rw [lk_in hje] at h8; exact ⟨hje, h8⟩
          · rw [lk_out hje, dg0] at h8; omega
        refine lv_iinc (v := nI (j + 1)) (lv' := [(3, .int (nI (j + 1))), (0, .ref md), (1, .int (nI k)), (2, .int (nI be))]) hx hb d_Mod_digits_14 hl (k := 3) rfl (nI_1 j) (by decide) rfl (fun ls hl => ?_)
        refine lv_goto (tgt := 2) hx hb d_Mod_digits_17 (by decide) ?_
        exact ih (j + 1) (by omega) (by omega) (by omega) (by rw [← sk_t e11.1 e11.2]; exact hj3) _ _ _ (hP.sub [0, 1] rfl) (hD.sub [0, 1] (by decide) rfl) hS (lv_sub hl [1, 2, 3, 0] rfl)
  exact L2 (e + 1) k (by omega) (Nat.le_refl _) (hke) (rfl) _ _ _ (hP.sub [0, 1] rfl) (hD.sub [0, 1] (by decide) rfl) hS (lv_sub hl [1, 2, 3, 0] rfl)

set_option maxHeartbeats 4000000 in
set_option maxRecDepth 100000 in
theorem c_Mod_isWord (l : Launch) (D : va_G) (E : evD) (md xx mm nn : Nat) (cX : ClassId) (ln rd : Int32) (R : Int64) (T : Nat → Nat) (hT : ∀ j, T j < 256) (e : Nat) (he : e ≤ 2400) (a : Nat) (hae : a ≤ e) (c1 c2 c3 sz : Nat) (hc1 : c1 < 256) (hc2 : c2 < 256) (hc3 : c3 < 256) (hsz : sz < 256) : Ci (S := Unit) l y_Mod_isWord (wz y_Mod_isWord b_Mod_isWord 5 (some .boolean)) ({ frames := 1, cells := 0, slots := 0, locals := 21 }) D vcl (ev1 E) [.ref md, .int (nI c1), .int (nI c2), .int (nI c3), .int (nI sz)] [(cX, .int)] [(md, .inr (5, [.ref xx, .int ln, .long R, .int rd, .ref mm, .ref nn, .int (nI a), .int (nI e)])), (xx, .inl (cX, 2400, .inl (tx T)))] 0 0 (fun (w : Int32) (_ : Unit) => w = bI (decide (e - a = sz ∧ lk T e a = c1 ∧ lk T e (a + 1) = c2 ∧ lk T e (a + 2) = c3))) (fun _ => [(cX, .int)]) (fun _ : Unit => [(md, .inr (5, [.ref xx, .int ln, .long R, .int rd, .ref mm, .ref nn, .int (nI a), .int (nI e)])), (xx, .inl (cX, 2400, .inl (tx T)))]) := by
  have hev := ev1_ok E
  unfold Ci
  refine ct_of (y := y_Mod_isWord) (av := [.ref md, .int (nI c1), .int (nI c2), .int (nI c3), .int (nI sz)]) (cc := b_Mod_isWord) (maxL := 5) (ret := (some .boolean)) (Qc := fun A => va_Qi (S := Unit) (fun (w : Int32) (_ : Unit) => w = bI (decide (e - a = sz ∧ lk T e a = c1 ∧ lk T e (a + 1) = c2 ∧ lk T e (a + 2) = c3))) (fun u tS => ctB D vcl ((fun _ => [(cX, .int)]) u) ((fun _ : Unit => [(md, .inr (5, [.ref xx, .int ln, .long R, .int rd, .ref mm, .ref nn, .int (nI a), .int (nI e)])), (xx, .inl (cX, 2400, .inl (tx T)))]) u) A tS) A) (by decide) rfl (Nat.le_of_ble_eq_true rfl) ?_
  intro p ee s m below meth cde ls A H locs hx hb hml hrt hlocks hown hin hts hA hP hK hD hS hE hl
  have hown : s.vm.findClass R_Mod = some m.cls := hown
  have hts := wz_g hts
  have hl : lv_has ls 5 [(0, .ref md), (1, .int (nI c1)), (2, .int (nI c2)), (3, .int (nI c3)), (4, .int (nI sz))] := hl
  have hlb := lk_b hT e a
  have hlb1 := lk_b hT e (a + 1)
  have hlb2 := lk_b hT e (a + 2)
  refine lv_aload_n hx hb d_Mod_isWord_0 rfl (lv_at hl 0 rfl) ?_
  refine va_get (D := D) (ci := 5) (v := .int (nI e)) (C := R_Mod) (T := F_Mod) (N := 8) hx hb hts w_Mod hown hK hP 0 rfl rfl 7 (by decide) (hts _ kF_Mod_78) (fun _ h9 => h9) rfl d_Mod_isWord_1 ?_
  refine lv_aload_n hx hb d_Mod_isWord_4 rfl (lv_at hl 0 rfl) ?_
  refine va_get (D := D) (ci := 5) (v := .int (nI a)) (C := R_Mod) (T := F_Mod) (N := 8) hx hb hts w_Mod hown hK hP 0 rfl rfl 6 (by decide) (hts _ kF_Mod_81) (fun _ h9 => h9) rfl d_Mod_isWord_5 ?_
  refine lv_isub hx hb d_Mod_isWord_8 ?_
  refine tv_i (nI (e - a)) (pk_sub hae) ?_
  refine lv_iload hx hb d_Mod_isWord_9 (lv_at hl 4 rfl) ?_
  refine lv_icmp_ne (tgt := 58) hx hb d_Mod_isWord_11 (by decide) (fun c11 => ?_) (fun c11 => ?_)
  · have e11 : e - a ≠ sz := fun z => c11 (by rw [z])
    refine lv_iconst (v := 0) hx hb d_Mod_isWord_58 (by decide) ?_
    exact rt_i hx hb hrt hlocks (rfl) (()) (by rw [decide_eq_false (fun z => e11 z.1)]; rfl) (hP.sub [0, 1] rfl) (hK.sub [0] rfl) (hD.sub [0, 1] (by decide) rfl) hS d_Mod_isWord_59
  · have e11 : e - a = sz := (nI_eq (by omega) (by omega)).mp c11
    refine lv_aload_n hx hb d_Mod_isWord_14 rfl (lv_at hl 0 rfl) ?_
    refine lv_aload_n hx hb d_Mod_isWord_15 rfl (lv_at hl 0 rfl) ?_
    refine va_get (D := D) (ci := 5) (v := .int (nI a)) (C := R_Mod) (T := F_Mod) (N := 8) hx hb hts w_Mod hown hK hP 0 rfl rfl 6 (by decide) (hts _ kF_Mod_81) (fun _ h9 => h9) rfl d_Mod_isWord_16 ?_
    refine ca_i [] (va_runV (As := [.int (nI a)]) (rest := []) ⟨hx, hb, hml, hown, hts⟩ (c_Mod_look l D E md xx mm nn cX ln rd R T (nI a) e he a (by omega) H.size) (xV 1 hts kC_Mod_look kM_Mod_84 kI_Mod_look kS_Mod_look kN_Mod rfl rfl (by decide +kernel) ⟨Nat.le_of_ble_eq_true rfl, Nat.le_of_ble_eq_true rfl⟩) ⟨ct_blind hev, va_recv hK hP (ci := 5) (q0 := 0) rfl rfl, ct_pre hev hP hK hD hS hA hE [0, 1] rfl (by decide) [0] rfl⟩ rfl rfl hl.1 rfl (lv_room (Nat.le_of_ble_eq_true rfl)) d_Mod_isWord_19 ⟨Nat.le_of_ble_eq_true rfl, Nat.le_of_ble_eq_true rfl⟩) hP hD hS hA [0, 1] [] rfl rfl (by decide) (by decide) (fun rv u H locs hw hP hD hS hK1 => ?_)
    subst hw
    have hP : va_P D vcl [(md, .inr (5, [.ref xx, .int ln, .long R, .int rd, .ref mm, .ref nn, .int (nI a), .int (nI e)])), (xx, .inl (cX, 2400, .inl (tx T)))] H := hP
    have hD : va_D A [(md, .inr (5, [.ref xx, .int ln, .long R, .int rd, .ref mm, .ref nn, .int (nI a), .int (nI e)])), (xx, .inl (cX, 2400, .inl (tx T)))] := hD
    refine lv_iload_n hx hb d_Mod_isWord_22 rfl (lv_at hl 1 rfl) ?_
    refine lv_icmp_ne (tgt := 58) hx hb d_Mod_isWord_23 (by decide) (fun c23 => ?_) (fun c23 => ?_)
    · have e23 : lk T e a ≠ c1 := fun z => c23 (by rw [z])
      refine lv_iconst (v := 0) hx hb d_Mod_isWord_58 (by decide) ?_
      exact rt_i hx hb hrt hlocks (rfl) (()) (by rw [decide_eq_false (fun z => e23 z.2.1)]; rfl) (hP.sub [0, 1] rfl) (hK.sub [0] rfl) (hD.sub [0, 1] (by decide) rfl) hS d_Mod_isWord_59
    · have e23 : lk T e a = c1 := (nI_eq (by omega) (by omega)).mp c23
      refine lv_aload_n hx hb d_Mod_isWord_26 rfl (lv_at hl 0 rfl) ?_
      refine lv_aload_n hx hb d_Mod_isWord_27 rfl (lv_at hl 0 rfl) ?_
      refine va_get (D := D) (ci := 5) (v := .int (nI a)) (C := R_Mod) (T := F_Mod) (N := 8) hx hb hts w_Mod hown hK hP 0 rfl rfl 6 (by decide) (hts _ kF_Mod_81) (fun _ h9 => h9) rfl d_Mod_isWord_28 ?_
      refine lv_iconst (v := 1) hx hb d_Mod_isWord_31 (by decide) ?_
      refine lv_iadd hx hb d_Mod_isWord_32 ?_
      refine tv_i (nI (a + 1)) (nI_1 a) ?_
      refine ca_i [] (va_runV (As := [.int (nI (a + 1))]) (rest := []) ⟨hx, hb, hml, hown, hts⟩ (c_Mod_look l D E md xx mm nn cX ln rd R T (nI a) e he (a + 1) (by omega) H.size) (xV 1 hts kC_Mod_look kM_Mod_84 kI_Mod_look kS_Mod_look kN_Mod rfl rfl (by decide +kernel) ⟨Nat.le_of_ble_eq_true rfl, Nat.le_of_ble_eq_true rfl⟩) ⟨ct_blind hev, va_recv hK hP (ci := 5) (q0 := 0) rfl rfl, ct_pre hev hP hK hD hS hA hE [0, 1] rfl (by decide) [0] rfl⟩ rfl rfl hl.1 rfl (lv_room (Nat.le_of_ble_eq_true rfl)) d_Mod_isWord_33 ⟨Nat.le_of_ble_eq_true rfl, Nat.le_of_ble_eq_true rfl⟩) hP hD hS hA [0, 1] [] rfl rfl (by decide) (by decide) (fun rv u H locs hw hP hD hS hK1 => ?_)
      subst hw
      have hP : va_P D vcl [(md, .inr (5, [.ref xx, .int ln, .long R, .int rd, .ref mm, .ref nn, .int (nI a), .int (nI e)])), (xx, .inl (cX, 2400, .inl (tx T)))] H := hP
      have hD : va_D A [(md, .inr (5, [.ref xx, .int ln, .long R, .int rd, .ref mm, .ref nn, .int (nI a), .int (nI e)])), (xx, .inl (cX, 2400, .inl (tx T)))] := hD
      refine lv_iload_n hx hb d_Mod_isWord_36 rfl (lv_at hl 2 rfl) ?_
      refine lv_icmp_ne (tgt := 58) hx hb d_Mod_isWord_37 (by decide) (fun c37 => ?_) (fun c37 => ?_)
      · have e37 : lk T e (a + 1) ≠ c2 := fun z => c37 (by rw [z])
        refine lv_iconst (v := 0) hx hb d_Mod_isWord_58 (by decide) ?_
        exact rt_i hx hb hrt hlocks (rfl) (()) (by rw [decide_eq_false (fun z => e37 z.2.2.1)]; rfl) (hP.sub [0, 1] rfl) (hK.sub [0] rfl) (hD.sub [0, 1] (by decide) rfl) hS d_Mod_isWord_59
      · have e37 : lk T e (a + 1) = c2 := (nI_eq (by omega) (by omega)).mp c37
        refine lv_aload_n hx hb d_Mod_isWord_40 rfl (lv_at hl 0 rfl) ?_
        refine lv_aload_n hx hb d_Mod_isWord_41 rfl (lv_at hl 0 rfl) ?_
        refine va_get (D := D) (ci := 5) (v := .int (nI a)) (C := R_Mod) (T := F_Mod) (N := 8) hx hb hts w_Mod hown hK hP 0 rfl rfl 6 (by decide) (hts _ kF_Mod_81) (fun _ h9 => h9) rfl d_Mod_isWord_42 ?_
        refine lv_iconst (v := 2) hx hb d_Mod_isWord_45 (by decide) ?_
        refine lv_iadd hx hb d_Mod_isWord_46 ?_
        refine tv_i (nI (a + 2)) (nI_add a 2) ?_
        refine ca_i [] (va_runV (As := [.int (nI (a + 2))]) (rest := []) ⟨hx, hb, hml, hown, hts⟩ (c_Mod_look l D E md xx mm nn cX ln rd R T (nI a) e he (a + 2) (by omega) H.size) (xV 1 hts kC_Mod_look kM_Mod_84 kI_Mod_look kS_Mod_look kN_Mod rfl rfl (by decide +kernel) ⟨Nat.le_of_ble_eq_true rfl, Nat.le_of_ble_eq_true rfl⟩) ⟨ct_blind hev, va_recv hK hP (ci := 5) (q0 := 0) rfl rfl, ct_pre hev hP hK hD hS hA hE [0, 1] rfl (by decide) [0] rfl⟩ rfl rfl hl.1 rfl (lv_room (Nat.le_of_ble_eq_true rfl)) d_Mod_isWord_47 ⟨Nat.le_of_ble_eq_true rfl, Nat.le_of_ble_eq_true rfl⟩) hP hD hS hA [0, 1] [] rfl rfl (by decide) (by decide) (fun rv u H locs hw hP hD hS hK1 => ?_)
        subst hw
        have hP : va_P D vcl [(md, .inr (5, [.ref xx, .int ln, .long R, .int rd, .ref mm, .ref nn, .int (nI a), .int (nI e)])), (xx, .inl (cX, 2400, .inl (tx T)))] H := hP
        have hD : va_D A [(md, .inr (5, [.ref xx, .int ln, .long R, .int rd, .ref mm, .ref nn, .int (nI a), .int (nI e)])), (xx, .inl (cX, 2400, .inl (tx T)))] := hD
        refine lv_iload_n hx hb d_Mod_isWord_50 rfl (lv_at hl 3 rfl) ?_
        refine lv_icmp_ne (tgt := 58) hx hb d_Mod_isWord_51 (by decide) (fun c51 => ?_) (fun c51 => ?_)
        · have e51 : lk T e (a + 2) ≠ c3 := fun z => c51 (by rw [z])
          refine lv_iconst (v := 0) hx hb d_Mod_isWord_58 (by decide) ?_
          exact rt_i hx hb hrt hlocks (rfl) (()) (by rw [decide_eq_false (fun z => e51 z.2.2.2)]; rfl) (hP.sub [0, 1] rfl) (hK.sub [0] rfl) (hD.sub [0, 1] (by decide) rfl) hS d_Mod_isWord_59
        · have e51 : lk T e (a + 2) = c3 := (nI_eq (by omega) (by omega)).mp c51
          refine lv_iconst (v := 1) hx hb d_Mod_isWord_54 (by decide) ?_
          refine lv_goto (tgt := 59) hx hb d_Mod_isWord_55 (by decide) ?_
          exact rt_i hx hb hrt hlocks (rfl) (()) (by rw [decide_eq_true ⟨e11, e23, e37, e51⟩]; rfl) (hP.sub [0, 1] rfl) (hK.sub [0] rfl) (hD.sub [0, 1] (by decide) rfl) hS d_Mod_isWord_59

set_option maxHeartbeats 4000000 in
set_option maxRecDepth 100000 in
theorem c_Mod_isInfinity (l : Launch) (D : va_G) (E : evD) (md xx mm nn : Nat) (cX : ClassId) (ln rd : Int32) (R : Int64) (T : Nat → Nat) (hT : ∀ j, T j < 256) (e : Nat) (he : e ≤ 2400) (a : Nat) (hae : a ≤ e) : Ci (S := Unit) l y_Mod_isInfinity (wz y_Mod_isInfinity b_Mod_isInfinity 1 (some .boolean)) ({ frames := 2, cells := 0, slots := 0, locals := 45 }) D vcl (ev1 E) [.ref md] [(cX, .int)] [(md, .inr (5, [.ref xx, .int ln, .long R, .int rd, .ref mm, .ref nn, .int (nI a), .int (nI e)])), (xx, .inl (cX, 2400, .inl (tx T)))] 0 0 (fun (w : Int32) (_ : Unit) => w = bI (wdB T e a 1)) (fun _ => [(cX, .int)]) (fun _ : Unit => [(md, .inr (5, [.ref xx, .int ln, .long R, .int rd, .ref mm, .ref nn, .int (nI a), .int (nI e)])), (xx, .inl (cX, 2400, .inl (tx T)))]) := by
  have hev := ev1_ok E
  unfold Ci
  refine ct_of (y := y_Mod_isInfinity) (av := [.ref md]) (cc := b_Mod_isInfinity) (maxL := 1) (ret := (some .boolean)) (Qc := fun A => va_Qi (S := Unit) (fun (w : Int32) (_ : Unit) => w = bI (wdB T e a 1)) (fun u tS => ctB D vcl ((fun _ => [(cX, .int)]) u) ((fun _ : Unit => [(md, .inr (5, [.ref xx, .int ln, .long R, .int rd, .ref mm, .ref nn, .int (nI a), .int (nI e)])), (xx, .inl (cX, 2400, .inl (tx T)))]) u) A tS) A) (by decide) rfl (Nat.le_of_ble_eq_true rfl) ?_
  intro p ee s m below meth cde ls A H locs hx hb hml hrt hlocks hown hin hts hA hP hK hD hS hE hl
  have hown : s.vm.findClass R_Mod = some m.cls := hown
  have hts := wz_g hts
  have hl : lv_has ls 1 [(0, .ref md)] := hl
  refine lv_aload_n hx hb d_Mod_isInfinity_0 rfl (lv_at hl 0 rfl) ?_
  refine lv_bipush (v := 73) hx hb d_Mod_isInfinity_1 (by decide) ?_
  refine lv_bipush (v := 110) hx hb d_Mod_isInfinity_3 (by decide) ?_
  refine lv_bipush (v := 102) hx hb d_Mod_isInfinity_5 (by decide) ?_
  refine lv_bipush (v := 8) hx hb d_Mod_isInfinity_7 (by decide) ?_
  refine ca_i [] (va_runV (As := [.int 73, .int 110, .int 102, .int 8]) (rest := []) ⟨hx, hb, hml, hown, hts⟩ (c_Mod_isWord l D E md xx mm nn cX ln rd R T hT e he a (hae) 73 110 102 8 (by decide) (by decide) (by decide) (by decide) H.size) (xV 4 hts kC_Mod_isWord kM_Mod_90 kI_Mod_isWord kS_Mod_isWord kN_Mod rfl rfl (by decide +kernel) ⟨Nat.le_of_ble_eq_true rfl, Nat.le_of_ble_eq_true rfl⟩) ⟨ct_blind hev, va_recv hK hP (ci := 5) (q0 := 0) rfl rfl, ct_pre hev hP hK hD hS hA hE [0, 1] rfl (by decide) [0] rfl⟩ rfl rfl hl.1 rfl (lv_room (Nat.le_of_ble_eq_true rfl)) d_Mod_isInfinity_9 ⟨Nat.le_of_ble_eq_true rfl, Nat.le_of_ble_eq_true rfl⟩) hP hD hS hA [0, 1] [] rfl rfl (by decide) (by decide) (fun rv u H locs hw hP hD hS hK1 => ?_)
  subst hw
  have hP : va_P D vcl [(md, .inr (5, [.ref xx, .int ln, .long R, .int rd, .ref mm, .ref nn, .int (nI a), .int (nI e)])), (xx, .inl (cX, 2400, .inl (tx T)))] H := hP
  have hD : va_D A [(md, .inr (5, [.ref xx, .int ln, .long R, .int rd, .ref mm, .ref nn, .int (nI a), .int (nI e)])), (xx, .inl (cX, 2400, .inl (tx T)))] := hD
  refine lv_if_eq (tgt := 96) hx hb d_Mod_isInfinity_12 (by decide) (fun c12 => ?_) (fun c12 => ?_)
  · have e12 : ¬ (e - a = 8 ∧ lk T e a = 73 ∧ lk T e (a + 1) = 110 ∧ lk T e (a + 2) = 102) := of_decide_eq_false ((bI_0 _).mp c12)
    refine lv_iconst (v := 0) hx hb d_Mod_isInfinity_96 (by decide) ?_
    exact rt_i hx hb hrt hlocks (rfl) (()) (by rw [wd_1, decide_eq_false (fun z => e12 z.1)]; rfl) (hP.sub [0, 1] rfl) (hK.sub [0] rfl) (hD.sub [0, 1] (by decide) rfl) hS d_Mod_isInfinity_97
  · have e12 : e - a = 8 ∧ lk T e a = 73 ∧ lk T e (a + 1) = 110 ∧ lk T e (a + 2) = 102 := of_decide_eq_true (tt_of (fun z => c12 ((bI_0 _).mpr z)))
    refine lv_aload_n hx hb d_Mod_isInfinity_15 rfl (lv_at hl 0 rfl) ?_
    refine lv_aload_n hx hb d_Mod_isInfinity_16 rfl (lv_at hl 0 rfl) ?_
    refine va_get (D := D) (ci := 5) (v := .int (nI a)) (C := R_Mod) (T := F_Mod) (N := 8) hx hb hts w_Mod hown hK hP 0 rfl rfl 6 (by decide) (hts _ kF_Mod_81) (fun _ h9 => h9) rfl d_Mod_isInfinity_17 ?_
    refine lv_iconst (v := 3) hx hb d_Mod_isInfinity_20 (by decide) ?_
    refine lv_iadd hx hb d_Mod_isInfinity_21 ?_
    refine tv_i (nI (a + 3)) (nI_add a 3) ?_
    refine ca_i [] (va_runV (As := [.int (nI (a + 3))]) (rest := []) ⟨hx, hb, hml, hown, hts⟩ (c_Mod_look l D E md xx mm nn cX ln rd R T (nI a) e he (a + 3) (by omega) H.size) (xV 1 hts kC_Mod_look kM_Mod_84 kI_Mod_look kS_Mod_look kN_Mod rfl rfl (by decide +kernel) ⟨Nat.le_of_ble_eq_true rfl, Nat.le_of_ble_eq_true rfl⟩) ⟨ct_blind hev, va_recv hK hP (ci := 5) (q0 := 0) rfl rfl, ct_pre hev hP hK hD hS hA hE [0, 1] rfl (by decide) [0] rfl⟩ rfl rfl hl.1 rfl (lv_room (Nat.le_of_ble_eq_true rfl)) d_Mod_isInfinity_22 ⟨Nat.le_of_ble_eq_true rfl, Nat.le_of_ble_eq_true rfl⟩) hP hD hS hA [0, 1] [] rfl rfl (by decide) (by decide) (fun rv u H locs hw hP hD hS hK1 => ?_)
    subst hw
    have hP : va_P D vcl [(md, .inr (5, [.ref xx, .int ln, .long R, .int rd, .ref mm, .ref nn, .int (nI a), .int (nI e)])), (xx, .inl (cX, 2400, .inl (tx T)))] H := hP
    have hD : va_D A [(md, .inr (5, [.ref xx, .int ln, .long R, .int rd, .ref mm, .ref nn, .int (nI a), .int (nI e)])), (xx, .inl (cX, 2400, .inl (tx T)))] := hD
    refine lv_bipush (v := 105) hx hb d_Mod_isInfinity_25 (by decide) ?_
    refine lv_icmp_ne (tgt := 96) hx hb d_Mod_isInfinity_27 (by decide) (fun c27 => ?_) (fun c27 => ?_)
    · have e27 : lk T e (a + 3) ≠ 105 := fun z => c27 (by rw [z]; rfl)
      refine lv_iconst (v := 0) hx hb d_Mod_isInfinity_96 (by decide) ?_
      exact rt_i hx hb hrt hlocks (rfl) (()) (by rw [wd_1, decide_eq_false (fun z => e27 z.2.1)]; rfl) (hP.sub [0, 1] rfl) (hK.sub [0] rfl) (hD.sub [0, 1] (by decide) rfl) hS d_Mod_isInfinity_97
    · have e27 : lk T e (a + 3) = 105 := (nI_eq (b := 105) (by have := lk_b hT e (a + 3); omega) (by decide)).mp c27
      refine lv_aload_n hx hb d_Mod_isInfinity_30 rfl (lv_at hl 0 rfl) ?_
      refine lv_aload_n hx hb d_Mod_isInfinity_31 rfl (lv_at hl 0 rfl) ?_
      refine va_get (D := D) (ci := 5) (v := .int (nI a)) (C := R_Mod) (T := F_Mod) (N := 8) hx hb hts w_Mod hown hK hP 0 rfl rfl 6 (by decide) (hts _ kF_Mod_81) (fun _ h9 => h9) rfl d_Mod_isInfinity_32 ?_
      refine lv_iconst (v := 4) hx hb d_Mod_isInfinity_35 (by decide) ?_
      refine lv_iadd hx hb d_Mod_isInfinity_36 ?_
      refine tv_i (nI (a + 4)) (nI_add a 4) ?_
      refine ca_i [] (va_runV (As := [.int (nI (a + 4))]) (rest := []) ⟨hx, hb, hml, hown, hts⟩ (c_Mod_look l D E md xx mm nn cX ln rd R T (nI a) e he (a + 4) (by omega) H.size) (xV 1 hts kC_Mod_look kM_Mod_84 kI_Mod_look kS_Mod_look kN_Mod rfl rfl (by decide +kernel) ⟨Nat.le_of_ble_eq_true rfl, Nat.le_of_ble_eq_true rfl⟩) ⟨ct_blind hev, va_recv hK hP (ci := 5) (q0 := 0) rfl rfl, ct_pre hev hP hK hD hS hA hE [0, 1] rfl (by decide) [0] rfl⟩ rfl rfl hl.1 rfl (lv_room (Nat.le_of_ble_eq_true rfl)) d_Mod_isInfinity_37 ⟨Nat.le_of_ble_eq_true rfl, Nat.le_of_ble_eq_true rfl⟩) hP hD hS hA [0, 1] [] rfl rfl (by decide) (by decide) (fun rv u H locs hw hP hD hS hK1 => ?_)
      subst hw
      have hP : va_P D vcl [(md, .inr (5, [.ref xx, .int ln, .long R, .int rd, .ref mm, .ref nn, .int (nI a), .int (nI e)])), (xx, .inl (cX, 2400, .inl (tx T)))] H := hP
      have hD : va_D A [(md, .inr (5, [.ref xx, .int ln, .long R, .int rd, .ref mm, .ref nn, .int (nI a), .int (nI e)])), (xx, .inl (cX, 2400, .inl (tx T)))] := hD
      refine lv_bipush (v := 110) hx hb d_Mod_isInfinity_40 (by decide) ?_
      refine lv_icmp_ne (tgt := 96) hx hb d_Mod_isInfinity_42 (by decide) (fun c42 => ?_) (fun c42 => ?_)
      · have e42 : lk T e (a + 4) ≠ 110 := fun z => c42 (by rw [z]; rfl)
        refine lv_iconst (v := 0) hx hb d_Mod_isInfinity_96 (by decide) ?_
        exact rt_i hx hb hrt hlocks (rfl) (()) (by rw [wd_1, decide_eq_false (fun z => e42 z.2.2.1)]; rfl) (hP.sub [0, 1] rfl) (hK.sub [0] rfl) (hD.sub [0, 1] (by decide) rfl) hS d_Mod_isInfinity_97
      · have e42 : lk T e (a + 4) = 110 := (nI_eq (b := 110) (by have := lk_b hT e (a + 4); omega) (by decide)).mp c42
        refine lv_aload_n hx hb d_Mod_isInfinity_45 rfl (lv_at hl 0 rfl) ?_
        refine lv_aload_n hx hb d_Mod_isInfinity_46 rfl (lv_at hl 0 rfl) ?_
        refine va_get (D := D) (ci := 5) (v := .int (nI a)) (C := R_Mod) (T := F_Mod) (N := 8) hx hb hts w_Mod hown hK hP 0 rfl rfl 6 (by decide) (hts _ kF_Mod_81) (fun _ h9 => h9) rfl d_Mod_isInfinity_47 ?_
        refine lv_iconst (v := 5) hx hb d_Mod_isInfinity_50 (by decide) ?_
        refine lv_iadd hx hb d_Mod_isInfinity_51 ?_
        refine tv_i (nI (a + 5)) (nI_add a 5) ?_
        refine ca_i [] (va_runV (As := [.int (nI (a + 5))]) (rest := []) ⟨hx, hb, hml, hown, hts⟩ (c_Mod_look l D E md xx mm nn cX ln rd R T (nI a) e he (a + 5) (by omega) H.size) (xV 1 hts kC_Mod_look kM_Mod_84 kI_Mod_look kS_Mod_look kN_Mod rfl rfl (by decide +kernel) ⟨Nat.le_of_ble_eq_true rfl, Nat.le_of_ble_eq_true rfl⟩) ⟨ct_blind hev, va_recv hK hP (ci := 5) (q0 := 0) rfl rfl, ct_pre hev hP hK hD hS hA hE [0, 1] rfl (by decide) [0] rfl⟩ rfl rfl hl.1 rfl (lv_room (Nat.le_of_ble_eq_true rfl)) d_Mod_isInfinity_52 ⟨Nat.le_of_ble_eq_true rfl, Nat.le_of_ble_eq_true rfl⟩) hP hD hS hA [0, 1] [] rfl rfl (by decide) (by decide) (fun rv u H locs hw hP hD hS hK1 => ?_)
        subst hw
        have hP : va_P D vcl [(md, .inr (5, [.ref xx, .int ln, .long R, .int rd, .ref mm, .ref nn, .int (nI a), .int (nI e)])), (xx, .inl (cX, 2400, .inl (tx T)))] H := hP
        have hD : va_D A [(md, .inr (5, [.ref xx, .int ln, .long R, .int rd, .ref mm, .ref nn, .int (nI a), .int (nI e)])), (xx, .inl (cX, 2400, .inl (tx T)))] := hD
        refine lv_bipush (v := 105) hx hb d_Mod_isInfinity_55 (by decide) ?_
        refine lv_icmp_ne (tgt := 96) hx hb d_Mod_isInfinity_57 (by decide) (fun c57 => ?_) (fun c57 => ?_)
        · have e57 : lk T e (a + 5) ≠ 105 := fun z => c57 (by rw [z]; rfl)
          refine lv_iconst (v := 0) hx hb d_Mod_isInfinity_96 (by decide) ?_
          exact rt_i hx hb hrt hlocks (rfl) (()) (by rw [wd_1, decide_eq_false (fun z => e57 z.2.2.2.1)]; rfl) (hP.sub [0, 1] rfl) (hK.sub [0] rfl) (hD.sub [0, 1] (by decide) rfl) hS d_Mod_isInfinity_97
        · have e57 : lk T e (a + 5) = 105 := (nI_eq (b := 105) (by have := lk_b hT e (a + 5); omega) (by decide)).mp c57
          refine lv_aload_n hx hb d_Mod_isInfinity_60 rfl (lv_at hl 0 rfl) ?_
          refine lv_aload_n hx hb d_Mod_isInfinity_61 rfl (lv_at hl 0 rfl) ?_
          refine va_get (D := D) (ci := 5) (v := .int (nI a)) (C := R_Mod) (T := F_Mod) (N := 8) hx hb hts w_Mod hown hK hP 0 rfl rfl 6 (by decide) (hts _ kF_Mod_81) (fun _ h9 => h9) rfl d_Mod_isInfinity_62 ?_
          refine lv_bipush (v := 6) hx hb d_Mod_isInfinity_65 (by decide) ?_
          refine lv_iadd hx hb d_Mod_isInfinity_67 ?_
          refine tv_i (nI (a + 6)) (nI_add a 6) ?_
          refine ca_i [] (va_runV (As := [.int (nI (a + 6))]) (rest := []) ⟨hx, hb, hml, hown, hts⟩ (c_Mod_look l D E md xx mm nn cX ln rd R T (nI a) e he (a + 6) (by omega) H.size) (xV 1 hts kC_Mod_look kM_Mod_84 kI_Mod_look kS_Mod_look kN_Mod rfl rfl (by decide +kernel) ⟨Nat.le_of_ble_eq_true rfl, Nat.le_of_ble_eq_true rfl⟩) ⟨ct_blind hev, va_recv hK hP (ci := 5) (q0 := 0) rfl rfl, ct_pre hev hP hK hD hS hA hE [0, 1] rfl (by decide) [0] rfl⟩ rfl rfl hl.1 rfl (lv_room (Nat.le_of_ble_eq_true rfl)) d_Mod_isInfinity_68 ⟨Nat.le_of_ble_eq_true rfl, Nat.le_of_ble_eq_true rfl⟩) hP hD hS hA [0, 1] [] rfl rfl (by decide) (by decide) (fun rv u H locs hw hP hD hS hK1 => ?_)
          subst hw
          have hP : va_P D vcl [(md, .inr (5, [.ref xx, .int ln, .long R, .int rd, .ref mm, .ref nn, .int (nI a), .int (nI e)])), (xx, .inl (cX, 2400, .inl (tx T)))] H := hP
          have hD : va_D A [(md, .inr (5, [.ref xx, .int ln, .long R, .int rd, .ref mm, .ref nn, .int (nI a), .int (nI e)])), (xx, .inl (cX, 2400, .inl (tx T)))] := hD
          refine lv_bipush (v := 116) hx hb d_Mod_isInfinity_71 (by decide) ?_
          refine lv_icmp_ne (tgt := 96) hx hb d_Mod_isInfinity_73 (by decide) (fun c73 => ?_) (fun c73 => ?_)
          · have e73 : lk T e (a + 6) ≠ 116 := fun z => c73 (by rw [z]; rfl)
            refine lv_iconst (v := 0) hx hb d_Mod_isInfinity_96 (by decide) ?_
            exact rt_i hx hb hrt hlocks (rfl) (()) (by rw [wd_1, decide_eq_false (fun z => e73 z.2.2.2.2.1)]; rfl) (hP.sub [0, 1] rfl) (hK.sub [0] rfl) (hD.sub [0, 1] (by decide) rfl) hS d_Mod_isInfinity_97
          · have e73 : lk T e (a + 6) = 116 := (nI_eq (b := 116) (by have := lk_b hT e (a + 6); omega) (by decide)).mp c73
            refine lv_aload_n hx hb d_Mod_isInfinity_76 rfl (lv_at hl 0 rfl) ?_
            refine lv_aload_n hx hb d_Mod_isInfinity_77 rfl (lv_at hl 0 rfl) ?_
            refine va_get (D := D) (ci := 5) (v := .int (nI a)) (C := R_Mod) (T := F_Mod) (N := 8) hx hb hts w_Mod hown hK hP 0 rfl rfl 6 (by decide) (hts _ kF_Mod_81) (fun _ h9 => h9) rfl d_Mod_isInfinity_78 ?_
            refine lv_bipush (v := 7) hx hb d_Mod_isInfinity_81 (by decide) ?_
            refine lv_iadd hx hb d_Mod_isInfinity_83 ?_
            refine tv_i (nI (a + 7)) (nI_add a 7) ?_
            refine ca_i [] (va_runV (As := [.int (nI (a + 7))]) (rest := []) ⟨hx, hb, hml, hown, hts⟩ (c_Mod_look l D E md xx mm nn cX ln rd R T (nI a) e he (a + 7) (by omega) H.size) (xV 1 hts kC_Mod_look kM_Mod_84 kI_Mod_look kS_Mod_look kN_Mod rfl rfl (by decide +kernel) ⟨Nat.le_of_ble_eq_true rfl, Nat.le_of_ble_eq_true rfl⟩) ⟨ct_blind hev, va_recv hK hP (ci := 5) (q0 := 0) rfl rfl, ct_pre hev hP hK hD hS hA hE [0, 1] rfl (by decide) [0] rfl⟩ rfl rfl hl.1 rfl (lv_room (Nat.le_of_ble_eq_true rfl)) d_Mod_isInfinity_84 ⟨Nat.le_of_ble_eq_true rfl, Nat.le_of_ble_eq_true rfl⟩) hP hD hS hA [0, 1] [] rfl rfl (by decide) (by decide) (fun rv u H locs hw hP hD hS hK1 => ?_)
            subst hw
            have hP : va_P D vcl [(md, .inr (5, [.ref xx, .int ln, .long R, .int rd, .ref mm, .ref nn, .int (nI a), .int (nI e)])), (xx, .inl (cX, 2400, .inl (tx T)))] H := hP
            have hD : va_D A [(md, .inr (5, [.ref xx, .int ln, .long R, .int rd, .ref mm, .ref nn, .int (nI a), .int (nI e)])), (xx, .inl (cX, 2400, .inl (tx T)))] := hD
            refine lv_bipush (v := 121) hx hb d_Mod_isInfinity_87 (by decide) ?_
            refine lv_icmp_ne (tgt := 96) hx hb d_Mod_isInfinity_89 (by decide) (fun c89 => ?_) (fun c89 => ?_)
            · have e89 : lk T e (a + 7) ≠ 121 := fun z => c89 (by rw [z]; rfl)
              refine lv_iconst (v := 0) hx hb d_Mod_isInfinity_96 (by decide) ?_
              exact rt_i hx hb hrt hlocks (rfl) (()) (by rw [wd_1, decide_eq_false (fun z => e89 z.2.2.2.2.2)]; rfl) (hP.sub [0, 1] rfl) (hK.sub [0] rfl) (hD.sub [0, 1] (by decide) rfl) hS d_Mod_isInfinity_97
            · have e89 : lk T e (a + 7) = 121 := (nI_eq (b := 121) (by have := lk_b hT e (a + 7); omega) (by decide)).mp c89
              refine lv_iconst (v := 1) hx hb d_Mod_isInfinity_92 (by decide) ?_
              refine lv_goto (tgt := 97) hx hb d_Mod_isInfinity_93 (by decide) ?_
              exact rt_i hx hb hrt hlocks (rfl) (()) (by rw [wd_1, decide_eq_true ⟨e12, e27, e42, e57, e73, e89⟩]; rfl) (hP.sub [0, 1] rfl) (hK.sub [0] rfl) (hD.sub [0, 1] (by decide) rfl) hS d_Mod_isInfinity_97

set_option maxHeartbeats 4000000 in
set_option maxRecDepth 100000 in
theorem c_Mod_gather (l : Launch) (D : va_G) (E : evD) (md xx mm nn : Nat) (cM cN cX : ClassId) (V : Nat → Nat) (ln rd at0 : Int32) (R : Int64) (T : Nat → Nat) (hT : ∀ j, T j < 256) (e : Nat) (he : e ≤ 2400) (hV : okV V) (a pt bh : Nat) (hap : a ≤ pt) (hpe : pt ≤ e) (hbe : bh = 0 ∨ pt + 1 + bh ≤ e) (be : Nat) (hbe0 : 0 < be) (hbe6 : be ≤ 16) (hd1 : ∀ j, a ≤ j → j < pt → dg (T j) < be) (hd2 : ∀ j, pt < j → j < pt + 1 + bh → dg (T j) < be) : Cv (S := Unit) l y_Mod_gather (wz y_Mod_gather b_Mod_gather 6 none) ({ frames := 2, cells := 0, slots := 0, locals := 49 }) D vcl (ev1 E) [.ref md, .int (nI a), .int (nI pt), .int (nI bh), .int (nI be)] [(cM, .int), (cN, .int), (cX, .int)] [(md, .inr (5, [.ref xx, .int ln, .long R, .int rd, .ref mm, .ref nn, .int at0, .int (nI e)])), (mm, .inl (cM, 3000, .inl (rw16 V))), (nn, .inl (cN, 3, .inl (rc V))), (xx, .inl (cX, 2400, .inl (tx T)))] 0 0 (fun _ : Unit => True) (fun _ => [(cM, .int), (cN, .int), (cX, .int)]) (fun _ : Unit => [(md, .inr (5, [.ref xx, .int ln, .long R, .int rd, .ref mm, .ref nn, .int at0, .int (nI e)])), (mm, .inl (cM, 3000, .inl (rw16 (upR V 0 (gb be T a pt bh))))), (nn, .inl (cN, 3, .inl (rc (upR V 0 (gb be T a pt bh))))), (xx, .inl (cX, 2400, .inl (tx T)))]) := by
  have hev := ev1_ok E
  unfold Cv
  refine ct_of (y := y_Mod_gather) (av := [.ref md, .int (nI a), .int (nI pt), .int (nI bh), .int (nI be)]) (cc := b_Mod_gather) (maxL := 6) (ret := none) (Qc := fun A => va_Qv (S := Unit) (fun _ : Unit => True) (fun u tS => ctB D vcl ((fun _ => [(cM, .int), (cN, .int), (cX, .int)]) u) ((fun _ : Unit => [(md, .inr (5, [.ref xx, .int ln, .long R, .int rd, .ref mm, .ref nn, .int at0, .int (nI e)])), (mm, .inl (cM, 3000, .inl (rw16 (upR V 0 (gb be T a pt bh))))), (nn, .inl (cN, 3, .inl (rc (upR V 0 (gb be T a pt bh))))), (xx, .inl (cX, 2400, .inl (tx T)))]) u) A tS) A) (by decide) rfl (Nat.le_of_ble_eq_true rfl) ?_
  intro p ee s m below meth cde ls A H locs hx hb hml hrt hlocks hown hin hts hA hP hK hD hS hE hl
  have hown : s.vm.findClass R_Mod = some m.cls := hown
  have hts := wz_g hts
  have hl : lv_has ls 6 [(0, .ref md), (1, .int (nI a)), (2, .int (nI pt)), (3, .int (nI bh)), (4, .int (nI be))] := hl
  refine lv_aload_n hx hb d_Mod_gather_0 rfl (lv_at hl 0 rfl) ?_
  refine lv_iconst (v := 0) hx hb d_Mod_gather_1 (by decide) ?_
  refine tv_i (nI 0) (rfl) ?_
  refine lv_lconst (v := 0) hx hb d_Mod_gather_2 (by decide) ?_
  refine tv_l (lN 0) (rfl) ?_
  refine ca_v [(xx, .inl (cX, 2400, .inl (tx T)))] (va_runV (As := [.int (nI 0), .long (lN 0)]) (rest := []) ⟨hx, hb, hml, hown, hts⟩ (c_Mod_set l D E md xx mm nn cM cN V ln rd at0 (nI e) R 0 0 (by decide) (Nat.lt_of_lt_of_le (lc_lt _) (p16_le (by have := hV 0 (by decide); omega))) (by decide) H.size) (xV 2 hts kC_Mod_set kM_Mod_138 kI_Mod_set kS_Mod_set kN_Mod rfl rfl (by decide +kernel) ⟨Nat.le_of_ble_eq_true rfl, Nat.le_of_ble_eq_true rfl⟩) ⟨ct_blind hev, va_recv hK hP (ci := 5) (q0 := 0) rfl rfl, ct_pre hev hP hK hD hS hA hE [0, 1, 2] rfl (by decide) [0, 1] rfl⟩ rfl rfl hl.1 rfl (lv_room (Nat.le_of_ble_eq_true rfl)) d_Mod_gather_3 ⟨Nat.le_of_ble_eq_true rfl, Nat.le_of_ble_eq_true rfl⟩) hP hD hS hA [0, 1, 2] [3] rfl rfl (by decide) (by decide) (fun u H locs hw hP hD hS hK1 => ?_)
  have hP : va_P D vcl [(xx, .inl (cX, 2400, .inl (tx T))), (md, .inr (5, [.ref xx, .int ln, .long R, .int rd, .ref mm, .ref nn, .int at0, .int (nI e)])), (mm, .inl (cM, 3000, .inl (rw16 (upR V 0 0)))), (nn, .inl (cN, 3, .inl (rc (upR V 0 0))))] H := hP
  have hD : va_D A [(xx, .inl (cX, 2400, .inl (tx T))), (md, .inr (5, [.ref xx, .int ln, .long R, .int rd, .ref mm, .ref nn, .int at0, .int (nI e)])), (mm, .inl (cM, 3000, .inl (rw16 (upR V 0 0)))), (nn, .inl (cN, 3, .inl (rc (upR V 0 0))))] := hD
  refine lv_iload_n hx hb d_Mod_gather_6 rfl (lv_at hl 1 rfl) ?_
  refine lv_istore (lv' := [(5, .int (nI a)), (0, .ref md), (1, .int (nI a)), (2, .int (nI pt)), (3, .int (nI bh)), (4, .int (nI be))]) hx hb d_Mod_gather_7 hl (by decide) rfl (fun ls hl => ?_)
  have L9 : ∀ (kk : Nat) (k : Nat), pt - k < kk → (a ≤ k) → (k ≤ pt) → ∀ (H : Heap) (locs : List Loc) (ls : Array Slot), va_P D vcl [(md, .inr (5, [.ref xx, .int ln, .long R, .int rd, .ref mm, .ref nn, .int at0, .int (nI e)])), (mm, .inl (cM, 3000, .inl (rw16 (upR V 0 (gv be T a (k - a)))))), (nn, .inl (cN, 3, .inl (rc (upR V 0 (gv be T a (k - a)))))), (xx, .inl (cX, 2400, .inl (tx T)))] H → va_D A [(md, .inr (5, [.ref xx, .int ln, .long R, .int rd, .ref mm, .ref nn, .int at0, .int (nI e)])), (mm, .inl (cM, 3000, .inl (rw16 (upR V 0 (gv be T a (k - a)))))), (nn, .inl (cN, 3, .inl (rc (upR V 0 (gv be T a (k - a)))))), (xx, .inl (cX, 2400, .inl (tx T)))] → va_S A s.heap H locs → lv_has ls 6 [(0, .ref md), (2, .int (nI pt)), (3, .int (nI bh)), (4, .int (nI be)), (5, .int (nI k))] → W p l ee ({ frames := 2, cells := 0, slots := 0, locals := 49 }) s m ([.ref md, .int (nI a), .int (nI pt), .int (nI bh), .int (nI be)] : List Value).toArray below meth cde H locs 0 0 (MQ below (va_Qv (S := Unit) (fun _ : Unit => True) (fun u tS => ctB D vcl ((fun _ => [(cM, .int), (cN, .int), (cX, .int)]) u) ((fun _ : Unit => [(md, .inr (5, [.ref xx, .int ln, .long R, .int rd, .ref mm, .ref nn, .int at0, .int (nI e)])), (mm, .inl (cM, 3000, .inl (rw16 (upR V 0 (gb be T a pt bh))))), (nn, .inl (cN, 3, .inl (rc (upR V 0 (gb be T a pt bh))))), (xx, .inl (cX, 2400, .inl (tx T)))]) u) A tS) A) ([.ref md, .int (nI a), .int (nI pt), .int (nI bh), .int (nI be)] : List Value).toArray s 0 0 A) (F0 m 9 ls []) := by
    intro kk
    induction kk with
    | zero => intro k hmz; exact absurd hmz (Nat.not_lt_zero _)
    | succ kk ih =>
      intro k hmz hk1 hk2 H locs ls hP hD hS hl
      refine lv_iload hx hb d_Mod_gather_9 (lv_at hl 4 rfl) ?_
      refine lv_iload_n hx hb d_Mod_gather_11 rfl (lv_at hl 1 rfl) ?_
      refine lv_icmp_ge (tgt := 38) hx hb d_Mod_gather_12 (by decide) (fun c12 => ?_) (fun c12 => ?_)
      · have e12 : pt ≤ k := (nI_leI (by omega) (by omega)).mp c12
        refine lv_iload_n hx hb d_Mod_gather_38 rfl (lv_at hl 1 rfl) ?_
        refine lv_iconst (v := 1) hx hb d_Mod_gather_39 (by decide) ?_
        refine lv_iadd hx hb d_Mod_gather_40 ?_
        refine tv_i (nI (pt + 1)) (nI_1 _) ?_
        refine lv_istore (lv' := [(5, .int (nI (pt + 1))), (0, .ref md), (2, .int (nI pt)), (3, .int (nI bh)), (4, .int (nI be))]) hx hb d_Mod_gather_41 hl (by decide) rfl (fun ls hl => ?_)
        have L43 : ∀ (kk : Nat) (k : Nat), bh - k < kk → (k ≤ bh) → ∀ (H : Heap) (locs : List Loc) (ls : Array Slot), va_P D vcl [(md, .inr (5, [.ref xx, .int ln, .long R, .int rd, .ref mm, .ref nn, .int at0, .int (nI e)])), (mm, .inl (cM, 3000, .inl (rw16 (upR V 0 (gb be T a pt k))))), (nn, .inl (cN, 3, .inl (rc (upR V 0 (gb be T a pt k))))), (xx, .inl (cX, 2400, .inl (tx T)))] H → va_D A [(md, .inr (5, [.ref xx, .int ln, .long R, .int rd, .ref mm, .ref nn, .int at0, .int (nI e)])), (mm, .inl (cM, 3000, .inl (rw16 (upR V 0 (gb be T a pt k))))), (nn, .inl (cN, 3, .inl (rc (upR V 0 (gb be T a pt k))))), (xx, .inl (cX, 2400, .inl (tx T)))] → va_S A s.heap H locs → lv_has ls 6 [(0, .ref md), (2, .int (nI pt)), (3, .int (nI bh)), (4, .int (nI be)), (5, .int (nI (pt + 1 + k)))] → W p l ee ({ frames := 2, cells := 0, slots := 0, locals := 49 }) s m ([.ref md, .int (nI a), .int (nI pt), .int (nI bh), .int (nI be)] : List Value).toArray below meth cde H locs 0 0 (MQ below (va_Qv (S := Unit) (fun _ : Unit => True) (fun u tS => ctB D vcl ((fun _ => [(cM, .int), (cN, .int), (cX, .int)]) u) ((fun _ : Unit => [(md, .inr (5, [.ref xx, .int ln, .long R, .int rd, .ref mm, .ref nn, .int at0, .int (nI e)])), (mm, .inl (cM, 3000, .inl (rw16 (upR V 0 (gb be T a pt bh))))), (nn, .inl (cN, 3, .inl (rc (upR V 0 (gb be T a pt bh))))), (xx, .inl (cX, 2400, .inl (tx T)))]) u) A tS) A) ([.ref md, .int (nI a), .int (nI pt), .int (nI bh), .int (nI be)] : List Value).toArray s 0 0 A) (F0 m 43 ls []) := by
          intro kk
          induction kk with
          | zero => intro k hmz; exact absurd hmz (Nat.not_lt_zero _)
          | succ kk ih =>
            intro k hmz hk2 H locs ls hP hD hS hl
            refine lv_iload hx hb d_Mod_gather_43 (lv_at hl 4 rfl) ?_
            refine lv_iload_n hx hb d_Mod_gather_45 rfl (lv_at hl 1 rfl) ?_
            refine lv_iconst (v := 1) hx hb d_Mod_gather_46 (by decide) ?_
            refine lv_iadd hx hb d_Mod_gather_47 ?_
            refine tv_i (nI (pt + 1)) (nI_1 _) ?_
            refine lv_iload_n hx hb d_Mod_gather_48 rfl (lv_at hl 2 rfl) ?_
            refine lv_iadd hx hb d_Mod_gather_49 ?_
            refine tv_i (nI (pt + 1 + bh)) (nI_add _ _) ?_
            refine lv_icmp_ge (tgt := 76) hx hb d_Mod_gather_50 (by decide) (fun c50 => ?_) (fun c50 => ?_)
            · have e50 : bh ≤ k := by have := (nI_leI (by omega) (by omega)).mp c50; omega
              have e50b : k = bh := by omega
              rw [show upR V 0 (gb be T a pt k) = upR V 0 (gb be T a pt bh) from by rw [e50b]] at hP hD
              exact rt_v hx hb hrt hlocks (()) (trivial) (hP.sub [0, 1, 2, 3] rfl) (hK.sub [0, 1, 2] rfl) (hD.sub [0, 1, 2, 3] (by decide) rfl) hS d_Mod_gather_76
            · have e50 : k < bh := by have := mt (nI_leI (a := pt + 1 + bh) (b := pt + 1 + k) (by omega) (by omega)).mpr c50; omega
              have hdk := hd2 (pt + 1 + k) (by omega) (by omega)
              refine lv_aload_n hx hb d_Mod_gather_53 rfl (lv_at hl 0 rfl) ?_
              refine lv_iconst (v := 0) hx hb d_Mod_gather_54 (by decide) ?_
              refine tv_i (nI 0) (rfl) ?_
              refine lv_iload hx hb d_Mod_gather_55 (lv_at hl 3 rfl) ?_
              refine lv_aload_n hx hb d_Mod_gather_57 rfl (lv_at hl 0 rfl) ?_
              refine va_get (D := D) (ci := 5) (v := .ref xx) (C := R_Mod) (T := F_Mod) (N := 8) hx hb hts w_Mod hown hK hP 0 rfl rfl 0 (by decide) (hts _ kF_Mod_7) (fun _ h9 => h9) rfl d_Mod_gather_58 ?_
              refine lv_iload hx hb d_Mod_gather_61 (lv_at hl 4 rfl) ?_
              refine va_iald hx hb hK hP 3 2 rfl rfl (i := nI (pt + 1 + k)) (vp_in_nI (show pt + 1 + k < 2400 by omega) (by decide)) d_Mod_gather_63 ?_
              refine tv_i (nI (T (pt + 1 + k))) (by rw [nI_clamp (by omega)]; rfl) ?_
              refine ca_i [(md, .inr (5, [.ref xx, .int ln, .long R, .int rd, .ref mm, .ref nn, .int at0, .int (nI e)])), (mm, .inl (cM, 3000, .inl (rw16 (upR V 0 (gb be T a pt k))))), (nn, .inl (cN, 3, .inl (rc (upR V 0 (gb be T a pt k))))), (xx, .inl (cX, 2400, .inl (tx T)))] (va_runS (As := [.int (nI (T (pt + 1 + k)))]) (rest := [.int (nI be), .int (nI 0), .ref md]) ⟨hx, hb, hml, hown, hts⟩ (c_Mod_digitOf l D E (T (pt + 1 + k)) (by have := hT (pt + 1 + k); omega) H.size) (xS 1 hts kC_Mod_digitOf kM_Mod_87 kT_Mod_digitOf kN_Mod rfl rfl (by decide +kernel) ⟨Nat.le_of_ble_eq_true rfl, Nat.le_of_ble_eq_true rfl⟩) ⟨ct_blind hev, ct_pre hev hP hK hD hS hA hE [] rfl (by decide) [] rfl⟩ rfl rfl hl.1 rfl (lv_room (Nat.le_of_ble_eq_true rfl)) d_Mod_gather_64 ⟨Nat.le_of_ble_eq_true rfl, Nat.le_of_ble_eq_true rfl⟩) hP hD hS hA [] [0, 1, 2, 3] rfl rfl (by decide) (by decide) (fun rv u H locs hw hP hD hS hK1 => ?_)
              subst hw
              have hP : va_P D vcl [(md, .inr (5, [.ref xx, .int ln, .long R, .int rd, .ref mm, .ref nn, .int at0, .int (nI e)])), (mm, .inl (cM, 3000, .inl (rw16 (upR V 0 (gb be T a pt k))))), (nn, .inl (cN, 3, .inl (rc (upR V 0 (gb be T a pt k))))), (xx, .inl (cX, 2400, .inl (tx T)))] H := hP
              have hD : va_D A [(md, .inr (5, [.ref xx, .int ln, .long R, .int rd, .ref mm, .ref nn, .int at0, .int (nI e)])), (mm, .inl (cM, 3000, .inl (rw16 (upR V 0 (gb be T a pt k))))), (nn, .inl (cN, 3, .inl (rc (upR V 0 (gb be T a pt k))))), (xx, .inl (cX, 2400, .inl (tx T)))] := hD
              refine ca_v [(xx, .inl (cX, 2400, .inl (tx T)))] (va_runV (As := [.int (nI 0), .int (nI be), .int (nI (dgm (T (pt + 1 + k))))]) (rest := []) ⟨hx, hb, hml, hown, hts⟩ (c_Mod_grow l D E md xx mm nn cM cN (upR V 0 (gb be T a pt k)) ln rd at0 (nI e) R 0 be (dgm (T (pt + 1 + k))) (by decide) (by rw [dgm_dg hbe6 hdk]; exact hdk) (by omega) (by rw [upR_s]; exact Nat.le_trans (lc_b (bit16 (Nat.lt_of_lt_of_le (gb_lt hbe0 hd1 _ (fun j x y => hd2 j x (by omega))) (Nat.pow_le_pow_left hbe6 _)) (by omega))) (by decide)) H.size) (xV 3 hts kC_Mod_grow kM_Mod_26 kI_Mod_grow kS_Mod_grow kN_Mod rfl rfl (by decide +kernel) ⟨Nat.le_of_ble_eq_true rfl, Nat.le_of_ble_eq_true rfl⟩) ⟨ct_blind hev, va_recv hK hP (ci := 5) (q0 := 0) rfl rfl, ct_pre hev hP hK hD hS hA hE [0, 1, 2] rfl (by decide) [0, 1] rfl⟩ rfl rfl hl.1 rfl (lv_room (Nat.le_of_ble_eq_true rfl)) d_Mod_gather_67 ⟨Nat.le_of_ble_eq_true rfl, Nat.le_of_ble_eq_true rfl⟩) hP hD hS hA [0, 1, 2] [3] rfl rfl (by decide) (by decide) (fun u H locs hw hP hD hS hK1 => ?_)
              have hP : va_P D vcl [(xx, .inl (cX, 2400, .inl (tx T))), (md, .inr (5, [.ref xx, .int ln, .long R, .int rd, .ref mm, .ref nn, .int at0, .int (nI e)])), (mm, .inl (cM, 3000, .inl (rw16 (upR (upR V 0 (gb be T a pt k)) 0 ((upR V 0 (gb be T a pt k)) 0 * be + (dgm (T (pt + 1 + k)))))))), (nn, .inl (cN, 3, .inl (rc (upR (upR V 0 (gb be T a pt k)) 0 ((upR V 0 (gb be T a pt k)) 0 * be + (dgm (T (pt + 1 + k))))))))] H := hP
              have hD : va_D A [(xx, .inl (cX, 2400, .inl (tx T))), (md, .inr (5, [.ref xx, .int ln, .long R, .int rd, .ref mm, .ref nn, .int at0, .int (nI e)])), (mm, .inl (cM, 3000, .inl (rw16 (upR (upR V 0 (gb be T a pt k)) 0 ((upR V 0 (gb be T a pt k)) 0 * be + (dgm (T (pt + 1 + k)))))))), (nn, .inl (cN, 3, .inl (rc (upR (upR V 0 (gb be T a pt k)) 0 ((upR V 0 (gb be T a pt k)) 0 * be + (dgm (T (pt + 1 + k))))))))] := hD
              refine lv_iinc (v := nI (pt + 1 + (k + 1))) (lv' := [(5, .int (nI (pt + 1 + (k + 1)))), (0, .ref md), (2, .int (nI pt)), (3, .int (nI bh)), (4, .int (nI be))]) hx hb d_Mod_gather_70 hl (k := 4) rfl (nI_1 _) (by decide) rfl (fun ls hl => ?_)
              refine lv_goto (tgt := 43) hx hb d_Mod_gather_73 (by decide) ?_
              rw [show upR (upR V 0 (gb be T a pt k)) 0 ((upR V 0 (gb be T a pt k)) 0 * be + (dgm (T (pt + 1 + k)))) = upR V 0 (gb be T a pt (k + 1)) from by rw [upR_u, upR_s, dgm_dg hbe6 hdk]; rfl] at hP hD
              exact ih (k + 1) (by omega) (by omega) _ _ _ (hP.sub [1, 2, 3, 0] rfl) (hD.sub [1, 2, 3, 0] (by decide) rfl) hS (lv_sub hl [1, 2, 3, 4, 0] rfl)
        have e0 : k = pt := by omega
        rw [show upR V 0 (gv be T a (k - a)) = upR V 0 (gb be T a pt 0) from by rw [e0]; rfl] at hP hD
        exact L43 (bh + 1) 0 (by omega) (Nat.zero_le _) _ _ _ (hP.sub [0, 1, 2, 3] rfl) (hD.sub [0, 1, 2, 3] (by decide) rfl) hS (lv_sub hl [1, 2, 3, 4, 0] rfl)
      · have e12 : k < pt := Nat.lt_of_not_le (fun z => c12 ((nI_leI (by omega) (by omega)).mpr z))
        have hdk := hd1 k hk1 e12
        have hak : a + (k - a) = k := by omega
        refine lv_aload_n hx hb d_Mod_gather_15 rfl (lv_at hl 0 rfl) ?_
        refine lv_iconst (v := 0) hx hb d_Mod_gather_16 (by decide) ?_
        refine tv_i (nI 0) (rfl) ?_
        refine lv_iload hx hb d_Mod_gather_17 (lv_at hl 3 rfl) ?_
        refine lv_aload_n hx hb d_Mod_gather_19 rfl (lv_at hl 0 rfl) ?_
        refine va_get (D := D) (ci := 5) (v := .ref xx) (C := R_Mod) (T := F_Mod) (N := 8) hx hb hts w_Mod hown hK hP 0 rfl rfl 0 (by decide) (hts _ kF_Mod_7) (fun _ h9 => h9) rfl d_Mod_gather_20 ?_
        refine lv_iload hx hb d_Mod_gather_23 (lv_at hl 4 rfl) ?_
        refine va_iald hx hb hK hP 3 2 rfl rfl (i := nI k) (vp_in_nI (show k < 2400 by omega) (by decide)) d_Mod_gather_25 ?_
        refine tv_i (nI (T k)) (by rw [nI_clamp (by omega)]; rfl) ?_
        refine ca_i [(md, .inr (5, [.ref xx, .int ln, .long R, .int rd, .ref mm, .ref nn, .int at0, .int (nI e)])), (mm, .inl (cM, 3000, .inl (rw16 (upR V 0 (gv be T a (k - a)))))), (nn, .inl (cN, 3, .inl (rc (upR V 0 (gv be T a (k - a)))))), (xx, .inl (cX, 2400, .inl (tx T)))] (va_runS (As := [.int (nI (T k))]) (rest := [.int (nI be), .int (nI 0), .ref md]) ⟨hx, hb, hml, hown, hts⟩ (c_Mod_digitOf l D E (T k) (by have := hT k; omega) H.size) (xS 1 hts kC_Mod_digitOf kM_Mod_87 kT_Mod_digitOf kN_Mod rfl rfl (by decide +kernel) ⟨Nat.le_of_ble_eq_true rfl, Nat.le_of_ble_eq_true rfl⟩) ⟨ct_blind hev, ct_pre hev hP hK hD hS hA hE [] rfl (by decide) [] rfl⟩ rfl rfl hl.1 rfl (lv_room (Nat.le_of_ble_eq_true rfl)) d_Mod_gather_26 ⟨Nat.le_of_ble_eq_true rfl, Nat.le_of_ble_eq_true rfl⟩) hP hD hS hA [] [0, 1, 2, 3] rfl rfl (by decide) (by decide) (fun rv u H locs hw hP hD hS hK1 => ?_)
        subst hw
        have hP : va_P D vcl [(md, .inr (5, [.ref xx, .int ln, .long R, .int rd, .ref mm, .ref nn, .int at0, .int (nI e)])), (mm, .inl (cM, 3000, .inl (rw16 (upR V 0 (gv be T a (k - a)))))), (nn, .inl (cN, 3, .inl (rc (upR V 0 (gv be T a (k - a)))))), (xx, .inl (cX, 2400, .inl (tx T)))] H := hP
        have hD : va_D A [(md, .inr (5, [.ref xx, .int ln, .long R, .int rd, .ref mm, .ref nn, .int at0, .int (nI e)])), (mm, .inl (cM, 3000, .inl (rw16 (upR V 0 (gv be T a (k - a)))))), (nn, .inl (cN, 3, .inl (rc (upR V 0 (gv be T a (k - a)))))), (xx, .inl (cX, 2400, .inl (tx T)))] := hD
        refine ca_v [(xx, .inl (cX, 2400, .inl (tx T)))] (va_runV (As := [.int (nI 0), .int (nI be), .int (nI (dgm (T k)))]) (rest := []) ⟨hx, hb, hml, hown, hts⟩ (c_Mod_grow l D E md xx mm nn cM cN (upR V 0 (gv be T a (k - a))) ln rd at0 (nI e) R 0 be (dgm (T k)) (by decide) (by rw [dgm_dg hbe6 hdk]; exact hdk) (by omega) (by rw [upR_s]; exact Nat.le_trans (lc_b (bit16 (Nat.lt_of_lt_of_le (gv_lt hbe0 _ (fun j hj => Or.inr (hd1 (a + j) (by omega) (by omega)))) (Nat.pow_le_pow_left hbe6 _)) (by omega))) (by decide)) H.size) (xV 3 hts kC_Mod_grow kM_Mod_26 kI_Mod_grow kS_Mod_grow kN_Mod rfl rfl (by decide +kernel) ⟨Nat.le_of_ble_eq_true rfl, Nat.le_of_ble_eq_true rfl⟩) ⟨ct_blind hev, va_recv hK hP (ci := 5) (q0 := 0) rfl rfl, ct_pre hev hP hK hD hS hA hE [0, 1, 2] rfl (by decide) [0, 1] rfl⟩ rfl rfl hl.1 rfl (lv_room (Nat.le_of_ble_eq_true rfl)) d_Mod_gather_29 ⟨Nat.le_of_ble_eq_true rfl, Nat.le_of_ble_eq_true rfl⟩) hP hD hS hA [0, 1, 2] [3] rfl rfl (by decide) (by decide) (fun u H locs hw hP hD hS hK1 => ?_)
        have hP : va_P D vcl [(xx, .inl (cX, 2400, .inl (tx T))), (md, .inr (5, [.ref xx, .int ln, .long R, .int rd, .ref mm, .ref nn, .int at0, .int (nI e)])), (mm, .inl (cM, 3000, .inl (rw16 (upR (upR V 0 (gv be T a (k - a))) 0 ((upR V 0 (gv be T a (k - a))) 0 * be + (dgm (T k))))))), (nn, .inl (cN, 3, .inl (rc (upR (upR V 0 (gv be T a (k - a))) 0 ((upR V 0 (gv be T a (k - a))) 0 * be + (dgm (T k)))))))] H := hP
        have hD : va_D A [(xx, .inl (cX, 2400, .inl (tx T))), (md, .inr (5, [.ref xx, .int ln, .long R, .int rd, .ref mm, .ref nn, .int at0, .int (nI e)])), (mm, .inl (cM, 3000, .inl (rw16 (upR (upR V 0 (gv be T a (k - a))) 0 ((upR V 0 (gv be T a (k - a))) 0 * be + (dgm (T k))))))), (nn, .inl (cN, 3, .inl (rc (upR (upR V 0 (gv be T a (k - a))) 0 ((upR V 0 (gv be T a (k - a))) 0 * be + (dgm (T k)))))))] := hD
        refine lv_iinc (v := nI (k + 1)) (lv' := [(5, .int (nI (k + 1))), (0, .ref md), (2, .int (nI pt)), (3, .int (nI bh)), (4, .int (nI be))]) hx hb d_Mod_gather_32 hl (k := 4) rfl (nI_1 k) (by decide) rfl (fun ls hl => ?_)
        refine lv_goto (tgt := 9) hx hb d_Mod_gather_35 (by decide) ?_
        rw [show upR (upR V 0 (gv be T a (k - a))) 0 ((upR V 0 (gv be T a (k - a))) 0 * be + (dgm (T k))) = upR V 0 (gv be T a ((k + 1) - a)) from by rw [upR_u, upR_s, dgm_dg hbe6 hdk, show k + 1 - a = k - a + 1 by omega, gv_dg (by rw [hak]; exact dg46 hbe6 hdk), hak]] at hP hD
        exact ih (k + 1) (by omega) (by omega) (by omega) _ _ _ (hP.sub [1, 2, 3, 0] rfl) (hD.sub [1, 2, 3, 0] (by decide) rfl) hS (lv_sub hl [1, 2, 3, 4, 0] rfl)
  rw [show upR V 0 0 = upR V 0 (gv be T a (a - a)) from by rw [Nat.sub_self]; rfl] at hP hD
  exact L9 (pt + 1) a (by omega) (Nat.le_refl _) (hap) _ _ _ (hP.sub [1, 2, 3, 0] rfl) (hD.sub [1, 2, 3, 0] (by decide) rfl) hS (lv_sub hl [1, 3, 4, 5, 0] rfl)

set_option maxHeartbeats 4000000 in
set_option maxRecDepth 100000 in
theorem c_Mod_sized16 (l : Launch) (D : va_G) (E : evD) (md xx mm nn : Nat) (cM cN cX : ClassId) (V : Nat → Nat) (ln rd at0 : Int32) (R : Int64) (T : Nat → Nat) (hT : ∀ j, T j < 256) (e : Nat) (he : e ≤ 2400) (hV : okV V) (a pt bh : Nat) (hap : a ≤ pt) (hpe : pt ≤ e) (hbe : bh = 0 ∨ pt + 1 + bh ≤ e) (hd1 : ∀ j, a ≤ j → j < pt → dg (T j) < 16) (hd2 : ∀ j, pt < j → j < pt + 1 + bh → dg (T j) < 16) (i : Nat) (hi : i < 2) (wd : Int32) (hwd : knd wd = i) (q : Int) (hq1 : -100000000 ≤ q) (hq2 : q ≤ 100000000) : Cl (S := (Nat → Nat)) l y_Mod_sized16 (wz y_Mod_sized16 b_Mod_sized16 9 (some .long)) ({ frames := 4, cells := 0, slots := 0, locals := 114 }) D vcl (ev1 E) [.ref md, .int (nI a), .int (nI pt), .int (nI bh), .long (lZ q), .int wd] [(cM, .int), (cN, .int), (cX, .int)] [(md, .inr (5, [.ref xx, .int ln, .long R, .int rd, .ref mm, .ref nn, .int at0, .int (nI e)])), (mm, .inl (cM, 3000, .inl (rw16 V))), (nn, .inl (cN, 3, .inl (rc V))), (xx, .inl (cX, 2400, .inl (tx T)))] 0 0 (fun (w : Int64) (V' : Nat → Nat) => w = lN (frn (kP i) (kZ i) (kLw i) (gb 16 T a pt bh) 1 (q - 4 * bh)) ∧ okV V') (fun _ => [(cM, .int), (cN, .int), (cX, .int)]) (fun V' : Nat → Nat => [(md, .inr (5, [.ref xx, .int ln, .long R, .int rd, .ref mm, .ref nn, .int at0, .int (nI e)])), (mm, .inl (cM, 3000, .inl (rw16 V'))), (nn, .inl (cN, 3, .inl (rc V'))), (xx, .inl (cX, 2400, .inl (tx T)))]) := by
  have hev := ev1_ok E
  unfold Cl
  refine ct_of (y := y_Mod_sized16) (av := [.ref md, .int (nI a), .int (nI pt), .int (nI bh), .long (lZ q), .int wd]) (cc := b_Mod_sized16) (maxL := 9) (ret := (some .long)) (Qc := fun A => va_Ql (S := (Nat → Nat)) (fun (w : Int64) (V' : Nat → Nat) => w = lN (frn (kP i) (kZ i) (kLw i) (gb 16 T a pt bh) 1 (q - 4 * bh)) ∧ okV V') (fun u tS => ctB D vcl ((fun _ => [(cM, .int), (cN, .int), (cX, .int)]) u) ((fun V' : Nat → Nat => [(md, .inr (5, [.ref xx, .int ln, .long R, .int rd, .ref mm, .ref nn, .int at0, .int (nI e)])), (mm, .inl (cM, 3000, .inl (rw16 V'))), (nn, .inl (cN, 3, .inl (rc V'))), (xx, .inl (cX, 2400, .inl (tx T)))]) u) A tS) A) (by decide) rfl (Nat.le_of_ble_eq_true rfl) ?_
  intro p ee s m below meth cde ls A H locs hx hb hml hrt hlocks hown hin hts hA hP hK hD hS hE hl
  have hown : s.vm.findClass R_Mod = some m.cls := hown
  have hts := wz_g hts
  have hl : lv_has ls 9 [(0, .ref md), (1, .int (nI a)), (2, .int (nI pt)), (3, .int (nI bh)), (4, .long (lZ q)), (6, .int wd)] := hl
  obtain ⟨hk1, hk2, hk3, hk4, hk5, -⟩ := kP_b i hi
  have hk6 : kP i + kZ i ≤ kLw i + 1100 := by rcases (show i = 0 ∨ i = 1 by omega) with z | z <;> rw [z] <;> decide
  obtain ⟨M, hM⟩ : ∃ M : Nat, M = gb 16 T a pt bh := ⟨_, rfl⟩
  have hMb : bln M ≤ 9600 := by rw [hM]; exact bit16 (gb_lt (by decide) hd1 bh hd2) (by omega)
  refine lv_aload_n hx hb d_Mod_sized16_0 rfl (lv_at hl 0 rfl) ?_
  refine lv_iload_n hx hb d_Mod_sized16_1 rfl (lv_at hl 1 rfl) ?_
  refine lv_iload_n hx hb d_Mod_sized16_2 rfl (lv_at hl 2 rfl) ?_
  refine lv_iload_n hx hb d_Mod_sized16_3 rfl (lv_at hl 3 rfl) ?_
  refine lv_bipush (v := 16) hx hb d_Mod_sized16_4 (by decide) ?_
  refine tv_i (nI 16) (rfl) ?_
  refine ca_v [] (va_runV (As := [.int (nI a), .int (nI pt), .int (nI bh), .int (nI 16)]) (rest := []) ⟨hx, hb, hml, hown, hts⟩ (c_Mod_gather l D E md xx mm nn cM cN cX V ln rd at0 R T hT e he hV a pt bh hap hpe hbe 16 (by decide) (by decide) hd1 hd2 H.size) (xV 4 hts kC_Mod_gather kM_Mod_142 kI_Mod_gather kS_Mod_gather kN_Mod rfl rfl (by decide +kernel) ⟨Nat.le_of_ble_eq_true rfl, Nat.le_of_ble_eq_true rfl⟩) ⟨ct_blind hev, va_recv hK hP (ci := 5) (q0 := 0) rfl rfl, ct_pre hev hP hK hD hS hA hE [0, 1, 2, 3] rfl (by decide) [0, 1, 2] rfl⟩ rfl rfl hl.1 rfl (lv_room (Nat.le_of_ble_eq_true rfl)) d_Mod_sized16_6 ⟨Nat.le_of_ble_eq_true rfl, Nat.le_of_ble_eq_true rfl⟩) hP hD hS hA [0, 1, 2, 3] [] rfl rfl (by decide) (by decide) (fun u H locs hw hP hD hS hK1 => ?_)
  have hP : va_P D vcl [(md, .inr (5, [.ref xx, .int ln, .long R, .int rd, .ref mm, .ref nn, .int at0, .int (nI e)])), (mm, .inl (cM, 3000, .inl (rw16 (upR V 0 (gb 16 T a pt bh))))), (nn, .inl (cN, 3, .inl (rc (upR V 0 (gb 16 T a pt bh))))), (xx, .inl (cX, 2400, .inl (tx T)))] H := hP
  have hD : va_D A [(md, .inr (5, [.ref xx, .int ln, .long R, .int rd, .ref mm, .ref nn, .int at0, .int (nI e)])), (mm, .inl (cM, 3000, .inl (rw16 (upR V 0 (gb 16 T a pt bh))))), (nn, .inl (cN, 3, .inl (rc (upR V 0 (gb 16 T a pt bh))))), (xx, .inl (cX, 2400, .inl (tx T)))] := hD
  refine lv_aload_n hx hb d_Mod_sized16_9 rfl (lv_at hl 0 rfl) ?_
  refine lv_iconst (v := 1) hx hb d_Mod_sized16_10 (by decide) ?_
  refine tv_i (nI 1) (rfl) ?_
  refine lv_lconst (v := 1) hx hb d_Mod_sized16_11 (by decide) ?_
  refine tv_l (lN 1) (rfl) ?_
  refine ca_v [(xx, .inl (cX, 2400, .inl (tx T)))] (va_runV (As := [.int (nI 1), .long (lN 1)]) (rest := []) ⟨hx, hb, hml, hown, hts⟩ (c_Mod_set l D E md xx mm nn cM cN (upR V 0 (gb 16 T a pt bh)) ln rd at0 (nI e) R 1 1 (by decide) (by rw [upR_n (by decide)]; exact Nat.lt_of_lt_of_le (lc_lt _) (p16_le (by have := hV 1 (by decide); omega))) (by decide) H.size) (xV 2 hts kC_Mod_set kM_Mod_138 kI_Mod_set kS_Mod_set kN_Mod rfl rfl (by decide +kernel) ⟨Nat.le_of_ble_eq_true rfl, Nat.le_of_ble_eq_true rfl⟩) ⟨ct_blind hev, va_recv hK hP (ci := 5) (q0 := 0) rfl rfl, ct_pre hev hP hK hD hS hA hE [0, 1, 2] rfl (by decide) [0, 1] rfl⟩ rfl rfl hl.1 rfl (lv_room (Nat.le_of_ble_eq_true rfl)) d_Mod_sized16_12 ⟨Nat.le_of_ble_eq_true rfl, Nat.le_of_ble_eq_true rfl⟩) hP hD hS hA [0, 1, 2] [3] rfl rfl (by decide) (by decide) (fun u H locs hw hP hD hS hK1 => ?_)
  have hP : va_P D vcl [(xx, .inl (cX, 2400, .inl (tx T))), (md, .inr (5, [.ref xx, .int ln, .long R, .int rd, .ref mm, .ref nn, .int at0, .int (nI e)])), (mm, .inl (cM, 3000, .inl (rw16 (upR (upR V 0 (gb 16 T a pt bh)) 1 1)))), (nn, .inl (cN, 3, .inl (rc (upR (upR V 0 (gb 16 T a pt bh)) 1 1))))] H := hP
  have hD : va_D A [(xx, .inl (cX, 2400, .inl (tx T))), (md, .inr (5, [.ref xx, .int ln, .long R, .int rd, .ref mm, .ref nn, .int at0, .int (nI e)])), (mm, .inl (cM, 3000, .inl (rw16 (upR (upR V 0 (gb 16 T a pt bh)) 1 1)))), (nn, .inl (cN, 3, .inl (rc (upR (upR V 0 (gb 16 T a pt bh)) 1 1))))] := hD
  have hz0 : (upR (upR V 0 (gb 16 T a pt bh)) 1 1) 0 = M := by rw [upR_n (by decide), upR_s, hM]
  have hz1 : (upR (upR V 0 (gb 16 T a pt bh)) 1 1) 1 = 1 := upR_s _ _ _
  have hV2 : okV (upR (upR V 0 (gb 16 T a pt bh)) 1 1) := okV_up (okV_up hV (by rw [← hM]; exact Nat.le_trans (lc_b hMb) (by decide))) (by decide)
  refine lv_lload hx hb d_Mod_sized16_15 (lv_at hl 4 rfl) ?_
  refine lv_ldc2 hx hb hown (hts _ kK_Mod_146) d_Mod_sized16_17 ?_
  refine lv_iload_n hx hb d_Mod_sized16_20 rfl (lv_at hl 3 rfl) ?_
  refine lv_i2l (v := (nI bh).toInt64) hx hb d_Mod_sized16_21 (rfl) ?_
  refine tv_l (lZ (bh : Int)) (lZ_nI (by omega)) ?_
  refine lv_lmul hx hb d_Mod_sized16_22 ?_
  refine tv_l (lZ (4 * (bh : Int))) (by show lZ 4 * lZ _ = _; rw [lZ_mul]) ?_
  refine lv_lsub hx hb d_Mod_sized16_23 ?_
  refine tv_l (lZ (q - 4 * bh)) (lZ_sub _ _) ?_
  refine lv_lstore (lv' := [(7, .long (lZ (q - 4 * bh))), (0, .ref md), (1, .int (nI a)), (2, .int (nI pt)), (3, .int (nI bh)), (4, .long (lZ q)), (6, .int wd)]) hx hb d_Mod_sized16_24 hl (by decide) rfl (fun ls hl => ?_)
  refine lv_aload_n hx hb d_Mod_sized16_26 rfl (lv_at hl 1 rfl) ?_
  refine va_get (D := D) (ci := 5) (v := .ref nn) (C := R_Mod) (T := F_Mod) (N := 8) hx hb hts w_Mod hown hK hP 1 rfl rfl 5 (by decide) (hts _ kF_Mod_16) (fun _ h9 => h9) rfl d_Mod_sized16_27 ?_
  refine lv_iconst (v := 0) hx hb d_Mod_sized16_30 (by decide) ?_
  refine tv_i (nI 0) (rfl) ?_
  refine va_iald hx hb hK hP 3 1 rfl rfl (i := nI 0) (vp_in_nI (show 0 < 3 by decide) (by decide)) d_Mod_sized16_31 ?_
  refine tv_i (nI (lc M)) (by rw [nI_clamp (by decide)]; show nI (lc ((upR (upR V 0 (gb 16 T a pt bh)) 1 1) 0)) = _; rw [hz0]) ?_
  refine lv_if_eq (tgt := 51) hx hb d_Mod_sized16_32 (by decide) (fun c32 => ?_) (fun c32 => ?_)
  · have e32 : M = 0 := lc_0.mp ((nI_eq0 (by have := lc_b hMb; omega)).mp c32)
    refine lv_lconst (v := 0) hx hb d_Mod_sized16_51 (by decide) ?_
    exact rt_l hx hb hrt hlocks (upR (upR V 0 (gb 16 T a pt bh)) 1 1) (⟨by rw [← hM, e32, fr_0]; rfl, hV2⟩) (hP.sub [1, 2, 3, 0] rfl) (hK.sub [0, 1, 2] rfl) (hD.sub [1, 2, 3, 0] (by decide) rfl) hS d_Mod_sized16_52
  · have e32 : M ≠ 0 := fun z => c32 (by rw [z]; rfl)
    refine lv_aload_n hx hb d_Mod_sized16_35 rfl (lv_at hl 1 rfl) ?_
    refine lv_iconst (v := 0) hx hb d_Mod_sized16_36 (by decide) ?_
    refine tv_i (nI 0) (rfl) ?_
    refine ca_i [(xx, .inl (cX, 2400, .inl (tx T)))] (va_runV (As := [.int (nI 0)]) (rest := []) ⟨hx, hb, hml, hown, hts⟩ (c_Mod_bitsOf l D E md xx mm nn cM cN (upR (upR V 0 (gb 16 T a pt bh)) 1 1) ln rd at0 (nI e) R 0 (by decide) (by rw [hz0]; have := lc_b hMb; omega) H.size) (xV 1 hts kC_Mod_bitsOf kM_Mod_42 kI_Mod_bitsOf kS_Mod_bitsOf kN_Mod rfl rfl (by decide +kernel) ⟨Nat.le_of_ble_eq_true rfl, Nat.le_of_ble_eq_true rfl⟩) ⟨ct_blind hev, va_recv hK hP (ci := 5) (q0 := 1) rfl rfl, ct_pre hev hP hK hD hS hA hE [1, 2, 3] rfl (by decide) [0, 1] rfl⟩ rfl rfl hl.1 rfl (lv_room (Nat.le_of_ble_eq_true rfl)) d_Mod_sized16_37 ⟨Nat.le_of_ble_eq_true rfl, Nat.le_of_ble_eq_true rfl⟩) hP hD hS hA [1, 2, 3] [0] rfl rfl (by decide) (by decide) (fun rv u H locs hw hP hD hS hK1 => ?_)
    subst hw
    have hP : va_P D vcl [(xx, .inl (cX, 2400, .inl (tx T))), (md, .inr (5, [.ref xx, .int ln, .long R, .int rd, .ref mm, .ref nn, .int at0, .int (nI e)])), (mm, .inl (cM, 3000, .inl (rw16 (upR (upR V 0 (gb 16 T a pt bh)) 1 1)))), (nn, .inl (cN, 3, .inl (rc (upR (upR V 0 (gb 16 T a pt bh)) 1 1))))] H := hP
    have hD : va_D A [(xx, .inl (cX, 2400, .inl (tx T))), (md, .inr (5, [.ref xx, .int ln, .long R, .int rd, .ref mm, .ref nn, .int at0, .int (nI e)])), (mm, .inl (cM, 3000, .inl (rw16 (upR (upR V 0 (gb 16 T a pt bh)) 1 1)))), (nn, .inl (cN, 3, .inl (rc (upR (upR V 0 (gb 16 T a pt bh)) 1 1))))] := hD
    refine lv_i2l (v := (nI (bln ((upR (upR V 0 (gb 16 T a pt bh)) 1 1) 0))).toInt64) hx hb d_Mod_sized16_40 (rfl) ?_
    refine lv_lload hx hb d_Mod_sized16_41 (lv_at hl 0 rfl) ?_
    refine lv_ladd hx hb d_Mod_sized16_43 ?_
    refine tv_l (lZ ((bln M : Int) + (q - 4 * bh))) (by rw [hz0, lZ_nI (by omega), lZ_add]) ?_
    refine lv_ldc2 hx hb hown (hts _ kK_Mod_148) d_Mod_sized16_44 ?_
    refine tv_l (lZ (-1200)) (by decide) ?_
    refine W.lcmp hx hb d_Mod_sized16_47 ?_
    refine lv_if_ge (tgt := 53) hx hb d_Mod_sized16_48 (by decide) (fun c48 => ?_) (fun c48 => ?_)
    · have e48 : -1200 ≤ (bln M : Int) + (q - 4 * bh) := (lZ_le (by omega) (by omega) (by omega) (by omega)).mp ((lg_cmp_ge _ _).mp c48)
      refine lv_aload_n hx hb d_Mod_sized16_53 rfl (lv_at hl 1 rfl) ?_
      refine lv_iconst (v := 0) hx hb d_Mod_sized16_54 (by decide) ?_
      refine tv_i (nI 0) (rfl) ?_
      refine ca_i [(xx, .inl (cX, 2400, .inl (tx T)))] (va_runV (As := [.int (nI 0)]) (rest := []) ⟨hx, hb, hml, hown, hts⟩ (c_Mod_bitsOf l D E md xx mm nn cM cN (upR (upR V 0 (gb 16 T a pt bh)) 1 1) ln rd at0 (nI e) R 0 (by decide) (by rw [hz0]; have := lc_b hMb; omega) H.size) (xV 1 hts kC_Mod_bitsOf kM_Mod_42 kI_Mod_bitsOf kS_Mod_bitsOf kN_Mod rfl rfl (by decide +kernel) ⟨Nat.le_of_ble_eq_true rfl, Nat.le_of_ble_eq_true rfl⟩) ⟨ct_blind hev, va_recv hK hP (ci := 5) (q0 := 1) rfl rfl, ct_pre hev hP hK hD hS hA hE [1, 2, 3] rfl (by decide) [0, 1] rfl⟩ rfl rfl hl.1 rfl (lv_room (Nat.le_of_ble_eq_true rfl)) d_Mod_sized16_55 ⟨Nat.le_of_ble_eq_true rfl, Nat.le_of_ble_eq_true rfl⟩) hP hD hS hA [1, 2, 3] [0] rfl rfl (by decide) (by decide) (fun rv u H locs hw hP hD hS hK1 => ?_)
      subst hw
      have hP : va_P D vcl [(xx, .inl (cX, 2400, .inl (tx T))), (md, .inr (5, [.ref xx, .int ln, .long R, .int rd, .ref mm, .ref nn, .int at0, .int (nI e)])), (mm, .inl (cM, 3000, .inl (rw16 (upR (upR V 0 (gb 16 T a pt bh)) 1 1)))), (nn, .inl (cN, 3, .inl (rc (upR (upR V 0 (gb 16 T a pt bh)) 1 1))))] H := hP
      have hD : va_D A [(xx, .inl (cX, 2400, .inl (tx T))), (md, .inr (5, [.ref xx, .int ln, .long R, .int rd, .ref mm, .ref nn, .int at0, .int (nI e)])), (mm, .inl (cM, 3000, .inl (rw16 (upR (upR V 0 (gb 16 T a pt bh)) 1 1)))), (nn, .inl (cN, 3, .inl (rc (upR (upR V 0 (gb 16 T a pt bh)) 1 1))))] := hD
      refine lv_i2l (v := (nI (bln ((upR (upR V 0 (gb 16 T a pt bh)) 1 1) 0))).toInt64) hx hb d_Mod_sized16_58 (rfl) ?_
      refine lv_lload hx hb d_Mod_sized16_59 (lv_at hl 0 rfl) ?_
      refine lv_ladd hx hb d_Mod_sized16_61 ?_
      refine tv_l (lZ ((bln M : Int) + (q - 4 * bh))) (by rw [hz0, lZ_nI (by omega), lZ_add]) ?_
      refine lv_ldc2 hx hb hown (hts _ kK_Mod_150) d_Mod_sized16_62 ?_
      refine tv_l (lZ 1200) (by decide) ?_
      refine W.lcmp hx hb d_Mod_sized16_65 ?_
      refine lv_if_le (tgt := 75) hx hb d_Mod_sized16_66 (by decide) (fun c66 => ?_) (fun c66 => ?_)
      · have e66 : (bln M : Int) + (q - 4 * bh) ≤ 1200 := (lZ_le (by omega) (by omega) (by omega) (by omega)).mp ((lg_cmp_le _ _).mp c66)
        refine lv_lload hx hb d_Mod_sized16_75 (lv_at hl 0 rfl) ?_
        refine lv_lconst (v := 0) hx hb d_Mod_sized16_77 (by decide) ?_
        refine tv_l (lZ 0) (by decide) ?_
        refine W.lcmp hx hb d_Mod_sized16_78 ?_
        refine lv_if_ge (tgt := 94) hx hb d_Mod_sized16_79 (by decide) (fun c79 => ?_) (fun c79 => ?_)
        · have e79 : 0 ≤ q - 4 * (bh : Int) := (lZ_le (a := 0) (by omega) (by omega) (by omega) (by omega)).mp ((lg_cmp_ge _ _).mp c79)
          refine lv_aload_n hx hb d_Mod_sized16_94 rfl (lv_at hl 1 rfl) ?_
          refine lv_iconst (v := 0) hx hb d_Mod_sized16_95 (by decide) ?_
          refine tv_i (nI 0) (rfl) ?_
          refine lv_lload hx hb d_Mod_sized16_96 (lv_at hl 0 rfl) ?_
          refine lv_l2i (v := nI (q - 4 * bh).toNat) hx hb d_Mod_sized16_98 (by rw [lZ_i, ← zI_nI]; exact congrArg zI (by omega)) ?_
          refine ca_v [(xx, .inl (cX, 2400, .inl (tx T)))] (va_runV (As := [.int (nI 0), .int (nI (q - 4 * bh).toNat)]) (rest := []) ⟨hx, hb, hml, hown, hts⟩ (c_Mod_raise l D E md xx mm nn cM cN (upR (upR V 0 (gb 16 T a pt bh)) 1 1) ln rd at0 (nI e) R 0 ((q - 4 * bh).toNat) (by decide) (by omega) (by rw [hz0]; have := lc_b hMb; omega) H.size) (xV 2 hts kC_Mod_raise kM_Mod_50 kI_Mod_raise kS_Mod_raise kN_Mod rfl rfl (by decide +kernel) ⟨Nat.le_of_ble_eq_true rfl, Nat.le_of_ble_eq_true rfl⟩) ⟨ct_blind hev, va_recv hK hP (ci := 5) (q0 := 1) rfl rfl, ct_pre hev hP hK hD hS hA hE [1, 2, 3] rfl (by decide) [0, 1] rfl⟩ rfl rfl hl.1 rfl (lv_room (Nat.le_of_ble_eq_true rfl)) d_Mod_sized16_99 ⟨Nat.le_of_ble_eq_true rfl, Nat.le_of_ble_eq_true rfl⟩) hP hD hS hA [1, 2, 3] [0] rfl rfl (by decide) (by decide) (fun u H locs hw hP hD hS hK1 => ?_)
          have hP : va_P D vcl [(xx, .inl (cX, 2400, .inl (tx T))), (md, .inr (5, [.ref xx, .int ln, .long R, .int rd, .ref mm, .ref nn, .int at0, .int (nI e)])), (mm, .inl (cM, 3000, .inl (rw16 (upR (upR (upR V 0 (gb 16 T a pt bh)) 1 1) 0 ((upR (upR V 0 (gb 16 T a pt bh)) 1 1) 0 * 2 ^ ((q - 4 * bh).toNat)))))), (nn, .inl (cN, 3, .inl (rc (upR (upR (upR V 0 (gb 16 T a pt bh)) 1 1) 0 ((upR (upR V 0 (gb 16 T a pt bh)) 1 1) 0 * 2 ^ ((q - 4 * bh).toNat))))))] H := hP
          have hD : va_D A [(xx, .inl (cX, 2400, .inl (tx T))), (md, .inr (5, [.ref xx, .int ln, .long R, .int rd, .ref mm, .ref nn, .int at0, .int (nI e)])), (mm, .inl (cM, 3000, .inl (rw16 (upR (upR (upR V 0 (gb 16 T a pt bh)) 1 1) 0 ((upR (upR V 0 (gb 16 T a pt bh)) 1 1) 0 * 2 ^ ((q - 4 * bh).toNat)))))), (nn, .inl (cN, 3, .inl (rc (upR (upR (upR V 0 (gb 16 T a pt bh)) 1 1) 0 ((upR (upR V 0 (gb 16 T a pt bh)) 1 1) 0 * 2 ^ ((q - 4 * bh).toNat))))))] := hD
          have hy0 : (upR (upR (upR V 0 (gb 16 T a pt bh)) 1 1) 0 ((upR (upR V 0 (gb 16 T a pt bh)) 1 1) 0 * 2 ^ ((q - 4 * bh).toNat))) 0 = M * 2 ^ (q - 4 * bh).toNat := by rw [upR_s, hz0]
          have hy1 : (upR (upR (upR V 0 (gb 16 T a pt bh)) 1 1) 0 ((upR (upR V 0 (gb 16 T a pt bh)) 1 1) 0 * 2 ^ ((q - 4 * bh).toNat))) 1 = 1 := by rw [upR_n (by decide), hz1]
          refine lv_aload_n hx hb d_Mod_sized16_102 rfl (lv_at hl 1 rfl) ?_
          refine lv_iload hx hb d_Mod_sized16_103 (lv_at hl 6 rfl) ?_
          refine ca_l [(xx, .inl (cX, 2400, .inl (tx T)))] (va_runV (As := [.int wd]) (rest := []) ⟨hx, hb, hml, hown, hts⟩ (c_Mod_nearest l D E md xx mm nn cM cN (upR (upR (upR V 0 (gb 16 T a pt bh)) 1 1) 0 ((upR (upR V 0 (gb 16 T a pt bh)) 1 1) 0 * 2 ^ ((q - 4 * bh).toNat))) ln rd at0 (nI e) R i (hi) wd (hwd) (by rw [upR_n (by decide), hz1]; decide) (okV_up hV2 (by rw [hz0]; exact Nat.le_trans (lc_p (e := 9600) (hMb) (by omega)) (by decide))) (by rw [upR_s, hz0]; exact Nat.le_trans bl_mul (by omega)) (by rw [upR_n (by decide), hz1]; decide) H.size) (xV 1 hts kC_Mod_nearest kM_Mod_152 kI_Mod_nearest kS_Mod_nearest kN_Mod rfl rfl (by decide +kernel) ⟨Nat.le_of_ble_eq_true rfl, Nat.le_of_ble_eq_true rfl⟩) ⟨ct_blind hev, va_recv hK hP (ci := 5) (q0 := 1) rfl rfl, ct_pre hev hP hK hD hS hA hE [1, 2, 3] rfl (by decide) [0, 1] rfl⟩ rfl rfl hl.1 rfl (lv_room (Nat.le_of_ble_eq_true rfl)) d_Mod_sized16_105 ⟨Nat.le_of_ble_eq_true rfl, Nat.le_of_ble_eq_true rfl⟩) hP hD hS hA [1, 2, 3] [0] rfl rfl (by decide) (by decide) (fun rv u H locs hw hP hD hS hK1 => ?_)
          obtain ⟨hw, hVn⟩ := hw
          subst hw
          obtain ⟨V9, hV9⟩ : ∃ x : Nat → Nat, x = u := ⟨_, rfl⟩
          rw [← hV9] at hP hD hVn
          have hP : va_P D vcl [(xx, .inl (cX, 2400, .inl (tx T))), (md, .inr (5, [.ref xx, .int ln, .long R, .int rd, .ref mm, .ref nn, .int at0, .int (nI e)])), (mm, .inl (cM, 3000, .inl (rw16 V9))), (nn, .inl (cN, 3, .inl (rc V9)))] H := hP
          have hD : va_D A [(xx, .inl (cX, 2400, .inl (tx T))), (md, .inr (5, [.ref xx, .int ln, .long R, .int rd, .ref mm, .ref nn, .int at0, .int (nI e)])), (mm, .inl (cM, 3000, .inl (rw16 V9))), (nn, .inl (cN, 3, .inl (rc V9)))] := hD
          exact rt_l hx hb hrt hlocks (V9) (⟨by rw [hy0, hy1, ← frn_sc (s1 := (q - 4 * bh).toNat) (s2 := 0) (by omega), Nat.pow_zero, Nat.mul_one, hM], hVn⟩) (hP.sub [1, 2, 3, 0] rfl) (hK.sub [0, 1, 2] rfl) (hD.sub [1, 2, 3, 0] (by decide) rfl) hS d_Mod_sized16_108
        · have e79 : q - 4 * (bh : Int) < 0 := by have := mt (lZ_le (a := 0) (b := q - 4 * (bh : Int)) (by omega) (by omega) (by omega) (by omega)).mpr (fun z => c79 ((lg_cmp_ge _ _).mpr z)); omega
          refine lv_aload_n hx hb d_Mod_sized16_82 rfl (lv_at hl 1 rfl) ?_
          refine lv_iconst (v := 1) hx hb d_Mod_sized16_83 (by decide) ?_
          refine tv_i (nI 1) (rfl) ?_
          refine lv_lload hx hb d_Mod_sized16_84 (lv_at hl 0 rfl) ?_
          refine lv_lneg hx hb d_Mod_sized16_86 ?_
          refine lv_l2i (v := nI (-(q - 4 * bh)).toNat) hx hb d_Mod_sized16_87 (by rw [lZ_neg, lZ_i, ← zI_nI]; exact congrArg zI (by omega)) ?_
          refine ca_v [(xx, .inl (cX, 2400, .inl (tx T)))] (va_runV (As := [.int (nI 1), .int (nI (-(q - 4 * bh)).toNat)]) (rest := []) ⟨hx, hb, hml, hown, hts⟩ (c_Mod_raise l D E md xx mm nn cM cN (upR (upR V 0 (gb 16 T a pt bh)) 1 1) ln rd at0 (nI e) R 1 ((-(q - 4 * bh)).toNat) (by decide) (by omega) (by rw [hz1]; have := lc_b (V := 1) (e := 1) (by decide); omega) H.size) (xV 2 hts kC_Mod_raise kM_Mod_50 kI_Mod_raise kS_Mod_raise kN_Mod rfl rfl (by decide +kernel) ⟨Nat.le_of_ble_eq_true rfl, Nat.le_of_ble_eq_true rfl⟩) ⟨ct_blind hev, va_recv hK hP (ci := 5) (q0 := 1) rfl rfl, ct_pre hev hP hK hD hS hA hE [1, 2, 3] rfl (by decide) [0, 1] rfl⟩ rfl rfl hl.1 rfl (lv_room (Nat.le_of_ble_eq_true rfl)) d_Mod_sized16_88 ⟨Nat.le_of_ble_eq_true rfl, Nat.le_of_ble_eq_true rfl⟩) hP hD hS hA [1, 2, 3] [0] rfl rfl (by decide) (by decide) (fun u H locs hw hP hD hS hK1 => ?_)
          have hP : va_P D vcl [(xx, .inl (cX, 2400, .inl (tx T))), (md, .inr (5, [.ref xx, .int ln, .long R, .int rd, .ref mm, .ref nn, .int at0, .int (nI e)])), (mm, .inl (cM, 3000, .inl (rw16 (upR (upR (upR V 0 (gb 16 T a pt bh)) 1 1) 1 ((upR (upR V 0 (gb 16 T a pt bh)) 1 1) 1 * 2 ^ ((-(q - 4 * bh)).toNat)))))), (nn, .inl (cN, 3, .inl (rc (upR (upR (upR V 0 (gb 16 T a pt bh)) 1 1) 1 ((upR (upR V 0 (gb 16 T a pt bh)) 1 1) 1 * 2 ^ ((-(q - 4 * bh)).toNat))))))] H := hP
          have hD : va_D A [(xx, .inl (cX, 2400, .inl (tx T))), (md, .inr (5, [.ref xx, .int ln, .long R, .int rd, .ref mm, .ref nn, .int at0, .int (nI e)])), (mm, .inl (cM, 3000, .inl (rw16 (upR (upR (upR V 0 (gb 16 T a pt bh)) 1 1) 1 ((upR (upR V 0 (gb 16 T a pt bh)) 1 1) 1 * 2 ^ ((-(q - 4 * bh)).toNat)))))), (nn, .inl (cN, 3, .inl (rc (upR (upR (upR V 0 (gb 16 T a pt bh)) 1 1) 1 ((upR (upR V 0 (gb 16 T a pt bh)) 1 1) 1 * 2 ^ ((-(q - 4 * bh)).toNat))))))] := hD
          refine lv_goto (tgt := 102) hx hb d_Mod_sized16_91 (by decide) ?_
          have hy0 : (upR (upR (upR V 0 (gb 16 T a pt bh)) 1 1) 1 ((upR (upR V 0 (gb 16 T a pt bh)) 1 1) 1 * 2 ^ ((-(q - 4 * bh)).toNat))) 0 = M := by rw [upR_n (by decide), hz0]
          have hy1 : (upR (upR (upR V 0 (gb 16 T a pt bh)) 1 1) 1 ((upR (upR V 0 (gb 16 T a pt bh)) 1 1) 1 * 2 ^ ((-(q - 4 * bh)).toNat))) 1 = 1 * 2 ^ (-(q - 4 * bh)).toNat := by rw [upR_s, hz1]
          refine lv_aload_n hx hb d_Mod_sized16_102 rfl (lv_at hl 1 rfl) ?_
          refine lv_iload hx hb d_Mod_sized16_103 (lv_at hl 6 rfl) ?_
          refine ca_l [(xx, .inl (cX, 2400, .inl (tx T)))] (va_runV (As := [.int wd]) (rest := []) ⟨hx, hb, hml, hown, hts⟩ (c_Mod_nearest l D E md xx mm nn cM cN (upR (upR (upR V 0 (gb 16 T a pt bh)) 1 1) 1 ((upR (upR V 0 (gb 16 T a pt bh)) 1 1) 1 * 2 ^ ((-(q - 4 * bh)).toNat))) ln rd at0 (nI e) R i (hi) wd (hwd) (by rw [upR_s, hz1]; exact Nat.pos_iff_ne_zero.mp (Nat.mul_pos (by decide) (Nat.two_pow_pos _))) (okV_up hV2 (by rw [hz1]; exact Nat.le_trans (lc_p (e := 1) (by decide) (by omega)) (by decide))) (by rw [upR_n (by decide), hz0]; omega) (by rw [upR_s, hz1]; exact Nat.le_trans bl_mul (by rw [show bln 1 = 1 by decide]; omega)) H.size) (xV 1 hts kC_Mod_nearest kM_Mod_152 kI_Mod_nearest kS_Mod_nearest kN_Mod rfl rfl (by decide +kernel) ⟨Nat.le_of_ble_eq_true rfl, Nat.le_of_ble_eq_true rfl⟩) ⟨ct_blind hev, va_recv hK hP (ci := 5) (q0 := 1) rfl rfl, ct_pre hev hP hK hD hS hA hE [1, 2, 3] rfl (by decide) [0, 1] rfl⟩ rfl rfl hl.1 rfl (lv_room (Nat.le_of_ble_eq_true rfl)) d_Mod_sized16_105 ⟨Nat.le_of_ble_eq_true rfl, Nat.le_of_ble_eq_true rfl⟩) hP hD hS hA [1, 2, 3] [0] rfl rfl (by decide) (by decide) (fun rv u H locs hw hP hD hS hK1 => ?_)
          obtain ⟨hw, hVn⟩ := hw
          subst hw
          obtain ⟨V9, hV9⟩ : ∃ x : Nat → Nat, x = u := ⟨_, rfl⟩
          rw [← hV9] at hP hD hVn
          have hP : va_P D vcl [(xx, .inl (cX, 2400, .inl (tx T))), (md, .inr (5, [.ref xx, .int ln, .long R, .int rd, .ref mm, .ref nn, .int at0, .int (nI e)])), (mm, .inl (cM, 3000, .inl (rw16 V9))), (nn, .inl (cN, 3, .inl (rc V9)))] H := hP
          have hD : va_D A [(xx, .inl (cX, 2400, .inl (tx T))), (md, .inr (5, [.ref xx, .int ln, .long R, .int rd, .ref mm, .ref nn, .int at0, .int (nI e)])), (mm, .inl (cM, 3000, .inl (rw16 V9))), (nn, .inl (cN, 3, .inl (rc V9)))] := hD
          exact rt_l hx hb hrt hlocks (V9) (⟨by rw [hy0, hy1, ← frn_sc (s1 := 0) (s2 := (-(q - 4 * bh)).toNat) (by omega), Nat.pow_zero, Nat.mul_one, hM], hVn⟩) (hP.sub [1, 2, 3, 0] rfl) (hK.sub [0, 1, 2] rfl) (hD.sub [1, 2, 3, 0] (by decide) rfl) hS d_Mod_sized16_108
      · have e66 : 1200 < (bln M : Int) + (q - 4 * bh) := by have := mt (lZ_le (a := (bln M : Int) + (q - 4 * bh)) (b := 1200) (by omega) (by omega) (by omega) (by omega)).mpr (fun z => c66 ((lg_cmp_le _ _).mpr z)); omega
        refine lv_iload hx hb d_Mod_sized16_69 (lv_at hl 6 rfl) ?_
        refine ca_l [(xx, .inl (cX, 2400, .inl (tx T))), (md, .inr (5, [.ref xx, .int ln, .long R, .int rd, .ref mm, .ref nn, .int at0, .int (nI e)])), (mm, .inl (cM, 3000, .inl (rw16 (upR (upR V 0 (gb 16 T a pt bh)) 1 1)))), (nn, .inl (cN, 3, .inl (rc (upR (upR V 0 (gb 16 T a pt bh)) 1 1))))] (va_runS (As := [.int wd]) (rest := []) ⟨hx, hb, hml, hown, hts⟩ (c_Mod_infinite l D E wd H.size) (xS 1 hts kC_Mod_infinite kM_Mod_46 kT_Mod_infinite kN_Mod rfl rfl (by decide +kernel) ⟨Nat.le_of_ble_eq_true rfl, Nat.le_of_ble_eq_true rfl⟩) ⟨ct_blind hev, ct_pre hev hP hK hD hS hA hE [] rfl (by decide) [] rfl⟩ rfl rfl hl.1 rfl (lv_room (Nat.le_of_ble_eq_true rfl)) d_Mod_sized16_71 ⟨Nat.le_of_ble_eq_true rfl, Nat.le_of_ble_eq_true rfl⟩) hP hD hS hA [] [0, 1, 2, 3] rfl rfl (by decide) (by decide) (fun rv u H locs hw hP hD hS hK1 => ?_)
        subst hw
        have hP : va_P D vcl [(xx, .inl (cX, 2400, .inl (tx T))), (md, .inr (5, [.ref xx, .int ln, .long R, .int rd, .ref mm, .ref nn, .int at0, .int (nI e)])), (mm, .inl (cM, 3000, .inl (rw16 (upR (upR V 0 (gb 16 T a pt bh)) 1 1)))), (nn, .inl (cN, 3, .inl (rc (upR (upR V 0 (gb 16 T a pt bh)) 1 1))))] H := hP
        have hD : va_D A [(xx, .inl (cX, 2400, .inl (tx T))), (md, .inr (5, [.ref xx, .int ln, .long R, .int rd, .ref mm, .ref nn, .int at0, .int (nI e)])), (mm, .inl (cM, 3000, .inl (rw16 (upR (upR V 0 (gb 16 T a pt bh)) 1 1)))), (nn, .inl (cN, 3, .inl (rc (upR (upR V 0 (gb 16 T a pt bh)) 1 1))))] := hD
        exact rt_l hx hb hrt hlocks (upR (upR V 0 (gb 16 T a pt bh)) 1 1) (⟨by rw [← hM, fr_large e32 (by omega), hwd]; exact kf_I i hi, hV2⟩) (hP.sub [1, 2, 3, 0] rfl) (hK.sub [0, 1, 2] rfl) (hD.sub [1, 2, 3, 0] (by decide) rfl) hS d_Mod_sized16_74
    · have e48 : (bln M : Int) + (q - 4 * bh) < -1200 := by have := mt (lZ_le (a := -1200) (b := (bln M : Int) + (q - 4 * bh)) (by omega) (by omega) (by omega) (by omega)).mpr (fun z => c48 ((lg_cmp_ge _ _).mpr z)); omega
      refine lv_lconst (v := 0) hx hb d_Mod_sized16_51 (by decide) ?_
      exact rt_l hx hb hrt hlocks (upR (upR V 0 (gb 16 T a pt bh)) 1 1) (⟨by rw [← hM, fr_small (by omega)]; rfl, hV2⟩) (hP.sub [1, 2, 3, 0] rfl) (hK.sub [0, 1, 2] rfl) (hD.sub [1, 2, 3, 0] (by decide) rfl) hS d_Mod_sized16_52

set_option maxHeartbeats 4000000 in
set_option maxRecDepth 100000 in
theorem c_Mod_sized10 (l : Launch) (D : va_G) (E : evD) (md xx mm nn : Nat) (cM cN cX : ClassId) (V : Nat → Nat) (ln rd at0 : Int32) (R : Int64) (T : Nat → Nat) (hT : ∀ j, T j < 256) (e : Nat) (he : e ≤ 2400) (hV : okV V) (a pt bh : Nat) (hap : a ≤ pt) (hpe : pt ≤ e) (hbe : bh = 0 ∨ pt + 1 + bh ≤ e) (hd1 : ∀ j, a ≤ j → j < pt → dg (T j) < 10) (hd2 : ∀ j, pt < j → j < pt + 1 + bh → dg (T j) < 10) (i : Nat) (hi : i < 2) (wd : Int32) (hwd : knd wd = i) (q : Int) (hq1 : -100000000 ≤ q) (hq2 : q ≤ 100000000) : Cl (S := (Nat → Nat)) l y_Mod_sized10 (wz y_Mod_sized10 b_Mod_sized10 14 (some .long)) ({ frames := 4, cells := 0, slots := 0, locals := 114 }) D vcl (ev1 E) [.ref md, .int (nI a), .int (nI pt), .int (nI bh), .long (lZ q), .int wd] [(cM, .int), (cN, .int), (cX, .int)] [(md, .inr (5, [.ref xx, .int ln, .long R, .int rd, .ref mm, .ref nn, .int at0, .int (nI e)])), (mm, .inl (cM, 3000, .inl (rw16 V))), (nn, .inl (cN, 3, .inl (rc V))), (xx, .inl (cX, 2400, .inl (tx T)))] 0 0 (fun (w : Int64) (V' : Nat → Nat) => w = lN (dec (kP i) (kZ i) (kLw i) (gb 10 T a pt bh) (q - (bh : Int))) ∧ okV V') (fun _ => [(cM, .int), (cN, .int), (cX, .int)]) (fun V' : Nat → Nat => [(md, .inr (5, [.ref xx, .int ln, .long R, .int rd, .ref mm, .ref nn, .int at0, .int (nI e)])), (mm, .inl (cM, 3000, .inl (rw16 V'))), (nn, .inl (cN, 3, .inl (rc V'))), (xx, .inl (cX, 2400, .inl (tx T)))]) := by
  have hev := ev1_ok E
  unfold Cl
  refine ct_of (y := y_Mod_sized10) (av := [.ref md, .int (nI a), .int (nI pt), .int (nI bh), .long (lZ q), .int wd]) (cc := b_Mod_sized10) (maxL := 14) (ret := (some .long)) (Qc := fun A => va_Ql (S := (Nat → Nat)) (fun (w : Int64) (V' : Nat → Nat) => w = lN (dec (kP i) (kZ i) (kLw i) (gb 10 T a pt bh) (q - (bh : Int))) ∧ okV V') (fun u tS => ctB D vcl ((fun _ => [(cM, .int), (cN, .int), (cX, .int)]) u) ((fun V' : Nat → Nat => [(md, .inr (5, [.ref xx, .int ln, .long R, .int rd, .ref mm, .ref nn, .int at0, .int (nI e)])), (mm, .inl (cM, 3000, .inl (rw16 V'))), (nn, .inl (cN, 3, .inl (rc V'))), (xx, .inl (cX, 2400, .inl (tx T)))]) u) A tS) A) (by decide) rfl (Nat.le_of_ble_eq_true rfl) ?_
  intro p ee s m below meth cde ls A H locs hx hb hml hrt hlocks hown hin hts hA hP hK hD hS hE hl
  have hown : s.vm.findClass R_Mod = some m.cls := hown
  have hts := wz_g hts
  have hl : lv_has ls 14 [(0, .ref md), (1, .int (nI a)), (2, .int (nI pt)), (3, .int (nI bh)), (4, .long (lZ q)), (6, .int wd)] := hl
  obtain ⟨hk1, hk2, hk3, hk4, hk5, -⟩ := kP_b i hi
  have hk6 : kP i + kZ i ≤ kLw i + 1100 := by rcases (show i = 0 ∨ i = 1 by omega) with z | z <;> rw [z] <;> decide
  obtain ⟨M, hM⟩ : ∃ M : Nat, M = gb 10 T a pt bh := ⟨_, rfl⟩
  have hMb : bln M ≤ 9700 := by rw [hM]; exact bit10 (gb_lt (by decide) hd1 bh hd2) (by omega)
  have hk9 : kLo i ≤ 323 ∧ kHi i ≤ 309 := by rcases (show i = 0 ∨ i = 1 by omega) with z | z <;> rw [z] <;> decide
  refine lv_aload_n hx hb d_Mod_sized10_0 rfl (lv_at hl 0 rfl) ?_
  refine lv_iload_n hx hb d_Mod_sized10_1 rfl (lv_at hl 1 rfl) ?_
  refine lv_iload_n hx hb d_Mod_sized10_2 rfl (lv_at hl 2 rfl) ?_
  refine lv_iload_n hx hb d_Mod_sized10_3 rfl (lv_at hl 3 rfl) ?_
  refine lv_bipush (v := 10) hx hb d_Mod_sized10_4 (by decide) ?_
  refine tv_i (nI 10) (rfl) ?_
  refine ca_v [] (va_runV (As := [.int (nI a), .int (nI pt), .int (nI bh), .int (nI 10)]) (rest := []) ⟨hx, hb, hml, hown, hts⟩ (c_Mod_gather l D E md xx mm nn cM cN cX V ln rd at0 R T hT e he hV a pt bh hap hpe hbe 10 (by decide) (by decide) hd1 hd2 H.size) (xV 4 hts kC_Mod_gather kM_Mod_142 kI_Mod_gather kS_Mod_gather kN_Mod rfl rfl (by decide +kernel) ⟨Nat.le_of_ble_eq_true rfl, Nat.le_of_ble_eq_true rfl⟩) ⟨ct_blind hev, va_recv hK hP (ci := 5) (q0 := 0) rfl rfl, ct_pre hev hP hK hD hS hA hE [0, 1, 2, 3] rfl (by decide) [0, 1, 2] rfl⟩ rfl rfl hl.1 rfl (lv_room (Nat.le_of_ble_eq_true rfl)) d_Mod_sized10_6 ⟨Nat.le_of_ble_eq_true rfl, Nat.le_of_ble_eq_true rfl⟩) hP hD hS hA [0, 1, 2, 3] [] rfl rfl (by decide) (by decide) (fun u H locs hw hP hD hS hK1 => ?_)
  have hP : va_P D vcl [(md, .inr (5, [.ref xx, .int ln, .long R, .int rd, .ref mm, .ref nn, .int at0, .int (nI e)])), (mm, .inl (cM, 3000, .inl (rw16 (upR V 0 (gb 10 T a pt bh))))), (nn, .inl (cN, 3, .inl (rc (upR V 0 (gb 10 T a pt bh))))), (xx, .inl (cX, 2400, .inl (tx T)))] H := hP
  have hD : va_D A [(md, .inr (5, [.ref xx, .int ln, .long R, .int rd, .ref mm, .ref nn, .int at0, .int (nI e)])), (mm, .inl (cM, 3000, .inl (rw16 (upR V 0 (gb 10 T a pt bh))))), (nn, .inl (cN, 3, .inl (rc (upR V 0 (gb 10 T a pt bh))))), (xx, .inl (cX, 2400, .inl (tx T)))] := hD
  refine lv_aload_n hx hb d_Mod_sized10_9 rfl (lv_at hl 0 rfl) ?_
  refine lv_iconst (v := 1) hx hb d_Mod_sized10_10 (by decide) ?_
  refine tv_i (nI 1) (rfl) ?_
  refine lv_lconst (v := 1) hx hb d_Mod_sized10_11 (by decide) ?_
  refine tv_l (lN 1) (rfl) ?_
  refine ca_v [(xx, .inl (cX, 2400, .inl (tx T)))] (va_runV (As := [.int (nI 1), .long (lN 1)]) (rest := []) ⟨hx, hb, hml, hown, hts⟩ (c_Mod_set l D E md xx mm nn cM cN (upR V 0 (gb 10 T a pt bh)) ln rd at0 (nI e) R 1 1 (by decide) (by rw [upR_n (by decide)]; exact Nat.lt_of_lt_of_le (lc_lt _) (p16_le (by have := hV 1 (by decide); omega))) (by decide) H.size) (xV 2 hts kC_Mod_set kM_Mod_138 kI_Mod_set kS_Mod_set kN_Mod rfl rfl (by decide +kernel) ⟨Nat.le_of_ble_eq_true rfl, Nat.le_of_ble_eq_true rfl⟩) ⟨ct_blind hev, va_recv hK hP (ci := 5) (q0 := 0) rfl rfl, ct_pre hev hP hK hD hS hA hE [0, 1, 2] rfl (by decide) [0, 1] rfl⟩ rfl rfl hl.1 rfl (lv_room (Nat.le_of_ble_eq_true rfl)) d_Mod_sized10_12 ⟨Nat.le_of_ble_eq_true rfl, Nat.le_of_ble_eq_true rfl⟩) hP hD hS hA [0, 1, 2] [3] rfl rfl (by decide) (by decide) (fun u H locs hw hP hD hS hK1 => ?_)
  have hP : va_P D vcl [(xx, .inl (cX, 2400, .inl (tx T))), (md, .inr (5, [.ref xx, .int ln, .long R, .int rd, .ref mm, .ref nn, .int at0, .int (nI e)])), (mm, .inl (cM, 3000, .inl (rw16 (upR (upR V 0 (gb 10 T a pt bh)) 1 1)))), (nn, .inl (cN, 3, .inl (rc (upR (upR V 0 (gb 10 T a pt bh)) 1 1))))] H := hP
  have hD : va_D A [(xx, .inl (cX, 2400, .inl (tx T))), (md, .inr (5, [.ref xx, .int ln, .long R, .int rd, .ref mm, .ref nn, .int at0, .int (nI e)])), (mm, .inl (cM, 3000, .inl (rw16 (upR (upR V 0 (gb 10 T a pt bh)) 1 1)))), (nn, .inl (cN, 3, .inl (rc (upR (upR V 0 (gb 10 T a pt bh)) 1 1))))] := hD
  have hz0 : (upR (upR V 0 (gb 10 T a pt bh)) 1 1) 0 = M := by rw [upR_n (by decide), upR_s, hM]
  have hz1 : (upR (upR V 0 (gb 10 T a pt bh)) 1 1) 1 = 1 := upR_s _ _ _
  have hV2 : okV (upR (upR V 0 (gb 10 T a pt bh)) 1 1) := okV_up (okV_up hV (by rw [← hM]; exact Nat.le_trans (lc_b hMb) (by decide))) (by decide)
  have L61 : ∀ (kk : Nat) (fs : Nat), 0 < kk → (a ≤ fs) → (fs ≤ pt + 1 + bh) → (M ≠ 0 → 0 < cF pt bh fs ∧ cF pt bh fs ≤ pt - a + bh ∧ 10 ^ (cF pt bh fs - 1) ≤ M ∧ M < 10 ^ cF pt bh fs) → ∀ (H : Heap) (locs : List Loc) (ls : Array Slot), va_P D vcl [(md, .inr (5, [.ref xx, .int ln, .long R, .int rd, .ref mm, .ref nn, .int at0, .int (nI e)])), (mm, .inl (cM, 3000, .inl (rw16 (upR (upR V 0 (gb 10 T a pt bh)) 1 1)))), (nn, .inl (cN, 3, .inl (rc (upR (upR V 0 (gb 10 T a pt bh)) 1 1)))), (xx, .inl (cX, 2400, .inl (tx T)))] H → va_D A [(md, .inr (5, [.ref xx, .int ln, .long R, .int rd, .ref mm, .ref nn, .int at0, .int (nI e)])), (mm, .inl (cM, 3000, .inl (rw16 (upR (upR V 0 (gb 10 T a pt bh)) 1 1)))), (nn, .inl (cN, 3, .inl (rc (upR (upR V 0 (gb 10 T a pt bh)) 1 1)))), (xx, .inl (cX, 2400, .inl (tx T)))] → va_S A s.heap H locs → lv_has ls 14 [(0, .ref md), (2, .int (nI pt)), (3, .int (nI bh)), (4, .long (lZ q)), (6, .int wd), (7, .int (nI fs))] → W p l ee ({ frames := 4, cells := 0, slots := 0, locals := 114 }) s m ([.ref md, .int (nI a), .int (nI pt), .int (nI bh), .long (lZ q), .int wd] : List Value).toArray below meth cde H locs 0 0 (MQ below (va_Ql (S := (Nat → Nat)) (fun (w : Int64) (V' : Nat → Nat) => w = lN (dec (kP i) (kZ i) (kLw i) (gb 10 T a pt bh) (q - (bh : Int))) ∧ okV V') (fun u tS => ctB D vcl ((fun _ => [(cM, .int), (cN, .int), (cX, .int)]) u) ((fun V' : Nat → Nat => [(md, .inr (5, [.ref xx, .int ln, .long R, .int rd, .ref mm, .ref nn, .int at0, .int (nI e)])), (mm, .inl (cM, 3000, .inl (rw16 V'))), (nn, .inl (cN, 3, .inl (rc V'))), (xx, .inl (cX, 2400, .inl (tx T)))]) u) A tS) A) ([.ref md, .int (nI a), .int (nI pt), .int (nI bh), .long (lZ q), .int wd] : List Value).toArray s 0 0 A) (F0 m 61 ls []) := by
    intro kk
    induction kk with
    | zero => intro fs hmz; exact absurd hmz (Nat.not_lt_zero _)
    | succ kk ih =>
      intro fs hmz hf1 hf2 hMx H locs ls hP hD hS hl
      refine lv_iload hx hb d_Mod_sized10_61 (lv_at hl 5 rfl) ?_
      refine lv_iload_n hx hb d_Mod_sized10_63 rfl (lv_at hl 1 rfl) ?_
      refine lv_icmp_ge (tgt := 76) hx hb d_Mod_sized10_64 (by decide) (fun c64 => ?_) (fun c64 => ?_)
      · have e64 : ¬ fs < pt := by have := (nI_leI (by omega) (by omega)).mp c64; omega
        refine lv_iload_n hx hb d_Mod_sized10_76 rfl (lv_at hl 1 rfl) ?_
        refine lv_iconst (v := 1) hx hb d_Mod_sized10_77 (by decide) ?_
        refine lv_iadd hx hb d_Mod_sized10_78 ?_
        refine tv_i (nI (pt + 1)) (nI_1 _) ?_
        refine lv_iload_n hx hb d_Mod_sized10_79 rfl (lv_at hl 2 rfl) ?_
        refine lv_iadd hx hb d_Mod_sized10_80 ?_
        refine tv_i (nI (pt + 1 + bh)) (nI_add _ _) ?_
        refine lv_iload hx hb d_Mod_sized10_81 (lv_at hl 5 rfl) ?_
        refine lv_isub hx hb d_Mod_sized10_83 ?_
        refine tv_i (nI (pt + 1 + bh - fs)) (pk_sub (by omega)) ?_
        refine tv_i (nI (cF pt bh fs)) (by unfold cF; rw [if_neg e64]) ?_
        refine lv_i2l (v := (nI (cF pt bh fs)).toInt64) hx hb d_Mod_sized10_84 (rfl) ?_
        have hcf : cF pt bh fs ≤ 2401 := by unfold cF; split <;> omega
        refine tv_l (lZ (cF pt bh fs : Int)) (lZ_nI (by omega)) ?_
        refine lv_lload hx hb d_Mod_sized10_85 (lv_at hl 3 rfl) ?_
        refine lv_ladd hx hb d_Mod_sized10_87 ?_
        refine tv_l (lZ ((cF pt bh fs : Int) + q)) (lZ_add _ _) ?_
        refine lv_iload_n hx hb d_Mod_sized10_88 rfl (lv_at hl 2 rfl) ?_
        refine lv_i2l (v := (nI bh).toInt64) hx hb d_Mod_sized10_89 (rfl) ?_
        refine tv_l (lZ (bh : Int)) (lZ_nI (by omega)) ?_
        refine lv_lsub hx hb d_Mod_sized10_90 ?_
        refine tv_l (lZ ((cF pt bh fs : Int) + q - bh)) (lZ_sub _ _) ?_
        refine lv_lstore (lv' := [(8, .long (lZ ((cF pt bh fs : Int) + q - bh))), (0, .ref md), (2, .int (nI pt)), (3, .int (nI bh)), (4, .long (lZ q)), (6, .int wd), (7, .int (nI fs))]) hx hb d_Mod_sized10_91 hl (by decide) rfl (fun ls hl => ?_)
        refine lv_aload_n hx hb d_Mod_sized10_93 rfl (lv_at hl 1 rfl) ?_
        refine va_get (D := D) (ci := 5) (v := .ref nn) (C := R_Mod) (T := F_Mod) (N := 8) hx hb hts w_Mod hown hK hP 0 rfl rfl 5 (by decide) (hts _ kF_Mod_16) (fun _ h9 => h9) rfl d_Mod_sized10_94 ?_
        refine lv_iconst (v := 0) hx hb d_Mod_sized10_97 (by decide) ?_
        refine tv_i (nI 0) (rfl) ?_
        refine va_iald hx hb hK hP 2 1 rfl rfl (i := nI 0) (vp_in_nI (show 0 < 3 by decide) (by decide)) d_Mod_sized10_98 ?_
        refine tv_i (nI (lc M)) (by rw [nI_clamp (by decide)]; show nI (lc ((upR (upR V 0 (gb 10 T a pt bh)) 1 1) 0)) = _; rw [hz0]) ?_
        refine lv_if_eq (tgt := 111) hx hb d_Mod_sized10_99 (by decide) (fun c99 => ?_) (fun c99 => ?_)
        · have e99 : M = 0 := lc_0.mp ((nI_eq0 (by have := lc_b hMb; omega)).mp c99)
          refine lv_lconst (v := 0) hx hb d_Mod_sized10_111 (by decide) ?_
          exact rt_l hx hb hrt hlocks (upR (upR V 0 (gb 10 T a pt bh)) 1 1) (⟨by rw [← hM, e99, dec_0]; rfl, hV2⟩) (hP.sub [0, 1, 2, 3] rfl) (hK.sub [0, 1, 2] rfl) (hD.sub [0, 1, 2, 3] (by decide) rfl) hS d_Mod_sized10_112
        · have e99 : M ≠ 0 := fun z => c99 (by rw [z]; rfl)
          refine lv_lload hx hb d_Mod_sized10_102 (lv_at hl 0 rfl) ?_
          refine lv_ldc2 hx hb hown (hts _ kK_Mod_155) d_Mod_sized10_104 ?_
          refine tv_l (lZ (-400)) (by decide) ?_
          refine W.lcmp hx hb d_Mod_sized10_107 ?_
          refine lv_if_ge (tgt := 113) hx hb d_Mod_sized10_108 (by decide) (fun c108 => ?_) (fun c108 => ?_)
          · have e108 : -400 ≤ (cF pt bh fs : Int) + q - bh := (lZ_le (by omega) (by omega) (by omega) (by omega)).mp ((lg_cmp_ge _ _).mp c108)
            refine lv_lload hx hb d_Mod_sized10_113 (lv_at hl 0 rfl) ?_
            refine lv_ldc2 hx hb hown (hts _ kK_Mod_157) d_Mod_sized10_115 ?_
            refine tv_l (lZ 400) (by decide) ?_
            refine W.lcmp hx hb d_Mod_sized10_118 ?_
            refine lv_if_le (tgt := 128) hx hb d_Mod_sized10_119 (by decide) (fun c119 => ?_) (fun c119 => ?_)
            · have e119 : (cF pt bh fs : Int) + q - bh ≤ 400 := (lZ_le (by omega) (by omega) (by omega) (by omega)).mp ((lg_cmp_le _ _).mp c119)
              obtain ⟨hx1, hx2, hx3, hx4⟩ := hMx e99
              have bdA0 : ∀ x : Nat, x ≤ (q - (bh : Int)).toNat → bln (M * 10 ^ x) ≤ 9700 := by
                intro x hx
                refine bit10 (e := cF pt bh fs + x) ?_ (by omega)
                rw [Nat.pow_add]
                exact Nat.mul_lt_mul_of_pos_right hx4 (ten_pos x)
              have bdA : ∀ {x : Nat}, x ≤ (q - (bh : Int)).toNat → lc (M * 10 ^ x) ≤ 999 := fun {x} hx => Nat.le_trans (lc_b (bdA0 x hx)) (by decide)
              have bdB0 : ∀ x : Nat, x ≤ (-(q - (bh : Int))).toNat → bln (10 ^ x) ≤ 9700 := by
                intro x hx
                refine bit10 (e := x + 1) ?_ (by omega)
                exact Nat.pow_lt_pow_right (by decide) (by omega)
              have bdB : ∀ {x : Nat}, x ≤ (-(q - (bh : Int))).toNat → lc (10 ^ x) ≤ 999 := fun {x} hx => Nat.le_trans (lc_b (bdB0 x hx)) (by decide)
              refine lv_lload hx hb d_Mod_sized10_128 (lv_at hl 4 rfl) ?_
              refine lv_iload_n hx hb d_Mod_sized10_130 rfl (lv_at hl 3 rfl) ?_
              refine lv_i2l (v := (nI bh).toInt64) hx hb d_Mod_sized10_131 (rfl) ?_
              refine tv_l (lZ (bh : Int)) (lZ_nI (by omega)) ?_
              refine lv_lsub hx hb d_Mod_sized10_132 ?_
              refine tv_l (lZ (q - (bh : Int))) (lZ_sub _ _) ?_
              refine lv_lstore (lv' := [(10, .long (lZ (q - (bh : Int)))), (8, .long (lZ ((cF pt bh fs : Int) + q - bh))), (0, .ref md), (2, .int (nI pt)), (3, .int (nI bh)), (4, .long (lZ q)), (6, .int wd), (7, .int (nI fs))]) hx hb d_Mod_sized10_133 hl (by decide) rfl (fun ls hl => ?_)
              refine lv_lconst (v := 0) hx hb d_Mod_sized10_135 (by decide) ?_
              refine tv_l (lZ ((0 : Nat) : Int)) (by decide) ?_
              refine lv_lstore (lv' := [(12, .long (lZ ((0 : Nat) : Int))), (10, .long (lZ (q - (bh : Int)))), (8, .long (lZ ((cF pt bh fs : Int) + q - bh))), (0, .ref md), (2, .int (nI pt)), (3, .int (nI bh)), (4, .long (lZ q)), (6, .int wd), (7, .int (nI fs))]) hx hb d_Mod_sized10_136 hl (by decide) rfl (fun ls hl => ?_)
              have L138 : ∀ (kk : Nat) (k : Nat) (Wv : Nat → Nat), (q - (bh : Int)).toNat - k < kk → (k ≤ (q - (bh : Int)).toNat) → (Wv 0 = M * 10 ^ k) → (Wv 1 = 1) → (okV Wv) → ∀ (H : Heap) (locs : List Loc) (ls : Array Slot), va_P D vcl [(md, .inr (5, [.ref xx, .int ln, .long R, .int rd, .ref mm, .ref nn, .int at0, .int (nI e)])), (mm, .inl (cM, 3000, .inl (rw16 Wv))), (nn, .inl (cN, 3, .inl (rc Wv))), (xx, .inl (cX, 2400, .inl (tx T)))] H → va_D A [(md, .inr (5, [.ref xx, .int ln, .long R, .int rd, .ref mm, .ref nn, .int at0, .int (nI e)])), (mm, .inl (cM, 3000, .inl (rw16 Wv))), (nn, .inl (cN, 3, .inl (rc Wv))), (xx, .inl (cX, 2400, .inl (tx T)))] → va_S A s.heap H locs → lv_has ls 14 [(0, .ref md), (2, .int (nI pt)), (3, .int (nI bh)), (4, .long (lZ q)), (6, .int wd), (10, .long (lZ (q - (bh : Int)))), (12, .long (lZ (k : Int)))] → W p l ee ({ frames := 4, cells := 0, slots := 0, locals := 114 }) s m ([.ref md, .int (nI a), .int (nI pt), .int (nI bh), .long (lZ q), .int wd] : List Value).toArray below meth cde H locs 0 0 (MQ below (va_Ql (S := (Nat → Nat)) (fun (w : Int64) (V' : Nat → Nat) => w = lN (dec (kP i) (kZ i) (kLw i) (gb 10 T a pt bh) (q - (bh : Int))) ∧ okV V') (fun u tS => ctB D vcl ((fun _ => [(cM, .int), (cN, .int), (cX, .int)]) u) ((fun V' : Nat → Nat => [(md, .inr (5, [.ref xx, .int ln, .long R, .int rd, .ref mm, .ref nn, .int at0, .int (nI e)])), (mm, .inl (cM, 3000, .inl (rw16 V'))), (nn, .inl (cN, 3, .inl (rc V'))), (xx, .inl (cX, 2400, .inl (tx T)))]) u) A tS) A) ([.ref md, .int (nI a), .int (nI pt), .int (nI bh), .long (lZ q), .int wd] : List Value).toArray s 0 0 A) (F0 m 138 ls []) := by
                intro kk
                induction kk with
                | zero => intro k Wv hmz; exact absurd hmz (Nat.not_lt_zero _)
                | succ kk ih =>
                  intro k Wv hmz hk hw0 hw1 hokW H locs ls hP hD hS hl
                  refine lv_lload hx hb d_Mod_sized10_138 (lv_at hl 6 rfl) ?_
                  refine lv_lload hx hb d_Mod_sized10_140 (lv_at hl 5 rfl) ?_
                  refine W.lcmp hx hb d_Mod_sized10_142 ?_
                  refine lv_if_ge (tgt := 163) hx hb d_Mod_sized10_143 (by decide) (fun c143 => ?_) (fun c143 => ?_)
                  · have e143 : (q - (bh : Int)) ≤ k := (lZ_le (by omega) (by omega) (by omega) (by omega)).mp ((lg_cmp_ge _ _).mp c143)
                    refine lv_lconst (v := 0) hx hb d_Mod_sized10_163 (by decide) ?_
                    refine tv_l (lZ ((0 : Nat) : Int)) (by decide) ?_
                    refine lv_lstore (lv' := [(12, .long (lZ ((0 : Nat) : Int))), (0, .ref md), (2, .int (nI pt)), (3, .int (nI bh)), (4, .long (lZ q)), (6, .int wd), (10, .long (lZ (q - (bh : Int))))]) hx hb d_Mod_sized10_164 hl (by decide) rfl (fun ls hl => ?_)
                    have L166 : ∀ (kk : Nat) (k : Nat) (Wv : Nat → Nat), (-(q - (bh : Int))).toNat - k < kk → (k ≤ (-(q - (bh : Int))).toNat) → (Wv 0 = M * 10 ^ (q - (bh : Int)).toNat) → (Wv 1 = 10 ^ k) → (okV Wv) → ∀ (H : Heap) (locs : List Loc) (ls : Array Slot), va_P D vcl [(md, .inr (5, [.ref xx, .int ln, .long R, .int rd, .ref mm, .ref nn, .int at0, .int (nI e)])), (mm, .inl (cM, 3000, .inl (rw16 Wv))), (nn, .inl (cN, 3, .inl (rc Wv))), (xx, .inl (cX, 2400, .inl (tx T)))] H → va_D A [(md, .inr (5, [.ref xx, .int ln, .long R, .int rd, .ref mm, .ref nn, .int at0, .int (nI e)])), (mm, .inl (cM, 3000, .inl (rw16 Wv))), (nn, .inl (cN, 3, .inl (rc Wv))), (xx, .inl (cX, 2400, .inl (tx T)))] → va_S A s.heap H locs → lv_has ls 14 [(0, .ref md), (2, .int (nI pt)), (3, .int (nI bh)), (4, .long (lZ q)), (6, .int wd), (10, .long (lZ (q - (bh : Int)))), (12, .long (lZ (k : Int)))] → W p l ee ({ frames := 4, cells := 0, slots := 0, locals := 114 }) s m ([.ref md, .int (nI a), .int (nI pt), .int (nI bh), .long (lZ q), .int wd] : List Value).toArray below meth cde H locs 0 0 (MQ below (va_Ql (S := (Nat → Nat)) (fun (w : Int64) (V' : Nat → Nat) => w = lN (dec (kP i) (kZ i) (kLw i) (gb 10 T a pt bh) (q - (bh : Int))) ∧ okV V') (fun u tS => ctB D vcl ((fun _ => [(cM, .int), (cN, .int), (cX, .int)]) u) ((fun V' : Nat → Nat => [(md, .inr (5, [.ref xx, .int ln, .long R, .int rd, .ref mm, .ref nn, .int at0, .int (nI e)])), (mm, .inl (cM, 3000, .inl (rw16 V'))), (nn, .inl (cN, 3, .inl (rc V'))), (xx, .inl (cX, 2400, .inl (tx T)))]) u) A tS) A) ([.ref md, .int (nI a), .int (nI pt), .int (nI bh), .long (lZ q), .int wd] : List Value).toArray s 0 0 A) (F0 m 166 ls []) := by
                      intro kk
                      induction kk with
                      | zero => intro k Wv hmz; exact absurd hmz (Nat.not_lt_zero _)
                      | succ kk ih =>
                        intro k Wv hmz hk hw0 hw1 hokW H locs ls hP hD hS hl
                        refine lv_lload hx hb d_Mod_sized10_166 (lv_at hl 6 rfl) ?_
                        refine lv_lload hx hb d_Mod_sized10_168 (lv_at hl 5 rfl) ?_
                        refine lv_lneg hx hb d_Mod_sized10_170 ?_
                        refine tv_l (lZ (-(q - (bh : Int)))) (lZ_neg _) ?_
                        refine W.lcmp hx hb d_Mod_sized10_171 ?_
                        refine lv_if_ge (tgt := 192) hx hb d_Mod_sized10_172 (by decide) (fun c172 => ?_) (fun c172 => ?_)
                        · have e172 : -(q - (bh : Int)) ≤ k := (lZ_le (by omega) (by omega) (by omega) (by omega)).mp ((lg_cmp_ge _ _).mp c172)
                          have hkE : k = (-(q - (bh : Int))).toNat := by omega
                          refine lv_aload_n hx hb d_Mod_sized10_192 rfl (lv_at hl 0 rfl) ?_
                          refine lv_iload hx hb d_Mod_sized10_193 (lv_at hl 4 rfl) ?_
                          refine ca_l [(xx, .inl (cX, 2400, .inl (tx T)))] (va_runV (As := [.int wd]) (rest := []) ⟨hx, hb, hml, hown, hts⟩ (c_Mod_nearest l D E md xx mm nn cM cN Wv ln rd at0 (nI e) R i (hi) wd (hwd) (by rw [hw1]; exact Nat.pos_iff_ne_zero.mp (ten_pos k)) (hokW) (by rw [hw0]; exact Nat.le_trans (bdA0 _ (Nat.le_refl _)) (by decide)) (by rw [hw1]; exact Nat.le_trans (bdB0 _ hk) (by decide)) H.size) (xV 1 hts kC_Mod_nearest kM_Mod_152 kI_Mod_nearest kS_Mod_nearest kN_Mod rfl rfl (by decide +kernel) ⟨Nat.le_of_ble_eq_true rfl, Nat.le_of_ble_eq_true rfl⟩) ⟨ct_blind hev, va_recv hK hP (ci := 5) (q0 := 0) rfl rfl, ct_pre hev hP hK hD hS hA hE [0, 1, 2] rfl (by decide) [0, 1] rfl⟩ rfl rfl hl.1 rfl (lv_room (Nat.le_of_ble_eq_true rfl)) d_Mod_sized10_195 ⟨Nat.le_of_ble_eq_true rfl, Nat.le_of_ble_eq_true rfl⟩) hP hD hS hA [0, 1, 2] [3] rfl rfl (by decide) (by decide) (fun rv u H locs hw hP hD hS hK1 => ?_)
                          obtain ⟨hw, hVn⟩ := hw
                          subst hw
                          obtain ⟨V9, hV9⟩ : ∃ x : Nat → Nat, x = u := ⟨_, rfl⟩
                          rw [← hV9] at hP hD hVn
                          have hP : va_P D vcl [(xx, .inl (cX, 2400, .inl (tx T))), (md, .inr (5, [.ref xx, .int ln, .long R, .int rd, .ref mm, .ref nn, .int at0, .int (nI e)])), (mm, .inl (cM, 3000, .inl (rw16 V9))), (nn, .inl (cN, 3, .inl (rc V9)))] H := hP
                          have hD : va_D A [(xx, .inl (cX, 2400, .inl (tx T))), (md, .inr (5, [.ref xx, .int ln, .long R, .int rd, .ref mm, .ref nn, .int at0, .int (nI e)])), (mm, .inl (cM, 3000, .inl (rw16 V9))), (nn, .inl (cN, 3, .inl (rc V9)))] := hD
                          exact rt_l hx hb hrt hlocks (V9) (⟨by rw [← hM, hw0, hw1, hkE]; rfl, hVn⟩) (hP.sub [1, 2, 3, 0] rfl) (hK.sub [0, 1, 2] rfl) (hD.sub [1, 2, 3, 0] (by decide) rfl) hS d_Mod_sized10_198
                        · have e172 : (k : Int) < -(q - (bh : Int)) := by have := mt (lZ_le (a := -(q - (bh : Int))) (b := (k : Int)) (by omega) (by omega) (by omega) (by omega)).mpr (fun z => c172 ((lg_cmp_ge _ _).mpr z)); omega
                          refine lv_aload_n hx hb d_Mod_sized10_175 rfl (lv_at hl 0 rfl) ?_
                          refine lv_iconst (v := 1) hx hb d_Mod_sized10_176 (by decide) ?_
                          refine tv_i (nI 1) (rfl) ?_
                          refine lv_bipush (v := 10) hx hb d_Mod_sized10_177 (by decide) ?_
                          refine tv_i (nI 10) (rfl) ?_
                          refine lv_iconst (v := 0) hx hb d_Mod_sized10_179 (by decide) ?_
                          refine tv_i (nI 0) (rfl) ?_
                          refine ca_v [(xx, .inl (cX, 2400, .inl (tx T)))] (va_runV (As := [.int (nI 1), .int (nI 10), .int (nI 0)]) (rest := []) ⟨hx, hb, hml, hown, hts⟩ (c_Mod_grow l D E md xx mm nn cM cN Wv ln rd at0 (nI e) R 1 10 0 (by decide) (by decide) (by decide) (hokW 1 (by decide)) H.size) (xV 3 hts kC_Mod_grow kM_Mod_26 kI_Mod_grow kS_Mod_grow kN_Mod rfl rfl (by decide +kernel) ⟨Nat.le_of_ble_eq_true rfl, Nat.le_of_ble_eq_true rfl⟩) ⟨ct_blind hev, va_recv hK hP (ci := 5) (q0 := 0) rfl rfl, ct_pre hev hP hK hD hS hA hE [0, 1, 2] rfl (by decide) [0, 1] rfl⟩ rfl rfl hl.1 rfl (lv_room (Nat.le_of_ble_eq_true rfl)) d_Mod_sized10_180 ⟨Nat.le_of_ble_eq_true rfl, Nat.le_of_ble_eq_true rfl⟩) hP hD hS hA [0, 1, 2] [3] rfl rfl (by decide) (by decide) (fun u H locs hw hP hD hS hK1 => ?_)
                          have hP : va_P D vcl [(xx, .inl (cX, 2400, .inl (tx T))), (md, .inr (5, [.ref xx, .int ln, .long R, .int rd, .ref mm, .ref nn, .int at0, .int (nI e)])), (mm, .inl (cM, 3000, .inl (rw16 (upR Wv 1 (Wv 1 * 10 + 0))))), (nn, .inl (cN, 3, .inl (rc (upR Wv 1 (Wv 1 * 10 + 0)))))] H := hP
                          have hD : va_D A [(xx, .inl (cX, 2400, .inl (tx T))), (md, .inr (5, [.ref xx, .int ln, .long R, .int rd, .ref mm, .ref nn, .int at0, .int (nI e)])), (mm, .inl (cM, 3000, .inl (rw16 (upR Wv 1 (Wv 1 * 10 + 0))))), (nn, .inl (cN, 3, .inl (rc (upR Wv 1 (Wv 1 * 10 + 0)))))] := hD
                          refine lv_lload hx hb d_Mod_sized10_183 (lv_at hl 6 rfl) ?_
                          refine lv_lconst (v := 1) hx hb d_Mod_sized10_185 (by decide) ?_
                          refine lv_ladd hx hb d_Mod_sized10_186 ?_
                          refine tv_l (lZ ((k + 1 : Nat) : Int)) (by show lZ _ + lZ 1 = _; rw [lZ_add]; exact congrArg lZ (by omega)) ?_
                          refine lv_lstore (lv' := [(12, .long (lZ ((k + 1 : Nat) : Int))), (0, .ref md), (2, .int (nI pt)), (3, .int (nI bh)), (4, .long (lZ q)), (6, .int wd), (10, .long (lZ (q - (bh : Int))))]) hx hb d_Mod_sized10_187 hl (by decide) rfl (fun ls hl => ?_)
                          refine lv_goto (tgt := 166) hx hb d_Mod_sized10_189 (by decide) ?_
                          have hz3 : (upR Wv 1 (Wv 1 * 10 + 0)) 1 = 10 ^ (k + 1) := by rw [upR_s, hw1, Nat.add_zero, ← Nat.pow_succ]
                          exact ih (k + 1) (upR Wv 1 (Wv 1 * 10 + 0)) (by omega) (by omega) (by rw [upR_n (by decide)]; exact hw0) (hz3) (okV_up hokW (by have h9 := hz3; rw [upR_s] at h9; rw [h9]; exact bdB (by omega))) _ _ _ (hP.sub [1, 2, 3, 0] rfl) (hD.sub [1, 2, 3, 0] (by decide) rfl) hS (lv_sub hl [1, 2, 3, 4, 5, 6, 0] rfl)
                    exact L166 ((-(q - (bh : Int))).toNat + 1) 0 Wv (by omega) (Nat.zero_le _) (by rw [hw0]; exact congrArg (fun x => M * 10 ^ x) (by omega)) (hw1) (hokW) _ _ _ (hP.sub [0, 1, 2, 3] rfl) (hD.sub [0, 1, 2, 3] (by decide) rfl) hS (lv_sub hl [1, 2, 3, 4, 5, 6, 0] rfl)
                  · have e143 : (k : Int) < (q - (bh : Int)) := by have := mt (lZ_le (a := (q - (bh : Int))) (b := (k : Int)) (by omega) (by omega) (by omega) (by omega)).mpr (fun z => c143 ((lg_cmp_ge _ _).mpr z)); omega
                    refine lv_aload_n hx hb d_Mod_sized10_146 rfl (lv_at hl 0 rfl) ?_
                    refine lv_iconst (v := 0) hx hb d_Mod_sized10_147 (by decide) ?_
                    refine tv_i (nI 0) (rfl) ?_
                    refine lv_bipush (v := 10) hx hb d_Mod_sized10_148 (by decide) ?_
                    refine tv_i (nI 10) (rfl) ?_
                    refine lv_iconst (v := 0) hx hb d_Mod_sized10_150 (by decide) ?_
                    refine tv_i (nI 0) (rfl) ?_
                    refine ca_v [(xx, .inl (cX, 2400, .inl (tx T)))] (va_runV (As := [.int (nI 0), .int (nI 10), .int (nI 0)]) (rest := []) ⟨hx, hb, hml, hown, hts⟩ (c_Mod_grow l D E md xx mm nn cM cN Wv ln rd at0 (nI e) R 0 10 0 (by decide) (by decide) (by decide) (hokW 0 (by decide)) H.size) (xV 3 hts kC_Mod_grow kM_Mod_26 kI_Mod_grow kS_Mod_grow kN_Mod rfl rfl (by decide +kernel) ⟨Nat.le_of_ble_eq_true rfl, Nat.le_of_ble_eq_true rfl⟩) ⟨ct_blind hev, va_recv hK hP (ci := 5) (q0 := 0) rfl rfl, ct_pre hev hP hK hD hS hA hE [0, 1, 2] rfl (by decide) [0, 1] rfl⟩ rfl rfl hl.1 rfl (lv_room (Nat.le_of_ble_eq_true rfl)) d_Mod_sized10_151 ⟨Nat.le_of_ble_eq_true rfl, Nat.le_of_ble_eq_true rfl⟩) hP hD hS hA [0, 1, 2] [3] rfl rfl (by decide) (by decide) (fun u H locs hw hP hD hS hK1 => ?_)
                    have hP : va_P D vcl [(xx, .inl (cX, 2400, .inl (tx T))), (md, .inr (5, [.ref xx, .int ln, .long R, .int rd, .ref mm, .ref nn, .int at0, .int (nI e)])), (mm, .inl (cM, 3000, .inl (rw16 (upR Wv 0 (Wv 0 * 10 + 0))))), (nn, .inl (cN, 3, .inl (rc (upR Wv 0 (Wv 0 * 10 + 0)))))] H := hP
                    have hD : va_D A [(xx, .inl (cX, 2400, .inl (tx T))), (md, .inr (5, [.ref xx, .int ln, .long R, .int rd, .ref mm, .ref nn, .int at0, .int (nI e)])), (mm, .inl (cM, 3000, .inl (rw16 (upR Wv 0 (Wv 0 * 10 + 0))))), (nn, .inl (cN, 3, .inl (rc (upR Wv 0 (Wv 0 * 10 + 0)))))] := hD
                    refine lv_lload hx hb d_Mod_sized10_154 (lv_at hl 6 rfl) ?_
                    refine lv_lconst (v := 1) hx hb d_Mod_sized10_156 (by decide) ?_
                    refine lv_ladd hx hb d_Mod_sized10_157 ?_
                    refine tv_l (lZ ((k + 1 : Nat) : Int)) (by show lZ _ + lZ 1 = _; rw [lZ_add]; exact congrArg lZ (by omega)) ?_
                    refine lv_lstore (lv' := [(12, .long (lZ ((k + 1 : Nat) : Int))), (0, .ref md), (2, .int (nI pt)), (3, .int (nI bh)), (4, .long (lZ q)), (6, .int wd), (10, .long (lZ (q - (bh : Int))))]) hx hb d_Mod_sized10_158 hl (by decide) rfl (fun ls hl => ?_)
                    refine lv_goto (tgt := 138) hx hb d_Mod_sized10_160 (by decide) ?_
                    have hz3 : (upR Wv 0 (Wv 0 * 10 + 0)) 0 = M * 10 ^ (k + 1) := by rw [upR_s, hw0, Nat.add_zero, Nat.mul_assoc, ← Nat.pow_succ]
                    exact ih (k + 1) (upR Wv 0 (Wv 0 * 10 + 0)) (by omega) (by omega) (hz3) (by rw [upR_n (by decide)]; exact hw1) (okV_up hokW (by have h9 := hz3; rw [upR_s] at h9; rw [h9]; exact bdA (by omega))) _ _ _ (hP.sub [1, 2, 3, 0] rfl) (hD.sub [1, 2, 3, 0] (by decide) rfl) hS (lv_sub hl [1, 2, 3, 4, 5, 6, 0] rfl)
              exact L138 ((q - (bh : Int)).toNat + 1) 0 (upR (upR V 0 (gb 10 T a pt bh)) 1 1) (by omega) (Nat.zero_le _) (by rw [hz0, Nat.pow_zero, Nat.mul_one]) (hz1) (hV2) _ _ _ (hP.sub [0, 1, 2, 3] rfl) (hD.sub [0, 1, 2, 3] (by decide) rfl) hS (lv_sub hl [3, 4, 5, 6, 7, 1, 0] rfl)
            · have e119 : 400 < (cF pt bh fs : Int) + q - bh := by have := mt (lZ_le (a := (cF pt bh fs : Int) + q - bh) (b := 400) (by omega) (by omega) (by omega) (by omega)).mpr (fun z => c119 ((lg_cmp_le _ _).mpr z)); omega
              obtain ⟨hx1, hx2, hx3, hx4⟩ := hMx e99
              refine lv_iload hx hb d_Mod_sized10_122 (lv_at hl 5 rfl) ?_
              refine ca_l [(md, .inr (5, [.ref xx, .int ln, .long R, .int rd, .ref mm, .ref nn, .int at0, .int (nI e)])), (mm, .inl (cM, 3000, .inl (rw16 (upR (upR V 0 (gb 10 T a pt bh)) 1 1)))), (nn, .inl (cN, 3, .inl (rc (upR (upR V 0 (gb 10 T a pt bh)) 1 1)))), (xx, .inl (cX, 2400, .inl (tx T)))] (va_runS (As := [.int wd]) (rest := []) ⟨hx, hb, hml, hown, hts⟩ (c_Mod_infinite l D E wd H.size) (xS 1 hts kC_Mod_infinite kM_Mod_46 kT_Mod_infinite kN_Mod rfl rfl (by decide +kernel) ⟨Nat.le_of_ble_eq_true rfl, Nat.le_of_ble_eq_true rfl⟩) ⟨ct_blind hev, ct_pre hev hP hK hD hS hA hE [] rfl (by decide) [] rfl⟩ rfl rfl hl.1 rfl (lv_room (Nat.le_of_ble_eq_true rfl)) d_Mod_sized10_124 ⟨Nat.le_of_ble_eq_true rfl, Nat.le_of_ble_eq_true rfl⟩) hP hD hS hA [] [0, 1, 2, 3] rfl rfl (by decide) (by decide) (fun rv u H locs hw hP hD hS hK1 => ?_)
              subst hw
              have hP : va_P D vcl [(md, .inr (5, [.ref xx, .int ln, .long R, .int rd, .ref mm, .ref nn, .int at0, .int (nI e)])), (mm, .inl (cM, 3000, .inl (rw16 (upR (upR V 0 (gb 10 T a pt bh)) 1 1)))), (nn, .inl (cN, 3, .inl (rc (upR (upR V 0 (gb 10 T a pt bh)) 1 1)))), (xx, .inl (cX, 2400, .inl (tx T)))] H := hP
              have hD : va_D A [(md, .inr (5, [.ref xx, .int ln, .long R, .int rd, .ref mm, .ref nn, .int at0, .int (nI e)])), (mm, .inl (cM, 3000, .inl (rw16 (upR (upR V 0 (gb 10 T a pt bh)) 1 1)))), (nn, .inl (cN, 3, .inl (rc (upR (upR V 0 (gb 10 T a pt bh)) 1 1)))), (xx, .inl (cX, 2400, .inl (tx T)))] := hD
              exact rt_l hx hb hrt hlocks (upR (upR V 0 (gb 10 T a pt bh)) 1 1) (⟨by rw [← hM, dec_large (N4k i hi) hx3 (by omega), hwd]; exact kf_I i hi, hV2⟩) (hP.sub [0, 1, 2, 3] rfl) (hK.sub [0, 1, 2] rfl) (hD.sub [0, 1, 2, 3] (by decide) rfl) hS d_Mod_sized10_127
          · have e108 : (cF pt bh fs : Int) + q - bh < -400 := by have := mt (lZ_le (a := -400) (b := (cF pt bh fs : Int) + q - bh) (by omega) (by omega) (by omega) (by omega)).mpr (fun z => c108 ((lg_cmp_ge _ _).mpr z)); omega
            obtain ⟨hx1, hx2, hx3, hx4⟩ := hMx e99
            refine lv_lconst (v := 0) hx hb d_Mod_sized10_111 (by decide) ?_
            exact rt_l hx hb hrt hlocks (upR (upR V 0 (gb 10 T a pt bh)) 1 1) (⟨by rw [← hM, dec_small (N3k i hi) hx4 (by omega)]; rfl, hV2⟩) (hP.sub [0, 1, 2, 3] rfl) (hK.sub [0, 1, 2] rfl) (hD.sub [0, 1, 2, 3] (by decide) rfl) hS d_Mod_sized10_112
      · have e64 : fs < pt := Nat.lt_of_not_le (fun z => c64 ((nI_leI (by omega) (by omega)).mpr z))
        refine lv_iload_n hx hb d_Mod_sized10_67 rfl (lv_at hl 1 rfl) ?_
        refine lv_iload hx hb d_Mod_sized10_68 (lv_at hl 5 rfl) ?_
        refine lv_isub hx hb d_Mod_sized10_70 ?_
        refine tv_i (nI (pt - fs)) (pk_sub (by omega)) ?_
        refine lv_iload_n hx hb d_Mod_sized10_71 rfl (lv_at hl 2 rfl) ?_
        refine lv_iadd hx hb d_Mod_sized10_72 ?_
        refine tv_i (nI (pt - fs + bh)) (nI_add _ _) ?_
        refine tv_i (nI (cF pt bh fs)) (by unfold cF; rw [if_pos e64]) ?_
        refine lv_goto (tgt := 84) hx hb d_Mod_sized10_73 (by decide) ?_
        refine lv_i2l (v := (nI (cF pt bh fs)).toInt64) hx hb d_Mod_sized10_84 (rfl) ?_
        have hcf : cF pt bh fs ≤ 2401 := by unfold cF; split <;> omega
        refine tv_l (lZ (cF pt bh fs : Int)) (lZ_nI (by omega)) ?_
        refine lv_lload hx hb d_Mod_sized10_85 (lv_at hl 3 rfl) ?_
        refine lv_ladd hx hb d_Mod_sized10_87 ?_
        refine tv_l (lZ ((cF pt bh fs : Int) + q)) (lZ_add _ _) ?_
        refine lv_iload_n hx hb d_Mod_sized10_88 rfl (lv_at hl 2 rfl) ?_
        refine lv_i2l (v := (nI bh).toInt64) hx hb d_Mod_sized10_89 (rfl) ?_
        refine tv_l (lZ (bh : Int)) (lZ_nI (by omega)) ?_
        refine lv_lsub hx hb d_Mod_sized10_90 ?_
        refine tv_l (lZ ((cF pt bh fs : Int) + q - bh)) (lZ_sub _ _) ?_
        refine lv_lstore (lv' := [(8, .long (lZ ((cF pt bh fs : Int) + q - bh))), (0, .ref md), (2, .int (nI pt)), (3, .int (nI bh)), (4, .long (lZ q)), (6, .int wd), (7, .int (nI fs))]) hx hb d_Mod_sized10_91 hl (by decide) rfl (fun ls hl => ?_)
        refine lv_aload_n hx hb d_Mod_sized10_93 rfl (lv_at hl 1 rfl) ?_
        refine va_get (D := D) (ci := 5) (v := .ref nn) (C := R_Mod) (T := F_Mod) (N := 8) hx hb hts w_Mod hown hK hP 0 rfl rfl 5 (by decide) (hts _ kF_Mod_16) (fun _ h9 => h9) rfl d_Mod_sized10_94 ?_
        refine lv_iconst (v := 0) hx hb d_Mod_sized10_97 (by decide) ?_
        refine tv_i (nI 0) (rfl) ?_
        refine va_iald hx hb hK hP 2 1 rfl rfl (i := nI 0) (vp_in_nI (show 0 < 3 by decide) (by decide)) d_Mod_sized10_98 ?_
        refine tv_i (nI (lc M)) (by rw [nI_clamp (by decide)]; show nI (lc ((upR (upR V 0 (gb 10 T a pt bh)) 1 1) 0)) = _; rw [hz0]) ?_
        refine lv_if_eq (tgt := 111) hx hb d_Mod_sized10_99 (by decide) (fun c99 => ?_) (fun c99 => ?_)
        · have e99 : M = 0 := lc_0.mp ((nI_eq0 (by have := lc_b hMb; omega)).mp c99)
          refine lv_lconst (v := 0) hx hb d_Mod_sized10_111 (by decide) ?_
          exact rt_l hx hb hrt hlocks (upR (upR V 0 (gb 10 T a pt bh)) 1 1) (⟨by rw [← hM, e99, dec_0]; rfl, hV2⟩) (hP.sub [0, 1, 2, 3] rfl) (hK.sub [0, 1, 2] rfl) (hD.sub [0, 1, 2, 3] (by decide) rfl) hS d_Mod_sized10_112
        · have e99 : M ≠ 0 := fun z => c99 (by rw [z]; rfl)
          refine lv_lload hx hb d_Mod_sized10_102 (lv_at hl 0 rfl) ?_
          refine lv_ldc2 hx hb hown (hts _ kK_Mod_155) d_Mod_sized10_104 ?_
          refine tv_l (lZ (-400)) (by decide) ?_
          refine W.lcmp hx hb d_Mod_sized10_107 ?_
          refine lv_if_ge (tgt := 113) hx hb d_Mod_sized10_108 (by decide) (fun c108 => ?_) (fun c108 => ?_)
          · have e108 : -400 ≤ (cF pt bh fs : Int) + q - bh := (lZ_le (by omega) (by omega) (by omega) (by omega)).mp ((lg_cmp_ge _ _).mp c108)
            refine lv_lload hx hb d_Mod_sized10_113 (lv_at hl 0 rfl) ?_
            refine lv_ldc2 hx hb hown (hts _ kK_Mod_157) d_Mod_sized10_115 ?_
            refine tv_l (lZ 400) (by decide) ?_
            refine W.lcmp hx hb d_Mod_sized10_118 ?_
            refine lv_if_le (tgt := 128) hx hb d_Mod_sized10_119 (by decide) (fun c119 => ?_) (fun c119 => ?_)
            · have e119 : (cF pt bh fs : Int) + q - bh ≤ 400 := (lZ_le (by omega) (by omega) (by omega) (by omega)).mp ((lg_cmp_le _ _).mp c119)
              obtain ⟨hx1, hx2, hx3, hx4⟩ := hMx e99
              have bdA0 : ∀ x : Nat, x ≤ (q - (bh : Int)).toNat → bln (M * 10 ^ x) ≤ 9700 := by
                intro x hx
                refine bit10 (e := cF pt bh fs + x) ?_ (by omega)
                rw [Nat.pow_add]
                exact Nat.mul_lt_mul_of_pos_right hx4 (ten_pos x)
              have bdA : ∀ {x : Nat}, x ≤ (q - (bh : Int)).toNat → lc (M * 10 ^ x) ≤ 999 := fun {x} hx => Nat.le_trans (lc_b (bdA0 x hx)) (by decide)
              have bdB0 : ∀ x : Nat, x ≤ (-(q - (bh : Int))).toNat → bln (10 ^ x) ≤ 9700 := by
                intro x hx
                refine bit10 (e := x + 1) ?_ (by omega)
                exact Nat.pow_lt_pow_right (by decide) (by omega)
              have bdB : ∀ {x : Nat}, x ≤ (-(q - (bh : Int))).toNat → lc (10 ^ x) ≤ 999 := fun {x} hx => Nat.le_trans (lc_b (bdB0 x hx)) (by decide)
              refine lv_lload hx hb d_Mod_sized10_128 (lv_at hl 4 rfl) ?_
              refine lv_iload_n hx hb d_Mod_sized10_130 rfl (lv_at hl 3 rfl) ?_
              refine lv_i2l (v := (nI bh).toInt64) hx hb d_Mod_sized10_131 (rfl) ?_
              refine tv_l (lZ (bh : Int)) (lZ_nI (by omega)) ?_
              refine lv_lsub hx hb d_Mod_sized10_132 ?_
              refine tv_l (lZ (q - (bh : Int))) (lZ_sub _ _) ?_
              refine lv_lstore (lv' := [(10, .long (lZ (q - (bh : Int)))), (8, .long (lZ ((cF pt bh fs : Int) + q - bh))), (0, .ref md), (2, .int (nI pt)), (3, .int (nI bh)), (4, .long (lZ q)), (6, .int wd), (7, .int (nI fs))]) hx hb d_Mod_sized10_133 hl (by decide) rfl (fun ls hl => ?_)
              refine lv_lconst (v := 0) hx hb d_Mod_sized10_135 (by decide) ?_
              refine tv_l (lZ ((0 : Nat) : Int)) (by decide) ?_
              refine lv_lstore (lv' := [(12, .long (lZ ((0 : Nat) : Int))), (10, .long (lZ (q - (bh : Int)))), (8, .long (lZ ((cF pt bh fs : Int) + q - bh))), (0, .ref md), (2, .int (nI pt)), (3, .int (nI bh)), (4, .long (lZ q)), (6, .int wd), (7, .int (nI fs))]) hx hb d_Mod_sized10_136 hl (by decide) rfl (fun ls hl => ?_)
              have L138 : ∀ (kk : Nat) (k : Nat) (Wv : Nat → Nat), (q - (bh : Int)).toNat - k < kk → (k ≤ (q - (bh : Int)).toNat) → (Wv 0 = M * 10 ^ k) → (Wv 1 = 1) → (okV Wv) → ∀ (H : Heap) (locs : List Loc) (ls : Array Slot), va_P D vcl [(md, .inr (5, [.ref xx, .int ln, .long R, .int rd, .ref mm, .ref nn, .int at0, .int (nI e)])), (mm, .inl (cM, 3000, .inl (rw16 Wv))), (nn, .inl (cN, 3, .inl (rc Wv))), (xx, .inl (cX, 2400, .inl (tx T)))] H → va_D A [(md, .inr (5, [.ref xx, .int ln, .long R, .int rd, .ref mm, .ref nn, .int at0, .int (nI e)])), (mm, .inl (cM, 3000, .inl (rw16 Wv))), (nn, .inl (cN, 3, .inl (rc Wv))), (xx, .inl (cX, 2400, .inl (tx T)))] → va_S A s.heap H locs → lv_has ls 14 [(0, .ref md), (2, .int (nI pt)), (3, .int (nI bh)), (4, .long (lZ q)), (6, .int wd), (10, .long (lZ (q - (bh : Int)))), (12, .long (lZ (k : Int)))] → W p l ee ({ frames := 4, cells := 0, slots := 0, locals := 114 }) s m ([.ref md, .int (nI a), .int (nI pt), .int (nI bh), .long (lZ q), .int wd] : List Value).toArray below meth cde H locs 0 0 (MQ below (va_Ql (S := (Nat → Nat)) (fun (w : Int64) (V' : Nat → Nat) => w = lN (dec (kP i) (kZ i) (kLw i) (gb 10 T a pt bh) (q - (bh : Int))) ∧ okV V') (fun u tS => ctB D vcl ((fun _ => [(cM, .int), (cN, .int), (cX, .int)]) u) ((fun V' : Nat → Nat => [(md, .inr (5, [.ref xx, .int ln, .long R, .int rd, .ref mm, .ref nn, .int at0, .int (nI e)])), (mm, .inl (cM, 3000, .inl (rw16 V'))), (nn, .inl (cN, 3, .inl (rc V'))), (xx, .inl (cX, 2400, .inl (tx T)))]) u) A tS) A) ([.ref md, .int (nI a), .int (nI pt), .int (nI bh), .long (lZ q), .int wd] : List Value).toArray s 0 0 A) (F0 m 138 ls []) := by
                intro kk
                induction kk with
                | zero => intro k Wv hmz; exact absurd hmz (Nat.not_lt_zero _)
                | succ kk ih =>
                  intro k Wv hmz hk hw0 hw1 hokW H locs ls hP hD hS hl
                  refine lv_lload hx hb d_Mod_sized10_138 (lv_at hl 6 rfl) ?_
                  refine lv_lload hx hb d_Mod_sized10_140 (lv_at hl 5 rfl) ?_
                  refine W.lcmp hx hb d_Mod_sized10_142 ?_
                  refine lv_if_ge (tgt := 163) hx hb d_Mod_sized10_143 (by decide) (fun c143 => ?_) (fun c143 => ?_)
                  · have e143 : (q - (bh : Int)) ≤ k := (lZ_le (by omega) (by omega) (by omega) (by omega)).mp ((lg_cmp_ge _ _).mp c143)
                    refine lv_lconst (v := 0) hx hb d_Mod_sized10_163 (by decide) ?_
                    refine tv_l (lZ ((0 : Nat) : Int)) (by decide) ?_
                    refine lv_lstore (lv' := [(12, .long (lZ ((0 : Nat) : Int))), (0, .ref md), (2, .int (nI pt)), (3, .int (nI bh)), (4, .long (lZ q)), (6, .int wd), (10, .long (lZ (q - (bh : Int))))]) hx hb d_Mod_sized10_164 hl (by decide) rfl (fun ls hl => ?_)
                    have L166 : ∀ (kk : Nat) (k : Nat) (Wv : Nat → Nat), (-(q - (bh : Int))).toNat - k < kk → (k ≤ (-(q - (bh : Int))).toNat) → (Wv 0 = M * 10 ^ (q - (bh : Int)).toNat) → (Wv 1 = 10 ^ k) → (okV Wv) → ∀ (H : Heap) (locs : List Loc) (ls : Array Slot), va_P D vcl [(md, .inr (5, [.ref xx, .int ln, .long R, .int rd, .ref mm, .ref nn, .int at0, .int (nI e)])), (mm, .inl (cM, 3000, .inl (rw16 Wv))), (nn, .inl (cN, 3, .inl (rc Wv))), (xx, .inl (cX, 2400, .inl (tx T)))] H → va_D A [(md, .inr (5, [.ref xx, .int ln, .long R, .int rd, .ref mm, .ref nn, .int at0, .int (nI e)])), (mm, .inl (cM, 3000, .inl (rw16 Wv))), (nn, .inl (cN, 3, .inl (rc Wv))), (xx, .inl (cX, 2400, .inl (tx T)))] → va_S A s.heap H locs → lv_has ls 14 [(0, .ref md), (2, .int (nI pt)), (3, .int (nI bh)), (4, .long (lZ q)), (6, .int wd), (10, .long (lZ (q - (bh : Int)))), (12, .long (lZ (k : Int)))] → W p l ee ({ frames := 4, cells := 0, slots := 0, locals := 114 }) s m ([.ref md, .int (nI a), .int (nI pt), .int (nI bh), .long (lZ q), .int wd] : List Value).toArray below meth cde H locs 0 0 (MQ below (va_Ql (S := (Nat → Nat)) (fun (w : Int64) (V' : Nat → Nat) => w = lN (dec (kP i) (kZ i) (kLw i) (gb 10 T a pt bh) (q - (bh : Int))) ∧ okV V') (fun u tS => ctB D vcl ((fun _ => [(cM, .int), (cN, .int), (cX, .int)]) u) ((fun V' : Nat → Nat => [(md, .inr (5, [.ref xx, .int ln, .long R, .int rd, .ref mm, .ref nn, .int at0, .int (nI e)])), (mm, .inl (cM, 3000, .inl (rw16 V'))), (nn, .inl (cN, 3, .inl (rc V'))), (xx, .inl (cX, 2400, .inl (tx T)))]) u) A tS) A) ([.ref md, .int (nI a), .int (nI pt), .int (nI bh), .long (lZ q), .int wd] : List Value).toArray s 0 0 A) (F0 m 166 ls []) := by
                      intro kk
                      induction kk with
                      | zero => intro k Wv hmz; exact absurd hmz (Nat.not_lt_zero _)
                      | succ kk ih =>
                        intro k Wv hmz hk hw0 hw1 hokW H locs ls hP hD hS hl
                        refine lv_lload hx hb d_Mod_sized10_166 (lv_at hl 6 rfl) ?_
                        refine lv_lload hx hb d_Mod_sized10_168 (lv_at hl 5 rfl) ?_
                        refine lv_lneg hx hb d_Mod_sized10_170 ?_
                        refine tv_l (lZ (-(q - (bh : Int)))) (lZ_neg _) ?_
                        refine W.lcmp hx hb d_Mod_sized10_171 ?_
                        refine lv_if_ge (tgt := 192) hx hb d_Mod_sized10_172 (by decide) (fun c172 => ?_) (fun c172 => ?_)
                        · have e172 : -(q - (bh : Int)) ≤ k := (lZ_le (by omega) (by omega) (by omega) (by omega)).mp ((lg_cmp_ge _ _).mp c172)
                          have hkE : k = (-(q - (bh : Int))).toNat := by omega
                          refine lv_aload_n hx hb d_Mod_sized10_192 rfl (lv_at hl 0 rfl) ?_
                          refine lv_iload hx hb d_Mod_sized10_193 (lv_at hl 4 rfl) ?_
                          refine ca_l [(xx, .inl (cX, 2400, .inl (tx T)))] (va_runV (As := [.int wd]) (rest := []) ⟨hx, hb, hml, hown, hts⟩ (c_Mod_nearest l D E md xx mm nn cM cN Wv ln rd at0 (nI e) R i (hi) wd (hwd) (by rw [hw1]; exact Nat.pos_iff_ne_zero.mp (ten_pos k)) (hokW) (by rw [hw0]; exact Nat.le_trans (bdA0 _ (Nat.le_refl _)) (by decide)) (by rw [hw1]; exact Nat.le_trans (bdB0 _ hk) (by decide)) H.size) (xV 1 hts kC_Mod_nearest kM_Mod_152 kI_Mod_nearest kS_Mod_nearest kN_Mod rfl rfl (by decide +kernel) ⟨Nat.le_of_ble_eq_true rfl, Nat.le_of_ble_eq_true rfl⟩) ⟨ct_blind hev, va_recv hK hP (ci := 5) (q0 := 0) rfl rfl, ct_pre hev hP hK hD hS hA hE [0, 1, 2] rfl (by decide) [0, 1] rfl⟩ rfl rfl hl.1 rfl (lv_room (Nat.le_of_ble_eq_true rfl)) d_Mod_sized10_195 ⟨Nat.le_of_ble_eq_true rfl, Nat.le_of_ble_eq_true rfl⟩) hP hD hS hA [0, 1, 2] [3] rfl rfl (by decide) (by decide) (fun rv u H locs hw hP hD hS hK1 => ?_)
                          obtain ⟨hw, hVn⟩ := hw
                          subst hw
                          obtain ⟨V9, hV9⟩ : ∃ x : Nat → Nat, x = u := ⟨_, rfl⟩
                          rw [← hV9] at hP hD hVn
                          have hP : va_P D vcl [(xx, .inl (cX, 2400, .inl (tx T))), (md, .inr (5, [.ref xx, .int ln, .long R, .int rd, .ref mm, .ref nn, .int at0, .int (nI e)])), (mm, .inl (cM, 3000, .inl (rw16 V9))), (nn, .inl (cN, 3, .inl (rc V9)))] H := hP
                          have hD : va_D A [(xx, .inl (cX, 2400, .inl (tx T))), (md, .inr (5, [.ref xx, .int ln, .long R, .int rd, .ref mm, .ref nn, .int at0, .int (nI e)])), (mm, .inl (cM, 3000, .inl (rw16 V9))), (nn, .inl (cN, 3, .inl (rc V9)))] := hD
                          exact rt_l hx hb hrt hlocks (V9) (⟨by rw [← hM, hw0, hw1, hkE]; rfl, hVn⟩) (hP.sub [1, 2, 3, 0] rfl) (hK.sub [0, 1, 2] rfl) (hD.sub [1, 2, 3, 0] (by decide) rfl) hS d_Mod_sized10_198
                        · have e172 : (k : Int) < -(q - (bh : Int)) := by have := mt (lZ_le (a := -(q - (bh : Int))) (b := (k : Int)) (by omega) (by omega) (by omega) (by omega)).mpr (fun z => c172 ((lg_cmp_ge _ _).mpr z)); omega
                          refine lv_aload_n hx hb d_Mod_sized10_175 rfl (lv_at hl 0 rfl) ?_
                          refine lv_iconst (v := 1) hx hb d_Mod_sized10_176 (by decide) ?_
                          refine tv_i (nI 1) (rfl) ?_
                          refine lv_bipush (v := 10) hx hb d_Mod_sized10_177 (by decide) ?_
                          refine tv_i (nI 10) (rfl) ?_
                          refine lv_iconst (v := 0) hx hb d_Mod_sized10_179 (by decide) ?_
                          refine tv_i (nI 0) (rfl) ?_
                          refine ca_v [(xx, .inl (cX, 2400, .inl (tx T)))] (va_runV (As := [.int (nI 1), .int (nI 10), .int (nI 0)]) (rest := []) ⟨hx, hb, hml, hown, hts⟩ (c_Mod_grow l D E md xx mm nn cM cN Wv ln rd at0 (nI e) R 1 10 0 (by decide) (by decide) (by decide) (hokW 1 (by decide)) H.size) (xV 3 hts kC_Mod_grow kM_Mod_26 kI_Mod_grow kS_Mod_grow kN_Mod rfl rfl (by decide +kernel) ⟨Nat.le_of_ble_eq_true rfl, Nat.le_of_ble_eq_true rfl⟩) ⟨ct_blind hev, va_recv hK hP (ci := 5) (q0 := 0) rfl rfl, ct_pre hev hP hK hD hS hA hE [0, 1, 2] rfl (by decide) [0, 1] rfl⟩ rfl rfl hl.1 rfl (lv_room (Nat.le_of_ble_eq_true rfl)) d_Mod_sized10_180 ⟨Nat.le_of_ble_eq_true rfl, Nat.le_of_ble_eq_true rfl⟩) hP hD hS hA [0, 1, 2] [3] rfl rfl (by decide) (by decide) (fun u H locs hw hP hD hS hK1 => ?_)
                          have hP : va_P D vcl [(xx, .inl (cX, 2400, .inl (tx T))), (md, .inr (5, [.ref xx, .int ln, .long R, .int rd, .ref mm, .ref nn, .int at0, .int (nI e)])), (mm, .inl (cM, 3000, .inl (rw16 (upR Wv 1 (Wv 1 * 10 + 0))))), (nn, .inl (cN, 3, .inl (rc (upR Wv 1 (Wv 1 * 10 + 0)))))] H := hP
                          have hD : va_D A [(xx, .inl (cX, 2400, .inl (tx T))), (md, .inr (5, [.ref xx, .int ln, .long R, .int rd, .ref mm, .ref nn, .int at0, .int (nI e)])), (mm, .inl (cM, 3000, .inl (rw16 (upR Wv 1 (Wv 1 * 10 + 0))))), (nn, .inl (cN, 3, .inl (rc (upR Wv 1 (Wv 1 * 10 + 0)))))] := hD
                          refine lv_lload hx hb d_Mod_sized10_183 (lv_at hl 6 rfl) ?_
                          refine lv_lconst (v := 1) hx hb d_Mod_sized10_185 (by decide) ?_
                          refine lv_ladd hx hb d_Mod_sized10_186 ?_
                          refine tv_l (lZ ((k + 1 : Nat) : Int)) (by show lZ _ + lZ 1 = _; rw [lZ_add]; exact congrArg lZ (by omega)) ?_
                          refine lv_lstore (lv' := [(12, .long (lZ ((k + 1 : Nat) : Int))), (0, .ref md), (2, .int (nI pt)), (3, .int (nI bh)), (4, .long (lZ q)), (6, .int wd), (10, .long (lZ (q - (bh : Int))))]) hx hb d_Mod_sized10_187 hl (by decide) rfl (fun ls hl => ?_)
                          refine lv_goto (tgt := 166) hx hb d_Mod_sized10_189 (by decide) ?_
                          have hz3 : (upR Wv 1 (Wv 1 * 10 + 0)) 1 = 10 ^ (k + 1) := by rw [upR_s, hw1, Nat.add_zero, ← Nat.pow_succ]
                          exact ih (k + 1) (upR Wv 1 (Wv 1 * 10 + 0)) (by omega) (by omega) (by rw [upR_n (by decide)]; exact hw0) (hz3) (okV_up hokW (by have h9 := hz3; rw [upR_s] at h9; rw [h9]; exact bdB (by omega))) _ _ _ (hP.sub [1, 2, 3, 0] rfl) (hD.sub [1, 2, 3, 0] (by decide) rfl) hS (lv_sub hl [1, 2, 3, 4, 5, 6, 0] rfl)
                    exact L166 ((-(q - (bh : Int))).toNat + 1) 0 Wv (by omega) (Nat.zero_le _) (by rw [hw0]; exact congrArg (fun x => M * 10 ^ x) (by omega)) (hw1) (hokW) _ _ _ (hP.sub [0, 1, 2, 3] rfl) (hD.sub [0, 1, 2, 3] (by decide) rfl) hS (lv_sub hl [1, 2, 3, 4, 5, 6, 0] rfl)
                  · have e143 : (k : Int) < (q - (bh : Int)) := by have := mt (lZ_le (a := (q - (bh : Int))) (b := (k : Int)) (by omega) (by omega) (by omega) (by omega)).mpr (fun z => c143 ((lg_cmp_ge _ _).mpr z)); omega
                    refine lv_aload_n hx hb d_Mod_sized10_146 rfl (lv_at hl 0 rfl) ?_
                    refine lv_iconst (v := 0) hx hb d_Mod_sized10_147 (by decide) ?_
                    refine tv_i (nI 0) (rfl) ?_
                    refine lv_bipush (v := 10) hx hb d_Mod_sized10_148 (by decide) ?_
                    refine tv_i (nI 10) (rfl) ?_
                    refine lv_iconst (v := 0) hx hb d_Mod_sized10_150 (by decide) ?_
                    refine tv_i (nI 0) (rfl) ?_
                    refine ca_v [(xx, .inl (cX, 2400, .inl (tx T)))] (va_runV (As := [.int (nI 0), .int (nI 10), .int (nI 0)]) (rest := []) ⟨hx, hb, hml, hown, hts⟩ (c_Mod_grow l D E md xx mm nn cM cN Wv ln rd at0 (nI e) R 0 10 0 (by decide) (by decide) (by decide) (hokW 0 (by decide)) H.size) (xV 3 hts kC_Mod_grow kM_Mod_26 kI_Mod_grow kS_Mod_grow kN_Mod rfl rfl (by decide +kernel) ⟨Nat.le_of_ble_eq_true rfl, Nat.le_of_ble_eq_true rfl⟩) ⟨ct_blind hev, va_recv hK hP (ci := 5) (q0 := 0) rfl rfl, ct_pre hev hP hK hD hS hA hE [0, 1, 2] rfl (by decide) [0, 1] rfl⟩ rfl rfl hl.1 rfl (lv_room (Nat.le_of_ble_eq_true rfl)) d_Mod_sized10_151 ⟨Nat.le_of_ble_eq_true rfl, Nat.le_of_ble_eq_true rfl⟩) hP hD hS hA [0, 1, 2] [3] rfl rfl (by decide) (by decide) (fun u H locs hw hP hD hS hK1 => ?_)
                    have hP : va_P D vcl [(xx, .inl (cX, 2400, .inl (tx T))), (md, .inr (5, [.ref xx, .int ln, .long R, .int rd, .ref mm, .ref nn, .int at0, .int (nI e)])), (mm, .inl (cM, 3000, .inl (rw16 (upR Wv 0 (Wv 0 * 10 + 0))))), (nn, .inl (cN, 3, .inl (rc (upR Wv 0 (Wv 0 * 10 + 0)))))] H := hP
                    have hD : va_D A [(xx, .inl (cX, 2400, .inl (tx T))), (md, .inr (5, [.ref xx, .int ln, .long R, .int rd, .ref mm, .ref nn, .int at0, .int (nI e)])), (mm, .inl (cM, 3000, .inl (rw16 (upR Wv 0 (Wv 0 * 10 + 0))))), (nn, .inl (cN, 3, .inl (rc (upR Wv 0 (Wv 0 * 10 + 0)))))] := hD
                    refine lv_lload hx hb d_Mod_sized10_154 (lv_at hl 6 rfl) ?_
                    refine lv_lconst (v := 1) hx hb d_Mod_sized10_156 (by decide) ?_
                    refine lv_ladd hx hb d_Mod_sized10_157 ?_
                    refine tv_l (lZ ((k + 1 : Nat) : Int)) (by show lZ _ + lZ 1 = _; rw [lZ_add]; exact congrArg lZ (by omega)) ?_
                    refine lv_lstore (lv' := [(12, .long (lZ ((k + 1 : Nat) : Int))), (0, .ref md), (2, .int (nI pt)), (3, .int (nI bh)), (4, .long (lZ q)), (6, .int wd), (10, .long (lZ (q - (bh : Int))))]) hx hb d_Mod_sized10_158 hl (by decide) rfl (fun ls hl => ?_)
                    refine lv_goto (tgt := 138) hx hb d_Mod_sized10_160 (by decide) ?_
                    have hz3 : (upR Wv 0 (Wv 0 * 10 + 0)) 0 = M * 10 ^ (k + 1) := by rw [upR_s, hw0, Nat.add_zero, Nat.mul_assoc, ← Nat.pow_succ]
                    exact ih (k + 1) (upR Wv 0 (Wv 0 * 10 + 0)) (by omega) (by omega) (hz3) (by rw [upR_n (by decide)]; exact hw1) (okV_up hokW (by have h9 := hz3; rw [upR_s] at h9; rw [h9]; exact bdA (by omega))) _ _ _ (hP.sub [1, 2, 3, 0] rfl) (hD.sub [1, 2, 3, 0] (by decide) rfl) hS (lv_sub hl [1, 2, 3, 4, 5, 6, 0] rfl)
              exact L138 ((q - (bh : Int)).toNat + 1) 0 (upR (upR V 0 (gb 10 T a pt bh)) 1 1) (by omega) (Nat.zero_le _) (by rw [hz0, Nat.pow_zero, Nat.mul_one]) (hz1) (hV2) _ _ _ (hP.sub [0, 1, 2, 3] rfl) (hD.sub [0, 1, 2, 3] (by decide) rfl) hS (lv_sub hl [3, 4, 5, 6, 7, 1, 0] rfl)
            · have e119 : 400 < (cF pt bh fs : Int) + q - bh := by have := mt (lZ_le (a := (cF pt bh fs : Int) + q - bh) (b := 400) (by omega) (by omega) (by omega) (by omega)).mpr (fun z => c119 ((lg_cmp_le _ _).mpr z)); omega
              obtain ⟨hx1, hx2, hx3, hx4⟩ := hMx e99
              refine lv_iload hx hb d_Mod_sized10_122 (lv_at hl 5 rfl) ?_
              refine ca_l [(md, .inr (5, [.ref xx, .int ln, .long R, .int rd, .ref mm, .ref nn, .int at0, .int (nI e)])), (mm, .inl (cM, 3000, .inl (rw16 (upR (upR V 0 (gb 10 T a pt bh)) 1 1)))), (nn, .inl (cN, 3, .inl (rc (upR (upR V 0 (gb 10 T a pt bh)) 1 1)))), (xx, .inl (cX, 2400, .inl (tx T)))] (va_runS (As := [.int wd]) (rest := []) ⟨hx, hb, hml, hown, hts⟩ (c_Mod_infinite l D E wd H.size) (xS 1 hts kC_Mod_infinite kM_Mod_46 kT_Mod_infinite kN_Mod rfl rfl (by decide +kernel) ⟨Nat.le_of_ble_eq_true rfl, Nat.le_of_ble_eq_true rfl⟩) ⟨ct_blind hev, ct_pre hev hP hK hD hS hA hE [] rfl (by decide) [] rfl⟩ rfl rfl hl.1 rfl (lv_room (Nat.le_of_ble_eq_true rfl)) d_Mod_sized10_124 ⟨Nat.le_of_ble_eq_true rfl, Nat.le_of_ble_eq_true rfl⟩) hP hD hS hA [] [0, 1, 2, 3] rfl rfl (by decide) (by decide) (fun rv u H locs hw hP hD hS hK1 => ?_)
              subst hw
              have hP : va_P D vcl [(md, .inr (5, [.ref xx, .int ln, .long R, .int rd, .ref mm, .ref nn, .int at0, .int (nI e)])), (mm, .inl (cM, 3000, .inl (rw16 (upR (upR V 0 (gb 10 T a pt bh)) 1 1)))), (nn, .inl (cN, 3, .inl (rc (upR (upR V 0 (gb 10 T a pt bh)) 1 1)))), (xx, .inl (cX, 2400, .inl (tx T)))] H := hP
              have hD : va_D A [(md, .inr (5, [.ref xx, .int ln, .long R, .int rd, .ref mm, .ref nn, .int at0, .int (nI e)])), (mm, .inl (cM, 3000, .inl (rw16 (upR (upR V 0 (gb 10 T a pt bh)) 1 1)))), (nn, .inl (cN, 3, .inl (rc (upR (upR V 0 (gb 10 T a pt bh)) 1 1)))), (xx, .inl (cX, 2400, .inl (tx T)))] := hD
              exact rt_l hx hb hrt hlocks (upR (upR V 0 (gb 10 T a pt bh)) 1 1) (⟨by rw [← hM, dec_large (N4k i hi) hx3 (by omega), hwd]; exact kf_I i hi, hV2⟩) (hP.sub [0, 1, 2, 3] rfl) (hK.sub [0, 1, 2] rfl) (hD.sub [0, 1, 2, 3] (by decide) rfl) hS d_Mod_sized10_127
          · have e108 : (cF pt bh fs : Int) + q - bh < -400 := by have := mt (lZ_le (a := -400) (b := (cF pt bh fs : Int) + q - bh) (by omega) (by omega) (by omega) (by omega)).mpr (fun z => c108 ((lg_cmp_ge _ _).mpr z)); omega
            obtain ⟨hx1, hx2, hx3, hx4⟩ := hMx e99
            refine lv_lconst (v := 0) hx hb d_Mod_sized10_111 (by decide) ?_
            exact rt_l hx hb hrt hlocks (upR (upR V 0 (gb 10 T a pt bh)) 1 1) (⟨by rw [← hM, dec_small (N3k i hi) hx4 (by omega)]; rfl, hV2⟩) (hP.sub [0, 1, 2, 3] rfl) (hK.sub [0, 1, 2] rfl) (hD.sub [0, 1, 2, 3] (by decide) rfl) hS d_Mod_sized10_112
  have L18 : ∀ (kk : Nat) (fs : Nat), pt + 1 + bh - fs < kk → (a ≤ fs) → (fs ≤ pt + 1 + bh) → (zF T a pt fs) → ∀ (H : Heap) (locs : List Loc) (ls : Array Slot), va_P D vcl [(md, .inr (5, [.ref xx, .int ln, .long R, .int rd, .ref mm, .ref nn, .int at0, .int (nI e)])), (mm, .inl (cM, 3000, .inl (rw16 (upR (upR V 0 (gb 10 T a pt bh)) 1 1)))), (nn, .inl (cN, 3, .inl (rc (upR (upR V 0 (gb 10 T a pt bh)) 1 1)))), (xx, .inl (cX, 2400, .inl (tx T)))] H → va_D A [(md, .inr (5, [.ref xx, .int ln, .long R, .int rd, .ref mm, .ref nn, .int at0, .int (nI e)])), (mm, .inl (cM, 3000, .inl (rw16 (upR (upR V 0 (gb 10 T a pt bh)) 1 1)))), (nn, .inl (cN, 3, .inl (rc (upR (upR V 0 (gb 10 T a pt bh)) 1 1)))), (xx, .inl (cX, 2400, .inl (tx T)))] → va_S A s.heap H locs → lv_has ls 14 [(0, .ref md), (2, .int (nI pt)), (3, .int (nI bh)), (4, .long (lZ q)), (6, .int wd), (7, .int (nI fs))] → W p l ee ({ frames := 4, cells := 0, slots := 0, locals := 114 }) s m ([.ref md, .int (nI a), .int (nI pt), .int (nI bh), .long (lZ q), .int wd] : List Value).toArray below meth cde H locs 0 0 (MQ below (va_Ql (S := (Nat → Nat)) (fun (w : Int64) (V' : Nat → Nat) => w = lN (dec (kP i) (kZ i) (kLw i) (gb 10 T a pt bh) (q - (bh : Int))) ∧ okV V') (fun u tS => ctB D vcl ((fun _ => [(cM, .int), (cN, .int), (cX, .int)]) u) ((fun V' : Nat → Nat => [(md, .inr (5, [.ref xx, .int ln, .long R, .int rd, .ref mm, .ref nn, .int at0, .int (nI e)])), (mm, .inl (cM, 3000, .inl (rw16 V'))), (nn, .inl (cN, 3, .inl (rc V'))), (xx, .inl (cX, 2400, .inl (tx T)))]) u) A tS) A) ([.ref md, .int (nI a), .int (nI pt), .int (nI bh), .long (lZ q), .int wd] : List Value).toArray s 0 0 A) (F0 m 18 ls []) := by
    intro kk
    induction kk with
    | zero => intro fs hmz; exact absurd hmz (Nat.not_lt_zero _)
    | succ kk ih =>
      intro fs hmz hf1 hf2 hzf H locs ls hP hD hS hl
      refine lv_iload hx hb d_Mod_sized10_18 (lv_at hl 5 rfl) ?_
      refine lv_iload_n hx hb d_Mod_sized10_20 rfl (lv_at hl 1 rfl) ?_
      refine lv_iconst (v := 1) hx hb d_Mod_sized10_21 (by decide) ?_
      refine lv_iadd hx hb d_Mod_sized10_22 ?_
      refine tv_i (nI (pt + 1)) (nI_1 _) ?_
      refine lv_iload_n hx hb d_Mod_sized10_23 rfl (lv_at hl 2 rfl) ?_
      refine lv_iadd hx hb d_Mod_sized10_24 ?_
      refine tv_i (nI (pt + 1 + bh)) (nI_add _ _) ?_
      refine lv_icmp_ge (tgt := 61) hx hb d_Mod_sized10_25 (by decide) (fun c25 => ?_) (fun c25 => ?_)
      · have e25 : pt + 1 + bh ≤ fs := (nI_leI (by omega) (by omega)).mp c25
        exact L61 1 fs (by decide) (hf1) (hf2) (fun hM0 => by rw [hM] at hM0 ⊢; exact zF_e hf1 hap hzf hf2 hd1 hd2 hM0 (Or.inl (by omega))) _ _ _ (hP.sub [0, 1, 2, 3] rfl) (hD.sub [0, 1, 2, 3] (by decide) rfl) hS (lv_sub hl [0, 1, 2, 3, 4, 5] rfl)
      · have e25 : fs < pt + 1 + bh := Nat.lt_of_not_le (fun z => c25 ((nI_leI (by omega) (by omega)).mpr z))
        refine lv_iload hx hb d_Mod_sized10_28 (lv_at hl 5 rfl) ?_
        refine lv_iload_n hx hb d_Mod_sized10_30 rfl (lv_at hl 1 rfl) ?_
        refine lv_icmp_eq (tgt := 46) hx hb d_Mod_sized10_31 (by decide) (fun c31 => ?_) (fun c31 => ?_)
        · have e31 : fs = pt := (nI_eq (by omega) (by omega)).mp c31
          have hst : fs = pt ∨ T fs = 48 := Or.inl e31
          refine lv_iload hx hb d_Mod_sized10_46 (lv_at hl 5 rfl) ?_
          refine lv_aload_n hx hb d_Mod_sized10_48 rfl (lv_at hl 0 rfl) ?_
          refine va_get (D := D) (ci := 5) (v := .int (nI e)) (C := R_Mod) (T := F_Mod) (N := 8) hx hb hts w_Mod hown hK hP 0 rfl rfl 7 (by decide) (hts _ kF_Mod_78) (fun _ h9 => h9) rfl d_Mod_sized10_49 ?_
          refine lv_icmp_ge (tgt := 61) hx hb d_Mod_sized10_52 (by decide) (fun c52 => ?_) (fun c52 => ?_)
          · have e52 : e ≤ fs := (nI_leI (by omega) (by omega)).mp c52
            exact L61 1 fs (by decide) (hf1) (hf2) (fun hM0 => by rw [hM] at hM0 ⊢; exact zF_e hf1 hap hzf hf2 hd1 hd2 hM0 (Or.inr (Or.inr ⟨e31, by omega⟩))) _ _ _ (hP.sub [0, 1, 2, 3] rfl) (hD.sub [0, 1, 2, 3] (by decide) rfl) hS (lv_sub hl [0, 1, 2, 3, 4, 5] rfl)
          · have e52 : fs < e := Nat.lt_of_not_le (fun z => c52 ((nI_leI (by omega) (by omega)).mpr z))
            refine lv_iinc (v := nI (fs + 1)) (lv' := [(7, .int (nI (fs + 1))), (0, .ref md), (2, .int (nI pt)), (3, .int (nI bh)), (4, .long (lZ q)), (6, .int wd)]) hx hb d_Mod_sized10_55 hl (k := 5) rfl (nI_1 fs) (by decide) rfl (fun ls hl => ?_)
            refine lv_goto (tgt := 18) hx hb d_Mod_sized10_58 (by decide) ?_
            exact ih (fs + 1) (by omega) (by omega) (by omega) (zF_s hf1 hzf hst) _ _ _ (hP.sub [0, 1, 2, 3] rfl) (hD.sub [0, 1, 2, 3] (by decide) rfl) hS (lv_sub hl [1, 2, 3, 4, 5, 0] rfl)
        · have e31 : fs ≠ pt := fun z => c31 (by rw [z])
          have hfe : fs < e := by omega
          refine lv_aload_n hx hb d_Mod_sized10_34 rfl (lv_at hl 0 rfl) ?_
          refine va_get (D := D) (ci := 5) (v := .ref xx) (C := R_Mod) (T := F_Mod) (N := 8) hx hb hts w_Mod hown hK hP 0 rfl rfl 0 (by decide) (hts _ kF_Mod_7) (fun _ h9 => h9) rfl d_Mod_sized10_35 ?_
          refine lv_iload hx hb d_Mod_sized10_38 (lv_at hl 5 rfl) ?_
          refine va_iald hx hb hK hP 3 2 rfl rfl (i := nI fs) (vp_in_nI (show fs < 2400 by omega) (by decide)) d_Mod_sized10_40 ?_
          refine tv_i (nI (T fs)) (by rw [nI_clamp (by omega)]; rfl) ?_
          refine lv_bipush (v := 48) hx hb d_Mod_sized10_41 (by decide) ?_
          refine lv_icmp_ne (tgt := 61) hx hb d_Mod_sized10_43 (by decide) (fun c43 => ?_) (fun c43 => ?_)
          · have e43 : T fs ≠ 48 := fun z => c43 (by rw [z]; rfl)
            exact L61 1 fs (by decide) (hf1) (hf2) (fun hM0 => by rw [hM] at hM0 ⊢; exact zF_e hf1 hap hzf hf2 hd1 hd2 hM0 (Or.inr (Or.inl ⟨e31, e43⟩))) _ _ _ (hP.sub [0, 1, 2, 3] rfl) (hD.sub [0, 1, 2, 3] (by decide) rfl) hS (lv_sub hl [0, 1, 2, 3, 4, 5] rfl)
          · have e43 : T fs = 48 := (nI_eq (b := 48) (by have := hT fs; omega) (by decide)).mp c43
            have hst : fs = pt ∨ T fs = 48 := Or.inr e43
            refine lv_iload hx hb d_Mod_sized10_46 (lv_at hl 5 rfl) ?_
            refine lv_aload_n hx hb d_Mod_sized10_48 rfl (lv_at hl 0 rfl) ?_
            refine va_get (D := D) (ci := 5) (v := .int (nI e)) (C := R_Mod) (T := F_Mod) (N := 8) hx hb hts w_Mod hown hK hP 0 rfl rfl 7 (by decide) (hts _ kF_Mod_78) (fun _ h9 => h9) rfl d_Mod_sized10_49 ?_
            refine lv_icmp_ge (tgt := 61) hx hb d_Mod_sized10_52 (by decide) (fun c52 => ?_) (fun c52 => ?_)
            · exact absurd ((nI_leI (by omega) (by omega)).mp c52) (by omega)
            · have e52 : fs < e := Nat.lt_of_not_le (fun z => c52 ((nI_leI (by omega) (by omega)).mpr z))
              refine lv_iinc (v := nI (fs + 1)) (lv' := [(7, .int (nI (fs + 1))), (0, .ref md), (2, .int (nI pt)), (3, .int (nI bh)), (4, .long (lZ q)), (6, .int wd)]) hx hb d_Mod_sized10_55 hl (k := 5) rfl (nI_1 fs) (by decide) rfl (fun ls hl => ?_)
              refine lv_goto (tgt := 18) hx hb d_Mod_sized10_58 (by decide) ?_
              exact ih (fs + 1) (by omega) (by omega) (by omega) (zF_s hf1 hzf hst) _ _ _ (hP.sub [0, 1, 2, 3] rfl) (hD.sub [0, 1, 2, 3] (by decide) rfl) hS (lv_sub hl [1, 2, 3, 4, 5, 0] rfl)
  refine lv_iload_n hx hb d_Mod_sized10_15 rfl (lv_at hl 1 rfl) ?_
  refine lv_istore (lv' := [(7, .int (nI a)), (0, .ref md), (1, .int (nI a)), (2, .int (nI pt)), (3, .int (nI bh)), (4, .long (lZ q)), (6, .int wd)]) hx hb d_Mod_sized10_16 hl (by decide) rfl (fun ls hl => ?_)
  exact L18 (pt + bh + 2) a (by omega) (Nat.le_refl _) (by omega) (zF_0 hap) _ _ _ (hP.sub [1, 2, 3, 0] rfl) (hD.sub [1, 2, 3, 0] (by decide) rfl) hS (lv_sub hl [1, 3, 4, 5, 6, 0] rfl)
