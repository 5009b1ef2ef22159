theorem d_Mod_load_0 : decode b_Mod_load 0 = .ok (.lload_n 1, 1) := by decide +kernel
theorem d_Mod_load_1 : decode b_Mod_load 1 = .ok (.iload_n 3, 1) := by decide +kernel
theorem d_Mod_load_2 : decode b_Mod_load 2 = .ok (.iconst 1, 1) := by decide +kernel
theorem d_Mod_load_3 : decode b_Mod_load 3 = .ok (.isub, 1) := by decide +kernel
theorem d_Mod_load_4 : decode b_Mod_load 4 = .ok (.lshr, 1) := by decide +kernel
theorem d_Mod_load_5 : decode b_Mod_load 5 = .ok (.lstore 5, 2) := by decide +kernel
theorem d_Mod_load_7 : decode b_Mod_load 7 = .ok (.lload_n 1, 1) := by decide +kernel
theorem d_Mod_load_8 : decode b_Mod_load 8 = .ok (.lconst 1, 1) := by decide +kernel
theorem d_Mod_load_9 : decode b_Mod_load 9 = .ok (.iload_n 3, 1) := by decide +kernel
theorem d_Mod_load_10 : decode b_Mod_load 10 = .ok (.iconst 1, 1) := by decide +kernel
theorem d_Mod_load_11 : decode b_Mod_load 11 = .ok (.isub, 1) := by decide +kernel
theorem d_Mod_load_12 : decode b_Mod_load 12 = .ok (.lshl, 1) := by decide +kernel
theorem d_Mod_load_13 : decode b_Mod_load 13 = .ok (.lconst 1, 1) := by decide +kernel
theorem d_Mod_load_14 : decode b_Mod_load 14 = .ok (.lsub, 1) := by decide +kernel
theorem d_Mod_load_15 : decode b_Mod_load 15 = .ok (.land, 1) := by decide +kernel
theorem d_Mod_load_16 : decode b_Mod_load 16 = .ok (.lstore 7, 2) := by decide +kernel
theorem d_Mod_load_18 : decode b_Mod_load 18 = .ok (.aload_n 0, 1) := by decide +kernel
theorem d_Mod_load_19 : decode b_Mod_load 19 = .ok (.iconst 0, 1) := by decide +kernel
theorem d_Mod_load_20 : decode b_Mod_load 20 = .ok (.lload 5, 2) := by decide +kernel
theorem d_Mod_load_22 : decode b_Mod_load 22 = .ok (.lconst 0, 1) := by decide +kernel
theorem d_Mod_load_23 : decode b_Mod_load 23 = .ok (.lcmp, 1) := by decide +kernel
theorem d_Mod_load_24 : decode b_Mod_load 24 = .ok (.ifCond .ne 8, 3) := by decide +kernel
theorem d_Mod_load_27 : decode b_Mod_load 27 = .ok (.lload 7, 2) := by decide +kernel
theorem d_Mod_load_29 : decode b_Mod_load 29 = .ok (.goto 11, 3) := by decide +kernel
theorem d_Mod_load_32 : decode b_Mod_load 32 = .ok (.lload 7, 2) := by decide +kernel
theorem d_Mod_load_34 : decode b_Mod_load 34 = .ok (.lconst 1, 1) := by decide +kernel
theorem d_Mod_load_35 : decode b_Mod_load 35 = .ok (.iload_n 3, 1) := by decide +kernel
theorem d_Mod_load_36 : decode b_Mod_load 36 = .ok (.iconst 1, 1) := by decide +kernel
theorem d_Mod_load_37 : decode b_Mod_load 37 = .ok (.isub, 1) := by decide +kernel
theorem d_Mod_load_38 : decode b_Mod_load 38 = .ok (.lshl, 1) := by decide +kernel
theorem d_Mod_load_39 : decode b_Mod_load 39 = .ok (.ladd, 1) := by decide +kernel
theorem d_Mod_load_40 : decode b_Mod_load 40 = .ok (.invokevirtual 138, 3) := by decide +kernel
theorem d_Mod_load_43 : decode b_Mod_load 43 = .ok (.aload_n 0, 1) := by decide +kernel
theorem d_Mod_load_44 : decode b_Mod_load 44 = .ok (.iconst 1, 1) := by decide +kernel
theorem d_Mod_load_45 : decode b_Mod_load 45 = .ok (.lconst 1, 1) := by decide +kernel
theorem d_Mod_load_46 : decode b_Mod_load 46 = .ok (.invokevirtual 138, 3) := by decide +kernel
theorem d_Mod_load_49 : decode b_Mod_load 49 = .ok (.lload 5, 2) := by decide +kernel
theorem d_Mod_load_51 : decode b_Mod_load 51 = .ok (.lconst 0, 1) := by decide +kernel
theorem d_Mod_load_52 : decode b_Mod_load 52 = .ok (.lcmp, 1) := by decide +kernel
theorem d_Mod_load_53 : decode b_Mod_load 53 = .ok (.ifCond .ne 9, 3) := by decide +kernel
theorem d_Mod_load_56 : decode b_Mod_load 56 = .ok (.iload 4, 2) := by decide +kernel
theorem d_Mod_load_58 : decode b_Mod_load 58 = .ok (.i2l, 1) := by decide +kernel
theorem d_Mod_load_59 : decode b_Mod_load 59 = .ok (.goto 11, 3) := by decide +kernel
theorem d_Mod_load_62 : decode b_Mod_load 62 = .ok (.iload 4, 2) := by decide +kernel
theorem d_Mod_load_64 : decode b_Mod_load 64 = .ok (.i2l, 1) := by decide +kernel
theorem d_Mod_load_65 : decode b_Mod_load 65 = .ok (.lload 5, 2) := by decide +kernel
theorem d_Mod_load_67 : decode b_Mod_load 67 = .ok (.ladd, 1) := by decide +kernel
theorem d_Mod_load_68 : decode b_Mod_load 68 = .ok (.lconst 1, 1) := by decide +kernel
theorem d_Mod_load_69 : decode b_Mod_load 69 = .ok (.lsub, 1) := by decide +kernel
theorem d_Mod_load_70 : decode b_Mod_load 70 = .ok (.l2i, 1) := by decide +kernel
theorem d_Mod_load_71 : decode b_Mod_load 71 = .ok (.istore 9, 2) := by decide +kernel
theorem d_Mod_load_73 : decode b_Mod_load 73 = .ok (.iload 9, 2) := by decide +kernel
theorem d_Mod_load_75 : decode b_Mod_load 75 = .ok (.ifCond .ge 14, 3) := by decide +kernel
theorem d_Mod_load_78 : decode b_Mod_load 78 = .ok (.aload_n 0, 1) := by decide +kernel
theorem d_Mod_load_79 : decode b_Mod_load 79 = .ok (.iconst 1, 1) := by decide +kernel
theorem d_Mod_load_80 : decode b_Mod_load 80 = .ok (.iload 9, 2) := by decide +kernel
theorem d_Mod_load_82 : decode b_Mod_load 82 = .ok (.ineg, 1) := by decide +kernel
theorem d_Mod_load_83 : decode b_Mod_load 83 = .ok (.invokevirtual 50, 3) := by decide +kernel
theorem d_Mod_load_86 : decode b_Mod_load 86 = .ok (.goto 10, 3) := by decide +kernel
theorem d_Mod_load_89 : decode b_Mod_load 89 = .ok (.aload_n 0, 1) := by decide +kernel
theorem d_Mod_load_90 : decode b_Mod_load 90 = .ok (.iconst 0, 1) := by decide +kernel
theorem d_Mod_load_91 : decode b_Mod_load 91 = .ok (.iload 9, 2) := by decide +kernel
theorem d_Mod_load_93 : decode b_Mod_load 93 = .ok (.invokevirtual 50, 3) := by decide +kernel
theorem d_Mod_load_96 : decode b_Mod_load 96 = .ok (.return_, 1) := by decide +kernel
theorem d_Mod_narrowed_0 : decode b_Mod_narrowed 0 = .ok (.lload_n 1, 1) := by decide +kernel
theorem d_Mod_narrowed_1 : decode b_Mod_narrowed 1 = .ok (.ldc2_w 163, 3) := by decide +kernel
theorem d_Mod_narrowed_4 : decode b_Mod_narrowed 4 = .ok (.land, 1) := by decide +kernel
theorem d_Mod_narrowed_5 : decode b_Mod_narrowed 5 = .ok (.lstore_n 3, 1) := by decide +kernel
theorem d_Mod_narrowed_6 : decode b_Mod_narrowed 6 = .ok (.lload_n 3, 1) := by decide +kernel
theorem d_Mod_narrowed_7 : decode b_Mod_narrowed 7 = .ok (.iconst 1, 1) := by decide +kernel
theorem d_Mod_narrowed_8 : decode b_Mod_narrowed 8 = .ok (.invokestatic 46, 3) := by decide +kernel
theorem d_Mod_narrowed_11 : decode b_Mod_narrowed 11 = .ok (.lcmp, 1) := by decide +kernel
theorem d_Mod_narrowed_12 : decode b_Mod_narrowed 12 = .ok (.ifCond .le 8, 3) := by decide +kernel
theorem d_Mod_narrowed_15 : decode b_Mod_narrowed 15 = .ok (.iconst 0, 1) := by decide +kernel
theorem d_Mod_narrowed_16 : decode b_Mod_narrowed 16 = .ok (.invokestatic 94, 3) := by decide +kernel
theorem d_Mod_narrowed_19 : decode b_Mod_narrowed 19 = .ok (.lreturn, 1) := by decide +kernel
theorem d_Mod_narrowed_20 : decode b_Mod_narrowed 20 = .ok (.lload_n 3, 1) := by decide +kernel
theorem d_Mod_narrowed_21 : decode b_Mod_narrowed 21 = .ok (.iconst 1, 1) := by decide +kernel
theorem d_Mod_narrowed_22 : decode b_Mod_narrowed 22 = .ok (.invokestatic 46, 3) := by decide +kernel
theorem d_Mod_narrowed_25 : decode b_Mod_narrowed 25 = .ok (.lcmp, 1) := by decide +kernel
theorem d_Mod_narrowed_26 : decode b_Mod_narrowed 26 = .ok (.ifCond .ne 23, 3) := by decide +kernel
theorem d_Mod_narrowed_29 : decode b_Mod_narrowed 29 = .ok (.iconst 0, 1) := by decide +kernel
theorem d_Mod_narrowed_30 : decode b_Mod_narrowed 30 = .ok (.invokestatic 46, 3) := by decide +kernel
theorem d_Mod_narrowed_33 : decode b_Mod_narrowed 33 = .ok (.lload_n 1, 1) := by decide +kernel
theorem d_Mod_narrowed_34 : decode b_Mod_narrowed 34 = .ok (.lconst 0, 1) := by decide +kernel
theorem d_Mod_narrowed_35 : decode b_Mod_narrowed 35 = .ok (.lcmp, 1) := by decide +kernel
theorem d_Mod_narrowed_36 : decode b_Mod_narrowed 36 = .ok (.ifCond .ge 7, 3) := by decide +kernel
theorem d_Mod_narrowed_39 : decode b_Mod_narrowed 39 = .ok (.iconst 1, 1) := by decide +kernel
theorem d_Mod_narrowed_40 : decode b_Mod_narrowed 40 = .ok (.goto 4, 3) := by decide +kernel
theorem d_Mod_narrowed_43 : decode b_Mod_narrowed 43 = .ok (.iconst 0, 1) := by decide +kernel
theorem d_Mod_narrowed_44 : decode b_Mod_narrowed 44 = .ok (.iconst 0, 1) := by decide +kernel
theorem d_Mod_narrowed_45 : decode b_Mod_narrowed 45 = .ok (.invokestatic 112, 3) := by decide +kernel
theorem d_Mod_narrowed_48 : decode b_Mod_narrowed 48 = .ok (.lreturn, 1) := by decide +kernel
theorem d_Mod_narrowed_49 : decode b_Mod_narrowed 49 = .ok (.aload_n 0, 1) := by decide +kernel
theorem d_Mod_narrowed_50 : decode b_Mod_narrowed 50 = .ok (.lload_n 3, 1) := by decide +kernel
theorem d_Mod_narrowed_51 : decode b_Mod_narrowed 51 = .ok (.bipush 53, 2) := by decide +kernel
theorem d_Mod_narrowed_53 : decode b_Mod_narrowed 53 = .ok (.sipush (-1074), 3) := by decide +kernel
theorem d_Mod_narrowed_56 : decode b_Mod_narrowed 56 = .ok (.invokevirtual 165, 3) := by decide +kernel
theorem d_Mod_narrowed_59 : decode b_Mod_narrowed 59 = .ok (.aload_n 0, 1) := by decide +kernel
theorem d_Mod_narrowed_60 : decode b_Mod_narrowed 60 = .ok (.iconst 0, 1) := by decide +kernel
theorem d_Mod_narrowed_61 : decode b_Mod_narrowed 61 = .ok (.invokevirtual 152, 3) := by decide +kernel
theorem d_Mod_narrowed_64 : decode b_Mod_narrowed 64 = .ok (.lload_n 1, 1) := by decide +kernel
theorem d_Mod_narrowed_65 : decode b_Mod_narrowed 65 = .ok (.lconst 0, 1) := by decide +kernel
theorem d_Mod_narrowed_66 : decode b_Mod_narrowed 66 = .ok (.lcmp, 1) := by decide +kernel
theorem d_Mod_narrowed_67 : decode b_Mod_narrowed 67 = .ok (.ifCond .ge 7, 3) := by decide +kernel
theorem d_Mod_narrowed_70 : decode b_Mod_narrowed 70 = .ok (.iconst 1, 1) := by decide +kernel
theorem d_Mod_narrowed_71 : decode b_Mod_narrowed 71 = .ok (.goto 4, 3) := by decide +kernel
theorem d_Mod_narrowed_74 : decode b_Mod_narrowed 74 = .ok (.iconst 0, 1) := by decide +kernel
theorem d_Mod_narrowed_75 : decode b_Mod_narrowed 75 = .ok (.iconst 0, 1) := by decide +kernel
theorem d_Mod_narrowed_76 : decode b_Mod_narrowed 76 = .ok (.invokestatic 112, 3) := by decide +kernel
theorem d_Mod_narrowed_79 : decode b_Mod_narrowed 79 = .ok (.lreturn, 1) := by decide +kernel
theorem d_Mod_widened_0 : decode b_Mod_widened 0 = .ok (.lload_n 1, 1) := by decide +kernel
theorem d_Mod_widened_1 : decode b_Mod_widened 1 = .ok (.ldc2_w 169, 3) := by decide +kernel
theorem d_Mod_widened_4 : decode b_Mod_widened 4 = .ok (.land, 1) := by decide +kernel
theorem d_Mod_widened_5 : decode b_Mod_widened 5 = .ok (.lstore_n 3, 1) := by decide +kernel
theorem d_Mod_widened_6 : decode b_Mod_widened 6 = .ok (.lload_n 1, 1) := by decide +kernel
theorem d_Mod_widened_7 : decode b_Mod_widened 7 = .ok (.ldc2_w 40, 3) := by decide +kernel
theorem d_Mod_widened_10 : decode b_Mod_widened 10 = .ok (.land, 1) := by decide +kernel
theorem d_Mod_widened_11 : decode b_Mod_widened 11 = .ok (.lconst 0, 1) := by decide +kernel
theorem d_Mod_widened_12 : decode b_Mod_widened 12 = .ok (.lcmp, 1) := by decide +kernel
theorem d_Mod_widened_13 : decode b_Mod_widened 13 = .ok (.ifCond .eq 7, 3) := by decide +kernel
theorem d_Mod_widened_16 : decode b_Mod_widened 16 = .ok (.iconst 1, 1) := by decide +kernel
theorem d_Mod_widened_17 : decode b_Mod_widened 17 = .ok (.goto 4, 3) := by decide +kernel
theorem d_Mod_widened_20 : decode b_Mod_widened 20 = .ok (.iconst 0, 1) := by decide +kernel
theorem d_Mod_widened_21 : decode b_Mod_widened 21 = .ok (.istore 5, 2) := by decide +kernel
theorem d_Mod_widened_23 : decode b_Mod_widened 23 = .ok (.lload_n 3, 1) := by decide +kernel
theorem d_Mod_widened_24 : decode b_Mod_widened 24 = .ok (.iconst 0, 1) := by decide +kernel
theorem d_Mod_widened_25 : decode b_Mod_widened 25 = .ok (.invokestatic 46, 3) := by decide +kernel
theorem d_Mod_widened_28 : decode b_Mod_widened 28 = .ok (.lcmp, 1) := by decide +kernel
theorem d_Mod_widened_29 : decode b_Mod_widened 29 = .ok (.ifCond .le 8, 3) := by decide +kernel
theorem d_Mod_widened_32 : decode b_Mod_widened 32 = .ok (.iconst 1, 1) := by decide +kernel
theorem d_Mod_widened_33 : decode b_Mod_widened 33 = .ok (.invokestatic 94, 3) := by decide +kernel
theorem d_Mod_widened_36 : decode b_Mod_widened 36 = .ok (.lreturn, 1) := by decide +kernel
theorem d_Mod_widened_37 : decode b_Mod_widened 37 = .ok (.lload_n 3, 1) := by decide +kernel
theorem d_Mod_widened_38 : decode b_Mod_widened 38 = .ok (.iconst 0, 1) := by decide +kernel
theorem d_Mod_widened_39 : decode b_Mod_widened 39 = .ok (.invokestatic 46, 3) := by decide +kernel
theorem d_Mod_widened_42 : decode b_Mod_widened 42 = .ok (.lcmp, 1) := by decide +kernel
theorem d_Mod_widened_43 : decode b_Mod_widened 43 = .ok (.ifCond .ne 14, 3) := by decide +kernel
theorem d_Mod_widened_46 : decode b_Mod_widened 46 = .ok (.iconst 1, 1) := by decide +kernel
theorem d_Mod_widened_47 : decode b_Mod_widened 47 = .ok (.invokestatic 46, 3) := by decide +kernel
theorem d_Mod_widened_50 : decode b_Mod_widened 50 = .ok (.iload 5, 2) := by decide +kernel
theorem d_Mod_widened_52 : decode b_Mod_widened 52 = .ok (.iconst 1, 1) := by decide +kernel
theorem d_Mod_widened_53 : decode b_Mod_widened 53 = .ok (.invokestatic 112, 3) := by decide +kernel
theorem d_Mod_widened_56 : decode b_Mod_widened 56 = .ok (.lreturn, 1) := by decide +kernel
theorem d_Mod_widened_57 : decode b_Mod_widened 57 = .ok (.aload_n 0, 1) := by decide +kernel
theorem d_Mod_widened_58 : decode b_Mod_widened 58 = .ok (.lload_n 3, 1) := by decide +kernel
theorem d_Mod_widened_59 : decode b_Mod_widened 59 = .ok (.bipush 24, 2) := by decide +kernel
theorem d_Mod_widened_61 : decode b_Mod_widened 61 = .ok (.sipush (-149), 3) := by decide +kernel
theorem d_Mod_widened_64 : decode b_Mod_widened 64 = .ok (.invokevirtual 165, 3) := by decide +kernel
theorem d_Mod_widened_67 : decode b_Mod_widened 67 = .ok (.aload_n 0, 1) := by decide +kernel
theorem d_Mod_widened_68 : decode b_Mod_widened 68 = .ok (.iconst 1, 1) := by decide +kernel
theorem d_Mod_widened_69 : decode b_Mod_widened 69 = .ok (.invokevirtual 152, 3) := by decide +kernel
theorem d_Mod_widened_72 : decode b_Mod_widened 72 = .ok (.iload 5, 2) := by decide +kernel
theorem d_Mod_widened_74 : decode b_Mod_widened 74 = .ok (.iconst 1, 1) := by decide +kernel
theorem d_Mod_widened_75 : decode b_Mod_widened 75 = .ok (.invokestatic 112, 3) := by decide +kernel
theorem d_Mod_widened_78 : decode b_Mod_widened 78 = .ok (.lreturn, 1) := by decide +kernel
theorem d_Mod_quotient_0 : decode b_Mod_quotient 0 = .ok (.lload_n 1, 1) := by decide +kernel
theorem d_Mod_quotient_1 : decode b_Mod_quotient 1 = .ok (.lconst 0, 1) := by decide +kernel
theorem d_Mod_quotient_2 : decode b_Mod_quotient 2 = .ok (.lcmp, 1) := by decide +kernel
theorem d_Mod_quotient_3 : decode b_Mod_quotient 3 = .ok (.ifCond .ne 19, 3) := by decide +kernel
theorem d_Mod_quotient_6 : decode b_Mod_quotient 6 = .ok (.lload_n 3, 1) := by decide +kernel
theorem d_Mod_quotient_7 : decode b_Mod_quotient 7 = .ok (.lconst 0, 1) := by decide +kernel
theorem d_Mod_quotient_8 : decode b_Mod_quotient 8 = .ok (.lcmp, 1) := by decide +kernel
theorem d_Mod_quotient_9 : decode b_Mod_quotient 9 = .ok (.ifCond .ne 11, 3) := by decide +kernel
theorem d_Mod_quotient_12 : decode b_Mod_quotient 12 = .ok (.iload 5, 2) := by decide +kernel
theorem d_Mod_quotient_14 : decode b_Mod_quotient 14 = .ok (.invokestatic 94, 3) := by decide +kernel
theorem d_Mod_quotient_17 : decode b_Mod_quotient 17 = .ok (.goto 4, 3) := by decide +kernel
theorem d_Mod_quotient_20 : decode b_Mod_quotient 20 = .ok (.lconst 0, 1) := by decide +kernel
theorem d_Mod_quotient_21 : decode b_Mod_quotient 21 = .ok (.lreturn, 1) := by decide +kernel
theorem d_Mod_quotient_22 : decode b_Mod_quotient 22 = .ok (.lload_n 3, 1) := by decide +kernel
theorem d_Mod_quotient_23 : decode b_Mod_quotient 23 = .ok (.lconst 0, 1) := by decide +kernel
theorem d_Mod_quotient_24 : decode b_Mod_quotient 24 = .ok (.lcmp, 1) := by decide +kernel
theorem d_Mod_quotient_25 : decode b_Mod_quotient 25 = .ok (.ifCond .ne 25, 3) := by decide +kernel
theorem d_Mod_quotient_28 : decode b_Mod_quotient 28 = .ok (.iload 5, 2) := by decide +kernel
theorem d_Mod_quotient_30 : decode b_Mod_quotient 30 = .ok (.invokestatic 46, 3) := by decide +kernel
theorem d_Mod_quotient_33 : decode b_Mod_quotient 33 = .ok (.lload_n 1, 1) := by decide +kernel
theorem d_Mod_quotient_34 : decode b_Mod_quotient 34 = .ok (.lconst 0, 1) := by decide +kernel
theorem d_Mod_quotient_35 : decode b_Mod_quotient 35 = .ok (.lcmp, 1) := by decide +kernel
theorem d_Mod_quotient_36 : decode b_Mod_quotient 36 = .ok (.ifCond .ge 7, 3) := by decide +kernel
theorem d_Mod_quotient_39 : decode b_Mod_quotient 39 = .ok (.iconst 1, 1) := by decide +kernel
theorem d_Mod_quotient_40 : decode b_Mod_quotient 40 = .ok (.goto 4, 3) := by decide +kernel
theorem d_Mod_quotient_43 : decode b_Mod_quotient 43 = .ok (.iconst 0, 1) := by decide +kernel
theorem d_Mod_quotient_44 : decode b_Mod_quotient 44 = .ok (.iload 5, 2) := by decide +kernel
theorem d_Mod_quotient_46 : decode b_Mod_quotient 46 = .ok (.invokestatic 112, 3) := by decide +kernel
theorem d_Mod_quotient_49 : decode b_Mod_quotient 49 = .ok (.lreturn, 1) := by decide +kernel
theorem d_Mod_quotient_50 : decode b_Mod_quotient 50 = .ok (.aload_n 0, 1) := by decide +kernel
theorem d_Mod_quotient_51 : decode b_Mod_quotient 51 = .ok (.iconst 0, 1) := by decide +kernel
theorem d_Mod_quotient_52 : decode b_Mod_quotient 52 = .ok (.lload_n 1, 1) := by decide +kernel
theorem d_Mod_quotient_53 : decode b_Mod_quotient 53 = .ok (.lconst 0, 1) := by decide +kernel
theorem d_Mod_quotient_54 : decode b_Mod_quotient 54 = .ok (.lcmp, 1) := by decide +kernel
theorem d_Mod_quotient_55 : decode b_Mod_quotient 55 = .ok (.ifCond .ge 8, 3) := by decide +kernel
theorem d_Mod_quotient_58 : decode b_Mod_quotient 58 = .ok (.lload_n 1, 1) := by decide +kernel
theorem d_Mod_quotient_59 : decode b_Mod_quotient 59 = .ok (.lneg, 1) := by decide +kernel
theorem d_Mod_quotient_60 : decode b_Mod_quotient 60 = .ok (.goto 4, 3) := by decide +kernel
theorem d_Mod_quotient_63 : decode b_Mod_quotient 63 = .ok (.lload_n 1, 1) := by decide +kernel
theorem d_Mod_quotient_64 : decode b_Mod_quotient 64 = .ok (.invokevirtual 138, 3) := by decide +kernel
theorem d_Mod_quotient_67 : decode b_Mod_quotient 67 = .ok (.aload_n 0, 1) := by decide +kernel
theorem d_Mod_quotient_68 : decode b_Mod_quotient 68 = .ok (.iconst 1, 1) := by decide +kernel
theorem d_Mod_quotient_69 : decode b_Mod_quotient 69 = .ok (.lload_n 3, 1) := by decide +kernel
theorem d_Mod_quotient_70 : decode b_Mod_quotient 70 = .ok (.lconst 0, 1) := by decide +kernel
theorem d_Mod_quotient_71 : decode b_Mod_quotient 71 = .ok (.lcmp, 1) := by decide +kernel
theorem d_Mod_quotient_72 : decode b_Mod_quotient 72 = .ok (.ifCond .ge 8, 3) := by decide +kernel
theorem d_Mod_quotient_75 : decode b_Mod_quotient 75 = .ok (.lload_n 3, 1) := by decide +kernel
theorem d_Mod_quotient_76 : decode b_Mod_quotient 76 = .ok (.lneg, 1) := by decide +kernel
theorem d_Mod_quotient_77 : decode b_Mod_quotient 77 = .ok (.goto 4, 3) := by decide +kernel
theorem d_Mod_quotient_80 : decode b_Mod_quotient 80 = .ok (.lload_n 3, 1) := by decide +kernel
theorem d_Mod_quotient_81 : decode b_Mod_quotient 81 = .ok (.invokevirtual 138, 3) := by decide +kernel
theorem d_Mod_quotient_84 : decode b_Mod_quotient 84 = .ok (.aload_n 0, 1) := by decide +kernel
theorem d_Mod_quotient_85 : decode b_Mod_quotient 85 = .ok (.iload 5, 2) := by decide +kernel
theorem d_Mod_quotient_87 : decode b_Mod_quotient 87 = .ok (.invokevirtual 152, 3) := by decide +kernel
theorem d_Mod_quotient_90 : decode b_Mod_quotient 90 = .ok (.lload_n 1, 1) := by decide +kernel
theorem d_Mod_quotient_91 : decode b_Mod_quotient 91 = .ok (.lconst 0, 1) := by decide +kernel
theorem d_Mod_quotient_92 : decode b_Mod_quotient 92 = .ok (.lcmp, 1) := by decide +kernel
theorem d_Mod_quotient_93 : decode b_Mod_quotient 93 = .ok (.ifCond .ge 7, 3) := by decide +kernel
theorem d_Mod_quotient_96 : decode b_Mod_quotient 96 = .ok (.iconst 1, 1) := by decide +kernel
theorem d_Mod_quotient_97 : decode b_Mod_quotient 97 = .ok (.goto 4, 3) := by decide +kernel
theorem d_Mod_quotient_100 : decode b_Mod_quotient 100 = .ok (.iconst 0, 1) := by decide +kernel
theorem d_Mod_quotient_101 : decode b_Mod_quotient 101 = .ok (.lload_n 3, 1) := by decide +kernel
theorem d_Mod_quotient_102 : decode b_Mod_quotient 102 = .ok (.lconst 0, 1) := by decide +kernel
theorem d_Mod_quotient_103 : decode b_Mod_quotient 103 = .ok (.lcmp, 1) := by decide +kernel
theorem d_Mod_quotient_104 : decode b_Mod_quotient 104 = .ok (.ifCond .ge 7, 3) := by decide +kernel
theorem d_Mod_quotient_107 : decode b_Mod_quotient 107 = .ok (.iconst 1, 1) := by decide +kernel
theorem d_Mod_quotient_108 : decode b_Mod_quotient 108 = .ok (.goto 4, 3) := by decide +kernel
theorem d_Mod_quotient_111 : decode b_Mod_quotient 111 = .ok (.iconst 0, 1) := by decide +kernel
theorem d_Mod_quotient_112 : decode b_Mod_quotient 112 = .ok (.if_icmp .eq 7, 3) := by decide +kernel
theorem d_Mod_quotient_115 : decode b_Mod_quotient 115 = .ok (.iconst 1, 1) := by decide +kernel
theorem d_Mod_quotient_116 : decode b_Mod_quotient 116 = .ok (.goto 4, 3) := by decide +kernel
theorem d_Mod_quotient_119 : decode b_Mod_quotient 119 = .ok (.iconst 0, 1) := by decide +kernel
theorem d_Mod_quotient_120 : decode b_Mod_quotient 120 = .ok (.iload 5, 2) := by decide +kernel
theorem d_Mod_quotient_122 : decode b_Mod_quotient 122 = .ok (.invokestatic 112, 3) := by decide +kernel
theorem d_Mod_quotient_125 : decode b_Mod_quotient 125 = .ok (.lreturn, 1) := by decide +kernel
theorem d_Mod_compare_0 : decode b_Mod_compare 0 = .ok (.iload 5, 2) := by decide +kernel
theorem d_Mod_compare_2 : decode b_Mod_compare 2 = .ok (.ifCond .eq 9, 3) := by decide +kernel
theorem d_Mod_compare_5 : decode b_Mod_compare 5 = .ok (.ldc2_w 163, 3) := by decide +kernel
theorem d_Mod_compare_8 : decode b_Mod_compare 8 = .ok (.goto 6, 3) := by decide +kernel
theorem d_Mod_compare_11 : decode b_Mod_compare 11 = .ok (.ldc2_w 169, 3) := by decide +kernel
theorem d_Mod_compare_14 : decode b_Mod_compare 14 = .ok (.lstore 6, 2) := by decide +kernel
theorem d_Mod_compare_16 : decode b_Mod_compare 16 = .ok (.lload_n 1, 1) := by decide +kernel
theorem d_Mod_compare_17 : decode b_Mod_compare 17 = .ok (.lload 6, 2) := by decide +kernel
theorem d_Mod_compare_19 : decode b_Mod_compare 19 = .ok (.land, 1) := by decide +kernel
theorem d_Mod_compare_20 : decode b_Mod_compare 20 = .ok (.lstore 8, 2) := by decide +kernel
theorem d_Mod_compare_22 : decode b_Mod_compare 22 = .ok (.lload_n 3, 1) := by decide +kernel
theorem d_Mod_compare_23 : decode b_Mod_compare 23 = .ok (.lload 6, 2) := by decide +kernel
theorem d_Mod_compare_25 : decode b_Mod_compare 25 = .ok (.land, 1) := by decide +kernel
theorem d_Mod_compare_26 : decode b_Mod_compare 26 = .ok (.lstore 10, 2) := by decide +kernel
theorem d_Mod_compare_28 : decode b_Mod_compare 28 = .ok (.lload 8, 2) := by decide +kernel
theorem d_Mod_compare_30 : decode b_Mod_compare 30 = .ok (.iload 5, 2) := by decide +kernel
theorem d_Mod_compare_32 : decode b_Mod_compare 32 = .ok (.invokestatic 46, 3) := by decide +kernel
theorem d_Mod_compare_35 : decode b_Mod_compare 35 = .ok (.lcmp, 1) := by decide +kernel
theorem d_Mod_compare_36 : decode b_Mod_compare 36 = .ok (.ifCond .gt 14, 3) := by decide +kernel
theorem d_Mod_compare_39 : decode b_Mod_compare 39 = .ok (.lload 10, 2) := by decide +kernel
theorem d_Mod_compare_41 : decode b_Mod_compare 41 = .ok (.iload 5, 2) := by decide +kernel
theorem d_Mod_compare_43 : decode b_Mod_compare 43 = .ok (.invokestatic 46, 3) := by decide +kernel
theorem d_Mod_compare_46 : decode b_Mod_compare 46 = .ok (.lcmp, 1) := by decide +kernel
theorem d_Mod_compare_47 : decode b_Mod_compare 47 = .ok (.ifCond .le 5, 3) := by decide +kernel
theorem d_Mod_compare_50 : decode b_Mod_compare 50 = .ok (.iconst 2, 1) := by decide +kernel
theorem d_Mod_compare_51 : decode b_Mod_compare 51 = .ok (.ireturn, 1) := by decide +kernel
theorem d_Mod_compare_52 : decode b_Mod_compare 52 = .ok (.iload 5, 2) := by decide +kernel
theorem d_Mod_compare_54 : decode b_Mod_compare 54 = .ok (.ifCond .eq 12, 3) := by decide +kernel
theorem d_Mod_compare_57 : decode b_Mod_compare 57 = .ok (.lload_n 1, 1) := by decide +kernel
theorem d_Mod_compare_58 : decode b_Mod_compare 58 = .ok (.lconst 0, 1) := by decide +kernel
theorem d_Mod_compare_59 : decode b_Mod_compare 59 = .ok (.lcmp, 1) := by decide +kernel
theorem d_Mod_compare_60 : decode b_Mod_compare 60 = .ok (.ifCond .ge 22, 3) := by decide +kernel
theorem d_Mod_compare_63 : decode b_Mod_compare 63 = .ok (.goto 13, 3) := by decide +kernel
theorem d_Mod_compare_66 : decode b_Mod_compare 66 = .ok (.lload_n 1, 1) := by decide +kernel
theorem d_Mod_compare_67 : decode b_Mod_compare 67 = .ok (.ldc2_w 40, 3) := by decide +kernel
theorem d_Mod_compare_70 : decode b_Mod_compare 70 = .ok (.land, 1) := by decide +kernel
theorem d_Mod_compare_71 : decode b_Mod_compare 71 = .ok (.lconst 0, 1) := by decide +kernel
theorem d_Mod_compare_72 : decode b_Mod_compare 72 = .ok (.lcmp, 1) := by decide +kernel
theorem d_Mod_compare_73 : decode b_Mod_compare 73 = .ok (.ifCond .eq 9, 3) := by decide +kernel
theorem d_Mod_compare_76 : decode b_Mod_compare 76 = .ok (.lload 8, 2) := by decide +kernel
theorem d_Mod_compare_78 : decode b_Mod_compare 78 = .ok (.lneg, 1) := by decide +kernel
theorem d_Mod_compare_79 : decode b_Mod_compare 79 = .ok (.goto 5, 3) := by decide +kernel
theorem d_Mod_compare_82 : decode b_Mod_compare 82 = .ok (.lload 8, 2) := by decide +kernel
theorem d_Mod_compare_84 : decode b_Mod_compare 84 = .ok (.lstore 8, 2) := by decide +kernel
theorem d_Mod_compare_86 : decode b_Mod_compare 86 = .ok (.iload 5, 2) := by decide +kernel
theorem d_Mod_compare_88 : decode b_Mod_compare 88 = .ok (.ifCond .eq 12, 3) := by decide +kernel
theorem d_Mod_compare_91 : decode b_Mod_compare 91 = .ok (.lload_n 3, 1) := by decide +kernel
theorem d_Mod_compare_92 : decode b_Mod_compare 92 = .ok (.lconst 0, 1) := by decide +kernel
theorem d_Mod_compare_93 : decode b_Mod_compare 93 = .ok (.lcmp, 1) := by decide +kernel
theorem d_Mod_compare_94 : decode b_Mod_compare 94 = .ok (.ifCond .ge 22, 3) := by decide +kernel
theorem d_Mod_compare_97 : decode b_Mod_compare 97 = .ok (.goto 13, 3) := by decide +kernel
theorem d_Mod_compare_100 : decode b_Mod_compare 100 = .ok (.lload_n 3, 1) := by decide +kernel
theorem d_Mod_compare_101 : decode b_Mod_compare 101 = .ok (.ldc2_w 40, 3) := by decide +kernel
theorem d_Mod_compare_104 : decode b_Mod_compare 104 = .ok (.land, 1) := by decide +kernel
theorem d_Mod_compare_105 : decode b_Mod_compare 105 = .ok (.lconst 0, 1) := by decide +kernel
theorem d_Mod_compare_106 : decode b_Mod_compare 106 = .ok (.lcmp, 1) := by decide +kernel
theorem d_Mod_compare_107 : decode b_Mod_compare 107 = .ok (.ifCond .eq 9, 3) := by decide +kernel
theorem d_Mod_compare_110 : decode b_Mod_compare 110 = .ok (.lload 10, 2) := by decide +kernel
theorem d_Mod_compare_112 : decode b_Mod_compare 112 = .ok (.lneg, 1) := by decide +kernel
theorem d_Mod_compare_113 : decode b_Mod_compare 113 = .ok (.goto 5, 3) := by decide +kernel
theorem d_Mod_compare_116 : decode b_Mod_compare 116 = .ok (.lload 10, 2) := by decide +kernel
theorem d_Mod_compare_118 : decode b_Mod_compare 118 = .ok (.lstore 10, 2) := by decide +kernel
theorem d_Mod_compare_120 : decode b_Mod_compare 120 = .ok (.lload 8, 2) := by decide +kernel
theorem d_Mod_compare_122 : decode b_Mod_compare 122 = .ok (.lload 10, 2) := by decide +kernel
theorem d_Mod_compare_124 : decode b_Mod_compare 124 = .ok (.lcmp, 1) := by decide +kernel
theorem d_Mod_compare_125 : decode b_Mod_compare 125 = .ok (.ifCond .ge 7, 3) := by decide +kernel
theorem d_Mod_compare_128 : decode b_Mod_compare 128 = .ok (.iconst (-1), 1) := by decide +kernel
theorem d_Mod_compare_129 : decode b_Mod_compare 129 = .ok (.goto 16, 3) := by decide +kernel
theorem d_Mod_compare_132 : decode b_Mod_compare 132 = .ok (.lload 8, 2) := by decide +kernel
theorem d_Mod_compare_134 : decode b_Mod_compare 134 = .ok (.lload 10, 2) := by decide +kernel
theorem d_Mod_compare_136 : decode b_Mod_compare 136 = .ok (.lcmp, 1) := by decide +kernel
theorem d_Mod_compare_137 : decode b_Mod_compare 137 = .ok (.ifCond .ne 7, 3) := by decide +kernel
theorem d_Mod_compare_140 : decode b_Mod_compare 140 = .ok (.iconst 0, 1) := by decide +kernel
theorem d_Mod_compare_141 : decode b_Mod_compare 141 = .ok (.goto 4, 3) := by decide +kernel
theorem d_Mod_compare_144 : decode b_Mod_compare 144 = .ok (.iconst 1, 1) := by decide +kernel
theorem d_Mod_compare_145 : decode b_Mod_compare 145 = .ok (.ireturn, 1) := by decide +kernel
theorem d_Mod_length_0 : decode b_Mod_length 0 = .ok (.aload_n 0, 1) := by decide +kernel
theorem d_Mod_length_1 : decode b_Mod_length 1 = .ok (.getfield 74, 3) := by decide +kernel
theorem d_Mod_length_4 : decode b_Mod_length 4 = .ok (.ireturn, 1) := by decide +kernel
theorem d_Mod_bits_0 : decode b_Mod_bits 0 = .ok (.aload_n 0, 1) := by decide +kernel
theorem d_Mod_bits_1 : decode b_Mod_bits 1 = .ok (.getfield 97, 3) := by decide +kernel
theorem d_Mod_bits_4 : decode b_Mod_bits 4 = .ok (.lreturn, 1) := by decide +kernel
theorem d_Mod_readings_0 : decode b_Mod_readings 0 = .ok (.aload_n 0, 1) := by decide +kernel
theorem d_Mod_readings_1 : decode b_Mod_readings 1 = .ok (.getfield 101, 3) := by decide +kernel
theorem d_Mod_readings_4 : decode b_Mod_readings 4 = .ok (.ireturn, 1) := by decide +kernel
theorem d_Mod_keep_0 : decode b_Mod_keep 0 = .ok (.iload_n 1, 1) := by decide +kernel
theorem d_Mod_keep_1 : decode b_Mod_keep 1 = .ok (.ifCond .lt 11, 3) := by decide +kernel
theorem d_Mod_keep_4 : decode b_Mod_keep 4 = .ok (.aload_n 0, 1) := by decide +kernel
theorem d_Mod_keep_5 : decode b_Mod_keep 5 = .ok (.getfield 74, 3) := by decide +kernel
theorem d_Mod_keep_8 : decode b_Mod_keep 8 = .ok (.iload_n 1, 1) := by decide +kernel
theorem d_Mod_keep_9 : decode b_Mod_keep 9 = .ok (.if_icmp .gt 5, 3) := by decide +kernel
theorem d_Mod_keep_12 : decode b_Mod_keep 12 = .ok (.iconst 0, 1) := by decide +kernel
theorem d_Mod_keep_13 : decode b_Mod_keep 13 = .ok (.ireturn, 1) := by decide +kernel
theorem d_Mod_keep_14 : decode b_Mod_keep 14 = .ok (.aload_n 0, 1) := by decide +kernel
theorem d_Mod_keep_15 : decode b_Mod_keep 15 = .ok (.iload_n 1, 1) := by decide +kernel
theorem d_Mod_keep_16 : decode b_Mod_keep 16 = .ok (.putfield 74, 3) := by decide +kernel
theorem d_Mod_keep_19 : decode b_Mod_keep 19 = .ok (.iconst 1, 1) := by decide +kernel
theorem d_Mod_keep_20 : decode b_Mod_keep 20 = .ok (.ireturn, 1) := by decide +kernel
theorem d_Mod_write_0 : decode b_Mod_write 0 = .ok (.iconst 0, 1) := by decide +kernel
theorem d_Mod_write_1 : decode b_Mod_write 1 = .ok (.istore_n 3, 1) := by decide +kernel
theorem d_Mod_write_2 : decode b_Mod_write 2 = .ok (.iconst 0, 1) := by decide +kernel
theorem d_Mod_write_3 : decode b_Mod_write 3 = .ok (.istore 4, 2) := by decide +kernel
theorem d_Mod_write_5 : decode b_Mod_write 5 = .ok (.iload 4, 2) := by decide +kernel
theorem d_Mod_write_7 : decode b_Mod_write 7 = .ok (.bipush 8, 2) := by decide +kernel
theorem d_Mod_write_9 : decode b_Mod_write 9 = .ok (.if_icmp .ge 33, 3) := by decide +kernel
theorem d_Mod_write_12 : decode b_Mod_write 12 = .ok (.iload_n 3, 1) := by decide +kernel
theorem d_Mod_write_13 : decode b_Mod_write 13 = .ok (.lload_n 1, 1) := by decide +kernel
theorem d_Mod_write_14 : decode b_Mod_write 14 = .ok (.bipush 8, 2) := by decide +kernel
theorem d_Mod_write_16 : decode b_Mod_write 16 = .ok (.iload 4, 2) := by decide +kernel
theorem d_Mod_write_18 : decode b_Mod_write 18 = .ok (.imul, 1) := by decide +kernel
theorem d_Mod_write_19 : decode b_Mod_write 19 = .ok (.lshr, 1) := by decide +kernel
theorem d_Mod_write_20 : decode b_Mod_write 20 = .ok (.ldc2_w 72, 3) := by decide +kernel
theorem d_Mod_write_23 : decode b_Mod_write 23 = .ok (.land, 1) := by decide +kernel
theorem d_Mod_write_24 : decode b_Mod_write 24 = .ok (.lconst 0, 1) := by decide +kernel
theorem d_Mod_write_25 : decode b_Mod_write 25 = .ok (.lcmp, 1) := by decide +kernel
theorem d_Mod_write_26 : decode b_Mod_write 26 = .ok (.ifCond .eq 7, 3) := by decide +kernel
theorem d_Mod_write_29 : decode b_Mod_write 29 = .ok (.iconst 1, 1) := by decide +kernel
theorem d_Mod_write_30 : decode b_Mod_write 30 = .ok (.goto 4, 3) := by decide +kernel
theorem d_Mod_write_33 : decode b_Mod_write 33 = .ok (.iconst 0, 1) := by decide +kernel
theorem d_Mod_write_34 : decode b_Mod_write 34 = .ok (.iadd, 1) := by decide +kernel
theorem d_Mod_write_35 : decode b_Mod_write 35 = .ok (.istore_n 3, 1) := by decide +kernel
theorem d_Mod_write_36 : decode b_Mod_write 36 = .ok (.iinc 4 1, 3) := by decide +kernel
theorem d_Mod_write_39 : decode b_Mod_write 39 = .ok (.goto (-34), 3) := by decide +kernel
theorem d_Mod_write_42 : decode b_Mod_write 42 = .ok (.aload_n 0, 1) := by decide +kernel
theorem d_Mod_write_43 : decode b_Mod_write 43 = .ok (.getfield 74, 3) := by decide +kernel
theorem d_Mod_write_46 : decode b_Mod_write 46 = .ok (.iload_n 3, 1) := by decide +kernel
theorem d_Mod_write_47 : decode b_Mod_write 47 = .ok (.iadd, 1) := by decide +kernel
theorem d_Mod_write_48 : decode b_Mod_write 48 = .ok (.sipush 2400, 3) := by decide +kernel
theorem d_Mod_write_51 : decode b_Mod_write 51 = .ok (.if_icmp .le 5, 3) := by decide +kernel
theorem d_Mod_write_54 : decode b_Mod_write 54 = .ok (.iconst 0, 1) := by decide +kernel
theorem d_Mod_write_55 : decode b_Mod_write 55 = .ok (.ireturn, 1) := by decide +kernel
theorem d_Mod_write_56 : decode b_Mod_write 56 = .ok (.bipush 7, 2) := by decide +kernel
theorem d_Mod_write_58 : decode b_Mod_write 58 = .ok (.istore 4, 2) := by decide +kernel
theorem d_Mod_write_60 : decode b_Mod_write 60 = .ok (.iload 4, 2) := by decide +kernel
theorem d_Mod_write_62 : decode b_Mod_write 62 = .ok (.ifCond .lt 49, 3) := by decide +kernel
theorem d_Mod_write_65 : decode b_Mod_write 65 = .ok (.lload_n 1, 1) := by decide +kernel
theorem d_Mod_write_66 : decode b_Mod_write 66 = .ok (.bipush 8, 2) := by decide +kernel
theorem d_Mod_write_68 : decode b_Mod_write 68 = .ok (.iload 4, 2) := by decide +kernel
theorem d_Mod_write_70 : decode b_Mod_write 70 = .ok (.imul, 1) := by decide +kernel
theorem d_Mod_write_71 : decode b_Mod_write 71 = .ok (.lshr, 1) := by decide +kernel
theorem d_Mod_write_72 : decode b_Mod_write 72 = .ok (.ldc2_w 72, 3) := by decide +kernel
theorem d_Mod_write_75 : decode b_Mod_write 75 = .ok (.land, 1) := by decide +kernel
theorem d_Mod_write_76 : decode b_Mod_write 76 = .ok (.l2i, 1) := by decide +kernel
theorem d_Mod_write_77 : decode b_Mod_write 77 = .ok (.istore 5, 2) := by decide +kernel
theorem d_Mod_write_79 : decode b_Mod_write 79 = .ok (.iload 5, 2) := by decide +kernel
theorem d_Mod_write_81 : decode b_Mod_write 81 = .ok (.ifCond .eq 24, 3) := by decide +kernel
theorem d_Mod_write_84 : decode b_Mod_write 84 = .ok (.aload_n 0, 1) := by decide +kernel
theorem d_Mod_write_85 : decode b_Mod_write 85 = .ok (.getfield 7, 3) := by decide +kernel
theorem d_Mod_write_88 : decode b_Mod_write 88 = .ok (.aload_n 0, 1) := by decide +kernel
theorem d_Mod_write_89 : decode b_Mod_write 89 = .ok (.getfield 74, 3) := by decide +kernel
theorem d_Mod_write_92 : decode b_Mod_write 92 = .ok (.iload 5, 2) := by decide +kernel
theorem d_Mod_write_94 : decode b_Mod_write 94 = .ok (.iastore, 1) := by decide +kernel
theorem d_Mod_write_95 : decode b_Mod_write 95 = .ok (.aload_n 0, 1) := by decide +kernel
theorem d_Mod_write_96 : decode b_Mod_write 96 = .ok (.dup, 1) := by decide +kernel
theorem d_Mod_write_97 : decode b_Mod_write 97 = .ok (.getfield 74, 3) := by decide +kernel
theorem d_Mod_write_100 : decode b_Mod_write 100 = .ok (.iconst 1, 1) := by decide +kernel
theorem d_Mod_write_101 : decode b_Mod_write 101 = .ok (.iadd, 1) := by decide +kernel
theorem d_Mod_write_102 : decode b_Mod_write 102 = .ok (.putfield 74, 3) := by decide +kernel
theorem d_Mod_write_105 : decode b_Mod_write 105 = .ok (.iinc 4 (-1), 3) := by decide +kernel
theorem d_Mod_write_108 : decode b_Mod_write 108 = .ok (.goto (-48), 3) := by decide +kernel
theorem d_Mod_write_111 : decode b_Mod_write 111 = .ok (.iconst 1, 1) := by decide +kernel
theorem d_Mod_write_112 : decode b_Mod_write 112 = .ok (.ireturn, 1) := by decide +kernel
set_option maxHeartbeats 4000000 in
set_option maxRecDepth 100000 in
theorem c_Mod_load (l : Launch) (D : va_G) (E : evD) (md xx mm nn : Nat) (cM cN : ClassId) (V : Nat → Nat) (ln rd at0 en0 : Int32) (R : Int64) (i : Nat) (hi : i < 2) (hV : okV V) (sv : Nat) (hs : sv < kIN i) : Cv (S := (Nat → Nat)) l y_Mod_load (wz y_Mod_load b_Mod_load 10 none) ({ frames := 3, cells := 0, slots := 0, locals := 74 }) D vcl (ev1 E) [.ref md, .long (lN sv), .int (nI (kP i)), .int (zI (-(kLw i : Int)))] [(cM, .int), (cN, .int)] [(md, .inr (5, [.ref xx, .int ln, .long R, .int rd, .ref mm, .ref nn, .int at0, .int en0])), (mm, .inl (cM, 3000, .inl (rw16 V))), (nn, .inl (cN, 3, .inl (rc V)))] 0 0 (fun V' : Nat → Nat => okV V' ∧ V' 1 ≠ 0 ∧ bln (V' 0) ≤ 1200 ∧ bln (V' 1) ≤ 1200 ∧ ∀ P Z Lw : Nat, rn P Z (V' 0 * 2 ^ Lw) (V' 1) = frn P Z Lw (ldM i sv) 1 (ldW i sv)) (fun _ => [(cM, .int), (cN, .int)]) (fun V' : Nat → Nat => [(md, .inr (5, [.ref xx, .int ln, .long R, .int rd, .ref mm, .ref nn, .int at0, .int en0])), (mm, .inl (cM, 3000, .inl (rw16 V'))), (nn, .inl (cN, 3, .inl (rc V')))]) := by
  have hev := ev1_ok E
  unfold Cv
  refine ct_of (y := y_Mod_load) (av := [.ref md, .long (lN sv), .int (nI (kP i)), .int (zI (-(kLw i : Int)))]) (cc := b_Mod_load) (maxL := 10) (ret := none) (Qc := fun A => va_Qv (S := (Nat → Nat)) (fun V' : Nat → Nat => okV V' ∧ V' 1 ≠ 0 ∧ bln (V' 0) ≤ 1200 ∧ bln (V' 1) ≤ 1200 ∧ ∀ P Z Lw : Nat, rn P Z (V' 0 * 2 ^ Lw) (V' 1) = frn P Z Lw (ldM i sv) 1 (ldW i sv)) (fun u tS => ctB D vcl ((fun _ => [(cM, .int), (cN, .int)]) u) ((fun V' : Nat → Nat => [(md, .inr (5, [.ref xx, .int ln, .long R, .int rd, .ref mm, .ref nn, .int at0, .int en0])), (mm, .inl (cM, 3000, .inl (rw16 V'))), (nn, .inl (cN, 3, .inl (rc V')))]) u) A tS) A) (by decide) rfl (Nat.le_of_ble_eq_true rfl) ?_
  intro p ee s m below meth cde ls A H locs hx hb hml hrt hlocks hown hin hts hA hP hK hD hS hE hl
  have hown : s.vm.findClass R_Mod = some m.cls := hown
  have hts := wz_g hts
  have hl : lv_has ls 10 [(0, .ref md), (1, .long (lN sv)), (3, .int (nI (kP i))), (4, .int (zI (-(kLw i : Int))))] := hl
  obtain ⟨hi1, hi2, hi3, hi4, hi5, -⟩ := kP_b i hi
  have hs63 : sv < 9223372036854775808 := Nat.lt_trans hs (kIN_63 i hi)
  have hwb := ldW_b hi hs
  have hpq : 2 ^ (kP i - 1) ≤ 2 ^ 52 := two_pow_le (by omega)
  obtain ⟨xq, hxq⟩ : ∃ xq : Nat, xq = sv / 2 ^ (kP i - 1) := ⟨_, rfl⟩
  have hx64 : xq ≤ sv := by rw [hxq]; exact Nat.div_le_self _ _
  refine lv_lload_n hx hb d_Mod_load_0 rfl (lv_at hl 1 rfl) ?_
  refine lv_iload_n hx hb d_Mod_load_1 rfl (lv_at hl 2 rfl) ?_
  refine lv_iconst (v := 1) hx hb d_Mod_load_2 (by decide) ?_
  refine lv_isub hx hb d_Mod_load_3 ?_
  refine tv_i (nI (kP i - 1)) (nI_dec (by omega)) ?_
  refine lv_lshr (v := lN xq) hx hb d_Mod_load_4 (by rw [hxq]; exact sarN (by omega) (by omega)) ?_
  refine lv_lstore (lv' := [(5, .long (lN xq)), (0, .ref md), (1, .long (lN sv)), (3, .int (nI (kP i))), (4, .int (zI (-(kLw i : Int))))]) hx hb d_Mod_load_5 hl (by decide) rfl (fun ls hl => ?_)
  refine lv_lload_n hx hb d_Mod_load_7 rfl (lv_at hl 2 rfl) ?_
  refine lv_lconst (v := 1) hx hb d_Mod_load_8 (by decide) ?_
  refine lv_iload_n hx hb d_Mod_load_9 rfl (lv_at hl 3 rfl) ?_
  refine lv_iconst (v := 1) hx hb d_Mod_load_10 (by decide) ?_
  refine lv_isub hx hb d_Mod_load_11 ?_
  refine tv_i (nI (kP i - 1)) (nI_dec (by omega)) ?_
  refine lv_lshl (v := lN (2 ^ (kP i - 1))) hx hb d_Mod_load_12 (shl1 (by omega)) ?_
  refine lv_lconst (v := 1) hx hb d_Mod_load_13 (by decide) ?_
  refine lv_lsub hx hb d_Mod_load_14 ?_
  refine tv_l (lN (2 ^ (kP i - 1) - 1)) (lN_sub (a := 2 ^ (kP i - 1)) (b := 1) (Nat.two_pow_pos _)) ?_
  refine lv_land hx hb d_Mod_load_15 ?_
  refine tv_l (lN (sv % 2 ^ (kP i - 1))) (wb_mask (by omega) (by omega)) ?_
  refine lv_lstore (lv' := [(7, .long (lN (sv % 2 ^ (kP i - 1)))), (5, .long (lN xq)), (0, .ref md), (1, .long (lN sv)), (3, .int (nI (kP i))), (4, .int (zI (-(kLw i : Int))))]) hx hb d_Mod_load_16 hl (by decide) rfl (fun ls hl => ?_)
  refine lv_aload_n hx hb d_Mod_load_18 rfl (lv_at hl 2 rfl) ?_
  refine lv_iconst (v := 0) hx hb d_Mod_load_19 (by decide) ?_
  refine tv_i (nI 0) (rfl) ?_
  refine lv_lload hx hb d_Mod_load_20 (lv_at hl 1 rfl) ?_
  refine lv_lconst (v := 0) hx hb d_Mod_load_22 (by decide) ?_
  refine W.lcmp hx hb d_Mod_load_23 ?_
  refine lv_if_ne (tgt := 32) hx hb d_Mod_load_24 (by decide) (fun c24 => ?_) (fun c24 => ?_)
  · have e24 : xq ≠ 0 := fun z => c24 ((lg_cmp_eq _ _).mpr (by rw [z]; rfl))
    refine lv_lload hx hb d_Mod_load_32 (lv_at hl 0 rfl) ?_
    refine lv_lconst (v := 1) hx hb d_Mod_load_34 (by decide) ?_
    refine lv_iload_n hx hb d_Mod_load_35 rfl (lv_at hl 4 rfl) ?_
    refine lv_iconst (v := 1) hx hb d_Mod_load_36 (by decide) ?_
    refine lv_isub hx hb d_Mod_load_37 ?_
    refine tv_i (nI (kP i - 1)) (nI_dec (by omega)) ?_
    refine lv_lshl (v := lN (2 ^ (kP i - 1))) hx hb d_Mod_load_38 (shl1 (by omega)) ?_
    refine lv_ladd hx hb d_Mod_load_39 ?_
    refine tv_l (lN (ldM i sv)) (by unfold ldM; rw [← hxq, if_neg e24, lN_add]) ?_
    refine ca_v [] (va_runV (As := [.int (nI 0), .long (lN (ldM i sv))]) (rest := []) ⟨hx, hb, hml, hown, hts⟩ (c_Mod_set l D E md xx mm nn cM cN V ln rd at0 en0 R 0 (ldM i sv) (by decide) (Nat.lt_of_lt_of_le (lc_lt _) (p16_le (by have := hV 0 (by decide); omega))) (Nat.lt_trans (ldM_b hi) (by decide)) H.size) (xV 2 hts kC_Mod_set kM_Mod_138 kI_Mod_set kS_Mod_set kN_Mod rfl rfl (by decide +kernel) ⟨Nat.le_of_ble_eq_true rfl, Nat.le_of_ble_eq_true rfl⟩) ⟨ct_blind hev, va_recv hK hP (ci := 5) (q0 := 0) rfl rfl, ct_pre hev hP hK hD hS hA hE [0, 1, 2] rfl (by decide) [0, 1] rfl⟩ rfl rfl hl.1 rfl (lv_room (Nat.le_of_ble_eq_true rfl)) d_Mod_load_40 ⟨Nat.le_of_ble_eq_true rfl, Nat.le_of_ble_eq_true rfl⟩) hP hD hS hA [0, 1, 2] [] rfl rfl (by decide) (by decide) (fun u H locs hw hP hD hS hK1 => ?_)
    have hP : va_P D vcl [(md, .inr (5, [.ref xx, .int ln, .long R, .int rd, .ref mm, .ref nn, .int at0, .int en0])), (mm, .inl (cM, 3000, .inl (rw16 (upR V 0 (ldM i sv))))), (nn, .inl (cN, 3, .inl (rc (upR V 0 (ldM i sv)))))] H := hP
    have hD : va_D A [(md, .inr (5, [.ref xx, .int ln, .long R, .int rd, .ref mm, .ref nn, .int at0, .int en0])), (mm, .inl (cM, 3000, .inl (rw16 (upR V 0 (ldM i sv))))), (nn, .inl (cN, 3, .inl (rc (upR V 0 (ldM i sv)))))] := hD
    refine lv_aload_n hx hb d_Mod_load_43 rfl (lv_at hl 2 rfl) ?_
    refine lv_iconst (v := 1) hx hb d_Mod_load_44 (by decide) ?_
    refine tv_i (nI 1) (rfl) ?_
    refine lv_lconst (v := 1) hx hb d_Mod_load_45 (by decide) ?_
    refine tv_l (lN 1) (rfl) ?_
    refine ca_v [] (va_runV (As := [.int (nI 1), .long (lN 1)]) (rest := []) ⟨hx, hb, hml, hown, hts⟩ (c_Mod_set l D E md xx mm nn cM cN (upR V 0 (ldM i sv)) ln rd at0 en0 R 1 1 (by decide) (by rw [upR_n (by decide)]; exact Nat.lt_of_lt_of_le (lc_lt _) (p16_le (by have := hV 1 (by decide); omega))) (by decide) H.size) (xV 2 hts kC_Mod_set kM_Mod_138 kI_Mod_set kS_Mod_set kN_Mod rfl rfl (by decide +kernel) ⟨Nat.le_of_ble_eq_true rfl, Nat.le_of_ble_eq_true rfl⟩) ⟨ct_blind hev, va_recv hK hP (ci := 5) (q0 := 0) rfl rfl, ct_pre hev hP hK hD hS hA hE [0, 1, 2] rfl (by decide) [0, 1] rfl⟩ rfl rfl hl.1 rfl (lv_room (Nat.le_of_ble_eq_true rfl)) d_Mod_load_46 ⟨Nat.le_of_ble_eq_true rfl, Nat.le_of_ble_eq_true rfl⟩) hP hD hS hA [0, 1, 2] [] rfl rfl (by decide) (by decide) (fun u H locs hw hP hD hS hK1 => ?_)
    have hP : va_P D vcl [(md, .inr (5, [.ref xx, .int ln, .long R, .int rd, .ref mm, .ref nn, .int at0, .int en0])), (mm, .inl (cM, 3000, .inl (rw16 (upR (upR V 0 (ldM i sv)) 1 1)))), (nn, .inl (cN, 3, .inl (rc (upR (upR V 0 (ldM i sv)) 1 1))))] H := hP
    have hD : va_D A [(md, .inr (5, [.ref xx, .int ln, .long R, .int rd, .ref mm, .ref nn, .int at0, .int en0])), (mm, .inl (cM, 3000, .inl (rw16 (upR (upR V 0 (ldM i sv)) 1 1)))), (nn, .inl (cN, 3, .inl (rc (upR (upR V 0 (ldM i sv)) 1 1))))] := hD
    refine lv_lload hx hb d_Mod_load_49 (lv_at hl 1 rfl) ?_
    refine lv_lconst (v := 0) hx hb d_Mod_load_51 (by decide) ?_
    refine W.lcmp hx hb d_Mod_load_52 ?_
    refine lv_if_ne (tgt := 62) hx hb d_Mod_load_53 (by decide) (fun c53 => ?_) (fun c53 => ?_)
    · refine lv_iload hx hb d_Mod_load_62 (lv_at hl 5 rfl) ?_
      refine lv_i2l (v := (zI (-(kLw i : Int))).toInt64) hx hb d_Mod_load_64 (rfl) ?_
      refine lv_lload hx hb d_Mod_load_65 (lv_at hl 1 rfl) ?_
      refine lv_ladd hx hb d_Mod_load_67 ?_
      refine lv_lconst (v := 1) hx hb d_Mod_load_68 (by decide) ?_
      refine lv_lsub hx hb d_Mod_load_69 ?_
      refine lv_l2i (v := zI (ldW i sv)) hx hb d_Mod_load_70 (by unfold ldW; rw [← hxq, if_neg e24, Int64.toInt32_sub, Int64.toInt32_add, Int32.toInt32_toInt64, lN_i]; show zI _ + nI _ - zI 1 = _; rw [← zI_nI, zI_add, zI_sub]) ?_
      refine lv_istore (lv' := [(9, .int (zI (ldW i sv))), (7, .long (lN (sv % 2 ^ (kP i - 1)))), (5, .long (lN xq)), (0, .ref md), (1, .long (lN sv)), (3, .int (nI (kP i))), (4, .int (zI (-(kLw i : Int))))]) hx hb d_Mod_load_71 hl (by decide) rfl (fun ls hl => ?_)
      refine lv_iload hx hb d_Mod_load_73 (lv_at hl 0 rfl) ?_
      refine lv_if_ge (tgt := 89) hx hb d_Mod_load_75 (by decide) (fun c75 => ?_) (fun c75 => ?_)
      · have e75 : 0 ≤ ldW i sv := (zI_le (a := 0) (by omega) (by omega) (by omega) (by omega)).mp c75
        refine lv_aload_n hx hb d_Mod_load_89 rfl (lv_at hl 3 rfl) ?_
        refine lv_iconst (v := 0) hx hb d_Mod_load_90 (by decide) ?_
        refine tv_i (nI 0) (rfl) ?_
        refine lv_iload hx hb d_Mod_load_91 (lv_at hl 0 rfl) ?_
        refine tv_i (nI (ldW i sv).toNat) (by rw [← zI_nI]; exact congrArg zI (by omega)) ?_
        refine ca_v [] (va_runV (As := [.int (nI 0), .int (nI (ldW i sv).toNat)]) (rest := []) ⟨hx, hb, hml, hown, hts⟩ (c_Mod_raise l D E md xx mm nn cM cN (upR (upR V 0 (ldM i sv)) 1 1) ln rd at0 en0 R 0 ((ldW i sv).toNat) (by decide) (by omega) (by rw [upR_n (by decide), upR_s]; have := lc_b (bln_le_of (ldM_b (s := sv) hi)); omega) H.size) (xV 2 hts kC_Mod_raise kM_Mod_50 kI_Mod_raise kS_Mod_raise kN_Mod rfl rfl (by decide +kernel) ⟨Nat.le_of_ble_eq_true rfl, Nat.le_of_ble_eq_true rfl⟩) ⟨ct_blind hev, va_recv hK hP (ci := 5) (q0 := 0) rfl rfl, ct_pre hev hP hK hD hS hA hE [0, 1, 2] rfl (by decide) [0, 1] rfl⟩ rfl rfl hl.1 rfl (lv_room (Nat.le_of_ble_eq_true rfl)) d_Mod_load_93 ⟨Nat.le_of_ble_eq_true rfl, Nat.le_of_ble_eq_true rfl⟩) hP hD hS hA [0, 1, 2] [] rfl rfl (by decide) (by decide) (fun u H locs hw hP hD hS hK1 => ?_)
        have hP : va_P D vcl [(md, .inr (5, [.ref xx, .int ln, .long R, .int rd, .ref mm, .ref nn, .int at0, .int en0])), (mm, .inl (cM, 3000, .inl (rw16 (upR (upR (upR V 0 (ldM i sv)) 1 1) 0 ((upR (upR V 0 (ldM i sv)) 1 1) 0 * 2 ^ ((ldW i sv).toNat)))))), (nn, .inl (cN, 3, .inl (rc (upR (upR (upR V 0 (ldM i sv)) 1 1) 0 ((upR (upR V 0 (ldM i sv)) 1 1) 0 * 2 ^ ((ldW i sv).toNat))))))] H := hP
        have hD : va_D A [(md, .inr (5, [.ref xx, .int ln, .long R, .int rd, .ref mm, .ref nn, .int at0, .int en0])), (mm, .inl (cM, 3000, .inl (rw16 (upR (upR (upR V 0 (ldM i sv)) 1 1) 0 ((upR (upR V 0 (ldM i sv)) 1 1) 0 * 2 ^ ((ldW i sv).toNat)))))), (nn, .inl (cN, 3, .inl (rc (upR (upR (upR V 0 (ldM i sv)) 1 1) 0 ((upR (upR V 0 (ldM i sv)) 1 1) 0 * 2 ^ ((ldW i sv).toNat))))))] := hD
        obtain ⟨V9, hV9⟩ : ∃ x : Nat → Nat, x = upR (upR (upR V 0 (ldM i sv)) 1 1) 0 ((upR (upR V 0 (ldM i sv)) 1 1) 0 * 2 ^ ((ldW i sv).toNat)) := ⟨_, rfl⟩
        rw [← hV9] at hP hD
        have hz0 : V9 0 = ldM i sv * 2 ^ (ldW i sv).toNat := by rw [hV9, upR_s, upR_n (by decide), upR_s]
        have hz1 : V9 1 = 1 * 2 ^ 0 := by rw [hV9, upR_n (by decide), upR_s]
        have hbm : bln (ldM i sv) ≤ 53 := bln_le_of (ldM_b hi)
        have hb0 : bln (V9 0) ≤ 1200 := by rw [hz0]; exact Nat.le_trans bl_mul (by omega)
        have hb1 : bln (V9 1) ≤ 1200 := by rw [hz1]; exact Nat.le_trans bl_mul (by rw [show bln 1 = 1 from by decide]; omega)
        have h2 : V9 2 = V 2 := by rw [hV9]; rfl
        have hok : okV V9 := by
            intro q hq
            rcases (show q = 0 ∨ q = 1 ∨ q = 2 by omega) with z | z | z
            · rw [z]; exact Nat.le_trans (lc_b hb0) (by decide)
            · rw [z]; exact Nat.le_trans (lc_b hb1) (by decide)
            · rw [z, h2]; exact hV 2 (by decide)
        exact rt_v hx hb hrt hlocks (V9) (⟨hok, by rw [hz1]; exact Nat.pos_iff_ne_zero.mp (Nat.mul_pos (by decide) (Nat.two_pow_pos _)), hb0, hb1, fun P Z Lw => by rw [hz0, hz1]; exact frn_sc (by omega)⟩) (hP.sub [0, 1, 2] rfl) (hK.sub [0, 1] rfl) (hD.sub [0, 1, 2] (by decide) rfl) hS d_Mod_load_96
      · have e75 : ldW i sv < 0 := by have := mt (zI_le (a := 0) (by omega) (by omega) (by omega) (by omega)).mpr c75; omega
        refine lv_aload_n hx hb d_Mod_load_78 rfl (lv_at hl 3 rfl) ?_
        refine lv_iconst (v := 1) hx hb d_Mod_load_79 (by decide) ?_
        refine tv_i (nI 1) (rfl) ?_
        refine lv_iload hx hb d_Mod_load_80 (lv_at hl 0 rfl) ?_
        refine lv_ineg hx hb d_Mod_load_82 ?_
        refine tv_i (nI (-ldW i sv).toNat) (by rw [zI_neg, ← zI_nI]; exact congrArg zI (by omega)) ?_
        refine ca_v [] (va_runV (As := [.int (nI 1), .int (nI (-ldW i sv).toNat)]) (rest := []) ⟨hx, hb, hml, hown, hts⟩ (c_Mod_raise l D E md xx mm nn cM cN (upR (upR V 0 (ldM i sv)) 1 1) ln rd at0 en0 R 1 ((-ldW i sv).toNat) (by decide) (by omega) (by rw [upR_s]; have := lc_b (V := 1) (e := 1) (by decide); omega) H.size) (xV 2 hts kC_Mod_raise kM_Mod_50 kI_Mod_raise kS_Mod_raise kN_Mod rfl rfl (by decide +kernel) ⟨Nat.le_of_ble_eq_true rfl, Nat.le_of_ble_eq_true rfl⟩) ⟨ct_blind hev, va_recv hK hP (ci := 5) (q0 := 0) rfl rfl, ct_pre hev hP hK hD hS hA hE [0, 1, 2] rfl (by decide) [0, 1] rfl⟩ rfl rfl hl.1 rfl (lv_room (Nat.le_of_ble_eq_true rfl)) d_Mod_load_83 ⟨Nat.le_of_ble_eq_true rfl, Nat.le_of_ble_eq_true rfl⟩) hP hD hS hA [0, 1, 2] [] rfl rfl (by decide) (by decide) (fun u H locs hw hP hD hS hK1 => ?_)
        have hP : va_P D vcl [(md, .inr (5, [.ref xx, .int ln, .long R, .int rd, .ref mm, .ref nn, .int at0, .int en0])), (mm, .inl (cM, 3000, .inl (rw16 (upR (upR (upR V 0 (ldM i sv)) 1 1) 1 ((upR (upR V 0 (ldM i sv)) 1 1) 1 * 2 ^ ((-ldW i sv).toNat)))))), (nn, .inl (cN, 3, .inl (rc (upR (upR (upR V 0 (ldM i sv)) 1 1) 1 ((upR (upR V 0 (ldM i sv)) 1 1) 1 * 2 ^ ((-ldW i sv).toNat))))))] H := hP
        have hD : va_D A [(md, .inr (5, [.ref xx, .int ln, .long R, .int rd, .ref mm, .ref nn, .int at0, .int en0])), (mm, .inl (cM, 3000, .inl (rw16 (upR (upR (upR V 0 (ldM i sv)) 1 1) 1 ((upR (upR V 0 (ldM i sv)) 1 1) 1 * 2 ^ ((-ldW i sv).toNat)))))), (nn, .inl (cN, 3, .inl (rc (upR (upR (upR V 0 (ldM i sv)) 1 1) 1 ((upR (upR V 0 (ldM i sv)) 1 1) 1 * 2 ^ ((-ldW i sv).toNat))))))] := hD
        refine lv_goto (tgt := 96) hx hb d_Mod_load_86 (by decide) ?_
        obtain ⟨V9, hV9⟩ : ∃ x : Nat → Nat, x = upR (upR (upR V 0 (ldM i sv)) 1 1) 1 ((upR (upR V 0 (ldM i sv)) 1 1) 1 * 2 ^ ((-ldW i sv).toNat)) := ⟨_, rfl⟩
        rw [← hV9] at hP hD
        have hz0 : V9 0 = ldM i sv * 2 ^ 0 := by rw [hV9, upR_n (by decide), upR_n (by decide), upR_s, Nat.pow_zero, Nat.mul_one]
        have hz1 : V9 1 = 1 * 2 ^ (-ldW i sv).toNat := by rw [hV9, upR_s, upR_s]
        have hbm : bln (ldM i sv) ≤ 53 := bln_le_of (ldM_b hi)
        have hb0 : bln (V9 0) ≤ 1200 := by rw [hz0]; exact Nat.le_trans bl_mul (by omega)
        have hb1 : bln (V9 1) ≤ 1200 := by rw [hz1]; exact Nat.le_trans bl_mul (by rw [show bln 1 = 1 from by decide]; omega)
        have h2 : V9 2 = V 2 := by rw [hV9]; rfl
        have hok : okV V9 := by
            intro q hq
            rcases (show q = 0 ∨ q = 1 ∨ q = 2 by omega) with z | z | z
            · rw [z]; exact Nat.le_trans (lc_b hb0) (by decide)
            · rw [z]; exact Nat.le_trans (lc_b hb1) (by decide)
            · rw [z, h2]; exact hV 2 (by decide)
        exact rt_v hx hb hrt hlocks (V9) (⟨hok, by rw [hz1]; exact Nat.pos_iff_ne_zero.mp (Nat.mul_pos (by decide) (Nat.two_pow_pos _)), hb0, hb1, fun P Z Lw => by rw [hz0, hz1]; exact frn_sc (by omega)⟩) (hP.sub [0, 1, 2] rfl) (hK.sub [0, 1] rfl) (hD.sub [0, 1, 2] (by decide) rfl) hS d_Mod_load_96
    · exact absurd ((lN_ne0 (by omega)).mp ((lg_cmp_eq _ _).mp c53)) e24
  · have e24 : xq = 0 := (lN_ne0 (by omega)).mp ((lg_cmp_eq _ _).mp c24)
    refine lv_lload hx hb d_Mod_load_27 (lv_at hl 0 rfl) ?_
    refine tv_l (lN (ldM i sv)) (by unfold ldM; rw [← hxq, if_pos e24]) ?_
    refine lv_goto (tgt := 40) hx hb d_Mod_load_29 (by decide) ?_
    refine ca_v [] (va_runV (As := [.int (nI 0), .long (lN (ldM i sv))]) (rest := []) ⟨hx, hb, hml, hown, hts⟩ (c_Mod_set l D E md xx mm nn cM cN V ln rd at0 en0 R 0 (ldM i sv) (by decide) (Nat.lt_of_lt_of_le (lc_lt _) (p16_le (by have := hV 0 (by decide); omega))) (Nat.lt_trans (ldM_b hi) (by decide)) H.size) (xV 2 hts kC_Mod_set kM_Mod_138 kI_Mod_set kS_Mod_set kN_Mod rfl rfl (by decide +kernel) ⟨Nat.le_of_ble_eq_true rfl, Nat.le_of_ble_eq_true rfl⟩) ⟨ct_blind hev, va_recv hK hP (ci := 5) (q0 := 0) rfl rfl, ct_pre hev hP hK hD hS hA hE [0, 1, 2] rfl (by decide) [0, 1] rfl⟩ rfl rfl hl.1 rfl (lv_room (Nat.le_of_ble_eq_true rfl)) d_Mod_load_40 ⟨Nat.le_of_ble_eq_true rfl, Nat.le_of_ble_eq_true rfl⟩) hP hD hS hA [0, 1, 2] [] rfl rfl (by decide) (by decide) (fun u H locs hw hP hD hS hK1 => ?_)
    have hP : va_P D vcl [(md, .inr (5, [.ref xx, .int ln, .long R, .int rd, .ref mm, .ref nn, .int at0, .int en0])), (mm, .inl (cM, 3000, .inl (rw16 (upR V 0 (ldM i sv))))), (nn, .inl (cN, 3, .inl (rc (upR V 0 (ldM i sv)))))] H := hP
    have hD : va_D A [(md, .inr (5, [.ref xx, .int ln, .long R, .int rd, .ref mm, .ref nn, .int at0, .int en0])), (mm, .inl (cM, 3000, .inl (rw16 (upR V 0 (ldM i sv))))), (nn, .inl (cN, 3, .inl (rc (upR V 0 (ldM i sv)))))] := hD
    refine lv_aload_n hx hb d_Mod_load_43 rfl (lv_at hl 2 rfl) ?_
    refine lv_iconst (v := 1) hx hb d_Mod_load_44 (by decide) ?_
    refine tv_i (nI 1) (rfl) ?_
    refine lv_lconst (v := 1) hx hb d_Mod_load_45 (by decide) ?_
    refine tv_l (lN 1) (rfl) ?_
    refine ca_v [] (va_runV (As := [.int (nI 1), .long (lN 1)]) (rest := []) ⟨hx, hb, hml, hown, hts⟩ (c_Mod_set l D E md xx mm nn cM cN (upR V 0 (ldM i sv)) ln rd at0 en0 R 1 1 (by decide) (by rw [upR_n (by decide)]; exact Nat.lt_of_lt_of_le (lc_lt _) (p16_le (by have := hV 1 (by decide); omega))) (by decide) H.size) (xV 2 hts kC_Mod_set kM_Mod_138 kI_Mod_set kS_Mod_set kN_Mod rfl rfl (by decide +kernel) ⟨Nat.le_of_ble_eq_true rfl, Nat.le_of_ble_eq_true rfl⟩) ⟨ct_blind hev, va_recv hK hP (ci := 5) (q0 := 0) rfl rfl, ct_pre hev hP hK hD hS hA hE [0, 1, 2] rfl (by decide) [0, 1] rfl⟩ rfl rfl hl.1 rfl (lv_room (Nat.le_of_ble_eq_true rfl)) d_Mod_load_46 ⟨Nat.le_of_ble_eq_true rfl, Nat.le_of_ble_eq_true rfl⟩) hP hD hS hA [0, 1, 2] [] rfl rfl (by decide) (by decide) (fun u H locs hw hP hD hS hK1 => ?_)
    have hP : va_P D vcl [(md, .inr (5, [.ref xx, .int ln, .long R, .int rd, .ref mm, .ref nn, .int at0, .int en0])), (mm, .inl (cM, 3000, .inl (rw16 (upR (upR V 0 (ldM i sv)) 1 1)))), (nn, .inl (cN, 3, .inl (rc (upR (upR V 0 (ldM i sv)) 1 1))))] H := hP
    have hD : va_D A [(md, .inr (5, [.ref xx, .int ln, .long R, .int rd, .ref mm, .ref nn, .int at0, .int en0])), (mm, .inl (cM, 3000, .inl (rw16 (upR (upR V 0 (ldM i sv)) 1 1)))), (nn, .inl (cN, 3, .inl (rc (upR (upR V 0 (ldM i sv)) 1 1))))] := hD
    refine lv_lload hx hb d_Mod_load_49 (lv_at hl 1 rfl) ?_
    refine lv_lconst (v := 0) hx hb d_Mod_load_51 (by decide) ?_
    refine W.lcmp hx hb d_Mod_load_52 ?_
    refine lv_if_ne (tgt := 62) hx hb d_Mod_load_53 (by decide) (fun c53 => ?_) (fun c53 => ?_)
    · exact absurd ((lg_cmp_eq _ _).mpr (by rw [e24]; rfl)) c53
    · refine lv_iload hx hb d_Mod_load_56 (lv_at hl 5 rfl) ?_
      refine lv_i2l (v := (zI (-(kLw i : Int))).toInt64) hx hb d_Mod_load_58 (rfl) ?_
      refine lv_goto (tgt := 70) hx hb d_Mod_load_59 (by decide) ?_
      refine lv_l2i (v := zI (ldW i sv)) hx hb d_Mod_load_70 (by unfold ldW; rw [← hxq, if_pos e24]; exact Int32.toInt32_toInt64 _) ?_
      refine lv_istore (lv' := [(9, .int (zI (ldW i sv))), (7, .long (lN (sv % 2 ^ (kP i - 1)))), (5, .long (lN xq)), (0, .ref md), (1, .long (lN sv)), (3, .int (nI (kP i))), (4, .int (zI (-(kLw i : Int))))]) hx hb d_Mod_load_71 hl (by decide) rfl (fun ls hl => ?_)
      refine lv_iload hx hb d_Mod_load_73 (lv_at hl 0 rfl) ?_
      refine lv_if_ge (tgt := 89) hx hb d_Mod_load_75 (by decide) (fun c75 => ?_) (fun c75 => ?_)
      · have e75 : 0 ≤ ldW i sv := (zI_le (a := 0) (by omega) (by omega) (by omega) (by omega)).mp c75
        refine lv_aload_n hx hb d_Mod_load_89 rfl (lv_at hl 3 rfl) ?_
        refine lv_iconst (v := 0) hx hb d_Mod_load_90 (by decide) ?_
        refine tv_i (nI 0) (rfl) ?_
        refine lv_iload hx hb d_Mod_load_91 (lv_at hl 0 rfl) ?_
        refine tv_i (nI (ldW i sv).toNat) (by rw [← zI_nI]; exact congrArg zI (by omega)) ?_
        refine ca_v [] (va_runV (As := [.int (nI 0), .int (nI (ldW i sv).toNat)]) (rest := []) ⟨hx, hb, hml, hown, hts⟩ (c_Mod_raise l D E md xx mm nn cM cN (upR (upR V 0 (ldM i sv)) 1 1) ln rd at0 en0 R 0 ((ldW i sv).toNat) (by decide) (by omega) (by rw [upR_n (by decide), upR_s]; have := lc_b (bln_le_of (ldM_b (s := sv) hi)); omega) H.size) (xV 2 hts kC_Mod_raise kM_Mod_50 kI_Mod_raise kS_Mod_raise kN_Mod rfl rfl (by decide +kernel) ⟨Nat.le_of_ble_eq_true rfl, Nat.le_of_ble_eq_true rfl⟩) ⟨ct_blind hev, va_recv hK hP (ci := 5) (q0 := 0) rfl rfl, ct_pre hev hP hK hD hS hA hE [0, 1, 2] rfl (by decide) [0, 1] rfl⟩ rfl rfl hl.1 rfl (lv_room (Nat.le_of_ble_eq_true rfl)) d_Mod_load_93 ⟨Nat.le_of_ble_eq_true rfl, Nat.le_of_ble_eq_true rfl⟩) hP hD hS hA [0, 1, 2] [] rfl rfl (by decide) (by decide) (fun u H locs hw hP hD hS hK1 => ?_)
        have hP : va_P D vcl [(md, .inr (5, [.ref xx, .int ln, .long R, .int rd, .ref mm, .ref nn, .int at0, .int en0])), (mm, .inl (cM, 3000, .inl (rw16 (upR (upR (upR V 0 (ldM i sv)) 1 1) 0 ((upR (upR V 0 (ldM i sv)) 1 1) 0 * 2 ^ ((ldW i sv).toNat)))))), (nn, .inl (cN, 3, .inl (rc (upR (upR (upR V 0 (ldM i sv)) 1 1) 0 ((upR (upR V 0 (ldM i sv)) 1 1) 0 * 2 ^ ((ldW i sv).toNat))))))] H := hP
        have hD : va_D A [(md, .inr (5, [.ref xx, .int ln, .long R, .int rd, .ref mm, .ref nn, .int at0, .int en0])), (mm, .inl (cM, 3000, .inl (rw16 (upR (upR (upR V 0 (ldM i sv)) 1 1) 0 ((upR (upR V 0 (ldM i sv)) 1 1) 0 * 2 ^ ((ldW i sv).toNat)))))), (nn, .inl (cN, 3, .inl (rc (upR (upR (upR V 0 (ldM i sv)) 1 1) 0 ((upR (upR V 0 (ldM i sv)) 1 1) 0 * 2 ^ ((ldW i sv).toNat))))))] := hD
        obtain ⟨V9, hV9⟩ : ∃ x : Nat → Nat, x = upR (upR (upR V 0 (ldM i sv)) 1 1) 0 ((upR (upR V 0 (ldM i sv)) 1 1) 0 * 2 ^ ((ldW i sv).toNat)) := ⟨_, rfl⟩
        rw [← hV9] at hP hD
        have hz0 : V9 0 = ldM i sv * 2 ^ (ldW i sv).toNat := by rw [hV9, upR_s, upR_n (by decide), upR_s]
        have hz1 : V9 1 = 1 * 2 ^ 0 := by rw [hV9, upR_n (by decide), upR_s]
        have hbm : bln (ldM i sv) ≤ 53 := bln_le_of (ldM_b hi)
        have hb0 : bln (V9 0) ≤ 1200 := by rw [hz0]; exact Nat.le_trans bl_mul (by omega)
        have hb1 : bln (V9 1) ≤ 1200 := by rw [hz1]; exact Nat.le_trans bl_mul (by rw [show bln 1 = 1 from by decide]; omega)
        have h2 : V9 2 = V 2 := by rw [hV9]; rfl
        have hok : okV V9 := by
            intro q hq
            rcases (show q = 0 ∨ q = 1 ∨ q = 2 by omega) with z | z | z
            · rw [z]; exact Nat.le_trans (lc_b hb0) (by decide)
            · rw [z]; exact Nat.le_trans (lc_b hb1) (by decide)
            · rw [z, h2]; exact hV 2 (by decide)
        exact rt_v hx hb hrt hlocks (V9) (⟨hok, by rw [hz1]; exact Nat.pos_iff_ne_zero.mp (Nat.mul_pos (by decide) (Nat.two_pow_pos _)), hb0, hb1, fun P Z Lw => by rw [hz0, hz1]; exact frn_sc (by omega)⟩) (hP.sub [0, 1, 2] rfl) (hK.sub [0, 1] rfl) (hD.sub [0, 1, 2] (by decide) rfl) hS d_Mod_load_96
      · have e75 : ldW i sv < 0 := by have := mt (zI_le (a := 0) (by omega) (by omega) (by omega) (by omega)).mpr c75; omega
        refine lv_aload_n hx hb d_Mod_load_78 rfl (lv_at hl 3 rfl) ?_
        refine lv_iconst (v := 1) hx hb d_Mod_load_79 (by decide) ?_
        refine tv_i (nI 1) (rfl) ?_
        refine lv_iload hx hb d_Mod_load_80 (lv_at hl 0 rfl) ?_
        refine lv_ineg hx hb d_Mod_load_82 ?_
        refine tv_i (nI (-ldW i sv).toNat) (by rw [zI_neg, ← zI_nI]; exact congrArg zI (by omega)) ?_
        refine ca_v [] (va_runV (As := [.int (nI 1), .int (nI (-ldW i sv).toNat)]) (rest := []) ⟨hx, hb, hml, hown, hts⟩ (c_Mod_raise l D E md xx mm nn cM cN (upR (upR V 0 (ldM i sv)) 1 1) ln rd at0 en0 R 1 ((-ldW i sv).toNat) (by decide) (by omega) (by rw [upR_s]; have := lc_b (V := 1) (e := 1) (by decide); omega) H.size) (xV 2 hts kC_Mod_raise kM_Mod_50 kI_Mod_raise kS_Mod_raise kN_Mod rfl rfl (by decide +kernel) ⟨Nat.le_of_ble_eq_true rfl, Nat.le_of_ble_eq_true rfl⟩) ⟨ct_blind hev, va_recv hK hP (ci := 5) (q0 := 0) rfl rfl, ct_pre hev hP hK hD hS hA hE [0, 1, 2] rfl (by decide) [0, 1] rfl⟩ rfl rfl hl.1 rfl (lv_room (Nat.le_of_ble_eq_true rfl)) d_Mod_load_83 ⟨Nat.le_of_ble_eq_true rfl, Nat.le_of_ble_eq_true rfl⟩) hP hD hS hA [0, 1, 2] [] rfl rfl (by decide) (by decide) (fun u H locs hw hP hD hS hK1 => ?_)
        have hP : va_P D vcl [(md, .inr (5, [.ref xx, .int ln, .long R, .int rd, .ref mm, .ref nn, .int at0, .int en0])), (mm, .inl (cM, 3000, .inl (rw16 (upR (upR (upR V 0 (ldM i sv)) 1 1) 1 ((upR (upR V 0 (ldM i sv)) 1 1) 1 * 2 ^ ((-ldW i sv).toNat)))))), (nn, .inl (cN, 3, .inl (rc (upR (upR (upR V 0 (ldM i sv)) 1 1) 1 ((upR (upR V 0 (ldM i sv)) 1 1) 1 * 2 ^ ((-ldW i sv).toNat))))))] H := hP
        have hD : va_D A [(md, .inr (5, [.ref xx, .int ln, .long R, .int rd, .ref mm, .ref nn, .int at0, .int en0])), (mm, .inl (cM, 3000, .inl (rw16 (upR (upR (upR V 0 (ldM i sv)) 1 1) 1 ((upR (upR V 0 (ldM i sv)) 1 1) 1 * 2 ^ ((-ldW i sv).toNat)))))), (nn, .inl (cN, 3, .inl (rc (upR (upR (upR V 0 (ldM i sv)) 1 1) 1 ((upR (upR V 0 (ldM i sv)) 1 1) 1 * 2 ^ ((-ldW i sv).toNat))))))] := hD
        refine lv_goto (tgt := 96) hx hb d_Mod_load_86 (by decide) ?_
        obtain ⟨V9, hV9⟩ : ∃ x : Nat → Nat, x = upR (upR (upR V 0 (ldM i sv)) 1 1) 1 ((upR (upR V 0 (ldM i sv)) 1 1) 1 * 2 ^ ((-ldW i sv).toNat)) := ⟨_, rfl⟩
        rw [← hV9] at hP hD
        have hz0 : V9 0 = ldM i sv * 2 ^ 0 := by rw [hV9, upR_n (by decide), upR_n (by decide), upR_s, Nat.pow_zero, Nat.mul_one]
        have hz1 : V9 1 = 1 * 2 ^ (-ldW i sv).toNat := by rw [hV9, upR_s, upR_s]
        have hbm : bln (ldM i sv) ≤ 53 := bln_le_of (ldM_b hi)
        have hb0 : bln (V9 0) ≤ 1200 := by rw [hz0]; exact Nat.le_trans bl_mul (by omega)
        have hb1 : bln (V9 1) ≤ 1200 := by rw [hz1]; exact Nat.le_trans bl_mul (by rw [show bln 1 = 1 from by decide]; omega)
        have h2 : V9 2 = V 2 := by rw [hV9]; rfl
        have hok : okV V9 := by
            intro q hq
            rcases (show q = 0 ∨ q = 1 ∨ q = 2 by omega) with z | z | z
            · rw [z]; exact Nat.le_trans (lc_b hb0) (by decide)
            · rw [z]; exact Nat.le_trans (lc_b hb1) (by decide)
            · rw [z, h2]; exact hV 2 (by decide)
        exact rt_v hx hb hrt hlocks (V9) (⟨hok, by rw [hz1]; exact Nat.pos_iff_ne_zero.mp (Nat.mul_pos (by decide) (Nat.two_pow_pos _)), hb0, hb1, fun P Z Lw => by rw [hz0, hz1]; exact frn_sc (by omega)⟩) (hP.sub [0, 1, 2] rfl) (hK.sub [0, 1] rfl) (hD.sub [0, 1, 2] (by decide) rfl) hS d_Mod_load_96

set_option maxHeartbeats 4000000 in
set_option maxRecDepth 100000 in
theorem c_Mod_narrowed (l : Launch) (D : va_G) (E : evD) (md xx mm nn : Nat) (cM cN : ClassId) (V : Nat → Nat) (ln rd at0 en0 : Int32) (R : Int64) (hV : okV V) (v : Nat) (hv : v < 2 ^ 64) : Cl (S := (Nat → Nat)) l y_Mod_narrowed (wz y_Mod_narrowed b_Mod_narrowed 5 (some .long)) ({ frames := 4, cells := 0, slots := 0, locals := 114 }) D vcl (ev1 E) [.ref md, .long (lN v)] [(cM, .int), (cN, .int)] [(md, .inr (5, [.ref xx, .int ln, .long R, .int rd, .ref mm, .ref nn, .int at0, .int en0])), (mm, .inl (cM, 3000, .inl (rw16 V))), (nn, .inl (cN, 3, .inl (rc V)))] 0 0 (fun (w : Int64) (V' : Nat → Nat) => w = cvN 0 1 v ∧ okV V') (fun _ => [(cM, .int), (cN, .int)]) (fun V' : Nat → Nat => [(md, .inr (5, [.ref xx, .int ln, .long R, .int rd, .ref mm, .ref nn, .int at0, .int en0])), (mm, .inl (cM, 3000, .inl (rw16 V'))), (nn, .inl (cN, 3, .inl (rc V')))]) := by
  have hev := ev1_ok E
  unfold Cl
  refine ct_of (y := y_Mod_narrowed) (av := [.ref md, .long (lN v)]) (cc := b_Mod_narrowed) (maxL := 5) (ret := (some .long)) (Qc := fun A => va_Ql (S := (Nat → Nat)) (fun (w : Int64) (V' : Nat → Nat) => w = cvN 0 1 v ∧ okV V') (fun u tS => ctB D vcl ((fun _ => [(cM, .int), (cN, .int)]) u) ((fun V' : Nat → Nat => [(md, .inr (5, [.ref xx, .int ln, .long R, .int rd, .ref mm, .ref nn, .int at0, .int en0])), (mm, .inl (cM, 3000, .inl (rw16 V'))), (nn, .inl (cN, 3, .inl (rc V')))]) u) A tS) A) (by decide) rfl (Nat.le_of_ble_eq_true rfl) ?_
  intro p ee s m below meth cde ls A H locs hx hb hml hrt hlocks hown hin hts hA hP hK hD hS hE hl
  have hown : s.vm.findClass R_Mod = some m.cls := hown
  have hts := wz_g hts
  have hl : lv_has ls 5 [(0, .ref md), (1, .long (lN v))] := hl
  have hsz := szN_lt (i := 0) (v := v) (by decide)
  have hin := kIN_63 0 (by decide)
  refine lv_lload_n hx hb d_Mod_narrowed_0 rfl (lv_at hl 1 rfl) ?_
  refine lv_ldc2 hx hb hown (hts _ kK_Mod_163) d_Mod_narrowed_1 ?_
  refine lv_land hx hb d_Mod_narrowed_4 ?_
  refine tv_l (lN (szN 0 v)) (by have h9 := sz_l (i := 0) (by decide) hv; rw [show kSign 0 - 1 = (9223372036854775807 : Int64) by decide] at h9; exact h9) ?_
  refine lv_lstore_n (lv' := [(3, .long (lN (szN 0 v))), (0, .ref md), (1, .long (lN v))]) hx hb d_Mod_narrowed_5 rfl hl (by decide) rfl (fun ls hl => ?_)
  refine lv_lload_n hx hb d_Mod_narrowed_6 rfl (lv_at hl 0 rfl) ?_
  refine lv_iconst (v := 1) hx hb d_Mod_narrowed_7 (by decide) ?_
  refine ca_l [(md, .inr (5, [.ref xx, .int ln, .long R, .int rd, .ref mm, .ref nn, .int at0, .int en0])), (mm, .inl (cM, 3000, .inl (rw16 V))), (nn, .inl (cN, 3, .inl (rc V)))] (va_runS (As := [.int 1]) (rest := [.long (lN (szN 0 v))]) ⟨hx, hb, hml, hown, hts⟩ (c_Mod_infinite l D E 1 H.size) (xS 1 hts kC_Mod_infinite kM_Mod_46 kT_Mod_infinite kN_Mod rfl rfl (by decide +kernel) ⟨Nat.le_of_ble_eq_true rfl, Nat.le_of_ble_eq_true rfl⟩) ⟨ct_blind hev, ct_pre hev hP hK hD hS hA hE [] rfl (by decide) [] rfl⟩ rfl rfl hl.1 rfl (lv_room (Nat.le_of_ble_eq_true rfl)) d_Mod_narrowed_8 ⟨Nat.le_of_ble_eq_true rfl, Nat.le_of_ble_eq_true rfl⟩) hP hD hS hA [] [0, 1, 2] rfl rfl (by decide) (by decide) (fun rv u H locs hw hP hD hS hK1 => ?_)
  subst hw
  have hP : va_P D vcl [(md, .inr (5, [.ref xx, .int ln, .long R, .int rd, .ref mm, .ref nn, .int at0, .int en0])), (mm, .inl (cM, 3000, .inl (rw16 V))), (nn, .inl (cN, 3, .inl (rc V)))] H := hP
  have hD : va_D A [(md, .inr (5, [.ref xx, .int ln, .long R, .int rd, .ref mm, .ref nn, .int at0, .int en0])), (mm, .inl (cM, 3000, .inl (rw16 V))), (nn, .inl (cN, 3, .inl (rc V)))] := hD
  refine tv_l (lN (kIN 0)) (kf_I 0 (by decide)) ?_
  refine W.lcmp hx hb d_Mod_narrowed_11 ?_
  refine lv_if_le (tgt := 20) hx hb d_Mod_narrowed_12 (by decide) (fun c12 => ?_) (fun c12 => ?_)
  · have e1 : ¬ kIN 0 < szN 0 v := fun z => absurd ((pk_lLT (by omega) (by omega)).mpr z) (Int64.not_lt.mpr ((lg_cmp_le _ _).mp c12))
    refine lv_lload_n hx hb d_Mod_narrowed_20 rfl (lv_at hl 0 rfl) ?_
    refine lv_iconst (v := 1) hx hb d_Mod_narrowed_21 (by decide) ?_
    refine ca_l [(md, .inr (5, [.ref xx, .int ln, .long R, .int rd, .ref mm, .ref nn, .int at0, .int en0])), (mm, .inl (cM, 3000, .inl (rw16 V))), (nn, .inl (cN, 3, .inl (rc V)))] (va_runS (As := [.int 1]) (rest := [.long (lN (szN 0 v))]) ⟨hx, hb, hml, hown, hts⟩ (c_Mod_infinite l D E 1 H.size) (xS 1 hts kC_Mod_infinite kM_Mod_46 kT_Mod_infinite kN_Mod rfl rfl (by decide +kernel) ⟨Nat.le_of_ble_eq_true rfl, Nat.le_of_ble_eq_true rfl⟩) ⟨ct_blind hev, ct_pre hev hP hK hD hS hA hE [] rfl (by decide) [] rfl⟩ rfl rfl hl.1 rfl (lv_room (Nat.le_of_ble_eq_true rfl)) d_Mod_narrowed_22 ⟨Nat.le_of_ble_eq_true rfl, Nat.le_of_ble_eq_true rfl⟩) hP hD hS hA [] [0, 1, 2] rfl rfl (by decide) (by decide) (fun rv u H locs hw hP hD hS hK1 => ?_)
    subst hw
    have hP : va_P D vcl [(md, .inr (5, [.ref xx, .int ln, .long R, .int rd, .ref mm, .ref nn, .int at0, .int en0])), (mm, .inl (cM, 3000, .inl (rw16 V))), (nn, .inl (cN, 3, .inl (rc V)))] H := hP
    have hD : va_D A [(md, .inr (5, [.ref xx, .int ln, .long R, .int rd, .ref mm, .ref nn, .int at0, .int en0])), (mm, .inl (cM, 3000, .inl (rw16 V))), (nn, .inl (cN, 3, .inl (rc V)))] := hD
    refine tv_l (lN (kIN 0)) (kf_I 0 (by decide)) ?_
    refine W.lcmp hx hb d_Mod_narrowed_25 ?_
    refine lv_if_ne (tgt := 49) hx hb d_Mod_narrowed_26 (by decide) (fun c26 => ?_) (fun c26 => ?_)
    · have e2 : szN 0 v ≠ kIN 0 := fun z => c26 ((lg_cmp_eq _ _).mpr (by rw [z]))
      refine lv_aload_n hx hb d_Mod_narrowed_49 rfl (lv_at hl 1 rfl) ?_
      refine lv_lload_n hx hb d_Mod_narrowed_50 rfl (lv_at hl 0 rfl) ?_
      refine lv_bipush (v := 53) hx hb d_Mod_narrowed_51 (by decide) ?_
      refine tv_i (nI (kP 0)) (rfl) ?_
      refine lv_sipush (v := -1074) hx hb d_Mod_narrowed_53 (by decide) ?_
      refine tv_i (zI (-(kLw 0 : Int))) (by decide) ?_
      refine ca_v [] (va_runV (As := [.long (lN (szN 0 v)), .int (nI (kP 0)), .int (zI (-(kLw 0 : Int)))]) (rest := []) ⟨hx, hb, hml, hown, hts⟩ (c_Mod_load l D E md xx mm nn cM cN V ln rd at0 en0 R 0 (by decide) hV (szN 0 v) (by omega) H.size) (xV 3 hts kC_Mod_load kM_Mod_165 kI_Mod_load kS_Mod_load kN_Mod rfl rfl (by decide +kernel) ⟨Nat.le_of_ble_eq_true rfl, Nat.le_of_ble_eq_true rfl⟩) ⟨ct_blind hev, va_recv hK hP (ci := 5) (q0 := 0) rfl rfl, ct_pre hev hP hK hD hS hA hE [0, 1, 2] rfl (by decide) [0, 1] rfl⟩ rfl rfl hl.1 rfl (lv_room (Nat.le_of_ble_eq_true rfl)) d_Mod_narrowed_56 ⟨Nat.le_of_ble_eq_true rfl, Nat.le_of_ble_eq_true rfl⟩) hP hD hS hA [0, 1, 2] [] rfl rfl (by decide) (by decide) (fun u H locs hw hP hD hS hK1 => ?_)
      obtain ⟨hVo, hV1, hVa, hVb, hVr⟩ := hw
      obtain ⟨V8, hV8⟩ : ∃ x : Nat → Nat, x = u := ⟨_, rfl⟩
      rw [← hV8] at hP hD hVo hV1 hVa hVb hVr
      have hP : va_P D vcl [(md, .inr (5, [.ref xx, .int ln, .long R, .int rd, .ref mm, .ref nn, .int at0, .int en0])), (mm, .inl (cM, 3000, .inl (rw16 V8))), (nn, .inl (cN, 3, .inl (rc V8)))] H := hP
      have hD : va_D A [(md, .inr (5, [.ref xx, .int ln, .long R, .int rd, .ref mm, .ref nn, .int at0, .int en0])), (mm, .inl (cM, 3000, .inl (rw16 V8))), (nn, .inl (cN, 3, .inl (rc V8)))] := hD
      refine lv_aload_n hx hb d_Mod_narrowed_59 rfl (lv_at hl 1 rfl) ?_
      refine lv_iconst (v := 0) hx hb d_Mod_narrowed_60 (by decide) ?_
      refine ca_l [] (va_runV (As := [.int 0]) (rest := []) ⟨hx, hb, hml, hown, hts⟩ (c_Mod_nearest l D E md xx mm nn cM cN V8 ln rd at0 en0 R 1 (by decide) 0 (rfl) (hV1) (hVo) (by omega) (by omega) H.size) (xV 1 hts kC_Mod_nearest kM_Mod_152 kI_Mod_nearest kS_Mod_nearest kN_Mod rfl rfl (by decide +kernel) ⟨Nat.le_of_ble_eq_true rfl, Nat.le_of_ble_eq_true rfl⟩) ⟨ct_blind hev, va_recv hK hP (ci := 5) (q0 := 0) rfl rfl, ct_pre hev hP hK hD hS hA hE [0, 1, 2] rfl (by decide) [0, 1] rfl⟩ rfl rfl hl.1 rfl (lv_room (Nat.le_of_ble_eq_true rfl)) d_Mod_narrowed_61 ⟨Nat.le_of_ble_eq_true rfl, Nat.le_of_ble_eq_true rfl⟩) hP hD hS hA [0, 1, 2] [] rfl rfl (by decide) (by decide) (fun rv u H locs hw hP hD hS hK1 => ?_)
      obtain ⟨hw, hVn⟩ := hw
      subst hw
      obtain ⟨V9, hV9⟩ : ∃ x : Nat → Nat, x = u := ⟨_, rfl⟩
      rw [← hV9] at hP hD hVn
      have hP : va_P D vcl [(md, .inr (5, [.ref xx, .int ln, .long R, .int rd, .ref mm, .ref nn, .int at0, .int en0])), (mm, .inl (cM, 3000, .inl (rw16 V9))), (nn, .inl (cN, 3, .inl (rc V9)))] H := hP
      have hD : va_D A [(md, .inr (5, [.ref xx, .int ln, .long R, .int rd, .ref mm, .ref nn, .int at0, .int en0])), (mm, .inl (cM, 3000, .inl (rw16 V9))), (nn, .inl (cN, 3, .inl (rc V9)))] := hD
      refine lv_lload_n hx hb d_Mod_narrowed_64 rfl (lv_at hl 2 rfl) ?_
      refine lv_lconst (v := 0) hx hb d_Mod_narrowed_65 (by decide) ?_
      refine W.lcmp hx hb d_Mod_narrowed_66 ?_
      refine lv_if_ge (tgt := 74) hx hb d_Mod_narrowed_67 (by decide) (fun c67 => ?_) (fun c67 => ?_)
      · have e9 : blB 0 v = false := by have := Int64.not_lt.mpr ((lg_cmp_ge _ _).mp c67); exact decide_eq_false (fun z => this ((ng_l hv).mpr (by show 9223372036854775808 ≤ v; have : v / 2 ^ 63 % 2 = 1 := z; omega)))
        refine lv_iconst (v := 0) hx hb d_Mod_narrowed_74 (by decide) ?_
        refine tv_i (bI (blB 0 v)) (by rw [e9]; rfl) ?_
        refine lv_iconst (v := 0) hx hb d_Mod_narrowed_75 (by decide) ?_
        refine ca_l [(md, .inr (5, [.ref xx, .int ln, .long R, .int rd, .ref mm, .ref nn, .int at0, .int en0])), (mm, .inl (cM, 3000, .inl (rw16 V9))), (nn, .inl (cN, 3, .inl (rc V9)))] (va_runS (As := [.long (lN (rn (kP 1) (kZ 1) (V8 0 * 2 ^ kLw 1) (V8 1))), .int (bI (blB 0 v)), .int 0]) (rest := []) ⟨hx, hb, hml, hown, hts⟩ (c_Mod_signed l D E (lN (rn (kP 1) (kZ 1) (V8 0 * 2 ^ kLw 1) (V8 1))) (bI (blB 0 v)) 0 H.size) (xS 3 hts kC_Mod_signed kM_Mod_112 kT_Mod_signed kN_Mod rfl rfl (by decide +kernel) ⟨Nat.le_of_ble_eq_true rfl, Nat.le_of_ble_eq_true rfl⟩) ⟨ct_blind hev, ct_pre hev hP hK hD hS hA hE [] rfl (by decide) [] rfl⟩ rfl rfl hl.1 rfl (lv_room (Nat.le_of_ble_eq_true rfl)) d_Mod_narrowed_76 ⟨Nat.le_of_ble_eq_true rfl, Nat.le_of_ble_eq_true rfl⟩) hP hD hS hA [] [0, 1, 2] rfl rfl (by decide) (by decide) (fun rv u H locs hw hP hD hS hK1 => ?_)
        subst hw
        have hP : va_P D vcl [(md, .inr (5, [.ref xx, .int ln, .long R, .int rd, .ref mm, .ref nn, .int at0, .int en0])), (mm, .inl (cM, 3000, .inl (rw16 V9))), (nn, .inl (cN, 3, .inl (rc V9)))] H := hP
        have hD : va_D A [(md, .inr (5, [.ref xx, .int ln, .long R, .int rd, .ref mm, .ref nn, .int at0, .int en0])), (mm, .inl (cM, 3000, .inl (rw16 V9))), (nn, .inl (cN, 3, .inl (rc V9)))] := hD
        exact rt_l hx hb hrt hlocks (V9) (⟨by unfold cvN; rw [if_neg e1, if_neg e2, hVr]; rfl, hVn⟩) (hP.sub [0, 1, 2] rfl) (hK.sub [0, 1] rfl) (hD.sub [0, 1, 2] (by decide) rfl) hS d_Mod_narrowed_79
      · have e9 : blB 0 v = true := decide_eq_true (by have := (ng_l hv).mp (Int64.not_le.mp (fun z => c67 ((lg_cmp_ge _ _).mpr z))); show v / 2 ^ 63 % 2 = 1; omega)
        refine lv_iconst (v := 1) hx hb d_Mod_narrowed_70 (by decide) ?_
        refine tv_i (bI (blB 0 v)) (by rw [e9]; rfl) ?_
        refine lv_goto (tgt := 75) hx hb d_Mod_narrowed_71 (by decide) ?_
        refine lv_iconst (v := 0) hx hb d_Mod_narrowed_75 (by decide) ?_
        refine ca_l [(md, .inr (5, [.ref xx, .int ln, .long R, .int rd, .ref mm, .ref nn, .int at0, .int en0])), (mm, .inl (cM, 3000, .inl (rw16 V9))), (nn, .inl (cN, 3, .inl (rc V9)))] (va_runS (As := [.long (lN (rn (kP 1) (kZ 1) (V8 0 * 2 ^ kLw 1) (V8 1))), .int (bI (blB 0 v)), .int 0]) (rest := []) ⟨hx, hb, hml, hown, hts⟩ (c_Mod_signed l D E (lN (rn (kP 1) (kZ 1) (V8 0 * 2 ^ kLw 1) (V8 1))) (bI (blB 0 v)) 0 H.size) (xS 3 hts kC_Mod_signed kM_Mod_112 kT_Mod_signed kN_Mod rfl rfl (by decide +kernel) ⟨Nat.le_of_ble_eq_true rfl, Nat.le_of_ble_eq_true rfl⟩) ⟨ct_blind hev, ct_pre hev hP hK hD hS hA hE [] rfl (by decide) [] rfl⟩ rfl rfl hl.1 rfl (lv_room (Nat.le_of_ble_eq_true rfl)) d_Mod_narrowed_76 ⟨Nat.le_of_ble_eq_true rfl, Nat.le_of_ble_eq_true rfl⟩) hP hD hS hA [] [0, 1, 2] rfl rfl (by decide) (by decide) (fun rv u H locs hw hP hD hS hK1 => ?_)
        subst hw
        have hP : va_P D vcl [(md, .inr (5, [.ref xx, .int ln, .long R, .int rd, .ref mm, .ref nn, .int at0, .int en0])), (mm, .inl (cM, 3000, .inl (rw16 V9))), (nn, .inl (cN, 3, .inl (rc V9)))] H := hP
        have hD : va_D A [(md, .inr (5, [.ref xx, .int ln, .long R, .int rd, .ref mm, .ref nn, .int at0, .int en0])), (mm, .inl (cM, 3000, .inl (rw16 V9))), (nn, .inl (cN, 3, .inl (rc V9)))] := hD
        exact rt_l hx hb hrt hlocks (V9) (⟨by unfold cvN; rw [if_neg e1, if_neg e2, hVr]; rfl, hVn⟩) (hP.sub [0, 1, 2] rfl) (hK.sub [0, 1] rfl) (hD.sub [0, 1, 2] (by decide) rfl) hS d_Mod_narrowed_79
    · have e2 : szN 0 v = kIN 0 := (pk_lEQ (by omega) (by omega)).mp ((lg_cmp_eq _ _).mp c26)
      refine lv_iconst (v := 0) hx hb d_Mod_narrowed_29 (by decide) ?_
      refine ca_l [(md, .inr (5, [.ref xx, .int ln, .long R, .int rd, .ref mm, .ref nn, .int at0, .int en0])), (mm, .inl (cM, 3000, .inl (rw16 V))), (nn, .inl (cN, 3, .inl (rc V)))] (va_runS (As := [.int 0]) (rest := []) ⟨hx, hb, hml, hown, hts⟩ (c_Mod_infinite l D E 0 H.size) (xS 1 hts kC_Mod_infinite kM_Mod_46 kT_Mod_infinite kN_Mod rfl rfl (by decide +kernel) ⟨Nat.le_of_ble_eq_true rfl, Nat.le_of_ble_eq_true rfl⟩) ⟨ct_blind hev, ct_pre hev hP hK hD hS hA hE [] rfl (by decide) [] rfl⟩ rfl rfl hl.1 rfl (lv_room (Nat.le_of_ble_eq_true rfl)) d_Mod_narrowed_30 ⟨Nat.le_of_ble_eq_true rfl, Nat.le_of_ble_eq_true rfl⟩) hP hD hS hA [] [0, 1, 2] rfl rfl (by decide) (by decide) (fun rv u H locs hw hP hD hS hK1 => ?_)
      subst hw
      have hP : va_P D vcl [(md, .inr (5, [.ref xx, .int ln, .long R, .int rd, .ref mm, .ref nn, .int at0, .int en0])), (mm, .inl (cM, 3000, .inl (rw16 V))), (nn, .inl (cN, 3, .inl (rc V)))] H := hP
      have hD : va_D A [(md, .inr (5, [.ref xx, .int ln, .long R, .int rd, .ref mm, .ref nn, .int at0, .int en0])), (mm, .inl (cM, 3000, .inl (rw16 V))), (nn, .inl (cN, 3, .inl (rc V)))] := hD
      refine lv_lload_n hx hb d_Mod_narrowed_33 rfl (lv_at hl 2 rfl) ?_
      refine lv_lconst (v := 0) hx hb d_Mod_narrowed_34 (by decide) ?_
      refine W.lcmp hx hb d_Mod_narrowed_35 ?_
      refine lv_if_ge (tgt := 43) hx hb d_Mod_narrowed_36 (by decide) (fun c36 => ?_) (fun c36 => ?_)
      · have e9 : blB 0 v = false := by have := Int64.not_lt.mpr ((lg_cmp_ge _ _).mp c36); exact decide_eq_false (fun z => this ((ng_l hv).mpr (by show 9223372036854775808 ≤ v; have : v / 2 ^ 63 % 2 = 1 := z; omega)))
        refine lv_iconst (v := 0) hx hb d_Mod_narrowed_43 (by decide) ?_
        refine tv_i (bI (blB 0 v)) (by rw [e9]; rfl) ?_
        refine lv_iconst (v := 0) hx hb d_Mod_narrowed_44 (by decide) ?_
        refine ca_l [(md, .inr (5, [.ref xx, .int ln, .long R, .int rd, .ref mm, .ref nn, .int at0, .int en0])), (mm, .inl (cM, 3000, .inl (rw16 V))), (nn, .inl (cN, 3, .inl (rc V)))] (va_runS (As := [.long (kInf (knd 0)), .int (bI (blB 0 v)), .int 0]) (rest := []) ⟨hx, hb, hml, hown, hts⟩ (c_Mod_signed l D E (kInf (knd 0)) (bI (blB 0 v)) 0 H.size) (xS 3 hts kC_Mod_signed kM_Mod_112 kT_Mod_signed kN_Mod rfl rfl (by decide +kernel) ⟨Nat.le_of_ble_eq_true rfl, Nat.le_of_ble_eq_true rfl⟩) ⟨ct_blind hev, ct_pre hev hP hK hD hS hA hE [] rfl (by decide) [] rfl⟩ rfl rfl hl.1 rfl (lv_room (Nat.le_of_ble_eq_true rfl)) d_Mod_narrowed_45 ⟨Nat.le_of_ble_eq_true rfl, Nat.le_of_ble_eq_true rfl⟩) hP hD hS hA [] [0, 1, 2] rfl rfl (by decide) (by decide) (fun rv u H locs hw hP hD hS hK1 => ?_)
        subst hw
        have hP : va_P D vcl [(md, .inr (5, [.ref xx, .int ln, .long R, .int rd, .ref mm, .ref nn, .int at0, .int en0])), (mm, .inl (cM, 3000, .inl (rw16 V))), (nn, .inl (cN, 3, .inl (rc V)))] H := hP
        have hD : va_D A [(md, .inr (5, [.ref xx, .int ln, .long R, .int rd, .ref mm, .ref nn, .int at0, .int en0])), (mm, .inl (cM, 3000, .inl (rw16 V))), (nn, .inl (cN, 3, .inl (rc V)))] := hD
        exact rt_l hx hb hrt hlocks (V) (⟨by unfold cvN; rw [if_neg e1, if_pos e2]; rfl, hV⟩) (hP.sub [0, 1, 2] rfl) (hK.sub [0, 1] rfl) (hD.sub [0, 1, 2] (by decide) rfl) hS d_Mod_narrowed_48
      · have e9 : blB 0 v = true := decide_eq_true (by have := (ng_l hv).mp (Int64.not_le.mp (fun z => c36 ((lg_cmp_ge _ _).mpr z))); show v / 2 ^ 63 % 2 = 1; omega)
        refine lv_iconst (v := 1) hx hb d_Mod_narrowed_39 (by decide) ?_
        refine tv_i (bI (blB 0 v)) (by rw [e9]; rfl) ?_
        refine lv_goto (tgt := 44) hx hb d_Mod_narrowed_40 (by decide) ?_
        refine lv_iconst (v := 0) hx hb d_Mod_narrowed_44 (by decide) ?_
        refine ca_l [(md, .inr (5, [.ref xx, .int ln, .long R, .int rd, .ref mm, .ref nn, .int at0, .int en0])), (mm, .inl (cM, 3000, .inl (rw16 V))), (nn, .inl (cN, 3, .inl (rc V)))] (va_runS (As := [.long (kInf (knd 0)), .int (bI (blB 0 v)), .int 0]) (rest := []) ⟨hx, hb, hml, hown, hts⟩ (c_Mod_signed l D E (kInf (knd 0)) (bI (blB 0 v)) 0 H.size) (xS 3 hts kC_Mod_signed kM_Mod_112 kT_Mod_signed kN_Mod rfl rfl (by decide +kernel) ⟨Nat.le_of_ble_eq_true rfl, Nat.le_of_ble_eq_true rfl⟩) ⟨ct_blind hev, ct_pre hev hP hK hD hS hA hE [] rfl (by decide) [] rfl⟩ rfl rfl hl.1 rfl (lv_room (Nat.le_of_ble_eq_true rfl)) d_Mod_narrowed_45 ⟨Nat.le_of_ble_eq_true rfl, Nat.le_of_ble_eq_true rfl⟩) hP hD hS hA [] [0, 1, 2] rfl rfl (by decide) (by decide) (fun rv u H locs hw hP hD hS hK1 => ?_)
        subst hw
        have hP : va_P D vcl [(md, .inr (5, [.ref xx, .int ln, .long R, .int rd, .ref mm, .ref nn, .int at0, .int en0])), (mm, .inl (cM, 3000, .inl (rw16 V))), (nn, .inl (cN, 3, .inl (rc V)))] H := hP
        have hD : va_D A [(md, .inr (5, [.ref xx, .int ln, .long R, .int rd, .ref mm, .ref nn, .int at0, .int en0])), (mm, .inl (cM, 3000, .inl (rw16 V))), (nn, .inl (cN, 3, .inl (rc V)))] := hD
        exact rt_l hx hb hrt hlocks (V) (⟨by unfold cvN; rw [if_neg e1, if_pos e2]; rfl, hV⟩) (hP.sub [0, 1, 2] rfl) (hK.sub [0, 1] rfl) (hD.sub [0, 1, 2] (by decide) rfl) hS d_Mod_narrowed_48
  · have e1 : kIN 0 < szN 0 v := (pk_lLT (by omega) (by omega)).mp (Int64.not_le.mp (fun z => c12 ((lg_cmp_le _ _).mpr z)))
    refine lv_iconst (v := 0) hx hb d_Mod_narrowed_15 (by decide) ?_
    refine ca_l [(md, .inr (5, [.ref xx, .int ln, .long R, .int rd, .ref mm, .ref nn, .int at0, .int en0])), (mm, .inl (cM, 3000, .inl (rw16 V))), (nn, .inl (cN, 3, .inl (rc V)))] (va_runS (As := [.int 0]) (rest := []) ⟨hx, hb, hml, hown, hts⟩ (c_Mod_none l D E 0 H.size) (xS 1 hts kC_Mod_none kM_Mod_94 kT_Mod_none kN_Mod rfl rfl (by decide +kernel) ⟨Nat.le_of_ble_eq_true rfl, Nat.le_of_ble_eq_true rfl⟩) ⟨ct_blind hev, ct_pre hev hP hK hD hS hA hE [] rfl (by decide) [] rfl⟩ rfl rfl hl.1 rfl (lv_room (Nat.le_of_ble_eq_true rfl)) d_Mod_narrowed_16 ⟨Nat.le_of_ble_eq_true rfl, Nat.le_of_ble_eq_true rfl⟩) hP hD hS hA [] [0, 1, 2] rfl rfl (by decide) (by decide) (fun rv u H locs hw hP hD hS hK1 => ?_)
    subst hw
    have hP : va_P D vcl [(md, .inr (5, [.ref xx, .int ln, .long R, .int rd, .ref mm, .ref nn, .int at0, .int en0])), (mm, .inl (cM, 3000, .inl (rw16 V))), (nn, .inl (cN, 3, .inl (rc V)))] H := hP
    have hD : va_D A [(md, .inr (5, [.ref xx, .int ln, .long R, .int rd, .ref mm, .ref nn, .int at0, .int en0])), (mm, .inl (cM, 3000, .inl (rw16 V))), (nn, .inl (cN, 3, .inl (rc V)))] := hD
    exact rt_l hx hb hrt hlocks (V) (⟨by unfold cvN; rw [if_pos e1]; rfl, hV⟩) (hP.sub [0, 1, 2] rfl) (hK.sub [0, 1] rfl) (hD.sub [0, 1, 2] (by decide) rfl) hS d_Mod_narrowed_19

set_option maxHeartbeats 4000000 in
set_option maxRecDepth 100000 in
theorem c_Mod_widened (l : Launch) (D : va_G) (E : evD) (md xx mm nn : Nat) (cM cN : ClassId) (V : Nat → Nat) (ln rd at0 en0 : Int32) (R : Int64) (hV : okV V) (v : Nat) (hv : v < 2 ^ 64) : Cl (S := (Nat → Nat)) l y_Mod_widened (wz y_Mod_widened b_Mod_widened 6 (some .long)) ({ frames := 4, cells := 0, slots := 0, locals := 114 }) D vcl (ev1 E) [.ref md, .long (lN v)] [(cM, .int), (cN, .int)] [(md, .inr (5, [.ref xx, .int ln, .long R, .int rd, .ref mm, .ref nn, .int at0, .int en0])), (mm, .inl (cM, 3000, .inl (rw16 V))), (nn, .inl (cN, 3, .inl (rc V)))] 0 0 (fun (w : Int64) (V' : Nat → Nat) => w = cvN 1 0 v ∧ okV V') (fun _ => [(cM, .int), (cN, .int)]) (fun V' : Nat → Nat => [(md, .inr (5, [.ref xx, .int ln, .long R, .int rd, .ref mm, .ref nn, .int at0, .int en0])), (mm, .inl (cM, 3000, .inl (rw16 V'))), (nn, .inl (cN, 3, .inl (rc V')))]) := by
  have hev := ev1_ok E
  unfold Cl
  refine ct_of (y := y_Mod_widened) (av := [.ref md, .long (lN v)]) (cc := b_Mod_widened) (maxL := 6) (ret := (some .long)) (Qc := fun A => va_Ql (S := (Nat → Nat)) (fun (w : Int64) (V' : Nat → Nat) => w = cvN 1 0 v ∧ okV V') (fun u tS => ctB D vcl ((fun _ => [(cM, .int), (cN, .int)]) u) ((fun V' : Nat → Nat => [(md, .inr (5, [.ref xx, .int ln, .long R, .int rd, .ref mm, .ref nn, .int at0, .int en0])), (mm, .inl (cM, 3000, .inl (rw16 V'))), (nn, .inl (cN, 3, .inl (rc V')))]) u) A tS) A) (by decide) rfl (Nat.le_of_ble_eq_true rfl) ?_
  intro p ee s m below meth cde ls A H locs hx hb hml hrt hlocks hown hin hts hA hP hK hD hS hE hl
  have hown : s.vm.findClass R_Mod = some m.cls := hown
  have hts := wz_g hts
  have hl : lv_has ls 6 [(0, .ref md), (1, .long (lN v))] := hl
  have hsz := szN_lt (i := 1) (v := v) (by decide)
  have hin := kIN_63 1 (by decide)
  refine lv_lload_n hx hb d_Mod_widened_0 rfl (lv_at hl 1 rfl) ?_
  refine lv_ldc2 hx hb hown (hts _ kK_Mod_169) d_Mod_widened_1 ?_
  refine lv_land hx hb d_Mod_widened_4 ?_
  refine tv_l (lN (szN 1 v)) (by have h9 := sz_l (i := 1) (by decide) hv; rw [show kSign 1 - 1 = (2147483647 : Int64) by decide] at h9; exact h9) ?_
  refine lv_lstore_n (lv' := [(3, .long (lN (szN 1 v))), (0, .ref md), (1, .long (lN v))]) hx hb d_Mod_widened_5 rfl hl (by decide) rfl (fun ls hl => ?_)
  refine lv_lload_n hx hb d_Mod_widened_6 rfl (lv_at hl 2 rfl) ?_
  refine lv_ldc2 hx hb hown (hts _ kK_Mod_40) d_Mod_widened_7 ?_
  refine lv_land hx hb d_Mod_widened_10 ?_
  refine lv_lconst (v := 0) hx hb d_Mod_widened_11 (by decide) ?_
  refine W.lcmp hx hb d_Mod_widened_12 ?_
  refine lv_if_eq (tgt := 20) hx hb d_Mod_widened_13 (by decide) (fun c13 => ?_) (fun c13 => ?_)
  · have e9 : blB 1 v = false := decide_eq_false ((bl_l (i := 1) (by decide) hv).mp (by have := (lg_cmp_eq _ _).mp c13; exact this))
    refine lv_iconst (v := 0) hx hb d_Mod_widened_20 (by decide) ?_
    refine tv_i (bI (blB 1 v)) (by rw [e9]; rfl) ?_
    refine lv_istore (lv' := [(5, .int (bI (blB 1 v))), (3, .long (lN (szN 1 v))), (0, .ref md), (1, .long (lN v))]) hx hb d_Mod_widened_21 hl (by decide) rfl (fun ls hl => ?_)
    refine lv_lload_n hx hb d_Mod_widened_23 rfl (lv_at hl 1 rfl) ?_
    refine lv_iconst (v := 0) hx hb d_Mod_widened_24 (by decide) ?_
    refine ca_l [(md, .inr (5, [.ref xx, .int ln, .long R, .int rd, .ref mm, .ref nn, .int at0, .int en0])), (mm, .inl (cM, 3000, .inl (rw16 V))), (nn, .inl (cN, 3, .inl (rc V)))] (va_runS (As := [.int 0]) (rest := [.long (lN (szN 1 v))]) ⟨hx, hb, hml, hown, hts⟩ (c_Mod_infinite l D E 0 H.size) (xS 1 hts kC_Mod_infinite kM_Mod_46 kT_Mod_infinite kN_Mod rfl rfl (by decide +kernel) ⟨Nat.le_of_ble_eq_true rfl, Nat.le_of_ble_eq_true rfl⟩) ⟨ct_blind hev, ct_pre hev hP hK hD hS hA hE [] rfl (by decide) [] rfl⟩ rfl rfl hl.1 rfl (lv_room (Nat.le_of_ble_eq_true rfl)) d_Mod_widened_25 ⟨Nat.le_of_ble_eq_true rfl, Nat.le_of_ble_eq_true rfl⟩) hP hD hS hA [] [0, 1, 2] rfl rfl (by decide) (by decide) (fun rv u H locs hw hP hD hS hK1 => ?_)
    subst hw
    have hP : va_P D vcl [(md, .inr (5, [.ref xx, .int ln, .long R, .int rd, .ref mm, .ref nn, .int at0, .int en0])), (mm, .inl (cM, 3000, .inl (rw16 V))), (nn, .inl (cN, 3, .inl (rc V)))] H := hP
    have hD : va_D A [(md, .inr (5, [.ref xx, .int ln, .long R, .int rd, .ref mm, .ref nn, .int at0, .int en0])), (mm, .inl (cM, 3000, .inl (rw16 V))), (nn, .inl (cN, 3, .inl (rc V)))] := hD
    refine tv_l (lN (kIN 1)) (kf_I 1 (by decide)) ?_
    refine W.lcmp hx hb d_Mod_widened_28 ?_
    refine lv_if_le (tgt := 37) hx hb d_Mod_widened_29 (by decide) (fun c29 => ?_) (fun c29 => ?_)
    · have e1 : ¬ kIN 1 < szN 1 v := fun z => absurd ((pk_lLT (by omega) (by omega)).mpr z) (Int64.not_lt.mpr ((lg_cmp_le _ _).mp c29))
      refine lv_lload_n hx hb d_Mod_widened_37 rfl (lv_at hl 1 rfl) ?_
      refine lv_iconst (v := 0) hx hb d_Mod_widened_38 (by decide) ?_
      refine ca_l [(md, .inr (5, [.ref xx, .int ln, .long R, .int rd, .ref mm, .ref nn, .int at0, .int en0])), (mm, .inl (cM, 3000, .inl (rw16 V))), (nn, .inl (cN, 3, .inl (rc V)))] (va_runS (As := [.int 0]) (rest := [.long (lN (szN 1 v))]) ⟨hx, hb, hml, hown, hts⟩ (c_Mod_infinite l D E 0 H.size) (xS 1 hts kC_Mod_infinite kM_Mod_46 kT_Mod_infinite kN_Mod rfl rfl (by decide +kernel) ⟨Nat.le_of_ble_eq_true rfl, Nat.le_of_ble_eq_true rfl⟩) ⟨ct_blind hev, ct_pre hev hP hK hD hS hA hE [] rfl (by decide) [] rfl⟩ rfl rfl hl.1 rfl (lv_room (Nat.le_of_ble_eq_true rfl)) d_Mod_widened_39 ⟨Nat.le_of_ble_eq_true rfl, Nat.le_of_ble_eq_true rfl⟩) hP hD hS hA [] [0, 1, 2] rfl rfl (by decide) (by decide) (fun rv u H locs hw hP hD hS hK1 => ?_)
      subst hw
      have hP : va_P D vcl [(md, .inr (5, [.ref xx, .int ln, .long R, .int rd, .ref mm, .ref nn, .int at0, .int en0])), (mm, .inl (cM, 3000, .inl (rw16 V))), (nn, .inl (cN, 3, .inl (rc V)))] H := hP
      have hD : va_D A [(md, .inr (5, [.ref xx, .int ln, .long R, .int rd, .ref mm, .ref nn, .int at0, .int en0])), (mm, .inl (cM, 3000, .inl (rw16 V))), (nn, .inl (cN, 3, .inl (rc V)))] := hD
      refine tv_l (lN (kIN 1)) (kf_I 1 (by decide)) ?_
      refine W.lcmp hx hb d_Mod_widened_42 ?_
      refine lv_if_ne (tgt := 57) hx hb d_Mod_widened_43 (by decide) (fun c43 => ?_) (fun c43 => ?_)
      · have e2 : szN 1 v ≠ kIN 1 := fun z => c43 ((lg_cmp_eq _ _).mpr (by rw [z]))
        refine lv_aload_n hx hb d_Mod_widened_57 rfl (lv_at hl 2 rfl) ?_
        refine lv_lload_n hx hb d_Mod_widened_58 rfl (lv_at hl 1 rfl) ?_
        refine lv_bipush (v := 24) hx hb d_Mod_widened_59 (by decide) ?_
        refine tv_i (nI (kP 1)) (rfl) ?_
        refine lv_sipush (v := -149) hx hb d_Mod_widened_61 (by decide) ?_
        refine tv_i (zI (-(kLw 1 : Int))) (by decide) ?_
        refine ca_v [] (va_runV (As := [.long (lN (szN 1 v)), .int (nI (kP 1)), .int (zI (-(kLw 1 : Int)))]) (rest := []) ⟨hx, hb, hml, hown, hts⟩ (c_Mod_load l D E md xx mm nn cM cN V ln rd at0 en0 R 1 (by decide) hV (szN 1 v) (by omega) H.size) (xV 3 hts kC_Mod_load kM_Mod_165 kI_Mod_load kS_Mod_load kN_Mod rfl rfl (by decide +kernel) ⟨Nat.le_of_ble_eq_true rfl, Nat.le_of_ble_eq_true rfl⟩) ⟨ct_blind hev, va_recv hK hP (ci := 5) (q0 := 0) rfl rfl, ct_pre hev hP hK hD hS hA hE [0, 1, 2] rfl (by decide) [0, 1] rfl⟩ rfl rfl hl.1 rfl (lv_room (Nat.le_of_ble_eq_true rfl)) d_Mod_widened_64 ⟨Nat.le_of_ble_eq_true rfl, Nat.le_of_ble_eq_true rfl⟩) hP hD hS hA [0, 1, 2] [] rfl rfl (by decide) (by decide) (fun u H locs hw hP hD hS hK1 => ?_)
        obtain ⟨hVo, hV1, hVa, hVb, hVr⟩ := hw
        obtain ⟨V8, hV8⟩ : ∃ x : Nat → Nat, x = u := ⟨_, rfl⟩
        rw [← hV8] at hP hD hVo hV1 hVa hVb hVr
        have hP : va_P D vcl [(md, .inr (5, [.ref xx, .int ln, .long R, .int rd, .ref mm, .ref nn, .int at0, .int en0])), (mm, .inl (cM, 3000, .inl (rw16 V8))), (nn, .inl (cN, 3, .inl (rc V8)))] H := hP
        have hD : va_D A [(md, .inr (5, [.ref xx, .int ln, .long R, .int rd, .ref mm, .ref nn, .int at0, .int en0])), (mm, .inl (cM, 3000, .inl (rw16 V8))), (nn, .inl (cN, 3, .inl (rc V8)))] := hD
        refine lv_aload_n hx hb d_Mod_widened_67 rfl (lv_at hl 2 rfl) ?_
        refine lv_iconst (v := 1) hx hb d_Mod_widened_68 (by decide) ?_
        refine ca_l [] (va_runV (As := [.int 1]) (rest := []) ⟨hx, hb, hml, hown, hts⟩ (c_Mod_nearest l D E md xx mm nn cM cN V8 ln rd at0 en0 R 0 (by decide) 1 (rfl) (hV1) (hVo) (by omega) (by omega) H.size) (xV 1 hts kC_Mod_nearest kM_Mod_152 kI_Mod_nearest kS_Mod_nearest kN_Mod rfl rfl (by decide +kernel) ⟨Nat.le_of_ble_eq_true rfl, Nat.le_of_ble_eq_true rfl⟩) ⟨ct_blind hev, va_recv hK hP (ci := 5) (q0 := 0) rfl rfl, ct_pre hev hP hK hD hS hA hE [0, 1, 2] rfl (by decide) [0, 1] rfl⟩ rfl rfl hl.1 rfl (lv_room (Nat.le_of_ble_eq_true rfl)) d_Mod_widened_69 ⟨Nat.le_of_ble_eq_true rfl, Nat.le_of_ble_eq_true rfl⟩) hP hD hS hA [0, 1, 2] [] rfl rfl (by decide) (by decide) (fun rv u H locs hw hP hD hS hK1 => ?_)
        obtain ⟨hw, hVn⟩ := hw
        subst hw
        obtain ⟨V9, hV9⟩ : ∃ x : Nat → Nat, x = u := ⟨_, rfl⟩
        rw [← hV9] at hP hD hVn
        have hP : va_P D vcl [(md, .inr (5, [.ref xx, .int ln, .long R, .int rd, .ref mm, .ref nn, .int at0, .int en0])), (mm, .inl (cM, 3000, .inl (rw16 V9))), (nn, .inl (cN, 3, .inl (rc V9)))] H := hP
        have hD : va_D A [(md, .inr (5, [.ref xx, .int ln, .long R, .int rd, .ref mm, .ref nn, .int at0, .int en0])), (mm, .inl (cM, 3000, .inl (rw16 V9))), (nn, .inl (cN, 3, .inl (rc V9)))] := hD
        refine lv_iload hx hb d_Mod_widened_72 (lv_at hl 0 rfl) ?_
        refine lv_iconst (v := 1) hx hb d_Mod_widened_74 (by decide) ?_
        refine ca_l [(md, .inr (5, [.ref xx, .int ln, .long R, .int rd, .ref mm, .ref nn, .int at0, .int en0])), (mm, .inl (cM, 3000, .inl (rw16 V9))), (nn, .inl (cN, 3, .inl (rc V9)))] (va_runS (As := [.long (lN (rn (kP 0) (kZ 0) (V8 0 * 2 ^ kLw 0) (V8 1))), .int (bI (blB 1 v)), .int 1]) (rest := []) ⟨hx, hb, hml, hown, hts⟩ (c_Mod_signed l D E (lN (rn (kP 0) (kZ 0) (V8 0 * 2 ^ kLw 0) (V8 1))) (bI (blB 1 v)) 1 H.size) (xS 3 hts kC_Mod_signed kM_Mod_112 kT_Mod_signed kN_Mod rfl rfl (by decide +kernel) ⟨Nat.le_of_ble_eq_true rfl, Nat.le_of_ble_eq_true rfl⟩) ⟨ct_blind hev, ct_pre hev hP hK hD hS hA hE [] rfl (by decide) [] rfl⟩ rfl rfl hl.1 rfl (lv_room (Nat.le_of_ble_eq_true rfl)) d_Mod_widened_75 ⟨Nat.le_of_ble_eq_true rfl, Nat.le_of_ble_eq_true rfl⟩) hP hD hS hA [] [0, 1, 2] rfl rfl (by decide) (by decide) (fun rv u H locs hw hP hD hS hK1 => ?_)
        subst hw
        have hP : va_P D vcl [(md, .inr (5, [.ref xx, .int ln, .long R, .int rd, .ref mm, .ref nn, .int at0, .int en0])), (mm, .inl (cM, 3000, .inl (rw16 V9))), (nn, .inl (cN, 3, .inl (rc V9)))] H := hP
        have hD : va_D A [(md, .inr (5, [.ref xx, .int ln, .long R, .int rd, .ref mm, .ref nn, .int at0, .int en0])), (mm, .inl (cM, 3000, .inl (rw16 V9))), (nn, .inl (cN, 3, .inl (rc V9)))] := hD
        exact rt_l hx hb hrt hlocks (V9) (⟨by unfold cvN; rw [if_neg e1, if_neg e2, hVr]; rfl, hVn⟩) (hP.sub [0, 1, 2] rfl) (hK.sub [0, 1] rfl) (hD.sub [0, 1, 2] (by decide) rfl) hS d_Mod_widened_78
      · have e2 : szN 1 v = kIN 1 := (pk_lEQ (by omega) (by omega)).mp ((lg_cmp_eq _ _).mp c43)
        refine lv_iconst (v := 1) hx hb d_Mod_widened_46 (by decide) ?_
        refine ca_l [(md, .inr (5, [.ref xx, .int ln, .long R, .int rd, .ref mm, .ref nn, .int at0, .int en0])), (mm, .inl (cM, 3000, .inl (rw16 V))), (nn, .inl (cN, 3, .inl (rc V)))] (va_runS (As := [.int 1]) (rest := []) ⟨hx, hb, hml, hown, hts⟩ (c_Mod_infinite l D E 1 H.size) (xS 1 hts kC_Mod_infinite kM_Mod_46 kT_Mod_infinite kN_Mod rfl rfl (by decide +kernel) ⟨Nat.le_of_ble_eq_true rfl, Nat.le_of_ble_eq_true rfl⟩) ⟨ct_blind hev, ct_pre hev hP hK hD hS hA hE [] rfl (by decide) [] rfl⟩ rfl rfl hl.1 rfl (lv_room (Nat.le_of_ble_eq_true rfl)) d_Mod_widened_47 ⟨Nat.le_of_ble_eq_true rfl, Nat.le_of_ble_eq_true rfl⟩) hP hD hS hA [] [0, 1, 2] rfl rfl (by decide) (by decide) (fun rv u H locs hw hP hD hS hK1 => ?_)
        subst hw
        have hP : va_P D vcl [(md, .inr (5, [.ref xx, .int ln, .long R, .int rd, .ref mm, .ref nn, .int at0, .int en0])), (mm, .inl (cM, 3000, .inl (rw16 V))), (nn, .inl (cN, 3, .inl (rc V)))] H := hP
        have hD : va_D A [(md, .inr (5, [.ref xx, .int ln, .long R, .int rd, .ref mm, .ref nn, .int at0, .int en0])), (mm, .inl (cM, 3000, .inl (rw16 V))), (nn, .inl (cN, 3, .inl (rc V)))] := hD
        refine lv_iload hx hb d_Mod_widened_50 (lv_at hl 0 rfl) ?_
        refine lv_iconst (v := 1) hx hb d_Mod_widened_52 (by decide) ?_
        refine ca_l [(md, .inr (5, [.ref xx, .int ln, .long R, .int rd, .ref mm, .ref nn, .int at0, .int en0])), (mm, .inl (cM, 3000, .inl (rw16 V))), (nn, .inl (cN, 3, .inl (rc V)))] (va_runS (As := [.long (kInf (knd 1)), .int (bI (blB 1 v)), .int 1]) (rest := []) ⟨hx, hb, hml, hown, hts⟩ (c_Mod_signed l D E (kInf (knd 1)) (bI (blB 1 v)) 1 H.size) (xS 3 hts kC_Mod_signed kM_Mod_112 kT_Mod_signed kN_Mod rfl rfl (by decide +kernel) ⟨Nat.le_of_ble_eq_true rfl, Nat.le_of_ble_eq_true rfl⟩) ⟨ct_blind hev, ct_pre hev hP hK hD hS hA hE [] rfl (by decide) [] rfl⟩ rfl rfl hl.1 rfl (lv_room (Nat.le_of_ble_eq_true rfl)) d_Mod_widened_53 ⟨Nat.le_of_ble_eq_true rfl, Nat.le_of_ble_eq_true rfl⟩) hP hD hS hA [] [0, 1, 2] rfl rfl (by decide) (by decide) (fun rv u H locs hw hP hD hS hK1 => ?_)
        subst hw
        have hP : va_P D vcl [(md, .inr (5, [.ref xx, .int ln, .long R, .int rd, .ref mm, .ref nn, .int at0, .int en0])), (mm, .inl (cM, 3000, .inl (rw16 V))), (nn, .inl (cN, 3, .inl (rc V)))] H := hP
        have hD : va_D A [(md, .inr (5, [.ref xx, .int ln, .long R, .int rd, .ref mm, .ref nn, .int at0, .int en0])), (mm, .inl (cM, 3000, .inl (rw16 V))), (nn, .inl (cN, 3, .inl (rc V)))] := hD
        exact rt_l hx hb hrt hlocks (V) (⟨by unfold cvN; rw [if_neg e1, if_pos e2]; rfl, hV⟩) (hP.sub [0, 1, 2] rfl) (hK.sub [0, 1] rfl) (hD.sub [0, 1, 2] (by decide) rfl) hS d_Mod_widened_56
    · have e1 : kIN 1 < szN 1 v := (pk_lLT (by omega) (by omega)).mp (Int64.not_le.mp (fun z => c29 ((lg_cmp_le _ _).mpr z)))
      refine lv_iconst (v := 1) hx hb d_Mod_widened_32 (by decide) ?_
      refine ca_l [(md, .inr (5, [.ref xx, .int ln, .long R, .int rd, .ref mm, .ref nn, .int at0, .int en0])), (mm, .inl (cM, 3000, .inl (rw16 V))), (nn, .inl (cN, 3, .inl (rc V)))] (va_runS (As := [.int 1]) (rest := []) ⟨hx, hb, hml, hown, hts⟩ (c_Mod_none l D E 1 H.size) (xS 1 hts kC_Mod_none kM_Mod_94 kT_Mod_none kN_Mod rfl rfl (by decide +kernel) ⟨Nat.le_of_ble_eq_true rfl, Nat.le_of_ble_eq_true rfl⟩) ⟨ct_blind hev, ct_pre hev hP hK hD hS hA hE [] rfl (by decide) [] rfl⟩ rfl rfl hl.1 rfl (lv_room (Nat.le_of_ble_eq_true rfl)) d_Mod_widened_33 ⟨Nat.le_of_ble_eq_true rfl, Nat.le_of_ble_eq_true rfl⟩) hP hD hS hA [] [0, 1, 2] rfl rfl (by decide) (by decide) (fun rv u H locs hw hP hD hS hK1 => ?_)
      subst hw
      have hP : va_P D vcl [(md, .inr (5, [.ref xx, .int ln, .long R, .int rd, .ref mm, .ref nn, .int at0, .int en0])), (mm, .inl (cM, 3000, .inl (rw16 V))), (nn, .inl (cN, 3, .inl (rc V)))] H := hP
      have hD : va_D A [(md, .inr (5, [.ref xx, .int ln, .long R, .int rd, .ref mm, .ref nn, .int at0, .int en0])), (mm, .inl (cM, 3000, .inl (rw16 V))), (nn, .inl (cN, 3, .inl (rc V)))] := hD
      exact rt_l hx hb hrt hlocks (V) (⟨by unfold cvN; rw [if_pos e1]; rfl, hV⟩) (hP.sub [0, 1, 2] rfl) (hK.sub [0, 1] rfl) (hD.sub [0, 1, 2] (by decide) rfl) hS d_Mod_widened_36
  · have e9 : blB 1 v = true := decide_eq_true (Classical.byContradiction (fun z => c13 ((lg_cmp_eq _ _).mpr ((bl_l (i := 1) (by decide) hv).mpr z))))
    refine lv_iconst (v := 1) hx hb d_Mod_widened_16 (by decide) ?_
    refine tv_i (bI (blB 1 v)) (by rw [e9]; rfl) ?_
    refine lv_goto (tgt := 21) hx hb d_Mod_widened_17 (by decide) ?_
    refine lv_istore (lv' := [(5, .int (bI (blB 1 v))), (3, .long (lN (szN 1 v))), (0, .ref md), (1, .long (lN v))]) hx hb d_Mod_widened_21 hl (by decide) rfl (fun ls hl => ?_)
    refine lv_lload_n hx hb d_Mod_widened_23 rfl (lv_at hl 1 rfl) ?_
    refine lv_iconst (v := 0) hx hb d_Mod_widened_24 (by decide) ?_
    refine ca_l [(md, .inr (5, [.ref xx, .int ln, .long R, .int rd, .ref mm, .ref nn, .int at0, .int en0])), (mm, .inl (cM, 3000, .inl (rw16 V))), (nn, .inl (cN, 3, .inl (rc V)))] (va_runS (As := [.int 0]) (rest := [.long (lN (szN 1 v))]) ⟨hx, hb, hml, hown, hts⟩ (c_Mod_infinite l D E 0 H.size) (xS 1 hts kC_Mod_infinite kM_Mod_46 kT_Mod_infinite kN_Mod rfl rfl (by decide +kernel) ⟨Nat.le_of_ble_eq_true rfl, Nat.le_of_ble_eq_true rfl⟩) ⟨ct_blind hev, ct_pre hev hP hK hD hS hA hE [] rfl (by decide) [] rfl⟩ rfl rfl hl.1 rfl (lv_room (Nat.le_of_ble_eq_true rfl)) d_Mod_widened_25 ⟨Nat.le_of_ble_eq_true rfl, Nat.le_of_ble_eq_true rfl⟩) hP hD hS hA [] [0, 1, 2] rfl rfl (by decide) (by decide) (fun rv u H locs hw hP hD hS hK1 => ?_)
    subst hw
    have hP : va_P D vcl [(md, .inr (5, [.ref xx, .int ln, .long R, .int rd, .ref mm, .ref nn, .int at0, .int en0])), (mm, .inl (cM, 3000, .inl (rw16 V))), (nn, .inl (cN, 3, .inl (rc V)))] H := hP
    have hD : va_D A [(md, .inr (5, [.ref xx, .int ln, .long R, .int rd, .ref mm, .ref nn, .int at0, .int en0])), (mm, .inl (cM, 3000, .inl (rw16 V))), (nn, .inl (cN, 3, .inl (rc V)))] := hD
    refine tv_l (lN (kIN 1)) (kf_I 1 (by decide)) ?_
    refine W.lcmp hx hb d_Mod_widened_28 ?_
    refine lv_if_le (tgt := 37) hx hb d_Mod_widened_29 (by decide) (fun c29 => ?_) (fun c29 => ?_)
    · have e1 : ¬ kIN 1 < szN 1 v := fun z => absurd ((pk_lLT (by omega) (by omega)).mpr z) (Int64.not_lt.mpr ((lg_cmp_le _ _).mp c29))
      refine lv_lload_n hx hb d_Mod_widened_37 rfl (lv_at hl 1 rfl) ?_
      refine lv_iconst (v := 0) hx hb d_Mod_widened_38 (by decide) ?_
      refine ca_l [(md, .inr (5, [.ref xx, .int ln, .long R, .int rd, .ref mm, .ref nn, .int at0, .int en0])), (mm, .inl (cM, 3000, .inl (rw16 V))), (nn, .inl (cN, 3, .inl (rc V)))] (va_runS (As := [.int 0]) (rest := [.long (lN (szN 1 v))]) ⟨hx, hb, hml, hown, hts⟩ (c_Mod_infinite l D E 0 H.size) (xS 1 hts kC_Mod_infinite kM_Mod_46 kT_Mod_infinite kN_Mod rfl rfl (by decide +kernel) ⟨Nat.le_of_ble_eq_true rfl, Nat.le_of_ble_eq_true rfl⟩) ⟨ct_blind hev, ct_pre hev hP hK hD hS hA hE [] rfl (by decide) [] rfl⟩ rfl rfl hl.1 rfl (lv_room (Nat.le_of_ble_eq_true rfl)) d_Mod_widened_39 ⟨Nat.le_of_ble_eq_true rfl, Nat.le_of_ble_eq_true rfl⟩) hP hD hS hA [] [0, 1, 2] rfl rfl (by decide) (by decide) (fun rv u H locs hw hP hD hS hK1 => ?_)
      subst hw
      have hP : va_P D vcl [(md, .inr (5, [.ref xx, .int ln, .long R, .int rd, .ref mm, .ref nn, .int at0, .int en0])), (mm, .inl (cM, 3000, .inl (rw16 V))), (nn, .inl (cN, 3, .inl (rc V)))] H := hP
      have hD : va_D A [(md, .inr (5, [.ref xx, .int ln, .long R, .int rd, .ref mm, .ref nn, .int at0, .int en0])), (mm, .inl (cM, 3000, .inl (rw16 V))), (nn, .inl (cN, 3, .inl (rc V)))] := hD
      refine tv_l (lN (kIN 1)) (kf_I 1 (by decide)) ?_
      refine W.lcmp hx hb d_Mod_widened_42 ?_
      refine lv_if_ne (tgt := 57) hx hb d_Mod_widened_43 (by decide) (fun c43 => ?_) (fun c43 => ?_)
      · have e2 : szN 1 v ≠ kIN 1 := fun z => c43 ((lg_cmp_eq _ _).mpr (by rw [z]))
        refine lv_aload_n hx hb d_Mod_widened_57 rfl (lv_at hl 2 rfl) ?_
        refine lv_lload_n hx hb d_Mod_widened_58 rfl (lv_at hl 1 rfl) ?_
        refine lv_bipush (v := 24) hx hb d_Mod_widened_59 (by decide) ?_
        refine tv_i (nI (kP 1)) (rfl) ?_
        refine lv_sipush (v := -149) hx hb d_Mod_widened_61 (by decide) ?_
        refine tv_i (zI (-(kLw 1 : Int))) (by decide) ?_
        refine ca_v [] (va_runV (As := [.long (lN (szN 1 v)), .int (nI (kP 1)), .int (zI (-(kLw 1 : Int)))]) (rest := []) ⟨hx, hb, hml, hown, hts⟩ (c_Mod_load l D E md xx mm nn cM cN V ln rd at0 en0 R 1 (by decide) hV (szN 1 v) (by omega) H.size) (xV 3 hts kC_Mod_load kM_Mod_165 kI_Mod_load kS_Mod_load kN_Mod rfl rfl (by decide +kernel) ⟨Nat.le_of_ble_eq_true rfl, Nat.le_of_ble_eq_true rfl⟩) ⟨ct_blind hev, va_recv hK hP (ci := 5) (q0 := 0) rfl rfl, ct_pre hev hP hK hD hS hA hE [0, 1, 2] rfl (by decide) [0, 1] rfl⟩ rfl rfl hl.1 rfl (lv_room (Nat.le_of_ble_eq_true rfl)) d_Mod_widened_64 ⟨Nat.le_of_ble_eq_true rfl, Nat.le_of_ble_eq_true rfl⟩) hP hD hS hA [0, 1, 2] [] rfl rfl (by decide) (by decide) (fun u H locs hw hP hD hS hK1 => ?_)
        obtain ⟨hVo, hV1, hVa, hVb, hVr⟩ := hw
        obtain ⟨V8, hV8⟩ : ∃ x : Nat → Nat, x = u := ⟨_, rfl⟩
        rw [← hV8] at hP hD hVo hV1 hVa hVb hVr
        have hP : va_P D vcl [(md, .inr (5, [.ref xx, .int ln, .long R, .int rd, .ref mm, .ref nn, .int at0, .int en0])), (mm, .inl (cM, 3000, .inl (rw16 V8))), (nn, .inl (cN, 3, .inl (rc V8)))] H := hP
        have hD : va_D A [(md, .inr (5, [.ref xx, .int ln, .long R, .int rd, .ref mm, .ref nn, .int at0, .int en0])), (mm, .inl (cM, 3000, .inl (rw16 V8))), (nn, .inl (cN, 3, .inl (rc V8)))] := hD
        refine lv_aload_n hx hb d_Mod_widened_67 rfl (lv_at hl 2 rfl) ?_
        refine lv_iconst (v := 1) hx hb d_Mod_widened_68 (by decide) ?_
        refine ca_l [] (va_runV (As := [.int 1]) (rest := []) ⟨hx, hb, hml, hown, hts⟩ (c_Mod_nearest l D E md xx mm nn cM cN V8 ln rd at0 en0 R 0 (by decide) 1 (rfl) (hV1) (hVo) (by omega) (by omega) H.size) (xV 1 hts kC_Mod_nearest kM_Mod_152 kI_Mod_nearest kS_Mod_nearest kN_Mod rfl rfl (by decide +kernel) ⟨Nat.le_of_ble_eq_true rfl, Nat.le_of_ble_eq_true rfl⟩) ⟨ct_blind hev, va_recv hK hP (ci := 5) (q0 := 0) rfl rfl, ct_pre hev hP hK hD hS hA hE [0, 1, 2] rfl (by decide) [0, 1] rfl⟩ rfl rfl hl.1 rfl (lv_room (Nat.le_of_ble_eq_true rfl)) d_Mod_widened_69 ⟨Nat.le_of_ble_eq_true rfl, Nat.le_of_ble_eq_true rfl⟩) hP hD hS hA [0, 1, 2] [] rfl rfl (by decide) (by decide) (fun rv u H locs hw hP hD hS hK1 => ?_)
        obtain ⟨hw, hVn⟩ := hw
        subst hw
        obtain ⟨V9, hV9⟩ : ∃ x : Nat → Nat, x = u := ⟨_, rfl⟩
        rw [← hV9] at hP hD hVn
        have hP : va_P D vcl [(md, .inr (5, [.ref xx, .int ln, .long R, .int rd, .ref mm, .ref nn, .int at0, .int en0])), (mm, .inl (cM, 3000, .inl (rw16 V9))), (nn, .inl (cN, 3, .inl (rc V9)))] H := hP
        have hD : va_D A [(md, .inr (5, [.ref xx, .int ln, .long R, .int rd, .ref mm, .ref nn, .int at0, .int en0])), (mm, .inl (cM, 3000, .inl (rw16 V9))), (nn, .inl (cN, 3, .inl (rc V9)))] := hD
        refine lv_iload hx hb d_Mod_widened_72 (lv_at hl 0 rfl) ?_
        refine lv_iconst (v := 1) hx hb d_Mod_widened_74 (by decide) ?_
        refine ca_l [(md, .inr (5, [.ref xx, .int ln, .long R, .int rd, .ref mm, .ref nn, .int at0, .int en0])), (mm, .inl (cM, 3000, .inl (rw16 V9))), (nn, .inl (cN, 3, .inl (rc V9)))] (va_runS (As := [.long (lN (rn (kP 0) (kZ 0) (V8 0 * 2 ^ kLw 0) (V8 1))), .int (bI (blB 1 v)), .int 1]) (rest := []) ⟨hx, hb, hml, hown, hts⟩ (c_Mod_signed l D E (lN (rn (kP 0) (kZ 0) (V8 0 * 2 ^ kLw 0) (V8 1))) (bI (blB 1 v)) 1 H.size) (xS 3 hts kC_Mod_signed kM_Mod_112 kT_Mod_signed kN_Mod rfl rfl (by decide +kernel) ⟨Nat.le_of_ble_eq_true rfl, Nat.le_of_ble_eq_true rfl⟩) ⟨ct_blind hev, ct_pre hev hP hK hD hS hA hE [] rfl (by decide) [] rfl⟩ rfl rfl hl.1 rfl (lv_room (Nat.le_of_ble_eq_true rfl)) d_Mod_widened_75 ⟨Nat.le_of_ble_eq_true rfl, Nat.le_of_ble_eq_true rfl⟩) hP hD hS hA [] [0, 1, 2] rfl rfl (by decide) (by decide) (fun rv u H locs hw hP hD hS hK1 => ?_)
        subst hw
        have hP : va_P D vcl [(md, .inr (5, [.ref xx, .int ln, .long R, .int rd, .ref mm, .ref nn, .int at0, .int en0])), (mm, .inl (cM, 3000, .inl (rw16 V9))), (nn, .inl (cN, 3, .inl (rc V9)))] H := hP
        have hD : va_D A [(md, .inr (5, [.ref xx, .int ln, .long R, .int rd, .ref mm, .ref nn, .int at0, .int en0])), (mm, .inl (cM, 3000, .inl (rw16 V9))), (nn, .inl (cN, 3, .inl (rc V9)))] := hD
        exact rt_l hx hb hrt hlocks (V9) (⟨by unfold cvN; rw [if_neg e1, if_neg e2, hVr]; rfl, hVn⟩) (hP.sub [0, 1, 2] rfl) (hK.sub [0, 1] rfl) (hD.sub [0, 1, 2] (by decide) rfl) hS d_Mod_widened_78
      · have e2 : szN 1 v = kIN 1 := (pk_lEQ (by omega) (by omega)).mp ((lg_cmp_eq _ _).mp c43)
        refine lv_iconst (v := 1) hx hb d_Mod_widened_46 (by decide) ?_
        refine ca_l [(md, .inr (5, [.ref xx, .int ln, .long R, .int rd, .ref mm, .ref nn, .int at0, .int en0])), (mm, .inl (cM, 3000, .inl (rw16 V))), (nn, .inl (cN, 3, .inl (rc V)))] (va_runS (As := [.int 1]) (rest := []) ⟨hx, hb, hml, hown, hts⟩ (c_Mod_infinite l D E 1 H.size) (xS 1 hts kC_Mod_infinite kM_Mod_46 kT_Mod_infinite kN_Mod rfl rfl (by decide +kernel) ⟨Nat.le_of_ble_eq_true rfl, Nat.le_of_ble_eq_true rfl⟩) ⟨ct_blind hev, ct_pre hev hP hK hD hS hA hE [] rfl (by decide) [] rfl⟩ rfl rfl hl.1 rfl (lv_room (Nat.le_of_ble_eq_true rfl)) d_Mod_widened_47 ⟨Nat.le_of_ble_eq_true rfl, Nat.le_of_ble_eq_true rfl⟩) hP hD hS hA [] [0, 1, 2] rfl rfl (by decide) (by decide) (fun rv u H locs hw hP hD hS hK1 => ?_)
        subst hw
        have hP : va_P D vcl [(md, .inr (5, [.ref xx, .int ln, .long R, .int rd, .ref mm, .ref nn, .int at0, .int en0])), (mm, .inl (cM, 3000, .inl (rw16 V))), (nn, .inl (cN, 3, .inl (rc V)))] H := hP
        have hD : va_D A [(md, .inr (5, [.ref xx, .int ln, .long R, .int rd, .ref mm, .ref nn, .int at0, .int en0])), (mm, .inl (cM, 3000, .inl (rw16 V))), (nn, .inl (cN, 3, .inl (rc V)))] := hD
        refine lv_iload hx hb d_Mod_widened_50 (lv_at hl 0 rfl) ?_
        refine lv_iconst (v := 1) hx hb d_Mod_widened_52 (by decide) ?_
        refine ca_l [(md, .inr (5, [.ref xx, .int ln, .long R, .int rd, .ref mm, .ref nn, .int at0, .int en0])), (mm, .inl (cM, 3000, .inl (rw16 V))), (nn, .inl (cN, 3, .inl (rc V)))] (va_runS (As := [.long (kInf (knd 1)), .int (bI (blB 1 v)), .int 1]) (rest := []) ⟨hx, hb, hml, hown, hts⟩ (c_Mod_signed l D E (kInf (knd 1)) (bI (blB 1 v)) 1 H.size) (xS 3 hts kC_Mod_signed kM_Mod_112 kT_Mod_signed kN_Mod rfl rfl (by decide +kernel) ⟨Nat.le_of_ble_eq_true rfl, Nat.le_of_ble_eq_true rfl⟩) ⟨ct_blind hev, ct_pre hev hP hK hD hS hA hE [] rfl (by decide) [] rfl⟩ rfl rfl hl.1 rfl (lv_room (Nat.le_of_ble_eq_true rfl)) d_Mod_widened_53 ⟨Nat.le_of_ble_eq_true rfl, Nat.le_of_ble_eq_true rfl⟩) hP hD hS hA [] [0, 1, 2] rfl rfl (by decide) (by decide) (fun rv u H locs hw hP hD hS hK1 => ?_)
        subst hw
        have hP : va_P D vcl [(md, .inr (5, [.ref xx, .int ln, .long R, .int rd, .ref mm, .ref nn, .int at0, .int en0])), (mm, .inl (cM, 3000, .inl (rw16 V))), (nn, .inl (cN, 3, .inl (rc V)))] H := hP
        have hD : va_D A [(md, .inr (5, [.ref xx, .int ln, .long R, .int rd, .ref mm, .ref nn, .int at0, .int en0])), (mm, .inl (cM, 3000, .inl (rw16 V))), (nn, .inl (cN, 3, .inl (rc V)))] := hD
        exact rt_l hx hb hrt hlocks (V) (⟨by unfold cvN; rw [if_neg e1, if_pos e2]; rfl, hV⟩) (hP.sub [0, 1, 2] rfl) (hK.sub [0, 1] rfl) (hD.sub [0, 1, 2] (by decide) rfl) hS d_Mod_widened_56
    · have e1 : kIN 1 < szN 1 v := (pk_lLT (by omega) (by omega)).mp (Int64.not_le.mp (fun z => c29 ((lg_cmp_le _ _).mpr z)))
      refine lv_iconst (v := 1) hx hb d_Mod_widened_32 (by decide) ?_
      refine ca_l [(md, .inr (5, [.ref xx, .int ln, .long R, .int rd, .ref mm, .ref nn, .int at0, .int en0])), (mm, .inl (cM, 3000, .inl (rw16 V))), (nn, .inl (cN, 3, .inl (rc V)))] (va_runS (As := [.int 1]) (rest := []) ⟨hx, hb, hml, hown, hts⟩ (c_Mod_none l D E 1 H.size) (xS 1 hts kC_Mod_none kM_Mod_94 kT_Mod_none kN_Mod rfl rfl (by decide +kernel) ⟨Nat.le_of_ble_eq_true rfl, Nat.le_of_ble_eq_true rfl⟩) ⟨ct_blind hev, ct_pre hev hP hK hD hS hA hE [] rfl (by decide) [] rfl⟩ rfl rfl hl.1 rfl (lv_room (Nat.le_of_ble_eq_true rfl)) d_Mod_widened_33 ⟨Nat.le_of_ble_eq_true rfl, Nat.le_of_ble_eq_true rfl⟩) hP hD hS hA [] [0, 1, 2] rfl rfl (by decide) (by decide) (fun rv u H locs hw hP hD hS hK1 => ?_)
      subst hw
      have hP : va_P D vcl [(md, .inr (5, [.ref xx, .int ln, .long R, .int rd, .ref mm, .ref nn, .int at0, .int en0])), (mm, .inl (cM, 3000, .inl (rw16 V))), (nn, .inl (cN, 3, .inl (rc V)))] H := hP
      have hD : va_D A [(md, .inr (5, [.ref xx, .int ln, .long R, .int rd, .ref mm, .ref nn, .int at0, .int en0])), (mm, .inl (cM, 3000, .inl (rw16 V))), (nn, .inl (cN, 3, .inl (rc V)))] := hD
      exact rt_l hx hb hrt hlocks (V) (⟨by unfold cvN; rw [if_pos e1]; rfl, hV⟩) (hP.sub [0, 1, 2] rfl) (hK.sub [0, 1] rfl) (hD.sub [0, 1, 2] (by decide) rfl) hS d_Mod_widened_36

theorem knd_lt (wd : Int32) : knd wd < 2 := by unfold knd; split <;> decide
set_option maxHeartbeats 4000000 in
set_option maxRecDepth 100000 in
theorem c_Mod_quotient (l : Launch) (D : va_G) (E : evD) (md xx mm nn : Nat) (cM cN : ClassId) (V : Nat → Nat) (ln rd at0 en0 : Int32) (R : Int64) (hV : okV V) (aa bb : Nat) (ha64 : aa < 2 ^ 64) (hb64 : bb < 2 ^ 64) (wd : Int32) : Cl (S := (Nat → Nat)) l y_Mod_quotient (wz y_Mod_quotient b_Mod_quotient 6 (some .long)) ({ frames := 4, cells := 0, slots := 0, locals := 114 }) D vcl (ev1 E) [.ref md, .long (lN aa), .long (lN bb), .int wd] [(cM, .int), (cN, .int)] [(md, .inr (5, [.ref xx, .int ln, .long R, .int rd, .ref mm, .ref nn, .int at0, .int en0])), (mm, .inl (cM, 3000, .inl (rw16 V))), (nn, .inl (cN, 3, .inl (rc V)))] 0 0 (fun (w : Int64) (V' : Nat → Nat) => w = qtN (knd wd) aa bb ∧ okV V') (fun _ => [(cM, .int), (cN, .int)]) (fun V' : Nat → Nat => [(md, .inr (5, [.ref xx, .int ln, .long R, .int rd, .ref mm, .ref nn, .int at0, .int en0])), (mm, .inl (cM, 3000, .inl (rw16 V'))), (nn, .inl (cN, 3, .inl (rc V')))]) := by
  have hev := ev1_ok E
  unfold Cl
  refine ct_of (y := y_Mod_quotient) (av := [.ref md, .long (lN aa), .long (lN bb), .int wd]) (cc := b_Mod_quotient) (maxL := 6) (ret := (some .long)) (Qc := fun A => va_Ql (S := (Nat → Nat)) (fun (w : Int64) (V' : Nat → Nat) => w = qtN (knd wd) aa bb ∧ okV V') (fun u tS => ctB D vcl ((fun _ => [(cM, .int), (cN, .int)]) u) ((fun V' : Nat → Nat => [(md, .inr (5, [.ref xx, .int ln, .long R, .int rd, .ref mm, .ref nn, .int at0, .int en0])), (mm, .inl (cM, 3000, .inl (rw16 V'))), (nn, .inl (cN, 3, .inl (rc V')))]) u) A tS) A) (by decide) rfl (Nat.le_of_ble_eq_true rfl) ?_
  intro p ee s m below meth cde ls A H locs hx hb hml hrt hlocks hown hin hts hA hP hK hD hS hE hl
  have hown : s.vm.findClass R_Mod = some m.cls := hown
  have hts := wz_g hts
  have hl : lv_has ls 6 [(0, .ref md), (1, .long (lN aa)), (3, .long (lN bb)), (5, .int wd)] := hl
  refine lv_lload_n hx hb d_Mod_quotient_0 rfl (lv_at hl 1 rfl) ?_
  refine lv_lconst (v := 0) hx hb d_Mod_quotient_1 (by decide) ?_
  refine W.lcmp hx hb d_Mod_quotient_2 ?_
  refine lv_if_ne (tgt := 22) hx hb d_Mod_quotient_3 (by decide) (fun c3 => ?_) (fun c3 => ?_)
  · have e3 : aa ≠ 0 := fun z => c3 ((lg_cmp_eq _ _).mpr (by rw [z]; rfl))
    refine lv_lload_n hx hb d_Mod_quotient_22 rfl (lv_at hl 2 rfl) ?_
    refine lv_lconst (v := 0) hx hb d_Mod_quotient_23 (by decide) ?_
    refine W.lcmp hx hb d_Mod_quotient_24 ?_
    refine lv_if_ne (tgt := 50) hx hb d_Mod_quotient_25 (by decide) (fun c25 => ?_) (fun c25 => ?_)
    · have e25 : bb ≠ 0 := fun z => c25 ((lg_cmp_eq _ _).mpr (by rw [z]; rfl))
      refine lv_aload_n hx hb d_Mod_quotient_50 rfl (lv_at hl 0 rfl) ?_
      refine lv_iconst (v := 0) hx hb d_Mod_quotient_51 (by decide) ?_
      refine tv_i (nI 0) (rfl) ?_
      refine lv_lload_n hx hb d_Mod_quotient_52 rfl (lv_at hl 1 rfl) ?_
      refine lv_lconst (v := 0) hx hb d_Mod_quotient_53 (by decide) ?_
      refine W.lcmp hx hb d_Mod_quotient_54 ?_
      refine lv_if_ge (tgt := 63) hx hb d_Mod_quotient_55 (by decide) (fun c55 => ?_) (fun c55 => ?_)
      · have e55 : ¬ 9223372036854775808 ≤ aa := fun z => absurd ((ng_l (by omega)).mpr z) (Int64.not_lt.mpr ((lg_cmp_ge _ _).mp c55))
        refine lv_lload_n hx hb d_Mod_quotient_63 rfl (lv_at hl 1 rfl) ?_
        refine tv_l (lN (ua aa)) (by unfold ua; rw [if_pos (by omega)]) ?_
        refine ca_v [] (va_runV (As := [.int (nI 0), .long (lN (ua aa))]) (rest := []) ⟨hx, hb, hml, hown, hts⟩ (c_Mod_set l D E md xx mm nn cM cN V ln rd at0 en0 R 0 (ua aa) (by decide) (Nat.lt_of_lt_of_le (lc_lt _) (p16_le (by have := hV 0 (by decide); omega))) ((ua_pos (by omega) e3).2.1) H.size) (xV 2 hts kC_Mod_set kM_Mod_138 kI_Mod_set kS_Mod_set kN_Mod rfl rfl (by decide +kernel) ⟨Nat.le_of_ble_eq_true rfl, Nat.le_of_ble_eq_true rfl⟩) ⟨ct_blind hev, va_recv hK hP (ci := 5) (q0 := 0) rfl rfl, ct_pre hev hP hK hD hS hA hE [0, 1, 2] rfl (by decide) [0, 1] rfl⟩ rfl rfl hl.1 rfl (lv_room (Nat.le_of_ble_eq_true rfl)) d_Mod_quotient_64 ⟨Nat.le_of_ble_eq_true rfl, Nat.le_of_ble_eq_true rfl⟩) hP hD hS hA [0, 1, 2] [] rfl rfl (by decide) (by decide) (fun u H locs hw hP hD hS hK1 => ?_)
        have hP : va_P D vcl [(md, .inr (5, [.ref xx, .int ln, .long R, .int rd, .ref mm, .ref nn, .int at0, .int en0])), (mm, .inl (cM, 3000, .inl (rw16 (upR V 0 (ua aa))))), (nn, .inl (cN, 3, .inl (rc (upR V 0 (ua aa)))))] H := hP
        have hD : va_D A [(md, .inr (5, [.ref xx, .int ln, .long R, .int rd, .ref mm, .ref nn, .int at0, .int en0])), (mm, .inl (cM, 3000, .inl (rw16 (upR V 0 (ua aa))))), (nn, .inl (cN, 3, .inl (rc (upR V 0 (ua aa)))))] := hD
        refine lv_aload_n hx hb d_Mod_quotient_67 rfl (lv_at hl 0 rfl) ?_
        refine lv_iconst (v := 1) hx hb d_Mod_quotient_68 (by decide) ?_
        refine tv_i (nI 1) (rfl) ?_
        refine lv_lload_n hx hb d_Mod_quotient_69 rfl (lv_at hl 2 rfl) ?_
        refine lv_lconst (v := 0) hx hb d_Mod_quotient_70 (by decide) ?_
        refine W.lcmp hx hb d_Mod_quotient_71 ?_
        refine lv_if_ge (tgt := 80) hx hb d_Mod_quotient_72 (by decide) (fun c72 => ?_) (fun c72 => ?_)
        · have e72 : ¬ 9223372036854775808 ≤ bb := fun z => absurd ((ng_l (by omega)).mpr z) (Int64.not_lt.mpr ((lg_cmp_ge _ _).mp c72))
          refine lv_lload_n hx hb d_Mod_quotient_80 rfl (lv_at hl 2 rfl) ?_
          refine tv_l (lN (ua bb)) (by unfold ua; rw [if_pos (by omega)]) ?_
          refine ca_v [] (va_runV (As := [.int (nI 1), .long (lN (ua bb))]) (rest := []) ⟨hx, hb, hml, hown, hts⟩ (c_Mod_set l D E md xx mm nn cM cN (upR V 0 (ua aa)) ln rd at0 en0 R 1 (ua bb) (by decide) (by rw [upR_n (by decide)]; exact Nat.lt_of_lt_of_le (lc_lt _) (p16_le (by have := hV 1 (by decide); omega))) ((ua_pos (by omega) e25).2.1) H.size) (xV 2 hts kC_Mod_set kM_Mod_138 kI_Mod_set kS_Mod_set kN_Mod rfl rfl (by decide +kernel) ⟨Nat.le_of_ble_eq_true rfl, Nat.le_of_ble_eq_true rfl⟩) ⟨ct_blind hev, va_recv hK hP (ci := 5) (q0 := 0) rfl rfl, ct_pre hev hP hK hD hS hA hE [0, 1, 2] rfl (by decide) [0, 1] rfl⟩ rfl rfl hl.1 rfl (lv_room (Nat.le_of_ble_eq_true rfl)) d_Mod_quotient_81 ⟨Nat.le_of_ble_eq_true rfl, Nat.le_of_ble_eq_true rfl⟩) hP hD hS hA [0, 1, 2] [] rfl rfl (by decide) (by decide) (fun u H locs hw hP hD hS hK1 => ?_)
          have hP : va_P D vcl [(md, .inr (5, [.ref xx, .int ln, .long R, .int rd, .ref mm, .ref nn, .int at0, .int en0])), (mm, .inl (cM, 3000, .inl (rw16 (upR (upR V 0 (ua aa)) 1 (ua bb))))), (nn, .inl (cN, 3, .inl (rc (upR (upR V 0 (ua aa)) 1 (ua bb)))))] H := hP
          have hD : va_D A [(md, .inr (5, [.ref xx, .int ln, .long R, .int rd, .ref mm, .ref nn, .int at0, .int en0])), (mm, .inl (cM, 3000, .inl (rw16 (upR (upR V 0 (ua aa)) 1 (ua bb))))), (nn, .inl (cN, 3, .inl (rc (upR (upR V 0 (ua aa)) 1 (ua bb)))))] := hD
          refine lv_aload_n hx hb d_Mod_quotient_84 rfl (lv_at hl 0 rfl) ?_
          refine lv_iload hx hb d_Mod_quotient_85 (lv_at hl 3 rfl) ?_
          refine ca_l [] (va_runV (As := [.int wd]) (rest := []) ⟨hx, hb, hml, hown, hts⟩ (c_Mod_nearest l D E md xx mm nn cM cN (upR (upR V 0 (ua aa)) 1 (ua bb)) ln rd at0 en0 R (knd wd) (knd_lt wd) wd (rfl) (by rw [upR_s]; exact (ua_pos (by omega) e25).1) (okV_up (okV_up hV (Nat.le_trans (lc_b (ua_pos (by omega) e3).2.2) (by decide))) (Nat.le_trans (lc_b (ua_pos (by omega) e25).2.2) (by decide))) (by rw [upR_n (by decide), upR_s]; exact Nat.le_trans (ua_pos (by omega) e3).2.2 (by decide)) (by rw [upR_s]; exact Nat.le_trans (ua_pos (by omega) e25).2.2 (by decide)) H.size) (xV 1 hts kC_Mod_nearest kM_Mod_152 kI_Mod_nearest kS_Mod_nearest kN_Mod rfl rfl (by decide +kernel) ⟨Nat.le_of_ble_eq_true rfl, Nat.le_of_ble_eq_true rfl⟩) ⟨ct_blind hev, va_recv hK hP (ci := 5) (q0 := 0) rfl rfl, ct_pre hev hP hK hD hS hA hE [0, 1, 2] rfl (by decide) [0, 1] rfl⟩ rfl rfl hl.1 rfl (lv_room (Nat.le_of_ble_eq_true rfl)) d_Mod_quotient_87 ⟨Nat.le_of_ble_eq_true rfl, Nat.le_of_ble_eq_true rfl⟩) hP hD hS hA [0, 1, 2] [] rfl rfl (by decide) (by decide) (fun rv u H locs hw hP hD hS hK1 => ?_)
          obtain ⟨hw, hVn⟩ := hw
          subst hw
          obtain ⟨V9, hV9⟩ : ∃ x : Nat → Nat, x = u := ⟨_, rfl⟩
          rw [← hV9] at hP hD hVn
          have hP : va_P D vcl [(md, .inr (5, [.ref xx, .int ln, .long R, .int rd, .ref mm, .ref nn, .int at0, .int en0])), (mm, .inl (cM, 3000, .inl (rw16 V9))), (nn, .inl (cN, 3, .inl (rc V9)))] H := hP
          have hD : va_D A [(md, .inr (5, [.ref xx, .int ln, .long R, .int rd, .ref mm, .ref nn, .int at0, .int en0])), (mm, .inl (cM, 3000, .inl (rw16 V9))), (nn, .inl (cN, 3, .inl (rc V9)))] := hD
          refine lv_lload_n hx hb d_Mod_quotient_90 rfl (lv_at hl 1 rfl) ?_
          refine lv_lconst (v := 0) hx hb d_Mod_quotient_91 (by decide) ?_
          refine W.lcmp hx hb d_Mod_quotient_92 ?_
          refine lv_if_ge (tgt := 100) hx hb d_Mod_quotient_93 (by decide) (fun c93 => ?_) (fun c93 => ?_)
          · refine lv_iconst (v := 0) hx hb d_Mod_quotient_100 (by decide) ?_
            refine lv_lload_n hx hb d_Mod_quotient_101 rfl (lv_at hl 2 rfl) ?_
            refine lv_lconst (v := 0) hx hb d_Mod_quotient_102 (by decide) ?_
            refine W.lcmp hx hb d_Mod_quotient_103 ?_
            refine lv_if_ge (tgt := 111) hx hb d_Mod_quotient_104 (by decide) (fun c104 => ?_) (fun c104 => ?_)
            · refine lv_iconst (v := 0) hx hb d_Mod_quotient_111 (by decide) ?_
              refine lv_icmp_eq (tgt := 119) hx hb d_Mod_quotient_112 (by decide) (fun c112 => ?_) (fun c112 => ?_)
              · refine lv_iconst (v := 0) hx hb d_Mod_quotient_119 (by decide) ?_
                refine tv_i (bI (ngL aa != ngL bb)) (by unfold ngL; rw [decide_eq_false e55, decide_eq_false e72]; rfl) ?_
                refine lv_iload hx hb d_Mod_quotient_120 (lv_at hl 3 rfl) ?_
                refine ca_l [(md, .inr (5, [.ref xx, .int ln, .long R, .int rd, .ref mm, .ref nn, .int at0, .int en0])), (mm, .inl (cM, 3000, .inl (rw16 V9))), (nn, .inl (cN, 3, .inl (rc V9)))] (va_runS (As := [.long (lN (rn (kP (knd wd)) (kZ (knd wd)) ((upR (upR V 0 (ua aa)) 1 (ua bb)) 0 * 2 ^ kLw (knd wd)) ((upR (upR V 0 (ua aa)) 1 (ua bb)) 1))), .int (bI (ngL aa != ngL bb)), .int wd]) (rest := []) ⟨hx, hb, hml, hown, hts⟩ (c_Mod_signed l D E (lN (rn (kP (knd wd)) (kZ (knd wd)) ((upR (upR V 0 (ua aa)) 1 (ua bb)) 0 * 2 ^ kLw (knd wd)) ((upR (upR V 0 (ua aa)) 1 (ua bb)) 1))) (bI (ngL aa != ngL bb)) wd H.size) (xS 3 hts kC_Mod_signed kM_Mod_112 kT_Mod_signed kN_Mod rfl rfl (by decide +kernel) ⟨Nat.le_of_ble_eq_true rfl, Nat.le_of_ble_eq_true rfl⟩) ⟨ct_blind hev, ct_pre hev hP hK hD hS hA hE [] rfl (by decide) [] rfl⟩ rfl rfl hl.1 rfl (lv_room (Nat.le_of_ble_eq_true rfl)) d_Mod_quotient_122 ⟨Nat.le_of_ble_eq_true rfl, Nat.le_of_ble_eq_true rfl⟩) hP hD hS hA [] [0, 1, 2] rfl rfl (by decide) (by decide) (fun rv u H locs hw hP hD hS hK1 => ?_)
                subst hw
                have hP : va_P D vcl [(md, .inr (5, [.ref xx, .int ln, .long R, .int rd, .ref mm, .ref nn, .int at0, .int en0])), (mm, .inl (cM, 3000, .inl (rw16 V9))), (nn, .inl (cN, 3, .inl (rc V9)))] H := hP
                have hD : va_D A [(md, .inr (5, [.ref xx, .int ln, .long R, .int rd, .ref mm, .ref nn, .int at0, .int en0])), (mm, .inl (cM, 3000, .inl (rw16 V9))), (nn, .inl (cN, 3, .inl (rc V9)))] := hD
                exact rt_l hx hb hrt hlocks (V9) (⟨by unfold qtN; rw [if_neg e25, if_neg e3, ← frn_sc (s1 := 0) (s2 := 0) (by decide), Nat.pow_zero, Nat.mul_one, Nat.mul_one, upR_s, upR_n (by decide), upR_s], hVn⟩) (hP.sub [0, 1, 2] rfl) (hK.sub [0, 1] rfl) (hD.sub [0, 1, 2] (by decide) rfl) hS d_Mod_quotient_125
              · exact absurd rfl c112
            · exact absurd ((ng_l (by omega)).mp (Int64.not_le.mp (fun z => c104 ((lg_cmp_ge _ _).mpr z)))) e72
          · exact absurd ((ng_l (by omega)).mp (Int64.not_le.mp (fun z => c93 ((lg_cmp_ge _ _).mpr z)))) e55
        · have e72 : 9223372036854775808 ≤ bb := (ng_l (by omega)).mp (Int64.not_le.mp (fun z => c72 ((lg_cmp_ge _ _).mpr z)))
          refine lv_lload_n hx hb d_Mod_quotient_75 rfl (lv_at hl 2 rfl) ?_
          refine lv_lneg hx hb d_Mod_quotient_76 ?_
          refine tv_l (lN (ua bb)) (by unfold ua; rw [if_neg (by omega)]; exact neg_l (by omega)) ?_
          refine lv_goto (tgt := 81) hx hb d_Mod_quotient_77 (by decide) ?_
          refine ca_v [] (va_runV (As := [.int (nI 1), .long (lN (ua bb))]) (rest := []) ⟨hx, hb, hml, hown, hts⟩ (c_Mod_set l D E md xx mm nn cM cN (upR V 0 (ua aa)) ln rd at0 en0 R 1 (ua bb) (by decide) (by rw [upR_n (by decide)]; exact Nat.lt_of_lt_of_le (lc_lt _) (p16_le (by have := hV 1 (by decide); omega))) ((ua_pos (by omega) e25).2.1) H.size) (xV 2 hts kC_Mod_set kM_Mod_138 kI_Mod_set kS_Mod_set kN_Mod rfl rfl (by decide +kernel) ⟨Nat.le_of_ble_eq_true rfl, Nat.le_of_ble_eq_true rfl⟩) ⟨ct_blind hev, va_recv hK hP (ci := 5) (q0 := 0) rfl rfl, ct_pre hev hP hK hD hS hA hE [0, 1, 2] rfl (by decide) [0, 1] rfl⟩ rfl rfl hl.1 rfl (lv_room (Nat.le_of_ble_eq_true rfl)) d_Mod_quotient_81 ⟨Nat.le_of_ble_eq_true rfl, Nat.le_of_ble_eq_true rfl⟩) hP hD hS hA [0, 1, 2] [] rfl rfl (by decide) (by decide) (fun u H locs hw hP hD hS hK1 => ?_)
          have hP : va_P D vcl [(md, .inr (5, [.ref xx, .int ln, .long R, .int rd, .ref mm, .ref nn, .int at0, .int en0])), (mm, .inl (cM, 3000, .inl (rw16 (upR (upR V 0 (ua aa)) 1 (ua bb))))), (nn, .inl (cN, 3, .inl (rc (upR (upR V 0 (ua aa)) 1 (ua bb)))))] H := hP
          have hD : va_D A [(md, .inr (5, [.ref xx, .int ln, .long R, .int rd, .ref mm, .ref nn, .int at0, .int en0])), (mm, .inl (cM, 3000, .inl (rw16 (upR (upR V 0 (ua aa)) 1 (ua bb))))), (nn, .inl (cN, 3, .inl (rc (upR (upR V 0 (ua aa)) 1 (ua bb)))))] := hD
          refine lv_aload_n hx hb d_Mod_quotient_84 rfl (lv_at hl 0 rfl) ?_
          refine lv_iload hx hb d_Mod_quotient_85 (lv_at hl 3 rfl) ?_
          refine ca_l [] (va_runV (As := [.int wd]) (rest := []) ⟨hx, hb, hml, hown, hts⟩ (c_Mod_nearest l D E md xx mm nn cM cN (upR (upR V 0 (ua aa)) 1 (ua bb)) ln rd at0 en0 R (knd wd) (knd_lt wd) wd (rfl) (by rw [upR_s]; exact (ua_pos (by omega) e25).1) (okV_up (okV_up hV (Nat.le_trans (lc_b (ua_pos (by omega) e3).2.2) (by decide))) (Nat.le_trans (lc_b (ua_pos (by omega) e25).2.2) (by decide))) (by rw [upR_n (by decide), upR_s]; exact Nat.le_trans (ua_pos (by omega) e3).2.2 (by decide)) (by rw [upR_s]; exact Nat.le_trans (ua_pos (by omega) e25).2.2 (by decide)) H.size) (xV 1 hts kC_Mod_nearest kM_Mod_152 kI_Mod_nearest kS_Mod_nearest kN_Mod rfl rfl (by decide +kernel) ⟨Nat.le_of_ble_eq_true rfl, Nat.le_of_ble_eq_true rfl⟩) ⟨ct_blind hev, va_recv hK hP (ci := 5) (q0 := 0) rfl rfl, ct_pre hev hP hK hD hS hA hE [0, 1, 2] rfl (by decide) [0, 1] rfl⟩ rfl rfl hl.1 rfl (lv_room (Nat.le_of_ble_eq_true rfl)) d_Mod_quotient_87 ⟨Nat.le_of_ble_eq_true rfl, Nat.le_of_ble_eq_true rfl⟩) hP hD hS hA [0, 1, 2] [] rfl rfl (by decide) (by decide) (fun rv u H locs hw hP hD hS hK1 => ?_)
          obtain ⟨hw, hVn⟩ := hw
          subst hw
          obtain ⟨V9, hV9⟩ : ∃ x : Nat → Nat, x = u := ⟨_, rfl⟩
          rw [← hV9] at hP hD hVn
          have hP : va_P D vcl [(md, .inr (5, [.ref xx, .int ln, .long R, .int rd, .ref mm, .ref nn, .int at0, .int en0])), (mm, .inl (cM, 3000, .inl (rw16 V9))), (nn, .inl (cN, 3, .inl (rc V9)))] H := hP
          have hD : va_D A [(md, .inr (5, [.ref xx, .int ln, .long R, .int rd, .ref mm, .ref nn, .int at0, .int en0])), (mm, .inl (cM, 3000, .inl (rw16 V9))), (nn, .inl (cN, 3, .inl (rc V9)))] := hD
          refine lv_lload_n hx hb d_Mod_quotient_90 rfl (lv_at hl 1 rfl) ?_
          refine lv_lconst (v := 0) hx hb d_Mod_quotient_91 (by decide) ?_
          refine W.lcmp hx hb d_Mod_quotient_92 ?_
          refine lv_if_ge (tgt := 100) hx hb d_Mod_quotient_93 (by decide) (fun c93 => ?_) (fun c93 => ?_)
          · refine lv_iconst (v := 0) hx hb d_Mod_quotient_100 (by decide) ?_
            refine lv_lload_n hx hb d_Mod_quotient_101 rfl (lv_at hl 2 rfl) ?_
            refine lv_lconst (v := 0) hx hb d_Mod_quotient_102 (by decide) ?_
            refine W.lcmp hx hb d_Mod_quotient_103 ?_
            refine lv_if_ge (tgt := 111) hx hb d_Mod_quotient_104 (by decide) (fun c104 => ?_) (fun c104 => ?_)
            · exact absurd ((ng_l (by omega)).mpr e72) (Int64.not_lt.mpr ((lg_cmp_ge _ _).mp c104))
            · refine lv_iconst (v := 1) hx hb d_Mod_quotient_107 (by decide) ?_
              refine lv_goto (tgt := 112) hx hb d_Mod_quotient_108 (by decide) ?_
              refine lv_icmp_eq (tgt := 119) hx hb d_Mod_quotient_112 (by decide) (fun c112 => ?_) (fun c112 => ?_)
              · exact absurd c112 (by decide)
              · refine lv_iconst (v := 1) hx hb d_Mod_quotient_115 (by decide) ?_
                refine tv_i (bI (ngL aa != ngL bb)) (by unfold ngL; rw [decide_eq_false e55, decide_eq_true e72]; rfl) ?_
                refine lv_goto (tgt := 120) hx hb d_Mod_quotient_116 (by decide) ?_
                refine lv_iload hx hb d_Mod_quotient_120 (lv_at hl 3 rfl) ?_
                refine ca_l [(md, .inr (5, [.ref xx, .int ln, .long R, .int rd, .ref mm, .ref nn, .int at0, .int en0])), (mm, .inl (cM, 3000, .inl (rw16 V9))), (nn, .inl (cN, 3, .inl (rc V9)))] (va_runS (As := [.long (lN (rn (kP (knd wd)) (kZ (knd wd)) ((upR (upR V 0 (ua aa)) 1 (ua bb)) 0 * 2 ^ kLw (knd wd)) ((upR (upR V 0 (ua aa)) 1 (ua bb)) 1))), .int (bI (ngL aa != ngL bb)), .int wd]) (rest := []) ⟨hx, hb, hml, hown, hts⟩ (c_Mod_signed l D E (lN (rn (kP (knd wd)) (kZ (knd wd)) ((upR (upR V 0 (ua aa)) 1 (ua bb)) 0 * 2 ^ kLw (knd wd)) ((upR (upR V 0 (ua aa)) 1 (ua bb)) 1))) (bI (ngL aa != ngL bb)) wd H.size) (xS 3 hts kC_Mod_signed kM_Mod_112 kT_Mod_signed kN_Mod rfl rfl (by decide +kernel) ⟨Nat.le_of_ble_eq_true rfl, Nat.le_of_ble_eq_true rfl⟩) ⟨ct_blind hev, ct_pre hev hP hK hD hS hA hE [] rfl (by decide) [] rfl⟩ rfl rfl hl.1 rfl (lv_room (Nat.le_of_ble_eq_true rfl)) d_Mod_quotient_122 ⟨Nat.le_of_ble_eq_true rfl, Nat.le_of_ble_eq_true rfl⟩) hP hD hS hA [] [0, 1, 2] rfl rfl (by decide) (by decide) (fun rv u H locs hw hP hD hS hK1 => ?_)
                subst hw
                have hP : va_P D vcl [(md, .inr (5, [.ref xx, .int ln, .long R, .int rd, .ref mm, .ref nn, .int at0, .int en0])), (mm, .inl (cM, 3000, .inl (rw16 V9))), (nn, .inl (cN, 3, .inl (rc V9)))] H := hP
                have hD : va_D A [(md, .inr (5, [.ref xx, .int ln, .long R, .int rd, .ref mm, .ref nn, .int at0, .int en0])), (mm, .inl (cM, 3000, .inl (rw16 V9))), (nn, .inl (cN, 3, .inl (rc V9)))] := hD
                exact rt_l hx hb hrt hlocks (V9) (⟨by unfold qtN; rw [if_neg e25, if_neg e3, ← frn_sc (s1 := 0) (s2 := 0) (by decide), Nat.pow_zero, Nat.mul_one, Nat.mul_one, upR_s, upR_n (by decide), upR_s], hVn⟩) (hP.sub [0, 1, 2] rfl) (hK.sub [0, 1] rfl) (hD.sub [0, 1, 2] (by decide) rfl) hS d_Mod_quotient_125
          · exact absurd ((ng_l (by omega)).mp (Int64.not_le.mp (fun z => c93 ((lg_cmp_ge _ _).mpr z)))) e55
      · have e55 : 9223372036854775808 ≤ aa := (ng_l (by omega)).mp (Int64.not_le.mp (fun z => c55 ((lg_cmp_ge _ _).mpr z)))
        refine lv_lload_n hx hb d_Mod_quotient_58 rfl (lv_at hl 1 rfl) ?_
        refine lv_lneg hx hb d_Mod_quotient_59 ?_
        refine tv_l (lN (ua aa)) (by unfold ua; rw [if_neg (by omega)]; exact neg_l (by omega)) ?_
        refine lv_goto (tgt := 64) hx hb d_Mod_quotient_60 (by decide) ?_
        refine ca_v [] (va_runV (As := [.int (nI 0), .long (lN (ua aa))]) (rest := []) ⟨hx, hb, hml, hown, hts⟩ (c_Mod_set l D E md xx mm nn cM cN V ln rd at0 en0 R 0 (ua aa) (by decide) (Nat.lt_of_lt_of_le (lc_lt _) (p16_le (by have := hV 0 (by decide); omega))) ((ua_pos (by omega) e3).2.1) H.size) (xV 2 hts kC_Mod_set kM_Mod_138 kI_Mod_set kS_Mod_set kN_Mod rfl rfl (by decide +kernel) ⟨Nat.le_of_ble_eq_true rfl, Nat.le_of_ble_eq_true rfl⟩) ⟨ct_blind hev, va_recv hK hP (ci := 5) (q0 := 0) rfl rfl, ct_pre hev hP hK hD hS hA hE [0, 1, 2] rfl (by decide) [0, 1] rfl⟩ rfl rfl hl.1 rfl (lv_room (Nat.le_of_ble_eq_true rfl)) d_Mod_quotient_64 ⟨Nat.le_of_ble_eq_true rfl, Nat.le_of_ble_eq_true rfl⟩) hP hD hS hA [0, 1, 2] [] rfl rfl (by decide) (by decide) (fun u H locs hw hP hD hS hK1 => ?_)
        have hP : va_P D vcl [(md, .inr (5, [.ref xx, .int ln, .long R, .int rd, .ref mm, .ref nn, .int at0, .int en0])), (mm, .inl (cM, 3000, .inl (rw16 (upR V 0 (ua aa))))), (nn, .inl (cN, 3, .inl (rc (upR V 0 (ua aa)))))] H := hP
        have hD : va_D A [(md, .inr (5, [.ref xx, .int ln, .long R, .int rd, .ref mm, .ref nn, .int at0, .int en0])), (mm, .inl (cM, 3000, .inl (rw16 (upR V 0 (ua aa))))), (nn, .inl (cN, 3, .inl (rc (upR V 0 (ua aa)))))] := hD
        refine lv_aload_n hx hb d_Mod_quotient_67 rfl (lv_at hl 0 rfl) ?_
        refine lv_iconst (v := 1) hx hb d_Mod_quotient_68 (by decide) ?_
        refine tv_i (nI 1) (rfl) ?_
        refine lv_lload_n hx hb d_Mod_quotient_69 rfl (lv_at hl 2 rfl) ?_
        refine lv_lconst (v := 0) hx hb d_Mod_quotient_70 (by decide) ?_
        refine W.lcmp hx hb d_Mod_quotient_71 ?_
        refine lv_if_ge (tgt := 80) hx hb d_Mod_quotient_72 (by decide) (fun c72 => ?_) (fun c72 => ?_)
        · have e72 : ¬ 9223372036854775808 ≤ bb := fun z => absurd ((ng_l (by omega)).mpr z) (Int64.not_lt.mpr ((lg_cmp_ge _ _).mp c72))
          refine lv_lload_n hx hb d_Mod_quotient_80 rfl (lv_at hl 2 rfl) ?_
          refine tv_l (lN (ua bb)) (by unfold ua; rw [if_pos (by omega)]) ?_
          refine ca_v [] (va_runV (As := [.int (nI 1), .long (lN (ua bb))]) (rest := []) ⟨hx, hb, hml, hown, hts⟩ (c_Mod_set l D E md xx mm nn cM cN (upR V 0 (ua aa)) ln rd at0 en0 R 1 (ua bb) (by decide) (by rw [upR_n (by decide)]; exact Nat.lt_of_lt_of_le (lc_lt _) (p16_le (by have := hV 1 (by decide); omega))) ((ua_pos (by omega) e25).2.1) H.size) (xV 2 hts kC_Mod_set kM_Mod_138 kI_Mod_set kS_Mod_set kN_Mod rfl rfl (by decide +kernel) ⟨Nat.le_of_ble_eq_true rfl, Nat.le_of_ble_eq_true rfl⟩) ⟨ct_blind hev, va_recv hK hP (ci := 5) (q0 := 0) rfl rfl, ct_pre hev hP hK hD hS hA hE [0, 1, 2] rfl (by decide) [0, 1] rfl⟩ rfl rfl hl.1 rfl (lv_room (Nat.le_of_ble_eq_true rfl)) d_Mod_quotient_81 ⟨Nat.le_of_ble_eq_true rfl, Nat.le_of_ble_eq_true rfl⟩) hP hD hS hA [0, 1, 2] [] rfl rfl (by decide) (by decide) (fun u H locs hw hP hD hS hK1 => ?_)
          have hP : va_P D vcl [(md, .inr (5, [.ref xx, .int ln, .long R, .int rd, .ref mm, .ref nn, .int at0, .int en0])), (mm, .inl (cM, 3000, .inl (rw16 (upR (upR V 0 (ua aa)) 1 (ua bb))))), (nn, .inl (cN, 3, .inl (rc (upR (upR V 0 (ua aa)) 1 (ua bb)))))] H := hP
          have hD : va_D A [(md, .inr (5, [.ref xx, .int ln, .long R, .int rd, .ref mm, .ref nn, .int at0, .int en0])), (mm, .inl (cM, 3000, .inl (rw16 (upR (upR V 0 (ua aa)) 1 (ua bb))))), (nn, .inl (cN, 3, .inl (rc (upR (upR V 0 (ua aa)) 1 (ua bb)))))] := hD
          refine lv_aload_n hx hb d_Mod_quotient_84 rfl (lv_at hl 0 rfl) ?_
          refine lv_iload hx hb d_Mod_quotient_85 (lv_at hl 3 rfl) ?_
          refine ca_l [] (va_runV (As := [.int wd]) (rest := []) ⟨hx, hb, hml, hown, hts⟩ (c_Mod_nearest l D E md xx mm nn cM cN (upR (upR V 0 (ua aa)) 1 (ua bb)) ln rd at0 en0 R (knd wd) (knd_lt wd) wd (rfl) (by rw [upR_s]; exact (ua_pos (by omega) e25).1) (okV_up (okV_up hV (Nat.le_trans (lc_b (ua_pos (by omega) e3).2.2) (by decide))) (Nat.le_trans (lc_b (ua_pos (by omega) e25).2.2) (by decide))) (by rw [upR_n (by decide), upR_s]; exact Nat.le_trans (ua_pos (by omega) e3).2.2 (by decide)) (by rw [upR_s]; exact Nat.le_trans (ua_pos (by omega) e25).2.2 (by decide)) H.size) (xV 1 hts kC_Mod_nearest kM_Mod_152 kI_Mod_nearest kS_Mod_nearest kN_Mod rfl rfl (by decide +kernel) ⟨Nat.le_of_ble_eq_true rfl, Nat.le_of_ble_eq_true rfl⟩) ⟨ct_blind hev, va_recv hK hP (ci := 5) (q0 := 0) rfl rfl, ct_pre hev hP hK hD hS hA hE [0, 1, 2] rfl (by decide) [0, 1] rfl⟩ rfl rfl hl.1 rfl (lv_room (Nat.le_of_ble_eq_true rfl)) d_Mod_quotient_87 ⟨Nat.le_of_ble_eq_true rfl, Nat.le_of_ble_eq_true rfl⟩) hP hD hS hA [0, 1, 2] [] rfl rfl (by decide) (by decide) (fun rv u H locs hw hP hD hS hK1 => ?_)
          obtain ⟨hw, hVn⟩ := hw
          subst hw
          obtain ⟨V9, hV9⟩ : ∃ x : Nat → Nat, x = u := ⟨_, rfl⟩
          rw [← hV9] at hP hD hVn
          have hP : va_P D vcl [(md, .inr (5, [.ref xx, .int ln, .long R, .int rd, .ref mm, .ref nn, .int at0, .int en0])), (mm, .inl (cM, 3000, .inl (rw16 V9))), (nn, .inl (cN, 3, .inl (rc V9)))] H := hP
          have hD : va_D A [(md, .inr (5, [.ref xx, .int ln, .long R, .int rd, .ref mm, .ref nn, .int at0, .int en0])), (mm, .inl (cM, 3000, .inl (rw16 V9))), (nn, .inl (cN, 3, .inl (rc V9)))] := hD
          refine lv_lload_n hx hb d_Mod_quotient_90 rfl (lv_at hl 1 rfl) ?_
          refine lv_lconst (v := 0) hx hb d_Mod_quotient_91 (by decide) ?_
          refine W.lcmp hx hb d_Mod_quotient_92 ?_
          refine lv_if_ge (tgt := 100) hx hb d_Mod_quotient_93 (by decide) (fun c93 => ?_) (fun c93 => ?_)
          · exact absurd ((ng_l (by omega)).mpr e55) (Int64.not_lt.mpr ((lg_cmp_ge _ _).mp c93))
          · refine lv_iconst (v := 1) hx hb d_Mod_quotient_96 (by decide) ?_
            refine lv_goto (tgt := 101) hx hb d_Mod_quotient_97 (by decide) ?_
            refine lv_lload_n hx hb d_Mod_quotient_101 rfl (lv_at hl 2 rfl) ?_
            refine lv_lconst (v := 0) hx hb d_Mod_quotient_102 (by decide) ?_
            refine W.lcmp hx hb d_Mod_quotient_103 ?_
            refine lv_if_ge (tgt := 111) hx hb d_Mod_quotient_104 (by decide) (fun c104 => ?_) (fun c104 => ?_)
            · refine lv_iconst (v := 0) hx hb d_Mod_quotient_111 (by decide) ?_
              refine lv_icmp_eq (tgt := 119) hx hb d_Mod_quotient_112 (by decide) (fun c112 => ?_) (fun c112 => ?_)
              · exact absurd c112 (by decide)
              · refine lv_iconst (v := 1) hx hb d_Mod_quotient_115 (by decide) ?_
                refine tv_i (bI (ngL aa != ngL bb)) (by unfold ngL; rw [decide_eq_true e55, decide_eq_false e72]; rfl) ?_
                refine lv_goto (tgt := 120) hx hb d_Mod_quotient_116 (by decide) ?_
                refine lv_iload hx hb d_Mod_quotient_120 (lv_at hl 3 rfl) ?_
                refine ca_l [(md, .inr (5, [.ref xx, .int ln, .long R, .int rd, .ref mm, .ref nn, .int at0, .int en0])), (mm, .inl (cM, 3000, .inl (rw16 V9))), (nn, .inl (cN, 3, .inl (rc V9)))] (va_runS (As := [.long (lN (rn (kP (knd wd)) (kZ (knd wd)) ((upR (upR V 0 (ua aa)) 1 (ua bb)) 0 * 2 ^ kLw (knd wd)) ((upR (upR V 0 (ua aa)) 1 (ua bb)) 1))), .int (bI (ngL aa != ngL bb)), .int wd]) (rest := []) ⟨hx, hb, hml, hown, hts⟩ (c_Mod_signed l D E (lN (rn (kP (knd wd)) (kZ (knd wd)) ((upR (upR V 0 (ua aa)) 1 (ua bb)) 0 * 2 ^ kLw (knd wd)) ((upR (upR V 0 (ua aa)) 1 (ua bb)) 1))) (bI (ngL aa != ngL bb)) wd H.size) (xS 3 hts kC_Mod_signed kM_Mod_112 kT_Mod_signed kN_Mod rfl rfl (by decide +kernel) ⟨Nat.le_of_ble_eq_true rfl, Nat.le_of_ble_eq_true rfl⟩) ⟨ct_blind hev, ct_pre hev hP hK hD hS hA hE [] rfl (by decide) [] rfl⟩ rfl rfl hl.1 rfl (lv_room (Nat.le_of_ble_eq_true rfl)) d_Mod_quotient_122 ⟨Nat.le_of_ble_eq_true rfl, Nat.le_of_ble_eq_true rfl⟩) hP hD hS hA [] [0, 1, 2] rfl rfl (by decide) (by decide) (fun rv u H locs hw hP hD hS hK1 => ?_)
                subst hw
                have hP : va_P D vcl [(md, .inr (5, [.ref xx, .int ln, .long R, .int rd, .ref mm, .ref nn, .int at0, .int en0])), (mm, .inl (cM, 3000, .inl (rw16 V9))), (nn, .inl (cN, 3, .inl (rc V9)))] H := hP
                have hD : va_D A [(md, .inr (5, [.ref xx, .int ln, .long R, .int rd, .ref mm, .ref nn, .int at0, .int en0])), (mm, .inl (cM, 3000, .inl (rw16 V9))), (nn, .inl (cN, 3, .inl (rc V9)))] := hD
                exact rt_l hx hb hrt hlocks (V9) (⟨by unfold qtN; rw [if_neg e25, if_neg e3, ← frn_sc (s1 := 0) (s2 := 0) (by decide), Nat.pow_zero, Nat.mul_one, Nat.mul_one, upR_s, upR_n (by decide), upR_s], hVn⟩) (hP.sub [0, 1, 2] rfl) (hK.sub [0, 1] rfl) (hD.sub [0, 1, 2] (by decide) rfl) hS d_Mod_quotient_125
            · exact absurd ((ng_l (by omega)).mp (Int64.not_le.mp (fun z => c104 ((lg_cmp_ge _ _).mpr z)))) e72
        · have e72 : 9223372036854775808 ≤ bb := (ng_l (by omega)).mp (Int64.not_le.mp (fun z => c72 ((lg_cmp_ge _ _).mpr z)))
          refine lv_lload_n hx hb d_Mod_quotient_75 rfl (lv_at hl 2 rfl) ?_
          refine lv_lneg hx hb d_Mod_quotient_76 ?_
          refine tv_l (lN (ua bb)) (by unfold ua; rw [if_neg (by omega)]; exact neg_l (by omega)) ?_
          refine lv_goto (tgt := 81) hx hb d_Mod_quotient_77 (by decide) ?_
          refine ca_v [] (va_runV (As := [.int (nI 1), .long (lN (ua bb))]) (rest := []) ⟨hx, hb, hml, hown, hts⟩ (c_Mod_set l D E md xx mm nn cM cN (upR V 0 (ua aa)) ln rd at0 en0 R 1 (ua bb) (by decide) (by rw [upR_n (by decide)]; exact Nat.lt_of_lt_of_le (lc_lt _) (p16_le (by have := hV 1 (by decide); omega))) ((ua_pos (by omega) e25).2.1) H.size) (xV 2 hts kC_Mod_set kM_Mod_138 kI_Mod_set kS_Mod_set kN_Mod rfl rfl (by decide +kernel) ⟨Nat.le_of_ble_eq_true rfl, Nat.le_of_ble_eq_true rfl⟩) ⟨ct_blind hev, va_recv hK hP (ci := 5) (q0 := 0) rfl rfl, ct_pre hev hP hK hD hS hA hE [0, 1, 2] rfl (by decide) [0, 1] rfl⟩ rfl rfl hl.1 rfl (lv_room (Nat.le_of_ble_eq_true rfl)) d_Mod_quotient_81 ⟨Nat.le_of_ble_eq_true rfl, Nat.le_of_ble_eq_true rfl⟩) hP hD hS hA [0, 1, 2] [] rfl rfl (by decide) (by decide) (fun u H locs hw hP hD hS hK1 => ?_)
          have hP : va_P D vcl [(md, .inr (5, [.ref xx, .int ln, .long R, .int rd, .ref mm, .ref nn, .int at0, .int en0])), (mm, .inl (cM, 3000, .inl (rw16 (upR (upR V 0 (ua aa)) 1 (ua bb))))), (nn, .inl (cN, 3, .inl (rc (upR (upR V 0 (ua aa)) 1 (ua bb)))))] H := hP
          have hD : va_D A [(md, .inr (5, [.ref xx, .int ln, .long R, .int rd, .ref mm, .ref nn, .int at0, .int en0])), (mm, .inl (cM, 3000, .inl (rw16 (upR (upR V 0 (ua aa)) 1 (ua bb))))), (nn, .inl (cN, 3, .inl (rc (upR (upR V 0 (ua aa)) 1 (ua bb)))))] := hD
          refine lv_aload_n hx hb d_Mod_quotient_84 rfl (lv_at hl 0 rfl) ?_
          refine lv_iload hx hb d_Mod_quotient_85 (lv_at hl 3 rfl) ?_
          refine ca_l [] (va_runV (As := [.int wd]) (rest := []) ⟨hx, hb, hml, hown, hts⟩ (c_Mod_nearest l D E md xx mm nn cM cN (upR (upR V 0 (ua aa)) 1 (ua bb)) ln rd at0 en0 R (knd wd) (knd_lt wd) wd (rfl) (by rw [upR_s]; exact (ua_pos (by omega) e25).1) (okV_up (okV_up hV (Nat.le_trans (lc_b (ua_pos (by omega) e3).2.2) (by decide))) (Nat.le_trans (lc_b (ua_pos (by omega) e25).2.2) (by decide))) (by rw [upR_n (by decide), upR_s]; exact Nat.le_trans (ua_pos (by omega) e3).2.2 (by decide)) (by rw [upR_s]; exact Nat.le_trans (ua_pos (by omega) e25).2.2 (by decide)) H.size) (xV 1 hts kC_Mod_nearest kM_Mod_152 kI_Mod_nearest kS_Mod_nearest kN_Mod rfl rfl (by decide +kernel) ⟨Nat.le_of_ble_eq_true rfl, Nat.le_of_ble_eq_true rfl⟩) ⟨ct_blind hev, va_recv hK hP (ci := 5) (q0 := 0) rfl rfl, ct_pre hev hP hK hD hS hA hE [0, 1, 2] rfl (by decide) [0, 1] rfl⟩ rfl rfl hl.1 rfl (lv_room (Nat.le_of_ble_eq_true rfl)) d_Mod_quotient_87 ⟨Nat.le_of_ble_eq_true rfl, Nat.le_of_ble_eq_true rfl⟩) hP hD hS hA [0, 1, 2] [] rfl rfl (by decide) (by decide) (fun rv u H locs hw hP hD hS hK1 => ?_)
          obtain ⟨hw, hVn⟩ := hw
          subst hw
          obtain ⟨V9, hV9⟩ : ∃ x : Nat → Nat, x = u := ⟨_, rfl⟩
          rw [← hV9] at hP hD hVn
          have hP : va_P D vcl [(md, .inr (5, [.ref xx, .int ln, .long R, .int rd, .ref mm, .ref nn, .int at0, .int en0])), (mm, .inl (cM, 3000, .inl (rw16 V9))), (nn, .inl (cN, 3, .inl (rc V9)))] H := hP
          have hD : va_D A [(md, .inr (5, [.ref xx, .int ln, .long R, .int rd, .ref mm, .ref nn, .int at0, .int en0])), (mm, .inl (cM, 3000, .inl (rw16 V9))), (nn, .inl (cN, 3, .inl (rc V9)))] := hD
          refine lv_lload_n hx hb d_Mod_quotient_90 rfl (lv_at hl 1 rfl) ?_
          refine lv_lconst (v := 0) hx hb d_Mod_quotient_91 (by decide) ?_
          refine W.lcmp hx hb d_Mod_quotient_92 ?_
          refine lv_if_ge (tgt := 100) hx hb d_Mod_quotient_93 (by decide) (fun c93 => ?_) (fun c93 => ?_)
          · exact absurd ((ng_l (by omega)).mpr e55) (Int64.not_lt.mpr ((lg_cmp_ge _ _).mp c93))
          · refine lv_iconst (v := 1) hx hb d_Mod_quotient_96 (by decide) ?_
            refine lv_goto (tgt := 101) hx hb d_Mod_quotient_97 (by decide) ?_
            refine lv_lload_n hx hb d_Mod_quotient_101 rfl (lv_at hl 2 rfl) ?_
            refine lv_lconst (v := 0) hx hb d_Mod_quotient_102 (by decide) ?_
            refine W.lcmp hx hb d_Mod_quotient_103 ?_
            refine lv_if_ge (tgt := 111) hx hb d_Mod_quotient_104 (by decide) (fun c104 => ?_) (fun c104 => ?_)
            · exact absurd ((ng_l (by omega)).mpr e72) (Int64.not_lt.mpr ((lg_cmp_ge _ _).mp c104))
            · refine lv_iconst (v := 1) hx hb d_Mod_quotient_107 (by decide) ?_
              refine lv_goto (tgt := 112) hx hb d_Mod_quotient_108 (by decide) ?_
              refine lv_icmp_eq (tgt := 119) hx hb d_Mod_quotient_112 (by decide) (fun c112 => ?_) (fun c112 => ?_)
              · refine lv_iconst (v := 0) hx hb d_Mod_quotient_119 (by decide) ?_
                refine tv_i (bI (ngL aa != ngL bb)) (by unfold ngL; rw [decide_eq_true e55, decide_eq_true e72]; rfl) ?_
                refine lv_iload hx hb d_Mod_quotient_120 (lv_at hl 3 rfl) ?_
                refine ca_l [(md, .inr (5, [.ref xx, .int ln, .long R, .int rd, .ref mm, .ref nn, .int at0, .int en0])), (mm, .inl (cM, 3000, .inl (rw16 V9))), (nn, .inl (cN, 3, .inl (rc V9)))] (va_runS (As := [.long (lN (rn (kP (knd wd)) (kZ (knd wd)) ((upR (upR V 0 (ua aa)) 1 (ua bb)) 0 * 2 ^ kLw (knd wd)) ((upR (upR V 0 (ua aa)) 1 (ua bb)) 1))), .int (bI (ngL aa != ngL bb)), .int wd]) (rest := []) ⟨hx, hb, hml, hown, hts⟩ (c_Mod_signed l D E (lN (rn (kP (knd wd)) (kZ (knd wd)) ((upR (upR V 0 (ua aa)) 1 (ua bb)) 0 * 2 ^ kLw (knd wd)) ((upR (upR V 0 (ua aa)) 1 (ua bb)) 1))) (bI (ngL aa != ngL bb)) wd H.size) (xS 3 hts kC_Mod_signed kM_Mod_112 kT_Mod_signed kN_Mod rfl rfl (by decide +kernel) ⟨Nat.le_of_ble_eq_true rfl, Nat.le_of_ble_eq_true rfl⟩) ⟨ct_blind hev, ct_pre hev hP hK hD hS hA hE [] rfl (by decide) [] rfl⟩ rfl rfl hl.1 rfl (lv_room (Nat.le_of_ble_eq_true rfl)) d_Mod_quotient_122 ⟨Nat.le_of_ble_eq_true rfl, Nat.le_of_ble_eq_true rfl⟩) hP hD hS hA [] [0, 1, 2] rfl rfl (by decide) (by decide) (fun rv u H locs hw hP hD hS hK1 => ?_)
                subst hw
                have hP : va_P D vcl [(md, .inr (5, [.ref xx, .int ln, .long R, .int rd, .ref mm, .ref nn, .int at0, .int en0])), (mm, .inl (cM, 3000, .inl (rw16 V9))), (nn, .inl (cN, 3, .inl (rc V9)))] H := hP
                have hD : va_D A [(md, .inr (5, [.ref xx, .int ln, .long R, .int rd, .ref mm, .ref nn, .int at0, .int en0])), (mm, .inl (cM, 3000, .inl (rw16 V9))), (nn, .inl (cN, 3, .inl (rc V9)))] := hD
                exact rt_l hx hb hrt hlocks (V9) (⟨by unfold qtN; rw [if_neg e25, if_neg e3, ← frn_sc (s1 := 0) (s2 := 0) (by decide), Nat.pow_zero, Nat.mul_one, Nat.mul_one, upR_s, upR_n (by decide), upR_s], hVn⟩) (hP.sub [0, 1, 2] rfl) (hK.sub [0, 1] rfl) (hD.sub [0, 1, 2] (by decide) rfl) hS d_Mod_quotient_125
              · exact absurd rfl c112
    · have e25 : bb = 0 := (lN_ne0 (by omega)).mp ((lg_cmp_eq _ _).mp c25)
      refine lv_iload hx hb d_Mod_quotient_28 (lv_at hl 3 rfl) ?_
      refine ca_l [(md, .inr (5, [.ref xx, .int ln, .long R, .int rd, .ref mm, .ref nn, .int at0, .int en0])), (mm, .inl (cM, 3000, .inl (rw16 V))), (nn, .inl (cN, 3, .inl (rc V)))] (va_runS (As := [.int wd]) (rest := []) ⟨hx, hb, hml, hown, hts⟩ (c_Mod_infinite l D E wd H.size) (xS 1 hts kC_Mod_infinite kM_Mod_46 kT_Mod_infinite kN_Mod rfl rfl (by decide +kernel) ⟨Nat.le_of_ble_eq_true rfl, Nat.le_of_ble_eq_true rfl⟩) ⟨ct_blind hev, ct_pre hev hP hK hD hS hA hE [] rfl (by decide) [] rfl⟩ rfl rfl hl.1 rfl (lv_room (Nat.le_of_ble_eq_true rfl)) d_Mod_quotient_30 ⟨Nat.le_of_ble_eq_true rfl, Nat.le_of_ble_eq_true rfl⟩) hP hD hS hA [] [0, 1, 2] rfl rfl (by decide) (by decide) (fun rv u H locs hw hP hD hS hK1 => ?_)
      subst hw
      have hP : va_P D vcl [(md, .inr (5, [.ref xx, .int ln, .long R, .int rd, .ref mm, .ref nn, .int at0, .int en0])), (mm, .inl (cM, 3000, .inl (rw16 V))), (nn, .inl (cN, 3, .inl (rc V)))] H := hP
      have hD : va_D A [(md, .inr (5, [.ref xx, .int ln, .long R, .int rd, .ref mm, .ref nn, .int at0, .int en0])), (mm, .inl (cM, 3000, .inl (rw16 V))), (nn, .inl (cN, 3, .inl (rc V)))] := hD
      refine lv_lload_n hx hb d_Mod_quotient_33 rfl (lv_at hl 1 rfl) ?_
      refine lv_lconst (v := 0) hx hb d_Mod_quotient_34 (by decide) ?_
      refine W.lcmp hx hb d_Mod_quotient_35 ?_
      refine lv_if_ge (tgt := 43) hx hb d_Mod_quotient_36 (by decide) (fun c36 => ?_) (fun c36 => ?_)
      · have e36 : ¬ 9223372036854775808 ≤ aa := fun z => absurd ((ng_l (by omega)).mpr z) (Int64.not_lt.mpr ((lg_cmp_ge _ _).mp c36))
        refine lv_iconst (v := 0) hx hb d_Mod_quotient_43 (by decide) ?_
        refine tv_i (bI (ngL aa)) (by unfold ngL; rw [decide_eq_false e36]; rfl) ?_
        refine lv_iload hx hb d_Mod_quotient_44 (lv_at hl 3 rfl) ?_
        refine ca_l [(md, .inr (5, [.ref xx, .int ln, .long R, .int rd, .ref mm, .ref nn, .int at0, .int en0])), (mm, .inl (cM, 3000, .inl (rw16 V))), (nn, .inl (cN, 3, .inl (rc V)))] (va_runS (As := [.long (kInf (knd wd)), .int (bI (ngL aa)), .int wd]) (rest := []) ⟨hx, hb, hml, hown, hts⟩ (c_Mod_signed l D E (kInf (knd wd)) (bI (ngL aa)) wd H.size) (xS 3 hts kC_Mod_signed kM_Mod_112 kT_Mod_signed kN_Mod rfl rfl (by decide +kernel) ⟨Nat.le_of_ble_eq_true rfl, Nat.le_of_ble_eq_true rfl⟩) ⟨ct_blind hev, ct_pre hev hP hK hD hS hA hE [] rfl (by decide) [] rfl⟩ rfl rfl hl.1 rfl (lv_room (Nat.le_of_ble_eq_true rfl)) d_Mod_quotient_46 ⟨Nat.le_of_ble_eq_true rfl, Nat.le_of_ble_eq_true rfl⟩) hP hD hS hA [] [0, 1, 2] rfl rfl (by decide) (by decide) (fun rv u H locs hw hP hD hS hK1 => ?_)
        subst hw
        have hP : va_P D vcl [(md, .inr (5, [.ref xx, .int ln, .long R, .int rd, .ref mm, .ref nn, .int at0, .int en0])), (mm, .inl (cM, 3000, .inl (rw16 V))), (nn, .inl (cN, 3, .inl (rc V)))] H := hP
        have hD : va_D A [(md, .inr (5, [.ref xx, .int ln, .long R, .int rd, .ref mm, .ref nn, .int at0, .int en0])), (mm, .inl (cM, 3000, .inl (rw16 V))), (nn, .inl (cN, 3, .inl (rc V)))] := hD
        exact rt_l hx hb hrt hlocks (V) (⟨by unfold qtN; rw [if_pos e25, if_neg e3], hV⟩) (hP.sub [0, 1, 2] rfl) (hK.sub [0, 1] rfl) (hD.sub [0, 1, 2] (by decide) rfl) hS d_Mod_quotient_49
      · have e36 : 9223372036854775808 ≤ aa := (ng_l (by omega)).mp (Int64.not_le.mp (fun z => c36 ((lg_cmp_ge _ _).mpr z)))
        refine lv_iconst (v := 1) hx hb d_Mod_quotient_39 (by decide) ?_
        refine tv_i (bI (ngL aa)) (by unfold ngL; rw [decide_eq_true e36]; rfl) ?_
        refine lv_goto (tgt := 44) hx hb d_Mod_quotient_40 (by decide) ?_
        refine lv_iload hx hb d_Mod_quotient_44 (lv_at hl 3 rfl) ?_
        refine ca_l [(md, .inr (5, [.ref xx, .int ln, .long R, .int rd, .ref mm, .ref nn, .int at0, .int en0])), (mm, .inl (cM, 3000, .inl (rw16 V))), (nn, .inl (cN, 3, .inl (rc V)))] (va_runS (As := [.long (kInf (knd wd)), .int (bI (ngL aa)), .int wd]) (rest := []) ⟨hx, hb, hml, hown, hts⟩ (c_Mod_signed l D E (kInf (knd wd)) (bI (ngL aa)) wd H.size) (xS 3 hts kC_Mod_signed kM_Mod_112 kT_Mod_signed kN_Mod rfl rfl (by decide +kernel) ⟨Nat.le_of_ble_eq_true rfl, Nat.le_of_ble_eq_true rfl⟩) ⟨ct_blind hev, ct_pre hev hP hK hD hS hA hE [] rfl (by decide) [] rfl⟩ rfl rfl hl.1 rfl (lv_room (Nat.le_of_ble_eq_true rfl)) d_Mod_quotient_46 ⟨Nat.le_of_ble_eq_true rfl, Nat.le_of_ble_eq_true rfl⟩) hP hD hS hA [] [0, 1, 2] rfl rfl (by decide) (by decide) (fun rv u H locs hw hP hD hS hK1 => ?_)
        subst hw
        have hP : va_P D vcl [(md, .inr (5, [.ref xx, .int ln, .long R, .int rd, .ref mm, .ref nn, .int at0, .int en0])), (mm, .inl (cM, 3000, .inl (rw16 V))), (nn, .inl (cN, 3, .inl (rc V)))] H := hP
        have hD : va_D A [(md, .inr (5, [.ref xx, .int ln, .long R, .int rd, .ref mm, .ref nn, .int at0, .int en0])), (mm, .inl (cM, 3000, .inl (rw16 V))), (nn, .inl (cN, 3, .inl (rc V)))] := hD
        exact rt_l hx hb hrt hlocks (V) (⟨by unfold qtN; rw [if_pos e25, if_neg e3], hV⟩) (hP.sub [0, 1, 2] rfl) (hK.sub [0, 1] rfl) (hD.sub [0, 1, 2] (by decide) rfl) hS d_Mod_quotient_49
  · have e3 : aa = 0 := (lN_ne0 (by omega)).mp ((lg_cmp_eq _ _).mp c3)
    refine lv_lload_n hx hb d_Mod_quotient_6 rfl (lv_at hl 2 rfl) ?_
    refine lv_lconst (v := 0) hx hb d_Mod_quotient_7 (by decide) ?_
    refine W.lcmp hx hb d_Mod_quotient_8 ?_
    refine lv_if_ne (tgt := 20) hx hb d_Mod_quotient_9 (by decide) (fun c9 => ?_) (fun c9 => ?_)
    · have e9 : bb ≠ 0 := fun z => c9 ((lg_cmp_eq _ _).mpr (by rw [z]; rfl))
      refine lv_lconst (v := 0) hx hb d_Mod_quotient_20 (by decide) ?_
      exact rt_l hx hb hrt hlocks (V) (⟨by unfold qtN; rw [if_neg e9, if_pos e3], hV⟩) (hP.sub [0, 1, 2] rfl) (hK.sub [0, 1] rfl) (hD.sub [0, 1, 2] (by decide) rfl) hS d_Mod_quotient_21
    · have e9 : bb = 0 := (lN_ne0 (by omega)).mp ((lg_cmp_eq _ _).mp c9)
      refine lv_iload hx hb d_Mod_quotient_12 (lv_at hl 3 rfl) ?_
      refine ca_l [(md, .inr (5, [.ref xx, .int ln, .long R, .int rd, .ref mm, .ref nn, .int at0, .int en0])), (mm, .inl (cM, 3000, .inl (rw16 V))), (nn, .inl (cN, 3, .inl (rc V)))] (va_runS (As := [.int wd]) (rest := []) ⟨hx, hb, hml, hown, hts⟩ (c_Mod_none l D E wd H.size) (xS 1 hts kC_Mod_none kM_Mod_94 kT_Mod_none kN_Mod rfl rfl (by decide +kernel) ⟨Nat.le_of_ble_eq_true rfl, Nat.le_of_ble_eq_true rfl⟩) ⟨ct_blind hev, ct_pre hev hP hK hD hS hA hE [] rfl (by decide) [] rfl⟩ rfl rfl hl.1 rfl (lv_room (Nat.le_of_ble_eq_true rfl)) d_Mod_quotient_14 ⟨Nat.le_of_ble_eq_true rfl, Nat.le_of_ble_eq_true rfl⟩) hP hD hS hA [] [0, 1, 2] rfl rfl (by decide) (by decide) (fun rv u H locs hw hP hD hS hK1 => ?_)
      subst hw
      have hP : va_P D vcl [(md, .inr (5, [.ref xx, .int ln, .long R, .int rd, .ref mm, .ref nn, .int at0, .int en0])), (mm, .inl (cM, 3000, .inl (rw16 V))), (nn, .inl (cN, 3, .inl (rc V)))] H := hP
      have hD : va_D A [(md, .inr (5, [.ref xx, .int ln, .long R, .int rd, .ref mm, .ref nn, .int at0, .int en0])), (mm, .inl (cM, 3000, .inl (rw16 V))), (nn, .inl (cN, 3, .inl (rc V)))] := hD
      refine lv_goto (tgt := 21) hx hb d_Mod_quotient_17 (by decide) ?_
      exact rt_l hx hb hrt hlocks (V) (⟨by unfold qtN; rw [if_pos e9, if_pos e3], hV⟩) (hP.sub [0, 1, 2] rfl) (hK.sub [0, 1] rfl) (hD.sub [0, 1, 2] (by decide) rfl) hS d_Mod_quotient_21

set_option maxHeartbeats 4000000 in
set_option maxRecDepth 100000 in
theorem c_Mod_compare (l : Launch) (D : va_G) (E : evD) (md xx mm nn : Nat) (ln rd at0 en0 : Int32) (R : Int64) (xx0 yy0 : Nat) (hxx0 : xx0 < 2 ^ 64) (hyy0 : yy0 < 2 ^ 64) (wd : Int32) : Ci (S := Unit) l y_Mod_compare (wz y_Mod_compare b_Mod_compare 12 (some .int)) ({ frames := 1, cells := 0, slots := 0, locals := 20 }) D vcl (ev1 E) [.ref md, .long (lN xx0), .long (lN yy0), .int wd] [] [(md, .inr (5, [.ref xx, .int ln, .long R, .int rd, .ref mm, .ref nn, .int at0, .int en0]))] 0 0 (fun (w : Int32) (_ : Unit) => w = cpN (knd wd) xx0 yy0) (fun _ => []) (fun _ : Unit => [(md, .inr (5, [.ref xx, .int ln, .long R, .int rd, .ref mm, .ref nn, .int at0, .int en0]))]) := by
  have hev := ev1_ok E
  unfold Ci
  refine ct_of (y := y_Mod_compare) (av := [.ref md, .long (lN xx0), .long (lN yy0), .int wd]) (cc := b_Mod_compare) (maxL := 12) (ret := (some .int)) (Qc := fun A => va_Qi (S := Unit) (fun (w : Int32) (_ : Unit) => w = cpN (knd wd) xx0 yy0) (fun u tS => ctB D vcl ((fun _ => []) u) ((fun _ : Unit => [(md, .inr (5, [.ref xx, .int ln, .long R, .int rd, .ref mm, .ref nn, .int at0, .int en0]))]) u) A tS) A) (by decide) rfl (Nat.le_of_ble_eq_true rfl) ?_
  intro p ee s m below meth cde ls A H locs hx hb hml hrt hlocks hown hin hts hA hP hK hD hS hE hl
  have hown : s.vm.findClass R_Mod = some m.cls := hown
  have hts := wz_g hts
  have hl : lv_has ls 12 [(0, .ref md), (1, .long (lN xx0)), (3, .long (lN yy0)), (5, .int wd)] := hl
  refine lv_iload hx hb d_Mod_compare_0 (lv_at hl 3 rfl) ?_
  refine lv_if_eq (tgt := 11) hx hb d_Mod_compare_2 (by decide) (fun c2 => ?_) (fun c2 => ?_)
  · have e2 : knd wd = 1 := by unfold knd; rw [if_pos c2]
    have hsx := szN_lt (i := 1) (v := xx0) (by decide)
    have hsy := szN_lt (i := 1) (v := yy0) (by decide)
    have hin := kIN_63 1 (by decide)
    refine lv_ldc2 hx hb hown (hts _ kK_Mod_169) d_Mod_compare_11 ?_
    refine lv_lstore (lv' := [(6, .long 2147483647), (0, .ref md), (1, .long (lN xx0)), (3, .long (lN yy0)), (5, .int wd)]) hx hb d_Mod_compare_14 hl (by decide) rfl (fun ls hl => ?_)
    refine lv_lload_n hx hb d_Mod_compare_16 rfl (lv_at hl 2 rfl) ?_
    refine lv_lload hx hb d_Mod_compare_17 (lv_at hl 0 rfl) ?_
    refine lv_land hx hb d_Mod_compare_19 ?_
    refine tv_l (lN (szN 1 xx0)) (by have h9 := sz_l (i := 1) (by decide) hxx0; rw [show kSign 1 - 1 = (2147483647 : Int64) by decide] at h9; exact h9) ?_
    refine lv_lstore (lv' := [(8, .long (lN (szN 1 xx0))), (6, .long 2147483647), (0, .ref md), (1, .long (lN xx0)), (3, .long (lN yy0)), (5, .int wd)]) hx hb d_Mod_compare_20 hl (by decide) rfl (fun ls hl => ?_)
    refine lv_lload_n hx hb d_Mod_compare_22 rfl (lv_at hl 4 rfl) ?_
    refine lv_lload hx hb d_Mod_compare_23 (lv_at hl 1 rfl) ?_
    refine lv_land hx hb d_Mod_compare_25 ?_
    refine tv_l (lN (szN 1 yy0)) (by have h9 := sz_l (i := 1) (by decide) hyy0; rw [show kSign 1 - 1 = (2147483647 : Int64) by decide] at h9; exact h9) ?_
    refine lv_lstore (lv' := [(10, .long (lN (szN 1 yy0))), (8, .long (lN (szN 1 xx0))), (6, .long 2147483647), (0, .ref md), (1, .long (lN xx0)), (3, .long (lN yy0)), (5, .int wd)]) hx hb d_Mod_compare_26 hl (by decide) rfl (fun ls hl => ?_)
    refine lv_lload hx hb d_Mod_compare_28 (lv_at hl 1 rfl) ?_
    refine lv_iload hx hb d_Mod_compare_30 (lv_at hl 6 rfl) ?_
    refine ca_l [(md, .inr (5, [.ref xx, .int ln, .long R, .int rd, .ref mm, .ref nn, .int at0, .int en0]))] (va_runS (As := [.int wd]) (rest := [.long (lN (szN 1 xx0))]) ⟨hx, hb, hml, hown, hts⟩ (c_Mod_infinite l D E wd H.size) (xS 1 hts kC_Mod_infinite kM_Mod_46 kT_Mod_infinite kN_Mod rfl rfl (by decide +kernel) ⟨Nat.le_of_ble_eq_true rfl, Nat.le_of_ble_eq_true rfl⟩) ⟨ct_blind hev, ct_pre hev hP hK hD hS hA hE [] rfl (by decide) [] rfl⟩ rfl rfl hl.1 rfl (lv_room (Nat.le_of_ble_eq_true rfl)) d_Mod_compare_32 ⟨Nat.le_of_ble_eq_true rfl, Nat.le_of_ble_eq_true rfl⟩) hP hD hS hA [] [0] rfl rfl (by decide) (by decide) (fun rv u H locs hw hP hD hS hK1 => ?_)
    subst hw
    have hP : va_P D vcl [(md, .inr (5, [.ref xx, .int ln, .long R, .int rd, .ref mm, .ref nn, .int at0, .int en0]))] H := hP
    have hD : va_D A [(md, .inr (5, [.ref xx, .int ln, .long R, .int rd, .ref mm, .ref nn, .int at0, .int en0]))] := hD
    refine tv_l (lN (kIN 1)) (by rw [e2]; exact kf_I 1 (by decide)) ?_
    refine W.lcmp hx hb d_Mod_compare_35 ?_
    refine lv_if_gt (tgt := 50) hx hb d_Mod_compare_36 (by decide) (fun c36 => ?_) (fun c36 => ?_)
    · have e36 : kIN 1 < szN 1 xx0 := (pk_lLT (by omega) (by omega)).mp ((lg_cmp_gt _ _).mp c36)
      refine lv_iconst (v := 2) hx hb d_Mod_compare_50 (by decide) ?_
      exact rt_i hx hb hrt hlocks (rfl) (()) (by rw [e2]; unfold cpN; rw [if_pos (Or.inl e36)]) (hP.sub [0] rfl) (hK.sub [] rfl) (hD.sub [0] (by decide) rfl) hS d_Mod_compare_51
    · have e36 : ¬ kIN 1 < szN 1 xx0 := fun z => c36 ((lg_cmp_gt _ _).mpr ((pk_lLT (by omega) (by omega)).mpr z))
      refine lv_lload hx hb d_Mod_compare_39 (lv_at hl 0 rfl) ?_
      refine lv_iload hx hb d_Mod_compare_41 (lv_at hl 6 rfl) ?_
      refine ca_l [(md, .inr (5, [.ref xx, .int ln, .long R, .int rd, .ref mm, .ref nn, .int at0, .int en0]))] (va_runS (As := [.int wd]) (rest := [.long (lN (szN 1 yy0))]) ⟨hx, hb, hml, hown, hts⟩ (c_Mod_infinite l D E wd H.size) (xS 1 hts kC_Mod_infinite kM_Mod_46 kT_Mod_infinite kN_Mod rfl rfl (by decide +kernel) ⟨Nat.le_of_ble_eq_true rfl, Nat.le_of_ble_eq_true rfl⟩) ⟨ct_blind hev, ct_pre hev hP hK hD hS hA hE [] rfl (by decide) [] rfl⟩ rfl rfl hl.1 rfl (lv_room (Nat.le_of_ble_eq_true rfl)) d_Mod_compare_43 ⟨Nat.le_of_ble_eq_true rfl, Nat.le_of_ble_eq_true rfl⟩) hP hD hS hA [] [0] rfl rfl (by decide) (by decide) (fun rv u H locs hw hP hD hS hK1 => ?_)
      subst hw
      have hP : va_P D vcl [(md, .inr (5, [.ref xx, .int ln, .long R, .int rd, .ref mm, .ref nn, .int at0, .int en0]))] H := hP
      have hD : va_D A [(md, .inr (5, [.ref xx, .int ln, .long R, .int rd, .ref mm, .ref nn, .int at0, .int en0]))] := hD
      refine tv_l (lN (kIN 1)) (by rw [e2]; exact kf_I 1 (by decide)) ?_
      refine W.lcmp hx hb d_Mod_compare_46 ?_
      refine lv_if_le (tgt := 52) hx hb d_Mod_compare_47 (by decide) (fun c47 => ?_) (fun c47 => ?_)
      · have e47 : ¬ kIN 1 < szN 1 yy0 := fun z => absurd ((pk_lLT (by omega) (by omega)).mpr z) (Int64.not_lt.mpr ((lg_cmp_le _ _).mp c47))
        refine lv_iload hx hb d_Mod_compare_52 (lv_at hl 6 rfl) ?_
        refine lv_if_eq (tgt := 66) hx hb d_Mod_compare_54 (by decide) (fun c54 => ?_) (fun c54 => ?_)
        · refine lv_lload_n hx hb d_Mod_compare_66 rfl (lv_at hl 4 rfl) ?_
          refine lv_ldc2 hx hb hown (hts _ kK_Mod_40) d_Mod_compare_67 ?_
          refine lv_land hx hb d_Mod_compare_70 ?_
          refine lv_lconst (v := 0) hx hb d_Mod_compare_71 (by decide) ?_
          refine W.lcmp hx hb d_Mod_compare_72 ?_
          refine lv_if_eq (tgt := 82) hx hb d_Mod_compare_73 (by decide) (fun c73 => ?_) (fun c73 => ?_)
          · have ex : ¬ xx0 / 2 ^ kB 1 % 2 = 1 := (bl_l (i := 1) (by decide) hxx0).mp ((lg_cmp_eq _ _).mp c73)
            refine lv_lload hx hb d_Mod_compare_82 (lv_at hl 1 rfl) ?_
            refine tv_l (rkN 1 xx0) (by unfold rkN; rw [if_neg ex]) ?_
            refine lv_lstore (lv' := [(8, .long (rkN 1 xx0)), (10, .long (lN (szN 1 yy0))), (6, .long 2147483647), (0, .ref md), (1, .long (lN xx0)), (3, .long (lN yy0)), (5, .int wd)]) hx hb d_Mod_compare_84 hl (by decide) rfl (fun ls hl => ?_)
            refine lv_iload hx hb d_Mod_compare_86 (lv_at hl 6 rfl) ?_
            refine lv_if_eq (tgt := 100) hx hb d_Mod_compare_88 (by decide) (fun c88 => ?_) (fun c88 => ?_)
            · refine lv_lload_n hx hb d_Mod_compare_100 rfl (lv_at hl 5 rfl) ?_
              refine lv_ldc2 hx hb hown (hts _ kK_Mod_40) d_Mod_compare_101 ?_
              refine lv_land hx hb d_Mod_compare_104 ?_
              refine lv_lconst (v := 0) hx hb d_Mod_compare_105 (by decide) ?_
              refine W.lcmp hx hb d_Mod_compare_106 ?_
              refine lv_if_eq (tgt := 116) hx hb d_Mod_compare_107 (by decide) (fun c107 => ?_) (fun c107 => ?_)
              · have ey : ¬ yy0 / 2 ^ kB 1 % 2 = 1 := (bl_l (i := 1) (by decide) hyy0).mp ((lg_cmp_eq _ _).mp c107)
                refine lv_lload hx hb d_Mod_compare_116 (lv_at hl 1 rfl) ?_
                refine tv_l (rkN 1 yy0) (by unfold rkN; rw [if_neg ey]) ?_
                refine lv_lstore (lv' := [(10, .long (rkN 1 yy0)), (8, .long (rkN 1 xx0)), (6, .long 2147483647), (0, .ref md), (1, .long (lN xx0)), (3, .long (lN yy0)), (5, .int wd)]) hx hb d_Mod_compare_118 hl (by decide) rfl (fun ls hl => ?_)
                refine lv_lload hx hb d_Mod_compare_120 (lv_at hl 1 rfl) ?_
                refine lv_lload hx hb d_Mod_compare_122 (lv_at hl 0 rfl) ?_
                refine W.lcmp hx hb d_Mod_compare_124 ?_
                refine lv_if_ge (tgt := 132) hx hb d_Mod_compare_125 (by decide) (fun c125 => ?_) (fun c125 => ?_)
                · have e125 : ¬ rkN 1 xx0 < rkN 1 yy0 := Int64.not_lt.mpr ((lg_cmp_ge _ _).mp c125)
                  refine lv_lload hx hb d_Mod_compare_132 (lv_at hl 1 rfl) ?_
                  refine lv_lload hx hb d_Mod_compare_134 (lv_at hl 0 rfl) ?_
                  refine W.lcmp hx hb d_Mod_compare_136 ?_
                  refine lv_if_ne (tgt := 144) hx hb d_Mod_compare_137 (by decide) (fun c137 => ?_) (fun c137 => ?_)
                  · have e137 : rkN 1 xx0 ≠ rkN 1 yy0 := fun z => c137 ((lg_cmp_eq _ _).mpr z)
                    refine lv_iconst (v := 1) hx hb d_Mod_compare_144 (by decide) ?_
                    exact rt_i hx hb hrt hlocks (rfl) (()) (by rw [e2]; unfold cpN; rw [if_neg (fun z => z.elim e36 e47), if_neg e137, if_neg e125]) (hP.sub [0] rfl) (hK.sub [] rfl) (hD.sub [0] (by decide) rfl) hS d_Mod_compare_145
                  · have e137 : rkN 1 xx0 = rkN 1 yy0 := (lg_cmp_eq _ _).mp c137
                    refine lv_iconst (v := 0) hx hb d_Mod_compare_140 (by decide) ?_
                    refine lv_goto (tgt := 145) hx hb d_Mod_compare_141 (by decide) ?_
                    exact rt_i hx hb hrt hlocks (rfl) (()) (by rw [e2]; unfold cpN; rw [if_neg (fun z => z.elim e36 e47), if_pos e137]) (hP.sub [0] rfl) (hK.sub [] rfl) (hD.sub [0] (by decide) rfl) hS d_Mod_compare_145
                · have e125 : rkN 1 xx0 < rkN 1 yy0 := Int64.not_le.mp (fun z => c125 ((lg_cmp_ge _ _).mpr z))
                  refine lv_iconst (v := -1) hx hb d_Mod_compare_128 (by decide) ?_
                  refine lv_goto (tgt := 145) hx hb d_Mod_compare_129 (by decide) ?_
                  exact rt_i hx hb hrt hlocks (rfl) (()) (by rw [e2]; unfold cpN; rw [if_neg (fun z => z.elim e36 e47), if_neg (fun z => by rw [z] at e125; exact absurd e125 Int64.lt_irrefl), if_pos e125]) (hP.sub [0] rfl) (hK.sub [] rfl) (hD.sub [0] (by decide) rfl) hS d_Mod_compare_145
              · have ey : yy0 / 2 ^ kB 1 % 2 = 1 := Classical.byContradiction (fun z => c107 ((lg_cmp_eq _ _).mpr ((bl_l (i := 1) (by decide) hyy0).mpr z)))
                refine lv_lload hx hb d_Mod_compare_110 (lv_at hl 1 rfl) ?_
                refine lv_lneg hx hb d_Mod_compare_112 ?_
                refine tv_l (rkN 1 yy0) (by unfold rkN; rw [if_pos ey]) ?_
                refine lv_goto (tgt := 118) hx hb d_Mod_compare_113 (by decide) ?_
                refine lv_lstore (lv' := [(10, .long (rkN 1 yy0)), (8, .long (rkN 1 xx0)), (6, .long 2147483647), (0, .ref md), (1, .long (lN xx0)), (3, .long (lN yy0)), (5, .int wd)]) hx hb d_Mod_compare_118 hl (by decide) rfl (fun ls hl => ?_)
                refine lv_lload hx hb d_Mod_compare_120 (lv_at hl 1 rfl) ?_
                refine lv_lload hx hb d_Mod_compare_122 (lv_at hl 0 rfl) ?_
                refine W.lcmp hx hb d_Mod_compare_124 ?_
                refine lv_if_ge (tgt := 132) hx hb d_Mod_compare_125 (by decide) (fun c125 => ?_) (fun c125 => ?_)
                · have e125 : ¬ rkN 1 xx0 < rkN 1 yy0 := Int64.not_lt.mpr ((lg_cmp_ge _ _).mp c125)
                  refine lv_lload hx hb d_Mod_compare_132 (lv_at hl 1 rfl) ?_
                  refine lv_lload hx hb d_Mod_compare_134 (lv_at hl 0 rfl) ?_
                  refine W.lcmp hx hb d_Mod_compare_136 ?_
                  refine lv_if_ne (tgt := 144) hx hb d_Mod_compare_137 (by decide) (fun c137 => ?_) (fun c137 => ?_)
                  · have e137 : rkN 1 xx0 ≠ rkN 1 yy0 := fun z => c137 ((lg_cmp_eq _ _).mpr z)
                    refine lv_iconst (v := 1) hx hb d_Mod_compare_144 (by decide) ?_
                    exact rt_i hx hb hrt hlocks (rfl) (()) (by rw [e2]; unfold cpN; rw [if_neg (fun z => z.elim e36 e47), if_neg e137, if_neg e125]) (hP.sub [0] rfl) (hK.sub [] rfl) (hD.sub [0] (by decide) rfl) hS d_Mod_compare_145
                  · have e137 : rkN 1 xx0 = rkN 1 yy0 := (lg_cmp_eq _ _).mp c137
                    refine lv_iconst (v := 0) hx hb d_Mod_compare_140 (by decide) ?_
                    refine lv_goto (tgt := 145) hx hb d_Mod_compare_141 (by decide) ?_
                    exact rt_i hx hb hrt hlocks (rfl) (()) (by rw [e2]; unfold cpN; rw [if_neg (fun z => z.elim e36 e47), if_pos e137]) (hP.sub [0] rfl) (hK.sub [] rfl) (hD.sub [0] (by decide) rfl) hS d_Mod_compare_145
                · have e125 : rkN 1 xx0 < rkN 1 yy0 := Int64.not_le.mp (fun z => c125 ((lg_cmp_ge _ _).mpr z))
                  refine lv_iconst (v := -1) hx hb d_Mod_compare_128 (by decide) ?_
                  refine lv_goto (tgt := 145) hx hb d_Mod_compare_129 (by decide) ?_
                  exact rt_i hx hb hrt hlocks (rfl) (()) (by rw [e2]; unfold cpN; rw [if_neg (fun z => z.elim e36 e47), if_neg (fun z => by rw [z] at e125; exact absurd e125 Int64.lt_irrefl), if_pos e125]) (hP.sub [0] rfl) (hK.sub [] rfl) (hD.sub [0] (by decide) rfl) hS d_Mod_compare_145
            · exact absurd c2 c88
          · have ex : xx0 / 2 ^ kB 1 % 2 = 1 := Classical.byContradiction (fun z => c73 ((lg_cmp_eq _ _).mpr ((bl_l (i := 1) (by decide) hxx0).mpr z)))
            refine lv_lload hx hb d_Mod_compare_76 (lv_at hl 1 rfl) ?_
            refine lv_lneg hx hb d_Mod_compare_78 ?_
            refine tv_l (rkN 1 xx0) (by unfold rkN; rw [if_pos ex]) ?_
            refine lv_goto (tgt := 84) hx hb d_Mod_compare_79 (by decide) ?_
            refine lv_lstore (lv' := [(8, .long (rkN 1 xx0)), (10, .long (lN (szN 1 yy0))), (6, .long 2147483647), (0, .ref md), (1, .long (lN xx0)), (3, .long (lN yy0)), (5, .int wd)]) hx hb d_Mod_compare_84 hl (by decide) rfl (fun ls hl => ?_)
            refine lv_iload hx hb d_Mod_compare_86 (lv_at hl 6 rfl) ?_
            refine lv_if_eq (tgt := 100) hx hb d_Mod_compare_88 (by decide) (fun c88 => ?_) (fun c88 => ?_)
            · refine lv_lload_n hx hb d_Mod_compare_100 rfl (lv_at hl 5 rfl) ?_
              refine lv_ldc2 hx hb hown (hts _ kK_Mod_40) d_Mod_compare_101 ?_
              refine lv_land hx hb d_Mod_compare_104 ?_
              refine lv_lconst (v := 0) hx hb d_Mod_compare_105 (by decide) ?_
              refine W.lcmp hx hb d_Mod_compare_106 ?_
              refine lv_if_eq (tgt := 116) hx hb d_Mod_compare_107 (by decide) (fun c107 => ?_) (fun c107 => ?_)
              · have ey : ¬ yy0 / 2 ^ kB 1 % 2 = 1 := (bl_l (i := 1) (by decide) hyy0).mp ((lg_cmp_eq _ _).mp c107)
                refine lv_lload hx hb d_Mod_compare_116 (lv_at hl 1 rfl) ?_
                refine tv_l (rkN 1 yy0) (by unfold rkN; rw [if_neg ey]) ?_
                refine lv_lstore (lv' := [(10, .long (rkN 1 yy0)), (8, .long (rkN 1 xx0)), (6, .long 2147483647), (0, .ref md), (1, .long (lN xx0)), (3, .long (lN yy0)), (5, .int wd)]) hx hb d_Mod_compare_118 hl (by decide) rfl (fun ls hl => ?_)
                refine lv_lload hx hb d_Mod_compare_120 (lv_at hl 1 rfl) ?_
                refine lv_lload hx hb d_Mod_compare_122 (lv_at hl 0 rfl) ?_
                refine W.lcmp hx hb d_Mod_compare_124 ?_
                refine lv_if_ge (tgt := 132) hx hb d_Mod_compare_125 (by decide) (fun c125 => ?_) (fun c125 => ?_)
                · have e125 : ¬ rkN 1 xx0 < rkN 1 yy0 := Int64.not_lt.mpr ((lg_cmp_ge _ _).mp c125)
                  refine lv_lload hx hb d_Mod_compare_132 (lv_at hl 1 rfl) ?_
                  refine lv_lload hx hb d_Mod_compare_134 (lv_at hl 0 rfl) ?_
                  refine W.lcmp hx hb d_Mod_compare_136 ?_
                  refine lv_if_ne (tgt := 144) hx hb d_Mod_compare_137 (by decide) (fun c137 => ?_) (fun c137 => ?_)
                  · have e137 : rkN 1 xx0 ≠ rkN 1 yy0 := fun z => c137 ((lg_cmp_eq _ _).mpr z)
                    refine lv_iconst (v := 1) hx hb d_Mod_compare_144 (by decide) ?_
                    exact rt_i hx hb hrt hlocks (rfl) (()) (by rw [e2]; unfold cpN; rw [if_neg (fun z => z.elim e36 e47), if_neg e137, if_neg e125]) (hP.sub [0] rfl) (hK.sub [] rfl) (hD.sub [0] (by decide) rfl) hS d_Mod_compare_145
                  · have e137 : rkN 1 xx0 = rkN 1 yy0 := (lg_cmp_eq _ _).mp c137
                    refine lv_iconst (v := 0) hx hb d_Mod_compare_140 (by decide) ?_
                    refine lv_goto (tgt := 145) hx hb d_Mod_compare_141 (by decide) ?_
                    exact rt_i hx hb hrt hlocks (rfl) (()) (by rw [e2]; unfold cpN; rw [if_neg (fun z => z.elim e36 e47), if_pos e137]) (hP.sub [0] rfl) (hK.sub [] rfl) (hD.sub [0] (by decide) rfl) hS d_Mod_compare_145
                · have e125 : rkN 1 xx0 < rkN 1 yy0 := Int64.not_le.mp (fun z => c125 ((lg_cmp_ge _ _).mpr z))
                  refine lv_iconst (v := -1) hx hb d_Mod_compare_128 (by decide) ?_
                  refine lv_goto (tgt := 145) hx hb d_Mod_compare_129 (by decide) ?_
                  exact rt_i hx hb hrt hlocks (rfl) (()) (by rw [e2]; unfold cpN; rw [if_neg (fun z => z.elim e36 e47), if_neg (fun z => by rw [z] at e125; exact absurd e125 Int64.lt_irrefl), if_pos e125]) (hP.sub [0] rfl) (hK.sub [] rfl) (hD.sub [0] (by decide) rfl) hS d_Mod_compare_145
              · have ey : yy0 / 2 ^ kB 1 % 2 = 1 := Classical.byContradiction (fun z => c107 ((lg_cmp_eq _ _).mpr ((bl_l (i := 1) (by decide) hyy0).mpr z)))
                refine lv_lload hx hb d_Mod_compare_110 (lv_at hl 1 rfl) ?_
                refine lv_lneg hx hb d_Mod_compare_112 ?_
                refine tv_l (rkN 1 yy0) (by unfold rkN; rw [if_pos ey]) ?_
                refine lv_goto (tgt := 118) hx hb d_Mod_compare_113 (by decide) ?_
                refine lv_lstore (lv' := [(10, .long (rkN 1 yy0)), (8, .long (rkN 1 xx0)), (6, .long 2147483647), (0, .ref md), (1, .long (lN xx0)), (3, .long (lN yy0)), (5, .int wd)]) hx hb d_Mod_compare_118 hl (by decide) rfl (fun ls hl => ?_)
                refine lv_lload hx hb d_Mod_compare_120 (lv_at hl 1 rfl) ?_
                refine lv_lload hx hb d_Mod_compare_122 (lv_at hl 0 rfl) ?_
                refine W.lcmp hx hb d_Mod_compare_124 ?_
                refine lv_if_ge (tgt := 132) hx hb d_Mod_compare_125 (by decide) (fun c125 => ?_) (fun c125 => ?_)
                · have e125 : ¬ rkN 1 xx0 < rkN 1 yy0 := Int64.not_lt.mpr ((lg_cmp_ge _ _).mp c125)
                  refine lv_lload hx hb d_Mod_compare_132 (lv_at hl 1 rfl) ?_
                  refine lv_lload hx hb d_Mod_compare_134 (lv_at hl 0 rfl) ?_
                  refine W.lcmp hx hb d_Mod_compare_136 ?_
                  refine lv_if_ne (tgt := 144) hx hb d_Mod_compare_137 (by decide) (fun c137 => ?_) (fun c137 => ?_)
                  · have e137 : rkN 1 xx0 ≠ rkN 1 yy0 := fun z => c137 ((lg_cmp_eq _ _).mpr z)
                    refine lv_iconst (v := 1) hx hb d_Mod_compare_144 (by decide) ?_
                    exact rt_i hx hb hrt hlocks (rfl) (()) (by rw [e2]; unfold cpN; rw [if_neg (fun z => z.elim e36 e47), if_neg e137, if_neg e125]) (hP.sub [0] rfl) (hK.sub [] rfl) (hD.sub [0] (by decide) rfl) hS d_Mod_compare_145
                  · have e137 : rkN 1 xx0 = rkN 1 yy0 := (lg_cmp_eq _ _).mp c137
                    refine lv_iconst (v := 0) hx hb d_Mod_compare_140 (by decide) ?_
                    refine lv_goto (tgt := 145) hx hb d_Mod_compare_141 (by decide) ?_
                    exact rt_i hx hb hrt hlocks (rfl) (()) (by rw [e2]; unfold cpN; rw [if_neg (fun z => z.elim e36 e47), if_pos e137]) (hP.sub [0] rfl) (hK.sub [] rfl) (hD.sub [0] (by decide) rfl) hS d_Mod_compare_145
                · have e125 : rkN 1 xx0 < rkN 1 yy0 := Int64.not_le.mp (fun z => c125 ((lg_cmp_ge _ _).mpr z))
                  refine lv_iconst (v := -1) hx hb d_Mod_compare_128 (by decide) ?_
                  refine lv_goto (tgt := 145) hx hb d_Mod_compare_129 (by decide) ?_
                  exact rt_i hx hb hrt hlocks (rfl) (()) (by rw [e2]; unfold cpN; rw [if_neg (fun z => z.elim e36 e47), if_neg (fun z => by rw [z] at e125; exact absurd e125 Int64.lt_irrefl), if_pos e125]) (hP.sub [0] rfl) (hK.sub [] rfl) (hD.sub [0] (by decide) rfl) hS d_Mod_compare_145
            · exact absurd c2 c88
        · exact absurd c2 c54
      · have e47 : kIN 1 < szN 1 yy0 := (pk_lLT (by omega) (by omega)).mp (Int64.not_le.mp (fun z => c47 ((lg_cmp_le _ _).mpr z)))
        refine lv_iconst (v := 2) hx hb d_Mod_compare_50 (by decide) ?_
        exact rt_i hx hb hrt hlocks (rfl) (()) (by rw [e2]; unfold cpN; rw [if_pos (Or.inr e47)]) (hP.sub [0] rfl) (hK.sub [] rfl) (hD.sub [0] (by decide) rfl) hS d_Mod_compare_51
  · have e2 : knd wd = 0 := by unfold knd; rw [if_neg c2]
    have hsx := szN_lt (i := 0) (v := xx0) (by decide)
    have hsy := szN_lt (i := 0) (v := yy0) (by decide)
    have hin := kIN_63 0 (by decide)
    refine lv_ldc2 hx hb hown (hts _ kK_Mod_163) d_Mod_compare_5 ?_
    refine lv_goto (tgt := 14) hx hb d_Mod_compare_8 (by decide) ?_
    refine lv_lstore (lv' := [(6, .long 9223372036854775807), (0, .ref md), (1, .long (lN xx0)), (3, .long (lN yy0)), (5, .int wd)]) hx hb d_Mod_compare_14 hl (by decide) rfl (fun ls hl => ?_)
    refine lv_lload_n hx hb d_Mod_compare_16 rfl (lv_at hl 2 rfl) ?_
    refine lv_lload hx hb d_Mod_compare_17 (lv_at hl 0 rfl) ?_
    refine lv_land hx hb d_Mod_compare_19 ?_
    refine tv_l (lN (szN 0 xx0)) (by have h9 := sz_l (i := 0) (by decide) hxx0; rw [show kSign 0 - 1 = (9223372036854775807 : Int64) by decide] at h9; exact h9) ?_
    refine lv_lstore (lv' := [(8, .long (lN (szN 0 xx0))), (6, .long 9223372036854775807), (0, .ref md), (1, .long (lN xx0)), (3, .long (lN yy0)), (5, .int wd)]) hx hb d_Mod_compare_20 hl (by decide) rfl (fun ls hl => ?_)
    refine lv_lload_n hx hb d_Mod_compare_22 rfl (lv_at hl 4 rfl) ?_
    refine lv_lload hx hb d_Mod_compare_23 (lv_at hl 1 rfl) ?_
    refine lv_land hx hb d_Mod_compare_25 ?_
    refine tv_l (lN (szN 0 yy0)) (by have h9 := sz_l (i := 0) (by decide) hyy0; rw [show kSign 0 - 1 = (9223372036854775807 : Int64) by decide] at h9; exact h9) ?_
    refine lv_lstore (lv' := [(10, .long (lN (szN 0 yy0))), (8, .long (lN (szN 0 xx0))), (6, .long 9223372036854775807), (0, .ref md), (1, .long (lN xx0)), (3, .long (lN yy0)), (5, .int wd)]) hx hb d_Mod_compare_26 hl (by decide) rfl (fun ls hl => ?_)
    refine lv_lload hx hb d_Mod_compare_28 (lv_at hl 1 rfl) ?_
    refine lv_iload hx hb d_Mod_compare_30 (lv_at hl 6 rfl) ?_
    refine ca_l [(md, .inr (5, [.ref xx, .int ln, .long R, .int rd, .ref mm, .ref nn, .int at0, .int en0]))] (va_runS (As := [.int wd]) (rest := [.long (lN (szN 0 xx0))]) ⟨hx, hb, hml, hown, hts⟩ (c_Mod_infinite l D E wd H.size) (xS 1 hts kC_Mod_infinite kM_Mod_46 kT_Mod_infinite kN_Mod rfl rfl (by decide +kernel) ⟨Nat.le_of_ble_eq_true rfl, Nat.le_of_ble_eq_true rfl⟩) ⟨ct_blind hev, ct_pre hev hP hK hD hS hA hE [] rfl (by decide) [] rfl⟩ rfl rfl hl.1 rfl (lv_room (Nat.le_of_ble_eq_true rfl)) d_Mod_compare_32 ⟨Nat.le_of_ble_eq_true rfl, Nat.le_of_ble_eq_true rfl⟩) hP hD hS hA [] [0] rfl rfl (by decide) (by decide) (fun rv u H locs hw hP hD hS hK1 => ?_)
    subst hw
    have hP : va_P D vcl [(md, .inr (5, [.ref xx, .int ln, .long R, .int rd, .ref mm, .ref nn, .int at0, .int en0]))] H := hP
    have hD : va_D A [(md, .inr (5, [.ref xx, .int ln, .long R, .int rd, .ref mm, .ref nn, .int at0, .int en0]))] := hD
    refine tv_l (lN (kIN 0)) (by rw [e2]; exact kf_I 0 (by decide)) ?_
    refine W.lcmp hx hb d_Mod_compare_35 ?_
    refine lv_if_gt (tgt := 50) hx hb d_Mod_compare_36 (by decide) (fun c36 => ?_) (fun c36 => ?_)
    · have e36 : kIN 0 < szN 0 xx0 := (pk_lLT (by omega) (by omega)).mp ((lg_cmp_gt _ _).mp c36)
      refine lv_iconst (v := 2) hx hb d_Mod_compare_50 (by decide) ?_
      exact rt_i hx hb hrt hlocks (rfl) (()) (by rw [e2]; unfold cpN; rw [if_pos (Or.inl e36)]) (hP.sub [0] rfl) (hK.sub [] rfl) (hD.sub [0] (by decide) rfl) hS d_Mod_compare_51
    · have e36 : ¬ kIN 0 < szN 0 xx0 := fun z => c36 ((lg_cmp_gt _ _).mpr ((pk_lLT (by omega) (by omega)).mpr z))
      refine lv_lload hx hb d_Mod_compare_39 (lv_at hl 0 rfl) ?_
      refine lv_iload hx hb d_Mod_compare_41 (lv_at hl 6 rfl) ?_
      refine ca_l [(md, .inr (5, [.ref xx, .int ln, .long R, .int rd, .ref mm, .ref nn, .int at0, .int en0]))] (va_runS (As := [.int wd]) (rest := [.long (lN (szN 0 yy0))]) ⟨hx, hb, hml, hown, hts⟩ (c_Mod_infinite l D E wd H.size) (xS 1 hts kC_Mod_infinite kM_Mod_46 kT_Mod_infinite kN_Mod rfl rfl (by decide +kernel) ⟨Nat.le_of_ble_eq_true rfl, Nat.le_of_ble_eq_true rfl⟩) ⟨ct_blind hev, ct_pre hev hP hK hD hS hA hE [] rfl (by decide) [] rfl⟩ rfl rfl hl.1 rfl (lv_room (Nat.le_of_ble_eq_true rfl)) d_Mod_compare_43 ⟨Nat.le_of_ble_eq_true rfl, Nat.le_of_ble_eq_true rfl⟩) hP hD hS hA [] [0] rfl rfl (by decide) (by decide) (fun rv u H locs hw hP hD hS hK1 => ?_)
      subst hw
      have hP : va_P D vcl [(md, .inr (5, [.ref xx, .int ln, .long R, .int rd, .ref mm, .ref nn, .int at0, .int en0]))] H := hP
      have hD : va_D A [(md, .inr (5, [.ref xx, .int ln, .long R, .int rd, .ref mm, .ref nn, .int at0, .int en0]))] := hD
      refine tv_l (lN (kIN 0)) (by rw [e2]; exact kf_I 0 (by decide)) ?_
      refine W.lcmp hx hb d_Mod_compare_46 ?_
      refine lv_if_le (tgt := 52) hx hb d_Mod_compare_47 (by decide) (fun c47 => ?_) (fun c47 => ?_)
      · have e47 : ¬ kIN 0 < szN 0 yy0 := fun z => absurd ((pk_lLT (by omega) (by omega)).mpr z) (Int64.not_lt.mpr ((lg_cmp_le _ _).mp c47))
        refine lv_iload hx hb d_Mod_compare_52 (lv_at hl 6 rfl) ?_
        refine lv_if_eq (tgt := 66) hx hb d_Mod_compare_54 (by decide) (fun c54 => ?_) (fun c54 => ?_)
        · exact absurd c54 c2
        · refine lv_lload_n hx hb d_Mod_compare_57 rfl (lv_at hl 4 rfl) ?_
          refine lv_lconst (v := 0) hx hb d_Mod_compare_58 (by decide) ?_
          refine W.lcmp hx hb d_Mod_compare_59 ?_
          refine lv_if_ge (tgt := 82) hx hb d_Mod_compare_60 (by decide) (fun c60 => ?_) (fun c60 => ?_)
          · have ex : ¬ xx0 / 2 ^ kB 0 % 2 = 1 := fun z => absurd ((ng_l hxx0).mpr (by have : xx0 / 2 ^ 63 % 2 = 1 := z; omega)) (Int64.not_lt.mpr ((lg_cmp_ge _ _).mp c60))
            refine lv_lload hx hb d_Mod_compare_82 (lv_at hl 1 rfl) ?_
            refine tv_l (rkN 0 xx0) (by unfold rkN; rw [if_neg ex]) ?_
            refine lv_lstore (lv' := [(8, .long (rkN 0 xx0)), (10, .long (lN (szN 0 yy0))), (6, .long 9223372036854775807), (0, .ref md), (1, .long (lN xx0)), (3, .long (lN yy0)), (5, .int wd)]) hx hb d_Mod_compare_84 hl (by decide) rfl (fun ls hl => ?_)
            refine lv_iload hx hb d_Mod_compare_86 (lv_at hl 6 rfl) ?_
            refine lv_if_eq (tgt := 100) hx hb d_Mod_compare_88 (by decide) (fun c88 => ?_) (fun c88 => ?_)
            · exact absurd c88 c2
            · refine lv_lload_n hx hb d_Mod_compare_91 rfl (lv_at hl 5 rfl) ?_
              refine lv_lconst (v := 0) hx hb d_Mod_compare_92 (by decide) ?_
              refine W.lcmp hx hb d_Mod_compare_93 ?_
              refine lv_if_ge (tgt := 116) hx hb d_Mod_compare_94 (by decide) (fun c94 => ?_) (fun c94 => ?_)
              · have ey : ¬ yy0 / 2 ^ kB 0 % 2 = 1 := fun z => absurd ((ng_l hyy0).mpr (by have : yy0 / 2 ^ 63 % 2 = 1 := z; omega)) (Int64.not_lt.mpr ((lg_cmp_ge _ _).mp c94))
                refine lv_lload hx hb d_Mod_compare_116 (lv_at hl 1 rfl) ?_
                refine tv_l (rkN 0 yy0) (by unfold rkN; rw [if_neg ey]) ?_
                refine lv_lstore (lv' := [(10, .long (rkN 0 yy0)), (8, .long (rkN 0 xx0)), (6, .long 9223372036854775807), (0, .ref md), (1, .long (lN xx0)), (3, .long (lN yy0)), (5, .int wd)]) hx hb d_Mod_compare_118 hl (by decide) rfl (fun ls hl => ?_)
                refine lv_lload hx hb d_Mod_compare_120 (lv_at hl 1 rfl) ?_
                refine lv_lload hx hb d_Mod_compare_122 (lv_at hl 0 rfl) ?_
                refine W.lcmp hx hb d_Mod_compare_124 ?_
                refine lv_if_ge (tgt := 132) hx hb d_Mod_compare_125 (by decide) (fun c125 => ?_) (fun c125 => ?_)
                · have e125 : ¬ rkN 0 xx0 < rkN 0 yy0 := Int64.not_lt.mpr ((lg_cmp_ge _ _).mp c125)
                  refine lv_lload hx hb d_Mod_compare_132 (lv_at hl 1 rfl) ?_
                  refine lv_lload hx hb d_Mod_compare_134 (lv_at hl 0 rfl) ?_
                  refine W.lcmp hx hb d_Mod_compare_136 ?_
                  refine lv_if_ne (tgt := 144) hx hb d_Mod_compare_137 (by decide) (fun c137 => ?_) (fun c137 => ?_)
                  · have e137 : rkN 0 xx0 ≠ rkN 0 yy0 := fun z => c137 ((lg_cmp_eq _ _).mpr z)
                    refine lv_iconst (v := 1) hx hb d_Mod_compare_144 (by decide) ?_
                    exact rt_i hx hb hrt hlocks (rfl) (()) (by rw [e2]; unfold cpN; rw [if_neg (fun z => z.elim e36 e47), if_neg e137, if_neg e125]) (hP.sub [0] rfl) (hK.sub [] rfl) (hD.sub [0] (by decide) rfl) hS d_Mod_compare_145
                  · have e137 : rkN 0 xx0 = rkN 0 yy0 := (lg_cmp_eq _ _).mp c137
                    refine lv_iconst (v := 0) hx hb d_Mod_compare_140 (by decide) ?_
                    refine lv_goto (tgt := 145) hx hb d_Mod_compare_141 (by decide) ?_
                    exact rt_i hx hb hrt hlocks (rfl) (()) (by rw [e2]; unfold cpN; rw [if_neg (fun z => z.elim e36 e47), if_pos e137]) (hP.sub [0] rfl) (hK.sub [] rfl) (hD.sub [0] (by decide) rfl) hS d_Mod_compare_145
                · have e125 : rkN 0 xx0 < rkN 0 yy0 := Int64.not_le.mp (fun z => c125 ((lg_cmp_ge _ _).mpr z))
                  refine lv_iconst (v := -1) hx hb d_Mod_compare_128 (by decide) ?_
                  refine lv_goto (tgt := 145) hx hb d_Mod_compare_129 (by decide) ?_
                  exact rt_i hx hb hrt hlocks (rfl) (()) (by rw [e2]; unfold cpN; rw [if_neg (fun z => z.elim e36 e47), if_neg (fun z => by rw [z] at e125; exact absurd e125 Int64.lt_irrefl), if_pos e125]) (hP.sub [0] rfl) (hK.sub [] rfl) (hD.sub [0] (by decide) rfl) hS d_Mod_compare_145
              · have ey : yy0 / 2 ^ kB 0 % 2 = 1 := by have := (ng_l hyy0).mp (Int64.not_le.mp (fun z => c94 ((lg_cmp_ge _ _).mpr z))); show yy0 / 2 ^ 63 % 2 = 1; omega
                refine lv_goto (tgt := 110) hx hb d_Mod_compare_97 (by decide) ?_
                refine lv_lload hx hb d_Mod_compare_110 (lv_at hl 1 rfl) ?_
                refine lv_lneg hx hb d_Mod_compare_112 ?_
                refine tv_l (rkN 0 yy0) (by unfold rkN; rw [if_pos ey]) ?_
                refine lv_goto (tgt := 118) hx hb d_Mod_compare_113 (by decide) ?_
                refine lv_lstore (lv' := [(10, .long (rkN 0 yy0)), (8, .long (rkN 0 xx0)), (6, .long 9223372036854775807), (0, .ref md), (1, .long (lN xx0)), (3, .long (lN yy0)), (5, .int wd)]) hx hb d_Mod_compare_118 hl (by decide) rfl (fun ls hl => ?_)
                refine lv_lload hx hb d_Mod_compare_120 (lv_at hl 1 rfl) ?_
                refine lv_lload hx hb d_Mod_compare_122 (lv_at hl 0 rfl) ?_
                refine W.lcmp hx hb d_Mod_compare_124 ?_
                refine lv_if_ge (tgt := 132) hx hb d_Mod_compare_125 (by decide) (fun c125 => ?_) (fun c125 => ?_)
                · have e125 : ¬ rkN 0 xx0 < rkN 0 yy0 := Int64.not_lt.mpr ((lg_cmp_ge _ _).mp c125)
                  refine lv_lload hx hb d_Mod_compare_132 (lv_at hl 1 rfl) ?_
                  refine lv_lload hx hb d_Mod_compare_134 (lv_at hl 0 rfl) ?_
                  refine W.lcmp hx hb d_Mod_compare_136 ?_
                  refine lv_if_ne (tgt := 144) hx hb d_Mod_compare_137 (by decide) (fun c137 => ?_) (fun c137 => ?_)
                  · have e137 : rkN 0 xx0 ≠ rkN 0 yy0 := fun z => c137 ((lg_cmp_eq _ _).mpr z)
                    refine lv_iconst (v := 1) hx hb d_Mod_compare_144 (by decide) ?_
                    exact rt_i hx hb hrt hlocks (rfl) (()) (by rw [e2]; unfold cpN; rw [if_neg (fun z => z.elim e36 e47), if_neg e137, if_neg e125]) (hP.sub [0] rfl) (hK.sub [] rfl) (hD.sub [0] (by decide) rfl) hS d_Mod_compare_145
                  · have e137 : rkN 0 xx0 = rkN 0 yy0 := (lg_cmp_eq _ _).mp c137
                    refine lv_iconst (v := 0) hx hb d_Mod_compare_140 (by decide) ?_
                    refine lv_goto (tgt := 145) hx hb d_Mod_compare_141 (by decide) ?_
                    exact rt_i hx hb hrt hlocks (rfl) (()) (by rw [e2]; unfold cpN; rw [if_neg (fun z => z.elim e36 e47), if_pos e137]) (hP.sub [0] rfl) (hK.sub [] rfl) (hD.sub [0] (by decide) rfl) hS d_Mod_compare_145
                · have e125 : rkN 0 xx0 < rkN 0 yy0 := Int64.not_le.mp (fun z => c125 ((lg_cmp_ge _ _).mpr z))
                  refine lv_iconst (v := -1) hx hb d_Mod_compare_128 (by decide) ?_
                  refine lv_goto (tgt := 145) hx hb d_Mod_compare_129 (by decide) ?_
                  exact rt_i hx hb hrt hlocks (rfl) (()) (by rw [e2]; unfold cpN; rw [if_neg (fun z => z.elim e36 e47), if_neg (fun z => by rw [z] at e125; exact absurd e125 Int64.lt_irrefl), if_pos e125]) (hP.sub [0] rfl) (hK.sub [] rfl) (hD.sub [0] (by decide) rfl) hS d_Mod_compare_145
          · have ex : xx0 / 2 ^ kB 0 % 2 = 1 := by have := (ng_l hxx0).mp (Int64.not_le.mp (fun z => c60 ((lg_cmp_ge _ _).mpr z))); show xx0 / 2 ^ 63 % 2 = 1; omega
            refine lv_goto (tgt := 76) hx hb d_Mod_compare_63 (by decide) ?_
            refine lv_lload hx hb d_Mod_compare_76 (lv_at hl 1 rfl) ?_
            refine lv_lneg hx hb d_Mod_compare_78 ?_
            refine tv_l (rkN 0 xx0) (by unfold rkN; rw [if_pos ex]) ?_
            refine lv_goto (tgt := 84) hx hb d_Mod_compare_79 (by decide) ?_
            refine lv_lstore (lv' := [(8, .long (rkN 0 xx0)), (10, .long (lN (szN 0 yy0))), (6, .long 9223372036854775807), (0, .ref md), (1, .long (lN xx0)), (3, .long (lN yy0)), (5, .int wd)]) hx hb d_Mod_compare_84 hl (by decide) rfl (fun ls hl => ?_)
            refine lv_iload hx hb d_Mod_compare_86 (lv_at hl 6 rfl) ?_
            refine lv_if_eq (tgt := 100) hx hb d_Mod_compare_88 (by decide) (fun c88 => ?_) (fun c88 => ?_)
            · exact absurd c88 c2
            · refine lv_lload_n hx hb d_Mod_compare_91 rfl (lv_at hl 5 rfl) ?_
              refine lv_lconst (v := 0) hx hb d_Mod_compare_92 (by decide) ?_
              refine W.lcmp hx hb d_Mod_compare_93 ?_
              refine lv_if_ge (tgt := 116) hx hb d_Mod_compare_94 (by decide) (fun c94 => ?_) (fun c94 => ?_)
              · have ey : ¬ yy0 / 2 ^ kB 0 % 2 = 1 := fun z => absurd ((ng_l hyy0).mpr (by have : yy0 / 2 ^ 63 % 2 = 1 := z; omega)) (Int64.not_lt.mpr ((lg_cmp_ge _ _).mp c94))
                refine lv_lload hx hb d_Mod_compare_116 (lv_at hl 1 rfl) ?_
                refine tv_l (rkN 0 yy0) (by unfold rkN; rw [if_neg ey]) ?_
                refine lv_lstore (lv' := [(10, .long (rkN 0 yy0)), (8, .long (rkN 0 xx0)), (6, .long 9223372036854775807), (0, .ref md), (1, .long (lN xx0)), (3, .long (lN yy0)), (5, .int wd)]) hx hb d_Mod_compare_118 hl (by decide) rfl (fun ls hl => ?_)
                refine lv_lload hx hb d_Mod_compare_120 (lv_at hl 1 rfl) ?_
                refine lv_lload hx hb d_Mod_compare_122 (lv_at hl 0 rfl) ?_
                refine W.lcmp hx hb d_Mod_compare_124 ?_
                refine lv_if_ge (tgt := 132) hx hb d_Mod_compare_125 (by decide) (fun c125 => ?_) (fun c125 => ?_)
                · have e125 : ¬ rkN 0 xx0 < rkN 0 yy0 := Int64.not_lt.mpr ((lg_cmp_ge _ _).mp c125)
                  refine lv_lload hx hb d_Mod_compare_132 (lv_at hl 1 rfl) ?_
                  refine lv_lload hx hb d_Mod_compare_134 (lv_at hl 0 rfl) ?_
                  refine W.lcmp hx hb d_Mod_compare_136 ?_
                  refine lv_if_ne (tgt := 144) hx hb d_Mod_compare_137 (by decide) (fun c137 => ?_) (fun c137 => ?_)
                  · have e137 : rkN 0 xx0 ≠ rkN 0 yy0 := fun z => c137 ((lg_cmp_eq _ _).mpr z)
                    refine lv_iconst (v := 1) hx hb d_Mod_compare_144 (by decide) ?_
                    exact rt_i hx hb hrt hlocks (rfl) (()) (by rw [e2]; unfold cpN; rw [if_neg (fun z => z.elim e36 e47), if_neg e137, if_neg e125]) (hP.sub [0] rfl) (hK.sub [] rfl) (hD.sub [0] (by decide) rfl) hS d_Mod_compare_145
                  · have e137 : rkN 0 xx0 = rkN 0 yy0 := (lg_cmp_eq _ _).mp c137
                    refine lv_iconst (v := 0) hx hb d_Mod_compare_140 (by decide) ?_
                    refine lv_goto (tgt := 145) hx hb d_Mod_compare_141 (by decide) ?_
                    exact rt_i hx hb hrt hlocks (rfl) (()) (by rw [e2]; unfold cpN; rw [if_neg (fun z => z.elim e36 e47), if_pos e137]) (hP.sub [0] rfl) (hK.sub [] rfl) (hD.sub [0] (by decide) rfl) hS d_Mod_compare_145
                · have e125 : rkN 0 xx0 < rkN 0 yy0 := Int64.not_le.mp (fun z => c125 ((lg_cmp_ge _ _).mpr z))
                  refine lv_iconst (v := -1) hx hb d_Mod_compare_128 (by decide) ?_
                  refine lv_goto (tgt := 145) hx hb d_Mod_compare_129 (by decide) ?_
                  exact rt_i hx hb hrt hlocks (rfl) (()) (by rw [e2]; unfold cpN; rw [if_neg (fun z => z.elim e36 e47), if_neg (fun z => by rw [z] at e125; exact absurd e125 Int64.lt_irrefl), if_pos e125]) (hP.sub [0] rfl) (hK.sub [] rfl) (hD.sub [0] (by decide) rfl) hS d_Mod_compare_145
              · have ey : yy0 / 2 ^ kB 0 % 2 = 1 := by have := (ng_l hyy0).mp (Int64.not_le.mp (fun z => c94 ((lg_cmp_ge _ _).mpr z))); show yy0 / 2 ^ 63 % 2 = 1; omega
                refine lv_goto (tgt := 110) hx hb d_Mod_compare_97 (by decide) ?_
                refine lv_lload hx hb d_Mod_compare_110 (lv_at hl 1 rfl) ?_
                refine lv_lneg hx hb d_Mod_compare_112 ?_
                refine tv_l (rkN 0 yy0) (by unfold rkN; rw [if_pos ey]) ?_
                refine lv_goto (tgt := 118) hx hb d_Mod_compare_113 (by decide) ?_
                refine lv_lstore (lv' := [(10, .long (rkN 0 yy0)), (8, .long (rkN 0 xx0)), (6, .long 9223372036854775807), (0, .ref md), (1, .long (lN xx0)), (3, .long (lN yy0)), (5, .int wd)]) hx hb d_Mod_compare_118 hl (by decide) rfl (fun ls hl => ?_)
                refine lv_lload hx hb d_Mod_compare_120 (lv_at hl 1 rfl) ?_
                refine lv_lload hx hb d_Mod_compare_122 (lv_at hl 0 rfl) ?_
                refine W.lcmp hx hb d_Mod_compare_124 ?_
                refine lv_if_ge (tgt := 132) hx hb d_Mod_compare_125 (by decide) (fun c125 => ?_) (fun c125 => ?_)
                · have e125 : ¬ rkN 0 xx0 < rkN 0 yy0 := Int64.not_lt.mpr ((lg_cmp_ge _ _).mp c125)
                  refine lv_lload hx hb d_Mod_compare_132 (lv_at hl 1 rfl) ?_
                  refine lv_lload hx hb d_Mod_compare_134 (lv_at hl 0 rfl) ?_
                  refine W.lcmp hx hb d_Mod_compare_136 ?_
                  refine lv_if_ne (tgt := 144) hx hb d_Mod_compare_137 (by decide) (fun c137 => ?_) (fun c137 => ?_)
                  · have e137 : rkN 0 xx0 ≠ rkN 0 yy0 := fun z => c137 ((lg_cmp_eq _ _).mpr z)
                    refine lv_iconst (v := 1) hx hb d_Mod_compare_144 (by decide) ?_
                    exact rt_i hx hb hrt hlocks (rfl) (()) (by rw [e2]; unfold cpN; rw [if_neg (fun z => z.elim e36 e47), if_neg e137, if_neg e125]) (hP.sub [0] rfl) (hK.sub [] rfl) (hD.sub [0] (by decide) rfl) hS d_Mod_compare_145
                  · have e137 : rkN 0 xx0 = rkN 0 yy0 := (lg_cmp_eq _ _).mp c137
                    refine lv_iconst (v := 0) hx hb d_Mod_compare_140 (by decide) ?_
                    refine lv_goto (tgt := 145) hx hb d_Mod_compare_141 (by decide) ?_
                    exact rt_i hx hb hrt hlocks (rfl) (()) (by rw [e2]; unfold cpN; rw [if_neg (fun z => z.elim e36 e47), if_pos e137]) (hP.sub [0] rfl) (hK.sub [] rfl) (hD.sub [0] (by decide) rfl) hS d_Mod_compare_145
                · have e125 : rkN 0 xx0 < rkN 0 yy0 := Int64.not_le.mp (fun z => c125 ((lg_cmp_ge _ _).mpr z))
                  refine lv_iconst (v := -1) hx hb d_Mod_compare_128 (by decide) ?_
                  refine lv_goto (tgt := 145) hx hb d_Mod_compare_129 (by decide) ?_
                  exact rt_i hx hb hrt hlocks (rfl) (()) (by rw [e2]; unfold cpN; rw [if_neg (fun z => z.elim e36 e47), if_neg (fun z => by rw [z] at e125; exact absurd e125 Int64.lt_irrefl), if_pos e125]) (hP.sub [0] rfl) (hK.sub [] rfl) (hD.sub [0] (by decide) rfl) hS d_Mod_compare_145
      · have e47 : kIN 0 < szN 0 yy0 := (pk_lLT (by omega) (by omega)).mp (Int64.not_le.mp (fun z => c47 ((lg_cmp_le _ _).mpr z)))
        refine lv_iconst (v := 2) hx hb d_Mod_compare_50 (by decide) ?_
        exact rt_i hx hb hrt hlocks (rfl) (()) (by rw [e2]; unfold cpN; rw [if_pos (Or.inr e47)]) (hP.sub [0] rfl) (hK.sub [] rfl) (hD.sub [0] (by decide) rfl) hS d_Mod_compare_51

set_option maxHeartbeats 4000000 in
set_option maxRecDepth 100000 in
theorem c_Mod_length (l : Launch) (D : va_G) (E : evD) (md xx mm nn : Nat) (ln rd at0 en0 : Int32) (R : Int64) : Ci (S := Unit) l y_Mod_length (wz y_Mod_length b_Mod_length 1 (some .int)) ({ frames := 0, cells := 0, slots := 0, locals := 0 }) D vcl (ev1 E) [.ref md] [] [(md, .inr (5, [.ref xx, .int ln, .long R, .int rd, .ref mm, .ref nn, .int at0, .int en0]))] 0 0 (fun (w : Int32) (_ : Unit) => w = ln) (fun _ => []) (fun _ : Unit => [(md, .inr (5, [.ref xx, .int ln, .long R, .int rd, .ref mm, .ref nn, .int at0, .int en0]))]) := by
  have hev := ev1_ok E
  unfold Ci
  refine ct_of (y := y_Mod_length) (av := [.ref md]) (cc := b_Mod_length) (maxL := 1) (ret := (some .int)) (Qc := fun A => va_Qi (S := Unit) (fun (w : Int32) (_ : Unit) => w = ln) (fun u tS => ctB D vcl ((fun _ => []) u) ((fun _ : Unit => [(md, .inr (5, [.ref xx, .int ln, .long R, .int rd, .ref mm, .ref nn, .int at0, .int en0]))]) u) A tS) A) (by decide) rfl (Nat.le_of_ble_eq_true rfl) ?_
  intro p ee s m below meth cde ls A H locs hx hb hml hrt hlocks hown hin hts hA hP hK hD hS hE hl
  have hown : s.vm.findClass R_Mod = some m.cls := hown
  have hts := wz_g hts
  have hl : lv_has ls 1 [(0, .ref md)] := hl
  refine lv_aload_n hx hb d_Mod_length_0 rfl (lv_at hl 0 rfl) ?_
  refine va_get (D := D) (ci := 5) (v := .int ln) (C := R_Mod) (T := F_Mod) (N := 8) hx hb hts w_Mod hown hK hP 0 rfl rfl 1 (by decide) (hts _ kF_Mod_74) (fun _ h9 => h9) rfl d_Mod_length_1 ?_
  exact rt_i hx hb hrt hlocks (rfl) (()) (rfl) (hP.sub [0] rfl) (hK.sub [] rfl) (hD.sub [0] (by decide) rfl) hS d_Mod_length_4

set_option maxHeartbeats 4000000 in
set_option maxRecDepth 100000 in
theorem c_Mod_bits (l : Launch) (D : va_G) (E : evD) (md xx mm nn : Nat) (ln rd at0 en0 : Int32) (R : Int64) : Cl (S := Unit) l y_Mod_bits (wz y_Mod_bits b_Mod_bits 1 (some .long)) ({ frames := 0, cells := 0, slots := 0, locals := 0 }) D vcl (ev1 E) [.ref md] [] [(md, .inr (5, [.ref xx, .int ln, .long R, .int rd, .ref mm, .ref nn, .int at0, .int en0]))] 0 0 (fun (w : Int64) (_ : Unit) => w = R) (fun _ => []) (fun _ : Unit => [(md, .inr (5, [.ref xx, .int ln, .long R, .int rd, .ref mm, .ref nn, .int at0, .int en0]))]) := by
  have hev := ev1_ok E
  unfold Cl
  refine ct_of (y := y_Mod_bits) (av := [.ref md]) (cc := b_Mod_bits) (maxL := 1) (ret := (some .long)) (Qc := fun A => va_Ql (S := Unit) (fun (w : Int64) (_ : Unit) => w = R) (fun u tS => ctB D vcl ((fun _ => []) u) ((fun _ : Unit => [(md, .inr (5, [.ref xx, .int ln, .long R, .int rd, .ref mm, .ref nn, .int at0, .int en0]))]) u) A tS) A) (by decide) rfl (Nat.le_of_ble_eq_true rfl) ?_
  intro p ee s m below meth cde ls A H locs hx hb hml hrt hlocks hown hin hts hA hP hK hD hS hE hl
  have hown : s.vm.findClass R_Mod = some m.cls := hown
  have hts := wz_g hts
  have hl : lv_has ls 1 [(0, .ref md)] := hl
  refine lv_aload_n hx hb d_Mod_bits_0 rfl (lv_at hl 0 rfl) ?_
  refine va_get (D := D) (ci := 5) (v := .long R) (C := R_Mod) (T := F_Mod) (N := 8) hx hb hts w_Mod hown hK hP 0 rfl rfl 2 (by decide) (hts _ kF_Mod_97) (fun _ h9 => h9) rfl d_Mod_bits_1 ?_
  exact rt_l hx hb hrt hlocks (()) (rfl) (hP.sub [0] rfl) (hK.sub [] rfl) (hD.sub [0] (by decide) rfl) hS d_Mod_bits_4

set_option maxHeartbeats 4000000 in
set_option maxRecDepth 100000 in
theorem c_Mod_readings (l : Launch) (D : va_G) (E : evD) (md xx mm nn : Nat) (ln rd at0 en0 : Int32) (R : Int64) : Ci (S := Unit) l y_Mod_readings (wz y_Mod_readings b_Mod_readings 1 (some .int)) ({ frames := 0, cells := 0, slots := 0, locals := 0 }) D vcl (ev1 E) [.ref md] [] [(md, .inr (5, [.ref xx, .int ln, .long R, .int rd, .ref mm, .ref nn, .int at0, .int en0]))] 0 0 (fun (w : Int32) (_ : Unit) => w = rd) (fun _ => []) (fun _ : Unit => [(md, .inr (5, [.ref xx, .int ln, .long R, .int rd, .ref mm, .ref nn, .int at0, .int en0]))]) := by
  have hev := ev1_ok E
  unfold Ci
  refine ct_of (y := y_Mod_readings) (av := [.ref md]) (cc := b_Mod_readings) (maxL := 1) (ret := (some .int)) (Qc := fun A => va_Qi (S := Unit) (fun (w : Int32) (_ : Unit) => w = rd) (fun u tS => ctB D vcl ((fun _ => []) u) ((fun _ : Unit => [(md, .inr (5, [.ref xx, .int ln, .long R, .int rd, .ref mm, .ref nn, .int at0, .int en0]))]) u) A tS) A) (by decide) rfl (Nat.le_of_ble_eq_true rfl) ?_
  intro p ee s m below meth cde ls A H locs hx hb hml hrt hlocks hown hin hts hA hP hK hD hS hE hl
  have hown : s.vm.findClass R_Mod = some m.cls := hown
  have hts := wz_g hts
  have hl : lv_has ls 1 [(0, .ref md)] := hl
  refine lv_aload_n hx hb d_Mod_readings_0 rfl (lv_at hl 0 rfl) ?_
  refine va_get (D := D) (ci := 5) (v := .int rd) (C := R_Mod) (T := F_Mod) (N := 8) hx hb hts w_Mod hown hK hP 0 rfl rfl 3 (by decide) (hts _ kF_Mod_101) (fun _ h9 => h9) rfl d_Mod_readings_1 ?_
  exact rt_i hx hb hrt hlocks (rfl) (()) (rfl) (hP.sub [0] rfl) (hK.sub [] rfl) (hD.sub [0] (by decide) rfl) hS d_Mod_readings_4

set_option maxHeartbeats 4000000 in
set_option maxRecDepth 100000 in
theorem c_Mod_keep (l : Launch) (D : va_G) (E : evD) (md xx mm nn : Nat) (rd at0 en0 : Int32) (R : Int64) (n : Nat) (hn : n ≤ 2400) (z : Int) (hz1 : -2147483648 ≤ z) (hz2 : z < 2147483648) : Ci (S := Unit) l y_Mod_keep (wz y_Mod_keep b_Mod_keep 2 (some .boolean)) ({ frames := 0, cells := 0, slots := 0, locals := 0 }) D vcl (ev1 E) [.ref md, .int (zI z)] [] [(md, .inr (5, [.ref xx, .int (nI n), .long R, .int rd, .ref mm, .ref nn, .int at0, .int en0]))] 0 0 (fun (w : Int32) (_ : Unit) => w = bI (decide (0 ≤ z ∧ z < (n : Int)))) (fun _ => []) (fun _ : Unit => [(md, .inr (5, [.ref xx, .int (nI (kpN n z)), .long R, .int rd, .ref mm, .ref nn, .int at0, .int en0]))]) := by
  have hev := ev1_ok E
  unfold Ci
  refine ct_of (y := y_Mod_keep) (av := [.ref md, .int (zI z)]) (cc := b_Mod_keep) (maxL := 2) (ret := (some .boolean)) (Qc := fun A => va_Qi (S := Unit) (fun (w : Int32) (_ : Unit) => w = bI (decide (0 ≤ z ∧ z < (n : Int)))) (fun u tS => ctB D vcl ((fun _ => []) u) ((fun _ : Unit => [(md, .inr (5, [.ref xx, .int (nI (kpN n z)), .long R, .int rd, .ref mm, .ref nn, .int at0, .int en0]))]) u) A tS) A) (by decide) rfl (Nat.le_of_ble_eq_true rfl) ?_
  intro p ee s m below meth cde ls A H locs hx hb hml hrt hlocks hown hin hts hA hP hK hD hS hE hl
  have hown : s.vm.findClass R_Mod = some m.cls := hown
  have hts := wz_g hts
  have hl : lv_has ls 2 [(0, .ref md), (1, .int (zI z))] := hl
  refine lv_iload_n hx hb d_Mod_keep_0 rfl (lv_at hl 1 rfl) ?_
  refine lv_if_lt (tgt := 12) hx hb d_Mod_keep_1 (by decide) (fun c1 => ?_) (fun c1 => ?_)
  · have e1 : ¬ (0 ≤ z ∧ z < n) := fun y => by have := (zI_lt (b := 0) (by omega) (by omega) (by omega) (by omega)).mp c1; omega
    refine lv_iconst (v := 0) hx hb d_Mod_keep_12 (by decide) ?_
    rw [show nI n = nI (kpN n z) by unfold kpN; rw [if_neg e1]] at hP hD
    exact rt_i hx hb hrt hlocks (rfl) (()) (by rw [decide_eq_false e1]; rfl) (hP.sub [0] rfl) (hK.sub [] rfl) (hD.sub [0] (by decide) rfl) hS d_Mod_keep_13
  · have e1 : 0 ≤ z := Int.not_lt.mp (fun y => c1 ((zI_lt (b := 0) (by omega) (by omega) (by omega) (by omega)).mpr y))
    refine lv_aload_n hx hb d_Mod_keep_4 rfl (lv_at hl 0 rfl) ?_
    refine va_get (D := D) (ci := 5) (v := .int (nI n)) (C := R_Mod) (T := F_Mod) (N := 8) hx hb hts w_Mod hown hK hP 0 rfl rfl 1 (by decide) (hts _ kF_Mod_74) (fun _ h9 => h9) rfl d_Mod_keep_5 ?_
    refine tv_i (zI (n : Int)) ((zI_nI n).symm) ?_
    refine lv_iload_n hx hb d_Mod_keep_8 rfl (lv_at hl 1 rfl) ?_
    refine lv_icmp_gt (tgt := 14) hx hb d_Mod_keep_9 (by decide) (fun c9 => ?_) (fun c9 => ?_)
    · have e9 : z < n := (zI_lt (by omega) (by omega) (by omega) (by omega)).mp c9
      refine lv_aload_n hx hb d_Mod_keep_14 rfl (lv_at hl 0 rfl) ?_
      refine lv_iload_n hx hb d_Mod_keep_15 rfl (lv_at hl 1 rfl) ?_
      refine va_put (D := D) (ci := 5) (v := .int (zI z)) (ty := .int) (C := R_Mod) (T := F_Mod) (N := 8) hx hb hts w_Mod t_Mod tk_Mod n_Mod hown hK hP hD hS 0 rfl rfl 1 (by decide) (hts _ kF_Mod_74) (fun _ h9 => h9) rfl (by decide +kernel) (rfl) (rfl) (Nat.le_of_ble_eq_true rfl) d_Mod_keep_16 (fun H locs hP hD hS => ?_)
      have hP : va_P D vcl [(md, .inr (5, [.ref xx, .int (zI z), .long R, .int rd, .ref mm, .ref nn, .int at0, .int en0]))] H := hP
      have hD : va_D A [(md, .inr (5, [.ref xx, .int (zI z), .long R, .int rd, .ref mm, .ref nn, .int at0, .int en0]))] := hD
      refine lv_iconst (v := 1) hx hb d_Mod_keep_19 (by decide) ?_
      rw [show zI z = nI (kpN n z) by unfold kpN; rw [if_pos ⟨e1, e9⟩, ← zI_nI]; exact congrArg zI (by omega)] at hP hD
      exact rt_i hx hb hrt hlocks (rfl) (()) (by rw [decide_eq_true ⟨e1, e9⟩]; rfl) (hP.sub [0] rfl) (hK.sub [] rfl) (hD.sub [0] (by decide) rfl) hS d_Mod_keep_20
    · have e9 : ¬ z < n := fun y => c9 ((zI_lt (by omega) (by omega) (by omega) (by omega)).mpr y)
      refine lv_iconst (v := 0) hx hb d_Mod_keep_12 (by decide) ?_
      rw [show nI n = nI (kpN n z) by unfold kpN; rw [if_neg (fun y => e9 y.2)]] at hP hD
      exact rt_i hx hb hrt hlocks (rfl) (()) (by rw [decide_eq_false (fun y => e9 y.2)]; rfl) (hP.sub [0] rfl) (hK.sub [] rfl) (hD.sub [0] (by decide) rfl) hS d_Mod_keep_13

set_option maxHeartbeats 4000000 in
set_option maxRecDepth 100000 in
theorem c_Mod_write (l : Launch) (D : va_G) (E : evD) (md xx mm nn : Nat) (cX : ClassId) (rd at0 en0 : Int32) (R : Int64) (T : Nat → Nat) (n : Nat) (hn : n ≤ 2400) (y : Nat) (hy : y < 2 ^ 64) : Ci (S := Unit) l y_Mod_write (wz y_Mod_write b_Mod_write 6 (some .boolean)) ({ frames := 0, cells := 0, slots := 0, locals := 0 }) D vcl (ev1 E) [.ref md, .long (lN y)] [(cX, .int)] [(md, .inr (5, [.ref xx, .int (nI n), .long R, .int rd, .ref mm, .ref nn, .int at0, .int en0])), (xx, .inl (cX, 2400, .inl (tx T)))] 0 0 (fun (w : Int32) (_ : Unit) => w = bI (decide (n + cb y 8 ≤ 2400))) (fun _ => [(cX, .int)]) (fun _ : Unit => [(md, .inr (5, [.ref xx, .int (nI (wrN n y)), .long R, .int rd, .ref mm, .ref nn, .int at0, .int en0])), (xx, .inl (cX, 2400, .inl (tx (wrT T n y))))]) := by
  have hev := ev1_ok E
  unfold Ci
  refine ct_of (y := y_Mod_write) (av := [.ref md, .long (lN y)]) (cc := b_Mod_write) (maxL := 6) (ret := (some .boolean)) (Qc := fun A => va_Qi (S := Unit) (fun (w : Int32) (_ : Unit) => w = bI (decide (n + cb y 8 ≤ 2400))) (fun u tS => ctB D vcl ((fun _ => [(cX, .int)]) u) ((fun _ : Unit => [(md, .inr (5, [.ref xx, .int (nI (wrN n y)), .long R, .int rd, .ref mm, .ref nn, .int at0, .int en0])), (xx, .inl (cX, 2400, .inl (tx (wrT T n y))))]) u) A tS) A) (by decide) rfl (Nat.le_of_ble_eq_true rfl) ?_
  intro p ee s m below meth cde ls A H locs hx hb hml hrt hlocks hown hin hts hA hP hK hD hS hE hl
  have hown : s.vm.findClass R_Mod = some m.cls := hown
  have hts := wz_g hts
  have hl : lv_has ls 6 [(0, .ref md), (1, .long (lN y))] := hl
  refine lv_iconst (v := 0) hx hb d_Mod_write_0 (by decide) ?_
  refine tv_i (nI (cbu y 0)) (rfl) ?_
  refine lv_istore_n (lv' := [(3, .int (nI (cbu y 0))), (0, .ref md), (1, .long (lN y))]) hx hb d_Mod_write_1 rfl hl (by decide) rfl (fun ls hl => ?_)
  refine lv_iconst (v := 0) hx hb d_Mod_write_2 (by decide) ?_
  refine tv_i (nI 0) (rfl) ?_
  refine lv_istore (lv' := [(4, .int (nI 0)), (3, .int (nI (cbu y 0))), (0, .ref md), (1, .long (lN y))]) hx hb d_Mod_write_3 hl (by decide) rfl (fun ls hl => ?_)
  have L5 : ∀ (kk : Nat) (k : Nat), 8 - k < kk → (k ≤ 8) → ∀ (H : Heap) (locs : List Loc) (ls : Array Slot), va_P D vcl [(md, .inr (5, [.ref xx, .int (nI n), .long R, .int rd, .ref mm, .ref nn, .int at0, .int en0])), (xx, .inl (cX, 2400, .inl (tx T)))] H → va_D A [(md, .inr (5, [.ref xx, .int (nI n), .long R, .int rd, .ref mm, .ref nn, .int at0, .int en0])), (xx, .inl (cX, 2400, .inl (tx T)))] → va_S A s.heap H locs → lv_has ls 6 [(0, .ref md), (1, .long (lN y)), (3, .int (nI (cbu y k))), (4, .int (nI k))] → W p l ee ({ frames := 0, cells := 0, slots := 0, locals := 0 }) s m ([.ref md, .long (lN y)] : List Value).toArray below meth cde H locs 0 0 (MQ below (va_Qi (S := Unit) (fun (w : Int32) (_ : Unit) => w = bI (decide (n + cb y 8 ≤ 2400))) (fun u tS => ctB D vcl ((fun _ => [(cX, .int)]) u) ((fun _ : Unit => [(md, .inr (5, [.ref xx, .int (nI (wrN n y)), .long R, .int rd, .ref mm, .ref nn, .int at0, .int en0])), (xx, .inl (cX, 2400, .inl (tx (wrT T n y))))]) u) A tS) A) ([.ref md, .long (lN y)] : List Value).toArray s 0 0 A) (F0 m 5 ls []) := by
    intro kk
    induction kk with
    | zero => intro k hmz; exact absurd hmz (Nat.not_lt_zero _)
    | succ kk ih =>
      intro k hmz hk H locs ls hP hD hS hl
      have hby := byt_lt y k
      refine lv_iload hx hb d_Mod_write_5 (lv_at hl 3 rfl) ?_
      refine lv_bipush (v := 8) hx hb d_Mod_write_7 (by decide) ?_
      refine lv_icmp_ge (tgt := 42) hx hb d_Mod_write_9 (by decide) (fun c9 => ?_) (fun c9 => ?_)
      · have e9 : k = 8 := by have := (nI_leI (a := 8) (by decide) (by omega)).mp c9; omega
        refine lv_aload_n hx hb d_Mod_write_42 rfl (lv_at hl 0 rfl) ?_
        refine va_get (D := D) (ci := 5) (v := .int (nI n)) (C := R_Mod) (T := F_Mod) (N := 8) hx hb hts w_Mod hown hK hP 0 rfl rfl 1 (by decide) (hts _ kF_Mod_74) (fun _ h9 => h9) rfl d_Mod_write_43 ?_
        refine lv_iload_n hx hb d_Mod_write_46 rfl (lv_at hl 2 rfl) ?_
        refine lv_iadd hx hb d_Mod_write_47 ?_
        refine tv_i (nI (n + cb y 8)) (by rw [nI_add, e9, cbu_8]) ?_
        refine lv_sipush (v := 2400) hx hb d_Mod_write_48 (by decide) ?_
        refine lv_icmp_le (tgt := 56) hx hb d_Mod_write_51 (by decide) (fun c51 => ?_) (fun c51 => ?_)
        · have e51 : n + cb y 8 ≤ 2400 := (nI_leI (b := 2400) (by have := cb_le y 8; omega) (by decide)).mp c51
          refine lv_bipush (v := 7) hx hb d_Mod_write_56 (by decide) ?_
          refine tv_i (zI (7 - ((0 : Nat) : Int))) (by decide) ?_
          refine lv_istore (lv' := [(4, .int (zI (7 - ((0 : Nat) : Int)))), (0, .ref md), (1, .long (lN y)), (3, .int (nI (cbu y k)))]) hx hb d_Mod_write_58 hl (by decide) rfl (fun ls hl => ?_)
          have L60 : ∀ (kk : Nat) (m1 : Nat), 8 - m1 < kk → (m1 ≤ 8) → ∀ (H : Heap) (locs : List Loc) (ls : Array Slot), va_P D vcl [(md, .inr (5, [.ref xx, .int (nI (n + cb y m1)), .long R, .int rd, .ref mm, .ref nn, .int at0, .int en0])), (xx, .inl (cX, 2400, .inl (tx (wT T n y m1))))] H → va_D A [(md, .inr (5, [.ref xx, .int (nI (n + cb y m1)), .long R, .int rd, .ref mm, .ref nn, .int at0, .int en0])), (xx, .inl (cX, 2400, .inl (tx (wT T n y m1))))] → va_S A s.heap H locs → lv_has ls 6 [(0, .ref md), (1, .long (lN y)), (4, .int (zI (7 - (m1 : Int))))] → W p l ee ({ frames := 0, cells := 0, slots := 0, locals := 0 }) s m ([.ref md, .long (lN y)] : List Value).toArray below meth cde H locs 0 0 (MQ below (va_Qi (S := Unit) (fun (w : Int32) (_ : Unit) => w = bI (decide (n + cb y 8 ≤ 2400))) (fun u tS => ctB D vcl ((fun _ => [(cX, .int)]) u) ((fun _ : Unit => [(md, .inr (5, [.ref xx, .int (nI (wrN n y)), .long R, .int rd, .ref mm, .ref nn, .int at0, .int en0])), (xx, .inl (cX, 2400, .inl (tx (wrT T n y))))]) u) A tS) A) ([.ref md, .long (lN y)] : List Value).toArray s 0 0 A) (F0 m 60 ls []) := by
            intro kk
            induction kk with
            | zero => intro m1 hmz; exact absurd hmz (Nat.not_lt_zero _)
            | succ kk ih =>
              intro m1 hmz hm H locs ls hP hD hS hl
              have hby := byt_lt y (7 - m1)
              refine lv_iload hx hb d_Mod_write_60 (lv_at hl 2 rfl) ?_
              refine lv_if_lt (tgt := 111) hx hb d_Mod_write_62 (by decide) (fun c62 => ?_) (fun c62 => ?_)
              · have e62 : m1 = 8 := by have := (zI_lt (b := 0) (by omega) (by omega) (by omega) (by omega)).mp c62; omega
                refine lv_iconst (v := 1) hx hb d_Mod_write_111 (by decide) ?_
                rw [e62, show wT T n y 8 = wrT T n y by unfold wrT; rw [if_pos e51], show n + cb y 8 = wrN n y by unfold wrN; rw [if_pos e51]] at hP hD
                exact rt_i hx hb hrt hlocks (rfl) (()) (by rw [decide_eq_true e51]; rfl) (hP.sub [0, 1] rfl) (hK.sub [0] rfl) (hD.sub [0, 1] (by decide) rfl) hS d_Mod_write_112
              · have e62 : m1 < 8 := by have := mt (zI_lt (b := 0) (by omega) (by omega) (by omega) (by omega)).mpr c62; omega
                refine lv_lload_n hx hb d_Mod_write_65 rfl (lv_at hl 1 rfl) ?_
                refine lv_bipush (v := 8) hx hb d_Mod_write_66 (by decide) ?_
                refine lv_iload hx hb d_Mod_write_68 (lv_at hl 2 rfl) ?_
                refine lv_imul hx hb d_Mod_write_70 ?_
                refine tv_i (nI (8 * (7 - m1))) (by show zI 8 * zI _ = _; rw [zI_mul, ← zI_nI]; exact congrArg zI (by omega)) ?_
                refine lv_lshr (v := (lN y) >>> ((nI (8 * (7 - m1))).toInt64 &&& 63)) hx hb d_Mod_write_71 (rfl) ?_
                refine lv_ldc2 hx hb hown (hts _ kK_Mod_72) d_Mod_write_72 ?_
                refine lv_land hx hb d_Mod_write_75 ?_
                refine tv_l (lN (byt y (7 - m1))) (byt_s hy (by omega)) ?_
                refine lv_l2i (v := (lN (byt y (7 - m1))).toInt32) hx hb d_Mod_write_76 (rfl) ?_
                refine tv_i (nI (byt y (7 - m1))) (lN_i _) ?_
                refine lv_istore (lv' := [(5, .int (nI (byt y (7 - m1)))), (0, .ref md), (1, .long (lN y)), (4, .int (zI (7 - (m1 : Int))))]) hx hb d_Mod_write_77 hl (by decide) rfl (fun ls hl => ?_)
                refine lv_iload hx hb d_Mod_write_79 (lv_at hl 0 rfl) ?_
                refine lv_if_eq (tgt := 105) hx hb d_Mod_write_81 (by decide) (fun c81 => ?_) (fun c81 => ?_)
                · have e81 : byt y (7 - m1) = 0 := (nI_eq0 (by omega)).mp c81
                  obtain ⟨hw1, hw2⟩ := wT_0 (T := T) (n := n) e81
                  rw [← hw1, ← hw2] at hP hD
                  refine lv_iinc (v := zI (7 - ((m1 + 1 : Nat) : Int))) (lv' := [(4, .int (zI (7 - ((m1 + 1 : Nat) : Int)))), (5, .int (nI (byt y (7 - m1)))), (0, .ref md), (1, .long (lN y))]) hx hb d_Mod_write_105 hl (k := 3) rfl (by show zI _ + zI (-1) = _; rw [zI_add]; exact congrArg zI (by omega)) (by decide) rfl (fun ls hl => ?_)
                  refine lv_goto (tgt := 60) hx hb d_Mod_write_108 (by decide) ?_
                  exact ih (m1 + 1) (by omega) (by omega) _ _ _ (hP.sub [0, 1] rfl) (hD.sub [0, 1] (by decide) rfl) hS (lv_sub hl [2, 3, 0] rfl)
                · have e81 : byt y (7 - m1) ≠ 0 := fun z => c81 (by rw [z]; rfl)
                  obtain ⟨hw1, hw2⟩ := wT_1 (T := T) (n := n) e81
                  have hcm := cb_mono y (show m1 + 1 ≤ 8 by omega)
                  refine lv_aload_n hx hb d_Mod_write_84 rfl (lv_at hl 1 rfl) ?_
                  refine va_get (D := D) (ci := 5) (v := .ref xx) (C := R_Mod) (T := F_Mod) (N := 8) hx hb hts w_Mod hown hK hP 0 rfl rfl 0 (by decide) (hts _ kF_Mod_7) (fun _ h9 => h9) rfl d_Mod_write_85 ?_
                  refine lv_aload_n hx hb d_Mod_write_88 rfl (lv_at hl 1 rfl) ?_
                  refine va_get (D := D) (ci := 5) (v := .int (nI (n + cb y m1))) (C := R_Mod) (T := F_Mod) (N := 8) hx hb hts w_Mod hown hK hP 0 rfl rfl 1 (by decide) (hts _ kF_Mod_74) (fun _ h9 => h9) rfl d_Mod_write_89 ?_
                  refine lv_iload hx hb d_Mod_write_92 (lv_at hl 0 rfl) ?_
                  refine va_iast hx hb hK hP hD hS 1 0 rfl rfl (i := nI (n + cb y m1)) (vp_in_nI (show n + cb y m1 < 2400 by omega) (by decide)) d_Mod_write_94 (fun H locs hP hD hS => ?_)
                  have hP : va_P D vcl [(md, .inr (5, [.ref xx, .int (nI (n + cb y m1)), .long R, .int rd, .ref mm, .ref nn, .int at0, .int en0])), (xx, .inl (cX, 2400, .inl (upd (tx (wT T n y m1)) (nI (n + cb y m1)).toNatClampNeg (nI (byt y (7 - m1))))))] H := hP
                  have hD : va_D A [(md, .inr (5, [.ref xx, .int (nI (n + cb y m1)), .long R, .int rd, .ref mm, .ref nn, .int at0, .int en0])), (xx, .inl (cX, 2400, .inl (upd (tx (wT T n y m1)) (nI (n + cb y m1)).toNatClampNeg (nI (byt y (7 - m1))))))] := hD
                  rw [show upd (tx (wT T n y m1)) (nI (n + cb y m1)).toNatClampNeg (nI (byt y (7 - m1))) = tx (wT T n y (m1 + 1)) from by rw [nI_clamp (by omega), tx_upd, hw1]] at hP hD
                  refine lv_aload_n hx hb d_Mod_write_95 rfl (lv_at hl 1 rfl) ?_
                  refine lv_dup hx hb d_Mod_write_96 rfl ?_
                  refine va_get (D := D) (ci := 5) (v := .int (nI (n + cb y m1))) (C := R_Mod) (T := F_Mod) (N := 8) hx hb hts w_Mod hown hK hP 0 rfl rfl 1 (by decide) (hts _ kF_Mod_74) (fun _ h9 => h9) rfl d_Mod_write_97 ?_
                  refine lv_iconst (v := 1) hx hb d_Mod_write_100 (by decide) ?_
                  refine lv_iadd hx hb d_Mod_write_101 ?_
                  refine tv_i (nI (n + cb y (m1 + 1))) (by rw [hw2]; exact nI_1 _) ?_
                  refine va_put (D := D) (ci := 5) (v := .int (nI (n + cb y (m1 + 1)))) (ty := .int) (C := R_Mod) (T := F_Mod) (N := 8) hx hb hts w_Mod t_Mod tk_Mod n_Mod hown hK hP hD hS 0 rfl rfl 1 (by decide) (hts _ kF_Mod_74) (fun _ h9 => h9) rfl (by decide +kernel) (rfl) (rfl) (Nat.le_of_ble_eq_true rfl) d_Mod_write_102 (fun H locs hP hD hS => ?_)
                  have hP : va_P D vcl [(md, .inr (5, [.ref xx, .int (nI (n + cb y (m1 + 1))), .long R, .int rd, .ref mm, .ref nn, .int at0, .int en0])), (xx, .inl (cX, 2400, .inl (tx (wT T n y (m1 + 1)))))] H := hP
                  have hD : va_D A [(md, .inr (5, [.ref xx, .int (nI (n + cb y (m1 + 1))), .long R, .int rd, .ref mm, .ref nn, .int at0, .int en0])), (xx, .inl (cX, 2400, .inl (tx (wT T n y (m1 + 1)))))] := hD
                  refine lv_iinc (v := zI (7 - ((m1 + 1 : Nat) : Int))) (lv' := [(4, .int (zI (7 - ((m1 + 1 : Nat) : Int)))), (5, .int (nI (byt y (7 - m1)))), (0, .ref md), (1, .long (lN y))]) hx hb d_Mod_write_105 hl (k := 3) rfl (by show zI _ + zI (-1) = _; rw [zI_add]; exact congrArg zI (by omega)) (by decide) rfl (fun ls hl => ?_)
                  refine lv_goto (tgt := 60) hx hb d_Mod_write_108 (by decide) ?_
                  exact ih (m1 + 1) (by omega) (by omega) _ _ _ (hP.sub [0, 1] rfl) (hD.sub [0, 1] (by decide) rfl) hS (lv_sub hl [2, 3, 0] rfl)
          exact L60 9 0 (by decide) (by decide) _ _ _ (hP.sub [0, 1] rfl) (hD.sub [0, 1] (by decide) rfl) hS (lv_sub hl [1, 2, 0] rfl)
        · have e51 : ¬ n + cb y 8 ≤ 2400 := fun z => c51 ((nI_leI (b := 2400) (by have := cb_le y 8; omega) (by decide)).mpr z)
          refine lv_iconst (v := 0) hx hb d_Mod_write_54 (by decide) ?_
          rw [show tx T = tx (wrT T n y) by unfold wrT; rw [if_neg e51], show nI n = nI (wrN n y) by unfold wrN; rw [if_neg e51]] at hP hD
          exact rt_i hx hb hrt hlocks (rfl) (()) (by rw [decide_eq_false e51]; rfl) (hP.sub [0, 1] rfl) (hK.sub [0] rfl) (hD.sub [0, 1] (by decide) rfl) hS d_Mod_write_55
      · have e9 : k < 8 := Nat.lt_of_not_le (fun z => c9 ((nI_leI (a := 8) (by decide) (by omega)).mpr z))
        refine lv_iload_n hx hb d_Mod_write_12 rfl (lv_at hl 2 rfl) ?_
        refine lv_lload_n hx hb d_Mod_write_13 rfl (lv_at hl 1 rfl) ?_
        refine lv_bipush (v := 8) hx hb d_Mod_write_14 (by decide) ?_
        refine lv_iload hx hb d_Mod_write_16 (lv_at hl 3 rfl) ?_
        refine lv_imul hx hb d_Mod_write_18 ?_
        refine tv_i (nI (8 * k)) (pk_mul 8 k) ?_
        refine lv_lshr (v := (lN y) >>> ((nI (8 * k)).toInt64 &&& 63)) hx hb d_Mod_write_19 (rfl) ?_
        refine lv_ldc2 hx hb hown (hts _ kK_Mod_72) d_Mod_write_20 ?_
        refine lv_land hx hb d_Mod_write_23 ?_
        refine tv_l (lN (byt y k)) (byt_s hy e9) ?_
        refine lv_lconst (v := 0) hx hb d_Mod_write_24 (by decide) ?_
        refine W.lcmp hx hb d_Mod_write_25 ?_
        refine lv_if_eq (tgt := 33) hx hb d_Mod_write_26 (by decide) (fun c26 => ?_) (fun c26 => ?_)
        · have e26 : byt y k = 0 := (lN_ne0 (by omega)).mp ((lg_cmp_eq _ _).mp c26)
          refine lv_iconst (v := 0) hx hb d_Mod_write_33 (by decide) ?_
          refine lv_iadd hx hb d_Mod_write_34 ?_
          refine tv_i (nI (cbu y (k + 1))) (by rw [show cbu y (k + 1) = cbu y k + 0 from by show _ + (if _ then 0 else 1) = _; rw [if_pos e26]]; exact nI_add _ 0) ?_
          refine lv_istore_n (lv' := [(3, .int (nI (cbu y (k + 1)))), (0, .ref md), (1, .long (lN y)), (4, .int (nI k))]) hx hb d_Mod_write_35 rfl hl (by decide) rfl (fun ls hl => ?_)
          refine lv_iinc (v := nI (k + 1)) (lv' := [(4, .int (nI (k + 1))), (3, .int (nI (cbu y (k + 1)))), (0, .ref md), (1, .long (lN y))]) hx hb d_Mod_write_36 hl (k := 3) rfl (nI_1 k) (by decide) rfl (fun ls hl => ?_)
          refine lv_goto (tgt := 5) hx hb d_Mod_write_39 (by decide) ?_
          exact ih (k + 1) (by omega) (by omega) _ _ _ (hP.sub [0, 1] rfl) (hD.sub [0, 1] (by decide) rfl) hS (lv_sub hl [2, 3, 1, 0] rfl)
        · have e26 : byt y k ≠ 0 := fun z => c26 ((lg_cmp_eq _ _).mpr (by rw [z]; rfl))
          refine lv_iconst (v := 1) hx hb d_Mod_write_29 (by decide) ?_
          refine lv_goto (tgt := 34) hx hb d_Mod_write_30 (by decide) ?_
          refine lv_iadd hx hb d_Mod_write_34 ?_
          refine tv_i (nI (cbu y (k + 1))) (by rw [show cbu y (k + 1) = cbu y k + 1 from by show _ + (if _ then 0 else 1) = _; rw [if_neg e26]]; exact nI_1 _) ?_
          refine lv_istore_n (lv' := [(3, .int (nI (cbu y (k + 1)))), (0, .ref md), (1, .long (lN y)), (4, .int (nI k))]) hx hb d_Mod_write_35 rfl hl (by decide) rfl (fun ls hl => ?_)
          refine lv_iinc (v := nI (k + 1)) (lv' := [(4, .int (nI (k + 1))), (3, .int (nI (cbu y (k + 1)))), (0, .ref md), (1, .long (lN y))]) hx hb d_Mod_write_36 hl (k := 3) rfl (nI_1 k) (by decide) rfl (fun ls hl => ?_)
          refine lv_goto (tgt := 5) hx hb d_Mod_write_39 (by decide) ?_
          exact ih (k + 1) (by omega) (by omega) _ _ _ (hP.sub [0, 1] rfl) (hD.sub [0, 1] (by decide) rfl) hS (lv_sub hl [2, 3, 1, 0] rfl)
  exact L5 9 0 (by decide) (by decide) _ _ _ (hP.sub [0, 1] rfl) (hD.sub [0, 1] (by decide) rfl) hS (lv_sub hl [2, 3, 1, 0] rfl)
