theorem d_Big_init_0 : decode b_Big_init 0 = .ok (.aload_n 0, 1) := by decide +kernel
theorem d_Big_init_1 : decode b_Big_init 1 = .ok (.invokespecial 1, 3) := by decide +kernel
theorem d_Big_init_4 : decode b_Big_init 4 = .ok (.aload_n 0, 1) := by decide +kernel
theorem d_Big_init_5 : decode b_Big_init 5 = .ok (.bipush 96, 2) := by decide +kernel
theorem d_Big_init_7 : decode b_Big_init 7 = .ok (.newarray .int, 2) := by decide +kernel
theorem d_Big_init_9 : decode b_Big_init 9 = .ok (.putfield 9, 3) := by decide +kernel
theorem d_Big_init_12 : decode b_Big_init 12 = .ok (.aload_n 0, 1) := by decide +kernel
theorem d_Big_init_13 : decode b_Big_init 13 = .ok (.iconst 0, 1) := by decide +kernel
theorem d_Big_init_14 : decode b_Big_init 14 = .ok (.putfield 13, 3) := by decide +kernel
theorem d_Big_init_17 : decode b_Big_init 17 = .ok (.return_, 1) := by decide +kernel
theorem d_Big_set_0 : decode b_Big_set 0 = .ok (.aload_n 0, 1) := by decide +kernel
theorem d_Big_set_1 : decode b_Big_set 1 = .ok (.getfield 9, 3) := by decide +kernel
theorem d_Big_set_4 : decode b_Big_set 4 = .ok (.iconst 0, 1) := by decide +kernel
theorem d_Big_set_5 : decode b_Big_set 5 = .ok (.lload_n 1, 1) := by decide +kernel
theorem d_Big_set_6 : decode b_Big_set 6 = .ok (.l2i, 1) := by decide +kernel
theorem d_Big_set_7 : decode b_Big_set 7 = .ok (.iastore, 1) := by decide +kernel
theorem d_Big_set_8 : decode b_Big_set 8 = .ok (.aload_n 0, 1) := by decide +kernel
theorem d_Big_set_9 : decode b_Big_set 9 = .ok (.getfield 9, 3) := by decide +kernel
theorem d_Big_set_12 : decode b_Big_set 12 = .ok (.iconst 1, 1) := by decide +kernel
theorem d_Big_set_13 : decode b_Big_set 13 = .ok (.lload_n 1, 1) := by decide +kernel
theorem d_Big_set_14 : decode b_Big_set 14 = .ok (.bipush 32, 2) := by decide +kernel
theorem d_Big_set_16 : decode b_Big_set 16 = .ok (.lushr, 1) := by decide +kernel
theorem d_Big_set_17 : decode b_Big_set 17 = .ok (.l2i, 1) := by decide +kernel
theorem d_Big_set_18 : decode b_Big_set 18 = .ok (.iastore, 1) := by decide +kernel
theorem d_Big_set_19 : decode b_Big_set 19 = .ok (.aload_n 0, 1) := by decide +kernel
theorem d_Big_set_20 : decode b_Big_set 20 = .ok (.iconst 2, 1) := by decide +kernel
theorem d_Big_set_21 : decode b_Big_set 21 = .ok (.putfield 13, 3) := by decide +kernel
theorem d_Big_set_24 : decode b_Big_set 24 = .ok (.aload_n 0, 1) := by decide +kernel
theorem d_Big_set_25 : decode b_Big_set 25 = .ok (.invokevirtual 17, 3) := by decide +kernel
theorem d_Big_set_28 : decode b_Big_set 28 = .ok (.return_, 1) := by decide +kernel
theorem d_Big_isZero_0 : decode b_Big_isZero 0 = .ok (.aload_n 0, 1) := by decide +kernel
theorem d_Big_isZero_1 : decode b_Big_isZero 1 = .ok (.getfield 13, 3) := by decide +kernel
theorem d_Big_isZero_4 : decode b_Big_isZero 4 = .ok (.ifCond .ne 7, 3) := by decide +kernel
theorem d_Big_isZero_7 : decode b_Big_isZero 7 = .ok (.iconst 1, 1) := by decide +kernel
theorem d_Big_isZero_8 : decode b_Big_isZero 8 = .ok (.goto 4, 3) := by decide +kernel
theorem d_Big_isZero_11 : decode b_Big_isZero 11 = .ok (.iconst 0, 1) := by decide +kernel
theorem d_Big_isZero_12 : decode b_Big_isZero 12 = .ok (.ireturn, 1) := by decide +kernel
theorem d_Big_bitLength_0 : decode b_Big_bitLength 0 = .ok (.aload_n 0, 1) := by decide +kernel
theorem d_Big_bitLength_1 : decode b_Big_bitLength 1 = .ok (.getfield 13, 3) := by decide +kernel
theorem d_Big_bitLength_4 : decode b_Big_bitLength 4 = .ok (.ifCond .ne 7, 3) := by decide +kernel
theorem d_Big_bitLength_7 : decode b_Big_bitLength 7 = .ok (.iconst 0, 1) := by decide +kernel
theorem d_Big_bitLength_8 : decode b_Big_bitLength 8 = .ok (.goto 33, 3) := by decide +kernel
theorem d_Big_bitLength_11 : decode b_Big_bitLength 11 = .ok (.aload_n 0, 1) := by decide +kernel
theorem d_Big_bitLength_12 : decode b_Big_bitLength 12 = .ok (.getfield 13, 3) := by decide +kernel
theorem d_Big_bitLength_15 : decode b_Big_bitLength 15 = .ok (.bipush 32, 2) := by decide +kernel
theorem d_Big_bitLength_17 : decode b_Big_bitLength 17 = .ok (.imul, 1) := by decide +kernel
theorem d_Big_bitLength_18 : decode b_Big_bitLength 18 = .ok (.bipush 32, 2) := by decide +kernel
theorem d_Big_bitLength_20 : decode b_Big_bitLength 20 = .ok (.isub, 1) := by decide +kernel
theorem d_Big_bitLength_21 : decode b_Big_bitLength 21 = .ok (.aload_n 0, 1) := by decide +kernel
theorem d_Big_bitLength_22 : decode b_Big_bitLength 22 = .ok (.getfield 9, 3) := by decide +kernel
theorem d_Big_bitLength_25 : decode b_Big_bitLength 25 = .ok (.aload_n 0, 1) := by decide +kernel
theorem d_Big_bitLength_26 : decode b_Big_bitLength 26 = .ok (.getfield 13, 3) := by decide +kernel
theorem d_Big_bitLength_29 : decode b_Big_bitLength 29 = .ok (.iconst 1, 1) := by decide +kernel
theorem d_Big_bitLength_30 : decode b_Big_bitLength 30 = .ok (.isub, 1) := by decide +kernel
theorem d_Big_bitLength_31 : decode b_Big_bitLength 31 = .ok (.iaload, 1) := by decide +kernel
theorem d_Big_bitLength_32 : decode b_Big_bitLength 32 = .ok (.i2l, 1) := by decide +kernel
theorem d_Big_bitLength_33 : decode b_Big_bitLength 33 = .ok (.ldc2_w 20, 3) := by decide +kernel
theorem d_Big_bitLength_36 : decode b_Big_bitLength 36 = .ok (.land, 1) := by decide +kernel
theorem d_Big_bitLength_37 : decode b_Big_bitLength 37 = .ok (.invokestatic 22, 3) := by decide +kernel
theorem d_Big_bitLength_40 : decode b_Big_bitLength 40 = .ok (.iadd, 1) := by decide +kernel
theorem d_Big_bitLength_41 : decode b_Big_bitLength 41 = .ok (.ireturn, 1) := by decide +kernel
theorem d_Big_timesPlus_0 : decode b_Big_timesPlus 0 = .ok (.iload_n 2, 1) := by decide +kernel
theorem d_Big_timesPlus_1 : decode b_Big_timesPlus 1 = .ok (.i2l, 1) := by decide +kernel
theorem d_Big_timesPlus_2 : decode b_Big_timesPlus 2 = .ok (.lstore_n 3, 1) := by decide +kernel
theorem d_Big_timesPlus_3 : decode b_Big_timesPlus 3 = .ok (.iconst 0, 1) := by decide +kernel
theorem d_Big_timesPlus_4 : decode b_Big_timesPlus 4 = .ok (.istore 5, 2) := by decide +kernel
theorem d_Big_timesPlus_6 : decode b_Big_timesPlus 6 = .ok (.iload 5, 2) := by decide +kernel
theorem d_Big_timesPlus_8 : decode b_Big_timesPlus 8 = .ok (.aload_n 0, 1) := by decide +kernel
theorem d_Big_timesPlus_9 : decode b_Big_timesPlus 9 = .ok (.getfield 13, 3) := by decide +kernel
theorem d_Big_timesPlus_12 : decode b_Big_timesPlus 12 = .ok (.if_icmp .ge 41, 3) := by decide +kernel
theorem d_Big_timesPlus_15 : decode b_Big_timesPlus 15 = .ok (.lload_n 3, 1) := by decide +kernel
theorem d_Big_timesPlus_16 : decode b_Big_timesPlus 16 = .ok (.aload_n 0, 1) := by decide +kernel
theorem d_Big_timesPlus_17 : decode b_Big_timesPlus 17 = .ok (.getfield 9, 3) := by decide +kernel
theorem d_Big_timesPlus_20 : decode b_Big_timesPlus 20 = .ok (.iload 5, 2) := by decide +kernel
theorem d_Big_timesPlus_22 : decode b_Big_timesPlus 22 = .ok (.iaload, 1) := by decide +kernel
theorem d_Big_timesPlus_23 : decode b_Big_timesPlus 23 = .ok (.i2l, 1) := by decide +kernel
theorem d_Big_timesPlus_24 : decode b_Big_timesPlus 24 = .ok (.ldc2_w 20, 3) := by decide +kernel
theorem d_Big_timesPlus_27 : decode b_Big_timesPlus 27 = .ok (.land, 1) := by decide +kernel
theorem d_Big_timesPlus_28 : decode b_Big_timesPlus 28 = .ok (.iload_n 1, 1) := by decide +kernel
theorem d_Big_timesPlus_29 : decode b_Big_timesPlus 29 = .ok (.i2l, 1) := by decide +kernel
theorem d_Big_timesPlus_30 : decode b_Big_timesPlus 30 = .ok (.lmul, 1) := by decide +kernel
theorem d_Big_timesPlus_31 : decode b_Big_timesPlus 31 = .ok (.ladd, 1) := by decide +kernel
theorem d_Big_timesPlus_32 : decode b_Big_timesPlus 32 = .ok (.lstore_n 3, 1) := by decide +kernel
theorem d_Big_timesPlus_33 : decode b_Big_timesPlus 33 = .ok (.aload_n 0, 1) := by decide +kernel
theorem d_Big_timesPlus_34 : decode b_Big_timesPlus 34 = .ok (.getfield 9, 3) := by decide +kernel
theorem d_Big_timesPlus_37 : decode b_Big_timesPlus 37 = .ok (.iload 5, 2) := by decide +kernel
theorem d_Big_timesPlus_39 : decode b_Big_timesPlus 39 = .ok (.lload_n 3, 1) := by decide +kernel
theorem d_Big_timesPlus_40 : decode b_Big_timesPlus 40 = .ok (.l2i, 1) := by decide +kernel
theorem d_Big_timesPlus_41 : decode b_Big_timesPlus 41 = .ok (.iastore, 1) := by decide +kernel
theorem d_Big_timesPlus_42 : decode b_Big_timesPlus 42 = .ok (.lload_n 3, 1) := by decide +kernel
theorem d_Big_timesPlus_43 : decode b_Big_timesPlus 43 = .ok (.bipush 32, 2) := by decide +kernel
theorem d_Big_timesPlus_45 : decode b_Big_timesPlus 45 = .ok (.lushr, 1) := by decide +kernel
theorem d_Big_timesPlus_46 : decode b_Big_timesPlus 46 = .ok (.lstore_n 3, 1) := by decide +kernel
theorem d_Big_timesPlus_47 : decode b_Big_timesPlus 47 = .ok (.iinc 5 1, 3) := by decide +kernel
theorem d_Big_timesPlus_50 : decode b_Big_timesPlus 50 = .ok (.goto (-44), 3) := by decide +kernel
theorem d_Big_timesPlus_53 : decode b_Big_timesPlus 53 = .ok (.lload_n 3, 1) := by decide +kernel
theorem d_Big_timesPlus_54 : decode b_Big_timesPlus 54 = .ok (.lconst 0, 1) := by decide +kernel
theorem d_Big_timesPlus_55 : decode b_Big_timesPlus 55 = .ok (.lcmp, 1) := by decide +kernel
theorem d_Big_timesPlus_56 : decode b_Big_timesPlus 56 = .ok (.ifCond .eq 36, 3) := by decide +kernel
theorem d_Big_timesPlus_59 : decode b_Big_timesPlus 59 = .ok (.aload_n 0, 1) := by decide +kernel
theorem d_Big_timesPlus_60 : decode b_Big_timesPlus 60 = .ok (.getfield 13, 3) := by decide +kernel
theorem d_Big_timesPlus_63 : decode b_Big_timesPlus 63 = .ok (.aload_n 0, 1) := by decide +kernel
theorem d_Big_timesPlus_64 : decode b_Big_timesPlus 64 = .ok (.getfield 9, 3) := by decide +kernel
theorem d_Big_timesPlus_67 : decode b_Big_timesPlus 67 = .ok (.arraylength, 1) := by decide +kernel
theorem d_Big_timesPlus_68 : decode b_Big_timesPlus 68 = .ok (.if_icmp .ge 24, 3) := by decide +kernel
theorem d_Big_timesPlus_71 : decode b_Big_timesPlus 71 = .ok (.aload_n 0, 1) := by decide +kernel
theorem d_Big_timesPlus_72 : decode b_Big_timesPlus 72 = .ok (.getfield 9, 3) := by decide +kernel
theorem d_Big_timesPlus_75 : decode b_Big_timesPlus 75 = .ok (.aload_n 0, 1) := by decide +kernel
theorem d_Big_timesPlus_76 : decode b_Big_timesPlus 76 = .ok (.getfield 13, 3) := by decide +kernel
theorem d_Big_timesPlus_79 : decode b_Big_timesPlus 79 = .ok (.lload_n 3, 1) := by decide +kernel
theorem d_Big_timesPlus_80 : decode b_Big_timesPlus 80 = .ok (.l2i, 1) := by decide +kernel
theorem d_Big_timesPlus_81 : decode b_Big_timesPlus 81 = .ok (.iastore, 1) := by decide +kernel
theorem d_Big_timesPlus_82 : decode b_Big_timesPlus 82 = .ok (.aload_n 0, 1) := by decide +kernel
theorem d_Big_timesPlus_83 : decode b_Big_timesPlus 83 = .ok (.dup, 1) := by decide +kernel
theorem d_Big_timesPlus_84 : decode b_Big_timesPlus 84 = .ok (.getfield 13, 3) := by decide +kernel
theorem d_Big_timesPlus_87 : decode b_Big_timesPlus 87 = .ok (.iconst 1, 1) := by decide +kernel
theorem d_Big_timesPlus_88 : decode b_Big_timesPlus 88 = .ok (.iadd, 1) := by decide +kernel
theorem d_Big_timesPlus_89 : decode b_Big_timesPlus 89 = .ok (.putfield 13, 3) := by decide +kernel
theorem d_Big_timesPlus_92 : decode b_Big_timesPlus 92 = .ok (.return_, 1) := by decide +kernel
theorem d_Big_timesFives_0 : decode b_Big_timesFives 0 = .ok (.iload_n 1, 1) := by decide +kernel
theorem d_Big_timesFives_1 : decode b_Big_timesFives 1 = .ok (.istore_n 2, 1) := by decide +kernel
theorem d_Big_timesFives_2 : decode b_Big_timesFives 2 = .ok (.iload_n 2, 1) := by decide +kernel
theorem d_Big_timesFives_3 : decode b_Big_timesFives 3 = .ok (.bipush 13, 2) := by decide +kernel
theorem d_Big_timesFives_5 : decode b_Big_timesFives 5 = .ok (.if_icmp .lt 16, 3) := by decide +kernel
theorem d_Big_timesFives_8 : decode b_Big_timesFives 8 = .ok (.aload_n 0, 1) := by decide +kernel
theorem d_Big_timesFives_9 : decode b_Big_timesFives 9 = .ok (.ldc 28, 2) := by decide +kernel
theorem d_Big_timesFives_11 : decode b_Big_timesFives 11 = .ok (.iconst 0, 1) := by decide +kernel
theorem d_Big_timesFives_12 : decode b_Big_timesFives 12 = .ok (.invokevirtual 29, 3) := by decide +kernel
theorem d_Big_timesFives_15 : decode b_Big_timesFives 15 = .ok (.iinc 2 (-13), 3) := by decide +kernel
theorem d_Big_timesFives_18 : decode b_Big_timesFives 18 = .ok (.goto (-16), 3) := by decide +kernel
theorem d_Big_timesFives_21 : decode b_Big_timesFives 21 = .ok (.iload_n 2, 1) := by decide +kernel
theorem d_Big_timesFives_22 : decode b_Big_timesFives 22 = .ok (.ifCond .le 15, 3) := by decide +kernel
theorem d_Big_timesFives_25 : decode b_Big_timesFives 25 = .ok (.aload_n 0, 1) := by decide +kernel
theorem d_Big_timesFives_26 : decode b_Big_timesFives 26 = .ok (.iconst 5, 1) := by decide +kernel
theorem d_Big_timesFives_27 : decode b_Big_timesFives 27 = .ok (.iconst 0, 1) := by decide +kernel
theorem d_Big_timesFives_28 : decode b_Big_timesFives 28 = .ok (.invokevirtual 29, 3) := by decide +kernel
theorem d_Big_timesFives_31 : decode b_Big_timesFives 31 = .ok (.iinc 2 (-1), 3) := by decide +kernel
theorem d_Big_timesFives_34 : decode b_Big_timesFives 34 = .ok (.goto (-13), 3) := by decide +kernel
theorem d_Big_timesFives_37 : decode b_Big_timesFives 37 = .ok (.return_, 1) := by decide +kernel
theorem d_Big_shiftLeft_0 : decode b_Big_shiftLeft 0 = .ok (.iload_n 1, 1) := by decide +kernel
theorem d_Big_shiftLeft_1 : decode b_Big_shiftLeft 1 = .ok (.iconst 5, 1) := by decide +kernel
theorem d_Big_shiftLeft_2 : decode b_Big_shiftLeft 2 = .ok (.ishr, 1) := by decide +kernel
theorem d_Big_shiftLeft_3 : decode b_Big_shiftLeft 3 = .ok (.istore_n 2, 1) := by decide +kernel
theorem d_Big_shiftLeft_4 : decode b_Big_shiftLeft 4 = .ok (.iload_n 1, 1) := by decide +kernel
theorem d_Big_shiftLeft_5 : decode b_Big_shiftLeft 5 = .ok (.bipush 31, 2) := by decide +kernel
theorem d_Big_shiftLeft_7 : decode b_Big_shiftLeft 7 = .ok (.iand, 1) := by decide +kernel
theorem d_Big_shiftLeft_8 : decode b_Big_shiftLeft 8 = .ok (.istore_n 3, 1) := by decide +kernel
theorem d_Big_shiftLeft_9 : decode b_Big_shiftLeft 9 = .ok (.iload_n 1, 1) := by decide +kernel
theorem d_Big_shiftLeft_10 : decode b_Big_shiftLeft 10 = .ok (.ifCond .le 17, 3) := by decide +kernel
theorem d_Big_shiftLeft_13 : decode b_Big_shiftLeft 13 = .ok (.aload_n 0, 1) := by decide +kernel
theorem d_Big_shiftLeft_14 : decode b_Big_shiftLeft 14 = .ok (.getfield 13, 3) := by decide +kernel
theorem d_Big_shiftLeft_17 : decode b_Big_shiftLeft 17 = .ok (.iload_n 2, 1) := by decide +kernel
theorem d_Big_shiftLeft_18 : decode b_Big_shiftLeft 18 = .ok (.iadd, 1) := by decide +kernel
theorem d_Big_shiftLeft_19 : decode b_Big_shiftLeft 19 = .ok (.aload_n 0, 1) := by decide +kernel
theorem d_Big_shiftLeft_20 : decode b_Big_shiftLeft 20 = .ok (.getfield 9, 3) := by decide +kernel
theorem d_Big_shiftLeft_23 : decode b_Big_shiftLeft 23 = .ok (.arraylength, 1) := by decide +kernel
theorem d_Big_shiftLeft_24 : decode b_Big_shiftLeft 24 = .ok (.if_icmp .lt 4, 3) := by decide +kernel
theorem d_Big_shiftLeft_27 : decode b_Big_shiftLeft 27 = .ok (.return_, 1) := by decide +kernel
theorem d_Big_shiftLeft_28 : decode b_Big_shiftLeft 28 = .ok (.aload_n 0, 1) := by decide +kernel
theorem d_Big_shiftLeft_29 : decode b_Big_shiftLeft 29 = .ok (.getfield 13, 3) := by decide +kernel
theorem d_Big_shiftLeft_32 : decode b_Big_shiftLeft 32 = .ok (.istore 4, 2) := by decide +kernel
theorem d_Big_shiftLeft_34 : decode b_Big_shiftLeft 34 = .ok (.iload 4, 2) := by decide +kernel
theorem d_Big_shiftLeft_36 : decode b_Big_shiftLeft 36 = .ok (.ifCond .lt 84, 3) := by decide +kernel
theorem d_Big_shiftLeft_39 : decode b_Big_shiftLeft 39 = .ok (.iload 4, 2) := by decide +kernel
theorem d_Big_shiftLeft_41 : decode b_Big_shiftLeft 41 = .ok (.aload_n 0, 1) := by decide +kernel
theorem d_Big_shiftLeft_42 : decode b_Big_shiftLeft 42 = .ok (.getfield 13, 3) := by decide +kernel
theorem d_Big_shiftLeft_45 : decode b_Big_shiftLeft 45 = .ok (.if_icmp .ge 18, 3) := by decide +kernel
theorem d_Big_shiftLeft_48 : decode b_Big_shiftLeft 48 = .ok (.aload_n 0, 1) := by decide +kernel
theorem d_Big_shiftLeft_49 : decode b_Big_shiftLeft 49 = .ok (.getfield 9, 3) := by decide +kernel
theorem d_Big_shiftLeft_52 : decode b_Big_shiftLeft 52 = .ok (.iload 4, 2) := by decide +kernel
theorem d_Big_shiftLeft_54 : decode b_Big_shiftLeft 54 = .ok (.iaload, 1) := by decide +kernel
theorem d_Big_shiftLeft_55 : decode b_Big_shiftLeft 55 = .ok (.i2l, 1) := by decide +kernel
theorem d_Big_shiftLeft_56 : decode b_Big_shiftLeft 56 = .ok (.ldc2_w 20, 3) := by decide +kernel
theorem d_Big_shiftLeft_59 : decode b_Big_shiftLeft 59 = .ok (.land, 1) := by decide +kernel
theorem d_Big_shiftLeft_60 : decode b_Big_shiftLeft 60 = .ok (.goto 4, 3) := by decide +kernel
theorem d_Big_shiftLeft_63 : decode b_Big_shiftLeft 63 = .ok (.lconst 0, 1) := by decide +kernel
theorem d_Big_shiftLeft_64 : decode b_Big_shiftLeft 64 = .ok (.lstore 5, 2) := by decide +kernel
theorem d_Big_shiftLeft_66 : decode b_Big_shiftLeft 66 = .ok (.iload 4, 2) := by decide +kernel
theorem d_Big_shiftLeft_68 : decode b_Big_shiftLeft 68 = .ok (.ifCond .le 20, 3) := by decide +kernel
theorem d_Big_shiftLeft_71 : decode b_Big_shiftLeft 71 = .ok (.aload_n 0, 1) := by decide +kernel
theorem d_Big_shiftLeft_72 : decode b_Big_shiftLeft 72 = .ok (.getfield 9, 3) := by decide +kernel
theorem d_Big_shiftLeft_75 : decode b_Big_shiftLeft 75 = .ok (.iload 4, 2) := by decide +kernel
theorem d_Big_shiftLeft_77 : decode b_Big_shiftLeft 77 = .ok (.iconst 1, 1) := by decide +kernel
theorem d_Big_shiftLeft_78 : decode b_Big_shiftLeft 78 = .ok (.isub, 1) := by decide +kernel
theorem d_Big_shiftLeft_79 : decode b_Big_shiftLeft 79 = .ok (.iaload, 1) := by decide +kernel
theorem d_Big_shiftLeft_80 : decode b_Big_shiftLeft 80 = .ok (.i2l, 1) := by decide +kernel
theorem d_Big_shiftLeft_81 : decode b_Big_shiftLeft 81 = .ok (.ldc2_w 20, 3) := by decide +kernel
theorem d_Big_shiftLeft_84 : decode b_Big_shiftLeft 84 = .ok (.land, 1) := by decide +kernel
theorem d_Big_shiftLeft_85 : decode b_Big_shiftLeft 85 = .ok (.goto 4, 3) := by decide +kernel
theorem d_Big_shiftLeft_88 : decode b_Big_shiftLeft 88 = .ok (.lconst 0, 1) := by decide +kernel
theorem d_Big_shiftLeft_89 : decode b_Big_shiftLeft 89 = .ok (.lstore 7, 2) := by decide +kernel
theorem d_Big_shiftLeft_91 : decode b_Big_shiftLeft 91 = .ok (.aload_n 0, 1) := by decide +kernel
theorem d_Big_shiftLeft_92 : decode b_Big_shiftLeft 92 = .ok (.getfield 9, 3) := by decide +kernel
theorem d_Big_shiftLeft_95 : decode b_Big_shiftLeft 95 = .ok (.iload 4, 2) := by decide +kernel
theorem d_Big_shiftLeft_97 : decode b_Big_shiftLeft 97 = .ok (.iload_n 2, 1) := by decide +kernel
theorem d_Big_shiftLeft_98 : decode b_Big_shiftLeft 98 = .ok (.iadd, 1) := by decide +kernel
theorem d_Big_shiftLeft_99 : decode b_Big_shiftLeft 99 = .ok (.lload 5, 2) := by decide +kernel
theorem d_Big_shiftLeft_101 : decode b_Big_shiftLeft 101 = .ok (.bipush 32, 2) := by decide +kernel
theorem d_Big_shiftLeft_103 : decode b_Big_shiftLeft 103 = .ok (.lshl, 1) := by decide +kernel
theorem d_Big_shiftLeft_104 : decode b_Big_shiftLeft 104 = .ok (.lload 7, 2) := by decide +kernel
theorem d_Big_shiftLeft_106 : decode b_Big_shiftLeft 106 = .ok (.lor, 1) := by decide +kernel
theorem d_Big_shiftLeft_107 : decode b_Big_shiftLeft 107 = .ok (.iload_n 3, 1) := by decide +kernel
theorem d_Big_shiftLeft_108 : decode b_Big_shiftLeft 108 = .ok (.lshl, 1) := by decide +kernel
theorem d_Big_shiftLeft_109 : decode b_Big_shiftLeft 109 = .ok (.bipush 32, 2) := by decide +kernel
theorem d_Big_shiftLeft_111 : decode b_Big_shiftLeft 111 = .ok (.lushr, 1) := by decide +kernel
theorem d_Big_shiftLeft_112 : decode b_Big_shiftLeft 112 = .ok (.l2i, 1) := by decide +kernel
theorem d_Big_shiftLeft_113 : decode b_Big_shiftLeft 113 = .ok (.iastore, 1) := by decide +kernel
theorem d_Big_shiftLeft_114 : decode b_Big_shiftLeft 114 = .ok (.iinc 4 (-1), 3) := by decide +kernel
theorem d_Big_shiftLeft_117 : decode b_Big_shiftLeft 117 = .ok (.goto (-83), 3) := by decide +kernel
theorem d_Big_shiftLeft_120 : decode b_Big_shiftLeft 120 = .ok (.iconst 0, 1) := by decide +kernel
theorem d_Big_shiftLeft_121 : decode b_Big_shiftLeft 121 = .ok (.istore 4, 2) := by decide +kernel
theorem d_Big_shiftLeft_123 : decode b_Big_shiftLeft 123 = .ok (.iload 4, 2) := by decide +kernel
theorem d_Big_shiftLeft_125 : decode b_Big_shiftLeft 125 = .ok (.iload_n 2, 1) := by decide +kernel
theorem d_Big_shiftLeft_126 : decode b_Big_shiftLeft 126 = .ok (.if_icmp .ge 17, 3) := by decide +kernel
theorem d_Big_shiftLeft_129 : decode b_Big_shiftLeft 129 = .ok (.aload_n 0, 1) := by decide +kernel
theorem d_Big_shiftLeft_130 : decode b_Big_shiftLeft 130 = .ok (.getfield 9, 3) := by decide +kernel
theorem d_Big_shiftLeft_133 : decode b_Big_shiftLeft 133 = .ok (.iload 4, 2) := by decide +kernel
theorem d_Big_shiftLeft_135 : decode b_Big_shiftLeft 135 = .ok (.iconst 0, 1) := by decide +kernel
theorem d_Big_shiftLeft_136 : decode b_Big_shiftLeft 136 = .ok (.iastore, 1) := by decide +kernel
theorem d_Big_shiftLeft_137 : decode b_Big_shiftLeft 137 = .ok (.iinc 4 1, 3) := by decide +kernel
theorem d_Big_shiftLeft_140 : decode b_Big_shiftLeft 140 = .ok (.goto (-17), 3) := by decide +kernel
theorem d_Big_shiftLeft_143 : decode b_Big_shiftLeft 143 = .ok (.aload_n 0, 1) := by decide +kernel
theorem d_Big_shiftLeft_144 : decode b_Big_shiftLeft 144 = .ok (.dup, 1) := by decide +kernel
theorem d_Big_shiftLeft_145 : decode b_Big_shiftLeft 145 = .ok (.getfield 13, 3) := by decide +kernel
theorem d_Big_shiftLeft_148 : decode b_Big_shiftLeft 148 = .ok (.iload_n 2, 1) := by decide +kernel
theorem d_Big_shiftLeft_149 : decode b_Big_shiftLeft 149 = .ok (.iconst 1, 1) := by decide +kernel
theorem d_Big_shiftLeft_150 : decode b_Big_shiftLeft 150 = .ok (.iadd, 1) := by decide +kernel
theorem d_Big_shiftLeft_151 : decode b_Big_shiftLeft 151 = .ok (.iadd, 1) := by decide +kernel
theorem d_Big_shiftLeft_152 : decode b_Big_shiftLeft 152 = .ok (.putfield 13, 3) := by decide +kernel
theorem d_Big_shiftLeft_155 : decode b_Big_shiftLeft 155 = .ok (.aload_n 0, 1) := by decide +kernel
theorem d_Big_shiftLeft_156 : decode b_Big_shiftLeft 156 = .ok (.invokevirtual 17, 3) := by decide +kernel
theorem d_Big_shiftLeft_159 : decode b_Big_shiftLeft 159 = .ok (.return_, 1) := by decide +kernel
theorem d_Big_isAtLeast_0 : decode b_Big_isAtLeast 0 = .ok (.aload_n 0, 1) := by decide +kernel
theorem d_Big_isAtLeast_1 : decode b_Big_isAtLeast 1 = .ok (.getfield 13, 3) := by decide +kernel
theorem d_Big_isAtLeast_4 : decode b_Big_isAtLeast 4 = .ok (.aload_n 1, 1) := by decide +kernel
theorem d_Big_isAtLeast_5 : decode b_Big_isAtLeast 5 = .ok (.getfield 13, 3) := by decide +kernel
theorem d_Big_isAtLeast_8 : decode b_Big_isAtLeast 8 = .ok (.if_icmp .eq 20, 3) := by decide +kernel
theorem d_Big_isAtLeast_11 : decode b_Big_isAtLeast 11 = .ok (.aload_n 0, 1) := by decide +kernel
theorem d_Big_isAtLeast_12 : decode b_Big_isAtLeast 12 = .ok (.getfield 13, 3) := by decide +kernel
theorem d_Big_isAtLeast_15 : decode b_Big_isAtLeast 15 = .ok (.aload_n 1, 1) := by decide +kernel
theorem d_Big_isAtLeast_16 : decode b_Big_isAtLeast 16 = .ok (.getfield 13, 3) := by decide +kernel
theorem d_Big_isAtLeast_19 : decode b_Big_isAtLeast 19 = .ok (.if_icmp .le 7, 3) := by decide +kernel
theorem d_Big_isAtLeast_22 : decode b_Big_isAtLeast 22 = .ok (.iconst 1, 1) := by decide +kernel
theorem d_Big_isAtLeast_23 : decode b_Big_isAtLeast 23 = .ok (.goto 4, 3) := by decide +kernel
theorem d_Big_isAtLeast_26 : decode b_Big_isAtLeast 26 = .ok (.iconst 0, 1) := by decide +kernel
theorem d_Big_isAtLeast_27 : decode b_Big_isAtLeast 27 = .ok (.ireturn, 1) := by decide +kernel
theorem d_Big_isAtLeast_28 : decode b_Big_isAtLeast 28 = .ok (.aload_n 0, 1) := by decide +kernel
theorem d_Big_isAtLeast_29 : decode b_Big_isAtLeast 29 = .ok (.getfield 13, 3) := by decide +kernel
theorem d_Big_isAtLeast_32 : decode b_Big_isAtLeast 32 = .ok (.iconst 1, 1) := by decide +kernel
theorem d_Big_isAtLeast_33 : decode b_Big_isAtLeast 33 = .ok (.isub, 1) := by decide +kernel
theorem d_Big_isAtLeast_34 : decode b_Big_isAtLeast 34 = .ok (.istore_n 2, 1) := by decide +kernel
theorem d_Big_isAtLeast_35 : decode b_Big_isAtLeast 35 = .ok (.iload_n 2, 1) := by decide +kernel
theorem d_Big_isAtLeast_36 : decode b_Big_isAtLeast 36 = .ok (.ifCond .lt 56, 3) := by decide +kernel
theorem d_Big_isAtLeast_39 : decode b_Big_isAtLeast 39 = .ok (.aload_n 0, 1) := by decide +kernel
theorem d_Big_isAtLeast_40 : decode b_Big_isAtLeast 40 = .ok (.getfield 9, 3) := by decide +kernel
theorem d_Big_isAtLeast_43 : decode b_Big_isAtLeast 43 = .ok (.iload_n 2, 1) := by decide +kernel
theorem d_Big_isAtLeast_44 : decode b_Big_isAtLeast 44 = .ok (.iaload, 1) := by decide +kernel
theorem d_Big_isAtLeast_45 : decode b_Big_isAtLeast 45 = .ok (.aload_n 1, 1) := by decide +kernel
theorem d_Big_isAtLeast_46 : decode b_Big_isAtLeast 46 = .ok (.getfield 9, 3) := by decide +kernel
theorem d_Big_isAtLeast_49 : decode b_Big_isAtLeast 49 = .ok (.iload_n 2, 1) := by decide +kernel
theorem d_Big_isAtLeast_50 : decode b_Big_isAtLeast 50 = .ok (.iaload, 1) := by decide +kernel
theorem d_Big_isAtLeast_51 : decode b_Big_isAtLeast 51 = .ok (.if_icmp .eq 35, 3) := by decide +kernel
theorem d_Big_isAtLeast_54 : decode b_Big_isAtLeast 54 = .ok (.aload_n 0, 1) := by decide +kernel
theorem d_Big_isAtLeast_55 : decode b_Big_isAtLeast 55 = .ok (.getfield 9, 3) := by decide +kernel
theorem d_Big_isAtLeast_58 : decode b_Big_isAtLeast 58 = .ok (.iload_n 2, 1) := by decide +kernel
theorem d_Big_isAtLeast_59 : decode b_Big_isAtLeast 59 = .ok (.iaload, 1) := by decide +kernel
theorem d_Big_isAtLeast_60 : decode b_Big_isAtLeast 60 = .ok (.i2l, 1) := by decide +kernel
theorem d_Big_isAtLeast_61 : decode b_Big_isAtLeast 61 = .ok (.ldc2_w 20, 3) := by decide +kernel
theorem d_Big_isAtLeast_64 : decode b_Big_isAtLeast 64 = .ok (.land, 1) := by decide +kernel
theorem d_Big_isAtLeast_65 : decode b_Big_isAtLeast 65 = .ok (.aload_n 1, 1) := by decide +kernel
theorem d_Big_isAtLeast_66 : decode b_Big_isAtLeast 66 = .ok (.getfield 9, 3) := by decide +kernel
theorem d_Big_isAtLeast_69 : decode b_Big_isAtLeast 69 = .ok (.iload_n 2, 1) := by decide +kernel
theorem d_Big_isAtLeast_70 : decode b_Big_isAtLeast 70 = .ok (.iaload, 1) := by decide +kernel
theorem d_Big_isAtLeast_71 : decode b_Big_isAtLeast 71 = .ok (.i2l, 1) := by decide +kernel
theorem d_Big_isAtLeast_72 : decode b_Big_isAtLeast 72 = .ok (.ldc2_w 20, 3) := by decide +kernel
theorem d_Big_isAtLeast_75 : decode b_Big_isAtLeast 75 = .ok (.land, 1) := by decide +kernel
theorem d_Big_isAtLeast_76 : decode b_Big_isAtLeast 76 = .ok (.lcmp, 1) := by decide +kernel
theorem d_Big_isAtLeast_77 : decode b_Big_isAtLeast 77 = .ok (.ifCond .le 7, 3) := by decide +kernel
theorem d_Big_isAtLeast_80 : decode b_Big_isAtLeast 80 = .ok (.iconst 1, 1) := by decide +kernel
theorem d_Big_isAtLeast_81 : decode b_Big_isAtLeast 81 = .ok (.goto 4, 3) := by decide +kernel
theorem d_Big_isAtLeast_84 : decode b_Big_isAtLeast 84 = .ok (.iconst 0, 1) := by decide +kernel
theorem d_Big_isAtLeast_85 : decode b_Big_isAtLeast 85 = .ok (.ireturn, 1) := by decide +kernel
theorem d_Big_isAtLeast_86 : decode b_Big_isAtLeast 86 = .ok (.iinc 2 (-1), 3) := by decide +kernel
theorem d_Big_isAtLeast_89 : decode b_Big_isAtLeast 89 = .ok (.goto (-54), 3) := by decide +kernel
theorem d_Big_isAtLeast_92 : decode b_Big_isAtLeast 92 = .ok (.iconst 1, 1) := by decide +kernel
theorem d_Big_isAtLeast_93 : decode b_Big_isAtLeast 93 = .ok (.ireturn, 1) := by decide +kernel
theorem d_Big_subtract_0 : decode b_Big_subtract 0 = .ok (.lconst 0, 1) := by decide +kernel
theorem d_Big_subtract_1 : decode b_Big_subtract 1 = .ok (.lstore_n 2, 1) := by decide +kernel
theorem d_Big_subtract_2 : decode b_Big_subtract 2 = .ok (.iconst 0, 1) := by decide +kernel
theorem d_Big_subtract_3 : decode b_Big_subtract 3 = .ok (.istore 4, 2) := by decide +kernel
theorem d_Big_subtract_5 : decode b_Big_subtract 5 = .ok (.iload 4, 2) := by decide +kernel
theorem d_Big_subtract_7 : decode b_Big_subtract 7 = .ok (.aload_n 0, 1) := by decide +kernel
theorem d_Big_subtract_8 : decode b_Big_subtract 8 = .ok (.getfield 13, 3) := by decide +kernel
theorem d_Big_subtract_11 : decode b_Big_subtract 11 = .ok (.if_icmp .ge 71, 3) := by decide +kernel
theorem d_Big_subtract_14 : decode b_Big_subtract 14 = .ok (.iload 4, 2) := by decide +kernel
theorem d_Big_subtract_16 : decode b_Big_subtract 16 = .ok (.aload_n 1, 1) := by decide +kernel
theorem d_Big_subtract_17 : decode b_Big_subtract 17 = .ok (.getfield 13, 3) := by decide +kernel
theorem d_Big_subtract_20 : decode b_Big_subtract 20 = .ok (.if_icmp .ge 18, 3) := by decide +kernel
theorem d_Big_subtract_23 : decode b_Big_subtract 23 = .ok (.aload_n 1, 1) := by decide +kernel
theorem d_Big_subtract_24 : decode b_Big_subtract 24 = .ok (.getfield 9, 3) := by decide +kernel
theorem d_Big_subtract_27 : decode b_Big_subtract 27 = .ok (.iload 4, 2) := by decide +kernel
theorem d_Big_subtract_29 : decode b_Big_subtract 29 = .ok (.iaload, 1) := by decide +kernel
theorem d_Big_subtract_30 : decode b_Big_subtract 30 = .ok (.i2l, 1) := by decide +kernel
theorem d_Big_subtract_31 : decode b_Big_subtract 31 = .ok (.ldc2_w 20, 3) := by decide +kernel
theorem d_Big_subtract_34 : decode b_Big_subtract 34 = .ok (.land, 1) := by decide +kernel
theorem d_Big_subtract_35 : decode b_Big_subtract 35 = .ok (.goto 4, 3) := by decide +kernel
theorem d_Big_subtract_38 : decode b_Big_subtract 38 = .ok (.lconst 0, 1) := by decide +kernel
theorem d_Big_subtract_39 : decode b_Big_subtract 39 = .ok (.lstore 5, 2) := by decide +kernel
theorem d_Big_subtract_41 : decode b_Big_subtract 41 = .ok (.aload_n 0, 1) := by decide +kernel
theorem d_Big_subtract_42 : decode b_Big_subtract 42 = .ok (.getfield 9, 3) := by decide +kernel
theorem d_Big_subtract_45 : decode b_Big_subtract 45 = .ok (.iload 4, 2) := by decide +kernel
theorem d_Big_subtract_47 : decode b_Big_subtract 47 = .ok (.iaload, 1) := by decide +kernel
theorem d_Big_subtract_48 : decode b_Big_subtract 48 = .ok (.i2l, 1) := by decide +kernel
theorem d_Big_subtract_49 : decode b_Big_subtract 49 = .ok (.ldc2_w 20, 3) := by decide +kernel
theorem d_Big_subtract_52 : decode b_Big_subtract 52 = .ok (.land, 1) := by decide +kernel
theorem d_Big_subtract_53 : decode b_Big_subtract 53 = .ok (.lload 5, 2) := by decide +kernel
theorem d_Big_subtract_55 : decode b_Big_subtract 55 = .ok (.lsub, 1) := by decide +kernel
theorem d_Big_subtract_56 : decode b_Big_subtract 56 = .ok (.lload_n 2, 1) := by decide +kernel
theorem d_Big_subtract_57 : decode b_Big_subtract 57 = .ok (.lsub, 1) := by decide +kernel
theorem d_Big_subtract_58 : decode b_Big_subtract 58 = .ok (.lstore 7, 2) := by decide +kernel
theorem d_Big_subtract_60 : decode b_Big_subtract 60 = .ok (.aload_n 0, 1) := by decide +kernel
theorem d_Big_subtract_61 : decode b_Big_subtract 61 = .ok (.getfield 9, 3) := by decide +kernel
theorem d_Big_subtract_64 : decode b_Big_subtract 64 = .ok (.iload 4, 2) := by decide +kernel
theorem d_Big_subtract_66 : decode b_Big_subtract 66 = .ok (.lload 7, 2) := by decide +kernel
theorem d_Big_subtract_68 : decode b_Big_subtract 68 = .ok (.l2i, 1) := by decide +kernel
theorem d_Big_subtract_69 : decode b_Big_subtract 69 = .ok (.iastore, 1) := by decide +kernel
theorem d_Big_subtract_70 : decode b_Big_subtract 70 = .ok (.lload 7, 2) := by decide +kernel
theorem d_Big_subtract_72 : decode b_Big_subtract 72 = .ok (.bipush 63, 2) := by decide +kernel
theorem d_Big_subtract_74 : decode b_Big_subtract 74 = .ok (.lushr, 1) := by decide +kernel
theorem d_Big_subtract_75 : decode b_Big_subtract 75 = .ok (.lstore_n 2, 1) := by decide +kernel
theorem d_Big_subtract_76 : decode b_Big_subtract 76 = .ok (.iinc 4 1, 3) := by decide +kernel
theorem d_Big_subtract_79 : decode b_Big_subtract 79 = .ok (.goto (-74), 3) := by decide +kernel
theorem d_Big_subtract_82 : decode b_Big_subtract 82 = .ok (.aload_n 0, 1) := by decide +kernel
theorem d_Big_subtract_83 : decode b_Big_subtract 83 = .ok (.invokevirtual 17, 3) := by decide +kernel
theorem d_Big_subtract_86 : decode b_Big_subtract 86 = .ok (.return_, 1) := by decide +kernel
theorem d_Big_dropZeros_0 : decode b_Big_dropZeros 0 = .ok (.aload_n 0, 1) := by decide +kernel
theorem d_Big_dropZeros_1 : decode b_Big_dropZeros 1 = .ok (.getfield 13, 3) := by decide +kernel
theorem d_Big_dropZeros_4 : decode b_Big_dropZeros 4 = .ok (.ifCond .le 30, 3) := by decide +kernel
theorem d_Big_dropZeros_7 : decode b_Big_dropZeros 7 = .ok (.aload_n 0, 1) := by decide +kernel
theorem d_Big_dropZeros_8 : decode b_Big_dropZeros 8 = .ok (.getfield 9, 3) := by decide +kernel
theorem d_Big_dropZeros_11 : decode b_Big_dropZeros 11 = .ok (.aload_n 0, 1) := by decide +kernel
theorem d_Big_dropZeros_12 : decode b_Big_dropZeros 12 = .ok (.getfield 13, 3) := by decide +kernel
theorem d_Big_dropZeros_15 : decode b_Big_dropZeros 15 = .ok (.iconst 1, 1) := by decide +kernel
theorem d_Big_dropZeros_16 : decode b_Big_dropZeros 16 = .ok (.isub, 1) := by decide +kernel
theorem d_Big_dropZeros_17 : decode b_Big_dropZeros 17 = .ok (.iaload, 1) := by decide +kernel
theorem d_Big_dropZeros_18 : decode b_Big_dropZeros 18 = .ok (.ifCond .ne 16, 3) := by decide +kernel
theorem d_Big_dropZeros_21 : decode b_Big_dropZeros 21 = .ok (.aload_n 0, 1) := by decide +kernel
theorem d_Big_dropZeros_22 : decode b_Big_dropZeros 22 = .ok (.dup, 1) := by decide +kernel
theorem d_Big_dropZeros_23 : decode b_Big_dropZeros 23 = .ok (.getfield 13, 3) := by decide +kernel
theorem d_Big_dropZeros_26 : decode b_Big_dropZeros 26 = .ok (.iconst 1, 1) := by decide +kernel
theorem d_Big_dropZeros_27 : decode b_Big_dropZeros 27 = .ok (.isub, 1) := by decide +kernel
theorem d_Big_dropZeros_28 : decode b_Big_dropZeros 28 = .ok (.putfield 13, 3) := by decide +kernel
theorem d_Big_dropZeros_31 : decode b_Big_dropZeros 31 = .ok (.goto (-31), 3) := by decide +kernel
theorem d_Big_dropZeros_34 : decode b_Big_dropZeros 34 = .ok (.return_, 1) := by decide +kernel
