theorem cv_ex : ∀ i, i < 2 → ∀ v, szN i v / 2 ^ (kP i - 1) ≤ 2048 := by
  intro i hi v
  have h1 : szN i v < 2 ^ kB i := Nat.mod_lt _ (Nat.two_pow_pos _)
  have h2 : ∀ i, i < 2 → 2 ^ kB i ≤ 2048 * 2 ^ (kP i - 1) := by decide +kernel
  have h3 := h2 i hi
  exact Nat.le_of_lt ((Nat.div_lt_iff_lt_mul (Nat.two_pow_pos _)).mpr (by omega))
theorem d_Rea_converted_0 : decode b_Rea_converted 0 = .ok (.aload_n 2, 1) := by decide +kernel
theorem d_Rea_converted_1 : decode b_Rea_converted 1 = .ok (.lload_n 0, 1) := by decide +kernel
theorem d_Rea_converted_2 : decode b_Rea_converted 2 = .ok (.invokevirtual 96, 3) := by decide +kernel
theorem d_Rea_converted_5 : decode b_Rea_converted 5 = .ok (.ifCond .eq 8, 3) := by decide +kernel
theorem d_Rea_converted_8 : decode b_Rea_converted 8 = .ok (.aload_n 3, 1) := by decide +kernel
theorem d_Rea_converted_9 : decode b_Rea_converted 9 = .ok (.getfield 67, 3) := by decide +kernel
theorem d_Rea_converted_12 : decode b_Rea_converted 12 = .ok (.lreturn, 1) := by decide +kernel
theorem d_Rea_converted_13 : decode b_Rea_converted 13 = .ok (.aload_n 2, 1) := by decide +kernel
theorem d_Rea_converted_14 : decode b_Rea_converted 14 = .ok (.lload_n 0, 1) := by decide +kernel
theorem d_Rea_converted_15 : decode b_Rea_converted 15 = .ok (.invokevirtual 141, 3) := by decide +kernel
theorem d_Rea_converted_18 : decode b_Rea_converted 18 = .ok (.lstore 4, 2) := by decide +kernel
theorem d_Rea_converted_20 : decode b_Rea_converted 20 = .ok (.aload_n 2, 1) := by decide +kernel
theorem d_Rea_converted_21 : decode b_Rea_converted 21 = .ok (.lload_n 0, 1) := by decide +kernel
theorem d_Rea_converted_22 : decode b_Rea_converted 22 = .ok (.invokevirtual 144, 3) := by decide +kernel
theorem d_Rea_converted_25 : decode b_Rea_converted 25 = .ok (.istore 6, 2) := by decide +kernel
theorem d_Rea_converted_27 : decode b_Rea_converted 27 = .ok (.lload 4, 2) := by decide +kernel
theorem d_Rea_converted_29 : decode b_Rea_converted 29 = .ok (.aload_n 2, 1) := by decide +kernel
theorem d_Rea_converted_30 : decode b_Rea_converted 30 = .ok (.getfield 70, 3) := by decide +kernel
theorem d_Rea_converted_33 : decode b_Rea_converted 33 = .ok (.lcmp, 1) := by decide +kernel
theorem d_Rea_converted_34 : decode b_Rea_converted 34 = .ok (.ifCond .ne 14, 3) := by decide +kernel
theorem d_Rea_converted_37 : decode b_Rea_converted 37 = .ok (.aload_n 3, 1) := by decide +kernel
theorem d_Rea_converted_38 : decode b_Rea_converted 38 = .ok (.aload_n 3, 1) := by decide +kernel
theorem d_Rea_converted_39 : decode b_Rea_converted 39 = .ok (.getfield 70, 3) := by decide +kernel
theorem d_Rea_converted_42 : decode b_Rea_converted 42 = .ok (.iload 6, 2) := by decide +kernel
theorem d_Rea_converted_44 : decode b_Rea_converted 44 = .ok (.invokevirtual 73, 3) := by decide +kernel
theorem d_Rea_converted_47 : decode b_Rea_converted 47 = .ok (.lreturn, 1) := by decide +kernel
theorem d_Rea_converted_48 : decode b_Rea_converted 48 = .ok (.lconst 1, 1) := by decide +kernel
theorem d_Rea_converted_49 : decode b_Rea_converted 49 = .ok (.aload_n 2, 1) := by decide +kernel
theorem d_Rea_converted_50 : decode b_Rea_converted 50 = .ok (.getfield 147, 3) := by decide +kernel
theorem d_Rea_converted_53 : decode b_Rea_converted 53 = .ok (.iconst 1, 1) := by decide +kernel
theorem d_Rea_converted_54 : decode b_Rea_converted 54 = .ok (.isub, 1) := by decide +kernel
theorem d_Rea_converted_55 : decode b_Rea_converted 55 = .ok (.lshl, 1) := by decide +kernel
theorem d_Rea_converted_56 : decode b_Rea_converted 56 = .ok (.lstore 7, 2) := by decide +kernel
theorem d_Rea_converted_58 : decode b_Rea_converted 58 = .ok (.lload 4, 2) := by decide +kernel
theorem d_Rea_converted_60 : decode b_Rea_converted 60 = .ok (.aload_n 2, 1) := by decide +kernel
theorem d_Rea_converted_61 : decode b_Rea_converted 61 = .ok (.getfield 147, 3) := by decide +kernel
theorem d_Rea_converted_64 : decode b_Rea_converted 64 = .ok (.iconst 1, 1) := by decide +kernel
theorem d_Rea_converted_65 : decode b_Rea_converted 65 = .ok (.isub, 1) := by decide +kernel
theorem d_Rea_converted_66 : decode b_Rea_converted 66 = .ok (.lushr, 1) := by decide +kernel
theorem d_Rea_converted_67 : decode b_Rea_converted 67 = .ok (.l2i, 1) := by decide +kernel
theorem d_Rea_converted_68 : decode b_Rea_converted 68 = .ok (.istore 9, 2) := by decide +kernel
theorem d_Rea_converted_70 : decode b_Rea_converted 70 = .ok (.lload 4, 2) := by decide +kernel
theorem d_Rea_converted_72 : decode b_Rea_converted 72 = .ok (.lload 7, 2) := by decide +kernel
theorem d_Rea_converted_74 : decode b_Rea_converted 74 = .ok (.lconst 1, 1) := by decide +kernel
theorem d_Rea_converted_75 : decode b_Rea_converted 75 = .ok (.lsub, 1) := by decide +kernel
theorem d_Rea_converted_76 : decode b_Rea_converted 76 = .ok (.land, 1) := by decide +kernel
theorem d_Rea_converted_77 : decode b_Rea_converted 77 = .ok (.lstore 10, 2) := by decide +kernel
theorem d_Rea_converted_79 : decode b_Rea_converted 79 = .ok (.iload 9, 2) := by decide +kernel
theorem d_Rea_converted_81 : decode b_Rea_converted 81 = .ok (.ifCond .ne 21, 3) := by decide +kernel
theorem d_Rea_converted_84 : decode b_Rea_converted 84 = .ok (.aload_n 3, 1) := by decide +kernel
theorem d_Rea_converted_85 : decode b_Rea_converted 85 = .ok (.aload_n 3, 1) := by decide +kernel
theorem d_Rea_converted_86 : decode b_Rea_converted 86 = .ok (.lload 10, 2) := by decide +kernel
theorem d_Rea_converted_88 : decode b_Rea_converted 88 = .ok (.aload_n 2, 1) := by decide +kernel
theorem d_Rea_converted_89 : decode b_Rea_converted 89 = .ok (.getfield 150, 3) := by decide +kernel
theorem d_Rea_converted_92 : decode b_Rea_converted 92 = .ok (.iconst 0, 1) := by decide +kernel
theorem d_Rea_converted_93 : decode b_Rea_converted 93 = .ok (.invokevirtual 138, 3) := by decide +kernel
theorem d_Rea_converted_96 : decode b_Rea_converted 96 = .ok (.iload 6, 2) := by decide +kernel
theorem d_Rea_converted_98 : decode b_Rea_converted 98 = .ok (.invokevirtual 73, 3) := by decide +kernel
theorem d_Rea_converted_101 : decode b_Rea_converted 101 = .ok (.lreturn, 1) := by decide +kernel
theorem d_Rea_converted_102 : decode b_Rea_converted 102 = .ok (.aload_n 3, 1) := by decide +kernel
theorem d_Rea_converted_103 : decode b_Rea_converted 103 = .ok (.aload_n 3, 1) := by decide +kernel
theorem d_Rea_converted_104 : decode b_Rea_converted 104 = .ok (.lload 7, 2) := by decide +kernel
theorem d_Rea_converted_106 : decode b_Rea_converted 106 = .ok (.lload 10, 2) := by decide +kernel
theorem d_Rea_converted_108 : decode b_Rea_converted 108 = .ok (.ladd, 1) := by decide +kernel
theorem d_Rea_converted_109 : decode b_Rea_converted 109 = .ok (.aload_n 2, 1) := by decide +kernel
theorem d_Rea_converted_110 : decode b_Rea_converted 110 = .ok (.getfield 150, 3) := by decide +kernel
theorem d_Rea_converted_113 : decode b_Rea_converted 113 = .ok (.iload 9, 2) := by decide +kernel
theorem d_Rea_converted_115 : decode b_Rea_converted 115 = .ok (.iadd, 1) := by decide +kernel
theorem d_Rea_converted_116 : decode b_Rea_converted 116 = .ok (.iconst 1, 1) := by decide +kernel
theorem d_Rea_converted_117 : decode b_Rea_converted 117 = .ok (.isub, 1) := by decide +kernel
theorem d_Rea_converted_118 : decode b_Rea_converted 118 = .ok (.iconst 0, 1) := by decide +kernel
theorem d_Rea_converted_119 : decode b_Rea_converted 119 = .ok (.invokevirtual 138, 3) := by decide +kernel
theorem d_Rea_converted_122 : decode b_Rea_converted 122 = .ok (.iload 6, 2) := by decide +kernel
theorem d_Rea_converted_124 : decode b_Rea_converted 124 = .ok (.invokevirtual 73, 3) := by decide +kernel
theorem d_Rea_converted_127 : decode b_Rea_converted 127 = .ok (.lreturn, 1) := by decide +kernel
theorem d_Rea_narrowed_0 : decode b_Rea_narrowed 0 = .ok (.lload_n 1, 1) := by decide +kernel
theorem d_Rea_narrowed_1 : decode b_Rea_narrowed 1 = .ok (.getstatic 50, 3) := by decide +kernel
theorem d_Rea_narrowed_4 : decode b_Rea_narrowed 4 = .ok (.getstatic 60, 3) := by decide +kernel
theorem d_Rea_narrowed_7 : decode b_Rea_narrowed 7 = .ok (.invokestatic 63, 3) := by decide +kernel
theorem d_Rea_narrowed_10 : decode b_Rea_narrowed 10 = .ok (.lreturn, 1) := by decide +kernel
theorem d_Rea_widened_0 : decode b_Rea_widened 0 = .ok (.lload_n 1, 1) := by decide +kernel
theorem d_Rea_widened_1 : decode b_Rea_widened 1 = .ok (.getstatic 60, 3) := by decide +kernel
theorem d_Rea_widened_4 : decode b_Rea_widened 4 = .ok (.getstatic 50, 3) := by decide +kernel
theorem d_Rea_widened_7 : decode b_Rea_widened 7 = .ok (.invokestatic 63, 3) := by decide +kernel
theorem d_Rea_widened_10 : decode b_Rea_widened 10 = .ok (.lreturn, 1) := by decide +kernel
theorem d_Rea_length_0 : decode b_Rea_length 0 = .ok (.aload_n 0, 1) := by decide +kernel
theorem d_Rea_length_1 : decode b_Rea_length 1 = .ok (.getfield 33, 3) := by decide +kernel
theorem d_Rea_length_4 : decode b_Rea_length 4 = .ok (.ireturn, 1) := by decide +kernel
theorem d_Rea_bits_0 : decode b_Rea_bits 0 = .ok (.aload_n 0, 1) := by decide +kernel
theorem d_Rea_bits_1 : decode b_Rea_bits 1 = .ok (.getfield 37, 3) := by decide +kernel
theorem d_Rea_bits_4 : decode b_Rea_bits 4 = .ok (.lreturn, 1) := by decide +kernel
theorem d_Rea_readings_0 : decode b_Rea_readings 0 = .ok (.aload_n 0, 1) := by decide +kernel
theorem d_Rea_readings_1 : decode b_Rea_readings 1 = .ok (.getfield 41, 3) := by decide +kernel
theorem d_Rea_readings_4 : decode b_Rea_readings 4 = .ok (.ireturn, 1) := by decide +kernel
theorem d_Rea_keep_0 : decode b_Rea_keep 0 = .ok (.iload_n 1, 1) := by decide +kernel
theorem d_Rea_keep_1 : decode b_Rea_keep 1 = .ok (.ifCond .lt 11, 3) := by decide +kernel
theorem d_Rea_keep_4 : decode b_Rea_keep 4 = .ok (.aload_n 0, 1) := by decide +kernel
theorem d_Rea_keep_5 : decode b_Rea_keep 5 = .ok (.getfield 33, 3) := by decide +kernel
theorem d_Rea_keep_8 : decode b_Rea_keep 8 = .ok (.iload_n 1, 1) := by decide +kernel
theorem d_Rea_keep_9 : decode b_Rea_keep 9 = .ok (.if_icmp .gt 5, 3) := by decide +kernel
theorem d_Rea_keep_12 : decode b_Rea_keep 12 = .ok (.iconst 0, 1) := by decide +kernel
theorem d_Rea_keep_13 : decode b_Rea_keep 13 = .ok (.ireturn, 1) := by decide +kernel
theorem d_Rea_keep_14 : decode b_Rea_keep 14 = .ok (.aload_n 0, 1) := by decide +kernel
theorem d_Rea_keep_15 : decode b_Rea_keep 15 = .ok (.iload_n 1, 1) := by decide +kernel
theorem d_Rea_keep_16 : decode b_Rea_keep 16 = .ok (.putfield 33, 3) := by decide +kernel
theorem d_Rea_keep_19 : decode b_Rea_keep 19 = .ok (.iconst 1, 1) := by decide +kernel
theorem d_Rea_keep_20 : decode b_Rea_keep 20 = .ok (.ireturn, 1) := by decide +kernel
theorem d_Rea_write_0 : decode b_Rea_write 0 = .ok (.aload_n 0, 1) := by decide +kernel
theorem d_Rea_write_1 : decode b_Rea_write 1 = .ok (.getfield 33, 3) := by decide +kernel
theorem d_Rea_write_4 : decode b_Rea_write 4 = .ok (.lload_n 1, 1) := by decide +kernel
theorem d_Rea_write_5 : decode b_Rea_write 5 = .ok (.invokestatic 44, 3) := by decide +kernel
theorem d_Rea_write_8 : decode b_Rea_write 8 = .ok (.iadd, 1) := by decide +kernel
theorem d_Rea_write_9 : decode b_Rea_write 9 = .ok (.sipush 2400, 3) := by decide +kernel
theorem d_Rea_write_12 : decode b_Rea_write 12 = .ok (.if_icmp .le 5, 3) := by decide +kernel
theorem d_Rea_write_15 : decode b_Rea_write 15 = .ok (.iconst 0, 1) := by decide +kernel
theorem d_Rea_write_16 : decode b_Rea_write 16 = .ok (.ireturn, 1) := by decide +kernel
theorem d_Rea_write_17 : decode b_Rea_write 17 = .ok (.bipush 56, 2) := by decide +kernel
theorem d_Rea_write_19 : decode b_Rea_write 19 = .ok (.istore_n 3, 1) := by decide +kernel
theorem d_Rea_write_20 : decode b_Rea_write 20 = .ok (.iload_n 3, 1) := by decide +kernel
theorem d_Rea_write_21 : decode b_Rea_write 21 = .ok (.ifCond .lt 58, 3) := by decide +kernel
theorem d_Rea_write_24 : decode b_Rea_write 24 = .ok (.lload_n 1, 1) := by decide +kernel
theorem d_Rea_write_25 : decode b_Rea_write 25 = .ok (.iload_n 3, 1) := by decide +kernel
theorem d_Rea_write_26 : decode b_Rea_write 26 = .ok (.lushr, 1) := by decide +kernel
theorem d_Rea_write_27 : decode b_Rea_write 27 = .ok (.ldc2_w 48, 3) := by decide +kernel
theorem d_Rea_write_30 : decode b_Rea_write 30 = .ok (.land, 1) := by decide +kernel
theorem d_Rea_write_31 : decode b_Rea_write 31 = .ok (.l2i, 1) := by decide +kernel
theorem d_Rea_write_32 : decode b_Rea_write 32 = .ok (.i2c, 1) := by decide +kernel
theorem d_Rea_write_33 : decode b_Rea_write 33 = .ok (.istore 4, 2) := by decide +kernel
theorem d_Rea_write_35 : decode b_Rea_write 35 = .ok (.iload 4, 2) := by decide +kernel
theorem d_Rea_write_37 : decode b_Rea_write 37 = .ok (.ifCond .eq 36, 3) := by decide +kernel
theorem d_Rea_write_40 : decode b_Rea_write 40 = .ok (.aload_n 0, 1) := by decide +kernel
theorem d_Rea_write_41 : decode b_Rea_write 41 = .ok (.getfield 33, 3) := by decide +kernel
theorem d_Rea_write_44 : decode b_Rea_write 44 = .ok (.aload_n 0, 1) := by decide +kernel
theorem d_Rea_write_45 : decode b_Rea_write 45 = .ok (.getfield 27, 3) := by decide +kernel
theorem d_Rea_write_48 : decode b_Rea_write 48 = .ok (.arraylength, 1) := by decide +kernel
theorem d_Rea_write_49 : decode b_Rea_write 49 = .ok (.if_icmp .ge 24, 3) := by decide +kernel
theorem d_Rea_write_52 : decode b_Rea_write 52 = .ok (.aload_n 0, 1) := by decide +kernel
theorem d_Rea_write_53 : decode b_Rea_write 53 = .ok (.getfield 27, 3) := by decide +kernel
theorem d_Rea_write_56 : decode b_Rea_write 56 = .ok (.aload_n 0, 1) := by decide +kernel
theorem d_Rea_write_57 : decode b_Rea_write 57 = .ok (.getfield 33, 3) := by decide +kernel
theorem d_Rea_write_60 : decode b_Rea_write 60 = .ok (.iload 4, 2) := by decide +kernel
theorem d_Rea_write_62 : decode b_Rea_write 62 = .ok (.castore, 1) := by decide +kernel
theorem d_Rea_write_63 : decode b_Rea_write 63 = .ok (.aload_n 0, 1) := by decide +kernel
theorem d_Rea_write_64 : decode b_Rea_write 64 = .ok (.dup, 1) := by decide +kernel
theorem d_Rea_write_65 : decode b_Rea_write 65 = .ok (.getfield 33, 3) := by decide +kernel
theorem d_Rea_write_68 : decode b_Rea_write 68 = .ok (.iconst 1, 1) := by decide +kernel
theorem d_Rea_write_69 : decode b_Rea_write 69 = .ok (.iadd, 1) := by decide +kernel
theorem d_Rea_write_70 : decode b_Rea_write 70 = .ok (.putfield 33, 3) := by decide +kernel
theorem d_Rea_write_73 : decode b_Rea_write 73 = .ok (.iinc 3 (-8), 3) := by decide +kernel
theorem d_Rea_write_76 : decode b_Rea_write 76 = .ok (.goto (-56), 3) := by decide +kernel
theorem d_Rea_write_79 : decode b_Rea_write 79 = .ok (.iconst 1, 1) := by decide +kernel
theorem d_Rea_write_80 : decode b_Rea_write 80 = .ok (.ireturn, 1) := by decide +kernel
theorem d_Rea_compare_0 : decode b_Rea_compare 0 = .ok (.iload 5, 2) := by decide +kernel
theorem d_Rea_compare_2 : decode b_Rea_compare 2 = .ok (.ifCond .eq 9, 3) := by decide +kernel
theorem d_Rea_compare_5 : decode b_Rea_compare 5 = .ok (.getstatic 50, 3) := by decide +kernel
theorem d_Rea_compare_8 : decode b_Rea_compare 8 = .ok (.goto 6, 3) := by decide +kernel
theorem d_Rea_compare_11 : decode b_Rea_compare 11 = .ok (.getstatic 60, 3) := by decide +kernel
theorem d_Rea_compare_14 : decode b_Rea_compare 14 = .ok (.astore 6, 2) := by decide +kernel
theorem d_Rea_compare_16 : decode b_Rea_compare 16 = .ok (.aload 6, 2) := by decide +kernel
theorem d_Rea_compare_18 : decode b_Rea_compare 18 = .ok (.lload_n 1, 1) := by decide +kernel
theorem d_Rea_compare_19 : decode b_Rea_compare 19 = .ok (.invokevirtual 96, 3) := by decide +kernel
theorem d_Rea_compare_22 : decode b_Rea_compare 22 = .ok (.ifCond .ne 12, 3) := by decide +kernel
theorem d_Rea_compare_25 : decode b_Rea_compare 25 = .ok (.aload 6, 2) := by decide +kernel
theorem d_Rea_compare_27 : decode b_Rea_compare 27 = .ok (.lload_n 3, 1) := by decide +kernel
theorem d_Rea_compare_28 : decode b_Rea_compare 28 = .ok (.invokevirtual 96, 3) := by decide +kernel
theorem d_Rea_compare_31 : decode b_Rea_compare 31 = .ok (.ifCond .eq 5, 3) := by decide +kernel
theorem d_Rea_compare_34 : decode b_Rea_compare 34 = .ok (.iconst 2, 1) := by decide +kernel
theorem d_Rea_compare_35 : decode b_Rea_compare 35 = .ok (.ireturn, 1) := by decide +kernel
theorem d_Rea_compare_36 : decode b_Rea_compare 36 = .ok (.aload 6, 2) := by decide +kernel
theorem d_Rea_compare_38 : decode b_Rea_compare 38 = .ok (.lload_n 1, 1) := by decide +kernel
theorem d_Rea_compare_39 : decode b_Rea_compare 39 = .ok (.invokevirtual 100, 3) := by decide +kernel
theorem d_Rea_compare_42 : decode b_Rea_compare 42 = .ok (.lstore 7, 2) := by decide +kernel
theorem d_Rea_compare_44 : decode b_Rea_compare 44 = .ok (.aload 6, 2) := by decide +kernel
theorem d_Rea_compare_46 : decode b_Rea_compare 46 = .ok (.lload_n 3, 1) := by decide +kernel
theorem d_Rea_compare_47 : decode b_Rea_compare 47 = .ok (.invokevirtual 100, 3) := by decide +kernel
theorem d_Rea_compare_50 : decode b_Rea_compare 50 = .ok (.lstore 9, 2) := by decide +kernel
theorem d_Rea_compare_52 : decode b_Rea_compare 52 = .ok (.lload 7, 2) := by decide +kernel
theorem d_Rea_compare_54 : decode b_Rea_compare 54 = .ok (.lload 9, 2) := by decide +kernel
theorem d_Rea_compare_56 : decode b_Rea_compare 56 = .ok (.lcmp, 1) := by decide +kernel
theorem d_Rea_compare_57 : decode b_Rea_compare 57 = .ok (.ifCond .ne 5, 3) := by decide +kernel
theorem d_Rea_compare_60 : decode b_Rea_compare 60 = .ok (.iconst 0, 1) := by decide +kernel
theorem d_Rea_compare_61 : decode b_Rea_compare 61 = .ok (.ireturn, 1) := by decide +kernel
theorem d_Rea_compare_62 : decode b_Rea_compare 62 = .ok (.lload 7, 2) := by decide +kernel
theorem d_Rea_compare_64 : decode b_Rea_compare 64 = .ok (.lload 9, 2) := by decide +kernel
theorem d_Rea_compare_66 : decode b_Rea_compare 66 = .ok (.lcmp, 1) := by decide +kernel
theorem d_Rea_compare_67 : decode b_Rea_compare 67 = .ok (.ifCond .ge 7, 3) := by decide +kernel
theorem d_Rea_compare_70 : decode b_Rea_compare 70 = .ok (.iconst (-1), 1) := by decide +kernel
theorem d_Rea_compare_71 : decode b_Rea_compare 71 = .ok (.goto 4, 3) := by decide +kernel
theorem d_Rea_compare_74 : decode b_Rea_compare 74 = .ok (.iconst 1, 1) := by decide +kernel
theorem d_Rea_compare_75 : decode b_Rea_compare 75 = .ok (.ireturn, 1) := by decide +kernel
set_option maxHeartbeats 4000000 in
set_option maxRecDepth 100000 in
theorem c_Rea_converted (l : Launch) (D : va_G) (E : evD) (i : Nat) (hi : i < 2) (k : Nat) (hk : k < 2) (v : Nat) (hv : v < 2 ^ 64) : Cl (S := Unit) l y_Rea_converted (wz y_Rea_converted b_Rea_converted 12 (some .long)) ({ frames := 2, cells := 0, slots := 0, locals := 57 }) D vcl (ev1 E) [.long (lN v), .ref (E.1 i), .ref (E.1 k)] [] [] 0 0 (fun (r : Int64) (_ : Unit) => r = cvN i k v) (fun _ => []) (fun _ : Unit => []) := by
  have hev := ev1_ok E
  unfold Cl
  refine ct_of (y := y_Rea_converted) (av := [.long (lN v), .ref (E.1 i), .ref (E.1 k)]) (cc := b_Rea_converted) (maxL := 12) (ret := (some .long)) (Qc := fun A => va_Ql (S := Unit) (fun (r : Int64) (_ : Unit) => r = cvN i k v) (fun u tS => ctB D vcl ((fun _ => []) u) ((fun _ : Unit => []) u) A tS) A) (by decide) rfl (Nat.le_of_ble_eq_true rfl) ?_
  intro p ee s m below meth cde ls A H locs hx hb hml hrt hlocks hown hin hts hA hP hK hD hS hE hl
  have hown : s.vm.findClass R_Rea = some m.cls := hown
  have hts := wz_g hts
  have hl : lv_has ls 12 [(0, .long (lN v)), (2, .ref (E.1 i)), (3, .ref (E.1 k))] := hl
  obtain ⟨hi1, hi2, hi3, hi4, hi5, -⟩ := kP_b i hi
  obtain ⟨hk1, hk2, hk3, hk4, hk5, -⟩ := kP_b k hk
  have hsz := szN_lt (v := v) hi
  have hin := kIN_63 i hi
  have hpq : 2 ^ (kP i - 1) ≤ 2 ^ 52 := two_pow_le (by omega)
  have hld := Nat.mod_lt (szN i v) (Nat.two_pow_pos (kP i - 1))
  obtain ⟨xq, hxq⟩ : ∃ xq : Nat, xq = szN i v / 2 ^ (kP i - 1) := ⟨_, rfl⟩
  have hex : xq ≤ 2048 := by rw [hxq]; exact cv_ex i hi v
  refine lv_aload_n hx hb d_Rea_converted_0 rfl (lv_at hl 1 rfl) ?_
  refine lv_lload_n hx hb d_Rea_converted_1 rfl (lv_at hl 0 rfl) ?_
  refine ca_i [] (va_runV (As := [.long (lN v)]) (rest := []) ⟨hx, hb, hml, hown, hts⟩ (c_Kin_isNone l D E i hi v (hv) H.size) (xV 1 hts kC_Kin_isNone kM_Rea_96 kI_Kin_isNone kS_Kin_isNone kN_Kin rfl rfl (by decide +kernel) ⟨Nat.le_of_ble_eq_true rfl, Nat.le_of_ble_eq_true rfl⟩) ⟨ct_blind hev, va_recvE (i := i) hE.2.1 hi hS, ct_pre hev hP hK hD hS hA hE [] rfl (by decide) [] rfl⟩ rfl rfl hl.1 rfl (lv_room (Nat.le_of_ble_eq_true rfl)) d_Rea_converted_2 ⟨Nat.le_of_ble_eq_true rfl, Nat.le_of_ble_eq_true rfl⟩) hP hD hS hA [] [] rfl rfl (by decide) (by decide) (fun rv u H locs hw hP hD hS hK1 => ?_)
  have hP : va_P D vcl [] H := hP
  have hD : va_D A [] := hD
  refine lv_if_eq (tgt := 13) hx hb d_Rea_converted_5 (by decide) (fun c5 => ?_) (fun c5 => ?_)
  · have e5 : ¬ kIN i < szN i v := fun z => by have := hw.2.mpr z; rw [c5] at this; exact absurd this (by decide)
    refine lv_aload_n hx hb d_Rea_converted_13 rfl (lv_at hl 1 rfl) ?_
    refine lv_lload_n hx hb d_Rea_converted_14 rfl (lv_at hl 0 rfl) ?_
    refine ca_l [] (va_runV (As := [.long (lN v)]) (rest := []) ⟨hx, hb, hml, hown, hts⟩ (c_Kin_sizeOf l D E i hi v (hv) H.size) (xV 1 hts kC_Kin_sizeOf kM_Rea_141 kI_Kin_sizeOf kS_Kin_sizeOf kN_Kin rfl rfl (by decide +kernel) ⟨Nat.le_of_ble_eq_true rfl, Nat.le_of_ble_eq_true rfl⟩) ⟨ct_blind hev, va_recvE (i := i) hE.2.1 hi hS, ct_pre hev hP hK hD hS hA hE [] rfl (by decide) [] rfl⟩ rfl rfl hl.1 rfl (lv_room (Nat.le_of_ble_eq_true rfl)) d_Rea_converted_15 ⟨Nat.le_of_ble_eq_true rfl, Nat.le_of_ble_eq_true rfl⟩) hP hD hS hA [] [] rfl rfl (by decide) (by decide) (fun rv u H locs hw hP hD hS hK1 => ?_)
    subst hw
    have hP : va_P D vcl [] H := hP
    have hD : va_D A [] := hD
    refine lv_lstore (lv' := [(4, .long (lN (szN i v))), (0, .long (lN v)), (2, .ref (E.1 i)), (3, .ref (E.1 k))]) hx hb d_Rea_converted_18 hl (by decide) rfl (fun ls hl => ?_)
    refine lv_aload_n hx hb d_Rea_converted_20 rfl (lv_at hl 2 rfl) ?_
    refine lv_lload_n hx hb d_Rea_converted_21 rfl (lv_at hl 1 rfl) ?_
    refine ca_i [] (va_runV (As := [.long (lN v)]) (rest := []) ⟨hx, hb, hml, hown, hts⟩ (c_Kin_isBelow l D E i hi v (hv) H.size) (xV 1 hts kC_Kin_isBelow kM_Rea_144 kI_Kin_isBelow kS_Kin_isBelow kN_Kin rfl rfl (by decide +kernel) ⟨Nat.le_of_ble_eq_true rfl, Nat.le_of_ble_eq_true rfl⟩) ⟨ct_blind hev, va_recvE (i := i) hE.2.1 hi hS, ct_pre hev hP hK hD hS hA hE [] rfl (by decide) [] rfl⟩ rfl rfl hl.1 rfl (lv_room (Nat.le_of_ble_eq_true rfl)) d_Rea_converted_22 ⟨Nat.le_of_ble_eq_true rfl, Nat.le_of_ble_eq_true rfl⟩) hP hD hS hA [] [] rfl rfl (by decide) (by decide) (fun rv u H locs hw hP hD hS hK1 => ?_)
    have hP : va_P D vcl [] H := hP
    have hD : va_D A [] := hD
    have hbb := bl_of hw
    subst hbb
    refine lv_istore (lv' := [(6, .int (bI (blB i v))), (4, .long (lN (szN i v))), (0, .long (lN v)), (2, .ref (E.1 i)), (3, .ref (E.1 k))]) hx hb d_Rea_converted_25 hl (by decide) rfl (fun ls hl => ?_)
    refine lv_lload hx hb d_Rea_converted_27 (lv_at hl 1 rfl) ?_
    refine lv_aload_n hx hb d_Rea_converted_29 rfl (lv_at hl 3 rfl) ?_
    refine va_getX hx hb hE.2.2.2.1 (i := i) hi hS hown (hts _ kF_Rea_70) (fun _ h9 => h9) d_Rea_converted_30 ?_
    refine tv_l (lN (kIN i)) (kf_I i hi) ?_
    refine W.lcmp hx hb d_Rea_converted_33 ?_
    refine lv_if_ne (tgt := 48) hx hb d_Rea_converted_34 (by decide) (fun c34 => ?_) (fun c34 => ?_)
    · have e34 : szN i v ≠ kIN i := fun z => c34 ((lg_cmp_eq _ _).mpr (by rw [z]))
      refine lv_lconst (v := 1) hx hb d_Rea_converted_48 (by decide) ?_
      refine lv_aload_n hx hb d_Rea_converted_49 rfl (lv_at hl 3 rfl) ?_
      refine va_getE hx hb hE.2.1 (i := i) hi hS hown (q := kF[0]) (List.getElem_mem _) (hts _ kF_Rea_147) (fun _ h9 => h9) d_Rea_converted_50 ?_
      refine tv_i (nI (kP i)) (kf_P i hi) ?_
      refine lv_iconst (v := 1) hx hb d_Rea_converted_53 (by decide) ?_
      refine lv_isub hx hb d_Rea_converted_54 ?_
      refine tv_i (nI (kP i - 1)) (nI_dec (by omega)) ?_
      refine lv_lshl (v := lN (2 ^ (kP i - 1))) hx hb d_Rea_converted_55 (by have h9 := wb_shl 1 (k := kP i - 1) (by omega); rw [Nat.one_mul] at h9; exact h9) ?_
      refine lv_lstore (lv' := [(7, .long (lN (2 ^ (kP i - 1)))), (6, .int (bI (blB i v))), (4, .long (lN (szN i v))), (0, .long (lN v)), (2, .ref (E.1 i)), (3, .ref (E.1 k))]) hx hb d_Rea_converted_56 hl (by decide) rfl (fun ls hl => ?_)
      refine lv_lload hx hb d_Rea_converted_58 (lv_at hl 2 rfl) ?_
      refine lv_aload_n hx hb d_Rea_converted_60 rfl (lv_at hl 4 rfl) ?_
      refine va_getE hx hb hE.2.1 (i := i) hi hS hown (q := kF[0]) (List.getElem_mem _) (hts _ kF_Rea_147) (fun _ h9 => h9) d_Rea_converted_61 ?_
      refine tv_i (nI (kP i)) (kf_P i hi) ?_
      refine lv_iconst (v := 1) hx hb d_Rea_converted_64 (by decide) ?_
      refine lv_isub hx hb d_Rea_converted_65 ?_
      refine tv_i (nI (kP i - 1)) (nI_dec (by omega)) ?_
      refine lv_lushr (v := lN xq) hx hb d_Rea_converted_66 (by rw [hxq]; exact wb_shr (by omega) (by omega)) ?_
      refine lv_l2i (v := (lN xq).toInt32) hx hb d_Rea_converted_67 (rfl) ?_
      refine tv_i (nI xq) (lN_i _) ?_
      refine lv_istore (lv' := [(9, .int (nI xq)), (7, .long (lN (2 ^ (kP i - 1)))), (6, .int (bI (blB i v))), (4, .long (lN (szN i v))), (0, .long (lN v)), (2, .ref (E.1 i)), (3, .ref (E.1 k))]) hx hb d_Rea_converted_68 hl (by decide) rfl (fun ls hl => ?_)
      refine lv_lload hx hb d_Rea_converted_70 (lv_at hl 3 rfl) ?_
      refine lv_lload hx hb d_Rea_converted_72 (lv_at hl 1 rfl) ?_
      refine lv_lconst (v := 1) hx hb d_Rea_converted_74 (by decide) ?_
      refine lv_lsub hx hb d_Rea_converted_75 ?_
      refine tv_l (lN (2 ^ (kP i - 1) - 1)) (lN_sub (a := 2 ^ (kP i - 1)) (b := 1) (Nat.two_pow_pos _)) ?_
      refine lv_land hx hb d_Rea_converted_76 ?_
      refine tv_l (lN (szN i v % 2 ^ (kP i - 1))) (wb_mask (by omega) (by omega)) ?_
      refine lv_lstore (lv' := [(10, .long (lN (szN i v % 2 ^ (kP i - 1)))), (9, .int (nI xq)), (7, .long (lN (2 ^ (kP i - 1)))), (6, .int (bI (blB i v))), (4, .long (lN (szN i v))), (0, .long (lN v)), (2, .ref (E.1 i)), (3, .ref (E.1 k))]) hx hb d_Rea_converted_77 hl (by decide) rfl (fun ls hl => ?_)
      refine lv_iload hx hb d_Rea_converted_79 (lv_at hl 1 rfl) ?_
      refine lv_if_ne (tgt := 102) hx hb d_Rea_converted_81 (by decide) (fun c81 => ?_) (fun c81 => ?_)
      · have e81 : ¬ xq = 0 := fun z => c81 (by rw [z]; rfl)
        refine lv_aload_n hx hb d_Rea_converted_102 rfl (lv_at hl 7 rfl) ?_
        refine lv_aload_n hx hb d_Rea_converted_103 rfl (lv_at hl 7 rfl) ?_
        refine lv_lload hx hb d_Rea_converted_104 (lv_at hl 2 rfl) ?_
        refine lv_lload hx hb d_Rea_converted_106 (lv_at hl 0 rfl) ?_
        refine lv_ladd hx hb d_Rea_converted_108 ?_
        refine tv_l (lN (2 ^ (kP i - 1) + (szN i v % 2 ^ (kP i - 1)))) (lN_add _ _) ?_
        refine lv_aload_n hx hb d_Rea_converted_109 rfl (lv_at hl 6 rfl) ?_
        refine va_getE hx hb hE.2.1 (i := i) hi hS hown (q := kF[1]) (List.getElem_mem _) (hts _ kF_Rea_150) (fun _ h9 => h9) d_Rea_converted_110 ?_
        refine tv_i (zI (-(kLw i : Int))) (kf_L i hi) ?_
        refine lv_iload hx hb d_Rea_converted_113 (lv_at hl 1 rfl) ?_
        refine lv_iadd hx hb d_Rea_converted_115 ?_
        refine lv_iconst (v := 1) hx hb d_Rea_converted_116 (by decide) ?_
        refine lv_isub hx hb d_Rea_converted_117 ?_
        refine tv_i (zI (-(kLw i : Int) + (xq : Nat) - 1)) (by show zI _ + nI _ - zI 1 = _; rw [← zI_nI, zI_add, zI_sub]) ?_
        refine lv_iconst (v := 0) hx hb d_Rea_converted_118 (by decide) ?_
        refine tv_i (bI false) (rfl) ?_
        refine ca_l [] (va_runV (As := [.long (lN (2 ^ (kP i - 1) + (szN i v % 2 ^ (kP i - 1)))), .int (zI (-(kLw i : Int) + (xq : Nat) - 1)), .int (bI false)]) (rest := [.ref (E.1 k)]) ⟨hx, hb, hml, hown, hts⟩ (c_Kin_nearest l D E k hk (2 ^ (kP i - 1) + (szN i v % 2 ^ (kP i - 1))) (-(kLw i : Int) + (xq : Nat) - 1) false (by omega) (by omega) (by omega) H.size) (xV 3 hts kC_Kin_nearest kM_Rea_138 kI_Kin_nearest kS_Kin_nearest kN_Kin rfl rfl (by decide +kernel) ⟨Nat.le_of_ble_eq_true rfl, Nat.le_of_ble_eq_true rfl⟩) ⟨ct_blind hev, va_recvE (i := k) hE.2.1 hk hS, ct_pre hev hP hK hD hS hA hE [] rfl (by decide) [] rfl⟩ rfl rfl hl.1 rfl (lv_room (Nat.le_of_ble_eq_true rfl)) d_Rea_converted_119 ⟨Nat.le_of_ble_eq_true rfl, Nat.le_of_ble_eq_true rfl⟩) hP hD hS hA [] [] rfl rfl (by decide) (by decide) (fun rv u H locs hw hP hD hS hK1 => ?_)
        subst hw
        have hP : va_P D vcl [] H := hP
        have hD : va_D A [] := hD
        refine lv_iload hx hb d_Rea_converted_122 (lv_at hl 3 rfl) ?_
        refine ca_l [] (va_runV (As := [.long (lN (kn (kP k) (kZ k) (2 ^ (kP i - 1) + (szN i v % 2 ^ (kP i - 1))) ((-(kLw i : Int) + (xq : Nat) - 1) + kLw k) false)), .int (bI (blB i v))]) (rest := []) ⟨hx, hb, hml, hown, hts⟩ (c_Kin_signed l D E k hk (lN (kn (kP k) (kZ k) (2 ^ (kP i - 1) + (szN i v % 2 ^ (kP i - 1))) ((-(kLw i : Int) + (xq : Nat) - 1) + kLw k) false)) (bI (blB i v)) H.size) (xV 2 hts kC_Kin_signed kM_Rea_73 kI_Kin_signed kS_Kin_signed kN_Kin rfl rfl (by decide +kernel) ⟨Nat.le_of_ble_eq_true rfl, Nat.le_of_ble_eq_true rfl⟩) ⟨ct_blind hev, va_recvE (i := k) hE.2.1 hk hS, ct_pre hev hP hK hD hS hA hE [] rfl (by decide) [] rfl⟩ rfl rfl hl.1 rfl (lv_room (Nat.le_of_ble_eq_true rfl)) d_Rea_converted_124 ⟨Nat.le_of_ble_eq_true rfl, Nat.le_of_ble_eq_true rfl⟩) hP hD hS hA [] [] rfl rfl (by decide) (by decide) (fun rv u H locs hw hP hD hS hK1 => ?_)
        subst hw
        have hP : va_P D vcl [] H := hP
        have hD : va_D A [] := hD
        exact rt_l hx hb hrt hlocks (()) (by unfold cvN; rw [if_neg e5, if_neg e34, kn_frn (by omega)]; unfold ldM ldW; rw [← hxq, if_neg e81, if_neg e81, Nat.add_comm]) (hP.sub [] rfl) (hK.sub [] rfl) (hD.sub [] (by decide) rfl) hS d_Rea_converted_127
      · have e81 : xq = 0 := (nI_eq0 (by omega)).mp c81
        refine lv_aload_n hx hb d_Rea_converted_84 rfl (lv_at hl 7 rfl) ?_
        refine lv_aload_n hx hb d_Rea_converted_85 rfl (lv_at hl 7 rfl) ?_
        refine lv_lload hx hb d_Rea_converted_86 (lv_at hl 0 rfl) ?_
        refine lv_aload_n hx hb d_Rea_converted_88 rfl (lv_at hl 6 rfl) ?_
        refine va_getE hx hb hE.2.1 (i := i) hi hS hown (q := kF[1]) (List.getElem_mem _) (hts _ kF_Rea_150) (fun _ h9 => h9) d_Rea_converted_89 ?_
        refine tv_i (zI (-(kLw i : Int))) (kf_L i hi) ?_
        refine lv_iconst (v := 0) hx hb d_Rea_converted_92 (by decide) ?_
        refine tv_i (bI false) (rfl) ?_
        refine ca_l [] (va_runV (As := [.long (lN (szN i v % 2 ^ (kP i - 1))), .int (zI (-(kLw i : Int))), .int (bI false)]) (rest := [.ref (E.1 k)]) ⟨hx, hb, hml, hown, hts⟩ (c_Kin_nearest l D E k hk (szN i v % 2 ^ (kP i - 1)) (-(kLw i : Int)) false (by omega) (by omega) (by omega) H.size) (xV 3 hts kC_Kin_nearest kM_Rea_138 kI_Kin_nearest kS_Kin_nearest kN_Kin rfl rfl (by decide +kernel) ⟨Nat.le_of_ble_eq_true rfl, Nat.le_of_ble_eq_true rfl⟩) ⟨ct_blind hev, va_recvE (i := k) hE.2.1 hk hS, ct_pre hev hP hK hD hS hA hE [] rfl (by decide) [] rfl⟩ rfl rfl hl.1 rfl (lv_room (Nat.le_of_ble_eq_true rfl)) d_Rea_converted_93 ⟨Nat.le_of_ble_eq_true rfl, Nat.le_of_ble_eq_true rfl⟩) hP hD hS hA [] [] rfl rfl (by decide) (by decide) (fun rv u H locs hw hP hD hS hK1 => ?_)
        subst hw
        have hP : va_P D vcl [] H := hP
        have hD : va_D A [] := hD
        refine lv_iload hx hb d_Rea_converted_96 (lv_at hl 3 rfl) ?_
        refine ca_l [] (va_runV (As := [.long (lN (kn (kP k) (kZ k) (szN i v % 2 ^ (kP i - 1)) ((-(kLw i : Int)) + kLw k) false)), .int (bI (blB i v))]) (rest := []) ⟨hx, hb, hml, hown, hts⟩ (c_Kin_signed l D E k hk (lN (kn (kP k) (kZ k) (szN i v % 2 ^ (kP i - 1)) ((-(kLw i : Int)) + kLw k) false)) (bI (blB i v)) H.size) (xV 2 hts kC_Kin_signed kM_Rea_73 kI_Kin_signed kS_Kin_signed kN_Kin rfl rfl (by decide +kernel) ⟨Nat.le_of_ble_eq_true rfl, Nat.le_of_ble_eq_true rfl⟩) ⟨ct_blind hev, va_recvE (i := k) hE.2.1 hk hS, ct_pre hev hP hK hD hS hA hE [] rfl (by decide) [] rfl⟩ rfl rfl hl.1 rfl (lv_room (Nat.le_of_ble_eq_true rfl)) d_Rea_converted_98 ⟨Nat.le_of_ble_eq_true rfl, Nat.le_of_ble_eq_true rfl⟩) hP hD hS hA [] [] rfl rfl (by decide) (by decide) (fun rv u H locs hw hP hD hS hK1 => ?_)
        subst hw
        have hP : va_P D vcl [] H := hP
        have hD : va_D A [] := hD
        exact rt_l hx hb hrt hlocks (()) (by unfold cvN; rw [if_neg e5, if_neg e34, kn_frn (by omega)]; unfold ldM ldW; rw [← hxq, if_pos e81, if_pos e81]) (hP.sub [] rfl) (hK.sub [] rfl) (hD.sub [] (by decide) rfl) hS d_Rea_converted_101
    · have e34 : szN i v = kIN i := (pk_lEQ hsz hin).mp ((lg_cmp_eq _ _).mp c34)
      refine lv_aload_n hx hb d_Rea_converted_37 rfl (lv_at hl 4 rfl) ?_
      refine lv_aload_n hx hb d_Rea_converted_38 rfl (lv_at hl 4 rfl) ?_
      refine va_getX hx hb hE.2.2.2.1 (i := k) hk hS hown (hts _ kF_Rea_70) (fun _ h9 => h9) d_Rea_converted_39 ?_
      refine lv_iload hx hb d_Rea_converted_42 (lv_at hl 0 rfl) ?_
      refine ca_l [] (va_runV (As := [.long (kInf k), .int (bI (blB i v))]) (rest := []) ⟨hx, hb, hml, hown, hts⟩ (c_Kin_signed l D E k hk (kInf k) (bI (blB i v)) H.size) (xV 2 hts kC_Kin_signed kM_Rea_73 kI_Kin_signed kS_Kin_signed kN_Kin rfl rfl (by decide +kernel) ⟨Nat.le_of_ble_eq_true rfl, Nat.le_of_ble_eq_true rfl⟩) ⟨ct_blind hev, va_recvE (i := k) hE.2.1 hk hS, ct_pre hev hP hK hD hS hA hE [] rfl (by decide) [] rfl⟩ rfl rfl hl.1 rfl (lv_room (Nat.le_of_ble_eq_true rfl)) d_Rea_converted_44 ⟨Nat.le_of_ble_eq_true rfl, Nat.le_of_ble_eq_true rfl⟩) hP hD hS hA [] [] rfl rfl (by decide) (by decide) (fun rv u H locs hw hP hD hS hK1 => ?_)
      subst hw
      have hP : va_P D vcl [] H := hP
      have hD : va_D A [] := hD
      exact rt_l hx hb hrt hlocks (()) (by unfold cvN; rw [if_neg e5, if_pos e34]) (hP.sub [] rfl) (hK.sub [] rfl) (hD.sub [] (by decide) rfl) hS d_Rea_converted_47
  · have e5 : kIN i < szN i v := hw.2.mp (hw.1.elim id (fun z => absurd z c5))
    refine lv_aload_n hx hb d_Rea_converted_8 rfl (lv_at hl 2 rfl) ?_
    refine va_getX hx hb hE.2.2.2.2.1 (i := k) hk hS hown (hts _ kF_Rea_67) (fun _ h9 => h9) d_Rea_converted_9 ?_
    exact rt_l hx hb hrt hlocks (()) (by unfold cvN; rw [if_pos e5]) (hP.sub [] rfl) (hK.sub [] rfl) (hD.sub [] (by decide) rfl) hS d_Rea_converted_12

set_option maxHeartbeats 4000000 in
set_option maxRecDepth 100000 in
theorem c_Rea_narrowed (l : Launch) (D : va_G) (E : evD) (r x nm h q t ta b ba : Nat) (cC cA cB : ClassId) (T : Nat → Nat) (n : Nat) (R : Int64) (fd : Int32) (v1 v2 v3 v4 v5 v6 v7 g0 gs0 kp0 pl0 nv mv : Int32) (f g : Nat → Int32) (v : Nat) (hv : v < 2 ^ 64) : Cl (S := Unit) l y_Rea_narrowed (wz y_Rea_narrowed b_Rea_narrowed 3 (some .long)) ({ frames := 3, cells := 0, slots := 0, locals := 88 }) D vcl (ev1 E) [.ref r, .long (lN v)] [(cC, .char), (cA, .int), (cB, .int)] [(r, .inr (4, [.ref x, .ref nm, .ref h, .ref q, .int (nI n), .long R, .int fd])), (x, .inl (cC, 2400, .inl (tx T))), (nm, .inr (3, [.ref x, .int v1, .int v2, .int v3, .int v4, .int v5, .int v6, .int v7])), (h, .inr (1, [.ref q, .int g0, .int gs0, .int kp0, .int pl0])), (q, .inr (2, [.ref t, .ref b])), (t, .inr (0, [.ref ta, .int nv])), (ta, .inl (cA, 96, .inl f)), (b, .inr (0, [.ref ba, .int mv])), (ba, .inl (cB, 96, .inl g))] 0 0 (fun (w : Int64) (_ : Unit) => w = cvN 0 1 v) (fun _ => [(cC, .char), (cA, .int), (cB, .int)]) (fun _ : Unit => [(r, .inr (4, [.ref x, .ref nm, .ref h, .ref q, .int (nI n), .long R, .int fd])), (x, .inl (cC, 2400, .inl (tx T))), (nm, .inr (3, [.ref x, .int v1, .int v2, .int v3, .int v4, .int v5, .int v6, .int v7])), (h, .inr (1, [.ref q, .int g0, .int gs0, .int kp0, .int pl0])), (q, .inr (2, [.ref t, .ref b])), (t, .inr (0, [.ref ta, .int nv])), (ta, .inl (cA, 96, .inl f)), (b, .inr (0, [.ref ba, .int mv])), (ba, .inl (cB, 96, .inl g))]) := by
  have hev := ev1_ok E
  unfold Cl
  refine ct_of (y := y_Rea_narrowed) (av := [.ref r, .long (lN v)]) (cc := b_Rea_narrowed) (maxL := 3) (ret := (some .long)) (Qc := fun A => va_Ql (S := Unit) (fun (w : Int64) (_ : Unit) => w = cvN 0 1 v) (fun u tS => ctB D vcl ((fun _ => [(cC, .char), (cA, .int), (cB, .int)]) u) ((fun _ : Unit => [(r, .inr (4, [.ref x, .ref nm, .ref h, .ref q, .int (nI n), .long R, .int fd])), (x, .inl (cC, 2400, .inl (tx T))), (nm, .inr (3, [.ref x, .int v1, .int v2, .int v3, .int v4, .int v5, .int v6, .int v7])), (h, .inr (1, [.ref q, .int g0, .int gs0, .int kp0, .int pl0])), (q, .inr (2, [.ref t, .ref b])), (t, .inr (0, [.ref ta, .int nv])), (ta, .inl (cA, 96, .inl f)), (b, .inr (0, [.ref ba, .int mv])), (ba, .inl (cB, 96, .inl g))]) u) A tS) A) (by decide) rfl (Nat.le_of_ble_eq_true rfl) ?_
  intro p ee s m below meth cde ls A H locs hx hb hml hrt hlocks hown hin hts hA hP hK hD hS hE hl
  have hown : s.vm.findClass R_Rea = some m.cls := hown
  have hts := wz_g hts
  have hl : lv_has ls 3 [(0, .ref r), (1, .long (lN v))] := hl
  refine lv_lload_n hx hb d_Rea_narrowed_0 rfl (lv_at hl 1 rfl) ?_
  refine va_gets hx hb (hE.2.1.1 0 (by decide)).1 hS hown (hts _ kF_Rea_50) (fun _ h9 => h9) d_Rea_narrowed_1 ?_
  refine va_gets hx hb (hE.2.1.1 1 (by decide)).1 hS hown (hts _ kF_Rea_60) (fun _ h9 => h9) d_Rea_narrowed_4 ?_
  refine ca_l [(r, .inr (4, [.ref x, .ref nm, .ref h, .ref q, .int (nI n), .long R, .int fd])), (x, .inl (cC, 2400, .inl (tx T))), (nm, .inr (3, [.ref x, .int v1, .int v2, .int v3, .int v4, .int v5, .int v6, .int v7])), (h, .inr (1, [.ref q, .int g0, .int gs0, .int kp0, .int pl0])), (q, .inr (2, [.ref t, .ref b])), (t, .inr (0, [.ref ta, .int nv])), (ta, .inl (cA, 96, .inl f)), (b, .inr (0, [.ref ba, .int mv])), (ba, .inl (cB, 96, .inl g))] (va_runS (As := [.long (lN v), .ref (E.1 0), .ref (E.1 1)]) (rest := []) ⟨hx, hb, hml, hown, hts⟩ (c_Rea_converted l D E 0 (by decide) 1 (by decide) v hv H.size) (xS 3 hts kC_Rea_converted kM_Rea_63 kT_Rea_converted kN_Rea rfl rfl (by decide +kernel) ⟨Nat.le_of_ble_eq_true rfl, Nat.le_of_ble_eq_true rfl⟩) ⟨ct_blind hev, ct_pre hev hP hK hD hS hA hE [] rfl (by decide) [] rfl⟩ rfl rfl hl.1 rfl (lv_room (Nat.le_of_ble_eq_true rfl)) d_Rea_narrowed_7 ⟨Nat.le_of_ble_eq_true rfl, Nat.le_of_ble_eq_true rfl⟩) hP hD hS hA [] [0, 1, 2, 3, 4, 5, 6, 7, 8] rfl rfl (by decide) (by decide) (fun rv u H locs hw hP hD hS hK1 => ?_)
  subst hw
  have hP : va_P D vcl [(r, .inr (4, [.ref x, .ref nm, .ref h, .ref q, .int (nI n), .long R, .int fd])), (x, .inl (cC, 2400, .inl (tx T))), (nm, .inr (3, [.ref x, .int v1, .int v2, .int v3, .int v4, .int v5, .int v6, .int v7])), (h, .inr (1, [.ref q, .int g0, .int gs0, .int kp0, .int pl0])), (q, .inr (2, [.ref t, .ref b])), (t, .inr (0, [.ref ta, .int nv])), (ta, .inl (cA, 96, .inl f)), (b, .inr (0, [.ref ba, .int mv])), (ba, .inl (cB, 96, .inl g))] H := hP
  have hD : va_D A [(r, .inr (4, [.ref x, .ref nm, .ref h, .ref q, .int (nI n), .long R, .int fd])), (x, .inl (cC, 2400, .inl (tx T))), (nm, .inr (3, [.ref x, .int v1, .int v2, .int v3, .int v4, .int v5, .int v6, .int v7])), (h, .inr (1, [.ref q, .int g0, .int gs0, .int kp0, .int pl0])), (q, .inr (2, [.ref t, .ref b])), (t, .inr (0, [.ref ta, .int nv])), (ta, .inl (cA, 96, .inl f)), (b, .inr (0, [.ref ba, .int mv])), (ba, .inl (cB, 96, .inl g))] := hD
  exact rt_l hx hb hrt hlocks (()) (rfl) (hP.sub [0, 1, 2, 3, 4, 5, 6, 7, 8] rfl) (hK.sub [0, 1, 2] rfl) (hD.sub [0, 1, 2, 3, 4, 5, 6, 7, 8] (by decide) rfl) hS d_Rea_narrowed_10

set_option maxHeartbeats 4000000 in
set_option maxRecDepth 100000 in
theorem c_Rea_widened (l : Launch) (D : va_G) (E : evD) (r x nm h q t ta b ba : Nat) (cC cA cB : ClassId) (T : Nat → Nat) (n : Nat) (R : Int64) (fd : Int32) (v1 v2 v3 v4 v5 v6 v7 g0 gs0 kp0 pl0 nv mv : Int32) (f g : Nat → Int32) (v : Nat) (hv : v < 2 ^ 64) : Cl (S := Unit) l y_Rea_widened (wz y_Rea_widened b_Rea_widened 3 (some .long)) ({ frames := 3, cells := 0, slots := 0, locals := 88 }) D vcl (ev1 E) [.ref r, .long (lN v)] [(cC, .char), (cA, .int), (cB, .int)] [(r, .inr (4, [.ref x, .ref nm, .ref h, .ref q, .int (nI n), .long R, .int fd])), (x, .inl (cC, 2400, .inl (tx T))), (nm, .inr (3, [.ref x, .int v1, .int v2, .int v3, .int v4, .int v5, .int v6, .int v7])), (h, .inr (1, [.ref q, .int g0, .int gs0, .int kp0, .int pl0])), (q, .inr (2, [.ref t, .ref b])), (t, .inr (0, [.ref ta, .int nv])), (ta, .inl (cA, 96, .inl f)), (b, .inr (0, [.ref ba, .int mv])), (ba, .inl (cB, 96, .inl g))] 0 0 (fun (w : Int64) (_ : Unit) => w = cvN 1 0 v) (fun _ => [(cC, .char), (cA, .int), (cB, .int)]) (fun _ : Unit => [(r, .inr (4, [.ref x, .ref nm, .ref h, .ref q, .int (nI n), .long R, .int fd])), (x, .inl (cC, 2400, .inl (tx T))), (nm, .inr (3, [.ref x, .int v1, .int v2, .int v3, .int v4, .int v5, .int v6, .int v7])), (h, .inr (1, [.ref q, .int g0, .int gs0, .int kp0, .int pl0])), (q, .inr (2, [.ref t, .ref b])), (t, .inr (0, [.ref ta, .int nv])), (ta, .inl (cA, 96, .inl f)), (b, .inr (0, [.ref ba, .int mv])), (ba, .inl (cB, 96, .inl g))]) := by
  have hev := ev1_ok E
  unfold Cl
  refine ct_of (y := y_Rea_widened) (av := [.ref r, .long (lN v)]) (cc := b_Rea_widened) (maxL := 3) (ret := (some .long)) (Qc := fun A => va_Ql (S := Unit) (fun (w : Int64) (_ : Unit) => w = cvN 1 0 v) (fun u tS => ctB D vcl ((fun _ => [(cC, .char), (cA, .int), (cB, .int)]) u) ((fun _ : Unit => [(r, .inr (4, [.ref x, .ref nm, .ref h, .ref q, .int (nI n), .long R, .int fd])), (x, .inl (cC, 2400, .inl (tx T))), (nm, .inr (3, [.ref x, .int v1, .int v2, .int v3, .int v4, .int v5, .int v6, .int v7])), (h, .inr (1, [.ref q, .int g0, .int gs0, .int kp0, .int pl0])), (q, .inr (2, [.ref t, .ref b])), (t, .inr (0, [.ref ta, .int nv])), (ta, .inl (cA, 96, .inl f)), (b, .inr (0, [.ref ba, .int mv])), (ba, .inl (cB, 96, .inl g))]) u) A tS) A) (by decide) rfl (Nat.le_of_ble_eq_true rfl) ?_
  intro p ee s m below meth cde ls A H locs hx hb hml hrt hlocks hown hin hts hA hP hK hD hS hE hl
  have hown : s.vm.findClass R_Rea = some m.cls := hown
  have hts := wz_g hts
  have hl : lv_has ls 3 [(0, .ref r), (1, .long (lN v))] := hl
  refine lv_lload_n hx hb d_Rea_widened_0 rfl (lv_at hl 1 rfl) ?_
  refine va_gets hx hb (hE.2.1.1 1 (by decide)).1 hS hown (hts _ kF_Rea_60) (fun _ h9 => h9) d_Rea_widened_1 ?_
  refine va_gets hx hb (hE.2.1.1 0 (by decide)).1 hS hown (hts _ kF_Rea_50) (fun _ h9 => h9) d_Rea_widened_4 ?_
  refine ca_l [(r, .inr (4, [.ref x, .ref nm, .ref h, .ref q, .int (nI n), .long R, .int fd])), (x, .inl (cC, 2400, .inl (tx T))), (nm, .inr (3, [.ref x, .int v1, .int v2, .int v3, .int v4, .int v5, .int v6, .int v7])), (h, .inr (1, [.ref q, .int g0, .int gs0, .int kp0, .int pl0])), (q, .inr (2, [.ref t, .ref b])), (t, .inr (0, [.ref ta, .int nv])), (ta, .inl (cA, 96, .inl f)), (b, .inr (0, [.ref ba, .int mv])), (ba, .inl (cB, 96, .inl g))] (va_runS (As := [.long (lN v), .ref (E.1 1), .ref (E.1 0)]) (rest := []) ⟨hx, hb, hml, hown, hts⟩ (c_Rea_converted l D E 1 (by decide) 0 (by decide) v hv H.size) (xS 3 hts kC_Rea_converted kM_Rea_63 kT_Rea_converted kN_Rea rfl rfl (by decide +kernel) ⟨Nat.le_of_ble_eq_true rfl, Nat.le_of_ble_eq_true rfl⟩) ⟨ct_blind hev, ct_pre hev hP hK hD hS hA hE [] rfl (by decide) [] rfl⟩ rfl rfl hl.1 rfl (lv_room (Nat.le_of_ble_eq_true rfl)) d_Rea_widened_7 ⟨Nat.le_of_ble_eq_true rfl, Nat.le_of_ble_eq_true rfl⟩) hP hD hS hA [] [0, 1, 2, 3, 4, 5, 6, 7, 8] rfl rfl (by decide) (by decide) (fun rv u H locs hw hP hD hS hK1 => ?_)
  subst hw
  have hP : va_P D vcl [(r, .inr (4, [.ref x, .ref nm, .ref h, .ref q, .int (nI n), .long R, .int fd])), (x, .inl (cC, 2400, .inl (tx T))), (nm, .inr (3, [.ref x, .int v1, .int v2, .int v3, .int v4, .int v5, .int v6, .int v7])), (h, .inr (1, [.ref q, .int g0, .int gs0, .int kp0, .int pl0])), (q, .inr (2, [.ref t, .ref b])), (t, .inr (0, [.ref ta, .int nv])), (ta, .inl (cA, 96, .inl f)), (b, .inr (0, [.ref ba, .int mv])), (ba, .inl (cB, 96, .inl g))] H := hP
  have hD : va_D A [(r, .inr (4, [.ref x, .ref nm, .ref h, .ref q, .int (nI n), .long R, .int fd])), (x, .inl (cC, 2400, .inl (tx T))), (nm, .inr (3, [.ref x, .int v1, .int v2, .int v3, .int v4, .int v5, .int v6, .int v7])), (h, .inr (1, [.ref q, .int g0, .int gs0, .int kp0, .int pl0])), (q, .inr (2, [.ref t, .ref b])), (t, .inr (0, [.ref ta, .int nv])), (ta, .inl (cA, 96, .inl f)), (b, .inr (0, [.ref ba, .int mv])), (ba, .inl (cB, 96, .inl g))] := hD
  exact rt_l hx hb hrt hlocks (()) (rfl) (hP.sub [0, 1, 2, 3, 4, 5, 6, 7, 8] rfl) (hK.sub [0, 1, 2] rfl) (hD.sub [0, 1, 2, 3, 4, 5, 6, 7, 8] (by decide) rfl) hS d_Rea_widened_10

set_option maxHeartbeats 4000000 in
set_option maxRecDepth 100000 in
theorem c_Rea_length (l : Launch) (D : va_G) (E : evD) (r x nm h q t ta b ba : Nat) (cC cA cB : ClassId) (T : Nat → Nat) (n : Nat) (R : Int64) (fd : Int32) (v1 v2 v3 v4 v5 v6 v7 g0 gs0 kp0 pl0 nv mv : Int32) (f g : Nat → Int32) : Ci (S := Unit) l y_Rea_length (wz y_Rea_length b_Rea_length 1 (some .int)) ({ frames := 0, cells := 0, slots := 0, locals := 0 }) D vcl (ev1 E) [.ref r] [(cC, .char), (cA, .int), (cB, .int)] [(r, .inr (4, [.ref x, .ref nm, .ref h, .ref q, .int (nI n), .long R, .int fd])), (x, .inl (cC, 2400, .inl (tx T))), (nm, .inr (3, [.ref x, .int v1, .int v2, .int v3, .int v4, .int v5, .int v6, .int v7])), (h, .inr (1, [.ref q, .int g0, .int gs0, .int kp0, .int pl0])), (q, .inr (2, [.ref t, .ref b])), (t, .inr (0, [.ref ta, .int nv])), (ta, .inl (cA, 96, .inl f)), (b, .inr (0, [.ref ba, .int mv])), (ba, .inl (cB, 96, .inl g))] 0 0 (fun (w : Int32) (_ : Unit) => w = nI n) (fun _ => [(cC, .char), (cA, .int), (cB, .int)]) (fun _ : Unit => [(r, .inr (4, [.ref x, .ref nm, .ref h, .ref q, .int (nI n), .long R, .int fd])), (x, .inl (cC, 2400, .inl (tx T))), (nm, .inr (3, [.ref x, .int v1, .int v2, .int v3, .int v4, .int v5, .int v6, .int v7])), (h, .inr (1, [.ref q, .int g0, .int gs0, .int kp0, .int pl0])), (q, .inr (2, [.ref t, .ref b])), (t, .inr (0, [.ref ta, .int nv])), (ta, .inl (cA, 96, .inl f)), (b, .inr (0, [.ref ba, .int mv])), (ba, .inl (cB, 96, .inl g))]) := by
  have hev := ev1_ok E
  unfold Ci
  refine ct_of (y := y_Rea_length) (av := [.ref r]) (cc := b_Rea_length) (maxL := 1) (ret := (some .int)) (Qc := fun A => va_Qi (S := Unit) (fun (w : Int32) (_ : Unit) => w = nI n) (fun u tS => ctB D vcl ((fun _ => [(cC, .char), (cA, .int), (cB, .int)]) u) ((fun _ : Unit => [(r, .inr (4, [.ref x, .ref nm, .ref h, .ref q, .int (nI n), .long R, .int fd])), (x, .inl (cC, 2400, .inl (tx T))), (nm, .inr (3, [.ref x, .int v1, .int v2, .int v3, .int v4, .int v5, .int v6, .int v7])), (h, .inr (1, [.ref q, .int g0, .int gs0, .int kp0, .int pl0])), (q, .inr (2, [.ref t, .ref b])), (t, .inr (0, [.ref ta, .int nv])), (ta, .inl (cA, 96, .inl f)), (b, .inr (0, [.ref ba, .int mv])), (ba, .inl (cB, 96, .inl g))]) u) A tS) A) (by decide) rfl (Nat.le_of_ble_eq_true rfl) ?_
  intro p ee s m below meth cde ls A H locs hx hb hml hrt hlocks hown hin hts hA hP hK hD hS hE hl
  have hown : s.vm.findClass R_Rea = some m.cls := hown
  have hts := wz_g hts
  have hl : lv_has ls 1 [(0, .ref r)] := hl
  refine lv_aload_n hx hb d_Rea_length_0 rfl (lv_at hl 0 rfl) ?_
  refine va_get (D := D) (ci := 4) (v := .int (nI n)) (C := R_Rea) (T := F_Rea) (N := 7) hx hb hts w_Rea hown hK hP 0 rfl rfl 4 (by decide) (hts _ kF_Rea_33) (fun _ h9 => h9) rfl d_Rea_length_1 ?_
  exact rt_i hx hb hrt hlocks (rfl) (()) (rfl) (hP.sub [0, 1, 2, 3, 4, 5, 6, 7, 8] rfl) (hK.sub [0, 1, 2] rfl) (hD.sub [0, 1, 2, 3, 4, 5, 6, 7, 8] (by decide) rfl) hS d_Rea_length_4

set_option maxHeartbeats 4000000 in
set_option maxRecDepth 100000 in
theorem c_Rea_bits (l : Launch) (D : va_G) (E : evD) (r x nm h q t ta b ba : Nat) (cC cA cB : ClassId) (T : Nat → Nat) (n : Nat) (R : Int64) (fd : Int32) (v1 v2 v3 v4 v5 v6 v7 g0 gs0 kp0 pl0 nv mv : Int32) (f g : Nat → Int32) : Cl (S := Unit) l y_Rea_bits (wz y_Rea_bits b_Rea_bits 1 (some .long)) ({ frames := 0, cells := 0, slots := 0, locals := 0 }) D vcl (ev1 E) [.ref r] [(cC, .char), (cA, .int), (cB, .int)] [(r, .inr (4, [.ref x, .ref nm, .ref h, .ref q, .int (nI n), .long R, .int fd])), (x, .inl (cC, 2400, .inl (tx T))), (nm, .inr (3, [.ref x, .int v1, .int v2, .int v3, .int v4, .int v5, .int v6, .int v7])), (h, .inr (1, [.ref q, .int g0, .int gs0, .int kp0, .int pl0])), (q, .inr (2, [.ref t, .ref b])), (t, .inr (0, [.ref ta, .int nv])), (ta, .inl (cA, 96, .inl f)), (b, .inr (0, [.ref ba, .int mv])), (ba, .inl (cB, 96, .inl g))] 0 0 (fun (w : Int64) (_ : Unit) => w = R) (fun _ => [(cC, .char), (cA, .int), (cB, .int)]) (fun _ : Unit => [(r, .inr (4, [.ref x, .ref nm, .ref h, .ref q, .int (nI n), .long R, .int fd])), (x, .inl (cC, 2400, .inl (tx T))), (nm, .inr (3, [.ref x, .int v1, .int v2, .int v3, .int v4, .int v5, .int v6, .int v7])), (h, .inr (1, [.ref q, .int g0, .int gs0, .int kp0, .int pl0])), (q, .inr (2, [.ref t, .ref b])), (t, .inr (0, [.ref ta, .int nv])), (ta, .inl (cA, 96, .inl f)), (b, .inr (0, [.ref ba, .int mv])), (ba, .inl (cB, 96, .inl g))]) := by
  have hev := ev1_ok E
  unfold Cl
  refine ct_of (y := y_Rea_bits) (av := [.ref r]) (cc := b_Rea_bits) (maxL := 1) (ret := (some .long)) (Qc := fun A => va_Ql (S := Unit) (fun (w : Int64) (_ : Unit) => w = R) (fun u tS => ctB D vcl ((fun _ => [(cC, .char), (cA, .int), (cB, .int)]) u) ((fun _ : Unit => [(r, .inr (4, [.ref x, .ref nm, .ref h, .ref q, .int (nI n), .long R, .int fd])), (x, .inl (cC, 2400, .inl (tx T))), (nm, .inr (3, [.ref x, .int v1, .int v2, .int v3, .int v4, .int v5, .int v6, .int v7])), (h, .inr (1, [.ref q, .int g0, .int gs0, .int kp0, .int pl0])), (q, .inr (2, [.ref t, .ref b])), (t, .inr (0, [.ref ta, .int nv])), (ta, .inl (cA, 96, .inl f)), (b, .inr (0, [.ref ba, .int mv])), (ba, .inl (cB, 96, .inl g))]) u) A tS) A) (by decide) rfl (Nat.le_of_ble_eq_true rfl) ?_
  intro p ee s m below meth cde ls A H locs hx hb hml hrt hlocks hown hin hts hA hP hK hD hS hE hl
  have hown : s.vm.findClass R_Rea = some m.cls := hown
  have hts := wz_g hts
  have hl : lv_has ls 1 [(0, .ref r)] := hl
  refine lv_aload_n hx hb d_Rea_bits_0 rfl (lv_at hl 0 rfl) ?_
  refine va_get (D := D) (ci := 4) (v := .long R) (C := R_Rea) (T := F_Rea) (N := 7) hx hb hts w_Rea hown hK hP 0 rfl rfl 5 (by decide) (hts _ kF_Rea_37) (fun _ h9 => h9) rfl d_Rea_bits_1 ?_
  exact rt_l hx hb hrt hlocks (()) (rfl) (hP.sub [0, 1, 2, 3, 4, 5, 6, 7, 8] rfl) (hK.sub [0, 1, 2] rfl) (hD.sub [0, 1, 2, 3, 4, 5, 6, 7, 8] (by decide) rfl) hS d_Rea_bits_4

set_option maxHeartbeats 4000000 in
set_option maxRecDepth 100000 in
theorem c_Rea_readings (l : Launch) (D : va_G) (E : evD) (r x nm h q t ta b ba : Nat) (cC cA cB : ClassId) (T : Nat → Nat) (n : Nat) (R : Int64) (fd : Int32) (v1 v2 v3 v4 v5 v6 v7 g0 gs0 kp0 pl0 nv mv : Int32) (f g : Nat → Int32) : Ci (S := Unit) l y_Rea_readings (wz y_Rea_readings b_Rea_readings 1 (some .int)) ({ frames := 0, cells := 0, slots := 0, locals := 0 }) D vcl (ev1 E) [.ref r] [(cC, .char), (cA, .int), (cB, .int)] [(r, .inr (4, [.ref x, .ref nm, .ref h, .ref q, .int (nI n), .long R, .int fd])), (x, .inl (cC, 2400, .inl (tx T))), (nm, .inr (3, [.ref x, .int v1, .int v2, .int v3, .int v4, .int v5, .int v6, .int v7])), (h, .inr (1, [.ref q, .int g0, .int gs0, .int kp0, .int pl0])), (q, .inr (2, [.ref t, .ref b])), (t, .inr (0, [.ref ta, .int nv])), (ta, .inl (cA, 96, .inl f)), (b, .inr (0, [.ref ba, .int mv])), (ba, .inl (cB, 96, .inl g))] 0 0 (fun (w : Int32) (_ : Unit) => w = fd) (fun _ => [(cC, .char), (cA, .int), (cB, .int)]) (fun _ : Unit => [(r, .inr (4, [.ref x, .ref nm, .ref h, .ref q, .int (nI n), .long R, .int fd])), (x, .inl (cC, 2400, .inl (tx T))), (nm, .inr (3, [.ref x, .int v1, .int v2, .int v3, .int v4, .int v5, .int v6, .int v7])), (h, .inr (1, [.ref q, .int g0, .int gs0, .int kp0, .int pl0])), (q, .inr (2, [.ref t, .ref b])), (t, .inr (0, [.ref ta, .int nv])), (ta, .inl (cA, 96, .inl f)), (b, .inr (0, [.ref ba, .int mv])), (ba, .inl (cB, 96, .inl g))]) := by
  have hev := ev1_ok E
  unfold Ci
  refine ct_of (y := y_Rea_readings) (av := [.ref r]) (cc := b_Rea_readings) (maxL := 1) (ret := (some .int)) (Qc := fun A => va_Qi (S := Unit) (fun (w : Int32) (_ : Unit) => w = fd) (fun u tS => ctB D vcl ((fun _ => [(cC, .char), (cA, .int), (cB, .int)]) u) ((fun _ : Unit => [(r, .inr (4, [.ref x, .ref nm, .ref h, .ref q, .int (nI n), .long R, .int fd])), (x, .inl (cC, 2400, .inl (tx T))), (nm, .inr (3, [.ref x, .int v1, .int v2, .int v3, .int v4, .int v5, .int v6, .int v7])), (h, .inr (1, [.ref q, .int g0, .int gs0, .int kp0, .int pl0])), (q, .inr (2, [.ref t, .ref b])), (t, .inr (0, [.ref ta, .int nv])), (ta, .inl (cA, 96, .inl f)), (b, .inr (0, [.ref ba, .int mv])), (ba, .inl (cB, 96, .inl g))]) u) A tS) A) (by decide) rfl (Nat.le_of_ble_eq_true rfl) ?_
  intro p ee s m below meth cde ls A H locs hx hb hml hrt hlocks hown hin hts hA hP hK hD hS hE hl
  have hown : s.vm.findClass R_Rea = some m.cls := hown
  have hts := wz_g hts
  have hl : lv_has ls 1 [(0, .ref r)] := hl
  refine lv_aload_n hx hb d_Rea_readings_0 rfl (lv_at hl 0 rfl) ?_
  refine va_get (D := D) (ci := 4) (v := .int fd) (C := R_Rea) (T := F_Rea) (N := 7) hx hb hts w_Rea hown hK hP 0 rfl rfl 6 (by decide) (hts _ kF_Rea_41) (fun _ h9 => h9) rfl d_Rea_readings_1 ?_
  exact rt_i hx hb hrt hlocks (rfl) (()) (rfl) (hP.sub [0, 1, 2, 3, 4, 5, 6, 7, 8] rfl) (hK.sub [0, 1, 2] rfl) (hD.sub [0, 1, 2, 3, 4, 5, 6, 7, 8] (by decide) rfl) hS d_Rea_readings_4

def kpN (n : Nat) (z : Int) : Nat := if 0 ≤ z ∧ z < n then z.toNat else n
set_option maxHeartbeats 4000000 in
set_option maxRecDepth 100000 in
theorem c_Rea_keep (l : Launch) (D : va_G) (E : evD) (r x nm h q t ta b ba : Nat) (cC cA cB : ClassId) (T : Nat → Nat) (n : Nat) (R : Int64) (fd : Int32) (v1 v2 v3 v4 v5 v6 v7 g0 gs0 kp0 pl0 nv mv : Int32) (f g : Nat → Int32) (hn : n ≤ 2400) (z : Int) (hz1 : -2147483648 ≤ z) (hz2 : z < 2147483648) : Ci (S := Unit) l y_Rea_keep (wz y_Rea_keep b_Rea_keep 2 (some .boolean)) ({ frames := 0, cells := 0, slots := 0, locals := 0 }) D vcl (ev1 E) [.ref r, .int (zI z)] [(cC, .char), (cA, .int), (cB, .int)] [(r, .inr (4, [.ref x, .ref nm, .ref h, .ref q, .int (nI n), .long R, .int fd])), (x, .inl (cC, 2400, .inl (tx T))), (nm, .inr (3, [.ref x, .int v1, .int v2, .int v3, .int v4, .int v5, .int v6, .int v7])), (h, .inr (1, [.ref q, .int g0, .int gs0, .int kp0, .int pl0])), (q, .inr (2, [.ref t, .ref b])), (t, .inr (0, [.ref ta, .int nv])), (ta, .inl (cA, 96, .inl f)), (b, .inr (0, [.ref ba, .int mv])), (ba, .inl (cB, 96, .inl g))] 0 0 (fun (w : Int32) (_ : Unit) => w = bI (decide (0 ≤ z ∧ z < (n : Int)))) (fun _ => [(cC, .char), (cA, .int), (cB, .int)]) (fun _ : Unit => [(r, .inr (4, [.ref x, .ref nm, .ref h, .ref q, .int (nI (kpN n z)), .long R, .int fd])), (x, .inl (cC, 2400, .inl (tx T))), (nm, .inr (3, [.ref x, .int v1, .int v2, .int v3, .int v4, .int v5, .int v6, .int v7])), (h, .inr (1, [.ref q, .int g0, .int gs0, .int kp0, .int pl0])), (q, .inr (2, [.ref t, .ref b])), (t, .inr (0, [.ref ta, .int nv])), (ta, .inl (cA, 96, .inl f)), (b, .inr (0, [.ref ba, .int mv])), (ba, .inl (cB, 96, .inl g))]) := by
  have hev := ev1_ok E
  unfold Ci
  refine ct_of (y := y_Rea_keep) (av := [.ref r, .int (zI z)]) (cc := b_Rea_keep) (maxL := 2) (ret := (some .boolean)) (Qc := fun A => va_Qi (S := Unit) (fun (w : Int32) (_ : Unit) => w = bI (decide (0 ≤ z ∧ z < (n : Int)))) (fun u tS => ctB D vcl ((fun _ => [(cC, .char), (cA, .int), (cB, .int)]) u) ((fun _ : Unit => [(r, .inr (4, [.ref x, .ref nm, .ref h, .ref q, .int (nI (kpN n z)), .long R, .int fd])), (x, .inl (cC, 2400, .inl (tx T))), (nm, .inr (3, [.ref x, .int v1, .int v2, .int v3, .int v4, .int v5, .int v6, .int v7])), (h, .inr (1, [.ref q, .int g0, .int gs0, .int kp0, .int pl0])), (q, .inr (2, [.ref t, .ref b])), (t, .inr (0, [.ref ta, .int nv])), (ta, .inl (cA, 96, .inl f)), (b, .inr (0, [.ref ba, .int mv])), (ba, .inl (cB, 96, .inl g))]) u) A tS) A) (by decide) rfl (Nat.le_of_ble_eq_true rfl) ?_
  intro p ee s m below meth cde ls A H locs hx hb hml hrt hlocks hown hin hts hA hP hK hD hS hE hl
  have hown : s.vm.findClass R_Rea = some m.cls := hown
  have hts := wz_g hts
  have hl : lv_has ls 2 [(0, .ref r), (1, .int (zI z))] := hl
  refine lv_iload_n hx hb d_Rea_keep_0 rfl (lv_at hl 1 rfl) ?_
  refine lv_if_lt (tgt := 12) hx hb d_Rea_keep_1 (by decide) (fun c1 => ?_) (fun c1 => ?_)
  · have e1 : ¬ (0 ≤ z ∧ z < n) := fun y => by have := (zI_lt (b := 0) (by omega) (by omega) (by omega) (by omega)).mp c1; omega
    refine lv_iconst (v := 0) hx hb d_Rea_keep_12 (by decide) ?_
    rw [show nI n = nI (kpN n z) by unfold kpN; rw [if_neg e1]] at hP hD
    exact rt_i hx hb hrt hlocks (rfl) (()) (by rw [decide_eq_false e1]; rfl) (hP.sub [0, 1, 2, 3, 4, 5, 6, 7, 8] rfl) (hK.sub [0, 1, 2] rfl) (hD.sub [0, 1, 2, 3, 4, 5, 6, 7, 8] (by decide) rfl) hS d_Rea_keep_13
  · have e1 : 0 ≤ z := Int.not_lt.mp (fun y => c1 ((zI_lt (b := 0) (by omega) (by omega) (by omega) (by omega)).mpr y))
    refine lv_aload_n hx hb d_Rea_keep_4 rfl (lv_at hl 0 rfl) ?_
    refine va_get (D := D) (ci := 4) (v := .int (nI n)) (C := R_Rea) (T := F_Rea) (N := 7) hx hb hts w_Rea hown hK hP 0 rfl rfl 4 (by decide) (hts _ kF_Rea_33) (fun _ h9 => h9) rfl d_Rea_keep_5 ?_
    refine tv_i (zI (n : Int)) ((zI_nI n).symm) ?_
    refine lv_iload_n hx hb d_Rea_keep_8 rfl (lv_at hl 1 rfl) ?_
    refine lv_icmp_gt (tgt := 14) hx hb d_Rea_keep_9 (by decide) (fun c9 => ?_) (fun c9 => ?_)
    · have e9 : z < n := (zI_lt (by omega) (by omega) (by omega) (by omega)).mp c9
      refine lv_aload_n hx hb d_Rea_keep_14 rfl (lv_at hl 0 rfl) ?_
      refine lv_iload_n hx hb d_Rea_keep_15 rfl (lv_at hl 1 rfl) ?_
      refine va_put (D := D) (ci := 4) (v := .int (zI z)) (ty := .int) (C := R_Rea) (T := F_Rea) (N := 7) hx hb hts w_Rea t_Rea tk_Rea n_Rea hown hK hP hD hS 0 rfl rfl 4 (by decide) (hts _ kF_Rea_33) (fun _ h9 => h9) rfl (by decide +kernel) (rfl) (rfl) (Nat.le_of_ble_eq_true rfl) d_Rea_keep_16 (fun H locs hP hD hS => ?_)
      have hP : va_P D vcl [(r, .inr (4, [.ref x, .ref nm, .ref h, .ref q, .int (zI z), .long R, .int fd])), (x, .inl (cC, 2400, .inl (tx T))), (nm, .inr (3, [.ref x, .int v1, .int v2, .int v3, .int v4, .int v5, .int v6, .int v7])), (h, .inr (1, [.ref q, .int g0, .int gs0, .int kp0, .int pl0])), (q, .inr (2, [.ref t, .ref b])), (t, .inr (0, [.ref ta, .int nv])), (ta, .inl (cA, 96, .inl f)), (b, .inr (0, [.ref ba, .int mv])), (ba, .inl (cB, 96, .inl g))] H := hP
      have hD : va_D A [(r, .inr (4, [.ref x, .ref nm, .ref h, .ref q, .int (zI z), .long R, .int fd])), (x, .inl (cC, 2400, .inl (tx T))), (nm, .inr (3, [.ref x, .int v1, .int v2, .int v3, .int v4, .int v5, .int v6, .int v7])), (h, .inr (1, [.ref q, .int g0, .int gs0, .int kp0, .int pl0])), (q, .inr (2, [.ref t, .ref b])), (t, .inr (0, [.ref ta, .int nv])), (ta, .inl (cA, 96, .inl f)), (b, .inr (0, [.ref ba, .int mv])), (ba, .inl (cB, 96, .inl g))] := hD
      refine lv_iconst (v := 1) hx hb d_Rea_keep_19 (by decide) ?_
      rw [show zI z = nI (kpN n z) by unfold kpN; rw [if_pos ⟨e1, e9⟩, ← zI_nI]; exact congrArg zI (by omega)] at hP hD
      exact rt_i hx hb hrt hlocks (rfl) (()) (by rw [decide_eq_true ⟨e1, e9⟩]; rfl) (hP.sub [0, 1, 2, 3, 4, 5, 6, 7, 8] rfl) (hK.sub [0, 1, 2] rfl) (hD.sub [0, 1, 2, 3, 4, 5, 6, 7, 8] (by decide) rfl) hS d_Rea_keep_20
    · have e9 : ¬ z < n := fun y => c9 ((zI_lt (by omega) (by omega) (by omega) (by omega)).mpr y)
      refine lv_iconst (v := 0) hx hb d_Rea_keep_12 (by decide) ?_
      rw [show nI n = nI (kpN n z) by unfold kpN; rw [if_neg (fun y => e9 y.2)]] at hP hD
      exact rt_i hx hb hrt hlocks (rfl) (()) (by rw [decide_eq_false (fun y => e9 y.2)]; rfl) (hP.sub [0, 1, 2, 3, 4, 5, 6, 7, 8] rfl) (hK.sub [0, 1, 2] rfl) (hD.sub [0, 1, 2, 3, 4, 5, 6, 7, 8] (by decide) rfl) hS d_Rea_keep_13

set_option maxHeartbeats 4000000 in
set_option maxRecDepth 100000 in
theorem c_Rea_write (l : Launch) (D : va_G) (E : evD) (r x nm h q t ta b ba : Nat) (cC cA cB : ClassId) (T : Nat → Nat) (n : Nat) (R : Int64) (fd : Int32) (v1 v2 v3 v4 v5 v6 v7 g0 gs0 kp0 pl0 nv mv : Int32) (f g : Nat → Int32) (hn : n ≤ 2400) (y : Nat) (hy : y < 2 ^ 64) : Ci (S := Unit) l y_Rea_write (wz y_Rea_write b_Rea_write 5 (some .boolean)) ({ frames := 1, cells := 0, slots := 0, locals := 23 }) D vcl (ev1 E) [.ref r, .long (lN y)] [(cC, .char), (cA, .int), (cB, .int)] [(r, .inr (4, [.ref x, .ref nm, .ref h, .ref q, .int (nI n), .long R, .int fd])), (x, .inl (cC, 2400, .inl (tx T))), (nm, .inr (3, [.ref x, .int v1, .int v2, .int v3, .int v4, .int v5, .int v6, .int v7])), (h, .inr (1, [.ref q, .int g0, .int gs0, .int kp0, .int pl0])), (q, .inr (2, [.ref t, .ref b])), (t, .inr (0, [.ref ta, .int nv])), (ta, .inl (cA, 96, .inl f)), (b, .inr (0, [.ref ba, .int mv])), (ba, .inl (cB, 96, .inl g))] 0 0 (fun (w : Int32) (_ : Unit) => w = bI (decide (n + cb y 8 ≤ 2400))) (fun _ => [(cC, .char), (cA, .int), (cB, .int)]) (fun _ : Unit => [(r, .inr (4, [.ref x, .ref nm, .ref h, .ref q, .int (nI (wrN n y)), .long R, .int fd])), (x, .inl (cC, 2400, .inl (tx (wrT T n y)))), (nm, .inr (3, [.ref x, .int v1, .int v2, .int v3, .int v4, .int v5, .int v6, .int v7])), (h, .inr (1, [.ref q, .int g0, .int gs0, .int kp0, .int pl0])), (q, .inr (2, [.ref t, .ref b])), (t, .inr (0, [.ref ta, .int nv])), (ta, .inl (cA, 96, .inl f)), (b, .inr (0, [.ref ba, .int mv])), (ba, .inl (cB, 96, .inl g))]) := by
  have hev := ev1_ok E
  unfold Ci
  refine ct_of (y := y_Rea_write) (av := [.ref r, .long (lN y)]) (cc := b_Rea_write) (maxL := 5) (ret := (some .boolean)) (Qc := fun A => va_Qi (S := Unit) (fun (w : Int32) (_ : Unit) => w = bI (decide (n + cb y 8 ≤ 2400))) (fun u tS => ctB D vcl ((fun _ => [(cC, .char), (cA, .int), (cB, .int)]) u) ((fun _ : Unit => [(r, .inr (4, [.ref x, .ref nm, .ref h, .ref q, .int (nI (wrN n y)), .long R, .int fd])), (x, .inl (cC, 2400, .inl (tx (wrT T n y)))), (nm, .inr (3, [.ref x, .int v1, .int v2, .int v3, .int v4, .int v5, .int v6, .int v7])), (h, .inr (1, [.ref q, .int g0, .int gs0, .int kp0, .int pl0])), (q, .inr (2, [.ref t, .ref b])), (t, .inr (0, [.ref ta, .int nv])), (ta, .inl (cA, 96, .inl f)), (b, .inr (0, [.ref ba, .int mv])), (ba, .inl (cB, 96, .inl g))]) u) A tS) A) (by decide) rfl (Nat.le_of_ble_eq_true rfl) ?_
  intro p ee s m below meth cde ls A H locs hx hb hml hrt hlocks hown hin hts hA hP hK hD hS hE hl
  have hown : s.vm.findClass R_Rea = some m.cls := hown
  have hts := wz_g hts
  have hl : lv_has ls 5 [(0, .ref r), (1, .long (lN y))] := hl
  refine lv_aload_n hx hb d_Rea_write_0 rfl (lv_at hl 0 rfl) ?_
  refine va_get (D := D) (ci := 4) (v := .int (nI n)) (C := R_Rea) (T := F_Rea) (N := 7) hx hb hts w_Rea hown hK hP 0 rfl rfl 4 (by decide) (hts _ kF_Rea_33) (fun _ h9 => h9) rfl d_Rea_write_1 ?_
  refine lv_lload_n hx hb d_Rea_write_4 rfl (lv_at hl 1 rfl) ?_
  refine ca_i [(r, .inr (4, [.ref x, .ref nm, .ref h, .ref q, .int (nI n), .long R, .int fd])), (x, .inl (cC, 2400, .inl (tx T))), (nm, .inr (3, [.ref x, .int v1, .int v2, .int v3, .int v4, .int v5, .int v6, .int v7])), (h, .inr (1, [.ref q, .int g0, .int gs0, .int kp0, .int pl0])), (q, .inr (2, [.ref t, .ref b])), (t, .inr (0, [.ref ta, .int nv])), (ta, .inl (cA, 96, .inl f)), (b, .inr (0, [.ref ba, .int mv])), (ba, .inl (cB, 96, .inl g))] (va_runS (As := [.long (lN y)]) (rest := [.int (nI n)]) ⟨hx, hb, hml, hown, hts⟩ (c_Rea_countCharacters l D E y (hy) H.size) (xS 1 hts kC_Rea_countCharacters kM_Rea_44 kT_Rea_countCharacters kN_Rea rfl rfl (by decide +kernel) ⟨Nat.le_of_ble_eq_true rfl, Nat.le_of_ble_eq_true rfl⟩) ⟨ct_blind hev, ct_pre hev hP hK hD hS hA hE [] rfl (by decide) [] rfl⟩ rfl rfl hl.1 rfl (lv_room (Nat.le_of_ble_eq_true rfl)) d_Rea_write_5 ⟨Nat.le_of_ble_eq_true rfl, Nat.le_of_ble_eq_true rfl⟩) hP hD hS hA [] [0, 1, 2, 3, 4, 5, 6, 7, 8] rfl rfl (by decide) (by decide) (fun rv u H locs hw hP hD hS hK1 => ?_)
  subst hw
  have hP : va_P D vcl [(r, .inr (4, [.ref x, .ref nm, .ref h, .ref q, .int (nI n), .long R, .int fd])), (x, .inl (cC, 2400, .inl (tx T))), (nm, .inr (3, [.ref x, .int v1, .int v2, .int v3, .int v4, .int v5, .int v6, .int v7])), (h, .inr (1, [.ref q, .int g0, .int gs0, .int kp0, .int pl0])), (q, .inr (2, [.ref t, .ref b])), (t, .inr (0, [.ref ta, .int nv])), (ta, .inl (cA, 96, .inl f)), (b, .inr (0, [.ref ba, .int mv])), (ba, .inl (cB, 96, .inl g))] H := hP
  have hD : va_D A [(r, .inr (4, [.ref x, .ref nm, .ref h, .ref q, .int (nI n), .long R, .int fd])), (x, .inl (cC, 2400, .inl (tx T))), (nm, .inr (3, [.ref x, .int v1, .int v2, .int v3, .int v4, .int v5, .int v6, .int v7])), (h, .inr (1, [.ref q, .int g0, .int gs0, .int kp0, .int pl0])), (q, .inr (2, [.ref t, .ref b])), (t, .inr (0, [.ref ta, .int nv])), (ta, .inl (cA, 96, .inl f)), (b, .inr (0, [.ref ba, .int mv])), (ba, .inl (cB, 96, .inl g))] := hD
  refine lv_iadd hx hb d_Rea_write_8 ?_
  refine tv_i (nI (n + cb y 8)) (nI_add _ _) ?_
  refine lv_sipush (v := 2400) hx hb d_Rea_write_9 (by decide) ?_
  refine lv_icmp_le (tgt := 17) hx hb d_Rea_write_12 (by decide) (fun c12 => ?_) (fun c12 => ?_)
  · have e12 : n + cb y 8 ≤ 2400 := (nI_leI (b := 2400) (by have := cb_le y 8; omega) (by decide)).mp c12
    refine lv_bipush (v := 56) hx hb d_Rea_write_17 (by decide) ?_
    refine tv_i (zI (56 - 8 * ((0 : Nat) : Int))) (by decide) ?_
    refine lv_istore_n (lv' := [(3, .int (zI (56 - 8 * ((0 : Nat) : Int)))), (0, .ref r), (1, .long (lN y))]) hx hb d_Rea_write_19 rfl hl (by decide) rfl (fun ls hl => ?_)
    have L20 : ∀ (kk : Nat) (m1 : Nat), 8 - m1 < kk → (m1 ≤ 8) → ∀ (H : Heap) (locs : List Loc) (ls : Array Slot), va_P D vcl [(r, .inr (4, [.ref x, .ref nm, .ref h, .ref q, .int (nI (n + cb y m1)), .long R, .int fd])), (x, .inl (cC, 2400, .inl (tx (wT T n y m1)))), (nm, .inr (3, [.ref x, .int v1, .int v2, .int v3, .int v4, .int v5, .int v6, .int v7])), (h, .inr (1, [.ref q, .int g0, .int gs0, .int kp0, .int pl0])), (q, .inr (2, [.ref t, .ref b])), (t, .inr (0, [.ref ta, .int nv])), (ta, .inl (cA, 96, .inl f)), (b, .inr (0, [.ref ba, .int mv])), (ba, .inl (cB, 96, .inl g))] H → va_D A [(r, .inr (4, [.ref x, .ref nm, .ref h, .ref q, .int (nI (n + cb y m1)), .long R, .int fd])), (x, .inl (cC, 2400, .inl (tx (wT T n y m1)))), (nm, .inr (3, [.ref x, .int v1, .int v2, .int v3, .int v4, .int v5, .int v6, .int v7])), (h, .inr (1, [.ref q, .int g0, .int gs0, .int kp0, .int pl0])), (q, .inr (2, [.ref t, .ref b])), (t, .inr (0, [.ref ta, .int nv])), (ta, .inl (cA, 96, .inl f)), (b, .inr (0, [.ref ba, .int mv])), (ba, .inl (cB, 96, .inl g))] → va_S A s.heap H locs → lv_has ls 5 [(0, .ref r), (1, .long (lN y)), (3, .int (zI (56 - 8 * (m1 : Int))))] → W p l ee ({ frames := 1, cells := 0, slots := 0, locals := 23 }) s m ([.ref r, .long (lN y)] : List Value).toArray below meth cde H locs 0 0 (MQ below (va_Qi (S := Unit) (fun (w : Int32) (_ : Unit) => w = bI (decide (n + cb y 8 ≤ 2400))) (fun u tS => ctB D vcl ((fun _ => [(cC, .char), (cA, .int), (cB, .int)]) u) ((fun _ : Unit => [(r, .inr (4, [.ref x, .ref nm, .ref h, .ref q, .int (nI (wrN n y)), .long R, .int fd])), (x, .inl (cC, 2400, .inl (tx (wrT T n y)))), (nm, .inr (3, [.ref x, .int v1, .int v2, .int v3, .int v4, .int v5, .int v6, .int v7])), (h, .inr (1, [.ref q, .int g0, .int gs0, .int kp0, .int pl0])), (q, .inr (2, [.ref t, .ref b])), (t, .inr (0, [.ref ta, .int nv])), (ta, .inl (cA, 96, .inl f)), (b, .inr (0, [.ref ba, .int mv])), (ba, .inl (cB, 96, .inl g))]) u) A tS) A) ([.ref r, .long (lN y)] : List Value).toArray s 0 0 A) (F0 m 20 ls []) := by
      intro kk
      induction kk with
      | zero => intro m1 hmz; exact absurd hmz (Nat.not_lt_zero _)
      | succ kk ih =>
        intro m1 hmz hm H locs ls hP hD hS hl
        have hby := byt_lt y (7 - m1)
        refine lv_iload_n hx hb d_Rea_write_20 rfl (lv_at hl 2 rfl) ?_
        refine lv_if_lt (tgt := 79) hx hb d_Rea_write_21 (by decide) (fun c21 => ?_) (fun c21 => ?_)
        · have e21 : m1 = 8 := by have := (zI_lt (b := 0) (by omega) (by omega) (by omega) (by omega)).mp c21; omega
          refine lv_iconst (v := 1) hx hb d_Rea_write_79 (by decide) ?_
          rw [e21, show wT T n y 8 = wrT T n y by unfold wrT; rw [if_pos e12], show n + cb y 8 = wrN n y by unfold wrN; rw [if_pos e12]] at hP hD
          exact rt_i hx hb hrt hlocks (rfl) (()) (by rw [decide_eq_true e12]; rfl) (hP.sub [0, 1, 2, 3, 4, 5, 6, 7, 8] rfl) (hK.sub [0, 1, 2] rfl) (hD.sub [0, 1, 2, 3, 4, 5, 6, 7, 8] (by decide) rfl) hS d_Rea_write_80
        · have e21 : m1 < 8 := by have := mt (zI_lt (b := 0) (by omega) (by omega) (by omega) (by omega)).mpr c21; omega
          refine lv_lload_n hx hb d_Rea_write_24 rfl (lv_at hl 1 rfl) ?_
          refine lv_iload_n hx hb d_Rea_write_25 rfl (lv_at hl 2 rfl) ?_
          refine tv_i (nI (8 * (7 - m1))) (by rw [← zI_nI]; exact congrArg zI (by omega)) ?_
          refine lv_lushr (v := lN (y / 2 ^ (8 * (7 - m1)))) hx hb d_Rea_write_26 (wb_shr hy (by omega)) ?_
          refine lv_ldc2 hx hb hown (hts _ kK_Rea_48) d_Rea_write_27 ?_
          refine lv_land hx hb d_Rea_write_30 ?_
          refine tv_l (lN (byt y (7 - m1))) (byt_l hy) ?_
          refine lv_l2i (v := (lN (byt y (7 - m1))).toInt32) hx hb d_Rea_write_31 (rfl) ?_
          refine tv_i (nI (byt y (7 - m1))) (lN_i _) ?_
          refine lv_i2c (v := nI (byt y (7 - m1))) hx hb d_Rea_write_32 (by rw [pk_char, pk_tn (by omega), Nat.mod_eq_of_lt (by omega)]) ?_
          refine lv_istore (lv' := [(4, .int (nI (byt y (7 - m1)))), (0, .ref r), (1, .long (lN y)), (3, .int (zI (56 - 8 * (m1 : Int))))]) hx hb d_Rea_write_33 hl (by decide) rfl (fun ls hl => ?_)
          refine lv_iload hx hb d_Rea_write_35 (lv_at hl 0 rfl) ?_
          refine lv_if_eq (tgt := 73) hx hb d_Rea_write_37 (by decide) (fun c37 => ?_) (fun c37 => ?_)
          · have e37 : byt y (7 - m1) = 0 := (nI_eq0 (by omega)).mp c37
            obtain ⟨hw1, hw2⟩ := wT_0 (T := T) (n := n) e37
            rw [← hw1, ← hw2] at hP hD
            refine lv_iinc (v := zI (56 - 8 * ((m1 + 1 : Nat) : Int))) (lv' := [(3, .int (zI (56 - 8 * ((m1 + 1 : Nat) : Int)))), (4, .int (nI (byt y (7 - m1)))), (0, .ref r), (1, .long (lN y))]) hx hb d_Rea_write_73 hl (k := 3) rfl (by show zI _ + zI (-8) = _; rw [zI_add]; exact congrArg zI (by omega)) (by decide) rfl (fun ls hl => ?_)
            refine lv_goto (tgt := 20) hx hb d_Rea_write_76 (by decide) ?_
            exact ih (m1 + 1) (by omega) (by omega) _ _ _ (hP.sub [0, 1, 2, 3, 4, 5, 6, 7, 8] rfl) (hD.sub [0, 1, 2, 3, 4, 5, 6, 7, 8] (by decide) rfl) hS (lv_sub hl [2, 3, 0] rfl)
          · have e37 : byt y (7 - m1) ≠ 0 := fun z => c37 (by rw [z]; rfl)
            obtain ⟨hw1, hw2⟩ := wT_1 (T := T) (n := n) e37
            have hcm := cb_mono y (show m1 + 1 ≤ 8 by omega)
            refine lv_aload_n hx hb d_Rea_write_40 rfl (lv_at hl 1 rfl) ?_
            refine va_get (D := D) (ci := 4) (v := .int (nI (n + cb y m1))) (C := R_Rea) (T := F_Rea) (N := 7) hx hb hts w_Rea hown hK hP 0 rfl rfl 4 (by decide) (hts _ kF_Rea_33) (fun _ h9 => h9) rfl d_Rea_write_41 ?_
            refine lv_aload_n hx hb d_Rea_write_44 rfl (lv_at hl 1 rfl) ?_
            refine va_get (D := D) (ci := 4) (v := .ref x) (C := R_Rea) (T := F_Rea) (N := 7) hx hb hts w_Rea hown hK hP 0 rfl rfl 0 (by decide) (hts _ kF_Rea_27) (fun _ h9 => h9) rfl d_Rea_write_45 ?_
            refine va_alen hx hb hK hP 1 0 rfl rfl (v := 2400) rfl d_Rea_write_48 ?_
            refine lv_icmp_ge (tgt := 73) hx hb d_Rea_write_49 (by decide) (fun c49 => ?_) (fun c49 => ?_)
            · exact absurd ((nI_leI (a := 2400) (by decide) (by omega)).mp c49) (by omega)
            · refine lv_aload_n hx hb d_Rea_write_52 rfl (lv_at hl 1 rfl) ?_
              refine va_get (D := D) (ci := 4) (v := .ref x) (C := R_Rea) (T := F_Rea) (N := 7) hx hb hts w_Rea hown hK hP 0 rfl rfl 0 (by decide) (hts _ kF_Rea_27) (fun _ h9 => h9) rfl d_Rea_write_53 ?_
              refine lv_aload_n hx hb d_Rea_write_56 rfl (lv_at hl 1 rfl) ?_
              refine va_get (D := D) (ci := 4) (v := .int (nI (n + cb y m1))) (C := R_Rea) (T := F_Rea) (N := 7) hx hb hts w_Rea hown hK hP 0 rfl rfl 4 (by decide) (hts _ kF_Rea_33) (fun _ h9 => h9) rfl d_Rea_write_57 ?_
              refine lv_iload hx hb d_Rea_write_60 (lv_at hl 0 rfl) ?_
              refine va_cast hx hb hK hP hD hS 1 0 rfl rfl (i := nI (n + cb y m1)) (vp_in_nI (show n + cb y m1 < 2400 by omega) (by decide)) d_Rea_write_62 (fun H locs hP hD hS => ?_)
              have hP : va_P D vcl [(r, .inr (4, [.ref x, .ref nm, .ref h, .ref q, .int (nI (n + cb y m1)), .long R, .int fd])), (x, .inl (cC, 2400, .inl (upd (tx (wT T n y m1)) (nI (n + cb y m1)).toNatClampNeg (vp_nar .char (nI (byt y (7 - m1))))))), (nm, .inr (3, [.ref x, .int v1, .int v2, .int v3, .int v4, .int v5, .int v6, .int v7])), (h, .inr (1, [.ref q, .int g0, .int gs0, .int kp0, .int pl0])), (q, .inr (2, [.ref t, .ref b])), (t, .inr (0, [.ref ta, .int nv])), (ta, .inl (cA, 96, .inl f)), (b, .inr (0, [.ref ba, .int mv])), (ba, .inl (cB, 96, .inl g))] H := hP
              have hD : va_D A [(r, .inr (4, [.ref x, .ref nm, .ref h, .ref q, .int (nI (n + cb y m1)), .long R, .int fd])), (x, .inl (cC, 2400, .inl (upd (tx (wT T n y m1)) (nI (n + cb y m1)).toNatClampNeg (vp_nar .char (nI (byt y (7 - m1))))))), (nm, .inr (3, [.ref x, .int v1, .int v2, .int v3, .int v4, .int v5, .int v6, .int v7])), (h, .inr (1, [.ref q, .int g0, .int gs0, .int kp0, .int pl0])), (q, .inr (2, [.ref t, .ref b])), (t, .inr (0, [.ref ta, .int nv])), (ta, .inl (cA, 96, .inl f)), (b, .inr (0, [.ref ba, .int mv])), (ba, .inl (cB, 96, .inl g))] := hD
              rw [show upd (tx (wT T n y m1)) (nI (n + cb y m1)).toNatClampNeg (vp_nar .char (nI (byt y (7 - m1)))) = tx (wT T n y (m1 + 1)) from by rw [nI_clamp (by omega), (show vp_nar .char (nI (byt y (7 - m1))) = nI (byt y (7 - m1)) from by unfold vp_nar; rw [(pk_charN (by omega)).1]), tx_upd, hw1]] at hP hD
              refine lv_aload_n hx hb d_Rea_write_63 rfl (lv_at hl 1 rfl) ?_
              refine lv_dup hx hb d_Rea_write_64 rfl ?_
              refine va_get (D := D) (ci := 4) (v := .int (nI (n + cb y m1))) (C := R_Rea) (T := F_Rea) (N := 7) hx hb hts w_Rea hown hK hP 0 rfl rfl 4 (by decide) (hts _ kF_Rea_33) (fun _ h9 => h9) rfl d_Rea_write_65 ?_
              refine lv_iconst (v := 1) hx hb d_Rea_write_68 (by decide) ?_
              refine lv_iadd hx hb d_Rea_write_69 ?_
              refine tv_i (nI (n + cb y (m1 + 1))) (by rw [hw2]; exact nI_1 _) ?_
              refine va_put (D := D) (ci := 4) (v := .int (nI (n + cb y (m1 + 1)))) (ty := .int) (C := R_Rea) (T := F_Rea) (N := 7) hx hb hts w_Rea t_Rea tk_Rea n_Rea hown hK hP hD hS 0 rfl rfl 4 (by decide) (hts _ kF_Rea_33) (fun _ h9 => h9) rfl (by decide +kernel) (rfl) (rfl) (Nat.le_of_ble_eq_true rfl) d_Rea_write_70 (fun H locs hP hD hS => ?_)
              have hP : va_P D vcl [(r, .inr (4, [.ref x, .ref nm, .ref h, .ref q, .int (nI (n + cb y (m1 + 1))), .long R, .int fd])), (x, .inl (cC, 2400, .inl (tx (wT T n y (m1 + 1))))), (nm, .inr (3, [.ref x, .int v1, .int v2, .int v3, .int v4, .int v5, .int v6, .int v7])), (h, .inr (1, [.ref q, .int g0, .int gs0, .int kp0, .int pl0])), (q, .inr (2, [.ref t, .ref b])), (t, .inr (0, [.ref ta, .int nv])), (ta, .inl (cA, 96, .inl f)), (b, .inr (0, [.ref ba, .int mv])), (ba, .inl (cB, 96, .inl g))] H := hP
              have hD : va_D A [(r, .inr (4, [.ref x, .ref nm, .ref h, .ref q, .int (nI (n + cb y (m1 + 1))), .long R, .int fd])), (x, .inl (cC, 2400, .inl (tx (wT T n y (m1 + 1))))), (nm, .inr (3, [.ref x, .int v1, .int v2, .int v3, .int v4, .int v5, .int v6, .int v7])), (h, .inr (1, [.ref q, .int g0, .int gs0, .int kp0, .int pl0])), (q, .inr (2, [.ref t, .ref b])), (t, .inr (0, [.ref ta, .int nv])), (ta, .inl (cA, 96, .inl f)), (b, .inr (0, [.ref ba, .int mv])), (ba, .inl (cB, 96, .inl g))] := hD
              refine lv_iinc (v := zI (56 - 8 * ((m1 + 1 : Nat) : Int))) (lv' := [(3, .int (zI (56 - 8 * ((m1 + 1 : Nat) : Int)))), (4, .int (nI (byt y (7 - m1)))), (0, .ref r), (1, .long (lN y))]) hx hb d_Rea_write_73 hl (k := 3) rfl (by show zI _ + zI (-8) = _; rw [zI_add]; exact congrArg zI (by omega)) (by decide) rfl (fun ls hl => ?_)
              refine lv_goto (tgt := 20) hx hb d_Rea_write_76 (by decide) ?_
              exact ih (m1 + 1) (by omega) (by omega) _ _ _ (hP.sub [0, 1, 2, 3, 4, 5, 6, 7, 8] rfl) (hD.sub [0, 1, 2, 3, 4, 5, 6, 7, 8] (by decide) rfl) hS (lv_sub hl [2, 3, 0] rfl)
    exact L20 9 0 (by decide) (by decide) _ _ _ (hP.sub [0, 1, 2, 3, 4, 5, 6, 7, 8] rfl) (hD.sub [0, 1, 2, 3, 4, 5, 6, 7, 8] (by decide) rfl) hS (lv_sub hl [1, 2, 0] rfl)
  · have e12 : ¬ n + cb y 8 ≤ 2400 := fun z => c12 ((nI_leI (b := 2400) (by have := cb_le y 8; omega) (by decide)).mpr z)
    refine lv_iconst (v := 0) hx hb d_Rea_write_15 (by decide) ?_
    rw [show tx T = tx (wrT T n y) by unfold wrT; rw [if_neg e12], show nI n = nI (wrN n y) by unfold wrN; rw [if_neg e12]] at hP hD
    exact rt_i hx hb hrt hlocks (rfl) (()) (by rw [decide_eq_false e12]; rfl) (hP.sub [0, 1, 2, 3, 4, 5, 6, 7, 8] rfl) (hK.sub [0, 1, 2] rfl) (hD.sub [0, 1, 2, 3, 4, 5, 6, 7, 8] (by decide) rfl) hS d_Rea_write_16

def knd (wd : Int32) : Nat := if wd = 0 then 1 else 0
set_option maxHeartbeats 4000000 in
set_option maxRecDepth 100000 in
theorem c_Rea_compare (l : Launch) (D : va_G) (E : evD) (r x nm h q t ta b ba : Nat) (cC cA cB : ClassId) (T : Nat → Nat) (n : Nat) (R : Int64) (fd : Int32) (v1 v2 v3 v4 v5 v6 v7 g0 gs0 kp0 pl0 nv mv : Int32) (f g : Nat → Int32) (xx yy : Nat) (hx64 : xx < 2 ^ 64) (hy64 : yy < 2 ^ 64) (wd : Int32) : Ci (S := Unit) l y_Rea_compare (wz y_Rea_compare b_Rea_compare 11 (some .int)) ({ frames := 2, cells := 0, slots := 0, locals := 44 }) D vcl (ev1 E) [.ref r, .long (lN xx), .long (lN yy), .int wd] [(cC, .char), (cA, .int), (cB, .int)] [(r, .inr (4, [.ref x, .ref nm, .ref h, .ref q, .int (nI n), .long R, .int fd])), (x, .inl (cC, 2400, .inl (tx T))), (nm, .inr (3, [.ref x, .int v1, .int v2, .int v3, .int v4, .int v5, .int v6, .int v7])), (h, .inr (1, [.ref q, .int g0, .int gs0, .int kp0, .int pl0])), (q, .inr (2, [.ref t, .ref b])), (t, .inr (0, [.ref ta, .int nv])), (ta, .inl (cA, 96, .inl f)), (b, .inr (0, [.ref ba, .int mv])), (ba, .inl (cB, 96, .inl g))] 0 0 (fun (w : Int32) (_ : Unit) => w = cpN (knd wd) xx yy) (fun _ => [(cC, .char), (cA, .int), (cB, .int)]) (fun _ : Unit => [(r, .inr (4, [.ref x, .ref nm, .ref h, .ref q, .int (nI n), .long R, .int fd])), (x, .inl (cC, 2400, .inl (tx T))), (nm, .inr (3, [.ref x, .int v1, .int v2, .int v3, .int v4, .int v5, .int v6, .int v7])), (h, .inr (1, [.ref q, .int g0, .int gs0, .int kp0, .int pl0])), (q, .inr (2, [.ref t, .ref b])), (t, .inr (0, [.ref ta, .int nv])), (ta, .inl (cA, 96, .inl f)), (b, .inr (0, [.ref ba, .int mv])), (ba, .inl (cB, 96, .inl g))]) := by
  have hev := ev1_ok E
  unfold Ci
  refine ct_of (y := y_Rea_compare) (av := [.ref r, .long (lN xx), .long (lN yy), .int wd]) (cc := b_Rea_compare) (maxL := 11) (ret := (some .int)) (Qc := fun A => va_Qi (S := Unit) (fun (w : Int32) (_ : Unit) => w = cpN (knd wd) xx yy) (fun u tS => ctB D vcl ((fun _ => [(cC, .char), (cA, .int), (cB, .int)]) u) ((fun _ : Unit => [(r, .inr (4, [.ref x, .ref nm, .ref h, .ref q, .int (nI n), .long R, .int fd])), (x, .inl (cC, 2400, .inl (tx T))), (nm, .inr (3, [.ref x, .int v1, .int v2, .int v3, .int v4, .int v5, .int v6, .int v7])), (h, .inr (1, [.ref q, .int g0, .int gs0, .int kp0, .int pl0])), (q, .inr (2, [.ref t, .ref b])), (t, .inr (0, [.ref ta, .int nv])), (ta, .inl (cA, 96, .inl f)), (b, .inr (0, [.ref ba, .int mv])), (ba, .inl (cB, 96, .inl g))]) u) A tS) A) (by decide) rfl (Nat.le_of_ble_eq_true rfl) ?_
  intro p ee s m below meth cde ls A H locs hx hb hml hrt hlocks hown hin hts hA hP hK hD hS hE hl
  have hown : s.vm.findClass R_Rea = some m.cls := hown
  have hts := wz_g hts
  have hl : lv_has ls 11 [(0, .ref r), (1, .long (lN xx)), (3, .long (lN yy)), (5, .int wd)] := hl
  refine lv_iload hx hb d_Rea_compare_0 (lv_at hl 3 rfl) ?_
  refine lv_if_eq (tgt := 11) hx hb d_Rea_compare_2 (by decide) (fun c2 => ?_) (fun c2 => ?_)
  · have e2 : knd wd = 1 := by unfold knd; rw [if_pos c2]
    refine va_gets hx hb (hE.2.1.1 1 (by decide)).1 hS hown (hts _ kF_Rea_60) (fun _ h9 => h9) d_Rea_compare_11 ?_
    refine lv_astore (lv' := [(6, .ref (E.1 1)), (0, .ref r), (1, .long (lN xx)), (3, .long (lN yy)), (5, .int wd)]) hx hb d_Rea_compare_14 hl (by decide) rfl (fun ls hl => ?_)
    refine lv_aload hx hb d_Rea_compare_16 (lv_at hl 0 rfl) ?_
    refine lv_lload_n hx hb d_Rea_compare_18 rfl (lv_at hl 2 rfl) ?_
    refine ca_i [(r, .inr (4, [.ref x, .ref nm, .ref h, .ref q, .int (nI n), .long R, .int fd])), (x, .inl (cC, 2400, .inl (tx T))), (nm, .inr (3, [.ref x, .int v1, .int v2, .int v3, .int v4, .int v5, .int v6, .int v7])), (h, .inr (1, [.ref q, .int g0, .int gs0, .int kp0, .int pl0])), (q, .inr (2, [.ref t, .ref b])), (t, .inr (0, [.ref ta, .int nv])), (ta, .inl (cA, 96, .inl f)), (b, .inr (0, [.ref ba, .int mv])), (ba, .inl (cB, 96, .inl g))] (va_runV (As := [.long (lN xx)]) (rest := []) ⟨hx, hb, hml, hown, hts⟩ (c_Kin_isNone l D E 1 (by decide) xx (hx64) H.size) (xV 1 hts kC_Kin_isNone kM_Rea_96 kI_Kin_isNone kS_Kin_isNone kN_Kin rfl rfl (by decide +kernel) ⟨Nat.le_of_ble_eq_true rfl, Nat.le_of_ble_eq_true rfl⟩) ⟨ct_blind hev, va_recvE (i := 1) hE.2.1 (by decide) hS, ct_pre hev hP hK hD hS hA hE [] rfl (by decide) [] rfl⟩ rfl rfl hl.1 rfl (lv_room (Nat.le_of_ble_eq_true rfl)) d_Rea_compare_19 ⟨Nat.le_of_ble_eq_true rfl, Nat.le_of_ble_eq_true rfl⟩) hP hD hS hA [] [0, 1, 2, 3, 4, 5, 6, 7, 8] rfl rfl (by decide) (by decide) (fun rv u H locs hw hP hD hS hK1 => ?_)
    have hP : va_P D vcl [(r, .inr (4, [.ref x, .ref nm, .ref h, .ref q, .int (nI n), .long R, .int fd])), (x, .inl (cC, 2400, .inl (tx T))), (nm, .inr (3, [.ref x, .int v1, .int v2, .int v3, .int v4, .int v5, .int v6, .int v7])), (h, .inr (1, [.ref q, .int g0, .int gs0, .int kp0, .int pl0])), (q, .inr (2, [.ref t, .ref b])), (t, .inr (0, [.ref ta, .int nv])), (ta, .inl (cA, 96, .inl f)), (b, .inr (0, [.ref ba, .int mv])), (ba, .inl (cB, 96, .inl g))] H := hP
    have hD : va_D A [(r, .inr (4, [.ref x, .ref nm, .ref h, .ref q, .int (nI n), .long R, .int fd])), (x, .inl (cC, 2400, .inl (tx T))), (nm, .inr (3, [.ref x, .int v1, .int v2, .int v3, .int v4, .int v5, .int v6, .int v7])), (h, .inr (1, [.ref q, .int g0, .int gs0, .int kp0, .int pl0])), (q, .inr (2, [.ref t, .ref b])), (t, .inr (0, [.ref ta, .int nv])), (ta, .inl (cA, 96, .inl f)), (b, .inr (0, [.ref ba, .int mv])), (ba, .inl (cB, 96, .inl g))] := hD
    refine lv_if_ne (tgt := 34) hx hb d_Rea_compare_22 (by decide) (fun c22 => ?_) (fun c22 => ?_)
    · have e22 : kIN 1 < szN 1 xx := hw.2.mp (hw.1.elim id (fun z => absurd z c22))
      refine lv_iconst (v := 2) hx hb d_Rea_compare_34 (by decide) ?_
      exact rt_i hx hb hrt hlocks (rfl) (()) (by rw [e2]; unfold cpN; rw [if_pos (Or.inl e22)]) (hP.sub [0, 1, 2, 3, 4, 5, 6, 7, 8] rfl) (hK.sub [0, 1, 2] rfl) (hD.sub [0, 1, 2, 3, 4, 5, 6, 7, 8] (by decide) rfl) hS d_Rea_compare_35
    · have e22 : ¬ kIN 1 < szN 1 xx := fun z => by have := hw.2.mpr z; rw [c22] at this; exact absurd this (by decide)
      refine lv_aload hx hb d_Rea_compare_25 (lv_at hl 0 rfl) ?_
      refine lv_lload_n hx hb d_Rea_compare_27 rfl (lv_at hl 3 rfl) ?_
      refine ca_i [(r, .inr (4, [.ref x, .ref nm, .ref h, .ref q, .int (nI n), .long R, .int fd])), (x, .inl (cC, 2400, .inl (tx T))), (nm, .inr (3, [.ref x, .int v1, .int v2, .int v3, .int v4, .int v5, .int v6, .int v7])), (h, .inr (1, [.ref q, .int g0, .int gs0, .int kp0, .int pl0])), (q, .inr (2, [.ref t, .ref b])), (t, .inr (0, [.ref ta, .int nv])), (ta, .inl (cA, 96, .inl f)), (b, .inr (0, [.ref ba, .int mv])), (ba, .inl (cB, 96, .inl g))] (va_runV (As := [.long (lN yy)]) (rest := []) ⟨hx, hb, hml, hown, hts⟩ (c_Kin_isNone l D E 1 (by decide) yy (hy64) H.size) (xV 1 hts kC_Kin_isNone kM_Rea_96 kI_Kin_isNone kS_Kin_isNone kN_Kin rfl rfl (by decide +kernel) ⟨Nat.le_of_ble_eq_true rfl, Nat.le_of_ble_eq_true rfl⟩) ⟨ct_blind hev, va_recvE (i := 1) hE.2.1 (by decide) hS, ct_pre hev hP hK hD hS hA hE [] rfl (by decide) [] rfl⟩ rfl rfl hl.1 rfl (lv_room (Nat.le_of_ble_eq_true rfl)) d_Rea_compare_28 ⟨Nat.le_of_ble_eq_true rfl, Nat.le_of_ble_eq_true rfl⟩) hP hD hS hA [] [0, 1, 2, 3, 4, 5, 6, 7, 8] rfl rfl (by decide) (by decide) (fun rv u H locs hw hP hD hS hK1 => ?_)
      have hP : va_P D vcl [(r, .inr (4, [.ref x, .ref nm, .ref h, .ref q, .int (nI n), .long R, .int fd])), (x, .inl (cC, 2400, .inl (tx T))), (nm, .inr (3, [.ref x, .int v1, .int v2, .int v3, .int v4, .int v5, .int v6, .int v7])), (h, .inr (1, [.ref q, .int g0, .int gs0, .int kp0, .int pl0])), (q, .inr (2, [.ref t, .ref b])), (t, .inr (0, [.ref ta, .int nv])), (ta, .inl (cA, 96, .inl f)), (b, .inr (0, [.ref ba, .int mv])), (ba, .inl (cB, 96, .inl g))] H := hP
      have hD : va_D A [(r, .inr (4, [.ref x, .ref nm, .ref h, .ref q, .int (nI n), .long R, .int fd])), (x, .inl (cC, 2400, .inl (tx T))), (nm, .inr (3, [.ref x, .int v1, .int v2, .int v3, .int v4, .int v5, .int v6, .int v7])), (h, .inr (1, [.ref q, .int g0, .int gs0, .int kp0, .int pl0])), (q, .inr (2, [.ref t, .ref b])), (t, .inr (0, [.ref ta, .int nv])), (ta, .inl (cA, 96, .inl f)), (b, .inr (0, [.ref ba, .int mv])), (ba, .inl (cB, 96, .inl g))] := hD
      refine lv_if_eq (tgt := 36) hx hb d_Rea_compare_31 (by decide) (fun c31 => ?_) (fun c31 => ?_)
      · have e31 : ¬ kIN 1 < szN 1 yy := fun z => by have := hw.2.mpr z; rw [c31] at this; exact absurd this (by decide)
        refine lv_aload hx hb d_Rea_compare_36 (lv_at hl 0 rfl) ?_
        refine lv_lload_n hx hb d_Rea_compare_38 rfl (lv_at hl 2 rfl) ?_
        refine ca_l [(r, .inr (4, [.ref x, .ref nm, .ref h, .ref q, .int (nI n), .long R, .int fd])), (x, .inl (cC, 2400, .inl (tx T))), (nm, .inr (3, [.ref x, .int v1, .int v2, .int v3, .int v4, .int v5, .int v6, .int v7])), (h, .inr (1, [.ref q, .int g0, .int gs0, .int kp0, .int pl0])), (q, .inr (2, [.ref t, .ref b])), (t, .inr (0, [.ref ta, .int nv])), (ta, .inl (cA, 96, .inl f)), (b, .inr (0, [.ref ba, .int mv])), (ba, .inl (cB, 96, .inl g))] (va_runV (As := [.long (lN xx)]) (rest := []) ⟨hx, hb, hml, hown, hts⟩ (c_Kin_rank l D E 1 (by decide) xx (hx64) H.size) (xV 1 hts kC_Kin_rank kM_Rea_100 kI_Kin_rank kS_Kin_rank kN_Kin rfl rfl (by decide +kernel) ⟨Nat.le_of_ble_eq_true rfl, Nat.le_of_ble_eq_true rfl⟩) ⟨ct_blind hev, va_recvE (i := 1) hE.2.1 (by decide) hS, ct_pre hev hP hK hD hS hA hE [] rfl (by decide) [] rfl⟩ rfl rfl hl.1 rfl (lv_room (Nat.le_of_ble_eq_true rfl)) d_Rea_compare_39 ⟨Nat.le_of_ble_eq_true rfl, Nat.le_of_ble_eq_true rfl⟩) hP hD hS hA [] [0, 1, 2, 3, 4, 5, 6, 7, 8] rfl rfl (by decide) (by decide) (fun rv u H locs hw hP hD hS hK1 => ?_)
        subst hw
        have hP : va_P D vcl [(r, .inr (4, [.ref x, .ref nm, .ref h, .ref q, .int (nI n), .long R, .int fd])), (x, .inl (cC, 2400, .inl (tx T))), (nm, .inr (3, [.ref x, .int v1, .int v2, .int v3, .int v4, .int v5, .int v6, .int v7])), (h, .inr (1, [.ref q, .int g0, .int gs0, .int kp0, .int pl0])), (q, .inr (2, [.ref t, .ref b])), (t, .inr (0, [.ref ta, .int nv])), (ta, .inl (cA, 96, .inl f)), (b, .inr (0, [.ref ba, .int mv])), (ba, .inl (cB, 96, .inl g))] H := hP
        have hD : va_D A [(r, .inr (4, [.ref x, .ref nm, .ref h, .ref q, .int (nI n), .long R, .int fd])), (x, .inl (cC, 2400, .inl (tx T))), (nm, .inr (3, [.ref x, .int v1, .int v2, .int v3, .int v4, .int v5, .int v6, .int v7])), (h, .inr (1, [.ref q, .int g0, .int gs0, .int kp0, .int pl0])), (q, .inr (2, [.ref t, .ref b])), (t, .inr (0, [.ref ta, .int nv])), (ta, .inl (cA, 96, .inl f)), (b, .inr (0, [.ref ba, .int mv])), (ba, .inl (cB, 96, .inl g))] := hD
        refine lv_lstore (lv' := [(7, .long (rkN 1 xx)), (6, .ref (E.1 1)), (0, .ref r), (1, .long (lN xx)), (3, .long (lN yy)), (5, .int wd)]) hx hb d_Rea_compare_42 hl (by decide) rfl (fun ls hl => ?_)
        refine lv_aload hx hb d_Rea_compare_44 (lv_at hl 1 rfl) ?_
        refine lv_lload_n hx hb d_Rea_compare_46 rfl (lv_at hl 4 rfl) ?_
        refine ca_l [(r, .inr (4, [.ref x, .ref nm, .ref h, .ref q, .int (nI n), .long R, .int fd])), (x, .inl (cC, 2400, .inl (tx T))), (nm, .inr (3, [.ref x, .int v1, .int v2, .int v3, .int v4, .int v5, .int v6, .int v7])), (h, .inr (1, [.ref q, .int g0, .int gs0, .int kp0, .int pl0])), (q, .inr (2, [.ref t, .ref b])), (t, .inr (0, [.ref ta, .int nv])), (ta, .inl (cA, 96, .inl f)), (b, .inr (0, [.ref ba, .int mv])), (ba, .inl (cB, 96, .inl g))] (va_runV (As := [.long (lN yy)]) (rest := []) ⟨hx, hb, hml, hown, hts⟩ (c_Kin_rank l D E 1 (by decide) yy (hy64) H.size) (xV 1 hts kC_Kin_rank kM_Rea_100 kI_Kin_rank kS_Kin_rank kN_Kin rfl rfl (by decide +kernel) ⟨Nat.le_of_ble_eq_true rfl, Nat.le_of_ble_eq_true rfl⟩) ⟨ct_blind hev, va_recvE (i := 1) hE.2.1 (by decide) hS, ct_pre hev hP hK hD hS hA hE [] rfl (by decide) [] rfl⟩ rfl rfl hl.1 rfl (lv_room (Nat.le_of_ble_eq_true rfl)) d_Rea_compare_47 ⟨Nat.le_of_ble_eq_true rfl, Nat.le_of_ble_eq_true rfl⟩) hP hD hS hA [] [0, 1, 2, 3, 4, 5, 6, 7, 8] rfl rfl (by decide) (by decide) (fun rv u H locs hw hP hD hS hK1 => ?_)
        subst hw
        have hP : va_P D vcl [(r, .inr (4, [.ref x, .ref nm, .ref h, .ref q, .int (nI n), .long R, .int fd])), (x, .inl (cC, 2400, .inl (tx T))), (nm, .inr (3, [.ref x, .int v1, .int v2, .int v3, .int v4, .int v5, .int v6, .int v7])), (h, .inr (1, [.ref q, .int g0, .int gs0, .int kp0, .int pl0])), (q, .inr (2, [.ref t, .ref b])), (t, .inr (0, [.ref ta, .int nv])), (ta, .inl (cA, 96, .inl f)), (b, .inr (0, [.ref ba, .int mv])), (ba, .inl (cB, 96, .inl g))] H := hP
        have hD : va_D A [(r, .inr (4, [.ref x, .ref nm, .ref h, .ref q, .int (nI n), .long R, .int fd])), (x, .inl (cC, 2400, .inl (tx T))), (nm, .inr (3, [.ref x, .int v1, .int v2, .int v3, .int v4, .int v5, .int v6, .int v7])), (h, .inr (1, [.ref q, .int g0, .int gs0, .int kp0, .int pl0])), (q, .inr (2, [.ref t, .ref b])), (t, .inr (0, [.ref ta, .int nv])), (ta, .inl (cA, 96, .inl f)), (b, .inr (0, [.ref ba, .int mv])), (ba, .inl (cB, 96, .inl g))] := hD
        refine lv_lstore (lv' := [(9, .long (rkN 1 yy)), (7, .long (rkN 1 xx)), (6, .ref (E.1 1)), (0, .ref r), (1, .long (lN xx)), (3, .long (lN yy)), (5, .int wd)]) hx hb d_Rea_compare_50 hl (by decide) rfl (fun ls hl => ?_)
        refine lv_lload hx hb d_Rea_compare_52 (lv_at hl 1 rfl) ?_
        refine lv_lload hx hb d_Rea_compare_54 (lv_at hl 0 rfl) ?_
        refine W.lcmp hx hb d_Rea_compare_56 ?_
        refine lv_if_ne (tgt := 62) hx hb d_Rea_compare_57 (by decide) (fun c57 => ?_) (fun c57 => ?_)
        · have e57 : rkN 1 xx ≠ rkN 1 yy := fun z => c57 ((lg_cmp_eq _ _).mpr z)
          refine lv_lload hx hb d_Rea_compare_62 (lv_at hl 1 rfl) ?_
          refine lv_lload hx hb d_Rea_compare_64 (lv_at hl 0 rfl) ?_
          refine W.lcmp hx hb d_Rea_compare_66 ?_
          refine lv_if_ge (tgt := 74) hx hb d_Rea_compare_67 (by decide) (fun c67 => ?_) (fun c67 => ?_)
          · have e67 : ¬ rkN 1 xx < rkN 1 yy := Int64.not_lt.mpr ((lg_cmp_ge _ _).mp c67)
            refine lv_iconst (v := 1) hx hb d_Rea_compare_74 (by decide) ?_
            exact rt_i hx hb hrt hlocks (rfl) (()) (by rw [e2]; unfold cpN; rw [if_neg (fun z => z.elim e22 e31), if_neg e57, if_neg e67]) (hP.sub [0, 1, 2, 3, 4, 5, 6, 7, 8] rfl) (hK.sub [0, 1, 2] rfl) (hD.sub [0, 1, 2, 3, 4, 5, 6, 7, 8] (by decide) rfl) hS d_Rea_compare_75
          · have e67 : rkN 1 xx < rkN 1 yy := Int64.not_le.mp (fun z => c67 ((lg_cmp_ge _ _).mpr z))
            refine lv_iconst (v := -1) hx hb d_Rea_compare_70 (by decide) ?_
            refine lv_goto (tgt := 75) hx hb d_Rea_compare_71 (by decide) ?_
            exact rt_i hx hb hrt hlocks (rfl) (()) (by rw [e2]; unfold cpN; rw [if_neg (fun z => z.elim e22 e31), if_neg e57, if_pos e67]) (hP.sub [0, 1, 2, 3, 4, 5, 6, 7, 8] rfl) (hK.sub [0, 1, 2] rfl) (hD.sub [0, 1, 2, 3, 4, 5, 6, 7, 8] (by decide) rfl) hS d_Rea_compare_75
        · have e57 : rkN 1 xx = rkN 1 yy := (lg_cmp_eq _ _).mp c57
          refine lv_iconst (v := 0) hx hb d_Rea_compare_60 (by decide) ?_
          exact rt_i hx hb hrt hlocks (rfl) (()) (by rw [e2]; unfold cpN; rw [if_neg (fun z => z.elim e22 e31), if_pos e57]) (hP.sub [0, 1, 2, 3, 4, 5, 6, 7, 8] rfl) (hK.sub [0, 1, 2] rfl) (hD.sub [0, 1, 2, 3, 4, 5, 6, 7, 8] (by decide) rfl) hS d_Rea_compare_61
      · have e31 : kIN 1 < szN 1 yy := hw.2.mp (hw.1.elim id (fun z => absurd z c31))
        refine lv_iconst (v := 2) hx hb d_Rea_compare_34 (by decide) ?_
        exact rt_i hx hb hrt hlocks (rfl) (()) (by rw [e2]; unfold cpN; rw [if_pos (Or.inr e31)]) (hP.sub [0, 1, 2, 3, 4, 5, 6, 7, 8] rfl) (hK.sub [0, 1, 2] rfl) (hD.sub [0, 1, 2, 3, 4, 5, 6, 7, 8] (by decide) rfl) hS d_Rea_compare_35
  · have e2 : knd wd = 0 := by unfold knd; rw [if_neg c2]
    refine va_gets hx hb (hE.2.1.1 0 (by decide)).1 hS hown (hts _ kF_Rea_50) (fun _ h9 => h9) d_Rea_compare_5 ?_
    refine lv_goto (tgt := 14) hx hb d_Rea_compare_8 (by decide) ?_
    refine lv_astore (lv' := [(6, .ref (E.1 0)), (0, .ref r), (1, .long (lN xx)), (3, .long (lN yy)), (5, .int wd)]) hx hb d_Rea_compare_14 hl (by decide) rfl (fun ls hl => ?_)
    refine lv_aload hx hb d_Rea_compare_16 (lv_at hl 0 rfl) ?_
    refine lv_lload_n hx hb d_Rea_compare_18 rfl (lv_at hl 2 rfl) ?_
    refine ca_i [(r, .inr (4, [.ref x, .ref nm, .ref h, .ref q, .int (nI n), .long R, .int fd])), (x, .inl (cC, 2400, .inl (tx T))), (nm, .inr (3, [.ref x, .int v1, .int v2, .int v3, .int v4, .int v5, .int v6, .int v7])), (h, .inr (1, [.ref q, .int g0, .int gs0, .int kp0, .int pl0])), (q, .inr (2, [.ref t, .ref b])), (t, .inr (0, [.ref ta, .int nv])), (ta, .inl (cA, 96, .inl f)), (b, .inr (0, [.ref ba, .int mv])), (ba, .inl (cB, 96, .inl g))] (va_runV (As := [.long (lN xx)]) (rest := []) ⟨hx, hb, hml, hown, hts⟩ (c_Kin_isNone l D E 0 (by decide) xx (hx64) H.size) (xV 1 hts kC_Kin_isNone kM_Rea_96 kI_Kin_isNone kS_Kin_isNone kN_Kin rfl rfl (by decide +kernel) ⟨Nat.le_of_ble_eq_true rfl, Nat.le_of_ble_eq_true rfl⟩) ⟨ct_blind hev, va_recvE (i := 0) hE.2.1 (by decide) hS, ct_pre hev hP hK hD hS hA hE [] rfl (by decide) [] rfl⟩ rfl rfl hl.1 rfl (lv_room (Nat.le_of_ble_eq_true rfl)) d_Rea_compare_19 ⟨Nat.le_of_ble_eq_true rfl, Nat.le_of_ble_eq_true rfl⟩) hP hD hS hA [] [0, 1, 2, 3, 4, 5, 6, 7, 8] rfl rfl (by decide) (by decide) (fun rv u H locs hw hP hD hS hK1 => ?_)
    have hP : va_P D vcl [(r, .inr (4, [.ref x, .ref nm, .ref h, .ref q, .int (nI n), .long R, .int fd])), (x, .inl (cC, 2400, .inl (tx T))), (nm, .inr (3, [.ref x, .int v1, .int v2, .int v3, .int v4, .int v5, .int v6, .int v7])), (h, .inr (1, [.ref q, .int g0, .int gs0, .int kp0, .int pl0])), (q, .inr (2, [.ref t, .ref b])), (t, .inr (0, [.ref ta, .int nv])), (ta, .inl (cA, 96, .inl f)), (b, .inr (0, [.ref ba, .int mv])), (ba, .inl (cB, 96, .inl g))] H := hP
    have hD : va_D A [(r, .inr (4, [.ref x, .ref nm, .ref h, .ref q, .int (nI n), .long R, .int fd])), (x, .inl (cC, 2400, .inl (tx T))), (nm, .inr (3, [.ref x, .int v1, .int v2, .int v3, .int v4, .int v5, .int v6, .int v7])), (h, .inr (1, [.ref q, .int g0, .int gs0, .int kp0, .int pl0])), (q, .inr (2, [.ref t, .ref b])), (t, .inr (0, [.ref ta, .int nv])), (ta, .inl (cA, 96, .inl f)), (b, .inr (0, [.ref ba, .int mv])), (ba, .inl (cB, 96, .inl g))] := hD
    refine lv_if_ne (tgt := 34) hx hb d_Rea_compare_22 (by decide) (fun c22 => ?_) (fun c22 => ?_)
    · have e22 : kIN 0 < szN 0 xx := hw.2.mp (hw.1.elim id (fun z => absurd z c22))
      refine lv_iconst (v := 2) hx hb d_Rea_compare_34 (by decide) ?_
      exact rt_i hx hb hrt hlocks (rfl) (()) (by rw [e2]; unfold cpN; rw [if_pos (Or.inl e22)]) (hP.sub [0, 1, 2, 3, 4, 5, 6, 7, 8] rfl) (hK.sub [0, 1, 2] rfl) (hD.sub [0, 1, 2, 3, 4, 5, 6, 7, 8] (by decide) rfl) hS d_Rea_compare_35
    · have e22 : ¬ kIN 0 < szN 0 xx := fun z => by have := hw.2.mpr z; rw [c22] at this; exact absurd this (by decide)
      refine lv_aload hx hb d_Rea_compare_25 (lv_at hl 0 rfl) ?_
      refine lv_lload_n hx hb d_Rea_compare_27 rfl (lv_at hl 3 rfl) ?_
      refine ca_i [(r, .inr (4, [.ref x, .ref nm, .ref h, .ref q, .int (nI n), .long R, .int fd])), (x, .inl (cC, 2400, .inl (tx T))), (nm, .inr (3, [.ref x, .int v1, .int v2, .int v3, .int v4, .int v5, .int v6, .int v7])), (h, .inr (1, [.ref q, .int g0, .int gs0, .int kp0, .int pl0])), (q, .inr (2, [.ref t, .ref b])), (t, .inr (0, [.ref ta, .int nv])), (ta, .inl (cA, 96, .inl f)), (b, .inr (0, [.ref ba, .int mv])), (ba, .inl (cB, 96, .inl g))] (va_runV (As := [.long (lN yy)]) (rest := []) ⟨hx, hb, hml, hown, hts⟩ (c_Kin_isNone l D E 0 (by decide) yy (hy64) H.size) (xV 1 hts kC_Kin_isNone kM_Rea_96 kI_Kin_isNone kS_Kin_isNone kN_Kin rfl rfl (by decide +kernel) ⟨Nat.le_of_ble_eq_true rfl, Nat.le_of_ble_eq_true rfl⟩) ⟨ct_blind hev, va_recvE (i := 0) hE.2.1 (by decide) hS, ct_pre hev hP hK hD hS hA hE [] rfl (by decide) [] rfl⟩ rfl rfl hl.1 rfl (lv_room (Nat.le_of_ble_eq_true rfl)) d_Rea_compare_28 ⟨Nat.le_of_ble_eq_true rfl, Nat.le_of_ble_eq_true rfl⟩) hP hD hS hA [] [0, 1, 2, 3, 4, 5, 6, 7, 8] rfl rfl (by decide) (by decide) (fun rv u H locs hw hP hD hS hK1 => ?_)
      have hP : va_P D vcl [(r, .inr (4, [.ref x, .ref nm, .ref h, .ref q, .int (nI n), .long R, .int fd])), (x, .inl (cC, 2400, .inl (tx T))), (nm, .inr (3, [.ref x, .int v1, .int v2, .int v3, .int v4, .int v5, .int v6, .int v7])), (h, .inr (1, [.ref q, .int g0, .int gs0, .int kp0, .int pl0])), (q, .inr (2, [.ref t, .ref b])), (t, .inr (0, [.ref ta, .int nv])), (ta, .inl (cA, 96, .inl f)), (b, .inr (0, [.ref ba, .int mv])), (ba, .inl (cB, 96, .inl g))] H := hP
      have hD : va_D A [(r, .inr (4, [.ref x, .ref nm, .ref h, .ref q, .int (nI n), .long R, .int fd])), (x, .inl (cC, 2400, .inl (tx T))), (nm, .inr (3, [.ref x, .int v1, .int v2, .int v3, .int v4, .int v5, .int v6, .int v7])), (h, .inr (1, [.ref q, .int g0, .int gs0, .int kp0, .int pl0])), (q, .inr (2, [.ref t, .ref b])), (t, .inr (0, [.ref ta, .int nv])), (ta, .inl (cA, 96, .inl f)), (b, .inr (0, [.ref ba, .int mv])), (ba, .inl (cB, 96, .inl g))] := hD
      refine lv_if_eq (tgt := 36) hx hb d_Rea_compare_31 (by decide) (fun c31 => ?_) (fun c31 => ?_)
      · have e31 : ¬ kIN 0 < szN 0 yy := fun z => by have := hw.2.mpr z; rw [c31] at this; exact absurd this (by decide)
        refine lv_aload hx hb d_Rea_compare_36 (lv_at hl 0 rfl) ?_
        refine lv_lload_n hx hb d_Rea_compare_38 rfl (lv_at hl 2 rfl) ?_
        refine ca_l [(r, .inr (4, [.ref x, .ref nm, .ref h, .ref q, .int (nI n), .long R, .int fd])), (x, .inl (cC, 2400, .inl (tx T))), (nm, .inr (3, [.ref x, .int v1, .int v2, .int v3, .int v4, .int v5, .int v6, .int v7])), (h, .inr (1, [.ref q, .int g0, .int gs0, .int kp0, .int pl0])), (q, .inr (2, [.ref t, .ref b])), (t, .inr (0, [.ref ta, .int nv])), (ta, .inl (cA, 96, .inl f)), (b, .inr (0, [.ref ba, .int mv])), (ba, .inl (cB, 96, .inl g))] (va_runV (As := [.long (lN xx)]) (rest := []) ⟨hx, hb, hml, hown, hts⟩ (c_Kin_rank l D E 0 (by decide) xx (hx64) H.size) (xV 1 hts kC_Kin_rank kM_Rea_100 kI_Kin_rank kS_Kin_rank kN_Kin rfl rfl (by decide +kernel) ⟨Nat.le_of_ble_eq_true rfl, Nat.le_of_ble_eq_true rfl⟩) ⟨ct_blind hev, va_recvE (i := 0) hE.2.1 (by decide) hS, ct_pre hev hP hK hD hS hA hE [] rfl (by decide) [] rfl⟩ rfl rfl hl.1 rfl (lv_room (Nat.le_of_ble_eq_true rfl)) d_Rea_compare_39 ⟨Nat.le_of_ble_eq_true rfl, Nat.le_of_ble_eq_true rfl⟩) hP hD hS hA [] [0, 1, 2, 3, 4, 5, 6, 7, 8] rfl rfl (by decide) (by decide) (fun rv u H locs hw hP hD hS hK1 => ?_)
        subst hw
        have hP : va_P D vcl [(r, .inr (4, [.ref x, .ref nm, .ref h, .ref q, .int (nI n), .long R, .int fd])), (x, .inl (cC, 2400, .inl (tx T))), (nm, .inr (3, [.ref x, .int v1, .int v2, .int v3, .int v4, .int v5, .int v6, .int v7])), (h, .inr (1, [.ref q, .int g0, .int gs0, .int kp0, .int pl0])), (q, .inr (2, [.ref t, .ref b])), (t, .inr (0, [.ref ta, .int nv])), (ta, .inl (cA, 96, .inl f)), (b, .inr (0, [.ref ba, .int mv])), (ba, .inl (cB, 96, .inl g))] H := hP
        have hD : va_D A [(r, .inr (4, [.ref x, .ref nm, .ref h, .ref q, .int (nI n), .long R, .int fd])), (x, .inl (cC, 2400, .inl (tx T))), (nm, .inr (3, [.ref x, .int v1, .int v2, .int v3, .int v4, .int v5, .int v6, .int v7])), (h, .inr (1, [.ref q, .int g0, .int gs0, .int kp0, .int pl0])), (q, .inr (2, [.ref t, .ref b])), (t, .inr (0, [.ref ta, .int nv])), (ta, .inl (cA, 96, .inl f)), (b, .inr (0, [.ref ba, .int mv])), (ba, .inl (cB, 96, .inl g))] := hD
        refine lv_lstore (lv' := [(7, .long (rkN 0 xx)), (6, .ref (E.1 0)), (0, .ref r), (1, .long (lN xx)), (3, .long (lN yy)), (5, .int wd)]) hx hb d_Rea_compare_42 hl (by decide) rfl (fun ls hl => ?_)
        refine lv_aload hx hb d_Rea_compare_44 (lv_at hl 1 rfl) ?_
        refine lv_lload_n hx hb d_Rea_compare_46 rfl (lv_at hl 4 rfl) ?_
        refine ca_l [(r, .inr (4, [.ref x, .ref nm, .ref h, .ref q, .int (nI n), .long R, .int fd])), (x, .inl (cC, 2400, .inl (tx T))), (nm, .inr (3, [.ref x, .int v1, .int v2, .int v3, .int v4, .int v5, .int v6, .int v7])), (h, .inr (1, [.ref q, .int g0, .int gs0, .int kp0, .int pl0])), (q, .inr (2, [.ref t, .ref b])), (t, .inr (0, [.ref ta, .int nv])), (ta, .inl (cA, 96, .inl f)), (b, .inr (0, [.ref ba, .int mv])), (ba, .inl (cB, 96, .inl g))] (va_runV (As := [.long (lN yy)]) (rest := []) ⟨hx, hb, hml, hown, hts⟩ (c_Kin_rank l D E 0 (by decide) yy (hy64) H.size) (xV 1 hts kC_Kin_rank kM_Rea_100 kI_Kin_rank kS_Kin_rank kN_Kin rfl rfl (by decide +kernel) ⟨Nat.le_of_ble_eq_true rfl, Nat.le_of_ble_eq_true rfl⟩) ⟨ct_blind hev, va_recvE (i := 0) hE.2.1 (by decide) hS, ct_pre hev hP hK hD hS hA hE [] rfl (by decide) [] rfl⟩ rfl rfl hl.1 rfl (lv_room (Nat.le_of_ble_eq_true rfl)) d_Rea_compare_47 ⟨Nat.le_of_ble_eq_true rfl, Nat.le_of_ble_eq_true rfl⟩) hP hD hS hA [] [0, 1, 2, 3, 4, 5, 6, 7, 8] rfl rfl (by decide) (by decide) (fun rv u H locs hw hP hD hS hK1 => ?_)
        subst hw
        have hP : va_P D vcl [(r, .inr (4, [.ref x, .ref nm, .ref h, .ref q, .int (nI n), .long R, .int fd])), (x, .inl (cC, 2400, .inl (tx T))), (nm, .inr (3, [.ref x, .int v1, .int v2, .int v3, .int v4, .int v5, .int v6, .int v7])), (h, .inr (1, [.ref q, .int g0, .int gs0, .int kp0, .int pl0])), (q, .inr (2, [.ref t, .ref b])), (t, .inr (0, [.ref ta, .int nv])), (ta, .inl (cA, 96, .inl f)), (b, .inr (0, [.ref ba, .int mv])), (ba, .inl (cB, 96, .inl g))] H := hP
        have hD : va_D A [(r, .inr (4, [.ref x, .ref nm, .ref h, .ref q, .int (nI n), .long R, .int fd])), (x, .inl (cC, 2400, .inl (tx T))), (nm, .inr (3, [.ref x, .int v1, .int v2, .int v3, .int v4, .int v5, .int v6, .int v7])), (h, .inr (1, [.ref q, .int g0, .int gs0, .int kp0, .int pl0])), (q, .inr (2, [.ref t, .ref b])), (t, .inr (0, [.ref ta, .int nv])), (ta, .inl (cA, 96, .inl f)), (b, .inr (0, [.ref ba, .int mv])), (ba, .inl (cB, 96, .inl g))] := hD
        refine lv_lstore (lv' := [(9, .long (rkN 0 yy)), (7, .long (rkN 0 xx)), (6, .ref (E.1 0)), (0, .ref r), (1, .long (lN xx)), (3, .long (lN yy)), (5, .int wd)]) hx hb d_Rea_compare_50 hl (by decide) rfl (fun ls hl => ?_)
        refine lv_lload hx hb d_Rea_compare_52 (lv_at hl 1 rfl) ?_
        refine lv_lload hx hb d_Rea_compare_54 (lv_at hl 0 rfl) ?_
        refine W.lcmp hx hb d_Rea_compare_56 ?_
        refine lv_if_ne (tgt := 62) hx hb d_Rea_compare_57 (by decide) (fun c57 => ?_) (fun c57 => ?_)
        · have e57 : rkN 0 xx ≠ rkN 0 yy := fun z => c57 ((lg_cmp_eq _ _).mpr z)
          refine lv_lload hx hb d_Rea_compare_62 (lv_at hl 1 rfl) ?_
          refine lv_lload hx hb d_Rea_compare_64 (lv_at hl 0 rfl) ?_
          refine W.lcmp hx hb d_Rea_compare_66 ?_
          refine lv_if_ge (tgt := 74) hx hb d_Rea_compare_67 (by decide) (fun c67 => ?_) (fun c67 => ?_)
          · have e67 : ¬ rkN 0 xx < rkN 0 yy := Int64.not_lt.mpr ((lg_cmp_ge _ _).mp c67)
            refine lv_iconst (v := 1) hx hb d_Rea_compare_74 (by decide) ?_
            exact rt_i hx hb hrt hlocks (rfl) (()) (by rw [e2]; unfold cpN; rw [if_neg (fun z => z.elim e22 e31), if_neg e57, if_neg e67]) (hP.sub [0, 1, 2, 3, 4, 5, 6, 7, 8] rfl) (hK.sub [0, 1, 2] rfl) (hD.sub [0, 1, 2, 3, 4, 5, 6, 7, 8] (by decide) rfl) hS d_Rea_compare_75
          · have e67 : rkN 0 xx < rkN 0 yy := Int64.not_le.mp (fun z => c67 ((lg_cmp_ge _ _).mpr z))
            refine lv_iconst (v := -1) hx hb d_Rea_compare_70 (by decide) ?_
            refine lv_goto (tgt := 75) hx hb d_Rea_compare_71 (by decide) ?_
            exact rt_i hx hb hrt hlocks (rfl) (()) (by rw [e2]; unfold cpN; rw [if_neg (fun z => z.elim e22 e31), if_neg e57, if_pos e67]) (hP.sub [0, 1, 2, 3, 4, 5, 6, 7, 8] rfl) (hK.sub [0, 1, 2] rfl) (hD.sub [0, 1, 2, 3, 4, 5, 6, 7, 8] (by decide) rfl) hS d_Rea_compare_75
        · have e57 : rkN 0 xx = rkN 0 yy := (lg_cmp_eq _ _).mp c57
          refine lv_iconst (v := 0) hx hb d_Rea_compare_60 (by decide) ?_
          exact rt_i hx hb hrt hlocks (rfl) (()) (by rw [e2]; unfold cpN; rw [if_neg (fun z => z.elim e22 e31), if_pos e57]) (hP.sub [0, 1, 2, 3, 4, 5, 6, 7, 8] rfl) (hK.sub [0, 1, 2] rfl) (hD.sub [0, 1, 2, 3, 4, 5, 6, 7, 8] (by decide) rfl) hS d_Rea_compare_61
      · have e31 : kIN 0 < szN 0 yy := hw.2.mp (hw.1.elim id (fun z => absurd z c31))
        refine lv_iconst (v := 2) hx hb d_Rea_compare_34 (by decide) ?_
        exact rt_i hx hb hrt hlocks (rfl) (()) (by rw [e2]; unfold cpN; rw [if_pos (Or.inr e31)]) (hP.sub [0, 1, 2, 3, 4, 5, 6, 7, 8] rfl) (hK.sub [0, 1, 2] rfl) (hD.sub [0, 1, 2, 3, 4, 5, 6, 7, 8] (by decide) rfl) hS d_Rea_compare_35
