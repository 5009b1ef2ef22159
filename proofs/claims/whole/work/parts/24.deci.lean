theorem d_Dec_init_0 : decode b_Dec_init 0 = .ok (.aload_n 0, 1) := by decide +kernel
theorem d_Dec_init_1 : decode b_Dec_init 1 = .ok (.invokespecial 1, 3) := by decide +kernel
theorem d_Dec_init_4 : decode b_Dec_init 4 = .ok (.aload_n 0, 1) := by decide +kernel
theorem d_Dec_init_5 : decode b_Dec_init 5 = .ok (.new 7, 3) := by decide +kernel
theorem d_Dec_init_8 : decode b_Dec_init 8 = .ok (.dup, 1) := by decide +kernel
theorem d_Dec_init_9 : decode b_Dec_init 9 = .ok (.invokespecial 9, 3) := by decide +kernel
theorem d_Dec_init_12 : decode b_Dec_init 12 = .ok (.putfield 10, 3) := by decide +kernel
theorem d_Dec_init_15 : decode b_Dec_init 15 = .ok (.return_, 1) := by decide +kernel
theorem d_Dec_keepDigit_0 : decode b_Dec_keepDigit 0 = .ok (.aload_n 0, 1) := by decide +kernel
theorem d_Dec_keepDigit_1 : decode b_Dec_keepDigit 1 = .ok (.aload_n 0, 1) := by decide +kernel
theorem d_Dec_keepDigit_2 : decode b_Dec_keepDigit 2 = .ok (.getfield 72, 3) := by decide +kernel
theorem d_Dec_keepDigit_5 : decode b_Dec_keepDigit 5 = .ok (.bipush 10, 2) := by decide +kernel
theorem d_Dec_keepDigit_7 : decode b_Dec_keepDigit 7 = .ok (.imul, 1) := by decide +kernel
theorem d_Dec_keepDigit_8 : decode b_Dec_keepDigit 8 = .ok (.iload_n 1, 1) := by decide +kernel
theorem d_Dec_keepDigit_9 : decode b_Dec_keepDigit 9 = .ok (.iadd, 1) := by decide +kernel
theorem d_Dec_keepDigit_10 : decode b_Dec_keepDigit 10 = .ok (.putfield 72, 3) := by decide +kernel
theorem d_Dec_keepDigit_13 : decode b_Dec_keepDigit 13 = .ok (.aload_n 0, 1) := by decide +kernel
theorem d_Dec_keepDigit_14 : decode b_Dec_keepDigit 14 = .ok (.dup, 1) := by decide +kernel
theorem d_Dec_keepDigit_15 : decode b_Dec_keepDigit 15 = .ok (.getfield 75, 3) := by decide +kernel
theorem d_Dec_keepDigit_18 : decode b_Dec_keepDigit 18 = .ok (.bipush 10, 2) := by decide +kernel
theorem d_Dec_keepDigit_20 : decode b_Dec_keepDigit 20 = .ok (.imul, 1) := by decide +kernel
theorem d_Dec_keepDigit_21 : decode b_Dec_keepDigit 21 = .ok (.putfield 75, 3) := by decide +kernel
theorem d_Dec_keepDigit_24 : decode b_Dec_keepDigit 24 = .ok (.aload_n 0, 1) := by decide +kernel
theorem d_Dec_keepDigit_25 : decode b_Dec_keepDigit 25 = .ok (.dup, 1) := by decide +kernel
theorem d_Dec_keepDigit_26 : decode b_Dec_keepDigit 26 = .ok (.getfield 34, 3) := by decide +kernel
theorem d_Dec_keepDigit_29 : decode b_Dec_keepDigit 29 = .ok (.iconst 1, 1) := by decide +kernel
theorem d_Dec_keepDigit_30 : decode b_Dec_keepDigit 30 = .ok (.iadd, 1) := by decide +kernel
theorem d_Dec_keepDigit_31 : decode b_Dec_keepDigit 31 = .ok (.putfield 34, 3) := by decide +kernel
theorem d_Dec_keepDigit_34 : decode b_Dec_keepDigit 34 = .ok (.aload_n 0, 1) := by decide +kernel
theorem d_Dec_keepDigit_35 : decode b_Dec_keepDigit 35 = .ok (.getfield 75, 3) := by decide +kernel
theorem d_Dec_keepDigit_38 : decode b_Dec_keepDigit 38 = .ok (.ldc 91, 2) := by decide +kernel
theorem d_Dec_keepDigit_40 : decode b_Dec_keepDigit 40 = .ok (.if_icmp .ne 31, 3) := by decide +kernel
theorem d_Dec_keepDigit_43 : decode b_Dec_keepDigit 43 = .ok (.aload_n 0, 1) := by decide +kernel
theorem d_Dec_keepDigit_44 : decode b_Dec_keepDigit 44 = .ok (.getfield 10, 3) := by decide +kernel
theorem d_Dec_keepDigit_47 : decode b_Dec_keepDigit 47 = .ok (.getfield 61, 3) := by decide +kernel
theorem d_Dec_keepDigit_50 : decode b_Dec_keepDigit 50 = .ok (.aload_n 0, 1) := by decide +kernel
theorem d_Dec_keepDigit_51 : decode b_Dec_keepDigit 51 = .ok (.getfield 75, 3) := by decide +kernel
theorem d_Dec_keepDigit_54 : decode b_Dec_keepDigit 54 = .ok (.aload_n 0, 1) := by decide +kernel
theorem d_Dec_keepDigit_55 : decode b_Dec_keepDigit 55 = .ok (.getfield 72, 3) := by decide +kernel
theorem d_Dec_keepDigit_58 : decode b_Dec_keepDigit 58 = .ok (.invokevirtual 87, 3) := by decide +kernel
theorem d_Dec_keepDigit_61 : decode b_Dec_keepDigit 61 = .ok (.aload_n 0, 1) := by decide +kernel
theorem d_Dec_keepDigit_62 : decode b_Dec_keepDigit 62 = .ok (.iconst 0, 1) := by decide +kernel
theorem d_Dec_keepDigit_63 : decode b_Dec_keepDigit 63 = .ok (.putfield 72, 3) := by decide +kernel
theorem d_Dec_keepDigit_66 : decode b_Dec_keepDigit 66 = .ok (.aload_n 0, 1) := by decide +kernel
theorem d_Dec_keepDigit_67 : decode b_Dec_keepDigit 67 = .ok (.iconst 1, 1) := by decide +kernel
theorem d_Dec_keepDigit_68 : decode b_Dec_keepDigit 68 = .ok (.putfield 75, 3) := by decide +kernel
theorem d_Dec_keepDigit_71 : decode b_Dec_keepDigit 71 = .ok (.return_, 1) := by decide +kernel
theorem d_Dec_gather_0 : decode b_Dec_gather 0 = .ok (.aload_n 1, 1) := by decide +kernel
theorem d_Dec_gather_1 : decode b_Dec_gather 1 = .ok (.getfield 68, 3) := by decide +kernel
theorem d_Dec_gather_4 : decode b_Dec_gather 4 = .ok (.astore_n 3, 1) := by decide +kernel
theorem d_Dec_gather_5 : decode b_Dec_gather 5 = .ok (.iconst 0, 1) := by decide +kernel
theorem d_Dec_gather_6 : decode b_Dec_gather 6 = .ok (.istore 4, 2) := by decide +kernel
theorem d_Dec_gather_8 : decode b_Dec_gather 8 = .ok (.iconst 0, 1) := by decide +kernel
theorem d_Dec_gather_9 : decode b_Dec_gather 9 = .ok (.istore 5, 2) := by decide +kernel
theorem d_Dec_gather_11 : decode b_Dec_gather 11 = .ok (.aload_n 0, 1) := by decide +kernel
theorem d_Dec_gather_12 : decode b_Dec_gather 12 = .ok (.getfield 10, 3) := by decide +kernel
theorem d_Dec_gather_15 : decode b_Dec_gather 15 = .ok (.getfield 61, 3) := by decide +kernel
theorem d_Dec_gather_18 : decode b_Dec_gather 18 = .ok (.lconst 0, 1) := by decide +kernel
theorem d_Dec_gather_19 : decode b_Dec_gather 19 = .ok (.invokevirtual 51, 3) := by decide +kernel
theorem d_Dec_gather_22 : decode b_Dec_gather 22 = .ok (.aload_n 0, 1) := by decide +kernel
theorem d_Dec_gather_23 : decode b_Dec_gather 23 = .ok (.iconst 0, 1) := by decide +kernel
theorem d_Dec_gather_24 : decode b_Dec_gather 24 = .ok (.putfield 72, 3) := by decide +kernel
theorem d_Dec_gather_27 : decode b_Dec_gather 27 = .ok (.aload_n 0, 1) := by decide +kernel
theorem d_Dec_gather_28 : decode b_Dec_gather 28 = .ok (.iconst 1, 1) := by decide +kernel
theorem d_Dec_gather_29 : decode b_Dec_gather 29 = .ok (.putfield 75, 3) := by decide +kernel
theorem d_Dec_gather_32 : decode b_Dec_gather 32 = .ok (.aload_n 0, 1) := by decide +kernel
theorem d_Dec_gather_33 : decode b_Dec_gather 33 = .ok (.iconst 0, 1) := by decide +kernel
theorem d_Dec_gather_34 : decode b_Dec_gather 34 = .ok (.putfield 34, 3) := by decide +kernel
theorem d_Dec_gather_37 : decode b_Dec_gather 37 = .ok (.aload_n 0, 1) := by decide +kernel
theorem d_Dec_gather_38 : decode b_Dec_gather 38 = .ok (.iconst 0, 1) := by decide +kernel
theorem d_Dec_gather_39 : decode b_Dec_gather 39 = .ok (.putfield 26, 3) := by decide +kernel
theorem d_Dec_gather_42 : decode b_Dec_gather 42 = .ok (.aload_n 1, 1) := by decide +kernel
theorem d_Dec_gather_43 : decode b_Dec_gather 43 = .ok (.getfield 78, 3) := by decide +kernel
theorem d_Dec_gather_46 : decode b_Dec_gather 46 = .ok (.istore 6, 2) := by decide +kernel
theorem d_Dec_gather_48 : decode b_Dec_gather 48 = .ok (.iload 6, 2) := by decide +kernel
theorem d_Dec_gather_50 : decode b_Dec_gather 50 = .ok (.aload_n 1, 1) := by decide +kernel
theorem d_Dec_gather_51 : decode b_Dec_gather 51 = .ok (.getfield 81, 3) := by decide +kernel
theorem d_Dec_gather_54 : decode b_Dec_gather 54 = .ok (.if_icmp .ge 129, 3) := by decide +kernel
theorem d_Dec_gather_57 : decode b_Dec_gather 57 = .ok (.iload 6, 2) := by decide +kernel
theorem d_Dec_gather_59 : decode b_Dec_gather 59 = .ok (.aload_n 3, 1) := by decide +kernel
theorem d_Dec_gather_60 : decode b_Dec_gather 60 = .ok (.arraylength, 1) := by decide +kernel
theorem d_Dec_gather_61 : decode b_Dec_gather 61 = .ok (.if_icmp .ge 122, 3) := by decide +kernel
theorem d_Dec_gather_64 : decode b_Dec_gather 64 = .ok (.aload_n 3, 1) := by decide +kernel
theorem d_Dec_gather_65 : decode b_Dec_gather 65 = .ok (.iload 6, 2) := by decide +kernel
theorem d_Dec_gather_67 : decode b_Dec_gather 67 = .ok (.caload, 1) := by decide +kernel
theorem d_Dec_gather_68 : decode b_Dec_gather 68 = .ok (.istore 7, 2) := by decide +kernel
theorem d_Dec_gather_70 : decode b_Dec_gather 70 = .ok (.iload 7, 2) := by decide +kernel
theorem d_Dec_gather_72 : decode b_Dec_gather 72 = .ok (.bipush 46, 2) := by decide +kernel
theorem d_Dec_gather_74 : decode b_Dec_gather 74 = .ok (.if_icmp .ne 9, 3) := by decide +kernel
theorem d_Dec_gather_77 : decode b_Dec_gather 77 = .ok (.iconst 1, 1) := by decide +kernel
theorem d_Dec_gather_78 : decode b_Dec_gather 78 = .ok (.istore 4, 2) := by decide +kernel
theorem d_Dec_gather_80 : decode b_Dec_gather 80 = .ok (.goto 97, 3) := by decide +kernel
theorem d_Dec_gather_83 : decode b_Dec_gather 83 = .ok (.aload_n 0, 1) := by decide +kernel
theorem d_Dec_gather_84 : decode b_Dec_gather 84 = .ok (.getfield 34, 3) := by decide +kernel
theorem d_Dec_gather_87 : decode b_Dec_gather 87 = .ok (.ifCond .ne 32, 3) := by decide +kernel
theorem d_Dec_gather_90 : decode b_Dec_gather 90 = .ok (.iload 7, 2) := by decide +kernel
theorem d_Dec_gather_92 : decode b_Dec_gather 92 = .ok (.bipush 48, 2) := by decide +kernel
theorem d_Dec_gather_94 : decode b_Dec_gather 94 = .ok (.if_icmp .ne 25, 3) := by decide +kernel
theorem d_Dec_gather_97 : decode b_Dec_gather 97 = .ok (.aload_n 0, 1) := by decide +kernel
theorem d_Dec_gather_98 : decode b_Dec_gather 98 = .ok (.dup, 1) := by decide +kernel
theorem d_Dec_gather_99 : decode b_Dec_gather 99 = .ok (.getfield 26, 3) := by decide +kernel
theorem d_Dec_gather_102 : decode b_Dec_gather 102 = .ok (.iload 4, 2) := by decide +kernel
theorem d_Dec_gather_104 : decode b_Dec_gather 104 = .ok (.ifCond .eq 7, 3) := by decide +kernel
theorem d_Dec_gather_107 : decode b_Dec_gather 107 = .ok (.iconst 1, 1) := by decide +kernel
theorem d_Dec_gather_108 : decode b_Dec_gather 108 = .ok (.goto 4, 3) := by decide +kernel
theorem d_Dec_gather_111 : decode b_Dec_gather 111 = .ok (.iconst 0, 1) := by decide +kernel
theorem d_Dec_gather_112 : decode b_Dec_gather 112 = .ok (.isub, 1) := by decide +kernel
theorem d_Dec_gather_113 : decode b_Dec_gather 113 = .ok (.putfield 26, 3) := by decide +kernel
theorem d_Dec_gather_116 : decode b_Dec_gather 116 = .ok (.goto 61, 3) := by decide +kernel
theorem d_Dec_gather_119 : decode b_Dec_gather 119 = .ok (.aload_n 0, 1) := by decide +kernel
theorem d_Dec_gather_120 : decode b_Dec_gather 120 = .ok (.dup, 1) := by decide +kernel
theorem d_Dec_gather_121 : decode b_Dec_gather 121 = .ok (.getfield 26, 3) := by decide +kernel
theorem d_Dec_gather_124 : decode b_Dec_gather 124 = .ok (.iload 4, 2) := by decide +kernel
theorem d_Dec_gather_126 : decode b_Dec_gather 126 = .ok (.ifCond .eq 7, 3) := by decide +kernel
theorem d_Dec_gather_129 : decode b_Dec_gather 129 = .ok (.iconst 0, 1) := by decide +kernel
theorem d_Dec_gather_130 : decode b_Dec_gather 130 = .ok (.goto 4, 3) := by decide +kernel
theorem d_Dec_gather_133 : decode b_Dec_gather 133 = .ok (.iconst 1, 1) := by decide +kernel
theorem d_Dec_gather_134 : decode b_Dec_gather 134 = .ok (.iadd, 1) := by decide +kernel
theorem d_Dec_gather_135 : decode b_Dec_gather 135 = .ok (.putfield 26, 3) := by decide +kernel
theorem d_Dec_gather_138 : decode b_Dec_gather 138 = .ok (.aload_n 0, 1) := by decide +kernel
theorem d_Dec_gather_139 : decode b_Dec_gather 139 = .ok (.getfield 34, 3) := by decide +kernel
theorem d_Dec_gather_142 : decode b_Dec_gather 142 = .ok (.iload_n 2, 1) := by decide +kernel
theorem d_Dec_gather_143 : decode b_Dec_gather 143 = .ok (.if_icmp .ge 15, 3) := by decide +kernel
theorem d_Dec_gather_146 : decode b_Dec_gather 146 = .ok (.aload_n 0, 1) := by decide +kernel
theorem d_Dec_gather_147 : decode b_Dec_gather 147 = .ok (.iload 7, 2) := by decide +kernel
theorem d_Dec_gather_149 : decode b_Dec_gather 149 = .ok (.bipush 48, 2) := by decide +kernel
theorem d_Dec_gather_151 : decode b_Dec_gather 151 = .ok (.isub, 1) := by decide +kernel
theorem d_Dec_gather_152 : decode b_Dec_gather 152 = .ok (.invokevirtual 84, 3) := by decide +kernel
theorem d_Dec_gather_155 : decode b_Dec_gather 155 = .ok (.goto 22, 3) := by decide +kernel
theorem d_Dec_gather_158 : decode b_Dec_gather 158 = .ok (.iload 5, 2) := by decide +kernel
theorem d_Dec_gather_160 : decode b_Dec_gather 160 = .ok (.ifCond .ne 10, 3) := by decide +kernel
theorem d_Dec_gather_163 : decode b_Dec_gather 163 = .ok (.iload 7, 2) := by decide +kernel
theorem d_Dec_gather_165 : decode b_Dec_gather 165 = .ok (.bipush 48, 2) := by decide +kernel
theorem d_Dec_gather_167 : decode b_Dec_gather 167 = .ok (.if_icmp .eq 7, 3) := by decide +kernel
theorem d_Dec_gather_170 : decode b_Dec_gather 170 = .ok (.iconst 1, 1) := by decide +kernel
theorem d_Dec_gather_171 : decode b_Dec_gather 171 = .ok (.goto 4, 3) := by decide +kernel
theorem d_Dec_gather_174 : decode b_Dec_gather 174 = .ok (.iconst 0, 1) := by decide +kernel
theorem d_Dec_gather_175 : decode b_Dec_gather 175 = .ok (.istore 5, 2) := by decide +kernel
theorem d_Dec_gather_177 : decode b_Dec_gather 177 = .ok (.iinc 6 1, 3) := by decide +kernel
theorem d_Dec_gather_180 : decode b_Dec_gather 180 = .ok (.goto (-132), 3) := by decide +kernel
theorem d_Dec_gather_183 : decode b_Dec_gather 183 = .ok (.iload 5, 2) := by decide +kernel
theorem d_Dec_gather_185 : decode b_Dec_gather 185 = .ok (.ifCond .eq 8, 3) := by decide +kernel
theorem d_Dec_gather_188 : decode b_Dec_gather 188 = .ok (.aload_n 0, 1) := by decide +kernel
theorem d_Dec_gather_189 : decode b_Dec_gather 189 = .ok (.iconst 1, 1) := by decide +kernel
theorem d_Dec_gather_190 : decode b_Dec_gather 190 = .ok (.invokevirtual 84, 3) := by decide +kernel
theorem d_Dec_gather_193 : decode b_Dec_gather 193 = .ok (.aload_n 0, 1) := by decide +kernel
theorem d_Dec_gather_194 : decode b_Dec_gather 194 = .ok (.getfield 10, 3) := by decide +kernel
theorem d_Dec_gather_197 : decode b_Dec_gather 197 = .ok (.getfield 61, 3) := by decide +kernel
theorem d_Dec_gather_200 : decode b_Dec_gather 200 = .ok (.aload_n 0, 1) := by decide +kernel
theorem d_Dec_gather_201 : decode b_Dec_gather 201 = .ok (.getfield 75, 3) := by decide +kernel
theorem d_Dec_gather_204 : decode b_Dec_gather 204 = .ok (.aload_n 0, 1) := by decide +kernel
theorem d_Dec_gather_205 : decode b_Dec_gather 205 = .ok (.getfield 72, 3) := by decide +kernel
theorem d_Dec_gather_208 : decode b_Dec_gather 208 = .ok (.invokevirtual 87, 3) := by decide +kernel
theorem d_Dec_gather_211 : decode b_Dec_gather 211 = .ok (.return_, 1) := by decide +kernel
theorem d_Dec_nearest_0 : decode b_Dec_nearest 0 = .ok (.aload_n 0, 1) := by decide +kernel
theorem d_Dec_nearest_1 : decode b_Dec_nearest 1 = .ok (.aload_n 1, 1) := by decide +kernel
theorem d_Dec_nearest_2 : decode b_Dec_nearest 2 = .ok (.aload_n 2, 1) := by decide +kernel
theorem d_Dec_nearest_3 : decode b_Dec_nearest 3 = .ok (.getfield 16, 3) := by decide +kernel
theorem d_Dec_nearest_6 : decode b_Dec_nearest 6 = .ok (.invokevirtual 22, 3) := by decide +kernel
theorem d_Dec_nearest_9 : decode b_Dec_nearest 9 = .ok (.aload_n 0, 1) := by decide +kernel
theorem d_Dec_nearest_10 : decode b_Dec_nearest 10 = .ok (.getfield 26, 3) := by decide +kernel
theorem d_Dec_nearest_13 : decode b_Dec_nearest 13 = .ok (.aload_n 1, 1) := by decide +kernel
theorem d_Dec_nearest_14 : decode b_Dec_nearest 14 = .ok (.getfield 29, 3) := by decide +kernel
theorem d_Dec_nearest_17 : decode b_Dec_nearest 17 = .ok (.iadd, 1) := by decide +kernel
theorem d_Dec_nearest_18 : decode b_Dec_nearest 18 = .ok (.istore_n 3, 1) := by decide +kernel
theorem d_Dec_nearest_19 : decode b_Dec_nearest 19 = .ok (.aload_n 0, 1) := by decide +kernel
theorem d_Dec_nearest_20 : decode b_Dec_nearest 20 = .ok (.getfield 34, 3) := by decide +kernel
theorem d_Dec_nearest_23 : decode b_Dec_nearest 23 = .ok (.ifCond .eq 11, 3) := by decide +kernel
theorem d_Dec_nearest_26 : decode b_Dec_nearest 26 = .ok (.iload_n 3, 1) := by decide +kernel
theorem d_Dec_nearest_27 : decode b_Dec_nearest 27 = .ok (.aload_n 2, 1) := by decide +kernel
theorem d_Dec_nearest_28 : decode b_Dec_nearest 28 = .ok (.getfield 37, 3) := by decide +kernel
theorem d_Dec_nearest_31 : decode b_Dec_nearest 31 = .ok (.if_icmp .ge 5, 3) := by decide +kernel
theorem d_Dec_nearest_34 : decode b_Dec_nearest 34 = .ok (.lconst 0, 1) := by decide +kernel
theorem d_Dec_nearest_35 : decode b_Dec_nearest 35 = .ok (.lreturn, 1) := by decide +kernel
theorem d_Dec_nearest_36 : decode b_Dec_nearest 36 = .ok (.iload_n 3, 1) := by decide +kernel
theorem d_Dec_nearest_37 : decode b_Dec_nearest 37 = .ok (.aload_n 2, 1) := by decide +kernel
theorem d_Dec_nearest_38 : decode b_Dec_nearest 38 = .ok (.getfield 40, 3) := by decide +kernel
theorem d_Dec_nearest_41 : decode b_Dec_nearest 41 = .ok (.if_icmp .le 8, 3) := by decide +kernel
theorem d_Dec_nearest_44 : decode b_Dec_nearest 44 = .ok (.aload_n 2, 1) := by decide +kernel
theorem d_Dec_nearest_45 : decode b_Dec_nearest 45 = .ok (.getfield 43, 3) := by decide +kernel
theorem d_Dec_nearest_48 : decode b_Dec_nearest 48 = .ok (.lreturn, 1) := by decide +kernel
theorem d_Dec_nearest_49 : decode b_Dec_nearest 49 = .ok (.aload_n 0, 1) := by decide +kernel
theorem d_Dec_nearest_50 : decode b_Dec_nearest 50 = .ok (.getfield 10, 3) := by decide +kernel
theorem d_Dec_nearest_53 : decode b_Dec_nearest 53 = .ok (.getfield 47, 3) := by decide +kernel
theorem d_Dec_nearest_56 : decode b_Dec_nearest 56 = .ok (.lconst 1, 1) := by decide +kernel
theorem d_Dec_nearest_57 : decode b_Dec_nearest 57 = .ok (.invokevirtual 51, 3) := by decide +kernel
theorem d_Dec_nearest_60 : decode b_Dec_nearest 60 = .ok (.iload_n 3, 1) := by decide +kernel
theorem d_Dec_nearest_61 : decode b_Dec_nearest 61 = .ok (.aload_n 0, 1) := by decide +kernel
theorem d_Dec_nearest_62 : decode b_Dec_nearest 62 = .ok (.getfield 34, 3) := by decide +kernel
theorem d_Dec_nearest_65 : decode b_Dec_nearest 65 = .ok (.isub, 1) := by decide +kernel
theorem d_Dec_nearest_66 : decode b_Dec_nearest 66 = .ok (.istore 4, 2) := by decide +kernel
theorem d_Dec_nearest_68 : decode b_Dec_nearest 68 = .ok (.iload 4, 2) := by decide +kernel
theorem d_Dec_nearest_70 : decode b_Dec_nearest 70 = .ok (.ifCond .ge 19, 3) := by decide +kernel
theorem d_Dec_nearest_73 : decode b_Dec_nearest 73 = .ok (.aload_n 0, 1) := by decide +kernel
theorem d_Dec_nearest_74 : decode b_Dec_nearest 74 = .ok (.getfield 10, 3) := by decide +kernel
theorem d_Dec_nearest_77 : decode b_Dec_nearest 77 = .ok (.getfield 47, 3) := by decide +kernel
theorem d_Dec_nearest_80 : decode b_Dec_nearest 80 = .ok (.iload 4, 2) := by decide +kernel
theorem d_Dec_nearest_82 : decode b_Dec_nearest 82 = .ok (.ineg, 1) := by decide +kernel
theorem d_Dec_nearest_83 : decode b_Dec_nearest 83 = .ok (.invokevirtual 57, 3) := by decide +kernel
theorem d_Dec_nearest_86 : decode b_Dec_nearest 86 = .ok (.goto 15, 3) := by decide +kernel
theorem d_Dec_nearest_89 : decode b_Dec_nearest 89 = .ok (.aload_n 0, 1) := by decide +kernel
theorem d_Dec_nearest_90 : decode b_Dec_nearest 90 = .ok (.getfield 10, 3) := by decide +kernel
theorem d_Dec_nearest_93 : decode b_Dec_nearest 93 = .ok (.getfield 61, 3) := by decide +kernel
theorem d_Dec_nearest_96 : decode b_Dec_nearest 96 = .ok (.iload 4, 2) := by decide +kernel
theorem d_Dec_nearest_98 : decode b_Dec_nearest 98 = .ok (.invokevirtual 57, 3) := by decide +kernel
theorem d_Dec_nearest_101 : decode b_Dec_nearest 101 = .ok (.aload_n 0, 1) := by decide +kernel
theorem d_Dec_nearest_102 : decode b_Dec_nearest 102 = .ok (.getfield 10, 3) := by decide +kernel
theorem d_Dec_nearest_105 : decode b_Dec_nearest 105 = .ok (.aload_n 2, 1) := by decide +kernel
theorem d_Dec_nearest_106 : decode b_Dec_nearest 106 = .ok (.iload 4, 2) := by decide +kernel
theorem d_Dec_nearest_108 : decode b_Dec_nearest 108 = .ok (.invokevirtual 64, 3) := by decide +kernel
theorem d_Dec_nearest_111 : decode b_Dec_nearest 111 = .ok (.lreturn, 1) := by decide +kernel
set_option maxHeartbeats 4000000 in
set_option maxRecDepth 100000 in
theorem c_Dec_keepDigit (l : Launch) (D : va_G) (E : evD) (h q t ta b : Nat) (cA : ClassId) (f : Nat → Int32) (n Vt g gs kp d ex : Nat) (pl : Int32) (hB : isB f n Vt) (hg : g < gs) (he : gs = 10 ^ ex) (he9 : ex < 9) (hd : d ≤ 9) (hfit : (Vt * gs + g) * 10 + d < pw 96) : Cv (S := (Nat → Int32) × Nat × Nat × Nat × Nat) l y_Dec_keepDigit (wz y_Dec_keepDigit b_Dec_keepDigit 2 none) ({ frames := 1, cells := 0, slots := 0, locals := 25 }) D vcl (ev1 E) [.ref h, .int (nI d)] [(cA, .int)] [(h, .inr (1, [.ref q, .int (nI g), .int (nI gs), .int (nI kp), .int pl])), (q, .inr (2, [.ref t, .ref b])), (t, .inr (0, [.ref ta, .int (nI n)])), (ta, .inl (cA, 96, .inl f))] 0 0 (fun u : (Nat → Int32) × Nat × Nat × Nat × Nat => isB u.1 u.2.1 u.2.2.1 ∧ u.2.2.1 * u.2.2.2.2 + u.2.2.2.1 = (Vt * gs + g) * 10 + d ∧ u.2.2.2.1 < u.2.2.2.2 ∧ ∃ e, e < 9 ∧ u.2.2.2.2 = 10 ^ e) (fun _ => [(cA, .int)]) (fun u : (Nat → Int32) × Nat × Nat × Nat × Nat => [(h, .inr (1, [.ref q, .int (nI u.2.2.2.1), .int (nI u.2.2.2.2), .int (nI (kp + 1)), .int pl])), (q, .inr (2, [.ref t, .ref b])), (t, .inr (0, [.ref ta, .int (nI u.2.1)])), (ta, .inl (cA, 96, .inl u.1))]) := by
  have hev := ev1_ok E
  unfold Cv
  refine ct_of (y := y_Dec_keepDigit) (av := [.ref h, .int (nI d)]) (cc := b_Dec_keepDigit) (maxL := 2) (ret := none) (Qc := fun A => va_Qv (S := (Nat → Int32) × Nat × Nat × Nat × Nat) (fun u : (Nat → Int32) × Nat × Nat × Nat × Nat => isB u.1 u.2.1 u.2.2.1 ∧ u.2.2.1 * u.2.2.2.2 + u.2.2.2.1 = (Vt * gs + g) * 10 + d ∧ u.2.2.2.1 < u.2.2.2.2 ∧ ∃ e, e < 9 ∧ u.2.2.2.2 = 10 ^ e) (fun u tS => ctB D vcl ((fun _ => [(cA, .int)]) u) ((fun u : (Nat → Int32) × Nat × Nat × Nat × Nat => [(h, .inr (1, [.ref q, .int (nI u.2.2.2.1), .int (nI u.2.2.2.2), .int (nI (kp + 1)), .int pl])), (q, .inr (2, [.ref t, .ref b])), (t, .inr (0, [.ref ta, .int (nI u.2.1)])), (ta, .inl (cA, 96, .inl u.1))]) u) A tS) A) (by decide) rfl (Nat.le_of_ble_eq_true rfl) ?_
  intro p ee s m below meth cde ls A H locs hx hb hml hrt hlocks hown hin hts hA hP hK hD hS hE hl
  have hown : s.vm.findClass R_Dec = some m.cls := hown
  have hts := wz_g hts
  have hl : lv_has ls 2 [(0, .ref h), (1, .int (nI d))] := hl
  obtain ⟨hgs0, hgs1⟩ := e9 he he9
  have hval : Vt * (gs * 10) + (g * 10 + d) = (Vt * gs + g) * 10 + d := by rw [Nat.add_mul, Nat.mul_assoc]; omega
  refine lv_aload_n hx hb d_Dec_keepDigit_0 rfl (lv_at hl 0 rfl) ?_
  refine lv_aload_n hx hb d_Dec_keepDigit_1 rfl (lv_at hl 0 rfl) ?_
  refine va_get (D := D) (ci := 1) (v := .int (nI g)) (C := R_Dec) (T := F_Dec) (N := 5) hx hb hts w_Dec hown hK hP 0 rfl rfl 1 (by decide) (hts _ kF_Dec_72) (fun _ h9 => h9) rfl d_Dec_keepDigit_2 ?_
  refine lv_bipush (v := 10) hx hb d_Dec_keepDigit_5 (by decide) ?_
  refine lv_imul hx hb d_Dec_keepDigit_7 ?_
  refine lv_iload_n hx hb d_Dec_keepDigit_8 rfl (lv_at hl 1 rfl) ?_
  refine lv_iadd hx hb d_Dec_keepDigit_9 ?_
  refine tv_i (nI (g * 10 + d)) (by show nI g * nI 10 + nI d = _; rw [pk_mul, nI_add]) ?_
  refine va_put (D := D) (ci := 1) (v := .int (nI (g * 10 + d))) (ty := .int) (C := R_Dec) (T := F_Dec) (N := 5) hx hb hts w_Dec t_Dec tk_Dec n_Dec hown hK hP hD hS 0 rfl rfl 1 (by decide) (hts _ kF_Dec_72) (fun _ h9 => h9) rfl (by decide +kernel) (rfl) (rfl) (Nat.le_of_ble_eq_true rfl) d_Dec_keepDigit_10 (fun H locs hP hD hS => ?_)
  have hP : va_P D vcl [(h, .inr (1, [.ref q, .int (nI (g * 10 + d)), .int (nI gs), .int (nI kp), .int pl])), (q, .inr (2, [.ref t, .ref b])), (t, .inr (0, [.ref ta, .int (nI n)])), (ta, .inl (cA, 96, .inl f))] H := hP
  have hD : va_D A [(h, .inr (1, [.ref q, .int (nI (g * 10 + d)), .int (nI gs), .int (nI kp), .int pl])), (q, .inr (2, [.ref t, .ref b])), (t, .inr (0, [.ref ta, .int (nI n)])), (ta, .inl (cA, 96, .inl f))] := hD
  refine lv_aload_n hx hb d_Dec_keepDigit_13 rfl (lv_at hl 0 rfl) ?_
  refine lv_dup hx hb d_Dec_keepDigit_14 rfl ?_
  refine va_get (D := D) (ci := 1) (v := .int (nI gs)) (C := R_Dec) (T := F_Dec) (N := 5) hx hb hts w_Dec hown hK hP 0 rfl rfl 2 (by decide) (hts _ kF_Dec_75) (fun _ h9 => h9) rfl d_Dec_keepDigit_15 ?_
  refine lv_bipush (v := 10) hx hb d_Dec_keepDigit_18 (by decide) ?_
  refine lv_imul hx hb d_Dec_keepDigit_20 ?_
  refine tv_i (nI (gs * 10)) (pk_mul gs 10) ?_
  refine va_put (D := D) (ci := 1) (v := .int (nI (gs * 10))) (ty := .int) (C := R_Dec) (T := F_Dec) (N := 5) hx hb hts w_Dec t_Dec tk_Dec n_Dec hown hK hP hD hS 0 rfl rfl 2 (by decide) (hts _ kF_Dec_75) (fun _ h9 => h9) rfl (by decide +kernel) (rfl) (rfl) (Nat.le_of_ble_eq_true rfl) d_Dec_keepDigit_21 (fun H locs hP hD hS => ?_)
  have hP : va_P D vcl [(h, .inr (1, [.ref q, .int (nI (g * 10 + d)), .int (nI (gs * 10)), .int (nI kp), .int pl])), (q, .inr (2, [.ref t, .ref b])), (t, .inr (0, [.ref ta, .int (nI n)])), (ta, .inl (cA, 96, .inl f))] H := hP
  have hD : va_D A [(h, .inr (1, [.ref q, .int (nI (g * 10 + d)), .int (nI (gs * 10)), .int (nI kp), .int pl])), (q, .inr (2, [.ref t, .ref b])), (t, .inr (0, [.ref ta, .int (nI n)])), (ta, .inl (cA, 96, .inl f))] := hD
  refine lv_aload_n hx hb d_Dec_keepDigit_24 rfl (lv_at hl 0 rfl) ?_
  refine lv_dup hx hb d_Dec_keepDigit_25 rfl ?_
  refine va_get (D := D) (ci := 1) (v := .int (nI kp)) (C := R_Dec) (T := F_Dec) (N := 5) hx hb hts w_Dec hown hK hP 0 rfl rfl 3 (by decide) (hts _ kF_Dec_34) (fun _ h9 => h9) rfl d_Dec_keepDigit_26 ?_
  refine lv_iconst (v := 1) hx hb d_Dec_keepDigit_29 (by decide) ?_
  refine lv_iadd hx hb d_Dec_keepDigit_30 ?_
  refine tv_i (nI (kp + 1)) (nI_1 kp) ?_
  refine va_put (D := D) (ci := 1) (v := .int (nI (kp + 1))) (ty := .int) (C := R_Dec) (T := F_Dec) (N := 5) hx hb hts w_Dec t_Dec tk_Dec n_Dec hown hK hP hD hS 0 rfl rfl 3 (by decide) (hts _ kF_Dec_34) (fun _ h9 => h9) rfl (by decide +kernel) (rfl) (rfl) (Nat.le_of_ble_eq_true rfl) d_Dec_keepDigit_31 (fun H locs hP hD hS => ?_)
  have hP : va_P D vcl [(h, .inr (1, [.ref q, .int (nI (g * 10 + d)), .int (nI (gs * 10)), .int (nI (kp + 1)), .int pl])), (q, .inr (2, [.ref t, .ref b])), (t, .inr (0, [.ref ta, .int (nI n)])), (ta, .inl (cA, 96, .inl f))] H := hP
  have hD : va_D A [(h, .inr (1, [.ref q, .int (nI (g * 10 + d)), .int (nI (gs * 10)), .int (nI (kp + 1)), .int pl])), (q, .inr (2, [.ref t, .ref b])), (t, .inr (0, [.ref ta, .int (nI n)])), (ta, .inl (cA, 96, .inl f))] := hD
  refine lv_aload_n hx hb d_Dec_keepDigit_34 rfl (lv_at hl 0 rfl) ?_
  refine va_get (D := D) (ci := 1) (v := .int (nI (gs * 10))) (C := R_Dec) (T := F_Dec) (N := 5) hx hb hts w_Dec hown hK hP 0 rfl rfl 2 (by decide) (hts _ kF_Dec_75) (fun _ h9 => h9) rfl d_Dec_keepDigit_35 ?_
  refine lv_ldc hx hb hown (hts _ kK_Dec_91) d_Dec_keepDigit_38 ?_
  refine lv_icmp_ne (tgt := 71) hx hb d_Dec_keepDigit_40 (by decide) (fun c40 => ?_) (fun c40 => ?_)
  · have e40 : gs * 10 ≠ 1000000000 := fun z => c40 (by rw [z]; rfl)
    exact rt_v hx hb hrt hlocks ((f, n, Vt, g * 10 + d, gs * 10)) (⟨hB, hval, show g * 10 + d < gs * 10 by omega, _, (e9n he he9 e40).1, (e9n he he9 e40).2⟩) (hP.sub [0, 1, 2, 3] rfl) (hK.sub [0] rfl) (hD.sub [0, 1, 2, 3] (by decide) rfl) hS d_Dec_keepDigit_71
  · have e40 : gs * 10 = 1000000000 := (nI_eq (b := 1000000000) (by omega) (by decide)).mp c40
    refine lv_aload_n hx hb d_Dec_keepDigit_43 rfl (lv_at hl 0 rfl) ?_
    refine va_get (D := D) (ci := 1) (v := .ref q) (C := R_Dec) (T := F_Dec) (N := 5) hx hb hts w_Dec hown hK hP 0 rfl rfl 0 (by decide) (hts _ kF_Dec_10) (fun _ h9 => h9) rfl d_Dec_keepDigit_44 ?_
    refine va_get (D := D) (ci := 2) (v := .ref t) (C := R_Fra) (T := F_Fra) (N := 2) hx hb hts w_Fra hown hK hP 1 rfl rfl 0 (by decide) (hts _ kF_Dec_61) (fun _ h9 => h9) rfl d_Dec_keepDigit_47 ?_
    refine lv_aload_n hx hb d_Dec_keepDigit_50 rfl (lv_at hl 0 rfl) ?_
    refine va_get (D := D) (ci := 1) (v := .int (nI (gs * 10))) (C := R_Dec) (T := F_Dec) (N := 5) hx hb hts w_Dec hown hK hP 0 rfl rfl 2 (by decide) (hts _ kF_Dec_75) (fun _ h9 => h9) rfl d_Dec_keepDigit_51 ?_
    refine lv_aload_n hx hb d_Dec_keepDigit_54 rfl (lv_at hl 0 rfl) ?_
    refine va_get (D := D) (ci := 1) (v := .int (nI (g * 10 + d))) (C := R_Dec) (T := F_Dec) (N := 5) hx hb hts w_Dec hown hK hP 0 rfl rfl 1 (by decide) (hts _ kF_Dec_72) (fun _ h9 => h9) rfl d_Dec_keepDigit_55 ?_
    refine ca_v [(h, .inr (1, [.ref q, .int (nI (g * 10 + d)), .int (nI (gs * 10)), .int (nI (kp + 1)), .int pl])), (q, .inr (2, [.ref t, .ref b]))] (va_runV (As := [.int (nI (gs * 10)), .int (nI (g * 10 + d))]) (rest := []) ⟨hx, hb, hml, hown, hts⟩ (c_Big_timesPlus l D E t ta cA f n Vt (gs * 10) (g * 10 + d) hB (by omega) (by omega) (by omega) (by rw [hval]; exact hfit) H.size) (xV 2 hts kC_Big_timesPlus kM_Dec_87 kI_Big_timesPlus kS_Big_timesPlus kN_Big rfl rfl (by decide +kernel) ⟨Nat.le_of_ble_eq_true rfl, Nat.le_of_ble_eq_true rfl⟩) ⟨ct_blind hev, va_recv hK hP (ci := 0) (q0 := 2) rfl rfl, ct_pre hev hP hK hD hS hA hE [2, 3] rfl (by decide) [0] rfl⟩ rfl rfl hl.1 rfl (lv_room (Nat.le_of_ble_eq_true rfl)) d_Dec_keepDigit_58 ⟨Nat.le_of_ble_eq_true rfl, Nat.le_of_ble_eq_true rfl⟩) hP hD hS hA [2, 3] [0, 1] rfl rfl (by decide) (by decide) (fun u H locs hw hP hD hS hK1 => ?_)
    obtain ⟨f1, n2⟩ := u
    have hB3 : isB f1 n2 (Vt * (gs * 10) + (g * 10 + d)) := hw
    have hP : va_P D vcl [(h, .inr (1, [.ref q, .int (nI (g * 10 + d)), .int (nI (gs * 10)), .int (nI (kp + 1)), .int pl])), (q, .inr (2, [.ref t, .ref b])), (t, .inr (0, [.ref ta, .int (nI n2)])), (ta, .inl (cA, 96, .inl f1))] H := hP
    have hD : va_D A [(h, .inr (1, [.ref q, .int (nI (g * 10 + d)), .int (nI (gs * 10)), .int (nI (kp + 1)), .int pl])), (q, .inr (2, [.ref t, .ref b])), (t, .inr (0, [.ref ta, .int (nI n2)])), (ta, .inl (cA, 96, .inl f1))] := hD
    refine lv_aload_n hx hb d_Dec_keepDigit_61 rfl (lv_at hl 0 rfl) ?_
    refine lv_iconst (v := 0) hx hb d_Dec_keepDigit_62 (by decide) ?_
    refine tv_i (nI 0) (rfl) ?_
    refine va_put (D := D) (ci := 1) (v := .int (nI 0)) (ty := .int) (C := R_Dec) (T := F_Dec) (N := 5) hx hb hts w_Dec t_Dec tk_Dec n_Dec hown hK hP hD hS 0 rfl rfl 1 (by decide) (hts _ kF_Dec_72) (fun _ h9 => h9) rfl (by decide +kernel) (rfl) (rfl) (Nat.le_of_ble_eq_true rfl) d_Dec_keepDigit_63 (fun H locs hP hD hS => ?_)
    have hP : va_P D vcl [(h, .inr (1, [.ref q, .int (nI 0), .int (nI (gs * 10)), .int (nI (kp + 1)), .int pl])), (q, .inr (2, [.ref t, .ref b])), (t, .inr (0, [.ref ta, .int (nI n2)])), (ta, .inl (cA, 96, .inl f1))] H := hP
    have hD : va_D A [(h, .inr (1, [.ref q, .int (nI 0), .int (nI (gs * 10)), .int (nI (kp + 1)), .int pl])), (q, .inr (2, [.ref t, .ref b])), (t, .inr (0, [.ref ta, .int (nI n2)])), (ta, .inl (cA, 96, .inl f1))] := hD
    refine lv_aload_n hx hb d_Dec_keepDigit_66 rfl (lv_at hl 0 rfl) ?_
    refine lv_iconst (v := 1) hx hb d_Dec_keepDigit_67 (by decide) ?_
    refine tv_i (nI 1) (rfl) ?_
    refine va_put (D := D) (ci := 1) (v := .int (nI 1)) (ty := .int) (C := R_Dec) (T := F_Dec) (N := 5) hx hb hts w_Dec t_Dec tk_Dec n_Dec hown hK hP hD hS 0 rfl rfl 2 (by decide) (hts _ kF_Dec_75) (fun _ h9 => h9) rfl (by decide +kernel) (rfl) (rfl) (Nat.le_of_ble_eq_true rfl) d_Dec_keepDigit_68 (fun H locs hP hD hS => ?_)
    have hP : va_P D vcl [(h, .inr (1, [.ref q, .int (nI 0), .int (nI 1), .int (nI (kp + 1)), .int pl])), (q, .inr (2, [.ref t, .ref b])), (t, .inr (0, [.ref ta, .int (nI n2)])), (ta, .inl (cA, 96, .inl f1))] H := hP
    have hD : va_D A [(h, .inr (1, [.ref q, .int (nI 0), .int (nI 1), .int (nI (kp + 1)), .int pl])), (q, .inr (2, [.ref t, .ref b])), (t, .inr (0, [.ref ta, .int (nI n2)])), (ta, .inl (cA, 96, .inl f1))] := hD
    exact rt_v hx hb hrt hlocks ((f1, n2, Vt * (gs * 10) + (g * 10 + d), 0, 1)) (⟨hB3, by rw [hval, Nat.mul_one, Nat.add_zero], show 0 < 1 by decide, 0, by decide, rfl⟩) (hP.sub [0, 1, 2, 3] rfl) (hK.sub [0] rfl) (hD.sub [0, 1, 2, 3] (by decide) rfl) hS d_Dec_keepDigit_71

set_option maxHeartbeats 4000000 in
set_option maxRecDepth 100000 in
theorem c_Dec_gather (l : Launch) (D : va_G) (E : evD) (i : Nat) (hi : i < 2) (h nm x q t ta b : Nat) (cC cA : ClassId) (T : Nat → Nat) (f : Nat → Int32) (nv g0 gs0 kp0 pl0 v1 v2 v3 v4 : Int32) (a b0 : Nat) (pq : Int) (hab : a + 0 ≤ b0) (hb0 : b0 ≤ 2400) (hT : ∀ j, T j < 65536) (hdig : ∀ j, a ≤ j → j < b0 → T j = 46 ∨ (48 ≤ T j ∧ T j ≤ 57)) : Cv (S := (Nat → Int32) × Nat × Nat × Nat × Nat × Nat × Int) l y_Dec_gather (wz y_Dec_gather b_Dec_gather 8 none) ({ frames := 2, cells := 0, slots := 0, locals := 46 }) D vcl (ev1 E) [.ref h, .ref nm, .int (nI (kMd i))] [(cC, .char), (cA, .int)] [(h, .inr (1, [.ref q, .int g0, .int gs0, .int kp0, .int pl0])), (nm, .inr (3, [.ref x, .int v1, .int v2, .int v3, .int v4, .int (nI a), .int (nI b0), .int (zI pq)])), (x, .inl (cC, 2400, .inl (tx T))), (q, .inr (2, [.ref t, .ref b])), (t, .inr (0, [.ref ta, .int nv])), (ta, .inl (cA, 96, .inl f))] 0 0 (fun u : (Nat → Int32) × Nat × Nat × Nat × Nat × Nat × Int => isB u.1 u.2.1 u.2.2.1 ∧ gaOK i (gv 10 T a (b0 - a)) (gf T a (b0 - a)) u.2.2.1 u.2.2.2.2.2.1 u.2.2.2.2.2.2) (fun _ => [(cC, .char), (cA, .int)]) (fun u : (Nat → Int32) × Nat × Nat × Nat × Nat × Nat × Int => [(h, .inr (1, [.ref q, .int (nI u.2.2.2.1), .int (nI u.2.2.2.2.1), .int (nI u.2.2.2.2.2.1), .int (zI u.2.2.2.2.2.2)])), (nm, .inr (3, [.ref x, .int v1, .int v2, .int v3, .int v4, .int (nI a), .int (nI b0), .int (zI pq)])), (x, .inl (cC, 2400, .inl (tx T))), (q, .inr (2, [.ref t, .ref b])), (t, .inr (0, [.ref ta, .int (nI u.2.1)])), (ta, .inl (cA, 96, .inl u.1))]) := by
  have hev := ev1_ok E
  unfold Cv
  refine ct_of (y := y_Dec_gather) (av := [.ref h, .ref nm, .int (nI (kMd i))]) (cc := b_Dec_gather) (maxL := 8) (ret := none) (Qc := fun A => va_Qv (S := (Nat → Int32) × Nat × Nat × Nat × Nat × Nat × Int) (fun u : (Nat → Int32) × Nat × Nat × Nat × Nat × Nat × Int => isB u.1 u.2.1 u.2.2.1 ∧ gaOK i (gv 10 T a (b0 - a)) (gf T a (b0 - a)) u.2.2.1 u.2.2.2.2.2.1 u.2.2.2.2.2.2) (fun u tS => ctB D vcl ((fun _ => [(cC, .char), (cA, .int)]) u) ((fun u : (Nat → Int32) × Nat × Nat × Nat × Nat × Nat × Int => [(h, .inr (1, [.ref q, .int (nI u.2.2.2.1), .int (nI u.2.2.2.2.1), .int (nI u.2.2.2.2.2.1), .int (zI u.2.2.2.2.2.2)])), (nm, .inr (3, [.ref x, .int v1, .int v2, .int v3, .int v4, .int (nI a), .int (nI b0), .int (zI pq)])), (x, .inl (cC, 2400, .inl (tx T))), (q, .inr (2, [.ref t, .ref b])), (t, .inr (0, [.ref ta, .int (nI u.2.1)])), (ta, .inl (cA, 96, .inl u.1))]) u) A tS) A) (by decide) rfl (Nat.le_of_ble_eq_true rfl) ?_
  intro p ee s m below meth cde ls A H locs hx hb hml hrt hlocks hown hin hts hA hP hK hD hS hE hl
  have hown : s.vm.findClass R_Dec = some m.cls := hown
  have hts := wz_g hts
  have hl : lv_has ls 8 [(0, .ref h), (1, .ref nm), (2, .int (nI (kMd i)))] := hl
  obtain ⟨hk1, hk2, hk3, hk4, hk5, hk6, hk7, -⟩ := kP_b i hi
  refine lv_aload_n hx hb d_Dec_gather_0 rfl (lv_at hl 1 rfl) ?_
  refine va_get (D := D) (ci := 3) (v := .ref x) (C := R_Num) (T := F_Num) (N := 8) hx hb hts w_Num hown hK hP 1 rfl rfl 0 (by decide) (hts _ kF_Dec_68) (fun _ h9 => h9) rfl d_Dec_gather_1 ?_
  refine lv_astore_n (lv' := [(3, .ref x), (0, .ref h), (1, .ref nm), (2, .int (nI (kMd i)))]) hx hb d_Dec_gather_4 rfl hl (by decide) rfl (fun ls hl => ?_)
  refine lv_iconst (v := 0) hx hb d_Dec_gather_5 (by decide) ?_
  refine tv_i (bI (gp T a 0)) (rfl) ?_
  refine lv_istore (lv' := [(4, .int (bI (gp T a 0))), (3, .ref x), (0, .ref h), (1, .ref nm), (2, .int (nI (kMd i)))]) hx hb d_Dec_gather_6 hl (by decide) rfl (fun ls hl => ?_)
  refine lv_iconst (v := 0) hx hb d_Dec_gather_8 (by decide) ?_
  refine tv_i (bI (decide (0 ≠ 0))) (rfl) ?_
  refine lv_istore (lv' := [(5, .int (bI (decide (0 ≠ 0)))), (4, .int (bI (gp T a 0))), (3, .ref x), (0, .ref h), (1, .ref nm), (2, .int (nI (kMd i)))]) hx hb d_Dec_gather_9 hl (by decide) rfl (fun ls hl => ?_)
  refine lv_aload_n hx hb d_Dec_gather_11 rfl (lv_at hl 3 rfl) ?_
  refine va_get (D := D) (ci := 1) (v := .ref q) (C := R_Dec) (T := F_Dec) (N := 5) hx hb hts w_Dec hown hK hP 0 rfl rfl 0 (by decide) (hts _ kF_Dec_10) (fun _ h9 => h9) rfl d_Dec_gather_12 ?_
  refine va_get (D := D) (ci := 2) (v := .ref t) (C := R_Fra) (T := F_Fra) (N := 2) hx hb hts w_Fra hown hK hP 3 rfl rfl 0 (by decide) (hts _ kF_Dec_61) (fun _ h9 => h9) rfl d_Dec_gather_15 ?_
  refine lv_lconst (v := 0) hx hb d_Dec_gather_18 (by decide) ?_
  refine tv_l (lN 0) (rfl) ?_
  refine ca_v [(h, .inr (1, [.ref q, .int g0, .int gs0, .int kp0, .int pl0])), (nm, .inr (3, [.ref x, .int v1, .int v2, .int v3, .int v4, .int (nI a), .int (nI b0), .int (zI pq)])), (x, .inl (cC, 2400, .inl (tx T))), (q, .inr (2, [.ref t, .ref b]))] (va_runV (As := [.long (lN 0)]) (rest := []) ⟨hx, hb, hml, hown, hts⟩ (c_Big_set l D E t ta cA f nv 0 (by decide) H.size) (xV 1 hts kC_Big_set kM_Dec_51 kI_Big_set kS_Big_set kN_Big rfl rfl (by decide +kernel) ⟨Nat.le_of_ble_eq_true rfl, Nat.le_of_ble_eq_true rfl⟩) ⟨ct_blind hev, va_recv hK hP (ci := 0) (q0 := 4) rfl rfl, ct_pre hev hP hK hD hS hA hE [4, 5] rfl (by decide) [1] rfl⟩ rfl rfl hl.1 rfl (lv_room (Nat.le_of_ble_eq_true rfl)) d_Dec_gather_19 ⟨Nat.le_of_ble_eq_true rfl, Nat.le_of_ble_eq_true rfl⟩) hP hD hS hA [4, 5] [0, 1, 2, 3] rfl rfl (by decide) (by decide) (fun u H locs hw hP hD hS hK1 => ?_)
  obtain ⟨f1, n2⟩ := u
  have hB3 : isB f1 n2 (0) := hw
  have hP : va_P D vcl [(h, .inr (1, [.ref q, .int g0, .int gs0, .int kp0, .int pl0])), (nm, .inr (3, [.ref x, .int v1, .int v2, .int v3, .int v4, .int (nI a), .int (nI b0), .int (zI pq)])), (x, .inl (cC, 2400, .inl (tx T))), (q, .inr (2, [.ref t, .ref b])), (t, .inr (0, [.ref ta, .int (nI n2)])), (ta, .inl (cA, 96, .inl f1))] H := hP
  have hD : va_D A [(h, .inr (1, [.ref q, .int g0, .int gs0, .int kp0, .int pl0])), (nm, .inr (3, [.ref x, .int v1, .int v2, .int v3, .int v4, .int (nI a), .int (nI b0), .int (zI pq)])), (x, .inl (cC, 2400, .inl (tx T))), (q, .inr (2, [.ref t, .ref b])), (t, .inr (0, [.ref ta, .int (nI n2)])), (ta, .inl (cA, 96, .inl f1))] := hD
  refine lv_aload_n hx hb d_Dec_gather_22 rfl (lv_at hl 3 rfl) ?_
  refine lv_iconst (v := 0) hx hb d_Dec_gather_23 (by decide) ?_
  refine tv_i (nI 0) (rfl) ?_
  refine va_put (D := D) (ci := 1) (v := .int (nI 0)) (ty := .int) (C := R_Dec) (T := F_Dec) (N := 5) hx hb hts w_Dec t_Dec tk_Dec n_Dec hown hK hP hD hS 0 rfl rfl 1 (by decide) (hts _ kF_Dec_72) (fun _ h9 => h9) rfl (by decide +kernel) (rfl) (rfl) (Nat.le_of_ble_eq_true rfl) d_Dec_gather_24 (fun H locs hP hD hS => ?_)
  have hP : va_P D vcl [(h, .inr (1, [.ref q, .int (nI 0), .int gs0, .int kp0, .int pl0])), (nm, .inr (3, [.ref x, .int v1, .int v2, .int v3, .int v4, .int (nI a), .int (nI b0), .int (zI pq)])), (x, .inl (cC, 2400, .inl (tx T))), (q, .inr (2, [.ref t, .ref b])), (t, .inr (0, [.ref ta, .int (nI n2)])), (ta, .inl (cA, 96, .inl f1))] H := hP
  have hD : va_D A [(h, .inr (1, [.ref q, .int (nI 0), .int gs0, .int kp0, .int pl0])), (nm, .inr (3, [.ref x, .int v1, .int v2, .int v3, .int v4, .int (nI a), .int (nI b0), .int (zI pq)])), (x, .inl (cC, 2400, .inl (tx T))), (q, .inr (2, [.ref t, .ref b])), (t, .inr (0, [.ref ta, .int (nI n2)])), (ta, .inl (cA, 96, .inl f1))] := hD
  refine lv_aload_n hx hb d_Dec_gather_27 rfl (lv_at hl 3 rfl) ?_
  refine lv_iconst (v := 1) hx hb d_Dec_gather_28 (by decide) ?_
  refine tv_i (nI 1) (rfl) ?_
  refine va_put (D := D) (ci := 1) (v := .int (nI 1)) (ty := .int) (C := R_Dec) (T := F_Dec) (N := 5) hx hb hts w_Dec t_Dec tk_Dec n_Dec hown hK hP hD hS 0 rfl rfl 2 (by decide) (hts _ kF_Dec_75) (fun _ h9 => h9) rfl (by decide +kernel) (rfl) (rfl) (Nat.le_of_ble_eq_true rfl) d_Dec_gather_29 (fun H locs hP hD hS => ?_)
  have hP : va_P D vcl [(h, .inr (1, [.ref q, .int (nI 0), .int (nI 1), .int kp0, .int pl0])), (nm, .inr (3, [.ref x, .int v1, .int v2, .int v3, .int v4, .int (nI a), .int (nI b0), .int (zI pq)])), (x, .inl (cC, 2400, .inl (tx T))), (q, .inr (2, [.ref t, .ref b])), (t, .inr (0, [.ref ta, .int (nI n2)])), (ta, .inl (cA, 96, .inl f1))] H := hP
  have hD : va_D A [(h, .inr (1, [.ref q, .int (nI 0), .int (nI 1), .int kp0, .int pl0])), (nm, .inr (3, [.ref x, .int v1, .int v2, .int v3, .int v4, .int (nI a), .int (nI b0), .int (zI pq)])), (x, .inl (cC, 2400, .inl (tx T))), (q, .inr (2, [.ref t, .ref b])), (t, .inr (0, [.ref ta, .int (nI n2)])), (ta, .inl (cA, 96, .inl f1))] := hD
  refine lv_aload_n hx hb d_Dec_gather_32 rfl (lv_at hl 3 rfl) ?_
  refine lv_iconst (v := 0) hx hb d_Dec_gather_33 (by decide) ?_
  refine tv_i (nI 0) (rfl) ?_
  refine va_put (D := D) (ci := 1) (v := .int (nI 0)) (ty := .int) (C := R_Dec) (T := F_Dec) (N := 5) hx hb hts w_Dec t_Dec tk_Dec n_Dec hown hK hP hD hS 0 rfl rfl 3 (by decide) (hts _ kF_Dec_34) (fun _ h9 => h9) rfl (by decide +kernel) (rfl) (rfl) (Nat.le_of_ble_eq_true rfl) d_Dec_gather_34 (fun H locs hP hD hS => ?_)
  have hP : va_P D vcl [(h, .inr (1, [.ref q, .int (nI 0), .int (nI 1), .int (nI 0), .int pl0])), (nm, .inr (3, [.ref x, .int v1, .int v2, .int v3, .int v4, .int (nI a), .int (nI b0), .int (zI pq)])), (x, .inl (cC, 2400, .inl (tx T))), (q, .inr (2, [.ref t, .ref b])), (t, .inr (0, [.ref ta, .int (nI n2)])), (ta, .inl (cA, 96, .inl f1))] H := hP
  have hD : va_D A [(h, .inr (1, [.ref q, .int (nI 0), .int (nI 1), .int (nI 0), .int pl0])), (nm, .inr (3, [.ref x, .int v1, .int v2, .int v3, .int v4, .int (nI a), .int (nI b0), .int (zI pq)])), (x, .inl (cC, 2400, .inl (tx T))), (q, .inr (2, [.ref t, .ref b])), (t, .inr (0, [.ref ta, .int (nI n2)])), (ta, .inl (cA, 96, .inl f1))] := hD
  refine lv_aload_n hx hb d_Dec_gather_37 rfl (lv_at hl 3 rfl) ?_
  refine lv_iconst (v := 0) hx hb d_Dec_gather_38 (by decide) ?_
  refine tv_i (zI (((0 : Nat) : Int) + ((0 : Nat) : Int) - gf T a 0)) (rfl) ?_
  refine va_put (D := D) (ci := 1) (v := .int (zI (((0 : Nat) : Int) + ((0 : Nat) : Int) - gf T a 0))) (ty := .int) (C := R_Dec) (T := F_Dec) (N := 5) hx hb hts w_Dec t_Dec tk_Dec n_Dec hown hK hP hD hS 0 rfl rfl 4 (by decide) (hts _ kF_Dec_26) (fun _ h9 => h9) rfl (by decide +kernel) (rfl) (rfl) (Nat.le_of_ble_eq_true rfl) d_Dec_gather_39 (fun H locs hP hD hS => ?_)
  have hP : va_P D vcl [(h, .inr (1, [.ref q, .int (nI 0), .int (nI 1), .int (nI 0), .int (zI (((0 : Nat) : Int) + ((0 : Nat) : Int) - gf T a 0))])), (nm, .inr (3, [.ref x, .int v1, .int v2, .int v3, .int v4, .int (nI a), .int (nI b0), .int (zI pq)])), (x, .inl (cC, 2400, .inl (tx T))), (q, .inr (2, [.ref t, .ref b])), (t, .inr (0, [.ref ta, .int (nI n2)])), (ta, .inl (cA, 96, .inl f1))] H := hP
  have hD : va_D A [(h, .inr (1, [.ref q, .int (nI 0), .int (nI 1), .int (nI 0), .int (zI (((0 : Nat) : Int) + ((0 : Nat) : Int) - gf T a 0))])), (nm, .inr (3, [.ref x, .int v1, .int v2, .int v3, .int v4, .int (nI a), .int (nI b0), .int (zI pq)])), (x, .inl (cC, 2400, .inl (tx T))), (q, .inr (2, [.ref t, .ref b])), (t, .inr (0, [.ref ta, .int (nI n2)])), (ta, .inl (cA, 96, .inl f1))] := hD
  refine lv_aload_n hx hb d_Dec_gather_42 rfl (lv_at hl 4 rfl) ?_
  refine va_get (D := D) (ci := 3) (v := .int (nI a)) (C := R_Num) (T := F_Num) (N := 8) hx hb hts w_Num hown hK hP 1 rfl rfl 5 (by decide) (hts _ kF_Dec_78) (fun _ h9 => h9) rfl d_Dec_gather_43 ?_
  refine lv_istore (lv' := [(6, .int (nI a)), (5, .int (bI (decide (0 ≠ 0)))), (4, .int (bI (gp T a 0))), (3, .ref x), (0, .ref h), (1, .ref nm), (2, .int (nI (kMd i)))]) hx hb d_Dec_gather_46 hl (by decide) rfl (fun ls hl => ?_)
  have L40 : ∀ (kk : Nat) (n : Nat) (ft : Nat → Int32) (nt : Nat) (Vt : Nat) (g : Nat) (gs : Nat) (kp : Nat) (r : Nat) (tl : Nat), b0 - (a + n) < kk → (a + n ≤ b0) → (isB ft nt Vt) → (∃ e, e < 9 ∧ gs = 10 ^ e) → (g < gs) → (gv 10 T a n = (Vt * gs + g) * 10 ^ r + tl) → (tl < 10 ^ r) → (kp ≤ kMd i) → (kp < kMd i → r = 0) → (Vt * gs + g < 10 ^ kp) → (0 < kp → 10 ^ (kp - 1) ≤ Vt * gs + g) → (kp + r ≤ n) → ∀ (H : Heap) (locs : List Loc) (ls : Array Slot), va_P D vcl [(h, .inr (1, [.ref q, .int (nI g), .int (nI gs), .int (nI kp), .int (zI ((kp : Int) + r - gf T a n))])), (nm, .inr (3, [.ref x, .int v1, .int v2, .int v3, .int v4, .int (nI a), .int (nI b0), .int (zI pq)])), (x, .inl (cC, 2400, .inl (tx T))), (q, .inr (2, [.ref t, .ref b])), (t, .inr (0, [.ref ta, .int (nI nt)])), (ta, .inl (cA, 96, .inl ft))] H → va_D A [(h, .inr (1, [.ref q, .int (nI g), .int (nI gs), .int (nI kp), .int (zI ((kp : Int) + r - gf T a n))])), (nm, .inr (3, [.ref x, .int v1, .int v2, .int v3, .int v4, .int (nI a), .int (nI b0), .int (zI pq)])), (x, .inl (cC, 2400, .inl (tx T))), (q, .inr (2, [.ref t, .ref b])), (t, .inr (0, [.ref ta, .int (nI nt)])), (ta, .inl (cA, 96, .inl ft))] → va_S A s.heap H locs → lv_has ls 8 [(0, .ref h), (1, .ref nm), (2, .int (nI (kMd i))), (3, .ref x), (4, .int (bI (gp T a n))), (5, .int (bI (decide (tl ≠ 0)))), (6, .int (nI (a + n)))] → W p l ee ({ frames := 2, cells := 0, slots := 0, locals := 46 }) s m ([.ref h, .ref nm, .int (nI (kMd i))] : List Value).toArray below meth cde H locs 0 0 (MQ below (va_Qv (S := (Nat → Int32) × Nat × Nat × Nat × Nat × Nat × Int) (fun u : (Nat → Int32) × Nat × Nat × Nat × Nat × Nat × Int => isB u.1 u.2.1 u.2.2.1 ∧ gaOK i (gv 10 T a (b0 - a)) (gf T a (b0 - a)) u.2.2.1 u.2.2.2.2.2.1 u.2.2.2.2.2.2) (fun u tS => ctB D vcl ((fun _ => [(cC, .char), (cA, .int)]) u) ((fun u : (Nat → Int32) × Nat × Nat × Nat × Nat × Nat × Int => [(h, .inr (1, [.ref q, .int (nI u.2.2.2.1), .int (nI u.2.2.2.2.1), .int (nI u.2.2.2.2.2.1), .int (zI u.2.2.2.2.2.2)])), (nm, .inr (3, [.ref x, .int v1, .int v2, .int v3, .int v4, .int (nI a), .int (nI b0), .int (zI pq)])), (x, .inl (cC, 2400, .inl (tx T))), (q, .inr (2, [.ref t, .ref b])), (t, .inr (0, [.ref ta, .int (nI u.2.1)])), (ta, .inl (cA, 96, .inl u.1))]) u) A tS) A) ([.ref h, .ref nm, .int (nI (kMd i))] : List Value).toArray s 0 0 A) (F0 m 48 ls []) := by
    intro kk
    induction kk with
    | zero => intro n ft nt Vt g gs kp r tl hmz; exact absurd hmz (Nat.not_lt_zero _)
    | succ kk ih =>
      intro n ft nt Vt g gs kp r tl hmz hn hB hex hg hM ht hk hr hKl h1 hkr H locs ls hP hD hS hl
      obtain ⟨ex, he9, he⟩ := hex
      obtain ⟨hgs0, hgs1⟩ := e9 he he9
      have hTc := hT (a + n)
      refine lv_iload hx hb d_Dec_gather_48 (lv_at hl 6 rfl) ?_
      refine lv_aload_n hx hb d_Dec_gather_50 rfl (lv_at hl 1 rfl) ?_
      refine va_get (D := D) (ci := 3) (v := .int (nI b0)) (C := R_Num) (T := F_Num) (N := 8) hx hb hts w_Num hown hK hP 1 rfl rfl 6 (by decide) (hts _ kF_Dec_81) (fun _ h9 => h9) rfl d_Dec_gather_51 ?_
      refine lv_icmp_ge (tgt := 183) hx hb d_Dec_gather_54 (by decide) (fun c54 => ?_) (fun c54 => ?_)
      · have e43 : b0 ≤ a + n := (nI_leI (by omega) (by omega)).mp c54
        have hnn : n = b0 - a := by omega
        refine lv_iload hx hb d_Dec_gather_183 (lv_at hl 5 rfl) ?_
        refine lv_if_eq (tgt := 193) hx hb d_Dec_gather_185 (by decide) (fun c185 => ?_) (fun c185 => ?_)
        · have e180 : tl = 0 := by have h9 : ¬ tl ≠ 0 := of_decide_eq_false ((bI_0 _).mp c185); omega
          rw [e180] at hM
          rw [hnn] at hM
          refine lv_aload_n hx hb d_Dec_gather_193 rfl (lv_at hl 0 rfl) ?_
          refine va_get (D := D) (ci := 1) (v := .ref q) (C := R_Dec) (T := F_Dec) (N := 5) hx hb hts w_Dec hown hK hP 0 rfl rfl 0 (by decide) (hts _ kF_Dec_10) (fun _ h9 => h9) rfl d_Dec_gather_194 ?_
          refine va_get (D := D) (ci := 2) (v := .ref t) (C := R_Fra) (T := F_Fra) (N := 2) hx hb hts w_Fra hown hK hP 3 rfl rfl 0 (by decide) (hts _ kF_Dec_61) (fun _ h9 => h9) rfl d_Dec_gather_197 ?_
          refine lv_aload_n hx hb d_Dec_gather_200 rfl (lv_at hl 0 rfl) ?_
          refine va_get (D := D) (ci := 1) (v := .int (nI gs)) (C := R_Dec) (T := F_Dec) (N := 5) hx hb hts w_Dec hown hK hP 0 rfl rfl 2 (by decide) (hts _ kF_Dec_75) (fun _ h9 => h9) rfl d_Dec_gather_201 ?_
          refine lv_aload_n hx hb d_Dec_gather_204 rfl (lv_at hl 0 rfl) ?_
          refine va_get (D := D) (ci := 1) (v := .int (nI g)) (C := R_Dec) (T := F_Dec) (N := 5) hx hb hts w_Dec hown hK hP 0 rfl rfl 1 (by decide) (hts _ kF_Dec_72) (fun _ h9 => h9) rfl d_Dec_gather_205 ?_
          refine ca_v [(h, .inr (1, [.ref q, .int (nI g), .int (nI gs), .int (nI kp), .int (zI ((kp : Int) + r - gf T a n))])), (nm, .inr (3, [.ref x, .int v1, .int v2, .int v3, .int v4, .int (nI a), .int (nI b0), .int (zI pq)])), (x, .inl (cC, 2400, .inl (tx T))), (q, .inr (2, [.ref t, .ref b]))] (va_runV (As := [.int (nI gs), .int (nI g)]) (rest := []) ⟨hx, hb, hml, hown, hts⟩ (c_Big_timesPlus l D E t ta cA ft nt Vt gs g hB (by have := e9 he he9; omega) (by have := e9 he he9; omega) (by have := e9 he he9; have := hg; omega) (fit10 hKl (by omega)) H.size) (xV 2 hts kC_Big_timesPlus kM_Dec_87 kI_Big_timesPlus kS_Big_timesPlus kN_Big rfl rfl (by decide +kernel) ⟨Nat.le_of_ble_eq_true rfl, Nat.le_of_ble_eq_true rfl⟩) ⟨ct_blind hev, va_recv hK hP (ci := 0) (q0 := 4) rfl rfl, ct_pre hev hP hK hD hS hA hE [4, 5] rfl (by decide) [1] rfl⟩ rfl rfl hl.1 rfl (lv_room (Nat.le_of_ble_eq_true rfl)) d_Dec_gather_208 ⟨Nat.le_of_ble_eq_true rfl, Nat.le_of_ble_eq_true rfl⟩) hP hD hS hA [4, 5] [0, 1, 2, 3] rfl rfl (by decide) (by decide) (fun u H locs hw hP hD hS hK1 => ?_)
          obtain ⟨f4, n5⟩ := u
          have hB6 : isB f4 n5 (Vt * gs + g) := hw
          have hP : va_P D vcl [(h, .inr (1, [.ref q, .int (nI g), .int (nI gs), .int (nI kp), .int (zI ((kp : Int) + r - gf T a n))])), (nm, .inr (3, [.ref x, .int v1, .int v2, .int v3, .int v4, .int (nI a), .int (nI b0), .int (zI pq)])), (x, .inl (cC, 2400, .inl (tx T))), (q, .inr (2, [.ref t, .ref b])), (t, .inr (0, [.ref ta, .int (nI n5)])), (ta, .inl (cA, 96, .inl f4))] H := hP
          have hD : va_D A [(h, .inr (1, [.ref q, .int (nI g), .int (nI gs), .int (nI kp), .int (zI ((kp : Int) + r - gf T a n))])), (nm, .inr (3, [.ref x, .int v1, .int v2, .int v3, .int v4, .int (nI a), .int (nI b0), .int (zI pq)])), (x, .inl (cC, 2400, .inl (tx T))), (q, .inr (2, [.ref t, .ref b])), (t, .inr (0, [.ref ta, .int (nI n5)])), (ta, .inl (cA, 96, .inl f4))] := hD
          exact rt_v hx hb hrt hlocks ((f4, n5, Vt * gs + g, g, gs, kp, (kp : Int) + r - gf T a n)) (⟨hB6, by have h9 := ga_no (i := i) (fr := gf T a (b0 - a)) hM hKl h1 hk (by omega) (by have := gf_le T a (b0 - a); omega); rw [hnn]; exact h9⟩) (hP.sub [0, 1, 2, 3, 4, 5] rfl) (hK.sub [0, 1] rfl) (hD.sub [0, 1, 2, 3, 4, 5] (by decide) rfl) hS d_Dec_gather_211
        · have e180 : tl ≠ 0 := of_decide_eq_true (tt_of (fun z => c185 ((bI_0 _).mpr z)))
          rw [hnn] at hM
          refine lv_aload_n hx hb d_Dec_gather_188 rfl (lv_at hl 0 rfl) ?_
          refine lv_iconst (v := 1) hx hb d_Dec_gather_189 (by decide) ?_
          refine tv_i (nI 1) (rfl) ?_
          refine ca_v [(nm, .inr (3, [.ref x, .int v1, .int v2, .int v3, .int v4, .int (nI a), .int (nI b0), .int (zI pq)])), (x, .inl (cC, 2400, .inl (tx T)))] (va_runV (As := [.int (nI 1)]) (rest := []) ⟨hx, hb, hml, hown, hts⟩ (c_Dec_keepDigit l D E h q t ta b cA ft nt Vt g gs kp 1 ex (zI ((kp : Int) + r - gf T a n)) hB hg he he9 (by decide) (fit10 (kd_step (d := 1) hKl h1 (by decide) (fun _ => by decide)).1 (by omega)) H.size) (xV 1 hts kC_Dec_keepDigit kM_Dec_84 kI_Dec_keepDigit kS_Dec_keepDigit kN_Dec rfl rfl (by decide +kernel) ⟨Nat.le_of_ble_eq_true rfl, Nat.le_of_ble_eq_true rfl⟩) ⟨ct_blind hev, va_recv hK hP (ci := 1) (q0 := 0) rfl rfl, ct_pre hev hP hK hD hS hA hE [0, 3, 4, 5] rfl (by decide) [1] rfl⟩ rfl rfl hl.1 rfl (lv_room (Nat.le_of_ble_eq_true rfl)) d_Dec_gather_190 ⟨Nat.le_of_ble_eq_true rfl, Nat.le_of_ble_eq_true rfl⟩) hP hD hS hA [0, 3, 4, 5] [1, 2] rfl rfl (by decide) (by decide) (fun u H locs hw hP hD hS hK1 => ?_)
          obtain ⟨f7, n7, V7, g7, gs7⟩ := u
          obtain ⟨hB7, hv7, hg7, ex7, hx7, he7⟩ := hw
          have hB7 : isB f7 n7 V7 := hB7
          have hv7 : V7 * gs7 + g7 = (Vt * gs + g) * 10 + 1 := hv7
          have hg7 : g7 < gs7 := hg7
          have he7 : gs7 = 10 ^ ex7 := he7
          have hP : va_P D vcl [(nm, .inr (3, [.ref x, .int v1, .int v2, .int v3, .int v4, .int (nI a), .int (nI b0), .int (zI pq)])), (x, .inl (cC, 2400, .inl (tx T))), (h, .inr (1, [.ref q, .int (nI g7), .int (nI gs7), .int (nI (kp + 1)), .int (zI ((kp : Int) + r - gf T a n))])), (q, .inr (2, [.ref t, .ref b])), (t, .inr (0, [.ref ta, .int (nI n7)])), (ta, .inl (cA, 96, .inl f7))] H := hP
          have hD : va_D A [(nm, .inr (3, [.ref x, .int v1, .int v2, .int v3, .int v4, .int (nI a), .int (nI b0), .int (zI pq)])), (x, .inl (cC, 2400, .inl (tx T))), (h, .inr (1, [.ref q, .int (nI g7), .int (nI gs7), .int (nI (kp + 1)), .int (zI ((kp : Int) + r - gf T a n))])), (q, .inr (2, [.ref t, .ref b])), (t, .inr (0, [.ref ta, .int (nI n7)])), (ta, .inl (cA, 96, .inl f7))] := hD
          refine lv_aload_n hx hb d_Dec_gather_193 rfl (lv_at hl 0 rfl) ?_
          refine va_get (D := D) (ci := 1) (v := .ref q) (C := R_Dec) (T := F_Dec) (N := 5) hx hb hts w_Dec hown hK hP 2 rfl rfl 0 (by decide) (hts _ kF_Dec_10) (fun _ h9 => h9) rfl d_Dec_gather_194 ?_
          refine va_get (D := D) (ci := 2) (v := .ref t) (C := R_Fra) (T := F_Fra) (N := 2) hx hb hts w_Fra hown hK hP 3 rfl rfl 0 (by decide) (hts _ kF_Dec_61) (fun _ h9 => h9) rfl d_Dec_gather_197 ?_
          refine lv_aload_n hx hb d_Dec_gather_200 rfl (lv_at hl 0 rfl) ?_
          refine va_get (D := D) (ci := 1) (v := .int (nI gs7)) (C := R_Dec) (T := F_Dec) (N := 5) hx hb hts w_Dec hown hK hP 2 rfl rfl 2 (by decide) (hts _ kF_Dec_75) (fun _ h9 => h9) rfl d_Dec_gather_201 ?_
          refine lv_aload_n hx hb d_Dec_gather_204 rfl (lv_at hl 0 rfl) ?_
          refine va_get (D := D) (ci := 1) (v := .int (nI g7)) (C := R_Dec) (T := F_Dec) (N := 5) hx hb hts w_Dec hown hK hP 2 rfl rfl 1 (by decide) (hts _ kF_Dec_72) (fun _ h9 => h9) rfl d_Dec_gather_205 ?_
          refine ca_v [(nm, .inr (3, [.ref x, .int v1, .int v2, .int v3, .int v4, .int (nI a), .int (nI b0), .int (zI pq)])), (x, .inl (cC, 2400, .inl (tx T))), (h, .inr (1, [.ref q, .int (nI g7), .int (nI gs7), .int (nI (kp + 1)), .int (zI ((kp : Int) + r - gf T a n))])), (q, .inr (2, [.ref t, .ref b]))] (va_runV (As := [.int (nI gs7), .int (nI g7)]) (rest := []) ⟨hx, hb, hml, hown, hts⟩ (c_Big_timesPlus l D E t ta cA f7 n7 V7 gs7 g7 hB7 (by have := e9 he7 hx7; omega) (by have := e9 he7 hx7; omega) (by have := e9 he7 hx7; have := hg7; omega) (by rw [hv7]; exact fit10 (kd_step (d := 1) hKl h1 (by decide) (fun _ => by decide)).1 (by omega)) H.size) (xV 2 hts kC_Big_timesPlus kM_Dec_87 kI_Big_timesPlus kS_Big_timesPlus kN_Big rfl rfl (by decide +kernel) ⟨Nat.le_of_ble_eq_true rfl, Nat.le_of_ble_eq_true rfl⟩) ⟨ct_blind hev, va_recv hK hP (ci := 0) (q0 := 4) rfl rfl, ct_pre hev hP hK hD hS hA hE [4, 5] rfl (by decide) [1] rfl⟩ rfl rfl hl.1 rfl (lv_room (Nat.le_of_ble_eq_true rfl)) d_Dec_gather_208 ⟨Nat.le_of_ble_eq_true rfl, Nat.le_of_ble_eq_true rfl⟩) hP hD hS hA [4, 5] [0, 1, 2, 3] rfl rfl (by decide) (by decide) (fun u H locs hw hP hD hS hK1 => ?_)
          obtain ⟨f8, n9⟩ := u
          have hB10 : isB f8 n9 (V7 * gs7 + g7) := hw
          have hP : va_P D vcl [(nm, .inr (3, [.ref x, .int v1, .int v2, .int v3, .int v4, .int (nI a), .int (nI b0), .int (zI pq)])), (x, .inl (cC, 2400, .inl (tx T))), (h, .inr (1, [.ref q, .int (nI g7), .int (nI gs7), .int (nI (kp + 1)), .int (zI ((kp : Int) + r - gf T a n))])), (q, .inr (2, [.ref t, .ref b])), (t, .inr (0, [.ref ta, .int (nI n9)])), (ta, .inl (cA, 96, .inl f8))] H := hP
          have hD : va_D A [(nm, .inr (3, [.ref x, .int v1, .int v2, .int v3, .int v4, .int (nI a), .int (nI b0), .int (zI pq)])), (x, .inl (cC, 2400, .inl (tx T))), (h, .inr (1, [.ref q, .int (nI g7), .int (nI gs7), .int (nI (kp + 1)), .int (zI ((kp : Int) + r - gf T a n))])), (q, .inr (2, [.ref t, .ref b])), (t, .inr (0, [.ref ta, .int (nI n9)])), (ta, .inl (cA, 96, .inl f8))] := hD
          exact rt_v hx hb hrt hlocks ((f8, n9, V7 * gs7 + g7, g7, gs7, (kp + 1), (kp : Int) + r - gf T a n)) (⟨hB10, by have h9 := ga_more (i := i) (fr := gf T a (b0 - a)) hi hM ht e180 hKl h1 hk hr (by omega) (by have := gf_le T a (b0 - a); omega); rw [hnn]; show gaOK i _ _ (_ * _ + _) _ _; rw [hv7]; exact h9⟩) (hP.sub [2, 0, 1, 3, 4, 5] rfl) (hK.sub [0, 1] rfl) (hD.sub [2, 0, 1, 3, 4, 5] (by decide) rfl) hS d_Dec_gather_211
      · have e43 : a + n < b0 := Nat.lt_of_not_le (fun z => c54 ((nI_leI (by omega) (by omega)).mpr z))
        refine lv_iload hx hb d_Dec_gather_57 (lv_at hl 6 rfl) ?_
        refine lv_aload_n hx hb d_Dec_gather_59 rfl (lv_at hl 3 rfl) ?_
        refine va_alen hx hb hK hP 2 0 rfl rfl (v := 2400) rfl d_Dec_gather_60 ?_
        refine lv_icmp_ge (tgt := 183) hx hb d_Dec_gather_61 (by decide) (fun c61 => ?_) (fun c61 => ?_)
        · exact absurd ((nI_leI (a := 2400) (by decide) (by omega)).mp c61) (by omega)
        · refine lv_aload_n hx hb d_Dec_gather_64 rfl (lv_at hl 3 rfl) ?_
          refine lv_iload hx hb d_Dec_gather_65 (lv_at hl 6 rfl) ?_
          refine va_cald hx hb hK hP 2 0 rfl rfl (i := nI (a + n)) (vp_in_nI (show a + n < 2400 by omega) (by decide)) d_Dec_gather_67 ?_
          refine tv_i (nI (T (a + n))) (by rw [nI_clamp (by omega)]; rfl) ?_
          refine lv_istore (lv' := [(7, .int (nI (T (a + n)))), (0, .ref h), (1, .ref nm), (2, .int (nI (kMd i))), (3, .ref x), (4, .int (bI (gp T a n))), (5, .int (bI (decide (tl ≠ 0)))), (6, .int (nI (a + n)))]) hx hb d_Dec_gather_68 hl (by decide) rfl (fun ls hl => ?_)
          refine lv_iload hx hb d_Dec_gather_70 (lv_at hl 0 rfl) ?_
          refine lv_bipush (v := 46) hx hb d_Dec_gather_72 (by decide) ?_
          refine lv_icmp_ne (tgt := 83) hx hb d_Dec_gather_74 (by decide) (fun c74 => ?_) (fun c74 => ?_)
          · have e69 : T (a + n) ≠ 46 := fun z => c74 (by rw [z]; rfl)
            obtain ⟨hc1, hc2⟩ := (hdig (a + n) (by omega) (by omega)).resolve_left e69
            have hdg := dg10 hc1 hc2
            rw [← gp_dg e69] at hl
            refine lv_aload_n hx hb d_Dec_gather_83 rfl (lv_at hl 1 rfl) ?_
            refine va_get (D := D) (ci := 1) (v := .int (nI kp)) (C := R_Dec) (T := F_Dec) (N := 5) hx hb hts w_Dec hown hK hP 0 rfl rfl 3 (by decide) (hts _ kF_Dec_34) (fun _ h9 => h9) rfl d_Dec_gather_84 ?_
            refine lv_if_ne (tgt := 119) hx hb d_Dec_gather_87 (by decide) (fun c87 => ?_) (fun c87 => ?_)
            · have e82 : kp ≠ 0 := fun z => c87 (by rw [z]; rfl)
              have hz0 : kp = 0 → T (a + n) - 48 ≠ 0 := fun z => absurd z e82
              refine lv_aload_n hx hb d_Dec_gather_119 rfl (lv_at hl 1 rfl) ?_
              refine lv_dup hx hb d_Dec_gather_120 rfl ?_
              refine va_get (D := D) (ci := 1) (v := .int (zI ((kp : Int) + r - gf T a n))) (C := R_Dec) (T := F_Dec) (N := 5) hx hb hts w_Dec hown hK hP 0 rfl rfl 4 (by decide) (hts _ kF_Dec_26) (fun _ h9 => h9) rfl d_Dec_gather_121 ?_
              refine lv_iload hx hb d_Dec_gather_124 (lv_at hl 5 rfl) ?_
              refine lv_if_eq (tgt := 133) hx hb d_Dec_gather_126 (by decide) (fun c126 => ?_) (fun c126 => ?_)
              · have e121 : gp T a n = false := by rw [← gp_dg e69]; exact (bI_0 _).mp c126
                refine lv_iconst (v := 1) hx hb d_Dec_gather_133 (by decide) ?_
                refine lv_iadd hx hb d_Dec_gather_134 ?_
                refine tv_i (zI ((kp : Int) + r + 1 - gf T a (n + 1))) (by have h9 := gf_dg e69; rw [e121] at h9; have h9 : gf T a (n + 1) = gf T a n + 0 := h9; rw [h9]; show zI _ + zI 1 = zI _; rw [zI_add]; exact congrArg zI (by omega)) ?_
                refine va_put (D := D) (ci := 1) (v := .int (zI ((kp : Int) + r + 1 - gf T a (n + 1)))) (ty := .int) (C := R_Dec) (T := F_Dec) (N := 5) hx hb hts w_Dec t_Dec tk_Dec n_Dec hown hK hP hD hS 0 rfl rfl 4 (by decide) (hts _ kF_Dec_26) (fun _ h9 => h9) rfl (by decide +kernel) (rfl) (rfl) (Nat.le_of_ble_eq_true rfl) d_Dec_gather_135 (fun H locs hP hD hS => ?_)
                have hP : va_P D vcl [(h, .inr (1, [.ref q, .int (nI g), .int (nI gs), .int (nI kp), .int (zI ((kp : Int) + r + 1 - gf T a (n + 1)))])), (nm, .inr (3, [.ref x, .int v1, .int v2, .int v3, .int v4, .int (nI a), .int (nI b0), .int (zI pq)])), (x, .inl (cC, 2400, .inl (tx T))), (q, .inr (2, [.ref t, .ref b])), (t, .inr (0, [.ref ta, .int (nI nt)])), (ta, .inl (cA, 96, .inl ft))] H := hP
                have hD : va_D A [(h, .inr (1, [.ref q, .int (nI g), .int (nI gs), .int (nI kp), .int (zI ((kp : Int) + r + 1 - gf T a (n + 1)))])), (nm, .inr (3, [.ref x, .int v1, .int v2, .int v3, .int v4, .int (nI a), .int (nI b0), .int (zI pq)])), (x, .inl (cC, 2400, .inl (tx T))), (q, .inr (2, [.ref t, .ref b])), (t, .inr (0, [.ref ta, .int (nI nt)])), (ta, .inl (cA, 96, .inl ft))] := hD
                refine lv_aload_n hx hb d_Dec_gather_138 rfl (lv_at hl 1 rfl) ?_
                refine va_get (D := D) (ci := 1) (v := .int (nI kp)) (C := R_Dec) (T := F_Dec) (N := 5) hx hb hts w_Dec hown hK hP 0 rfl rfl 3 (by decide) (hts _ kF_Dec_34) (fun _ h9 => h9) rfl d_Dec_gather_139 ?_
                refine lv_iload_n hx hb d_Dec_gather_142 rfl (lv_at hl 3 rfl) ?_
                refine lv_icmp_ge (tgt := 158) hx hb d_Dec_gather_143 (by decide) (fun c143 => ?_) (fun c143 => ?_)
                · have e138 : kMd i ≤ kp := (nI_leI (by omega) (by omega)).mp c143
                  rw [show zI ((kp : Int) + r + 1 - gf T a (n + 1)) = zI ((kp : Int) + (r + 1 : Nat) - gf T a (n + 1)) from congrArg zI (by omega)] at hP hD
                  refine lv_iload hx hb d_Dec_gather_158 (lv_at hl 6 rfl) ?_
                  refine lv_if_ne (tgt := 170) hx hb d_Dec_gather_160 (by decide) (fun c160 => ?_) (fun c160 => ?_)
                  · have e155 : tl ≠ 0 := of_decide_eq_true (tt_of (fun z => c160 ((bI_0 _).mpr z)))
                    refine lv_iconst (v := 1) hx hb d_Dec_gather_170 (by decide) ?_
                    refine tv_i (bI (decide (tl * 10 + dg (T (a + n)) ≠ 0))) (by rw [decide_eq_true (by rw [hdg]; omega)]; rfl) ?_
                    refine lv_goto (tgt := 175) hx hb d_Dec_gather_171 (by decide) ?_
                    refine lv_istore (lv' := [(5, .int (bI (decide (tl * 10 + dg (T (a + n)) ≠ 0)))), (7, .int (nI (T (a + n)))), (0, .ref h), (1, .ref nm), (2, .int (nI (kMd i))), (3, .ref x), (4, .int (bI (gp T a (n + 1)))), (6, .int (nI (a + n)))]) hx hb d_Dec_gather_175 hl (by decide) rfl (fun ls hl => ?_)
                    refine lv_iinc (v := nI (a + (n + 1))) (lv' := [(6, .int (nI (a + (n + 1)))), (5, .int (bI (decide (tl * 10 + dg (T (a + n)) ≠ 0)))), (7, .int (nI (T (a + n)))), (0, .ref h), (1, .ref nm), (2, .int (nI (kMd i))), (3, .ref x), (4, .int (bI (gp T a (n + 1))))]) hx hb d_Dec_gather_177 hl (k := 7) rfl (nI_1 (a + n)) (by decide) rfl (fun ls hl => ?_)
                    refine lv_goto (tgt := 48) hx hb d_Dec_gather_180 (by decide) ?_
                    exact ih (n + 1) ft nt Vt g gs kp (r + 1) (tl * 10 + dg (T (a + n))) (by omega) (by omega) (hB) (⟨ex, he9, he⟩) (hg) (by rw [gv_dg e69, hM, Nat.pow_succ, Nat.add_mul, Nat.mul_assoc]; omega) (by rw [Nat.pow_succ]; omega) (hk) (fun z => absurd z (by omega)) (hKl) (h1) (by omega) _ _ _ (hP.sub [0, 1, 2, 3, 4, 5] rfl) (hD.sub [0, 1, 2, 3, 4, 5] (by decide) rfl) hS (lv_sub hl [3, 4, 5, 6, 7, 1, 0] rfl)
                  · have e155 : ¬ tl ≠ 0 := of_decide_eq_false ((bI_0 _).mp c160)
                    refine lv_iload hx hb d_Dec_gather_163 (lv_at hl 0 rfl) ?_
                    refine lv_bipush (v := 48) hx hb d_Dec_gather_165 (by decide) ?_
                    refine lv_icmp_eq (tgt := 174) hx hb d_Dec_gather_167 (by decide) (fun c167 => ?_) (fun c167 => ?_)
                    · have e162 : T (a + n) = 48 := (nI_eq (b := 48) (by omega) (by decide)).mp c167
                      refine lv_iconst (v := 0) hx hb d_Dec_gather_174 (by decide) ?_
                      refine tv_i (bI (decide (tl * 10 + dg (T (a + n)) ≠ 0))) (by rw [decide_eq_false (by rw [hdg]; omega)]; rfl) ?_
                      refine lv_istore (lv' := [(5, .int (bI (decide (tl * 10 + dg (T (a + n)) ≠ 0)))), (7, .int (nI (T (a + n)))), (0, .ref h), (1, .ref nm), (2, .int (nI (kMd i))), (3, .ref x), (4, .int (bI (gp T a (n + 1)))), (6, .int (nI (a + n)))]) hx hb d_Dec_gather_175 hl (by decide) rfl (fun ls hl => ?_)
                      refine lv_iinc (v := nI (a + (n + 1))) (lv' := [(6, .int (nI (a + (n + 1)))), (5, .int (bI (decide (tl * 10 + dg (T (a + n)) ≠ 0)))), (7, .int (nI (T (a + n)))), (0, .ref h), (1, .ref nm), (2, .int (nI (kMd i))), (3, .ref x), (4, .int (bI (gp T a (n + 1))))]) hx hb d_Dec_gather_177 hl (k := 7) rfl (nI_1 (a + n)) (by decide) rfl (fun ls hl => ?_)
                      refine lv_goto (tgt := 48) hx hb d_Dec_gather_180 (by decide) ?_
                      exact ih (n + 1) ft nt Vt g gs kp (r + 1) (tl * 10 + dg (T (a + n))) (by omega) (by omega) (hB) (⟨ex, he9, he⟩) (hg) (by rw [gv_dg e69, hM, Nat.pow_succ, Nat.add_mul, Nat.mul_assoc]; omega) (by rw [Nat.pow_succ]; omega) (hk) (fun z => absurd z (by omega)) (hKl) (h1) (by omega) _ _ _ (hP.sub [0, 1, 2, 3, 4, 5] rfl) (hD.sub [0, 1, 2, 3, 4, 5] (by decide) rfl) hS (lv_sub hl [3, 4, 5, 6, 7, 1, 0] rfl)
                    · have e162 : T (a + n) ≠ 48 := fun z => c167 (by rw [z]; rfl)
                      refine lv_iconst (v := 1) hx hb d_Dec_gather_170 (by decide) ?_
                      refine tv_i (bI (decide (tl * 10 + dg (T (a + n)) ≠ 0))) (by rw [decide_eq_true (by rw [hdg]; omega)]; rfl) ?_
                      refine lv_goto (tgt := 175) hx hb d_Dec_gather_171 (by decide) ?_
                      refine lv_istore (lv' := [(5, .int (bI (decide (tl * 10 + dg (T (a + n)) ≠ 0)))), (7, .int (nI (T (a + n)))), (0, .ref h), (1, .ref nm), (2, .int (nI (kMd i))), (3, .ref x), (4, .int (bI (gp T a (n + 1)))), (6, .int (nI (a + n)))]) hx hb d_Dec_gather_175 hl (by decide) rfl (fun ls hl => ?_)
                      refine lv_iinc (v := nI (a + (n + 1))) (lv' := [(6, .int (nI (a + (n + 1)))), (5, .int (bI (decide (tl * 10 + dg (T (a + n)) ≠ 0)))), (7, .int (nI (T (a + n)))), (0, .ref h), (1, .ref nm), (2, .int (nI (kMd i))), (3, .ref x), (4, .int (bI (gp T a (n + 1))))]) hx hb d_Dec_gather_177 hl (k := 7) rfl (nI_1 (a + n)) (by decide) rfl (fun ls hl => ?_)
                      refine lv_goto (tgt := 48) hx hb d_Dec_gather_180 (by decide) ?_
                      exact ih (n + 1) ft nt Vt g gs kp (r + 1) (tl * 10 + dg (T (a + n))) (by omega) (by omega) (hB) (⟨ex, he9, he⟩) (hg) (by rw [gv_dg e69, hM, Nat.pow_succ, Nat.add_mul, Nat.mul_assoc]; omega) (by rw [Nat.pow_succ]; omega) (hk) (fun z => absurd z (by omega)) (hKl) (h1) (by omega) _ _ _ (hP.sub [0, 1, 2, 3, 4, 5] rfl) (hD.sub [0, 1, 2, 3, 4, 5] (by decide) rfl) hS (lv_sub hl [3, 4, 5, 6, 7, 1, 0] rfl)
                · have e138 : kp < kMd i := Nat.lt_of_not_le (fun z => c143 ((nI_leI (by omega) (by omega)).mpr z))
                  have hr0 : r = 0 := hr e138
                  have ht0 : tl = 0 := by rw [hr0, Nat.pow_zero] at ht; omega
                  obtain ⟨hs1, hs2⟩ := kd_step (d := T (a + n) - 48) hKl h1 (by omega) hz0
                  rw [show zI ((kp : Int) + r + 1 - gf T a (n + 1)) = zI ((kp + 1 : Nat) + (r : Int) - gf T a (n + 1)) from congrArg zI (by omega)] at hP hD
                  refine lv_aload_n hx hb d_Dec_gather_146 rfl (lv_at hl 1 rfl) ?_
                  refine lv_iload hx hb d_Dec_gather_147 (lv_at hl 0 rfl) ?_
                  refine lv_bipush (v := 48) hx hb d_Dec_gather_149 (by decide) ?_
                  refine lv_isub hx hb d_Dec_gather_151 ?_
                  refine tv_i (nI (T (a + n) - 48)) (pk_sub (b := 48) (by omega)) ?_
                  refine ca_v [(nm, .inr (3, [.ref x, .int v1, .int v2, .int v3, .int v4, .int (nI a), .int (nI b0), .int (zI pq)])), (x, .inl (cC, 2400, .inl (tx T)))] (va_runV (As := [.int (nI (T (a + n) - 48))]) (rest := []) ⟨hx, hb, hml, hown, hts⟩ (c_Dec_keepDigit l D E h q t ta b cA ft nt Vt g gs kp (T (a + n) - 48) ex (zI ((kp + 1 : Nat) + (r : Int) - gf T a (n + 1))) hB hg he he9 (by omega) (fit10 hs1 (by omega)) H.size) (xV 1 hts kC_Dec_keepDigit kM_Dec_84 kI_Dec_keepDigit kS_Dec_keepDigit kN_Dec rfl rfl (by decide +kernel) ⟨Nat.le_of_ble_eq_true rfl, Nat.le_of_ble_eq_true rfl⟩) ⟨ct_blind hev, va_recv hK hP (ci := 1) (q0 := 0) rfl rfl, ct_pre hev hP hK hD hS hA hE [0, 3, 4, 5] rfl (by decide) [1] rfl⟩ rfl rfl hl.1 rfl (lv_room (Nat.le_of_ble_eq_true rfl)) d_Dec_gather_152 ⟨Nat.le_of_ble_eq_true rfl, Nat.le_of_ble_eq_true rfl⟩) hP hD hS hA [0, 3, 4, 5] [1, 2] rfl rfl (by decide) (by decide) (fun u H locs hw hP hD hS hK1 => ?_)
                  obtain ⟨f11, n11, V11, g11, gs11⟩ := u
                  obtain ⟨hB11, hv11, hg11, ex11, hx11, he11⟩ := hw
                  have hB11 : isB f11 n11 V11 := hB11
                  have hv11 : V11 * gs11 + g11 = (Vt * gs + g) * 10 + (T (a + n) - 48) := hv11
                  have hg11 : g11 < gs11 := hg11
                  have he11 : gs11 = 10 ^ ex11 := he11
                  have hP : va_P D vcl [(nm, .inr (3, [.ref x, .int v1, .int v2, .int v3, .int v4, .int (nI a), .int (nI b0), .int (zI pq)])), (x, .inl (cC, 2400, .inl (tx T))), (h, .inr (1, [.ref q, .int (nI g11), .int (nI gs11), .int (nI (kp + 1)), .int (zI ((kp + 1 : Nat) + (r : Int) - gf T a (n + 1)))])), (q, .inr (2, [.ref t, .ref b])), (t, .inr (0, [.ref ta, .int (nI n11)])), (ta, .inl (cA, 96, .inl f11))] H := hP
                  have hD : va_D A [(nm, .inr (3, [.ref x, .int v1, .int v2, .int v3, .int v4, .int (nI a), .int (nI b0), .int (zI pq)])), (x, .inl (cC, 2400, .inl (tx T))), (h, .inr (1, [.ref q, .int (nI g11), .int (nI gs11), .int (nI (kp + 1)), .int (zI ((kp + 1 : Nat) + (r : Int) - gf T a (n + 1)))])), (q, .inr (2, [.ref t, .ref b])), (t, .inr (0, [.ref ta, .int (nI n11)])), (ta, .inl (cA, 96, .inl f11))] := hD
                  refine lv_goto (tgt := 177) hx hb d_Dec_gather_155 (by decide) ?_
                  refine lv_iinc (v := nI (a + (n + 1))) (lv' := [(6, .int (nI (a + (n + 1)))), (7, .int (nI (T (a + n)))), (0, .ref h), (1, .ref nm), (2, .int (nI (kMd i))), (3, .ref x), (4, .int (bI (gp T a (n + 1)))), (5, .int (bI (decide (tl ≠ 0))))]) hx hb d_Dec_gather_177 hl (k := 7) rfl (nI_1 (a + n)) (by decide) rfl (fun ls hl => ?_)
                  refine lv_goto (tgt := 48) hx hb d_Dec_gather_180 (by decide) ?_
                  rw [show zI ((kp + 1 : Nat) + (r : Int) - gf T a (n + 1)) = zI (((kp + 1 : Nat) : Int) + r - gf T a (n + 1)) from rfl] at hP hD
                  exact ih (n + 1) f11 n11 V11 g11 gs11 (kp + 1) r tl (by omega) (by omega) (hB11) (⟨ex11, hx11, he11⟩) (hg11) (by rw [gv_dg e69, hM, hdg, hv11, hr0, ht0, Nat.pow_zero]; omega) (ht) (by omega) (fun _ => hr0) (by rw [hv11]; exact hs1) (fun _ => by rw [hv11, Nat.add_sub_cancel]; exact hs2) (by omega) _ _ _ (hP.sub [2, 0, 1, 3, 4, 5] rfl) (hD.sub [2, 0, 1, 3, 4, 5] (by decide) rfl) hS (lv_sub hl [2, 3, 4, 5, 6, 7, 0] rfl)
              · have e121 : gp T a n = true := by rw [← gp_dg e69]; exact tt_of (fun z => c126 ((bI_0 _).mpr z))
                refine lv_iconst (v := 0) hx hb d_Dec_gather_129 (by decide) ?_
                refine lv_goto (tgt := 134) hx hb d_Dec_gather_130 (by decide) ?_
                refine lv_iadd hx hb d_Dec_gather_134 ?_
                refine tv_i (zI ((kp : Int) + r + 1 - gf T a (n + 1))) (by have h9 := gf_dg e69; rw [e121] at h9; have h9 : gf T a (n + 1) = gf T a n + 1 := h9; rw [h9]; show zI _ + zI 0 = zI _; rw [zI_add]; exact congrArg zI (by omega)) ?_
                refine va_put (D := D) (ci := 1) (v := .int (zI ((kp : Int) + r + 1 - gf T a (n + 1)))) (ty := .int) (C := R_Dec) (T := F_Dec) (N := 5) hx hb hts w_Dec t_Dec tk_Dec n_Dec hown hK hP hD hS 0 rfl rfl 4 (by decide) (hts _ kF_Dec_26) (fun _ h9 => h9) rfl (by decide +kernel) (rfl) (rfl) (Nat.le_of_ble_eq_true rfl) d_Dec_gather_135 (fun H locs hP hD hS => ?_)
                have hP : va_P D vcl [(h, .inr (1, [.ref q, .int (nI g), .int (nI gs), .int (nI kp), .int (zI ((kp : Int) + r + 1 - gf T a (n + 1)))])), (nm, .inr (3, [.ref x, .int v1, .int v2, .int v3, .int v4, .int (nI a), .int (nI b0), .int (zI pq)])), (x, .inl (cC, 2400, .inl (tx T))), (q, .inr (2, [.ref t, .ref b])), (t, .inr (0, [.ref ta, .int (nI nt)])), (ta, .inl (cA, 96, .inl ft))] H := hP
                have hD : va_D A [(h, .inr (1, [.ref q, .int (nI g), .int (nI gs), .int (nI kp), .int (zI ((kp : Int) + r + 1 - gf T a (n + 1)))])), (nm, .inr (3, [.ref x, .int v1, .int v2, .int v3, .int v4, .int (nI a), .int (nI b0), .int (zI pq)])), (x, .inl (cC, 2400, .inl (tx T))), (q, .inr (2, [.ref t, .ref b])), (t, .inr (0, [.ref ta, .int (nI nt)])), (ta, .inl (cA, 96, .inl ft))] := hD
                refine lv_aload_n hx hb d_Dec_gather_138 rfl (lv_at hl 1 rfl) ?_
                refine va_get (D := D) (ci := 1) (v := .int (nI kp)) (C := R_Dec) (T := F_Dec) (N := 5) hx hb hts w_Dec hown hK hP 0 rfl rfl 3 (by decide) (hts _ kF_Dec_34) (fun _ h9 => h9) rfl d_Dec_gather_139 ?_
                refine lv_iload_n hx hb d_Dec_gather_142 rfl (lv_at hl 3 rfl) ?_
                refine lv_icmp_ge (tgt := 158) hx hb d_Dec_gather_143 (by decide) (fun c143 => ?_) (fun c143 => ?_)
                · have e138 : kMd i ≤ kp := (nI_leI (by omega) (by omega)).mp c143
                  rw [show zI ((kp : Int) + r + 1 - gf T a (n + 1)) = zI ((kp : Int) + (r + 1 : Nat) - gf T a (n + 1)) from congrArg zI (by omega)] at hP hD
                  refine lv_iload hx hb d_Dec_gather_158 (lv_at hl 6 rfl) ?_
                  refine lv_if_ne (tgt := 170) hx hb d_Dec_gather_160 (by decide) (fun c160 => ?_) (fun c160 => ?_)
                  · have e155 : tl ≠ 0 := of_decide_eq_true (tt_of (fun z => c160 ((bI_0 _).mpr z)))
                    refine lv_iconst (v := 1) hx hb d_Dec_gather_170 (by decide) ?_
                    refine tv_i (bI (decide (tl * 10 + dg (T (a + n)) ≠ 0))) (by rw [decide_eq_true (by rw [hdg]; omega)]; rfl) ?_
                    refine lv_goto (tgt := 175) hx hb d_Dec_gather_171 (by decide) ?_
                    refine lv_istore (lv' := [(5, .int (bI (decide (tl * 10 + dg (T (a + n)) ≠ 0)))), (7, .int (nI (T (a + n)))), (0, .ref h), (1, .ref nm), (2, .int (nI (kMd i))), (3, .ref x), (4, .int (bI (gp T a (n + 1)))), (6, .int (nI (a + n)))]) hx hb d_Dec_gather_175 hl (by decide) rfl (fun ls hl => ?_)
                    refine lv_iinc (v := nI (a + (n + 1))) (lv' := [(6, .int (nI (a + (n + 1)))), (5, .int (bI (decide (tl * 10 + dg (T (a + n)) ≠ 0)))), (7, .int (nI (T (a + n)))), (0, .ref h), (1, .ref nm), (2, .int (nI (kMd i))), (3, .ref x), (4, .int (bI (gp T a (n + 1))))]) hx hb d_Dec_gather_177 hl (k := 7) rfl (nI_1 (a + n)) (by decide) rfl (fun ls hl => ?_)
                    refine lv_goto (tgt := 48) hx hb d_Dec_gather_180 (by decide) ?_
                    exact ih (n + 1) ft nt Vt g gs kp (r + 1) (tl * 10 + dg (T (a + n))) (by omega) (by omega) (hB) (⟨ex, he9, he⟩) (hg) (by rw [gv_dg e69, hM, Nat.pow_succ, Nat.add_mul, Nat.mul_assoc]; omega) (by rw [Nat.pow_succ]; omega) (hk) (fun z => absurd z (by omega)) (hKl) (h1) (by omega) _ _ _ (hP.sub [0, 1, 2, 3, 4, 5] rfl) (hD.sub [0, 1, 2, 3, 4, 5] (by decide) rfl) hS (lv_sub hl [3, 4, 5, 6, 7, 1, 0] rfl)
                  · have e155 : ¬ tl ≠ 0 := of_decide_eq_false ((bI_0 _).mp c160)
                    refine lv_iload hx hb d_Dec_gather_163 (lv_at hl 0 rfl) ?_
                    refine lv_bipush (v := 48) hx hb d_Dec_gather_165 (by decide) ?_
                    refine lv_icmp_eq (tgt := 174) hx hb d_Dec_gather_167 (by decide) (fun c167 => ?_) (fun c167 => ?_)
                    · have e162 : T (a + n) = 48 := (nI_eq (b := 48) (by omega) (by decide)).mp c167
                      refine lv_iconst (v := 0) hx hb d_Dec_gather_174 (by decide) ?_
                      refine tv_i (bI (decide (tl * 10 + dg (T (a + n)) ≠ 0))) (by rw [decide_eq_false (by rw [hdg]; omega)]; rfl) ?_
                      refine lv_istore (lv' := [(5, .int (bI (decide (tl * 10 + dg (T (a + n)) ≠ 0)))), (7, .int (nI (T (a + n)))), (0, .ref h), (1, .ref nm), (2, .int (nI (kMd i))), (3, .ref x), (4, .int (bI (gp T a (n + 1)))), (6, .int (nI (a + n)))]) hx hb d_Dec_gather_175 hl (by decide) rfl (fun ls hl => ?_)
                      refine lv_iinc (v := nI (a + (n + 1))) (lv' := [(6, .int (nI (a + (n + 1)))), (5, .int (bI (decide (tl * 10 + dg (T (a + n)) ≠ 0)))), (7, .int (nI (T (a + n)))), (0, .ref h), (1, .ref nm), (2, .int (nI (kMd i))), (3, .ref x), (4, .int (bI (gp T a (n + 1))))]) hx hb d_Dec_gather_177 hl (k := 7) rfl (nI_1 (a + n)) (by decide) rfl (fun ls hl => ?_)
                      refine lv_goto (tgt := 48) hx hb d_Dec_gather_180 (by decide) ?_
                      exact ih (n + 1) ft nt Vt g gs kp (r + 1) (tl * 10 + dg (T (a + n))) (by omega) (by omega) (hB) (⟨ex, he9, he⟩) (hg) (by rw [gv_dg e69, hM, Nat.pow_succ, Nat.add_mul, Nat.mul_assoc]; omega) (by rw [Nat.pow_succ]; omega) (hk) (fun z => absurd z (by omega)) (hKl) (h1) (by omega) _ _ _ (hP.sub [0, 1, 2, 3, 4, 5] rfl) (hD.sub [0, 1, 2, 3, 4, 5] (by decide) rfl) hS (lv_sub hl [3, 4, 5, 6, 7, 1, 0] rfl)
                    · have e162 : T (a + n) ≠ 48 := fun z => c167 (by rw [z]; rfl)
                      refine lv_iconst (v := 1) hx hb d_Dec_gather_170 (by decide) ?_
                      refine tv_i (bI (decide (tl * 10 + dg (T (a + n)) ≠ 0))) (by rw [decide_eq_true (by rw [hdg]; omega)]; rfl) ?_
                      refine lv_goto (tgt := 175) hx hb d_Dec_gather_171 (by decide) ?_
                      refine lv_istore (lv' := [(5, .int (bI (decide (tl * 10 + dg (T (a + n)) ≠ 0)))), (7, .int (nI (T (a + n)))), (0, .ref h), (1, .ref nm), (2, .int (nI (kMd i))), (3, .ref x), (4, .int (bI (gp T a (n + 1)))), (6, .int (nI (a + n)))]) hx hb d_Dec_gather_175 hl (by decide) rfl (fun ls hl => ?_)
                      refine lv_iinc (v := nI (a + (n + 1))) (lv' := [(6, .int (nI (a + (n + 1)))), (5, .int (bI (decide (tl * 10 + dg (T (a + n)) ≠ 0)))), (7, .int (nI (T (a + n)))), (0, .ref h), (1, .ref nm), (2, .int (nI (kMd i))), (3, .ref x), (4, .int (bI (gp T a (n + 1))))]) hx hb d_Dec_gather_177 hl (k := 7) rfl (nI_1 (a + n)) (by decide) rfl (fun ls hl => ?_)
                      refine lv_goto (tgt := 48) hx hb d_Dec_gather_180 (by decide) ?_
                      exact ih (n + 1) ft nt Vt g gs kp (r + 1) (tl * 10 + dg (T (a + n))) (by omega) (by omega) (hB) (⟨ex, he9, he⟩) (hg) (by rw [gv_dg e69, hM, Nat.pow_succ, Nat.add_mul, Nat.mul_assoc]; omega) (by rw [Nat.pow_succ]; omega) (hk) (fun z => absurd z (by omega)) (hKl) (h1) (by omega) _ _ _ (hP.sub [0, 1, 2, 3, 4, 5] rfl) (hD.sub [0, 1, 2, 3, 4, 5] (by decide) rfl) hS (lv_sub hl [3, 4, 5, 6, 7, 1, 0] rfl)
                · have e138 : kp < kMd i := Nat.lt_of_not_le (fun z => c143 ((nI_leI (by omega) (by omega)).mpr z))
                  have hr0 : r = 0 := hr e138
                  have ht0 : tl = 0 := by rw [hr0, Nat.pow_zero] at ht; omega
                  obtain ⟨hs1, hs2⟩ := kd_step (d := T (a + n) - 48) hKl h1 (by omega) hz0
                  rw [show zI ((kp : Int) + r + 1 - gf T a (n + 1)) = zI ((kp + 1 : Nat) + (r : Int) - gf T a (n + 1)) from congrArg zI (by omega)] at hP hD
                  refine lv_aload_n hx hb d_Dec_gather_146 rfl (lv_at hl 1 rfl) ?_
                  refine lv_iload hx hb d_Dec_gather_147 (lv_at hl 0 rfl) ?_
                  refine lv_bipush (v := 48) hx hb d_Dec_gather_149 (by decide) ?_
                  refine lv_isub hx hb d_Dec_gather_151 ?_
                  refine tv_i (nI (T (a + n) - 48)) (pk_sub (b := 48) (by omega)) ?_
                  refine ca_v [(nm, .inr (3, [.ref x, .int v1, .int v2, .int v3, .int v4, .int (nI a), .int (nI b0), .int (zI pq)])), (x, .inl (cC, 2400, .inl (tx T)))] (va_runV (As := [.int (nI (T (a + n) - 48))]) (rest := []) ⟨hx, hb, hml, hown, hts⟩ (c_Dec_keepDigit l D E h q t ta b cA ft nt Vt g gs kp (T (a + n) - 48) ex (zI ((kp + 1 : Nat) + (r : Int) - gf T a (n + 1))) hB hg he he9 (by omega) (fit10 hs1 (by omega)) H.size) (xV 1 hts kC_Dec_keepDigit kM_Dec_84 kI_Dec_keepDigit kS_Dec_keepDigit kN_Dec rfl rfl (by decide +kernel) ⟨Nat.le_of_ble_eq_true rfl, Nat.le_of_ble_eq_true rfl⟩) ⟨ct_blind hev, va_recv hK hP (ci := 1) (q0 := 0) rfl rfl, ct_pre hev hP hK hD hS hA hE [0, 3, 4, 5] rfl (by decide) [1] rfl⟩ rfl rfl hl.1 rfl (lv_room (Nat.le_of_ble_eq_true rfl)) d_Dec_gather_152 ⟨Nat.le_of_ble_eq_true rfl, Nat.le_of_ble_eq_true rfl⟩) hP hD hS hA [0, 3, 4, 5] [1, 2] rfl rfl (by decide) (by decide) (fun u H locs hw hP hD hS hK1 => ?_)
                  obtain ⟨f12, n12, V12, g12, gs12⟩ := u
                  obtain ⟨hB12, hv12, hg12, ex12, hx12, he12⟩ := hw
                  have hB12 : isB f12 n12 V12 := hB12
                  have hv12 : V12 * gs12 + g12 = (Vt * gs + g) * 10 + (T (a + n) - 48) := hv12
                  have hg12 : g12 < gs12 := hg12
                  have he12 : gs12 = 10 ^ ex12 := he12
                  have hP : va_P D vcl [(nm, .inr (3, [.ref x, .int v1, .int v2, .int v3, .int v4, .int (nI a), .int (nI b0), .int (zI pq)])), (x, .inl (cC, 2400, .inl (tx T))), (h, .inr (1, [.ref q, .int (nI g12), .int (nI gs12), .int (nI (kp + 1)), .int (zI ((kp + 1 : Nat) + (r : Int) - gf T a (n + 1)))])), (q, .inr (2, [.ref t, .ref b])), (t, .inr (0, [.ref ta, .int (nI n12)])), (ta, .inl (cA, 96, .inl f12))] H := hP
                  have hD : va_D A [(nm, .inr (3, [.ref x, .int v1, .int v2, .int v3, .int v4, .int (nI a), .int (nI b0), .int (zI pq)])), (x, .inl (cC, 2400, .inl (tx T))), (h, .inr (1, [.ref q, .int (nI g12), .int (nI gs12), .int (nI (kp + 1)), .int (zI ((kp + 1 : Nat) + (r : Int) - gf T a (n + 1)))])), (q, .inr (2, [.ref t, .ref b])), (t, .inr (0, [.ref ta, .int (nI n12)])), (ta, .inl (cA, 96, .inl f12))] := hD
                  refine lv_goto (tgt := 177) hx hb d_Dec_gather_155 (by decide) ?_
                  refine lv_iinc (v := nI (a + (n + 1))) (lv' := [(6, .int (nI (a + (n + 1)))), (7, .int (nI (T (a + n)))), (0, .ref h), (1, .ref nm), (2, .int (nI (kMd i))), (3, .ref x), (4, .int (bI (gp T a (n + 1)))), (5, .int (bI (decide (tl ≠ 0))))]) hx hb d_Dec_gather_177 hl (k := 7) rfl (nI_1 (a + n)) (by decide) rfl (fun ls hl => ?_)
                  refine lv_goto (tgt := 48) hx hb d_Dec_gather_180 (by decide) ?_
                  rw [show zI ((kp + 1 : Nat) + (r : Int) - gf T a (n + 1)) = zI (((kp + 1 : Nat) : Int) + r - gf T a (n + 1)) from rfl] at hP hD
                  exact ih (n + 1) f12 n12 V12 g12 gs12 (kp + 1) r tl (by omega) (by omega) (hB12) (⟨ex12, hx12, he12⟩) (hg12) (by rw [gv_dg e69, hM, hdg, hv12, hr0, ht0, Nat.pow_zero]; omega) (ht) (by omega) (fun _ => hr0) (by rw [hv12]; exact hs1) (fun _ => by rw [hv12, Nat.add_sub_cancel]; exact hs2) (by omega) _ _ _ (hP.sub [2, 0, 1, 3, 4, 5] rfl) (hD.sub [2, 0, 1, 3, 4, 5] (by decide) rfl) hS (lv_sub hl [2, 3, 4, 5, 6, 7, 0] rfl)
            · have e82 : kp = 0 := (nI_eq0 (by omega)).mp c87
              refine lv_iload hx hb d_Dec_gather_90 (lv_at hl 0 rfl) ?_
              refine lv_bipush (v := 48) hx hb d_Dec_gather_92 (by decide) ?_
              refine lv_icmp_ne (tgt := 119) hx hb d_Dec_gather_94 (by decide) (fun c94 => ?_) (fun c94 => ?_)
              · have hz0 : kp = 0 → T (a + n) - 48 ≠ 0 := fun _ z => c94 (by rw [show T (a + n) = 48 by omega]; rfl)
                refine lv_aload_n hx hb d_Dec_gather_119 rfl (lv_at hl 1 rfl) ?_
                refine lv_dup hx hb d_Dec_gather_120 rfl ?_
                refine va_get (D := D) (ci := 1) (v := .int (zI ((kp : Int) + r - gf T a n))) (C := R_Dec) (T := F_Dec) (N := 5) hx hb hts w_Dec hown hK hP 0 rfl rfl 4 (by decide) (hts _ kF_Dec_26) (fun _ h9 => h9) rfl d_Dec_gather_121 ?_
                refine lv_iload hx hb d_Dec_gather_124 (lv_at hl 5 rfl) ?_
                refine lv_if_eq (tgt := 133) hx hb d_Dec_gather_126 (by decide) (fun c126 => ?_) (fun c126 => ?_)
                · have e121 : gp T a n = false := by rw [← gp_dg e69]; exact (bI_0 _).mp c126
                  refine lv_iconst (v := 1) hx hb d_Dec_gather_133 (by decide) ?_
                  refine lv_iadd hx hb d_Dec_gather_134 ?_
                  refine tv_i (zI ((kp : Int) + r + 1 - gf T a (n + 1))) (by have h9 := gf_dg e69; rw [e121] at h9; have h9 : gf T a (n + 1) = gf T a n + 0 := h9; rw [h9]; show zI _ + zI 1 = zI _; rw [zI_add]; exact congrArg zI (by omega)) ?_
                  refine va_put (D := D) (ci := 1) (v := .int (zI ((kp : Int) + r + 1 - gf T a (n + 1)))) (ty := .int) (C := R_Dec) (T := F_Dec) (N := 5) hx hb hts w_Dec t_Dec tk_Dec n_Dec hown hK hP hD hS 0 rfl rfl 4 (by decide) (hts _ kF_Dec_26) (fun _ h9 => h9) rfl (by decide +kernel) (rfl) (rfl) (Nat.le_of_ble_eq_true rfl) d_Dec_gather_135 (fun H locs hP hD hS => ?_)
                  have hP : va_P D vcl [(h, .inr (1, [.ref q, .int (nI g), .int (nI gs), .int (nI kp), .int (zI ((kp : Int) + r + 1 - gf T a (n + 1)))])), (nm, .inr (3, [.ref x, .int v1, .int v2, .int v3, .int v4, .int (nI a), .int (nI b0), .int (zI pq)])), (x, .inl (cC, 2400, .inl (tx T))), (q, .inr (2, [.ref t, .ref b])), (t, .inr (0, [.ref ta, .int (nI nt)])), (ta, .inl (cA, 96, .inl ft))] H := hP
                  have hD : va_D A [(h, .inr (1, [.ref q, .int (nI g), .int (nI gs), .int (nI kp), .int (zI ((kp : Int) + r + 1 - gf T a (n + 1)))])), (nm, .inr (3, [.ref x, .int v1, .int v2, .int v3, .int v4, .int (nI a), .int (nI b0), .int (zI pq)])), (x, .inl (cC, 2400, .inl (tx T))), (q, .inr (2, [.ref t, .ref b])), (t, .inr (0, [.ref ta, .int (nI nt)])), (ta, .inl (cA, 96, .inl ft))] := hD
                  refine lv_aload_n hx hb d_Dec_gather_138 rfl (lv_at hl 1 rfl) ?_
                  refine va_get (D := D) (ci := 1) (v := .int (nI kp)) (C := R_Dec) (T := F_Dec) (N := 5) hx hb hts w_Dec hown hK hP 0 rfl rfl 3 (by decide) (hts _ kF_Dec_34) (fun _ h9 => h9) rfl d_Dec_gather_139 ?_
                  refine lv_iload_n hx hb d_Dec_gather_142 rfl (lv_at hl 3 rfl) ?_
                  refine lv_icmp_ge (tgt := 158) hx hb d_Dec_gather_143 (by decide) (fun c143 => ?_) (fun c143 => ?_)
                  · have e138 : kMd i ≤ kp := (nI_leI (by omega) (by omega)).mp c143
                    rw [show zI ((kp : Int) + r + 1 - gf T a (n + 1)) = zI ((kp : Int) + (r + 1 : Nat) - gf T a (n + 1)) from congrArg zI (by omega)] at hP hD
                    refine lv_iload hx hb d_Dec_gather_158 (lv_at hl 6 rfl) ?_
                    refine lv_if_ne (tgt := 170) hx hb d_Dec_gather_160 (by decide) (fun c160 => ?_) (fun c160 => ?_)
                    · have e155 : tl ≠ 0 := of_decide_eq_true (tt_of (fun z => c160 ((bI_0 _).mpr z)))
                      refine lv_iconst (v := 1) hx hb d_Dec_gather_170 (by decide) ?_
                      refine tv_i (bI (decide (tl * 10 + dg (T (a + n)) ≠ 0))) (by rw [decide_eq_true (by rw [hdg]; omega)]; rfl) ?_
                      refine lv_goto (tgt := 175) hx hb d_Dec_gather_171 (by decide) ?_
                      refine lv_istore (lv' := [(5, .int (bI (decide (tl * 10 + dg (T (a + n)) ≠ 0)))), (7, .int (nI (T (a + n)))), (0, .ref h), (1, .ref nm), (2, .int (nI (kMd i))), (3, .ref x), (4, .int (bI (gp T a (n + 1)))), (6, .int (nI (a + n)))]) hx hb d_Dec_gather_175 hl (by decide) rfl (fun ls hl => ?_)
                      refine lv_iinc (v := nI (a + (n + 1))) (lv' := [(6, .int (nI (a + (n + 1)))), (5, .int (bI (decide (tl * 10 + dg (T (a + n)) ≠ 0)))), (7, .int (nI (T (a + n)))), (0, .ref h), (1, .ref nm), (2, .int (nI (kMd i))), (3, .ref x), (4, .int (bI (gp T a (n + 1))))]) hx hb d_Dec_gather_177 hl (k := 7) rfl (nI_1 (a + n)) (by decide) rfl (fun ls hl => ?_)
                      refine lv_goto (tgt := 48) hx hb d_Dec_gather_180 (by decide) ?_
                      exact ih (n + 1) ft nt Vt g gs kp (r + 1) (tl * 10 + dg (T (a + n))) (by omega) (by omega) (hB) (⟨ex, he9, he⟩) (hg) (by rw [gv_dg e69, hM, Nat.pow_succ, Nat.add_mul, Nat.mul_assoc]; omega) (by rw [Nat.pow_succ]; omega) (hk) (fun z => absurd z (by omega)) (hKl) (h1) (by omega) _ _ _ (hP.sub [0, 1, 2, 3, 4, 5] rfl) (hD.sub [0, 1, 2, 3, 4, 5] (by decide) rfl) hS (lv_sub hl [3, 4, 5, 6, 7, 1, 0] rfl)
                    · have e155 : ¬ tl ≠ 0 := of_decide_eq_false ((bI_0 _).mp c160)
                      refine lv_iload hx hb d_Dec_gather_163 (lv_at hl 0 rfl) ?_
                      refine lv_bipush (v := 48) hx hb d_Dec_gather_165 (by decide) ?_
                      refine lv_icmp_eq (tgt := 174) hx hb d_Dec_gather_167 (by decide) (fun c167 => ?_) (fun c167 => ?_)
                      · have e162 : T (a + n) = 48 := (nI_eq (b := 48) (by omega) (by decide)).mp c167
                        refine lv_iconst (v := 0) hx hb d_Dec_gather_174 (by decide) ?_
                        refine tv_i (bI (decide (tl * 10 + dg (T (a + n)) ≠ 0))) (by rw [decide_eq_false (by rw [hdg]; omega)]; rfl) ?_
                        refine lv_istore (lv' := [(5, .int (bI (decide (tl * 10 + dg (T (a + n)) ≠ 0)))), (7, .int (nI (T (a + n)))), (0, .ref h), (1, .ref nm), (2, .int (nI (kMd i))), (3, .ref x), (4, .int (bI (gp T a (n + 1)))), (6, .int (nI (a + n)))]) hx hb d_Dec_gather_175 hl (by decide) rfl (fun ls hl => ?_)
                        refine lv_iinc (v := nI (a + (n + 1))) (lv' := [(6, .int (nI (a + (n + 1)))), (5, .int (bI (decide (tl * 10 + dg (T (a + n)) ≠ 0)))), (7, .int (nI (T (a + n)))), (0, .ref h), (1, .ref nm), (2, .int (nI (kMd i))), (3, .ref x), (4, .int (bI (gp T a (n + 1))))]) hx hb d_Dec_gather_177 hl (k := 7) rfl (nI_1 (a + n)) (by decide) rfl (fun ls hl => ?_)
                        refine lv_goto (tgt := 48) hx hb d_Dec_gather_180 (by decide) ?_
                        exact ih (n + 1) ft nt Vt g gs kp (r + 1) (tl * 10 + dg (T (a + n))) (by omega) (by omega) (hB) (⟨ex, he9, he⟩) (hg) (by rw [gv_dg e69, hM, Nat.pow_succ, Nat.add_mul, Nat.mul_assoc]; omega) (by rw [Nat.pow_succ]; omega) (hk) (fun z => absurd z (by omega)) (hKl) (h1) (by omega) _ _ _ (hP.sub [0, 1, 2, 3, 4, 5] rfl) (hD.sub [0, 1, 2, 3, 4, 5] (by decide) rfl) hS (lv_sub hl [3, 4, 5, 6, 7, 1, 0] rfl)
                      · have e162 : T (a + n) ≠ 48 := fun z => c167 (by rw [z]; rfl)
                        refine lv_iconst (v := 1) hx hb d_Dec_gather_170 (by decide) ?_
                        refine tv_i (bI (decide (tl * 10 + dg (T (a + n)) ≠ 0))) (by rw [decide_eq_true (by rw [hdg]; omega)]; rfl) ?_
                        refine lv_goto (tgt := 175) hx hb d_Dec_gather_171 (by decide) ?_
                        refine lv_istore (lv' := [(5, .int (bI (decide (tl * 10 + dg (T (a + n)) ≠ 0)))), (7, .int (nI (T (a + n)))), (0, .ref h), (1, .ref nm), (2, .int (nI (kMd i))), (3, .ref x), (4, .int (bI (gp T a (n + 1)))), (6, .int (nI (a + n)))]) hx hb d_Dec_gather_175 hl (by decide) rfl (fun ls hl => ?_)
                        refine lv_iinc (v := nI (a + (n + 1))) (lv' := [(6, .int (nI (a + (n + 1)))), (5, .int (bI (decide (tl * 10 + dg (T (a + n)) ≠ 0)))), (7, .int (nI (T (a + n)))), (0, .ref h), (1, .ref nm), (2, .int (nI (kMd i))), (3, .ref x), (4, .int (bI (gp T a (n + 1))))]) hx hb d_Dec_gather_177 hl (k := 7) rfl (nI_1 (a + n)) (by decide) rfl (fun ls hl => ?_)
                        refine lv_goto (tgt := 48) hx hb d_Dec_gather_180 (by decide) ?_
                        exact ih (n + 1) ft nt Vt g gs kp (r + 1) (tl * 10 + dg (T (a + n))) (by omega) (by omega) (hB) (⟨ex, he9, he⟩) (hg) (by rw [gv_dg e69, hM, Nat.pow_succ, Nat.add_mul, Nat.mul_assoc]; omega) (by rw [Nat.pow_succ]; omega) (hk) (fun z => absurd z (by omega)) (hKl) (h1) (by omega) _ _ _ (hP.sub [0, 1, 2, 3, 4, 5] rfl) (hD.sub [0, 1, 2, 3, 4, 5] (by decide) rfl) hS (lv_sub hl [3, 4, 5, 6, 7, 1, 0] rfl)
                  · have e138 : kp < kMd i := Nat.lt_of_not_le (fun z => c143 ((nI_leI (by omega) (by omega)).mpr z))
                    have hr0 : r = 0 := hr e138
                    have ht0 : tl = 0 := by rw [hr0, Nat.pow_zero] at ht; omega
                    obtain ⟨hs1, hs2⟩ := kd_step (d := T (a + n) - 48) hKl h1 (by omega) hz0
                    rw [show zI ((kp : Int) + r + 1 - gf T a (n + 1)) = zI ((kp + 1 : Nat) + (r : Int) - gf T a (n + 1)) from congrArg zI (by omega)] at hP hD
                    refine lv_aload_n hx hb d_Dec_gather_146 rfl (lv_at hl 1 rfl) ?_
                    refine lv_iload hx hb d_Dec_gather_147 (lv_at hl 0 rfl) ?_
                    refine lv_bipush (v := 48) hx hb d_Dec_gather_149 (by decide) ?_
                    refine lv_isub hx hb d_Dec_gather_151 ?_
                    refine tv_i (nI (T (a + n) - 48)) (pk_sub (b := 48) (by omega)) ?_
                    refine ca_v [(nm, .inr (3, [.ref x, .int v1, .int v2, .int v3, .int v4, .int (nI a), .int (nI b0), .int (zI pq)])), (x, .inl (cC, 2400, .inl (tx T)))] (va_runV (As := [.int (nI (T (a + n) - 48))]) (rest := []) ⟨hx, hb, hml, hown, hts⟩ (c_Dec_keepDigit l D E h q t ta b cA ft nt Vt g gs kp (T (a + n) - 48) ex (zI ((kp + 1 : Nat) + (r : Int) - gf T a (n + 1))) hB hg he he9 (by omega) (fit10 hs1 (by omega)) H.size) (xV 1 hts kC_Dec_keepDigit kM_Dec_84 kI_Dec_keepDigit kS_Dec_keepDigit kN_Dec rfl rfl (by decide +kernel) ⟨Nat.le_of_ble_eq_true rfl, Nat.le_of_ble_eq_true rfl⟩) ⟨ct_blind hev, va_recv hK hP (ci := 1) (q0 := 0) rfl rfl, ct_pre hev hP hK hD hS hA hE [0, 3, 4, 5] rfl (by decide) [1] rfl⟩ rfl rfl hl.1 rfl (lv_room (Nat.le_of_ble_eq_true rfl)) d_Dec_gather_152 ⟨Nat.le_of_ble_eq_true rfl, Nat.le_of_ble_eq_true rfl⟩) hP hD hS hA [0, 3, 4, 5] [1, 2] rfl rfl (by decide) (by decide) (fun u H locs hw hP hD hS hK1 => ?_)
                    obtain ⟨f13, n13, V13, g13, gs13⟩ := u
                    obtain ⟨hB13, hv13, hg13, ex13, hx13, he13⟩ := hw
                    have hB13 : isB f13 n13 V13 := hB13
                    have hv13 : V13 * gs13 + g13 = (Vt * gs + g) * 10 + (T (a + n) - 48) := hv13
                    have hg13 : g13 < gs13 := hg13
                    have he13 : gs13 = 10 ^ ex13 := he13
                    have hP : va_P D vcl [(nm, .inr (3, [.ref x, .int v1, .int v2, .int v3, .int v4, .int (nI a), .int (nI b0), .int (zI pq)])), (x, .inl (cC, 2400, .inl (tx T))), (h, .inr (1, [.ref q, .int (nI g13), .int (nI gs13), .int (nI (kp + 1)), .int (zI ((kp + 1 : Nat) + (r : Int) - gf T a (n + 1)))])), (q, .inr (2, [.ref t, .ref b])), (t, .inr (0, [.ref ta, .int (nI n13)])), (ta, .inl (cA, 96, .inl f13))] H := hP
                    have hD : va_D A [(nm, .inr (3, [.ref x, .int v1, .int v2, .int v3, .int v4, .int (nI a), .int (nI b0), .int (zI pq)])), (x, .inl (cC, 2400, .inl (tx T))), (h, .inr (1, [.ref q, .int (nI g13), .int (nI gs13), .int (nI (kp + 1)), .int (zI ((kp + 1 : Nat) + (r : Int) - gf T a (n + 1)))])), (q, .inr (2, [.ref t, .ref b])), (t, .inr (0, [.ref ta, .int (nI n13)])), (ta, .inl (cA, 96, .inl f13))] := hD
                    refine lv_goto (tgt := 177) hx hb d_Dec_gather_155 (by decide) ?_
                    refine lv_iinc (v := nI (a + (n + 1))) (lv' := [(6, .int (nI (a + (n + 1)))), (7, .int (nI (T (a + n)))), (0, .ref h), (1, .ref nm), (2, .int (nI (kMd i))), (3, .ref x), (4, .int (bI (gp T a (n + 1)))), (5, .int (bI (decide (tl ≠ 0))))]) hx hb d_Dec_gather_177 hl (k := 7) rfl (nI_1 (a + n)) (by decide) rfl (fun ls hl => ?_)
                    refine lv_goto (tgt := 48) hx hb d_Dec_gather_180 (by decide) ?_
                    rw [show zI ((kp + 1 : Nat) + (r : Int) - gf T a (n + 1)) = zI (((kp + 1 : Nat) : Int) + r - gf T a (n + 1)) from rfl] at hP hD
                    exact ih (n + 1) f13 n13 V13 g13 gs13 (kp + 1) r tl (by omega) (by omega) (hB13) (⟨ex13, hx13, he13⟩) (hg13) (by rw [gv_dg e69, hM, hdg, hv13, hr0, ht0, Nat.pow_zero]; omega) (ht) (by omega) (fun _ => hr0) (by rw [hv13]; exact hs1) (fun _ => by rw [hv13, Nat.add_sub_cancel]; exact hs2) (by omega) _ _ _ (hP.sub [2, 0, 1, 3, 4, 5] rfl) (hD.sub [2, 0, 1, 3, 4, 5] (by decide) rfl) hS (lv_sub hl [2, 3, 4, 5, 6, 7, 0] rfl)
                · have e121 : gp T a n = true := by rw [← gp_dg e69]; exact tt_of (fun z => c126 ((bI_0 _).mpr z))
                  refine lv_iconst (v := 0) hx hb d_Dec_gather_129 (by decide) ?_
                  refine lv_goto (tgt := 134) hx hb d_Dec_gather_130 (by decide) ?_
                  refine lv_iadd hx hb d_Dec_gather_134 ?_
                  refine tv_i (zI ((kp : Int) + r + 1 - gf T a (n + 1))) (by have h9 := gf_dg e69; rw [e121] at h9; have h9 : gf T a (n + 1) = gf T a n + 1 := h9; rw [h9]; show zI _ + zI 0 = zI _; rw [zI_add]; exact congrArg zI (by omega)) ?_
                  refine va_put (D := D) (ci := 1) (v := .int (zI ((kp : Int) + r + 1 - gf T a (n + 1)))) (ty := .int) (C := R_Dec) (T := F_Dec) (N := 5) hx hb hts w_Dec t_Dec tk_Dec n_Dec hown hK hP hD hS 0 rfl rfl 4 (by decide) (hts _ kF_Dec_26) (fun _ h9 => h9) rfl (by decide +kernel) (rfl) (rfl) (Nat.le_of_ble_eq_true rfl) d_Dec_gather_135 (fun H locs hP hD hS => ?_)
                  have hP : va_P D vcl [(h, .inr (1, [.ref q, .int (nI g), .int (nI gs), .int (nI kp), .int (zI ((kp : Int) + r + 1 - gf T a (n + 1)))])), (nm, .inr (3, [.ref x, .int v1, .int v2, .int v3, .int v4, .int (nI a), .int (nI b0), .int (zI pq)])), (x, .inl (cC, 2400, .inl (tx T))), (q, .inr (2, [.ref t, .ref b])), (t, .inr (0, [.ref ta, .int (nI nt)])), (ta, .inl (cA, 96, .inl ft))] H := hP
                  have hD : va_D A [(h, .inr (1, [.ref q, .int (nI g), .int (nI gs), .int (nI kp), .int (zI ((kp : Int) + r + 1 - gf T a (n + 1)))])), (nm, .inr (3, [.ref x, .int v1, .int v2, .int v3, .int v4, .int (nI a), .int (nI b0), .int (zI pq)])), (x, .inl (cC, 2400, .inl (tx T))), (q, .inr (2, [.ref t, .ref b])), (t, .inr (0, [.ref ta, .int (nI nt)])), (ta, .inl (cA, 96, .inl ft))] := hD
                  refine lv_aload_n hx hb d_Dec_gather_138 rfl (lv_at hl 1 rfl) ?_
                  refine va_get (D := D) (ci := 1) (v := .int (nI kp)) (C := R_Dec) (T := F_Dec) (N := 5) hx hb hts w_Dec hown hK hP 0 rfl rfl 3 (by decide) (hts _ kF_Dec_34) (fun _ h9 => h9) rfl d_Dec_gather_139 ?_
                  refine lv_iload_n hx hb d_Dec_gather_142 rfl (lv_at hl 3 rfl) ?_
                  refine lv_icmp_ge (tgt := 158) hx hb d_Dec_gather_143 (by decide) (fun c143 => ?_) (fun c143 => ?_)
                  · have e138 : kMd i ≤ kp := (nI_leI (by omega) (by omega)).mp c143
                    rw [show zI ((kp : Int) + r + 1 - gf T a (n + 1)) = zI ((kp : Int) + (r + 1 : Nat) - gf T a (n + 1)) from congrArg zI (by omega)] at hP hD
                    refine lv_iload hx hb d_Dec_gather_158 (lv_at hl 6 rfl) ?_
                    refine lv_if_ne (tgt := 170) hx hb d_Dec_gather_160 (by decide) (fun c160 => ?_) (fun c160 => ?_)
                    · have e155 : tl ≠ 0 := of_decide_eq_true (tt_of (fun z => c160 ((bI_0 _).mpr z)))
                      refine lv_iconst (v := 1) hx hb d_Dec_gather_170 (by decide) ?_
                      refine tv_i (bI (decide (tl * 10 + dg (T (a + n)) ≠ 0))) (by rw [decide_eq_true (by rw [hdg]; omega)]; rfl) ?_
                      refine lv_goto (tgt := 175) hx hb d_Dec_gather_171 (by decide) ?_
                      refine lv_istore (lv' := [(5, .int (bI (decide (tl * 10 + dg (T (a + n)) ≠ 0)))), (7, .int (nI (T (a + n)))), (0, .ref h), (1, .ref nm), (2, .int (nI (kMd i))), (3, .ref x), (4, .int (bI (gp T a (n + 1)))), (6, .int (nI (a + n)))]) hx hb d_Dec_gather_175 hl (by decide) rfl (fun ls hl => ?_)
                      refine lv_iinc (v := nI (a + (n + 1))) (lv' := [(6, .int (nI (a + (n + 1)))), (5, .int (bI (decide (tl * 10 + dg (T (a + n)) ≠ 0)))), (7, .int (nI (T (a + n)))), (0, .ref h), (1, .ref nm), (2, .int (nI (kMd i))), (3, .ref x), (4, .int (bI (gp T a (n + 1))))]) hx hb d_Dec_gather_177 hl (k := 7) rfl (nI_1 (a + n)) (by decide) rfl (fun ls hl => ?_)
                      refine lv_goto (tgt := 48) hx hb d_Dec_gather_180 (by decide) ?_
                      exact ih (n + 1) ft nt Vt g gs kp (r + 1) (tl * 10 + dg (T (a + n))) (by omega) (by omega) (hB) (⟨ex, he9, he⟩) (hg) (by rw [gv_dg e69, hM, Nat.pow_succ, Nat.add_mul, Nat.mul_assoc]; omega) (by rw [Nat.pow_succ]; omega) (hk) (fun z => absurd z (by omega)) (hKl) (h1) (by omega) _ _ _ (hP.sub [0, 1, 2, 3, 4, 5] rfl) (hD.sub [0, 1, 2, 3, 4, 5] (by decide) rfl) hS (lv_sub hl [3, 4, 5, 6, 7, 1, 0] rfl)
                    · have e155 : ¬ tl ≠ 0 := of_decide_eq_false ((bI_0 _).mp c160)
                      refine lv_iload hx hb d_Dec_gather_163 (lv_at hl 0 rfl) ?_
                      refine lv_bipush (v := 48) hx hb d_Dec_gather_165 (by decide) ?_
                      refine lv_icmp_eq (tgt := 174) hx hb d_Dec_gather_167 (by decide) (fun c167 => ?_) (fun c167 => ?_)
                      · have e162 : T (a + n) = 48 := (nI_eq (b := 48) (by omega) (by decide)).mp c167
                        refine lv_iconst (v := 0) hx hb d_Dec_gather_174 (by decide) ?_
                        refine tv_i (bI (decide (tl * 10 + dg (T (a + n)) ≠ 0))) (by rw [decide_eq_false (by rw [hdg]; omega)]; rfl) ?_
                        refine lv_istore (lv' := [(5, .int (bI (decide (tl * 10 + dg (T (a + n)) ≠ 0)))), (7, .int (nI (T (a + n)))), (0, .ref h), (1, .ref nm), (2, .int (nI (kMd i))), (3, .ref x), (4, .int (bI (gp T a (n + 1)))), (6, .int (nI (a + n)))]) hx hb d_Dec_gather_175 hl (by decide) rfl (fun ls hl => ?_)
                        refine lv_iinc (v := nI (a + (n + 1))) (lv' := [(6, .int (nI (a + (n + 1)))), (5, .int (bI (decide (tl * 10 + dg (T (a + n)) ≠ 0)))), (7, .int (nI (T (a + n)))), (0, .ref h), (1, .ref nm), (2, .int (nI (kMd i))), (3, .ref x), (4, .int (bI (gp T a (n + 1))))]) hx hb d_Dec_gather_177 hl (k := 7) rfl (nI_1 (a + n)) (by decide) rfl (fun ls hl => ?_)
                        refine lv_goto (tgt := 48) hx hb d_Dec_gather_180 (by decide) ?_
                        exact ih (n + 1) ft nt Vt g gs kp (r + 1) (tl * 10 + dg (T (a + n))) (by omega) (by omega) (hB) (⟨ex, he9, he⟩) (hg) (by rw [gv_dg e69, hM, Nat.pow_succ, Nat.add_mul, Nat.mul_assoc]; omega) (by rw [Nat.pow_succ]; omega) (hk) (fun z => absurd z (by omega)) (hKl) (h1) (by omega) _ _ _ (hP.sub [0, 1, 2, 3, 4, 5] rfl) (hD.sub [0, 1, 2, 3, 4, 5] (by decide) rfl) hS (lv_sub hl [3, 4, 5, 6, 7, 1, 0] rfl)
                      · have e162 : T (a + n) ≠ 48 := fun z => c167 (by rw [z]; rfl)
                        refine lv_iconst (v := 1) hx hb d_Dec_gather_170 (by decide) ?_
                        refine tv_i (bI (decide (tl * 10 + dg (T (a + n)) ≠ 0))) (by rw [decide_eq_true (by rw [hdg]; omega)]; rfl) ?_
                        refine lv_goto (tgt := 175) hx hb d_Dec_gather_171 (by decide) ?_
                        refine lv_istore (lv' := [(5, .int (bI (decide (tl * 10 + dg (T (a + n)) ≠ 0)))), (7, .int (nI (T (a + n)))), (0, .ref h), (1, .ref nm), (2, .int (nI (kMd i))), (3, .ref x), (4, .int (bI (gp T a (n + 1)))), (6, .int (nI (a + n)))]) hx hb d_Dec_gather_175 hl (by decide) rfl (fun ls hl => ?_)
                        refine lv_iinc (v := nI (a + (n + 1))) (lv' := [(6, .int (nI (a + (n + 1)))), (5, .int (bI (decide (tl * 10 + dg (T (a + n)) ≠ 0)))), (7, .int (nI (T (a + n)))), (0, .ref h), (1, .ref nm), (2, .int (nI (kMd i))), (3, .ref x), (4, .int (bI (gp T a (n + 1))))]) hx hb d_Dec_gather_177 hl (k := 7) rfl (nI_1 (a + n)) (by decide) rfl (fun ls hl => ?_)
                        refine lv_goto (tgt := 48) hx hb d_Dec_gather_180 (by decide) ?_
                        exact ih (n + 1) ft nt Vt g gs kp (r + 1) (tl * 10 + dg (T (a + n))) (by omega) (by omega) (hB) (⟨ex, he9, he⟩) (hg) (by rw [gv_dg e69, hM, Nat.pow_succ, Nat.add_mul, Nat.mul_assoc]; omega) (by rw [Nat.pow_succ]; omega) (hk) (fun z => absurd z (by omega)) (hKl) (h1) (by omega) _ _ _ (hP.sub [0, 1, 2, 3, 4, 5] rfl) (hD.sub [0, 1, 2, 3, 4, 5] (by decide) rfl) hS (lv_sub hl [3, 4, 5, 6, 7, 1, 0] rfl)
                  · have e138 : kp < kMd i := Nat.lt_of_not_le (fun z => c143 ((nI_leI (by omega) (by omega)).mpr z))
                    have hr0 : r = 0 := hr e138
                    have ht0 : tl = 0 := by rw [hr0, Nat.pow_zero] at ht; omega
                    obtain ⟨hs1, hs2⟩ := kd_step (d := T (a + n) - 48) hKl h1 (by omega) hz0
                    rw [show zI ((kp : Int) + r + 1 - gf T a (n + 1)) = zI ((kp + 1 : Nat) + (r : Int) - gf T a (n + 1)) from congrArg zI (by omega)] at hP hD
                    refine lv_aload_n hx hb d_Dec_gather_146 rfl (lv_at hl 1 rfl) ?_
                    refine lv_iload hx hb d_Dec_gather_147 (lv_at hl 0 rfl) ?_
                    refine lv_bipush (v := 48) hx hb d_Dec_gather_149 (by decide) ?_
                    refine lv_isub hx hb d_Dec_gather_151 ?_
                    refine tv_i (nI (T (a + n) - 48)) (pk_sub (b := 48) (by omega)) ?_
                    refine ca_v [(nm, .inr (3, [.ref x, .int v1, .int v2, .int v3, .int v4, .int (nI a), .int (nI b0), .int (zI pq)])), (x, .inl (cC, 2400, .inl (tx T)))] (va_runV (As := [.int (nI (T (a + n) - 48))]) (rest := []) ⟨hx, hb, hml, hown, hts⟩ (c_Dec_keepDigit l D E h q t ta b cA ft nt Vt g gs kp (T (a + n) - 48) ex (zI ((kp + 1 : Nat) + (r : Int) - gf T a (n + 1))) hB hg he he9 (by omega) (fit10 hs1 (by omega)) H.size) (xV 1 hts kC_Dec_keepDigit kM_Dec_84 kI_Dec_keepDigit kS_Dec_keepDigit kN_Dec rfl rfl (by decide +kernel) ⟨Nat.le_of_ble_eq_true rfl, Nat.le_of_ble_eq_true rfl⟩) ⟨ct_blind hev, va_recv hK hP (ci := 1) (q0 := 0) rfl rfl, ct_pre hev hP hK hD hS hA hE [0, 3, 4, 5] rfl (by decide) [1] rfl⟩ rfl rfl hl.1 rfl (lv_room (Nat.le_of_ble_eq_true rfl)) d_Dec_gather_152 ⟨Nat.le_of_ble_eq_true rfl, Nat.le_of_ble_eq_true rfl⟩) hP hD hS hA [0, 3, 4, 5] [1, 2] rfl rfl (by decide) (by decide) (fun u H locs hw hP hD hS hK1 => ?_)
                    obtain ⟨f14, n14, V14, g14, gs14⟩ := u
                    obtain ⟨hB14, hv14, hg14, ex14, hx14, he14⟩ := hw
                    have hB14 : isB f14 n14 V14 := hB14
                    have hv14 : V14 * gs14 + g14 = (Vt * gs + g) * 10 + (T (a + n) - 48) := hv14
                    have hg14 : g14 < gs14 := hg14
                    have he14 : gs14 = 10 ^ ex14 := he14
                    have hP : va_P D vcl [(nm, .inr (3, [.ref x, .int v1, .int v2, .int v3, .int v4, .int (nI a), .int (nI b0), .int (zI pq)])), (x, .inl (cC, 2400, .inl (tx T))), (h, .inr (1, [.ref q, .int (nI g14), .int (nI gs14), .int (nI (kp + 1)), .int (zI ((kp + 1 : Nat) + (r : Int) - gf T a (n + 1)))])), (q, .inr (2, [.ref t, .ref b])), (t, .inr (0, [.ref ta, .int (nI n14)])), (ta, .inl (cA, 96, .inl f14))] H := hP
                    have hD : va_D A [(nm, .inr (3, [.ref x, .int v1, .int v2, .int v3, .int v4, .int (nI a), .int (nI b0), .int (zI pq)])), (x, .inl (cC, 2400, .inl (tx T))), (h, .inr (1, [.ref q, .int (nI g14), .int (nI gs14), .int (nI (kp + 1)), .int (zI ((kp + 1 : Nat) + (r : Int) - gf T a (n + 1)))])), (q, .inr (2, [.ref t, .ref b])), (t, .inr (0, [.ref ta, .int (nI n14)])), (ta, .inl (cA, 96, .inl f14))] := hD
                    refine lv_goto (tgt := 177) hx hb d_Dec_gather_155 (by decide) ?_
                    refine lv_iinc (v := nI (a + (n + 1))) (lv' := [(6, .int (nI (a + (n + 1)))), (7, .int (nI (T (a + n)))), (0, .ref h), (1, .ref nm), (2, .int (nI (kMd i))), (3, .ref x), (4, .int (bI (gp T a (n + 1)))), (5, .int (bI (decide (tl ≠ 0))))]) hx hb d_Dec_gather_177 hl (k := 7) rfl (nI_1 (a + n)) (by decide) rfl (fun ls hl => ?_)
                    refine lv_goto (tgt := 48) hx hb d_Dec_gather_180 (by decide) ?_
                    rw [show zI ((kp + 1 : Nat) + (r : Int) - gf T a (n + 1)) = zI (((kp + 1 : Nat) : Int) + r - gf T a (n + 1)) from rfl] at hP hD
                    exact ih (n + 1) f14 n14 V14 g14 gs14 (kp + 1) r tl (by omega) (by omega) (hB14) (⟨ex14, hx14, he14⟩) (hg14) (by rw [gv_dg e69, hM, hdg, hv14, hr0, ht0, Nat.pow_zero]; omega) (ht) (by omega) (fun _ => hr0) (by rw [hv14]; exact hs1) (fun _ => by rw [hv14, Nat.add_sub_cancel]; exact hs2) (by omega) _ _ _ (hP.sub [2, 0, 1, 3, 4, 5] rfl) (hD.sub [2, 0, 1, 3, 4, 5] (by decide) rfl) hS (lv_sub hl [2, 3, 4, 5, 6, 7, 0] rfl)
              · have e89 : T (a + n) = 48 := (nI_eq (b := 48) (by omega) (by decide)).mp c94
                have hr0 : r = 0 := hr (by omega)
                have hK0 : Vt * gs + g = 0 := by rw [e82, Nat.pow_zero] at hKl; omega
                have ht0 : tl = 0 := by rw [hr0, Nat.pow_zero] at ht; omega
                refine lv_aload_n hx hb d_Dec_gather_97 rfl (lv_at hl 1 rfl) ?_
                refine lv_dup hx hb d_Dec_gather_98 rfl ?_
                refine va_get (D := D) (ci := 1) (v := .int (zI ((kp : Int) + r - gf T a n))) (C := R_Dec) (T := F_Dec) (N := 5) hx hb hts w_Dec hown hK hP 0 rfl rfl 4 (by decide) (hts _ kF_Dec_26) (fun _ h9 => h9) rfl d_Dec_gather_99 ?_
                refine lv_iload hx hb d_Dec_gather_102 (lv_at hl 5 rfl) ?_
                refine lv_if_eq (tgt := 111) hx hb d_Dec_gather_104 (by decide) (fun c104 => ?_) (fun c104 => ?_)
                · have e99 : gp T a n = false := by rw [← gp_dg e69]; exact (bI_0 _).mp c104
                  refine lv_iconst (v := 0) hx hb d_Dec_gather_111 (by decide) ?_
                  refine lv_isub hx hb d_Dec_gather_112 ?_
                  refine tv_i (zI ((kp : Int) + r - gf T a (n + 1))) (by have h9 := gf_dg e69; rw [e99] at h9; have h9 : gf T a (n + 1) = gf T a n + 0 := h9; rw [h9]; show zI _ - zI 0 = zI _; rw [zI_sub]; exact congrArg zI (by omega)) ?_
                  refine va_put (D := D) (ci := 1) (v := .int (zI ((kp : Int) + r - gf T a (n + 1)))) (ty := .int) (C := R_Dec) (T := F_Dec) (N := 5) hx hb hts w_Dec t_Dec tk_Dec n_Dec hown hK hP hD hS 0 rfl rfl 4 (by decide) (hts _ kF_Dec_26) (fun _ h9 => h9) rfl (by decide +kernel) (rfl) (rfl) (Nat.le_of_ble_eq_true rfl) d_Dec_gather_113 (fun H locs hP hD hS => ?_)
                  have hP : va_P D vcl [(h, .inr (1, [.ref q, .int (nI g), .int (nI gs), .int (nI kp), .int (zI ((kp : Int) + r - gf T a (n + 1)))])), (nm, .inr (3, [.ref x, .int v1, .int v2, .int v3, .int v4, .int (nI a), .int (nI b0), .int (zI pq)])), (x, .inl (cC, 2400, .inl (tx T))), (q, .inr (2, [.ref t, .ref b])), (t, .inr (0, [.ref ta, .int (nI nt)])), (ta, .inl (cA, 96, .inl ft))] H := hP
                  have hD : va_D A [(h, .inr (1, [.ref q, .int (nI g), .int (nI gs), .int (nI kp), .int (zI ((kp : Int) + r - gf T a (n + 1)))])), (nm, .inr (3, [.ref x, .int v1, .int v2, .int v3, .int v4, .int (nI a), .int (nI b0), .int (zI pq)])), (x, .inl (cC, 2400, .inl (tx T))), (q, .inr (2, [.ref t, .ref b])), (t, .inr (0, [.ref ta, .int (nI nt)])), (ta, .inl (cA, 96, .inl ft))] := hD
                  refine lv_goto (tgt := 177) hx hb d_Dec_gather_116 (by decide) ?_
                  refine lv_iinc (v := nI (a + (n + 1))) (lv' := [(6, .int (nI (a + (n + 1)))), (7, .int (nI (T (a + n)))), (0, .ref h), (1, .ref nm), (2, .int (nI (kMd i))), (3, .ref x), (4, .int (bI (gp T a (n + 1)))), (5, .int (bI (decide (tl ≠ 0))))]) hx hb d_Dec_gather_177 hl (k := 7) rfl (nI_1 (a + n)) (by decide) rfl (fun ls hl => ?_)
                  refine lv_goto (tgt := 48) hx hb d_Dec_gather_180 (by decide) ?_
                  exact ih (n + 1) ft nt Vt g gs kp r tl (by omega) (by omega) (hB) (⟨ex, he9, he⟩) (hg) (by rw [gv_dg e69, hM, hdg, e89, hK0, ht0, Nat.zero_mul]) (ht) (hk) (hr) (hKl) (h1) (by omega) _ _ _ (hP.sub [0, 1, 2, 3, 4, 5] rfl) (hD.sub [0, 1, 2, 3, 4, 5] (by decide) rfl) hS (lv_sub hl [2, 3, 4, 5, 6, 7, 0] rfl)
                · have e99 : gp T a n = true := by rw [← gp_dg e69]; exact tt_of (fun z => c104 ((bI_0 _).mpr z))
                  refine lv_iconst (v := 1) hx hb d_Dec_gather_107 (by decide) ?_
                  refine lv_goto (tgt := 112) hx hb d_Dec_gather_108 (by decide) ?_
                  refine lv_isub hx hb d_Dec_gather_112 ?_
                  refine tv_i (zI ((kp : Int) + r - gf T a (n + 1))) (by have h9 := gf_dg e69; rw [e99] at h9; have h9 : gf T a (n + 1) = gf T a n + 1 := h9; rw [h9]; show zI _ - zI 1 = zI _; rw [zI_sub]; exact congrArg zI (by omega)) ?_
                  refine va_put (D := D) (ci := 1) (v := .int (zI ((kp : Int) + r - gf T a (n + 1)))) (ty := .int) (C := R_Dec) (T := F_Dec) (N := 5) hx hb hts w_Dec t_Dec tk_Dec n_Dec hown hK hP hD hS 0 rfl rfl 4 (by decide) (hts _ kF_Dec_26) (fun _ h9 => h9) rfl (by decide +kernel) (rfl) (rfl) (Nat.le_of_ble_eq_true rfl) d_Dec_gather_113 (fun H locs hP hD hS => ?_)
                  have hP : va_P D vcl [(h, .inr (1, [.ref q, .int (nI g), .int (nI gs), .int (nI kp), .int (zI ((kp : Int) + r - gf T a (n + 1)))])), (nm, .inr (3, [.ref x, .int v1, .int v2, .int v3, .int v4, .int (nI a), .int (nI b0), .int (zI pq)])), (x, .inl (cC, 2400, .inl (tx T))), (q, .inr (2, [.ref t, .ref b])), (t, .inr (0, [.ref ta, .int (nI nt)])), (ta, .inl (cA, 96, .inl ft))] H := hP
                  have hD : va_D A [(h, .inr (1, [.ref q, .int (nI g), .int (nI gs), .int (nI kp), .int (zI ((kp : Int) + r - gf T a (n + 1)))])), (nm, .inr (3, [.ref x, .int v1, .int v2, .int v3, .int v4, .int (nI a), .int (nI b0), .int (zI pq)])), (x, .inl (cC, 2400, .inl (tx T))), (q, .inr (2, [.ref t, .ref b])), (t, .inr (0, [.ref ta, .int (nI nt)])), (ta, .inl (cA, 96, .inl ft))] := hD
                  refine lv_goto (tgt := 177) hx hb d_Dec_gather_116 (by decide) ?_
                  refine lv_iinc (v := nI (a + (n + 1))) (lv' := [(6, .int (nI (a + (n + 1)))), (7, .int (nI (T (a + n)))), (0, .ref h), (1, .ref nm), (2, .int (nI (kMd i))), (3, .ref x), (4, .int (bI (gp T a (n + 1)))), (5, .int (bI (decide (tl ≠ 0))))]) hx hb d_Dec_gather_177 hl (k := 7) rfl (nI_1 (a + n)) (by decide) rfl (fun ls hl => ?_)
                  refine lv_goto (tgt := 48) hx hb d_Dec_gather_180 (by decide) ?_
                  exact ih (n + 1) ft nt Vt g gs kp r tl (by omega) (by omega) (hB) (⟨ex, he9, he⟩) (hg) (by rw [gv_dg e69, hM, hdg, e89, hK0, ht0, Nat.zero_mul]) (ht) (hk) (hr) (hKl) (h1) (by omega) _ _ _ (hP.sub [0, 1, 2, 3, 4, 5] rfl) (hD.sub [0, 1, 2, 3, 4, 5] (by decide) rfl) hS (lv_sub hl [2, 3, 4, 5, 6, 7, 0] rfl)
          · have e69 : T (a + n) = 46 := (nI_eq (b := 46) (by omega) (by decide)).mp c74
            rw [← gf_pt e69] at hP hD
            refine lv_iconst (v := 1) hx hb d_Dec_gather_77 (by decide) ?_
            refine tv_i (bI (gp T a (n + 1))) (by rw [gp_pt e69]; rfl) ?_
            refine lv_istore (lv' := [(4, .int (bI (gp T a (n + 1)))), (7, .int (nI (T (a + n)))), (0, .ref h), (1, .ref nm), (2, .int (nI (kMd i))), (3, .ref x), (5, .int (bI (decide (tl ≠ 0)))), (6, .int (nI (a + n)))]) hx hb d_Dec_gather_78 hl (by decide) rfl (fun ls hl => ?_)
            refine lv_goto (tgt := 177) hx hb d_Dec_gather_80 (by decide) ?_
            refine lv_iinc (v := nI (a + (n + 1))) (lv' := [(6, .int (nI (a + (n + 1)))), (4, .int (bI (gp T a (n + 1)))), (7, .int (nI (T (a + n)))), (0, .ref h), (1, .ref nm), (2, .int (nI (kMd i))), (3, .ref x), (5, .int (bI (decide (tl ≠ 0))))]) hx hb d_Dec_gather_177 hl (k := 7) rfl (nI_1 (a + n)) (by decide) rfl (fun ls hl => ?_)
            refine lv_goto (tgt := 48) hx hb d_Dec_gather_180 (by decide) ?_
            exact ih (n + 1) ft nt Vt g gs kp r tl (by omega) (by omega) (hB) (⟨ex, he9, he⟩) (hg) (by rw [gv_pt e69]; exact hM) (ht) (hk) (hr) (hKl) (h1) (by omega) _ _ _ (hP.sub [0, 1, 2, 3, 4, 5] rfl) (hD.sub [0, 1, 2, 3, 4, 5] (by decide) rfl) hS (lv_sub hl [3, 4, 5, 6, 1, 7, 0] rfl)
  exact L40 (b0 - a + 1) 0 f1 n2 0 0 1 0 0 0 (by omega) (hab) (hB3) (⟨0, by decide, rfl⟩) (by decide) (rfl) (by decide) (Nat.zero_le _) (fun _ => rfl) (by decide) (fun h => absurd h (by decide)) (Nat.le_refl 0) _ _ _ (hP.sub [0, 1, 2, 3, 4, 5] rfl) (hD.sub [0, 1, 2, 3, 4, 5] (by decide) rfl) hS (lv_sub hl [4, 5, 6, 3, 2, 1, 0] rfl)

set_option maxHeartbeats 4000000 in
set_option maxRecDepth 100000 in
theorem c_Dec_nearest (l : Launch) (D : va_G) (E : evD) (i : Nat) (hi : i < 2) (h x q t ta b ba nm : Nat) (cC cA cB : ClassId) (T : Nat → Nat) (f g : Nat → Int32) (nv mv g0 gs0 kp0 pl0 v1 v2 v3 v4 : Int32) (a b0 : Nat) (pq : Int) (hab : a + 0 ≤ b0) (hb0 : b0 ≤ 2400) (hT : ∀ j, T j < 65536) (hdig : ∀ j, a ≤ j → j < b0 → T j = 46 ∨ (48 ≤ T j ∧ T j ≤ 57)) (hq1 : -1000000 ≤ pq) (hq2 : pq ≤ 1000000) : Cl (S := ((Nat → Int32) × Int32 × (Nat → Int32) × Int32) × (Int32 × Int32 × Int32 × Int32)) l y_Dec_nearest (wz y_Dec_nearest b_Dec_nearest 5 (some .long)) ({ frames := 3, cells := 0, slots := 0, locals := 84 }) D vcl (ev1 E) [.ref h, .ref nm, .ref (E.1 i)] [(cC, .char), (cA, .int), (cB, .int)] [(h, .inr (1, [.ref q, .int g0, .int gs0, .int kp0, .int pl0])), (x, .inl (cC, 2400, .inl (tx T))), (q, .inr (2, [.ref t, .ref b])), (t, .inr (0, [.ref ta, .int nv])), (ta, .inl (cA, 96, .inl f)), (b, .inr (0, [.ref ba, .int mv])), (ba, .inl (cB, 96, .inl g)), (nm, .inr (3, [.ref x, .int v1, .int v2, .int v3, .int v4, .int (nI a), .int (nI b0), .int (zI pq)]))] 0 0 (fun (r : Int64) (_ : ((Nat → Int32) × Int32 × (Nat → Int32) × Int32) × (Int32 × Int32 × Int32 × Int32)) => r = lN (dec (kP i) (kZ i) (kLw i) (gv 10 T a (b0 - a)) (pq - gf T a (b0 - a)))) (fun _ => [(cC, .char), (cA, .int), (cB, .int)]) (fun u : ((Nat → Int32) × Int32 × (Nat → Int32) × Int32) × (Int32 × Int32 × Int32 × Int32) => [(h, .inr (1, [.ref q, .int u.2.1, .int u.2.2.1, .int u.2.2.2.1, .int u.2.2.2.2])), (x, .inl (cC, 2400, .inl (tx T))), (q, .inr (2, [.ref t, .ref b])), (t, .inr (0, [.ref ta, .int u.1.2.1])), (ta, .inl (cA, 96, .inl u.1.1)), (b, .inr (0, [.ref ba, .int u.1.2.2.2])), (ba, .inl (cB, 96, .inl u.1.2.2.1)), (nm, .inr (3, [.ref x, .int v1, .int v2, .int v3, .int v4, .int (nI a), .int (nI b0), .int (zI pq)]))]) := by
  have hev := ev1_ok E
  unfold Cl
  refine ct_of (y := y_Dec_nearest) (av := [.ref h, .ref nm, .ref (E.1 i)]) (cc := b_Dec_nearest) (maxL := 5) (ret := (some .long)) (Qc := fun A => va_Ql (S := ((Nat → Int32) × Int32 × (Nat → Int32) × Int32) × (Int32 × Int32 × Int32 × Int32)) (fun (r : Int64) (_ : ((Nat → Int32) × Int32 × (Nat → Int32) × Int32) × (Int32 × Int32 × Int32 × Int32)) => r = lN (dec (kP i) (kZ i) (kLw i) (gv 10 T a (b0 - a)) (pq - gf T a (b0 - a)))) (fun u tS => ctB D vcl ((fun _ => [(cC, .char), (cA, .int), (cB, .int)]) u) ((fun u : ((Nat → Int32) × Int32 × (Nat → Int32) × Int32) × (Int32 × Int32 × Int32 × Int32) => [(h, .inr (1, [.ref q, .int u.2.1, .int u.2.2.1, .int u.2.2.2.1, .int u.2.2.2.2])), (x, .inl (cC, 2400, .inl (tx T))), (q, .inr (2, [.ref t, .ref b])), (t, .inr (0, [.ref ta, .int u.1.2.1])), (ta, .inl (cA, 96, .inl u.1.1)), (b, .inr (0, [.ref ba, .int u.1.2.2.2])), (ba, .inl (cB, 96, .inl u.1.2.2.1)), (nm, .inr (3, [.ref x, .int v1, .int v2, .int v3, .int v4, .int (nI a), .int (nI b0), .int (zI pq)]))]) u) A tS) A) (by decide) rfl (Nat.le_of_ble_eq_true rfl) ?_
  intro p ee s m below meth cde ls A H locs hx hb hml hrt hlocks hown hin hts hA hP hK hD hS hE hl
  have hown : s.vm.findClass R_Dec = some m.cls := hown
  have hts := wz_g hts
  have hl : lv_has ls 5 [(0, .ref h), (1, .ref nm), (2, .ref (E.1 i))] := hl
  obtain ⟨hk1, hk2, hk3, hk4, hk5, hk6, hk7, hk8, hk9⟩ := kP_b i hi
  refine lv_aload_n hx hb d_Dec_nearest_0 rfl (lv_at hl 0 rfl) ?_
  refine lv_aload_n hx hb d_Dec_nearest_1 rfl (lv_at hl 1 rfl) ?_
  refine lv_aload_n hx hb d_Dec_nearest_2 rfl (lv_at hl 2 rfl) ?_
  refine va_getE hx hb hE.2.1 (i := i) hi hS hown (q := kF[3]) (List.getElem_mem _) (hts _ kF_Dec_16) (fun _ h9 => h9) d_Dec_nearest_3 ?_
  refine tv_i (nI (kMd i)) (kf_M i hi) ?_
  refine ca_v [(b, .inr (0, [.ref ba, .int mv])), (ba, .inl (cB, 96, .inl g))] (va_runV (As := [.ref nm, .int (nI (kMd i))]) (rest := []) ⟨hx, hb, hml, hown, hts⟩ (c_Dec_gather l D E i hi h nm x q t ta b cC cA T f nv g0 gs0 kp0 pl0 v1 v2 v3 v4 a b0 pq (hab) (hb0) (hT) (hdig) H.size) (xV 2 hts kC_Dec_gather kM_Dec_22 kI_Dec_gather kS_Dec_gather kN_Dec rfl rfl (by decide +kernel) ⟨Nat.le_of_ble_eq_true rfl, Nat.le_of_ble_eq_true rfl⟩) ⟨ct_blind hev, va_recv hK hP (ci := 1) (q0 := 0) rfl rfl, ct_pre hev hP hK hD hS hA hE [0, 7, 1, 2, 3, 4] rfl (by decide) [0, 1] rfl⟩ rfl rfl hl.1 rfl (lv_room (Nat.le_of_ble_eq_true rfl)) d_Dec_nearest_6 ⟨Nat.le_of_ble_eq_true rfl, Nat.le_of_ble_eq_true rfl⟩) hP hD hS hA [0, 7, 1, 2, 3, 4] [5, 6] rfl rfl (by decide) (by decide) (fun u H locs hw hP hD hS hK1 => ?_)
  obtain ⟨fg, ng, Kf, gg, gsg, kpg, plg⟩ := u
  obtain ⟨hBg, hga⟩ := hw
  have hBg : isB fg ng Kf := hBg
  have hga : gaOK i (gv 10 T a (b0 - a)) (gf T a (b0 - a)) Kf kpg plg := hga
  have hP : va_P D vcl [(b, .inr (0, [.ref ba, .int mv])), (ba, .inl (cB, 96, .inl g)), (h, .inr (1, [.ref q, .int (nI gg), .int (nI gsg), .int (nI kpg), .int (zI plg)])), (nm, .inr (3, [.ref x, .int v1, .int v2, .int v3, .int v4, .int (nI a), .int (nI b0), .int (zI pq)])), (x, .inl (cC, 2400, .inl (tx T))), (q, .inr (2, [.ref t, .ref b])), (t, .inr (0, [.ref ta, .int (nI ng)])), (ta, .inl (cA, 96, .inl fg))] H := hP
  have hD : va_D A [(b, .inr (0, [.ref ba, .int mv])), (ba, .inl (cB, 96, .inl g)), (h, .inr (1, [.ref q, .int (nI gg), .int (nI gsg), .int (nI kpg), .int (zI plg)])), (nm, .inr (3, [.ref x, .int v1, .int v2, .int v3, .int v4, .int (nI a), .int (nI b0), .int (zI pq)])), (x, .inl (cC, 2400, .inl (tx T))), (q, .inr (2, [.ref t, .ref b])), (t, .inr (0, [.ref ta, .int (nI ng)])), (ta, .inl (cA, 96, .inl fg))] := hD
  obtain ⟨hL1, hK2, hK3, hp1, hp2, hK4⟩ := hga
  have hK4 := hK4 pq
  refine lv_aload_n hx hb d_Dec_nearest_9 rfl (lv_at hl 0 rfl) ?_
  refine va_get (D := D) (ci := 1) (v := .int (zI plg)) (C := R_Dec) (T := F_Dec) (N := 5) hx hb hts w_Dec hown hK hP 2 rfl rfl 4 (by decide) (hts _ kF_Dec_26) (fun _ h9 => h9) rfl d_Dec_nearest_10 ?_
  refine lv_aload_n hx hb d_Dec_nearest_13 rfl (lv_at hl 1 rfl) ?_
  refine va_get (D := D) (ci := 3) (v := .int (zI pq)) (C := R_Num) (T := F_Num) (N := 8) hx hb hts w_Num hown hK hP 3 rfl rfl 7 (by decide) (hts _ kF_Dec_29) (fun _ h9 => h9) rfl d_Dec_nearest_14 ?_
  refine lv_iadd hx hb d_Dec_nearest_17 ?_
  refine tv_i (zI (plg + pq)) (zI_add _ _) ?_
  refine lv_istore_n (lv' := [(3, .int (zI (plg + pq))), (0, .ref h), (1, .ref nm), (2, .ref (E.1 i))]) hx hb d_Dec_nearest_18 rfl hl (by decide) rfl (fun ls hl => ?_)
  refine lv_aload_n hx hb d_Dec_nearest_19 rfl (lv_at hl 1 rfl) ?_
  refine va_get (D := D) (ci := 1) (v := .int (nI kpg)) (C := R_Dec) (T := F_Dec) (N := 5) hx hb hts w_Dec hown hK hP 2 rfl rfl 3 (by decide) (hts _ kF_Dec_34) (fun _ h9 => h9) rfl d_Dec_nearest_20 ?_
  refine lv_if_eq (tgt := 34) hx hb d_Dec_nearest_23 (by decide) (fun c23 => ?_) (fun c23 => ?_)
  · have e30 : kpg = 0 := (nI_eq0 (by omega)).mp c23
    refine lv_lconst (v := 0) hx hb d_Dec_nearest_34 (by decide) ?_
    refine tv_l (lN 0) (rfl) ?_
    exact rt_l hx hb hrt hlocks (((fg, nI ng, g, mv), (nI gg, nI gsg, nI kpg, zI plg))) (by rw [hK4, show Kf = 0 by rw [e30, Nat.pow_zero] at hL1; omega, dec_0]) (hP.sub [2, 4, 5, 6, 7, 0, 1, 3] rfl) (hK.sub [0, 1, 2] rfl) (hD.sub [2, 4, 5, 6, 7, 0, 1, 3] (by decide) rfl) hS d_Dec_nearest_35
  · have e30 : kpg ≠ 0 := fun z => c23 (by rw [z]; rfl)
    have hKf : Kf ≠ 0 := fun z => by have h9 := hK2 (by omega); have := ten_pos (kpg - 1); omega
    refine lv_iload_n hx hb d_Dec_nearest_26 rfl (lv_at hl 0 rfl) ?_
    refine lv_aload_n hx hb d_Dec_nearest_27 rfl (lv_at hl 3 rfl) ?_
    refine va_getE hx hb hE.2.1 (i := i) hi hS hown (q := kF[4]) (List.getElem_mem _) (hts _ kF_Dec_37) (fun _ h9 => h9) d_Dec_nearest_28 ?_
    refine tv_i (zI (-(kLo i : Int))) (kf_lo i hi) ?_
    refine lv_icmp_ge (tgt := 36) hx hb d_Dec_nearest_31 (by decide) (fun c31 => ?_) (fun c31 => ?_)
    · have e38 : -(kLo i : Int) ≤ plg + pq := (zI_le (by omega) (by omega) (by omega) (by omega)).mp c31
      refine lv_iload_n hx hb d_Dec_nearest_36 rfl (lv_at hl 0 rfl) ?_
      refine lv_aload_n hx hb d_Dec_nearest_37 rfl (lv_at hl 3 rfl) ?_
      refine va_getE hx hb hE.2.1 (i := i) hi hS hown (q := kF[5]) (List.getElem_mem _) (hts _ kF_Dec_40) (fun _ h9 => h9) d_Dec_nearest_38 ?_
      refine tv_i (zI (kHi i : Int)) (kf_hi i hi) ?_
      refine lv_icmp_le (tgt := 49) hx hb d_Dec_nearest_41 (by decide) (fun c41 => ?_) (fun c41 => ?_)
      · have e48 : plg + pq ≤ (kHi i : Int) := (zI_le (by omega) (by omega) (by omega) (by omega)).mp c41
        refine lv_aload_n hx hb d_Dec_nearest_49 rfl (lv_at hl 1 rfl) ?_
        refine va_get (D := D) (ci := 1) (v := .ref q) (C := R_Dec) (T := F_Dec) (N := 5) hx hb hts w_Dec hown hK hP 2 rfl rfl 0 (by decide) (hts _ kF_Dec_10) (fun _ h9 => h9) rfl d_Dec_nearest_50 ?_
        refine va_get (D := D) (ci := 2) (v := .ref b) (C := R_Fra) (T := F_Fra) (N := 2) hx hb hts w_Fra hown hK hP 5 rfl rfl 1 (by decide) (hts _ kF_Dec_47) (fun _ h9 => h9) rfl d_Dec_nearest_53 ?_
        refine lv_lconst (v := 1) hx hb d_Dec_nearest_56 (by decide) ?_
        refine tv_l (lN 1) (rfl) ?_
        refine ca_v [(h, .inr (1, [.ref q, .int (nI gg), .int (nI gsg), .int (nI kpg), .int (zI plg)])), (nm, .inr (3, [.ref x, .int v1, .int v2, .int v3, .int v4, .int (nI a), .int (nI b0), .int (zI pq)])), (x, .inl (cC, 2400, .inl (tx T))), (q, .inr (2, [.ref t, .ref b])), (t, .inr (0, [.ref ta, .int (nI ng)])), (ta, .inl (cA, 96, .inl fg))] (va_runV (As := [.long (lN 1)]) (rest := []) ⟨hx, hb, hml, hown, hts⟩ (c_Big_set l D E b ba cB g mv 1 (by decide) H.size) (xV 1 hts kC_Big_set kM_Dec_51 kI_Big_set kS_Big_set kN_Big rfl rfl (by decide +kernel) ⟨Nat.le_of_ble_eq_true rfl, Nat.le_of_ble_eq_true rfl⟩) ⟨ct_blind hev, va_recv hK hP (ci := 0) (q0 := 0) rfl rfl, ct_pre hev hP hK hD hS hA hE [0, 1] rfl (by decide) [2] rfl⟩ rfl rfl hl.1 rfl (lv_room (Nat.le_of_ble_eq_true rfl)) d_Dec_nearest_57 ⟨Nat.le_of_ble_eq_true rfl, Nat.le_of_ble_eq_true rfl⟩) hP hD hS hA [0, 1] [2, 3, 4, 5, 6, 7] rfl rfl (by decide) (by decide) (fun u H locs hw hP hD hS hK1 => ?_)
        obtain ⟨f1, n2⟩ := u
        have hB3 : isB f1 n2 (1) := hw
        have hP : va_P D vcl [(h, .inr (1, [.ref q, .int (nI gg), .int (nI gsg), .int (nI kpg), .int (zI plg)])), (nm, .inr (3, [.ref x, .int v1, .int v2, .int v3, .int v4, .int (nI a), .int (nI b0), .int (zI pq)])), (x, .inl (cC, 2400, .inl (tx T))), (q, .inr (2, [.ref t, .ref b])), (t, .inr (0, [.ref ta, .int (nI ng)])), (ta, .inl (cA, 96, .inl fg)), (b, .inr (0, [.ref ba, .int (nI n2)])), (ba, .inl (cB, 96, .inl f1))] H := hP
        have hD : va_D A [(h, .inr (1, [.ref q, .int (nI gg), .int (nI gsg), .int (nI kpg), .int (zI plg)])), (nm, .inr (3, [.ref x, .int v1, .int v2, .int v3, .int v4, .int (nI a), .int (nI b0), .int (zI pq)])), (x, .inl (cC, 2400, .inl (tx T))), (q, .inr (2, [.ref t, .ref b])), (t, .inr (0, [.ref ta, .int (nI ng)])), (ta, .inl (cA, 96, .inl fg)), (b, .inr (0, [.ref ba, .int (nI n2)])), (ba, .inl (cB, 96, .inl f1))] := hD
        refine lv_iload_n hx hb d_Dec_nearest_60 rfl (lv_at hl 0 rfl) ?_
        refine lv_aload_n hx hb d_Dec_nearest_61 rfl (lv_at hl 1 rfl) ?_
        refine va_get (D := D) (ci := 1) (v := .int (nI kpg)) (C := R_Dec) (T := F_Dec) (N := 5) hx hb hts w_Dec hown hK hP 0 rfl rfl 3 (by decide) (hts _ kF_Dec_34) (fun _ h9 => h9) rfl d_Dec_nearest_62 ?_
        refine lv_isub hx hb d_Dec_nearest_65 ?_
        refine tv_i (zI (plg + pq - kpg)) (by rw [← zI_nI, zI_sub]) ?_
        refine lv_istore (lv' := [(4, .int (zI (plg + pq - kpg))), (3, .int (zI (plg + pq))), (0, .ref h), (1, .ref nm), (2, .ref (E.1 i))]) hx hb d_Dec_nearest_66 hl (by decide) rfl (fun ls hl => ?_)
        refine lv_iload hx hb d_Dec_nearest_68 (lv_at hl 0 rfl) ?_
        refine lv_if_ge (tgt := 89) hx hb d_Dec_nearest_70 (by decide) (fun c70 => ?_) (fun c70 => ?_)
        · have e77 : 0 ≤ plg + pq - kpg := (zI_le (a := 0) (by omega) (by omega) (by omega) (by omega)).mp c70
          have hf5 := five_t (K := Kf) (kp := kpg) (c := (plg + pq - kpg).toNat) hL1 (by omega)
          refine lv_aload_n hx hb d_Dec_nearest_89 rfl (lv_at hl 2 rfl) ?_
          refine va_get (D := D) (ci := 1) (v := .ref q) (C := R_Dec) (T := F_Dec) (N := 5) hx hb hts w_Dec hown hK hP 0 rfl rfl 0 (by decide) (hts _ kF_Dec_10) (fun _ h9 => h9) rfl d_Dec_nearest_90 ?_
          refine va_get (D := D) (ci := 2) (v := .ref t) (C := R_Fra) (T := F_Fra) (N := 2) hx hb hts w_Fra hown hK hP 3 rfl rfl 0 (by decide) (hts _ kF_Dec_61) (fun _ h9 => h9) rfl d_Dec_nearest_93 ?_
          refine lv_iload hx hb d_Dec_nearest_96 (lv_at hl 0 rfl) ?_
          refine tv_i (nI (plg + pq - kpg).toNat) (by rw [← zI_nI]; exact congrArg zI (by omega)) ?_
          refine ca_v [(h, .inr (1, [.ref q, .int (nI gg), .int (nI gsg), .int (nI kpg), .int (zI plg)])), (nm, .inr (3, [.ref x, .int v1, .int v2, .int v3, .int v4, .int (nI a), .int (nI b0), .int (zI pq)])), (x, .inl (cC, 2400, .inl (tx T))), (q, .inr (2, [.ref t, .ref b])), (b, .inr (0, [.ref ba, .int (nI n2)])), (ba, .inl (cB, 96, .inl f1))] (va_runV (As := [.int (nI (plg + pq - kpg).toNat)]) (rest := []) ⟨hx, hb, hml, hown, hts⟩ (c_Big_timesFives l D E t ta cA fg ng Kf ((plg + pq - kpg).toNat) hBg (by omega) (hf5.1) H.size) (xV 1 hts kC_Big_timesFives kM_Dec_57 kI_Big_timesFives kS_Big_timesFives kN_Big rfl rfl (by decide +kernel) ⟨Nat.le_of_ble_eq_true rfl, Nat.le_of_ble_eq_true rfl⟩) ⟨ct_blind hev, va_recv hK hP (ci := 0) (q0 := 4) rfl rfl, ct_pre hev hP hK hD hS hA hE [4, 5] rfl (by decide) [1] rfl⟩ rfl rfl hl.1 rfl (lv_room (Nat.le_of_ble_eq_true rfl)) d_Dec_nearest_98 ⟨Nat.le_of_ble_eq_true rfl, Nat.le_of_ble_eq_true rfl⟩) hP hD hS hA [4, 5] [0, 1, 2, 3, 6, 7] rfl rfl (by decide) (by decide) (fun u H locs hw hP hD hS hK1 => ?_)
          obtain ⟨f4, n5⟩ := u
          have hB6 : isB f4 n5 (Kf * 5 ^ ((plg + pq - kpg).toNat)) := hw
          have hP : va_P D vcl [(h, .inr (1, [.ref q, .int (nI gg), .int (nI gsg), .int (nI kpg), .int (zI plg)])), (nm, .inr (3, [.ref x, .int v1, .int v2, .int v3, .int v4, .int (nI a), .int (nI b0), .int (zI pq)])), (x, .inl (cC, 2400, .inl (tx T))), (q, .inr (2, [.ref t, .ref b])), (b, .inr (0, [.ref ba, .int (nI n2)])), (ba, .inl (cB, 96, .inl f1)), (t, .inr (0, [.ref ta, .int (nI n5)])), (ta, .inl (cA, 96, .inl f4))] H := hP
          have hD : va_D A [(h, .inr (1, [.ref q, .int (nI gg), .int (nI gsg), .int (nI kpg), .int (zI plg)])), (nm, .inr (3, [.ref x, .int v1, .int v2, .int v3, .int v4, .int (nI a), .int (nI b0), .int (zI pq)])), (x, .inl (cC, 2400, .inl (tx T))), (q, .inr (2, [.ref t, .ref b])), (b, .inr (0, [.ref ba, .int (nI n2)])), (ba, .inl (cB, 96, .inl f1)), (t, .inr (0, [.ref ta, .int (nI n5)])), (ta, .inl (cA, 96, .inl f4))] := hD
          refine lv_aload_n hx hb d_Dec_nearest_101 rfl (lv_at hl 2 rfl) ?_
          refine va_get (D := D) (ci := 1) (v := .ref q) (C := R_Dec) (T := F_Dec) (N := 5) hx hb hts w_Dec hown hK hP 0 rfl rfl 0 (by decide) (hts _ kF_Dec_10) (fun _ h9 => h9) rfl d_Dec_nearest_102 ?_
          refine lv_aload_n hx hb d_Dec_nearest_105 rfl (lv_at hl 4 rfl) ?_
          refine lv_iload hx hb d_Dec_nearest_106 (lv_at hl 0 rfl) ?_
          refine ca_l [(h, .inr (1, [.ref q, .int (nI gg), .int (nI gsg), .int (nI kpg), .int (zI plg)])), (nm, .inr (3, [.ref x, .int v1, .int v2, .int v3, .int v4, .int (nI a), .int (nI b0), .int (zI pq)])), (x, .inl (cC, 2400, .inl (tx T)))] (va_runV (As := [.ref (E.1 i), .int (zI (plg + pq - kpg))]) (rest := []) ⟨hx, hb, hml, hown, hts⟩ (c_Fra_nearest l D E i hi q t ta b ba cA cB f4 f1 n5 n2 (Kf * 5 ^ ((plg + pq - kpg).toNat)) 1 (plg + pq - kpg) hB6 hB3 (Nat.ne_of_gt (Nat.mul_pos (Nat.pos_of_ne_zero hKf) (Nat.pow_pos (by decide)))) (by decide) (hf5.2) (bln_le_of (by decide)) (by omega) (by omega) H.size) (xV 2 hts kC_Fra_nearest kM_Dec_64 kI_Fra_nearest kS_Fra_nearest kN_Fra rfl rfl (by decide +kernel) ⟨Nat.le_of_ble_eq_true rfl, Nat.le_of_ble_eq_true rfl⟩) ⟨ct_blind hev, va_recv hK hP (ci := 2) (q0 := 3) rfl rfl, ct_pre hev hP hK hD hS hA hE [3, 6, 7, 4, 5] rfl (by decide) [1, 2] rfl⟩ rfl rfl hl.1 rfl (lv_room (Nat.le_of_ble_eq_true rfl)) d_Dec_nearest_108 ⟨Nat.le_of_ble_eq_true rfl, Nat.le_of_ble_eq_true rfl⟩) hP hD hS hA [3, 6, 7, 4, 5] [0, 1, 2] rfl rfl (by decide) (by decide) (fun rv u H locs hw hP hD hS hK1 => ?_)
          obtain ⟨⟨f7, n8⟩, ⟨f9, n10⟩⟩ := u
          subst hw
          have hP : va_P D vcl [(h, .inr (1, [.ref q, .int (nI gg), .int (nI gsg), .int (nI kpg), .int (zI plg)])), (nm, .inr (3, [.ref x, .int v1, .int v2, .int v3, .int v4, .int (nI a), .int (nI b0), .int (zI pq)])), (x, .inl (cC, 2400, .inl (tx T))), (q, .inr (2, [.ref t, .ref b])), (t, .inr (0, [.ref ta, .int (nI n8)])), (ta, .inl (cA, 96, .inl f7)), (b, .inr (0, [.ref ba, .int (nI n10)])), (ba, .inl (cB, 96, .inl f9))] H := hP
          have hD : va_D A [(h, .inr (1, [.ref q, .int (nI gg), .int (nI gsg), .int (nI kpg), .int (zI plg)])), (nm, .inr (3, [.ref x, .int v1, .int v2, .int v3, .int v4, .int (nI a), .int (nI b0), .int (zI pq)])), (x, .inl (cC, 2400, .inl (tx T))), (q, .inr (2, [.ref t, .ref b])), (t, .inr (0, [.ref ta, .int (nI n8)])), (ta, .inl (cA, 96, .inl f7)), (b, .inr (0, [.ref ba, .int (nI n10)])), (ba, .inl (cB, 96, .inl f9))] := hD
          exact rt_l hx hb hrt hlocks (((f7, nI n8, f9, nI n10), (nI gg, nI gsg, nI kpg, zI plg))) (by rw [hK4, dec_fp (c := (plg + pq - kpg).toNat) (by omega)]) (hP.sub [0, 2, 3, 4, 5, 6, 7, 1] rfl) (hK.sub [0, 1, 2] rfl) (hD.sub [0, 2, 3, 4, 5, 6, 7, 1] (by decide) rfl) hS d_Dec_nearest_111
        · have e77 : ¬ 0 ≤ plg + pq - kpg := fun z => c70 ((zI_le (a := 0) (by omega) (by omega) (by omega) (by omega)).mpr z)
          have hf5 := five_c (c := (-(plg + pq - kpg)).toNat) (by omega)
          refine lv_aload_n hx hb d_Dec_nearest_73 rfl (lv_at hl 2 rfl) ?_
          refine va_get (D := D) (ci := 1) (v := .ref q) (C := R_Dec) (T := F_Dec) (N := 5) hx hb hts w_Dec hown hK hP 0 rfl rfl 0 (by decide) (hts _ kF_Dec_10) (fun _ h9 => h9) rfl d_Dec_nearest_74 ?_
          refine va_get (D := D) (ci := 2) (v := .ref b) (C := R_Fra) (T := F_Fra) (N := 2) hx hb hts w_Fra hown hK hP 3 rfl rfl 1 (by decide) (hts _ kF_Dec_47) (fun _ h9 => h9) rfl d_Dec_nearest_77 ?_
          refine lv_iload hx hb d_Dec_nearest_80 (lv_at hl 0 rfl) ?_
          refine lv_ineg hx hb d_Dec_nearest_82 ?_
          refine tv_i (nI (-(plg + pq - kpg)).toNat) (by rw [zI_neg, ← zI_nI]; exact congrArg zI (by omega)) ?_
          refine ca_v [(h, .inr (1, [.ref q, .int (nI gg), .int (nI gsg), .int (nI kpg), .int (zI plg)])), (nm, .inr (3, [.ref x, .int v1, .int v2, .int v3, .int v4, .int (nI a), .int (nI b0), .int (zI pq)])), (x, .inl (cC, 2400, .inl (tx T))), (q, .inr (2, [.ref t, .ref b])), (t, .inr (0, [.ref ta, .int (nI ng)])), (ta, .inl (cA, 96, .inl fg))] (va_runV (As := [.int (nI (-(plg + pq - kpg)).toNat)]) (rest := []) ⟨hx, hb, hml, hown, hts⟩ (c_Big_timesFives l D E b ba cB f1 n2 1 ((-(plg + pq - kpg)).toNat) hB3 (by omega) (hf5.1) H.size) (xV 1 hts kC_Big_timesFives kM_Dec_57 kI_Big_timesFives kS_Big_timesFives kN_Big rfl rfl (by decide +kernel) ⟨Nat.le_of_ble_eq_true rfl, Nat.le_of_ble_eq_true rfl⟩) ⟨ct_blind hev, va_recv hK hP (ci := 0) (q0 := 6) rfl rfl, ct_pre hev hP hK hD hS hA hE [6, 7] rfl (by decide) [2] rfl⟩ rfl rfl hl.1 rfl (lv_room (Nat.le_of_ble_eq_true rfl)) d_Dec_nearest_83 ⟨Nat.le_of_ble_eq_true rfl, Nat.le_of_ble_eq_true rfl⟩) hP hD hS hA [6, 7] [0, 1, 2, 3, 4, 5] rfl rfl (by decide) (by decide) (fun u H locs hw hP hD hS hK1 => ?_)
          obtain ⟨f11, n12⟩ := u
          have hB13 : isB f11 n12 (1 * 5 ^ ((-(plg + pq - kpg)).toNat)) := hw
          have hP : va_P D vcl [(h, .inr (1, [.ref q, .int (nI gg), .int (nI gsg), .int (nI kpg), .int (zI plg)])), (nm, .inr (3, [.ref x, .int v1, .int v2, .int v3, .int v4, .int (nI a), .int (nI b0), .int (zI pq)])), (x, .inl (cC, 2400, .inl (tx T))), (q, .inr (2, [.ref t, .ref b])), (t, .inr (0, [.ref ta, .int (nI ng)])), (ta, .inl (cA, 96, .inl fg)), (b, .inr (0, [.ref ba, .int (nI n12)])), (ba, .inl (cB, 96, .inl f11))] H := hP
          have hD : va_D A [(h, .inr (1, [.ref q, .int (nI gg), .int (nI gsg), .int (nI kpg), .int (zI plg)])), (nm, .inr (3, [.ref x, .int v1, .int v2, .int v3, .int v4, .int (nI a), .int (nI b0), .int (zI pq)])), (x, .inl (cC, 2400, .inl (tx T))), (q, .inr (2, [.ref t, .ref b])), (t, .inr (0, [.ref ta, .int (nI ng)])), (ta, .inl (cA, 96, .inl fg)), (b, .inr (0, [.ref ba, .int (nI n12)])), (ba, .inl (cB, 96, .inl f11))] := hD
          refine lv_goto (tgt := 101) hx hb d_Dec_nearest_86 (by decide) ?_
          refine lv_aload_n hx hb d_Dec_nearest_101 rfl (lv_at hl 2 rfl) ?_
          refine va_get (D := D) (ci := 1) (v := .ref q) (C := R_Dec) (T := F_Dec) (N := 5) hx hb hts w_Dec hown hK hP 0 rfl rfl 0 (by decide) (hts _ kF_Dec_10) (fun _ h9 => h9) rfl d_Dec_nearest_102 ?_
          refine lv_aload_n hx hb d_Dec_nearest_105 rfl (lv_at hl 4 rfl) ?_
          refine lv_iload hx hb d_Dec_nearest_106 (lv_at hl 0 rfl) ?_
          refine ca_l [(h, .inr (1, [.ref q, .int (nI gg), .int (nI gsg), .int (nI kpg), .int (zI plg)])), (nm, .inr (3, [.ref x, .int v1, .int v2, .int v3, .int v4, .int (nI a), .int (nI b0), .int (zI pq)])), (x, .inl (cC, 2400, .inl (tx T)))] (va_runV (As := [.ref (E.1 i), .int (zI (plg + pq - kpg))]) (rest := []) ⟨hx, hb, hml, hown, hts⟩ (c_Fra_nearest l D E i hi q t ta b ba cA cB fg f11 ng n12 Kf (1 * 5 ^ ((-(plg + pq - kpg)).toNat)) (plg + pq - kpg) hBg hB13 (hKf) (hf5.2.2) (bln10 (e := kpg) hL1 (by omega)) (hf5.2.1) (by omega) (by omega) H.size) (xV 2 hts kC_Fra_nearest kM_Dec_64 kI_Fra_nearest kS_Fra_nearest kN_Fra rfl rfl (by decide +kernel) ⟨Nat.le_of_ble_eq_true rfl, Nat.le_of_ble_eq_true rfl⟩) ⟨ct_blind hev, va_recv hK hP (ci := 2) (q0 := 3) rfl rfl, ct_pre hev hP hK hD hS hA hE [3, 4, 5, 6, 7] rfl (by decide) [1, 2] rfl⟩ rfl rfl hl.1 rfl (lv_room (Nat.le_of_ble_eq_true rfl)) d_Dec_nearest_108 ⟨Nat.le_of_ble_eq_true rfl, Nat.le_of_ble_eq_true rfl⟩) hP hD hS hA [3, 4, 5, 6, 7] [0, 1, 2] rfl rfl (by decide) (by decide) (fun rv u H locs hw hP hD hS hK1 => ?_)
          obtain ⟨⟨f14, n15⟩, ⟨f16, n17⟩⟩ := u
          subst hw
          have hP : va_P D vcl [(h, .inr (1, [.ref q, .int (nI gg), .int (nI gsg), .int (nI kpg), .int (zI plg)])), (nm, .inr (3, [.ref x, .int v1, .int v2, .int v3, .int v4, .int (nI a), .int (nI b0), .int (zI pq)])), (x, .inl (cC, 2400, .inl (tx T))), (q, .inr (2, [.ref t, .ref b])), (t, .inr (0, [.ref ta, .int (nI n15)])), (ta, .inl (cA, 96, .inl f14)), (b, .inr (0, [.ref ba, .int (nI n17)])), (ba, .inl (cB, 96, .inl f16))] H := hP
          have hD : va_D A [(h, .inr (1, [.ref q, .int (nI gg), .int (nI gsg), .int (nI kpg), .int (zI plg)])), (nm, .inr (3, [.ref x, .int v1, .int v2, .int v3, .int v4, .int (nI a), .int (nI b0), .int (zI pq)])), (x, .inl (cC, 2400, .inl (tx T))), (q, .inr (2, [.ref t, .ref b])), (t, .inr (0, [.ref ta, .int (nI n15)])), (ta, .inl (cA, 96, .inl f14)), (b, .inr (0, [.ref ba, .int (nI n17)])), (ba, .inl (cB, 96, .inl f16))] := hD
          exact rt_l hx hb hrt hlocks (((f14, nI n15, f16, nI n17), (nI gg, nI gsg, nI kpg, zI plg))) (by rw [hK4, dec_fn (c := (-(plg + pq - kpg)).toNat) (by omega)]) (hP.sub [0, 2, 3, 4, 5, 6, 7, 1] rfl) (hK.sub [0, 1, 2] rfl) (hD.sub [0, 2, 3, 4, 5, 6, 7, 1] (by decide) rfl) hS d_Dec_nearest_111
      · have e48 : ¬ plg + pq ≤ (kHi i : Int) := fun z => c41 ((zI_le (by omega) (by omega) (by omega) (by omega)).mpr z)
        refine lv_aload_n hx hb d_Dec_nearest_44 rfl (lv_at hl 3 rfl) ?_
        refine va_getX hx hb hE.2.2.2.1 (i := i) hi hS hown (hts _ kF_Dec_43) (fun _ h9 => h9) d_Dec_nearest_45 ?_
        refine tv_l (lN (kIN i)) (kf_I i hi) ?_
        exact rt_l hx hb hrt hlocks (((fg, nI ng, g, mv), (nI gg, nI gsg, nI kpg, zI plg))) (by rw [hK4, dec_large (c := kpg - 1) (h1 := kHi i) (N4k i hi) (hK2 (by omega)) (by omega)]; rfl) (hP.sub [2, 4, 5, 6, 7, 0, 1, 3] rfl) (hK.sub [0, 1, 2] rfl) (hD.sub [2, 4, 5, 6, 7, 0, 1, 3] (by decide) rfl) hS d_Dec_nearest_48
    · have e38 : ¬ -(kLo i : Int) ≤ plg + pq := fun z => c31 ((zI_le (by omega) (by omega) (by omega) (by omega)).mpr z)
      refine lv_lconst (v := 0) hx hb d_Dec_nearest_34 (by decide) ?_
      refine tv_l (lN 0) (rfl) ?_
      exact rt_l hx hb hrt hlocks (((fg, nI ng, g, mv), (nI gg, nI gsg, nI kpg, zI plg))) (by rw [hK4, dec_small (c := kpg) (h0 := kLo i + 1) (N3k i hi) hL1 (by omega)]) (hP.sub [2, 4, 5, 6, 7, 0, 1, 3] rfl) (hK.sub [0, 1, 2] rfl) (hD.sub [2, 4, 5, 6, 7, 0, 1, 3] (by decide) rfl) hS d_Dec_nearest_35
