theorem d_Mod_trim_0 : decode b_Mod_trim 0 = .ok (.iload_n 2, 1) := by decide +kernel
theorem d_Mod_trim_1 : decode b_Mod_trim 1 = .ok (.istore_n 3, 1) := by decide +kernel
theorem d_Mod_trim_2 : decode b_Mod_trim 2 = .ok (.iload_n 3, 1) := by decide +kernel
theorem d_Mod_trim_3 : decode b_Mod_trim 3 = .ok (.ifCond .le 26, 3) := by decide +kernel
theorem d_Mod_trim_6 : decode b_Mod_trim 6 = .ok (.aload_n 0, 1) := by decide +kernel
theorem d_Mod_trim_7 : decode b_Mod_trim 7 = .ok (.getfield 13, 3) := by decide +kernel
theorem d_Mod_trim_10 : decode b_Mod_trim 10 = .ok (.sipush 1000, 3) := by decide +kernel
theorem d_Mod_trim_13 : decode b_Mod_trim 13 = .ok (.iload_n 1, 1) := by decide +kernel
theorem d_Mod_trim_14 : decode b_Mod_trim 14 = .ok (.imul, 1) := by decide +kernel
theorem d_Mod_trim_15 : decode b_Mod_trim 15 = .ok (.iload_n 3, 1) := by decide +kernel
theorem d_Mod_trim_16 : decode b_Mod_trim 16 = .ok (.iadd, 1) := by decide +kernel
theorem d_Mod_trim_17 : decode b_Mod_trim 17 = .ok (.iconst 1, 1) := by decide +kernel
theorem d_Mod_trim_18 : decode b_Mod_trim 18 = .ok (.isub, 1) := by decide +kernel
theorem d_Mod_trim_19 : decode b_Mod_trim 19 = .ok (.iaload, 1) := by decide +kernel
theorem d_Mod_trim_20 : decode b_Mod_trim 20 = .ok (.ifCond .ne 9, 3) := by decide +kernel
theorem d_Mod_trim_23 : decode b_Mod_trim 23 = .ok (.iinc 3 (-1), 3) := by decide +kernel
theorem d_Mod_trim_26 : decode b_Mod_trim 26 = .ok (.goto (-24), 3) := by decide +kernel
theorem d_Mod_trim_29 : decode b_Mod_trim 29 = .ok (.aload_n 0, 1) := by decide +kernel
theorem d_Mod_trim_30 : decode b_Mod_trim 30 = .ok (.getfield 16, 3) := by decide +kernel
theorem d_Mod_trim_33 : decode b_Mod_trim 33 = .ok (.iload_n 1, 1) := by decide +kernel
theorem d_Mod_trim_34 : decode b_Mod_trim 34 = .ok (.iload_n 3, 1) := by decide +kernel
theorem d_Mod_trim_35 : decode b_Mod_trim 35 = .ok (.iastore, 1) := by decide +kernel
theorem d_Mod_trim_36 : decode b_Mod_trim 36 = .ok (.return_, 1) := by decide +kernel
theorem d_Mod_set_0 : decode b_Mod_set 0 = .ok (.iconst 0, 1) := by decide +kernel
theorem d_Mod_set_1 : decode b_Mod_set 1 = .ok (.istore 4, 2) := by decide +kernel
theorem d_Mod_set_3 : decode b_Mod_set 3 = .ok (.iload 4, 2) := by decide +kernel
theorem d_Mod_set_5 : decode b_Mod_set 5 = .ok (.sipush 1000, 3) := by decide +kernel
theorem d_Mod_set_8 : decode b_Mod_set 8 = .ok (.if_icmp .ge 44, 3) := by decide +kernel
theorem d_Mod_set_11 : decode b_Mod_set 11 = .ok (.aload_n 0, 1) := by decide +kernel
theorem d_Mod_set_12 : decode b_Mod_set 12 = .ok (.getfield 13, 3) := by decide +kernel
theorem d_Mod_set_15 : decode b_Mod_set 15 = .ok (.sipush 1000, 3) := by decide +kernel
theorem d_Mod_set_18 : decode b_Mod_set 18 = .ok (.iload_n 1, 1) := by decide +kernel
theorem d_Mod_set_19 : decode b_Mod_set 19 = .ok (.imul, 1) := by decide +kernel
theorem d_Mod_set_20 : decode b_Mod_set 20 = .ok (.iload 4, 2) := by decide +kernel
theorem d_Mod_set_22 : decode b_Mod_set 22 = .ok (.iadd, 1) := by decide +kernel
theorem d_Mod_set_23 : decode b_Mod_set 23 = .ok (.iload 4, 2) := by decide +kernel
theorem d_Mod_set_25 : decode b_Mod_set 25 = .ok (.iconst 4, 1) := by decide +kernel
theorem d_Mod_set_26 : decode b_Mod_set 26 = .ok (.if_icmp .ge 18, 3) := by decide +kernel
theorem d_Mod_set_29 : decode b_Mod_set 29 = .ok (.lload_n 2, 1) := by decide +kernel
theorem d_Mod_set_30 : decode b_Mod_set 30 = .ok (.bipush 16, 2) := by decide +kernel
theorem d_Mod_set_32 : decode b_Mod_set 32 = .ok (.iload 4, 2) := by decide +kernel
theorem d_Mod_set_34 : decode b_Mod_set 34 = .ok (.imul, 1) := by decide +kernel
theorem d_Mod_set_35 : decode b_Mod_set 35 = .ok (.lshr, 1) := by decide +kernel
theorem d_Mod_set_36 : decode b_Mod_set 36 = .ok (.ldc2_w 19, 3) := by decide +kernel
theorem d_Mod_set_39 : decode b_Mod_set 39 = .ok (.land, 1) := by decide +kernel
theorem d_Mod_set_40 : decode b_Mod_set 40 = .ok (.l2i, 1) := by decide +kernel
theorem d_Mod_set_41 : decode b_Mod_set 41 = .ok (.goto 4, 3) := by decide +kernel
theorem d_Mod_set_44 : decode b_Mod_set 44 = .ok (.iconst 0, 1) := by decide +kernel
theorem d_Mod_set_45 : decode b_Mod_set 45 = .ok (.iastore, 1) := by decide +kernel
theorem d_Mod_set_46 : decode b_Mod_set 46 = .ok (.iinc 4 1, 3) := by decide +kernel
theorem d_Mod_set_49 : decode b_Mod_set 49 = .ok (.goto (-46), 3) := by decide +kernel
theorem d_Mod_set_52 : decode b_Mod_set 52 = .ok (.aload_n 0, 1) := by decide +kernel
theorem d_Mod_set_53 : decode b_Mod_set 53 = .ok (.iload_n 1, 1) := by decide +kernel
theorem d_Mod_set_54 : decode b_Mod_set 54 = .ok (.iconst 4, 1) := by decide +kernel
theorem d_Mod_set_55 : decode b_Mod_set 55 = .ok (.invokevirtual 21, 3) := by decide +kernel
theorem d_Mod_set_58 : decode b_Mod_set 58 = .ok (.return_, 1) := by decide +kernel
theorem d_Mod_grow_0 : decode b_Mod_grow 0 = .ok (.iload_n 3, 1) := by decide +kernel
theorem d_Mod_grow_1 : decode b_Mod_grow 1 = .ok (.istore 4, 2) := by decide +kernel
theorem d_Mod_grow_3 : decode b_Mod_grow 3 = .ok (.iconst 0, 1) := by decide +kernel
theorem d_Mod_grow_4 : decode b_Mod_grow 4 = .ok (.istore 5, 2) := by decide +kernel
theorem d_Mod_grow_6 : decode b_Mod_grow 6 = .ok (.iload 5, 2) := by decide +kernel
theorem d_Mod_grow_8 : decode b_Mod_grow 8 = .ok (.aload_n 0, 1) := by decide +kernel
theorem d_Mod_grow_9 : decode b_Mod_grow 9 = .ok (.getfield 16, 3) := by decide +kernel
theorem d_Mod_grow_12 : decode b_Mod_grow 12 = .ok (.iload_n 1, 1) := by decide +kernel
theorem d_Mod_grow_13 : decode b_Mod_grow 13 = .ok (.iaload, 1) := by decide +kernel
theorem d_Mod_grow_14 : decode b_Mod_grow 14 = .ok (.iconst 1, 1) := by decide +kernel
theorem d_Mod_grow_15 : decode b_Mod_grow 15 = .ok (.iadd, 1) := by decide +kernel
theorem d_Mod_grow_16 : decode b_Mod_grow 16 = .ok (.if_icmp .ge 54, 3) := by decide +kernel
theorem d_Mod_grow_19 : decode b_Mod_grow 19 = .ok (.aload_n 0, 1) := by decide +kernel
theorem d_Mod_grow_20 : decode b_Mod_grow 20 = .ok (.getfield 13, 3) := by decide +kernel
theorem d_Mod_grow_23 : decode b_Mod_grow 23 = .ok (.sipush 1000, 3) := by decide +kernel
theorem d_Mod_grow_26 : decode b_Mod_grow 26 = .ok (.iload_n 1, 1) := by decide +kernel
theorem d_Mod_grow_27 : decode b_Mod_grow 27 = .ok (.imul, 1) := by decide +kernel
theorem d_Mod_grow_28 : decode b_Mod_grow 28 = .ok (.iload 5, 2) := by decide +kernel
theorem d_Mod_grow_30 : decode b_Mod_grow 30 = .ok (.iadd, 1) := by decide +kernel
theorem d_Mod_grow_31 : decode b_Mod_grow 31 = .ok (.iaload, 1) := by decide +kernel
theorem d_Mod_grow_32 : decode b_Mod_grow 32 = .ok (.iload_n 2, 1) := by decide +kernel
theorem d_Mod_grow_33 : decode b_Mod_grow 33 = .ok (.imul, 1) := by decide +kernel
theorem d_Mod_grow_34 : decode b_Mod_grow 34 = .ok (.iload 4, 2) := by decide +kernel
theorem d_Mod_grow_36 : decode b_Mod_grow 36 = .ok (.iadd, 1) := by decide +kernel
theorem d_Mod_grow_37 : decode b_Mod_grow 37 = .ok (.istore 6, 2) := by decide +kernel
theorem d_Mod_grow_39 : decode b_Mod_grow 39 = .ok (.aload_n 0, 1) := by decide +kernel
theorem d_Mod_grow_40 : decode b_Mod_grow 40 = .ok (.getfield 13, 3) := by decide +kernel
theorem d_Mod_grow_43 : decode b_Mod_grow 43 = .ok (.sipush 1000, 3) := by decide +kernel
theorem d_Mod_grow_46 : decode b_Mod_grow 46 = .ok (.iload_n 1, 1) := by decide +kernel
theorem d_Mod_grow_47 : decode b_Mod_grow 47 = .ok (.imul, 1) := by decide +kernel
theorem d_Mod_grow_48 : decode b_Mod_grow 48 = .ok (.iload 5, 2) := by decide +kernel
theorem d_Mod_grow_50 : decode b_Mod_grow 50 = .ok (.iadd, 1) := by decide +kernel
theorem d_Mod_grow_51 : decode b_Mod_grow 51 = .ok (.iload 6, 2) := by decide +kernel
theorem d_Mod_grow_53 : decode b_Mod_grow 53 = .ok (.ldc 25, 2) := by decide +kernel
theorem d_Mod_grow_55 : decode b_Mod_grow 55 = .ok (.iand, 1) := by decide +kernel
theorem d_Mod_grow_56 : decode b_Mod_grow 56 = .ok (.iastore, 1) := by decide +kernel
theorem d_Mod_grow_57 : decode b_Mod_grow 57 = .ok (.iload 6, 2) := by decide +kernel
theorem d_Mod_grow_59 : decode b_Mod_grow 59 = .ok (.bipush 16, 2) := by decide +kernel
theorem d_Mod_grow_61 : decode b_Mod_grow 61 = .ok (.ishr, 1) := by decide +kernel
theorem d_Mod_grow_62 : decode b_Mod_grow 62 = .ok (.istore 4, 2) := by decide +kernel
theorem d_Mod_grow_64 : decode b_Mod_grow 64 = .ok (.iinc 5 1, 3) := by decide +kernel
theorem d_Mod_grow_67 : decode b_Mod_grow 67 = .ok (.goto (-61), 3) := by decide +kernel
theorem d_Mod_grow_70 : decode b_Mod_grow 70 = .ok (.aload_n 0, 1) := by decide +kernel
theorem d_Mod_grow_71 : decode b_Mod_grow 71 = .ok (.iload_n 1, 1) := by decide +kernel
theorem d_Mod_grow_72 : decode b_Mod_grow 72 = .ok (.aload_n 0, 1) := by decide +kernel
theorem d_Mod_grow_73 : decode b_Mod_grow 73 = .ok (.getfield 16, 3) := by decide +kernel
theorem d_Mod_grow_76 : decode b_Mod_grow 76 = .ok (.iload_n 1, 1) := by decide +kernel
theorem d_Mod_grow_77 : decode b_Mod_grow 77 = .ok (.iaload, 1) := by decide +kernel
theorem d_Mod_grow_78 : decode b_Mod_grow 78 = .ok (.iconst 1, 1) := by decide +kernel
theorem d_Mod_grow_79 : decode b_Mod_grow 79 = .ok (.iadd, 1) := by decide +kernel
theorem d_Mod_grow_80 : decode b_Mod_grow 80 = .ok (.invokevirtual 21, 3) := by decide +kernel
theorem d_Mod_grow_83 : decode b_Mod_grow 83 = .ok (.return_, 1) := by decide +kernel
theorem d_Mod_raise_0 : decode b_Mod_raise 0 = .ok (.iload_n 2, 1) := by decide +kernel
theorem d_Mod_raise_1 : decode b_Mod_raise 1 = .ok (.bipush 16, 2) := by decide +kernel
theorem d_Mod_raise_3 : decode b_Mod_raise 3 = .ok (.idiv, 1) := by decide +kernel
theorem d_Mod_raise_4 : decode b_Mod_raise 4 = .ok (.istore_n 3, 1) := by decide +kernel
theorem d_Mod_raise_5 : decode b_Mod_raise 5 = .ok (.aload_n 0, 1) := by decide +kernel
theorem d_Mod_raise_6 : decode b_Mod_raise 6 = .ok (.getfield 16, 3) := by decide +kernel
theorem d_Mod_raise_9 : decode b_Mod_raise 9 = .ok (.iload_n 1, 1) := by decide +kernel
theorem d_Mod_raise_10 : decode b_Mod_raise 10 = .ok (.iaload, 1) := by decide +kernel
theorem d_Mod_raise_11 : decode b_Mod_raise 11 = .ok (.iload_n 3, 1) := by decide +kernel
theorem d_Mod_raise_12 : decode b_Mod_raise 12 = .ok (.iadd, 1) := by decide +kernel
theorem d_Mod_raise_13 : decode b_Mod_raise 13 = .ok (.istore 4, 2) := by decide +kernel
theorem d_Mod_raise_15 : decode b_Mod_raise 15 = .ok (.iload 4, 2) := by decide +kernel
theorem d_Mod_raise_17 : decode b_Mod_raise 17 = .ok (.iconst 1, 1) := by decide +kernel
theorem d_Mod_raise_18 : decode b_Mod_raise 18 = .ok (.isub, 1) := by decide +kernel
theorem d_Mod_raise_19 : decode b_Mod_raise 19 = .ok (.istore 5, 2) := by decide +kernel
theorem d_Mod_raise_21 : decode b_Mod_raise 21 = .ok (.iload 5, 2) := by decide +kernel
theorem d_Mod_raise_23 : decode b_Mod_raise 23 = .ok (.ifCond .lt 47, 3) := by decide +kernel
theorem d_Mod_raise_26 : decode b_Mod_raise 26 = .ok (.aload_n 0, 1) := by decide +kernel
theorem d_Mod_raise_27 : decode b_Mod_raise 27 = .ok (.getfield 13, 3) := by decide +kernel
theorem d_Mod_raise_30 : decode b_Mod_raise 30 = .ok (.sipush 1000, 3) := by decide +kernel
theorem d_Mod_raise_33 : decode b_Mod_raise 33 = .ok (.iload_n 1, 1) := by decide +kernel
theorem d_Mod_raise_34 : decode b_Mod_raise 34 = .ok (.imul, 1) := by decide +kernel
theorem d_Mod_raise_35 : decode b_Mod_raise 35 = .ok (.iload 5, 2) := by decide +kernel
theorem d_Mod_raise_37 : decode b_Mod_raise 37 = .ok (.iadd, 1) := by decide +kernel
theorem d_Mod_raise_38 : decode b_Mod_raise 38 = .ok (.iload 5, 2) := by decide +kernel
theorem d_Mod_raise_40 : decode b_Mod_raise 40 = .ok (.iload_n 3, 1) := by decide +kernel
theorem d_Mod_raise_41 : decode b_Mod_raise 41 = .ok (.if_icmp .lt 21, 3) := by decide +kernel
theorem d_Mod_raise_44 : decode b_Mod_raise 44 = .ok (.aload_n 0, 1) := by decide +kernel
theorem d_Mod_raise_45 : decode b_Mod_raise 45 = .ok (.getfield 13, 3) := by decide +kernel
theorem d_Mod_raise_48 : decode b_Mod_raise 48 = .ok (.sipush 1000, 3) := by decide +kernel
theorem d_Mod_raise_51 : decode b_Mod_raise 51 = .ok (.iload_n 1, 1) := by decide +kernel
theorem d_Mod_raise_52 : decode b_Mod_raise 52 = .ok (.imul, 1) := by decide +kernel
theorem d_Mod_raise_53 : decode b_Mod_raise 53 = .ok (.iload 5, 2) := by decide +kernel
theorem d_Mod_raise_55 : decode b_Mod_raise 55 = .ok (.iadd, 1) := by decide +kernel
theorem d_Mod_raise_56 : decode b_Mod_raise 56 = .ok (.iload_n 3, 1) := by decide +kernel
theorem d_Mod_raise_57 : decode b_Mod_raise 57 = .ok (.isub, 1) := by decide +kernel
theorem d_Mod_raise_58 : decode b_Mod_raise 58 = .ok (.iaload, 1) := by decide +kernel
theorem d_Mod_raise_59 : decode b_Mod_raise 59 = .ok (.goto 4, 3) := by decide +kernel
theorem d_Mod_raise_62 : decode b_Mod_raise 62 = .ok (.iconst 0, 1) := by decide +kernel
theorem d_Mod_raise_63 : decode b_Mod_raise 63 = .ok (.iastore, 1) := by decide +kernel
theorem d_Mod_raise_64 : decode b_Mod_raise 64 = .ok (.iinc 5 (-1), 3) := by decide +kernel
theorem d_Mod_raise_67 : decode b_Mod_raise 67 = .ok (.goto (-46), 3) := by decide +kernel
theorem d_Mod_raise_70 : decode b_Mod_raise 70 = .ok (.aload_n 0, 1) := by decide +kernel
theorem d_Mod_raise_71 : decode b_Mod_raise 71 = .ok (.iload_n 1, 1) := by decide +kernel
theorem d_Mod_raise_72 : decode b_Mod_raise 72 = .ok (.iload 4, 2) := by decide +kernel
theorem d_Mod_raise_74 : decode b_Mod_raise 74 = .ok (.invokevirtual 21, 3) := by decide +kernel
theorem d_Mod_raise_77 : decode b_Mod_raise 77 = .ok (.aload_n 0, 1) := by decide +kernel
theorem d_Mod_raise_78 : decode b_Mod_raise 78 = .ok (.iload_n 1, 1) := by decide +kernel
theorem d_Mod_raise_79 : decode b_Mod_raise 79 = .ok (.iconst 1, 1) := by decide +kernel
theorem d_Mod_raise_80 : decode b_Mod_raise 80 = .ok (.iload_n 2, 1) := by decide +kernel
theorem d_Mod_raise_81 : decode b_Mod_raise 81 = .ok (.bipush 16, 2) := by decide +kernel
theorem d_Mod_raise_83 : decode b_Mod_raise 83 = .ok (.irem, 1) := by decide +kernel
theorem d_Mod_raise_84 : decode b_Mod_raise 84 = .ok (.ishl, 1) := by decide +kernel
theorem d_Mod_raise_85 : decode b_Mod_raise 85 = .ok (.iconst 0, 1) := by decide +kernel
theorem d_Mod_raise_86 : decode b_Mod_raise 86 = .ok (.invokevirtual 26, 3) := by decide +kernel
theorem d_Mod_raise_89 : decode b_Mod_raise 89 = .ok (.return_, 1) := by decide +kernel
theorem d_Mod_halve_0 : decode b_Mod_halve 0 = .ok (.iconst 0, 1) := by decide +kernel
theorem d_Mod_halve_1 : decode b_Mod_halve 1 = .ok (.istore_n 2, 1) := by decide +kernel
theorem d_Mod_halve_2 : decode b_Mod_halve 2 = .ok (.iload_n 2, 1) := by decide +kernel
theorem d_Mod_halve_3 : decode b_Mod_halve 3 = .ok (.aload_n 0, 1) := by decide +kernel
theorem d_Mod_halve_4 : decode b_Mod_halve 4 = .ok (.getfield 16, 3) := by decide +kernel
theorem d_Mod_halve_7 : decode b_Mod_halve 7 = .ok (.iload_n 1, 1) := by decide +kernel
theorem d_Mod_halve_8 : decode b_Mod_halve 8 = .ok (.iaload, 1) := by decide +kernel
theorem d_Mod_halve_9 : decode b_Mod_halve 9 = .ok (.if_icmp .ge 73, 3) := by decide +kernel
theorem d_Mod_halve_12 : decode b_Mod_halve 12 = .ok (.iload_n 2, 1) := by decide +kernel
theorem d_Mod_halve_13 : decode b_Mod_halve 13 = .ok (.iconst 1, 1) := by decide +kernel
theorem d_Mod_halve_14 : decode b_Mod_halve 14 = .ok (.iadd, 1) := by decide +kernel
theorem d_Mod_halve_15 : decode b_Mod_halve 15 = .ok (.aload_n 0, 1) := by decide +kernel
theorem d_Mod_halve_16 : decode b_Mod_halve 16 = .ok (.getfield 16, 3) := by decide +kernel
theorem d_Mod_halve_19 : decode b_Mod_halve 19 = .ok (.iload_n 1, 1) := by decide +kernel
theorem d_Mod_halve_20 : decode b_Mod_halve 20 = .ok (.iaload, 1) := by decide +kernel
theorem d_Mod_halve_21 : decode b_Mod_halve 21 = .ok (.if_icmp .ge 22, 3) := by decide +kernel
theorem d_Mod_halve_24 : decode b_Mod_halve 24 = .ok (.aload_n 0, 1) := by decide +kernel
theorem d_Mod_halve_25 : decode b_Mod_halve 25 = .ok (.getfield 13, 3) := by decide +kernel
theorem d_Mod_halve_28 : decode b_Mod_halve 28 = .ok (.sipush 1000, 3) := by decide +kernel
theorem d_Mod_halve_31 : decode b_Mod_halve 31 = .ok (.iload_n 1, 1) := by decide +kernel
theorem d_Mod_halve_32 : decode b_Mod_halve 32 = .ok (.imul, 1) := by decide +kernel
theorem d_Mod_halve_33 : decode b_Mod_halve 33 = .ok (.iload_n 2, 1) := by decide +kernel
theorem d_Mod_halve_34 : decode b_Mod_halve 34 = .ok (.iadd, 1) := by decide +kernel
theorem d_Mod_halve_35 : decode b_Mod_halve 35 = .ok (.iconst 1, 1) := by decide +kernel
theorem d_Mod_halve_36 : decode b_Mod_halve 36 = .ok (.iadd, 1) := by decide +kernel
theorem d_Mod_halve_37 : decode b_Mod_halve 37 = .ok (.iaload, 1) := by decide +kernel
theorem d_Mod_halve_38 : decode b_Mod_halve 38 = .ok (.iconst 1, 1) := by decide +kernel
theorem d_Mod_halve_39 : decode b_Mod_halve 39 = .ok (.iand, 1) := by decide +kernel
theorem d_Mod_halve_40 : decode b_Mod_halve 40 = .ok (.goto 4, 3) := by decide +kernel
theorem d_Mod_halve_43 : decode b_Mod_halve 43 = .ok (.iconst 0, 1) := by decide +kernel
theorem d_Mod_halve_44 : decode b_Mod_halve 44 = .ok (.istore_n 3, 1) := by decide +kernel
theorem d_Mod_halve_45 : decode b_Mod_halve 45 = .ok (.aload_n 0, 1) := by decide +kernel
theorem d_Mod_halve_46 : decode b_Mod_halve 46 = .ok (.getfield 13, 3) := by decide +kernel
theorem d_Mod_halve_49 : decode b_Mod_halve 49 = .ok (.sipush 1000, 3) := by decide +kernel
theorem d_Mod_halve_52 : decode b_Mod_halve 52 = .ok (.iload_n 1, 1) := by decide +kernel
theorem d_Mod_halve_53 : decode b_Mod_halve 53 = .ok (.imul, 1) := by decide +kernel
theorem d_Mod_halve_54 : decode b_Mod_halve 54 = .ok (.iload_n 2, 1) := by decide +kernel
theorem d_Mod_halve_55 : decode b_Mod_halve 55 = .ok (.iadd, 1) := by decide +kernel
theorem d_Mod_halve_56 : decode b_Mod_halve 56 = .ok (.aload_n 0, 1) := by decide +kernel
theorem d_Mod_halve_57 : decode b_Mod_halve 57 = .ok (.getfield 13, 3) := by decide +kernel
theorem d_Mod_halve_60 : decode b_Mod_halve 60 = .ok (.sipush 1000, 3) := by decide +kernel
theorem d_Mod_halve_63 : decode b_Mod_halve 63 = .ok (.iload_n 1, 1) := by decide +kernel
theorem d_Mod_halve_64 : decode b_Mod_halve 64 = .ok (.imul, 1) := by decide +kernel
theorem d_Mod_halve_65 : decode b_Mod_halve 65 = .ok (.iload_n 2, 1) := by decide +kernel
theorem d_Mod_halve_66 : decode b_Mod_halve 66 = .ok (.iadd, 1) := by decide +kernel
theorem d_Mod_halve_67 : decode b_Mod_halve 67 = .ok (.iaload, 1) := by decide +kernel
theorem d_Mod_halve_68 : decode b_Mod_halve 68 = .ok (.iconst 1, 1) := by decide +kernel
theorem d_Mod_halve_69 : decode b_Mod_halve 69 = .ok (.ishr, 1) := by decide +kernel
theorem d_Mod_halve_70 : decode b_Mod_halve 70 = .ok (.iload_n 3, 1) := by decide +kernel
theorem d_Mod_halve_71 : decode b_Mod_halve 71 = .ok (.bipush 15, 2) := by decide +kernel
theorem d_Mod_halve_73 : decode b_Mod_halve 73 = .ok (.ishl, 1) := by decide +kernel
theorem d_Mod_halve_74 : decode b_Mod_halve 74 = .ok (.ior, 1) := by decide +kernel
theorem d_Mod_halve_75 : decode b_Mod_halve 75 = .ok (.iastore, 1) := by decide +kernel
theorem d_Mod_halve_76 : decode b_Mod_halve 76 = .ok (.iinc 2 1, 3) := by decide +kernel
theorem d_Mod_halve_79 : decode b_Mod_halve 79 = .ok (.goto (-77), 3) := by decide +kernel
theorem d_Mod_halve_82 : decode b_Mod_halve 82 = .ok (.aload_n 0, 1) := by decide +kernel
theorem d_Mod_halve_83 : decode b_Mod_halve 83 = .ok (.iload_n 1, 1) := by decide +kernel
theorem d_Mod_halve_84 : decode b_Mod_halve 84 = .ok (.aload_n 0, 1) := by decide +kernel
theorem d_Mod_halve_85 : decode b_Mod_halve 85 = .ok (.getfield 16, 3) := by decide +kernel
theorem d_Mod_halve_88 : decode b_Mod_halve 88 = .ok (.iload_n 1, 1) := by decide +kernel
theorem d_Mod_halve_89 : decode b_Mod_halve 89 = .ok (.iaload, 1) := by decide +kernel
theorem d_Mod_halve_90 : decode b_Mod_halve 90 = .ok (.invokevirtual 21, 3) := by decide +kernel
theorem d_Mod_halve_93 : decode b_Mod_halve 93 = .ok (.return_, 1) := by decide +kernel
theorem d_Mod_compareRows_0 : decode b_Mod_compareRows 0 = .ok (.aload_n 0, 1) := by decide +kernel
theorem d_Mod_compareRows_1 : decode b_Mod_compareRows 1 = .ok (.getfield 16, 3) := by decide +kernel
theorem d_Mod_compareRows_4 : decode b_Mod_compareRows 4 = .ok (.iload_n 1, 1) := by decide +kernel
theorem d_Mod_compareRows_5 : decode b_Mod_compareRows 5 = .ok (.iaload, 1) := by decide +kernel
theorem d_Mod_compareRows_6 : decode b_Mod_compareRows 6 = .ok (.aload_n 0, 1) := by decide +kernel
theorem d_Mod_compareRows_7 : decode b_Mod_compareRows 7 = .ok (.getfield 16, 3) := by decide +kernel
theorem d_Mod_compareRows_10 : decode b_Mod_compareRows 10 = .ok (.iload_n 2, 1) := by decide +kernel
theorem d_Mod_compareRows_11 : decode b_Mod_compareRows 11 = .ok (.iaload, 1) := by decide +kernel
theorem d_Mod_compareRows_12 : decode b_Mod_compareRows 12 = .ok (.if_icmp .eq 24, 3) := by decide +kernel
theorem d_Mod_compareRows_15 : decode b_Mod_compareRows 15 = .ok (.aload_n 0, 1) := by decide +kernel
theorem d_Mod_compareRows_16 : decode b_Mod_compareRows 16 = .ok (.getfield 16, 3) := by decide +kernel
theorem d_Mod_compareRows_19 : decode b_Mod_compareRows 19 = .ok (.iload_n 1, 1) := by decide +kernel
theorem d_Mod_compareRows_20 : decode b_Mod_compareRows 20 = .ok (.iaload, 1) := by decide +kernel
theorem d_Mod_compareRows_21 : decode b_Mod_compareRows 21 = .ok (.aload_n 0, 1) := by decide +kernel
theorem d_Mod_compareRows_22 : decode b_Mod_compareRows 22 = .ok (.getfield 16, 3) := by decide +kernel
theorem d_Mod_compareRows_25 : decode b_Mod_compareRows 25 = .ok (.iload_n 2, 1) := by decide +kernel
theorem d_Mod_compareRows_26 : decode b_Mod_compareRows 26 = .ok (.iaload, 1) := by decide +kernel
theorem d_Mod_compareRows_27 : decode b_Mod_compareRows 27 = .ok (.if_icmp .ge 7, 3) := by decide +kernel
theorem d_Mod_compareRows_30 : decode b_Mod_compareRows 30 = .ok (.iconst (-1), 1) := by decide +kernel
theorem d_Mod_compareRows_31 : decode b_Mod_compareRows 31 = .ok (.goto 4, 3) := by decide +kernel
theorem d_Mod_compareRows_34 : decode b_Mod_compareRows 34 = .ok (.iconst 1, 1) := by decide +kernel
theorem d_Mod_compareRows_35 : decode b_Mod_compareRows 35 = .ok (.ireturn, 1) := by decide +kernel
theorem d_Mod_compareRows_36 : decode b_Mod_compareRows 36 = .ok (.aload_n 0, 1) := by decide +kernel
theorem d_Mod_compareRows_37 : decode b_Mod_compareRows 37 = .ok (.getfield 16, 3) := by decide +kernel
theorem d_Mod_compareRows_40 : decode b_Mod_compareRows 40 = .ok (.iload_n 1, 1) := by decide +kernel
theorem d_Mod_compareRows_41 : decode b_Mod_compareRows 41 = .ok (.iaload, 1) := by decide +kernel
theorem d_Mod_compareRows_42 : decode b_Mod_compareRows 42 = .ok (.iconst 1, 1) := by decide +kernel
theorem d_Mod_compareRows_43 : decode b_Mod_compareRows 43 = .ok (.isub, 1) := by decide +kernel
theorem d_Mod_compareRows_44 : decode b_Mod_compareRows 44 = .ok (.istore_n 3, 1) := by decide +kernel
theorem d_Mod_compareRows_45 : decode b_Mod_compareRows 45 = .ok (.iload_n 3, 1) := by decide +kernel
theorem d_Mod_compareRows_46 : decode b_Mod_compareRows 46 = .ok (.ifCond .lt 57, 3) := by decide +kernel
theorem d_Mod_compareRows_49 : decode b_Mod_compareRows 49 = .ok (.aload_n 0, 1) := by decide +kernel
theorem d_Mod_compareRows_50 : decode b_Mod_compareRows 50 = .ok (.getfield 13, 3) := by decide +kernel
theorem d_Mod_compareRows_53 : decode b_Mod_compareRows 53 = .ok (.sipush 1000, 3) := by decide +kernel
theorem d_Mod_compareRows_56 : decode b_Mod_compareRows 56 = .ok (.iload_n 1, 1) := by decide +kernel
theorem d_Mod_compareRows_57 : decode b_Mod_compareRows 57 = .ok (.imul, 1) := by decide +kernel
theorem d_Mod_compareRows_58 : decode b_Mod_compareRows 58 = .ok (.iload_n 3, 1) := by decide +kernel
theorem d_Mod_compareRows_59 : decode b_Mod_compareRows 59 = .ok (.iadd, 1) := by decide +kernel
theorem d_Mod_compareRows_60 : decode b_Mod_compareRows 60 = .ok (.iaload, 1) := by decide +kernel
theorem d_Mod_compareRows_61 : decode b_Mod_compareRows 61 = .ok (.istore 4, 2) := by decide +kernel
theorem d_Mod_compareRows_63 : decode b_Mod_compareRows 63 = .ok (.aload_n 0, 1) := by decide +kernel
theorem d_Mod_compareRows_64 : decode b_Mod_compareRows 64 = .ok (.getfield 13, 3) := by decide +kernel
theorem d_Mod_compareRows_67 : decode b_Mod_compareRows 67 = .ok (.sipush 1000, 3) := by decide +kernel
theorem d_Mod_compareRows_70 : decode b_Mod_compareRows 70 = .ok (.iload_n 2, 1) := by decide +kernel
theorem d_Mod_compareRows_71 : decode b_Mod_compareRows 71 = .ok (.imul, 1) := by decide +kernel
theorem d_Mod_compareRows_72 : decode b_Mod_compareRows 72 = .ok (.iload_n 3, 1) := by decide +kernel
theorem d_Mod_compareRows_73 : decode b_Mod_compareRows 73 = .ok (.iadd, 1) := by decide +kernel
theorem d_Mod_compareRows_74 : decode b_Mod_compareRows 74 = .ok (.iaload, 1) := by decide +kernel
theorem d_Mod_compareRows_75 : decode b_Mod_compareRows 75 = .ok (.istore 5, 2) := by decide +kernel
theorem d_Mod_compareRows_77 : decode b_Mod_compareRows 77 = .ok (.iload 4, 2) := by decide +kernel
theorem d_Mod_compareRows_79 : decode b_Mod_compareRows 79 = .ok (.iload 5, 2) := by decide +kernel
theorem d_Mod_compareRows_81 : decode b_Mod_compareRows 81 = .ok (.if_icmp .eq 16, 3) := by decide +kernel
theorem d_Mod_compareRows_84 : decode b_Mod_compareRows 84 = .ok (.iload 4, 2) := by decide +kernel
theorem d_Mod_compareRows_86 : decode b_Mod_compareRows 86 = .ok (.iload 5, 2) := by decide +kernel
theorem d_Mod_compareRows_88 : decode b_Mod_compareRows 88 = .ok (.if_icmp .ge 7, 3) := by decide +kernel
theorem d_Mod_compareRows_91 : decode b_Mod_compareRows 91 = .ok (.iconst (-1), 1) := by decide +kernel
theorem d_Mod_compareRows_92 : decode b_Mod_compareRows 92 = .ok (.goto 4, 3) := by decide +kernel
theorem d_Mod_compareRows_95 : decode b_Mod_compareRows 95 = .ok (.iconst 1, 1) := by decide +kernel
theorem d_Mod_compareRows_96 : decode b_Mod_compareRows 96 = .ok (.ireturn, 1) := by decide +kernel
theorem d_Mod_compareRows_97 : decode b_Mod_compareRows 97 = .ok (.iinc 3 (-1), 3) := by decide +kernel
theorem d_Mod_compareRows_100 : decode b_Mod_compareRows 100 = .ok (.goto (-55), 3) := by decide +kernel
theorem d_Mod_compareRows_103 : decode b_Mod_compareRows 103 = .ok (.iconst 0, 1) := by decide +kernel
theorem d_Mod_compareRows_104 : decode b_Mod_compareRows 104 = .ok (.ireturn, 1) := by decide +kernel
set_option maxHeartbeats 4000000 in
set_option maxRecDepth 100000 in
theorem c_Mod_trim (l : Launch) (D : va_G) (E : evD) (md xx mm nn : Nat) (cM cN : ClassId) (V : Nat → Nat) (ln rd at0 en0 : Int32) (R : Int64) (r Wt sz : Nat) (hr : r < 3) (hsz : sz ≤ 1000) (hW : Wt < 65536 ^ sz) : Cv (S := Unit) l y_Mod_trim (wz y_Mod_trim b_Mod_trim 4 none) ({ frames := 0, cells := 0, slots := 0, locals := 0 }) D vcl (ev1 E) [.ref md, .int (nI r), .int (nI sz)] [(cM, .int), (cN, .int)] [(md, .inr (5, [.ref xx, .int ln, .long R, .int rd, .ref mm, .ref nn, .int at0, .int en0])), (mm, .inl (cM, 3000, .inl (rw16 (upR V r Wt)))), (nn, .inl (cN, 3, .inl (rc V)))] 0 0 (fun _ : Unit => True) (fun _ => [(cM, .int), (cN, .int)]) (fun _ : Unit => [(md, .inr (5, [.ref xx, .int ln, .long R, .int rd, .ref mm, .ref nn, .int at0, .int en0])), (mm, .inl (cM, 3000, .inl (rw16 (upR V r Wt)))), (nn, .inl (cN, 3, .inl (rc (upR V r Wt))))]) := by
  have hev := ev1_ok E
  unfold Cv
  refine ct_of (y := y_Mod_trim) (av := [.ref md, .int (nI r), .int (nI sz)]) (cc := b_Mod_trim) (maxL := 4) (ret := none) (Qc := fun A => va_Qv (S := Unit) (fun _ : Unit => True) (fun u tS => ctB D vcl ((fun _ => [(cM, .int), (cN, .int)]) u) ((fun _ : Unit => [(md, .inr (5, [.ref xx, .int ln, .long R, .int rd, .ref mm, .ref nn, .int at0, .int en0])), (mm, .inl (cM, 3000, .inl (rw16 (upR V r Wt)))), (nn, .inl (cN, 3, .inl (rc (upR V r Wt))))]) u) A tS) A) (by decide) rfl (Nat.le_of_ble_eq_true rfl) ?_
  intro p ee s m below meth cde ls A H locs hx hb hml hrt hlocks hown hin hts hA hP hK hD hS hE hl
  have hown : s.vm.findClass R_Mod = some m.cls := hown
  have hts := wz_g hts
  have hl : lv_has ls 4 [(0, .ref md), (1, .int (nI r)), (2, .int (nI sz))] := hl
  refine lv_iload_n hx hb d_Mod_trim_0 rfl (lv_at hl 2 rfl) ?_
  refine lv_istore_n (lv' := [(3, .int (nI sz)), (0, .ref md), (1, .int (nI r)), (2, .int (nI sz))]) hx hb d_Mod_trim_1 rfl hl (by decide) rfl (fun ls hl => ?_)
  have L2 : ∀ (kk : Nat) (k : Nat), k < kk → (k ≤ sz) → (Wt < 65536 ^ k) → ∀ (H : Heap) (locs : List Loc) (ls : Array Slot), va_P D vcl [(md, .inr (5, [.ref xx, .int ln, .long R, .int rd, .ref mm, .ref nn, .int at0, .int en0])), (mm, .inl (cM, 3000, .inl (rw16 (upR V r Wt)))), (nn, .inl (cN, 3, .inl (rc V)))] H → va_D A [(md, .inr (5, [.ref xx, .int ln, .long R, .int rd, .ref mm, .ref nn, .int at0, .int en0])), (mm, .inl (cM, 3000, .inl (rw16 (upR V r Wt)))), (nn, .inl (cN, 3, .inl (rc V)))] → va_S A s.heap H locs → lv_has ls 4 [(0, .ref md), (1, .int (nI r)), (3, .int (nI k))] → W p l ee ({ frames := 0, cells := 0, slots := 0, locals := 0 }) s m ([.ref md, .int (nI r), .int (nI sz)] : List Value).toArray below meth cde H locs 0 0 (MQ below (va_Qv (S := Unit) (fun _ : Unit => True) (fun u tS => ctB D vcl ((fun _ => [(cM, .int), (cN, .int)]) u) ((fun _ : Unit => [(md, .inr (5, [.ref xx, .int ln, .long R, .int rd, .ref mm, .ref nn, .int at0, .int en0])), (mm, .inl (cM, 3000, .inl (rw16 (upR V r Wt)))), (nn, .inl (cN, 3, .inl (rc (upR V r Wt))))]) u) A tS) A) ([.ref md, .int (nI r), .int (nI sz)] : List Value).toArray s 0 0 A) (F0 m 2 ls []) := by
    intro kk
    induction kk with
    | zero => intro k hmz; exact absurd hmz (Nat.not_lt_zero _)
    | succ kk ih =>
      intro k hmz hk hv H locs ls hP hD hS hl
      refine lv_iload_n hx hb d_Mod_trim_2 rfl (lv_at hl 2 rfl) ?_
      refine lv_if_le (tgt := 29) hx hb d_Mod_trim_3 (by decide) (fun c3 => ?_) (fun c3 => ?_)
      · have e3 : k = 0 := (nI_le0 (by omega)).mp c3
        have hkl : k = lc Wt := by rw [e3] at hv ⊢; exact (lc_0.mpr (by rw [Nat.pow_zero] at hv; omega)).symm
        refine lv_aload_n hx hb d_Mod_trim_29 rfl (lv_at hl 0 rfl) ?_
        refine va_get (D := D) (ci := 5) (v := .ref nn) (C := R_Mod) (T := F_Mod) (N := 8) hx hb hts w_Mod hown hK hP 0 rfl rfl 5 (by decide) (hts _ kF_Mod_16) (fun _ h9 => h9) rfl d_Mod_trim_30 ?_
        refine lv_iload_n hx hb d_Mod_trim_33 rfl (lv_at hl 1 rfl) ?_
        refine lv_iload_n hx hb d_Mod_trim_34 rfl (lv_at hl 2 rfl) ?_
        refine va_iast hx hb hK hP hD hS 2 1 rfl rfl (i := nI r) (vp_in_nI (show r < 3 by omega) (by decide)) d_Mod_trim_35 (fun H locs hP hD hS => ?_)
        have hP : va_P D vcl [(md, .inr (5, [.ref xx, .int ln, .long R, .int rd, .ref mm, .ref nn, .int at0, .int en0])), (mm, .inl (cM, 3000, .inl (rw16 (upR V r Wt)))), (nn, .inl (cN, 3, .inl (upd (rc V) (nI r).toNatClampNeg (nI k))))] H := hP
        have hD : va_D A [(md, .inr (5, [.ref xx, .int ln, .long R, .int rd, .ref mm, .ref nn, .int at0, .int en0])), (mm, .inl (cM, 3000, .inl (rw16 (upR V r Wt)))), (nn, .inl (cN, 3, .inl (upd (rc V) (nI r).toNatClampNeg (nI k))))] := hD
        rw [show upd (rc V) (nI r).toNatClampNeg (nI k) = rc (upR V r Wt) from by rw [nI_clamp (by omega), hkl, rc_upd]] at hP hD
        exact rt_v hx hb hrt hlocks (()) (trivial) (hP.sub [0, 1, 2] rfl) (hK.sub [0, 1] rfl) (hD.sub [0, 1, 2] (by decide) rfl) hS d_Mod_trim_36
      · have e3 : 0 < k := Nat.pos_of_ne_zero (fun z => c3 ((nI_le0 (by omega)).mpr z))
        refine lv_aload_n hx hb d_Mod_trim_6 rfl (lv_at hl 0 rfl) ?_
        refine va_get (D := D) (ci := 5) (v := .ref mm) (C := R_Mod) (T := F_Mod) (N := 8) hx hb hts w_Mod hown hK hP 0 rfl rfl 4 (by decide) (hts _ kF_Mod_13) (fun _ h9 => h9) rfl d_Mod_trim_7 ?_
        refine lv_sipush (v := 1000) hx hb d_Mod_trim_10 (by decide) ?_
        refine lv_iload_n hx hb d_Mod_trim_13 rfl (lv_at hl 1 rfl) ?_
        refine lv_imul hx hb d_Mod_trim_14 ?_
        refine lv_iload_n hx hb d_Mod_trim_15 rfl (lv_at hl 2 rfl) ?_
        refine lv_iadd hx hb d_Mod_trim_16 ?_
        refine lv_iconst (v := 1) hx hb d_Mod_trim_17 (by decide) ?_
        refine lv_isub hx hb d_Mod_trim_18 ?_
        refine tv_i (nI (1000 * r + (k - 1))) (by rw [i1000, nI_dec (by omega)]; exact congrArg nI (by omega)) ?_
        refine va_iald hx hb hK hP 1 0 rfl rfl (i := nI (1000 * r + (k - 1))) (vp_in_nI (show 1000 * r + (k - 1) < 3000 by omega) (by decide)) d_Mod_trim_19 ?_
        refine tv_i (nI (dig Wt (k - 1))) (by rw [nI_clamp (by omega), rw_at (by omega), upR_s]) ?_
        refine lv_if_ne (tgt := 29) hx hb d_Mod_trim_20 (by decide) (fun c20 => ?_) (fun c20 => ?_)
        · have e20 : dig Wt (k - 1) ≠ 0 := fun z => c20 (by rw [z]; rfl)
          have hkl : k = lc Wt := by have h1 := lc_le hv; have h2 := lc_ge (ge_of e20); omega
          refine lv_aload_n hx hb d_Mod_trim_29 rfl (lv_at hl 0 rfl) ?_
          refine va_get (D := D) (ci := 5) (v := .ref nn) (C := R_Mod) (T := F_Mod) (N := 8) hx hb hts w_Mod hown hK hP 0 rfl rfl 5 (by decide) (hts _ kF_Mod_16) (fun _ h9 => h9) rfl d_Mod_trim_30 ?_
          refine lv_iload_n hx hb d_Mod_trim_33 rfl (lv_at hl 1 rfl) ?_
          refine lv_iload_n hx hb d_Mod_trim_34 rfl (lv_at hl 2 rfl) ?_
          refine va_iast hx hb hK hP hD hS 2 1 rfl rfl (i := nI r) (vp_in_nI (show r < 3 by omega) (by decide)) d_Mod_trim_35 (fun H locs hP hD hS => ?_)
          have hP : va_P D vcl [(md, .inr (5, [.ref xx, .int ln, .long R, .int rd, .ref mm, .ref nn, .int at0, .int en0])), (mm, .inl (cM, 3000, .inl (rw16 (upR V r Wt)))), (nn, .inl (cN, 3, .inl (upd (rc V) (nI r).toNatClampNeg (nI k))))] H := hP
          have hD : va_D A [(md, .inr (5, [.ref xx, .int ln, .long R, .int rd, .ref mm, .ref nn, .int at0, .int en0])), (mm, .inl (cM, 3000, .inl (rw16 (upR V r Wt)))), (nn, .inl (cN, 3, .inl (upd (rc V) (nI r).toNatClampNeg (nI k))))] := hD
          rw [show upd (rc V) (nI r).toNatClampNeg (nI k) = rc (upR V r Wt) from by rw [nI_clamp (by omega), hkl, rc_upd]] at hP hD
          exact rt_v hx hb hrt hlocks (()) (trivial) (hP.sub [0, 1, 2] rfl) (hK.sub [0, 1] rfl) (hD.sub [0, 1, 2] (by decide) rfl) hS d_Mod_trim_36
        · have e20 : dig Wt (k - 1) = 0 := (nI_eq0 (by have := dig_lt Wt (k - 1); omega)).mp c20
          refine lv_iinc (v := nI (k - 1)) (lv' := [(3, .int (nI (k - 1))), (0, .ref md), (1, .int (nI r))]) hx hb d_Mod_trim_23 hl (k := 2) rfl (by show nI k + zI (-1) = _; rw [← zI_nI, ← zI_nI, zI_add]; exact congrArg zI (by omega)) (by decide) rfl (fun ls hl => ?_)
          refine lv_goto (tgt := 2) hx hb d_Mod_trim_26 (by decide) ?_
          exact ih (k - 1) (by omega) (by omega) (lt_dn (by rw [show k - 1 + 1 = k by omega]; exact hv) e20) _ _ _ (hP.sub [0, 1, 2] rfl) (hD.sub [0, 1, 2] (by decide) rfl) hS (lv_sub hl [1, 2, 0] rfl)
  exact L2 (sz + 1) sz (by omega) (Nat.le_refl _) (hW) _ _ _ (hP.sub [0, 1, 2] rfl) (hD.sub [0, 1, 2] (by decide) rfl) hS (lv_sub hl [1, 2, 0] rfl)

set_option maxHeartbeats 4000000 in
set_option maxRecDepth 100000 in
theorem c_Mod_set (l : Launch) (D : va_G) (E : evD) (md xx mm nn : Nat) (cM cN : ClassId) (V : Nat → Nat) (ln rd at0 en0 : Int32) (R : Int64) (r y : Nat) (hr : r < 3) (hVr : V r < 65536 ^ 1000) (hy : y < 2 ^ 64) : Cv (S := Unit) l y_Mod_set (wz y_Mod_set b_Mod_set 5 none) ({ frames := 1, cells := 0, slots := 0, locals := 23 }) D vcl (ev1 E) [.ref md, .int (nI r), .long (lN y)] [(cM, .int), (cN, .int)] [(md, .inr (5, [.ref xx, .int ln, .long R, .int rd, .ref mm, .ref nn, .int at0, .int en0])), (mm, .inl (cM, 3000, .inl (rw16 V))), (nn, .inl (cN, 3, .inl (rc V)))] 0 0 (fun _ : Unit => True) (fun _ => [(cM, .int), (cN, .int)]) (fun _ : Unit => [(md, .inr (5, [.ref xx, .int ln, .long R, .int rd, .ref mm, .ref nn, .int at0, .int en0])), (mm, .inl (cM, 3000, .inl (rw16 (upR V r y)))), (nn, .inl (cN, 3, .inl (rc (upR V r y))))]) := by
  have hev := ev1_ok E
  unfold Cv
  refine ct_of (y := y_Mod_set) (av := [.ref md, .int (nI r), .long (lN y)]) (cc := b_Mod_set) (maxL := 5) (ret := none) (Qc := fun A => va_Qv (S := Unit) (fun _ : Unit => True) (fun u tS => ctB D vcl ((fun _ => [(cM, .int), (cN, .int)]) u) ((fun _ : Unit => [(md, .inr (5, [.ref xx, .int ln, .long R, .int rd, .ref mm, .ref nn, .int at0, .int en0])), (mm, .inl (cM, 3000, .inl (rw16 (upR V r y)))), (nn, .inl (cN, 3, .inl (rc (upR V r y))))]) u) A tS) A) (by decide) rfl (Nat.le_of_ble_eq_true rfl) ?_
  intro p ee s m below meth cde ls A H locs hx hb hml hrt hlocks hown hin hts hA hP hK hD hS hE hl
  have hown : s.vm.findClass R_Mod = some m.cls := hown
  have hts := wz_g hts
  have hl : lv_has ls 5 [(0, .ref md), (1, .int (nI r)), (2, .long (lN y))] := hl
  refine lv_iconst (v := 0) hx hb d_Mod_set_0 (by decide) ?_
  refine tv_i (nI 0) (rfl) ?_
  refine lv_istore (lv' := [(4, .int (nI 0)), (0, .ref md), (1, .int (nI r)), (2, .long (lN y))]) hx hb d_Mod_set_1 hl (by decide) rfl (fun ls hl => ?_)
  have L3 : ∀ (kk : Nat) (k : Nat), 1000 - k < kk → (k ≤ 1000) → ∀ (H : Heap) (locs : List Loc) (ls : Array Slot), va_P D vcl [(md, .inr (5, [.ref xx, .int ln, .long R, .int rd, .ref mm, .ref nn, .int at0, .int en0])), (mm, .inl (cM, 3000, .inl (mx V r k y))), (nn, .inl (cN, 3, .inl (rc V)))] H → va_D A [(md, .inr (5, [.ref xx, .int ln, .long R, .int rd, .ref mm, .ref nn, .int at0, .int en0])), (mm, .inl (cM, 3000, .inl (mx V r k y))), (nn, .inl (cN, 3, .inl (rc V)))] → va_S A s.heap H locs → lv_has ls 5 [(0, .ref md), (1, .int (nI r)), (2, .long (lN y)), (4, .int (nI k))] → W p l ee ({ frames := 1, cells := 0, slots := 0, locals := 23 }) s m ([.ref md, .int (nI r), .long (lN y)] : List Value).toArray below meth cde H locs 0 0 (MQ below (va_Qv (S := Unit) (fun _ : Unit => True) (fun u tS => ctB D vcl ((fun _ => [(cM, .int), (cN, .int)]) u) ((fun _ : Unit => [(md, .inr (5, [.ref xx, .int ln, .long R, .int rd, .ref mm, .ref nn, .int at0, .int en0])), (mm, .inl (cM, 3000, .inl (rw16 (upR V r y)))), (nn, .inl (cN, 3, .inl (rc (upR V r y))))]) u) A tS) A) ([.ref md, .int (nI r), .long (lN y)] : List Value).toArray s 0 0 A) (F0 m 3 ls []) := by
    intro kk
    induction kk with
    | zero => intro k hmz; exact absurd hmz (Nat.not_lt_zero _)
    | succ kk ih =>
      intro k hmz hk H locs ls hP hD hS hl
      refine lv_iload hx hb d_Mod_set_3 (lv_at hl 3 rfl) ?_
      refine lv_sipush (v := 1000) hx hb d_Mod_set_5 (by decide) ?_
      refine lv_icmp_ge (tgt := 52) hx hb d_Mod_set_8 (by decide) (fun c8 => ?_) (fun c8 => ?_)
      · have e8 : k = 1000 := by have := (nI_leI (a := 1000) (by decide) (by omega)).mp c8; omega
        rw [e8] at hP hD
        rw [show mx V r 1000 y = rw16 (upR V r y) from mx_e (hVr) (Nat.lt_of_lt_of_le hy (Nat.le_trans (show 2 ^ 64 ≤ 65536 ^ 4 by decide) (p16_le (by decide))))] at hP hD
        refine lv_aload_n hx hb d_Mod_set_52 rfl (lv_at hl 0 rfl) ?_
        refine lv_iload_n hx hb d_Mod_set_53 rfl (lv_at hl 1 rfl) ?_
        refine lv_iconst (v := 4) hx hb d_Mod_set_54 (by decide) ?_
        refine tv_i (nI 4) (rfl) ?_
        refine ca_v [] (va_runV (As := [.int (nI r), .int (nI 4)]) (rest := []) ⟨hx, hb, hml, hown, hts⟩ (c_Mod_trim l D E md xx mm nn cM cN V ln rd at0 en0 R r y 4 (hr) (by decide) (Nat.lt_of_lt_of_le hy (by decide)) H.size) (xV 2 hts kC_Mod_trim kM_Mod_21 kI_Mod_trim kS_Mod_trim kN_Mod rfl rfl (by decide +kernel) ⟨Nat.le_of_ble_eq_true rfl, Nat.le_of_ble_eq_true rfl⟩) ⟨ct_blind hev, va_recv hK hP (ci := 5) (q0 := 0) rfl rfl, ct_pre hev hP hK hD hS hA hE [0, 1, 2] rfl (by decide) [0, 1] rfl⟩ rfl rfl hl.1 rfl (lv_room (Nat.le_of_ble_eq_true rfl)) d_Mod_set_55 ⟨Nat.le_of_ble_eq_true rfl, Nat.le_of_ble_eq_true rfl⟩) hP hD hS hA [0, 1, 2] [] rfl rfl (by decide) (by decide) (fun u H locs hw hP hD hS hK1 => ?_)
        have hP : va_P D vcl [(md, .inr (5, [.ref xx, .int ln, .long R, .int rd, .ref mm, .ref nn, .int at0, .int en0])), (mm, .inl (cM, 3000, .inl (rw16 (upR V r y)))), (nn, .inl (cN, 3, .inl (rc (upR V r y))))] H := hP
        have hD : va_D A [(md, .inr (5, [.ref xx, .int ln, .long R, .int rd, .ref mm, .ref nn, .int at0, .int en0])), (mm, .inl (cM, 3000, .inl (rw16 (upR V r y)))), (nn, .inl (cN, 3, .inl (rc (upR V r y))))] := hD
        exact rt_v hx hb hrt hlocks (()) (trivial) (hP.sub [0, 1, 2] rfl) (hK.sub [0, 1] rfl) (hD.sub [0, 1, 2] (by decide) rfl) hS d_Mod_set_58
      · have e8 : k < 1000 := Nat.lt_of_not_le (fun z => c8 ((nI_leI (a := 1000) (by decide) (by omega)).mpr z))
        refine lv_aload_n hx hb d_Mod_set_11 rfl (lv_at hl 0 rfl) ?_
        refine va_get (D := D) (ci := 5) (v := .ref mm) (C := R_Mod) (T := F_Mod) (N := 8) hx hb hts w_Mod hown hK hP 0 rfl rfl 4 (by decide) (hts _ kF_Mod_13) (fun _ h9 => h9) rfl d_Mod_set_12 ?_
        refine lv_sipush (v := 1000) hx hb d_Mod_set_15 (by decide) ?_
        refine lv_iload_n hx hb d_Mod_set_18 rfl (lv_at hl 1 rfl) ?_
        refine lv_imul hx hb d_Mod_set_19 ?_
        refine lv_iload hx hb d_Mod_set_20 (lv_at hl 3 rfl) ?_
        refine lv_iadd hx hb d_Mod_set_22 ?_
        refine tv_i (nI (1000 * r + k)) (i1000) ?_
        refine lv_iload hx hb d_Mod_set_23 (lv_at hl 3 rfl) ?_
        refine lv_iconst (v := 4) hx hb d_Mod_set_25 (by decide) ?_
        refine lv_icmp_ge (tgt := 44) hx hb d_Mod_set_26 (by decide) (fun c26 => ?_) (fun c26 => ?_)
        · have e26 : 4 ≤ k := (nI_leI (a := 4) (by decide) (by omega)).mp c26
          refine lv_iconst (v := 0) hx hb d_Mod_set_44 (by decide) ?_
          refine tv_i (nI (dig y k)) (by rw [dig_hi (Nat.lt_of_lt_of_le hy (by have := p16_le e26; exact Nat.le_trans (by decide) this))]; rfl) ?_
          refine va_iast hx hb hK hP hD hS 1 0 rfl rfl (i := nI (1000 * r + k)) (vp_in_nI (show 1000 * r + k < 3000 by omega) (by decide)) d_Mod_set_45 (fun H locs hP hD hS => ?_)
          have hP : va_P D vcl [(md, .inr (5, [.ref xx, .int ln, .long R, .int rd, .ref mm, .ref nn, .int at0, .int en0])), (mm, .inl (cM, 3000, .inl (upd (mx V r k y) (nI (1000 * r + k)).toNatClampNeg (nI (dig y k))))), (nn, .inl (cN, 3, .inl (rc V)))] H := hP
          have hD : va_D A [(md, .inr (5, [.ref xx, .int ln, .long R, .int rd, .ref mm, .ref nn, .int at0, .int en0])), (mm, .inl (cM, 3000, .inl (upd (mx V r k y) (nI (1000 * r + k)).toNatClampNeg (nI (dig y k))))), (nn, .inl (cN, 3, .inl (rc V)))] := hD
          rw [show upd (mx V r k y) (nI (1000 * r + k)).toNatClampNeg (nI (dig y k)) = mx V r (k + 1) y from by rw [nI_clamp (by omega), mx_s e8]] at hP hD
          refine lv_iinc (v := nI (k + 1)) (lv' := [(4, .int (nI (k + 1))), (0, .ref md), (1, .int (nI r)), (2, .long (lN y))]) hx hb d_Mod_set_46 hl (k := 3) rfl (nI_1 k) (by decide) rfl (fun ls hl => ?_)
          refine lv_goto (tgt := 3) hx hb d_Mod_set_49 (by decide) ?_
          exact ih (k + 1) (by omega) (by omega) _ _ _ (hP.sub [0, 1, 2] rfl) (hD.sub [0, 1, 2] (by decide) rfl) hS (lv_sub hl [1, 2, 3, 0] rfl)
        · have e26 : k < 4 := Nat.lt_of_not_le (fun z => c26 ((nI_leI (a := 4) (by decide) (by omega)).mpr z))
          refine lv_lload_n hx hb d_Mod_set_29 rfl (lv_at hl 2 rfl) ?_
          refine lv_bipush (v := 16) hx hb d_Mod_set_30 (by decide) ?_
          refine lv_iload hx hb d_Mod_set_32 (lv_at hl 3 rfl) ?_
          refine lv_imul hx hb d_Mod_set_34 ?_
          refine tv_i (nI (16 * k)) (pk_mul 16 k) ?_
          refine lv_lshr (v := (lN y) >>> ((nI (16 * k)).toInt64 &&& 63)) hx hb d_Mod_set_35 (rfl) ?_
          refine lv_ldc2 hx hb hown (hts _ kK_Mod_19) d_Mod_set_36 ?_
          refine lv_land hx hb d_Mod_set_39 ?_
          refine tv_l (lN (dig y k)) (by have h9 := sar_bit y (16 * k) 16 (by omega) (by omega) (by decide); rw [Nat.mod_eq_of_lt hy, ← p16_2] at h9; exact h9) ?_
          refine lv_l2i (v := (lN (dig y k)).toInt32) hx hb d_Mod_set_40 (rfl) ?_
          refine tv_i (nI (dig y k)) (lN_i _) ?_
          refine lv_goto (tgt := 45) hx hb d_Mod_set_41 (by decide) ?_
          refine va_iast hx hb hK hP hD hS 1 0 rfl rfl (i := nI (1000 * r + k)) (vp_in_nI (show 1000 * r + k < 3000 by omega) (by decide)) d_Mod_set_45 (fun H locs hP hD hS => ?_)
          have hP : va_P D vcl [(md, .inr (5, [.ref xx, .int ln, .long R, .int rd, .ref mm, .ref nn, .int at0, .int en0])), (mm, .inl (cM, 3000, .inl (upd (mx V r k y) (nI (1000 * r + k)).toNatClampNeg (nI (dig y k))))), (nn, .inl (cN, 3, .inl (rc V)))] H := hP
          have hD : va_D A [(md, .inr (5, [.ref xx, .int ln, .long R, .int rd, .ref mm, .ref nn, .int at0, .int en0])), (mm, .inl (cM, 3000, .inl (upd (mx V r k y) (nI (1000 * r + k)).toNatClampNeg (nI (dig y k))))), (nn, .inl (cN, 3, .inl (rc V)))] := hD
          rw [show upd (mx V r k y) (nI (1000 * r + k)).toNatClampNeg (nI (dig y k)) = mx V r (k + 1) y from by rw [nI_clamp (by omega), mx_s e8]] at hP hD
          refine lv_iinc (v := nI (k + 1)) (lv' := [(4, .int (nI (k + 1))), (0, .ref md), (1, .int (nI r)), (2, .long (lN y))]) hx hb d_Mod_set_46 hl (k := 3) rfl (nI_1 k) (by decide) rfl (fun ls hl => ?_)
          refine lv_goto (tgt := 3) hx hb d_Mod_set_49 (by decide) ?_
          exact ih (k + 1) (by omega) (by omega) _ _ _ (hP.sub [0, 1, 2] rfl) (hD.sub [0, 1, 2] (by decide) rfl) hS (lv_sub hl [1, 2, 3, 0] rfl)
  rw [← mx_0 V r y] at hP hD
  exact L3 1001 0 (by decide) (by decide) _ _ _ (hP.sub [0, 1, 2] rfl) (hD.sub [0, 1, 2] (by decide) rfl) hS (lv_sub hl [1, 2, 3, 0] rfl)

set_option maxHeartbeats 4000000 in
set_option maxRecDepth 100000 in
theorem c_Mod_grow (l : Launch) (D : va_G) (E : evD) (md xx mm nn : Nat) (cM cN : ClassId) (V : Nat → Nat) (ln rd at0 en0 : Int32) (R : Int64) (r v mo : Nat) (hr : r < 3) (hmo : mo < v) (hv1 : v ≤ 32768) (hlc : lc (V r) ≤ 999) : Cv (S := Unit) l y_Mod_grow (wz y_Mod_grow b_Mod_grow 7 none) ({ frames := 1, cells := 0, slots := 0, locals := 23 }) D vcl (ev1 E) [.ref md, .int (nI r), .int (nI v), .int (nI mo)] [(cM, .int), (cN, .int)] [(md, .inr (5, [.ref xx, .int ln, .long R, .int rd, .ref mm, .ref nn, .int at0, .int en0])), (mm, .inl (cM, 3000, .inl (rw16 V))), (nn, .inl (cN, 3, .inl (rc V)))] 0 0 (fun _ : Unit => True) (fun _ => [(cM, .int), (cN, .int)]) (fun _ : Unit => [(md, .inr (5, [.ref xx, .int ln, .long R, .int rd, .ref mm, .ref nn, .int at0, .int en0])), (mm, .inl (cM, 3000, .inl (rw16 (upR V r (V r * v + mo))))), (nn, .inl (cN, 3, .inl (rc (upR V r (V r * v + mo)))))]) := by
  have hev := ev1_ok E
  unfold Cv
  refine ct_of (y := y_Mod_grow) (av := [.ref md, .int (nI r), .int (nI v), .int (nI mo)]) (cc := b_Mod_grow) (maxL := 7) (ret := none) (Qc := fun A => va_Qv (S := Unit) (fun _ : Unit => True) (fun u tS => ctB D vcl ((fun _ => [(cM, .int), (cN, .int)]) u) ((fun _ : Unit => [(md, .inr (5, [.ref xx, .int ln, .long R, .int rd, .ref mm, .ref nn, .int at0, .int en0])), (mm, .inl (cM, 3000, .inl (rw16 (upR V r (V r * v + mo))))), (nn, .inl (cN, 3, .inl (rc (upR V r (V r * v + mo)))))]) u) A tS) A) (by decide) rfl (Nat.le_of_ble_eq_true rfl) ?_
  intro p ee s m below meth cde ls A H locs hx hb hml hrt hlocks hown hin hts hA hP hK hD hS hE hl
  have hown : s.vm.findClass R_Mod = some m.cls := hown
  have hts := wz_g hts
  have hl : lv_has ls 7 [(0, .ref md), (1, .int (nI r)), (2, .int (nI v)), (3, .int (nI mo))] := hl
  have hWl : V r * v + mo < 65536 ^ (lc (V r) + 1) := by
    have h1 := lc_lt (V r)
    have h2 : (V r + 1) * v ≤ 65536 ^ lc (V r) * 65536 := Nat.mul_le_mul h1 (by omega)
    rw [Nat.add_mul, Nat.one_mul] at h2
    rw [Nat.pow_succ]; omega
  refine lv_iload_n hx hb d_Mod_grow_0 rfl (lv_at hl 3 rfl) ?_
  refine tv_i (nI (cyg (V r) v mo 0)) (by rw [cyg_0]) ?_
  refine lv_istore (lv' := [(4, .int (nI (cyg (V r) v mo 0))), (0, .ref md), (1, .int (nI r)), (2, .int (nI v)), (3, .int (nI mo))]) hx hb d_Mod_grow_1 hl (by decide) rfl (fun ls hl => ?_)
  refine lv_iconst (v := 0) hx hb d_Mod_grow_3 (by decide) ?_
  refine tv_i (nI 0) (rfl) ?_
  refine lv_istore (lv' := [(5, .int (nI 0)), (4, .int (nI (cyg (V r) v mo 0))), (0, .ref md), (1, .int (nI r)), (2, .int (nI v)), (3, .int (nI mo))]) hx hb d_Mod_grow_4 hl (by decide) rfl (fun ls hl => ?_)
  have L6 : ∀ (kk : Nat) (k : Nat), lc (V r) + 1 - k < kk → (k ≤ lc (V r) + 1) → ∀ (H : Heap) (locs : List Loc) (ls : Array Slot), va_P D vcl [(md, .inr (5, [.ref xx, .int ln, .long R, .int rd, .ref mm, .ref nn, .int at0, .int en0])), (mm, .inl (cM, 3000, .inl (mx V r k (V r * v + mo)))), (nn, .inl (cN, 3, .inl (rc V)))] H → va_D A [(md, .inr (5, [.ref xx, .int ln, .long R, .int rd, .ref mm, .ref nn, .int at0, .int en0])), (mm, .inl (cM, 3000, .inl (mx V r k (V r * v + mo)))), (nn, .inl (cN, 3, .inl (rc V)))] → va_S A s.heap H locs → lv_has ls 7 [(0, .ref md), (1, .int (nI r)), (2, .int (nI v)), (4, .int (nI (cyg (V r) v mo k))), (5, .int (nI k))] → W p l ee ({ frames := 1, cells := 0, slots := 0, locals := 23 }) s m ([.ref md, .int (nI r), .int (nI v), .int (nI mo)] : List Value).toArray below meth cde H locs 0 0 (MQ below (va_Qv (S := Unit) (fun _ : Unit => True) (fun u tS => ctB D vcl ((fun _ => [(cM, .int), (cN, .int)]) u) ((fun _ : Unit => [(md, .inr (5, [.ref xx, .int ln, .long R, .int rd, .ref mm, .ref nn, .int at0, .int en0])), (mm, .inl (cM, 3000, .inl (rw16 (upR V r (V r * v + mo))))), (nn, .inl (cN, 3, .inl (rc (upR V r (V r * v + mo)))))]) u) A tS) A) ([.ref md, .int (nI r), .int (nI v), .int (nI mo)] : List Value).toArray s 0 0 A) (F0 m 6 ls []) := by
    intro kk
    induction kk with
    | zero => intro k hmz; exact absurd hmz (Nat.not_lt_zero _)
    | succ kk ih =>
      intro k hmz hk H locs ls hP hD hS hl
      have hgi := g_int (V := V r) (k := k) hmo hv1
      refine lv_iload hx hb d_Mod_grow_6 (lv_at hl 4 rfl) ?_
      refine lv_aload_n hx hb d_Mod_grow_8 rfl (lv_at hl 0 rfl) ?_
      refine va_get (D := D) (ci := 5) (v := .ref nn) (C := R_Mod) (T := F_Mod) (N := 8) hx hb hts w_Mod hown hK hP 0 rfl rfl 5 (by decide) (hts _ kF_Mod_16) (fun _ h9 => h9) rfl d_Mod_grow_9 ?_
      refine lv_iload_n hx hb d_Mod_grow_12 rfl (lv_at hl 1 rfl) ?_
      refine va_iald hx hb hK hP 2 1 rfl rfl (i := nI r) (vp_in_nI (show r < 3 by omega) (by decide)) d_Mod_grow_13 ?_
      refine tv_i (nI (lc (V r))) (by rw [nI_clamp (by omega)]; rfl) ?_
      refine lv_iconst (v := 1) hx hb d_Mod_grow_14 (by decide) ?_
      refine lv_iadd hx hb d_Mod_grow_15 ?_
      refine tv_i (nI (lc (V r) + 1)) (nI_1 _) ?_
      refine lv_icmp_ge (tgt := 70) hx hb d_Mod_grow_16 (by decide) (fun c16 => ?_) (fun c16 => ?_)
      · have e16 : k = lc (V r) + 1 := by have := (nI_leI (by omega) (by omega)).mp c16; omega
        rw [e16] at hP hD
        rw [show mx V r (lc (V r) + 1) (V r * v + mo) = rw16 (upR V r (V r * v + mo)) from mx_e (Nat.lt_of_lt_of_le (lc_lt (V r)) (p16_le (by omega))) (hWl)] at hP hD
        refine lv_aload_n hx hb d_Mod_grow_70 rfl (lv_at hl 0 rfl) ?_
        refine lv_iload_n hx hb d_Mod_grow_71 rfl (lv_at hl 1 rfl) ?_
        refine lv_aload_n hx hb d_Mod_grow_72 rfl (lv_at hl 0 rfl) ?_
        refine va_get (D := D) (ci := 5) (v := .ref nn) (C := R_Mod) (T := F_Mod) (N := 8) hx hb hts w_Mod hown hK hP 0 rfl rfl 5 (by decide) (hts _ kF_Mod_16) (fun _ h9 => h9) rfl d_Mod_grow_73 ?_
        refine lv_iload_n hx hb d_Mod_grow_76 rfl (lv_at hl 1 rfl) ?_
        refine va_iald hx hb hK hP 2 1 rfl rfl (i := nI r) (vp_in_nI (show r < 3 by omega) (by decide)) d_Mod_grow_77 ?_
        refine tv_i (nI (lc (V r))) (by rw [nI_clamp (by omega)]; rfl) ?_
        refine lv_iconst (v := 1) hx hb d_Mod_grow_78 (by decide) ?_
        refine lv_iadd hx hb d_Mod_grow_79 ?_
        refine tv_i (nI (lc (V r) + 1)) (nI_1 _) ?_
        refine ca_v [] (va_runV (As := [.int (nI r), .int (nI (lc (V r) + 1))]) (rest := []) ⟨hx, hb, hml, hown, hts⟩ (c_Mod_trim l D E md xx mm nn cM cN V ln rd at0 en0 R r (V r * v + mo) (lc (V r) + 1) (hr) (by omega) (hWl) H.size) (xV 2 hts kC_Mod_trim kM_Mod_21 kI_Mod_trim kS_Mod_trim kN_Mod rfl rfl (by decide +kernel) ⟨Nat.le_of_ble_eq_true rfl, Nat.le_of_ble_eq_true rfl⟩) ⟨ct_blind hev, va_recv hK hP (ci := 5) (q0 := 0) rfl rfl, ct_pre hev hP hK hD hS hA hE [0, 1, 2] rfl (by decide) [0, 1] rfl⟩ rfl rfl hl.1 rfl (lv_room (Nat.le_of_ble_eq_true rfl)) d_Mod_grow_80 ⟨Nat.le_of_ble_eq_true rfl, Nat.le_of_ble_eq_true rfl⟩) hP hD hS hA [0, 1, 2] [] rfl rfl (by decide) (by decide) (fun u H locs hw hP hD hS hK1 => ?_)
        have hP : va_P D vcl [(md, .inr (5, [.ref xx, .int ln, .long R, .int rd, .ref mm, .ref nn, .int at0, .int en0])), (mm, .inl (cM, 3000, .inl (rw16 (upR V r (V r * v + mo))))), (nn, .inl (cN, 3, .inl (rc (upR V r (V r * v + mo)))))] H := hP
        have hD : va_D A [(md, .inr (5, [.ref xx, .int ln, .long R, .int rd, .ref mm, .ref nn, .int at0, .int en0])), (mm, .inl (cM, 3000, .inl (rw16 (upR V r (V r * v + mo))))), (nn, .inl (cN, 3, .inl (rc (upR V r (V r * v + mo)))))] := hD
        exact rt_v hx hb hrt hlocks (()) (trivial) (hP.sub [0, 1, 2] rfl) (hK.sub [0, 1] rfl) (hD.sub [0, 1, 2] (by decide) rfl) hS d_Mod_grow_83
      · have e16 : k < lc (V r) + 1 := Nat.lt_of_not_le (fun z => c16 ((nI_leI (by omega) (by omega)).mpr z))
        refine lv_aload_n hx hb d_Mod_grow_19 rfl (lv_at hl 0 rfl) ?_
        refine va_get (D := D) (ci := 5) (v := .ref mm) (C := R_Mod) (T := F_Mod) (N := 8) hx hb hts w_Mod hown hK hP 0 rfl rfl 4 (by decide) (hts _ kF_Mod_13) (fun _ h9 => h9) rfl d_Mod_grow_20 ?_
        refine lv_sipush (v := 1000) hx hb d_Mod_grow_23 (by decide) ?_
        refine lv_iload_n hx hb d_Mod_grow_26 rfl (lv_at hl 1 rfl) ?_
        refine lv_imul hx hb d_Mod_grow_27 ?_
        refine lv_iload hx hb d_Mod_grow_28 (lv_at hl 4 rfl) ?_
        refine lv_iadd hx hb d_Mod_grow_30 ?_
        refine tv_i (nI (1000 * r + k)) (i1000) ?_
        refine va_iald hx hb hK hP 1 0 rfl rfl (i := nI (1000 * r + k)) (vp_in_nI (show 1000 * r + (k) < 3000 by omega) (by decide)) d_Mod_grow_31 ?_
        refine tv_i (nI (dig (V r) (k))) (by rw [nI_clamp (by omega)]; exact mx_ge (by omega) (Nat.le_refl k)) ?_
        refine lv_iload_n hx hb d_Mod_grow_32 rfl (lv_at hl 2 rfl) ?_
        refine lv_imul hx hb d_Mod_grow_33 ?_
        refine lv_iload hx hb d_Mod_grow_34 (lv_at hl 3 rfl) ?_
        refine lv_iadd hx hb d_Mod_grow_36 ?_
        refine tv_i (nI (dig (V r) k * v + cyg (V r) v mo k)) (by rw [pk_mul, nI_add]) ?_
        refine lv_istore (lv' := [(6, .int (nI (dig (V r) k * v + cyg (V r) v mo k))), (0, .ref md), (1, .int (nI r)), (2, .int (nI v)), (4, .int (nI (cyg (V r) v mo k))), (5, .int (nI k))]) hx hb d_Mod_grow_37 hl (by decide) rfl (fun ls hl => ?_)
        refine lv_aload_n hx hb d_Mod_grow_39 rfl (lv_at hl 1 rfl) ?_
        refine va_get (D := D) (ci := 5) (v := .ref mm) (C := R_Mod) (T := F_Mod) (N := 8) hx hb hts w_Mod hown hK hP 0 rfl rfl 4 (by decide) (hts _ kF_Mod_13) (fun _ h9 => h9) rfl d_Mod_grow_40 ?_
        refine lv_sipush (v := 1000) hx hb d_Mod_grow_43 (by decide) ?_
        refine lv_iload_n hx hb d_Mod_grow_46 rfl (lv_at hl 2 rfl) ?_
        refine lv_imul hx hb d_Mod_grow_47 ?_
        refine lv_iload hx hb d_Mod_grow_48 (lv_at hl 5 rfl) ?_
        refine lv_iadd hx hb d_Mod_grow_50 ?_
        refine tv_i (nI (1000 * r + k)) (i1000) ?_
        refine lv_iload hx hb d_Mod_grow_51 (lv_at hl 0 rfl) ?_
        refine lv_ldc hx hb hown (hts _ kK_Mod_25) d_Mod_grow_53 ?_
        refine lv_iand hx hb d_Mod_grow_55 ?_
        refine tv_i (nI (dig (V r * v + mo) k)) (by rw [g_step.1]; exact pk_andN (by omega) 16 (by decide)) ?_
        refine va_iast hx hb hK hP hD hS 1 0 rfl rfl (i := nI (1000 * r + k)) (vp_in_nI (show 1000 * r + k < 3000 by omega) (by decide)) d_Mod_grow_56 (fun H locs hP hD hS => ?_)
        have hP : va_P D vcl [(md, .inr (5, [.ref xx, .int ln, .long R, .int rd, .ref mm, .ref nn, .int at0, .int en0])), (mm, .inl (cM, 3000, .inl (upd (mx V r k (V r * v + mo)) (nI (1000 * r + k)).toNatClampNeg (nI (dig (V r * v + mo) k))))), (nn, .inl (cN, 3, .inl (rc V)))] H := hP
        have hD : va_D A [(md, .inr (5, [.ref xx, .int ln, .long R, .int rd, .ref mm, .ref nn, .int at0, .int en0])), (mm, .inl (cM, 3000, .inl (upd (mx V r k (V r * v + mo)) (nI (1000 * r + k)).toNatClampNeg (nI (dig (V r * v + mo) k))))), (nn, .inl (cN, 3, .inl (rc V)))] := hD
        rw [show upd (mx V r k (V r * v + mo)) (nI (1000 * r + k)).toNatClampNeg (nI (dig (V r * v + mo) k)) = mx V r (k + 1) (V r * v + mo) from by rw [nI_clamp (by omega), mx_s (by omega)]] at hP hD
        refine lv_iload hx hb d_Mod_grow_57 (lv_at hl 0 rfl) ?_
        refine lv_bipush (v := 16) hx hb d_Mod_grow_59 (by decide) ?_
        refine lv_ishr hx hb d_Mod_grow_61 ?_
        refine tv_i (nI (cyg (V r) v mo (k + 1))) (by rw [g_step.2]; exact pk_shrN (by omega) _ 16 (by decide)) ?_
        refine lv_istore (lv' := [(4, .int (nI (cyg (V r) v mo (k + 1)))), (6, .int (nI (dig (V r) k * v + cyg (V r) v mo k))), (0, .ref md), (1, .int (nI r)), (2, .int (nI v)), (5, .int (nI k))]) hx hb d_Mod_grow_62 hl (by decide) rfl (fun ls hl => ?_)
        refine lv_iinc (v := nI (k + 1)) (lv' := [(5, .int (nI (k + 1))), (4, .int (nI (cyg (V r) v mo (k + 1)))), (6, .int (nI (dig (V r) k * v + cyg (V r) v mo k))), (0, .ref md), (1, .int (nI r)), (2, .int (nI v))]) hx hb d_Mod_grow_64 hl (k := 5) rfl (nI_1 k) (by decide) rfl (fun ls hl => ?_)
        refine lv_goto (tgt := 6) hx hb d_Mod_grow_67 (by decide) ?_
        exact ih (k + 1) (by omega) (by omega) _ _ _ (hP.sub [0, 1, 2] rfl) (hD.sub [0, 1, 2] (by decide) rfl) hS (lv_sub hl [3, 4, 5, 1, 0] rfl)
  rw [← mx_0 V r (V r * v + mo)] at hP hD
  exact L6 (lc (V r) + 2) 0 (by omega) (by omega) _ _ _ (hP.sub [0, 1, 2] rfl) (hD.sub [0, 1, 2] (by decide) rfl) hS (lv_sub hl [2, 3, 4, 1, 0] rfl)

theorem one_sh {k : Nat} (h : k < 16) : (1 : Int32) <<< (nI k &&& 31) = nI (2 ^ k) := by
  have : ∀ k, k < 16 → (1 : Int32) <<< (nI k &&& 31) = nI (2 ^ k) := by decide +kernel
  exact this k h
set_option maxHeartbeats 4000000 in
set_option maxRecDepth 100000 in
theorem c_Mod_raise (l : Launch) (D : va_G) (E : evD) (md xx mm nn : Nat) (cM cN : ClassId) (V : Nat → Nat) (ln rd at0 en0 : Int32) (R : Int64) (r by0 : Nat) (hr : r < 3) (hb0 : by0 < 100000) (hlc : lc (V r) + by0 / 16 ≤ 998) : Cv (S := Unit) l y_Mod_raise (wz y_Mod_raise b_Mod_raise 6 none) ({ frames := 2, cells := 0, slots := 0, locals := 49 }) D vcl (ev1 E) [.ref md, .int (nI r), .int (nI by0)] [(cM, .int), (cN, .int)] [(md, .inr (5, [.ref xx, .int ln, .long R, .int rd, .ref mm, .ref nn, .int at0, .int en0])), (mm, .inl (cM, 3000, .inl (rw16 V))), (nn, .inl (cN, 3, .inl (rc V)))] 0 0 (fun _ : Unit => True) (fun _ => [(cM, .int), (cN, .int)]) (fun _ : Unit => [(md, .inr (5, [.ref xx, .int ln, .long R, .int rd, .ref mm, .ref nn, .int at0, .int en0])), (mm, .inl (cM, 3000, .inl (rw16 (upR V r (V r * 2 ^ by0))))), (nn, .inl (cN, 3, .inl (rc (upR V r (V r * 2 ^ by0)))))]) := by
  have hev := ev1_ok E
  unfold Cv
  refine ct_of (y := y_Mod_raise) (av := [.ref md, .int (nI r), .int (nI by0)]) (cc := b_Mod_raise) (maxL := 6) (ret := none) (Qc := fun A => va_Qv (S := Unit) (fun _ : Unit => True) (fun u tS => ctB D vcl ((fun _ => [(cM, .int), (cN, .int)]) u) ((fun _ : Unit => [(md, .inr (5, [.ref xx, .int ln, .long R, .int rd, .ref mm, .ref nn, .int at0, .int en0])), (mm, .inl (cM, 3000, .inl (rw16 (upR V r (V r * 2 ^ by0))))), (nn, .inl (cN, 3, .inl (rc (upR V r (V r * 2 ^ by0)))))]) u) A tS) A) (by decide) rfl (Nat.le_of_ble_eq_true rfl) ?_
  intro p ee s m below meth cde ls A H locs hx hb hml hrt hlocks hown hin hts hA hP hK hD hS hE hl
  have hown : s.vm.findClass R_Mod = some m.cls := hown
  have hts := wz_g hts
  have hl : lv_has ls 6 [(0, .ref md), (1, .int (nI r)), (2, .int (nI by0))] := hl
  have hWl : V r * 65536 ^ (by0 / 16) < 65536 ^ (lc (V r) + by0 / 16) := by
    rw [Nat.pow_add]; exact Nat.mul_lt_mul_of_pos_right (lc_lt (V r)) (p16 _)
  refine lv_iload_n hx hb d_Mod_raise_0 rfl (lv_at hl 2 rfl) ?_
  refine lv_bipush (v := 16) hx hb d_Mod_raise_1 (by decide) ?_
  refine lv_idiv hx hb d_Mod_raise_3 (by decide) ?_
  refine tv_i (nI (by0 / 16)) (pk_div (d := 16) (by omega) (by decide) (by decide)) ?_
  refine lv_istore_n (lv' := [(3, .int (nI (by0 / 16))), (0, .ref md), (1, .int (nI r)), (2, .int (nI by0))]) hx hb d_Mod_raise_4 rfl hl (by decide) rfl (fun ls hl => ?_)
  refine lv_aload_n hx hb d_Mod_raise_5 rfl (lv_at hl 1 rfl) ?_
  refine va_get (D := D) (ci := 5) (v := .ref nn) (C := R_Mod) (T := F_Mod) (N := 8) hx hb hts w_Mod hown hK hP 0 rfl rfl 5 (by decide) (hts _ kF_Mod_16) (fun _ h9 => h9) rfl d_Mod_raise_6 ?_
  refine lv_iload_n hx hb d_Mod_raise_9 rfl (lv_at hl 2 rfl) ?_
  refine va_iald hx hb hK hP 2 1 rfl rfl (i := nI r) (vp_in_nI (show r < 3 by omega) (by decide)) d_Mod_raise_10 ?_
  refine tv_i (nI (lc (V r))) (by rw [nI_clamp (by omega)]; rfl) ?_
  refine lv_iload_n hx hb d_Mod_raise_11 rfl (lv_at hl 0 rfl) ?_
  refine lv_iadd hx hb d_Mod_raise_12 ?_
  refine tv_i (nI (lc (V r) + by0 / 16)) (nI_add _ _) ?_
  refine lv_istore (lv' := [(4, .int (nI (lc (V r) + by0 / 16))), (3, .int (nI (by0 / 16))), (0, .ref md), (1, .int (nI r)), (2, .int (nI by0))]) hx hb d_Mod_raise_13 hl (by decide) rfl (fun ls hl => ?_)
  refine lv_iload hx hb d_Mod_raise_15 (lv_at hl 0 rfl) ?_
  refine lv_iconst (v := 1) hx hb d_Mod_raise_17 (by decide) ?_
  refine lv_isub hx hb d_Mod_raise_18 ?_
  refine lv_istore (lv' := [(5, .int ((nI (lc (V r) + by0 / 16)) - 1)), (4, .int (nI (lc (V r) + by0 / 16))), (3, .int (nI (by0 / 16))), (0, .ref md), (1, .int (nI r)), (2, .int (nI by0))]) hx hb d_Mod_raise_19 hl (by decide) rfl (fun ls hl => ?_)
  have L21 : ∀ (kk : Nat) (k : Nat), k < kk → (k ≤ lc (V r) + by0 / 16) → ∀ (H : Heap) (locs : List Loc) (ls : Array Slot), va_P D vcl [(md, .inr (5, [.ref xx, .int ln, .long R, .int rd, .ref mm, .ref nn, .int at0, .int en0])), (mm, .inl (cM, 3000, .inl (my V r k (V r * 65536 ^ (by0 / 16))))), (nn, .inl (cN, 3, .inl (rc V)))] H → va_D A [(md, .inr (5, [.ref xx, .int ln, .long R, .int rd, .ref mm, .ref nn, .int at0, .int en0])), (mm, .inl (cM, 3000, .inl (my V r k (V r * 65536 ^ (by0 / 16))))), (nn, .inl (cN, 3, .inl (rc V)))] → va_S A s.heap H locs → lv_has ls 6 [(0, .ref md), (1, .int (nI r)), (2, .int (nI by0)), (3, .int (nI (by0 / 16))), (4, .int (nI (lc (V r) + by0 / 16))), (5, .int (nI k - 1))] → W p l ee ({ frames := 2, cells := 0, slots := 0, locals := 49 }) s m ([.ref md, .int (nI r), .int (nI by0)] : List Value).toArray below meth cde H locs 0 0 (MQ below (va_Qv (S := Unit) (fun _ : Unit => True) (fun u tS => ctB D vcl ((fun _ => [(cM, .int), (cN, .int)]) u) ((fun _ : Unit => [(md, .inr (5, [.ref xx, .int ln, .long R, .int rd, .ref mm, .ref nn, .int at0, .int en0])), (mm, .inl (cM, 3000, .inl (rw16 (upR V r (V r * 2 ^ by0))))), (nn, .inl (cN, 3, .inl (rc (upR V r (V r * 2 ^ by0)))))]) u) A tS) A) ([.ref md, .int (nI r), .int (nI by0)] : List Value).toArray s 0 0 A) (F0 m 21 ls []) := by
    intro kk
    induction kk with
    | zero => intro k hmz; exact absurd hmz (Nat.not_lt_zero _)
    | succ kk ih =>
      intro k hmz hk H locs ls hP hD hS hl
      refine lv_iload hx hb d_Mod_raise_21 (lv_at hl 5 rfl) ?_
      refine lv_if_lt (tgt := 70) hx hb d_Mod_raise_23 (by decide) (fun c23 => ?_) (fun c23 => ?_)
      · have e23 : k = 0 := (nI_m1lt (by omega)).mp c23
        rw [e23] at hP hD
        rw [show my V r 0 (V r * 65536 ^ (by0 / 16)) = rw16 (upR V r (V r * 65536 ^ (by0 / 16))) from my_e _ _ _] at hP hD
        refine lv_aload_n hx hb d_Mod_raise_70 rfl (lv_at hl 0 rfl) ?_
        refine lv_iload_n hx hb d_Mod_raise_71 rfl (lv_at hl 1 rfl) ?_
        refine lv_iload hx hb d_Mod_raise_72 (lv_at hl 4 rfl) ?_
        refine ca_v [] (va_runV (As := [.int (nI r), .int (nI (lc (V r) + by0 / 16))]) (rest := []) ⟨hx, hb, hml, hown, hts⟩ (c_Mod_trim l D E md xx mm nn cM cN V ln rd at0 en0 R r (V r * 65536 ^ (by0 / 16)) (lc (V r) + by0 / 16) (hr) (by omega) (hWl) H.size) (xV 2 hts kC_Mod_trim kM_Mod_21 kI_Mod_trim kS_Mod_trim kN_Mod rfl rfl (by decide +kernel) ⟨Nat.le_of_ble_eq_true rfl, Nat.le_of_ble_eq_true rfl⟩) ⟨ct_blind hev, va_recv hK hP (ci := 5) (q0 := 0) rfl rfl, ct_pre hev hP hK hD hS hA hE [0, 1, 2] rfl (by decide) [0, 1] rfl⟩ rfl rfl hl.1 rfl (lv_room (Nat.le_of_ble_eq_true rfl)) d_Mod_raise_74 ⟨Nat.le_of_ble_eq_true rfl, Nat.le_of_ble_eq_true rfl⟩) hP hD hS hA [0, 1, 2] [] rfl rfl (by decide) (by decide) (fun u H locs hw hP hD hS hK1 => ?_)
        have hP : va_P D vcl [(md, .inr (5, [.ref xx, .int ln, .long R, .int rd, .ref mm, .ref nn, .int at0, .int en0])), (mm, .inl (cM, 3000, .inl (rw16 (upR V r (V r * 65536 ^ (by0 / 16)))))), (nn, .inl (cN, 3, .inl (rc (upR V r (V r * 65536 ^ (by0 / 16))))))] H := hP
        have hD : va_D A [(md, .inr (5, [.ref xx, .int ln, .long R, .int rd, .ref mm, .ref nn, .int at0, .int en0])), (mm, .inl (cM, 3000, .inl (rw16 (upR V r (V r * 65536 ^ (by0 / 16)))))), (nn, .inl (cN, 3, .inl (rc (upR V r (V r * 65536 ^ (by0 / 16))))))] := hD
        refine lv_aload_n hx hb d_Mod_raise_77 rfl (lv_at hl 0 rfl) ?_
        refine lv_iload_n hx hb d_Mod_raise_78 rfl (lv_at hl 1 rfl) ?_
        refine lv_iconst (v := 1) hx hb d_Mod_raise_79 (by decide) ?_
        refine lv_iload_n hx hb d_Mod_raise_80 rfl (lv_at hl 2 rfl) ?_
        refine lv_bipush (v := 16) hx hb d_Mod_raise_81 (by decide) ?_
        refine lv_irem hx hb d_Mod_raise_83 (by decide) ?_
        refine tv_i (nI (by0 % 16)) (pk_rem (d := 16) (by omega) (by decide) (by decide)) ?_
        refine lv_ishl hx hb d_Mod_raise_84 ?_
        refine tv_i (nI (2 ^ (by0 % 16))) (one_sh (by omega)) ?_
        refine lv_iconst (v := 0) hx hb d_Mod_raise_85 (by decide) ?_
        refine tv_i (nI 0) (rfl) ?_
        refine ca_v [] (va_runV (As := [.int (nI r), .int (nI (2 ^ (by0 % 16))), .int (nI 0)]) (rest := []) ⟨hx, hb, hml, hown, hts⟩ (c_Mod_grow l D E md xx mm nn cM cN (upR V r (V r * 65536 ^ (by0 / 16))) ln rd at0 en0 R r (2 ^ (by0 % 16)) 0 (hr) (Nat.two_pow_pos _) (Nat.le_trans (two_pow_le (show by0 % 16 ≤ 15 by omega)) (by decide)) (by rw [upR_s]; have := lc_le hWl; omega) H.size) (xV 3 hts kC_Mod_grow kM_Mod_26 kI_Mod_grow kS_Mod_grow kN_Mod rfl rfl (by decide +kernel) ⟨Nat.le_of_ble_eq_true rfl, Nat.le_of_ble_eq_true rfl⟩) ⟨ct_blind hev, va_recv hK hP (ci := 5) (q0 := 0) rfl rfl, ct_pre hev hP hK hD hS hA hE [0, 1, 2] rfl (by decide) [0, 1] rfl⟩ rfl rfl hl.1 rfl (lv_room (Nat.le_of_ble_eq_true rfl)) d_Mod_raise_86 ⟨Nat.le_of_ble_eq_true rfl, Nat.le_of_ble_eq_true rfl⟩) hP hD hS hA [0, 1, 2] [] rfl rfl (by decide) (by decide) (fun u H locs hw hP hD hS hK1 => ?_)
        have hP : va_P D vcl [(md, .inr (5, [.ref xx, .int ln, .long R, .int rd, .ref mm, .ref nn, .int at0, .int en0])), (mm, .inl (cM, 3000, .inl (rw16 (upR (upR V r (V r * 65536 ^ (by0 / 16))) r ((upR V r (V r * 65536 ^ (by0 / 16))) r * (2 ^ (by0 % 16)) + 0))))), (nn, .inl (cN, 3, .inl (rc (upR (upR V r (V r * 65536 ^ (by0 / 16))) r ((upR V r (V r * 65536 ^ (by0 / 16))) r * (2 ^ (by0 % 16)) + 0)))))] H := hP
        have hD : va_D A [(md, .inr (5, [.ref xx, .int ln, .long R, .int rd, .ref mm, .ref nn, .int at0, .int en0])), (mm, .inl (cM, 3000, .inl (rw16 (upR (upR V r (V r * 65536 ^ (by0 / 16))) r ((upR V r (V r * 65536 ^ (by0 / 16))) r * (2 ^ (by0 % 16)) + 0))))), (nn, .inl (cN, 3, .inl (rc (upR (upR V r (V r * 65536 ^ (by0 / 16))) r ((upR V r (V r * 65536 ^ (by0 / 16))) r * (2 ^ (by0 % 16)) + 0)))))] := hD
        rw [show upR (upR V r (V r * 65536 ^ (by0 / 16))) r (upR V r (V r * 65536 ^ (by0 / 16)) r * 2 ^ (by0 % 16) + 0) = upR V r (V r * 2 ^ by0) from by rw [upR_u, upR_s, Nat.add_zero, p16_2, Nat.mul_assoc, ← Nat.pow_add, show 16 * (by0 / 16) + by0 % 16 = by0 by omega]] at hP hD
        exact rt_v hx hb hrt hlocks (()) (trivial) (hP.sub [0, 1, 2] rfl) (hK.sub [0, 1] rfl) (hD.sub [0, 1, 2] (by decide) rfl) hS d_Mod_raise_89
      · have e23 : 0 < k := Nat.pos_of_ne_zero (fun z => c23 ((nI_m1lt (by omega)).mpr z))
        refine lv_aload_n hx hb d_Mod_raise_26 rfl (lv_at hl 0 rfl) ?_
        refine va_get (D := D) (ci := 5) (v := .ref mm) (C := R_Mod) (T := F_Mod) (N := 8) hx hb hts w_Mod hown hK hP 0 rfl rfl 4 (by decide) (hts _ kF_Mod_13) (fun _ h9 => h9) rfl d_Mod_raise_27 ?_
        refine lv_sipush (v := 1000) hx hb d_Mod_raise_30 (by decide) ?_
        refine lv_iload_n hx hb d_Mod_raise_33 rfl (lv_at hl 1 rfl) ?_
        refine lv_imul hx hb d_Mod_raise_34 ?_
        refine lv_iload hx hb d_Mod_raise_35 (lv_at hl 5 rfl) ?_
        refine tv_i (nI (k - 1)) (nI_dec e23) ?_
        refine lv_iadd hx hb d_Mod_raise_37 ?_
        refine tv_i (nI (1000 * r + (k - 1))) (i1000) ?_
        refine lv_iload hx hb d_Mod_raise_38 (lv_at hl 5 rfl) ?_
        refine tv_i (nI (k - 1)) (nI_dec e23) ?_
        refine lv_iload_n hx hb d_Mod_raise_40 rfl (lv_at hl 3 rfl) ?_
        refine lv_icmp_lt (tgt := 62) hx hb d_Mod_raise_41 (by decide) (fun c41 => ?_) (fun c41 => ?_)
        · have e41 : k - 1 < by0 / 16 := (nI_ltI (by omega) (by omega)).mp c41
          refine lv_iconst (v := 0) hx hb d_Mod_raise_62 (by decide) ?_
          refine tv_i (nI (dig (V r * 65536 ^ (by0 / 16)) (k - 1))) (by rw [sh_dig, if_neg (by omega)]; rfl) ?_
          refine va_iast hx hb hK hP hD hS 1 0 rfl rfl (i := nI (1000 * r + (k - 1))) (vp_in_nI (show 1000 * r + (k - 1) < 3000 by omega) (by decide)) d_Mod_raise_63 (fun H locs hP hD hS => ?_)
          have hP : va_P D vcl [(md, .inr (5, [.ref xx, .int ln, .long R, .int rd, .ref mm, .ref nn, .int at0, .int en0])), (mm, .inl (cM, 3000, .inl (upd (my V r k (V r * 65536 ^ (by0 / 16))) (nI (1000 * r + (k - 1))).toNatClampNeg (nI (dig (V r * 65536 ^ (by0 / 16)) (k - 1)))))), (nn, .inl (cN, 3, .inl (rc V)))] H := hP
          have hD : va_D A [(md, .inr (5, [.ref xx, .int ln, .long R, .int rd, .ref mm, .ref nn, .int at0, .int en0])), (mm, .inl (cM, 3000, .inl (upd (my V r k (V r * 65536 ^ (by0 / 16))) (nI (1000 * r + (k - 1))).toNatClampNeg (nI (dig (V r * 65536 ^ (by0 / 16)) (k - 1)))))), (nn, .inl (cN, 3, .inl (rc V)))] := hD
          rw [show upd (my V r k (V r * 65536 ^ (by0 / 16))) (nI (1000 * r + (k - 1))).toNatClampNeg (nI (dig (V r * 65536 ^ (by0 / 16)) (k - 1))) = my V r (k - 1) (V r * 65536 ^ (by0 / 16)) from by rw [nI_clamp (by omega), my_s e23 (by omega)]] at hP hD
          refine lv_iinc (v := nI (k - 1) - 1) (lv' := [(5, .int (nI (k - 1) - 1)), (0, .ref md), (1, .int (nI r)), (2, .int (nI by0)), (3, .int (nI (by0 / 16))), (4, .int (nI (lc (V r) + by0 / 16)))]) hx hb d_Mod_raise_64 hl (k := 5) rfl (nI_dn e23) (by decide) rfl (fun ls hl => ?_)
          refine lv_goto (tgt := 21) hx hb d_Mod_raise_67 (by decide) ?_
          exact ih (k - 1) (by omega) (by omega) _ _ _ (hP.sub [0, 1, 2] rfl) (hD.sub [0, 1, 2] (by decide) rfl) hS (lv_sub hl [1, 2, 3, 4, 5, 0] rfl)
        · have e41 : by0 / 16 ≤ k - 1 := Nat.le_of_not_lt (fun z => c41 ((nI_ltI (by omega) (by omega)).mpr z))
          refine lv_aload_n hx hb d_Mod_raise_44 rfl (lv_at hl 0 rfl) ?_
          refine va_get (D := D) (ci := 5) (v := .ref mm) (C := R_Mod) (T := F_Mod) (N := 8) hx hb hts w_Mod hown hK hP 0 rfl rfl 4 (by decide) (hts _ kF_Mod_13) (fun _ h9 => h9) rfl d_Mod_raise_45 ?_
          refine lv_sipush (v := 1000) hx hb d_Mod_raise_48 (by decide) ?_
          refine lv_iload_n hx hb d_Mod_raise_51 rfl (lv_at hl 1 rfl) ?_
          refine lv_imul hx hb d_Mod_raise_52 ?_
          refine lv_iload hx hb d_Mod_raise_53 (lv_at hl 5 rfl) ?_
          refine tv_i (nI (k - 1)) (nI_dec e23) ?_
          refine lv_iadd hx hb d_Mod_raise_55 ?_
          refine tv_i (nI (1000 * r + (k - 1))) (i1000) ?_
          refine lv_iload_n hx hb d_Mod_raise_56 rfl (lv_at hl 3 rfl) ?_
          refine lv_isub hx hb d_Mod_raise_57 ?_
          refine tv_i (nI (1000 * r + (k - 1 - by0 / 16))) (by rw [pk_sub (by omega)]; exact congrArg nI (by omega)) ?_
          refine va_iald hx hb hK hP 1 0 rfl rfl (i := nI (1000 * r + (k - 1 - by0 / 16))) (vp_in_nI (show 1000 * r + (k - 1 - by0 / 16) < 3000 by omega) (by decide)) d_Mod_raise_58 ?_
          refine tv_i (nI (dig (V r * 65536 ^ (by0 / 16)) (k - 1))) (by rw [nI_clamp (by omega), my_at (by omega) (by omega), sh_dig, if_pos e41]) ?_
          refine lv_goto (tgt := 63) hx hb d_Mod_raise_59 (by decide) ?_
          refine va_iast hx hb hK hP hD hS 1 0 rfl rfl (i := nI (1000 * r + (k - 1))) (vp_in_nI (show 1000 * r + (k - 1) < 3000 by omega) (by decide)) d_Mod_raise_63 (fun H locs hP hD hS => ?_)
          have hP : va_P D vcl [(md, .inr (5, [.ref xx, .int ln, .long R, .int rd, .ref mm, .ref nn, .int at0, .int en0])), (mm, .inl (cM, 3000, .inl (upd (my V r k (V r * 65536 ^ (by0 / 16))) (nI (1000 * r + (k - 1))).toNatClampNeg (nI (dig (V r * 65536 ^ (by0 / 16)) (k - 1)))))), (nn, .inl (cN, 3, .inl (rc V)))] H := hP
          have hD : va_D A [(md, .inr (5, [.ref xx, .int ln, .long R, .int rd, .ref mm, .ref nn, .int at0, .int en0])), (mm, .inl (cM, 3000, .inl (upd (my V r k (V r * 65536 ^ (by0 / 16))) (nI (1000 * r + (k - 1))).toNatClampNeg (nI (dig (V r * 65536 ^ (by0 / 16)) (k - 1)))))), (nn, .inl (cN, 3, .inl (rc V)))] := hD
          rw [show upd (my V r k (V r * 65536 ^ (by0 / 16))) (nI (1000 * r + (k - 1))).toNatClampNeg (nI (dig (V r * 65536 ^ (by0 / 16)) (k - 1))) = my V r (k - 1) (V r * 65536 ^ (by0 / 16)) from by rw [nI_clamp (by omega), my_s e23 (by omega)]] at hP hD
          refine lv_iinc (v := nI (k - 1) - 1) (lv' := [(5, .int (nI (k - 1) - 1)), (0, .ref md), (1, .int (nI r)), (2, .int (nI by0)), (3, .int (nI (by0 / 16))), (4, .int (nI (lc (V r) + by0 / 16)))]) hx hb d_Mod_raise_64 hl (k := 5) rfl (nI_dn e23) (by decide) rfl (fun ls hl => ?_)
          refine lv_goto (tgt := 21) hx hb d_Mod_raise_67 (by decide) ?_
          exact ih (k - 1) (by omega) (by omega) _ _ _ (hP.sub [0, 1, 2] rfl) (hD.sub [0, 1, 2] (by decide) rfl) hS (lv_sub hl [1, 2, 3, 4, 5, 0] rfl)
  rw [← my_start (Nat.lt_of_lt_of_le (lc_lt (V r)) (p16_le (show lc (V r) ≤ lc (V r) + by0 / 16 by omega))) hWl] at hP hD
  exact L21 (lc (V r) + by0 / 16 + 1) (lc (V r) + by0 / 16) (by omega) (Nat.le_refl _) _ _ _ (hP.sub [0, 1, 2] rfl) (hD.sub [0, 1, 2] (by decide) rfl) hS (lv_sub hl [3, 4, 5, 2, 1, 0] rfl)

theorem hv_or {a b : Nat} (ha : a < 32768) (hb : b < 2) : nI a ||| nI (b * 32768) = nI (a + b * 32768) := by
  rcases (show b = 0 ∨ b = 1 by omega) with h | h
  · subst h
    apply w32_inj
    show (BitVec.ofNat 32 a ||| BitVec.ofNat 32 0).toNat = (BitVec.ofNat 32 (a + 0)).toNat
    rw [BitVec.or_zero]; rfl
  · subst h
    apply w32_inj
    show (BitVec.ofNat 32 a ||| BitVec.ofNat 32 (2 ^ 15)).toNat = (BitVec.ofNat 32 (a + 2 ^ 15)).toNat
    rw [BitVec.toNat_or, BitVec.toNat_ofNat, BitVec.toNat_ofNat, BitVec.toNat_ofNat, Nat.mod_eq_of_lt (by omega), Nat.mod_eq_of_lt (by decide), Nat.mod_eq_of_lt (by omega)]
    exact Nat.or_two_pow_eq_add_of_lt ha
set_option maxHeartbeats 4000000 in
set_option maxRecDepth 100000 in
theorem c_Mod_halve (l : Launch) (D : va_G) (E : evD) (md xx mm nn : Nat) (cM cN : ClassId) (V : Nat → Nat) (ln rd at0 en0 : Int32) (R : Int64) (r : Nat) (hr : r < 3) (hlc : lc (V r) ≤ 999) : Cv (S := Unit) l y_Mod_halve (wz y_Mod_halve b_Mod_halve 4 none) ({ frames := 1, cells := 0, slots := 0, locals := 23 }) D vcl (ev1 E) [.ref md, .int (nI r)] [(cM, .int), (cN, .int)] [(md, .inr (5, [.ref xx, .int ln, .long R, .int rd, .ref mm, .ref nn, .int at0, .int en0])), (mm, .inl (cM, 3000, .inl (rw16 V))), (nn, .inl (cN, 3, .inl (rc V)))] 0 0 (fun _ : Unit => True) (fun _ => [(cM, .int), (cN, .int)]) (fun _ : Unit => [(md, .inr (5, [.ref xx, .int ln, .long R, .int rd, .ref mm, .ref nn, .int at0, .int en0])), (mm, .inl (cM, 3000, .inl (rw16 (upR V r (V r / 2))))), (nn, .inl (cN, 3, .inl (rc (upR V r (V r / 2)))))]) := by
  have hev := ev1_ok E
  unfold Cv
  refine ct_of (y := y_Mod_halve) (av := [.ref md, .int (nI r)]) (cc := b_Mod_halve) (maxL := 4) (ret := none) (Qc := fun A => va_Qv (S := Unit) (fun _ : Unit => True) (fun u tS => ctB D vcl ((fun _ => [(cM, .int), (cN, .int)]) u) ((fun _ : Unit => [(md, .inr (5, [.ref xx, .int ln, .long R, .int rd, .ref mm, .ref nn, .int at0, .int en0])), (mm, .inl (cM, 3000, .inl (rw16 (upR V r (V r / 2))))), (nn, .inl (cN, 3, .inl (rc (upR V r (V r / 2)))))]) u) A tS) A) (by decide) rfl (Nat.le_of_ble_eq_true rfl) ?_
  intro p ee s m below meth cde ls A H locs hx hb hml hrt hlocks hown hin hts hA hP hK hD hS hE hl
  have hown : s.vm.findClass R_Mod = some m.cls := hown
  have hts := wz_g hts
  have hl : lv_has ls 4 [(0, .ref md), (1, .int (nI r))] := hl
  have hWl : V r / 2 < 65536 ^ lc (V r) := Nat.lt_of_le_of_lt (Nat.div_le_self _ _) (lc_lt _)
  refine lv_iconst (v := 0) hx hb d_Mod_halve_0 (by decide) ?_
  refine tv_i (nI 0) (rfl) ?_
  refine lv_istore_n (lv' := [(2, .int (nI 0)), (0, .ref md), (1, .int (nI r))]) hx hb d_Mod_halve_1 rfl hl (by decide) rfl (fun ls hl => ?_)
  have L2 : ∀ (kk : Nat) (k : Nat), lc (V r) - k < kk → (k ≤ lc (V r)) → ∀ (H : Heap) (locs : List Loc) (ls : Array Slot), va_P D vcl [(md, .inr (5, [.ref xx, .int ln, .long R, .int rd, .ref mm, .ref nn, .int at0, .int en0])), (mm, .inl (cM, 3000, .inl (mx V r k (V r / 2)))), (nn, .inl (cN, 3, .inl (rc V)))] H → va_D A [(md, .inr (5, [.ref xx, .int ln, .long R, .int rd, .ref mm, .ref nn, .int at0, .int en0])), (mm, .inl (cM, 3000, .inl (mx V r k (V r / 2)))), (nn, .inl (cN, 3, .inl (rc V)))] → va_S A s.heap H locs → lv_has ls 4 [(0, .ref md), (1, .int (nI r)), (2, .int (nI k))] → W p l ee ({ frames := 1, cells := 0, slots := 0, locals := 23 }) s m ([.ref md, .int (nI r)] : List Value).toArray below meth cde H locs 0 0 (MQ below (va_Qv (S := Unit) (fun _ : Unit => True) (fun u tS => ctB D vcl ((fun _ => [(cM, .int), (cN, .int)]) u) ((fun _ : Unit => [(md, .inr (5, [.ref xx, .int ln, .long R, .int rd, .ref mm, .ref nn, .int at0, .int en0])), (mm, .inl (cM, 3000, .inl (rw16 (upR V r (V r / 2))))), (nn, .inl (cN, 3, .inl (rc (upR V r (V r / 2)))))]) u) A tS) A) ([.ref md, .int (nI r)] : List Value).toArray s 0 0 A) (F0 m 2 ls []) := by
    intro kk
    induction kk with
    | zero => intro k hmz; exact absurd hmz (Nat.not_lt_zero _)
    | succ kk ih =>
      intro k hmz hk H locs ls hP hD hS hl
      refine lv_iload_n hx hb d_Mod_halve_2 rfl (lv_at hl 2 rfl) ?_
      refine lv_aload_n hx hb d_Mod_halve_3 rfl (lv_at hl 0 rfl) ?_
      refine va_get (D := D) (ci := 5) (v := .ref nn) (C := R_Mod) (T := F_Mod) (N := 8) hx hb hts w_Mod hown hK hP 0 rfl rfl 5 (by decide) (hts _ kF_Mod_16) (fun _ h9 => h9) rfl d_Mod_halve_4 ?_
      refine lv_iload_n hx hb d_Mod_halve_7 rfl (lv_at hl 1 rfl) ?_
      refine va_iald hx hb hK hP 2 1 rfl rfl (i := nI r) (vp_in_nI (show r < 3 by omega) (by decide)) d_Mod_halve_8 ?_
      refine tv_i (nI (lc (V r))) (by rw [nI_clamp (by omega)]; rfl) ?_
      refine lv_icmp_ge (tgt := 82) hx hb d_Mod_halve_9 (by decide) (fun c9 => ?_) (fun c9 => ?_)
      · have e9 : k = lc (V r) := by have := (nI_leI (by omega) (by omega)).mp c9; omega
        rw [e9] at hP hD
        rw [show mx V r (lc (V r)) (V r / 2) = rw16 (upR V r (V r / 2)) from mx_e (lc_lt _) (hWl)] at hP hD
        refine lv_aload_n hx hb d_Mod_halve_82 rfl (lv_at hl 0 rfl) ?_
        refine lv_iload_n hx hb d_Mod_halve_83 rfl (lv_at hl 1 rfl) ?_
        refine lv_aload_n hx hb d_Mod_halve_84 rfl (lv_at hl 0 rfl) ?_
        refine va_get (D := D) (ci := 5) (v := .ref nn) (C := R_Mod) (T := F_Mod) (N := 8) hx hb hts w_Mod hown hK hP 0 rfl rfl 5 (by decide) (hts _ kF_Mod_16) (fun _ h9 => h9) rfl d_Mod_halve_85 ?_
        refine lv_iload_n hx hb d_Mod_halve_88 rfl (lv_at hl 1 rfl) ?_
        refine va_iald hx hb hK hP 2 1 rfl rfl (i := nI r) (vp_in_nI (show r < 3 by omega) (by decide)) d_Mod_halve_89 ?_
        refine tv_i (nI (lc (V r))) (by rw [nI_clamp (by omega)]; rfl) ?_
        refine ca_v [] (va_runV (As := [.int (nI r), .int (nI (lc (V r)))]) (rest := []) ⟨hx, hb, hml, hown, hts⟩ (c_Mod_trim l D E md xx mm nn cM cN V ln rd at0 en0 R r (V r / 2) (lc (V r)) (hr) (by omega) (hWl) H.size) (xV 2 hts kC_Mod_trim kM_Mod_21 kI_Mod_trim kS_Mod_trim kN_Mod rfl rfl (by decide +kernel) ⟨Nat.le_of_ble_eq_true rfl, Nat.le_of_ble_eq_true rfl⟩) ⟨ct_blind hev, va_recv hK hP (ci := 5) (q0 := 0) rfl rfl, ct_pre hev hP hK hD hS hA hE [0, 1, 2] rfl (by decide) [0, 1] rfl⟩ rfl rfl hl.1 rfl (lv_room (Nat.le_of_ble_eq_true rfl)) d_Mod_halve_90 ⟨Nat.le_of_ble_eq_true rfl, Nat.le_of_ble_eq_true rfl⟩) hP hD hS hA [0, 1, 2] [] rfl rfl (by decide) (by decide) (fun u H locs hw hP hD hS hK1 => ?_)
        have hP : va_P D vcl [(md, .inr (5, [.ref xx, .int ln, .long R, .int rd, .ref mm, .ref nn, .int at0, .int en0])), (mm, .inl (cM, 3000, .inl (rw16 (upR V r (V r / 2))))), (nn, .inl (cN, 3, .inl (rc (upR V r (V r / 2)))))] H := hP
        have hD : va_D A [(md, .inr (5, [.ref xx, .int ln, .long R, .int rd, .ref mm, .ref nn, .int at0, .int en0])), (mm, .inl (cM, 3000, .inl (rw16 (upR V r (V r / 2))))), (nn, .inl (cN, 3, .inl (rc (upR V r (V r / 2)))))] := hD
        exact rt_v hx hb hrt hlocks (()) (trivial) (hP.sub [0, 1, 2] rfl) (hK.sub [0, 1] rfl) (hD.sub [0, 1, 2] (by decide) rfl) hS d_Mod_halve_93
      · have e9 : k < lc (V r) := Nat.lt_of_not_le (fun z => c9 ((nI_leI (by omega) (by omega)).mpr z))
        refine lv_iload_n hx hb d_Mod_halve_12 rfl (lv_at hl 2 rfl) ?_
        refine lv_iconst (v := 1) hx hb d_Mod_halve_13 (by decide) ?_
        refine lv_iadd hx hb d_Mod_halve_14 ?_
        refine tv_i (nI (k + 1)) (nI_1 k) ?_
        refine lv_aload_n hx hb d_Mod_halve_15 rfl (lv_at hl 0 rfl) ?_
        refine va_get (D := D) (ci := 5) (v := .ref nn) (C := R_Mod) (T := F_Mod) (N := 8) hx hb hts w_Mod hown hK hP 0 rfl rfl 5 (by decide) (hts _ kF_Mod_16) (fun _ h9 => h9) rfl d_Mod_halve_16 ?_
        refine lv_iload_n hx hb d_Mod_halve_19 rfl (lv_at hl 1 rfl) ?_
        refine va_iald hx hb hK hP 2 1 rfl rfl (i := nI r) (vp_in_nI (show r < 3 by omega) (by decide)) d_Mod_halve_20 ?_
        refine tv_i (nI (lc (V r))) (by rw [nI_clamp (by omega)]; rfl) ?_
        refine lv_icmp_ge (tgt := 43) hx hb d_Mod_halve_21 (by decide) (fun c21 => ?_) (fun c21 => ?_)
        · have e21 : lc (V r) ≤ k + 1 := (nI_leI (by omega) (by omega)).mp c21
          refine lv_iconst (v := 0) hx hb d_Mod_halve_43 (by decide) ?_
          refine tv_i (nI (dig (V r) (k + 1) % 2)) (by rw [dig_hi (Nat.lt_of_lt_of_le (lc_lt (V r)) (p16_le e21))]; rfl) ?_
          refine lv_istore_n (lv' := [(3, .int (nI (dig (V r) (k + 1) % 2))), (0, .ref md), (1, .int (nI r)), (2, .int (nI k))]) hx hb d_Mod_halve_44 rfl hl (by decide) rfl (fun ls hl => ?_)
          refine lv_aload_n hx hb d_Mod_halve_45 rfl (lv_at hl 1 rfl) ?_
          refine va_get (D := D) (ci := 5) (v := .ref mm) (C := R_Mod) (T := F_Mod) (N := 8) hx hb hts w_Mod hown hK hP 0 rfl rfl 4 (by decide) (hts _ kF_Mod_13) (fun _ h9 => h9) rfl d_Mod_halve_46 ?_
          refine lv_sipush (v := 1000) hx hb d_Mod_halve_49 (by decide) ?_
          refine lv_iload_n hx hb d_Mod_halve_52 rfl (lv_at hl 2 rfl) ?_
          refine lv_imul hx hb d_Mod_halve_53 ?_
          refine lv_iload_n hx hb d_Mod_halve_54 rfl (lv_at hl 3 rfl) ?_
          refine lv_iadd hx hb d_Mod_halve_55 ?_
          refine tv_i (nI (1000 * r + k)) (i1000) ?_
          refine lv_aload_n hx hb d_Mod_halve_56 rfl (lv_at hl 1 rfl) ?_
          refine va_get (D := D) (ci := 5) (v := .ref mm) (C := R_Mod) (T := F_Mod) (N := 8) hx hb hts w_Mod hown hK hP 0 rfl rfl 4 (by decide) (hts _ kF_Mod_13) (fun _ h9 => h9) rfl d_Mod_halve_57 ?_
          refine lv_sipush (v := 1000) hx hb d_Mod_halve_60 (by decide) ?_
          refine lv_iload_n hx hb d_Mod_halve_63 rfl (lv_at hl 2 rfl) ?_
          refine lv_imul hx hb d_Mod_halve_64 ?_
          refine lv_iload_n hx hb d_Mod_halve_65 rfl (lv_at hl 3 rfl) ?_
          refine lv_iadd hx hb d_Mod_halve_66 ?_
          refine tv_i (nI (1000 * r + k)) (i1000) ?_
          refine va_iald hx hb hK hP 1 0 rfl rfl (i := nI (1000 * r + k)) (vp_in_nI (show 1000 * r + (k) < 3000 by omega) (by decide)) d_Mod_halve_67 ?_
          refine tv_i (nI (dig (V r) (k))) (by rw [nI_clamp (by omega)]; exact mx_ge (by omega) (Nat.le_refl k)) ?_
          refine lv_iconst (v := 1) hx hb d_Mod_halve_68 (by decide) ?_
          refine lv_ishr hx hb d_Mod_halve_69 ?_
          refine tv_i (nI (dig (V r) k / 2)) (pk_shrN (by have := dig_lt (V r) k; omega) _ 1 (by decide)) ?_
          refine lv_iload_n hx hb d_Mod_halve_70 rfl (lv_at hl 0 rfl) ?_
          refine lv_bipush (v := 15) hx hb d_Mod_halve_71 (by decide) ?_
          refine lv_ishl hx hb d_Mod_halve_73 ?_
          refine tv_i (nI (dig (V r) (k + 1) % 2 * 32768)) (pk_shlN _ 15 (by decide) (by omega)) ?_
          refine lv_ior hx hb d_Mod_halve_74 ?_
          refine tv_i (nI (dig (V r / 2) k)) (by rw [hv_dig]; exact hv_or (by have := dig_lt (V r) k; omega) (by omega)) ?_
          refine va_iast hx hb hK hP hD hS 1 0 rfl rfl (i := nI (1000 * r + k)) (vp_in_nI (show 1000 * r + k < 3000 by omega) (by decide)) d_Mod_halve_75 (fun H locs hP hD hS => ?_)
          have hP : va_P D vcl [(md, .inr (5, [.ref xx, .int ln, .long R, .int rd, .ref mm, .ref nn, .int at0, .int en0])), (mm, .inl (cM, 3000, .inl (upd (mx V r k (V r / 2)) (nI (1000 * r + k)).toNatClampNeg (nI (dig (V r / 2) k))))), (nn, .inl (cN, 3, .inl (rc V)))] H := hP
          have hD : va_D A [(md, .inr (5, [.ref xx, .int ln, .long R, .int rd, .ref mm, .ref nn, .int at0, .int en0])), (mm, .inl (cM, 3000, .inl (upd (mx V r k (V r / 2)) (nI (1000 * r + k)).toNatClampNeg (nI (dig (V r / 2) k))))), (nn, .inl (cN, 3, .inl (rc V)))] := hD
          rw [show upd (mx V r k (V r / 2)) (nI (1000 * r + k)).toNatClampNeg (nI (dig (V r / 2) k)) = mx V r (k + 1) (V r / 2) from by rw [nI_clamp (by omega), mx_s (by omega)]] at hP hD
          refine lv_iinc (v := nI (k + 1)) (lv' := [(2, .int (nI (k + 1))), (3, .int (nI (dig (V r) (k + 1) % 2))), (0, .ref md), (1, .int (nI r))]) hx hb d_Mod_halve_76 hl (k := 3) rfl (nI_1 k) (by decide) rfl (fun ls hl => ?_)
          refine lv_goto (tgt := 2) hx hb d_Mod_halve_79 (by decide) ?_
          exact ih (k + 1) (by omega) (by omega) _ _ _ (hP.sub [0, 1, 2] rfl) (hD.sub [0, 1, 2] (by decide) rfl) hS (lv_sub hl [2, 3, 0] rfl)
        · have e21 : k + 1 < lc (V r) := Nat.lt_of_not_le (fun z => c21 ((nI_leI (by omega) (by omega)).mpr z))
          refine lv_aload_n hx hb d_Mod_halve_24 rfl (lv_at hl 0 rfl) ?_
          refine va_get (D := D) (ci := 5) (v := .ref mm) (C := R_Mod) (T := F_Mod) (N := 8) hx hb hts w_Mod hown hK hP 0 rfl rfl 4 (by decide) (hts _ kF_Mod_13) (fun _ h9 => h9) rfl d_Mod_halve_25 ?_
          refine lv_sipush (v := 1000) hx hb d_Mod_halve_28 (by decide) ?_
          refine lv_iload_n hx hb d_Mod_halve_31 rfl (lv_at hl 1 rfl) ?_
          refine lv_imul hx hb d_Mod_halve_32 ?_
          refine lv_iload_n hx hb d_Mod_halve_33 rfl (lv_at hl 2 rfl) ?_
          refine lv_iadd hx hb d_Mod_halve_34 ?_
          refine lv_iconst (v := 1) hx hb d_Mod_halve_35 (by decide) ?_
          refine lv_iadd hx hb d_Mod_halve_36 ?_
          refine tv_i (nI (1000 * r + (k + 1))) (by rw [i1000]; exact nI_1 _) ?_
          refine va_iald hx hb hK hP 1 0 rfl rfl (i := nI (1000 * r + (k + 1))) (vp_in_nI (show 1000 * r + (k + 1) < 3000 by omega) (by decide)) d_Mod_halve_37 ?_
          refine tv_i (nI (dig (V r) (k + 1))) (by rw [nI_clamp (by omega)]; exact mx_ge (by omega) (by omega)) ?_
          refine lv_iconst (v := 1) hx hb d_Mod_halve_38 (by decide) ?_
          refine lv_iand hx hb d_Mod_halve_39 ?_
          refine tv_i (nI (dig (V r) (k + 1) % 2)) (pk_andN (by have := dig_lt (V r) (k + 1); omega) 1 (by decide)) ?_
          refine lv_goto (tgt := 44) hx hb d_Mod_halve_40 (by decide) ?_
          refine lv_istore_n (lv' := [(3, .int (nI (dig (V r) (k + 1) % 2))), (0, .ref md), (1, .int (nI r)), (2, .int (nI k))]) hx hb d_Mod_halve_44 rfl hl (by decide) rfl (fun ls hl => ?_)
          refine lv_aload_n hx hb d_Mod_halve_45 rfl (lv_at hl 1 rfl) ?_
          refine va_get (D := D) (ci := 5) (v := .ref mm) (C := R_Mod) (T := F_Mod) (N := 8) hx hb hts w_Mod hown hK hP 0 rfl rfl 4 (by decide) (hts _ kF_Mod_13) (fun _ h9 => h9) rfl d_Mod_halve_46 ?_
          refine lv_sipush (v := 1000) hx hb d_Mod_halve_49 (by decide) ?_
          refine lv_iload_n hx hb d_Mod_halve_52 rfl (lv_at hl 2 rfl) ?_
          refine lv_imul hx hb d_Mod_halve_53 ?_
          refine lv_iload_n hx hb d_Mod_halve_54 rfl (lv_at hl 3 rfl) ?_
          refine lv_iadd hx hb d_Mod_halve_55 ?_
          refine tv_i (nI (1000 * r + k)) (i1000) ?_
          refine lv_aload_n hx hb d_Mod_halve_56 rfl (lv_at hl 1 rfl) ?_
          refine va_get (D := D) (ci := 5) (v := .ref mm) (C := R_Mod) (T := F_Mod) (N := 8) hx hb hts w_Mod hown hK hP 0 rfl rfl 4 (by decide) (hts _ kF_Mod_13) (fun _ h9 => h9) rfl d_Mod_halve_57 ?_
          refine lv_sipush (v := 1000) hx hb d_Mod_halve_60 (by decide) ?_
          refine lv_iload_n hx hb d_Mod_halve_63 rfl (lv_at hl 2 rfl) ?_
          refine lv_imul hx hb d_Mod_halve_64 ?_
          refine lv_iload_n hx hb d_Mod_halve_65 rfl (lv_at hl 3 rfl) ?_
          refine lv_iadd hx hb d_Mod_halve_66 ?_
          refine tv_i (nI (1000 * r + k)) (i1000) ?_
          refine va_iald hx hb hK hP 1 0 rfl rfl (i := nI (1000 * r + k)) (vp_in_nI (show 1000 * r + (k) < 3000 by omega) (by decide)) d_Mod_halve_67 ?_
          refine tv_i (nI (dig (V r) (k))) (by rw [nI_clamp (by omega)]; exact mx_ge (by omega) (Nat.le_refl k)) ?_
          refine lv_iconst (v := 1) hx hb d_Mod_halve_68 (by decide) ?_
          refine lv_ishr hx hb d_Mod_halve_69 ?_
          refine tv_i (nI (dig (V r) k / 2)) (pk_shrN (by have := dig_lt (V r) k; omega) _ 1 (by decide)) ?_
          refine lv_iload_n hx hb d_Mod_halve_70 rfl (lv_at hl 0 rfl) ?_
          refine lv_bipush (v := 15) hx hb d_Mod_halve_71 (by decide) ?_
          refine lv_ishl hx hb d_Mod_halve_73 ?_
          refine tv_i (nI (dig (V r) (k + 1) % 2 * 32768)) (pk_shlN _ 15 (by decide) (by omega)) ?_
          refine lv_ior hx hb d_Mod_halve_74 ?_
          refine tv_i (nI (dig (V r / 2) k)) (by rw [hv_dig]; exact hv_or (by have := dig_lt (V r) k; omega) (by omega)) ?_
          refine va_iast hx hb hK hP hD hS 1 0 rfl rfl (i := nI (1000 * r + k)) (vp_in_nI (show 1000 * r + k < 3000 by omega) (by decide)) d_Mod_halve_75 (fun H locs hP hD hS => ?_)
          have hP : va_P D vcl [(md, .inr (5, [.ref xx, .int ln, .long R, .int rd, .ref mm, .ref nn, .int at0, .int en0])), (mm, .inl (cM, 3000, .inl (upd (mx V r k (V r / 2)) (nI (1000 * r + k)).toNatClampNeg (nI (dig (V r / 2) k))))), (nn, .inl (cN, 3, .inl (rc V)))] H := hP
          have hD : va_D A [(md, .inr (5, [.ref xx, .int ln, .long R, .int rd, .ref mm, .ref nn, .int at0, .int en0])), (mm, .inl (cM, 3000, .inl (upd (mx V r k (V r / 2)) (nI (1000 * r + k)).toNatClampNeg (nI (dig (V r / 2) k))))), (nn, .inl (cN, 3, .inl (rc V)))] := hD
          rw [show upd (mx V r k (V r / 2)) (nI (1000 * r + k)).toNatClampNeg (nI (dig (V r / 2) k)) = mx V r (k + 1) (V r / 2) from by rw [nI_clamp (by omega), mx_s (by omega)]] at hP hD
          refine lv_iinc (v := nI (k + 1)) (lv' := [(2, .int (nI (k + 1))), (3, .int (nI (dig (V r) (k + 1) % 2))), (0, .ref md), (1, .int (nI r))]) hx hb d_Mod_halve_76 hl (k := 3) rfl (nI_1 k) (by decide) rfl (fun ls hl => ?_)
          refine lv_goto (tgt := 2) hx hb d_Mod_halve_79 (by decide) ?_
          exact ih (k + 1) (by omega) (by omega) _ _ _ (hP.sub [0, 1, 2] rfl) (hD.sub [0, 1, 2] (by decide) rfl) hS (lv_sub hl [2, 3, 0] rfl)
  rw [← mx_0 V r (V r / 2)] at hP hD
  exact L2 (lc (V r) + 1) 0 (by omega) (by omega) _ _ _ (hP.sub [0, 1, 2] rfl) (hD.sub [0, 1, 2] (by decide) rfl) hS (lv_sub hl [1, 2, 0] rfl)

def cmpN (x y : Nat) : Int32 := if x < y then -1 else if x = y then 0 else 1
theorem cmpN_lt {x y : Nat} (h : x < y) : cmpN x y = -1 := if_pos h
theorem cmpN_eq {x : Nat} : cmpN x x = 0 := by unfold cmpN; rw [if_neg (Nat.lt_irrefl x), if_pos rfl]
theorem cmpN_gt {x y : Nat} (h : y < x) : cmpN x y = 1 := by unfold cmpN; rw [if_neg (by omega), if_neg (by omega)]
theorem lc_cmp {x y : Nat} (h : lc x < lc y) : x < y := Nat.lt_of_not_le (fun z => by have := lc_le (Nat.lt_of_le_of_lt z (lc_lt x)); omega)
set_option maxHeartbeats 4000000 in
set_option maxRecDepth 100000 in
theorem c_Mod_compareRows (l : Launch) (D : va_G) (E : evD) (md xx mm nn : Nat) (cM cN : ClassId) (V : Nat → Nat) (ln rd at0 en0 : Int32) (R : Int64) (a b : Nat) (ha : a < 3) (hb3 : b < 3) (hla : lc (V a) ≤ 1000) (hlb : lc (V b) ≤ 1000) : Ci (S := Unit) l y_Mod_compareRows (wz y_Mod_compareRows b_Mod_compareRows 6 (some .int)) ({ frames := 0, cells := 0, slots := 0, locals := 0 }) D vcl (ev1 E) [.ref md, .int (nI a), .int (nI b)] [(cM, .int), (cN, .int)] [(md, .inr (5, [.ref xx, .int ln, .long R, .int rd, .ref mm, .ref nn, .int at0, .int en0])), (mm, .inl (cM, 3000, .inl (rw16 V))), (nn, .inl (cN, 3, .inl (rc V)))] 0 0 (fun (r : Int32) (_ : Unit) => r = cmpN (V a) (V b)) (fun _ => [(cM, .int), (cN, .int)]) (fun _ : Unit => [(md, .inr (5, [.ref xx, .int ln, .long R, .int rd, .ref mm, .ref nn, .int at0, .int en0])), (mm, .inl (cM, 3000, .inl (rw16 V))), (nn, .inl (cN, 3, .inl (rc V)))]) := by
  have hev := ev1_ok E
  unfold Ci
  refine ct_of (y := y_Mod_compareRows) (av := [.ref md, .int (nI a), .int (nI b)]) (cc := b_Mod_compareRows) (maxL := 6) (ret := (some .int)) (Qc := fun A => va_Qi (S := Unit) (fun (r : Int32) (_ : Unit) => r = cmpN (V a) (V b)) (fun u tS => ctB D vcl ((fun _ => [(cM, .int), (cN, .int)]) u) ((fun _ : Unit => [(md, .inr (5, [.ref xx, .int ln, .long R, .int rd, .ref mm, .ref nn, .int at0, .int en0])), (mm, .inl (cM, 3000, .inl (rw16 V))), (nn, .inl (cN, 3, .inl (rc V)))]) u) A tS) A) (by decide) rfl (Nat.le_of_ble_eq_true rfl) ?_
  intro p ee s m below meth cde ls A H locs hx hb hml hrt hlocks hown hin hts hA hP hK hD hS hE hl
  have hown : s.vm.findClass R_Mod = some m.cls := hown
  have hts := wz_g hts
  have hl : lv_has ls 6 [(0, .ref md), (1, .int (nI a)), (2, .int (nI b))] := hl
  refine lv_aload_n hx hb d_Mod_compareRows_0 rfl (lv_at hl 0 rfl) ?_
  refine va_get (D := D) (ci := 5) (v := .ref nn) (C := R_Mod) (T := F_Mod) (N := 8) hx hb hts w_Mod hown hK hP 0 rfl rfl 5 (by decide) (hts _ kF_Mod_16) (fun _ h9 => h9) rfl d_Mod_compareRows_1 ?_
  refine lv_iload_n hx hb d_Mod_compareRows_4 rfl (lv_at hl 1 rfl) ?_
  refine va_iald hx hb hK hP 2 1 rfl rfl (i := nI a) (vp_in_nI (show a < 3 by omega) (by decide)) d_Mod_compareRows_5 ?_
  refine tv_i (nI (lc (V a))) (by rw [nI_clamp (by omega)]; rfl) ?_
  refine lv_aload_n hx hb d_Mod_compareRows_6 rfl (lv_at hl 0 rfl) ?_
  refine va_get (D := D) (ci := 5) (v := .ref nn) (C := R_Mod) (T := F_Mod) (N := 8) hx hb hts w_Mod hown hK hP 0 rfl rfl 5 (by decide) (hts _ kF_Mod_16) (fun _ h9 => h9) rfl d_Mod_compareRows_7 ?_
  refine lv_iload_n hx hb d_Mod_compareRows_10 rfl (lv_at hl 2 rfl) ?_
  refine va_iald hx hb hK hP 2 1 rfl rfl (i := nI b) (vp_in_nI (show b < 3 by omega) (by decide)) d_Mod_compareRows_11 ?_
  refine tv_i (nI (lc (V b))) (by rw [nI_clamp (by omega)]; rfl) ?_
  refine lv_icmp_eq (tgt := 36) hx hb d_Mod_compareRows_12 (by decide) (fun c12 => ?_) (fun c12 => ?_)
  · have e12 : lc (V a) = lc (V b) := (nI_eq (by omega) (by omega)).mp c12
    refine lv_aload_n hx hb d_Mod_compareRows_36 rfl (lv_at hl 0 rfl) ?_
    refine va_get (D := D) (ci := 5) (v := .ref nn) (C := R_Mod) (T := F_Mod) (N := 8) hx hb hts w_Mod hown hK hP 0 rfl rfl 5 (by decide) (hts _ kF_Mod_16) (fun _ h9 => h9) rfl d_Mod_compareRows_37 ?_
    refine lv_iload_n hx hb d_Mod_compareRows_40 rfl (lv_at hl 1 rfl) ?_
    refine va_iald hx hb hK hP 2 1 rfl rfl (i := nI a) (vp_in_nI (show a < 3 by omega) (by decide)) d_Mod_compareRows_41 ?_
    refine tv_i (nI (lc (V a))) (by rw [nI_clamp (by omega)]; rfl) ?_
    refine lv_iconst (v := 1) hx hb d_Mod_compareRows_42 (by decide) ?_
    refine lv_isub hx hb d_Mod_compareRows_43 ?_
    refine lv_istore_n (lv' := [(3, .int ((nI (lc (V a))) - 1)), (0, .ref md), (1, .int (nI a)), (2, .int (nI b))]) hx hb d_Mod_compareRows_44 rfl hl (by decide) rfl (fun ls hl => ?_)
    have L45 : ∀ (kk : Nat) (k : Nat), k < kk → (k ≤ lc (V a)) → (V a / 65536 ^ k = V b / 65536 ^ k) → ∀ (H : Heap) (locs : List Loc) (ls : Array Slot), va_P D vcl [(md, .inr (5, [.ref xx, .int ln, .long R, .int rd, .ref mm, .ref nn, .int at0, .int en0])), (mm, .inl (cM, 3000, .inl (rw16 V))), (nn, .inl (cN, 3, .inl (rc V)))] H → va_D A [(md, .inr (5, [.ref xx, .int ln, .long R, .int rd, .ref mm, .ref nn, .int at0, .int en0])), (mm, .inl (cM, 3000, .inl (rw16 V))), (nn, .inl (cN, 3, .inl (rc V)))] → va_S A s.heap H locs → lv_has ls 6 [(0, .ref md), (1, .int (nI a)), (2, .int (nI b)), (3, .int (nI k - 1))] → W p l ee ({ frames := 0, cells := 0, slots := 0, locals := 0 }) s m ([.ref md, .int (nI a), .int (nI b)] : List Value).toArray below meth cde H locs 0 0 (MQ below (va_Qi (S := Unit) (fun (r : Int32) (_ : Unit) => r = cmpN (V a) (V b)) (fun u tS => ctB D vcl ((fun _ => [(cM, .int), (cN, .int)]) u) ((fun _ : Unit => [(md, .inr (5, [.ref xx, .int ln, .long R, .int rd, .ref mm, .ref nn, .int at0, .int en0])), (mm, .inl (cM, 3000, .inl (rw16 V))), (nn, .inl (cN, 3, .inl (rc V)))]) u) A tS) A) ([.ref md, .int (nI a), .int (nI b)] : List Value).toArray s 0 0 A) (F0 m 45 ls []) := by
      intro kk
      induction kk with
      | zero => intro k hmz; exact absurd hmz (Nat.not_lt_zero _)
      | succ kk ih =>
        intro k hmz hk hv H locs ls hP hD hS hl
        refine lv_iload_n hx hb d_Mod_compareRows_45 rfl (lv_at hl 3 rfl) ?_
        refine lv_if_lt (tgt := 103) hx hb d_Mod_compareRows_46 (by decide) (fun c46 => ?_) (fun c46 => ?_)
        · have e46 : k = 0 := (nI_m1lt (by omega)).mp c46
          refine lv_iconst (v := 0) hx hb d_Mod_compareRows_103 (by decide) ?_
          exact rt_i hx hb hrt hlocks (rfl) (()) (by rw [e46, Nat.pow_zero, Nat.div_one, Nat.div_one] at hv; rw [hv, cmpN_eq]) (hP.sub [0, 1, 2] rfl) (hK.sub [0, 1] rfl) (hD.sub [0, 1, 2] (by decide) rfl) hS d_Mod_compareRows_104
        · have e46 : 0 < k := Nat.pos_of_ne_zero (fun z => c46 ((nI_m1lt (by omega)).mpr z))
          have hda := dv_s (V a) (k - 1)
          have hdb := dv_s (V b) (k - 1)
          rw [show k - 1 + 1 = k by omega] at hda hdb
          have ld1 := dig_lt (V a) (k - 1)
          have ld2 := dig_lt (V b) (k - 1)
          refine lv_aload_n hx hb d_Mod_compareRows_49 rfl (lv_at hl 0 rfl) ?_
          refine va_get (D := D) (ci := 5) (v := .ref mm) (C := R_Mod) (T := F_Mod) (N := 8) hx hb hts w_Mod hown hK hP 0 rfl rfl 4 (by decide) (hts _ kF_Mod_13) (fun _ h9 => h9) rfl d_Mod_compareRows_50 ?_
          refine lv_sipush (v := 1000) hx hb d_Mod_compareRows_53 (by decide) ?_
          refine lv_iload_n hx hb d_Mod_compareRows_56 rfl (lv_at hl 1 rfl) ?_
          refine lv_imul hx hb d_Mod_compareRows_57 ?_
          refine lv_iload_n hx hb d_Mod_compareRows_58 rfl (lv_at hl 3 rfl) ?_
          refine tv_i (nI (k - 1)) (nI_dec e46) ?_
          refine lv_iadd hx hb d_Mod_compareRows_59 ?_
          refine tv_i (nI (1000 * a + (k - 1))) (i1000) ?_
          refine va_iald hx hb hK hP 1 0 rfl rfl (i := nI (1000 * a + (k - 1))) (vp_in_nI (show 1000 * a + (k - 1) < 3000 by omega) (by decide)) d_Mod_compareRows_60 ?_
          refine tv_i (nI (dig (V a) (k - 1))) (by rw [nI_clamp (by omega)]; exact rw_at (by omega)) ?_
          refine lv_istore (lv' := [(4, .int (nI (dig (V a) (k - 1)))), (0, .ref md), (1, .int (nI a)), (2, .int (nI b)), (3, .int (nI k - 1))]) hx hb d_Mod_compareRows_61 hl (by decide) rfl (fun ls hl => ?_)
          refine lv_aload_n hx hb d_Mod_compareRows_63 rfl (lv_at hl 1 rfl) ?_
          refine va_get (D := D) (ci := 5) (v := .ref mm) (C := R_Mod) (T := F_Mod) (N := 8) hx hb hts w_Mod hown hK hP 0 rfl rfl 4 (by decide) (hts _ kF_Mod_13) (fun _ h9 => h9) rfl d_Mod_compareRows_64 ?_
          refine lv_sipush (v := 1000) hx hb d_Mod_compareRows_67 (by decide) ?_
          refine lv_iload_n hx hb d_Mod_compareRows_70 rfl (lv_at hl 3 rfl) ?_
          refine lv_imul hx hb d_Mod_compareRows_71 ?_
          refine lv_iload_n hx hb d_Mod_compareRows_72 rfl (lv_at hl 4 rfl) ?_
          refine tv_i (nI (k - 1)) (nI_dec e46) ?_
          refine lv_iadd hx hb d_Mod_compareRows_73 ?_
          refine tv_i (nI (1000 * b + (k - 1))) (i1000) ?_
          refine va_iald hx hb hK hP 1 0 rfl rfl (i := nI (1000 * b + (k - 1))) (vp_in_nI (show 1000 * b + (k - 1) < 3000 by omega) (by decide)) d_Mod_compareRows_74 ?_
          refine tv_i (nI (dig (V b) (k - 1))) (by rw [nI_clamp (by omega)]; exact rw_at (by omega)) ?_
          refine lv_istore (lv' := [(5, .int (nI (dig (V b) (k - 1)))), (4, .int (nI (dig (V a) (k - 1)))), (0, .ref md), (1, .int (nI a)), (2, .int (nI b)), (3, .int (nI k - 1))]) hx hb d_Mod_compareRows_75 hl (by decide) rfl (fun ls hl => ?_)
          refine lv_iload hx hb d_Mod_compareRows_77 (lv_at hl 1 rfl) ?_
          refine lv_iload hx hb d_Mod_compareRows_79 (lv_at hl 0 rfl) ?_
          refine lv_icmp_eq (tgt := 97) hx hb d_Mod_compareRows_81 (by decide) (fun c81 => ?_) (fun c81 => ?_)
          · have e81 : dig (V a) (k - 1) = dig (V b) (k - 1) := (nI_eq (by omega) (by omega)).mp c81
            refine lv_iinc (v := nI (k - 1) - 1) (lv' := [(3, .int (nI (k - 1) - 1)), (5, .int (nI (dig (V b) (k - 1)))), (4, .int (nI (dig (V a) (k - 1)))), (0, .ref md), (1, .int (nI a)), (2, .int (nI b))]) hx hb d_Mod_compareRows_97 hl (k := 5) rfl (nI_dn e46) (by decide) rfl (fun ls hl => ?_)
            refine lv_goto (tgt := 45) hx hb d_Mod_compareRows_100 (by decide) ?_
            exact ih (k - 1) (by omega) (by omega) (by rw [hda, hdb, hv, e81]) _ _ _ (hP.sub [0, 1, 2] rfl) (hD.sub [0, 1, 2] (by decide) rfl) hS (lv_sub hl [3, 4, 5, 0] rfl)
          · have e81 : dig (V a) (k - 1) ≠ dig (V b) (k - 1) := fun z => c81 (by rw [z])
            refine lv_iload hx hb d_Mod_compareRows_84 (lv_at hl 1 rfl) ?_
            refine lv_iload hx hb d_Mod_compareRows_86 (lv_at hl 0 rfl) ?_
            refine lv_icmp_ge (tgt := 95) hx hb d_Mod_compareRows_88 (by decide) (fun c88 => ?_) (fun c88 => ?_)
            · have e88 : dig (V b) (k - 1) ≤ dig (V a) (k - 1) := (nI_leI (by omega) (by omega)).mp c88
              refine lv_iconst (v := 1) hx hb d_Mod_compareRows_95 (by decide) ?_
              exact rt_i hx hb hrt hlocks (rfl) (()) (by rw [cmpN_gt (Nat.lt_of_not_le (fun z => absurd (Nat.div_le_div_right (c := 65536 ^ (k - 1)) z) (by omega)))]) (hP.sub [0, 1, 2] rfl) (hK.sub [0, 1] rfl) (hD.sub [0, 1, 2] (by decide) rfl) hS d_Mod_compareRows_96
            · have e88 : dig (V a) (k - 1) < dig (V b) (k - 1) := Nat.lt_of_not_le (fun z => c88 ((nI_leI (by omega) (by omega)).mpr z))
              refine lv_iconst (v := -1) hx hb d_Mod_compareRows_91 (by decide) ?_
              refine lv_goto (tgt := 96) hx hb d_Mod_compareRows_92 (by decide) ?_
              exact rt_i hx hb hrt hlocks (rfl) (()) (by rw [cmpN_lt (Nat.lt_of_not_le (fun z => absurd (Nat.div_le_div_right (c := 65536 ^ (k - 1)) z) (by omega)))]) (hP.sub [0, 1, 2] rfl) (hK.sub [0, 1] rfl) (hD.sub [0, 1, 2] (by decide) rfl) hS d_Mod_compareRows_96
    exact L45 (lc (V a) + 1) (lc (V a)) (by omega) (Nat.le_refl _) (by rw [Nat.div_eq_of_lt (lc_lt _), e12, Nat.div_eq_of_lt (lc_lt _)]) _ _ _ (hP.sub [0, 1, 2] rfl) (hD.sub [0, 1, 2] (by decide) rfl) hS (lv_sub hl [1, 2, 3, 0] rfl)
  · have e12 : lc (V a) ≠ lc (V b) := fun z => c12 (by rw [z])
    refine lv_aload_n hx hb d_Mod_compareRows_15 rfl (lv_at hl 0 rfl) ?_
    refine va_get (D := D) (ci := 5) (v := .ref nn) (C := R_Mod) (T := F_Mod) (N := 8) hx hb hts w_Mod hown hK hP 0 rfl rfl 5 (by decide) (hts _ kF_Mod_16) (fun _ h9 => h9) rfl d_Mod_compareRows_16 ?_
    refine lv_iload_n hx hb d_Mod_compareRows_19 rfl (lv_at hl 1 rfl) ?_
    refine va_iald hx hb hK hP 2 1 rfl rfl (i := nI a) (vp_in_nI (show a < 3 by omega) (by decide)) d_Mod_compareRows_20 ?_
    refine tv_i (nI (lc (V a))) (by rw [nI_clamp (by omega)]; rfl) ?_
    refine lv_aload_n hx hb d_Mod_compareRows_21 rfl (lv_at hl 0 rfl) ?_
    refine va_get (D := D) (ci := 5) (v := .ref nn) (C := R_Mod) (T := F_Mod) (N := 8) hx hb hts w_Mod hown hK hP 0 rfl rfl 5 (by decide) (hts _ kF_Mod_16) (fun _ h9 => h9) rfl d_Mod_compareRows_22 ?_
    refine lv_iload_n hx hb d_Mod_compareRows_25 rfl (lv_at hl 2 rfl) ?_
    refine va_iald hx hb hK hP 2 1 rfl rfl (i := nI b) (vp_in_nI (show b < 3 by omega) (by decide)) d_Mod_compareRows_26 ?_
    refine tv_i (nI (lc (V b))) (by rw [nI_clamp (by omega)]; rfl) ?_
    refine lv_icmp_ge (tgt := 34) hx hb d_Mod_compareRows_27 (by decide) (fun c27 => ?_) (fun c27 => ?_)
    · have e27 : lc (V b) ≤ lc (V a) := (nI_leI (by omega) (by omega)).mp c27
      refine lv_iconst (v := 1) hx hb d_Mod_compareRows_34 (by decide) ?_
      exact rt_i hx hb hrt hlocks (rfl) (()) (by rw [cmpN_gt (lc_cmp (by omega))]) (hP.sub [0, 1, 2] rfl) (hK.sub [0, 1] rfl) (hD.sub [0, 1, 2] (by decide) rfl) hS d_Mod_compareRows_35
    · have e27 : lc (V a) < lc (V b) := Nat.lt_of_not_le (fun z => c27 ((nI_leI (by omega) (by omega)).mpr z))
      refine lv_iconst (v := -1) hx hb d_Mod_compareRows_30 (by decide) ?_
      refine lv_goto (tgt := 35) hx hb d_Mod_compareRows_31 (by decide) ?_
      exact rt_i hx hb hrt hlocks (rfl) (()) (by rw [cmpN_lt (lc_cmp (by omega))]) (hP.sub [0, 1, 2] rfl) (hK.sub [0, 1] rfl) (hD.sub [0, 1, 2] (by decide) rfl) hS d_Mod_compareRows_35
