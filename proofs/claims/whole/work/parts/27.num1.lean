theorem dg_le (c : Nat) : dg c ≤ 16 := by unfold dg; split <;> (try split) <;> (try split) <;> omega
theorem d_Num_init_0 : decode b_Num_init 0 = .ok (.aload_n 0, 1) := by decide +kernel
theorem d_Num_init_1 : decode b_Num_init 1 = .ok (.invokespecial 3, 3) := by decide +kernel
theorem d_Num_init_4 : decode b_Num_init 4 = .ok (.aload_n 0, 1) := by decide +kernel
theorem d_Num_init_5 : decode b_Num_init 5 = .ok (.sipush 2400, 3) := by decide +kernel
theorem d_Num_init_8 : decode b_Num_init 8 = .ok (.newarray .char, 2) := by decide +kernel
theorem d_Num_init_10 : decode b_Num_init 10 = .ok (.putfield 9, 3) := by decide +kernel
theorem d_Num_init_13 : decode b_Num_init 13 = .ok (.return_, 1) := by decide +kernel
theorem d_Num_here_0 : decode b_Num_here 0 = .ok (.aload_n 0, 1) := by decide +kernel
theorem d_Num_here_1 : decode b_Num_here 1 = .ok (.getfield 27, 3) := by decide +kernel
theorem d_Num_here_4 : decode b_Num_here 4 = .ok (.aload_n 0, 1) := by decide +kernel
theorem d_Num_here_5 : decode b_Num_here 5 = .ok (.getfield 52, 3) := by decide +kernel
theorem d_Num_here_8 : decode b_Num_here 8 = .ok (.if_icmp .ge 15, 3) := by decide +kernel
theorem d_Num_here_11 : decode b_Num_here 11 = .ok (.aload_n 0, 1) := by decide +kernel
theorem d_Num_here_12 : decode b_Num_here 12 = .ok (.getfield 9, 3) := by decide +kernel
theorem d_Num_here_15 : decode b_Num_here 15 = .ok (.aload_n 0, 1) := by decide +kernel
theorem d_Num_here_16 : decode b_Num_here 16 = .ok (.getfield 27, 3) := by decide +kernel
theorem d_Num_here_19 : decode b_Num_here 19 = .ok (.caload, 1) := by decide +kernel
theorem d_Num_here_20 : decode b_Num_here 20 = .ok (.goto 4, 3) := by decide +kernel
theorem d_Num_here_23 : decode b_Num_here 23 = .ok (.iconst 0, 1) := by decide +kernel
theorem d_Num_here_24 : decode b_Num_here 24 = .ok (.ireturn, 1) := by decide +kernel
theorem d_Num_isHere_0 : decode b_Num_isHere 0 = .ok (.aload_n 0, 1) := by decide +kernel
theorem d_Num_isHere_1 : decode b_Num_isHere 1 = .ok (.invokevirtual 19, 3) := by decide +kernel
theorem d_Num_isHere_4 : decode b_Num_isHere 4 = .ok (.iload_n 1, 1) := by decide +kernel
theorem d_Num_isHere_5 : decode b_Num_isHere 5 = .ok (.if_icmp .eq 11, 3) := by decide +kernel
theorem d_Num_isHere_8 : decode b_Num_isHere 8 = .ok (.aload_n 0, 1) := by decide +kernel
theorem d_Num_isHere_9 : decode b_Num_isHere 9 = .ok (.invokevirtual 19, 3) := by decide +kernel
theorem d_Num_isHere_12 : decode b_Num_isHere 12 = .ok (.iload_n 2, 1) := by decide +kernel
theorem d_Num_isHere_13 : decode b_Num_isHere 13 = .ok (.if_icmp .ne 7, 3) := by decide +kernel
theorem d_Num_isHere_16 : decode b_Num_isHere 16 = .ok (.iconst 1, 1) := by decide +kernel
theorem d_Num_isHere_17 : decode b_Num_isHere 17 = .ok (.goto 4, 3) := by decide +kernel
theorem d_Num_isHere_20 : decode b_Num_isHere 20 = .ok (.iconst 0, 1) := by decide +kernel
theorem d_Num_isHere_21 : decode b_Num_isHere 21 = .ok (.ireturn, 1) := by decide +kernel
theorem d_Num_trim_0 : decode b_Num_trim 0 = .ok (.aload_n 0, 1) := by decide +kernel
theorem d_Num_trim_1 : decode b_Num_trim 1 = .ok (.iconst 0, 1) := by decide +kernel
theorem d_Num_trim_2 : decode b_Num_trim 2 = .ok (.putfield 27, 3) := by decide +kernel
theorem d_Num_trim_5 : decode b_Num_trim 5 = .ok (.aload_n 0, 1) := by decide +kernel
theorem d_Num_trim_6 : decode b_Num_trim 6 = .ok (.iload_n 1, 1) := by decide +kernel
theorem d_Num_trim_7 : decode b_Num_trim 7 = .ok (.aload_n 0, 1) := by decide +kernel
theorem d_Num_trim_8 : decode b_Num_trim 8 = .ok (.getfield 9, 3) := by decide +kernel
theorem d_Num_trim_11 : decode b_Num_trim 11 = .ok (.arraylength, 1) := by decide +kernel
theorem d_Num_trim_12 : decode b_Num_trim 12 = .ok (.invokestatic 46, 3) := by decide +kernel
theorem d_Num_trim_15 : decode b_Num_trim 15 = .ok (.putfield 52, 3) := by decide +kernel
theorem d_Num_trim_18 : decode b_Num_trim 18 = .ok (.aload_n 0, 1) := by decide +kernel
theorem d_Num_trim_19 : decode b_Num_trim 19 = .ok (.getfield 52, 3) := by decide +kernel
theorem d_Num_trim_22 : decode b_Num_trim 22 = .ok (.ifCond .le 32, 3) := by decide +kernel
theorem d_Num_trim_25 : decode b_Num_trim 25 = .ok (.aload_n 0, 1) := by decide +kernel
theorem d_Num_trim_26 : decode b_Num_trim 26 = .ok (.getfield 9, 3) := by decide +kernel
theorem d_Num_trim_29 : decode b_Num_trim 29 = .ok (.aload_n 0, 1) := by decide +kernel
theorem d_Num_trim_30 : decode b_Num_trim 30 = .ok (.getfield 52, 3) := by decide +kernel
theorem d_Num_trim_33 : decode b_Num_trim 33 = .ok (.iconst 1, 1) := by decide +kernel
theorem d_Num_trim_34 : decode b_Num_trim 34 = .ok (.isub, 1) := by decide +kernel
theorem d_Num_trim_35 : decode b_Num_trim 35 = .ok (.caload, 1) := by decide +kernel
theorem d_Num_trim_36 : decode b_Num_trim 36 = .ok (.bipush 32, 2) := by decide +kernel
theorem d_Num_trim_38 : decode b_Num_trim 38 = .ok (.if_icmp .gt 16, 3) := by decide +kernel
theorem d_Num_trim_41 : decode b_Num_trim 41 = .ok (.aload_n 0, 1) := by decide +kernel
theorem d_Num_trim_42 : decode b_Num_trim 42 = .ok (.dup, 1) := by decide +kernel
theorem d_Num_trim_43 : decode b_Num_trim 43 = .ok (.getfield 52, 3) := by decide +kernel
theorem d_Num_trim_46 : decode b_Num_trim 46 = .ok (.iconst 1, 1) := by decide +kernel
theorem d_Num_trim_47 : decode b_Num_trim 47 = .ok (.isub, 1) := by decide +kernel
theorem d_Num_trim_48 : decode b_Num_trim 48 = .ok (.putfield 52, 3) := by decide +kernel
theorem d_Num_trim_51 : decode b_Num_trim 51 = .ok (.goto (-33), 3) := by decide +kernel
theorem d_Num_trim_54 : decode b_Num_trim 54 = .ok (.aload_n 0, 1) := by decide +kernel
theorem d_Num_trim_55 : decode b_Num_trim 55 = .ok (.getfield 27, 3) := by decide +kernel
theorem d_Num_trim_58 : decode b_Num_trim 58 = .ok (.aload_n 0, 1) := by decide +kernel
theorem d_Num_trim_59 : decode b_Num_trim 59 = .ok (.getfield 52, 3) := by decide +kernel
theorem d_Num_trim_62 : decode b_Num_trim 62 = .ok (.if_icmp .ge 30, 3) := by decide +kernel
theorem d_Num_trim_65 : decode b_Num_trim 65 = .ok (.aload_n 0, 1) := by decide +kernel
theorem d_Num_trim_66 : decode b_Num_trim 66 = .ok (.getfield 9, 3) := by decide +kernel
theorem d_Num_trim_69 : decode b_Num_trim 69 = .ok (.aload_n 0, 1) := by decide +kernel
theorem d_Num_trim_70 : decode b_Num_trim 70 = .ok (.getfield 27, 3) := by decide +kernel
theorem d_Num_trim_73 : decode b_Num_trim 73 = .ok (.caload, 1) := by decide +kernel
theorem d_Num_trim_74 : decode b_Num_trim 74 = .ok (.bipush 32, 2) := by decide +kernel
theorem d_Num_trim_76 : decode b_Num_trim 76 = .ok (.if_icmp .gt 16, 3) := by decide +kernel
theorem d_Num_trim_79 : decode b_Num_trim 79 = .ok (.aload_n 0, 1) := by decide +kernel
theorem d_Num_trim_80 : decode b_Num_trim 80 = .ok (.dup, 1) := by decide +kernel
theorem d_Num_trim_81 : decode b_Num_trim 81 = .ok (.getfield 27, 3) := by decide +kernel
theorem d_Num_trim_84 : decode b_Num_trim 84 = .ok (.iconst 1, 1) := by decide +kernel
theorem d_Num_trim_85 : decode b_Num_trim 85 = .ok (.iadd, 1) := by decide +kernel
theorem d_Num_trim_86 : decode b_Num_trim 86 = .ok (.putfield 27, 3) := by decide +kernel
theorem d_Num_trim_89 : decode b_Num_trim 89 = .ok (.goto (-35), 3) := by decide +kernel
theorem d_Num_trim_92 : decode b_Num_trim 92 = .ok (.return_, 1) := by decide +kernel
theorem d_Num_skipDigits_0 : decode b_Num_skipDigits 0 = .ok (.aload_n 0, 1) := by decide +kernel
theorem d_Num_skipDigits_1 : decode b_Num_skipDigits 1 = .ok (.getfield 27, 3) := by decide +kernel
theorem d_Num_skipDigits_4 : decode b_Num_skipDigits 4 = .ok (.istore_n 2, 1) := by decide +kernel
theorem d_Num_skipDigits_5 : decode b_Num_skipDigits 5 = .ok (.aload_n 0, 1) := by decide +kernel
theorem d_Num_skipDigits_6 : decode b_Num_skipDigits 6 = .ok (.getfield 27, 3) := by decide +kernel
theorem d_Num_skipDigits_9 : decode b_Num_skipDigits 9 = .ok (.aload_n 0, 1) := by decide +kernel
theorem d_Num_skipDigits_10 : decode b_Num_skipDigits 10 = .ok (.getfield 52, 3) := by decide +kernel
theorem d_Num_skipDigits_13 : decode b_Num_skipDigits 13 = .ok (.if_icmp .ge 32, 3) := by decide +kernel
theorem d_Num_skipDigits_16 : decode b_Num_skipDigits 16 = .ok (.aload_n 0, 1) := by decide +kernel
theorem d_Num_skipDigits_17 : decode b_Num_skipDigits 17 = .ok (.getfield 9, 3) := by decide +kernel
theorem d_Num_skipDigits_20 : decode b_Num_skipDigits 20 = .ok (.aload_n 0, 1) := by decide +kernel
theorem d_Num_skipDigits_21 : decode b_Num_skipDigits 21 = .ok (.getfield 27, 3) := by decide +kernel
theorem d_Num_skipDigits_24 : decode b_Num_skipDigits 24 = .ok (.caload, 1) := by decide +kernel
theorem d_Num_skipDigits_25 : decode b_Num_skipDigits 25 = .ok (.invokestatic 89, 3) := by decide +kernel
theorem d_Num_skipDigits_28 : decode b_Num_skipDigits 28 = .ok (.iload_n 1, 1) := by decide +kernel
theorem d_Num_skipDigits_29 : decode b_Num_skipDigits 29 = .ok (.if_icmp .ge 16, 3) := by decide +kernel
theorem d_Num_skipDigits_32 : decode b_Num_skipDigits 32 = .ok (.aload_n 0, 1) := by decide +kernel
theorem d_Num_skipDigits_33 : decode b_Num_skipDigits 33 = .ok (.dup, 1) := by decide +kernel
theorem d_Num_skipDigits_34 : decode b_Num_skipDigits 34 = .ok (.getfield 27, 3) := by decide +kernel
theorem d_Num_skipDigits_37 : decode b_Num_skipDigits 37 = .ok (.iconst 1, 1) := by decide +kernel
theorem d_Num_skipDigits_38 : decode b_Num_skipDigits 38 = .ok (.iadd, 1) := by decide +kernel
theorem d_Num_skipDigits_39 : decode b_Num_skipDigits 39 = .ok (.putfield 27, 3) := by decide +kernel
theorem d_Num_skipDigits_42 : decode b_Num_skipDigits 42 = .ok (.goto (-37), 3) := by decide +kernel
theorem d_Num_skipDigits_45 : decode b_Num_skipDigits 45 = .ok (.aload_n 0, 1) := by decide +kernel
theorem d_Num_skipDigits_46 : decode b_Num_skipDigits 46 = .ok (.getfield 27, 3) := by decide +kernel
theorem d_Num_skipDigits_49 : decode b_Num_skipDigits 49 = .ok (.iload_n 2, 1) := by decide +kernel
theorem d_Num_skipDigits_50 : decode b_Num_skipDigits 50 = .ok (.isub, 1) := by decide +kernel
theorem d_Num_skipDigits_51 : decode b_Num_skipDigits 51 = .ok (.ireturn, 1) := by decide +kernel
theorem d_Num_skipPrefix_0 : decode b_Num_skipPrefix 0 = .ok (.aload_n 0, 1) := by decide +kernel
theorem d_Num_skipPrefix_1 : decode b_Num_skipPrefix 1 = .ok (.getfield 52, 3) := by decide +kernel
theorem d_Num_skipPrefix_4 : decode b_Num_skipPrefix 4 = .ok (.aload_n 0, 1) := by decide +kernel
theorem d_Num_skipPrefix_5 : decode b_Num_skipPrefix 5 = .ok (.getfield 27, 3) := by decide +kernel
theorem d_Num_skipPrefix_8 : decode b_Num_skipPrefix 8 = .ok (.isub, 1) := by decide +kernel
theorem d_Num_skipPrefix_9 : decode b_Num_skipPrefix 9 = .ok (.iconst 2, 1) := by decide +kernel
theorem d_Num_skipPrefix_10 : decode b_Num_skipPrefix 10 = .ok (.if_icmp .lt 49, 3) := by decide +kernel
theorem d_Num_skipPrefix_13 : decode b_Num_skipPrefix 13 = .ok (.aload_n 0, 1) := by decide +kernel
theorem d_Num_skipPrefix_14 : decode b_Num_skipPrefix 14 = .ok (.getfield 9, 3) := by decide +kernel
theorem d_Num_skipPrefix_17 : decode b_Num_skipPrefix 17 = .ok (.aload_n 0, 1) := by decide +kernel
theorem d_Num_skipPrefix_18 : decode b_Num_skipPrefix 18 = .ok (.getfield 27, 3) := by decide +kernel
theorem d_Num_skipPrefix_21 : decode b_Num_skipPrefix 21 = .ok (.caload, 1) := by decide +kernel
theorem d_Num_skipPrefix_22 : decode b_Num_skipPrefix 22 = .ok (.bipush 48, 2) := by decide +kernel
theorem d_Num_skipPrefix_24 : decode b_Num_skipPrefix 24 = .ok (.if_icmp .ne 35, 3) := by decide +kernel
theorem d_Num_skipPrefix_27 : decode b_Num_skipPrefix 27 = .ok (.aload_n 0, 1) := by decide +kernel
theorem d_Num_skipPrefix_28 : decode b_Num_skipPrefix 28 = .ok (.getfield 9, 3) := by decide +kernel
theorem d_Num_skipPrefix_31 : decode b_Num_skipPrefix 31 = .ok (.aload_n 0, 1) := by decide +kernel
theorem d_Num_skipPrefix_32 : decode b_Num_skipPrefix 32 = .ok (.getfield 27, 3) := by decide +kernel
theorem d_Num_skipPrefix_35 : decode b_Num_skipPrefix 35 = .ok (.iconst 1, 1) := by decide +kernel
theorem d_Num_skipPrefix_36 : decode b_Num_skipPrefix 36 = .ok (.iadd, 1) := by decide +kernel
theorem d_Num_skipPrefix_37 : decode b_Num_skipPrefix 37 = .ok (.caload, 1) := by decide +kernel
theorem d_Num_skipPrefix_38 : decode b_Num_skipPrefix 38 = .ok (.bipush 120, 2) := by decide +kernel
theorem d_Num_skipPrefix_40 : decode b_Num_skipPrefix 40 = .ok (.if_icmp .eq 21, 3) := by decide +kernel
theorem d_Num_skipPrefix_43 : decode b_Num_skipPrefix 43 = .ok (.aload_n 0, 1) := by decide +kernel
theorem d_Num_skipPrefix_44 : decode b_Num_skipPrefix 44 = .ok (.getfield 9, 3) := by decide +kernel
theorem d_Num_skipPrefix_47 : decode b_Num_skipPrefix 47 = .ok (.aload_n 0, 1) := by decide +kernel
theorem d_Num_skipPrefix_48 : decode b_Num_skipPrefix 48 = .ok (.getfield 27, 3) := by decide +kernel
theorem d_Num_skipPrefix_51 : decode b_Num_skipPrefix 51 = .ok (.iconst 1, 1) := by decide +kernel
theorem d_Num_skipPrefix_52 : decode b_Num_skipPrefix 52 = .ok (.iadd, 1) := by decide +kernel
theorem d_Num_skipPrefix_53 : decode b_Num_skipPrefix 53 = .ok (.caload, 1) := by decide +kernel
theorem d_Num_skipPrefix_54 : decode b_Num_skipPrefix 54 = .ok (.bipush 88, 2) := by decide +kernel
theorem d_Num_skipPrefix_56 : decode b_Num_skipPrefix 56 = .ok (.if_icmp .eq 5, 3) := by decide +kernel
theorem d_Num_skipPrefix_59 : decode b_Num_skipPrefix 59 = .ok (.iconst 0, 1) := by decide +kernel
theorem d_Num_skipPrefix_60 : decode b_Num_skipPrefix 60 = .ok (.ireturn, 1) := by decide +kernel
theorem d_Num_skipPrefix_61 : decode b_Num_skipPrefix 61 = .ok (.aload_n 0, 1) := by decide +kernel
theorem d_Num_skipPrefix_62 : decode b_Num_skipPrefix 62 = .ok (.dup, 1) := by decide +kernel
theorem d_Num_skipPrefix_63 : decode b_Num_skipPrefix 63 = .ok (.getfield 27, 3) := by decide +kernel
theorem d_Num_skipPrefix_66 : decode b_Num_skipPrefix 66 = .ok (.iconst 2, 1) := by decide +kernel
theorem d_Num_skipPrefix_67 : decode b_Num_skipPrefix 67 = .ok (.iadd, 1) := by decide +kernel
theorem d_Num_skipPrefix_68 : decode b_Num_skipPrefix 68 = .ok (.putfield 27, 3) := by decide +kernel
theorem d_Num_skipPrefix_71 : decode b_Num_skipPrefix 71 = .ok (.iconst 1, 1) := by decide +kernel
theorem d_Num_skipPrefix_72 : decode b_Num_skipPrefix 72 = .ok (.ireturn, 1) := by decide +kernel
theorem d_Num_isRest_0 : decode b_Num_isRest 0 = .ok (.aload_n 0, 1) := by decide +kernel
theorem d_Num_isRest_1 : decode b_Num_isRest 1 = .ok (.getfield 52, 3) := by decide +kernel
theorem d_Num_isRest_4 : decode b_Num_isRest 4 = .ok (.aload_n 0, 1) := by decide +kernel
theorem d_Num_isRest_5 : decode b_Num_isRest 5 = .ok (.getfield 27, 3) := by decide +kernel
theorem d_Num_isRest_8 : decode b_Num_isRest 8 = .ok (.isub, 1) := by decide +kernel
theorem d_Num_isRest_9 : decode b_Num_isRest 9 = .ok (.aload_n 1, 1) := by decide +kernel
theorem d_Num_isRest_10 : decode b_Num_isRest 10 = .ok (.invokevirtual 55, 3) := by decide +kernel
theorem d_Num_isRest_13 : decode b_Num_isRest 13 = .ok (.if_icmp .eq 5, 3) := by decide +kernel
theorem d_Num_isRest_16 : decode b_Num_isRest 16 = .ok (.iconst 0, 1) := by decide +kernel
theorem d_Num_isRest_17 : decode b_Num_isRest 17 = .ok (.ireturn, 1) := by decide +kernel
theorem d_Num_isRest_18 : decode b_Num_isRest 18 = .ok (.iconst 0, 1) := by decide +kernel
theorem d_Num_isRest_19 : decode b_Num_isRest 19 = .ok (.istore_n 2, 1) := by decide +kernel
theorem d_Num_isRest_20 : decode b_Num_isRest 20 = .ok (.iload_n 2, 1) := by decide +kernel
theorem d_Num_isRest_21 : decode b_Num_isRest 21 = .ok (.aload_n 1, 1) := by decide +kernel
theorem d_Num_isRest_22 : decode b_Num_isRest 22 = .ok (.invokevirtual 55, 3) := by decide +kernel
theorem d_Num_isRest_25 : decode b_Num_isRest 25 = .ok (.if_icmp .ge 30, 3) := by decide +kernel
theorem d_Num_isRest_28 : decode b_Num_isRest 28 = .ok (.aload_n 0, 1) := by decide +kernel
theorem d_Num_isRest_29 : decode b_Num_isRest 29 = .ok (.getfield 9, 3) := by decide +kernel
theorem d_Num_isRest_32 : decode b_Num_isRest 32 = .ok (.aload_n 0, 1) := by decide +kernel
theorem d_Num_isRest_33 : decode b_Num_isRest 33 = .ok (.getfield 27, 3) := by decide +kernel
theorem d_Num_isRest_36 : decode b_Num_isRest 36 = .ok (.iload_n 2, 1) := by decide +kernel
theorem d_Num_isRest_37 : decode b_Num_isRest 37 = .ok (.iadd, 1) := by decide +kernel
theorem d_Num_isRest_38 : decode b_Num_isRest 38 = .ok (.caload, 1) := by decide +kernel
theorem d_Num_isRest_39 : decode b_Num_isRest 39 = .ok (.aload_n 1, 1) := by decide +kernel
theorem d_Num_isRest_40 : decode b_Num_isRest 40 = .ok (.iload_n 2, 1) := by decide +kernel
theorem d_Num_isRest_41 : decode b_Num_isRest 41 = .ok (.invokevirtual 61, 3) := by decide +kernel
theorem d_Num_isRest_44 : decode b_Num_isRest 44 = .ok (.if_icmp .eq 5, 3) := by decide +kernel
theorem d_Num_isRest_47 : decode b_Num_isRest 47 = .ok (.iconst 0, 1) := by decide +kernel
theorem d_Num_isRest_48 : decode b_Num_isRest 48 = .ok (.ireturn, 1) := by decide +kernel
theorem d_Num_isRest_49 : decode b_Num_isRest 49 = .ok (.iinc 2 1, 3) := by decide +kernel
theorem d_Num_isRest_52 : decode b_Num_isRest 52 = .ok (.goto (-32), 3) := by decide +kernel
theorem d_Num_isRest_55 : decode b_Num_isRest 55 = .ok (.iconst 1, 1) := by decide +kernel
theorem d_Num_isRest_56 : decode b_Num_isRest 56 = .ok (.ireturn, 1) := by decide +kernel
theorem d_Num_findDigits_0 : decode b_Num_findDigits 0 = .ok (.aload_n 0, 1) := by decide +kernel
theorem d_Num_findDigits_1 : decode b_Num_findDigits 1 = .ok (.aload_n 0, 1) := by decide +kernel
theorem d_Num_findDigits_2 : decode b_Num_findDigits 2 = .ok (.getfield 27, 3) := by decide +kernel
theorem d_Num_findDigits_5 : decode b_Num_findDigits 5 = .ok (.putfield 79, 3) := by decide +kernel
theorem d_Num_findDigits_8 : decode b_Num_findDigits 8 = .ok (.aload_n 0, 1) := by decide +kernel
theorem d_Num_findDigits_9 : decode b_Num_findDigits 9 = .ok (.iload_n 1, 1) := by decide +kernel
theorem d_Num_findDigits_10 : decode b_Num_findDigits 10 = .ok (.invokevirtual 82, 3) := by decide +kernel
theorem d_Num_findDigits_13 : decode b_Num_findDigits 13 = .ok (.istore_n 2, 1) := by decide +kernel
theorem d_Num_findDigits_14 : decode b_Num_findDigits 14 = .ok (.aload_n 0, 1) := by decide +kernel
theorem d_Num_findDigits_15 : decode b_Num_findDigits 15 = .ok (.invokevirtual 19, 3) := by decide +kernel
theorem d_Num_findDigits_18 : decode b_Num_findDigits 18 = .ok (.bipush 46, 2) := by decide +kernel
theorem d_Num_findDigits_20 : decode b_Num_findDigits 20 = .ok (.if_icmp .ne 21, 3) := by decide +kernel
theorem d_Num_findDigits_23 : decode b_Num_findDigits 23 = .ok (.aload_n 0, 1) := by decide +kernel
theorem d_Num_findDigits_24 : decode b_Num_findDigits 24 = .ok (.dup, 1) := by decide +kernel
theorem d_Num_findDigits_25 : decode b_Num_findDigits 25 = .ok (.getfield 27, 3) := by decide +kernel
theorem d_Num_findDigits_28 : decode b_Num_findDigits 28 = .ok (.iconst 1, 1) := by decide +kernel
theorem d_Num_findDigits_29 : decode b_Num_findDigits 29 = .ok (.iadd, 1) := by decide +kernel
theorem d_Num_findDigits_30 : decode b_Num_findDigits 30 = .ok (.putfield 27, 3) := by decide +kernel
theorem d_Num_findDigits_33 : decode b_Num_findDigits 33 = .ok (.iload_n 2, 1) := by decide +kernel
theorem d_Num_findDigits_34 : decode b_Num_findDigits 34 = .ok (.aload_n 0, 1) := by decide +kernel
theorem d_Num_findDigits_35 : decode b_Num_findDigits 35 = .ok (.iload_n 1, 1) := by decide +kernel
theorem d_Num_findDigits_36 : decode b_Num_findDigits 36 = .ok (.invokevirtual 82, 3) := by decide +kernel
theorem d_Num_findDigits_39 : decode b_Num_findDigits 39 = .ok (.iadd, 1) := by decide +kernel
theorem d_Num_findDigits_40 : decode b_Num_findDigits 40 = .ok (.istore_n 2, 1) := by decide +kernel
theorem d_Num_findDigits_41 : decode b_Num_findDigits 41 = .ok (.aload_n 0, 1) := by decide +kernel
theorem d_Num_findDigits_42 : decode b_Num_findDigits 42 = .ok (.aload_n 0, 1) := by decide +kernel
theorem d_Num_findDigits_43 : decode b_Num_findDigits 43 = .ok (.getfield 27, 3) := by decide +kernel
theorem d_Num_findDigits_46 : decode b_Num_findDigits 46 = .ok (.putfield 86, 3) := by decide +kernel
theorem d_Num_findDigits_49 : decode b_Num_findDigits 49 = .ok (.iload_n 2, 1) := by decide +kernel
theorem d_Num_findDigits_50 : decode b_Num_findDigits 50 = .ok (.ifCond .le 7, 3) := by decide +kernel
theorem d_Num_findDigits_53 : decode b_Num_findDigits 53 = .ok (.iconst 1, 1) := by decide +kernel
theorem d_Num_findDigits_54 : decode b_Num_findDigits 54 = .ok (.goto 4, 3) := by decide +kernel
theorem d_Num_findDigits_57 : decode b_Num_findDigits 57 = .ok (.iconst 0, 1) := by decide +kernel
theorem d_Num_findDigits_58 : decode b_Num_findDigits 58 = .ok (.ireturn, 1) := by decide +kernel
set_option maxHeartbeats 4000000 in
set_option maxRecDepth 100000 in
theorem c_Num_here (l : Launch) (D : va_G) (E : evD) (nm x : Nat) (cC : ClassId) (T : Nat → Nat) (hT : ∀ j, T j < 256) (mi fo fr to po : Int32) (a e : Nat) (hae : a ≤ e) (he : e ≤ 2400) : Ci (S := Unit) l y_Num_here (wz y_Num_here b_Num_here 1 (some .char)) ({ frames := 0, cells := 0, slots := 0, locals := 0 }) D vcl (ev1 E) [.ref nm] [(cC, .char)] [(nm, .inr (3, [.ref x, .int (nI a), .int (nI e), .int mi, .int fo, .int fr, .int to, .int po])), (x, .inl (cC, 2400, .inl (tx T)))] 0 0 (fun (r : Int32) (_ : Unit) => r = nI (lk T e a)) (fun _ => [(cC, .char)]) (fun _ : Unit => [(nm, .inr (3, [.ref x, .int (nI a), .int (nI e), .int mi, .int fo, .int fr, .int to, .int po])), (x, .inl (cC, 2400, .inl (tx T)))]) := by
  have hev := ev1_ok E
  unfold Ci
  refine ct_of (y := y_Num_here) (av := [.ref nm]) (cc := b_Num_here) (maxL := 1) (ret := (some .char)) (Qc := fun A => va_Qi (S := Unit) (fun (r : Int32) (_ : Unit) => r = nI (lk T e a)) (fun u tS => ctB D vcl ((fun _ => [(cC, .char)]) u) ((fun _ : Unit => [(nm, .inr (3, [.ref x, .int (nI a), .int (nI e), .int mi, .int fo, .int fr, .int to, .int po])), (x, .inl (cC, 2400, .inl (tx T)))]) u) A tS) A) (by decide) rfl (Nat.le_of_ble_eq_true rfl) ?_
  intro p ee s m below meth cde ls A H locs hx hb hml hrt hlocks hown hin hts hA hP hK hD hS hE hl
  have hown : s.vm.findClass R_Num = some m.cls := hown
  have hts := wz_g hts
  have hl : lv_has ls 1 [(0, .ref nm)] := hl
  refine lv_aload_n hx hb d_Num_here_0 rfl (lv_at hl 0 rfl) ?_
  refine va_get (D := D) (ci := 3) (v := .int (nI a)) (C := R_Num) (T := F_Num) (N := 8) hx hb hts w_Num hown hK hP 0 rfl rfl 1 (by decide) (hts _ kF_Num_27) (fun _ h9 => h9) rfl d_Num_here_1 ?_
  refine lv_aload_n hx hb d_Num_here_4 rfl (lv_at hl 0 rfl) ?_
  refine va_get (D := D) (ci := 3) (v := .int (nI e)) (C := R_Num) (T := F_Num) (N := 8) hx hb hts w_Num hown hK hP 0 rfl rfl 2 (by decide) (hts _ kF_Num_52) (fun _ h9 => h9) rfl d_Num_here_5 ?_
  refine lv_icmp_ge (tgt := 23) hx hb d_Num_here_8 (by decide) (fun c8 => ?_) (fun c8 => ?_)
  · have e8 : e ≤ a := (nI_leI (by omega) (by omega)).mp c8
    refine lv_iconst (v := 0) hx hb d_Num_here_23 (by decide) ?_
    refine tv_i (nI 0) (rfl) ?_
    exact rt_i hx hb hrt hlocks ((pk_charN (by decide)).1) (()) (by rw [lk_out (by omega)]) (hP.sub [0, 1] rfl) (hK.sub [0] rfl) (hD.sub [0, 1] (by decide) rfl) hS d_Num_here_24
  · have e8 : a < e := Nat.lt_of_not_le (fun z => c8 ((nI_leI (by omega) (by omega)).mpr z))
    refine lv_aload_n hx hb d_Num_here_11 rfl (lv_at hl 0 rfl) ?_
    refine va_get (D := D) (ci := 3) (v := .ref x) (C := R_Num) (T := F_Num) (N := 8) hx hb hts w_Num hown hK hP 0 rfl rfl 0 (by decide) (hts _ kF_Num_9) (fun _ h9 => h9) rfl d_Num_here_12 ?_
    refine lv_aload_n hx hb d_Num_here_15 rfl (lv_at hl 0 rfl) ?_
    refine va_get (D := D) (ci := 3) (v := .int (nI a)) (C := R_Num) (T := F_Num) (N := 8) hx hb hts w_Num hown hK hP 0 rfl rfl 1 (by decide) (hts _ kF_Num_27) (fun _ h9 => h9) rfl d_Num_here_16 ?_
    refine va_cald hx hb hK hP 1 0 rfl rfl (i := nI a) (vp_in_nI (show a < 2400 by omega) (by decide)) d_Num_here_19 ?_
    refine tv_i (nI (T (a))) (by rw [nI_clamp (by omega)]; rfl) ?_
    refine lv_goto (tgt := 24) hx hb d_Num_here_20 (by decide) ?_
    exact rt_i hx hb hrt hlocks ((pk_charN (by have := hT a; omega)).1) (()) (by rw [lk_in e8]) (hP.sub [0, 1] rfl) (hK.sub [0] rfl) (hD.sub [0, 1] (by decide) rfl) hS d_Num_here_24

set_option maxHeartbeats 4000000 in
set_option maxRecDepth 100000 in
theorem c_Num_isHere (l : Launch) (D : va_G) (E : evD) (nm x : Nat) (cC : ClassId) (T : Nat → Nat) (hT : ∀ j, T j < 256) (mi fo fr to po : Int32) (a e : Nat) (hae : a ≤ e) (he : e ≤ 2400) (k1 k2 : Nat) (hk1 : k1 < 256) (hk2 : k2 < 256) : Ci (S := Unit) l y_Num_isHere (wz y_Num_isHere b_Num_isHere 3 (some .boolean)) ({ frames := 1, cells := 0, slots := 0, locals := 20 }) D vcl (ev1 E) [.ref nm, .int (nI k1), .int (nI k2)] [(cC, .char)] [(nm, .inr (3, [.ref x, .int (nI a), .int (nI e), .int mi, .int fo, .int fr, .int to, .int po])), (x, .inl (cC, 2400, .inl (tx T)))] 0 0 (fun (r : Int32) (_ : Unit) => r = bI (decide (lk T e a = k1 ∨ lk T e a = k2))) (fun _ => [(cC, .char)]) (fun _ : Unit => [(nm, .inr (3, [.ref x, .int (nI a), .int (nI e), .int mi, .int fo, .int fr, .int to, .int po])), (x, .inl (cC, 2400, .inl (tx T)))]) := by
  have hev := ev1_ok E
  unfold Ci
  refine ct_of (y := y_Num_isHere) (av := [.ref nm, .int (nI k1), .int (nI k2)]) (cc := b_Num_isHere) (maxL := 3) (ret := (some .boolean)) (Qc := fun A => va_Qi (S := Unit) (fun (r : Int32) (_ : Unit) => r = bI (decide (lk T e a = k1 ∨ lk T e a = k2))) (fun u tS => ctB D vcl ((fun _ => [(cC, .char)]) u) ((fun _ : Unit => [(nm, .inr (3, [.ref x, .int (nI a), .int (nI e), .int mi, .int fo, .int fr, .int to, .int po])), (x, .inl (cC, 2400, .inl (tx T)))]) u) A tS) A) (by decide) rfl (Nat.le_of_ble_eq_true rfl) ?_
  intro p ee s m below meth cde ls A H locs hx hb hml hrt hlocks hown hin hts hA hP hK hD hS hE hl
  have hown : s.vm.findClass R_Num = some m.cls := hown
  have hts := wz_g hts
  have hl : lv_has ls 3 [(0, .ref nm), (1, .int (nI k1)), (2, .int (nI k2))] := hl
  have hlb := lk_b hT e a
  refine lv_aload_n hx hb d_Num_isHere_0 rfl (lv_at hl 0 rfl) ?_
  refine ca_i [] (va_runV (As := []) (rest := []) ⟨hx, hb, hml, hown, hts⟩ (c_Num_here l D E nm x cC T hT mi fo fr to po a e (hae) (he) H.size) (xV 0 hts kC_Num_here kM_Num_19 kI_Num_here kS_Num_here kN_Num rfl rfl (by decide +kernel) ⟨Nat.le_of_ble_eq_true rfl, Nat.le_of_ble_eq_true rfl⟩) ⟨ct_blind hev, va_recv hK hP (ci := 3) (q0 := 0) rfl rfl, ct_pre hev hP hK hD hS hA hE [0, 1] rfl (by decide) [0] rfl⟩ rfl rfl hl.1 rfl (lv_room (Nat.le_of_ble_eq_true rfl)) d_Num_isHere_1 ⟨Nat.le_of_ble_eq_true rfl, Nat.le_of_ble_eq_true rfl⟩) hP hD hS hA [0, 1] [] rfl rfl (by decide) (by decide) (fun rv u H locs hw hP hD hS hK1 => ?_)
  subst hw
  have hP : va_P D vcl [(nm, .inr (3, [.ref x, .int (nI a), .int (nI e), .int mi, .int fo, .int fr, .int to, .int po])), (x, .inl (cC, 2400, .inl (tx T)))] H := hP
  have hD : va_D A [(nm, .inr (3, [.ref x, .int (nI a), .int (nI e), .int mi, .int fo, .int fr, .int to, .int po])), (x, .inl (cC, 2400, .inl (tx T)))] := hD
  refine lv_iload_n hx hb d_Num_isHere_4 rfl (lv_at hl 1 rfl) ?_
  refine lv_icmp_eq (tgt := 16) hx hb d_Num_isHere_5 (by decide) (fun c5 => ?_) (fun c5 => ?_)
  · have e5 : lk T e a = k1 := (nI_eq (by omega) (by omega)).mp c5
    refine lv_iconst (v := 1) hx hb d_Num_isHere_16 (by decide) ?_
    refine lv_goto (tgt := 21) hx hb d_Num_isHere_17 (by decide) ?_
    exact rt_i hx hb hrt hlocks (rfl) (()) (by rw [decide_eq_true (Or.inl e5)]; rfl) (hP.sub [0, 1] rfl) (hK.sub [0] rfl) (hD.sub [0, 1] (by decide) rfl) hS d_Num_isHere_21
  · have e5 : ¬ lk T e a = k1 := fun z => c5 (by rw [z])
    refine lv_aload_n hx hb d_Num_isHere_8 rfl (lv_at hl 0 rfl) ?_
    refine ca_i [] (va_runV (As := []) (rest := []) ⟨hx, hb, hml, hown, hts⟩ (c_Num_here l D E nm x cC T hT mi fo fr to po a e (hae) (he) H.size) (xV 0 hts kC_Num_here kM_Num_19 kI_Num_here kS_Num_here kN_Num rfl rfl (by decide +kernel) ⟨Nat.le_of_ble_eq_true rfl, Nat.le_of_ble_eq_true rfl⟩) ⟨ct_blind hev, va_recv hK hP (ci := 3) (q0 := 0) rfl rfl, ct_pre hev hP hK hD hS hA hE [0, 1] rfl (by decide) [0] rfl⟩ rfl rfl hl.1 rfl (lv_room (Nat.le_of_ble_eq_true rfl)) d_Num_isHere_9 ⟨Nat.le_of_ble_eq_true rfl, Nat.le_of_ble_eq_true rfl⟩) hP hD hS hA [0, 1] [] rfl rfl (by decide) (by decide) (fun rv u H locs hw hP hD hS hK1 => ?_)
    subst hw
    have hP : va_P D vcl [(nm, .inr (3, [.ref x, .int (nI a), .int (nI e), .int mi, .int fo, .int fr, .int to, .int po])), (x, .inl (cC, 2400, .inl (tx T)))] H := hP
    have hD : va_D A [(nm, .inr (3, [.ref x, .int (nI a), .int (nI e), .int mi, .int fo, .int fr, .int to, .int po])), (x, .inl (cC, 2400, .inl (tx T)))] := hD
    refine lv_iload_n hx hb d_Num_isHere_12 rfl (lv_at hl 2 rfl) ?_
    refine lv_icmp_ne (tgt := 20) hx hb d_Num_isHere_13 (by decide) (fun c13 => ?_) (fun c13 => ?_)
    · have e13 : ¬ lk T e a = k2 := fun z => c13 (by rw [z])
      refine lv_iconst (v := 0) hx hb d_Num_isHere_20 (by decide) ?_
      exact rt_i hx hb hrt hlocks (rfl) (()) (by rw [decide_eq_false (fun z => z.elim e5 e13)]; rfl) (hP.sub [0, 1] rfl) (hK.sub [0] rfl) (hD.sub [0, 1] (by decide) rfl) hS d_Num_isHere_21
    · have e13 : lk T e a = k2 := (nI_eq (by omega) (by omega)).mp c13
      refine lv_iconst (v := 1) hx hb d_Num_isHere_16 (by decide) ?_
      refine lv_goto (tgt := 21) hx hb d_Num_isHere_17 (by decide) ?_
      exact rt_i hx hb hrt hlocks (rfl) (()) (by rw [decide_eq_true (Or.inr e13)]; rfl) (hP.sub [0, 1] rfl) (hK.sub [0] rfl) (hD.sub [0, 1] (by decide) rfl) hS d_Num_isHere_21

set_option maxHeartbeats 4000000 in
set_option maxRecDepth 100000 in
theorem c_Num_trim (l : Launch) (D : va_G) (E : evD) (nm x : Nat) (cC : ClassId) (T : Nat → Nat) (hT : ∀ j, T j < 256) (mi fo fr to po : Int32) (v1 v2 : Int32) (n : Nat) (hn : n ≤ 2400) : Cv (S := Unit) l y_Num_trim (wz y_Num_trim b_Num_trim 2 none) ({ frames := 1, cells := 0, slots := 0, locals := 21 }) D vcl (ev1 E) [.ref nm, .int (nI n)] [(cC, .char)] [(nm, .inr (3, [.ref x, .int v1, .int v2, .int mi, .int fo, .int fr, .int to, .int po])), (x, .inl (cC, 2400, .inl (tx T)))] 0 0 (fun _ : Unit => True) (fun _ => [(cC, .char)]) (fun _ : Unit => [(nm, .inr (3, [.ref x, .int (nI (bk T (tE T n) 0)), .int (nI (tE T n)), .int mi, .int fo, .int fr, .int to, .int po])), (x, .inl (cC, 2400, .inl (tx T)))]) := by
  have hev := ev1_ok E
  unfold Cv
  refine ct_of (y := y_Num_trim) (av := [.ref nm, .int (nI n)]) (cc := b_Num_trim) (maxL := 2) (ret := none) (Qc := fun A => va_Qv (S := Unit) (fun _ : Unit => True) (fun u tS => ctB D vcl ((fun _ => [(cC, .char)]) u) ((fun _ : Unit => [(nm, .inr (3, [.ref x, .int (nI (bk T (tE T n) 0)), .int (nI (tE T n)), .int mi, .int fo, .int fr, .int to, .int po])), (x, .inl (cC, 2400, .inl (tx T)))]) u) A tS) A) (by decide) rfl (Nat.le_of_ble_eq_true rfl) ?_
  intro p ee s m below meth cde ls A H locs hx hb hml hrt hlocks hown hin hts hA hP hK hD hS hE hl
  have hown : s.vm.findClass R_Num = some m.cls := hown
  have hts := wz_g hts
  have hl : lv_has ls 2 [(0, .ref nm), (1, .int (nI n))] := hl
  refine lv_aload_n hx hb d_Num_trim_0 rfl (lv_at hl 0 rfl) ?_
  refine lv_iconst (v := 0) hx hb d_Num_trim_1 (by decide) ?_
  refine tv_i (nI 0) (rfl) ?_
  refine va_put (D := D) (ci := 3) (v := .int (nI 0)) (ty := .int) (C := R_Num) (T := F_Num) (N := 8) hx hb hts w_Num t_Num tk_Num n_Num hown hK hP hD hS 0 rfl rfl 1 (by decide) (hts _ kF_Num_27) (fun _ h9 => h9) rfl (by decide +kernel) (rfl) (rfl) (Nat.le_of_ble_eq_true rfl) d_Num_trim_2 (fun H locs hP hD hS => ?_)
  have hP : va_P D vcl [(nm, .inr (3, [.ref x, .int (nI 0), .int v2, .int mi, .int fo, .int fr, .int to, .int po])), (x, .inl (cC, 2400, .inl (tx T)))] H := hP
  have hD : va_D A [(nm, .inr (3, [.ref x, .int (nI 0), .int v2, .int mi, .int fo, .int fr, .int to, .int po])), (x, .inl (cC, 2400, .inl (tx T)))] := hD
  refine lv_aload_n hx hb d_Num_trim_5 rfl (lv_at hl 0 rfl) ?_
  refine lv_iload_n hx hb d_Num_trim_6 rfl (lv_at hl 1 rfl) ?_
  refine lv_aload_n hx hb d_Num_trim_7 rfl (lv_at hl 0 rfl) ?_
  refine va_get (D := D) (ci := 3) (v := .ref x) (C := R_Num) (T := F_Num) (N := 8) hx hb hts w_Num hown hK hP 0 rfl rfl 0 (by decide) (hts _ kF_Num_9) (fun _ h9 => h9) rfl d_Num_trim_8 ?_
  refine va_alen hx hb hK hP 1 0 rfl rfl (v := 2400) rfl d_Num_trim_11 ?_
  refine va_mmin hx hb (by rw [hml]; exact hl.1.symm) hown (hts _ kM_Num_46) (hts _ kT_mmin) (hts _ kN_Math) (hts _ kC_mmin) (Nat.le_of_ble_eq_true rfl) (Nat.le_of_ble_eq_true rfl) (Nat.le_of_ble_eq_true rfl) (Nat.le_of_ble_eq_true rfl) d_Num_trim_12 ?_
  refine tv_i (nI n) (if_neg (fun z => absurd ((nI_ltI (a := 2400) (by decide) (by omega)).mp z) (by omega))) ?_
  refine va_put (D := D) (ci := 3) (v := .int (nI n)) (ty := .int) (C := R_Num) (T := F_Num) (N := 8) hx hb hts w_Num t_Num tk_Num n_Num hown hK hP hD hS 0 rfl rfl 2 (by decide) (hts _ kF_Num_52) (fun _ h9 => h9) rfl (by decide +kernel) (rfl) (rfl) (Nat.le_of_ble_eq_true rfl) d_Num_trim_15 (fun H locs hP hD hS => ?_)
  have hP : va_P D vcl [(nm, .inr (3, [.ref x, .int (nI 0), .int (nI n), .int mi, .int fo, .int fr, .int to, .int po])), (x, .inl (cC, 2400, .inl (tx T)))] H := hP
  have hD : va_D A [(nm, .inr (3, [.ref x, .int (nI 0), .int (nI n), .int mi, .int fo, .int fr, .int to, .int po])), (x, .inl (cC, 2400, .inl (tx T)))] := hD
  have L54 : ∀ (kk : Nat) (k : Nat) (e : Nat), e - k < kk → (k ≤ e) → (e = tE T n) → (bk T e k = bk T e 0) → ∀ (H : Heap) (locs : List Loc) (ls : Array Slot), va_P D vcl [(nm, .inr (3, [.ref x, .int (nI k), .int (nI e), .int mi, .int fo, .int fr, .int to, .int po])), (x, .inl (cC, 2400, .inl (tx T)))] H → va_D A [(nm, .inr (3, [.ref x, .int (nI k), .int (nI e), .int mi, .int fo, .int fr, .int to, .int po])), (x, .inl (cC, 2400, .inl (tx T)))] → va_S A s.heap H locs → lv_has ls 2 [(0, .ref nm)] → W p l ee ({ frames := 1, cells := 0, slots := 0, locals := 21 }) s m ([.ref nm, .int (nI n)] : List Value).toArray below meth cde H locs 0 0 (MQ below (va_Qv (S := Unit) (fun _ : Unit => True) (fun u tS => ctB D vcl ((fun _ => [(cC, .char)]) u) ((fun _ : Unit => [(nm, .inr (3, [.ref x, .int (nI (bk T (tE T n) 0)), .int (nI (tE T n)), .int mi, .int fo, .int fr, .int to, .int po])), (x, .inl (cC, 2400, .inl (tx T)))]) u) A tS) A) ([.ref nm, .int (nI n)] : List Value).toArray s 0 0 A) (F0 m 54 ls []) := by
    intro kk
    induction kk with
    | zero => intro k e hmz; exact absurd hmz (Nat.not_lt_zero _)
    | succ kk ih =>
      intro k e hmz hke he hv H locs ls hP hD hS hl
      have he24 : e ≤ 2400 := by have := tE_le T n; omega
      refine lv_aload_n hx hb d_Num_trim_54 rfl (lv_at hl 0 rfl) ?_
      refine va_get (D := D) (ci := 3) (v := .int (nI k)) (C := R_Num) (T := F_Num) (N := 8) hx hb hts w_Num hown hK hP 0 rfl rfl 1 (by decide) (hts _ kF_Num_27) (fun _ h9 => h9) rfl d_Num_trim_55 ?_
      refine lv_aload_n hx hb d_Num_trim_58 rfl (lv_at hl 0 rfl) ?_
      refine va_get (D := D) (ci := 3) (v := .int (nI e)) (C := R_Num) (T := F_Num) (N := 8) hx hb hts w_Num hown hK hP 0 rfl rfl 2 (by decide) (hts _ kF_Num_52) (fun _ h9 => h9) rfl d_Num_trim_59 ?_
      refine lv_icmp_ge (tgt := 92) hx hb d_Num_trim_62 (by decide) (fun c62 => ?_) (fun c62 => ?_)
      · have e62 : e ≤ k := (nI_leI (by omega) (by omega)).mp c62
        have hkb : k = bk T (tE T n) 0 := by rw [← he, ← hv]; exact (bk_f (fun z => absurd z.1 (by omega))).symm
        rw [hkb, he] at hP hD
        exact rt_v hx hb hrt hlocks (()) (trivial) (hP.sub [0, 1] rfl) (hK.sub [0] rfl) (hD.sub [0, 1] (by decide) rfl) hS d_Num_trim_92
      · have e62 : k < e := Nat.lt_of_not_le (fun z => c62 ((nI_leI (by omega) (by omega)).mpr z))
        refine lv_aload_n hx hb d_Num_trim_65 rfl (lv_at hl 0 rfl) ?_
        refine va_get (D := D) (ci := 3) (v := .ref x) (C := R_Num) (T := F_Num) (N := 8) hx hb hts w_Num hown hK hP 0 rfl rfl 0 (by decide) (hts _ kF_Num_9) (fun _ h9 => h9) rfl d_Num_trim_66 ?_
        refine lv_aload_n hx hb d_Num_trim_69 rfl (lv_at hl 0 rfl) ?_
        refine va_get (D := D) (ci := 3) (v := .int (nI k)) (C := R_Num) (T := F_Num) (N := 8) hx hb hts w_Num hown hK hP 0 rfl rfl 1 (by decide) (hts _ kF_Num_27) (fun _ h9 => h9) rfl d_Num_trim_70 ?_
        refine va_cald hx hb hK hP 1 0 rfl rfl (i := nI k) (vp_in_nI (show k < 2400 by omega) (by decide)) d_Num_trim_73 ?_
        refine tv_i (nI (T (k))) (by rw [nI_clamp (by omega)]; rfl) ?_
        refine lv_bipush (v := 32) hx hb d_Num_trim_74 (by decide) ?_
        refine lv_icmp_gt (tgt := 92) hx hb d_Num_trim_76 (by decide) (fun c76 => ?_) (fun c76 => ?_)
        · have e76 : ¬ T k ≤ 32 := Nat.not_le.mpr ((nI_ltI (a := 32) (by decide) (by have := hT k; omega)).mp c76)
          have hkb : k = bk T (tE T n) 0 := by rw [← he, ← hv]; exact (bk_f (fun z => e76 z.2)).symm
          rw [hkb, he] at hP hD
          exact rt_v hx hb hrt hlocks (()) (trivial) (hP.sub [0, 1] rfl) (hK.sub [0] rfl) (hD.sub [0, 1] (by decide) rfl) hS d_Num_trim_92
        · have e76 : T k ≤ 32 := Nat.le_of_not_lt (fun z => c76 ((nI_ltI (a := 32) (by decide) (by have := hT k; omega)).mpr z))
          refine lv_aload_n hx hb d_Num_trim_79 rfl (lv_at hl 0 rfl) ?_
          refine lv_dup hx hb d_Num_trim_80 rfl ?_
          refine va_get (D := D) (ci := 3) (v := .int (nI k)) (C := R_Num) (T := F_Num) (N := 8) hx hb hts w_Num hown hK hP 0 rfl rfl 1 (by decide) (hts _ kF_Num_27) (fun _ h9 => h9) rfl d_Num_trim_81 ?_
          refine lv_iconst (v := 1) hx hb d_Num_trim_84 (by decide) ?_
          refine lv_iadd hx hb d_Num_trim_85 ?_
          refine tv_i (nI (k + 1)) (nI_1 k) ?_
          refine va_put (D := D) (ci := 3) (v := .int (nI (k + 1))) (ty := .int) (C := R_Num) (T := F_Num) (N := 8) hx hb hts w_Num t_Num tk_Num n_Num hown hK hP hD hS 0 rfl rfl 1 (by decide) (hts _ kF_Num_27) (fun _ h9 => h9) rfl (by decide +kernel) (rfl) (rfl) (Nat.le_of_ble_eq_true rfl) d_Num_trim_86 (fun H locs hP hD hS => ?_)
          have hP : va_P D vcl [(nm, .inr (3, [.ref x, .int (nI (k + 1)), .int (nI e), .int mi, .int fo, .int fr, .int to, .int po])), (x, .inl (cC, 2400, .inl (tx T)))] H := hP
          have hD : va_D A [(nm, .inr (3, [.ref x, .int (nI (k + 1)), .int (nI e), .int mi, .int fo, .int fr, .int to, .int po])), (x, .inl (cC, 2400, .inl (tx T)))] := hD
          refine lv_goto (tgt := 54) hx hb d_Num_trim_89 (by decide) ?_
          exact ih (k + 1) e (by omega) (by omega) (he) (by rw [← bk_t e62 e76]; exact hv) _ _ _ (hP.sub [0, 1] rfl) (hD.sub [0, 1] (by decide) rfl) hS (lv_sub hl [0] rfl)
  have L18 : ∀ (kk : Nat) (q : Nat), q < kk → (q ≤ n) → (tE T q = tE T n) → ∀ (H : Heap) (locs : List Loc) (ls : Array Slot), va_P D vcl [(nm, .inr (3, [.ref x, .int (nI 0), .int (nI q), .int mi, .int fo, .int fr, .int to, .int po])), (x, .inl (cC, 2400, .inl (tx T)))] H → va_D A [(nm, .inr (3, [.ref x, .int (nI 0), .int (nI q), .int mi, .int fo, .int fr, .int to, .int po])), (x, .inl (cC, 2400, .inl (tx T)))] → va_S A s.heap H locs → lv_has ls 2 [(0, .ref nm)] → W p l ee ({ frames := 1, cells := 0, slots := 0, locals := 21 }) s m ([.ref nm, .int (nI n)] : List Value).toArray below meth cde H locs 0 0 (MQ below (va_Qv (S := Unit) (fun _ : Unit => True) (fun u tS => ctB D vcl ((fun _ => [(cC, .char)]) u) ((fun _ : Unit => [(nm, .inr (3, [.ref x, .int (nI (bk T (tE T n) 0)), .int (nI (tE T n)), .int mi, .int fo, .int fr, .int to, .int po])), (x, .inl (cC, 2400, .inl (tx T)))]) u) A tS) A) ([.ref nm, .int (nI n)] : List Value).toArray s 0 0 A) (F0 m 18 ls []) := by
    intro kk
    induction kk with
    | zero => intro q hmz; exact absurd hmz (Nat.not_lt_zero _)
    | succ kk ih =>
      intro q hmz hq hv H locs ls hP hD hS hl
      refine lv_aload_n hx hb d_Num_trim_18 rfl (lv_at hl 0 rfl) ?_
      refine va_get (D := D) (ci := 3) (v := .int (nI q)) (C := R_Num) (T := F_Num) (N := 8) hx hb hts w_Num hown hK hP 0 rfl rfl 2 (by decide) (hts _ kF_Num_52) (fun _ h9 => h9) rfl d_Num_trim_19 ?_
      refine lv_if_le (tgt := 54) hx hb d_Num_trim_22 (by decide) (fun c22 => ?_) (fun c22 => ?_)
      · have e22 : q = 0 := (nI_le0 (by omega)).mp c22
        exact L54 (q + 1) 0 q (by omega) (Nat.zero_le _) (by rw [← hv, e22]; rfl) (rfl) _ _ _ (hP.sub [0, 1] rfl) (hD.sub [0, 1] (by decide) rfl) hS (lv_sub hl [0] rfl)
      · have e22 : 0 < q := Nat.pos_of_ne_zero (fun z => c22 ((nI_le0 (by omega)).mpr z))
        refine lv_aload_n hx hb d_Num_trim_25 rfl (lv_at hl 0 rfl) ?_
        refine va_get (D := D) (ci := 3) (v := .ref x) (C := R_Num) (T := F_Num) (N := 8) hx hb hts w_Num hown hK hP 0 rfl rfl 0 (by decide) (hts _ kF_Num_9) (fun _ h9 => h9) rfl d_Num_trim_26 ?_
        refine lv_aload_n hx hb d_Num_trim_29 rfl (lv_at hl 0 rfl) ?_
        refine va_get (D := D) (ci := 3) (v := .int (nI q)) (C := R_Num) (T := F_Num) (N := 8) hx hb hts w_Num hown hK hP 0 rfl rfl 2 (by decide) (hts _ kF_Num_52) (fun _ h9 => h9) rfl d_Num_trim_30 ?_
        refine lv_iconst (v := 1) hx hb d_Num_trim_33 (by decide) ?_
        refine lv_isub hx hb d_Num_trim_34 ?_
        refine tv_i (nI (q - 1)) (nI_dec e22) ?_
        refine va_cald hx hb hK hP 1 0 rfl rfl (i := nI (q - 1)) (vp_in_nI (show q - 1 < 2400 by omega) (by decide)) d_Num_trim_35 ?_
        refine tv_i (nI (T (q - 1))) (by rw [nI_clamp (by omega)]; rfl) ?_
        refine lv_bipush (v := 32) hx hb d_Num_trim_36 (by decide) ?_
        refine lv_icmp_gt (tgt := 54) hx hb d_Num_trim_38 (by decide) (fun c38 => ?_) (fun c38 => ?_)
        · have e38 : ¬ T (q - 1) ≤ 32 := Nat.not_le.mpr ((nI_ltI (a := 32) (by decide) (by have := hT (q - 1); omega)).mp c38)
          exact L54 (q + 1) 0 q (by omega) (Nat.zero_le _) (by rw [← hv, tE_f e22 e38]) (rfl) _ _ _ (hP.sub [0, 1] rfl) (hD.sub [0, 1] (by decide) rfl) hS (lv_sub hl [0] rfl)
        · have e38 : T (q - 1) ≤ 32 := Nat.le_of_not_lt (fun z => c38 ((nI_ltI (a := 32) (by decide) (by have := hT (q - 1); omega)).mpr z))
          refine lv_aload_n hx hb d_Num_trim_41 rfl (lv_at hl 0 rfl) ?_
          refine lv_dup hx hb d_Num_trim_42 rfl ?_
          refine va_get (D := D) (ci := 3) (v := .int (nI q)) (C := R_Num) (T := F_Num) (N := 8) hx hb hts w_Num hown hK hP 0 rfl rfl 2 (by decide) (hts _ kF_Num_52) (fun _ h9 => h9) rfl d_Num_trim_43 ?_
          refine lv_iconst (v := 1) hx hb d_Num_trim_46 (by decide) ?_
          refine lv_isub hx hb d_Num_trim_47 ?_
          refine tv_i (nI (q - 1)) (nI_dec e22) ?_
          refine va_put (D := D) (ci := 3) (v := .int (nI (q - 1))) (ty := .int) (C := R_Num) (T := F_Num) (N := 8) hx hb hts w_Num t_Num tk_Num n_Num hown hK hP hD hS 0 rfl rfl 2 (by decide) (hts _ kF_Num_52) (fun _ h9 => h9) rfl (by decide +kernel) (rfl) (rfl) (Nat.le_of_ble_eq_true rfl) d_Num_trim_48 (fun H locs hP hD hS => ?_)
          have hP : va_P D vcl [(nm, .inr (3, [.ref x, .int (nI 0), .int (nI (q - 1)), .int mi, .int fo, .int fr, .int to, .int po])), (x, .inl (cC, 2400, .inl (tx T)))] H := hP
          have hD : va_D A [(nm, .inr (3, [.ref x, .int (nI 0), .int (nI (q - 1)), .int mi, .int fo, .int fr, .int to, .int po])), (x, .inl (cC, 2400, .inl (tx T)))] := hD
          refine lv_goto (tgt := 18) hx hb d_Num_trim_51 (by decide) ?_
          exact ih (q - 1) (by omega) (by omega) (by rw [← tE_t e22 e38]; exact hv) _ _ _ (hP.sub [0, 1] rfl) (hD.sub [0, 1] (by decide) rfl) hS (lv_sub hl [0] rfl)
  exact L18 (n + 1) n (by omega) (Nat.le_refl n) (rfl) _ _ _ (hP.sub [0, 1] rfl) (hD.sub [0, 1] (by decide) rfl) hS (lv_sub hl [0] rfl)

set_option maxHeartbeats 4000000 in
set_option maxRecDepth 100000 in
theorem c_Num_skipDigits (l : Launch) (D : va_G) (E : evD) (nm x : Nat) (cC : ClassId) (T : Nat → Nat) (hT : ∀ j, T j < 256) (mi fo fr to po : Int32) (a e : Nat) (hae : a ≤ e) (he : e ≤ 2400) (β : Nat) (hβ : β ≤ 16) : Ci (S := Unit) l y_Num_skipDigits (wz y_Num_skipDigits b_Num_skipDigits 3 (some .int)) ({ frames := 1, cells := 0, slots := 0, locals := 20 }) D vcl (ev1 E) [.ref nm, .int (nI β)] [(cC, .char)] [(nm, .inr (3, [.ref x, .int (nI a), .int (nI e), .int mi, .int fo, .int fr, .int to, .int po])), (x, .inl (cC, 2400, .inl (tx T)))] 0 0 (fun (r : Int32) (_ : Unit) => r = nI (sk β T e a - a)) (fun _ => [(cC, .char)]) (fun _ : Unit => [(nm, .inr (3, [.ref x, .int (nI (sk β T e a)), .int (nI e), .int mi, .int fo, .int fr, .int to, .int po])), (x, .inl (cC, 2400, .inl (tx T)))]) := by
  have hev := ev1_ok E
  unfold Ci
  refine ct_of (y := y_Num_skipDigits) (av := [.ref nm, .int (nI β)]) (cc := b_Num_skipDigits) (maxL := 3) (ret := (some .int)) (Qc := fun A => va_Qi (S := Unit) (fun (r : Int32) (_ : Unit) => r = nI (sk β T e a - a)) (fun u tS => ctB D vcl ((fun _ => [(cC, .char)]) u) ((fun _ : Unit => [(nm, .inr (3, [.ref x, .int (nI (sk β T e a)), .int (nI e), .int mi, .int fo, .int fr, .int to, .int po])), (x, .inl (cC, 2400, .inl (tx T)))]) u) A tS) A) (by decide) rfl (Nat.le_of_ble_eq_true rfl) ?_
  intro p ee s m below meth cde ls A H locs hx hb hml hrt hlocks hown hin hts hA hP hK hD hS hE hl
  have hown : s.vm.findClass R_Num = some m.cls := hown
  have hts := wz_g hts
  have hl : lv_has ls 3 [(0, .ref nm), (1, .int (nI β))] := hl
  refine lv_aload_n hx hb d_Num_skipDigits_0 rfl (lv_at hl 0 rfl) ?_
  refine va_get (D := D) (ci := 3) (v := .int (nI a)) (C := R_Num) (T := F_Num) (N := 8) hx hb hts w_Num hown hK hP 0 rfl rfl 1 (by decide) (hts _ kF_Num_27) (fun _ h9 => h9) rfl d_Num_skipDigits_1 ?_
  refine lv_istore_n (lv' := [(2, .int (nI a)), (0, .ref nm), (1, .int (nI β))]) hx hb d_Num_skipDigits_4 rfl hl (by decide) rfl (fun ls hl => ?_)
  have L5 : ∀ (kk : Nat) (k : Nat), e - k < kk → (a ≤ k) → (k ≤ e) → (sk β T e k = sk β T e a) → ∀ (H : Heap) (locs : List Loc) (ls : Array Slot), va_P D vcl [(nm, .inr (3, [.ref x, .int (nI k), .int (nI e), .int mi, .int fo, .int fr, .int to, .int po])), (x, .inl (cC, 2400, .inl (tx T)))] H → va_D A [(nm, .inr (3, [.ref x, .int (nI k), .int (nI e), .int mi, .int fo, .int fr, .int to, .int po])), (x, .inl (cC, 2400, .inl (tx T)))] → va_S A s.heap H locs → lv_has ls 3 [(0, .ref nm), (1, .int (nI β)), (2, .int (nI a))] → W p l ee ({ frames := 1, cells := 0, slots := 0, locals := 20 }) s m ([.ref nm, .int (nI β)] : List Value).toArray below meth cde H locs 0 0 (MQ below (va_Qi (S := Unit) (fun (r : Int32) (_ : Unit) => r = nI (sk β T e a - a)) (fun u tS => ctB D vcl ((fun _ => [(cC, .char)]) u) ((fun _ : Unit => [(nm, .inr (3, [.ref x, .int (nI (sk β T e a)), .int (nI e), .int mi, .int fo, .int fr, .int to, .int po])), (x, .inl (cC, 2400, .inl (tx T)))]) u) A tS) A) ([.ref nm, .int (nI β)] : List Value).toArray s 0 0 A) (F0 m 5 ls []) := by
    intro kk
    induction kk with
    | zero => intro k hmz; exact absurd hmz (Nat.not_lt_zero _)
    | succ kk ih =>
      intro k hmz hak hke hv H locs ls hP hD hS hl
      refine lv_aload_n hx hb d_Num_skipDigits_5 rfl (lv_at hl 0 rfl) ?_
      refine va_get (D := D) (ci := 3) (v := .int (nI k)) (C := R_Num) (T := F_Num) (N := 8) hx hb hts w_Num hown hK hP 0 rfl rfl 1 (by decide) (hts _ kF_Num_27) (fun _ h9 => h9) rfl d_Num_skipDigits_6 ?_
      refine lv_aload_n hx hb d_Num_skipDigits_9 rfl (lv_at hl 0 rfl) ?_
      refine va_get (D := D) (ci := 3) (v := .int (nI e)) (C := R_Num) (T := F_Num) (N := 8) hx hb hts w_Num hown hK hP 0 rfl rfl 2 (by decide) (hts _ kF_Num_52) (fun _ h9 => h9) rfl d_Num_skipDigits_10 ?_
      refine lv_icmp_ge (tgt := 45) hx hb d_Num_skipDigits_13 (by decide) (fun c13 => ?_) (fun c13 => ?_)
      · have e13 : e ≤ k := (nI_leI (by omega) (by omega)).mp c13
        have hkb : k = sk β T e a := by rw [← hv]; exact (sk_f (fun z => absurd z.1 (by omega))).symm
        rw [hkb] at hP hD hak
        refine lv_aload_n hx hb d_Num_skipDigits_45 rfl (lv_at hl 0 rfl) ?_
        refine va_get (D := D) (ci := 3) (v := .int (nI (sk β T e a))) (C := R_Num) (T := F_Num) (N := 8) hx hb hts w_Num hown hK hP 0 rfl rfl 1 (by decide) (hts _ kF_Num_27) (fun _ h9 => h9) rfl d_Num_skipDigits_46 ?_
        refine lv_iload_n hx hb d_Num_skipDigits_49 rfl (lv_at hl 2 rfl) ?_
        refine lv_isub hx hb d_Num_skipDigits_50 ?_
        refine tv_i (nI (sk β T e a - a)) (pk_sub hak) ?_
        exact rt_i hx hb hrt hlocks (rfl) (()) (rfl) (hP.sub [0, 1] rfl) (hK.sub [0] rfl) (hD.sub [0, 1] (by decide) rfl) hS d_Num_skipDigits_51
      · have e13 : k < e := Nat.lt_of_not_le (fun z => c13 ((nI_leI (by omega) (by omega)).mpr z))
        refine lv_aload_n hx hb d_Num_skipDigits_16 rfl (lv_at hl 0 rfl) ?_
        refine va_get (D := D) (ci := 3) (v := .ref x) (C := R_Num) (T := F_Num) (N := 8) hx hb hts w_Num hown hK hP 0 rfl rfl 0 (by decide) (hts _ kF_Num_9) (fun _ h9 => h9) rfl d_Num_skipDigits_17 ?_
        refine lv_aload_n hx hb d_Num_skipDigits_20 rfl (lv_at hl 0 rfl) ?_
        refine va_get (D := D) (ci := 3) (v := .int (nI k)) (C := R_Num) (T := F_Num) (N := 8) hx hb hts w_Num hown hK hP 0 rfl rfl 1 (by decide) (hts _ kF_Num_27) (fun _ h9 => h9) rfl d_Num_skipDigits_21 ?_
        refine va_cald hx hb hK hP 1 0 rfl rfl (i := nI k) (vp_in_nI (show k < 2400 by omega) (by decide)) d_Num_skipDigits_24 ?_
        refine tv_i (nI (T (k))) (by rw [nI_clamp (by omega)]; rfl) ?_
        refine ca_i [(nm, .inr (3, [.ref x, .int (nI k), .int (nI e), .int mi, .int fo, .int fr, .int to, .int po])), (x, .inl (cC, 2400, .inl (tx T)))] (va_runSN (As := [.int (nI (T (k)))]) (rest := []) ⟨hx, hb, hml, hown, hts⟩ (c_Rea_digitOf l D E (T (k)) (by have := hT k; omega) H.size) (xSN 1 hts kC_Rea_digitOf hE.1.1 kT_Rea_digitOf kN_Rea rfl rfl (by decide +kernel) ⟨Nat.le_of_ble_eq_true rfl, Nat.le_of_ble_eq_true rfl⟩) ⟨ct_blind hev, ct_pre hev hP hK hD hS hA hE [] rfl (by decide) [] rfl⟩ rfl rfl hl.1 rfl (lv_room (Nat.le_of_ble_eq_true rfl)) d_Num_skipDigits_25 ⟨Nat.le_of_ble_eq_true rfl, Nat.le_of_ble_eq_true rfl⟩) hP hD hS hA [] [0, 1] rfl rfl (by decide) (by decide) (fun rv u H locs hw hP hD hS hK1 => ?_)
        subst hw
        have hP : va_P D vcl [(nm, .inr (3, [.ref x, .int (nI k), .int (nI e), .int mi, .int fo, .int fr, .int to, .int po])), (x, .inl (cC, 2400, .inl (tx T)))] H := hP
        have hD : va_D A [(nm, .inr (3, [.ref x, .int (nI k), .int (nI e), .int mi, .int fo, .int fr, .int to, .int po])), (x, .inl (cC, 2400, .inl (tx T)))] := hD
        refine lv_iload_n hx hb d_Num_skipDigits_28 rfl (lv_at hl 1 rfl) ?_
        refine lv_icmp_ge (tgt := 45) hx hb d_Num_skipDigits_29 (by decide) (fun c29 => ?_) (fun c29 => ?_)
        · have e29 : β ≤ dg (T k) := (nI_leI (by omega) (by have := dg_le (T k); omega)).mp c29
          have hkb : k = sk β T e a := by rw [← hv]; exact (sk_f (fun z => absurd z.2 (by omega))).symm
          rw [hkb] at hP hD hak
          refine lv_aload_n hx hb d_Num_skipDigits_45 rfl (lv_at hl 0 rfl) ?_
          refine va_get (D := D) (ci := 3) (v := .int (nI (sk β T e a))) (C := R_Num) (T := F_Num) (N := 8) hx hb hts w_Num hown hK hP 0 rfl rfl 1 (by decide) (hts _ kF_Num_27) (fun _ h9 => h9) rfl d_Num_skipDigits_46 ?_
          refine lv_iload_n hx hb d_Num_skipDigits_49 rfl (lv_at hl 2 rfl) ?_
          refine lv_isub hx hb d_Num_skipDigits_50 ?_
          refine tv_i (nI (sk β T e a - a)) (pk_sub hak) ?_
          exact rt_i hx hb hrt hlocks (rfl) (()) (rfl) (hP.sub [0, 1] rfl) (hK.sub [0] rfl) (hD.sub [0, 1] (by decide) rfl) hS d_Num_skipDigits_51
        · have e29 : dg (T k) < β := Nat.lt_of_not_le (fun z => c29 ((nI_leI (by omega) (by have := dg_le (T k); omega)).mpr z))
          refine lv_aload_n hx hb d_Num_skipDigits_32 rfl (lv_at hl 0 rfl) ?_
          refine lv_dup hx hb d_Num_skipDigits_33 rfl ?_
          refine va_get (D := D) (ci := 3) (v := .int (nI k)) (C := R_Num) (T := F_Num) (N := 8) hx hb hts w_Num hown hK hP 0 rfl rfl 1 (by decide) (hts _ kF_Num_27) (fun _ h9 => h9) rfl d_Num_skipDigits_34 ?_
          refine lv_iconst (v := 1) hx hb d_Num_skipDigits_37 (by decide) ?_
          refine lv_iadd hx hb d_Num_skipDigits_38 ?_
          refine tv_i (nI (k + 1)) (nI_1 k) ?_
          refine va_put (D := D) (ci := 3) (v := .int (nI (k + 1))) (ty := .int) (C := R_Num) (T := F_Num) (N := 8) hx hb hts w_Num t_Num tk_Num n_Num hown hK hP hD hS 0 rfl rfl 1 (by decide) (hts _ kF_Num_27) (fun _ h9 => h9) rfl (by decide +kernel) (rfl) (rfl) (Nat.le_of_ble_eq_true rfl) d_Num_skipDigits_39 (fun H locs hP hD hS => ?_)
          have hP : va_P D vcl [(nm, .inr (3, [.ref x, .int (nI (k + 1)), .int (nI e), .int mi, .int fo, .int fr, .int to, .int po])), (x, .inl (cC, 2400, .inl (tx T)))] H := hP
          have hD : va_D A [(nm, .inr (3, [.ref x, .int (nI (k + 1)), .int (nI e), .int mi, .int fo, .int fr, .int to, .int po])), (x, .inl (cC, 2400, .inl (tx T)))] := hD
          refine lv_goto (tgt := 5) hx hb d_Num_skipDigits_42 (by decide) ?_
          exact ih (k + 1) (by omega) (by omega) (by omega) (by rw [← sk_t e13 e29]; exact hv) _ _ _ (hP.sub [0, 1] rfl) (hD.sub [0, 1] (by decide) rfl) hS (lv_sub hl [0, 1, 2] rfl)
  exact L5 (e - a + 1) a (by omega) (Nat.le_refl a) (hae) (rfl) _ _ _ (hP.sub [0, 1] rfl) (hD.sub [0, 1] (by decide) rfl) hS (lv_sub hl [1, 2, 0] rfl)

set_option maxHeartbeats 4000000 in
set_option maxRecDepth 100000 in
theorem c_Num_skipPrefix (l : Launch) (D : va_G) (E : evD) (nm x : Nat) (cC : ClassId) (T : Nat → Nat) (hT : ∀ j, T j < 256) (mi fo fr to po : Int32) (a e : Nat) (hae : a ≤ e) (he : e ≤ 2400) : Ci (S := Unit) l y_Num_skipPrefix (wz y_Num_skipPrefix b_Num_skipPrefix 1 (some .boolean)) ({ frames := 0, cells := 0, slots := 0, locals := 0 }) D vcl (ev1 E) [.ref nm] [(cC, .char)] [(nm, .inr (3, [.ref x, .int (nI a), .int (nI e), .int mi, .int fo, .int fr, .int to, .int po])), (x, .inl (cC, 2400, .inl (tx T)))] 0 0 (fun (r : Int32) (_ : Unit) => r = bI (pxB T e a)) (fun _ => [(cC, .char)]) (fun _ : Unit => [(nm, .inr (3, [.ref x, .int (nI (pxA T e a)), .int (nI e), .int mi, .int fo, .int fr, .int to, .int po])), (x, .inl (cC, 2400, .inl (tx T)))]) := by
  have hev := ev1_ok E
  unfold Ci
  refine ct_of (y := y_Num_skipPrefix) (av := [.ref nm]) (cc := b_Num_skipPrefix) (maxL := 1) (ret := (some .boolean)) (Qc := fun A => va_Qi (S := Unit) (fun (r : Int32) (_ : Unit) => r = bI (pxB T e a)) (fun u tS => ctB D vcl ((fun _ => [(cC, .char)]) u) ((fun _ : Unit => [(nm, .inr (3, [.ref x, .int (nI (pxA T e a)), .int (nI e), .int mi, .int fo, .int fr, .int to, .int po])), (x, .inl (cC, 2400, .inl (tx T)))]) u) A tS) A) (by decide) rfl (Nat.le_of_ble_eq_true rfl) ?_
  intro p ee s m below meth cde ls A H locs hx hb hml hrt hlocks hown hin hts hA hP hK hD hS hE hl
  have hown : s.vm.findClass R_Num = some m.cls := hown
  have hts := wz_g hts
  have hl : lv_has ls 1 [(0, .ref nm)] := hl
  refine lv_aload_n hx hb d_Num_skipPrefix_0 rfl (lv_at hl 0 rfl) ?_
  refine va_get (D := D) (ci := 3) (v := .int (nI e)) (C := R_Num) (T := F_Num) (N := 8) hx hb hts w_Num hown hK hP 0 rfl rfl 2 (by decide) (hts _ kF_Num_52) (fun _ h9 => h9) rfl d_Num_skipPrefix_1 ?_
  refine lv_aload_n hx hb d_Num_skipPrefix_4 rfl (lv_at hl 0 rfl) ?_
  refine va_get (D := D) (ci := 3) (v := .int (nI a)) (C := R_Num) (T := F_Num) (N := 8) hx hb hts w_Num hown hK hP 0 rfl rfl 1 (by decide) (hts _ kF_Num_27) (fun _ h9 => h9) rfl d_Num_skipPrefix_5 ?_
  refine lv_isub hx hb d_Num_skipPrefix_8 ?_
  refine tv_i (nI (e - a)) (pk_sub hae) ?_
  refine lv_iconst (v := 2) hx hb d_Num_skipPrefix_9 (by decide) ?_
  refine lv_icmp_lt (tgt := 59) hx hb d_Num_skipPrefix_10 (by decide) (fun c10 => ?_) (fun c10 => ?_)
  · have e10 : e - a < 2 := (nI_ltI (b := 2) (by omega) (by decide)).mp c10
    refine lv_iconst (v := 0) hx hb d_Num_skipPrefix_59 (by decide) ?_
    have hp : pxB T e a = false := decide_eq_false (fun z => absurd z.1 (by omega))
    rw [show nI a = nI (pxA T e a) by unfold pxA; rw [hp]; rfl] at hP hD
    exact rt_i hx hb hrt hlocks (rfl) (()) (by rw [hp]; rfl) (hP.sub [0, 1] rfl) (hK.sub [0] rfl) (hD.sub [0, 1] (by decide) rfl) hS d_Num_skipPrefix_60
  · have e10 : 2 ≤ e - a := Nat.le_of_not_lt (fun z => c10 ((nI_ltI (b := 2) (by omega) (by decide)).mpr z))
    have h0 := hT a
    have h1 := hT (a + 1)
    refine lv_aload_n hx hb d_Num_skipPrefix_13 rfl (lv_at hl 0 rfl) ?_
    refine va_get (D := D) (ci := 3) (v := .ref x) (C := R_Num) (T := F_Num) (N := 8) hx hb hts w_Num hown hK hP 0 rfl rfl 0 (by decide) (hts _ kF_Num_9) (fun _ h9 => h9) rfl d_Num_skipPrefix_14 ?_
    refine lv_aload_n hx hb d_Num_skipPrefix_17 rfl (lv_at hl 0 rfl) ?_
    refine va_get (D := D) (ci := 3) (v := .int (nI a)) (C := R_Num) (T := F_Num) (N := 8) hx hb hts w_Num hown hK hP 0 rfl rfl 1 (by decide) (hts _ kF_Num_27) (fun _ h9 => h9) rfl d_Num_skipPrefix_18 ?_
    refine va_cald hx hb hK hP 1 0 rfl rfl (i := nI a) (vp_in_nI (show a < 2400 by omega) (by decide)) d_Num_skipPrefix_21 ?_
    refine tv_i (nI (T (a))) (by rw [nI_clamp (by omega)]; rfl) ?_
    refine lv_bipush (v := 48) hx hb d_Num_skipPrefix_22 (by decide) ?_
    refine lv_icmp_ne (tgt := 59) hx hb d_Num_skipPrefix_24 (by decide) (fun c24 => ?_) (fun c24 => ?_)
    · have e24 : ¬ T a = 48 := fun z => c24 (by rw [z]; rfl)
      refine lv_iconst (v := 0) hx hb d_Num_skipPrefix_59 (by decide) ?_
      have hp : pxB T e a = false := decide_eq_false (fun z => e24 z.2.1)
      rw [show nI a = nI (pxA T e a) by unfold pxA; rw [hp]; rfl] at hP hD
      exact rt_i hx hb hrt hlocks (rfl) (()) (by rw [hp]; rfl) (hP.sub [0, 1] rfl) (hK.sub [0] rfl) (hD.sub [0, 1] (by decide) rfl) hS d_Num_skipPrefix_60
    · have e24 : T a = 48 := (nI_eq (b := 48) (by omega) (by decide)).mp c24
      refine lv_aload_n hx hb d_Num_skipPrefix_27 rfl (lv_at hl 0 rfl) ?_
      refine va_get (D := D) (ci := 3) (v := .ref x) (C := R_Num) (T := F_Num) (N := 8) hx hb hts w_Num hown hK hP 0 rfl rfl 0 (by decide) (hts _ kF_Num_9) (fun _ h9 => h9) rfl d_Num_skipPrefix_28 ?_
      refine lv_aload_n hx hb d_Num_skipPrefix_31 rfl (lv_at hl 0 rfl) ?_
      refine va_get (D := D) (ci := 3) (v := .int (nI a)) (C := R_Num) (T := F_Num) (N := 8) hx hb hts w_Num hown hK hP 0 rfl rfl 1 (by decide) (hts _ kF_Num_27) (fun _ h9 => h9) rfl d_Num_skipPrefix_32 ?_
      refine lv_iconst (v := 1) hx hb d_Num_skipPrefix_35 (by decide) ?_
      refine lv_iadd hx hb d_Num_skipPrefix_36 ?_
      refine tv_i (nI (a + 1)) (nI_1 a) ?_
      refine va_cald hx hb hK hP 1 0 rfl rfl (i := nI (a + 1)) (vp_in_nI (show a + 1 < 2400 by omega) (by decide)) d_Num_skipPrefix_37 ?_
      refine tv_i (nI (T (a + 1))) (by rw [nI_clamp (by omega)]; rfl) ?_
      refine lv_bipush (v := 120) hx hb d_Num_skipPrefix_38 (by decide) ?_
      refine lv_icmp_eq (tgt := 61) hx hb d_Num_skipPrefix_40 (by decide) (fun c40 => ?_) (fun c40 => ?_)
      · have e40 : T (a + 1) = 120 := (nI_eq (b := 120) (by omega) (by decide)).mp c40
        refine lv_aload_n hx hb d_Num_skipPrefix_61 rfl (lv_at hl 0 rfl) ?_
        refine lv_dup hx hb d_Num_skipPrefix_62 rfl ?_
        refine va_get (D := D) (ci := 3) (v := .int (nI a)) (C := R_Num) (T := F_Num) (N := 8) hx hb hts w_Num hown hK hP 0 rfl rfl 1 (by decide) (hts _ kF_Num_27) (fun _ h9 => h9) rfl d_Num_skipPrefix_63 ?_
        refine lv_iconst (v := 2) hx hb d_Num_skipPrefix_66 (by decide) ?_
        refine lv_iadd hx hb d_Num_skipPrefix_67 ?_
        refine tv_i (nI (a + 2)) (nI_add a 2) ?_
        refine va_put (D := D) (ci := 3) (v := .int (nI (a + 2))) (ty := .int) (C := R_Num) (T := F_Num) (N := 8) hx hb hts w_Num t_Num tk_Num n_Num hown hK hP hD hS 0 rfl rfl 1 (by decide) (hts _ kF_Num_27) (fun _ h9 => h9) rfl (by decide +kernel) (rfl) (rfl) (Nat.le_of_ble_eq_true rfl) d_Num_skipPrefix_68 (fun H locs hP hD hS => ?_)
        have hP : va_P D vcl [(nm, .inr (3, [.ref x, .int (nI (a + 2)), .int (nI e), .int mi, .int fo, .int fr, .int to, .int po])), (x, .inl (cC, 2400, .inl (tx T)))] H := hP
        have hD : va_D A [(nm, .inr (3, [.ref x, .int (nI (a + 2)), .int (nI e), .int mi, .int fo, .int fr, .int to, .int po])), (x, .inl (cC, 2400, .inl (tx T)))] := hD
        refine lv_iconst (v := 1) hx hb d_Num_skipPrefix_71 (by decide) ?_
        have hp : pxB T e a = true := decide_eq_true ⟨e10, e24, Or.inl e40⟩
        rw [show nI (a + 2) = nI (pxA T e a) by unfold pxA; rw [hp]; rfl] at hP hD
        exact rt_i hx hb hrt hlocks (rfl) (()) (by rw [hp]; rfl) (hP.sub [0, 1] rfl) (hK.sub [0] rfl) (hD.sub [0, 1] (by decide) rfl) hS d_Num_skipPrefix_72
      · have e40 : ¬ T (a + 1) = 120 := fun z => c40 (by rw [z]; rfl)
        refine lv_aload_n hx hb d_Num_skipPrefix_43 rfl (lv_at hl 0 rfl) ?_
        refine va_get (D := D) (ci := 3) (v := .ref x) (C := R_Num) (T := F_Num) (N := 8) hx hb hts w_Num hown hK hP 0 rfl rfl 0 (by decide) (hts _ kF_Num_9) (fun _ h9 => h9) rfl d_Num_skipPrefix_44 ?_
        refine lv_aload_n hx hb d_Num_skipPrefix_47 rfl (lv_at hl 0 rfl) ?_
        refine va_get (D := D) (ci := 3) (v := .int (nI a)) (C := R_Num) (T := F_Num) (N := 8) hx hb hts w_Num hown hK hP 0 rfl rfl 1 (by decide) (hts _ kF_Num_27) (fun _ h9 => h9) rfl d_Num_skipPrefix_48 ?_
        refine lv_iconst (v := 1) hx hb d_Num_skipPrefix_51 (by decide) ?_
        refine lv_iadd hx hb d_Num_skipPrefix_52 ?_
        refine tv_i (nI (a + 1)) (nI_1 a) ?_
        refine va_cald hx hb hK hP 1 0 rfl rfl (i := nI (a + 1)) (vp_in_nI (show a + 1 < 2400 by omega) (by decide)) d_Num_skipPrefix_53 ?_
        refine tv_i (nI (T (a + 1))) (by rw [nI_clamp (by omega)]; rfl) ?_
        refine lv_bipush (v := 88) hx hb d_Num_skipPrefix_54 (by decide) ?_
        refine lv_icmp_eq (tgt := 61) hx hb d_Num_skipPrefix_56 (by decide) (fun c56 => ?_) (fun c56 => ?_)
        · have e56 : T (a + 1) = 88 := (nI_eq (b := 88) (by omega) (by decide)).mp c56
          refine lv_aload_n hx hb d_Num_skipPrefix_61 rfl (lv_at hl 0 rfl) ?_
          refine lv_dup hx hb d_Num_skipPrefix_62 rfl ?_
          refine va_get (D := D) (ci := 3) (v := .int (nI a)) (C := R_Num) (T := F_Num) (N := 8) hx hb hts w_Num hown hK hP 0 rfl rfl 1 (by decide) (hts _ kF_Num_27) (fun _ h9 => h9) rfl d_Num_skipPrefix_63 ?_
          refine lv_iconst (v := 2) hx hb d_Num_skipPrefix_66 (by decide) ?_
          refine lv_iadd hx hb d_Num_skipPrefix_67 ?_
          refine tv_i (nI (a + 2)) (nI_add a 2) ?_
          refine va_put (D := D) (ci := 3) (v := .int (nI (a + 2))) (ty := .int) (C := R_Num) (T := F_Num) (N := 8) hx hb hts w_Num t_Num tk_Num n_Num hown hK hP hD hS 0 rfl rfl 1 (by decide) (hts _ kF_Num_27) (fun _ h9 => h9) rfl (by decide +kernel) (rfl) (rfl) (Nat.le_of_ble_eq_true rfl) d_Num_skipPrefix_68 (fun H locs hP hD hS => ?_)
          have hP : va_P D vcl [(nm, .inr (3, [.ref x, .int (nI (a + 2)), .int (nI e), .int mi, .int fo, .int fr, .int to, .int po])), (x, .inl (cC, 2400, .inl (tx T)))] H := hP
          have hD : va_D A [(nm, .inr (3, [.ref x, .int (nI (a + 2)), .int (nI e), .int mi, .int fo, .int fr, .int to, .int po])), (x, .inl (cC, 2400, .inl (tx T)))] := hD
          refine lv_iconst (v := 1) hx hb d_Num_skipPrefix_71 (by decide) ?_
          have hp : pxB T e a = true := decide_eq_true ⟨e10, e24, Or.inr e56⟩
          rw [show nI (a + 2) = nI (pxA T e a) by unfold pxA; rw [hp]; rfl] at hP hD
          exact rt_i hx hb hrt hlocks (rfl) (()) (by rw [hp]; rfl) (hP.sub [0, 1] rfl) (hK.sub [0] rfl) (hD.sub [0, 1] (by decide) rfl) hS d_Num_skipPrefix_72
        · have e56 : ¬ T (a + 1) = 88 := fun z => c56 (by rw [z]; rfl)
          refine lv_iconst (v := 0) hx hb d_Num_skipPrefix_59 (by decide) ?_
          have hp : pxB T e a = false := decide_eq_false (fun z => z.2.2.elim e40 e56)
          rw [show nI a = nI (pxA T e a) by unfold pxA; rw [hp]; rfl] at hP hD
          exact rt_i hx hb hrt hlocks (rfl) (()) (by rw [hp]; rfl) (hP.sub [0, 1] rfl) (hK.sub [0] rfl) (hD.sub [0, 1] (by decide) rfl) hS d_Num_skipPrefix_60

set_option maxHeartbeats 4000000 in
set_option maxRecDepth 100000 in
theorem c_Num_isRest (l : Launch) (D : va_G) (E : evD) (nm x : Nat) (cC : ClassId) (T : Nat → Nat) (hT : ∀ j, T j < 256) (mi fo fr to po : Int32) (a e : Nat) (hae : a ≤ e) (he : e ≤ 2400) (j : Nat) (hj : j < 2) : Ci (S := Unit) l y_Num_isRest (wz y_Num_isRest b_Num_isRest 3 (some .boolean)) ({ frames := 4, cells := 0, slots := 0, locals := 85 }) D vcl (ev1 E) [.ref nm, .ref (E.2.1 j)] [(cC, .char)] [(nm, .inr (3, [.ref x, .int (nI a), .int (nI e), .int mi, .int fo, .int fr, .int to, .int po])), (x, .inl (cC, 2400, .inl (tx T)))] 0 0 (fun (r : Int32) (_ : Unit) => r = bI (wdB T e a j)) (fun _ => [(cC, .char)]) (fun _ : Unit => [(nm, .inr (3, [.ref x, .int (nI a), .int (nI e), .int mi, .int fo, .int fr, .int to, .int po])), (x, .inl (cC, 2400, .inl (tx T)))]) := by
  have hev := ev1_ok E
  unfold Ci
  refine ct_of (y := y_Num_isRest) (av := [.ref nm, .ref (E.2.1 j)]) (cc := b_Num_isRest) (maxL := 3) (ret := (some .boolean)) (Qc := fun A => va_Qi (S := Unit) (fun (r : Int32) (_ : Unit) => r = bI (wdB T e a j)) (fun u tS => ctB D vcl ((fun _ => [(cC, .char)]) u) ((fun _ : Unit => [(nm, .inr (3, [.ref x, .int (nI a), .int (nI e), .int mi, .int fo, .int fr, .int to, .int po])), (x, .inl (cC, 2400, .inl (tx T)))]) u) A tS) A) (by decide) rfl (Nat.le_of_ble_eq_true rfl) ?_
  intro p ee s m below meth cde ls A H locs hx hb hml hrt hlocks hown hin hts hA hP hK hD hS hE hl
  have hown : s.vm.findClass R_Num = some m.cls := hown
  have hts := wz_g hts
  have hl : lv_has ls 3 [(0, .ref nm), (1, .ref (E.2.1 j))] := hl
  have hsl := sLen_b j hj
  refine lv_aload_n hx hb d_Num_isRest_0 rfl (lv_at hl 0 rfl) ?_
  refine va_get (D := D) (ci := 3) (v := .int (nI e)) (C := R_Num) (T := F_Num) (N := 8) hx hb hts w_Num hown hK hP 0 rfl rfl 2 (by decide) (hts _ kF_Num_52) (fun _ h9 => h9) rfl d_Num_isRest_1 ?_
  refine lv_aload_n hx hb d_Num_isRest_4 rfl (lv_at hl 0 rfl) ?_
  refine va_get (D := D) (ci := 3) (v := .int (nI a)) (C := R_Num) (T := F_Num) (N := 8) hx hb hts w_Num hown hK hP 0 rfl rfl 1 (by decide) (hts _ kF_Num_27) (fun _ h9 => h9) rfl d_Num_isRest_5 ?_
  refine lv_isub hx hb d_Num_isRest_8 ?_
  refine tv_i (nI (e - a)) (pk_sub hae) ?_
  refine lv_aload_n hx hb d_Num_isRest_9 rfl (lv_at hl 1 rfl) ?_
  refine ca_i [(nm, .inr (3, [.ref x, .int (nI a), .int (nI e), .int mi, .int fo, .int fr, .int to, .int po])), (x, .inl (cC, 2400, .inl (tx T)))] (va_runV (As := []) (rest := [.int (nI (e - a))]) ⟨hx, hb, hml, hown, hts⟩ (c_Str_length l D E j hj H.size) (xV 0 hts kC_Str_length kM_Num_55 kI_Str_length kS_Str_length kN_Str rfl rfl (by decide +kernel) ⟨Nat.le_of_ble_eq_true rfl, Nat.le_of_ble_eq_true rfl⟩) ⟨ct_blind hev, vk_recv (i := j) hE.2.2.2.2.2.2.1 hj hS, ct_pre hev hP hK hD hS hA hE [] rfl (by decide) [] rfl⟩ rfl rfl hl.1 rfl (lv_room (Nat.le_of_ble_eq_true rfl)) d_Num_isRest_10 ⟨Nat.le_of_ble_eq_true rfl, Nat.le_of_ble_eq_true rfl⟩) hP hD hS hA [] [0, 1] rfl rfl (by decide) (by decide) (fun rv u H locs hw hP hD hS hK1 => ?_)
  subst hw
  have hP : va_P D vcl [(nm, .inr (3, [.ref x, .int (nI a), .int (nI e), .int mi, .int fo, .int fr, .int to, .int po])), (x, .inl (cC, 2400, .inl (tx T)))] H := hP
  have hD : va_D A [(nm, .inr (3, [.ref x, .int (nI a), .int (nI e), .int mi, .int fo, .int fr, .int to, .int po])), (x, .inl (cC, 2400, .inl (tx T)))] := hD
  refine lv_icmp_eq (tgt := 18) hx hb d_Num_isRest_13 (by decide) (fun c13 => ?_) (fun c13 => ?_)
  · have e13 : e - a = sLen.getD j 0 := (nI_eq (by omega) (by omega)).mp c13
    refine lv_iconst (v := 0) hx hb d_Num_isRest_18 (by decide) ?_
    refine tv_i (nI 0) (rfl) ?_
    refine lv_istore_n (lv' := [(2, .int (nI 0)), (0, .ref nm), (1, .ref (E.2.1 j))]) hx hb d_Num_isRest_19 rfl hl (by decide) rfl (fun ls hl => ?_)
    have L20 : ∀ (kk : Nat) (k : Nat), sLen.getD j 0 - k < kk → (k ≤ sLen.getD j 0) → (∀ q, q < k → T (a + q) = sCh j q) → ∀ (H : Heap) (locs : List Loc) (ls : Array Slot), va_P D vcl [(nm, .inr (3, [.ref x, .int (nI a), .int (nI e), .int mi, .int fo, .int fr, .int to, .int po])), (x, .inl (cC, 2400, .inl (tx T)))] H → va_D A [(nm, .inr (3, [.ref x, .int (nI a), .int (nI e), .int mi, .int fo, .int fr, .int to, .int po])), (x, .inl (cC, 2400, .inl (tx T)))] → va_S A s.heap H locs → lv_has ls 3 [(0, .ref nm), (1, .ref (E.2.1 j)), (2, .int (nI k))] → W p l ee ({ frames := 4, cells := 0, slots := 0, locals := 85 }) s m ([.ref nm, .ref (E.2.1 j)] : List Value).toArray below meth cde H locs 0 0 (MQ below (va_Qi (S := Unit) (fun (r : Int32) (_ : Unit) => r = bI (wdB T e a j)) (fun u tS => ctB D vcl ((fun _ => [(cC, .char)]) u) ((fun _ : Unit => [(nm, .inr (3, [.ref x, .int (nI a), .int (nI e), .int mi, .int fo, .int fr, .int to, .int po])), (x, .inl (cC, 2400, .inl (tx T)))]) u) A tS) A) ([.ref nm, .ref (E.2.1 j)] : List Value).toArray s 0 0 A) (F0 m 20 ls []) := by
      intro kk
      induction kk with
      | zero => intro k hmz; exact absurd hmz (Nat.not_lt_zero _)
      | succ kk ih =>
        intro k hmz hk hv H locs ls hP hD hS hl
        refine lv_iload_n hx hb d_Num_isRest_20 rfl (lv_at hl 2 rfl) ?_
        refine lv_aload_n hx hb d_Num_isRest_21 rfl (lv_at hl 1 rfl) ?_
        refine ca_i [(nm, .inr (3, [.ref x, .int (nI a), .int (nI e), .int mi, .int fo, .int fr, .int to, .int po])), (x, .inl (cC, 2400, .inl (tx T)))] (va_runV (As := []) (rest := [.int (nI k)]) ⟨hx, hb, hml, hown, hts⟩ (c_Str_length l D E j hj H.size) (xV 0 hts kC_Str_length kM_Num_55 kI_Str_length kS_Str_length kN_Str rfl rfl (by decide +kernel) ⟨Nat.le_of_ble_eq_true rfl, Nat.le_of_ble_eq_true rfl⟩) ⟨ct_blind hev, vk_recv (i := j) hE.2.2.2.2.2.2.1 hj hS, ct_pre hev hP hK hD hS hA hE [] rfl (by decide) [] rfl⟩ rfl rfl hl.1 rfl (lv_room (Nat.le_of_ble_eq_true rfl)) d_Num_isRest_22 ⟨Nat.le_of_ble_eq_true rfl, Nat.le_of_ble_eq_true rfl⟩) hP hD hS hA [] [0, 1] rfl rfl (by decide) (by decide) (fun rv u H locs hw hP hD hS hK1 => ?_)
        subst hw
        have hP : va_P D vcl [(nm, .inr (3, [.ref x, .int (nI a), .int (nI e), .int mi, .int fo, .int fr, .int to, .int po])), (x, .inl (cC, 2400, .inl (tx T)))] H := hP
        have hD : va_D A [(nm, .inr (3, [.ref x, .int (nI a), .int (nI e), .int mi, .int fo, .int fr, .int to, .int po])), (x, .inl (cC, 2400, .inl (tx T)))] := hD
        refine lv_icmp_ge (tgt := 55) hx hb d_Num_isRest_25 (by decide) (fun c25 => ?_) (fun c25 => ?_)
        · have e25 : sLen.getD j 0 ≤ k := (nI_leI (by omega) (by omega)).mp c25
          refine lv_iconst (v := 1) hx hb d_Num_isRest_55 (by decide) ?_
          exact rt_i hx hb hrt hlocks (rfl) (()) (by unfold wdB; rw [decide_eq_true ⟨e13, fun q hq => hv q (by omega)⟩]; rfl) (hP.sub [0, 1] rfl) (hK.sub [0] rfl) (hD.sub [0, 1] (by decide) rfl) hS d_Num_isRest_56
        · have e25 : k < sLen.getD j 0 := Nat.lt_of_not_le (fun z => c25 ((nI_leI (by omega) (by omega)).mpr z))
          refine lv_aload_n hx hb d_Num_isRest_28 rfl (lv_at hl 0 rfl) ?_
          refine va_get (D := D) (ci := 3) (v := .ref x) (C := R_Num) (T := F_Num) (N := 8) hx hb hts w_Num hown hK hP 0 rfl rfl 0 (by decide) (hts _ kF_Num_9) (fun _ h9 => h9) rfl d_Num_isRest_29 ?_
          refine lv_aload_n hx hb d_Num_isRest_32 rfl (lv_at hl 0 rfl) ?_
          refine va_get (D := D) (ci := 3) (v := .int (nI a)) (C := R_Num) (T := F_Num) (N := 8) hx hb hts w_Num hown hK hP 0 rfl rfl 1 (by decide) (hts _ kF_Num_27) (fun _ h9 => h9) rfl d_Num_isRest_33 ?_
          refine lv_iload_n hx hb d_Num_isRest_36 rfl (lv_at hl 2 rfl) ?_
          refine lv_iadd hx hb d_Num_isRest_37 ?_
          refine tv_i (nI (a + k)) (nI_add a k) ?_
          refine va_cald hx hb hK hP 1 0 rfl rfl (i := nI (a + k)) (vp_in_nI (show a + k < 2400 by omega) (by decide)) d_Num_isRest_38 ?_
          refine tv_i (nI (T (a + k))) (by rw [nI_clamp (by omega)]; rfl) ?_
          refine lv_aload_n hx hb d_Num_isRest_39 rfl (lv_at hl 1 rfl) ?_
          refine lv_iload_n hx hb d_Num_isRest_40 rfl (lv_at hl 2 rfl) ?_
          refine ca_i [(nm, .inr (3, [.ref x, .int (nI a), .int (nI e), .int mi, .int fo, .int fr, .int to, .int po])), (x, .inl (cC, 2400, .inl (tx T)))] (va_runV (As := [.int (nI k)]) (rest := [.int (nI (T (a + k)))]) ⟨hx, hb, hml, hown, hts⟩ (c_Str_charAt l D E j hj k (e25) H.size) (xV 1 hts kC_Str_charAt kM_Num_61 kI_Str_charAt kS_Str_charAt kN_Str rfl rfl (by decide +kernel) ⟨Nat.le_of_ble_eq_true rfl, Nat.le_of_ble_eq_true rfl⟩) ⟨ct_blind hev, vk_recv (i := j) hE.2.2.2.2.2.2.1 hj hS, ct_pre hev hP hK hD hS hA hE [] rfl (by decide) [] rfl⟩ rfl rfl hl.1 rfl (lv_room (Nat.le_of_ble_eq_true rfl)) d_Num_isRest_41 ⟨Nat.le_of_ble_eq_true rfl, Nat.le_of_ble_eq_true rfl⟩) hP hD hS hA [] [0, 1] rfl rfl (by decide) (by decide) (fun rv u H locs hw hP hD hS hK1 => ?_)
          subst hw
          have hP : va_P D vcl [(nm, .inr (3, [.ref x, .int (nI a), .int (nI e), .int mi, .int fo, .int fr, .int to, .int po])), (x, .inl (cC, 2400, .inl (tx T)))] H := hP
          have hD : va_D A [(nm, .inr (3, [.ref x, .int (nI a), .int (nI e), .int mi, .int fo, .int fr, .int to, .int po])), (x, .inl (cC, 2400, .inl (tx T)))] := hD
          refine lv_icmp_eq (tgt := 49) hx hb d_Num_isRest_44 (by decide) (fun c44 => ?_) (fun c44 => ?_)
          · have e44 : T (a + k) = sCh j k := (nI_eq (by have := hT (a + k); omega) (by have := sCh_lt j k; omega)).mp c44
            refine lv_iinc (v := nI (k + 1)) (lv' := [(2, .int (nI (k + 1))), (0, .ref nm), (1, .ref (E.2.1 j))]) hx hb d_Num_isRest_49 hl (k := 2) rfl (nI_1 k) (by decide) rfl (fun ls hl => ?_)
            refine lv_goto (tgt := 20) hx hb d_Num_isRest_52 (by decide) ?_
            exact ih (k + 1) (by omega) (by omega) (fun q hq => by by_cases h9 : q = k; (· rw [h9]; exact e44); exact hv q (by omega)) _ _ _ (hP.sub [0, 1] rfl) (hD.sub [0, 1] (by decide) rfl) hS (lv_sub hl [1, 2, 0] rfl)
          · have e44 : ¬ T (a + k) = sCh j k := fun z => c44 (by rw [z])
            refine lv_iconst (v := 0) hx hb d_Num_isRest_47 (by decide) ?_
            exact rt_i hx hb hrt hlocks (rfl) (()) (by unfold wdB; rw [decide_eq_false (fun z => e44 (z.2 k e25))]; rfl) (hP.sub [0, 1] rfl) (hK.sub [0] rfl) (hD.sub [0, 1] (by decide) rfl) hS d_Num_isRest_48
    exact L20 (sLen.getD j 0 + 1) 0 (by omega) (Nat.zero_le _) (fun q hq => absurd hq (by omega)) _ _ _ (hP.sub [0, 1] rfl) (hD.sub [0, 1] (by decide) rfl) hS (lv_sub hl [1, 2, 0] rfl)
  · have e13 : ¬ e - a = sLen.getD j 0 := fun z => c13 (by rw [z])
    refine lv_iconst (v := 0) hx hb d_Num_isRest_16 (by decide) ?_
    exact rt_i hx hb hrt hlocks (rfl) (()) (by unfold wdB; rw [decide_eq_false (fun z => e13 z.1)]; rfl) (hP.sub [0, 1] rfl) (hK.sub [0] rfl) (hD.sub [0, 1] (by decide) rfl) hS d_Num_isRest_17

set_option maxHeartbeats 4000000 in
set_option maxRecDepth 100000 in
theorem c_Num_findDigits (l : Launch) (D : va_G) (E : evD) (nm x : Nat) (cC : ClassId) (T : Nat → Nat) (hT : ∀ j, T j < 256) (mi fo fr to po : Int32) (a e : Nat) (hae : a ≤ e) (he : e ≤ 2400) (β : Nat) (hβ : β ≤ 16) : Ci (S := Unit) l y_Num_findDigits (wz y_Num_findDigits b_Num_findDigits 3 (some .boolean)) ({ frames := 2, cells := 0, slots := 0, locals := 42 }) D vcl (ev1 E) [.ref nm, .int (nI β)] [(cC, .char)] [(nm, .inr (3, [.ref x, .int (nI a), .int (nI e), .int mi, .int fo, .int fr, .int to, .int po])), (x, .inl (cC, 2400, .inl (tx T)))] 0 0 (fun (r : Int32) (_ : Unit) => r = bI (decide (0 < dN β T e a))) (fun _ => [(cC, .char)]) (fun _ : Unit => [(nm, .inr (3, [.ref x, .int (nI (dE β T e a)), .int (nI e), .int mi, .int fo, .int (nI a), .int (nI (dE β T e a)), .int po])), (x, .inl (cC, 2400, .inl (tx T)))]) := by
  have hev := ev1_ok E
  unfold Ci
  refine ct_of (y := y_Num_findDigits) (av := [.ref nm, .int (nI β)]) (cc := b_Num_findDigits) (maxL := 3) (ret := (some .boolean)) (Qc := fun A => va_Qi (S := Unit) (fun (r : Int32) (_ : Unit) => r = bI (decide (0 < dN β T e a))) (fun u tS => ctB D vcl ((fun _ => [(cC, .char)]) u) ((fun _ : Unit => [(nm, .inr (3, [.ref x, .int (nI (dE β T e a)), .int (nI e), .int mi, .int fo, .int (nI a), .int (nI (dE β T e a)), .int po])), (x, .inl (cC, 2400, .inl (tx T)))]) u) A tS) A) (by decide) rfl (Nat.le_of_ble_eq_true rfl) ?_
  intro p ee s m below meth cde ls A H locs hx hb hml hrt hlocks hown hin hts hA hP hK hD hS hE hl
  have hown : s.vm.findClass R_Num = some m.cls := hown
  have hts := wz_g hts
  have hl : lv_has ls 3 [(0, .ref nm), (1, .int (nI β))] := hl
  have hsk : sk β T e a ≤ e := sk_le hae
  have hsk2 := sk_ge β T e a
  refine lv_aload_n hx hb d_Num_findDigits_0 rfl (lv_at hl 0 rfl) ?_
  refine lv_aload_n hx hb d_Num_findDigits_1 rfl (lv_at hl 0 rfl) ?_
  refine va_get (D := D) (ci := 3) (v := .int (nI a)) (C := R_Num) (T := F_Num) (N := 8) hx hb hts w_Num hown hK hP 0 rfl rfl 1 (by decide) (hts _ kF_Num_27) (fun _ h9 => h9) rfl d_Num_findDigits_2 ?_
  refine va_put (D := D) (ci := 3) (v := .int (nI a)) (ty := .int) (C := R_Num) (T := F_Num) (N := 8) hx hb hts w_Num t_Num tk_Num n_Num hown hK hP hD hS 0 rfl rfl 5 (by decide) (hts _ kF_Num_79) (fun _ h9 => h9) rfl (by decide +kernel) (rfl) (rfl) (Nat.le_of_ble_eq_true rfl) d_Num_findDigits_5 (fun H locs hP hD hS => ?_)
  have hP : va_P D vcl [(nm, .inr (3, [.ref x, .int (nI a), .int (nI e), .int mi, .int fo, .int (nI a), .int to, .int po])), (x, .inl (cC, 2400, .inl (tx T)))] H := hP
  have hD : va_D A [(nm, .inr (3, [.ref x, .int (nI a), .int (nI e), .int mi, .int fo, .int (nI a), .int to, .int po])), (x, .inl (cC, 2400, .inl (tx T)))] := hD
  refine lv_aload_n hx hb d_Num_findDigits_8 rfl (lv_at hl 0 rfl) ?_
  refine lv_iload_n hx hb d_Num_findDigits_9 rfl (lv_at hl 1 rfl) ?_
  refine ca_i [] (va_runV (As := [.int (nI β)]) (rest := []) ⟨hx, hb, hml, hown, hts⟩ (c_Num_skipDigits l D E nm x cC T hT mi fo (nI a) to po a e (hae) (he) β (hβ) H.size) (xV 1 hts kC_Num_skipDigits kM_Num_82 kI_Num_skipDigits kS_Num_skipDigits kN_Num rfl rfl (by decide +kernel) ⟨Nat.le_of_ble_eq_true rfl, Nat.le_of_ble_eq_true rfl⟩) ⟨ct_blind hev, va_recv hK hP (ci := 3) (q0 := 0) rfl rfl, ct_pre hev hP hK hD hS hA hE [0, 1] rfl (by decide) [0] rfl⟩ rfl rfl hl.1 rfl (lv_room (Nat.le_of_ble_eq_true rfl)) d_Num_findDigits_10 ⟨Nat.le_of_ble_eq_true rfl, Nat.le_of_ble_eq_true rfl⟩) hP hD hS hA [0, 1] [] rfl rfl (by decide) (by decide) (fun rv u H locs hw hP hD hS hK1 => ?_)
  subst hw
  have hP : va_P D vcl [(nm, .inr (3, [.ref x, .int (nI (sk β T e a)), .int (nI e), .int mi, .int fo, .int (nI a), .int to, .int po])), (x, .inl (cC, 2400, .inl (tx T)))] H := hP
  have hD : va_D A [(nm, .inr (3, [.ref x, .int (nI (sk β T e a)), .int (nI e), .int mi, .int fo, .int (nI a), .int to, .int po])), (x, .inl (cC, 2400, .inl (tx T)))] := hD
  refine lv_istore_n (lv' := [(2, .int (nI (sk β T e a - a))), (0, .ref nm), (1, .int (nI β))]) hx hb d_Num_findDigits_13 rfl hl (by decide) rfl (fun ls hl => ?_)
  refine lv_aload_n hx hb d_Num_findDigits_14 rfl (lv_at hl 1 rfl) ?_
  refine ca_i [] (va_runV (As := []) (rest := []) ⟨hx, hb, hml, hown, hts⟩ (c_Num_here l D E nm x cC T hT mi fo (nI a) to po (sk β T e a) e (hsk) (he) H.size) (xV 0 hts kC_Num_here kM_Num_19 kI_Num_here kS_Num_here kN_Num rfl rfl (by decide +kernel) ⟨Nat.le_of_ble_eq_true rfl, Nat.le_of_ble_eq_true rfl⟩) ⟨ct_blind hev, va_recv hK hP (ci := 3) (q0 := 0) rfl rfl, ct_pre hev hP hK hD hS hA hE [0, 1] rfl (by decide) [0] rfl⟩ rfl rfl hl.1 rfl (lv_room (Nat.le_of_ble_eq_true rfl)) d_Num_findDigits_15 ⟨Nat.le_of_ble_eq_true rfl, Nat.le_of_ble_eq_true rfl⟩) hP hD hS hA [0, 1] [] rfl rfl (by decide) (by decide) (fun rv u H locs hw hP hD hS hK1 => ?_)
  subst hw
  have hP : va_P D vcl [(nm, .inr (3, [.ref x, .int (nI (sk β T e a)), .int (nI e), .int mi, .int fo, .int (nI a), .int to, .int po])), (x, .inl (cC, 2400, .inl (tx T)))] H := hP
  have hD : va_D A [(nm, .inr (3, [.ref x, .int (nI (sk β T e a)), .int (nI e), .int mi, .int fo, .int (nI a), .int to, .int po])), (x, .inl (cC, 2400, .inl (tx T)))] := hD
  refine lv_bipush (v := 46) hx hb d_Num_findDigits_18 (by decide) ?_
  refine lv_icmp_ne (tgt := 41) hx hb d_Num_findDigits_20 (by decide) (fun c20 => ?_) (fun c20 => ?_)
  · have e20 : ¬ lk T e (sk β T e a) = 46 := fun z => c20 (by rw [z]; rfl)
    refine lv_aload_n hx hb d_Num_findDigits_41 rfl (lv_at hl 1 rfl) ?_
    refine lv_aload_n hx hb d_Num_findDigits_42 rfl (lv_at hl 1 rfl) ?_
    refine va_get (D := D) (ci := 3) (v := .int (nI (sk β T e a))) (C := R_Num) (T := F_Num) (N := 8) hx hb hts w_Num hown hK hP 0 rfl rfl 1 (by decide) (hts _ kF_Num_27) (fun _ h9 => h9) rfl d_Num_findDigits_43 ?_
    refine va_put (D := D) (ci := 3) (v := .int (nI (sk β T e a))) (ty := .int) (C := R_Num) (T := F_Num) (N := 8) hx hb hts w_Num t_Num tk_Num n_Num hown hK hP hD hS 0 rfl rfl 6 (by decide) (hts _ kF_Num_86) (fun _ h9 => h9) rfl (by decide +kernel) (rfl) (rfl) (Nat.le_of_ble_eq_true rfl) d_Num_findDigits_46 (fun H locs hP hD hS => ?_)
    have hP : va_P D vcl [(nm, .inr (3, [.ref x, .int (nI (sk β T e a)), .int (nI e), .int mi, .int fo, .int (nI a), .int (nI (sk β T e a)), .int po])), (x, .inl (cC, 2400, .inl (tx T)))] H := hP
    have hD : va_D A [(nm, .inr (3, [.ref x, .int (nI (sk β T e a)), .int (nI e), .int mi, .int fo, .int (nI a), .int (nI (sk β T e a)), .int po])), (x, .inl (cC, 2400, .inl (tx T)))] := hD
    refine lv_iload_n hx hb d_Num_findDigits_49 rfl (lv_at hl 0 rfl) ?_
    refine lv_if_le (tgt := 57) hx hb d_Num_findDigits_50 (by decide) (fun c50 => ?_) (fun c50 => ?_)
    · have e50 : (sk β T e a - a) = 0 := (nI_le0 (by omega)).mp c50
      refine lv_iconst (v := 0) hx hb d_Num_findDigits_57 (by decide) ?_
      have hd : dE β T e a = sk β T e a := by unfold dE; rw [if_neg e20]
      have hn2 : dN β T e a = sk β T e a - a := by unfold dN; rw [if_neg e20]
      rw [← hd] at hP hD
      exact rt_i hx hb hrt hlocks (rfl) (()) (by rw [decide_eq_false (by omega)]; rfl) (hP.sub [0, 1] rfl) (hK.sub [0] rfl) (hD.sub [0, 1] (by decide) rfl) hS d_Num_findDigits_58
    · have e50 : (sk β T e a - a) ≠ 0 := fun z => c50 ((nI_le0 (by omega)).mpr z)
      refine lv_iconst (v := 1) hx hb d_Num_findDigits_53 (by decide) ?_
      refine lv_goto (tgt := 58) hx hb d_Num_findDigits_54 (by decide) ?_
      have hd : dE β T e a = sk β T e a := by unfold dE; rw [if_neg e20]
      have hn2 : dN β T e a = sk β T e a - a := by unfold dN; rw [if_neg e20]
      rw [← hd] at hP hD
      exact rt_i hx hb hrt hlocks (rfl) (()) (by rw [decide_eq_true (by omega)]; rfl) (hP.sub [0, 1] rfl) (hK.sub [0] rfl) (hD.sub [0, 1] (by decide) rfl) hS d_Num_findDigits_58
  · have e20 : lk T e (sk β T e a) = 46 := (nI_eq (b := 46) (by have := lk_b hT e (sk β T e a); omega) (by decide)).mp c20
    have h20 := lk_lt e20 (by decide)
    have h21 := sk_ge β T e (sk β T e a + 1)
    have h22 : sk β T e (sk β T e a + 1) ≤ e := sk_le (by omega)
    refine lv_aload_n hx hb d_Num_findDigits_23 rfl (lv_at hl 1 rfl) ?_
    refine lv_dup hx hb d_Num_findDigits_24 rfl ?_
    refine va_get (D := D) (ci := 3) (v := .int (nI (sk β T e a))) (C := R_Num) (T := F_Num) (N := 8) hx hb hts w_Num hown hK hP 0 rfl rfl 1 (by decide) (hts _ kF_Num_27) (fun _ h9 => h9) rfl d_Num_findDigits_25 ?_
    refine lv_iconst (v := 1) hx hb d_Num_findDigits_28 (by decide) ?_
    refine lv_iadd hx hb d_Num_findDigits_29 ?_
    refine tv_i (nI (sk β T e a + 1)) (nI_1 _) ?_
    refine va_put (D := D) (ci := 3) (v := .int (nI (sk β T e a + 1))) (ty := .int) (C := R_Num) (T := F_Num) (N := 8) hx hb hts w_Num t_Num tk_Num n_Num hown hK hP hD hS 0 rfl rfl 1 (by decide) (hts _ kF_Num_27) (fun _ h9 => h9) rfl (by decide +kernel) (rfl) (rfl) (Nat.le_of_ble_eq_true rfl) d_Num_findDigits_30 (fun H locs hP hD hS => ?_)
    have hP : va_P D vcl [(nm, .inr (3, [.ref x, .int (nI (sk β T e a + 1)), .int (nI e), .int mi, .int fo, .int (nI a), .int to, .int po])), (x, .inl (cC, 2400, .inl (tx T)))] H := hP
    have hD : va_D A [(nm, .inr (3, [.ref x, .int (nI (sk β T e a + 1)), .int (nI e), .int mi, .int fo, .int (nI a), .int to, .int po])), (x, .inl (cC, 2400, .inl (tx T)))] := hD
    refine lv_iload_n hx hb d_Num_findDigits_33 rfl (lv_at hl 0 rfl) ?_
    refine lv_aload_n hx hb d_Num_findDigits_34 rfl (lv_at hl 1 rfl) ?_
    refine lv_iload_n hx hb d_Num_findDigits_35 rfl (lv_at hl 2 rfl) ?_
    refine ca_i [] (va_runV (As := [.int (nI β)]) (rest := [.int (nI (sk β T e a - a))]) ⟨hx, hb, hml, hown, hts⟩ (c_Num_skipDigits l D E nm x cC T hT mi fo (nI a) to po (sk β T e a + 1) e (by omega) (he) β (hβ) H.size) (xV 1 hts kC_Num_skipDigits kM_Num_82 kI_Num_skipDigits kS_Num_skipDigits kN_Num rfl rfl (by decide +kernel) ⟨Nat.le_of_ble_eq_true rfl, Nat.le_of_ble_eq_true rfl⟩) ⟨ct_blind hev, va_recv hK hP (ci := 3) (q0 := 0) rfl rfl, ct_pre hev hP hK hD hS hA hE [0, 1] rfl (by decide) [0] rfl⟩ rfl rfl hl.1 rfl (lv_room (Nat.le_of_ble_eq_true rfl)) d_Num_findDigits_36 ⟨Nat.le_of_ble_eq_true rfl, Nat.le_of_ble_eq_true rfl⟩) hP hD hS hA [0, 1] [] rfl rfl (by decide) (by decide) (fun rv u H locs hw hP hD hS hK1 => ?_)
    subst hw
    have hP : va_P D vcl [(nm, .inr (3, [.ref x, .int (nI (sk β T e (sk β T e a + 1))), .int (nI e), .int mi, .int fo, .int (nI a), .int to, .int po])), (x, .inl (cC, 2400, .inl (tx T)))] H := hP
    have hD : va_D A [(nm, .inr (3, [.ref x, .int (nI (sk β T e (sk β T e a + 1))), .int (nI e), .int mi, .int fo, .int (nI a), .int to, .int po])), (x, .inl (cC, 2400, .inl (tx T)))] := hD
    refine lv_iadd hx hb d_Num_findDigits_39 ?_
    refine tv_i (nI (sk β T e a - a + (sk β T e (sk β T e a + 1) - (sk β T e a + 1)))) (nI_add _ _) ?_
    refine lv_istore_n (lv' := [(2, .int (nI (sk β T e a - a + (sk β T e (sk β T e a + 1) - (sk β T e a + 1))))), (0, .ref nm), (1, .int (nI β))]) hx hb d_Num_findDigits_40 rfl hl (by decide) rfl (fun ls hl => ?_)
    refine lv_aload_n hx hb d_Num_findDigits_41 rfl (lv_at hl 1 rfl) ?_
    refine lv_aload_n hx hb d_Num_findDigits_42 rfl (lv_at hl 1 rfl) ?_
    refine va_get (D := D) (ci := 3) (v := .int (nI (sk β T e (sk β T e a + 1)))) (C := R_Num) (T := F_Num) (N := 8) hx hb hts w_Num hown hK hP 0 rfl rfl 1 (by decide) (hts _ kF_Num_27) (fun _ h9 => h9) rfl d_Num_findDigits_43 ?_
    refine va_put (D := D) (ci := 3) (v := .int (nI (sk β T e (sk β T e a + 1)))) (ty := .int) (C := R_Num) (T := F_Num) (N := 8) hx hb hts w_Num t_Num tk_Num n_Num hown hK hP hD hS 0 rfl rfl 6 (by decide) (hts _ kF_Num_86) (fun _ h9 => h9) rfl (by decide +kernel) (rfl) (rfl) (Nat.le_of_ble_eq_true rfl) d_Num_findDigits_46 (fun H locs hP hD hS => ?_)
    have hP : va_P D vcl [(nm, .inr (3, [.ref x, .int (nI (sk β T e (sk β T e a + 1))), .int (nI e), .int mi, .int fo, .int (nI a), .int (nI (sk β T e (sk β T e a + 1))), .int po])), (x, .inl (cC, 2400, .inl (tx T)))] H := hP
    have hD : va_D A [(nm, .inr (3, [.ref x, .int (nI (sk β T e (sk β T e a + 1))), .int (nI e), .int mi, .int fo, .int (nI a), .int (nI (sk β T e (sk β T e a + 1))), .int po])), (x, .inl (cC, 2400, .inl (tx T)))] := hD
    refine lv_iload_n hx hb d_Num_findDigits_49 rfl (lv_at hl 0 rfl) ?_
    refine lv_if_le (tgt := 57) hx hb d_Num_findDigits_50 (by decide) (fun c50 => ?_) (fun c50 => ?_)
    · have e50 : (sk β T e a - a + (sk β T e (sk β T e a + 1) - (sk β T e a + 1))) = 0 := (nI_le0 (by omega)).mp c50
      refine lv_iconst (v := 0) hx hb d_Num_findDigits_57 (by decide) ?_
      have hd : dE β T e a = sk β T e (sk β T e a + 1) := by unfold dE; rw [if_pos e20]
      have hn2 : dN β T e a = sk β T e a - a + (sk β T e (sk β T e a + 1) - (sk β T e a + 1)) := by unfold dN; rw [if_pos e20]
      rw [← hd] at hP hD
      exact rt_i hx hb hrt hlocks (rfl) (()) (by rw [decide_eq_false (by omega)]; rfl) (hP.sub [0, 1] rfl) (hK.sub [0] rfl) (hD.sub [0, 1] (by decide) rfl) hS d_Num_findDigits_58
    · have e50 : (sk β T e a - a + (sk β T e (sk β T e a + 1) - (sk β T e a + 1))) ≠ 0 := fun z => c50 ((nI_le0 (by omega)).mpr z)
      refine lv_iconst (v := 1) hx hb d_Num_findDigits_53 (by decide) ?_
      refine lv_goto (tgt := 58) hx hb d_Num_findDigits_54 (by decide) ?_
      have hd : dE β T e a = sk β T e (sk β T e a + 1) := by unfold dE; rw [if_pos e20]
      have hn2 : dN β T e a = sk β T e a - a + (sk β T e (sk β T e a + 1) - (sk β T e a + 1)) := by unfold dN; rw [if_pos e20]
      rw [← hd] at hP hD
      exact rt_i hx hb hrt hlocks (rfl) (()) (by rw [decide_eq_true (by omega)]; rfl) (hP.sub [0, 1] rfl) (hK.sub [0] rfl) (hD.sub [0, 1] (by decide) rfl) hS d_Num_findDigits_58
