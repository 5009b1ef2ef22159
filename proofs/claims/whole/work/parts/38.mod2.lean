def okV (V : Nat → Nat) : Prop := ∀ q, q < 3 → lc (V q) ≤ 999
theorem okV_up {V : Nat → Nat} {r W : Nat} (h : okV V) (hW : lc W ≤ 999) : okV (upR V r W) := by
  intro q hq
  unfold upR; split
  · exact hW
  · exact h q hq
theorem lc_b {V e : Nat} (h : bln V ≤ e) : lc V ≤ (e + 15) / 16 := by unfold lc; omega
theorem bl_mul {V s : Nat} : bln (V * 2 ^ s) ≤ bln V + s := bln_le_of (by rw [Nat.pow_add]; exact Nat.mul_lt_mul_of_pos_right (bln_lt V) (Nat.two_pow_pos s))
theorem lc_mono {x y : Nat} (h : x ≤ y) : lc x ≤ lc y := lc_le (Nat.lt_of_le_of_lt h (lc_lt y))
def moR (P Z j Q : Nat) : Nat := if Q < 2 ^ (P - 1) then Q else if Z + 2 ≤ (if Q = 2 ^ P then j + 2 else j + 1) then (Z + 2) * 2 ^ (P - 1) else j * 2 ^ (P - 1) + Q
theorem shl1 {k : Nat} (h : k < 64) : (1 : Int64) <<< ((nI k).toInt64 &&& 63) = lN (2 ^ k) := by have h9 := wb_shl 1 (k := k) h; rw [Nat.one_mul] at h9; exact h9
theorem sar1 {n : Nat} (h : n < 4611686018427387904) : lN n >>> ((1 : Int32).toInt64 &&& 63) = lN (n / 2) := by
  apply Int64.toInt_inj.mp
  have h1 : ((1 : Int32).toInt64 &&& 63) = 1 := by decide
  rw [h1]
  have h2 : (lN n).toInt = (n : Int) := pk_lT (by omega)
  have h3 : (lN (n / 2)).toInt = ((n / 2 : Nat) : Int) := pk_lT (by omega)
  rw [h3]
  show ((lN n).toBitVec.sshiftRight ((1 : Int64).toBitVec.smod 64).toNat).toInt = _
  rw [BitVec.toInt_sshiftRight]
  have h4 : ((1 : Int64).toBitVec.smod 64).toNat = 1 := by decide
  rw [h4]
  have h5 : (lN n).toBitVec.toInt = (n : Int) := h2
  rw [h5]
  show (n : Int) >>> 1 = _
  rw [Int.shiftRight_eq_div_pow]
  omega
theorem d_Mod_lessen_0 : decode b_Mod_lessen 0 = .ok (.iconst 0, 1) := by decide +kernel
theorem d_Mod_lessen_1 : decode b_Mod_lessen 1 = .ok (.istore_n 3, 1) := by decide +kernel
theorem d_Mod_lessen_2 : decode b_Mod_lessen 2 = .ok (.iconst 0, 1) := by decide +kernel
theorem d_Mod_lessen_3 : decode b_Mod_lessen 3 = .ok (.istore 4, 2) := by decide +kernel
theorem d_Mod_lessen_5 : decode b_Mod_lessen 5 = .ok (.iload 4, 2) := by decide +kernel
theorem d_Mod_lessen_7 : decode b_Mod_lessen 7 = .ok (.aload_n 0, 1) := by decide +kernel
theorem d_Mod_lessen_8 : decode b_Mod_lessen 8 = .ok (.getfield 16, 3) := by decide +kernel
theorem d_Mod_lessen_11 : decode b_Mod_lessen 11 = .ok (.iload_n 1, 1) := by decide +kernel
theorem d_Mod_lessen_12 : decode b_Mod_lessen 12 = .ok (.iaload, 1) := by decide +kernel
theorem d_Mod_lessen_13 : decode b_Mod_lessen 13 = .ok (.if_icmp .ge 84, 3) := by decide +kernel
theorem d_Mod_lessen_16 : decode b_Mod_lessen 16 = .ok (.aload_n 0, 1) := by decide +kernel
theorem d_Mod_lessen_17 : decode b_Mod_lessen 17 = .ok (.getfield 13, 3) := by decide +kernel
theorem d_Mod_lessen_20 : decode b_Mod_lessen 20 = .ok (.sipush 1000, 3) := by decide +kernel
theorem d_Mod_lessen_23 : decode b_Mod_lessen 23 = .ok (.iload_n 1, 1) := by decide +kernel
theorem d_Mod_lessen_24 : decode b_Mod_lessen 24 = .ok (.imul, 1) := by decide +kernel
theorem d_Mod_lessen_25 : decode b_Mod_lessen 25 = .ok (.iload 4, 2) := by decide +kernel
theorem d_Mod_lessen_27 : decode b_Mod_lessen 27 = .ok (.iadd, 1) := by decide +kernel
theorem d_Mod_lessen_28 : decode b_Mod_lessen 28 = .ok (.iaload, 1) := by decide +kernel
theorem d_Mod_lessen_29 : decode b_Mod_lessen 29 = .ok (.iload 4, 2) := by decide +kernel
theorem d_Mod_lessen_31 : decode b_Mod_lessen 31 = .ok (.aload_n 0, 1) := by decide +kernel
theorem d_Mod_lessen_32 : decode b_Mod_lessen 32 = .ok (.getfield 16, 3) := by decide +kernel
theorem d_Mod_lessen_35 : decode b_Mod_lessen 35 = .ok (.iload_n 2, 1) := by decide +kernel
theorem d_Mod_lessen_36 : decode b_Mod_lessen 36 = .ok (.iaload, 1) := by decide +kernel
theorem d_Mod_lessen_37 : decode b_Mod_lessen 37 = .ok (.if_icmp .ge 19, 3) := by decide +kernel
theorem d_Mod_lessen_40 : decode b_Mod_lessen 40 = .ok (.aload_n 0, 1) := by decide +kernel
theorem d_Mod_lessen_41 : decode b_Mod_lessen 41 = .ok (.getfield 13, 3) := by decide +kernel
theorem d_Mod_lessen_44 : decode b_Mod_lessen 44 = .ok (.sipush 1000, 3) := by decide +kernel
theorem d_Mod_lessen_47 : decode b_Mod_lessen 47 = .ok (.iload_n 2, 1) := by decide +kernel
theorem d_Mod_lessen_48 : decode b_Mod_lessen 48 = .ok (.imul, 1) := by decide +kernel
theorem d_Mod_lessen_49 : decode b_Mod_lessen 49 = .ok (.iload 4, 2) := by decide +kernel
theorem d_Mod_lessen_51 : decode b_Mod_lessen 51 = .ok (.iadd, 1) := by decide +kernel
theorem d_Mod_lessen_52 : decode b_Mod_lessen 52 = .ok (.iaload, 1) := by decide +kernel
theorem d_Mod_lessen_53 : decode b_Mod_lessen 53 = .ok (.goto 4, 3) := by decide +kernel
theorem d_Mod_lessen_56 : decode b_Mod_lessen 56 = .ok (.iconst 0, 1) := by decide +kernel
theorem d_Mod_lessen_57 : decode b_Mod_lessen 57 = .ok (.isub, 1) := by decide +kernel
theorem d_Mod_lessen_58 : decode b_Mod_lessen 58 = .ok (.iload_n 3, 1) := by decide +kernel
theorem d_Mod_lessen_59 : decode b_Mod_lessen 59 = .ok (.isub, 1) := by decide +kernel
theorem d_Mod_lessen_60 : decode b_Mod_lessen 60 = .ok (.istore 5, 2) := by decide +kernel
theorem d_Mod_lessen_62 : decode b_Mod_lessen 62 = .ok (.iload 5, 2) := by decide +kernel
theorem d_Mod_lessen_64 : decode b_Mod_lessen 64 = .ok (.ifCond .ge 7, 3) := by decide +kernel
theorem d_Mod_lessen_67 : decode b_Mod_lessen 67 = .ok (.iconst 1, 1) := by decide +kernel
theorem d_Mod_lessen_68 : decode b_Mod_lessen 68 = .ok (.goto 4, 3) := by decide +kernel
theorem d_Mod_lessen_71 : decode b_Mod_lessen 71 = .ok (.iconst 0, 1) := by decide +kernel
theorem d_Mod_lessen_72 : decode b_Mod_lessen 72 = .ok (.istore_n 3, 1) := by decide +kernel
theorem d_Mod_lessen_73 : decode b_Mod_lessen 73 = .ok (.aload_n 0, 1) := by decide +kernel
theorem d_Mod_lessen_74 : decode b_Mod_lessen 74 = .ok (.getfield 13, 3) := by decide +kernel
theorem d_Mod_lessen_77 : decode b_Mod_lessen 77 = .ok (.sipush 1000, 3) := by decide +kernel
theorem d_Mod_lessen_80 : decode b_Mod_lessen 80 = .ok (.iload_n 1, 1) := by decide +kernel
theorem d_Mod_lessen_81 : decode b_Mod_lessen 81 = .ok (.imul, 1) := by decide +kernel
theorem d_Mod_lessen_82 : decode b_Mod_lessen 82 = .ok (.iload 4, 2) := by decide +kernel
theorem d_Mod_lessen_84 : decode b_Mod_lessen 84 = .ok (.iadd, 1) := by decide +kernel
theorem d_Mod_lessen_85 : decode b_Mod_lessen 85 = .ok (.iload 5, 2) := by decide +kernel
theorem d_Mod_lessen_87 : decode b_Mod_lessen 87 = .ok (.ldc 25, 2) := by decide +kernel
theorem d_Mod_lessen_89 : decode b_Mod_lessen 89 = .ok (.iand, 1) := by decide +kernel
theorem d_Mod_lessen_90 : decode b_Mod_lessen 90 = .ok (.iastore, 1) := by decide +kernel
theorem d_Mod_lessen_91 : decode b_Mod_lessen 91 = .ok (.iinc 4 1, 3) := by decide +kernel
theorem d_Mod_lessen_94 : decode b_Mod_lessen 94 = .ok (.goto (-89), 3) := by decide +kernel
theorem d_Mod_lessen_97 : decode b_Mod_lessen 97 = .ok (.aload_n 0, 1) := by decide +kernel
theorem d_Mod_lessen_98 : decode b_Mod_lessen 98 = .ok (.iload_n 1, 1) := by decide +kernel
theorem d_Mod_lessen_99 : decode b_Mod_lessen 99 = .ok (.aload_n 0, 1) := by decide +kernel
theorem d_Mod_lessen_100 : decode b_Mod_lessen 100 = .ok (.getfield 16, 3) := by decide +kernel
theorem d_Mod_lessen_103 : decode b_Mod_lessen 103 = .ok (.iload_n 1, 1) := by decide +kernel
theorem d_Mod_lessen_104 : decode b_Mod_lessen 104 = .ok (.iaload, 1) := by decide +kernel
theorem d_Mod_lessen_105 : decode b_Mod_lessen 105 = .ok (.invokevirtual 21, 3) := by decide +kernel
theorem d_Mod_lessen_108 : decode b_Mod_lessen 108 = .ok (.return_, 1) := by decide +kernel
theorem d_Mod_bitsOf_0 : decode b_Mod_bitsOf 0 = .ok (.aload_n 0, 1) := by decide +kernel
theorem d_Mod_bitsOf_1 : decode b_Mod_bitsOf 1 = .ok (.getfield 16, 3) := by decide +kernel
theorem d_Mod_bitsOf_4 : decode b_Mod_bitsOf 4 = .ok (.iload_n 1, 1) := by decide +kernel
theorem d_Mod_bitsOf_5 : decode b_Mod_bitsOf 5 = .ok (.iaload, 1) := by decide +kernel
theorem d_Mod_bitsOf_6 : decode b_Mod_bitsOf 6 = .ok (.ifCond .ne 5, 3) := by decide +kernel
theorem d_Mod_bitsOf_9 : decode b_Mod_bitsOf 9 = .ok (.iconst 0, 1) := by decide +kernel
theorem d_Mod_bitsOf_10 : decode b_Mod_bitsOf 10 = .ok (.ireturn, 1) := by decide +kernel
theorem d_Mod_bitsOf_11 : decode b_Mod_bitsOf 11 = .ok (.bipush 16, 2) := by decide +kernel
theorem d_Mod_bitsOf_13 : decode b_Mod_bitsOf 13 = .ok (.aload_n 0, 1) := by decide +kernel
theorem d_Mod_bitsOf_14 : decode b_Mod_bitsOf 14 = .ok (.getfield 16, 3) := by decide +kernel
theorem d_Mod_bitsOf_17 : decode b_Mod_bitsOf 17 = .ok (.iload_n 1, 1) := by decide +kernel
theorem d_Mod_bitsOf_18 : decode b_Mod_bitsOf 18 = .ok (.iaload, 1) := by decide +kernel
theorem d_Mod_bitsOf_19 : decode b_Mod_bitsOf 19 = .ok (.iconst 1, 1) := by decide +kernel
theorem d_Mod_bitsOf_20 : decode b_Mod_bitsOf 20 = .ok (.isub, 1) := by decide +kernel
theorem d_Mod_bitsOf_21 : decode b_Mod_bitsOf 21 = .ok (.imul, 1) := by decide +kernel
theorem d_Mod_bitsOf_22 : decode b_Mod_bitsOf 22 = .ok (.istore_n 2, 1) := by decide +kernel
theorem d_Mod_bitsOf_23 : decode b_Mod_bitsOf 23 = .ok (.aload_n 0, 1) := by decide +kernel
theorem d_Mod_bitsOf_24 : decode b_Mod_bitsOf 24 = .ok (.getfield 13, 3) := by decide +kernel
theorem d_Mod_bitsOf_27 : decode b_Mod_bitsOf 27 = .ok (.sipush 1000, 3) := by decide +kernel
theorem d_Mod_bitsOf_30 : decode b_Mod_bitsOf 30 = .ok (.iload_n 1, 1) := by decide +kernel
theorem d_Mod_bitsOf_31 : decode b_Mod_bitsOf 31 = .ok (.imul, 1) := by decide +kernel
theorem d_Mod_bitsOf_32 : decode b_Mod_bitsOf 32 = .ok (.aload_n 0, 1) := by decide +kernel
theorem d_Mod_bitsOf_33 : decode b_Mod_bitsOf 33 = .ok (.getfield 16, 3) := by decide +kernel
theorem d_Mod_bitsOf_36 : decode b_Mod_bitsOf 36 = .ok (.iload_n 1, 1) := by decide +kernel
theorem d_Mod_bitsOf_37 : decode b_Mod_bitsOf 37 = .ok (.iaload, 1) := by decide +kernel
theorem d_Mod_bitsOf_38 : decode b_Mod_bitsOf 38 = .ok (.iadd, 1) := by decide +kernel
theorem d_Mod_bitsOf_39 : decode b_Mod_bitsOf 39 = .ok (.iconst 1, 1) := by decide +kernel
theorem d_Mod_bitsOf_40 : decode b_Mod_bitsOf 40 = .ok (.isub, 1) := by decide +kernel
theorem d_Mod_bitsOf_41 : decode b_Mod_bitsOf 41 = .ok (.iaload, 1) := by decide +kernel
theorem d_Mod_bitsOf_42 : decode b_Mod_bitsOf 42 = .ok (.istore_n 3, 1) := by decide +kernel
theorem d_Mod_bitsOf_43 : decode b_Mod_bitsOf 43 = .ok (.iload_n 3, 1) := by decide +kernel
theorem d_Mod_bitsOf_44 : decode b_Mod_bitsOf 44 = .ok (.ifCond .le 13, 3) := by decide +kernel
theorem d_Mod_bitsOf_47 : decode b_Mod_bitsOf 47 = .ok (.iinc 2 1, 3) := by decide +kernel
theorem d_Mod_bitsOf_50 : decode b_Mod_bitsOf 50 = .ok (.iload_n 3, 1) := by decide +kernel
theorem d_Mod_bitsOf_51 : decode b_Mod_bitsOf 51 = .ok (.iconst 1, 1) := by decide +kernel
theorem d_Mod_bitsOf_52 : decode b_Mod_bitsOf 52 = .ok (.ishr, 1) := by decide +kernel
theorem d_Mod_bitsOf_53 : decode b_Mod_bitsOf 53 = .ok (.istore_n 3, 1) := by decide +kernel
theorem d_Mod_bitsOf_54 : decode b_Mod_bitsOf 54 = .ok (.goto (-11), 3) := by decide +kernel
theorem d_Mod_bitsOf_57 : decode b_Mod_bitsOf 57 = .ok (.iload_n 2, 1) := by decide +kernel
theorem d_Mod_bitsOf_58 : decode b_Mod_bitsOf 58 = .ok (.ireturn, 1) := by decide +kernel
theorem d_Mod_infinite_0 : decode b_Mod_infinite 0 = .ok (.iload_n 0, 1) := by decide +kernel
theorem d_Mod_infinite_1 : decode b_Mod_infinite 1 = .ok (.ifCond .eq 9, 3) := by decide +kernel
theorem d_Mod_infinite_4 : decode b_Mod_infinite 4 = .ok (.ldc2_w 30, 3) := by decide +kernel
theorem d_Mod_infinite_7 : decode b_Mod_infinite 7 = .ok (.goto 6, 3) := by decide +kernel
theorem d_Mod_infinite_10 : decode b_Mod_infinite 10 = .ok (.ldc2_w 32, 3) := by decide +kernel
theorem d_Mod_infinite_13 : decode b_Mod_infinite 13 = .ok (.lreturn, 1) := by decide +kernel
theorem d_Mod_none_0 : decode b_Mod_none 0 = .ok (.iload_n 0, 1) := by decide +kernel
theorem d_Mod_none_1 : decode b_Mod_none 1 = .ok (.ifCond .eq 9, 3) := by decide +kernel
theorem d_Mod_none_4 : decode b_Mod_none 4 = .ok (.ldc2_w 34, 3) := by decide +kernel
theorem d_Mod_none_7 : decode b_Mod_none 7 = .ok (.goto 6, 3) := by decide +kernel
theorem d_Mod_none_10 : decode b_Mod_none 10 = .ok (.ldc2_w 36, 3) := by decide +kernel
theorem d_Mod_none_13 : decode b_Mod_none 13 = .ok (.lreturn, 1) := by decide +kernel
theorem d_Mod_signed_0 : decode b_Mod_signed 0 = .ok (.iload_n 2, 1) := by decide +kernel
theorem d_Mod_signed_1 : decode b_Mod_signed 1 = .ok (.ifCond .ne 7, 3) := by decide +kernel
theorem d_Mod_signed_4 : decode b_Mod_signed 4 = .ok (.lload_n 0, 1) := by decide +kernel
theorem d_Mod_signed_5 : decode b_Mod_signed 5 = .ok (.goto 20, 3) := by decide +kernel
theorem d_Mod_signed_8 : decode b_Mod_signed 8 = .ok (.iload_n 3, 1) := by decide +kernel
theorem d_Mod_signed_9 : decode b_Mod_signed 9 = .ok (.ifCond .eq 11, 3) := by decide +kernel
theorem d_Mod_signed_12 : decode b_Mod_signed 12 = .ok (.lload_n 0, 1) := by decide +kernel
theorem d_Mod_signed_13 : decode b_Mod_signed 13 = .ok (.ldc2_w 38, 3) := by decide +kernel
theorem d_Mod_signed_16 : decode b_Mod_signed 16 = .ok (.lor, 1) := by decide +kernel
theorem d_Mod_signed_17 : decode b_Mod_signed 17 = .ok (.goto 8, 3) := by decide +kernel
theorem d_Mod_signed_20 : decode b_Mod_signed 20 = .ok (.lload_n 0, 1) := by decide +kernel
theorem d_Mod_signed_21 : decode b_Mod_signed 21 = .ok (.ldc2_w 40, 3) := by decide +kernel
theorem d_Mod_signed_24 : decode b_Mod_signed 24 = .ok (.lor, 1) := by decide +kernel
theorem d_Mod_signed_25 : decode b_Mod_signed 25 = .ok (.lreturn, 1) := by decide +kernel
theorem d_Mod_rounded_0 : decode b_Mod_rounded 0 = .ok (.lload_n 1, 1) := by decide +kernel
theorem d_Mod_rounded_1 : decode b_Mod_rounded 1 = .ok (.lstore 7, 2) := by decide +kernel
theorem d_Mod_rounded_3 : decode b_Mod_rounded 3 = .ok (.iload_n 3, 1) := by decide +kernel
theorem d_Mod_rounded_4 : decode b_Mod_rounded 4 = .ok (.istore 9, 2) := by decide +kernel
theorem d_Mod_rounded_6 : decode b_Mod_rounded 6 = .ok (.aload_n 0, 1) := by decide +kernel
theorem d_Mod_rounded_7 : decode b_Mod_rounded 7 = .ok (.getfield 16, 3) := by decide +kernel
theorem d_Mod_rounded_10 : decode b_Mod_rounded 10 = .ok (.iconst 0, 1) := by decide +kernel
theorem d_Mod_rounded_11 : decode b_Mod_rounded 11 = .ok (.iaload, 1) := by decide +kernel
theorem d_Mod_rounded_12 : decode b_Mod_rounded 12 = .ok (.ifCond .le 7, 3) := by decide +kernel
theorem d_Mod_rounded_15 : decode b_Mod_rounded 15 = .ok (.iconst 1, 1) := by decide +kernel
theorem d_Mod_rounded_16 : decode b_Mod_rounded 16 = .ok (.goto 4, 3) := by decide +kernel
theorem d_Mod_rounded_19 : decode b_Mod_rounded 19 = .ok (.iconst 0, 1) := by decide +kernel
theorem d_Mod_rounded_20 : decode b_Mod_rounded 20 = .ok (.istore 10, 2) := by decide +kernel
theorem d_Mod_rounded_22 : decode b_Mod_rounded 22 = .ok (.aload_n 0, 1) := by decide +kernel
theorem d_Mod_rounded_23 : decode b_Mod_rounded 23 = .ok (.iconst 0, 1) := by decide +kernel
theorem d_Mod_rounded_24 : decode b_Mod_rounded 24 = .ok (.iconst 2, 1) := by decide +kernel
theorem d_Mod_rounded_25 : decode b_Mod_rounded 25 = .ok (.iconst 0, 1) := by decide +kernel
theorem d_Mod_rounded_26 : decode b_Mod_rounded 26 = .ok (.invokevirtual 26, 3) := by decide +kernel
theorem d_Mod_rounded_29 : decode b_Mod_rounded 29 = .ok (.aload_n 0, 1) := by decide +kernel
theorem d_Mod_rounded_30 : decode b_Mod_rounded 30 = .ok (.iconst 0, 1) := by decide +kernel
theorem d_Mod_rounded_31 : decode b_Mod_rounded 31 = .ok (.iconst 1, 1) := by decide +kernel
theorem d_Mod_rounded_32 : decode b_Mod_rounded 32 = .ok (.invokevirtual 53, 3) := by decide +kernel
theorem d_Mod_rounded_35 : decode b_Mod_rounded 35 = .ok (.istore 11, 2) := by decide +kernel
theorem d_Mod_rounded_37 : decode b_Mod_rounded 37 = .ok (.lload 7, 2) := by decide +kernel
theorem d_Mod_rounded_39 : decode b_Mod_rounded 39 = .ok (.lconst 1, 1) := by decide +kernel
theorem d_Mod_rounded_40 : decode b_Mod_rounded 40 = .ok (.iload 5, 2) := by decide +kernel
theorem d_Mod_rounded_42 : decode b_Mod_rounded 42 = .ok (.lshl, 1) := by decide +kernel
theorem d_Mod_rounded_43 : decode b_Mod_rounded 43 = .ok (.lcmp, 1) := by decide +kernel
theorem d_Mod_rounded_44 : decode b_Mod_rounded 44 = .ok (.ifCond .lt 69, 3) := by decide +kernel
theorem d_Mod_rounded_47 : decode b_Mod_rounded 47 = .ok (.lload 7, 2) := by decide +kernel
theorem d_Mod_rounded_49 : decode b_Mod_rounded 49 = .ok (.lconst 1, 1) := by decide +kernel
theorem d_Mod_rounded_50 : decode b_Mod_rounded 50 = .ok (.land, 1) := by decide +kernel
theorem d_Mod_rounded_51 : decode b_Mod_rounded 51 = .ok (.lconst 1, 1) := by decide +kernel
theorem d_Mod_rounded_52 : decode b_Mod_rounded 52 = .ok (.lcmp, 1) := by decide +kernel
theorem d_Mod_rounded_53 : decode b_Mod_rounded 53 = .ok (.ifCond .ne 7, 3) := by decide +kernel
theorem d_Mod_rounded_56 : decode b_Mod_rounded 56 = .ok (.iconst 1, 1) := by decide +kernel
theorem d_Mod_rounded_57 : decode b_Mod_rounded 57 = .ok (.goto 4, 3) := by decide +kernel
theorem d_Mod_rounded_60 : decode b_Mod_rounded 60 = .ok (.iconst 0, 1) := by decide +kernel
theorem d_Mod_rounded_61 : decode b_Mod_rounded 61 = .ok (.istore 12, 2) := by decide +kernel
theorem d_Mod_rounded_63 : decode b_Mod_rounded 63 = .ok (.iload 12, 2) := by decide +kernel
theorem d_Mod_rounded_65 : decode b_Mod_rounded 65 = .ok (.ifCond .eq 16, 3) := by decide +kernel
theorem d_Mod_rounded_68 : decode b_Mod_rounded 68 = .ok (.iload 10, 2) := by decide +kernel
theorem d_Mod_rounded_70 : decode b_Mod_rounded 70 = .ok (.ifCond .eq 7, 3) := by decide +kernel
theorem d_Mod_rounded_73 : decode b_Mod_rounded 73 = .ok (.iconst 1, 1) := by decide +kernel
theorem d_Mod_rounded_74 : decode b_Mod_rounded 74 = .ok (.goto 8, 3) := by decide +kernel
theorem d_Mod_rounded_77 : decode b_Mod_rounded 77 = .ok (.iconst 0, 1) := by decide +kernel
theorem d_Mod_rounded_78 : decode b_Mod_rounded 78 = .ok (.goto 4, 3) := by decide +kernel
theorem d_Mod_rounded_81 : decode b_Mod_rounded 81 = .ok (.iconst (-1), 1) := by decide +kernel
theorem d_Mod_rounded_82 : decode b_Mod_rounded 82 = .ok (.istore 11, 2) := by decide +kernel
theorem d_Mod_rounded_84 : decode b_Mod_rounded 84 = .ok (.iload 10, 2) := by decide +kernel
theorem d_Mod_rounded_86 : decode b_Mod_rounded 86 = .ok (.ifCond .ne 8, 3) := by decide +kernel
theorem d_Mod_rounded_89 : decode b_Mod_rounded 89 = .ok (.iload 12, 2) := by decide +kernel
theorem d_Mod_rounded_91 : decode b_Mod_rounded 91 = .ok (.ifCond .eq 7, 3) := by decide +kernel
theorem d_Mod_rounded_94 : decode b_Mod_rounded 94 = .ok (.iconst 1, 1) := by decide +kernel
theorem d_Mod_rounded_95 : decode b_Mod_rounded 95 = .ok (.goto 4, 3) := by decide +kernel
theorem d_Mod_rounded_98 : decode b_Mod_rounded 98 = .ok (.iconst 0, 1) := by decide +kernel
theorem d_Mod_rounded_99 : decode b_Mod_rounded 99 = .ok (.istore 10, 2) := by decide +kernel
theorem d_Mod_rounded_101 : decode b_Mod_rounded 101 = .ok (.lload 7, 2) := by decide +kernel
theorem d_Mod_rounded_103 : decode b_Mod_rounded 103 = .ok (.iconst 1, 1) := by decide +kernel
theorem d_Mod_rounded_104 : decode b_Mod_rounded 104 = .ok (.lshr, 1) := by decide +kernel
theorem d_Mod_rounded_105 : decode b_Mod_rounded 105 = .ok (.lstore 7, 2) := by decide +kernel
theorem d_Mod_rounded_107 : decode b_Mod_rounded 107 = .ok (.iinc 9 1, 3) := by decide +kernel
theorem d_Mod_rounded_110 : decode b_Mod_rounded 110 = .ok (.goto (-73), 3) := by decide +kernel
theorem d_Mod_rounded_113 : decode b_Mod_rounded 113 = .ok (.iload 11, 2) := by decide +kernel
theorem d_Mod_rounded_115 : decode b_Mod_rounded 115 = .ok (.ifCond .gt 17, 3) := by decide +kernel
theorem d_Mod_rounded_118 : decode b_Mod_rounded 118 = .ok (.iload 11, 2) := by decide +kernel
theorem d_Mod_rounded_120 : decode b_Mod_rounded 120 = .ok (.ifCond .ne 16, 3) := by decide +kernel
theorem d_Mod_rounded_123 : decode b_Mod_rounded 123 = .ok (.lload 7, 2) := by decide +kernel
theorem d_Mod_rounded_125 : decode b_Mod_rounded 125 = .ok (.lconst 1, 1) := by decide +kernel
theorem d_Mod_rounded_126 : decode b_Mod_rounded 126 = .ok (.land, 1) := by decide +kernel
theorem d_Mod_rounded_127 : decode b_Mod_rounded 127 = .ok (.lconst 1, 1) := by decide +kernel
theorem d_Mod_rounded_128 : decode b_Mod_rounded 128 = .ok (.lcmp, 1) := by decide +kernel
theorem d_Mod_rounded_129 : decode b_Mod_rounded 129 = .ok (.ifCond .ne 7, 3) := by decide +kernel
theorem d_Mod_rounded_132 : decode b_Mod_rounded 132 = .ok (.iconst 1, 1) := by decide +kernel
theorem d_Mod_rounded_133 : decode b_Mod_rounded 133 = .ok (.goto 4, 3) := by decide +kernel
theorem d_Mod_rounded_136 : decode b_Mod_rounded 136 = .ok (.iconst 0, 1) := by decide +kernel
theorem d_Mod_rounded_137 : decode b_Mod_rounded 137 = .ok (.istore 12, 2) := by decide +kernel
theorem d_Mod_rounded_139 : decode b_Mod_rounded 139 = .ok (.iload 12, 2) := by decide +kernel
theorem d_Mod_rounded_141 : decode b_Mod_rounded 141 = .ok (.ifCond .eq 10, 3) := by decide +kernel
theorem d_Mod_rounded_144 : decode b_Mod_rounded 144 = .ok (.lload 7, 2) := by decide +kernel
theorem d_Mod_rounded_146 : decode b_Mod_rounded 146 = .ok (.lconst 1, 1) := by decide +kernel
theorem d_Mod_rounded_147 : decode b_Mod_rounded 147 = .ok (.ladd, 1) := by decide +kernel
theorem d_Mod_rounded_148 : decode b_Mod_rounded 148 = .ok (.goto 5, 3) := by decide +kernel
theorem d_Mod_rounded_151 : decode b_Mod_rounded 151 = .ok (.lload 7, 2) := by decide +kernel
theorem d_Mod_rounded_153 : decode b_Mod_rounded 153 = .ok (.lstore 7, 2) := by decide +kernel
theorem d_Mod_rounded_155 : decode b_Mod_rounded 155 = .ok (.lload 7, 2) := by decide +kernel
theorem d_Mod_rounded_157 : decode b_Mod_rounded 157 = .ok (.lconst 1, 1) := by decide +kernel
theorem d_Mod_rounded_158 : decode b_Mod_rounded 158 = .ok (.iload 5, 2) := by decide +kernel
theorem d_Mod_rounded_160 : decode b_Mod_rounded 160 = .ok (.lshl, 1) := by decide +kernel
theorem d_Mod_rounded_161 : decode b_Mod_rounded 161 = .ok (.lcmp, 1) := by decide +kernel
theorem d_Mod_rounded_162 : decode b_Mod_rounded 162 = .ok (.ifCond .ne 12, 3) := by decide +kernel
theorem d_Mod_rounded_165 : decode b_Mod_rounded 165 = .ok (.lload 7, 2) := by decide +kernel
theorem d_Mod_rounded_167 : decode b_Mod_rounded 167 = .ok (.iconst 1, 1) := by decide +kernel
theorem d_Mod_rounded_168 : decode b_Mod_rounded 168 = .ok (.lshr, 1) := by decide +kernel
theorem d_Mod_rounded_169 : decode b_Mod_rounded 169 = .ok (.lstore 7, 2) := by decide +kernel
theorem d_Mod_rounded_171 : decode b_Mod_rounded 171 = .ok (.iinc 9 1, 3) := by decide +kernel
theorem d_Mod_rounded_174 : decode b_Mod_rounded 174 = .ok (.lconst 1, 1) := by decide +kernel
theorem d_Mod_rounded_175 : decode b_Mod_rounded 175 = .ok (.iload 5, 2) := by decide +kernel
theorem d_Mod_rounded_177 : decode b_Mod_rounded 177 = .ok (.iconst 1, 1) := by decide +kernel
theorem d_Mod_rounded_178 : decode b_Mod_rounded 178 = .ok (.isub, 1) := by decide +kernel
theorem d_Mod_rounded_179 : decode b_Mod_rounded 179 = .ok (.lshl, 1) := by decide +kernel
theorem d_Mod_rounded_180 : decode b_Mod_rounded 180 = .ok (.lstore 13, 2) := by decide +kernel
theorem d_Mod_rounded_182 : decode b_Mod_rounded 182 = .ok (.lload 7, 2) := by decide +kernel
theorem d_Mod_rounded_184 : decode b_Mod_rounded 184 = .ok (.lload 13, 2) := by decide +kernel
theorem d_Mod_rounded_186 : decode b_Mod_rounded 186 = .ok (.lcmp, 1) := by decide +kernel
theorem d_Mod_rounded_187 : decode b_Mod_rounded 187 = .ok (.ifCond .ge 6, 3) := by decide +kernel
theorem d_Mod_rounded_190 : decode b_Mod_rounded 190 = .ok (.lload 7, 2) := by decide +kernel
theorem d_Mod_rounded_192 : decode b_Mod_rounded 192 = .ok (.lreturn, 1) := by decide +kernel
theorem d_Mod_rounded_193 : decode b_Mod_rounded 193 = .ok (.iload 9, 2) := by decide +kernel
theorem d_Mod_rounded_195 : decode b_Mod_rounded 195 = .ok (.iload 6, 2) := by decide +kernel
theorem d_Mod_rounded_197 : decode b_Mod_rounded 197 = .ok (.isub, 1) := by decide +kernel
theorem d_Mod_rounded_198 : decode b_Mod_rounded 198 = .ok (.iconst 1, 1) := by decide +kernel
theorem d_Mod_rounded_199 : decode b_Mod_rounded 199 = .ok (.iadd, 1) := by decide +kernel
theorem d_Mod_rounded_200 : decode b_Mod_rounded 200 = .ok (.i2l, 1) := by decide +kernel
theorem d_Mod_rounded_201 : decode b_Mod_rounded 201 = .ok (.lstore 15, 2) := by decide +kernel
theorem d_Mod_rounded_203 : decode b_Mod_rounded 203 = .ok (.lload 15, 2) := by decide +kernel
theorem d_Mod_rounded_205 : decode b_Mod_rounded 205 = .ok (.iload 4, 2) := by decide +kernel
theorem d_Mod_rounded_207 : decode b_Mod_rounded 207 = .ok (.ifCond .eq 9, 3) := by decide +kernel
theorem d_Mod_rounded_210 : decode b_Mod_rounded 210 = .ok (.ldc2_w 70, 3) := by decide +kernel
theorem d_Mod_rounded_213 : decode b_Mod_rounded 213 = .ok (.goto 6, 3) := by decide +kernel
theorem d_Mod_rounded_216 : decode b_Mod_rounded 216 = .ok (.ldc2_w 72, 3) := by decide +kernel
theorem d_Mod_rounded_219 : decode b_Mod_rounded 219 = .ok (.lcmp, 1) := by decide +kernel
theorem d_Mod_rounded_220 : decode b_Mod_rounded 220 = .ok (.ifCond .lt 11, 3) := by decide +kernel
theorem d_Mod_rounded_223 : decode b_Mod_rounded 223 = .ok (.iload 4, 2) := by decide +kernel
theorem d_Mod_rounded_225 : decode b_Mod_rounded 225 = .ok (.invokestatic 46, 3) := by decide +kernel
theorem d_Mod_rounded_228 : decode b_Mod_rounded 228 = .ok (.goto 16, 3) := by decide +kernel
theorem d_Mod_rounded_231 : decode b_Mod_rounded 231 = .ok (.lload 15, 2) := by decide +kernel
theorem d_Mod_rounded_233 : decode b_Mod_rounded 233 = .ok (.iload 5, 2) := by decide +kernel
theorem d_Mod_rounded_235 : decode b_Mod_rounded 235 = .ok (.iconst 1, 1) := by decide +kernel
theorem d_Mod_rounded_236 : decode b_Mod_rounded 236 = .ok (.isub, 1) := by decide +kernel
theorem d_Mod_rounded_237 : decode b_Mod_rounded 237 = .ok (.lshl, 1) := by decide +kernel
theorem d_Mod_rounded_238 : decode b_Mod_rounded 238 = .ok (.lload 7, 2) := by decide +kernel
theorem d_Mod_rounded_240 : decode b_Mod_rounded 240 = .ok (.lload 13, 2) := by decide +kernel
theorem d_Mod_rounded_242 : decode b_Mod_rounded 242 = .ok (.lsub, 1) := by decide +kernel
theorem d_Mod_rounded_243 : decode b_Mod_rounded 243 = .ok (.ladd, 1) := by decide +kernel
theorem d_Mod_rounded_244 : decode b_Mod_rounded 244 = .ok (.lreturn, 1) := by decide +kernel
set_option maxHeartbeats 4000000 in
set_option maxRecDepth 100000 in
theorem c_Mod_lessen (l : Launch) (D : va_G) (E : evD) (md xx mm nn : Nat) (cM cN : ClassId) (V : Nat → Nat) (ln rd at0 en0 : Int32) (R : Int64) (a b : Nat) (ha : a < 3) (hb3 : b < 3) (hne : b ≠ a) (hla : lc (V a) ≤ 999) (hlb : lc (V b) ≤ 999) (hle : V b ≤ V a) : Cv (S := Unit) l y_Mod_lessen (wz y_Mod_lessen b_Mod_lessen 6 none) ({ frames := 1, cells := 0, slots := 0, locals := 23 }) D vcl (ev1 E) [.ref md, .int (nI a), .int (nI b)] [(cM, .int), (cN, .int)] [(md, .inr (5, [.ref xx, .int ln, .long R, .int rd, .ref mm, .ref nn, .int at0, .int en0])), (mm, .inl (cM, 3000, .inl (rw16 V))), (nn, .inl (cN, 3, .inl (rc V)))] 0 0 (fun _ : Unit => True) (fun _ => [(cM, .int), (cN, .int)]) (fun _ : Unit => [(md, .inr (5, [.ref xx, .int ln, .long R, .int rd, .ref mm, .ref nn, .int at0, .int en0])), (mm, .inl (cM, 3000, .inl (rw16 (upR V a (V a - V b))))), (nn, .inl (cN, 3, .inl (rc (upR V a (V a - V b)))))]) := by
  have hev := ev1_ok E
  unfold Cv
  refine ct_of (y := y_Mod_lessen) (av := [.ref md, .int (nI a), .int (nI b)]) (cc := b_Mod_lessen) (maxL := 6) (ret := none) (Qc := fun A => va_Qv (S := Unit) (fun _ : Unit => True) (fun u tS => ctB D vcl ((fun _ => [(cM, .int), (cN, .int)]) u) ((fun _ : Unit => [(md, .inr (5, [.ref xx, .int ln, .long R, .int rd, .ref mm, .ref nn, .int at0, .int en0])), (mm, .inl (cM, 3000, .inl (rw16 (upR V a (V a - V b))))), (nn, .inl (cN, 3, .inl (rc (upR V a (V a - V b)))))]) u) A tS) A) (by decide) rfl (Nat.le_of_ble_eq_true rfl) ?_
  intro p ee s m below meth cde ls A H locs hx hb hml hrt hlocks hown hin hts hA hP hK hD hS hE hl
  have hown : s.vm.findClass R_Mod = some m.cls := hown
  have hts := wz_g hts
  have hl : lv_has ls 6 [(0, .ref md), (1, .int (nI a)), (2, .int (nI b))] := hl
  have hWl : V a - V b < 65536 ^ lc (V a) := Nat.lt_of_le_of_lt (Nat.sub_le _ _) (lc_lt _)
  refine lv_iconst (v := 0) hx hb d_Mod_lessen_0 (by decide) ?_
  refine tv_i (nI (brw (V a) (V b) 0)) (by rw [brw_0]; rfl) ?_
  refine lv_istore_n (lv' := [(3, .int (nI (brw (V a) (V b) 0))), (0, .ref md), (1, .int (nI a)), (2, .int (nI b))]) hx hb d_Mod_lessen_1 rfl hl (by decide) rfl (fun ls hl => ?_)
  refine lv_iconst (v := 0) hx hb d_Mod_lessen_2 (by decide) ?_
  refine tv_i (nI 0) (rfl) ?_
  refine lv_istore (lv' := [(4, .int (nI 0)), (3, .int (nI (brw (V a) (V b) 0))), (0, .ref md), (1, .int (nI a)), (2, .int (nI b))]) hx hb d_Mod_lessen_3 hl (by decide) rfl (fun ls hl => ?_)
  have L5 : ∀ (kk : Nat) (k : Nat), lc (V a) - k < kk → (k ≤ lc (V a)) → ∀ (H : Heap) (locs : List Loc) (ls : Array Slot), va_P D vcl [(md, .inr (5, [.ref xx, .int ln, .long R, .int rd, .ref mm, .ref nn, .int at0, .int en0])), (mm, .inl (cM, 3000, .inl (mx V a k (V a - V b)))), (nn, .inl (cN, 3, .inl (rc V)))] H → va_D A [(md, .inr (5, [.ref xx, .int ln, .long R, .int rd, .ref mm, .ref nn, .int at0, .int en0])), (mm, .inl (cM, 3000, .inl (mx V a k (V a - V b)))), (nn, .inl (cN, 3, .inl (rc V)))] → va_S A s.heap H locs → lv_has ls 6 [(0, .ref md), (1, .int (nI a)), (2, .int (nI b)), (3, .int (nI (brw (V a) (V b) k))), (4, .int (nI k))] → W p l ee ({ frames := 1, cells := 0, slots := 0, locals := 23 }) s m ([.ref md, .int (nI a), .int (nI b)] : List Value).toArray below meth cde H locs 0 0 (MQ below (va_Qv (S := Unit) (fun _ : Unit => True) (fun u tS => ctB D vcl ((fun _ => [(cM, .int), (cN, .int)]) u) ((fun _ : Unit => [(md, .inr (5, [.ref xx, .int ln, .long R, .int rd, .ref mm, .ref nn, .int at0, .int en0])), (mm, .inl (cM, 3000, .inl (rw16 (upR V a (V a - V b))))), (nn, .inl (cN, 3, .inl (rc (upR V a (V a - V b)))))]) u) A tS) A) ([.ref md, .int (nI a), .int (nI b)] : List Value).toArray s 0 0 A) (F0 m 5 ls []) := by
    intro kk
    induction kk with
    | zero => intro k hmz; exact absurd hmz (Nat.not_lt_zero _)
    | succ kk ih =>
      intro k hmz hk H locs ls hP hD hS hl
      have hst := s_step (k := k) hle
      have l1 := dig_lt (V a) k
      have l2 := dig_lt (V b) k
      have l3 := dig_lt (V a - V b) k
      have l4 : brw (V a) (V b) k ≤ 1 := by unfold brw; split <;> decide
      have l5 : brw (V a) (V b) (k + 1) ≤ 1 := by unfold brw; split <;> decide
      refine lv_iload hx hb d_Mod_lessen_5 (lv_at hl 4 rfl) ?_
      refine lv_aload_n hx hb d_Mod_lessen_7 rfl (lv_at hl 0 rfl) ?_
      refine va_get (D := D) (ci := 5) (v := .ref nn) (C := R_Mod) (T := F_Mod) (N := 8) hx hb hts w_Mod hown hK hP 0 rfl rfl 5 (by decide) (hts _ kF_Mod_16) (fun _ h9 => h9) rfl d_Mod_lessen_8 ?_
      refine lv_iload_n hx hb d_Mod_lessen_11 rfl (lv_at hl 1 rfl) ?_
      refine va_iald hx hb hK hP 2 1 rfl rfl (i := nI a) (vp_in_nI (show a < 3 by omega) (by decide)) d_Mod_lessen_12 ?_
      refine tv_i (nI (lc (V a))) (by rw [nI_clamp (by omega)]; rfl) ?_
      refine lv_icmp_ge (tgt := 97) hx hb d_Mod_lessen_13 (by decide) (fun c13 => ?_) (fun c13 => ?_)
      · have e13 : k = lc (V a) := by have := (nI_leI (by omega) (by omega)).mp c13; omega
        rw [e13] at hP hD
        rw [show mx V a (lc (V a)) (V a - V b) = rw16 (upR V a (V a - V b)) from mx_e (lc_lt _) hWl] at hP hD
        refine lv_aload_n hx hb d_Mod_lessen_97 rfl (lv_at hl 0 rfl) ?_
        refine lv_iload_n hx hb d_Mod_lessen_98 rfl (lv_at hl 1 rfl) ?_
        refine lv_aload_n hx hb d_Mod_lessen_99 rfl (lv_at hl 0 rfl) ?_
        refine va_get (D := D) (ci := 5) (v := .ref nn) (C := R_Mod) (T := F_Mod) (N := 8) hx hb hts w_Mod hown hK hP 0 rfl rfl 5 (by decide) (hts _ kF_Mod_16) (fun _ h9 => h9) rfl d_Mod_lessen_100 ?_
        refine lv_iload_n hx hb d_Mod_lessen_103 rfl (lv_at hl 1 rfl) ?_
        refine va_iald hx hb hK hP 2 1 rfl rfl (i := nI a) (vp_in_nI (show a < 3 by omega) (by decide)) d_Mod_lessen_104 ?_
        refine tv_i (nI (lc (V a))) (by rw [nI_clamp (by omega)]; rfl) ?_
        refine ca_v [] (va_runV (As := [.int (nI a), .int (nI (lc (V a)))]) (rest := []) ⟨hx, hb, hml, hown, hts⟩ (c_Mod_trim l D E md xx mm nn cM cN V ln rd at0 en0 R a (V a - V b) (lc (V a)) (ha) (by omega) (hWl) H.size) (xV 2 hts kC_Mod_trim kM_Mod_21 kI_Mod_trim kS_Mod_trim kN_Mod rfl rfl (by decide +kernel) ⟨Nat.le_of_ble_eq_true rfl, Nat.le_of_ble_eq_true rfl⟩) ⟨ct_blind hev, va_recv hK hP (ci := 5) (q0 := 0) rfl rfl, ct_pre hev hP hK hD hS hA hE [0, 1, 2] rfl (by decide) [0, 1] rfl⟩ rfl rfl hl.1 rfl (lv_room (Nat.le_of_ble_eq_true rfl)) d_Mod_lessen_105 ⟨Nat.le_of_ble_eq_true rfl, Nat.le_of_ble_eq_true rfl⟩) hP hD hS hA [0, 1, 2] [] rfl rfl (by decide) (by decide) (fun u H locs hw hP hD hS hK1 => ?_)
        have hP : va_P D vcl [(md, .inr (5, [.ref xx, .int ln, .long R, .int rd, .ref mm, .ref nn, .int at0, .int en0])), (mm, .inl (cM, 3000, .inl (rw16 (upR V a (V a - V b))))), (nn, .inl (cN, 3, .inl (rc (upR V a (V a - V b)))))] H := hP
        have hD : va_D A [(md, .inr (5, [.ref xx, .int ln, .long R, .int rd, .ref mm, .ref nn, .int at0, .int en0])), (mm, .inl (cM, 3000, .inl (rw16 (upR V a (V a - V b))))), (nn, .inl (cN, 3, .inl (rc (upR V a (V a - V b)))))] := hD
        exact rt_v hx hb hrt hlocks (()) (trivial) (hP.sub [0, 1, 2] rfl) (hK.sub [0, 1] rfl) (hD.sub [0, 1, 2] (by decide) rfl) hS d_Mod_lessen_108
      · have e13 : k < lc (V a) := Nat.lt_of_not_le (fun z => c13 ((nI_leI (by omega) (by omega)).mpr z))
        refine lv_aload_n hx hb d_Mod_lessen_16 rfl (lv_at hl 0 rfl) ?_
        refine va_get (D := D) (ci := 5) (v := .ref mm) (C := R_Mod) (T := F_Mod) (N := 8) hx hb hts w_Mod hown hK hP 0 rfl rfl 4 (by decide) (hts _ kF_Mod_13) (fun _ h9 => h9) rfl d_Mod_lessen_17 ?_
        refine lv_sipush (v := 1000) hx hb d_Mod_lessen_20 (by decide) ?_
        refine lv_iload_n hx hb d_Mod_lessen_23 rfl (lv_at hl 1 rfl) ?_
        refine lv_imul hx hb d_Mod_lessen_24 ?_
        refine lv_iload hx hb d_Mod_lessen_25 (lv_at hl 4 rfl) ?_
        refine lv_iadd hx hb d_Mod_lessen_27 ?_
        refine tv_i (nI (1000 * a + k)) (i1000) ?_
        refine va_iald hx hb hK hP 1 0 rfl rfl (i := nI (1000 * a + k)) (vp_in_nI (show 1000 * a + (k) < 3000 by omega) (by decide)) d_Mod_lessen_28 ?_
        refine tv_i (nI (dig (V a) (k))) (by rw [nI_clamp (by omega)]; exact mx_ge (by omega) (Nat.le_refl k)) ?_
        refine lv_iload hx hb d_Mod_lessen_29 (lv_at hl 4 rfl) ?_
        refine lv_aload_n hx hb d_Mod_lessen_31 rfl (lv_at hl 0 rfl) ?_
        refine va_get (D := D) (ci := 5) (v := .ref nn) (C := R_Mod) (T := F_Mod) (N := 8) hx hb hts w_Mod hown hK hP 0 rfl rfl 5 (by decide) (hts _ kF_Mod_16) (fun _ h9 => h9) rfl d_Mod_lessen_32 ?_
        refine lv_iload_n hx hb d_Mod_lessen_35 rfl (lv_at hl 2 rfl) ?_
        refine va_iald hx hb hK hP 2 1 rfl rfl (i := nI b) (vp_in_nI (show b < 3 by omega) (by decide)) d_Mod_lessen_36 ?_
        refine tv_i (nI (lc (V b))) (by rw [nI_clamp (by omega)]; rfl) ?_
        refine lv_icmp_ge (tgt := 56) hx hb d_Mod_lessen_37 (by decide) (fun c37 => ?_) (fun c37 => ?_)
        · have e37 : lc (V b) ≤ k := (nI_leI (by omega) (by omega)).mp c37
          refine lv_iconst (v := 0) hx hb d_Mod_lessen_56 (by decide) ?_
          refine tv_i (nI (dig (V b) k)) (by rw [dig_hi (Nat.lt_of_lt_of_le (lc_lt (V b)) (p16_le e37))]; rfl) ?_
          refine lv_isub hx hb d_Mod_lessen_57 ?_
          refine lv_iload_n hx hb d_Mod_lessen_58 rfl (lv_at hl 3 rfl) ?_
          refine lv_isub hx hb d_Mod_lessen_59 ?_
          refine tv_i (zI ((dig (V a) k : Int) - dig (V b) k - brw (V a) (V b) k)) (by rw [← zI_nI, ← zI_nI, ← zI_nI, zI_sub, zI_sub]) ?_
          refine lv_istore (lv' := [(5, .int (zI ((dig (V a) k : Int) - dig (V b) k - brw (V a) (V b) k))), (0, .ref md), (1, .int (nI a)), (2, .int (nI b)), (3, .int (nI (brw (V a) (V b) k))), (4, .int (nI k))]) hx hb d_Mod_lessen_60 hl (by decide) rfl (fun ls hl => ?_)
          refine lv_iload hx hb d_Mod_lessen_62 (lv_at hl 0 rfl) ?_
          refine lv_if_ge (tgt := 71) hx hb d_Mod_lessen_64 (by decide) (fun c64 => ?_) (fun c64 => ?_)
          · have e64 : brw (V a) (V b) (k + 1) = 0 := by have := (zI_le (a := 0) (by omega) (by omega) (by omega) (by omega)).mp c64; omega
            refine lv_iconst (v := 0) hx hb d_Mod_lessen_71 (by decide) ?_
            refine tv_i (nI (brw (V a) (V b) (k + 1))) (by rw [e64]; rfl) ?_
            refine lv_istore_n (lv' := [(3, .int (nI (brw (V a) (V b) (k + 1)))), (5, .int (zI ((dig (V a) k : Int) - dig (V b) k - brw (V a) (V b) k))), (0, .ref md), (1, .int (nI a)), (2, .int (nI b)), (4, .int (nI k))]) hx hb d_Mod_lessen_72 rfl hl (by decide) rfl (fun ls hl => ?_)
            refine lv_aload_n hx hb d_Mod_lessen_73 rfl (lv_at hl 2 rfl) ?_
            refine va_get (D := D) (ci := 5) (v := .ref mm) (C := R_Mod) (T := F_Mod) (N := 8) hx hb hts w_Mod hown hK hP 0 rfl rfl 4 (by decide) (hts _ kF_Mod_13) (fun _ h9 => h9) rfl d_Mod_lessen_74 ?_
            refine lv_sipush (v := 1000) hx hb d_Mod_lessen_77 (by decide) ?_
            refine lv_iload_n hx hb d_Mod_lessen_80 rfl (lv_at hl 3 rfl) ?_
            refine lv_imul hx hb d_Mod_lessen_81 ?_
            refine lv_iload hx hb d_Mod_lessen_82 (lv_at hl 5 rfl) ?_
            refine lv_iadd hx hb d_Mod_lessen_84 ?_
            refine tv_i (nI (1000 * a + k)) (i1000) ?_
            refine lv_iload hx hb d_Mod_lessen_85 (lv_at hl 1 rfl) ?_
            refine lv_ldc hx hb hown (hts _ kK_Mod_25) d_Mod_lessen_87 ?_
            refine lv_iand hx hb d_Mod_lessen_89 ?_
            refine tv_i (nI (dig (V a - V b) k)) (z_and (b := brw (V a) (V b) (k + 1)) (by omega) l3 l5) ?_
            refine va_iast hx hb hK hP hD hS 1 0 rfl rfl (i := nI (1000 * a + k)) (vp_in_nI (show 1000 * a + k < 3000 by omega) (by decide)) d_Mod_lessen_90 (fun H locs hP hD hS => ?_)
            have hP : va_P D vcl [(md, .inr (5, [.ref xx, .int ln, .long R, .int rd, .ref mm, .ref nn, .int at0, .int en0])), (mm, .inl (cM, 3000, .inl (upd (mx V a k (V a - V b)) (nI (1000 * a + k)).toNatClampNeg (nI (dig (V a - V b) k))))), (nn, .inl (cN, 3, .inl (rc V)))] H := hP
            have hD : va_D A [(md, .inr (5, [.ref xx, .int ln, .long R, .int rd, .ref mm, .ref nn, .int at0, .int en0])), (mm, .inl (cM, 3000, .inl (upd (mx V a k (V a - V b)) (nI (1000 * a + k)).toNatClampNeg (nI (dig (V a - V b) k))))), (nn, .inl (cN, 3, .inl (rc V)))] := hD
            rw [show upd (mx V a k (V a - V b)) (nI (1000 * a + k)).toNatClampNeg (nI (dig (V a - V b) k)) = mx V a (k + 1) (V a - V b) from by rw [nI_clamp (by omega), mx_s (by omega)]] at hP hD
            refine lv_iinc (v := nI (k + 1)) (lv' := [(4, .int (nI (k + 1))), (3, .int (nI (brw (V a) (V b) (k + 1)))), (5, .int (zI ((dig (V a) k : Int) - dig (V b) k - brw (V a) (V b) k))), (0, .ref md), (1, .int (nI a)), (2, .int (nI b))]) hx hb d_Mod_lessen_91 hl (k := 5) rfl (nI_1 k) (by decide) rfl (fun ls hl => ?_)
            refine lv_goto (tgt := 5) hx hb d_Mod_lessen_94 (by decide) ?_
            exact ih (k + 1) (by omega) (by omega) _ _ _ (hP.sub [0, 1, 2] rfl) (hD.sub [0, 1, 2] (by decide) rfl) hS (lv_sub hl [3, 4, 5, 1, 0] rfl)
          · have e64 : brw (V a) (V b) (k + 1) = 1 := by have := mt (zI_le (a := 0) (by omega) (by omega) (by omega) (by omega)).mpr c64; omega
            refine lv_iconst (v := 1) hx hb d_Mod_lessen_67 (by decide) ?_
            refine tv_i (nI (brw (V a) (V b) (k + 1))) (by rw [e64]; rfl) ?_
            refine lv_goto (tgt := 72) hx hb d_Mod_lessen_68 (by decide) ?_
            refine lv_istore_n (lv' := [(3, .int (nI (brw (V a) (V b) (k + 1)))), (5, .int (zI ((dig (V a) k : Int) - dig (V b) k - brw (V a) (V b) k))), (0, .ref md), (1, .int (nI a)), (2, .int (nI b)), (4, .int (nI k))]) hx hb d_Mod_lessen_72 rfl hl (by decide) rfl (fun ls hl => ?_)
            refine lv_aload_n hx hb d_Mod_lessen_73 rfl (lv_at hl 2 rfl) ?_
            refine va_get (D := D) (ci := 5) (v := .ref mm) (C := R_Mod) (T := F_Mod) (N := 8) hx hb hts w_Mod hown hK hP 0 rfl rfl 4 (by decide) (hts _ kF_Mod_13) (fun _ h9 => h9) rfl d_Mod_lessen_74 ?_
            refine lv_sipush (v := 1000) hx hb d_Mod_lessen_77 (by decide) ?_
            refine lv_iload_n hx hb d_Mod_lessen_80 rfl (lv_at hl 3 rfl) ?_
            refine lv_imul hx hb d_Mod_lessen_81 ?_
            refine lv_iload hx hb d_Mod_lessen_82 (lv_at hl 5 rfl) ?_
            refine lv_iadd hx hb d_Mod_lessen_84 ?_
            refine tv_i (nI (1000 * a + k)) (i1000) ?_
            refine lv_iload hx hb d_Mod_lessen_85 (lv_at hl 1 rfl) ?_
            refine lv_ldc hx hb hown (hts _ kK_Mod_25) d_Mod_lessen_87 ?_
            refine lv_iand hx hb d_Mod_lessen_89 ?_
            refine tv_i (nI (dig (V a - V b) k)) (z_and (b := brw (V a) (V b) (k + 1)) (by omega) l3 l5) ?_
            refine va_iast hx hb hK hP hD hS 1 0 rfl rfl (i := nI (1000 * a + k)) (vp_in_nI (show 1000 * a + k < 3000 by omega) (by decide)) d_Mod_lessen_90 (fun H locs hP hD hS => ?_)
            have hP : va_P D vcl [(md, .inr (5, [.ref xx, .int ln, .long R, .int rd, .ref mm, .ref nn, .int at0, .int en0])), (mm, .inl (cM, 3000, .inl (upd (mx V a k (V a - V b)) (nI (1000 * a + k)).toNatClampNeg (nI (dig (V a - V b) k))))), (nn, .inl (cN, 3, .inl (rc V)))] H := hP
            have hD : va_D A [(md, .inr (5, [.ref xx, .int ln, .long R, .int rd, .ref mm, .ref nn, .int at0, .int en0])), (mm, .inl (cM, 3000, .inl (upd (mx V a k (V a - V b)) (nI (1000 * a + k)).toNatClampNeg (nI (dig (V a - V b) k))))), (nn, .inl (cN, 3, .inl (rc V)))] := hD
            rw [show upd (mx V a k (V a - V b)) (nI (1000 * a + k)).toNatClampNeg (nI (dig (V a - V b) k)) = mx V a (k + 1) (V a - V b) from by rw [nI_clamp (by omega), mx_s (by omega)]] at hP hD
            refine lv_iinc (v := nI (k + 1)) (lv' := [(4, .int (nI (k + 1))), (3, .int (nI (brw (V a) (V b) (k + 1)))), (5, .int (zI ((dig (V a) k : Int) - dig (V b) k - brw (V a) (V b) k))), (0, .ref md), (1, .int (nI a)), (2, .int (nI b))]) hx hb d_Mod_lessen_91 hl (k := 5) rfl (nI_1 k) (by decide) rfl (fun ls hl => ?_)
            refine lv_goto (tgt := 5) hx hb d_Mod_lessen_94 (by decide) ?_
            exact ih (k + 1) (by omega) (by omega) _ _ _ (hP.sub [0, 1, 2] rfl) (hD.sub [0, 1, 2] (by decide) rfl) hS (lv_sub hl [3, 4, 5, 1, 0] rfl)
        · have e37 : k < lc (V b) := Nat.lt_of_not_le (fun z => c37 ((nI_leI (by omega) (by omega)).mpr z))
          refine lv_aload_n hx hb d_Mod_lessen_40 rfl (lv_at hl 0 rfl) ?_
          refine va_get (D := D) (ci := 5) (v := .ref mm) (C := R_Mod) (T := F_Mod) (N := 8) hx hb hts w_Mod hown hK hP 0 rfl rfl 4 (by decide) (hts _ kF_Mod_13) (fun _ h9 => h9) rfl d_Mod_lessen_41 ?_
          refine lv_sipush (v := 1000) hx hb d_Mod_lessen_44 (by decide) ?_
          refine lv_iload_n hx hb d_Mod_lessen_47 rfl (lv_at hl 2 rfl) ?_
          refine lv_imul hx hb d_Mod_lessen_48 ?_
          refine lv_iload hx hb d_Mod_lessen_49 (lv_at hl 4 rfl) ?_
          refine lv_iadd hx hb d_Mod_lessen_51 ?_
          refine tv_i (nI (1000 * b + k)) (i1000) ?_
          refine va_iald hx hb hK hP 1 0 rfl rfl (i := nI (1000 * b + k)) (vp_in_nI (show 1000 * b + (k) < 3000 by omega) (by decide)) d_Mod_lessen_52 ?_
          refine tv_i (nI (dig (V b) (k))) (by rw [nI_clamp (by omega)]; exact mx_ne hne (by omega)) ?_
          refine lv_goto (tgt := 57) hx hb d_Mod_lessen_53 (by decide) ?_
          refine lv_isub hx hb d_Mod_lessen_57 ?_
          refine lv_iload_n hx hb d_Mod_lessen_58 rfl (lv_at hl 3 rfl) ?_
          refine lv_isub hx hb d_Mod_lessen_59 ?_
          refine tv_i (zI ((dig (V a) k : Int) - dig (V b) k - brw (V a) (V b) k)) (by rw [← zI_nI, ← zI_nI, ← zI_nI, zI_sub, zI_sub]) ?_
          refine lv_istore (lv' := [(5, .int (zI ((dig (V a) k : Int) - dig (V b) k - brw (V a) (V b) k))), (0, .ref md), (1, .int (nI a)), (2, .int (nI b)), (3, .int (nI (brw (V a) (V b) k))), (4, .int (nI k))]) hx hb d_Mod_lessen_60 hl (by decide) rfl (fun ls hl => ?_)
          refine lv_iload hx hb d_Mod_lessen_62 (lv_at hl 0 rfl) ?_
          refine lv_if_ge (tgt := 71) hx hb d_Mod_lessen_64 (by decide) (fun c64 => ?_) (fun c64 => ?_)
          · have e64 : brw (V a) (V b) (k + 1) = 0 := by have := (zI_le (a := 0) (by omega) (by omega) (by omega) (by omega)).mp c64; omega
            refine lv_iconst (v := 0) hx hb d_Mod_lessen_71 (by decide) ?_
            refine tv_i (nI (brw (V a) (V b) (k + 1))) (by rw [e64]; rfl) ?_
            refine lv_istore_n (lv' := [(3, .int (nI (brw (V a) (V b) (k + 1)))), (5, .int (zI ((dig (V a) k : Int) - dig (V b) k - brw (V a) (V b) k))), (0, .ref md), (1, .int (nI a)), (2, .int (nI b)), (4, .int (nI k))]) hx hb d_Mod_lessen_72 rfl hl (by decide) rfl (fun ls hl => ?_)
            refine lv_aload_n hx hb d_Mod_lessen_73 rfl (lv_at hl 2 rfl) ?_
            refine va_get (D := D) (ci := 5) (v := .ref mm) (C := R_Mod) (T := F_Mod) (N := 8) hx hb hts w_Mod hown hK hP 0 rfl rfl 4 (by decide) (hts _ kF_Mod_13) (fun _ h9 => h9) rfl d_Mod_lessen_74 ?_
            refine lv_sipush (v := 1000) hx hb d_Mod_lessen_77 (by decide) ?_
            refine lv_iload_n hx hb d_Mod_lessen_80 rfl (lv_at hl 3 rfl) ?_
            refine lv_imul hx hb d_Mod_lessen_81 ?_
            refine lv_iload hx hb d_Mod_lessen_82 (lv_at hl 5 rfl) ?_
            refine lv_iadd hx hb d_Mod_lessen_84 ?_
            refine tv_i (nI (1000 * a + k)) (i1000) ?_
            refine lv_iload hx hb d_Mod_lessen_85 (lv_at hl 1 rfl) ?_
            refine lv_ldc hx hb hown (hts _ kK_Mod_25) d_Mod_lessen_87 ?_
            refine lv_iand hx hb d_Mod_lessen_89 ?_
            refine tv_i (nI (dig (V a - V b) k)) (z_and (b := brw (V a) (V b) (k + 1)) (by omega) l3 l5) ?_
            refine va_iast hx hb hK hP hD hS 1 0 rfl rfl (i := nI (1000 * a + k)) (vp_in_nI (show 1000 * a + k < 3000 by omega) (by decide)) d_Mod_lessen_90 (fun H locs hP hD hS => ?_)
            have hP : va_P D vcl [(md, .inr (5, [.ref xx, .int ln, .long R, .int rd, .ref mm, .ref nn, .int at0, .int en0])), (mm, .inl (cM, 3000, .inl (upd (mx V a k (V a - V b)) (nI (1000 * a + k)).toNatClampNeg (nI (dig (V a - V b) k))))), (nn, .inl (cN, 3, .inl (rc V)))] H := hP
            have hD : va_D A [(md, .inr (5, [.ref xx, .int ln, .long R, .int rd, .ref mm, .ref nn, .int at0, .int en0])), (mm, .inl (cM, 3000, .inl (upd (mx V a k (V a - V b)) (nI (1000 * a + k)).toNatClampNeg (nI (dig (V a - V b) k))))), (nn, .inl (cN, 3, .inl (rc V)))] := hD
            rw [show upd (mx V a k (V a - V b)) (nI (1000 * a + k)).toNatClampNeg (nI (dig (V a - V b) k)) = mx V a (k + 1) (V a - V b) from by rw [nI_clamp (by omega), mx_s (by omega)]] at hP hD
            refine lv_iinc (v := nI (k + 1)) (lv' := [(4, .int (nI (k + 1))), (3, .int (nI (brw (V a) (V b) (k + 1)))), (5, .int (zI ((dig (V a) k : Int) - dig (V b) k - brw (V a) (V b) k))), (0, .ref md), (1, .int (nI a)), (2, .int (nI b))]) hx hb d_Mod_lessen_91 hl (k := 5) rfl (nI_1 k) (by decide) rfl (fun ls hl => ?_)
            refine lv_goto (tgt := 5) hx hb d_Mod_lessen_94 (by decide) ?_
            exact ih (k + 1) (by omega) (by omega) _ _ _ (hP.sub [0, 1, 2] rfl) (hD.sub [0, 1, 2] (by decide) rfl) hS (lv_sub hl [3, 4, 5, 1, 0] rfl)
          · have e64 : brw (V a) (V b) (k + 1) = 1 := by have := mt (zI_le (a := 0) (by omega) (by omega) (by omega) (by omega)).mpr c64; omega
            refine lv_iconst (v := 1) hx hb d_Mod_lessen_67 (by decide) ?_
            refine tv_i (nI (brw (V a) (V b) (k + 1))) (by rw [e64]; rfl) ?_
            refine lv_goto (tgt := 72) hx hb d_Mod_lessen_68 (by decide) ?_
            refine lv_istore_n (lv' := [(3, .int (nI (brw (V a) (V b) (k + 1)))), (5, .int (zI ((dig (V a) k : Int) - dig (V b) k - brw (V a) (V b) k))), (0, .ref md), (1, .int (nI a)), (2, .int (nI b)), (4, .int (nI k))]) hx hb d_Mod_lessen_72 rfl hl (by decide) rfl (fun ls hl => ?_)
            refine lv_aload_n hx hb d_Mod_lessen_73 rfl (lv_at hl 2 rfl) ?_
            refine va_get (D := D) (ci := 5) (v := .ref mm) (C := R_Mod) (T := F_Mod) (N := 8) hx hb hts w_Mod hown hK hP 0 rfl rfl 4 (by decide) (hts _ kF_Mod_13) (fun _ h9 => h9) rfl d_Mod_lessen_74 ?_
            refine lv_sipush (v := 1000) hx hb d_Mod_lessen_77 (by decide) ?_
            refine lv_iload_n hx hb d_Mod_lessen_80 rfl (lv_at hl 3 rfl) ?_
            refine lv_imul hx hb d_Mod_lessen_81 ?_
            refine lv_iload hx hb d_Mod_lessen_82 (lv_at hl 5 rfl) ?_
            refine lv_iadd hx hb d_Mod_lessen_84 ?_
            refine tv_i (nI (1000 * a + k)) (i1000) ?_
            refine lv_iload hx hb d_Mod_lessen_85 (lv_at hl 1 rfl) ?_
            refine lv_ldc hx hb hown (hts _ kK_Mod_25) d_Mod_lessen_87 ?_
            refine lv_iand hx hb d_Mod_lessen_89 ?_
            refine tv_i (nI (dig (V a - V b) k)) (z_and (b := brw (V a) (V b) (k + 1)) (by omega) l3 l5) ?_
            refine va_iast hx hb hK hP hD hS 1 0 rfl rfl (i := nI (1000 * a + k)) (vp_in_nI (show 1000 * a + k < 3000 by omega) (by decide)) d_Mod_lessen_90 (fun H locs hP hD hS => ?_)
            have hP : va_P D vcl [(md, .inr (5, [.ref xx, .int ln, .long R, .int rd, .ref mm, .ref nn, .int at0, .int en0])), (mm, .inl (cM, 3000, .inl (upd (mx V a k (V a - V b)) (nI (1000 * a + k)).toNatClampNeg (nI (dig (V a - V b) k))))), (nn, .inl (cN, 3, .inl (rc V)))] H := hP
            have hD : va_D A [(md, .inr (5, [.ref xx, .int ln, .long R, .int rd, .ref mm, .ref nn, .int at0, .int en0])), (mm, .inl (cM, 3000, .inl (upd (mx V a k (V a - V b)) (nI (1000 * a + k)).toNatClampNeg (nI (dig (V a - V b) k))))), (nn, .inl (cN, 3, .inl (rc V)))] := hD
            rw [show upd (mx V a k (V a - V b)) (nI (1000 * a + k)).toNatClampNeg (nI (dig (V a - V b) k)) = mx V a (k + 1) (V a - V b) from by rw [nI_clamp (by omega), mx_s (by omega)]] at hP hD
            refine lv_iinc (v := nI (k + 1)) (lv' := [(4, .int (nI (k + 1))), (3, .int (nI (brw (V a) (V b) (k + 1)))), (5, .int (zI ((dig (V a) k : Int) - dig (V b) k - brw (V a) (V b) k))), (0, .ref md), (1, .int (nI a)), (2, .int (nI b))]) hx hb d_Mod_lessen_91 hl (k := 5) rfl (nI_1 k) (by decide) rfl (fun ls hl => ?_)
            refine lv_goto (tgt := 5) hx hb d_Mod_lessen_94 (by decide) ?_
            exact ih (k + 1) (by omega) (by omega) _ _ _ (hP.sub [0, 1, 2] rfl) (hD.sub [0, 1, 2] (by decide) rfl) hS (lv_sub hl [3, 4, 5, 1, 0] rfl)
  rw [← mx_0 V a (V a - V b)] at hP hD
  exact L5 (lc (V a) + 1) 0 (by omega) (by omega) _ _ _ (hP.sub [0, 1, 2] rfl) (hD.sub [0, 1, 2] (by decide) rfl) hS (lv_sub hl [2, 3, 4, 1, 0] rfl)

set_option maxHeartbeats 4000000 in
set_option maxRecDepth 100000 in
theorem c_Mod_bitsOf (l : Launch) (D : va_G) (E : evD) (md xx mm nn : Nat) (cM cN : ClassId) (V : Nat → Nat) (ln rd at0 en0 : Int32) (R : Int64) (r : Nat) (hr : r < 3) (hlc : lc (V r) ≤ 1000) : Ci (S := Unit) l y_Mod_bitsOf (wz y_Mod_bitsOf b_Mod_bitsOf 4 (some .int)) ({ frames := 0, cells := 0, slots := 0, locals := 0 }) D vcl (ev1 E) [.ref md, .int (nI r)] [(cM, .int), (cN, .int)] [(md, .inr (5, [.ref xx, .int ln, .long R, .int rd, .ref mm, .ref nn, .int at0, .int en0])), (mm, .inl (cM, 3000, .inl (rw16 V))), (nn, .inl (cN, 3, .inl (rc V)))] 0 0 (fun (w : Int32) (_ : Unit) => w = nI (bln (V r))) (fun _ => [(cM, .int), (cN, .int)]) (fun _ : Unit => [(md, .inr (5, [.ref xx, .int ln, .long R, .int rd, .ref mm, .ref nn, .int at0, .int en0])), (mm, .inl (cM, 3000, .inl (rw16 V))), (nn, .inl (cN, 3, .inl (rc V)))]) := by
  have hev := ev1_ok E
  unfold Ci
  refine ct_of (y := y_Mod_bitsOf) (av := [.ref md, .int (nI r)]) (cc := b_Mod_bitsOf) (maxL := 4) (ret := (some .int)) (Qc := fun A => va_Qi (S := Unit) (fun (w : Int32) (_ : Unit) => w = nI (bln (V r))) (fun u tS => ctB D vcl ((fun _ => [(cM, .int), (cN, .int)]) u) ((fun _ : Unit => [(md, .inr (5, [.ref xx, .int ln, .long R, .int rd, .ref mm, .ref nn, .int at0, .int en0])), (mm, .inl (cM, 3000, .inl (rw16 V))), (nn, .inl (cN, 3, .inl (rc V)))]) u) A tS) A) (by decide) rfl (Nat.le_of_ble_eq_true rfl) ?_
  intro p ee s m below meth cde ls A H locs hx hb hml hrt hlocks hown hin hts hA hP hK hD hS hE hl
  have hown : s.vm.findClass R_Mod = some m.cls := hown
  have hts := wz_g hts
  have hl : lv_has ls 4 [(0, .ref md), (1, .int (nI r))] := hl
  refine lv_aload_n hx hb d_Mod_bitsOf_0 rfl (lv_at hl 0 rfl) ?_
  refine va_get (D := D) (ci := 5) (v := .ref nn) (C := R_Mod) (T := F_Mod) (N := 8) hx hb hts w_Mod hown hK hP 0 rfl rfl 5 (by decide) (hts _ kF_Mod_16) (fun _ h9 => h9) rfl d_Mod_bitsOf_1 ?_
  refine lv_iload_n hx hb d_Mod_bitsOf_4 rfl (lv_at hl 1 rfl) ?_
  refine va_iald hx hb hK hP 2 1 rfl rfl (i := nI r) (vp_in_nI (show r < 3 by omega) (by decide)) d_Mod_bitsOf_5 ?_
  refine tv_i (nI (lc (V r))) (by rw [nI_clamp (by omega)]; rfl) ?_
  refine lv_if_ne (tgt := 11) hx hb d_Mod_bitsOf_6 (by decide) (fun c6 => ?_) (fun c6 => ?_)
  · have e6 : lc (V r) ≠ 0 := fun z => c6 (by rw [z]; rfl)
    refine lv_bipush (v := 16) hx hb d_Mod_bitsOf_11 (by decide) ?_
    refine lv_aload_n hx hb d_Mod_bitsOf_13 rfl (lv_at hl 0 rfl) ?_
    refine va_get (D := D) (ci := 5) (v := .ref nn) (C := R_Mod) (T := F_Mod) (N := 8) hx hb hts w_Mod hown hK hP 0 rfl rfl 5 (by decide) (hts _ kF_Mod_16) (fun _ h9 => h9) rfl d_Mod_bitsOf_14 ?_
    refine lv_iload_n hx hb d_Mod_bitsOf_17 rfl (lv_at hl 1 rfl) ?_
    refine va_iald hx hb hK hP 2 1 rfl rfl (i := nI r) (vp_in_nI (show r < 3 by omega) (by decide)) d_Mod_bitsOf_18 ?_
    refine tv_i (nI (lc (V r))) (by rw [nI_clamp (by omega)]; rfl) ?_
    refine lv_iconst (v := 1) hx hb d_Mod_bitsOf_19 (by decide) ?_
    refine lv_isub hx hb d_Mod_bitsOf_20 ?_
    refine tv_i (nI (lc (V r) - 1)) (nI_dec (by omega)) ?_
    refine lv_imul hx hb d_Mod_bitsOf_21 ?_
    refine tv_i (nI (16 * (lc (V r) - 1))) (pk_mul 16 _) ?_
    refine lv_istore_n (lv' := [(2, .int (nI (16 * (lc (V r) - 1)))), (0, .ref md), (1, .int (nI r))]) hx hb d_Mod_bitsOf_22 rfl hl (by decide) rfl (fun ls hl => ?_)
    refine lv_aload_n hx hb d_Mod_bitsOf_23 rfl (lv_at hl 1 rfl) ?_
    refine va_get (D := D) (ci := 5) (v := .ref mm) (C := R_Mod) (T := F_Mod) (N := 8) hx hb hts w_Mod hown hK hP 0 rfl rfl 4 (by decide) (hts _ kF_Mod_13) (fun _ h9 => h9) rfl d_Mod_bitsOf_24 ?_
    refine lv_sipush (v := 1000) hx hb d_Mod_bitsOf_27 (by decide) ?_
    refine lv_iload_n hx hb d_Mod_bitsOf_30 rfl (lv_at hl 2 rfl) ?_
    refine lv_imul hx hb d_Mod_bitsOf_31 ?_
    refine lv_aload_n hx hb d_Mod_bitsOf_32 rfl (lv_at hl 1 rfl) ?_
    refine va_get (D := D) (ci := 5) (v := .ref nn) (C := R_Mod) (T := F_Mod) (N := 8) hx hb hts w_Mod hown hK hP 0 rfl rfl 5 (by decide) (hts _ kF_Mod_16) (fun _ h9 => h9) rfl d_Mod_bitsOf_33 ?_
    refine lv_iload_n hx hb d_Mod_bitsOf_36 rfl (lv_at hl 2 rfl) ?_
    refine va_iald hx hb hK hP 2 1 rfl rfl (i := nI r) (vp_in_nI (show r < 3 by omega) (by decide)) d_Mod_bitsOf_37 ?_
    refine tv_i (nI (lc (V r))) (by rw [nI_clamp (by omega)]; rfl) ?_
    refine lv_iadd hx hb d_Mod_bitsOf_38 ?_
    refine lv_iconst (v := 1) hx hb d_Mod_bitsOf_39 (by decide) ?_
    refine lv_isub hx hb d_Mod_bitsOf_40 ?_
    refine tv_i (nI (1000 * r + (lc (V r) - 1))) (by rw [i1000, nI_dec (by omega)]; exact congrArg nI (by omega)) ?_
    refine va_iald hx hb hK hP 1 0 rfl rfl (i := nI (1000 * r + (lc (V r) - 1))) (vp_in_nI (show 1000 * r + (lc (V r) - 1) < 3000 by omega) (by decide)) d_Mod_bitsOf_41 ?_
    refine tv_i (nI (dig (V r) (lc (V r) - 1))) (by rw [nI_clamp (by omega)]; exact rw_at (by omega)) ?_
    refine lv_istore_n (lv' := [(3, .int (nI (dig (V r) (lc (V r) - 1)))), (2, .int (nI (16 * (lc (V r) - 1)))), (0, .ref md), (1, .int (nI r))]) hx hb d_Mod_bitsOf_42 rfl hl (by decide) rfl (fun ls hl => ?_)
    have L43 : ∀ (kk : Nat) (dd : Nat) (ct : Nat), dd < kk → (dd < 65536) → (ct ≤ 16000) → (bln (V r) = ct + bln dd) → ∀ (H : Heap) (locs : List Loc) (ls : Array Slot), va_P D vcl [(md, .inr (5, [.ref xx, .int ln, .long R, .int rd, .ref mm, .ref nn, .int at0, .int en0])), (mm, .inl (cM, 3000, .inl (rw16 V))), (nn, .inl (cN, 3, .inl (rc V)))] H → va_D A [(md, .inr (5, [.ref xx, .int ln, .long R, .int rd, .ref mm, .ref nn, .int at0, .int en0])), (mm, .inl (cM, 3000, .inl (rw16 V))), (nn, .inl (cN, 3, .inl (rc V)))] → va_S A s.heap H locs → lv_has ls 4 [(0, .ref md), (2, .int (nI ct)), (3, .int (nI dd))] → W p l ee ({ frames := 0, cells := 0, slots := 0, locals := 0 }) s m ([.ref md, .int (nI r)] : List Value).toArray below meth cde H locs 0 0 (MQ below (va_Qi (S := Unit) (fun (w : Int32) (_ : Unit) => w = nI (bln (V r))) (fun u tS => ctB D vcl ((fun _ => [(cM, .int), (cN, .int)]) u) ((fun _ : Unit => [(md, .inr (5, [.ref xx, .int ln, .long R, .int rd, .ref mm, .ref nn, .int at0, .int en0])), (mm, .inl (cM, 3000, .inl (rw16 V))), (nn, .inl (cN, 3, .inl (rc V)))]) u) A tS) A) ([.ref md, .int (nI r)] : List Value).toArray s 0 0 A) (F0 m 43 ls []) := by
      intro kk
      induction kk with
      | zero => intro dd ct hmz; exact absurd hmz (Nat.not_lt_zero _)
      | succ kk ih =>
        intro dd ct hmz hdd hct hv H locs ls hP hD hS hl
        have hb16 : bln (V r) ≤ 16000 := by unfold lc at hlc; omega
        refine lv_iload_n hx hb d_Mod_bitsOf_43 rfl (lv_at hl 2 rfl) ?_
        refine lv_if_le (tgt := 57) hx hb d_Mod_bitsOf_44 (by decide) (fun c44 => ?_) (fun c44 => ?_)
        · have e44 : dd = 0 := (nI_le0 (by omega)).mp c44
          refine lv_iload_n hx hb d_Mod_bitsOf_57 rfl (lv_at hl 1 rfl) ?_
          exact rt_i hx hb hrt hlocks (rfl) (()) (by rw [hv, e44]; rfl) (hP.sub [0, 1, 2] rfl) (hK.sub [0, 1] rfl) (hD.sub [0, 1, 2] (by decide) rfl) hS d_Mod_bitsOf_58
        · have e44 : dd ≠ 0 := fun z => c44 ((nI_le0 (by omega)).mpr z)
          have hbp := bln_pos e44
          refine lv_iinc (v := nI (ct + 1)) (lv' := [(2, .int (nI (ct + 1))), (0, .ref md), (3, .int (nI dd))]) hx hb d_Mod_bitsOf_47 hl (k := 1) rfl (nI_1 ct) (by decide) rfl (fun ls hl => ?_)
          refine lv_iload_n hx hb d_Mod_bitsOf_50 rfl (lv_at hl 2 rfl) ?_
          refine lv_iconst (v := 1) hx hb d_Mod_bitsOf_51 (by decide) ?_
          refine lv_ishr hx hb d_Mod_bitsOf_52 ?_
          refine tv_i (nI (dd / 2)) (pk_shrN (by omega) _ 1 (by decide)) ?_
          refine lv_istore_n (lv' := [(3, .int (nI (dd / 2))), (2, .int (nI (ct + 1))), (0, .ref md)]) hx hb d_Mod_bitsOf_53 rfl hl (by decide) rfl (fun ls hl => ?_)
          refine lv_goto (tgt := 43) hx hb d_Mod_bitsOf_54 (by decide) ?_
          exact ih (dd / 2) (ct + 1) (by omega) (by omega) (by omega) (by have := bln_half e44; omega) _ _ _ (hP.sub [0, 1, 2] rfl) (hD.sub [0, 1, 2] (by decide) rfl) hS (lv_sub hl [2, 1, 0] rfl)
    exact L43 65536 (dig (V r) (lc (V r) - 1)) (16 * (lc (V r) - 1)) (dig_lt _ _) (dig_lt _ _) (by omega) (bits_16 (by omega)) _ _ _ (hP.sub [0, 1, 2] rfl) (hD.sub [0, 1, 2] (by decide) rfl) hS (lv_sub hl [2, 1, 0] rfl)
  · have e6 : lc (V r) = 0 := (nI_eq0 (by omega)).mp c6
    refine lv_iconst (v := 0) hx hb d_Mod_bitsOf_9 (by decide) ?_
    exact rt_i hx hb hrt hlocks (rfl) (()) (by rw [lc_0.mp e6]; rfl) (hP.sub [0, 1, 2] rfl) (hK.sub [0, 1] rfl) (hD.sub [0, 1, 2] (by decide) rfl) hS d_Mod_bitsOf_10

set_option maxHeartbeats 4000000 in
set_option maxRecDepth 100000 in
theorem c_Mod_infinite (l : Launch) (D : va_G) (E : evD) (wd : Int32) : Cl (S := Unit) l y_Mod_infinite (wz y_Mod_infinite b_Mod_infinite 1 (some .long)) ({ frames := 0, cells := 0, slots := 0, locals := 0 }) D vcl (ev1 E) [.int wd] [] [] 0 0 (fun (w : Int64) (_ : Unit) => w = kInf (knd wd)) (fun _ => []) (fun _ : Unit => []) := by
  have hev := ev1_ok E
  unfold Cl
  refine ct_of (y := y_Mod_infinite) (av := [.int wd]) (cc := b_Mod_infinite) (maxL := 1) (ret := (some .long)) (Qc := fun A => va_Ql (S := Unit) (fun (w : Int64) (_ : Unit) => w = kInf (knd wd)) (fun u tS => ctB D vcl ((fun _ => []) u) ((fun _ : Unit => []) u) A tS) A) (by decide) rfl (Nat.le_of_ble_eq_true rfl) ?_
  intro p ee s m below meth cde ls A H locs hx hb hml hrt hlocks hown hin hts hA hP hK hD hS hE hl
  have hown : s.vm.findClass R_Mod = some m.cls := hown
  have hts := wz_g hts
  have hl : lv_has ls 1 [(0, .int wd)] := hl
  refine lv_iload_n hx hb d_Mod_infinite_0 rfl (lv_at hl 0 rfl) ?_
  refine lv_if_eq (tgt := 10) hx hb d_Mod_infinite_1 (by decide) (fun c1 => ?_) (fun c1 => ?_)
  · refine lv_ldc2 hx hb hown (hts _ kK_Mod_32) d_Mod_infinite_10 ?_
    exact rt_l hx hb hrt hlocks (()) (by unfold knd; rw [if_pos c1]; rfl) (hP.sub [] rfl) (hK.sub [] rfl) (hD.sub [] (by decide) rfl) hS d_Mod_infinite_13
  · refine lv_ldc2 hx hb hown (hts _ kK_Mod_30) d_Mod_infinite_4 ?_
    refine lv_goto (tgt := 13) hx hb d_Mod_infinite_7 (by decide) ?_
    exact rt_l hx hb hrt hlocks (()) (by unfold knd; rw [if_neg c1]; rfl) (hP.sub [] rfl) (hK.sub [] rfl) (hD.sub [] (by decide) rfl) hS d_Mod_infinite_13

set_option maxHeartbeats 4000000 in
set_option maxRecDepth 100000 in
theorem c_Mod_none (l : Launch) (D : va_G) (E : evD) (wd : Int32) : Cl (S := Unit) l y_Mod_none (wz y_Mod_none b_Mod_none 1 (some .long)) ({ frames := 0, cells := 0, slots := 0, locals := 0 }) D vcl (ev1 E) [.int wd] [] [] 0 0 (fun (w : Int64) (_ : Unit) => w = kNon (knd wd)) (fun _ => []) (fun _ : Unit => []) := by
  have hev := ev1_ok E
  unfold Cl
  refine ct_of (y := y_Mod_none) (av := [.int wd]) (cc := b_Mod_none) (maxL := 1) (ret := (some .long)) (Qc := fun A => va_Ql (S := Unit) (fun (w : Int64) (_ : Unit) => w = kNon (knd wd)) (fun u tS => ctB D vcl ((fun _ => []) u) ((fun _ : Unit => []) u) A tS) A) (by decide) rfl (Nat.le_of_ble_eq_true rfl) ?_
  intro p ee s m below meth cde ls A H locs hx hb hml hrt hlocks hown hin hts hA hP hK hD hS hE hl
  have hown : s.vm.findClass R_Mod = some m.cls := hown
  have hts := wz_g hts
  have hl : lv_has ls 1 [(0, .int wd)] := hl
  refine lv_iload_n hx hb d_Mod_none_0 rfl (lv_at hl 0 rfl) ?_
  refine lv_if_eq (tgt := 10) hx hb d_Mod_none_1 (by decide) (fun c1 => ?_) (fun c1 => ?_)
  · refine lv_ldc2 hx hb hown (hts _ kK_Mod_36) d_Mod_none_10 ?_
    exact rt_l hx hb hrt hlocks (()) (by unfold knd; rw [if_pos c1]; rfl) (hP.sub [] rfl) (hK.sub [] rfl) (hD.sub [] (by decide) rfl) hS d_Mod_none_13
  · refine lv_ldc2 hx hb hown (hts _ kK_Mod_34) d_Mod_none_4 ?_
    refine lv_goto (tgt := 13) hx hb d_Mod_none_7 (by decide) ?_
    exact rt_l hx hb hrt hlocks (()) (by unfold knd; rw [if_neg c1]; rfl) (hP.sub [] rfl) (hK.sub [] rfl) (hD.sub [] (by decide) rfl) hS d_Mod_none_13

set_option maxHeartbeats 4000000 in
set_option maxRecDepth 100000 in
theorem c_Mod_signed (l : Launch) (D : va_G) (E : evD) (X : Int64) (mi wd : Int32) : Cl (S := Unit) l y_Mod_signed (wz y_Mod_signed b_Mod_signed 4 (some .long)) ({ frames := 0, cells := 0, slots := 0, locals := 0 }) D vcl (ev1 E) [.long X, .int mi, .int wd] [] [] 0 0 (fun (w : Int64) (_ : Unit) => w = sgd (knd wd) X mi) (fun _ => []) (fun _ : Unit => []) := by
  have hev := ev1_ok E
  unfold Cl
  refine ct_of (y := y_Mod_signed) (av := [.long X, .int mi, .int wd]) (cc := b_Mod_signed) (maxL := 4) (ret := (some .long)) (Qc := fun A => va_Ql (S := Unit) (fun (w : Int64) (_ : Unit) => w = sgd (knd wd) X mi) (fun u tS => ctB D vcl ((fun _ => []) u) ((fun _ : Unit => []) u) A tS) A) (by decide) rfl (Nat.le_of_ble_eq_true rfl) ?_
  intro p ee s m below meth cde ls A H locs hx hb hml hrt hlocks hown hin hts hA hP hK hD hS hE hl
  have hown : s.vm.findClass R_Mod = some m.cls := hown
  have hts := wz_g hts
  have hl : lv_has ls 4 [(0, .long X), (2, .int mi), (3, .int wd)] := hl
  refine lv_iload_n hx hb d_Mod_signed_0 rfl (lv_at hl 1 rfl) ?_
  refine lv_if_ne (tgt := 8) hx hb d_Mod_signed_1 (by decide) (fun c1 => ?_) (fun c1 => ?_)
  · refine lv_iload_n hx hb d_Mod_signed_8 rfl (lv_at hl 2 rfl) ?_
    refine lv_if_eq (tgt := 20) hx hb d_Mod_signed_9 (by decide) (fun c9 => ?_) (fun c9 => ?_)
    · refine lv_lload_n hx hb d_Mod_signed_20 rfl (lv_at hl 0 rfl) ?_
      refine lv_ldc2 hx hb hown (hts _ kK_Mod_40) d_Mod_signed_21 ?_
      refine lv_lor hx hb d_Mod_signed_24 ?_
      exact rt_l hx hb hrt hlocks (()) (by unfold sgd knd; rw [if_neg c1, if_pos c9]; rfl) (hP.sub [] rfl) (hK.sub [] rfl) (hD.sub [] (by decide) rfl) hS d_Mod_signed_25
    · refine lv_lload_n hx hb d_Mod_signed_12 rfl (lv_at hl 0 rfl) ?_
      refine lv_ldc2 hx hb hown (hts _ kK_Mod_38) d_Mod_signed_13 ?_
      refine lv_lor hx hb d_Mod_signed_16 ?_
      refine lv_goto (tgt := 25) hx hb d_Mod_signed_17 (by decide) ?_
      exact rt_l hx hb hrt hlocks (()) (by unfold sgd knd; rw [if_neg c1, if_neg c9]; rfl) (hP.sub [] rfl) (hK.sub [] rfl) (hD.sub [] (by decide) rfl) hS d_Mod_signed_25
  · refine lv_lload_n hx hb d_Mod_signed_4 rfl (lv_at hl 0 rfl) ?_
    refine lv_goto (tgt := 25) hx hb d_Mod_signed_5 (by decide) ?_
    exact rt_l hx hb hrt hlocks (()) (by unfold sgd; rw [if_pos c1]) (hP.sub [] rfl) (hK.sub [] rfl) (hD.sub [] (by decide) rfl) hS d_Mod_signed_25

theorem lc_2 {V : Nat} (h : lc V ≤ 999) : lc (V * 2 + 0) ≤ 1000 := by
  have h1 := bl_mul (V := V) (s := 1)
  rw [Nat.pow_one] at h1
  rw [Nat.add_zero]
  unfold lc at *; omega
theorem r0_up {q r Y : Nat} (hr : r < Y) (h : 0 < cmpN (r * 2) Y ∨ (cmpN (r * 2) Y = 0 ∧ q % 2 = 1)) : rne (q * Y + r) (Y * 2 ^ 0) = q + 1 := by
  rw [Nat.pow_zero, Nat.mul_one, rne_at rfl hr, if_pos]
  rcases Nat.lt_trichotomy (r * 2) Y with z | z | z
  · rw [cmpN_lt z] at h; exact absurd h (by rintro (y | y); (· exact absurd y (by decide)); exact absurd y.1 (by decide))
  · rw [z, cmpN_eq] at h; exact Or.inr ⟨by omega, h.elim (fun y => absurd y (by decide)) (fun y => y.2)⟩
  · exact Or.inl (by omega)
theorem r0_dn {q r Y : Nat} (hr : r < Y) (h : ¬ (0 < cmpN (r * 2) Y ∨ (cmpN (r * 2) Y = 0 ∧ q % 2 = 1))) : rne (q * Y + r) (Y * 2 ^ 0) = q := by
  rw [Nat.pow_zero, Nat.mul_one, rne_at rfl hr, if_neg]
  rcases Nat.lt_trichotomy (r * 2) Y with z | z | z
  · omega
  · rw [z, cmpN_eq] at h; intro y; rcases y with y | y
    · omega
    · exact h (Or.inr ⟨rfl, y.2⟩)
  · rw [cmpN_gt z] at h; exact absurd (Or.inl (by decide)) h
theorem r1_at {q r Y : Nat} (hr : r < Y) : rne (q * Y + r) (Y * 2 ^ 1) = if Y * 2 < 2 * (q % 2 * Y + r) ∨ (2 * (q % 2 * Y + r) = Y * 2 ∧ q / 2 % 2 = 1) then q / 2 + 1 else q / 2 := by
  have hh : q * Y + r = q / 2 * (Y * 2) + (q % 2 * Y + r) := by
    have e : q = q / 2 * 2 + q % 2 := by omega
    conv => lhs; rw [e]
    rw [Nat.add_mul, Nat.mul_assoc, Nat.mul_comm 2, Nat.add_assoc]
  have hl : q % 2 * Y + r < Y * 2 := by
    rcases (show q % 2 = 0 ∨ q % 2 = 1 by omega) with y | y <;> rw [y] <;> omega
  rw [Nat.pow_one, rne_at hh hl]
theorem r1_even {q r Y : Nat} (hr : r < Y) (h : q % 2 = 0) : rne (q * Y + r) (Y * 2 ^ 1) = q / 2 := by rw [r1_at hr, h, Nat.zero_mul, if_neg (by omega)]
theorem r1_more {q r Y : Nat} (hr : r < Y) (h : q % 2 = 1) (h0 : r ≠ 0) : rne (q * Y + r) (Y * 2 ^ 1) = q / 2 + 1 := by rw [r1_at hr, h, Nat.one_mul, if_pos (Or.inl (by omega))]
theorem r1_tie {q r Y : Nat} (hr : r < Y) (h : q % 2 = 1) (h0 : r = 0) (ho : q / 2 % 2 = 1) : rne (q * Y + r) (Y * 2 ^ 1) = q / 2 + 1 := by rw [r1_at hr, h, Nat.one_mul, if_pos (Or.inr ⟨by omega, ho⟩)]
theorem r1_tie2 {q r Y : Nat} (hr : r < Y) (h : q % 2 = 1) (h0 : r = 0) (ho : ¬ q / 2 % 2 = 1) : rne (q * Y + r) (Y * 2 ^ 1) = q / 2 := by
  rw [r1_at hr, h, Nat.one_mul, if_neg]
  intro z; rcases z with z | z
  · omega
  · exact ho z.2
set_option maxHeartbeats 4000000 in
set_option maxRecDepth 100000 in
theorem c_Mod_rounded (l : Launch) (D : va_G) (E : evD) (md xx mm nn : Nat) (cM cN : ClassId) (V : Nat → Nat) (ln rd at0 en0 : Int32) (R : Int64) (i : Nat) (hi : i < 2) (wd : Int32) (hwd : knd wd = i) (q j0 : Nat) (hq : q < 2 ^ (kP i + 1)) (hj0 : j0 ≤ 5000) (hr : V 0 < V 1) (hl0 : lc (V 0) ≤ 999) (hl1 : lc (V 1) ≤ 999) : Cl (S := Unit) l y_Mod_rounded (wz y_Mod_rounded b_Mod_rounded 17 (some .long)) ({ frames := 2, cells := 0, slots := 0, locals := 49 }) D vcl (ev1 E) [.ref md, .long (lN q), .int (zI ((j0 : Int) + (0 : Nat) - kLw i)), .int wd, .int (nI (kP i)), .int (zI (-(kLw i : Int)))] [(cM, .int), (cN, .int)] [(md, .inr (5, [.ref xx, .int ln, .long R, .int rd, .ref mm, .ref nn, .int at0, .int en0])), (mm, .inl (cM, 3000, .inl (rw16 V))), (nn, .inl (cN, 3, .inl (rc V)))] 0 0 (fun (w : Int64) (_ : Unit) => w = lN (moR (kP i) (kZ i) (j0 + if q < 2 ^ kP i then 0 else 1) (rne (q * V 1 + V 0) (V 1 * 2 ^ (if q < 2 ^ kP i then 0 else 1))))) (fun _ => [(cM, .int), (cN, .int)]) (fun _ : Unit => [(md, .inr (5, [.ref xx, .int ln, .long R, .int rd, .ref mm, .ref nn, .int at0, .int en0])), (mm, .inl (cM, 3000, .inl (rw16 (upR V 0 (V 0 * 2 + 0))))), (nn, .inl (cN, 3, .inl (rc (upR V 0 (V 0 * 2 + 0)))))]) := by
  have hev := ev1_ok E
  unfold Cl
  refine ct_of (y := y_Mod_rounded) (av := [.ref md, .long (lN q), .int (zI ((j0 : Int) + (0 : Nat) - kLw i)), .int wd, .int (nI (kP i)), .int (zI (-(kLw i : Int)))]) (cc := b_Mod_rounded) (maxL := 17) (ret := (some .long)) (Qc := fun A => va_Ql (S := Unit) (fun (w : Int64) (_ : Unit) => w = lN (moR (kP i) (kZ i) (j0 + if q < 2 ^ kP i then 0 else 1) (rne (q * V 1 + V 0) (V 1 * 2 ^ (if q < 2 ^ kP i then 0 else 1))))) (fun u tS => ctB D vcl ((fun _ => [(cM, .int), (cN, .int)]) u) ((fun _ : Unit => [(md, .inr (5, [.ref xx, .int ln, .long R, .int rd, .ref mm, .ref nn, .int at0, .int en0])), (mm, .inl (cM, 3000, .inl (rw16 (upR V 0 (V 0 * 2 + 0))))), (nn, .inl (cN, 3, .inl (rc (upR V 0 (V 0 * 2 + 0)))))]) u) A tS) A) (by decide) rfl (Nat.le_of_ble_eq_true rfl) ?_
  intro p ee s m below meth cde ls A H locs hx hb hml hrt hlocks hown hin hts hA hP hK hD hS hE hl
  have hown : s.vm.findClass R_Mod = some m.cls := hown
  have hts := wz_g hts
  have hl : lv_has ls 17 [(0, .ref md), (1, .long (lN q)), (3, .int (zI ((j0 : Int) + (0 : Nat) - kLw i))), (4, .int wd), (5, .int (nI (kP i))), (6, .int (zI (-(kLw i : Int))))] := hl
  obtain ⟨hk1, hk2, hk3, hk4, hk5, -⟩ := kP_b i hi
  have hpb : 2 ^ kP i ≤ 2 ^ 53 := two_pow_le hk1
  have hpP : 2 ^ kP i = 2 * 2 ^ (kP i - 1) := by
    have : kP i = (kP i - 1) + 1 := by omega
    conv => lhs; rw [this]
    rw [Nat.pow_succ, Nat.mul_comm]
  have hpP1 : 2 ^ (kP i + 1) = 2 * 2 ^ kP i := by rw [Nat.pow_succ, Nat.mul_comm]
  refine lv_lload_n hx hb d_Mod_rounded_0 rfl (lv_at hl 1 rfl) ?_
  refine lv_lstore (lv' := [(7, .long (lN q)), (0, .ref md), (1, .long (lN q)), (3, .int (zI ((j0 : Int) + (0 : Nat) - kLw i))), (4, .int wd), (5, .int (nI (kP i))), (6, .int (zI (-(kLw i : Int))))]) hx hb d_Mod_rounded_1 hl (by decide) rfl (fun ls hl => ?_)
  refine lv_iload_n hx hb d_Mod_rounded_3 rfl (lv_at hl 3 rfl) ?_
  refine lv_istore (lv' := [(9, .int (zI ((j0 : Int) + (0 : Nat) - kLw i))), (7, .long (lN q)), (0, .ref md), (1, .long (lN q)), (3, .int (zI ((j0 : Int) + (0 : Nat) - kLw i))), (4, .int wd), (5, .int (nI (kP i))), (6, .int (zI (-(kLw i : Int))))]) hx hb d_Mod_rounded_4 hl (by decide) rfl (fun ls hl => ?_)
  refine lv_aload_n hx hb d_Mod_rounded_6 rfl (lv_at hl 2 rfl) ?_
  refine va_get (D := D) (ci := 5) (v := .ref nn) (C := R_Mod) (T := F_Mod) (N := 8) hx hb hts w_Mod hown hK hP 0 rfl rfl 5 (by decide) (hts _ kF_Mod_16) (fun _ h9 => h9) rfl d_Mod_rounded_7 ?_
  refine lv_iconst (v := 0) hx hb d_Mod_rounded_10 (by decide) ?_
  refine va_iald hx hb hK hP 2 1 rfl rfl (i := 0) (vp_in_nI (n := 0) (by decide) (by decide)) d_Mod_rounded_11 ?_
  refine tv_i (nI (lc (V 0))) (rfl) ?_
  refine lv_if_le (tgt := 19) hx hb d_Mod_rounded_12 (by decide) (fun c12 => ?_) (fun c12 => ?_)
  · have e12 : V 0 = 0 := lc_0.mp ((nI_le0 (by omega)).mp c12)
    refine lv_iconst (v := 0) hx hb d_Mod_rounded_19 (by decide) ?_
    refine tv_i (bI (decide (V 0 ≠ 0))) (by rw [decide_eq_false (by omega)]; rfl) ?_
    refine lv_istore (lv' := [(10, .int (bI (decide (V 0 ≠ 0)))), (9, .int (zI ((j0 : Int) + (0 : Nat) - kLw i))), (7, .long (lN q)), (0, .ref md), (1, .long (lN q)), (3, .int (zI ((j0 : Int) + (0 : Nat) - kLw i))), (4, .int wd), (5, .int (nI (kP i))), (6, .int (zI (-(kLw i : Int))))]) hx hb d_Mod_rounded_20 hl (by decide) rfl (fun ls hl => ?_)
    refine lv_aload_n hx hb d_Mod_rounded_22 rfl (lv_at hl 3 rfl) ?_
    refine lv_iconst (v := 0) hx hb d_Mod_rounded_23 (by decide) ?_
    refine tv_i (nI 0) (rfl) ?_
    refine lv_iconst (v := 2) hx hb d_Mod_rounded_24 (by decide) ?_
    refine tv_i (nI 2) (rfl) ?_
    refine lv_iconst (v := 0) hx hb d_Mod_rounded_25 (by decide) ?_
    refine tv_i (nI 0) (rfl) ?_
    refine ca_v [] (va_runV (As := [.int (nI 0), .int (nI 2), .int (nI 0)]) (rest := []) ⟨hx, hb, hml, hown, hts⟩ (c_Mod_grow l D E md xx mm nn cM cN V ln rd at0 en0 R 0 2 0 (by decide) (by decide) (by decide) (hl0) H.size) (xV 3 hts kC_Mod_grow kM_Mod_26 kI_Mod_grow kS_Mod_grow kN_Mod rfl rfl (by decide +kernel) ⟨Nat.le_of_ble_eq_true rfl, Nat.le_of_ble_eq_true rfl⟩) ⟨ct_blind hev, va_recv hK hP (ci := 5) (q0 := 0) rfl rfl, ct_pre hev hP hK hD hS hA hE [0, 1, 2] rfl (by decide) [0, 1] rfl⟩ rfl rfl hl.1 rfl (lv_room (Nat.le_of_ble_eq_true rfl)) d_Mod_rounded_26 ⟨Nat.le_of_ble_eq_true rfl, Nat.le_of_ble_eq_true rfl⟩) hP hD hS hA [0, 1, 2] [] rfl rfl (by decide) (by decide) (fun u H locs hw hP hD hS hK1 => ?_)
    have hP : va_P D vcl [(md, .inr (5, [.ref xx, .int ln, .long R, .int rd, .ref mm, .ref nn, .int at0, .int en0])), (mm, .inl (cM, 3000, .inl (rw16 (upR V 0 (V 0 * 2 + 0))))), (nn, .inl (cN, 3, .inl (rc (upR V 0 (V 0 * 2 + 0)))))] H := hP
    have hD : va_D A [(md, .inr (5, [.ref xx, .int ln, .long R, .int rd, .ref mm, .ref nn, .int at0, .int en0])), (mm, .inl (cM, 3000, .inl (rw16 (upR V 0 (V 0 * 2 + 0))))), (nn, .inl (cN, 3, .inl (rc (upR V 0 (V 0 * 2 + 0)))))] := hD
    refine lv_aload_n hx hb d_Mod_rounded_29 rfl (lv_at hl 3 rfl) ?_
    refine lv_iconst (v := 0) hx hb d_Mod_rounded_30 (by decide) ?_
    refine tv_i (nI 0) (rfl) ?_
    refine lv_iconst (v := 1) hx hb d_Mod_rounded_31 (by decide) ?_
    refine tv_i (nI 1) (rfl) ?_
    refine ca_i [] (va_runV (As := [.int (nI 0), .int (nI 1)]) (rest := []) ⟨hx, hb, hml, hown, hts⟩ (c_Mod_compareRows l D E md xx mm nn cM cN (upR V 0 (V 0 * 2 + 0)) ln rd at0 en0 R 0 1 (by decide) (by decide) (by rw [upR_s]; exact lc_2 hl0) (by rw [upR_n (by decide)]; omega) H.size) (xV 2 hts kC_Mod_compareRows kM_Mod_53 kI_Mod_compareRows kS_Mod_compareRows kN_Mod rfl rfl (by decide +kernel) ⟨Nat.le_of_ble_eq_true rfl, Nat.le_of_ble_eq_true rfl⟩) ⟨ct_blind hev, va_recv hK hP (ci := 5) (q0 := 0) rfl rfl, ct_pre hev hP hK hD hS hA hE [0, 1, 2] rfl (by decide) [0, 1] rfl⟩ rfl rfl hl.1 rfl (lv_room (Nat.le_of_ble_eq_true rfl)) d_Mod_rounded_32 ⟨Nat.le_of_ble_eq_true rfl, Nat.le_of_ble_eq_true rfl⟩) hP hD hS hA [0, 1, 2] [] rfl rfl (by decide) (by decide) (fun rv u H locs hw hP hD hS hK1 => ?_)
    subst hw
    have hP : va_P D vcl [(md, .inr (5, [.ref xx, .int ln, .long R, .int rd, .ref mm, .ref nn, .int at0, .int en0])), (mm, .inl (cM, 3000, .inl (rw16 (upR V 0 (V 0 * 2 + 0))))), (nn, .inl (cN, 3, .inl (rc (upR V 0 (V 0 * 2 + 0)))))] H := hP
    have hD : va_D A [(md, .inr (5, [.ref xx, .int ln, .long R, .int rd, .ref mm, .ref nn, .int at0, .int en0])), (mm, .inl (cM, 3000, .inl (rw16 (upR V 0 (V 0 * 2 + 0))))), (nn, .inl (cN, 3, .inl (rc (upR V 0 (V 0 * 2 + 0)))))] := hD
    refine tv_i (cmpN (V 0 * 2) (V 1)) (by rw [upR_s, upR_n (by decide), Nat.add_zero]) ?_
    refine lv_istore (lv' := [(11, .int (cmpN (V 0 * 2) (V 1))), (10, .int (bI (decide (V 0 ≠ 0)))), (9, .int (zI ((j0 : Int) + (0 : Nat) - kLw i))), (7, .long (lN q)), (0, .ref md), (1, .long (lN q)), (3, .int (zI ((j0 : Int) + (0 : Nat) - kLw i))), (4, .int wd), (5, .int (nI (kP i))), (6, .int (zI (-(kLw i : Int))))]) hx hb d_Mod_rounded_35 hl (by decide) rfl (fun ls hl => ?_)
    have L113 : ∀ (kk : Nat) (q1 : Nat) (c : Nat) (hf : Int32), 0 < kk → (c ≤ 1) → (q1 < 2 ^ kP i) → ((0 < hf ∨ (hf = 0 ∧ q1 % 2 = 1)) → (rne (q * V 1 + V 0) (V 1 * 2 ^ c)) = q1 + 1) → (¬ (0 < hf ∨ (hf = 0 ∧ q1 % 2 = 1)) → (rne (q * V 1 + V 0) (V 1 * 2 ^ c)) = q1) → (c = if q < 2 ^ kP i then 0 else 1) → ∀ (H : Heap) (locs : List Loc) (ls : Array Slot), va_P D vcl [(md, .inr (5, [.ref xx, .int ln, .long R, .int rd, .ref mm, .ref nn, .int at0, .int en0])), (mm, .inl (cM, 3000, .inl (rw16 (upR V 0 (V 0 * 2 + 0))))), (nn, .inl (cN, 3, .inl (rc (upR V 0 (V 0 * 2 + 0)))))] H → va_D A [(md, .inr (5, [.ref xx, .int ln, .long R, .int rd, .ref mm, .ref nn, .int at0, .int en0])), (mm, .inl (cM, 3000, .inl (rw16 (upR V 0 (V 0 * 2 + 0))))), (nn, .inl (cN, 3, .inl (rc (upR V 0 (V 0 * 2 + 0)))))] → va_S A s.heap H locs → lv_has ls 17 [(0, .ref md), (4, .int wd), (5, .int (nI (kP i))), (6, .int (zI (-(kLw i : Int)))), (7, .long (lN q1)), (9, .int (zI ((j0 : Int) + c - kLw i))), (11, .int hf)] → W p l ee ({ frames := 2, cells := 0, slots := 0, locals := 49 }) s m ([.ref md, .long (lN q), .int (zI ((j0 : Int) + (0 : Nat) - kLw i)), .int wd, .int (nI (kP i)), .int (zI (-(kLw i : Int)))] : List Value).toArray below meth cde H locs 0 0 (MQ below (va_Ql (S := Unit) (fun (w : Int64) (_ : Unit) => w = lN (moR (kP i) (kZ i) (j0 + if q < 2 ^ kP i then 0 else 1) (rne (q * V 1 + V 0) (V 1 * 2 ^ (if q < 2 ^ kP i then 0 else 1))))) (fun u tS => ctB D vcl ((fun _ => [(cM, .int), (cN, .int)]) u) ((fun _ : Unit => [(md, .inr (5, [.ref xx, .int ln, .long R, .int rd, .ref mm, .ref nn, .int at0, .int en0])), (mm, .inl (cM, 3000, .inl (rw16 (upR V 0 (V 0 * 2 + 0))))), (nn, .inl (cN, 3, .inl (rc (upR V 0 (V 0 * 2 + 0)))))]) u) A tS) A) ([.ref md, .long (lN q), .int (zI ((j0 : Int) + (0 : Nat) - kLw i)), .int wd, .int (nI (kP i)), .int (zI (-(kLw i : Int)))] : List Value).toArray s 0 0 A) (F0 m 113 ls []) := by
      intro kk
      induction kk with
      | zero => intro q1 c hf hmz; exact absurd hmz (Nat.not_lt_zero _)
      | succ kk ih =>
        intro q1 c hf hmz hc1 hq1 hu1 hu2 hcc H locs ls hP hD hS hl
        obtain ⟨Q, hQ⟩ : ∃ Q, Q = (rne (q * V 1 + V 0) (V 1 * 2 ^ c)) := ⟨_, rfl⟩
        rw [← hQ] at hu1 hu2
        have hQb : Q ≤ q1 + 1 := by by_cases h9 : (0 < hf ∨ (hf = 0 ∧ q1 % 2 = 1)); (· have := hu1 h9; omega); (have := hu2 h9; omega)
        refine lv_iload hx hb d_Mod_rounded_113 (lv_at hl 6 rfl) ?_
        refine lv_if_gt (tgt := 132) hx hb d_Mod_rounded_115 (by decide) (fun c115 => ?_) (fun c115 => ?_)
        · have hqq : Q = q1 + 1 := hu1 (Or.inl c115)
          refine lv_iconst (v := 1) hx hb d_Mod_rounded_132 (by decide) ?_
          refine lv_goto (tgt := 137) hx hb d_Mod_rounded_133 (by decide) ?_
          refine lv_istore (lv' := [(12, .int 1), (0, .ref md), (4, .int wd), (5, .int (nI (kP i))), (6, .int (zI (-(kLw i : Int)))), (7, .long (lN q1)), (9, .int (zI ((j0 : Int) + c - kLw i))), (11, .int hf)]) hx hb d_Mod_rounded_137 hl (by decide) rfl (fun ls hl => ?_)
          refine lv_iload hx hb d_Mod_rounded_139 (lv_at hl 0 rfl) ?_
          refine lv_if_eq (tgt := 151) hx hb d_Mod_rounded_141 (by decide) (fun c141 => ?_) (fun c141 => ?_)
          · exact absurd c141 (by decide)
          · refine lv_lload hx hb d_Mod_rounded_144 (lv_at hl 5 rfl) ?_
            refine lv_lconst (v := 1) hx hb d_Mod_rounded_146 (by decide) ?_
            refine lv_ladd hx hb d_Mod_rounded_147 ?_
            refine tv_l (lN Q) (by rw [hqq]; exact lN_1 _) ?_
            refine lv_goto (tgt := 153) hx hb d_Mod_rounded_148 (by decide) ?_
            refine lv_lstore (lv' := [(7, .long (lN Q)), (12, .int 1), (0, .ref md), (4, .int wd), (5, .int (nI (kP i))), (6, .int (zI (-(kLw i : Int)))), (9, .int (zI ((j0 : Int) + c - kLw i))), (11, .int hf)]) hx hb d_Mod_rounded_153 hl (by decide) rfl (fun ls hl => ?_)
            refine lv_lload hx hb d_Mod_rounded_155 (lv_at hl 0 rfl) ?_
            refine lv_lconst (v := 1) hx hb d_Mod_rounded_157 (by decide) ?_
            refine lv_iload hx hb d_Mod_rounded_158 (lv_at hl 4 rfl) ?_
            refine lv_lshl (v := lN (2 ^ kP i)) hx hb d_Mod_rounded_160 (shl1 (by omega)) ?_
            refine W.lcmp hx hb d_Mod_rounded_161 ?_
            refine lv_if_ne (tgt := 174) hx hb d_Mod_rounded_162 (by decide) (fun c162 => ?_) (fun c162 => ?_)
            · have e162 : Q ≠ 2 ^ kP i := fun z => c162 ((lg_cmp_eq _ _).mpr (by rw [z]))
              refine lv_lconst (v := 1) hx hb d_Mod_rounded_174 (by decide) ?_
              refine lv_iload hx hb d_Mod_rounded_175 (lv_at hl 4 rfl) ?_
              refine lv_iconst (v := 1) hx hb d_Mod_rounded_177 (by decide) ?_
              refine lv_isub hx hb d_Mod_rounded_178 ?_
              refine tv_i (nI (kP i - 1)) (nI_dec (by omega)) ?_
              refine lv_lshl (v := lN (2 ^ (kP i - 1))) hx hb d_Mod_rounded_179 (shl1 (by omega)) ?_
              refine lv_lstore (lv' := [(13, .long (lN (2 ^ (kP i - 1)))), (7, .long (lN Q)), (12, .int 1), (0, .ref md), (4, .int wd), (5, .int (nI (kP i))), (6, .int (zI (-(kLw i : Int)))), (9, .int (zI ((j0 : Int) + c - kLw i))), (11, .int hf)]) hx hb d_Mod_rounded_180 hl (by decide) rfl (fun ls hl => ?_)
              refine lv_lload hx hb d_Mod_rounded_182 (lv_at hl 1 rfl) ?_
              refine lv_lload hx hb d_Mod_rounded_184 (lv_at hl 0 rfl) ?_
              refine W.lcmp hx hb d_Mod_rounded_186 ?_
              refine lv_if_ge (tgt := 193) hx hb d_Mod_rounded_187 (by decide) (fun c187 => ?_) (fun c187 => ?_)
              · have e187 : 2 ^ (kP i - 1) ≤ Q := (pk_lLE (by omega) (by omega)).mp ((lg_cmp_ge _ _).mp c187)
                refine lv_iload hx hb d_Mod_rounded_193 (lv_at hl 7 rfl) ?_
                refine lv_iload hx hb d_Mod_rounded_195 (lv_at hl 6 rfl) ?_
                refine lv_isub hx hb d_Mod_rounded_197 ?_
                refine lv_iconst (v := 1) hx hb d_Mod_rounded_198 (by decide) ?_
                refine lv_iadd hx hb d_Mod_rounded_199 ?_
                refine tv_i (nI (j0 + c + 1)) (by show zI _ - zI _ + zI 1 = _; rw [zI_sub, zI_add, ← zI_nI]; exact congrArg zI (by omega)) ?_
                refine lv_i2l (v := (nI (j0 + c + 1)).toInt64) hx hb d_Mod_rounded_200 (rfl) ?_
                refine tv_l (lN (j0 + c + 1)) (nI_l (by omega)) ?_
                refine lv_lstore (lv' := [(15, .long (lN (j0 + c + 1))), (13, .long (lN (2 ^ (kP i - 1)))), (7, .long (lN Q)), (12, .int 1), (0, .ref md), (4, .int wd), (5, .int (nI (kP i))), (6, .int (zI (-(kLw i : Int)))), (9, .int (zI ((j0 : Int) + c - kLw i))), (11, .int hf)]) hx hb d_Mod_rounded_201 hl (by decide) rfl (fun ls hl => ?_)
                refine lv_lload hx hb d_Mod_rounded_203 (lv_at hl 0 rfl) ?_
                refine lv_iload hx hb d_Mod_rounded_205 (lv_at hl 5 rfl) ?_
                refine lv_if_eq (tgt := 216) hx hb d_Mod_rounded_207 (by decide) (fun c207 => ?_) (fun c207 => ?_)
                · have e207 : i = 1 := by rw [← hwd]; exact if_pos c207
                  refine lv_ldc2 hx hb hown (hts _ kK_Mod_72) d_Mod_rounded_216 ?_
                  refine tv_l (lN (kZ i + 2)) (by rw [e207]; rfl) ?_
                  refine W.lcmp hx hb d_Mod_rounded_219 ?_
                  refine lv_if_lt (tgt := 231) hx hb d_Mod_rounded_220 (by decide) (fun c220 => ?_) (fun c220 => ?_)
                  · have e220 : j0 + c + 1 < kZ i + 2 := (pk_lLT (by omega) (by omega)).mp ((lg_cmp_lt _ _).mp c220)
                    refine lv_lload hx hb d_Mod_rounded_231 (lv_at hl 0 rfl) ?_
                    refine lv_iload hx hb d_Mod_rounded_233 (lv_at hl 6 rfl) ?_
                    refine lv_iconst (v := 1) hx hb d_Mod_rounded_235 (by decide) ?_
                    refine lv_isub hx hb d_Mod_rounded_236 ?_
                    refine tv_i (nI (kP i - 1)) (nI_dec (by omega)) ?_
                    refine lv_lshl (v := lN ((j0 + c + 1) * 2 ^ (kP i - 1))) hx hb d_Mod_rounded_237 (wb_shl _ (by omega)) ?_
                    refine lv_lload hx hb d_Mod_rounded_238 (lv_at hl 2 rfl) ?_
                    refine lv_lload hx hb d_Mod_rounded_240 (lv_at hl 1 rfl) ?_
                    refine lv_lsub hx hb d_Mod_rounded_242 ?_
                    refine lv_ladd hx hb d_Mod_rounded_243 ?_
                    refine tv_l (lN ((j0 + c) * 2 ^ (kP i - 1) + Q)) (by rw [lN_sub (by omega), lN_add]; exact congrArg lN (by rw [Nat.add_mul, Nat.one_mul]; omega)) ?_
                    exact rt_l hx hb hrt hlocks (()) (by rw [← hcc, ← hQ]; unfold moR; rw [if_neg (by omega), if_neg e162, if_neg (by omega)]) (hP.sub [0, 1, 2] rfl) (hK.sub [0, 1] rfl) (hD.sub [0, 1, 2] (by decide) rfl) hS d_Mod_rounded_244
                  · have e220 : ¬ j0 + c + 1 < kZ i + 2 := fun z => c220 ((lg_cmp_lt _ _).mpr ((pk_lLT (by omega) (by omega)).mpr z))
                    refine lv_iload hx hb d_Mod_rounded_223 (lv_at hl 5 rfl) ?_
                    refine ca_l [(md, .inr (5, [.ref xx, .int ln, .long R, .int rd, .ref mm, .ref nn, .int at0, .int en0])), (mm, .inl (cM, 3000, .inl (rw16 (upR V 0 (V 0 * 2 + 0))))), (nn, .inl (cN, 3, .inl (rc (upR V 0 (V 0 * 2 + 0)))))] (va_runS (As := [.int wd]) (rest := []) ⟨hx, hb, hml, hown, hts⟩ (c_Mod_infinite l D E wd H.size) (xS 1 hts kC_Mod_infinite kM_Mod_46 kT_Mod_infinite kN_Mod rfl rfl (by decide +kernel) ⟨Nat.le_of_ble_eq_true rfl, Nat.le_of_ble_eq_true rfl⟩) ⟨ct_blind hev, ct_pre hev hP hK hD hS hA hE [] rfl (by decide) [] rfl⟩ rfl rfl hl.1 rfl (lv_room (Nat.le_of_ble_eq_true rfl)) d_Mod_rounded_225 ⟨Nat.le_of_ble_eq_true rfl, Nat.le_of_ble_eq_true rfl⟩) hP hD hS hA [] [0, 1, 2] rfl rfl (by decide) (by decide) (fun rv u H locs hw hP hD hS hK1 => ?_)
                    subst hw
                    have hP : va_P D vcl [(md, .inr (5, [.ref xx, .int ln, .long R, .int rd, .ref mm, .ref nn, .int at0, .int en0])), (mm, .inl (cM, 3000, .inl (rw16 (upR V 0 (V 0 * 2 + 0))))), (nn, .inl (cN, 3, .inl (rc (upR V 0 (V 0 * 2 + 0)))))] H := hP
                    have hD : va_D A [(md, .inr (5, [.ref xx, .int ln, .long R, .int rd, .ref mm, .ref nn, .int at0, .int en0])), (mm, .inl (cM, 3000, .inl (rw16 (upR V 0 (V 0 * 2 + 0))))), (nn, .inl (cN, 3, .inl (rc (upR V 0 (V 0 * 2 + 0)))))] := hD
                    refine lv_goto (tgt := 244) hx hb d_Mod_rounded_228 (by decide) ?_
                    exact rt_l hx hb hrt hlocks (()) (by rw [← hcc, ← hQ]; unfold moR; rw [if_neg (by omega), if_neg e162, if_pos (by omega), hwd]; exact kf_I i hi) (hP.sub [0, 1, 2] rfl) (hK.sub [0, 1] rfl) (hD.sub [0, 1, 2] (by decide) rfl) hS d_Mod_rounded_244
                · have e207 : i = 0 := by rw [← hwd]; exact if_neg c207
                  refine lv_ldc2 hx hb hown (hts _ kK_Mod_70) d_Mod_rounded_210 ?_
                  refine tv_l (lN (kZ i + 2)) (by rw [e207]; rfl) ?_
                  refine lv_goto (tgt := 219) hx hb d_Mod_rounded_213 (by decide) ?_
                  refine W.lcmp hx hb d_Mod_rounded_219 ?_
                  refine lv_if_lt (tgt := 231) hx hb d_Mod_rounded_220 (by decide) (fun c220 => ?_) (fun c220 => ?_)
                  · have e220 : j0 + c + 1 < kZ i + 2 := (pk_lLT (by omega) (by omega)).mp ((lg_cmp_lt _ _).mp c220)
                    refine lv_lload hx hb d_Mod_rounded_231 (lv_at hl 0 rfl) ?_
                    refine lv_iload hx hb d_Mod_rounded_233 (lv_at hl 6 rfl) ?_
                    refine lv_iconst (v := 1) hx hb d_Mod_rounded_235 (by decide) ?_
                    refine lv_isub hx hb d_Mod_rounded_236 ?_
                    refine tv_i (nI (kP i - 1)) (nI_dec (by omega)) ?_
                    refine lv_lshl (v := lN ((j0 + c + 1) * 2 ^ (kP i - 1))) hx hb d_Mod_rounded_237 (wb_shl _ (by omega)) ?_
                    refine lv_lload hx hb d_Mod_rounded_238 (lv_at hl 2 rfl) ?_
                    refine lv_lload hx hb d_Mod_rounded_240 (lv_at hl 1 rfl) ?_
                    refine lv_lsub hx hb d_Mod_rounded_242 ?_
                    refine lv_ladd hx hb d_Mod_rounded_243 ?_
                    refine tv_l (lN ((j0 + c) * 2 ^ (kP i - 1) + Q)) (by rw [lN_sub (by omega), lN_add]; exact congrArg lN (by rw [Nat.add_mul, Nat.one_mul]; omega)) ?_
                    exact rt_l hx hb hrt hlocks (()) (by rw [← hcc, ← hQ]; unfold moR; rw [if_neg (by omega), if_neg e162, if_neg (by omega)]) (hP.sub [0, 1, 2] rfl) (hK.sub [0, 1] rfl) (hD.sub [0, 1, 2] (by decide) rfl) hS d_Mod_rounded_244
                  · have e220 : ¬ j0 + c + 1 < kZ i + 2 := fun z => c220 ((lg_cmp_lt _ _).mpr ((pk_lLT (by omega) (by omega)).mpr z))
                    refine lv_iload hx hb d_Mod_rounded_223 (lv_at hl 5 rfl) ?_
                    refine ca_l [(md, .inr (5, [.ref xx, .int ln, .long R, .int rd, .ref mm, .ref nn, .int at0, .int en0])), (mm, .inl (cM, 3000, .inl (rw16 (upR V 0 (V 0 * 2 + 0))))), (nn, .inl (cN, 3, .inl (rc (upR V 0 (V 0 * 2 + 0)))))] (va_runS (As := [.int wd]) (rest := []) ⟨hx, hb, hml, hown, hts⟩ (c_Mod_infinite l D E wd H.size) (xS 1 hts kC_Mod_infinite kM_Mod_46 kT_Mod_infinite kN_Mod rfl rfl (by decide +kernel) ⟨Nat.le_of_ble_eq_true rfl, Nat.le_of_ble_eq_true rfl⟩) ⟨ct_blind hev, ct_pre hev hP hK hD hS hA hE [] rfl (by decide) [] rfl⟩ rfl rfl hl.1 rfl (lv_room (Nat.le_of_ble_eq_true rfl)) d_Mod_rounded_225 ⟨Nat.le_of_ble_eq_true rfl, Nat.le_of_ble_eq_true rfl⟩) hP hD hS hA [] [0, 1, 2] rfl rfl (by decide) (by decide) (fun rv u H locs hw hP hD hS hK1 => ?_)
                    subst hw
                    have hP : va_P D vcl [(md, .inr (5, [.ref xx, .int ln, .long R, .int rd, .ref mm, .ref nn, .int at0, .int en0])), (mm, .inl (cM, 3000, .inl (rw16 (upR V 0 (V 0 * 2 + 0))))), (nn, .inl (cN, 3, .inl (rc (upR V 0 (V 0 * 2 + 0)))))] H := hP
                    have hD : va_D A [(md, .inr (5, [.ref xx, .int ln, .long R, .int rd, .ref mm, .ref nn, .int at0, .int en0])), (mm, .inl (cM, 3000, .inl (rw16 (upR V 0 (V 0 * 2 + 0))))), (nn, .inl (cN, 3, .inl (rc (upR V 0 (V 0 * 2 + 0)))))] := hD
                    refine lv_goto (tgt := 244) hx hb d_Mod_rounded_228 (by decide) ?_
                    exact rt_l hx hb hrt hlocks (()) (by rw [← hcc, ← hQ]; unfold moR; rw [if_neg (by omega), if_neg e162, if_pos (by omega), hwd]; exact kf_I i hi) (hP.sub [0, 1, 2] rfl) (hK.sub [0, 1] rfl) (hD.sub [0, 1, 2] (by decide) rfl) hS d_Mod_rounded_244
              · have e187 : ¬ 2 ^ (kP i - 1) ≤ Q := fun z => c187 ((lg_cmp_ge _ _).mpr ((pk_lLE (by omega) (by omega)).mpr z))
                refine lv_lload hx hb d_Mod_rounded_190 (lv_at hl 1 rfl) ?_
                exact rt_l hx hb hrt hlocks (()) (by rw [← hcc, ← hQ]; unfold moR; rw [if_pos (by omega)]) (hP.sub [0, 1, 2] rfl) (hK.sub [0, 1] rfl) (hD.sub [0, 1, 2] (by decide) rfl) hS d_Mod_rounded_192
            · have e162 : Q = 2 ^ kP i := (pk_lEQ (by omega) (by omega)).mp ((lg_cmp_eq _ _).mp c162)
              refine lv_lload hx hb d_Mod_rounded_165 (lv_at hl 0 rfl) ?_
              refine lv_iconst (v := 1) hx hb d_Mod_rounded_167 (by decide) ?_
              refine lv_lshr (v := lN (2 ^ (kP i - 1))) hx hb d_Mod_rounded_168 (by rw [e162, sar1 (by omega)]; exact congrArg lN (by omega)) ?_
              refine lv_lstore (lv' := [(7, .long (lN (2 ^ (kP i - 1)))), (12, .int 1), (0, .ref md), (4, .int wd), (5, .int (nI (kP i))), (6, .int (zI (-(kLw i : Int)))), (9, .int (zI ((j0 : Int) + c - kLw i))), (11, .int hf)]) hx hb d_Mod_rounded_169 hl (by decide) rfl (fun ls hl => ?_)
              refine lv_iinc (v := zI ((j0 : Int) + c + 1 - kLw i)) (lv' := [(9, .int (zI ((j0 : Int) + c + 1 - kLw i))), (7, .long (lN (2 ^ (kP i - 1)))), (12, .int 1), (0, .ref md), (4, .int wd), (5, .int (nI (kP i))), (6, .int (zI (-(kLw i : Int)))), (11, .int hf)]) hx hb d_Mod_rounded_171 hl (k := 6) rfl (by show zI _ + zI 1 = _; rw [zI_add]; exact congrArg zI (by omega)) (by decide) rfl (fun ls hl => ?_)
              refine lv_lconst (v := 1) hx hb d_Mod_rounded_174 (by decide) ?_
              refine lv_iload hx hb d_Mod_rounded_175 (lv_at hl 5 rfl) ?_
              refine lv_iconst (v := 1) hx hb d_Mod_rounded_177 (by decide) ?_
              refine lv_isub hx hb d_Mod_rounded_178 ?_
              refine tv_i (nI (kP i - 1)) (nI_dec (by omega)) ?_
              refine lv_lshl (v := lN (2 ^ (kP i - 1))) hx hb d_Mod_rounded_179 (shl1 (by omega)) ?_
              refine lv_lstore (lv' := [(13, .long (lN (2 ^ (kP i - 1)))), (9, .int (zI ((j0 : Int) + c + 1 - kLw i))), (7, .long (lN (2 ^ (kP i - 1)))), (12, .int 1), (0, .ref md), (4, .int wd), (5, .int (nI (kP i))), (6, .int (zI (-(kLw i : Int)))), (11, .int hf)]) hx hb d_Mod_rounded_180 hl (by decide) rfl (fun ls hl => ?_)
              refine lv_lload hx hb d_Mod_rounded_182 (lv_at hl 2 rfl) ?_
              refine lv_lload hx hb d_Mod_rounded_184 (lv_at hl 0 rfl) ?_
              refine W.lcmp hx hb d_Mod_rounded_186 ?_
              refine lv_if_ge (tgt := 193) hx hb d_Mod_rounded_187 (by decide) (fun c187 => ?_) (fun c187 => ?_)
              · have e187 : 2 ^ (kP i - 1) ≤ 2 ^ (kP i - 1) := (pk_lLE (by omega) (by omega)).mp ((lg_cmp_ge _ _).mp c187)
                refine lv_iload hx hb d_Mod_rounded_193 (lv_at hl 1 rfl) ?_
                refine lv_iload hx hb d_Mod_rounded_195 (lv_at hl 7 rfl) ?_
                refine lv_isub hx hb d_Mod_rounded_197 ?_
                refine lv_iconst (v := 1) hx hb d_Mod_rounded_198 (by decide) ?_
                refine lv_iadd hx hb d_Mod_rounded_199 ?_
                refine tv_i (nI (j0 + c + 2)) (by show zI _ - zI _ + zI 1 = _; rw [zI_sub, zI_add, ← zI_nI]; exact congrArg zI (by omega)) ?_
                refine lv_i2l (v := (nI (j0 + c + 2)).toInt64) hx hb d_Mod_rounded_200 (rfl) ?_
                refine tv_l (lN (j0 + c + 2)) (nI_l (by omega)) ?_
                refine lv_lstore (lv' := [(15, .long (lN (j0 + c + 2))), (13, .long (lN (2 ^ (kP i - 1)))), (9, .int (zI ((j0 : Int) + c + 1 - kLw i))), (7, .long (lN (2 ^ (kP i - 1)))), (12, .int 1), (0, .ref md), (4, .int wd), (5, .int (nI (kP i))), (6, .int (zI (-(kLw i : Int)))), (11, .int hf)]) hx hb d_Mod_rounded_201 hl (by decide) rfl (fun ls hl => ?_)
                refine lv_lload hx hb d_Mod_rounded_203 (lv_at hl 0 rfl) ?_
                refine lv_iload hx hb d_Mod_rounded_205 (lv_at hl 6 rfl) ?_
                refine lv_if_eq (tgt := 216) hx hb d_Mod_rounded_207 (by decide) (fun c207 => ?_) (fun c207 => ?_)
                · have e207 : i = 1 := by rw [← hwd]; exact if_pos c207
                  refine lv_ldc2 hx hb hown (hts _ kK_Mod_72) d_Mod_rounded_216 ?_
                  refine tv_l (lN (kZ i + 2)) (by rw [e207]; rfl) ?_
                  refine W.lcmp hx hb d_Mod_rounded_219 ?_
                  refine lv_if_lt (tgt := 231) hx hb d_Mod_rounded_220 (by decide) (fun c220 => ?_) (fun c220 => ?_)
                  · have e220 : j0 + c + 2 < kZ i + 2 := (pk_lLT (by omega) (by omega)).mp ((lg_cmp_lt _ _).mp c220)
                    refine lv_lload hx hb d_Mod_rounded_231 (lv_at hl 0 rfl) ?_
                    refine lv_iload hx hb d_Mod_rounded_233 (lv_at hl 7 rfl) ?_
                    refine lv_iconst (v := 1) hx hb d_Mod_rounded_235 (by decide) ?_
                    refine lv_isub hx hb d_Mod_rounded_236 ?_
                    refine tv_i (nI (kP i - 1)) (nI_dec (by omega)) ?_
                    refine lv_lshl (v := lN ((j0 + c + 2) * 2 ^ (kP i - 1))) hx hb d_Mod_rounded_237 (wb_shl _ (by omega)) ?_
                    refine lv_lload hx hb d_Mod_rounded_238 (lv_at hl 3 rfl) ?_
                    refine lv_lload hx hb d_Mod_rounded_240 (lv_at hl 1 rfl) ?_
                    refine lv_lsub hx hb d_Mod_rounded_242 ?_
                    refine lv_ladd hx hb d_Mod_rounded_243 ?_
                    refine tv_l (lN ((j0 + c) * 2 ^ (kP i - 1) + Q)) (by rw [lN_sub (Nat.le_refl _), lN_add]; exact congrArg lN (by rw [Nat.sub_self, e162, hpP, Nat.add_mul]; omega)) ?_
                    exact rt_l hx hb hrt hlocks (()) (by rw [← hcc, ← hQ]; unfold moR; rw [if_neg (by omega), if_pos e162, if_neg (by omega)]) (hP.sub [0, 1, 2] rfl) (hK.sub [0, 1] rfl) (hD.sub [0, 1, 2] (by decide) rfl) hS d_Mod_rounded_244
                  · have e220 : ¬ j0 + c + 2 < kZ i + 2 := fun z => c220 ((lg_cmp_lt _ _).mpr ((pk_lLT (by omega) (by omega)).mpr z))
                    refine lv_iload hx hb d_Mod_rounded_223 (lv_at hl 6 rfl) ?_
                    refine ca_l [(md, .inr (5, [.ref xx, .int ln, .long R, .int rd, .ref mm, .ref nn, .int at0, .int en0])), (mm, .inl (cM, 3000, .inl (rw16 (upR V 0 (V 0 * 2 + 0))))), (nn, .inl (cN, 3, .inl (rc (upR V 0 (V 0 * 2 + 0)))))] (va_runS (As := [.int wd]) (rest := []) ⟨hx, hb, hml, hown, hts⟩ (c_Mod_infinite l D E wd H.size) (xS 1 hts kC_Mod_infinite kM_Mod_46 kT_Mod_infinite kN_Mod rfl rfl (by decide +kernel) ⟨Nat.le_of_ble_eq_true rfl, Nat.le_of_ble_eq_true rfl⟩) ⟨ct_blind hev, ct_pre hev hP hK hD hS hA hE [] rfl (by decide) [] rfl⟩ rfl rfl hl.1 rfl (lv_room (Nat.le_of_ble_eq_true rfl)) d_Mod_rounded_225 ⟨Nat.le_of_ble_eq_true rfl, Nat.le_of_ble_eq_true rfl⟩) hP hD hS hA [] [0, 1, 2] rfl rfl (by decide) (by decide) (fun rv u H locs hw hP hD hS hK1 => ?_)
                    subst hw
                    have hP : va_P D vcl [(md, .inr (5, [.ref xx, .int ln, .long R, .int rd, .ref mm, .ref nn, .int at0, .int en0])), (mm, .inl (cM, 3000, .inl (rw16 (upR V 0 (V 0 * 2 + 0))))), (nn, .inl (cN, 3, .inl (rc (upR V 0 (V 0 * 2 + 0)))))] H := hP
                    have hD : va_D A [(md, .inr (5, [.ref xx, .int ln, .long R, .int rd, .ref mm, .ref nn, .int at0, .int en0])), (mm, .inl (cM, 3000, .inl (rw16 (upR V 0 (V 0 * 2 + 0))))), (nn, .inl (cN, 3, .inl (rc (upR V 0 (V 0 * 2 + 0)))))] := hD
                    refine lv_goto (tgt := 244) hx hb d_Mod_rounded_228 (by decide) ?_
                    exact rt_l hx hb hrt hlocks (()) (by rw [← hcc, ← hQ]; unfold moR; rw [if_neg (by omega), if_pos e162, if_pos (by omega), hwd]; exact kf_I i hi) (hP.sub [0, 1, 2] rfl) (hK.sub [0, 1] rfl) (hD.sub [0, 1, 2] (by decide) rfl) hS d_Mod_rounded_244
                · have e207 : i = 0 := by rw [← hwd]; exact if_neg c207
                  refine lv_ldc2 hx hb hown (hts _ kK_Mod_70) d_Mod_rounded_210 ?_
                  refine tv_l (lN (kZ i + 2)) (by rw [e207]; rfl) ?_
                  refine lv_goto (tgt := 219) hx hb d_Mod_rounded_213 (by decide) ?_
                  refine W.lcmp hx hb d_Mod_rounded_219 ?_
                  refine lv_if_lt (tgt := 231) hx hb d_Mod_rounded_220 (by decide) (fun c220 => ?_) (fun c220 => ?_)
                  · have e220 : j0 + c + 2 < kZ i + 2 := (pk_lLT (by omega) (by omega)).mp ((lg_cmp_lt _ _).mp c220)
                    refine lv_lload hx hb d_Mod_rounded_231 (lv_at hl 0 rfl) ?_
                    refine lv_iload hx hb d_Mod_rounded_233 (lv_at hl 7 rfl) ?_
                    refine lv_iconst (v := 1) hx hb d_Mod_rounded_235 (by decide) ?_
                    refine lv_isub hx hb d_Mod_rounded_236 ?_
                    refine tv_i (nI (kP i - 1)) (nI_dec (by omega)) ?_
                    refine lv_lshl (v := lN ((j0 + c + 2) * 2 ^ (kP i - 1))) hx hb d_Mod_rounded_237 (wb_shl _ (by omega)) ?_
                    refine lv_lload hx hb d_Mod_rounded_238 (lv_at hl 3 rfl) ?_
                    refine lv_lload hx hb d_Mod_rounded_240 (lv_at hl 1 rfl) ?_
                    refine lv_lsub hx hb d_Mod_rounded_242 ?_
                    refine lv_ladd hx hb d_Mod_rounded_243 ?_
                    refine tv_l (lN ((j0 + c) * 2 ^ (kP i - 1) + Q)) (by rw [lN_sub (Nat.le_refl _), lN_add]; exact congrArg lN (by rw [Nat.sub_self, e162, hpP, Nat.add_mul]; omega)) ?_
                    exact rt_l hx hb hrt hlocks (()) (by rw [← hcc, ← hQ]; unfold moR; rw [if_neg (by omega), if_pos e162, if_neg (by omega)]) (hP.sub [0, 1, 2] rfl) (hK.sub [0, 1] rfl) (hD.sub [0, 1, 2] (by decide) rfl) hS d_Mod_rounded_244
                  · have e220 : ¬ j0 + c + 2 < kZ i + 2 := fun z => c220 ((lg_cmp_lt _ _).mpr ((pk_lLT (by omega) (by omega)).mpr z))
                    refine lv_iload hx hb d_Mod_rounded_223 (lv_at hl 6 rfl) ?_
                    refine ca_l [(md, .inr (5, [.ref xx, .int ln, .long R, .int rd, .ref mm, .ref nn, .int at0, .int en0])), (mm, .inl (cM, 3000, .inl (rw16 (upR V 0 (V 0 * 2 + 0))))), (nn, .inl (cN, 3, .inl (rc (upR V 0 (V 0 * 2 + 0)))))] (va_runS (As := [.int wd]) (rest := []) ⟨hx, hb, hml, hown, hts⟩ (c_Mod_infinite l D E wd H.size) (xS 1 hts kC_Mod_infinite kM_Mod_46 kT_Mod_infinite kN_Mod rfl rfl (by decide +kernel) ⟨Nat.le_of_ble_eq_true rfl, Nat.le_of_ble_eq_true rfl⟩) ⟨ct_blind hev, ct_pre hev hP hK hD hS hA hE [] rfl (by decide) [] rfl⟩ rfl rfl hl.1 rfl (lv_room (Nat.le_of_ble_eq_true rfl)) d_Mod_rounded_225 ⟨Nat.le_of_ble_eq_true rfl, Nat.le_of_ble_eq_true rfl⟩) hP hD hS hA [] [0, 1, 2] rfl rfl (by decide) (by decide) (fun rv u H locs hw hP hD hS hK1 => ?_)
                    subst hw
                    have hP : va_P D vcl [(md, .inr (5, [.ref xx, .int ln, .long R, .int rd, .ref mm, .ref nn, .int at0, .int en0])), (mm, .inl (cM, 3000, .inl (rw16 (upR V 0 (V 0 * 2 + 0))))), (nn, .inl (cN, 3, .inl (rc (upR V 0 (V 0 * 2 + 0)))))] H := hP
                    have hD : va_D A [(md, .inr (5, [.ref xx, .int ln, .long R, .int rd, .ref mm, .ref nn, .int at0, .int en0])), (mm, .inl (cM, 3000, .inl (rw16 (upR V 0 (V 0 * 2 + 0))))), (nn, .inl (cN, 3, .inl (rc (upR V 0 (V 0 * 2 + 0)))))] := hD
                    refine lv_goto (tgt := 244) hx hb d_Mod_rounded_228 (by decide) ?_
                    exact rt_l hx hb hrt hlocks (()) (by rw [← hcc, ← hQ]; unfold moR; rw [if_neg (by omega), if_pos e162, if_pos (by omega), hwd]; exact kf_I i hi) (hP.sub [0, 1, 2] rfl) (hK.sub [0, 1] rfl) (hD.sub [0, 1, 2] (by decide) rfl) hS d_Mod_rounded_244
              · have e187 : ¬ 2 ^ (kP i - 1) ≤ 2 ^ (kP i - 1) := fun z => c187 ((lg_cmp_ge _ _).mpr ((pk_lLE (by omega) (by omega)).mpr z))
                refine lv_lload hx hb d_Mod_rounded_190 (lv_at hl 2 rfl) ?_
                exact rt_l hx hb hrt hlocks (()) (absurd (Nat.le_refl _) e187) (hP.sub [0, 1, 2] rfl) (hK.sub [0, 1] rfl) (hD.sub [0, 1, 2] (by decide) rfl) hS d_Mod_rounded_192
        · skip
          refine lv_iload hx hb d_Mod_rounded_118 (lv_at hl 6 rfl) ?_
          refine lv_if_ne (tgt := 136) hx hb d_Mod_rounded_120 (by decide) (fun c120 => ?_) (fun c120 => ?_)
          · have hqq : Q = q1 := hu2 (fun z => z.elim c115 (fun y => c120 y.1))
            refine lv_iconst (v := 0) hx hb d_Mod_rounded_136 (by decide) ?_
            refine lv_istore (lv' := [(12, .int 0), (0, .ref md), (4, .int wd), (5, .int (nI (kP i))), (6, .int (zI (-(kLw i : Int)))), (7, .long (lN q1)), (9, .int (zI ((j0 : Int) + c - kLw i))), (11, .int hf)]) hx hb d_Mod_rounded_137 hl (by decide) rfl (fun ls hl => ?_)
            refine lv_iload hx hb d_Mod_rounded_139 (lv_at hl 0 rfl) ?_
            refine lv_if_eq (tgt := 151) hx hb d_Mod_rounded_141 (by decide) (fun c141 => ?_) (fun c141 => ?_)
            · refine lv_lload hx hb d_Mod_rounded_151 (lv_at hl 5 rfl) ?_
              refine tv_l (lN Q) (by rw [hqq]) ?_
              refine lv_lstore (lv' := [(7, .long (lN Q)), (12, .int 0), (0, .ref md), (4, .int wd), (5, .int (nI (kP i))), (6, .int (zI (-(kLw i : Int)))), (9, .int (zI ((j0 : Int) + c - kLw i))), (11, .int hf)]) hx hb d_Mod_rounded_153 hl (by decide) rfl (fun ls hl => ?_)
              refine lv_lload hx hb d_Mod_rounded_155 (lv_at hl 0 rfl) ?_
              refine lv_lconst (v := 1) hx hb d_Mod_rounded_157 (by decide) ?_
              refine lv_iload hx hb d_Mod_rounded_158 (lv_at hl 4 rfl) ?_
              refine lv_lshl (v := lN (2 ^ kP i)) hx hb d_Mod_rounded_160 (shl1 (by omega)) ?_
              refine W.lcmp hx hb d_Mod_rounded_161 ?_
              refine lv_if_ne (tgt := 174) hx hb d_Mod_rounded_162 (by decide) (fun c162 => ?_) (fun c162 => ?_)
              · have e162 : Q ≠ 2 ^ kP i := fun z => c162 ((lg_cmp_eq _ _).mpr (by rw [z]))
                refine lv_lconst (v := 1) hx hb d_Mod_rounded_174 (by decide) ?_
                refine lv_iload hx hb d_Mod_rounded_175 (lv_at hl 4 rfl) ?_
                refine lv_iconst (v := 1) hx hb d_Mod_rounded_177 (by decide) ?_
                refine lv_isub hx hb d_Mod_rounded_178 ?_
                refine tv_i (nI (kP i - 1)) (nI_dec (by omega)) ?_
                refine lv_lshl (v := lN (2 ^ (kP i - 1))) hx hb d_Mod_rounded_179 (shl1 (by omega)) ?_
                refine lv_lstore (lv' := [(13, .long (lN (2 ^ (kP i - 1)))), (7, .long (lN Q)), (12, .int 0), (0, .ref md), (4, .int wd), (5, .int (nI (kP i))), (6, .int (zI (-(kLw i : Int)))), (9, .int (zI ((j0 : Int) + c - kLw i))), (11, .int hf)]) hx hb d_Mod_rounded_180 hl (by decide) rfl (fun ls hl => ?_)
                refine lv_lload hx hb d_Mod_rounded_182 (lv_at hl 1 rfl) ?_
                refine lv_lload hx hb d_Mod_rounded_184 (lv_at hl 0 rfl) ?_
                refine W.lcmp hx hb d_Mod_rounded_186 ?_
                refine lv_if_ge (tgt := 193) hx hb d_Mod_rounded_187 (by decide) (fun c187 => ?_) (fun c187 => ?_)
                · have e187 : 2 ^ (kP i - 1) ≤ Q := (pk_lLE (by omega) (by omega)).mp ((lg_cmp_ge _ _).mp c187)
                  refine lv_iload hx hb d_Mod_rounded_193 (lv_at hl 7 rfl) ?_
                  refine lv_iload hx hb d_Mod_rounded_195 (lv_at hl 6 rfl) ?_
                  refine lv_isub hx hb d_Mod_rounded_197 ?_
                  refine lv_iconst (v := 1) hx hb d_Mod_rounded_198 (by decide) ?_
                  refine lv_iadd hx hb d_Mod_rounded_199 ?_
                  refine tv_i (nI (j0 + c + 1)) (by show zI _ - zI _ + zI 1 = _; rw [zI_sub, zI_add, ← zI_nI]; exact congrArg zI (by omega)) ?_
                  refine lv_i2l (v := (nI (j0 + c + 1)).toInt64) hx hb d_Mod_rounded_200 (rfl) ?_
                  refine tv_l (lN (j0 + c + 1)) (nI_l (by omega)) ?_
                  refine lv_lstore (lv' := [(15, .long (lN (j0 + c + 1))), (13, .long (lN (2 ^ (kP i - 1)))), (7, .long (lN Q)), (12, .int 0), (0, .ref md), (4, .int wd), (5, .int (nI (kP i))), (6, .int (zI (-(kLw i : Int)))), (9, .int (zI ((j0 : Int) + c - kLw i))), (11, .int hf)]) hx hb d_Mod_rounded_201 hl (by decide) rfl (fun ls hl => ?_)
                  refine lv_lload hx hb d_Mod_rounded_203 (lv_at hl 0 rfl) ?_
                  refine lv_iload hx hb d_Mod_rounded_205 (lv_at hl 5 rfl) ?_
                  refine lv_if_eq (tgt := 216) hx hb d_Mod_rounded_207 (by decide) (fun c207 => ?_) (fun c207 => ?_)
                  · have e207 : i = 1 := by rw [← hwd]; exact if_pos c207
                    refine lv_ldc2 hx hb hown (hts _ kK_Mod_72) d_Mod_rounded_216 ?_
                    refine tv_l (lN (kZ i + 2)) (by rw [e207]; rfl) ?_
                    refine W.lcmp hx hb d_Mod_rounded_219 ?_
                    refine lv_if_lt (tgt := 231) hx hb d_Mod_rounded_220 (by decide) (fun c220 => ?_) (fun c220 => ?_)
                    · have e220 : j0 + c + 1 < kZ i + 2 := (pk_lLT (by omega) (by omega)).mp ((lg_cmp_lt _ _).mp c220)
                      refine lv_lload hx hb d_Mod_rounded_231 (lv_at hl 0 rfl) ?_
                      refine lv_iload hx hb d_Mod_rounded_233 (lv_at hl 6 rfl) ?_
                      refine lv_iconst (v := 1) hx hb d_Mod_rounded_235 (by decide) ?_
                      refine lv_isub hx hb d_Mod_rounded_236 ?_
                      refine tv_i (nI (kP i - 1)) (nI_dec (by omega)) ?_
                      refine lv_lshl (v := lN ((j0 + c + 1) * 2 ^ (kP i - 1))) hx hb d_Mod_rounded_237 (wb_shl _ (by omega)) ?_
                      refine lv_lload hx hb d_Mod_rounded_238 (lv_at hl 2 rfl) ?_
                      refine lv_lload hx hb d_Mod_rounded_240 (lv_at hl 1 rfl) ?_
                      refine lv_lsub hx hb d_Mod_rounded_242 ?_
                      refine lv_ladd hx hb d_Mod_rounded_243 ?_
                      refine tv_l (lN ((j0 + c) * 2 ^ (kP i - 1) + Q)) (by rw [lN_sub (by omega), lN_add]; exact congrArg lN (by rw [Nat.add_mul, Nat.one_mul]; omega)) ?_
                      exact rt_l hx hb hrt hlocks (()) (by rw [← hcc, ← hQ]; unfold moR; rw [if_neg (by omega), if_neg e162, if_neg (by omega)]) (hP.sub [0, 1, 2] rfl) (hK.sub [0, 1] rfl) (hD.sub [0, 1, 2] (by decide) rfl) hS d_Mod_rounded_244
                    · have e220 : ¬ j0 + c + 1 < kZ i + 2 := fun z => c220 ((lg_cmp_lt _ _).mpr ((pk_lLT (by omega) (by omega)).mpr z))
                      refine lv_iload hx hb d_Mod_rounded_223 (lv_at hl 5 rfl) ?_
                      refine ca_l [(md, .inr (5, [.ref xx, .int ln, .long R, .int rd, .ref mm, .ref nn, .int at0, .int en0])), (mm, .inl (cM, 3000, .inl (rw16 (upR V 0 (V 0 * 2 + 0))))), (nn, .inl (cN, 3, .inl (rc (upR V 0 (V 0 * 2 + 0)))))] (va_runS (As := [.int wd]) (rest := []) ⟨hx, hb, hml, hown, hts⟩ (c_Mod_infinite l D E wd H.size) (xS 1 hts kC_Mod_infinite kM_Mod_46 kT_Mod_infinite kN_Mod rfl rfl (by decide +kernel) ⟨Nat.le_of_ble_eq_true rfl, Nat.le_of_ble_eq_true rfl⟩) ⟨ct_blind hev, ct_pre hev hP hK hD hS hA hE [] rfl (by decide) [] rfl⟩ rfl rfl hl.1 rfl (lv_room (Nat.le_of_ble_eq_true rfl)) d_Mod_rounded_225 ⟨Nat.le_of_ble_eq_true rfl, Nat.le_of_ble_eq_true rfl⟩) hP hD hS hA [] [0, 1, 2] rfl rfl (by decide) (by decide) (fun rv u H locs hw hP hD hS hK1 => ?_)
                      subst hw
                      have hP : va_P D vcl [(md, .inr (5, [.ref xx, .int ln, .long R, .int rd, .ref mm, .ref nn, .int at0, .int en0])), (mm, .inl (cM, 3000, .inl (rw16 (upR V 0 (V 0 * 2 + 0))))), (nn, .inl (cN, 3, .inl (rc (upR V 0 (V 0 * 2 + 0)))))] H := hP
                      have hD : va_D A [(md, .inr (5, [.ref xx, .int ln, .long R, .int rd, .ref mm, .ref nn, .int at0, .int en0])), (mm, .inl (cM, 3000, .inl (rw16 (upR V 0 (V 0 * 2 + 0))))), (nn, .inl (cN, 3, .inl (rc (upR V 0 (V 0 * 2 + 0)))))] := hD
                      refine lv_goto (tgt := 244) hx hb d_Mod_rounded_228 (by decide) ?_
                      exact rt_l hx hb hrt hlocks (()) (by rw [← hcc, ← hQ]; unfold moR; rw [if_neg (by omega), if_neg e162, if_pos (by omega), hwd]; exact kf_I i hi) (hP.sub [0, 1, 2] rfl) (hK.sub [0, 1] rfl) (hD.sub [0, 1, 2] (by decide) rfl) hS d_Mod_rounded_244
                  · have e207 : i = 0 := by rw [← hwd]; exact if_neg c207
                    refine lv_ldc2 hx hb hown (hts _ kK_Mod_70) d_Mod_rounded_210 ?_
                    refine tv_l (lN (kZ i + 2)) (by rw [e207]; rfl) ?_
                    refine lv_goto (tgt := 219) hx hb d_Mod_rounded_213 (by decide) ?_
                    refine W.lcmp hx hb d_Mod_rounded_219 ?_
                    refine lv_if_lt (tgt := 231) hx hb d_Mod_rounded_220 (by decide) (fun c220 => ?_) (fun c220 => ?_)
                    · have e220 : j0 + c + 1 < kZ i + 2 := (pk_lLT (by omega) (by omega)).mp ((lg_cmp_lt _ _).mp c220)
                      refine lv_lload hx hb d_Mod_rounded_231 (lv_at hl 0 rfl) ?_
                      refine lv_iload hx hb d_Mod_rounded_233 (lv_at hl 6 rfl) ?_
                      refine lv_iconst (v := 1) hx hb d_Mod_rounded_235 (by decide) ?_
                      refine lv_isub hx hb d_Mod_rounded_236 ?_
                      refine tv_i (nI (kP i - 1)) (nI_dec (by omega)) ?_
                      refine lv_lshl (v := lN ((j0 + c + 1) * 2 ^ (kP i - 1))) hx hb d_Mod_rounded_237 (wb_shl _ (by omega)) ?_
                      refine lv_lload hx hb d_Mod_rounded_238 (lv_at hl 2 rfl) ?_
                      refine lv_lload hx hb d_Mod_rounded_240 (lv_at hl 1 rfl) ?_
                      refine lv_lsub hx hb d_Mod_rounded_242 ?_
                      refine lv_ladd hx hb d_Mod_rounded_243 ?_
                      refine tv_l (lN ((j0 + c) * 2 ^ (kP i - 1) + Q)) (by rw [lN_sub (by omega), lN_add]; exact congrArg lN (by rw [Nat.add_mul, Nat.one_mul]; omega)) ?_
                      exact rt_l hx hb hrt hlocks (()) (by rw [← hcc, ← hQ]; unfold moR; rw [if_neg (by omega), if_neg e162, if_neg (by omega)]) (hP.sub [0, 1, 2] rfl) (hK.sub [0, 1] rfl) (hD.sub [0, 1, 2] (by decide) rfl) hS d_Mod_rounded_244
                    · have e220 : ¬ j0 + c + 1 < kZ i + 2 := fun z => c220 ((lg_cmp_lt _ _).mpr ((pk_lLT (by omega) (by omega)).mpr z))
                      refine lv_iload hx hb d_Mod_rounded_223 (lv_at hl 5 rfl) ?_
                      refine ca_l [(md, .inr (5, [.ref xx, .int ln, .long R, .int rd, .ref mm, .ref nn, .int at0, .int en0])), (mm, .inl (cM, 3000, .inl (rw16 (upR V 0 (V 0 * 2 + 0))))), (nn, .inl (cN, 3, .inl (rc (upR V 0 (V 0 * 2 + 0)))))] (va_runS (As := [.int wd]) (rest := []) ⟨hx, hb, hml, hown, hts⟩ (c_Mod_infinite l D E wd H.size) (xS 1 hts kC_Mod_infinite kM_Mod_46 kT_Mod_infinite kN_Mod rfl rfl (by decide +kernel) ⟨Nat.le_of_ble_eq_true rfl, Nat.le_of_ble_eq_true rfl⟩) ⟨ct_blind hev, ct_pre hev hP hK hD hS hA hE [] rfl (by decide) [] rfl⟩ rfl rfl hl.1 rfl (lv_room (Nat.le_of_ble_eq_true rfl)) d_Mod_rounded_225 ⟨Nat.le_of_ble_eq_true rfl, Nat.le_of_ble_eq_true rfl⟩) hP hD hS hA [] [0, 1, 2] rfl rfl (by decide) (by decide) (fun rv u H locs hw hP hD hS hK1 => ?_)
                      subst hw
                      have hP : va_P D vcl [(md, .inr (5, [.ref xx, .int ln, .long R, .int rd, .ref mm, .ref nn, .int at0, .int en0])), (mm, .inl (cM, 3000, .inl (rw16 (upR V 0 (V 0 * 2 + 0))))), (nn, .inl (cN, 3, .inl (rc (upR V 0 (V 0 * 2 + 0)))))] H := hP
                      have hD : va_D A [(md, .inr (5, [.ref xx, .int ln, .long R, .int rd, .ref mm, .ref nn, .int at0, .int en0])), (mm, .inl (cM, 3000, .inl (rw16 (upR V 0 (V 0 * 2 + 0))))), (nn, .inl (cN, 3, .inl (rc (upR V 0 (V 0 * 2 + 0)))))] := hD
                      refine lv_goto (tgt := 244) hx hb d_Mod_rounded_228 (by decide) ?_
                      exact rt_l hx hb hrt hlocks (()) (by rw [← hcc, ← hQ]; unfold moR; rw [if_neg (by omega), if_neg e162, if_pos (by omega), hwd]; exact kf_I i hi) (hP.sub [0, 1, 2] rfl) (hK.sub [0, 1] rfl) (hD.sub [0, 1, 2] (by decide) rfl) hS d_Mod_rounded_244
                · have e187 : ¬ 2 ^ (kP i - 1) ≤ Q := fun z => c187 ((lg_cmp_ge _ _).mpr ((pk_lLE (by omega) (by omega)).mpr z))
                  refine lv_lload hx hb d_Mod_rounded_190 (lv_at hl 1 rfl) ?_
                  exact rt_l hx hb hrt hlocks (()) (by rw [← hcc, ← hQ]; unfold moR; rw [if_pos (by omega)]) (hP.sub [0, 1, 2] rfl) (hK.sub [0, 1] rfl) (hD.sub [0, 1, 2] (by decide) rfl) hS d_Mod_rounded_192
              · have e162 : Q = 2 ^ kP i := (pk_lEQ (by omega) (by omega)).mp ((lg_cmp_eq _ _).mp c162)
                refine lv_lload hx hb d_Mod_rounded_165 (lv_at hl 0 rfl) ?_
                refine lv_iconst (v := 1) hx hb d_Mod_rounded_167 (by decide) ?_
                refine lv_lshr (v := lN (2 ^ (kP i - 1))) hx hb d_Mod_rounded_168 (by rw [e162, sar1 (by omega)]; exact congrArg lN (by omega)) ?_
                refine lv_lstore (lv' := [(7, .long (lN (2 ^ (kP i - 1)))), (12, .int 0), (0, .ref md), (4, .int wd), (5, .int (nI (kP i))), (6, .int (zI (-(kLw i : Int)))), (9, .int (zI ((j0 : Int) + c - kLw i))), (11, .int hf)]) hx hb d_Mod_rounded_169 hl (by decide) rfl (fun ls hl => ?_)
                refine lv_iinc (v := zI ((j0 : Int) + c + 1 - kLw i)) (lv' := [(9, .int (zI ((j0 : Int) + c + 1 - kLw i))), (7, .long (lN (2 ^ (kP i - 1)))), (12, .int 0), (0, .ref md), (4, .int wd), (5, .int (nI (kP i))), (6, .int (zI (-(kLw i : Int)))), (11, .int hf)]) hx hb d_Mod_rounded_171 hl (k := 6) rfl (by show zI _ + zI 1 = _; rw [zI_add]; exact congrArg zI (by omega)) (by decide) rfl (fun ls hl => ?_)
                refine lv_lconst (v := 1) hx hb d_Mod_rounded_174 (by decide) ?_
                refine lv_iload hx hb d_Mod_rounded_175 (lv_at hl 5 rfl) ?_
                refine lv_iconst (v := 1) hx hb d_Mod_rounded_177 (by decide) ?_
                refine lv_isub hx hb d_Mod_rounded_178 ?_
                refine tv_i (nI (kP i - 1)) (nI_dec (by omega)) ?_
                refine lv_lshl (v := lN (2 ^ (kP i - 1))) hx hb d_Mod_rounded_179 (shl1 (by omega)) ?_
                refine lv_lstore (lv' := [(13, .long (lN (2 ^ (kP i - 1)))), (9, .int (zI ((j0 : Int) + c + 1 - kLw i))), (7, .long (lN (2 ^ (kP i - 1)))), (12, .int 0), (0, .ref md), (4, .int wd), (5, .int (nI (kP i))), (6, .int (zI (-(kLw i : Int)))), (11, .int hf)]) hx hb d_Mod_rounded_180 hl (by decide) rfl (fun ls hl => ?_)
                refine lv_lload hx hb d_Mod_rounded_182 (lv_at hl 2 rfl) ?_
                refine lv_lload hx hb d_Mod_rounded_184 (lv_at hl 0 rfl) ?_
                refine W.lcmp hx hb d_Mod_rounded_186 ?_
                refine lv_if_ge (tgt := 193) hx hb d_Mod_rounded_187 (by decide) (fun c187 => ?_) (fun c187 => ?_)
                · have e187 : 2 ^ (kP i - 1) ≤ 2 ^ (kP i - 1) := (pk_lLE (by omega) (by omega)).mp ((lg_cmp_ge _ _).mp c187)
                  refine lv_iload hx hb d_Mod_rounded_193 (lv_at hl 1 rfl) ?_
                  refine lv_iload hx hb d_Mod_rounded_195 (lv_at hl 7 rfl) ?_
                  refine lv_isub hx hb d_Mod_rounded_197 ?_
                  refine lv_iconst (v := 1) hx hb d_Mod_rounded_198 (by decide) ?_
                  refine lv_iadd hx hb d_Mod_rounded_199 ?_
                  refine tv_i (nI (j0 + c + 2)) (by show zI _ - zI _ + zI 1 = _; rw [zI_sub, zI_add, ← zI_nI]; exact congrArg zI (by omega)) ?_
                  refine lv_i2l (v := (nI (j0 + c + 2)).toInt64) hx hb d_Mod_rounded_200 (rfl) ?_
                  refine tv_l (lN (j0 + c + 2)) (nI_l (by omega)) ?_
                  refine lv_lstore (lv' := [(15, .long (lN (j0 + c + 2))), (13, .long (lN (2 ^ (kP i - 1)))), (9, .int (zI ((j0 : Int) + c + 1 - kLw i))), (7, .long (lN (2 ^ (kP i - 1)))), (12, .int 0), (0, .ref md), (4, .int wd), (5, .int (nI (kP i))), (6, .int (zI (-(kLw i : Int)))), (11, .int hf)]) hx hb d_Mod_rounded_201 hl (by decide) rfl (fun ls hl => ?_)
                  refine lv_lload hx hb d_Mod_rounded_203 (lv_at hl 0 rfl) ?_
                  refine lv_iload hx hb d_Mod_rounded_205 (lv_at hl 6 rfl) ?_
                  refine lv_if_eq (tgt := 216) hx hb d_Mod_rounded_207 (by decide) (fun c207 => ?_) (fun c207 => ?_)
                  · have e207 : i = 1 := by rw [← hwd]; exact if_pos c207
                    refine lv_ldc2 hx hb hown (hts _ kK_Mod_72) d_Mod_rounded_216 ?_
                    refine tv_l (lN (kZ i + 2)) (by rw [e207]; rfl) ?_
                    refine W.lcmp hx hb d_Mod_rounded_219 ?_
                    refine lv_if_lt (tgt := 231) hx hb d_Mod_rounded_220 (by decide) (fun c220 => ?_) (fun c220 => ?_)
                    · have e220 : j0 + c + 2 < kZ i + 2 := (pk_lLT (by omega) (by omega)).mp ((lg_cmp_lt _ _).mp c220)
                      refine lv_lload hx hb d_Mod_rounded_231 (lv_at hl 0 rfl) ?_
                      refine lv_iload hx hb d_Mod_rounded_233 (lv_at hl 7 rfl) ?_
                      refine lv_iconst (v := 1) hx hb d_Mod_rounded_235 (by decide) ?_
                      refine lv_isub hx hb d_Mod_rounded_236 ?_
                      refine tv_i (nI (kP i - 1)) (nI_dec (by omega)) ?_
                      refine lv_lshl (v := lN ((j0 + c + 2) * 2 ^ (kP i - 1))) hx hb d_Mod_rounded_237 (wb_shl _ (by omega)) ?_
                      refine lv_lload hx hb d_Mod_rounded_238 (lv_at hl 3 rfl) ?_
                      refine lv_lload hx hb d_Mod_rounded_240 (lv_at hl 1 rfl) ?_
                      refine lv_lsub hx hb d_Mod_rounded_242 ?_
                      refine lv_ladd hx hb d_Mod_rounded_243 ?_
                      refine tv_l (lN ((j0 + c) * 2 ^ (kP i - 1) + Q)) (by rw [lN_sub (Nat.le_refl _), lN_add]; exact congrArg lN (by rw [Nat.sub_self, e162, hpP, Nat.add_mul]; omega)) ?_
                      exact rt_l hx hb hrt hlocks (()) (by rw [← hcc, ← hQ]; unfold moR; rw [if_neg (by omega), if_pos e162, if_neg (by omega)]) (hP.sub [0, 1, 2] rfl) (hK.sub [0, 1] rfl) (hD.sub [0, 1, 2] (by decide) rfl) hS d_Mod_rounded_244
                    · have e220 : ¬ j0 + c + 2 < kZ i + 2 := fun z => c220 ((lg_cmp_lt _ _).mpr ((pk_lLT (by omega) (by omega)).mpr z))
                      refine lv_iload hx hb d_Mod_rounded_223 (lv_at hl 6 rfl) ?_
                      refine ca_l [(md, .inr (5, [.ref xx, .int ln, .long R, .int rd, .ref mm, .ref nn, .int at0, .int en0])), (mm, .inl (cM, 3000, .inl (rw16 (upR V 0 (V 0 * 2 + 0))))), (nn, .inl (cN, 3, .inl (rc (upR V 0 (V 0 * 2 + 0)))))] (va_runS (As := [.int wd]) (rest := []) ⟨hx, hb, hml, hown, hts⟩ (c_Mod_infinite l D E wd H.size) (xS 1 hts kC_Mod_infinite kM_Mod_46 kT_Mod_infinite kN_Mod rfl rfl (by decide +kernel) ⟨Nat.le_of_ble_eq_true rfl, Nat.le_of_ble_eq_true rfl⟩) ⟨ct_blind hev, ct_pre hev hP hK hD hS hA hE [] rfl (by decide) [] rfl⟩ rfl rfl hl.1 rfl (lv_room (Nat.le_of_ble_eq_true rfl)) d_Mod_rounded_225 ⟨Nat.le_of_ble_eq_true rfl, Nat.le_of_ble_eq_true rfl⟩) hP hD hS hA [] [0, 1, 2] rfl rfl (by decide) (by decide) (fun rv u H locs hw hP hD hS hK1 => ?_)
                      subst hw
                      have hP : va_P D vcl [(md, .inr (5, [.ref xx, .int ln, .long R, .int rd, .ref mm, .ref nn, .int at0, .int en0])), (mm, .inl (cM, 3000, .inl (rw16 (upR V 0 (V 0 * 2 + 0))))), (nn, .inl (cN, 3, .inl (rc (upR V 0 (V 0 * 2 + 0)))))] H := hP
                      have hD : va_D A [(md, .inr (5, [.ref xx, .int ln, .long R, .int rd, .ref mm, .ref nn, .int at0, .int en0])), (mm, .inl (cM, 3000, .inl (rw16 (upR V 0 (V 0 * 2 + 0))))), (nn, .inl (cN, 3, .inl (rc (upR V 0 (V 0 * 2 + 0)))))] := hD
                      refine lv_goto (tgt := 244) hx hb d_Mod_rounded_228 (by decide) ?_
                      exact rt_l hx hb hrt hlocks (()) (by rw [← hcc, ← hQ]; unfold moR; rw [if_neg (by omega), if_pos e162, if_pos (by omega), hwd]; exact kf_I i hi) (hP.sub [0, 1, 2] rfl) (hK.sub [0, 1] rfl) (hD.sub [0, 1, 2] (by decide) rfl) hS d_Mod_rounded_244
                  · have e207 : i = 0 := by rw [← hwd]; exact if_neg c207
                    refine lv_ldc2 hx hb hown (hts _ kK_Mod_70) d_Mod_rounded_210 ?_
                    refine tv_l (lN (kZ i + 2)) (by rw [e207]; rfl) ?_
                    refine lv_goto (tgt := 219) hx hb d_Mod_rounded_213 (by decide) ?_
                    refine W.lcmp hx hb d_Mod_rounded_219 ?_
                    refine lv_if_lt (tgt := 231) hx hb d_Mod_rounded_220 (by decide) (fun c220 => ?_) (fun c220 => ?_)
                    · have e220 : j0 + c + 2 < kZ i + 2 := (pk_lLT (by omega) (by omega)).mp ((lg_cmp_lt _ _).mp c220)
                      refine lv_lload hx hb d_Mod_rounded_231 (lv_at hl 0 rfl) ?_
                      refine lv_iload hx hb d_Mod_rounded_233 (lv_at hl 7 rfl) ?_
                      refine lv_iconst (v := 1) hx hb d_Mod_rounded_235 (by decide) ?_
                      refine lv_isub hx hb d_Mod_rounded_236 ?_
                      refine tv_i (nI (kP i - 1)) (nI_dec (by omega)) ?_
                      refine lv_lshl (v := lN ((j0 + c + 2) * 2 ^ (kP i - 1))) hx hb d_Mod_rounded_237 (wb_shl _ (by omega)) ?_
                      refine lv_lload hx hb d_Mod_rounded_238 (lv_at hl 3 rfl) ?_
                      refine lv_lload hx hb d_Mod_rounded_240 (lv_at hl 1 rfl) ?_
                      refine lv_lsub hx hb d_Mod_rounded_242 ?_
                      refine lv_ladd hx hb d_Mod_rounded_243 ?_
                      refine tv_l (lN ((j0 + c) * 2 ^ (kP i - 1) + Q)) (by rw [lN_sub (Nat.le_refl _), lN_add]; exact congrArg lN (by rw [Nat.sub_self, e162, hpP, Nat.add_mul]; omega)) ?_
                      exact rt_l hx hb hrt hlocks (()) (by rw [← hcc, ← hQ]; unfold moR; rw [if_neg (by omega), if_pos e162, if_neg (by omega)]) (hP.sub [0, 1, 2] rfl) (hK.sub [0, 1] rfl) (hD.sub [0, 1, 2] (by decide) rfl) hS d_Mod_rounded_244
                    · have e220 : ¬ j0 + c + 2 < kZ i + 2 := fun z => c220 ((lg_cmp_lt _ _).mpr ((pk_lLT (by omega) (by omega)).mpr z))
                      refine lv_iload hx hb d_Mod_rounded_223 (lv_at hl 6 rfl) ?_
                      refine ca_l [(md, .inr (5, [.ref xx, .int ln, .long R, .int rd, .ref mm, .ref nn, .int at0, .int en0])), (mm, .inl (cM, 3000, .inl (rw16 (upR V 0 (V 0 * 2 + 0))))), (nn, .inl (cN, 3, .inl (rc (upR V 0 (V 0 * 2 + 0)))))] (va_runS (As := [.int wd]) (rest := []) ⟨hx, hb, hml, hown, hts⟩ (c_Mod_infinite l D E wd H.size) (xS 1 hts kC_Mod_infinite kM_Mod_46 kT_Mod_infinite kN_Mod rfl rfl (by decide +kernel) ⟨Nat.le_of_ble_eq_true rfl, Nat.le_of_ble_eq_true rfl⟩) ⟨ct_blind hev, ct_pre hev hP hK hD hS hA hE [] rfl (by decide) [] rfl⟩ rfl rfl hl.1 rfl (lv_room (Nat.le_of_ble_eq_true rfl)) d_Mod_rounded_225 ⟨Nat.le_of_ble_eq_true rfl, Nat.le_of_ble_eq_true rfl⟩) hP hD hS hA [] [0, 1, 2] rfl rfl (by decide) (by decide) (fun rv u H locs hw hP hD hS hK1 => ?_)
                      subst hw
                      have hP : va_P D vcl [(md, .inr (5, [.ref xx, .int ln, .long R, .int rd, .ref mm, .ref nn, .int at0, .int en0])), (mm, .inl (cM, 3000, .inl (rw16 (upR V 0 (V 0 * 2 + 0))))), (nn, .inl (cN, 3, .inl (rc (upR V 0 (V 0 * 2 + 0)))))] H := hP
                      have hD : va_D A [(md, .inr (5, [.ref xx, .int ln, .long R, .int rd, .ref mm, .ref nn, .int at0, .int en0])), (mm, .inl (cM, 3000, .inl (rw16 (upR V 0 (V 0 * 2 + 0))))), (nn, .inl (cN, 3, .inl (rc (upR V 0 (V 0 * 2 + 0)))))] := hD
                      refine lv_goto (tgt := 244) hx hb d_Mod_rounded_228 (by decide) ?_
                      exact rt_l hx hb hrt hlocks (()) (by rw [← hcc, ← hQ]; unfold moR; rw [if_neg (by omega), if_pos e162, if_pos (by omega), hwd]; exact kf_I i hi) (hP.sub [0, 1, 2] rfl) (hK.sub [0, 1] rfl) (hD.sub [0, 1, 2] (by decide) rfl) hS d_Mod_rounded_244
                · have e187 : ¬ 2 ^ (kP i - 1) ≤ 2 ^ (kP i - 1) := fun z => c187 ((lg_cmp_ge _ _).mpr ((pk_lLE (by omega) (by omega)).mpr z))
                  refine lv_lload hx hb d_Mod_rounded_190 (lv_at hl 2 rfl) ?_
                  exact rt_l hx hb hrt hlocks (()) (absurd (Nat.le_refl _) e187) (hP.sub [0, 1, 2] rfl) (hK.sub [0, 1] rfl) (hD.sub [0, 1, 2] (by decide) rfl) hS d_Mod_rounded_192
            · exact absurd rfl c141
          · skip
            refine lv_lload hx hb d_Mod_rounded_123 (lv_at hl 4 rfl) ?_
            refine lv_lconst (v := 1) hx hb d_Mod_rounded_125 (by decide) ?_
            refine lv_land hx hb d_Mod_rounded_126 ?_
            refine tv_l (lN (q1 % 2)) (wb_a1 (by omega)) ?_
            refine lv_lconst (v := 1) hx hb d_Mod_rounded_127 (by decide) ?_
            refine W.lcmp hx hb d_Mod_rounded_128 ?_
            refine lv_if_ne (tgt := 136) hx hb d_Mod_rounded_129 (by decide) (fun c129 => ?_) (fun c129 => ?_)
            · have hqq : Q = q1 := hu2 (fun z => z.elim c115 (fun y => c129 ((lg_cmp_eq _ _).mpr (by rw [y.2]; rfl))))
              refine lv_iconst (v := 0) hx hb d_Mod_rounded_136 (by decide) ?_
              refine lv_istore (lv' := [(12, .int 0), (0, .ref md), (4, .int wd), (5, .int (nI (kP i))), (6, .int (zI (-(kLw i : Int)))), (7, .long (lN q1)), (9, .int (zI ((j0 : Int) + c - kLw i))), (11, .int hf)]) hx hb d_Mod_rounded_137 hl (by decide) rfl (fun ls hl => ?_)
              refine lv_iload hx hb d_Mod_rounded_139 (lv_at hl 0 rfl) ?_
              refine lv_if_eq (tgt := 151) hx hb d_Mod_rounded_141 (by decide) (fun c141 => ?_) (fun c141 => ?_)
              · refine lv_lload hx hb d_Mod_rounded_151 (lv_at hl 5 rfl) ?_
                refine tv_l (lN Q) (by rw [hqq]) ?_
                refine lv_lstore (lv' := [(7, .long (lN Q)), (12, .int 0), (0, .ref md), (4, .int wd), (5, .int (nI (kP i))), (6, .int (zI (-(kLw i : Int)))), (9, .int (zI ((j0 : Int) + c - kLw i))), (11, .int hf)]) hx hb d_Mod_rounded_153 hl (by decide) rfl (fun ls hl => ?_)
                refine lv_lload hx hb d_Mod_rounded_155 (lv_at hl 0 rfl) ?_
                refine lv_lconst (v := 1) hx hb d_Mod_rounded_157 (by decide) ?_
                refine lv_iload hx hb d_Mod_rounded_158 (lv_at hl 4 rfl) ?_
                refine lv_lshl (v := lN (2 ^ kP i)) hx hb d_Mod_rounded_160 (shl1 (by omega)) ?_
                refine W.lcmp hx hb d_Mod_rounded_161 ?_
                refine lv_if_ne (tgt := 174) hx hb d_Mod_rounded_162 (by decide) (fun c162 => ?_) (fun c162 => ?_)
                · have e162 : Q ≠ 2 ^ kP i := fun z => c162 ((lg_cmp_eq _ _).mpr (by rw [z]))
                  refine lv_lconst (v := 1) hx hb d_Mod_rounded_174 (by decide) ?_
                  refine lv_iload hx hb d_Mod_rounded_175 (lv_at hl 4 rfl) ?_
                  refine lv_iconst (v := 1) hx hb d_Mod_rounded_177 (by decide) ?_
                  refine lv_isub hx hb d_Mod_rounded_178 ?_
                  refine tv_i (nI (kP i - 1)) (nI_dec (by omega)) ?_
                  refine lv_lshl (v := lN (2 ^ (kP i - 1))) hx hb d_Mod_rounded_179 (shl1 (by omega)) ?_
                  refine lv_lstore (lv' := [(13, .long (lN (2 ^ (kP i - 1)))), (7, .long (lN Q)), (12, .int 0), (0, .ref md), (4, .int wd), (5, .int (nI (kP i))), (6, .int (zI (-(kLw i : Int)))), (9, .int (zI ((j0 : Int) + c - kLw i))), (11, .int hf)]) hx hb d_Mod_rounded_180 hl (by decide) rfl (fun ls hl => ?_)
                  refine lv_lload hx hb d_Mod_rounded_182 (lv_at hl 1 rfl) ?_
                  refine lv_lload hx hb d_Mod_rounded_184 (lv_at hl 0 rfl) ?_
                  refine W.lcmp hx hb d_Mod_rounded_186 ?_
                  refine lv_if_ge (tgt := 193) hx hb d_Mod_rounded_187 (by decide) (fun c187 => ?_) (fun c187 => ?_)
                  · have e187 : 2 ^ (kP i - 1) ≤ Q := (pk_lLE (by omega) (by omega)).mp ((lg_cmp_ge _ _).mp c187)
                    refine lv_iload hx hb d_Mod_rounded_193 (lv_at hl 7 rfl) ?_
                    refine lv_iload hx hb d_Mod_rounded_195 (lv_at hl 6 rfl) ?_
                    refine lv_isub hx hb d_Mod_rounded_197 ?_
                    refine lv_iconst (v := 1) hx hb d_Mod_rounded_198 (by decide) ?_
                    refine lv_iadd hx hb d_Mod_rounded_199 ?_
                    refine tv_i (nI (j0 + c + 1)) (by show zI _ - zI _ + zI 1 = _; rw [zI_sub, zI_add, ← zI_nI]; exact congrArg zI (by omega)) ?_
                    refine lv_i2l (v := (nI (j0 + c + 1)).toInt64) hx hb d_Mod_rounded_200 (rfl) ?_
                    refine tv_l (lN (j0 + c + 1)) (nI_l (by omega)) ?_
                    refine lv_lstore (lv' := [(15, .long (lN (j0 + c + 1))), (13, .long (lN (2 ^ (kP i - 1)))), (7, .long (lN Q)), (12, .int 0), (0, .ref md), (4, .int wd), (5, .int (nI (kP i))), (6, .int (zI (-(kLw i : Int)))), (9, .int (zI ((j0 : Int) + c - kLw i))), (11, .int hf)]) hx hb d_Mod_rounded_201 hl (by decide) rfl (fun ls hl => ?_)
                    refine lv_lload hx hb d_Mod_rounded_203 (lv_at hl 0 rfl) ?_
                    refine lv_iload hx hb d_Mod_rounded_205 (lv_at hl 5 rfl) ?_
                    refine lv_if_eq (tgt := 216) hx hb d_Mod_rounded_207 (by decide) (fun c207 => ?_) (fun c207 => ?_)
                    · have e207 : i = 1 := by rw [← hwd]; exact if_pos c207
                      refine lv_ldc2 hx hb hown (hts _ kK_Mod_72) d_Mod_rounded_216 ?_
                      refine tv_l (lN (kZ i + 2)) (by rw [e207]; rfl) ?_
                      refine W.lcmp hx hb d_Mod_rounded_219 ?_
                      refine lv_if_lt (tgt := 231) hx hb d_Mod_rounded_220 (by decide) (fun c220 => ?_) (fun c220 => ?_)
                      · have e220 : j0 + c + 1 < kZ i + 2 := (pk_lLT (by omega) (by omega)).mp ((lg_cmp_lt _ _).mp c220)
                        refine lv_lload hx hb d_Mod_rounded_231 (lv_at hl 0 rfl) ?_
                        refine lv_iload hx hb d_Mod_rounded_233 (lv_at hl 6 rfl) ?_
                        refine lv_iconst (v := 1) hx hb d_Mod_rounded_235 (by decide) ?_
                        refine lv_isub hx hb d_Mod_rounded_236 ?_
                        refine tv_i (nI (kP i - 1)) (nI_dec (by omega)) ?_
                        refine lv_lshl (v := lN ((j0 + c + 1) * 2 ^ (kP i - 1))) hx hb d_Mod_rounded_237 (wb_shl _ (by omega)) ?_
                        refine lv_lload hx hb d_Mod_rounded_238 (lv_at hl 2 rfl) ?_
                        refine lv_lload hx hb d_Mod_rounded_240 (lv_at hl 1 rfl) ?_
                        refine lv_lsub hx hb d_Mod_rounded_242 ?_
                        refine lv_ladd hx hb d_Mod_rounded_243 ?_
                        refine tv_l (lN ((j0 + c) * 2 ^ (kP i - 1) + Q)) (by rw [lN_sub (by omega), lN_add]; exact congrArg lN (by rw [Nat.add_mul, Nat.one_mul]; omega)) ?_
                        exact rt_l hx hb hrt hlocks (()) (by rw [← hcc, ← hQ]; unfold moR; rw [if_neg (by omega), if_neg e162, if_neg (by omega)]) (hP.sub [0, 1, 2] rfl) (hK.sub [0, 1] rfl) (hD.sub [0, 1, 2] (by decide) rfl) hS d_Mod_rounded_244
                      · have e220 : ¬ j0 + c + 1 < kZ i + 2 := fun z => c220 ((lg_cmp_lt _ _).mpr ((pk_lLT (by omega) (by omega)).mpr z))
                        refine lv_iload hx hb d_Mod_rounded_223 (lv_at hl 5 rfl) ?_
                        refine ca_l [(md, .inr (5, [.ref xx, .int ln, .long R, .int rd, .ref mm, .ref nn, .int at0, .int en0])), (mm, .inl (cM, 3000, .inl (rw16 (upR V 0 (V 0 * 2 + 0))))), (nn, .inl (cN, 3, .inl (rc (upR V 0 (V 0 * 2 + 0)))))] (va_runS (As := [.int wd]) (rest := []) ⟨hx, hb, hml, hown, hts⟩ (c_Mod_infinite l D E wd H.size) (xS 1 hts kC_Mod_infinite kM_Mod_46 kT_Mod_infinite kN_Mod rfl rfl (by decide +kernel) ⟨Nat.le_of_ble_eq_true rfl, Nat.le_of_ble_eq_true rfl⟩) ⟨ct_blind hev, ct_pre hev hP hK hD hS hA hE [] rfl (by decide) [] rfl⟩ rfl rfl hl.1 rfl (lv_room (Nat.le_of_ble_eq_true rfl)) d_Mod_rounded_225 ⟨Nat.le_of_ble_eq_true rfl, Nat.le_of_ble_eq_true rfl⟩) hP hD hS hA [] [0, 1, 2] rfl rfl (by decide) (by decide) (fun rv u H locs hw hP hD hS hK1 => ?_)
                        subst hw
                        have hP : va_P D vcl [(md, .inr (5, [.ref xx, .int ln, .long R, .int rd, .ref mm, .ref nn, .int at0, .int en0])), (mm, .inl (cM, 3000, .inl (rw16 (upR V 0 (V 0 * 2 + 0))))), (nn, .inl (cN, 3, .inl (rc (upR V 0 (V 0 * 2 + 0)))))] H := hP
                        have hD : va_D A [(md, .inr (5, [.ref xx, .int ln, .long R, .int rd, .ref mm, .ref nn, .int at0, .int en0])), (mm, .inl (cM, 3000, .inl (rw16 (upR V 0 (V 0 * 2 + 0))))), (nn, .inl (cN, 3, .inl (rc (upR V 0 (V 0 * 2 + 0)))))] := hD
                        refine lv_goto (tgt := 244) hx hb d_Mod_rounded_228 (by decide) ?_
                        exact rt_l hx hb hrt hlocks (()) (by rw [← hcc, ← hQ]; unfold moR; rw [if_neg (by omega), if_neg e162, if_pos (by omega), hwd]; exact kf_I i hi) (hP.sub [0, 1, 2] rfl) (hK.sub [0, 1] rfl) (hD.sub [0, 1, 2] (by decide) rfl) hS d_Mod_rounded_244
                    · have e207 : i = 0 := by rw [← hwd]; exact if_neg c207
                      refine lv_ldc2 hx hb hown (hts _ kK_Mod_70) d_Mod_rounded_210 ?_
                      refine tv_l (lN (kZ i + 2)) (by rw [e207]; rfl) ?_
                      refine lv_goto (tgt := 219) hx hb d_Mod_rounded_213 (by decide) ?_
                      refine W.lcmp hx hb d_Mod_rounded_219 ?_
                      refine lv_if_lt (tgt := 231) hx hb d_Mod_rounded_220 (by decide) (fun c220 => ?_) (fun c220 => ?_)
                      · have e220 : j0 + c + 1 < kZ i + 2 := (pk_lLT (by omega) (by omega)).mp ((lg_cmp_lt _ _).mp c220)
                        refine lv_lload hx hb d_Mod_rounded_231 (lv_at hl 0 rfl) ?_
                        refine lv_iload hx hb d_Mod_rounded_233 (lv_at hl 6 rfl) ?_
                        refine lv_iconst (v := 1) hx hb d_Mod_rounded_235 (by decide) ?_
                        refine lv_isub hx hb d_Mod_rounded_236 ?_
                        refine tv_i (nI (kP i - 1)) (nI_dec (by omega)) ?_
                        refine lv_lshl (v := lN ((j0 + c + 1) * 2 ^ (kP i - 1))) hx hb d_Mod_rounded_237 (wb_shl _ (by omega)) ?_
                        refine lv_lload hx hb d_Mod_rounded_238 (lv_at hl 2 rfl) ?_
                        refine lv_lload hx hb d_Mod_rounded_240 (lv_at hl 1 rfl) ?_
                        refine lv_lsub hx hb d_Mod_rounded_242 ?_
                        refine lv_ladd hx hb d_Mod_rounded_243 ?_
                        refine tv_l (lN ((j0 + c) * 2 ^ (kP i - 1) + Q)) (by rw [lN_sub (by omega), lN_add]; exact congrArg lN (by rw [Nat.add_mul, Nat.one_mul]; omega)) ?_
                        exact rt_l hx hb hrt hlocks (()) (by rw [← hcc, ← hQ]; unfold moR; rw [if_neg (by omega), if_neg e162, if_neg (by omega)]) (hP.sub [0, 1, 2] rfl) (hK.sub [0, 1] rfl) (hD.sub [0, 1, 2] (by decide) rfl) hS d_Mod_rounded_244
                      · have e220 : ¬ j0 + c + 1 < kZ i + 2 := fun z => c220 ((lg_cmp_lt _ _).mpr ((pk_lLT (by omega) (by omega)).mpr z))
                        refine lv_iload hx hb d_Mod_rounded_223 (lv_at hl 5 rfl) ?_
                        refine ca_l [(md, .inr (5, [.ref xx, .int ln, .long R, .int rd, .ref mm, .ref nn, .int at0, .int en0])), (mm, .inl (cM, 3000, .inl (rw16 (upR V 0 (V 0 * 2 + 0))))), (nn, .inl (cN, 3, .inl (rc (upR V 0 (V 0 * 2 + 0)))))] (va_runS (As := [.int wd]) (rest := []) ⟨hx, hb, hml, hown, hts⟩ (c_Mod_infinite l D E wd H.size) (xS 1 hts kC_Mod_infinite kM_Mod_46 kT_Mod_infinite kN_Mod rfl rfl (by decide +kernel) ⟨Nat.le_of_ble_eq_true rfl, Nat.le_of_ble_eq_true rfl⟩) ⟨ct_blind hev, ct_pre hev hP hK hD hS hA hE [] rfl (by decide) [] rfl⟩ rfl rfl hl.1 rfl (lv_room (Nat.le_of_ble_eq_true rfl)) d_Mod_rounded_225 ⟨Nat.le_of_ble_eq_true rfl, Nat.le_of_ble_eq_true rfl⟩) hP hD hS hA [] [0, 1, 2] rfl rfl (by decide) (by decide) (fun rv u H locs hw hP hD hS hK1 => ?_)
                        subst hw
                        have hP : va_P D vcl [(md, .inr (5, [.ref xx, .int ln, .long R, .int rd, .ref mm, .ref nn, .int at0, .int en0])), (mm, .inl (cM, 3000, .inl (rw16 (upR V 0 (V 0 * 2 + 0))))), (nn, .inl (cN, 3, .inl (rc (upR V 0 (V 0 * 2 + 0)))))] H := hP
                        have hD : va_D A [(md, .inr (5, [.ref xx, .int ln, .long R, .int rd, .ref mm, .ref nn, .int at0, .int en0])), (mm, .inl (cM, 3000, .inl (rw16 (upR V 0 (V 0 * 2 + 0))))), (nn, .inl (cN, 3, .inl (rc (upR V 0 (V 0 * 2 + 0)))))] := hD
                        refine lv_goto (tgt := 244) hx hb d_Mod_rounded_228 (by decide) ?_
                        exact rt_l hx hb hrt hlocks (()) (by rw [← hcc, ← hQ]; unfold moR; rw [if_neg (by omega), if_neg e162, if_pos (by omega), hwd]; exact kf_I i hi) (hP.sub [0, 1, 2] rfl) (hK.sub [0, 1] rfl) (hD.sub [0, 1, 2] (by decide) rfl) hS d_Mod_rounded_244
                  · have e187 : ¬ 2 ^ (kP i - 1) ≤ Q := fun z => c187 ((lg_cmp_ge _ _).mpr ((pk_lLE (by omega) (by omega)).mpr z))
                    refine lv_lload hx hb d_Mod_rounded_190 (lv_at hl 1 rfl) ?_
                    exact rt_l hx hb hrt hlocks (()) (by rw [← hcc, ← hQ]; unfold moR; rw [if_pos (by omega)]) (hP.sub [0, 1, 2] rfl) (hK.sub [0, 1] rfl) (hD.sub [0, 1, 2] (by decide) rfl) hS d_Mod_rounded_192
                · have e162 : Q = 2 ^ kP i := (pk_lEQ (by omega) (by omega)).mp ((lg_cmp_eq _ _).mp c162)
                  refine lv_lload hx hb d_Mod_rounded_165 (lv_at hl 0 rfl) ?_
                  refine lv_iconst (v := 1) hx hb d_Mod_rounded_167 (by decide) ?_
                  refine lv_lshr (v := lN (2 ^ (kP i - 1))) hx hb d_Mod_rounded_168 (by rw [e162, sar1 (by omega)]; exact congrArg lN (by omega)) ?_
                  refine lv_lstore (lv' := [(7, .long (lN (2 ^ (kP i - 1)))), (12, .int 0), (0, .ref md), (4, .int wd), (5, .int (nI (kP i))), (6, .int (zI (-(kLw i : Int)))), (9, .int (zI ((j0 : Int) + c - kLw i))), (11, .int hf)]) hx hb d_Mod_rounded_169 hl (by decide) rfl (fun ls hl => ?_)
                  refine lv_iinc (v := zI ((j0 : Int) + c + 1 - kLw i)) (lv' := [(9, .int (zI ((j0 : Int) + c + 1 - kLw i))), (7, .long (lN (2 ^ (kP i - 1)))), (12, .int 0), (0, .ref md), (4, .int wd), (5, .int (nI (kP i))), (6, .int (zI (-(kLw i : Int)))), (11, .int hf)]) hx hb d_Mod_rounded_171 hl (k := 6) rfl (by show zI _ + zI 1 = _; rw [zI_add]; exact congrArg zI (by omega)) (by decide) rfl (fun ls hl => ?_)
                  refine lv_lconst (v := 1) hx hb d_Mod_rounded_174 (by decide) ?_
                  refine lv_iload hx hb d_Mod_rounded_175 (lv_at hl 5 rfl) ?_
                  refine lv_iconst (v := 1) hx hb d_Mod_rounded_177 (by decide) ?_
                  refine lv_isub hx hb d_Mod_rounded_178 ?_
                  refine tv_i (nI (kP i - 1)) (nI_dec (by omega)) ?_
                  refine lv_lshl (v := lN (2 ^ (kP i - 1))) hx hb d_Mod_rounded_179 (shl1 (by omega)) ?_
                  refine lv_lstore (lv' := [(13, .long (lN (2 ^ (kP i - 1)))), (9, .int (zI ((j0 : Int) + c + 1 - kLw i))), (7, .long (lN (2 ^ (kP i - 1)))), (12, .int 0), (0, .ref md), (4, .int wd), (5, .int (nI (kP i))), (6, .int (zI (-(kLw i : Int)))), (11, .int hf)]) hx hb d_Mod_rounded_180 hl (by decide) rfl (fun ls hl => ?_)
                  refine lv_lload hx hb d_Mod_rounded_182 (lv_at hl 2 rfl) ?_
                  refine lv_lload hx hb d_Mod_rounded_184 (lv_at hl 0 rfl) ?_
                  refine W.lcmp hx hb d_Mod_rounded_186 ?_
                  refine lv_if_ge (tgt := 193) hx hb d_Mod_rounded_187 (by decide) (fun c187 => ?_) (fun c187 => ?_)
                  · have e187 : 2 ^ (kP i - 1) ≤ 2 ^ (kP i - 1) := (pk_lLE (by omega) (by omega)).mp ((lg_cmp_ge _ _).mp c187)
                    refine lv_iload hx hb d_Mod_rounded_193 (lv_at hl 1 rfl) ?_
                    refine lv_iload hx hb d_Mod_rounded_195 (lv_at hl 7 rfl) ?_
                    refine lv_isub hx hb d_Mod_rounded_197 ?_
                    refine lv_iconst (v := 1) hx hb d_Mod_rounded_198 (by decide) ?_
                    refine lv_iadd hx hb d_Mod_rounded_199 ?_
                    refine tv_i (nI (j0 + c + 2)) (by show zI _ - zI _ + zI 1 = _; rw [zI_sub, zI_add, ← zI_nI]; exact congrArg zI (by omega)) ?_
                    refine lv_i2l (v := (nI (j0 + c + 2)).toInt64) hx hb d_Mod_rounded_200 (rfl) ?_
                    refine tv_l (lN (j0 + c + 2)) (nI_l (by omega)) ?_
                    refine lv_lstore (lv' := [(15, .long (lN (j0 + c + 2))), (13, .long (lN (2 ^ (kP i - 1)))), (9, .int (zI ((j0 : Int) + c + 1 - kLw i))), (7, .long (lN (2 ^ (kP i - 1)))), (12, .int 0), (0, .ref md), (4, .int wd), (5, .int (nI (kP i))), (6, .int (zI (-(kLw i : Int)))), (11, .int hf)]) hx hb d_Mod_rounded_201 hl (by decide) rfl (fun ls hl => ?_)
                    refine lv_lload hx hb d_Mod_rounded_203 (lv_at hl 0 rfl) ?_
                    refine lv_iload hx hb d_Mod_rounded_205 (lv_at hl 6 rfl) ?_
                    refine lv_if_eq (tgt := 216) hx hb d_Mod_rounded_207 (by decide) (fun c207 => ?_) (fun c207 => ?_)
                    · have e207 : i = 1 := by rw [← hwd]; exact if_pos c207
                      refine lv_ldc2 hx hb hown (hts _ kK_Mod_72) d_Mod_rounded_216 ?_
                      refine tv_l (lN (kZ i + 2)) (by rw [e207]; rfl) ?_
                      refine W.lcmp hx hb d_Mod_rounded_219 ?_
                      refine lv_if_lt (tgt := 231) hx hb d_Mod_rounded_220 (by decide) (fun c220 => ?_) (fun c220 => ?_)
                      · have e220 : j0 + c + 2 < kZ i + 2 := (pk_lLT (by omega) (by omega)).mp ((lg_cmp_lt _ _).mp c220)
                        refine lv_lload hx hb d_Mod_rounded_231 (lv_at hl 0 rfl) ?_
                        refine lv_iload hx hb d_Mod_rounded_233 (lv_at hl 7 rfl) ?_
                        refine lv_iconst (v := 1) hx hb d_Mod_rounded_235 (by decide) ?_
                        refine lv_isub hx hb d_Mod_rounded_236 ?_
                        refine tv_i (nI (kP i - 1)) (nI_dec (by omega)) ?_
                        refine lv_lshl (v := lN ((j0 + c + 2) * 2 ^ (kP i - 1))) hx hb d_Mod_rounded_237 (wb_shl _ (by omega)) ?_
                        refine lv_lload hx hb d_Mod_rounded_238 (lv_at hl 3 rfl) ?_
                        refine lv_lload hx hb d_Mod_rounded_240 (lv_at hl 1 rfl) ?_
                        refine lv_lsub hx hb d_Mod_rounded_242 ?_
                        refine lv_ladd hx hb d_Mod_rounded_243 ?_
                        refine tv_l (lN ((j0 + c) * 2 ^ (kP i - 1) + Q)) (by rw [lN_sub (Nat.le_refl _), lN_add]; exact congrArg lN (by rw [Nat.sub_self, e162, hpP, Nat.add_mul]; omega)) ?_
                        exact rt_l hx hb hrt hlocks (()) (by rw [← hcc, ← hQ]; unfold moR; rw [if_neg (by omega), if_pos e162, if_neg (by omega)]) (hP.sub [0, 1, 2] rfl) (hK.sub [0, 1] rfl) (hD.sub [0, 1, 2] (by decide) rfl) hS d_Mod_rounded_244
                      · have e220 : ¬ j0 + c + 2 < kZ i + 2 := fun z => c220 ((lg_cmp_lt _ _).mpr ((pk_lLT (by omega) (by omega)).mpr z))
                        refine lv_iload hx hb d_Mod_rounded_223 (lv_at hl 6 rfl) ?_
                        refine ca_l [(md, .inr (5, [.ref xx, .int ln, .long R, .int rd, .ref mm, .ref nn, .int at0, .int en0])), (mm, .inl (cM, 3000, .inl (rw16 (upR V 0 (V 0 * 2 + 0))))), (nn, .inl (cN, 3, .inl (rc (upR V 0 (V 0 * 2 + 0)))))] (va_runS (As := [.int wd]) (rest := []) ⟨hx, hb, hml, hown, hts⟩ (c_Mod_infinite l D E wd H.size) (xS 1 hts kC_Mod_infinite kM_Mod_46 kT_Mod_infinite kN_Mod rfl rfl (by decide +kernel) ⟨Nat.le_of_ble_eq_true rfl, Nat.le_of_ble_eq_true rfl⟩) ⟨ct_blind hev, ct_pre hev hP hK hD hS hA hE [] rfl (by decide) [] rfl⟩ rfl rfl hl.1 rfl (lv_room (Nat.le_of_ble_eq_true rfl)) d_Mod_rounded_225 ⟨Nat.le_of_ble_eq_true rfl, Nat.le_of_ble_eq_true rfl⟩) hP hD hS hA [] [0, 1, 2] rfl rfl (by decide) (by decide) (fun rv u H locs hw hP hD hS hK1 => ?_)
                        subst hw
                        have hP : va_P D vcl [(md, .inr (5, [.ref xx, .int ln, .long R, .int rd, .ref mm, .ref nn, .int at0, .int en0])), (mm, .inl (cM, 3000, .inl (rw16 (upR V 0 (V 0 * 2 + 0))))), (nn, .inl (cN, 3, .inl (rc (upR V 0 (V 0 * 2 + 0)))))] H := hP
                        have hD : va_D A [(md, .inr (5, [.ref xx, .int ln, .long R, .int rd, .ref mm, .ref nn, .int at0, .int en0])), (mm, .inl (cM, 3000, .inl (rw16 (upR V 0 (V 0 * 2 + 0))))), (nn, .inl (cN, 3, .inl (rc (upR V 0 (V 0 * 2 + 0)))))] := hD
                        refine lv_goto (tgt := 244) hx hb d_Mod_rounded_228 (by decide) ?_
                        exact rt_l hx hb hrt hlocks (()) (by rw [← hcc, ← hQ]; unfold moR; rw [if_neg (by omega), if_pos e162, if_pos (by omega), hwd]; exact kf_I i hi) (hP.sub [0, 1, 2] rfl) (hK.sub [0, 1] rfl) (hD.sub [0, 1, 2] (by decide) rfl) hS d_Mod_rounded_244
                    · have e207 : i = 0 := by rw [← hwd]; exact if_neg c207
                      refine lv_ldc2 hx hb hown (hts _ kK_Mod_70) d_Mod_rounded_210 ?_
                      refine tv_l (lN (kZ i + 2)) (by rw [e207]; rfl) ?_
                      refine lv_goto (tgt := 219) hx hb d_Mod_rounded_213 (by decide) ?_
                      refine W.lcmp hx hb d_Mod_rounded_219 ?_
                      refine lv_if_lt (tgt := 231) hx hb d_Mod_rounded_220 (by decide) (fun c220 => ?_) (fun c220 => ?_)
                      · have e220 : j0 + c + 2 < kZ i + 2 := (pk_lLT (by omega) (by omega)).mp ((lg_cmp_lt _ _).mp c220)
                        refine lv_lload hx hb d_Mod_rounded_231 (lv_at hl 0 rfl) ?_
                        refine lv_iload hx hb d_Mod_rounded_233 (lv_at hl 7 rfl) ?_
                        refine lv_iconst (v := 1) hx hb d_Mod_rounded_235 (by decide) ?_
                        refine lv_isub hx hb d_Mod_rounded_236 ?_
                        refine tv_i (nI (kP i - 1)) (nI_dec (by omega)) ?_
                        refine lv_lshl (v := lN ((j0 + c + 2) * 2 ^ (kP i - 1))) hx hb d_Mod_rounded_237 (wb_shl _ (by omega)) ?_
                        refine lv_lload hx hb d_Mod_rounded_238 (lv_at hl 3 rfl) ?_
                        refine lv_lload hx hb d_Mod_rounded_240 (lv_at hl 1 rfl) ?_
                        refine lv_lsub hx hb d_Mod_rounded_242 ?_
                        refine lv_ladd hx hb d_Mod_rounded_243 ?_
                        refine tv_l (lN ((j0 + c) * 2 ^ (kP i - 1) + Q)) (by rw [lN_sub (Nat.le_refl _), lN_add]; exact congrArg lN (by rw [Nat.sub_self, e162, hpP, Nat.add_mul]; omega)) ?_
                        exact rt_l hx hb hrt hlocks (()) (by rw [← hcc, ← hQ]; unfold moR; rw [if_neg (by omega), if_pos e162, if_neg (by omega)]) (hP.sub [0, 1, 2] rfl) (hK.sub [0, 1] rfl) (hD.sub [0, 1, 2] (by decide) rfl) hS d_Mod_rounded_244
                      · have e220 : ¬ j0 + c + 2 < kZ i + 2 := fun z => c220 ((lg_cmp_lt _ _).mpr ((pk_lLT (by omega) (by omega)).mpr z))
                        refine lv_iload hx hb d_Mod_rounded_223 (lv_at hl 6 rfl) ?_
                        refine ca_l [(md, .inr (5, [.ref xx, .int ln, .long R, .int rd, .ref mm, .ref nn, .int at0, .int en0])), (mm, .inl (cM, 3000, .inl (rw16 (upR V 0 (V 0 * 2 + 0))))), (nn, .inl (cN, 3, .inl (rc (upR V 0 (V 0 * 2 + 0)))))] (va_runS (As := [.int wd]) (rest := []) ⟨hx, hb, hml, hown, hts⟩ (c_Mod_infinite l D E wd H.size) (xS 1 hts kC_Mod_infinite kM_Mod_46 kT_Mod_infinite kN_Mod rfl rfl (by decide +kernel) ⟨Nat.le_of_ble_eq_true rfl, Nat.le_of_ble_eq_true rfl⟩) ⟨ct_blind hev, ct_pre hev hP hK hD hS hA hE [] rfl (by decide) [] rfl⟩ rfl rfl hl.1 rfl (lv_room (Nat.le_of_ble_eq_true rfl)) d_Mod_rounded_225 ⟨Nat.le_of_ble_eq_true rfl, Nat.le_of_ble_eq_true rfl⟩) hP hD hS hA [] [0, 1, 2] rfl rfl (by decide) (by decide) (fun rv u H locs hw hP hD hS hK1 => ?_)
                        subst hw
                        have hP : va_P D vcl [(md, .inr (5, [.ref xx, .int ln, .long R, .int rd, .ref mm, .ref nn, .int at0, .int en0])), (mm, .inl (cM, 3000, .inl (rw16 (upR V 0 (V 0 * 2 + 0))))), (nn, .inl (cN, 3, .inl (rc (upR V 0 (V 0 * 2 + 0)))))] H := hP
                        have hD : va_D A [(md, .inr (5, [.ref xx, .int ln, .long R, .int rd, .ref mm, .ref nn, .int at0, .int en0])), (mm, .inl (cM, 3000, .inl (rw16 (upR V 0 (V 0 * 2 + 0))))), (nn, .inl (cN, 3, .inl (rc (upR V 0 (V 0 * 2 + 0)))))] := hD
                        refine lv_goto (tgt := 244) hx hb d_Mod_rounded_228 (by decide) ?_
                        exact rt_l hx hb hrt hlocks (()) (by rw [← hcc, ← hQ]; unfold moR; rw [if_neg (by omega), if_pos e162, if_pos (by omega), hwd]; exact kf_I i hi) (hP.sub [0, 1, 2] rfl) (hK.sub [0, 1] rfl) (hD.sub [0, 1, 2] (by decide) rfl) hS d_Mod_rounded_244
                  · have e187 : ¬ 2 ^ (kP i - 1) ≤ 2 ^ (kP i - 1) := fun z => c187 ((lg_cmp_ge _ _).mpr ((pk_lLE (by omega) (by omega)).mpr z))
                    refine lv_lload hx hb d_Mod_rounded_190 (lv_at hl 2 rfl) ?_
                    exact rt_l hx hb hrt hlocks (()) (absurd (Nat.le_refl _) e187) (hP.sub [0, 1, 2] rfl) (hK.sub [0, 1] rfl) (hD.sub [0, 1, 2] (by decide) rfl) hS d_Mod_rounded_192
              · exact absurd rfl c141
            · have hqq : Q = q1 + 1 := hu1 (Or.inr ⟨c120, (pk_lEQ (b := 1) (by omega) (by decide)).mp ((lg_cmp_eq _ _).mp c129)⟩)
              refine lv_iconst (v := 1) hx hb d_Mod_rounded_132 (by decide) ?_
              refine lv_goto (tgt := 137) hx hb d_Mod_rounded_133 (by decide) ?_
              refine lv_istore (lv' := [(12, .int 1), (0, .ref md), (4, .int wd), (5, .int (nI (kP i))), (6, .int (zI (-(kLw i : Int)))), (7, .long (lN q1)), (9, .int (zI ((j0 : Int) + c - kLw i))), (11, .int hf)]) hx hb d_Mod_rounded_137 hl (by decide) rfl (fun ls hl => ?_)
              refine lv_iload hx hb d_Mod_rounded_139 (lv_at hl 0 rfl) ?_
              refine lv_if_eq (tgt := 151) hx hb d_Mod_rounded_141 (by decide) (fun c141 => ?_) (fun c141 => ?_)
              · exact absurd c141 (by decide)
              · refine lv_lload hx hb d_Mod_rounded_144 (lv_at hl 5 rfl) ?_
                refine lv_lconst (v := 1) hx hb d_Mod_rounded_146 (by decide) ?_
                refine lv_ladd hx hb d_Mod_rounded_147 ?_
                refine tv_l (lN Q) (by rw [hqq]; exact lN_1 _) ?_
                refine lv_goto (tgt := 153) hx hb d_Mod_rounded_148 (by decide) ?_
                refine lv_lstore (lv' := [(7, .long (lN Q)), (12, .int 1), (0, .ref md), (4, .int wd), (5, .int (nI (kP i))), (6, .int (zI (-(kLw i : Int)))), (9, .int (zI ((j0 : Int) + c - kLw i))), (11, .int hf)]) hx hb d_Mod_rounded_153 hl (by decide) rfl (fun ls hl => ?_)
                refine lv_lload hx hb d_Mod_rounded_155 (lv_at hl 0 rfl) ?_
                refine lv_lconst (v := 1) hx hb d_Mod_rounded_157 (by decide) ?_
                refine lv_iload hx hb d_Mod_rounded_158 (lv_at hl 4 rfl) ?_
                refine lv_lshl (v := lN (2 ^ kP i)) hx hb d_Mod_rounded_160 (shl1 (by omega)) ?_
                refine W.lcmp hx hb d_Mod_rounded_161 ?_
                refine lv_if_ne (tgt := 174) hx hb d_Mod_rounded_162 (by decide) (fun c162 => ?_) (fun c162 => ?_)
                · have e162 : Q ≠ 2 ^ kP i := fun z => c162 ((lg_cmp_eq _ _).mpr (by rw [z]))
                  refine lv_lconst (v := 1) hx hb d_Mod_rounded_174 (by decide) ?_
                  refine lv_iload hx hb d_Mod_rounded_175 (lv_at hl 4 rfl) ?_
                  refine lv_iconst (v := 1) hx hb d_Mod_rounded_177 (by decide) ?_
                  refine lv_isub hx hb d_Mod_rounded_178 ?_
                  refine tv_i (nI (kP i - 1)) (nI_dec (by omega)) ?_
                  refine lv_lshl (v := lN (2 ^ (kP i - 1))) hx hb d_Mod_rounded_179 (shl1 (by omega)) ?_
                  refine lv_lstore (lv' := [(13, .long (lN (2 ^ (kP i - 1)))), (7, .long (lN Q)), (12, .int 1), (0, .ref md), (4, .int wd), (5, .int (nI (kP i))), (6, .int (zI (-(kLw i : Int)))), (9, .int (zI ((j0 : Int) + c - kLw i))), (11, .int hf)]) hx hb d_Mod_rounded_180 hl (by decide) rfl (fun ls hl => ?_)
                  refine lv_lload hx hb d_Mod_rounded_182 (lv_at hl 1 rfl) ?_
                  refine lv_lload hx hb d_Mod_rounded_184 (lv_at hl 0 rfl) ?_
                  refine W.lcmp hx hb d_Mod_rounded_186 ?_
                  refine lv_if_ge (tgt := 193) hx hb d_Mod_rounded_187 (by decide) (fun c187 => ?_) (fun c187 => ?_)
                  · have e187 : 2 ^ (kP i - 1) ≤ Q := (pk_lLE (by omega) (by omega)).mp ((lg_cmp_ge _ _).mp c187)
                    refine lv_iload hx hb d_Mod_rounded_193 (lv_at hl 7 rfl) ?_
                    refine lv_iload hx hb d_Mod_rounded_195 (lv_at hl 6 rfl) ?_
                    refine lv_isub hx hb d_Mod_rounded_197 ?_
                    refine lv_iconst (v := 1) hx hb d_Mod_rounded_198 (by decide) ?_
                    refine lv_iadd hx hb d_Mod_rounded_199 ?_
                    refine tv_i (nI (j0 + c + 1)) (by show zI _ - zI _ + zI 1 = _; rw [zI_sub, zI_add, ← zI_nI]; exact congrArg zI (by omega)) ?_
                    refine lv_i2l (v := (nI (j0 + c + 1)).toInt64) hx hb d_Mod_rounded_200 (rfl) ?_
                    refine tv_l (lN (j0 + c + 1)) (nI_l (by omega)) ?_
                    refine lv_lstore (lv' := [(15, .long (lN (j0 + c + 1))), (13, .long (lN (2 ^ (kP i - 1)))), (7, .long (lN Q)), (12, .int 1), (0, .ref md), (4, .int wd), (5, .int (nI (kP i))), (6, .int (zI (-(kLw i : Int)))), (9, .int (zI ((j0 : Int) + c - kLw i))), (11, .int hf)]) hx hb d_Mod_rounded_201 hl (by decide) rfl (fun ls hl => ?_)
                    refine lv_lload hx hb d_Mod_rounded_203 (lv_at hl 0 rfl) ?_
                    refine lv_iload hx hb d_Mod_rounded_205 (lv_at hl 5 rfl) ?_
                    refine lv_if_eq (tgt := 216) hx hb d_Mod_rounded_207 (by decide) (fun c207 => ?_) (fun c207 => ?_)
                    · have e207 : i = 1 := by rw [← hwd]; exact if_pos c207
                      refine lv_ldc2 hx hb hown (hts _ kK_Mod_72) d_Mod_rounded_216 ?_
                      refine tv_l (lN (kZ i + 2)) (by rw [e207]; rfl) ?_
                      refine W.lcmp hx hb d_Mod_rounded_219 ?_
                      refine lv_if_lt (tgt := 231) hx hb d_Mod_rounded_220 (by decide) (fun c220 => ?_) (fun c220 => ?_)
                      · have e220 : j0 + c + 1 < kZ i + 2 := (pk_lLT (by omega) (by omega)).mp ((lg_cmp_lt _ _).mp c220)
                        refine lv_lload hx hb d_Mod_rounded_231 (lv_at hl 0 rfl) ?_
                        refine lv_iload hx hb d_Mod_rounded_233 (lv_at hl 6 rfl) ?_
                        refine lv_iconst (v := 1) hx hb d_Mod_rounded_235 (by decide) ?_
                        refine lv_isub hx hb d_Mod_rounded_236 ?_
                        refine tv_i (nI (kP i - 1)) (nI_dec (by omega)) ?_
                        refine lv_lshl (v := lN ((j0 + c + 1) * 2 ^ (kP i - 1))) hx hb d_Mod_rounded_237 (wb_shl _ (by omega)) ?_
                        refine lv_lload hx hb d_Mod_rounded_238 (lv_at hl 2 rfl) ?_
                        refine lv_lload hx hb d_Mod_rounded_240 (lv_at hl 1 rfl) ?_
                        refine lv_lsub hx hb d_Mod_rounded_242 ?_
                        refine lv_ladd hx hb d_Mod_rounded_243 ?_
                        refine tv_l (lN ((j0 + c) * 2 ^ (kP i - 1) + Q)) (by rw [lN_sub (by omega), lN_add]; exact congrArg lN (by rw [Nat.add_mul, Nat.one_mul]; omega)) ?_
                        exact rt_l hx hb hrt hlocks (()) (by rw [← hcc, ← hQ]; unfold moR; rw [if_neg (by omega), if_neg e162, if_neg (by omega)]) (hP.sub [0, 1, 2] rfl) (hK.sub [0, 1] rfl) (hD.sub [0, 1, 2] (by decide) rfl) hS d_Mod_rounded_244
                      · have e220 : ¬ j0 + c + 1 < kZ i + 2 := fun z => c220 ((lg_cmp_lt _ _).mpr ((pk_lLT (by omega) (by omega)).mpr z))
                        refine lv_iload hx hb d_Mod_rounded_223 (lv_at hl 5 rfl) ?_
                        refine ca_l [(md, .inr (5, [.ref xx, .int ln, .long R, .int rd, .ref mm, .ref nn, .int at0, .int en0])), (mm, .inl (cM, 3000, .inl (rw16 (upR V 0 (V 0 * 2 + 0))))), (nn, .inl (cN, 3, .inl (rc (upR V 0 (V 0 * 2 + 0)))))] (va_runS (As := [.int wd]) (rest := []) ⟨hx, hb, hml, hown, hts⟩ (c_Mod_infinite l D E wd H.size) (xS 1 hts kC_Mod_infinite kM_Mod_46 kT_Mod_infinite kN_Mod rfl rfl (by decide +kernel) ⟨Nat.le_of_ble_eq_true rfl, Nat.le_of_ble_eq_true rfl⟩) ⟨ct_blind hev, ct_pre hev hP hK hD hS hA hE [] rfl (by decide) [] rfl⟩ rfl rfl hl.1 rfl (lv_room (Nat.le_of_ble_eq_true rfl)) d_Mod_rounded_225 ⟨Nat.le_of_ble_eq_true rfl, Nat.le_of_ble_eq_true rfl⟩) hP hD hS hA [] [0, 1, 2] rfl rfl (by decide) (by decide) (fun rv u H locs hw hP hD hS hK1 => ?_)
                        subst hw
                        have hP : va_P D vcl [(md, .inr (5, [.ref xx, .int ln, .long R, .int rd, .ref mm, .ref nn, .int at0, .int en0])), (mm, .inl (cM, 3000, .inl (rw16 (upR V 0 (V 0 * 2 + 0))))), (nn, .inl (cN, 3, .inl (rc (upR V 0 (V 0 * 2 + 0)))))] H := hP
                        have hD : va_D A [(md, .inr (5, [.ref xx, .int ln, .long R, .int rd, .ref mm, .ref nn, .int at0, .int en0])), (mm, .inl (cM, 3000, .inl (rw16 (upR V 0 (V 0 * 2 + 0))))), (nn, .inl (cN, 3, .inl (rc (upR V 0 (V 0 * 2 + 0)))))] := hD
                        refine lv_goto (tgt := 244) hx hb d_Mod_rounded_228 (by decide) ?_
                        exact rt_l hx hb hrt hlocks (()) (by rw [← hcc, ← hQ]; unfold moR; rw [if_neg (by omega), if_neg e162, if_pos (by omega), hwd]; exact kf_I i hi) (hP.sub [0, 1, 2] rfl) (hK.sub [0, 1] rfl) (hD.sub [0, 1, 2] (by decide) rfl) hS d_Mod_rounded_244
                    · have e207 : i = 0 := by rw [← hwd]; exact if_neg c207
                      refine lv_ldc2 hx hb hown (hts _ kK_Mod_70) d_Mod_rounded_210 ?_
                      refine tv_l (lN (kZ i + 2)) (by rw [e207]; rfl) ?_
                      refine lv_goto (tgt := 219) hx hb d_Mod_rounded_213 (by decide) ?_
                      refine W.lcmp hx hb d_Mod_rounded_219 ?_
                      refine lv_if_lt (tgt := 231) hx hb d_Mod_rounded_220 (by decide) (fun c220 => ?_) (fun c220 => ?_)
                      · have e220 : j0 + c + 1 < kZ i + 2 := (pk_lLT (by omega) (by omega)).mp ((lg_cmp_lt _ _).mp c220)
                        refine lv_lload hx hb d_Mod_rounded_231 (lv_at hl 0 rfl) ?_
                        refine lv_iload hx hb d_Mod_rounded_233 (lv_at hl 6 rfl) ?_
                        refine lv_iconst (v := 1) hx hb d_Mod_rounded_235 (by decide) ?_
                        refine lv_isub hx hb d_Mod_rounded_236 ?_
                        refine tv_i (nI (kP i - 1)) (nI_dec (by omega)) ?_
                        refine lv_lshl (v := lN ((j0 + c + 1) * 2 ^ (kP i - 1))) hx hb d_Mod_rounded_237 (wb_shl _ (by omega)) ?_
                        refine lv_lload hx hb d_Mod_rounded_238 (lv_at hl 2 rfl) ?_
                        refine lv_lload hx hb d_Mod_rounded_240 (lv_at hl 1 rfl) ?_
                        refine lv_lsub hx hb d_Mod_rounded_242 ?_
                        refine lv_ladd hx hb d_Mod_rounded_243 ?_
                        refine tv_l (lN ((j0 + c) * 2 ^ (kP i - 1) + Q)) (by rw [lN_sub (by omega), lN_add]; exact congrArg lN (by rw [Nat.add_mul, Nat.one_mul]; omega)) ?_
                        exact rt_l hx hb hrt hlocks (()) (by rw [← hcc, ← hQ]; unfold moR; rw [if_neg (by omega), if_neg e162, if_neg (by omega)]) (hP.sub [0, 1, 2] rfl) (hK.sub [0, 1] rfl) (hD.sub [0, 1, 2] (by decide) rfl) hS d_Mod_rounded_244
                      · have e220 : ¬ j0 + c + 1 < kZ i + 2 := fun z => c220 ((lg_cmp_lt _ _).mpr ((pk_lLT (by omega) (by omega)).mpr z))
                        refine lv_iload hx hb d_Mod_rounded_223 (lv_at hl 5 rfl) ?_
                        refine ca_l [(md, .inr (5, [.ref xx, .int ln, .long R, .int rd, .ref mm, .ref nn, .int at0, .int en0])), (mm, .inl (cM, 3000, .inl (rw16 (upR V 0 (V 0 * 2 + 0))))), (nn, .inl (cN, 3, .inl (rc (upR V 0 (V 0 * 2 + 0)))))] (va_runS (As := [.int wd]) (rest := []) ⟨hx, hb, hml, hown, hts⟩ (c_Mod_infinite l D E wd H.size) (xS 1 hts kC_Mod_infinite kM_Mod_46 kT_Mod_infinite kN_Mod rfl rfl (by decide +kernel) ⟨Nat.le_of_ble_eq_true rfl, Nat.le_of_ble_eq_true rfl⟩) ⟨ct_blind hev, ct_pre hev hP hK hD hS hA hE [] rfl (by decide) [] rfl⟩ rfl rfl hl.1 rfl (lv_room (Nat.le_of_ble_eq_true rfl)) d_Mod_rounded_225 ⟨Nat.le_of_ble_eq_true rfl, Nat.le_of_ble_eq_true rfl⟩) hP hD hS hA [] [0, 1, 2] rfl rfl (by decide) (by decide) (fun rv u H locs hw hP hD hS hK1 => ?_)
                        subst hw
                        have hP : va_P D vcl [(md, .inr (5, [.ref xx, .int ln, .long R, .int rd, .ref mm, .ref nn, .int at0, .int en0])), (mm, .inl (cM, 3000, .inl (rw16 (upR V 0 (V 0 * 2 + 0))))), (nn, .inl (cN, 3, .inl (rc (upR V 0 (V 0 * 2 + 0)))))] H := hP
                        have hD : va_D A [(md, .inr (5, [.ref xx, .int ln, .long R, .int rd, .ref mm, .ref nn, .int at0, .int en0])), (mm, .inl (cM, 3000, .inl (rw16 (upR V 0 (V 0 * 2 + 0))))), (nn, .inl (cN, 3, .inl (rc (upR V 0 (V 0 * 2 + 0)))))] := hD
                        refine lv_goto (tgt := 244) hx hb d_Mod_rounded_228 (by decide) ?_
                        exact rt_l hx hb hrt hlocks (()) (by rw [← hcc, ← hQ]; unfold moR; rw [if_neg (by omega), if_neg e162, if_pos (by omega), hwd]; exact kf_I i hi) (hP.sub [0, 1, 2] rfl) (hK.sub [0, 1] rfl) (hD.sub [0, 1, 2] (by decide) rfl) hS d_Mod_rounded_244
                  · have e187 : ¬ 2 ^ (kP i - 1) ≤ Q := fun z => c187 ((lg_cmp_ge _ _).mpr ((pk_lLE (by omega) (by omega)).mpr z))
                    refine lv_lload hx hb d_Mod_rounded_190 (lv_at hl 1 rfl) ?_
                    exact rt_l hx hb hrt hlocks (()) (by rw [← hcc, ← hQ]; unfold moR; rw [if_pos (by omega)]) (hP.sub [0, 1, 2] rfl) (hK.sub [0, 1] rfl) (hD.sub [0, 1, 2] (by decide) rfl) hS d_Mod_rounded_192
                · have e162 : Q = 2 ^ kP i := (pk_lEQ (by omega) (by omega)).mp ((lg_cmp_eq _ _).mp c162)
                  refine lv_lload hx hb d_Mod_rounded_165 (lv_at hl 0 rfl) ?_
                  refine lv_iconst (v := 1) hx hb d_Mod_rounded_167 (by decide) ?_
                  refine lv_lshr (v := lN (2 ^ (kP i - 1))) hx hb d_Mod_rounded_168 (by rw [e162, sar1 (by omega)]; exact congrArg lN (by omega)) ?_
                  refine lv_lstore (lv' := [(7, .long (lN (2 ^ (kP i - 1)))), (12, .int 1), (0, .ref md), (4, .int wd), (5, .int (nI (kP i))), (6, .int (zI (-(kLw i : Int)))), (9, .int (zI ((j0 : Int) + c - kLw i))), (11, .int hf)]) hx hb d_Mod_rounded_169 hl (by decide) rfl (fun ls hl => ?_)
                  refine lv_iinc (v := zI ((j0 : Int) + c + 1 - kLw i)) (lv' := [(9, .int (zI ((j0 : Int) + c + 1 - kLw i))), (7, .long (lN (2 ^ (kP i - 1)))), (12, .int 1), (0, .ref md), (4, .int wd), (5, .int (nI (kP i))), (6, .int (zI (-(kLw i : Int)))), (11, .int hf)]) hx hb d_Mod_rounded_171 hl (k := 6) rfl (by show zI _ + zI 1 = _; rw [zI_add]; exact congrArg zI (by omega)) (by decide) rfl (fun ls hl => ?_)
                  refine lv_lconst (v := 1) hx hb d_Mod_rounded_174 (by decide) ?_
                  refine lv_iload hx hb d_Mod_rounded_175 (lv_at hl 5 rfl) ?_
                  refine lv_iconst (v := 1) hx hb d_Mod_rounded_177 (by decide) ?_
                  refine lv_isub hx hb d_Mod_rounded_178 ?_
                  refine tv_i (nI (kP i - 1)) (nI_dec (by omega)) ?_
                  refine lv_lshl (v := lN (2 ^ (kP i - 1))) hx hb d_Mod_rounded_179 (shl1 (by omega)) ?_
                  refine lv_lstore (lv' := [(13, .long (lN (2 ^ (kP i - 1)))), (9, .int (zI ((j0 : Int) + c + 1 - kLw i))), (7, .long (lN (2 ^ (kP i - 1)))), (12, .int 1), (0, .ref md), (4, .int wd), (5, .int (nI (kP i))), (6, .int (zI (-(kLw i : Int)))), (11, .int hf)]) hx hb d_Mod_rounded_180 hl (by decide) rfl (fun ls hl => ?_)
                  refine lv_lload hx hb d_Mod_rounded_182 (lv_at hl 2 rfl) ?_
                  refine lv_lload hx hb d_Mod_rounded_184 (lv_at hl 0 rfl) ?_
                  refine W.lcmp hx hb d_Mod_rounded_186 ?_
                  refine lv_if_ge (tgt := 193) hx hb d_Mod_rounded_187 (by decide) (fun c187 => ?_) (fun c187 => ?_)
                  · have e187 : 2 ^ (kP i - 1) ≤ 2 ^ (kP i - 1) := (pk_lLE (by omega) (by omega)).mp ((lg_cmp_ge _ _).mp c187)
                    refine lv_iload hx hb d_Mod_rounded_193 (lv_at hl 1 rfl) ?_
                    refine lv_iload hx hb d_Mod_rounded_195 (lv_at hl 7 rfl) ?_
                    refine lv_isub hx hb d_Mod_rounded_197 ?_
                    refine lv_iconst (v := 1) hx hb d_Mod_rounded_198 (by decide) ?_
                    refine lv_iadd hx hb d_Mod_rounded_199 ?_
                    refine tv_i (nI (j0 + c + 2)) (by show zI _ - zI _ + zI 1 = _; rw [zI_sub, zI_add, ← zI_nI]; exact congrArg zI (by omega)) ?_
                    refine lv_i2l (v := (nI (j0 + c + 2)).toInt64) hx hb d_Mod_rounded_200 (rfl) ?_
                    refine tv_l (lN (j0 + c + 2)) (nI_l (by omega)) ?_
                    refine lv_lstore (lv' := [(15, .long (lN (j0 + c + 2))), (13, .long (lN (2 ^ (kP i - 1)))), (9, .int (zI ((j0 : Int) + c + 1 - kLw i))), (7, .long (lN (2 ^ (kP i - 1)))), (12, .int 1), (0, .ref md), (4, .int wd), (5, .int (nI (kP i))), (6, .int (zI (-(kLw i : Int)))), (11, .int hf)]) hx hb d_Mod_rounded_201 hl (by decide) rfl (fun ls hl => ?_)
                    refine lv_lload hx hb d_Mod_rounded_203 (lv_at hl 0 rfl) ?_
                    refine lv_iload hx hb d_Mod_rounded_205 (lv_at hl 6 rfl) ?_
                    refine lv_if_eq (tgt := 216) hx hb d_Mod_rounded_207 (by decide) (fun c207 => ?_) (fun c207 => ?_)
                    · have e207 : i = 1 := by rw [← hwd]; exact if_pos c207
                      refine lv_ldc2 hx hb hown (hts _ kK_Mod_72) d_Mod_rounded_216 ?_
                      refine tv_l (lN (kZ i + 2)) (by rw [e207]; rfl) ?_
                      refine W.lcmp hx hb d_Mod_rounded_219 ?_
                      refine lv_if_lt (tgt := 231) hx hb d_Mod_rounded_220 (by decide) (fun c220 => ?_) (fun c220 => ?_)
                      · have e220 : j0 + c + 2 < kZ i + 2 := (pk_lLT (by omega) (by omega)).mp ((lg_cmp_lt _ _).mp c220)
                        refine lv_lload hx hb d_Mod_rounded_231 (lv_at hl 0 rfl) ?_
                        refine lv_iload hx hb d_Mod_rounded_233 (lv_at hl 7 rfl) ?_
                        refine lv_iconst (v := 1) hx hb d_Mod_rounded_235 (by decide) ?_
                        refine lv_isub hx hb d_Mod_rounded_236 ?_
                        refine tv_i (nI (kP i - 1)) (nI_dec (by omega)) ?_
                        refine lv_lshl (v := lN ((j0 + c + 2) * 2 ^ (kP i - 1))) hx hb d_Mod_rounded_237 (wb_shl _ (by omega)) ?_
                        refine lv_lload hx hb d_Mod_rounded_238 (lv_at hl 3 rfl) ?_
                        refine lv_lload hx hb d_Mod_rounded_240 (lv_at hl 1 rfl) ?_
                        refine lv_lsub hx hb d_Mod_rounded_242 ?_
                        refine lv_ladd hx hb d_Mod_rounded_243 ?_
                        refine tv_l (lN ((j0 + c) * 2 ^ (kP i - 1) + Q)) (by rw [lN_sub (Nat.le_refl _), lN_add]; exact congrArg lN (by rw [Nat.sub_self, e162, hpP, Nat.add_mul]; omega)) ?_
                        exact rt_l hx hb hrt hlocks (()) (by rw [← hcc, ← hQ]; unfold moR; rw [if_neg (by omega), if_pos e162, if_neg (by omega)]) (hP.sub [0, 1, 2] rfl) (hK.sub [0, 1] rfl) (hD.sub [0, 1, 2] (by decide) rfl) hS d_Mod_rounded_244
                      · have e220 : ¬ j0 + c + 2 < kZ i + 2 := fun z => c220 ((lg_cmp_lt _ _).mpr ((pk_lLT (by omega) (by omega)).mpr z))
                        refine lv_iload hx hb d_Mod_rounded_223 (lv_at hl 6 rfl) ?_
                        refine ca_l [(md, .inr (5, [.ref xx, .int ln, .long R, .int rd, .ref mm, .ref nn, .int at0, .int en0])), (mm, .inl (cM, 3000, .inl (rw16 (upR V 0 (V 0 * 2 + 0))))), (nn, .inl (cN, 3, .inl (rc (upR V 0 (V 0 * 2 + 0)))))] (va_runS (As := [.int wd]) (rest := []) ⟨hx, hb, hml, hown, hts⟩ (c_Mod_infinite l D E wd H.size) (xS 1 hts kC_Mod_infinite kM_Mod_46 kT_Mod_infinite kN_Mod rfl rfl (by decide +kernel) ⟨Nat.le_of_ble_eq_true rfl, Nat.le_of_ble_eq_true rfl⟩) ⟨ct_blind hev, ct_pre hev hP hK hD hS hA hE [] rfl (by decide) [] rfl⟩ rfl rfl hl.1 rfl (lv_room (Nat.le_of_ble_eq_true rfl)) d_Mod_rounded_225 ⟨Nat.le_of_ble_eq_true rfl, Nat.le_of_ble_eq_true rfl⟩) hP hD hS hA [] [0, 1, 2] rfl rfl (by decide) (by decide) (fun rv u H locs hw hP hD hS hK1 => ?_)
                        subst hw
                        have hP : va_P D vcl [(md, .inr (5, [.ref xx, .int ln, .long R, .int rd, .ref mm, .ref nn, .int at0, .int en0])), (mm, .inl (cM, 3000, .inl (rw16 (upR V 0 (V 0 * 2 + 0))))), (nn, .inl (cN, 3, .inl (rc (upR V 0 (V 0 * 2 + 0)))))] H := hP
                        have hD : va_D A [(md, .inr (5, [.ref xx, .int ln, .long R, .int rd, .ref mm, .ref nn, .int at0, .int en0])), (mm, .inl (cM, 3000, .inl (rw16 (upR V 0 (V 0 * 2 + 0))))), (nn, .inl (cN, 3, .inl (rc (upR V 0 (V 0 * 2 + 0)))))] := hD
                        refine lv_goto (tgt := 244) hx hb d_Mod_rounded_228 (by decide) ?_
                        exact rt_l hx hb hrt hlocks (()) (by rw [← hcc, ← hQ]; unfold moR; rw [if_neg (by omega), if_pos e162, if_pos (by omega), hwd]; exact kf_I i hi) (hP.sub [0, 1, 2] rfl) (hK.sub [0, 1] rfl) (hD.sub [0, 1, 2] (by decide) rfl) hS d_Mod_rounded_244
                    · have e207 : i = 0 := by rw [← hwd]; exact if_neg c207
                      refine lv_ldc2 hx hb hown (hts _ kK_Mod_70) d_Mod_rounded_210 ?_
                      refine tv_l (lN (kZ i + 2)) (by rw [e207]; rfl) ?_
                      refine lv_goto (tgt := 219) hx hb d_Mod_rounded_213 (by decide) ?_
                      refine W.lcmp hx hb d_Mod_rounded_219 ?_
                      refine lv_if_lt (tgt := 231) hx hb d_Mod_rounded_220 (by decide) (fun c220 => ?_) (fun c220 => ?_)
                      · have e220 : j0 + c + 2 < kZ i + 2 := (pk_lLT (by omega) (by omega)).mp ((lg_cmp_lt _ _).mp c220)
                        refine lv_lload hx hb d_Mod_rounded_231 (lv_at hl 0 rfl) ?_
                        refine lv_iload hx hb d_Mod_rounded_233 (lv_at hl 7 rfl) ?_
                        refine lv_iconst (v := 1) hx hb d_Mod_rounded_235 (by decide) ?_
                        refine lv_isub hx hb d_Mod_rounded_236 ?_
                        refine tv_i (nI (kP i - 1)) (nI_dec (by omega)) ?_
                        refine lv_lshl (v := lN ((j0 + c + 2) * 2 ^ (kP i - 1))) hx hb d_Mod_rounded_237 (wb_shl _ (by omega)) ?_
                        refine lv_lload hx hb d_Mod_rounded_238 (lv_at hl 3 rfl) ?_
                        refine lv_lload hx hb d_Mod_rounded_240 (lv_at hl 1 rfl) ?_
                        refine lv_lsub hx hb d_Mod_rounded_242 ?_
                        refine lv_ladd hx hb d_Mod_rounded_243 ?_
                        refine tv_l (lN ((j0 + c) * 2 ^ (kP i - 1) + Q)) (by rw [lN_sub (Nat.le_refl _), lN_add]; exact congrArg lN (by rw [Nat.sub_self, e162, hpP, Nat.add_mul]; omega)) ?_
                        exact rt_l hx hb hrt hlocks (()) (by rw [← hcc, ← hQ]; unfold moR; rw [if_neg (by omega), if_pos e162, if_neg (by omega)]) (hP.sub [0, 1, 2] rfl) (hK.sub [0, 1] rfl) (hD.sub [0, 1, 2] (by decide) rfl) hS d_Mod_rounded_244
                      · have e220 : ¬ j0 + c + 2 < kZ i + 2 := fun z => c220 ((lg_cmp_lt _ _).mpr ((pk_lLT (by omega) (by omega)).mpr z))
                        refine lv_iload hx hb d_Mod_rounded_223 (lv_at hl 6 rfl) ?_
                        refine ca_l [(md, .inr (5, [.ref xx, .int ln, .long R, .int rd, .ref mm, .ref nn, .int at0, .int en0])), (mm, .inl (cM, 3000, .inl (rw16 (upR V 0 (V 0 * 2 + 0))))), (nn, .inl (cN, 3, .inl (rc (upR V 0 (V 0 * 2 + 0)))))] (va_runS (As := [.int wd]) (rest := []) ⟨hx, hb, hml, hown, hts⟩ (c_Mod_infinite l D E wd H.size) (xS 1 hts kC_Mod_infinite kM_Mod_46 kT_Mod_infinite kN_Mod rfl rfl (by decide +kernel) ⟨Nat.le_of_ble_eq_true rfl, Nat.le_of_ble_eq_true rfl⟩) ⟨ct_blind hev, ct_pre hev hP hK hD hS hA hE [] rfl (by decide) [] rfl⟩ rfl rfl hl.1 rfl (lv_room (Nat.le_of_ble_eq_true rfl)) d_Mod_rounded_225 ⟨Nat.le_of_ble_eq_true rfl, Nat.le_of_ble_eq_true rfl⟩) hP hD hS hA [] [0, 1, 2] rfl rfl (by decide) (by decide) (fun rv u H locs hw hP hD hS hK1 => ?_)
                        subst hw
                        have hP : va_P D vcl [(md, .inr (5, [.ref xx, .int ln, .long R, .int rd, .ref mm, .ref nn, .int at0, .int en0])), (mm, .inl (cM, 3000, .inl (rw16 (upR V 0 (V 0 * 2 + 0))))), (nn, .inl (cN, 3, .inl (rc (upR V 0 (V 0 * 2 + 0)))))] H := hP
                        have hD : va_D A [(md, .inr (5, [.ref xx, .int ln, .long R, .int rd, .ref mm, .ref nn, .int at0, .int en0])), (mm, .inl (cM, 3000, .inl (rw16 (upR V 0 (V 0 * 2 + 0))))), (nn, .inl (cN, 3, .inl (rc (upR V 0 (V 0 * 2 + 0)))))] := hD
                        refine lv_goto (tgt := 244) hx hb d_Mod_rounded_228 (by decide) ?_
                        exact rt_l hx hb hrt hlocks (()) (by rw [← hcc, ← hQ]; unfold moR; rw [if_neg (by omega), if_pos e162, if_pos (by omega), hwd]; exact kf_I i hi) (hP.sub [0, 1, 2] rfl) (hK.sub [0, 1] rfl) (hD.sub [0, 1, 2] (by decide) rfl) hS d_Mod_rounded_244
                  · have e187 : ¬ 2 ^ (kP i - 1) ≤ 2 ^ (kP i - 1) := fun z => c187 ((lg_cmp_ge _ _).mpr ((pk_lLE (by omega) (by omega)).mpr z))
                    refine lv_lload hx hb d_Mod_rounded_190 (lv_at hl 2 rfl) ?_
                    exact rt_l hx hb hrt hlocks (()) (absurd (Nat.le_refl _) e187) (hP.sub [0, 1, 2] rfl) (hK.sub [0, 1] rfl) (hD.sub [0, 1, 2] (by decide) rfl) hS d_Mod_rounded_192
    refine lv_lload hx hb d_Mod_rounded_37 (lv_at hl 3 rfl) ?_
    refine lv_lconst (v := 1) hx hb d_Mod_rounded_39 (by decide) ?_
    refine lv_iload hx hb d_Mod_rounded_40 (lv_at hl 8 rfl) ?_
    refine lv_lshl (v := lN (2 ^ kP i)) hx hb d_Mod_rounded_42 (shl1 (by omega)) ?_
    refine W.lcmp hx hb d_Mod_rounded_43 ?_
    refine lv_if_lt (tgt := 113) hx hb d_Mod_rounded_44 (by decide) (fun c44 => ?_) (fun c44 => ?_)
    · have e44 : q < 2 ^ kP i := (pk_lLT (by omega) (by omega)).mp ((lg_cmp_lt _ _).mp c44)
      exact L113 1 q 0 (cmpN (V 0 * 2) (V 1)) (by decide) (by decide) (e44) (fun z => r0_up hr z) (fun z => r0_dn hr z) (by rw [if_pos e44]) _ _ _ (hP.sub [0, 1, 2] rfl) (hD.sub [0, 1, 2] (by decide) rfl) hS (lv_sub hl [4, 7, 8, 9, 3, 2, 0] rfl)
    · have e44 : 2 ^ kP i ≤ q := Nat.le_of_not_lt (fun z => c44 ((lg_cmp_lt _ _).mpr ((pk_lLT (by omega) (by omega)).mpr z)))
      refine lv_lload hx hb d_Mod_rounded_47 (lv_at hl 3 rfl) ?_
      refine lv_lconst (v := 1) hx hb d_Mod_rounded_49 (by decide) ?_
      refine lv_land hx hb d_Mod_rounded_50 ?_
      refine tv_l (lN (q % 2)) (wb_a1 (by omega)) ?_
      refine lv_lconst (v := 1) hx hb d_Mod_rounded_51 (by decide) ?_
      refine W.lcmp hx hb d_Mod_rounded_52 ?_
      refine lv_if_ne (tgt := 60) hx hb d_Mod_rounded_53 (by decide) (fun c53 => ?_) (fun c53 => ?_)
      · have e53 : q % 2 = 0 := by have : q % 2 ≠ 1 := fun z => c53 ((lg_cmp_eq _ _).mpr (by rw [z]; rfl)); omega
        refine lv_iconst (v := 0) hx hb d_Mod_rounded_60 (by decide) ?_
        refine lv_istore (lv' := [(12, .int 0), (11, .int (cmpN (V 0 * 2) (V 1))), (10, .int (bI (decide (V 0 ≠ 0)))), (9, .int (zI ((j0 : Int) + (0 : Nat) - kLw i))), (7, .long (lN q)), (0, .ref md), (1, .long (lN q)), (3, .int (zI ((j0 : Int) + (0 : Nat) - kLw i))), (4, .int wd), (5, .int (nI (kP i))), (6, .int (zI (-(kLw i : Int))))]) hx hb d_Mod_rounded_61 hl (by decide) rfl (fun ls hl => ?_)
        refine lv_iload hx hb d_Mod_rounded_63 (lv_at hl 0 rfl) ?_
        refine lv_if_eq (tgt := 81) hx hb d_Mod_rounded_65 (by decide) (fun c65 => ?_) (fun c65 => ?_)
        · refine lv_iconst (v := -1) hx hb d_Mod_rounded_81 (by decide) ?_
          refine lv_istore (lv' := [(11, .int (-1)), (12, .int 0), (10, .int (bI (decide (V 0 ≠ 0)))), (9, .int (zI ((j0 : Int) + (0 : Nat) - kLw i))), (7, .long (lN q)), (0, .ref md), (1, .long (lN q)), (3, .int (zI ((j0 : Int) + (0 : Nat) - kLw i))), (4, .int wd), (5, .int (nI (kP i))), (6, .int (zI (-(kLw i : Int))))]) hx hb d_Mod_rounded_82 hl (by decide) rfl (fun ls hl => ?_)
          refine lv_iload hx hb d_Mod_rounded_84 (lv_at hl 2 rfl) ?_
          refine lv_if_ne (tgt := 94) hx hb d_Mod_rounded_86 (by decide) (fun c86 => ?_) (fun c86 => ?_)
          · refine lv_iconst (v := 1) hx hb d_Mod_rounded_94 (by decide) ?_
            refine lv_goto (tgt := 99) hx hb d_Mod_rounded_95 (by decide) ?_
            refine lv_istore (lv' := [(10, .int 1), (11, .int (-1)), (12, .int 0), (9, .int (zI ((j0 : Int) + (0 : Nat) - kLw i))), (7, .long (lN q)), (0, .ref md), (1, .long (lN q)), (3, .int (zI ((j0 : Int) + (0 : Nat) - kLw i))), (4, .int wd), (5, .int (nI (kP i))), (6, .int (zI (-(kLw i : Int))))]) hx hb d_Mod_rounded_99 hl (by decide) rfl (fun ls hl => ?_)
            refine lv_lload hx hb d_Mod_rounded_101 (lv_at hl 4 rfl) ?_
            refine lv_iconst (v := 1) hx hb d_Mod_rounded_103 (by decide) ?_
            refine lv_lshr (v := lN (q / 2)) hx hb d_Mod_rounded_104 (sar1 (by omega)) ?_
            refine lv_lstore (lv' := [(7, .long (lN (q / 2))), (10, .int 1), (11, .int (-1)), (12, .int 0), (9, .int (zI ((j0 : Int) + (0 : Nat) - kLw i))), (0, .ref md), (1, .long (lN q)), (3, .int (zI ((j0 : Int) + (0 : Nat) - kLw i))), (4, .int wd), (5, .int (nI (kP i))), (6, .int (zI (-(kLw i : Int))))]) hx hb d_Mod_rounded_105 hl (by decide) rfl (fun ls hl => ?_)
            refine lv_iinc (v := zI ((j0 : Int) + (1 : Nat) - kLw i)) (lv' := [(9, .int (zI ((j0 : Int) + (1 : Nat) - kLw i))), (7, .long (lN (q / 2))), (10, .int 1), (11, .int (-1)), (12, .int 0), (0, .ref md), (1, .long (lN q)), (3, .int (zI ((j0 : Int) + (0 : Nat) - kLw i))), (4, .int wd), (5, .int (nI (kP i))), (6, .int (zI (-(kLw i : Int))))]) hx hb d_Mod_rounded_107 hl (k := 4) rfl (by show zI _ + zI 1 = _; rw [zI_add]; exact congrArg zI (by omega)) (by decide) rfl (fun ls hl => ?_)
            refine lv_goto (tgt := 37) hx hb d_Mod_rounded_110 (by decide) ?_
            refine lv_lload hx hb d_Mod_rounded_37 (lv_at hl 1 rfl) ?_
            refine lv_lconst (v := 1) hx hb d_Mod_rounded_39 (by decide) ?_
            refine lv_iload hx hb d_Mod_rounded_40 (lv_at hl 9 rfl) ?_
            refine lv_lshl (v := lN (2 ^ kP i)) hx hb d_Mod_rounded_42 (shl1 (by omega)) ?_
            refine W.lcmp hx hb d_Mod_rounded_43 ?_
            refine lv_if_lt (tgt := 113) hx hb d_Mod_rounded_44 (by decide) (fun c44 => ?_) (fun c44 => ?_)
            · exact L113 1 (q / 2) 1 (-1) (by decide) (by decide) (by omega) (fun z => z.elim (fun y => absurd y (by decide)) (fun y => absurd y.1 (by decide))) (fun _ => r1_even hr e53) (by rw [if_neg (by omega)]) _ _ _ (hP.sub [0, 1, 2] rfl) (hD.sub [0, 1, 2] (by decide) rfl) hS (lv_sub hl [5, 8, 9, 10, 1, 0, 3] rfl)
            · exact absurd ((lg_cmp_lt _ _).mpr ((pk_lLT (by omega) (by omega)).mpr (show q / 2 < 2 ^ kP i by omega))) c44
          · refine lv_iload hx hb d_Mod_rounded_89 (lv_at hl 1 rfl) ?_
            refine lv_if_eq (tgt := 98) hx hb d_Mod_rounded_91 (by decide) (fun c91 => ?_) (fun c91 => ?_)
            · refine lv_iconst (v := 0) hx hb d_Mod_rounded_98 (by decide) ?_
              refine lv_istore (lv' := [(10, .int 0), (11, .int (-1)), (12, .int 0), (9, .int (zI ((j0 : Int) + (0 : Nat) - kLw i))), (7, .long (lN q)), (0, .ref md), (1, .long (lN q)), (3, .int (zI ((j0 : Int) + (0 : Nat) - kLw i))), (4, .int wd), (5, .int (nI (kP i))), (6, .int (zI (-(kLw i : Int))))]) hx hb d_Mod_rounded_99 hl (by decide) rfl (fun ls hl => ?_)
              refine lv_lload hx hb d_Mod_rounded_101 (lv_at hl 4 rfl) ?_
              refine lv_iconst (v := 1) hx hb d_Mod_rounded_103 (by decide) ?_
              refine lv_lshr (v := lN (q / 2)) hx hb d_Mod_rounded_104 (sar1 (by omega)) ?_
              refine lv_lstore (lv' := [(7, .long (lN (q / 2))), (10, .int 0), (11, .int (-1)), (12, .int 0), (9, .int (zI ((j0 : Int) + (0 : Nat) - kLw i))), (0, .ref md), (1, .long (lN q)), (3, .int (zI ((j0 : Int) + (0 : Nat) - kLw i))), (4, .int wd), (5, .int (nI (kP i))), (6, .int (zI (-(kLw i : Int))))]) hx hb d_Mod_rounded_105 hl (by decide) rfl (fun ls hl => ?_)
              refine lv_iinc (v := zI ((j0 : Int) + (1 : Nat) - kLw i)) (lv' := [(9, .int (zI ((j0 : Int) + (1 : Nat) - kLw i))), (7, .long (lN (q / 2))), (10, .int 0), (11, .int (-1)), (12, .int 0), (0, .ref md), (1, .long (lN q)), (3, .int (zI ((j0 : Int) + (0 : Nat) - kLw i))), (4, .int wd), (5, .int (nI (kP i))), (6, .int (zI (-(kLw i : Int))))]) hx hb d_Mod_rounded_107 hl (k := 4) rfl (by show zI _ + zI 1 = _; rw [zI_add]; exact congrArg zI (by omega)) (by decide) rfl (fun ls hl => ?_)
              refine lv_goto (tgt := 37) hx hb d_Mod_rounded_110 (by decide) ?_
              refine lv_lload hx hb d_Mod_rounded_37 (lv_at hl 1 rfl) ?_
              refine lv_lconst (v := 1) hx hb d_Mod_rounded_39 (by decide) ?_
              refine lv_iload hx hb d_Mod_rounded_40 (lv_at hl 9 rfl) ?_
              refine lv_lshl (v := lN (2 ^ kP i)) hx hb d_Mod_rounded_42 (shl1 (by omega)) ?_
              refine W.lcmp hx hb d_Mod_rounded_43 ?_
              refine lv_if_lt (tgt := 113) hx hb d_Mod_rounded_44 (by decide) (fun c44 => ?_) (fun c44 => ?_)
              · exact L113 1 (q / 2) 1 (-1) (by decide) (by decide) (by omega) (fun z => z.elim (fun y => absurd y (by decide)) (fun y => absurd y.1 (by decide))) (fun _ => r1_even hr e53) (by rw [if_neg (by omega)]) _ _ _ (hP.sub [0, 1, 2] rfl) (hD.sub [0, 1, 2] (by decide) rfl) hS (lv_sub hl [5, 8, 9, 10, 1, 0, 3] rfl)
              · exact absurd ((lg_cmp_lt _ _).mpr ((pk_lLT (by omega) (by omega)).mpr (show q / 2 < 2 ^ kP i by omega))) c44
            · refine lv_iconst (v := 1) hx hb d_Mod_rounded_94 (by decide) ?_
              refine lv_goto (tgt := 99) hx hb d_Mod_rounded_95 (by decide) ?_
              refine lv_istore (lv' := [(10, .int 1), (11, .int (-1)), (12, .int 0), (9, .int (zI ((j0 : Int) + (0 : Nat) - kLw i))), (7, .long (lN q)), (0, .ref md), (1, .long (lN q)), (3, .int (zI ((j0 : Int) + (0 : Nat) - kLw i))), (4, .int wd), (5, .int (nI (kP i))), (6, .int (zI (-(kLw i : Int))))]) hx hb d_Mod_rounded_99 hl (by decide) rfl (fun ls hl => ?_)
              refine lv_lload hx hb d_Mod_rounded_101 (lv_at hl 4 rfl) ?_
              refine lv_iconst (v := 1) hx hb d_Mod_rounded_103 (by decide) ?_
              refine lv_lshr (v := lN (q / 2)) hx hb d_Mod_rounded_104 (sar1 (by omega)) ?_
              refine lv_lstore (lv' := [(7, .long (lN (q / 2))), (10, .int 1), (11, .int (-1)), (12, .int 0), (9, .int (zI ((j0 : Int) + (0 : Nat) - kLw i))), (0, .ref md), (1, .long (lN q)), (3, .int (zI ((j0 : Int) + (0 : Nat) - kLw i))), (4, .int wd), (5, .int (nI (kP i))), (6, .int (zI (-(kLw i : Int))))]) hx hb d_Mod_rounded_105 hl (by decide) rfl (fun ls hl => ?_)
              refine lv_iinc (v := zI ((j0 : Int) + (1 : Nat) - kLw i)) (lv' := [(9, .int (zI ((j0 : Int) + (1 : Nat) - kLw i))), (7, .long (lN (q / 2))), (10, .int 1), (11, .int (-1)), (12, .int 0), (0, .ref md), (1, .long (lN q)), (3, .int (zI ((j0 : Int) + (0 : Nat) - kLw i))), (4, .int wd), (5, .int (nI (kP i))), (6, .int (zI (-(kLw i : Int))))]) hx hb d_Mod_rounded_107 hl (k := 4) rfl (by show zI _ + zI 1 = _; rw [zI_add]; exact congrArg zI (by omega)) (by decide) rfl (fun ls hl => ?_)
              refine lv_goto (tgt := 37) hx hb d_Mod_rounded_110 (by decide) ?_
              refine lv_lload hx hb d_Mod_rounded_37 (lv_at hl 1 rfl) ?_
              refine lv_lconst (v := 1) hx hb d_Mod_rounded_39 (by decide) ?_
              refine lv_iload hx hb d_Mod_rounded_40 (lv_at hl 9 rfl) ?_
              refine lv_lshl (v := lN (2 ^ kP i)) hx hb d_Mod_rounded_42 (shl1 (by omega)) ?_
              refine W.lcmp hx hb d_Mod_rounded_43 ?_
              refine lv_if_lt (tgt := 113) hx hb d_Mod_rounded_44 (by decide) (fun c44 => ?_) (fun c44 => ?_)
              · exact L113 1 (q / 2) 1 (-1) (by decide) (by decide) (by omega) (fun z => z.elim (fun y => absurd y (by decide)) (fun y => absurd y.1 (by decide))) (fun _ => r1_even hr e53) (by rw [if_neg (by omega)]) _ _ _ (hP.sub [0, 1, 2] rfl) (hD.sub [0, 1, 2] (by decide) rfl) hS (lv_sub hl [5, 8, 9, 10, 1, 0, 3] rfl)
              · exact absurd ((lg_cmp_lt _ _).mpr ((pk_lLT (by omega) (by omega)).mpr (show q / 2 < 2 ^ kP i by omega))) c44
        · exact absurd rfl c65
      · have e53 : q % 2 = 1 := (pk_lEQ (b := 1) (by omega) (by decide)).mp ((lg_cmp_eq _ _).mp c53)
        refine lv_iconst (v := 1) hx hb d_Mod_rounded_56 (by decide) ?_
        refine lv_goto (tgt := 61) hx hb d_Mod_rounded_57 (by decide) ?_
        refine lv_istore (lv' := [(12, .int 1), (11, .int (cmpN (V 0 * 2) (V 1))), (10, .int (bI (decide (V 0 ≠ 0)))), (9, .int (zI ((j0 : Int) + (0 : Nat) - kLw i))), (7, .long (lN q)), (0, .ref md), (1, .long (lN q)), (3, .int (zI ((j0 : Int) + (0 : Nat) - kLw i))), (4, .int wd), (5, .int (nI (kP i))), (6, .int (zI (-(kLw i : Int))))]) hx hb d_Mod_rounded_61 hl (by decide) rfl (fun ls hl => ?_)
        refine lv_iload hx hb d_Mod_rounded_63 (lv_at hl 0 rfl) ?_
        refine lv_if_eq (tgt := 81) hx hb d_Mod_rounded_65 (by decide) (fun c65 => ?_) (fun c65 => ?_)
        · exact absurd c65 (by decide)
        · refine lv_iload hx hb d_Mod_rounded_68 (lv_at hl 2 rfl) ?_
          refine lv_if_eq (tgt := 77) hx hb d_Mod_rounded_70 (by decide) (fun c70 => ?_) (fun c70 => ?_)
          · have e70 : V 0 = 0 := by have h9 : ¬ V 0 ≠ 0 := of_decide_eq_false ((bI_0 _).mp c70); omega
            refine lv_iconst (v := 0) hx hb d_Mod_rounded_77 (by decide) ?_
            refine lv_goto (tgt := 82) hx hb d_Mod_rounded_78 (by decide) ?_
            refine lv_istore (lv' := [(11, .int 0), (12, .int 1), (10, .int (bI (decide (V 0 ≠ 0)))), (9, .int (zI ((j0 : Int) + (0 : Nat) - kLw i))), (7, .long (lN q)), (0, .ref md), (1, .long (lN q)), (3, .int (zI ((j0 : Int) + (0 : Nat) - kLw i))), (4, .int wd), (5, .int (nI (kP i))), (6, .int (zI (-(kLw i : Int))))]) hx hb d_Mod_rounded_82 hl (by decide) rfl (fun ls hl => ?_)
            refine lv_iload hx hb d_Mod_rounded_84 (lv_at hl 2 rfl) ?_
            refine lv_if_ne (tgt := 94) hx hb d_Mod_rounded_86 (by decide) (fun c86 => ?_) (fun c86 => ?_)
            · refine lv_iconst (v := 1) hx hb d_Mod_rounded_94 (by decide) ?_
              refine lv_goto (tgt := 99) hx hb d_Mod_rounded_95 (by decide) ?_
              refine lv_istore (lv' := [(10, .int 1), (11, .int 0), (12, .int 1), (9, .int (zI ((j0 : Int) + (0 : Nat) - kLw i))), (7, .long (lN q)), (0, .ref md), (1, .long (lN q)), (3, .int (zI ((j0 : Int) + (0 : Nat) - kLw i))), (4, .int wd), (5, .int (nI (kP i))), (6, .int (zI (-(kLw i : Int))))]) hx hb d_Mod_rounded_99 hl (by decide) rfl (fun ls hl => ?_)
              refine lv_lload hx hb d_Mod_rounded_101 (lv_at hl 4 rfl) ?_
              refine lv_iconst (v := 1) hx hb d_Mod_rounded_103 (by decide) ?_
              refine lv_lshr (v := lN (q / 2)) hx hb d_Mod_rounded_104 (sar1 (by omega)) ?_
              refine lv_lstore (lv' := [(7, .long (lN (q / 2))), (10, .int 1), (11, .int 0), (12, .int 1), (9, .int (zI ((j0 : Int) + (0 : Nat) - kLw i))), (0, .ref md), (1, .long (lN q)), (3, .int (zI ((j0 : Int) + (0 : Nat) - kLw i))), (4, .int wd), (5, .int (nI (kP i))), (6, .int (zI (-(kLw i : Int))))]) hx hb d_Mod_rounded_105 hl (by decide) rfl (fun ls hl => ?_)
              refine lv_iinc (v := zI ((j0 : Int) + (1 : Nat) - kLw i)) (lv' := [(9, .int (zI ((j0 : Int) + (1 : Nat) - kLw i))), (7, .long (lN (q / 2))), (10, .int 1), (11, .int 0), (12, .int 1), (0, .ref md), (1, .long (lN q)), (3, .int (zI ((j0 : Int) + (0 : Nat) - kLw i))), (4, .int wd), (5, .int (nI (kP i))), (6, .int (zI (-(kLw i : Int))))]) hx hb d_Mod_rounded_107 hl (k := 4) rfl (by show zI _ + zI 1 = _; rw [zI_add]; exact congrArg zI (by omega)) (by decide) rfl (fun ls hl => ?_)
              refine lv_goto (tgt := 37) hx hb d_Mod_rounded_110 (by decide) ?_
              refine lv_lload hx hb d_Mod_rounded_37 (lv_at hl 1 rfl) ?_
              refine lv_lconst (v := 1) hx hb d_Mod_rounded_39 (by decide) ?_
              refine lv_iload hx hb d_Mod_rounded_40 (lv_at hl 9 rfl) ?_
              refine lv_lshl (v := lN (2 ^ kP i)) hx hb d_Mod_rounded_42 (shl1 (by omega)) ?_
              refine W.lcmp hx hb d_Mod_rounded_43 ?_
              refine lv_if_lt (tgt := 113) hx hb d_Mod_rounded_44 (by decide) (fun c44 => ?_) (fun c44 => ?_)
              · exact L113 1 (q / 2) 1 0 (by decide) (by decide) (by omega) (fun z => r1_tie hr e53 e70 (z.elim (fun y => absurd y (by decide)) (fun y => y.2))) (fun z => r1_tie2 hr e53 e70 (fun y => z (Or.inr ⟨rfl, y⟩))) (by rw [if_neg (by omega)]) _ _ _ (hP.sub [0, 1, 2] rfl) (hD.sub [0, 1, 2] (by decide) rfl) hS (lv_sub hl [5, 8, 9, 10, 1, 0, 3] rfl)
              · exact absurd ((lg_cmp_lt _ _).mpr ((pk_lLT (by omega) (by omega)).mpr (show q / 2 < 2 ^ kP i by omega))) c44
            · refine lv_iload hx hb d_Mod_rounded_89 (lv_at hl 1 rfl) ?_
              refine lv_if_eq (tgt := 98) hx hb d_Mod_rounded_91 (by decide) (fun c91 => ?_) (fun c91 => ?_)
              · refine lv_iconst (v := 0) hx hb d_Mod_rounded_98 (by decide) ?_
                refine lv_istore (lv' := [(10, .int 0), (11, .int 0), (12, .int 1), (9, .int (zI ((j0 : Int) + (0 : Nat) - kLw i))), (7, .long (lN q)), (0, .ref md), (1, .long (lN q)), (3, .int (zI ((j0 : Int) + (0 : Nat) - kLw i))), (4, .int wd), (5, .int (nI (kP i))), (6, .int (zI (-(kLw i : Int))))]) hx hb d_Mod_rounded_99 hl (by decide) rfl (fun ls hl => ?_)
                refine lv_lload hx hb d_Mod_rounded_101 (lv_at hl 4 rfl) ?_
                refine lv_iconst (v := 1) hx hb d_Mod_rounded_103 (by decide) ?_
                refine lv_lshr (v := lN (q / 2)) hx hb d_Mod_rounded_104 (sar1 (by omega)) ?_
                refine lv_lstore (lv' := [(7, .long (lN (q / 2))), (10, .int 0), (11, .int 0), (12, .int 1), (9, .int (zI ((j0 : Int) + (0 : Nat) - kLw i))), (0, .ref md), (1, .long (lN q)), (3, .int (zI ((j0 : Int) + (0 : Nat) - kLw i))), (4, .int wd), (5, .int (nI (kP i))), (6, .int (zI (-(kLw i : Int))))]) hx hb d_Mod_rounded_105 hl (by decide) rfl (fun ls hl => ?_)
                refine lv_iinc (v := zI ((j0 : Int) + (1 : Nat) - kLw i)) (lv' := [(9, .int (zI ((j0 : Int) + (1 : Nat) - kLw i))), (7, .long (lN (q / 2))), (10, .int 0), (11, .int 0), (12, .int 1), (0, .ref md), (1, .long (lN q)), (3, .int (zI ((j0 : Int) + (0 : Nat) - kLw i))), (4, .int wd), (5, .int (nI (kP i))), (6, .int (zI (-(kLw i : Int))))]) hx hb d_Mod_rounded_107 hl (k := 4) rfl (by show zI _ + zI 1 = _; rw [zI_add]; exact congrArg zI (by omega)) (by decide) rfl (fun ls hl => ?_)
                refine lv_goto (tgt := 37) hx hb d_Mod_rounded_110 (by decide) ?_
                refine lv_lload hx hb d_Mod_rounded_37 (lv_at hl 1 rfl) ?_
                refine lv_lconst (v := 1) hx hb d_Mod_rounded_39 (by decide) ?_
                refine lv_iload hx hb d_Mod_rounded_40 (lv_at hl 9 rfl) ?_
                refine lv_lshl (v := lN (2 ^ kP i)) hx hb d_Mod_rounded_42 (shl1 (by omega)) ?_
                refine W.lcmp hx hb d_Mod_rounded_43 ?_
                refine lv_if_lt (tgt := 113) hx hb d_Mod_rounded_44 (by decide) (fun c44 => ?_) (fun c44 => ?_)
                · exact L113 1 (q / 2) 1 0 (by decide) (by decide) (by omega) (fun z => r1_tie hr e53 e70 (z.elim (fun y => absurd y (by decide)) (fun y => y.2))) (fun z => r1_tie2 hr e53 e70 (fun y => z (Or.inr ⟨rfl, y⟩))) (by rw [if_neg (by omega)]) _ _ _ (hP.sub [0, 1, 2] rfl) (hD.sub [0, 1, 2] (by decide) rfl) hS (lv_sub hl [5, 8, 9, 10, 1, 0, 3] rfl)
                · exact absurd ((lg_cmp_lt _ _).mpr ((pk_lLT (by omega) (by omega)).mpr (show q / 2 < 2 ^ kP i by omega))) c44
              · refine lv_iconst (v := 1) hx hb d_Mod_rounded_94 (by decide) ?_
                refine lv_goto (tgt := 99) hx hb d_Mod_rounded_95 (by decide) ?_
                refine lv_istore (lv' := [(10, .int 1), (11, .int 0), (12, .int 1), (9, .int (zI ((j0 : Int) + (0 : Nat) - kLw i))), (7, .long (lN q)), (0, .ref md), (1, .long (lN q)), (3, .int (zI ((j0 : Int) + (0 : Nat) - kLw i))), (4, .int wd), (5, .int (nI (kP i))), (6, .int (zI (-(kLw i : Int))))]) hx hb d_Mod_rounded_99 hl (by decide) rfl (fun ls hl => ?_)
                refine lv_lload hx hb d_Mod_rounded_101 (lv_at hl 4 rfl) ?_
                refine lv_iconst (v := 1) hx hb d_Mod_rounded_103 (by decide) ?_
                refine lv_lshr (v := lN (q / 2)) hx hb d_Mod_rounded_104 (sar1 (by omega)) ?_
                refine lv_lstore (lv' := [(7, .long (lN (q / 2))), (10, .int 1), (11, .int 0), (12, .int 1), (9, .int (zI ((j0 : Int) + (0 : Nat) - kLw i))), (0, .ref md), (1, .long (lN q)), (3, .int (zI ((j0 : Int) + (0 : Nat) - kLw i))), (4, .int wd), (5, .int (nI (kP i))), (6, .int (zI (-(kLw i : Int))))]) hx hb d_Mod_rounded_105 hl (by decide) rfl (fun ls hl => ?_)
                refine lv_iinc (v := zI ((j0 : Int) + (1 : Nat) - kLw i)) (lv' := [(9, .int (zI ((j0 : Int) + (1 : Nat) - kLw i))), (7, .long (lN (q / 2))), (10, .int 1), (11, .int 0), (12, .int 1), (0, .ref md), (1, .long (lN q)), (3, .int (zI ((j0 : Int) + (0 : Nat) - kLw i))), (4, .int wd), (5, .int (nI (kP i))), (6, .int (zI (-(kLw i : Int))))]) hx hb d_Mod_rounded_107 hl (k := 4) rfl (by show zI _ + zI 1 = _; rw [zI_add]; exact congrArg zI (by omega)) (by decide) rfl (fun ls hl => ?_)
                refine lv_goto (tgt := 37) hx hb d_Mod_rounded_110 (by decide) ?_
                refine lv_lload hx hb d_Mod_rounded_37 (lv_at hl 1 rfl) ?_
                refine lv_lconst (v := 1) hx hb d_Mod_rounded_39 (by decide) ?_
                refine lv_iload hx hb d_Mod_rounded_40 (lv_at hl 9 rfl) ?_
                refine lv_lshl (v := lN (2 ^ kP i)) hx hb d_Mod_rounded_42 (shl1 (by omega)) ?_
                refine W.lcmp hx hb d_Mod_rounded_43 ?_
                refine lv_if_lt (tgt := 113) hx hb d_Mod_rounded_44 (by decide) (fun c44 => ?_) (fun c44 => ?_)
                · exact L113 1 (q / 2) 1 0 (by decide) (by decide) (by omega) (fun z => r1_tie hr e53 e70 (z.elim (fun y => absurd y (by decide)) (fun y => y.2))) (fun z => r1_tie2 hr e53 e70 (fun y => z (Or.inr ⟨rfl, y⟩))) (by rw [if_neg (by omega)]) _ _ _ (hP.sub [0, 1, 2] rfl) (hD.sub [0, 1, 2] (by decide) rfl) hS (lv_sub hl [5, 8, 9, 10, 1, 0, 3] rfl)
                · exact absurd ((lg_cmp_lt _ _).mpr ((pk_lLT (by omega) (by omega)).mpr (show q / 2 < 2 ^ kP i by omega))) c44
          · have e70 : V 0 ≠ 0 := of_decide_eq_true (tt_of (fun z => c70 ((bI_0 _).mpr z)))
            refine lv_iconst (v := 1) hx hb d_Mod_rounded_73 (by decide) ?_
            refine lv_goto (tgt := 82) hx hb d_Mod_rounded_74 (by decide) ?_
            refine lv_istore (lv' := [(11, .int 1), (12, .int 1), (10, .int (bI (decide (V 0 ≠ 0)))), (9, .int (zI ((j0 : Int) + (0 : Nat) - kLw i))), (7, .long (lN q)), (0, .ref md), (1, .long (lN q)), (3, .int (zI ((j0 : Int) + (0 : Nat) - kLw i))), (4, .int wd), (5, .int (nI (kP i))), (6, .int (zI (-(kLw i : Int))))]) hx hb d_Mod_rounded_82 hl (by decide) rfl (fun ls hl => ?_)
            refine lv_iload hx hb d_Mod_rounded_84 (lv_at hl 2 rfl) ?_
            refine lv_if_ne (tgt := 94) hx hb d_Mod_rounded_86 (by decide) (fun c86 => ?_) (fun c86 => ?_)
            · refine lv_iconst (v := 1) hx hb d_Mod_rounded_94 (by decide) ?_
              refine lv_goto (tgt := 99) hx hb d_Mod_rounded_95 (by decide) ?_
              refine lv_istore (lv' := [(10, .int 1), (11, .int 1), (12, .int 1), (9, .int (zI ((j0 : Int) + (0 : Nat) - kLw i))), (7, .long (lN q)), (0, .ref md), (1, .long (lN q)), (3, .int (zI ((j0 : Int) + (0 : Nat) - kLw i))), (4, .int wd), (5, .int (nI (kP i))), (6, .int (zI (-(kLw i : Int))))]) hx hb d_Mod_rounded_99 hl (by decide) rfl (fun ls hl => ?_)
              refine lv_lload hx hb d_Mod_rounded_101 (lv_at hl 4 rfl) ?_
              refine lv_iconst (v := 1) hx hb d_Mod_rounded_103 (by decide) ?_
              refine lv_lshr (v := lN (q / 2)) hx hb d_Mod_rounded_104 (sar1 (by omega)) ?_
              refine lv_lstore (lv' := [(7, .long (lN (q / 2))), (10, .int 1), (11, .int 1), (12, .int 1), (9, .int (zI ((j0 : Int) + (0 : Nat) - kLw i))), (0, .ref md), (1, .long (lN q)), (3, .int (zI ((j0 : Int) + (0 : Nat) - kLw i))), (4, .int wd), (5, .int (nI (kP i))), (6, .int (zI (-(kLw i : Int))))]) hx hb d_Mod_rounded_105 hl (by decide) rfl (fun ls hl => ?_)
              refine lv_iinc (v := zI ((j0 : Int) + (1 : Nat) - kLw i)) (lv' := [(9, .int (zI ((j0 : Int) + (1 : Nat) - kLw i))), (7, .long (lN (q / 2))), (10, .int 1), (11, .int 1), (12, .int 1), (0, .ref md), (1, .long (lN q)), (3, .int (zI ((j0 : Int) + (0 : Nat) - kLw i))), (4, .int wd), (5, .int (nI (kP i))), (6, .int (zI (-(kLw i : Int))))]) hx hb d_Mod_rounded_107 hl (k := 4) rfl (by show zI _ + zI 1 = _; rw [zI_add]; exact congrArg zI (by omega)) (by decide) rfl (fun ls hl => ?_)
              refine lv_goto (tgt := 37) hx hb d_Mod_rounded_110 (by decide) ?_
              refine lv_lload hx hb d_Mod_rounded_37 (lv_at hl 1 rfl) ?_
              refine lv_lconst (v := 1) hx hb d_Mod_rounded_39 (by decide) ?_
              refine lv_iload hx hb d_Mod_rounded_40 (lv_at hl 9 rfl) ?_
              refine lv_lshl (v := lN (2 ^ kP i)) hx hb d_Mod_rounded_42 (shl1 (by omega)) ?_
              refine W.lcmp hx hb d_Mod_rounded_43 ?_
              refine lv_if_lt (tgt := 113) hx hb d_Mod_rounded_44 (by decide) (fun c44 => ?_) (fun c44 => ?_)
              · exact L113 1 (q / 2) 1 1 (by decide) (by decide) (by omega) (fun _ => r1_more hr e53 e70) (fun z => absurd (Or.inl (by decide)) z) (by rw [if_neg (by omega)]) _ _ _ (hP.sub [0, 1, 2] rfl) (hD.sub [0, 1, 2] (by decide) rfl) hS (lv_sub hl [5, 8, 9, 10, 1, 0, 3] rfl)
              · exact absurd ((lg_cmp_lt _ _).mpr ((pk_lLT (by omega) (by omega)).mpr (show q / 2 < 2 ^ kP i by omega))) c44
            · refine lv_iload hx hb d_Mod_rounded_89 (lv_at hl 1 rfl) ?_
              refine lv_if_eq (tgt := 98) hx hb d_Mod_rounded_91 (by decide) (fun c91 => ?_) (fun c91 => ?_)
              · refine lv_iconst (v := 0) hx hb d_Mod_rounded_98 (by decide) ?_
                refine lv_istore (lv' := [(10, .int 0), (11, .int 1), (12, .int 1), (9, .int (zI ((j0 : Int) + (0 : Nat) - kLw i))), (7, .long (lN q)), (0, .ref md), (1, .long (lN q)), (3, .int (zI ((j0 : Int) + (0 : Nat) - kLw i))), (4, .int wd), (5, .int (nI (kP i))), (6, .int (zI (-(kLw i : Int))))]) hx hb d_Mod_rounded_99 hl (by decide) rfl (fun ls hl => ?_)
                refine lv_lload hx hb d_Mod_rounded_101 (lv_at hl 4 rfl) ?_
                refine lv_iconst (v := 1) hx hb d_Mod_rounded_103 (by decide) ?_
                refine lv_lshr (v := lN (q / 2)) hx hb d_Mod_rounded_104 (sar1 (by omega)) ?_
                refine lv_lstore (lv' := [(7, .long (lN (q / 2))), (10, .int 0), (11, .int 1), (12, .int 1), (9, .int (zI ((j0 : Int) + (0 : Nat) - kLw i))), (0, .ref md), (1, .long (lN q)), (3, .int (zI ((j0 : Int) + (0 : Nat) - kLw i))), (4, .int wd), (5, .int (nI (kP i))), (6, .int (zI (-(kLw i : Int))))]) hx hb d_Mod_rounded_105 hl (by decide) rfl (fun ls hl => ?_)
                refine lv_iinc (v := zI ((j0 : Int) + (1 : Nat) - kLw i)) (lv' := [(9, .int (zI ((j0 : Int) + (1 : Nat) - kLw i))), (7, .long (lN (q / 2))), (10, .int 0), (11, .int 1), (12, .int 1), (0, .ref md), (1, .long (lN q)), (3, .int (zI ((j0 : Int) + (0 : Nat) - kLw i))), (4, .int wd), (5, .int (nI (kP i))), (6, .int (zI (-(kLw i : Int))))]) hx hb d_Mod_rounded_107 hl (k := 4) rfl (by show zI _ + zI 1 = _; rw [zI_add]; exact congrArg zI (by omega)) (by decide) rfl (fun ls hl => ?_)
                refine lv_goto (tgt := 37) hx hb d_Mod_rounded_110 (by decide) ?_
                refine lv_lload hx hb d_Mod_rounded_37 (lv_at hl 1 rfl) ?_
                refine lv_lconst (v := 1) hx hb d_Mod_rounded_39 (by decide) ?_
                refine lv_iload hx hb d_Mod_rounded_40 (lv_at hl 9 rfl) ?_
                refine lv_lshl (v := lN (2 ^ kP i)) hx hb d_Mod_rounded_42 (shl1 (by omega)) ?_
                refine W.lcmp hx hb d_Mod_rounded_43 ?_
                refine lv_if_lt (tgt := 113) hx hb d_Mod_rounded_44 (by decide) (fun c44 => ?_) (fun c44 => ?_)
                · exact L113 1 (q / 2) 1 1 (by decide) (by decide) (by omega) (fun _ => r1_more hr e53 e70) (fun z => absurd (Or.inl (by decide)) z) (by rw [if_neg (by omega)]) _ _ _ (hP.sub [0, 1, 2] rfl) (hD.sub [0, 1, 2] (by decide) rfl) hS (lv_sub hl [5, 8, 9, 10, 1, 0, 3] rfl)
                · exact absurd ((lg_cmp_lt _ _).mpr ((pk_lLT (by omega) (by omega)).mpr (show q / 2 < 2 ^ kP i by omega))) c44
              · refine lv_iconst (v := 1) hx hb d_Mod_rounded_94 (by decide) ?_
                refine lv_goto (tgt := 99) hx hb d_Mod_rounded_95 (by decide) ?_
                refine lv_istore (lv' := [(10, .int 1), (11, .int 1), (12, .int 1), (9, .int (zI ((j0 : Int) + (0 : Nat) - kLw i))), (7, .long (lN q)), (0, .ref md), (1, .long (lN q)), (3, .int (zI ((j0 : Int) + (0 : Nat) - kLw i))), (4, .int wd), (5, .int (nI (kP i))), (6, .int (zI (-(kLw i : Int))))]) hx hb d_Mod_rounded_99 hl (by decide) rfl (fun ls hl => ?_)
                refine lv_lload hx hb d_Mod_rounded_101 (lv_at hl 4 rfl) ?_
                refine lv_iconst (v := 1) hx hb d_Mod_rounded_103 (by decide) ?_
                refine lv_lshr (v := lN (q / 2)) hx hb d_Mod_rounded_104 (sar1 (by omega)) ?_
                refine lv_lstore (lv' := [(7, .long (lN (q / 2))), (10, .int 1), (11, .int 1), (12, .int 1), (9, .int (zI ((j0 : Int) + (0 : Nat) - kLw i))), (0, .ref md), (1, .long (lN q)), (3, .int (zI ((j0 : Int) + (0 : Nat) - kLw i))), (4, .int wd), (5, .int (nI (kP i))), (6, .int (zI (-(kLw i : Int))))]) hx hb d_Mod_rounded_105 hl (by decide) rfl (fun ls hl => ?_)
                refine lv_iinc (v := zI ((j0 : Int) + (1 : Nat) - kLw i)) (lv' := [(9, .int (zI ((j0 : Int) + (1 : Nat) - kLw i))), (7, .long (lN (q / 2))), (10, .int 1), (11, .int 1), (12, .int 1), (0, .ref md), (1, .long (lN q)), (3, .int (zI ((j0 : Int) + (0 : Nat) - kLw i))), (4, .int wd), (5, .int (nI (kP i))), (6, .int (zI (-(kLw i : Int))))]) hx hb d_Mod_rounded_107 hl (k := 4) rfl (by show zI _ + zI 1 = _; rw [zI_add]; exact congrArg zI (by omega)) (by decide) rfl (fun ls hl => ?_)
                refine lv_goto (tgt := 37) hx hb d_Mod_rounded_110 (by decide) ?_
                refine lv_lload hx hb d_Mod_rounded_37 (lv_at hl 1 rfl) ?_
                refine lv_lconst (v := 1) hx hb d_Mod_rounded_39 (by decide) ?_
                refine lv_iload hx hb d_Mod_rounded_40 (lv_at hl 9 rfl) ?_
                refine lv_lshl (v := lN (2 ^ kP i)) hx hb d_Mod_rounded_42 (shl1 (by omega)) ?_
                refine W.lcmp hx hb d_Mod_rounded_43 ?_
                refine lv_if_lt (tgt := 113) hx hb d_Mod_rounded_44 (by decide) (fun c44 => ?_) (fun c44 => ?_)
                · exact L113 1 (q / 2) 1 1 (by decide) (by decide) (by omega) (fun _ => r1_more hr e53 e70) (fun z => absurd (Or.inl (by decide)) z) (by rw [if_neg (by omega)]) _ _ _ (hP.sub [0, 1, 2] rfl) (hD.sub [0, 1, 2] (by decide) rfl) hS (lv_sub hl [5, 8, 9, 10, 1, 0, 3] rfl)
                · exact absurd ((lg_cmp_lt _ _).mpr ((pk_lLT (by omega) (by omega)).mpr (show q / 2 < 2 ^ kP i by omega))) c44
  · have e12 : V 0 ≠ 0 := fun z => c12 ((nI_le0 (by omega)).mpr (lc_0.mpr z))
    refine lv_iconst (v := 1) hx hb d_Mod_rounded_15 (by decide) ?_
    refine tv_i (bI (decide (V 0 ≠ 0))) (by rw [decide_eq_true e12]; rfl) ?_
    refine lv_goto (tgt := 20) hx hb d_Mod_rounded_16 (by decide) ?_
    refine lv_istore (lv' := [(10, .int (bI (decide (V 0 ≠ 0)))), (9, .int (zI ((j0 : Int) + (0 : Nat) - kLw i))), (7, .long (lN q)), (0, .ref md), (1, .long (lN q)), (3, .int (zI ((j0 : Int) + (0 : Nat) - kLw i))), (4, .int wd), (5, .int (nI (kP i))), (6, .int (zI (-(kLw i : Int))))]) hx hb d_Mod_rounded_20 hl (by decide) rfl (fun ls hl => ?_)
    refine lv_aload_n hx hb d_Mod_rounded_22 rfl (lv_at hl 3 rfl) ?_
    refine lv_iconst (v := 0) hx hb d_Mod_rounded_23 (by decide) ?_
    refine tv_i (nI 0) (rfl) ?_
    refine lv_iconst (v := 2) hx hb d_Mod_rounded_24 (by decide) ?_
    refine tv_i (nI 2) (rfl) ?_
    refine lv_iconst (v := 0) hx hb d_Mod_rounded_25 (by decide) ?_
    refine tv_i (nI 0) (rfl) ?_
    refine ca_v [] (va_runV (As := [.int (nI 0), .int (nI 2), .int (nI 0)]) (rest := []) ⟨hx, hb, hml, hown, hts⟩ (c_Mod_grow l D E md xx mm nn cM cN V ln rd at0 en0 R 0 2 0 (by decide) (by decide) (by decide) (hl0) H.size) (xV 3 hts kC_Mod_grow kM_Mod_26 kI_Mod_grow kS_Mod_grow kN_Mod rfl rfl (by decide +kernel) ⟨Nat.le_of_ble_eq_true rfl, Nat.le_of_ble_eq_true rfl⟩) ⟨ct_blind hev, va_recv hK hP (ci := 5) (q0 := 0) rfl rfl, ct_pre hev hP hK hD hS hA hE [0, 1, 2] rfl (by decide) [0, 1] rfl⟩ rfl rfl hl.1 rfl (lv_room (Nat.le_of_ble_eq_true rfl)) d_Mod_rounded_26 ⟨Nat.le_of_ble_eq_true rfl, Nat.le_of_ble_eq_true rfl⟩) hP hD hS hA [0, 1, 2] [] rfl rfl (by decide) (by decide) (fun u H locs hw hP hD hS hK1 => ?_)
    have hP : va_P D vcl [(md, .inr (5, [.ref xx, .int ln, .long R, .int rd, .ref mm, .ref nn, .int at0, .int en0])), (mm, .inl (cM, 3000, .inl (rw16 (upR V 0 (V 0 * 2 + 0))))), (nn, .inl (cN, 3, .inl (rc (upR V 0 (V 0 * 2 + 0)))))] H := hP
    have hD : va_D A [(md, .inr (5, [.ref xx, .int ln, .long R, .int rd, .ref mm, .ref nn, .int at0, .int en0])), (mm, .inl (cM, 3000, .inl (rw16 (upR V 0 (V 0 * 2 + 0))))), (nn, .inl (cN, 3, .inl (rc (upR V 0 (V 0 * 2 + 0)))))] := hD
    refine lv_aload_n hx hb d_Mod_rounded_29 rfl (lv_at hl 3 rfl) ?_
    refine lv_iconst (v := 0) hx hb d_Mod_rounded_30 (by decide) ?_
    refine tv_i (nI 0) (rfl) ?_
    refine lv_iconst (v := 1) hx hb d_Mod_rounded_31 (by decide) ?_
    refine tv_i (nI 1) (rfl) ?_
    refine ca_i [] (va_runV (As := [.int (nI 0), .int (nI 1)]) (rest := []) ⟨hx, hb, hml, hown, hts⟩ (c_Mod_compareRows l D E md xx mm nn cM cN (upR V 0 (V 0 * 2 + 0)) ln rd at0 en0 R 0 1 (by decide) (by decide) (by rw [upR_s]; exact lc_2 hl0) (by rw [upR_n (by decide)]; omega) H.size) (xV 2 hts kC_Mod_compareRows kM_Mod_53 kI_Mod_compareRows kS_Mod_compareRows kN_Mod rfl rfl (by decide +kernel) ⟨Nat.le_of_ble_eq_true rfl, Nat.le_of_ble_eq_true rfl⟩) ⟨ct_blind hev, va_recv hK hP (ci := 5) (q0 := 0) rfl rfl, ct_pre hev hP hK hD hS hA hE [0, 1, 2] rfl (by decide) [0, 1] rfl⟩ rfl rfl hl.1 rfl (lv_room (Nat.le_of_ble_eq_true rfl)) d_Mod_rounded_32 ⟨Nat.le_of_ble_eq_true rfl, Nat.le_of_ble_eq_true rfl⟩) hP hD hS hA [0, 1, 2] [] rfl rfl (by decide) (by decide) (fun rv u H locs hw hP hD hS hK1 => ?_)
    subst hw
    have hP : va_P D vcl [(md, .inr (5, [.ref xx, .int ln, .long R, .int rd, .ref mm, .ref nn, .int at0, .int en0])), (mm, .inl (cM, 3000, .inl (rw16 (upR V 0 (V 0 * 2 + 0))))), (nn, .inl (cN, 3, .inl (rc (upR V 0 (V 0 * 2 + 0)))))] H := hP
    have hD : va_D A [(md, .inr (5, [.ref xx, .int ln, .long R, .int rd, .ref mm, .ref nn, .int at0, .int en0])), (mm, .inl (cM, 3000, .inl (rw16 (upR V 0 (V 0 * 2 + 0))))), (nn, .inl (cN, 3, .inl (rc (upR V 0 (V 0 * 2 + 0)))))] := hD
    refine tv_i (cmpN (V 0 * 2) (V 1)) (by rw [upR_s, upR_n (by decide), Nat.add_zero]) ?_
    refine lv_istore (lv' := [(11, .int (cmpN (V 0 * 2) (V 1))), (10, .int (bI (decide (V 0 ≠ 0)))), (9, .int (zI ((j0 : Int) + (0 : Nat) - kLw i))), (7, .long (lN q)), (0, .ref md), (1, .long (lN q)), (3, .int (zI ((j0 : Int) + (0 : Nat) - kLw i))), (4, .int wd), (5, .int (nI (kP i))), (6, .int (zI (-(kLw i : Int))))]) hx hb d_Mod_rounded_35 hl (by decide) rfl (fun ls hl => ?_)
    have L113 : ∀ (kk : Nat) (q1 : Nat) (c : Nat) (hf : Int32), 0 < kk → (c ≤ 1) → (q1 < 2 ^ kP i) → ((0 < hf ∨ (hf = 0 ∧ q1 % 2 = 1)) → (rne (q * V 1 + V 0) (V 1 * 2 ^ c)) = q1 + 1) → (¬ (0 < hf ∨ (hf = 0 ∧ q1 % 2 = 1)) → (rne (q * V 1 + V 0) (V 1 * 2 ^ c)) = q1) → (c = if q < 2 ^ kP i then 0 else 1) → ∀ (H : Heap) (locs : List Loc) (ls : Array Slot), va_P D vcl [(md, .inr (5, [.ref xx, .int ln, .long R, .int rd, .ref mm, .ref nn, .int at0, .int en0])), (mm, .inl (cM, 3000, .inl (rw16 (upR V 0 (V 0 * 2 + 0))))), (nn, .inl (cN, 3, .inl (rc (upR V 0 (V 0 * 2 + 0)))))] H → va_D A [(md, .inr (5, [.ref xx, .int ln, .long R, .int rd, .ref mm, .ref nn, .int at0, .int en0])), (mm, .inl (cM, 3000, .inl (rw16 (upR V 0 (V 0 * 2 + 0))))), (nn, .inl (cN, 3, .inl (rc (upR V 0 (V 0 * 2 + 0)))))] → va_S A s.heap H locs → lv_has ls 17 [(0, .ref md), (4, .int wd), (5, .int (nI (kP i))), (6, .int (zI (-(kLw i : Int)))), (7, .long (lN q1)), (9, .int (zI ((j0 : Int) + c - kLw i))), (11, .int hf)] → W p l ee ({ frames := 2, cells := 0, slots := 0, locals := 49 }) s m ([.ref md, .long (lN q), .int (zI ((j0 : Int) + (0 : Nat) - kLw i)), .int wd, .int (nI (kP i)), .int (zI (-(kLw i : Int)))] : List Value).toArray below meth cde H locs 0 0 (MQ below (va_Ql (S := Unit) (fun (w : Int64) (_ : Unit) => w = lN (moR (kP i) (kZ i) (j0 + if q < 2 ^ kP i then 0 else 1) (rne (q * V 1 + V 0) (V 1 * 2 ^ (if q < 2 ^ kP i then 0 else 1))))) (fun u tS => ctB D vcl ((fun _ => [(cM, .int), (cN, .int)]) u) ((fun _ : Unit => [(md, .inr (5, [.ref xx, .int ln, .long R, .int rd, .ref mm, .ref nn, .int at0, .int en0])), (mm, .inl (cM, 3000, .inl (rw16 (upR V 0 (V 0 * 2 + 0))))), (nn, .inl (cN, 3, .inl (rc (upR V 0 (V 0 * 2 + 0)))))]) u) A tS) A) ([.ref md, .long (lN q), .int (zI ((j0 : Int) + (0 : Nat) - kLw i)), .int wd, .int (nI (kP i)), .int (zI (-(kLw i : Int)))] : List Value).toArray s 0 0 A) (F0 m 113 ls []) := by
      intro kk
      induction kk with
      | zero => intro q1 c hf hmz; exact absurd hmz (Nat.not_lt_zero _)
      | succ kk ih =>
        intro q1 c hf hmz hc1 hq1 hu1 hu2 hcc H locs ls hP hD hS hl
        obtain ⟨Q, hQ⟩ : ∃ Q, Q = (rne (q * V 1 + V 0) (V 1 * 2 ^ c)) := ⟨_, rfl⟩
        rw [← hQ] at hu1 hu2
        have hQb : Q ≤ q1 + 1 := by by_cases h9 : (0 < hf ∨ (hf = 0 ∧ q1 % 2 = 1)); (· have := hu1 h9; omega); (have := hu2 h9; omega)
        refine lv_iload hx hb d_Mod_rounded_113 (lv_at hl 6 rfl) ?_
        refine lv_if_gt (tgt := 132) hx hb d_Mod_rounded_115 (by decide) (fun c115 => ?_) (fun c115 => ?_)
        · have hqq : Q = q1 + 1 := hu1 (Or.inl c115)
          refine lv_iconst (v := 1) hx hb d_Mod_rounded_132 (by decide) ?_
          refine lv_goto (tgt := 137) hx hb d_Mod_rounded_133 (by decide) ?_
          refine lv_istore (lv' := [(12, .int 1), (0, .ref md), (4, .int wd), (5, .int (nI (kP i))), (6, .int (zI (-(kLw i : Int)))), (7, .long (lN q1)), (9, .int (zI ((j0 : Int) + c - kLw i))), (11, .int hf)]) hx hb d_Mod_rounded_137 hl (by decide) rfl (fun ls hl => ?_)
          refine lv_iload hx hb d_Mod_rounded_139 (lv_at hl 0 rfl) ?_
          refine lv_if_eq (tgt := 151) hx hb d_Mod_rounded_141 (by decide) (fun c141 => ?_) (fun c141 => ?_)
          · exact absurd c141 (by decide)
          · refine lv_lload hx hb d_Mod_rounded_144 (lv_at hl 5 rfl) ?_
            refine lv_lconst (v := 1) hx hb d_Mod_rounded_146 (by decide) ?_
            refine lv_ladd hx hb d_Mod_rounded_147 ?_
            refine tv_l (lN Q) (by rw [hqq]; exact lN_1 _) ?_
            refine lv_goto (tgt := 153) hx hb d_Mod_rounded_148 (by decide) ?_
            refine lv_lstore (lv' := [(7, .long (lN Q)), (12, .int 1), (0, .ref md), (4, .int wd), (5, .int (nI (kP i))), (6, .int (zI (-(kLw i : Int)))), (9, .int (zI ((j0 : Int) + c - kLw i))), (11, .int hf)]) hx hb d_Mod_rounded_153 hl (by decide) rfl (fun ls hl => ?_)
            refine lv_lload hx hb d_Mod_rounded_155 (lv_at hl 0 rfl) ?_
            refine lv_lconst (v := 1) hx hb d_Mod_rounded_157 (by decide) ?_
            refine lv_iload hx hb d_Mod_rounded_158 (lv_at hl 4 rfl) ?_
            refine lv_lshl (v := lN (2 ^ kP i)) hx hb d_Mod_rounded_160 (shl1 (by omega)) ?_
            refine W.lcmp hx hb d_Mod_rounded_161 ?_
            refine lv_if_ne (tgt := 174) hx hb d_Mod_rounded_162 (by decide) (fun c162 => ?_) (fun c162 => ?_)
            · have e162 : Q ≠ 2 ^ kP i := fun z => c162 ((lg_cmp_eq _ _).mpr (by rw [z]))
              refine lv_lconst (v := 1) hx hb d_Mod_rounded_174 (by decide) ?_
              refine lv_iload hx hb d_Mod_rounded_175 (lv_at hl 4 rfl) ?_
              refine lv_iconst (v := 1) hx hb d_Mod_rounded_177 (by decide) ?_
              refine lv_isub hx hb d_Mod_rounded_178 ?_
              refine tv_i (nI (kP i - 1)) (nI_dec (by omega)) ?_
              refine lv_lshl (v := lN (2 ^ (kP i - 1))) hx hb d_Mod_rounded_179 (shl1 (by omega)) ?_
              refine lv_lstore (lv' := [(13, .long (lN (2 ^ (kP i - 1)))), (7, .long (lN Q)), (12, .int 1), (0, .ref md), (4, .int wd), (5, .int (nI (kP i))), (6, .int (zI (-(kLw i : Int)))), (9, .int (zI ((j0 : Int) + c - kLw i))), (11, .int hf)]) hx hb d_Mod_rounded_180 hl (by decide) rfl (fun ls hl => ?_)
              refine lv_lload hx hb d_Mod_rounded_182 (lv_at hl 1 rfl) ?_
              refine lv_lload hx hb d_Mod_rounded_184 (lv_at hl 0 rfl) ?_
              refine W.lcmp hx hb d_Mod_rounded_186 ?_
              refine lv_if_ge (tgt := 193) hx hb d_Mod_rounded_187 (by decide) (fun c187 => ?_) (fun c187 => ?_)
              · have e187 : 2 ^ (kP i - 1) ≤ Q := (pk_lLE (by omega) (by omega)).mp ((lg_cmp_ge _ _).mp c187)
                refine lv_iload hx hb d_Mod_rounded_193 (lv_at hl 7 rfl) ?_
                refine lv_iload hx hb d_Mod_rounded_195 (lv_at hl 6 rfl) ?_
                refine lv_isub hx hb d_Mod_rounded_197 ?_
                refine lv_iconst (v := 1) hx hb d_Mod_rounded_198 (by decide) ?_
                refine lv_iadd hx hb d_Mod_rounded_199 ?_
                refine tv_i (nI (j0 + c + 1)) (by show zI _ - zI _ + zI 1 = _; rw [zI_sub, zI_add, ← zI_nI]; exact congrArg zI (by omega)) ?_
                refine lv_i2l (v := (nI (j0 + c + 1)).toInt64) hx hb d_Mod_rounded_200 (rfl) ?_
                refine tv_l (lN (j0 + c + 1)) (nI_l (by omega)) ?_
                refine lv_lstore (lv' := [(15, .long (lN (j0 + c + 1))), (13, .long (lN (2 ^ (kP i - 1)))), (7, .long (lN Q)), (12, .int 1), (0, .ref md), (4, .int wd), (5, .int (nI (kP i))), (6, .int (zI (-(kLw i : Int)))), (9, .int (zI ((j0 : Int) + c - kLw i))), (11, .int hf)]) hx hb d_Mod_rounded_201 hl (by decide) rfl (fun ls hl => ?_)
                refine lv_lload hx hb d_Mod_rounded_203 (lv_at hl 0 rfl) ?_
                refine lv_iload hx hb d_Mod_rounded_205 (lv_at hl 5 rfl) ?_
                refine lv_if_eq (tgt := 216) hx hb d_Mod_rounded_207 (by decide) (fun c207 => ?_) (fun c207 => ?_)
                · have e207 : i = 1 := by rw [← hwd]; exact if_pos c207
                  refine lv_ldc2 hx hb hown (hts _ kK_Mod_72) d_Mod_rounded_216 ?_
                  refine tv_l (lN (kZ i + 2)) (by rw [e207]; rfl) ?_
                  refine W.lcmp hx hb d_Mod_rounded_219 ?_
                  refine lv_if_lt (tgt := 231) hx hb d_Mod_rounded_220 (by decide) (fun c220 => ?_) (fun c220 => ?_)
                  · have e220 : j0 + c + 1 < kZ i + 2 := (pk_lLT (by omega) (by omega)).mp ((lg_cmp_lt _ _).mp c220)
                    refine lv_lload hx hb d_Mod_rounded_231 (lv_at hl 0 rfl) ?_
                    refine lv_iload hx hb d_Mod_rounded_233 (lv_at hl 6 rfl) ?_
                    refine lv_iconst (v := 1) hx hb d_Mod_rounded_235 (by decide) ?_
                    refine lv_isub hx hb d_Mod_rounded_236 ?_
                    refine tv_i (nI (kP i - 1)) (nI_dec (by omega)) ?_
                    refine lv_lshl (v := lN ((j0 + c + 1) * 2 ^ (kP i - 1))) hx hb d_Mod_rounded_237 (wb_shl _ (by omega)) ?_
                    refine lv_lload hx hb d_Mod_rounded_238 (lv_at hl 2 rfl) ?_
                    refine lv_lload hx hb d_Mod_rounded_240 (lv_at hl 1 rfl) ?_
                    refine lv_lsub hx hb d_Mod_rounded_242 ?_
                    refine lv_ladd hx hb d_Mod_rounded_243 ?_
                    refine tv_l (lN ((j0 + c) * 2 ^ (kP i - 1) + Q)) (by rw [lN_sub (by omega), lN_add]; exact congrArg lN (by rw [Nat.add_mul, Nat.one_mul]; omega)) ?_
                    exact rt_l hx hb hrt hlocks (()) (by rw [← hcc, ← hQ]; unfold moR; rw [if_neg (by omega), if_neg e162, if_neg (by omega)]) (hP.sub [0, 1, 2] rfl) (hK.sub [0, 1] rfl) (hD.sub [0, 1, 2] (by decide) rfl) hS d_Mod_rounded_244
                  · have e220 : ¬ j0 + c + 1 < kZ i + 2 := fun z => c220 ((lg_cmp_lt _ _).mpr ((pk_lLT (by omega) (by omega)).mpr z))
                    refine lv_iload hx hb d_Mod_rounded_223 (lv_at hl 5 rfl) ?_
                    refine ca_l [(md, .inr (5, [.ref xx, .int ln, .long R, .int rd, .ref mm, .ref nn, .int at0, .int en0])), (mm, .inl (cM, 3000, .inl (rw16 (upR V 0 (V 0 * 2 + 0))))), (nn, .inl (cN, 3, .inl (rc (upR V 0 (V 0 * 2 + 0)))))] (va_runS (As := [.int wd]) (rest := []) ⟨hx, hb, hml, hown, hts⟩ (c_Mod_infinite l D E wd H.size) (xS 1 hts kC_Mod_infinite kM_Mod_46 kT_Mod_infinite kN_Mod rfl rfl (by decide +kernel) ⟨Nat.le_of_ble_eq_true rfl, Nat.le_of_ble_eq_true rfl⟩) ⟨ct_blind hev, ct_pre hev hP hK hD hS hA hE [] rfl (by decide) [] rfl⟩ rfl rfl hl.1 rfl (lv_room (Nat.le_of_ble_eq_true rfl)) d_Mod_rounded_225 ⟨Nat.le_of_ble_eq_true rfl, Nat.le_of_ble_eq_true rfl⟩) hP hD hS hA [] [0, 1, 2] rfl rfl (by decide) (by decide) (fun rv u H locs hw hP hD hS hK1 => ?_)
                    subst hw
                    have hP : va_P D vcl [(md, .inr (5, [.ref xx, .int ln, .long R, .int rd, .ref mm, .ref nn, .int at0, .int en0])), (mm, .inl (cM, 3000, .inl (rw16 (upR V 0 (V 0 * 2 + 0))))), (nn, .inl (cN, 3, .inl (rc (upR V 0 (V 0 * 2 + 0)))))] H := hP
                    have hD : va_D A [(md, .inr (5, [.ref xx, .int ln, .long R, .int rd, .ref mm, .ref nn, .int at0, .int en0])), (mm, .inl (cM, 3000, .inl (rw16 (upR V 0 (V 0 * 2 + 0))))), (nn, .inl (cN, 3, .inl (rc (upR V 0 (V 0 * 2 + 0)))))] := hD
                    refine lv_goto (tgt := 244) hx hb d_Mod_rounded_228 (by decide) ?_
                    exact rt_l hx hb hrt hlocks (()) (by rw [← hcc, ← hQ]; unfold moR; rw [if_neg (by omega), if_neg e162, if_pos (by omega), hwd]; exact kf_I i hi) (hP.sub [0, 1, 2] rfl) (hK.sub [0, 1] rfl) (hD.sub [0, 1, 2] (by decide) rfl) hS d_Mod_rounded_244
                · have e207 : i = 0 := by rw [← hwd]; exact if_neg c207
                  refine lv_ldc2 hx hb hown (hts _ kK_Mod_70) d_Mod_rounded_210 ?_
                  refine tv_l (lN (kZ i + 2)) (by rw [e207]; rfl) ?_
                  refine lv_goto (tgt := 219) hx hb d_Mod_rounded_213 (by decide) ?_
                  refine W.lcmp hx hb d_Mod_rounded_219 ?_
                  refine lv_if_lt (tgt := 231) hx hb d_Mod_rounded_220 (by decide) (fun c220 => ?_) (fun c220 => ?_)
                  · have e220 : j0 + c + 1 < kZ i + 2 := (pk_lLT (by omega) (by omega)).mp ((lg_cmp_lt _ _).mp c220)
                    refine lv_lload hx hb d_Mod_rounded_231 (lv_at hl 0 rfl) ?_
                    refine lv_iload hx hb d_Mod_rounded_233 (lv_at hl 6 rfl) ?_
                    refine lv_iconst (v := 1) hx hb d_Mod_rounded_235 (by decide) ?_
                    refine lv_isub hx hb d_Mod_rounded_236 ?_
                    refine tv_i (nI (kP i - 1)) (nI_dec (by omega)) ?_
                    refine lv_lshl (v := lN ((j0 + c + 1) * 2 ^ (kP i - 1))) hx hb d_Mod_rounded_237 (wb_shl _ (by omega)) ?_
                    refine lv_lload hx hb d_Mod_rounded_238 (lv_at hl 2 rfl) ?_
                    refine lv_lload hx hb d_Mod_rounded_240 (lv_at hl 1 rfl) ?_
                    refine lv_lsub hx hb d_Mod_rounded_242 ?_
                    refine lv_ladd hx hb d_Mod_rounded_243 ?_
                    refine tv_l (lN ((j0 + c) * 2 ^ (kP i - 1) + Q)) (by rw [lN_sub (by omega), lN_add]; exact congrArg lN (by rw [Nat.add_mul, Nat.one_mul]; omega)) ?_
                    exact rt_l hx hb hrt hlocks (()) (by rw [← hcc, ← hQ]; unfold moR; rw [if_neg (by omega), if_neg e162, if_neg (by omega)]) (hP.sub [0, 1, 2] rfl) (hK.sub [0, 1] rfl) (hD.sub [0, 1, 2] (by decide) rfl) hS d_Mod_rounded_244
                  · have e220 : ¬ j0 + c + 1 < kZ i + 2 := fun z => c220 ((lg_cmp_lt _ _).mpr ((pk_lLT (by omega) (by omega)).mpr z))
                    refine lv_iload hx hb d_Mod_rounded_223 (lv_at hl 5 rfl) ?_
                    refine ca_l [(md, .inr (5, [.ref xx, .int ln, .long R, .int rd, .ref mm, .ref nn, .int at0, .int en0])), (mm, .inl (cM, 3000, .inl (rw16 (upR V 0 (V 0 * 2 + 0))))), (nn, .inl (cN, 3, .inl (rc (upR V 0 (V 0 * 2 + 0)))))] (va_runS (As := [.int wd]) (rest := []) ⟨hx, hb, hml, hown, hts⟩ (c_Mod_infinite l D E wd H.size) (xS 1 hts kC_Mod_infinite kM_Mod_46 kT_Mod_infinite kN_Mod rfl rfl (by decide +kernel) ⟨Nat.le_of_ble_eq_true rfl, Nat.le_of_ble_eq_true rfl⟩) ⟨ct_blind hev, ct_pre hev hP hK hD hS hA hE [] rfl (by decide) [] rfl⟩ rfl rfl hl.1 rfl (lv_room (Nat.le_of_ble_eq_true rfl)) d_Mod_rounded_225 ⟨Nat.le_of_ble_eq_true rfl, Nat.le_of_ble_eq_true rfl⟩) hP hD hS hA [] [0, 1, 2] rfl rfl (by decide) (by decide) (fun rv u H locs hw hP hD hS hK1 => ?_)
                    subst hw
                    have hP : va_P D vcl [(md, .inr (5, [.ref xx, .int ln, .long R, .int rd, .ref mm, .ref nn, .int at0, .int en0])), (mm, .inl (cM, 3000, .inl (rw16 (upR V 0 (V 0 * 2 + 0))))), (nn, .inl (cN, 3, .inl (rc (upR V 0 (V 0 * 2 + 0)))))] H := hP
                    have hD : va_D A [(md, .inr (5, [.ref xx, .int ln, .long R, .int rd, .ref mm, .ref nn, .int at0, .int en0])), (mm, .inl (cM, 3000, .inl (rw16 (upR V 0 (V 0 * 2 + 0))))), (nn, .inl (cN, 3, .inl (rc (upR V 0 (V 0 * 2 + 0)))))] := hD
                    refine lv_goto (tgt := 244) hx hb d_Mod_rounded_228 (by decide) ?_
                    exact rt_l hx hb hrt hlocks (()) (by rw [← hcc, ← hQ]; unfold moR; rw [if_neg (by omega), if_neg e162, if_pos (by omega), hwd]; exact kf_I i hi) (hP.sub [0, 1, 2] rfl) (hK.sub [0, 1] rfl) (hD.sub [0, 1, 2] (by decide) rfl) hS d_Mod_rounded_244
              · have e187 : ¬ 2 ^ (kP i - 1) ≤ Q := fun z => c187 ((lg_cmp_ge _ _).mpr ((pk_lLE (by omega) (by omega)).mpr z))
                refine lv_lload hx hb d_Mod_rounded_190 (lv_at hl 1 rfl) ?_
                exact rt_l hx hb hrt hlocks (()) (by rw [← hcc, ← hQ]; unfold moR; rw [if_pos (by omega)]) (hP.sub [0, 1, 2] rfl) (hK.sub [0, 1] rfl) (hD.sub [0, 1, 2] (by decide) rfl) hS d_Mod_rounded_192
            · have e162 : Q = 2 ^ kP i := (pk_lEQ (by omega) (by omega)).mp ((lg_cmp_eq _ _).mp c162)
              refine lv_lload hx hb d_Mod_rounded_165 (lv_at hl 0 rfl) ?_
              refine lv_iconst (v := 1) hx hb d_Mod_rounded_167 (by decide) ?_
              refine lv_lshr (v := lN (2 ^ (kP i - 1))) hx hb d_Mod_rounded_168 (by rw [e162, sar1 (by omega)]; exact congrArg lN (by omega)) ?_
              refine lv_lstore (lv' := [(7, .long (lN (2 ^ (kP i - 1)))), (12, .int 1), (0, .ref md), (4, .int wd), (5, .int (nI (kP i))), (6, .int (zI (-(kLw i : Int)))), (9, .int (zI ((j0 : Int) + c - kLw i))), (11, .int hf)]) hx hb d_Mod_rounded_169 hl (by decide) rfl (fun ls hl => ?_)
              refine lv_iinc (v := zI ((j0 : Int) + c + 1 - kLw i)) (lv' := [(9, .int (zI ((j0 : Int) + c + 1 - kLw i))), (7, .long (lN (2 ^ (kP i - 1)))), (12, .int 1), (0, .ref md), (4, .int wd), (5, .int (nI (kP i))), (6, .int (zI (-(kLw i : Int)))), (11, .int hf)]) hx hb d_Mod_rounded_171 hl (k := 6) rfl (by show zI _ + zI 1 = _; rw [zI_add]; exact congrArg zI (by omega)) (by decide) rfl (fun ls hl => ?_)
              refine lv_lconst (v := 1) hx hb d_Mod_rounded_174 (by decide) ?_
              refine lv_iload hx hb d_Mod_rounded_175 (lv_at hl 5 rfl) ?_
              refine lv_iconst (v := 1) hx hb d_Mod_rounded_177 (by decide) ?_
              refine lv_isub hx hb d_Mod_rounded_178 ?_
              refine tv_i (nI (kP i - 1)) (nI_dec (by omega)) ?_
              refine lv_lshl (v := lN (2 ^ (kP i - 1))) hx hb d_Mod_rounded_179 (shl1 (by omega)) ?_
              refine lv_lstore (lv' := [(13, .long (lN (2 ^ (kP i - 1)))), (9, .int (zI ((j0 : Int) + c + 1 - kLw i))), (7, .long (lN (2 ^ (kP i - 1)))), (12, .int 1), (0, .ref md), (4, .int wd), (5, .int (nI (kP i))), (6, .int (zI (-(kLw i : Int)))), (11, .int hf)]) hx hb d_Mod_rounded_180 hl (by decide) rfl (fun ls hl => ?_)
              refine lv_lload hx hb d_Mod_rounded_182 (lv_at hl 2 rfl) ?_
              refine lv_lload hx hb d_Mod_rounded_184 (lv_at hl 0 rfl) ?_
              refine W.lcmp hx hb d_Mod_rounded_186 ?_
              refine lv_if_ge (tgt := 193) hx hb d_Mod_rounded_187 (by decide) (fun c187 => ?_) (fun c187 => ?_)
              · have e187 : 2 ^ (kP i - 1) ≤ 2 ^ (kP i - 1) := (pk_lLE (by omega) (by omega)).mp ((lg_cmp_ge _ _).mp c187)
                refine lv_iload hx hb d_Mod_rounded_193 (lv_at hl 1 rfl) ?_
                refine lv_iload hx hb d_Mod_rounded_195 (lv_at hl 7 rfl) ?_
                refine lv_isub hx hb d_Mod_rounded_197 ?_
                refine lv_iconst (v := 1) hx hb d_Mod_rounded_198 (by decide) ?_
                refine lv_iadd hx hb d_Mod_rounded_199 ?_
                refine tv_i (nI (j0 + c + 2)) (by show zI _ - zI _ + zI 1 = _; rw [zI_sub, zI_add, ← zI_nI]; exact congrArg zI (by omega)) ?_
                refine lv_i2l (v := (nI (j0 + c + 2)).toInt64) hx hb d_Mod_rounded_200 (rfl) ?_
                refine tv_l (lN (j0 + c + 2)) (nI_l (by omega)) ?_
                refine lv_lstore (lv' := [(15, .long (lN (j0 + c + 2))), (13, .long (lN (2 ^ (kP i - 1)))), (9, .int (zI ((j0 : Int) + c + 1 - kLw i))), (7, .long (lN (2 ^ (kP i - 1)))), (12, .int 1), (0, .ref md), (4, .int wd), (5, .int (nI (kP i))), (6, .int (zI (-(kLw i : Int)))), (11, .int hf)]) hx hb d_Mod_rounded_201 hl (by decide) rfl (fun ls hl => ?_)
                refine lv_lload hx hb d_Mod_rounded_203 (lv_at hl 0 rfl) ?_
                refine lv_iload hx hb d_Mod_rounded_205 (lv_at hl 6 rfl) ?_
                refine lv_if_eq (tgt := 216) hx hb d_Mod_rounded_207 (by decide) (fun c207 => ?_) (fun c207 => ?_)
                · have e207 : i = 1 := by rw [← hwd]; exact if_pos c207
                  refine lv_ldc2 hx hb hown (hts _ kK_Mod_72) d_Mod_rounded_216 ?_
                  refine tv_l (lN (kZ i + 2)) (by rw [e207]; rfl) ?_
                  refine W.lcmp hx hb d_Mod_rounded_219 ?_
                  refine lv_if_lt (tgt := 231) hx hb d_Mod_rounded_220 (by decide) (fun c220 => ?_) (fun c220 => ?_)
                  · have e220 : j0 + c + 2 < kZ i + 2 := (pk_lLT (by omega) (by omega)).mp ((lg_cmp_lt _ _).mp c220)
                    refine lv_lload hx hb d_Mod_rounded_231 (lv_at hl 0 rfl) ?_
                    refine lv_iload hx hb d_Mod_rounded_233 (lv_at hl 7 rfl) ?_
                    refine lv_iconst (v := 1) hx hb d_Mod_rounded_235 (by decide) ?_
                    refine lv_isub hx hb d_Mod_rounded_236 ?_
                    refine tv_i (nI (kP i - 1)) (nI_dec (by omega)) ?_
                    refine lv_lshl (v := lN ((j0 + c + 2) * 2 ^ (kP i - 1))) hx hb d_Mod_rounded_237 (wb_shl _ (by omega)) ?_
                    refine lv_lload hx hb d_Mod_rounded_238 (lv_at hl 3 rfl) ?_
                    refine lv_lload hx hb d_Mod_rounded_240 (lv_at hl 1 rfl) ?_
                    refine lv_lsub hx hb d_Mod_rounded_242 ?_
                    refine lv_ladd hx hb d_Mod_rounded_243 ?_
                    refine tv_l (lN ((j0 + c) * 2 ^ (kP i - 1) + Q)) (by rw [lN_sub (Nat.le_refl _), lN_add]; exact congrArg lN (by rw [Nat.sub_self, e162, hpP, Nat.add_mul]; omega)) ?_
                    exact rt_l hx hb hrt hlocks (()) (by rw [← hcc, ← hQ]; unfold moR; rw [if_neg (by omega), if_pos e162, if_neg (by omega)]) (hP.sub [0, 1, 2] rfl) (hK.sub [0, 1] rfl) (hD.sub [0, 1, 2] (by decide) rfl) hS d_Mod_rounded_244
                  · have e220 : ¬ j0 + c + 2 < kZ i + 2 := fun z => c220 ((lg_cmp_lt _ _).mpr ((pk_lLT (by omega) (by omega)).mpr z))
                    refine lv_iload hx hb d_Mod_rounded_223 (lv_at hl 6 rfl) ?_
                    refine ca_l [(md, .inr (5, [.ref xx, .int ln, .long R, .int rd, .ref mm, .ref nn, .int at0, .int en0])), (mm, .inl (cM, 3000, .inl (rw16 (upR V 0 (V 0 * 2 + 0))))), (nn, .inl (cN, 3, .inl (rc (upR V 0 (V 0 * 2 + 0)))))] (va_runS (As := [.int wd]) (rest := []) ⟨hx, hb, hml, hown, hts⟩ (c_Mod_infinite l D E wd H.size) (xS 1 hts kC_Mod_infinite kM_Mod_46 kT_Mod_infinite kN_Mod rfl rfl (by decide +kernel) ⟨Nat.le_of_ble_eq_true rfl, Nat.le_of_ble_eq_true rfl⟩) ⟨ct_blind hev, ct_pre hev hP hK hD hS hA hE [] rfl (by decide) [] rfl⟩ rfl rfl hl.1 rfl (lv_room (Nat.le_of_ble_eq_true rfl)) d_Mod_rounded_225 ⟨Nat.le_of_ble_eq_true rfl, Nat.le_of_ble_eq_true rfl⟩) hP hD hS hA [] [0, 1, 2] rfl rfl (by decide) (by decide) (fun rv u H locs hw hP hD hS hK1 => ?_)
                    subst hw
                    have hP : va_P D vcl [(md, .inr (5, [.ref xx, .int ln, .long R, .int rd, .ref mm, .ref nn, .int at0, .int en0])), (mm, .inl (cM, 3000, .inl (rw16 (upR V 0 (V 0 * 2 + 0))))), (nn, .inl (cN, 3, .inl (rc (upR V 0 (V 0 * 2 + 0)))))] H := hP
                    have hD : va_D A [(md, .inr (5, [.ref xx, .int ln, .long R, .int rd, .ref mm, .ref nn, .int at0, .int en0])), (mm, .inl (cM, 3000, .inl (rw16 (upR V 0 (V 0 * 2 + 0))))), (nn, .inl (cN, 3, .inl (rc (upR V 0 (V 0 * 2 + 0)))))] := hD
                    refine lv_goto (tgt := 244) hx hb d_Mod_rounded_228 (by decide) ?_
                    exact rt_l hx hb hrt hlocks (()) (by rw [← hcc, ← hQ]; unfold moR; rw [if_neg (by omega), if_pos e162, if_pos (by omega), hwd]; exact kf_I i hi) (hP.sub [0, 1, 2] rfl) (hK.sub [0, 1] rfl) (hD.sub [0, 1, 2] (by decide) rfl) hS d_Mod_rounded_244
                · have e207 : i = 0 := by rw [← hwd]; exact if_neg c207
                  refine lv_ldc2 hx hb hown (hts _ kK_Mod_70) d_Mod_rounded_210 ?_
                  refine tv_l (lN (kZ i + 2)) (by rw [e207]; rfl) ?_
                  refine lv_goto (tgt := 219) hx hb d_Mod_rounded_213 (by decide) ?_
                  refine W.lcmp hx hb d_Mod_rounded_219 ?_
                  refine lv_if_lt (tgt := 231) hx hb d_Mod_rounded_220 (by decide) (fun c220 => ?_) (fun c220 => ?_)
                  · have e220 : j0 + c + 2 < kZ i + 2 := (pk_lLT (by omega) (by omega)).mp ((lg_cmp_lt _ _).mp c220)
                    refine lv_lload hx hb d_Mod_rounded_231 (lv_at hl 0 rfl) ?_
                    refine lv_iload hx hb d_Mod_rounded_233 (lv_at hl 7 rfl) ?_
                    refine lv_iconst (v := 1) hx hb d_Mod_rounded_235 (by decide) ?_
                    refine lv_isub hx hb d_Mod_rounded_236 ?_
                    refine tv_i (nI (kP i - 1)) (nI_dec (by omega)) ?_
                    refine lv_lshl (v := lN ((j0 + c + 2) * 2 ^ (kP i - 1))) hx hb d_Mod_rounded_237 (wb_shl _ (by omega)) ?_
                    refine lv_lload hx hb d_Mod_rounded_238 (lv_at hl 3 rfl) ?_
                    refine lv_lload hx hb d_Mod_rounded_240 (lv_at hl 1 rfl) ?_
                    refine lv_lsub hx hb d_Mod_rounded_242 ?_
                    refine lv_ladd hx hb d_Mod_rounded_243 ?_
                    refine tv_l (lN ((j0 + c) * 2 ^ (kP i - 1) + Q)) (by rw [lN_sub (Nat.le_refl _), lN_add]; exact congrArg lN (by rw [Nat.sub_self, e162, hpP, Nat.add_mul]; omega)) ?_
                    exact rt_l hx hb hrt hlocks (()) (by rw [← hcc, ← hQ]; unfold moR; rw [if_neg (by omega), if_pos e162, if_neg (by omega)]) (hP.sub [0, 1, 2] rfl) (hK.sub [0, 1] rfl) (hD.sub [0, 1, 2] (by decide) rfl) hS d_Mod_rounded_244
                  · have e220 : ¬ j0 + c + 2 < kZ i + 2 := fun z => c220 ((lg_cmp_lt _ _).mpr ((pk_lLT (by omega) (by omega)).mpr z))
                    refine lv_iload hx hb d_Mod_rounded_223 (lv_at hl 6 rfl) ?_
                    refine ca_l [(md, .inr (5, [.ref xx, .int ln, .long R, .int rd, .ref mm, .ref nn, .int at0, .int en0])), (mm, .inl (cM, 3000, .inl (rw16 (upR V 0 (V 0 * 2 + 0))))), (nn, .inl (cN, 3, .inl (rc (upR V 0 (V 0 * 2 + 0)))))] (va_runS (As := [.int wd]) (rest := []) ⟨hx, hb, hml, hown, hts⟩ (c_Mod_infinite l D E wd H.size) (xS 1 hts kC_Mod_infinite kM_Mod_46 kT_Mod_infinite kN_Mod rfl rfl (by decide +kernel) ⟨Nat.le_of_ble_eq_true rfl, Nat.le_of_ble_eq_true rfl⟩) ⟨ct_blind hev, ct_pre hev hP hK hD hS hA hE [] rfl (by decide) [] rfl⟩ rfl rfl hl.1 rfl (lv_room (Nat.le_of_ble_eq_true rfl)) d_Mod_rounded_225 ⟨Nat.le_of_ble_eq_true rfl, Nat.le_of_ble_eq_true rfl⟩) hP hD hS hA [] [0, 1, 2] rfl rfl (by decide) (by decide) (fun rv u H locs hw hP hD hS hK1 => ?_)
                    subst hw
                    have hP : va_P D vcl [(md, .inr (5, [.ref xx, .int ln, .long R, .int rd, .ref mm, .ref nn, .int at0, .int en0])), (mm, .inl (cM, 3000, .inl (rw16 (upR V 0 (V 0 * 2 + 0))))), (nn, .inl (cN, 3, .inl (rc (upR V 0 (V 0 * 2 + 0)))))] H := hP
                    have hD : va_D A [(md, .inr (5, [.ref xx, .int ln, .long R, .int rd, .ref mm, .ref nn, .int at0, .int en0])), (mm, .inl (cM, 3000, .inl (rw16 (upR V 0 (V 0 * 2 + 0))))), (nn, .inl (cN, 3, .inl (rc (upR V 0 (V 0 * 2 + 0)))))] := hD
                    refine lv_goto (tgt := 244) hx hb d_Mod_rounded_228 (by decide) ?_
                    exact rt_l hx hb hrt hlocks (()) (by rw [← hcc, ← hQ]; unfold moR; rw [if_neg (by omega), if_pos e162, if_pos (by omega), hwd]; exact kf_I i hi) (hP.sub [0, 1, 2] rfl) (hK.sub [0, 1] rfl) (hD.sub [0, 1, 2] (by decide) rfl) hS d_Mod_rounded_244
              · have e187 : ¬ 2 ^ (kP i - 1) ≤ 2 ^ (kP i - 1) := fun z => c187 ((lg_cmp_ge _ _).mpr ((pk_lLE (by omega) (by omega)).mpr z))
                refine lv_lload hx hb d_Mod_rounded_190 (lv_at hl 2 rfl) ?_
                exact rt_l hx hb hrt hlocks (()) (absurd (Nat.le_refl _) e187) (hP.sub [0, 1, 2] rfl) (hK.sub [0, 1] rfl) (hD.sub [0, 1, 2] (by decide) rfl) hS d_Mod_rounded_192
        · skip
          refine lv_iload hx hb d_Mod_rounded_118 (lv_at hl 6 rfl) ?_
          refine lv_if_ne (tgt := 136) hx hb d_Mod_rounded_120 (by decide) (fun c120 => ?_) (fun c120 => ?_)
          · have hqq : Q = q1 := hu2 (fun z => z.elim c115 (fun y => c120 y.1))
            refine lv_iconst (v := 0) hx hb d_Mod_rounded_136 (by decide) ?_
            refine lv_istore (lv' := [(12, .int 0), (0, .ref md), (4, .int wd), (5, .int (nI (kP i))), (6, .int (zI (-(kLw i : Int)))), (7, .long (lN q1)), (9, .int (zI ((j0 : Int) + c - kLw i))), (11, .int hf)]) hx hb d_Mod_rounded_137 hl (by decide) rfl (fun ls hl => ?_)
            refine lv_iload hx hb d_Mod_rounded_139 (lv_at hl 0 rfl) ?_
            refine lv_if_eq (tgt := 151) hx hb d_Mod_rounded_141 (by decide) (fun c141 => ?_) (fun c141 => ?_)
            · refine lv_lload hx hb d_Mod_rounded_151 (lv_at hl 5 rfl) ?_
              refine tv_l (lN Q) (by rw [hqq]) ?_
              refine lv_lstore (lv' := [(7, .long (lN Q)), (12, .int 0), (0, .ref md), (4, .int wd), (5, .int (nI (kP i))), (6, .int (zI (-(kLw i : Int)))), (9, .int (zI ((j0 : Int) + c - kLw i))), (11, .int hf)]) hx hb d_Mod_rounded_153 hl (by decide) rfl (fun ls hl => ?_)
              refine lv_lload hx hb d_Mod_rounded_155 (lv_at hl 0 rfl) ?_
              refine lv_lconst (v := 1) hx hb d_Mod_rounded_157 (by decide) ?_
              refine lv_iload hx hb d_Mod_rounded_158 (lv_at hl 4 rfl) ?_
              refine lv_lshl (v := lN (2 ^ kP i)) hx hb d_Mod_rounded_160 (shl1 (by omega)) ?_
              refine W.lcmp hx hb d_Mod_rounded_161 ?_
              refine lv_if_ne (tgt := 174) hx hb d_Mod_rounded_162 (by decide) (fun c162 => ?_) (fun c162 => ?_)
              · have e162 : Q ≠ 2 ^ kP i := fun z => c162 ((lg_cmp_eq _ _).mpr (by rw [z]))
                refine lv_lconst (v := 1) hx hb d_Mod_rounded_174 (by decide) ?_
                refine lv_iload hx hb d_Mod_rounded_175 (lv_at hl 4 rfl) ?_
                refine lv_iconst (v := 1) hx hb d_Mod_rounded_177 (by decide) ?_
                refine lv_isub hx hb d_Mod_rounded_178 ?_
                refine tv_i (nI (kP i - 1)) (nI_dec (by omega)) ?_
                refine lv_lshl (v := lN (2 ^ (kP i - 1))) hx hb d_Mod_rounded_179 (shl1 (by omega)) ?_
                refine lv_lstore (lv' := [(13, .long (lN (2 ^ (kP i - 1)))), (7, .long (lN Q)), (12, .int 0), (0, .ref md), (4, .int wd), (5, .int (nI (kP i))), (6, .int (zI (-(kLw i : Int)))), (9, .int (zI ((j0 : Int) + c - kLw i))), (11, .int hf)]) hx hb d_Mod_rounded_180 hl (by decide) rfl (fun ls hl => ?_)
                refine lv_lload hx hb d_Mod_rounded_182 (lv_at hl 1 rfl) ?_
                refine lv_lload hx hb d_Mod_rounded_184 (lv_at hl 0 rfl) ?_
                refine W.lcmp hx hb d_Mod_rounded_186 ?_
                refine lv_if_ge (tgt := 193) hx hb d_Mod_rounded_187 (by decide) (fun c187 => ?_) (fun c187 => ?_)
                · have e187 : 2 ^ (kP i - 1) ≤ Q := (pk_lLE (by omega) (by omega)).mp ((lg_cmp_ge _ _).mp c187)
                  refine lv_iload hx hb d_Mod_rounded_193 (lv_at hl 7 rfl) ?_
                  refine lv_iload hx hb d_Mod_rounded_195 (lv_at hl 6 rfl) ?_
                  refine lv_isub hx hb d_Mod_rounded_197 ?_
                  refine lv_iconst (v := 1) hx hb d_Mod_rounded_198 (by decide) ?_
                  refine lv_iadd hx hb d_Mod_rounded_199 ?_
                  refine tv_i (nI (j0 + c + 1)) (by show zI _ - zI _ + zI 1 = _; rw [zI_sub, zI_add, ← zI_nI]; exact congrArg zI (by omega)) ?_
                  refine lv_i2l (v := (nI (j0 + c + 1)).toInt64) hx hb d_Mod_rounded_200 (rfl) ?_
                  refine tv_l (lN (j0 + c + 1)) (nI_l (by omega)) ?_
                  refine lv_lstore (lv' := [(15, .long (lN (j0 + c + 1))), (13, .long (lN (2 ^ (kP i - 1)))), (7, .long (lN Q)), (12, .int 0), (0, .ref md), (4, .int wd), (5, .int (nI (kP i))), (6, .int (zI (-(kLw i : Int)))), (9, .int (zI ((j0 : Int) + c - kLw i))), (11, .int hf)]) hx hb d_Mod_rounded_201 hl (by decide) rfl (fun ls hl => ?_)
                  refine lv_lload hx hb d_Mod_rounded_203 (lv_at hl 0 rfl) ?_
                  refine lv_iload hx hb d_Mod_rounded_205 (lv_at hl 5 rfl) ?_
                  refine lv_if_eq (tgt := 216) hx hb d_Mod_rounded_207 (by decide) (fun c207 => ?_) (fun c207 => ?_)
                  · have e207 : i = 1 := by rw [← hwd]; exact if_pos c207
                    refine lv_ldc2 hx hb hown (hts _ kK_Mod_72) d_Mod_rounded_216 ?_
                    refine tv_l (lN (kZ i + 2)) (by rw [e207]; rfl) ?_
                    refine W.lcmp hx hb d_Mod_rounded_219 ?_
                    refine lv_if_lt (tgt := 231) hx hb d_Mod_rounded_220 (by decide) (fun c220 => ?_) (fun c220 => ?_)
                    · have e220 : j0 + c + 1 < kZ i + 2 := (pk_lLT (by omega) (by omega)).mp ((lg_cmp_lt _ _).mp c220)
                      refine lv_lload hx hb d_Mod_rounded_231 (lv_at hl 0 rfl) ?_
                      refine lv_iload hx hb d_Mod_rounded_233 (lv_at hl 6 rfl) ?_
                      refine lv_iconst (v := 1) hx hb d_Mod_rounded_235 (by decide) ?_
                      refine lv_isub hx hb d_Mod_rounded_236 ?_
                      refine tv_i (nI (kP i - 1)) (nI_dec (by omega)) ?_
                      refine lv_lshl (v := lN ((j0 + c + 1) * 2 ^ (kP i - 1))) hx hb d_Mod_rounded_237 (wb_shl _ (by omega)) ?_
                      refine lv_lload hx hb d_Mod_rounded_238 (lv_at hl 2 rfl) ?_
                      refine lv_lload hx hb d_Mod_rounded_240 (lv_at hl 1 rfl) ?_
                      refine lv_lsub hx hb d_Mod_rounded_242 ?_
                      refine lv_ladd hx hb d_Mod_rounded_243 ?_
                      refine tv_l (lN ((j0 + c) * 2 ^ (kP i - 1) + Q)) (by rw [lN_sub (by omega), lN_add]; exact congrArg lN (by rw [Nat.add_mul, Nat.one_mul]; omega)) ?_
                      exact rt_l hx hb hrt hlocks (()) (by rw [← hcc, ← hQ]; unfold moR; rw [if_neg (by omega), if_neg e162, if_neg (by omega)]) (hP.sub [0, 1, 2] rfl) (hK.sub [0, 1] rfl) (hD.sub [0, 1, 2] (by decide) rfl) hS d_Mod_rounded_244
                    · have e220 : ¬ j0 + c + 1 < kZ i + 2 := fun z => c220 ((lg_cmp_lt _ _).mpr ((pk_lLT (by omega) (by omega)).mpr z))
                      refine lv_iload hx hb d_Mod_rounded_223 (lv_at hl 5 rfl) ?_
                      refine ca_l [(md, .inr (5, [.ref xx, .int ln, .long R, .int rd, .ref mm, .ref nn, .int at0, .int en0])), (mm, .inl (cM, 3000, .inl (rw16 (upR V 0 (V 0 * 2 + 0))))), (nn, .inl (cN, 3, .inl (rc (upR V 0 (V 0 * 2 + 0)))))] (va_runS (As := [.int wd]) (rest := []) ⟨hx, hb, hml, hown, hts⟩ (c_Mod_infinite l D E wd H.size) (xS 1 hts kC_Mod_infinite kM_Mod_46 kT_Mod_infinite kN_Mod rfl rfl (by decide +kernel) ⟨Nat.le_of_ble_eq_true rfl, Nat.le_of_ble_eq_true rfl⟩) ⟨ct_blind hev, ct_pre hev hP hK hD hS hA hE [] rfl (by decide) [] rfl⟩ rfl rfl hl.1 rfl (lv_room (Nat.le_of_ble_eq_true rfl)) d_Mod_rounded_225 ⟨Nat.le_of_ble_eq_true rfl, Nat.le_of_ble_eq_true rfl⟩) hP hD hS hA [] [0, 1, 2] rfl rfl (by decide) (by decide) (fun rv u H locs hw hP hD hS hK1 => ?_)
                      subst hw
                      have hP : va_P D vcl [(md, .inr (5, [.ref xx, .int ln, .long R, .int rd, .ref mm, .ref nn, .int at0, .int en0])), (mm, .inl (cM, 3000, .inl (rw16 (upR V 0 (V 0 * 2 + 0))))), (nn, .inl (cN, 3, .inl (rc (upR V 0 (V 0 * 2 + 0)))))] H := hP
                      have hD : va_D A [(md, .inr (5, [.ref xx, .int ln, .long R, .int rd, .ref mm, .ref nn, .int at0, .int en0])), (mm, .inl (cM, 3000, .inl (rw16 (upR V 0 (V 0 * 2 + 0))))), (nn, .inl (cN, 3, .inl (rc (upR V 0 (V 0 * 2 + 0)))))] := hD
                      refine lv_goto (tgt := 244) hx hb d_Mod_rounded_228 (by decide) ?_
                      exact rt_l hx hb hrt hlocks (()) (by rw [← hcc, ← hQ]; unfold moR; rw [if_neg (by omega), if_neg e162, if_pos (by omega), hwd]; exact kf_I i hi) (hP.sub [0, 1, 2] rfl) (hK.sub [0, 1] rfl) (hD.sub [0, 1, 2] (by decide) rfl) hS d_Mod_rounded_244
                  · have e207 : i = 0 := by rw [← hwd]; exact if_neg c207
                    refine lv_ldc2 hx hb hown (hts _ kK_Mod_70) d_Mod_rounded_210 ?_
                    refine tv_l (lN (kZ i + 2)) (by rw [e207]; rfl) ?_
                    refine lv_goto (tgt := 219) hx hb d_Mod_rounded_213 (by decide) ?_
                    refine W.lcmp hx hb d_Mod_rounded_219 ?_
                    refine lv_if_lt (tgt := 231) hx hb d_Mod_rounded_220 (by decide) (fun c220 => ?_) (fun c220 => ?_)
                    · have e220 : j0 + c + 1 < kZ i + 2 := (pk_lLT (by omega) (by omega)).mp ((lg_cmp_lt _ _).mp c220)
                      refine lv_lload hx hb d_Mod_rounded_231 (lv_at hl 0 rfl) ?_
                      refine lv_iload hx hb d_Mod_rounded_233 (lv_at hl 6 rfl) ?_
                      refine lv_iconst (v := 1) hx hb d_Mod_rounded_235 (by decide) ?_
                      refine lv_isub hx hb d_Mod_rounded_236 ?_
                      refine tv_i (nI (kP i - 1)) (nI_dec (by omega)) ?_
                      refine lv_lshl (v := lN ((j0 + c + 1) * 2 ^ (kP i - 1))) hx hb d_Mod_rounded_237 (wb_shl _ (by omega)) ?_
                      refine lv_lload hx hb d_Mod_rounded_238 (lv_at hl 2 rfl) ?_
                      refine lv_lload hx hb d_Mod_rounded_240 (lv_at hl 1 rfl) ?_
                      refine lv_lsub hx hb d_Mod_rounded_242 ?_
                      refine lv_ladd hx hb d_Mod_rounded_243 ?_
                      refine tv_l (lN ((j0 + c) * 2 ^ (kP i - 1) + Q)) (by rw [lN_sub (by omega), lN_add]; exact congrArg lN (by rw [Nat.add_mul, Nat.one_mul]; omega)) ?_
                      exact rt_l hx hb hrt hlocks (()) (by rw [← hcc, ← hQ]; unfold moR; rw [if_neg (by omega), if_neg e162, if_neg (by omega)]) (hP.sub [0, 1, 2] rfl) (hK.sub [0, 1] rfl) (hD.sub [0, 1, 2] (by decide) rfl) hS d_Mod_rounded_244
                    · have e220 : ¬ j0 + c + 1 < kZ i + 2 := fun z => c220 ((lg_cmp_lt _ _).mpr ((pk_lLT (by omega) (by omega)).mpr z))
                      refine lv_iload hx hb d_Mod_rounded_223 (lv_at hl 5 rfl) ?_
                      refine ca_l [(md, .inr (5, [.ref xx, .int ln, .long R, .int rd, .ref mm, .ref nn, .int at0, .int en0])), (mm, .inl (cM, 3000, .inl (rw16 (upR V 0 (V 0 * 2 + 0))))), (nn, .inl (cN, 3, .inl (rc (upR V 0 (V 0 * 2 + 0)))))] (va_runS (As := [.int wd]) (rest := []) ⟨hx, hb, hml, hown, hts⟩ (c_Mod_infinite l D E wd H.size) (xS 1 hts kC_Mod_infinite kM_Mod_46 kT_Mod_infinite kN_Mod rfl rfl (by decide +kernel) ⟨Nat.le_of_ble_eq_true rfl, Nat.le_of_ble_eq_true rfl⟩) ⟨ct_blind hev, ct_pre hev hP hK hD hS hA hE [] rfl (by decide) [] rfl⟩ rfl rfl hl.1 rfl (lv_room (Nat.le_of_ble_eq_true rfl)) d_Mod_rounded_225 ⟨Nat.le_of_ble_eq_true rfl, Nat.le_of_ble_eq_true rfl⟩) hP hD hS hA [] [0, 1, 2] rfl rfl (by decide) (by decide) (fun rv u H locs hw hP hD hS hK1 => ?_)
                      subst hw
                      have hP : va_P D vcl [(md, .inr (5, [.ref xx, .int ln, .long R, .int rd, .ref mm, .ref nn, .int at0, .int en0])), (mm, .inl (cM, 3000, .inl (rw16 (upR V 0 (V 0 * 2 + 0))))), (nn, .inl (cN, 3, .inl (rc (upR V 0 (V 0 * 2 + 0)))))] H := hP
                      have hD : va_D A [(md, .inr (5, [.ref xx, .int ln, .long R, .int rd, .ref mm, .ref nn, .int at0, .int en0])), (mm, .inl (cM, 3000, .inl (rw16 (upR V 0 (V 0 * 2 + 0))))), (nn, .inl (cN, 3, .inl (rc (upR V 0 (V 0 * 2 + 0)))))] := hD
                      refine lv_goto (tgt := 244) hx hb d_Mod_rounded_228 (by decide) ?_
                      exact rt_l hx hb hrt hlocks (()) (by rw [← hcc, ← hQ]; unfold moR; rw [if_neg (by omega), if_neg e162, if_pos (by omega), hwd]; exact kf_I i hi) (hP.sub [0, 1, 2] rfl) (hK.sub [0, 1] rfl) (hD.sub [0, 1, 2] (by decide) rfl) hS d_Mod_rounded_244
                · have e187 : ¬ 2 ^ (kP i - 1) ≤ Q := fun z => c187 ((lg_cmp_ge _ _).mpr ((pk_lLE (by omega) (by omega)).mpr z))
                  refine lv_lload hx hb d_Mod_rounded_190 (lv_at hl 1 rfl) ?_
                  exact rt_l hx hb hrt hlocks (()) (by rw [← hcc, ← hQ]; unfold moR; rw [if_pos (by omega)]) (hP.sub [0, 1, 2] rfl) (hK.sub [0, 1] rfl) (hD.sub [0, 1, 2] (by decide) rfl) hS d_Mod_rounded_192
              · have e162 : Q = 2 ^ kP i := (pk_lEQ (by omega) (by omega)).mp ((lg_cmp_eq _ _).mp c162)
                refine lv_lload hx hb d_Mod_rounded_165 (lv_at hl 0 rfl) ?_
                refine lv_iconst (v := 1) hx hb d_Mod_rounded_167 (by decide) ?_
                refine lv_lshr (v := lN (2 ^ (kP i - 1))) hx hb d_Mod_rounded_168 (by rw [e162, sar1 (by omega)]; exact congrArg lN (by omega)) ?_
                refine lv_lstore (lv' := [(7, .long (lN (2 ^ (kP i - 1)))), (12, .int 0), (0, .ref md), (4, .int wd), (5, .int (nI (kP i))), (6, .int (zI (-(kLw i : Int)))), (9, .int (zI ((j0 : Int) + c - kLw i))), (11, .int hf)]) hx hb d_Mod_rounded_169 hl (by decide) rfl (fun ls hl => ?_)
                refine lv_iinc (v := zI ((j0 : Int) + c + 1 - kLw i)) (lv' := [(9, .int (zI ((j0 : Int) + c + 1 - kLw i))), (7, .long (lN (2 ^ (kP i - 1)))), (12, .int 0), (0, .ref md), (4, .int wd), (5, .int (nI (kP i))), (6, .int (zI (-(kLw i : Int)))), (11, .int hf)]) hx hb d_Mod_rounded_171 hl (k := 6) rfl (by show zI _ + zI 1 = _; rw [zI_add]; exact congrArg zI (by omega)) (by decide) rfl (fun ls hl => ?_)
                refine lv_lconst (v := 1) hx hb d_Mod_rounded_174 (by decide) ?_
                refine lv_iload hx hb d_Mod_rounded_175 (lv_at hl 5 rfl) ?_
                refine lv_iconst (v := 1) hx hb d_Mod_rounded_177 (by decide) ?_
                refine lv_isub hx hb d_Mod_rounded_178 ?_
                refine tv_i (nI (kP i - 1)) (nI_dec (by omega)) ?_
                refine lv_lshl (v := lN (2 ^ (kP i - 1))) hx hb d_Mod_rounded_179 (shl1 (by omega)) ?_
                refine lv_lstore (lv' := [(13, .long (lN (2 ^ (kP i - 1)))), (9, .int (zI ((j0 : Int) + c + 1 - kLw i))), (7, .long (lN (2 ^ (kP i - 1)))), (12, .int 0), (0, .ref md), (4, .int wd), (5, .int (nI (kP i))), (6, .int (zI (-(kLw i : Int)))), (11, .int hf)]) hx hb d_Mod_rounded_180 hl (by decide) rfl (fun ls hl => ?_)
                refine lv_lload hx hb d_Mod_rounded_182 (lv_at hl 2 rfl) ?_
                refine lv_lload hx hb d_Mod_rounded_184 (lv_at hl 0 rfl) ?_
                refine W.lcmp hx hb d_Mod_rounded_186 ?_
                refine lv_if_ge (tgt := 193) hx hb d_Mod_rounded_187 (by decide) (fun c187 => ?_) (fun c187 => ?_)
                · have e187 : 2 ^ (kP i - 1) ≤ 2 ^ (kP i - 1) := (pk_lLE (by omega) (by omega)).mp ((lg_cmp_ge _ _).mp c187)
                  refine lv_iload hx hb d_Mod_rounded_193 (lv_at hl 1 rfl) ?_
                  refine lv_iload hx hb d_Mod_rounded_195 (lv_at hl 7 rfl) ?_
                  refine lv_isub hx hb d_Mod_rounded_197 ?_
                  refine lv_iconst (v := 1) hx hb d_Mod_rounded_198 (by decide) ?_
                  refine lv_iadd hx hb d_Mod_rounded_199 ?_
                  refine tv_i (nI (j0 + c + 2)) (by show zI _ - zI _ + zI 1 = _; rw [zI_sub, zI_add, ← zI_nI]; exact congrArg zI (by omega)) ?_
                  refine lv_i2l (v := (nI (j0 + c + 2)).toInt64) hx hb d_Mod_rounded_200 (rfl) ?_
                  refine tv_l (lN (j0 + c + 2)) (nI_l (by omega)) ?_
                  refine lv_lstore (lv' := [(15, .long (lN (j0 + c + 2))), (13, .long (lN (2 ^ (kP i - 1)))), (9, .int (zI ((j0 : Int) + c + 1 - kLw i))), (7, .long (lN (2 ^ (kP i - 1)))), (12, .int 0), (0, .ref md), (4, .int wd), (5, .int (nI (kP i))), (6, .int (zI (-(kLw i : Int)))), (11, .int hf)]) hx hb d_Mod_rounded_201 hl (by decide) rfl (fun ls hl => ?_)
                  refine lv_lload hx hb d_Mod_rounded_203 (lv_at hl 0 rfl) ?_
                  refine lv_iload hx hb d_Mod_rounded_205 (lv_at hl 6 rfl) ?_
                  refine lv_if_eq (tgt := 216) hx hb d_Mod_rounded_207 (by decide) (fun c207 => ?_) (fun c207 => ?_)
                  · have e207 : i = 1 := by rw [← hwd]; exact if_pos c207
                    refine lv_ldc2 hx hb hown (hts _ kK_Mod_72) d_Mod_rounded_216 ?_
                    refine tv_l (lN (kZ i + 2)) (by rw [e207]; rfl) ?_
                    refine W.lcmp hx hb d_Mod_rounded_219 ?_
                    refine lv_if_lt (tgt := 231) hx hb d_Mod_rounded_220 (by decide) (fun c220 => ?_) (fun c220 => ?_)
                    · have e220 : j0 + c + 2 < kZ i + 2 := (pk_lLT (by omega) (by omega)).mp ((lg_cmp_lt _ _).mp c220)
                      refine lv_lload hx hb d_Mod_rounded_231 (lv_at hl 0 rfl) ?_
                      refine lv_iload hx hb d_Mod_rounded_233 (lv_at hl 7 rfl) ?_
                      refine lv_iconst (v := 1) hx hb d_Mod_rounded_235 (by decide) ?_
                      refine lv_isub hx hb d_Mod_rounded_236 ?_
                      refine tv_i (nI (kP i - 1)) (nI_dec (by omega)) ?_
                      refine lv_lshl (v := lN ((j0 + c + 2) * 2 ^ (kP i - 1))) hx hb d_Mod_rounded_237 (wb_shl _ (by omega)) ?_
                      refine lv_lload hx hb d_Mod_rounded_238 (lv_at hl 3 rfl) ?_
                      refine lv_lload hx hb d_Mod_rounded_240 (lv_at hl 1 rfl) ?_
                      refine lv_lsub hx hb d_Mod_rounded_242 ?_
                      refine lv_ladd hx hb d_Mod_rounded_243 ?_
                      refine tv_l (lN ((j0 + c) * 2 ^ (kP i - 1) + Q)) (by rw [lN_sub (Nat.le_refl _), lN_add]; exact congrArg lN (by rw [Nat.sub_self, e162, hpP, Nat.add_mul]; omega)) ?_
                      exact rt_l hx hb hrt hlocks (()) (by rw [← hcc, ← hQ]; unfold moR; rw [if_neg (by omega), if_pos e162, if_neg (by omega)]) (hP.sub [0, 1, 2] rfl) (hK.sub [0, 1] rfl) (hD.sub [0, 1, 2] (by decide) rfl) hS d_Mod_rounded_244
                    · have e220 : ¬ j0 + c + 2 < kZ i + 2 := fun z => c220 ((lg_cmp_lt _ _).mpr ((pk_lLT (by omega) (by omega)).mpr z))
                      refine lv_iload hx hb d_Mod_rounded_223 (lv_at hl 6 rfl) ?_
                      refine ca_l [(md, .inr (5, [.ref xx, .int ln, .long R, .int rd, .ref mm, .ref nn, .int at0, .int en0])), (mm, .inl (cM, 3000, .inl (rw16 (upR V 0 (V 0 * 2 + 0))))), (nn, .inl (cN, 3, .inl (rc (upR V 0 (V 0 * 2 + 0)))))] (va_runS (As := [.int wd]) (rest := []) ⟨hx, hb, hml, hown, hts⟩ (c_Mod_infinite l D E wd H.size) (xS 1 hts kC_Mod_infinite kM_Mod_46 kT_Mod_infinite kN_Mod rfl rfl (by decide +kernel) ⟨Nat.le_of_ble_eq_true rfl, Nat.le_of_ble_eq_true rfl⟩) ⟨ct_blind hev, ct_pre hev hP hK hD hS hA hE [] rfl (by decide) [] rfl⟩ rfl rfl hl.1 rfl (lv_room (Nat.le_of_ble_eq_true rfl)) d_Mod_rounded_225 ⟨Nat.le_of_ble_eq_true rfl, Nat.le_of_ble_eq_true rfl⟩) hP hD hS hA [] [0, 1, 2] rfl rfl (by decide) (by decide) (fun rv u H locs hw hP hD hS hK1 => ?_)
                      subst hw
                      have hP : va_P D vcl [(md, .inr (5, [.ref xx, .int ln, .long R, .int rd, .ref mm, .ref nn, .int at0, .int en0])), (mm, .inl (cM, 3000, .inl (rw16 (upR V 0 (V 0 * 2 + 0))))), (nn, .inl (cN, 3, .inl (rc (upR V 0 (V 0 * 2 + 0)))))] H := hP
                      have hD : va_D A [(md, .inr (5, [.ref xx, .int ln, .long R, .int rd, .ref mm, .ref nn, .int at0, .int en0])), (mm, .inl (cM, 3000, .inl (rw16 (upR V 0 (V 0 * 2 + 0))))), (nn, .inl (cN, 3, .inl (rc (upR V 0 (V 0 * 2 + 0)))))] := hD
                      refine lv_goto (tgt := 244) hx hb d_Mod_rounded_228 (by decide) ?_
                      exact rt_l hx hb hrt hlocks (()) (by rw [← hcc, ← hQ]; unfold moR; rw [if_neg (by omega), if_pos e162, if_pos (by omega), hwd]; exact kf_I i hi) (hP.sub [0, 1, 2] rfl) (hK.sub [0, 1] rfl) (hD.sub [0, 1, 2] (by decide) rfl) hS d_Mod_rounded_244
                  · have e207 : i = 0 := by rw [← hwd]; exact if_neg c207
                    refine lv_ldc2 hx hb hown (hts _ kK_Mod_70) d_Mod_rounded_210 ?_
                    refine tv_l (lN (kZ i + 2)) (by rw [e207]; rfl) ?_
                    refine lv_goto (tgt := 219) hx hb d_Mod_rounded_213 (by decide) ?_
                    refine W.lcmp hx hb d_Mod_rounded_219 ?_
                    refine lv_if_lt (tgt := 231) hx hb d_Mod_rounded_220 (by decide) (fun c220 => ?_) (fun c220 => ?_)
                    · have e220 : j0 + c + 2 < kZ i + 2 := (pk_lLT (by omega) (by omega)).mp ((lg_cmp_lt _ _).mp c220)
                      refine lv_lload hx hb d_Mod_rounded_231 (lv_at hl 0 rfl) ?_
                      refine lv_iload hx hb d_Mod_rounded_233 (lv_at hl 7 rfl) ?_
                      refine lv_iconst (v := 1) hx hb d_Mod_rounded_235 (by decide) ?_
                      refine lv_isub hx hb d_Mod_rounded_236 ?_
                      refine tv_i (nI (kP i - 1)) (nI_dec (by omega)) ?_
                      refine lv_lshl (v := lN ((j0 + c + 2) * 2 ^ (kP i - 1))) hx hb d_Mod_rounded_237 (wb_shl _ (by omega)) ?_
                      refine lv_lload hx hb d_Mod_rounded_238 (lv_at hl 3 rfl) ?_
                      refine lv_lload hx hb d_Mod_rounded_240 (lv_at hl 1 rfl) ?_
                      refine lv_lsub hx hb d_Mod_rounded_242 ?_
                      refine lv_ladd hx hb d_Mod_rounded_243 ?_
                      refine tv_l (lN ((j0 + c) * 2 ^ (kP i - 1) + Q)) (by rw [lN_sub (Nat.le_refl _), lN_add]; exact congrArg lN (by rw [Nat.sub_self, e162, hpP, Nat.add_mul]; omega)) ?_
                      exact rt_l hx hb hrt hlocks (()) (by rw [← hcc, ← hQ]; unfold moR; rw [if_neg (by omega), if_pos e162, if_neg (by omega)]) (hP.sub [0, 1, 2] rfl) (hK.sub [0, 1] rfl) (hD.sub [0, 1, 2] (by decide) rfl) hS d_Mod_rounded_244
                    · have e220 : ¬ j0 + c + 2 < kZ i + 2 := fun z => c220 ((lg_cmp_lt _ _).mpr ((pk_lLT (by omega) (by omega)).mpr z))
                      refine lv_iload hx hb d_Mod_rounded_223 (lv_at hl 6 rfl) ?_
                      refine ca_l [(md, .inr (5, [.ref xx, .int ln, .long R, .int rd, .ref mm, .ref nn, .int at0, .int en0])), (mm, .inl (cM, 3000, .inl (rw16 (upR V 0 (V 0 * 2 + 0))))), (nn, .inl (cN, 3, .inl (rc (upR V 0 (V 0 * 2 + 0)))))] (va_runS (As := [.int wd]) (rest := []) ⟨hx, hb, hml, hown, hts⟩ (c_Mod_infinite l D E wd H.size) (xS 1 hts kC_Mod_infinite kM_Mod_46 kT_Mod_infinite kN_Mod rfl rfl (by decide +kernel) ⟨Nat.le_of_ble_eq_true rfl, Nat.le_of_ble_eq_true rfl⟩) ⟨ct_blind hev, ct_pre hev hP hK hD hS hA hE [] rfl (by decide) [] rfl⟩ rfl rfl hl.1 rfl (lv_room (Nat.le_of_ble_eq_true rfl)) d_Mod_rounded_225 ⟨Nat.le_of_ble_eq_true rfl, Nat.le_of_ble_eq_true rfl⟩) hP hD hS hA [] [0, 1, 2] rfl rfl (by decide) (by decide) (fun rv u H locs hw hP hD hS hK1 => ?_)
                      subst hw
                      have hP : va_P D vcl [(md, .inr (5, [.ref xx, .int ln, .long R, .int rd, .ref mm, .ref nn, .int at0, .int en0])), (mm, .inl (cM, 3000, .inl (rw16 (upR V 0 (V 0 * 2 + 0))))), (nn, .inl (cN, 3, .inl (rc (upR V 0 (V 0 * 2 + 0)))))] H := hP
                      have hD : va_D A [(md, .inr (5, [.ref xx, .int ln, .long R, .int rd, .ref mm, .ref nn, .int at0, .int en0])), (mm, .inl (cM, 3000, .inl (rw16 (upR V 0 (V 0 * 2 + 0))))), (nn, .inl (cN, 3, .inl (rc (upR V 0 (V 0 * 2 + 0)))))] := hD
                      refine lv_goto (tgt := 244) hx hb d_Mod_rounded_228 (by decide) ?_
                      exact rt_l hx hb hrt hlocks (()) (by rw [← hcc, ← hQ]; unfold moR; rw [if_neg (by omega), if_pos e162, if_pos (by omega), hwd]; exact kf_I i hi) (hP.sub [0, 1, 2] rfl) (hK.sub [0, 1] rfl) (hD.sub [0, 1, 2] (by decide) rfl) hS d_Mod_rounded_244
                · have e187 : ¬ 2 ^ (kP i - 1) ≤ 2 ^ (kP i - 1) := fun z => c187 ((lg_cmp_ge _ _).mpr ((pk_lLE (by omega) (by omega)).mpr z))
                  refine lv_lload hx hb d_Mod_rounded_190 (lv_at hl 2 rfl) ?_
                  exact rt_l hx hb hrt hlocks (()) (absurd (Nat.le_refl _) e187) (hP.sub [0, 1, 2] rfl) (hK.sub [0, 1] rfl) (hD.sub [0, 1, 2] (by decide) rfl) hS d_Mod_rounded_192
            · exact absurd rfl c141
          · skip
            refine lv_lload hx hb d_Mod_rounded_123 (lv_at hl 4 rfl) ?_
            refine lv_lconst (v := 1) hx hb d_Mod_rounded_125 (by decide) ?_
            refine lv_land hx hb d_Mod_rounded_126 ?_
            refine tv_l (lN (q1 % 2)) (wb_a1 (by omega)) ?_
            refine lv_lconst (v := 1) hx hb d_Mod_rounded_127 (by decide) ?_
            refine W.lcmp hx hb d_Mod_rounded_128 ?_
            refine lv_if_ne (tgt := 136) hx hb d_Mod_rounded_129 (by decide) (fun c129 => ?_) (fun c129 => ?_)
            · have hqq : Q = q1 := hu2 (fun z => z.elim c115 (fun y => c129 ((lg_cmp_eq _ _).mpr (by rw [y.2]; rfl))))
              refine lv_iconst (v := 0) hx hb d_Mod_rounded_136 (by decide) ?_
              refine lv_istore (lv' := [(12, .int 0), (0, .ref md), (4, .int wd), (5, .int (nI (kP i))), (6, .int (zI (-(kLw i : Int)))), (7, .long (lN q1)), (9, .int (zI ((j0 : Int) + c - kLw i))), (11, .int hf)]) hx hb d_Mod_rounded_137 hl (by decide) rfl (fun ls hl => ?_)
              refine lv_iload hx hb d_Mod_rounded_139 (lv_at hl 0 rfl) ?_
              refine lv_if_eq (tgt := 151) hx hb d_Mod_rounded_141 (by decide) (fun c141 => ?_) (fun c141 => ?_)
              · refine lv_lload hx hb d_Mod_rounded_151 (lv_at hl 5 rfl) ?_
                refine tv_l (lN Q) (by rw [hqq]) ?_
                refine lv_lstore (lv' := [(7, .long (lN Q)), (12, .int 0), (0, .ref md), (4, .int wd), (5, .int (nI (kP i))), (6, .int (zI (-(kLw i : Int)))), (9, .int (zI ((j0 : Int) + c - kLw i))), (11, .int hf)]) hx hb d_Mod_rounded_153 hl (by decide) rfl (fun ls hl => ?_)
                refine lv_lload hx hb d_Mod_rounded_155 (lv_at hl 0 rfl) ?_
                refine lv_lconst (v := 1) hx hb d_Mod_rounded_157 (by decide) ?_
                refine lv_iload hx hb d_Mod_rounded_158 (lv_at hl 4 rfl) ?_
                refine lv_lshl (v := lN (2 ^ kP i)) hx hb d_Mod_rounded_160 (shl1 (by omega)) ?_
                refine W.lcmp hx hb d_Mod_rounded_161 ?_
                refine lv_if_ne (tgt := 174) hx hb d_Mod_rounded_162 (by decide) (fun c162 => ?_) (fun c162 => ?_)
                · have e162 : Q ≠ 2 ^ kP i := fun z => c162 ((lg_cmp_eq _ _).mpr (by rw [z]))
                  refine lv_lconst (v := 1) hx hb d_Mod_rounded_174 (by decide) ?_
                  refine lv_iload hx hb d_Mod_rounded_175 (lv_at hl 4 rfl) ?_
                  refine lv_iconst (v := 1) hx hb d_Mod_rounded_177 (by decide) ?_
                  refine lv_isub hx hb d_Mod_rounded_178 ?_
                  refine tv_i (nI (kP i - 1)) (nI_dec (by omega)) ?_
                  refine lv_lshl (v := lN (2 ^ (kP i - 1))) hx hb d_Mod_rounded_179 (shl1 (by omega)) ?_
                  refine lv_lstore (lv' := [(13, .long (lN (2 ^ (kP i - 1)))), (7, .long (lN Q)), (12, .int 0), (0, .ref md), (4, .int wd), (5, .int (nI (kP i))), (6, .int (zI (-(kLw i : Int)))), (9, .int (zI ((j0 : Int) + c - kLw i))), (11, .int hf)]) hx hb d_Mod_rounded_180 hl (by decide) rfl (fun ls hl => ?_)
                  refine lv_lload hx hb d_Mod_rounded_182 (lv_at hl 1 rfl) ?_
                  refine lv_lload hx hb d_Mod_rounded_184 (lv_at hl 0 rfl) ?_
                  refine W.lcmp hx hb d_Mod_rounded_186 ?_
                  refine lv_if_ge (tgt := 193) hx hb d_Mod_rounded_187 (by decide) (fun c187 => ?_) (fun c187 => ?_)
                  · have e187 : 2 ^ (kP i - 1) ≤ Q := (pk_lLE (by omega) (by omega)).mp ((lg_cmp_ge _ _).mp c187)
                    refine lv_iload hx hb d_Mod_rounded_193 (lv_at hl 7 rfl) ?_
                    refine lv_iload hx hb d_Mod_rounded_195 (lv_at hl 6 rfl) ?_
                    refine lv_isub hx hb d_Mod_rounded_197 ?_
                    refine lv_iconst (v := 1) hx hb d_Mod_rounded_198 (by decide) ?_
                    refine lv_iadd hx hb d_Mod_rounded_199 ?_
                    refine tv_i (nI (j0 + c + 1)) (by show zI _ - zI _ + zI 1 = _; rw [zI_sub, zI_add, ← zI_nI]; exact congrArg zI (by omega)) ?_
                    refine lv_i2l (v := (nI (j0 + c + 1)).toInt64) hx hb d_Mod_rounded_200 (rfl) ?_
                    refine tv_l (lN (j0 + c + 1)) (nI_l (by omega)) ?_
                    refine lv_lstore (lv' := [(15, .long (lN (j0 + c + 1))), (13, .long (lN (2 ^ (kP i - 1)))), (7, .long (lN Q)), (12, .int 0), (0, .ref md), (4, .int wd), (5, .int (nI (kP i))), (6, .int (zI (-(kLw i : Int)))), (9, .int (zI ((j0 : Int) + c - kLw i))), (11, .int hf)]) hx hb d_Mod_rounded_201 hl (by decide) rfl (fun ls hl => ?_)
                    refine lv_lload hx hb d_Mod_rounded_203 (lv_at hl 0 rfl) ?_
                    refine lv_iload hx hb d_Mod_rounded_205 (lv_at hl 5 rfl) ?_
                    refine lv_if_eq (tgt := 216) hx hb d_Mod_rounded_207 (by decide) (fun c207 => ?_) (fun c207 => ?_)
                    · have e207 : i = 1 := by rw [← hwd]; exact if_pos c207
                      refine lv_ldc2 hx hb hown (hts _ kK_Mod_72) d_Mod_rounded_216 ?_
                      refine tv_l (lN (kZ i + 2)) (by rw [e207]; rfl) ?_
                      refine W.lcmp hx hb d_Mod_rounded_219 ?_
                      refine lv_if_lt (tgt := 231) hx hb d_Mod_rounded_220 (by decide) (fun c220 => ?_) (fun c220 => ?_)
                      · have e220 : j0 + c + 1 < kZ i + 2 := (pk_lLT (by omega) (by omega)).mp ((lg_cmp_lt _ _).mp c220)
                        refine lv_lload hx hb d_Mod_rounded_231 (lv_at hl 0 rfl) ?_
                        refine lv_iload hx hb d_Mod_rounded_233 (lv_at hl 6 rfl) ?_
                        refine lv_iconst (v := 1) hx hb d_Mod_rounded_235 (by decide) ?_
                        refine lv_isub hx hb d_Mod_rounded_236 ?_
                        refine tv_i (nI (kP i - 1)) (nI_dec (by omega)) ?_
                        refine lv_lshl (v := lN ((j0 + c + 1) * 2 ^ (kP i - 1))) hx hb d_Mod_rounded_237 (wb_shl _ (by omega)) ?_
                        refine lv_lload hx hb d_Mod_rounded_238 (lv_at hl 2 rfl) ?_
                        refine lv_lload hx hb d_Mod_rounded_240 (lv_at hl 1 rfl) ?_
                        refine lv_lsub hx hb d_Mod_rounded_242 ?_
                        refine lv_ladd hx hb d_Mod_rounded_243 ?_
                        refine tv_l (lN ((j0 + c) * 2 ^ (kP i - 1) + Q)) (by rw [lN_sub (by omega), lN_add]; exact congrArg lN (by rw [Nat.add_mul, Nat.one_mul]; omega)) ?_
                        exact rt_l hx hb hrt hlocks (()) (by rw [← hcc, ← hQ]; unfold moR; rw [if_neg (by omega), if_neg e162, if_neg (by omega)]) (hP.sub [0, 1, 2] rfl) (hK.sub [0, 1] rfl) (hD.sub [0, 1, 2] (by decide) rfl) hS d_Mod_rounded_244
                      · have e220 : ¬ j0 + c + 1 < kZ i + 2 := fun z => c220 ((lg_cmp_lt _ _).mpr ((pk_lLT (by omega) (by omega)).mpr z))
                        refine lv_iload hx hb d_Mod_rounded_223 (lv_at hl 5 rfl) ?_
                        refine ca_l [(md, .inr (5, [.ref xx, .int ln, .long R, .int rd, .ref mm, .ref nn, .int at0, .int en0])), (mm, .inl (cM, 3000, .inl (rw16 (upR V 0 (V 0 * 2 + 0))))), (nn, .inl (cN, 3, .inl (rc (upR V 0 (V 0 * 2 + 0)))))] (va_runS (As := [.int wd]) (rest := []) ⟨hx, hb, hml, hown, hts⟩ (c_Mod_infinite l D E wd H.size) (xS 1 hts kC_Mod_infinite kM_Mod_46 kT_Mod_infinite kN_Mod rfl rfl (by decide +kernel) ⟨Nat.le_of_ble_eq_true rfl, Nat.le_of_ble_eq_true rfl⟩) ⟨ct_blind hev, ct_pre hev hP hK hD hS hA hE [] rfl (by decide) [] rfl⟩ rfl rfl hl.1 rfl (lv_room (Nat.le_of_ble_eq_true rfl)) d_Mod_rounded_225 ⟨Nat.le_of_ble_eq_true rfl, Nat.le_of_ble_eq_true rfl⟩) hP hD hS hA [] [0, 1, 2] rfl rfl (by decide) (by decide) (fun rv u H locs hw hP hD hS hK1 => ?_)
                        subst hw
                        have hP : va_P D vcl [(md, .inr (5, [.ref xx, .int ln, .long R, .int rd, .ref mm, .ref nn, .int at0, .int en0])), (mm, .inl (cM, 3000, .inl (rw16 (upR V 0 (V 0 * 2 + 0))))), (nn, .inl (cN, 3, .inl (rc (upR V 0 (V 0 * 2 + 0)))))] H := hP
                        have hD : va_D A [(md, .inr (5, [.ref xx, .int ln, .long R, .int rd, .ref mm, .ref nn, .int at0, .int en0])), (mm, .inl (cM, 3000, .inl (rw16 (upR V 0 (V 0 * 2 + 0))))), (nn, .inl (cN, 3, .inl (rc (upR V 0 (V 0 * 2 + 0)))))] := hD
                        refine lv_goto (tgt := 244) hx hb d_Mod_rounded_228 (by decide) ?_
                        exact rt_l hx hb hrt hlocks (()) (by rw [← hcc, ← hQ]; unfold moR; rw [if_neg (by omega), if_neg e162, if_pos (by omega), hwd]; exact kf_I i hi) (hP.sub [0, 1, 2] rfl) (hK.sub [0, 1] rfl) (hD.sub [0, 1, 2] (by decide) rfl) hS d_Mod_rounded_244
                    · have e207 : i = 0 := by rw [← hwd]; exact if_neg c207
                      refine lv_ldc2 hx hb hown (hts _ kK_Mod_70) d_Mod_rounded_210 ?_
                      refine tv_l (lN (kZ i + 2)) (by rw [e207]; rfl) ?_
                      refine lv_goto (tgt := 219) hx hb d_Mod_rounded_213 (by decide) ?_
                      refine W.lcmp hx hb d_Mod_rounded_219 ?_
                      refine lv_if_lt (tgt := 231) hx hb d_Mod_rounded_220 (by decide) (fun c220 => ?_) (fun c220 => ?_)
                      · have e220 : j0 + c + 1 < kZ i + 2 := (pk_lLT (by omega) (by omega)).mp ((lg_cmp_lt _ _).mp c220)
                        refine lv_lload hx hb d_Mod_rounded_231 (lv_at hl 0 rfl) ?_
                        refine lv_iload hx hb d_Mod_rounded_233 (lv_at hl 6 rfl) ?_
                        refine lv_iconst (v := 1) hx hb d_Mod_rounded_235 (by decide) ?_
                        refine lv_isub hx hb d_Mod_rounded_236 ?_
                        refine tv_i (nI (kP i - 1)) (nI_dec (by omega)) ?_
                        refine lv_lshl (v := lN ((j0 + c + 1) * 2 ^ (kP i - 1))) hx hb d_Mod_rounded_237 (wb_shl _ (by omega)) ?_
                        refine lv_lload hx hb d_Mod_rounded_238 (lv_at hl 2 rfl) ?_
                        refine lv_lload hx hb d_Mod_rounded_240 (lv_at hl 1 rfl) ?_
                        refine lv_lsub hx hb d_Mod_rounded_242 ?_
                        refine lv_ladd hx hb d_Mod_rounded_243 ?_
                        refine tv_l (lN ((j0 + c) * 2 ^ (kP i - 1) + Q)) (by rw [lN_sub (by omega), lN_add]; exact congrArg lN (by rw [Nat.add_mul, Nat.one_mul]; omega)) ?_
                        exact rt_l hx hb hrt hlocks (()) (by rw [← hcc, ← hQ]; unfold moR; rw [if_neg (by omega), if_neg e162, if_neg (by omega)]) (hP.sub [0, 1, 2] rfl) (hK.sub [0, 1] rfl) (hD.sub [0, 1, 2] (by decide) rfl) hS d_Mod_rounded_244
                      · have e220 : ¬ j0 + c + 1 < kZ i + 2 := fun z => c220 ((lg_cmp_lt _ _).mpr ((pk_lLT (by omega) (by omega)).mpr z))
                        refine lv_iload hx hb d_Mod_rounded_223 (lv_at hl 5 rfl) ?_
                        refine ca_l [(md, .inr (5, [.ref xx, .int ln, .long R, .int rd, .ref mm, .ref nn, .int at0, .int en0])), (mm, .inl (cM, 3000, .inl (rw16 (upR V 0 (V 0 * 2 + 0))))), (nn, .inl (cN, 3, .inl (rc (upR V 0 (V 0 * 2 + 0)))))] (va_runS (As := [.int wd]) (rest := []) ⟨hx, hb, hml, hown, hts⟩ (c_Mod_infinite l D E wd H.size) (xS 1 hts kC_Mod_infinite kM_Mod_46 kT_Mod_infinite kN_Mod rfl rfl (by decide +kernel) ⟨Nat.le_of_ble_eq_true rfl, Nat.le_of_ble_eq_true rfl⟩) ⟨ct_blind hev, ct_pre hev hP hK hD hS hA hE [] rfl (by decide) [] rfl⟩ rfl rfl hl.1 rfl (lv_room (Nat.le_of_ble_eq_true rfl)) d_Mod_rounded_225 ⟨Nat.le_of_ble_eq_true rfl, Nat.le_of_ble_eq_true rfl⟩) hP hD hS hA [] [0, 1, 2] rfl rfl (by decide) (by decide) (fun rv u H locs hw hP hD hS hK1 => ?_)
                        subst hw
                        have hP : va_P D vcl [(md, .inr (5, [.ref xx, .int ln, .long R, .int rd, .ref mm, .ref nn, .int at0, .int en0])), (mm, .inl (cM, 3000, .inl (rw16 (upR V 0 (V 0 * 2 + 0))))), (nn, .inl (cN, 3, .inl (rc (upR V 0 (V 0 * 2 + 0)))))] H := hP
                        have hD : va_D A [(md, .inr (5, [.ref xx, .int ln, .long R, .int rd, .ref mm, .ref nn, .int at0, .int en0])), (mm, .inl (cM, 3000, .inl (rw16 (upR V 0 (V 0 * 2 + 0))))), (nn, .inl (cN, 3, .inl (rc (upR V 0 (V 0 * 2 + 0)))))] := hD
                        refine lv_goto (tgt := 244) hx hb d_Mod_rounded_228 (by decide) ?_
                        exact rt_l hx hb hrt hlocks (()) (by rw [← hcc, ← hQ]; unfold moR; rw [if_neg (by omega), if_neg e162, if_pos (by omega), hwd]; exact kf_I i hi) (hP.sub [0, 1, 2] rfl) (hK.sub [0, 1] rfl) (hD.sub [0, 1, 2] (by decide) rfl) hS d_Mod_rounded_244
                  · have e187 : ¬ 2 ^ (kP i - 1) ≤ Q := fun z => c187 ((lg_cmp_ge _ _).mpr ((pk_lLE (by omega) (by omega)).mpr z))
                    refine lv_lload hx hb d_Mod_rounded_190 (lv_at hl 1 rfl) ?_
                    exact rt_l hx hb hrt hlocks (()) (by rw [← hcc, ← hQ]; unfold moR; rw [if_pos (by omega)]) (hP.sub [0, 1, 2] rfl) (hK.sub [0, 1] rfl) (hD.sub [0, 1, 2] (by decide) rfl) hS d_Mod_rounded_192
                · have e162 : Q = 2 ^ kP i := (pk_lEQ (by omega) (by omega)).mp ((lg_cmp_eq _ _).mp c162)
                  refine lv_lload hx hb d_Mod_rounded_165 (lv_at hl 0 rfl) ?_
                  refine lv_iconst (v := 1) hx hb d_Mod_rounded_167 (by decide) ?_
                  refine lv_lshr (v := lN (2 ^ (kP i - 1))) hx hb d_Mod_rounded_168 (by rw [e162, sar1 (by omega)]; exact congrArg lN (by omega)) ?_
                  refine lv_lstore (lv' := [(7, .long (lN (2 ^ (kP i - 1)))), (12, .int 0), (0, .ref md), (4, .int wd), (5, .int (nI (kP i))), (6, .int (zI (-(kLw i : Int)))), (9, .int (zI ((j0 : Int) + c - kLw i))), (11, .int hf)]) hx hb d_Mod_rounded_169 hl (by decide) rfl (fun ls hl => ?_)
                  refine lv_iinc (v := zI ((j0 : Int) + c + 1 - kLw i)) (lv' := [(9, .int (zI ((j0 : Int) + c + 1 - kLw i))), (7, .long (lN (2 ^ (kP i - 1)))), (12, .int 0), (0, .ref md), (4, .int wd), (5, .int (nI (kP i))), (6, .int (zI (-(kLw i : Int)))), (11, .int hf)]) hx hb d_Mod_rounded_171 hl (k := 6) rfl (by show zI _ + zI 1 = _; rw [zI_add]; exact congrArg zI (by omega)) (by decide) rfl (fun ls hl => ?_)
                  refine lv_lconst (v := 1) hx hb d_Mod_rounded_174 (by decide) ?_
                  refine lv_iload hx hb d_Mod_rounded_175 (lv_at hl 5 rfl) ?_
                  refine lv_iconst (v := 1) hx hb d_Mod_rounded_177 (by decide) ?_
                  refine lv_isub hx hb d_Mod_rounded_178 ?_
                  refine tv_i (nI (kP i - 1)) (nI_dec (by omega)) ?_
                  refine lv_lshl (v := lN (2 ^ (kP i - 1))) hx hb d_Mod_rounded_179 (shl1 (by omega)) ?_
                  refine lv_lstore (lv' := [(13, .long (lN (2 ^ (kP i - 1)))), (9, .int (zI ((j0 : Int) + c + 1 - kLw i))), (7, .long (lN (2 ^ (kP i - 1)))), (12, .int 0), (0, .ref md), (4, .int wd), (5, .int (nI (kP i))), (6, .int (zI (-(kLw i : Int)))), (11, .int hf)]) hx hb d_Mod_rounded_180 hl (by decide) rfl (fun ls hl => ?_)
                  refine lv_lload hx hb d_Mod_rounded_182 (lv_at hl 2 rfl) ?_
                  refine lv_lload hx hb d_Mod_rounded_184 (lv_at hl 0 rfl) ?_
                  refine W.lcmp hx hb d_Mod_rounded_186 ?_
                  refine lv_if_ge (tgt := 193) hx hb d_Mod_rounded_187 (by decide) (fun c187 => ?_) (fun c187 => ?_)
                  · have e187 : 2 ^ (kP i - 1) ≤ 2 ^ (kP i - 1) := (pk_lLE (by omega) (by omega)).mp ((lg_cmp_ge _ _).mp c187)
                    refine lv_iload hx hb d_Mod_rounded_193 (lv_at hl 1 rfl) ?_
                    refine lv_iload hx hb d_Mod_rounded_195 (lv_at hl 7 rfl) ?_
                    refine lv_isub hx hb d_Mod_rounded_197 ?_
                    refine lv_iconst (v := 1) hx hb d_Mod_rounded_198 (by decide) ?_
                    refine lv_iadd hx hb d_Mod_rounded_199 ?_
                    refine tv_i (nI (j0 + c + 2)) (by show zI _ - zI _ + zI 1 = _; rw [zI_sub, zI_add, ← zI_nI]; exact congrArg zI (by omega)) ?_
                    refine lv_i2l (v := (nI (j0 + c + 2)).toInt64) hx hb d_Mod_rounded_200 (rfl) ?_
                    refine tv_l (lN (j0 + c + 2)) (nI_l (by omega)) ?_
                    refine lv_lstore (lv' := [(15, .long (lN (j0 + c + 2))), (13, .long (lN (2 ^ (kP i - 1)))), (9, .int (zI ((j0 : Int) + c + 1 - kLw i))), (7, .long (lN (2 ^ (kP i - 1)))), (12, .int 0), (0, .ref md), (4, .int wd), (5, .int (nI (kP i))), (6, .int (zI (-(kLw i : Int)))), (11, .int hf)]) hx hb d_Mod_rounded_201 hl (by decide) rfl (fun ls hl => ?_)
                    refine lv_lload hx hb d_Mod_rounded_203 (lv_at hl 0 rfl) ?_
                    refine lv_iload hx hb d_Mod_rounded_205 (lv_at hl 6 rfl) ?_
                    refine lv_if_eq (tgt := 216) hx hb d_Mod_rounded_207 (by decide) (fun c207 => ?_) (fun c207 => ?_)
                    · have e207 : i = 1 := by rw [← hwd]; exact if_pos c207
                      refine lv_ldc2 hx hb hown (hts _ kK_Mod_72) d_Mod_rounded_216 ?_
                      refine tv_l (lN (kZ i + 2)) (by rw [e207]; rfl) ?_
                      refine W.lcmp hx hb d_Mod_rounded_219 ?_
                      refine lv_if_lt (tgt := 231) hx hb d_Mod_rounded_220 (by decide) (fun c220 => ?_) (fun c220 => ?_)
                      · have e220 : j0 + c + 2 < kZ i + 2 := (pk_lLT (by omega) (by omega)).mp ((lg_cmp_lt _ _).mp c220)
                        refine lv_lload hx hb d_Mod_rounded_231 (lv_at hl 0 rfl) ?_
                        refine lv_iload hx hb d_Mod_rounded_233 (lv_at hl 7 rfl) ?_
                        refine lv_iconst (v := 1) hx hb d_Mod_rounded_235 (by decide) ?_
                        refine lv_isub hx hb d_Mod_rounded_236 ?_
                        refine tv_i (nI (kP i - 1)) (nI_dec (by omega)) ?_
                        refine lv_lshl (v := lN ((j0 + c + 2) * 2 ^ (kP i - 1))) hx hb d_Mod_rounded_237 (wb_shl _ (by omega)) ?_
                        refine lv_lload hx hb d_Mod_rounded_238 (lv_at hl 3 rfl) ?_
                        refine lv_lload hx hb d_Mod_rounded_240 (lv_at hl 1 rfl) ?_
                        refine lv_lsub hx hb d_Mod_rounded_242 ?_
                        refine lv_ladd hx hb d_Mod_rounded_243 ?_
                        refine tv_l (lN ((j0 + c) * 2 ^ (kP i - 1) + Q)) (by rw [lN_sub (Nat.le_refl _), lN_add]; exact congrArg lN (by rw [Nat.sub_self, e162, hpP, Nat.add_mul]; omega)) ?_
                        exact rt_l hx hb hrt hlocks (()) (by rw [← hcc, ← hQ]; unfold moR; rw [if_neg (by omega), if_pos e162, if_neg (by omega)]) (hP.sub [0, 1, 2] rfl) (hK.sub [0, 1] rfl) (hD.sub [0, 1, 2] (by decide) rfl) hS d_Mod_rounded_244
                      · have e220 : ¬ j0 + c + 2 < kZ i + 2 := fun z => c220 ((lg_cmp_lt _ _).mpr ((pk_lLT (by omega) (by omega)).mpr z))
                        refine lv_iload hx hb d_Mod_rounded_223 (lv_at hl 6 rfl) ?_
                        refine ca_l [(md, .inr (5, [.ref xx, .int ln, .long R, .int rd, .ref mm, .ref nn, .int at0, .int en0])), (mm, .inl (cM, 3000, .inl (rw16 (upR V 0 (V 0 * 2 + 0))))), (nn, .inl (cN, 3, .inl (rc (upR V 0 (V 0 * 2 + 0)))))] (va_runS (As := [.int wd]) (rest := []) ⟨hx, hb, hml, hown, hts⟩ (c_Mod_infinite l D E wd H.size) (xS 1 hts kC_Mod_infinite kM_Mod_46 kT_Mod_infinite kN_Mod rfl rfl (by decide +kernel) ⟨Nat.le_of_ble_eq_true rfl, Nat.le_of_ble_eq_true rfl⟩) ⟨ct_blind hev, ct_pre hev hP hK hD hS hA hE [] rfl (by decide) [] rfl⟩ rfl rfl hl.1 rfl (lv_room (Nat.le_of_ble_eq_true rfl)) d_Mod_rounded_225 ⟨Nat.le_of_ble_eq_true rfl, Nat.le_of_ble_eq_true rfl⟩) hP hD hS hA [] [0, 1, 2] rfl rfl (by decide) (by decide) (fun rv u H locs hw hP hD hS hK1 => ?_)
                        subst hw
                        have hP : va_P D vcl [(md, .inr (5, [.ref xx, .int ln, .long R, .int rd, .ref mm, .ref nn, .int at0, .int en0])), (mm, .inl (cM, 3000, .inl (rw16 (upR V 0 (V 0 * 2 + 0))))), (nn, .inl (cN, 3, .inl (rc (upR V 0 (V 0 * 2 + 0)))))] H := hP
                        have hD : va_D A [(md, .inr (5, [.ref xx, .int ln, .long R, .int rd, .ref mm, .ref nn, .int at0, .int en0])), (mm, .inl (cM, 3000, .inl (rw16 (upR V 0 (V 0 * 2 + 0))))), (nn, .inl (cN, 3, .inl (rc (upR V 0 (V 0 * 2 + 0)))))] := hD
                        refine lv_goto (tgt := 244) hx hb d_Mod_rounded_228 (by decide) ?_
                        exact rt_l hx hb hrt hlocks (()) (by rw [← hcc, ← hQ]; unfold moR; rw [if_neg (by omega), if_pos e162, if_pos (by omega), hwd]; exact kf_I i hi) (hP.sub [0, 1, 2] rfl) (hK.sub [0, 1] rfl) (hD.sub [0, 1, 2] (by decide) rfl) hS d_Mod_rounded_244
                    · have e207 : i = 0 := by rw [← hwd]; exact if_neg c207
                      refine lv_ldc2 hx hb hown (hts _ kK_Mod_70) d_Mod_rounded_210 ?_
                      refine tv_l (lN (kZ i + 2)) (by rw [e207]; rfl) ?_
                      refine lv_goto (tgt := 219) hx hb d_Mod_rounded_213 (by decide) ?_
                      refine W.lcmp hx hb d_Mod_rounded_219 ?_
                      refine lv_if_lt (tgt := 231) hx hb d_Mod_rounded_220 (by decide) (fun c220 => ?_) (fun c220 => ?_)
                      · have e220 : j0 + c + 2 < kZ i + 2 := (pk_lLT (by omega) (by omega)).mp ((lg_cmp_lt _ _).mp c220)
                        refine lv_lload hx hb d_Mod_rounded_231 (lv_at hl 0 rfl) ?_
                        refine lv_iload hx hb d_Mod_rounded_233 (lv_at hl 7 rfl) ?_
                        refine lv_iconst (v := 1) hx hb d_Mod_rounded_235 (by decide) ?_
                        refine lv_isub hx hb d_Mod_rounded_236 ?_
                        refine tv_i (nI (kP i - 1)) (nI_dec (by omega)) ?_
                        refine lv_lshl (v := lN ((j0 + c + 2) * 2 ^ (kP i - 1))) hx hb d_Mod_rounded_237 (wb_shl _ (by omega)) ?_
                        refine lv_lload hx hb d_Mod_rounded_238 (lv_at hl 3 rfl) ?_
                        refine lv_lload hx hb d_Mod_rounded_240 (lv_at hl 1 rfl) ?_
                        refine lv_lsub hx hb d_Mod_rounded_242 ?_
                        refine lv_ladd hx hb d_Mod_rounded_243 ?_
                        refine tv_l (lN ((j0 + c) * 2 ^ (kP i - 1) + Q)) (by rw [lN_sub (Nat.le_refl _), lN_add]; exact congrArg lN (by rw [Nat.sub_self, e162, hpP, Nat.add_mul]; omega)) ?_
                        exact rt_l hx hb hrt hlocks (()) (by rw [← hcc, ← hQ]; unfold moR; rw [if_neg (by omega), if_pos e162, if_neg (by omega)]) (hP.sub [0, 1, 2] rfl) (hK.sub [0, 1] rfl) (hD.sub [0, 1, 2] (by decide) rfl) hS d_Mod_rounded_244
                      · have e220 : ¬ j0 + c + 2 < kZ i + 2 := fun z => c220 ((lg_cmp_lt _ _).mpr ((pk_lLT (by omega) (by omega)).mpr z))
                        refine lv_iload hx hb d_Mod_rounded_223 (lv_at hl 6 rfl) ?_
                        refine ca_l [(md, .inr (5, [.ref xx, .int ln, .long R, .int rd, .ref mm, .ref nn, .int at0, .int en0])), (mm, .inl (cM, 3000, .inl (rw16 (upR V 0 (V 0 * 2 + 0))))), (nn, .inl (cN, 3, .inl (rc (upR V 0 (V 0 * 2 + 0)))))] (va_runS (As := [.int wd]) (rest := []) ⟨hx, hb, hml, hown, hts⟩ (c_Mod_infinite l D E wd H.size) (xS 1 hts kC_Mod_infinite kM_Mod_46 kT_Mod_infinite kN_Mod rfl rfl (by decide +kernel) ⟨Nat.le_of_ble_eq_true rfl, Nat.le_of_ble_eq_true rfl⟩) ⟨ct_blind hev, ct_pre hev hP hK hD hS hA hE [] rfl (by decide) [] rfl⟩ rfl rfl hl.1 rfl (lv_room (Nat.le_of_ble_eq_true rfl)) d_Mod_rounded_225 ⟨Nat.le_of_ble_eq_true rfl, Nat.le_of_ble_eq_true rfl⟩) hP hD hS hA [] [0, 1, 2] rfl rfl (by decide) (by decide) (fun rv u H locs hw hP hD hS hK1 => ?_)
                        subst hw
                        have hP : va_P D vcl [(md, .inr (5, [.ref xx, .int ln, .long R, .int rd, .ref mm, .ref nn, .int at0, .int en0])), (mm, .inl (cM, 3000, .inl (rw16 (upR V 0 (V 0 * 2 + 0))))), (nn, .inl (cN, 3, .inl (rc (upR V 0 (V 0 * 2 + 0)))))] H := hP
                        have hD : va_D A [(md, .inr (5, [.ref xx, .int ln, .long R, .int rd, .ref mm, .ref nn, .int at0, .int en0])), (mm, .inl (cM, 3000, .inl (rw16 (upR V 0 (V 0 * 2 + 0))))), (nn, .inl (cN, 3, .inl (rc (upR V 0 (V 0 * 2 + 0)))))] := hD
                        refine lv_goto (tgt := 244) hx hb d_Mod_rounded_228 (by decide) ?_
                        exact rt_l hx hb hrt hlocks (()) (by rw [← hcc, ← hQ]; unfold moR; rw [if_neg (by omega), if_pos e162, if_pos (by omega), hwd]; exact kf_I i hi) (hP.sub [0, 1, 2] rfl) (hK.sub [0, 1] rfl) (hD.sub [0, 1, 2] (by decide) rfl) hS d_Mod_rounded_244
                  · have e187 : ¬ 2 ^ (kP i - 1) ≤ 2 ^ (kP i - 1) := fun z => c187 ((lg_cmp_ge _ _).mpr ((pk_lLE (by omega) (by omega)).mpr z))
                    refine lv_lload hx hb d_Mod_rounded_190 (lv_at hl 2 rfl) ?_
                    exact rt_l hx hb hrt hlocks (()) (absurd (Nat.le_refl _) e187) (hP.sub [0, 1, 2] rfl) (hK.sub [0, 1] rfl) (hD.sub [0, 1, 2] (by decide) rfl) hS d_Mod_rounded_192
              · exact absurd rfl c141
            · have hqq : Q = q1 + 1 := hu1 (Or.inr ⟨c120, (pk_lEQ (b := 1) (by omega) (by decide)).mp ((lg_cmp_eq _ _).mp c129)⟩)
              refine lv_iconst (v := 1) hx hb d_Mod_rounded_132 (by decide) ?_
              refine lv_goto (tgt := 137) hx hb d_Mod_rounded_133 (by decide) ?_
              refine lv_istore (lv' := [(12, .int 1), (0, .ref md), (4, .int wd), (5, .int (nI (kP i))), (6, .int (zI (-(kLw i : Int)))), (7, .long (lN q1)), (9, .int (zI ((j0 : Int) + c - kLw i))), (11, .int hf)]) hx hb d_Mod_rounded_137 hl (by decide) rfl (fun ls hl => ?_)
              refine lv_iload hx hb d_Mod_rounded_139 (lv_at hl 0 rfl) ?_
              refine lv_if_eq (tgt := 151) hx hb d_Mod_rounded_141 (by decide) (fun c141 => ?_) (fun c141 => ?_)
              · exact absurd c141 (by decide)
              · refine lv_lload hx hb d_Mod_rounded_144 (lv_at hl 5 rfl) ?_
                refine lv_lconst (v := 1) hx hb d_Mod_rounded_146 (by decide) ?_
                refine lv_ladd hx hb d_Mod_rounded_147 ?_
                refine tv_l (lN Q) (by rw [hqq]; exact lN_1 _) ?_
                refine lv_goto (tgt := 153) hx hb d_Mod_rounded_148 (by decide) ?_
                refine lv_lstore (lv' := [(7, .long (lN Q)), (12, .int 1), (0, .ref md), (4, .int wd), (5, .int (nI (kP i))), (6, .int (zI (-(kLw i : Int)))), (9, .int (zI ((j0 : Int) + c - kLw i))), (11, .int hf)]) hx hb d_Mod_rounded_153 hl (by decide) rfl (fun ls hl => ?_)
                refine lv_lload hx hb d_Mod_rounded_155 (lv_at hl 0 rfl) ?_
                refine lv_lconst (v := 1) hx hb d_Mod_rounded_157 (by decide) ?_
                refine lv_iload hx hb d_Mod_rounded_158 (lv_at hl 4 rfl) ?_
                refine lv_lshl (v := lN (2 ^ kP i)) hx hb d_Mod_rounded_160 (shl1 (by omega)) ?_
                refine W.lcmp hx hb d_Mod_rounded_161 ?_
                refine lv_if_ne (tgt := 174) hx hb d_Mod_rounded_162 (by decide) (fun c162 => ?_) (fun c162 => ?_)
                · have e162 : Q ≠ 2 ^ kP i := fun z => c162 ((lg_cmp_eq _ _).mpr (by rw [z]))
                  refine lv_lconst (v := 1) hx hb d_Mod_rounded_174 (by decide) ?_
                  refine lv_iload hx hb d_Mod_rounded_175 (lv_at hl 4 rfl) ?_
                  refine lv_iconst (v := 1) hx hb d_Mod_rounded_177 (by decide) ?_
                  refine lv_isub hx hb d_Mod_rounded_178 ?_
                  refine tv_i (nI (kP i - 1)) (nI_dec (by omega)) ?_
                  refine lv_lshl (v := lN (2 ^ (kP i - 1))) hx hb d_Mod_rounded_179 (shl1 (by omega)) ?_
                  refine lv_lstore (lv' := [(13, .long (lN (2 ^ (kP i - 1)))), (7, .long (lN Q)), (12, .int 1), (0, .ref md), (4, .int wd), (5, .int (nI (kP i))), (6, .int (zI (-(kLw i : Int)))), (9, .int (zI ((j0 : Int) + c - kLw i))), (11, .int hf)]) hx hb d_Mod_rounded_180 hl (by decide) rfl (fun ls hl => ?_)
                  refine lv_lload hx hb d_Mod_rounded_182 (lv_at hl 1 rfl) ?_
                  refine lv_lload hx hb d_Mod_rounded_184 (lv_at hl 0 rfl) ?_
                  refine W.lcmp hx hb d_Mod_rounded_186 ?_
                  refine lv_if_ge (tgt := 193) hx hb d_Mod_rounded_187 (by decide) (fun c187 => ?_) (fun c187 => ?_)
                  · have e187 : 2 ^ (kP i - 1) ≤ Q := (pk_lLE (by omega) (by omega)).mp ((lg_cmp_ge _ _).mp c187)
                    refine lv_iload hx hb d_Mod_rounded_193 (lv_at hl 7 rfl) ?_
                    refine lv_iload hx hb d_Mod_rounded_195 (lv_at hl 6 rfl) ?_
                    refine lv_isub hx hb d_Mod_rounded_197 ?_
                    refine lv_iconst (v := 1) hx hb d_Mod_rounded_198 (by decide) ?_
                    refine lv_iadd hx hb d_Mod_rounded_199 ?_
                    refine tv_i (nI (j0 + c + 1)) (by show zI _ - zI _ + zI 1 = _; rw [zI_sub, zI_add, ← zI_nI]; exact congrArg zI (by omega)) ?_
                    refine lv_i2l (v := (nI (j0 + c + 1)).toInt64) hx hb d_Mod_rounded_200 (rfl) ?_
                    refine tv_l (lN (j0 + c + 1)) (nI_l (by omega)) ?_
                    refine lv_lstore (lv' := [(15, .long (lN (j0 + c + 1))), (13, .long (lN (2 ^ (kP i - 1)))), (7, .long (lN Q)), (12, .int 1), (0, .ref md), (4, .int wd), (5, .int (nI (kP i))), (6, .int (zI (-(kLw i : Int)))), (9, .int (zI ((j0 : Int) + c - kLw i))), (11, .int hf)]) hx hb d_Mod_rounded_201 hl (by decide) rfl (fun ls hl => ?_)
                    refine lv_lload hx hb d_Mod_rounded_203 (lv_at hl 0 rfl) ?_
                    refine lv_iload hx hb d_Mod_rounded_205 (lv_at hl 5 rfl) ?_
                    refine lv_if_eq (tgt := 216) hx hb d_Mod_rounded_207 (by decide) (fun c207 => ?_) (fun c207 => ?_)
                    · have e207 : i = 1 := by rw [← hwd]; exact if_pos c207
                      refine lv_ldc2 hx hb hown (hts _ kK_Mod_72) d_Mod_rounded_216 ?_
                      refine tv_l (lN (kZ i + 2)) (by rw [e207]; rfl) ?_
                      refine W.lcmp hx hb d_Mod_rounded_219 ?_
                      refine lv_if_lt (tgt := 231) hx hb d_Mod_rounded_220 (by decide) (fun c220 => ?_) (fun c220 => ?_)
                      · have e220 : j0 + c + 1 < kZ i + 2 := (pk_lLT (by omega) (by omega)).mp ((lg_cmp_lt _ _).mp c220)
                        refine lv_lload hx hb d_Mod_rounded_231 (lv_at hl 0 rfl) ?_
                        refine lv_iload hx hb d_Mod_rounded_233 (lv_at hl 6 rfl) ?_
                        refine lv_iconst (v := 1) hx hb d_Mod_rounded_235 (by decide) ?_
                        refine lv_isub hx hb d_Mod_rounded_236 ?_
                        refine tv_i (nI (kP i - 1)) (nI_dec (by omega)) ?_
                        refine lv_lshl (v := lN ((j0 + c + 1) * 2 ^ (kP i - 1))) hx hb d_Mod_rounded_237 (wb_shl _ (by omega)) ?_
                        refine lv_lload hx hb d_Mod_rounded_238 (lv_at hl 2 rfl) ?_
                        refine lv_lload hx hb d_Mod_rounded_240 (lv_at hl 1 rfl) ?_
                        refine lv_lsub hx hb d_Mod_rounded_242 ?_
                        refine lv_ladd hx hb d_Mod_rounded_243 ?_
                        refine tv_l (lN ((j0 + c) * 2 ^ (kP i - 1) + Q)) (by rw [lN_sub (by omega), lN_add]; exact congrArg lN (by rw [Nat.add_mul, Nat.one_mul]; omega)) ?_
                        exact rt_l hx hb hrt hlocks (()) (by rw [← hcc, ← hQ]; unfold moR; rw [if_neg (by omega), if_neg e162, if_neg (by omega)]) (hP.sub [0, 1, 2] rfl) (hK.sub [0, 1] rfl) (hD.sub [0, 1, 2] (by decide) rfl) hS d_Mod_rounded_244
                      · have e220 : ¬ j0 + c + 1 < kZ i + 2 := fun z => c220 ((lg_cmp_lt _ _).mpr ((pk_lLT (by omega) (by omega)).mpr z))
                        refine lv_iload hx hb d_Mod_rounded_223 (lv_at hl 5 rfl) ?_
                        refine ca_l [(md, .inr (5, [.ref xx, .int ln, .long R, .int rd, .ref mm, .ref nn, .int at0, .int en0])), (mm, .inl (cM, 3000, .inl (rw16 (upR V 0 (V 0 * 2 + 0))))), (nn, .inl (cN, 3, .inl (rc (upR V 0 (V 0 * 2 + 0)))))] (va_runS (As := [.int wd]) (rest := []) ⟨hx, hb, hml, hown, hts⟩ (c_Mod_infinite l D E wd H.size) (xS 1 hts kC_Mod_infinite kM_Mod_46 kT_Mod_infinite kN_Mod rfl rfl (by decide +kernel) ⟨Nat.le_of_ble_eq_true rfl, Nat.le_of_ble_eq_true rfl⟩) ⟨ct_blind hev, ct_pre hev hP hK hD hS hA hE [] rfl (by decide) [] rfl⟩ rfl rfl hl.1 rfl (lv_room (Nat.le_of_ble_eq_true rfl)) d_Mod_rounded_225 ⟨Nat.le_of_ble_eq_true rfl, Nat.le_of_ble_eq_true rfl⟩) hP hD hS hA [] [0, 1, 2] rfl rfl (by decide) (by decide) (fun rv u H locs hw hP hD hS hK1 => ?_)
                        subst hw
                        have hP : va_P D vcl [(md, .inr (5, [.ref xx, .int ln, .long R, .int rd, .ref mm, .ref nn, .int at0, .int en0])), (mm, .inl (cM, 3000, .inl (rw16 (upR V 0 (V 0 * 2 + 0))))), (nn, .inl (cN, 3, .inl (rc (upR V 0 (V 0 * 2 + 0)))))] H := hP
                        have hD : va_D A [(md, .inr (5, [.ref xx, .int ln, .long R, .int rd, .ref mm, .ref nn, .int at0, .int en0])), (mm, .inl (cM, 3000, .inl (rw16 (upR V 0 (V 0 * 2 + 0))))), (nn, .inl (cN, 3, .inl (rc (upR V 0 (V 0 * 2 + 0)))))] := hD
                        refine lv_goto (tgt := 244) hx hb d_Mod_rounded_228 (by decide) ?_
                        exact rt_l hx hb hrt hlocks (()) (by rw [← hcc, ← hQ]; unfold moR; rw [if_neg (by omega), if_neg e162, if_pos (by omega), hwd]; exact kf_I i hi) (hP.sub [0, 1, 2] rfl) (hK.sub [0, 1] rfl) (hD.sub [0, 1, 2] (by decide) rfl) hS d_Mod_rounded_244
                    · have e207 : i = 0 := by rw [← hwd]; exact if_neg c207
                      refine lv_ldc2 hx hb hown (hts _ kK_Mod_70) d_Mod_rounded_210 ?_
                      refine tv_l (lN (kZ i + 2)) (by rw [e207]; rfl) ?_
                      refine lv_goto (tgt := 219) hx hb d_Mod_rounded_213 (by decide) ?_
                      refine W.lcmp hx hb d_Mod_rounded_219 ?_
                      refine lv_if_lt (tgt := 231) hx hb d_Mod_rounded_220 (by decide) (fun c220 => ?_) (fun c220 => ?_)
                      · have e220 : j0 + c + 1 < kZ i + 2 := (pk_lLT (by omega) (by omega)).mp ((lg_cmp_lt _ _).mp c220)
                        refine lv_lload hx hb d_Mod_rounded_231 (lv_at hl 0 rfl) ?_
                        refine lv_iload hx hb d_Mod_rounded_233 (lv_at hl 6 rfl) ?_
                        refine lv_iconst (v := 1) hx hb d_Mod_rounded_235 (by decide) ?_
                        refine lv_isub hx hb d_Mod_rounded_236 ?_
                        refine tv_i (nI (kP i - 1)) (nI_dec (by omega)) ?_
                        refine lv_lshl (v := lN ((j0 + c + 1) * 2 ^ (kP i - 1))) hx hb d_Mod_rounded_237 (wb_shl _ (by omega)) ?_
                        refine lv_lload hx hb d_Mod_rounded_238 (lv_at hl 2 rfl) ?_
                        refine lv_lload hx hb d_Mod_rounded_240 (lv_at hl 1 rfl) ?_
                        refine lv_lsub hx hb d_Mod_rounded_242 ?_
                        refine lv_ladd hx hb d_Mod_rounded_243 ?_
                        refine tv_l (lN ((j0 + c) * 2 ^ (kP i - 1) + Q)) (by rw [lN_sub (by omega), lN_add]; exact congrArg lN (by rw [Nat.add_mul, Nat.one_mul]; omega)) ?_
                        exact rt_l hx hb hrt hlocks (()) (by rw [← hcc, ← hQ]; unfold moR; rw [if_neg (by omega), if_neg e162, if_neg (by omega)]) (hP.sub [0, 1, 2] rfl) (hK.sub [0, 1] rfl) (hD.sub [0, 1, 2] (by decide) rfl) hS d_Mod_rounded_244
                      · have e220 : ¬ j0 + c + 1 < kZ i + 2 := fun z => c220 ((lg_cmp_lt _ _).mpr ((pk_lLT (by omega) (by omega)).mpr z))
                        refine lv_iload hx hb d_Mod_rounded_223 (lv_at hl 5 rfl) ?_
                        refine ca_l [(md, .inr (5, [.ref xx, .int ln, .long R, .int rd, .ref mm, .ref nn, .int at0, .int en0])), (mm, .inl (cM, 3000, .inl (rw16 (upR V 0 (V 0 * 2 + 0))))), (nn, .inl (cN, 3, .inl (rc (upR V 0 (V 0 * 2 + 0)))))] (va_runS (As := [.int wd]) (rest := []) ⟨hx, hb, hml, hown, hts⟩ (c_Mod_infinite l D E wd H.size) (xS 1 hts kC_Mod_infinite kM_Mod_46 kT_Mod_infinite kN_Mod rfl rfl (by decide +kernel) ⟨Nat.le_of_ble_eq_true rfl, Nat.le_of_ble_eq_true rfl⟩) ⟨ct_blind hev, ct_pre hev hP hK hD hS hA hE [] rfl (by decide) [] rfl⟩ rfl rfl hl.1 rfl (lv_room (Nat.le_of_ble_eq_true rfl)) d_Mod_rounded_225 ⟨Nat.le_of_ble_eq_true rfl, Nat.le_of_ble_eq_true rfl⟩) hP hD hS hA [] [0, 1, 2] rfl rfl (by decide) (by decide) (fun rv u H locs hw hP hD hS hK1 => ?_)
                        subst hw
                        have hP : va_P D vcl [(md, .inr (5, [.ref xx, .int ln, .long R, .int rd, .ref mm, .ref nn, .int at0, .int en0])), (mm, .inl (cM, 3000, .inl (rw16 (upR V 0 (V 0 * 2 + 0))))), (nn, .inl (cN, 3, .inl (rc (upR V 0 (V 0 * 2 + 0)))))] H := hP
                        have hD : va_D A [(md, .inr (5, [.ref xx, .int ln, .long R, .int rd, .ref mm, .ref nn, .int at0, .int en0])), (mm, .inl (cM, 3000, .inl (rw16 (upR V 0 (V 0 * 2 + 0))))), (nn, .inl (cN, 3, .inl (rc (upR V 0 (V 0 * 2 + 0)))))] := hD
                        refine lv_goto (tgt := 244) hx hb d_Mod_rounded_228 (by decide) ?_
                        exact rt_l hx hb hrt hlocks (()) (by rw [← hcc, ← hQ]; unfold moR; rw [if_neg (by omega), if_neg e162, if_pos (by omega), hwd]; exact kf_I i hi) (hP.sub [0, 1, 2] rfl) (hK.sub [0, 1] rfl) (hD.sub [0, 1, 2] (by decide) rfl) hS d_Mod_rounded_244
                  · have e187 : ¬ 2 ^ (kP i - 1) ≤ Q := fun z => c187 ((lg_cmp_ge _ _).mpr ((pk_lLE (by omega) (by omega)).mpr z))
                    refine lv_lload hx hb d_Mod_rounded_190 (lv_at hl 1 rfl) ?_
                    exact rt_l hx hb hrt hlocks (()) (by rw [← hcc, ← hQ]; unfold moR; rw [if_pos (by omega)]) (hP.sub [0, 1, 2] rfl) (hK.sub [0, 1] rfl) (hD.sub [0, 1, 2] (by decide) rfl) hS d_Mod_rounded_192
                · have e162 : Q = 2 ^ kP i := (pk_lEQ (by omega) (by omega)).mp ((lg_cmp_eq _ _).mp c162)
                  refine lv_lload hx hb d_Mod_rounded_165 (lv_at hl 0 rfl) ?_
                  refine lv_iconst (v := 1) hx hb d_Mod_rounded_167 (by decide) ?_
                  refine lv_lshr (v := lN (2 ^ (kP i - 1))) hx hb d_Mod_rounded_168 (by rw [e162, sar1 (by omega)]; exact congrArg lN (by omega)) ?_
                  refine lv_lstore (lv' := [(7, .long (lN (2 ^ (kP i - 1)))), (12, .int 1), (0, .ref md), (4, .int wd), (5, .int (nI (kP i))), (6, .int (zI (-(kLw i : Int)))), (9, .int (zI ((j0 : Int) + c - kLw i))), (11, .int hf)]) hx hb d_Mod_rounded_169 hl (by decide) rfl (fun ls hl => ?_)
                  refine lv_iinc (v := zI ((j0 : Int) + c + 1 - kLw i)) (lv' := [(9, .int (zI ((j0 : Int) + c + 1 - kLw i))), (7, .long (lN (2 ^ (kP i - 1)))), (12, .int 1), (0, .ref md), (4, .int wd), (5, .int (nI (kP i))), (6, .int (zI (-(kLw i : Int)))), (11, .int hf)]) hx hb d_Mod_rounded_171 hl (k := 6) rfl (by show zI _ + zI 1 = _; rw [zI_add]; exact congrArg zI (by omega)) (by decide) rfl (fun ls hl => ?_)
                  refine lv_lconst (v := 1) hx hb d_Mod_rounded_174 (by decide) ?_
                  refine lv_iload hx hb d_Mod_rounded_175 (lv_at hl 5 rfl) ?_
                  refine lv_iconst (v := 1) hx hb d_Mod_rounded_177 (by decide) ?_
                  refine lv_isub hx hb d_Mod_rounded_178 ?_
                  refine tv_i (nI (kP i - 1)) (nI_dec (by omega)) ?_
                  refine lv_lshl (v := lN (2 ^ (kP i - 1))) hx hb d_Mod_rounded_179 (shl1 (by omega)) ?_
                  refine lv_lstore (lv' := [(13, .long (lN (2 ^ (kP i - 1)))), (9, .int (zI ((j0 : Int) + c + 1 - kLw i))), (7, .long (lN (2 ^ (kP i - 1)))), (12, .int 1), (0, .ref md), (4, .int wd), (5, .int (nI (kP i))), (6, .int (zI (-(kLw i : Int)))), (11, .int hf)]) hx hb d_Mod_rounded_180 hl (by decide) rfl (fun ls hl => ?_)
                  refine lv_lload hx hb d_Mod_rounded_182 (lv_at hl 2 rfl) ?_
                  refine lv_lload hx hb d_Mod_rounded_184 (lv_at hl 0 rfl) ?_
                  refine W.lcmp hx hb d_Mod_rounded_186 ?_
                  refine lv_if_ge (tgt := 193) hx hb d_Mod_rounded_187 (by decide) (fun c187 => ?_) (fun c187 => ?_)
                  · have e187 : 2 ^ (kP i - 1) ≤ 2 ^ (kP i - 1) := (pk_lLE (by omega) (by omega)).mp ((lg_cmp_ge _ _).mp c187)
                    refine lv_iload hx hb d_Mod_rounded_193 (lv_at hl 1 rfl) ?_
                    refine lv_iload hx hb d_Mod_rounded_195 (lv_at hl 7 rfl) ?_
                    refine lv_isub hx hb d_Mod_rounded_197 ?_
                    refine lv_iconst (v := 1) hx hb d_Mod_rounded_198 (by decide) ?_
                    refine lv_iadd hx hb d_Mod_rounded_199 ?_
                    refine tv_i (nI (j0 + c + 2)) (by show zI _ - zI _ + zI 1 = _; rw [zI_sub, zI_add, ← zI_nI]; exact congrArg zI (by omega)) ?_
                    refine lv_i2l (v := (nI (j0 + c + 2)).toInt64) hx hb d_Mod_rounded_200 (rfl) ?_
                    refine tv_l (lN (j0 + c + 2)) (nI_l (by omega)) ?_
                    refine lv_lstore (lv' := [(15, .long (lN (j0 + c + 2))), (13, .long (lN (2 ^ (kP i - 1)))), (9, .int (zI ((j0 : Int) + c + 1 - kLw i))), (7, .long (lN (2 ^ (kP i - 1)))), (12, .int 1), (0, .ref md), (4, .int wd), (5, .int (nI (kP i))), (6, .int (zI (-(kLw i : Int)))), (11, .int hf)]) hx hb d_Mod_rounded_201 hl (by decide) rfl (fun ls hl => ?_)
                    refine lv_lload hx hb d_Mod_rounded_203 (lv_at hl 0 rfl) ?_
                    refine lv_iload hx hb d_Mod_rounded_205 (lv_at hl 6 rfl) ?_
                    refine lv_if_eq (tgt := 216) hx hb d_Mod_rounded_207 (by decide) (fun c207 => ?_) (fun c207 => ?_)
                    · have e207 : i = 1 := by rw [← hwd]; exact if_pos c207
                      refine lv_ldc2 hx hb hown (hts _ kK_Mod_72) d_Mod_rounded_216 ?_
                      refine tv_l (lN (kZ i + 2)) (by rw [e207]; rfl) ?_
                      refine W.lcmp hx hb d_Mod_rounded_219 ?_
                      refine lv_if_lt (tgt := 231) hx hb d_Mod_rounded_220 (by decide) (fun c220 => ?_) (fun c220 => ?_)
                      · have e220 : j0 + c + 2 < kZ i + 2 := (pk_lLT (by omega) (by omega)).mp ((lg_cmp_lt _ _).mp c220)
                        refine lv_lload hx hb d_Mod_rounded_231 (lv_at hl 0 rfl) ?_
                        refine lv_iload hx hb d_Mod_rounded_233 (lv_at hl 7 rfl) ?_
                        refine lv_iconst (v := 1) hx hb d_Mod_rounded_235 (by decide) ?_
                        refine lv_isub hx hb d_Mod_rounded_236 ?_
                        refine tv_i (nI (kP i - 1)) (nI_dec (by omega)) ?_
                        refine lv_lshl (v := lN ((j0 + c + 2) * 2 ^ (kP i - 1))) hx hb d_Mod_rounded_237 (wb_shl _ (by omega)) ?_
                        refine lv_lload hx hb d_Mod_rounded_238 (lv_at hl 3 rfl) ?_
                        refine lv_lload hx hb d_Mod_rounded_240 (lv_at hl 1 rfl) ?_
                        refine lv_lsub hx hb d_Mod_rounded_242 ?_
                        refine lv_ladd hx hb d_Mod_rounded_243 ?_
                        refine tv_l (lN ((j0 + c) * 2 ^ (kP i - 1) + Q)) (by rw [lN_sub (Nat.le_refl _), lN_add]; exact congrArg lN (by rw [Nat.sub_self, e162, hpP, Nat.add_mul]; omega)) ?_
                        exact rt_l hx hb hrt hlocks (()) (by rw [← hcc, ← hQ]; unfold moR; rw [if_neg (by omega), if_pos e162, if_neg (by omega)]) (hP.sub [0, 1, 2] rfl) (hK.sub [0, 1] rfl) (hD.sub [0, 1, 2] (by decide) rfl) hS d_Mod_rounded_244
                      · have e220 : ¬ j0 + c + 2 < kZ i + 2 := fun z => c220 ((lg_cmp_lt _ _).mpr ((pk_lLT (by omega) (by omega)).mpr z))
                        refine lv_iload hx hb d_Mod_rounded_223 (lv_at hl 6 rfl) ?_
                        refine ca_l [(md, .inr (5, [.ref xx, .int ln, .long R, .int rd, .ref mm, .ref nn, .int at0, .int en0])), (mm, .inl (cM, 3000, .inl (rw16 (upR V 0 (V 0 * 2 + 0))))), (nn, .inl (cN, 3, .inl (rc (upR V 0 (V 0 * 2 + 0)))))] (va_runS (As := [.int wd]) (rest := []) ⟨hx, hb, hml, hown, hts⟩ (c_Mod_infinite l D E wd H.size) (xS 1 hts kC_Mod_infinite kM_Mod_46 kT_Mod_infinite kN_Mod rfl rfl (by decide +kernel) ⟨Nat.le_of_ble_eq_true rfl, Nat.le_of_ble_eq_true rfl⟩) ⟨ct_blind hev, ct_pre hev hP hK hD hS hA hE [] rfl (by decide) [] rfl⟩ rfl rfl hl.1 rfl (lv_room (Nat.le_of_ble_eq_true rfl)) d_Mod_rounded_225 ⟨Nat.le_of_ble_eq_true rfl, Nat.le_of_ble_eq_true rfl⟩) hP hD hS hA [] [0, 1, 2] rfl rfl (by decide) (by decide) (fun rv u H locs hw hP hD hS hK1 => ?_)
                        subst hw
                        have hP : va_P D vcl [(md, .inr (5, [.ref xx, .int ln, .long R, .int rd, .ref mm, .ref nn, .int at0, .int en0])), (mm, .inl (cM, 3000, .inl (rw16 (upR V 0 (V 0 * 2 + 0))))), (nn, .inl (cN, 3, .inl (rc (upR V 0 (V 0 * 2 + 0)))))] H := hP
                        have hD : va_D A [(md, .inr (5, [.ref xx, .int ln, .long R, .int rd, .ref mm, .ref nn, .int at0, .int en0])), (mm, .inl (cM, 3000, .inl (rw16 (upR V 0 (V 0 * 2 + 0))))), (nn, .inl (cN, 3, .inl (rc (upR V 0 (V 0 * 2 + 0)))))] := hD
                        refine lv_goto (tgt := 244) hx hb d_Mod_rounded_228 (by decide) ?_
                        exact rt_l hx hb hrt hlocks (()) (by rw [← hcc, ← hQ]; unfold moR; rw [if_neg (by omega), if_pos e162, if_pos (by omega), hwd]; exact kf_I i hi) (hP.sub [0, 1, 2] rfl) (hK.sub [0, 1] rfl) (hD.sub [0, 1, 2] (by decide) rfl) hS d_Mod_rounded_244
                    · have e207 : i = 0 := by rw [← hwd]; exact if_neg c207
                      refine lv_ldc2 hx hb hown (hts _ kK_Mod_70) d_Mod_rounded_210 ?_
                      refine tv_l (lN (kZ i + 2)) (by rw [e207]; rfl) ?_
                      refine lv_goto (tgt := 219) hx hb d_Mod_rounded_213 (by decide) ?_
                      refine W.lcmp hx hb d_Mod_rounded_219 ?_
                      refine lv_if_lt (tgt := 231) hx hb d_Mod_rounded_220 (by decide) (fun c220 => ?_) (fun c220 => ?_)
                      · have e220 : j0 + c + 2 < kZ i + 2 := (pk_lLT (by omega) (by omega)).mp ((lg_cmp_lt _ _).mp c220)
                        refine lv_lload hx hb d_Mod_rounded_231 (lv_at hl 0 rfl) ?_
                        refine lv_iload hx hb d_Mod_rounded_233 (lv_at hl 7 rfl) ?_
                        refine lv_iconst (v := 1) hx hb d_Mod_rounded_235 (by decide) ?_
                        refine lv_isub hx hb d_Mod_rounded_236 ?_
                        refine tv_i (nI (kP i - 1)) (nI_dec (by omega)) ?_
                        refine lv_lshl (v := lN ((j0 + c + 2) * 2 ^ (kP i - 1))) hx hb d_Mod_rounded_237 (wb_shl _ (by omega)) ?_
                        refine lv_lload hx hb d_Mod_rounded_238 (lv_at hl 3 rfl) ?_
                        refine lv_lload hx hb d_Mod_rounded_240 (lv_at hl 1 rfl) ?_
                        refine lv_lsub hx hb d_Mod_rounded_242 ?_
                        refine lv_ladd hx hb d_Mod_rounded_243 ?_
                        refine tv_l (lN ((j0 + c) * 2 ^ (kP i - 1) + Q)) (by rw [lN_sub (Nat.le_refl _), lN_add]; exact congrArg lN (by rw [Nat.sub_self, e162, hpP, Nat.add_mul]; omega)) ?_
                        exact rt_l hx hb hrt hlocks (()) (by rw [← hcc, ← hQ]; unfold moR; rw [if_neg (by omega), if_pos e162, if_neg (by omega)]) (hP.sub [0, 1, 2] rfl) (hK.sub [0, 1] rfl) (hD.sub [0, 1, 2] (by decide) rfl) hS d_Mod_rounded_244
                      · have e220 : ¬ j0 + c + 2 < kZ i + 2 := fun z => c220 ((lg_cmp_lt _ _).mpr ((pk_lLT (by omega) (by omega)).mpr z))
                        refine lv_iload hx hb d_Mod_rounded_223 (lv_at hl 6 rfl) ?_
                        refine ca_l [(md, .inr (5, [.ref xx, .int ln, .long R, .int rd, .ref mm, .ref nn, .int at0, .int en0])), (mm, .inl (cM, 3000, .inl (rw16 (upR V 0 (V 0 * 2 + 0))))), (nn, .inl (cN, 3, .inl (rc (upR V 0 (V 0 * 2 + 0)))))] (va_runS (As := [.int wd]) (rest := []) ⟨hx, hb, hml, hown, hts⟩ (c_Mod_infinite l D E wd H.size) (xS 1 hts kC_Mod_infinite kM_Mod_46 kT_Mod_infinite kN_Mod rfl rfl (by decide +kernel) ⟨Nat.le_of_ble_eq_true rfl, Nat.le_of_ble_eq_true rfl⟩) ⟨ct_blind hev, ct_pre hev hP hK hD hS hA hE [] rfl (by decide) [] rfl⟩ rfl rfl hl.1 rfl (lv_room (Nat.le_of_ble_eq_true rfl)) d_Mod_rounded_225 ⟨Nat.le_of_ble_eq_true rfl, Nat.le_of_ble_eq_true rfl⟩) hP hD hS hA [] [0, 1, 2] rfl rfl (by decide) (by decide) (fun rv u H locs hw hP hD hS hK1 => ?_)
                        subst hw
                        have hP : va_P D vcl [(md, .inr (5, [.ref xx, .int ln, .long R, .int rd, .ref mm, .ref nn, .int at0, .int en0])), (mm, .inl (cM, 3000, .inl (rw16 (upR V 0 (V 0 * 2 + 0))))), (nn, .inl (cN, 3, .inl (rc (upR V 0 (V 0 * 2 + 0)))))] H := hP
                        have hD : va_D A [(md, .inr (5, [.ref xx, .int ln, .long R, .int rd, .ref mm, .ref nn, .int at0, .int en0])), (mm, .inl (cM, 3000, .inl (rw16 (upR V 0 (V 0 * 2 + 0))))), (nn, .inl (cN, 3, .inl (rc (upR V 0 (V 0 * 2 + 0)))))] := hD
                        refine lv_goto (tgt := 244) hx hb d_Mod_rounded_228 (by decide) ?_
                        exact rt_l hx hb hrt hlocks (()) (by rw [← hcc, ← hQ]; unfold moR; rw [if_neg (by omega), if_pos e162, if_pos (by omega), hwd]; exact kf_I i hi) (hP.sub [0, 1, 2] rfl) (hK.sub [0, 1] rfl) (hD.sub [0, 1, 2] (by decide) rfl) hS d_Mod_rounded_244
                  · have e187 : ¬ 2 ^ (kP i - 1) ≤ 2 ^ (kP i - 1) := fun z => c187 ((lg_cmp_ge _ _).mpr ((pk_lLE (by omega) (by omega)).mpr z))
                    refine lv_lload hx hb d_Mod_rounded_190 (lv_at hl 2 rfl) ?_
                    exact rt_l hx hb hrt hlocks (()) (absurd (Nat.le_refl _) e187) (hP.sub [0, 1, 2] rfl) (hK.sub [0, 1] rfl) (hD.sub [0, 1, 2] (by decide) rfl) hS d_Mod_rounded_192
    refine lv_lload hx hb d_Mod_rounded_37 (lv_at hl 3 rfl) ?_
    refine lv_lconst (v := 1) hx hb d_Mod_rounded_39 (by decide) ?_
    refine lv_iload hx hb d_Mod_rounded_40 (lv_at hl 8 rfl) ?_
    refine lv_lshl (v := lN (2 ^ kP i)) hx hb d_Mod_rounded_42 (shl1 (by omega)) ?_
    refine W.lcmp hx hb d_Mod_rounded_43 ?_
    refine lv_if_lt (tgt := 113) hx hb d_Mod_rounded_44 (by decide) (fun c44 => ?_) (fun c44 => ?_)
    · have e44 : q < 2 ^ kP i := (pk_lLT (by omega) (by omega)).mp ((lg_cmp_lt _ _).mp c44)
      exact L113 1 q 0 (cmpN (V 0 * 2) (V 1)) (by decide) (by decide) (e44) (fun z => r0_up hr z) (fun z => r0_dn hr z) (by rw [if_pos e44]) _ _ _ (hP.sub [0, 1, 2] rfl) (hD.sub [0, 1, 2] (by decide) rfl) hS (lv_sub hl [4, 7, 8, 9, 3, 2, 0] rfl)
    · have e44 : 2 ^ kP i ≤ q := Nat.le_of_not_lt (fun z => c44 ((lg_cmp_lt _ _).mpr ((pk_lLT (by omega) (by omega)).mpr z)))
      refine lv_lload hx hb d_Mod_rounded_47 (lv_at hl 3 rfl) ?_
      refine lv_lconst (v := 1) hx hb d_Mod_rounded_49 (by decide) ?_
      refine lv_land hx hb d_Mod_rounded_50 ?_
      refine tv_l (lN (q % 2)) (wb_a1 (by omega)) ?_
      refine lv_lconst (v := 1) hx hb d_Mod_rounded_51 (by decide) ?_
      refine W.lcmp hx hb d_Mod_rounded_52 ?_
      refine lv_if_ne (tgt := 60) hx hb d_Mod_rounded_53 (by decide) (fun c53 => ?_) (fun c53 => ?_)
      · have e53 : q % 2 = 0 := by have : q % 2 ≠ 1 := fun z => c53 ((lg_cmp_eq _ _).mpr (by rw [z]; rfl)); omega
        refine lv_iconst (v := 0) hx hb d_Mod_rounded_60 (by decide) ?_
        refine lv_istore (lv' := [(12, .int 0), (11, .int (cmpN (V 0 * 2) (V 1))), (10, .int (bI (decide (V 0 ≠ 0)))), (9, .int (zI ((j0 : Int) + (0 : Nat) - kLw i))), (7, .long (lN q)), (0, .ref md), (1, .long (lN q)), (3, .int (zI ((j0 : Int) + (0 : Nat) - kLw i))), (4, .int wd), (5, .int (nI (kP i))), (6, .int (zI (-(kLw i : Int))))]) hx hb d_Mod_rounded_61 hl (by decide) rfl (fun ls hl => ?_)
        refine lv_iload hx hb d_Mod_rounded_63 (lv_at hl 0 rfl) ?_
        refine lv_if_eq (tgt := 81) hx hb d_Mod_rounded_65 (by decide) (fun c65 => ?_) (fun c65 => ?_)
        · refine lv_iconst (v := -1) hx hb d_Mod_rounded_81 (by decide) ?_
          refine lv_istore (lv' := [(11, .int (-1)), (12, .int 0), (10, .int (bI (decide (V 0 ≠ 0)))), (9, .int (zI ((j0 : Int) + (0 : Nat) - kLw i))), (7, .long (lN q)), (0, .ref md), (1, .long (lN q)), (3, .int (zI ((j0 : Int) + (0 : Nat) - kLw i))), (4, .int wd), (5, .int (nI (kP i))), (6, .int (zI (-(kLw i : Int))))]) hx hb d_Mod_rounded_82 hl (by decide) rfl (fun ls hl => ?_)
          refine lv_iload hx hb d_Mod_rounded_84 (lv_at hl 2 rfl) ?_
          refine lv_if_ne (tgt := 94) hx hb d_Mod_rounded_86 (by decide) (fun c86 => ?_) (fun c86 => ?_)
          · refine lv_iconst (v := 1) hx hb d_Mod_rounded_94 (by decide) ?_
            refine lv_goto (tgt := 99) hx hb d_Mod_rounded_95 (by decide) ?_
            refine lv_istore (lv' := [(10, .int 1), (11, .int (-1)), (12, .int 0), (9, .int (zI ((j0 : Int) + (0 : Nat) - kLw i))), (7, .long (lN q)), (0, .ref md), (1, .long (lN q)), (3, .int (zI ((j0 : Int) + (0 : Nat) - kLw i))), (4, .int wd), (5, .int (nI (kP i))), (6, .int (zI (-(kLw i : Int))))]) hx hb d_Mod_rounded_99 hl (by decide) rfl (fun ls hl => ?_)
            refine lv_lload hx hb d_Mod_rounded_101 (lv_at hl 4 rfl) ?_
            refine lv_iconst (v := 1) hx hb d_Mod_rounded_103 (by decide) ?_
            refine lv_lshr (v := lN (q / 2)) hx hb d_Mod_rounded_104 (sar1 (by omega)) ?_
            refine lv_lstore (lv' := [(7, .long (lN (q / 2))), (10, .int 1), (11, .int (-1)), (12, .int 0), (9, .int (zI ((j0 : Int) + (0 : Nat) - kLw i))), (0, .ref md), (1, .long (lN q)), (3, .int (zI ((j0 : Int) + (0 : Nat) - kLw i))), (4, .int wd), (5, .int (nI (kP i))), (6, .int (zI (-(kLw i : Int))))]) hx hb d_Mod_rounded_105 hl (by decide) rfl (fun ls hl => ?_)
            refine lv_iinc (v := zI ((j0 : Int) + (1 : Nat) - kLw i)) (lv' := [(9, .int (zI ((j0 : Int) + (1 : Nat) - kLw i))), (7, .long (lN (q / 2))), (10, .int 1), (11, .int (-1)), (12, .int 0), (0, .ref md), (1, .long (lN q)), (3, .int (zI ((j0 : Int) + (0 : Nat) - kLw i))), (4, .int wd), (5, .int (nI (kP i))), (6, .int (zI (-(kLw i : Int))))]) hx hb d_Mod_rounded_107 hl (k := 4) rfl (by show zI _ + zI 1 = _; rw [zI_add]; exact congrArg zI (by omega)) (by decide) rfl (fun ls hl => ?_)
            refine lv_goto (tgt := 37) hx hb d_Mod_rounded_110 (by decide) ?_
            refine lv_lload hx hb d_Mod_rounded_37 (lv_at hl 1 rfl) ?_
            refine lv_lconst (v := 1) hx hb d_Mod_rounded_39 (by decide) ?_
            refine lv_iload hx hb d_Mod_rounded_40 (lv_at hl 9 rfl) ?_
            refine lv_lshl (v := lN (2 ^ kP i)) hx hb d_Mod_rounded_42 (shl1 (by omega)) ?_
            refine W.lcmp hx hb d_Mod_rounded_43 ?_
            refine lv_if_lt (tgt := 113) hx hb d_Mod_rounded_44 (by decide) (fun c44 => ?_) (fun c44 => ?_)
            · exact L113 1 (q / 2) 1 (-1) (by decide) (by decide) (by omega) (fun z => z.elim (fun y => absurd y (by decide)) (fun y => absurd y.1 (by decide))) (fun _ => r1_even hr e53) (by rw [if_neg (by omega)]) _ _ _ (hP.sub [0, 1, 2] rfl) (hD.sub [0, 1, 2] (by decide) rfl) hS (lv_sub hl [5, 8, 9, 10, 1, 0, 3] rfl)
            · exact absurd ((lg_cmp_lt _ _).mpr ((pk_lLT (by omega) (by omega)).mpr (show q / 2 < 2 ^ kP i by omega))) c44
          · refine lv_iload hx hb d_Mod_rounded_89 (lv_at hl 1 rfl) ?_
            refine lv_if_eq (tgt := 98) hx hb d_Mod_rounded_91 (by decide) (fun c91 => ?_) (fun c91 => ?_)
            · refine lv_iconst (v := 0) hx hb d_Mod_rounded_98 (by decide) ?_
              refine lv_istore (lv' := [(10, .int 0), (11, .int (-1)), (12, .int 0), (9, .int (zI ((j0 : Int) + (0 : Nat) - kLw i))), (7, .long (lN q)), (0, .ref md), (1, .long (lN q)), (3, .int (zI ((j0 : Int) + (0 : Nat) - kLw i))), (4, .int wd), (5, .int (nI (kP i))), (6, .int (zI (-(kLw i : Int))))]) hx hb d_Mod_rounded_99 hl (by decide) rfl (fun ls hl => ?_)
              refine lv_lload hx hb d_Mod_rounded_101 (lv_at hl 4 rfl) ?_
              refine lv_iconst (v := 1) hx hb d_Mod_rounded_103 (by decide) ?_
              refine lv_lshr (v := lN (q / 2)) hx hb d_Mod_rounded_104 (sar1 (by omega)) ?_
              refine lv_lstore (lv' := [(7, .long (lN (q / 2))), (10, .int 0), (11, .int (-1)), (12, .int 0), (9, .int (zI ((j0 : Int) + (0 : Nat) - kLw i))), (0, .ref md), (1, .long (lN q)), (3, .int (zI ((j0 : Int) + (0 : Nat) - kLw i))), (4, .int wd), (5, .int (nI (kP i))), (6, .int (zI (-(kLw i : Int))))]) hx hb d_Mod_rounded_105 hl (by decide) rfl (fun ls hl => ?_)
              refine lv_iinc (v := zI ((j0 : Int) + (1 : Nat) - kLw i)) (lv' := [(9, .int (zI ((j0 : Int) + (1 : Nat) - kLw i))), (7, .long (lN (q / 2))), (10, .int 0), (11, .int (-1)), (12, .int 0), (0, .ref md), (1, .long (lN q)), (3, .int (zI ((j0 : Int) + (0 : Nat) - kLw i))), (4, .int wd), (5, .int (nI (kP i))), (6, .int (zI (-(kLw i : Int))))]) hx hb d_Mod_rounded_107 hl (k := 4) rfl (by show zI _ + zI 1 = _; rw [zI_add]; exact congrArg zI (by omega)) (by decide) rfl (fun ls hl => ?_)
              refine lv_goto (tgt := 37) hx hb d_Mod_rounded_110 (by decide) ?_
              refine lv_lload hx hb d_Mod_rounded_37 (lv_at hl 1 rfl) ?_
              refine lv_lconst (v := 1) hx hb d_Mod_rounded_39 (by decide) ?_
              refine lv_iload hx hb d_Mod_rounded_40 (lv_at hl 9 rfl) ?_
              refine lv_lshl (v := lN (2 ^ kP i)) hx hb d_Mod_rounded_42 (shl1 (by omega)) ?_
              refine W.lcmp hx hb d_Mod_rounded_43 ?_
              refine lv_if_lt (tgt := 113) hx hb d_Mod_rounded_44 (by decide) (fun c44 => ?_) (fun c44 => ?_)
              · exact L113 1 (q / 2) 1 (-1) (by decide) (by decide) (by omega) (fun z => z.elim (fun y => absurd y (by decide)) (fun y => absurd y.1 (by decide))) (fun _ => r1_even hr e53) (by rw [if_neg (by omega)]) _ _ _ (hP.sub [0, 1, 2] rfl) (hD.sub [0, 1, 2] (by decide) rfl) hS (lv_sub hl [5, 8, 9, 10, 1, 0, 3] rfl)
              · exact absurd ((lg_cmp_lt _ _).mpr ((pk_lLT (by omega) (by omega)).mpr (show q / 2 < 2 ^ kP i by omega))) c44
            · refine lv_iconst (v := 1) hx hb d_Mod_rounded_94 (by decide) ?_
              refine lv_goto (tgt := 99) hx hb d_Mod_rounded_95 (by decide) ?_
              refine lv_istore (lv' := [(10, .int 1), (11, .int (-1)), (12, .int 0), (9, .int (zI ((j0 : Int) + (0 : Nat) - kLw i))), (7, .long (lN q)), (0, .ref md), (1, .long (lN q)), (3, .int (zI ((j0 : Int) + (0 : Nat) - kLw i))), (4, .int wd), (5, .int (nI (kP i))), (6, .int (zI (-(kLw i : Int))))]) hx hb d_Mod_rounded_99 hl (by decide) rfl (fun ls hl => ?_)
              refine lv_lload hx hb d_Mod_rounded_101 (lv_at hl 4 rfl) ?_
              refine lv_iconst (v := 1) hx hb d_Mod_rounded_103 (by decide) ?_
              refine lv_lshr (v := lN (q / 2)) hx hb d_Mod_rounded_104 (sar1 (by omega)) ?_
              refine lv_lstore (lv' := [(7, .long (lN (q / 2))), (10, .int 1), (11, .int (-1)), (12, .int 0), (9, .int (zI ((j0 : Int) + (0 : Nat) - kLw i))), (0, .ref md), (1, .long (lN q)), (3, .int (zI ((j0 : Int) + (0 : Nat) - kLw i))), (4, .int wd), (5, .int (nI (kP i))), (6, .int (zI (-(kLw i : Int))))]) hx hb d_Mod_rounded_105 hl (by decide) rfl (fun ls hl => ?_)
              refine lv_iinc (v := zI ((j0 : Int) + (1 : Nat) - kLw i)) (lv' := [(9, .int (zI ((j0 : Int) + (1 : Nat) - kLw i))), (7, .long (lN (q / 2))), (10, .int 1), (11, .int (-1)), (12, .int 0), (0, .ref md), (1, .long (lN q)), (3, .int (zI ((j0 : Int) + (0 : Nat) - kLw i))), (4, .int wd), (5, .int (nI (kP i))), (6, .int (zI (-(kLw i : Int))))]) hx hb d_Mod_rounded_107 hl (k := 4) rfl (by show zI _ + zI 1 = _; rw [zI_add]; exact congrArg zI (by omega)) (by decide) rfl (fun ls hl => ?_)
              refine lv_goto (tgt := 37) hx hb d_Mod_rounded_110 (by decide) ?_
              refine lv_lload hx hb d_Mod_rounded_37 (lv_at hl 1 rfl) ?_
              refine lv_lconst (v := 1) hx hb d_Mod_rounded_39 (by decide) ?_
              refine lv_iload hx hb d_Mod_rounded_40 (lv_at hl 9 rfl) ?_
              refine lv_lshl (v := lN (2 ^ kP i)) hx hb d_Mod_rounded_42 (shl1 (by omega)) ?_
              refine W.lcmp hx hb d_Mod_rounded_43 ?_
              refine lv_if_lt (tgt := 113) hx hb d_Mod_rounded_44 (by decide) (fun c44 => ?_) (fun c44 => ?_)
              · exact L113 1 (q / 2) 1 (-1) (by decide) (by decide) (by omega) (fun z => z.elim (fun y => absurd y (by decide)) (fun y => absurd y.1 (by decide))) (fun _ => r1_even hr e53) (by rw [if_neg (by omega)]) _ _ _ (hP.sub [0, 1, 2] rfl) (hD.sub [0, 1, 2] (by decide) rfl) hS (lv_sub hl [5, 8, 9, 10, 1, 0, 3] rfl)
              · exact absurd ((lg_cmp_lt _ _).mpr ((pk_lLT (by omega) (by omega)).mpr (show q / 2 < 2 ^ kP i by omega))) c44
        · exact absurd rfl c65
      · have e53 : q % 2 = 1 := (pk_lEQ (b := 1) (by omega) (by decide)).mp ((lg_cmp_eq _ _).mp c53)
        refine lv_iconst (v := 1) hx hb d_Mod_rounded_56 (by decide) ?_
        refine lv_goto (tgt := 61) hx hb d_Mod_rounded_57 (by decide) ?_
        refine lv_istore (lv' := [(12, .int 1), (11, .int (cmpN (V 0 * 2) (V 1))), (10, .int (bI (decide (V 0 ≠ 0)))), (9, .int (zI ((j0 : Int) + (0 : Nat) - kLw i))), (7, .long (lN q)), (0, .ref md), (1, .long (lN q)), (3, .int (zI ((j0 : Int) + (0 : Nat) - kLw i))), (4, .int wd), (5, .int (nI (kP i))), (6, .int (zI (-(kLw i : Int))))]) hx hb d_Mod_rounded_61 hl (by decide) rfl (fun ls hl => ?_)
        refine lv_iload hx hb d_Mod_rounded_63 (lv_at hl 0 rfl) ?_
        refine lv_if_eq (tgt := 81) hx hb d_Mod_rounded_65 (by decide) (fun c65 => ?_) (fun c65 => ?_)
        · exact absurd c65 (by decide)
        · refine lv_iload hx hb d_Mod_rounded_68 (lv_at hl 2 rfl) ?_
          refine lv_if_eq (tgt := 77) hx hb d_Mod_rounded_70 (by decide) (fun c70 => ?_) (fun c70 => ?_)
          · have e70 : V 0 = 0 := by have h9 : ¬ V 0 ≠ 0 := of_decide_eq_false ((bI_0 _).mp c70); omega
            refine lv_iconst (v := 0) hx hb d_Mod_rounded_77 (by decide) ?_
            refine lv_goto (tgt := 82) hx hb d_Mod_rounded_78 (by decide) ?_
            refine lv_istore (lv' := [(11, .int 0), (12, .int 1), (10, .int (bI (decide (V 0 ≠ 0)))), (9, .int (zI ((j0 : Int) + (0 : Nat) - kLw i))), (7, .long (lN q)), (0, .ref md), (1, .long (lN q)), (3, .int (zI ((j0 : Int) + (0 : Nat) - kLw i))), (4, .int wd), (5, .int (nI (kP i))), (6, .int (zI (-(kLw i : Int))))]) hx hb d_Mod_rounded_82 hl (by decide) rfl (fun ls hl => ?_)
            refine lv_iload hx hb d_Mod_rounded_84 (lv_at hl 2 rfl) ?_
            refine lv_if_ne (tgt := 94) hx hb d_Mod_rounded_86 (by decide) (fun c86 => ?_) (fun c86 => ?_)
            · refine lv_iconst (v := 1) hx hb d_Mod_rounded_94 (by decide) ?_
              refine lv_goto (tgt := 99) hx hb d_Mod_rounded_95 (by decide) ?_
              refine lv_istore (lv' := [(10, .int 1), (11, .int 0), (12, .int 1), (9, .int (zI ((j0 : Int) + (0 : Nat) - kLw i))), (7, .long (lN q)), (0, .ref md), (1, .long (lN q)), (3, .int (zI ((j0 : Int) + (0 : Nat) - kLw i))), (4, .int wd), (5, .int (nI (kP i))), (6, .int (zI (-(kLw i : Int))))]) hx hb d_Mod_rounded_99 hl (by decide) rfl (fun ls hl => ?_)
              refine lv_lload hx hb d_Mod_rounded_101 (lv_at hl 4 rfl) ?_
              refine lv_iconst (v := 1) hx hb d_Mod_rounded_103 (by decide) ?_
              refine lv_lshr (v := lN (q / 2)) hx hb d_Mod_rounded_104 (sar1 (by omega)) ?_
              refine lv_lstore (lv' := [(7, .long (lN (q / 2))), (10, .int 1), (11, .int 0), (12, .int 1), (9, .int (zI ((j0 : Int) + (0 : Nat) - kLw i))), (0, .ref md), (1, .long (lN q)), (3, .int (zI ((j0 : Int) + (0 : Nat) - kLw i))), (4, .int wd), (5, .int (nI (kP i))), (6, .int (zI (-(kLw i : Int))))]) hx hb d_Mod_rounded_105 hl (by decide) rfl (fun ls hl => ?_)
              refine lv_iinc (v := zI ((j0 : Int) + (1 : Nat) - kLw i)) (lv' := [(9, .int (zI ((j0 : Int) + (1 : Nat) - kLw i))), (7, .long (lN (q / 2))), (10, .int 1), (11, .int 0), (12, .int 1), (0, .ref md), (1, .long (lN q)), (3, .int (zI ((j0 : Int) + (0 : Nat) - kLw i))), (4, .int wd), (5, .int (nI (kP i))), (6, .int (zI (-(kLw i : Int))))]) hx hb d_Mod_rounded_107 hl (k := 4) rfl (by show zI _ + zI 1 = _; rw [zI_add]; exact congrArg zI (by omega)) (by decide) rfl (fun ls hl => ?_)
              refine lv_goto (tgt := 37) hx hb d_Mod_rounded_110 (by decide) ?_
              refine lv_lload hx hb d_Mod_rounded_37 (lv_at hl 1 rfl) ?_
              refine lv_lconst (v := 1) hx hb d_Mod_rounded_39 (by decide) ?_
              refine lv_iload hx hb d_Mod_rounded_40 (lv_at hl 9 rfl) ?_
              refine lv_lshl (v := lN (2 ^ kP i)) hx hb d_Mod_rounded_42 (shl1 (by omega)) ?_
              refine W.lcmp hx hb d_Mod_rounded_43 ?_
              refine lv_if_lt (tgt := 113) hx hb d_Mod_rounded_44 (by decide) (fun c44 => ?_) (fun c44 => ?_)
              · exact L113 1 (q / 2) 1 0 (by decide) (by decide) (by omega) (fun z => r1_tie hr e53 e70 (z.elim (fun y => absurd y (by decide)) (fun y => y.2))) (fun z => r1_tie2 hr e53 e70 (fun y => z (Or.inr ⟨rfl, y⟩))) (by rw [if_neg (by omega)]) _ _ _ (hP.sub [0, 1, 2] rfl) (hD.sub [0, 1, 2] (by decide) rfl) hS (lv_sub hl [5, 8, 9, 10, 1, 0, 3] rfl)
              · exact absurd ((lg_cmp_lt _ _).mpr ((pk_lLT (by omega) (by omega)).mpr (show q / 2 < 2 ^ kP i by omega))) c44
            · refine lv_iload hx hb d_Mod_rounded_89 (lv_at hl 1 rfl) ?_
              refine lv_if_eq (tgt := 98) hx hb d_Mod_rounded_91 (by decide) (fun c91 => ?_) (fun c91 => ?_)
              · refine lv_iconst (v := 0) hx hb d_Mod_rounded_98 (by decide) ?_
                refine lv_istore (lv' := [(10, .int 0), (11, .int 0), (12, .int 1), (9, .int (zI ((j0 : Int) + (0 : Nat) - kLw i))), (7, .long (lN q)), (0, .ref md), (1, .long (lN q)), (3, .int (zI ((j0 : Int) + (0 : Nat) - kLw i))), (4, .int wd), (5, .int (nI (kP i))), (6, .int (zI (-(kLw i : Int))))]) hx hb d_Mod_rounded_99 hl (by decide) rfl (fun ls hl => ?_)
                refine lv_lload hx hb d_Mod_rounded_101 (lv_at hl 4 rfl) ?_
                refine lv_iconst (v := 1) hx hb d_Mod_rounded_103 (by decide) ?_
                refine lv_lshr (v := lN (q / 2)) hx hb d_Mod_rounded_104 (sar1 (by omega)) ?_
                refine lv_lstore (lv' := [(7, .long (lN (q / 2))), (10, .int 0), (11, .int 0), (12, .int 1), (9, .int (zI ((j0 : Int) + (0 : Nat) - kLw i))), (0, .ref md), (1, .long (lN q)), (3, .int (zI ((j0 : Int) + (0 : Nat) - kLw i))), (4, .int wd), (5, .int (nI (kP i))), (6, .int (zI (-(kLw i : Int))))]) hx hb d_Mod_rounded_105 hl (by decide) rfl (fun ls hl => ?_)
                refine lv_iinc (v := zI ((j0 : Int) + (1 : Nat) - kLw i)) (lv' := [(9, .int (zI ((j0 : Int) + (1 : Nat) - kLw i))), (7, .long (lN (q / 2))), (10, .int 0), (11, .int 0), (12, .int 1), (0, .ref md), (1, .long (lN q)), (3, .int (zI ((j0 : Int) + (0 : Nat) - kLw i))), (4, .int wd), (5, .int (nI (kP i))), (6, .int (zI (-(kLw i : Int))))]) hx hb d_Mod_rounded_107 hl (k := 4) rfl (by show zI _ + zI 1 = _; rw [zI_add]; exact congrArg zI (by omega)) (by decide) rfl (fun ls hl => ?_)
                refine lv_goto (tgt := 37) hx hb d_Mod_rounded_110 (by decide) ?_
                refine lv_lload hx hb d_Mod_rounded_37 (lv_at hl 1 rfl) ?_
                refine lv_lconst (v := 1) hx hb d_Mod_rounded_39 (by decide) ?_
                refine lv_iload hx hb d_Mod_rounded_40 (lv_at hl 9 rfl) ?_
                refine lv_lshl (v := lN (2 ^ kP i)) hx hb d_Mod_rounded_42 (shl1 (by omega)) ?_
                refine W.lcmp hx hb d_Mod_rounded_43 ?_
                refine lv_if_lt (tgt := 113) hx hb d_Mod_rounded_44 (by decide) (fun c44 => ?_) (fun c44 => ?_)
                · exact L113 1 (q / 2) 1 0 (by decide) (by decide) (by omega) (fun z => r1_tie hr e53 e70 (z.elim (fun y => absurd y (by decide)) (fun y => y.2))) (fun z => r1_tie2 hr e53 e70 (fun y => z (Or.inr ⟨rfl, y⟩))) (by rw [if_neg (by omega)]) _ _ _ (hP.sub [0, 1, 2] rfl) (hD.sub [0, 1, 2] (by decide) rfl) hS (lv_sub hl [5, 8, 9, 10, 1, 0, 3] rfl)
                · exact absurd ((lg_cmp_lt _ _).mpr ((pk_lLT (by omega) (by omega)).mpr (show q / 2 < 2 ^ kP i by omega))) c44
              · refine lv_iconst (v := 1) hx hb d_Mod_rounded_94 (by decide) ?_
                refine lv_goto (tgt := 99) hx hb d_Mod_rounded_95 (by decide) ?_
                refine lv_istore (lv' := [(10, .int 1), (11, .int 0), (12, .int 1), (9, .int (zI ((j0 : Int) + (0 : Nat) - kLw i))), (7, .long (lN q)), (0, .ref md), (1, .long (lN q)), (3, .int (zI ((j0 : Int) + (0 : Nat) - kLw i))), (4, .int wd), (5, .int (nI (kP i))), (6, .int (zI (-(kLw i : Int))))]) hx hb d_Mod_rounded_99 hl (by decide) rfl (fun ls hl => ?_)
                refine lv_lload hx hb d_Mod_rounded_101 (lv_at hl 4 rfl) ?_
                refine lv_iconst (v := 1) hx hb d_Mod_rounded_103 (by decide) ?_
                refine lv_lshr (v := lN (q / 2)) hx hb d_Mod_rounded_104 (sar1 (by omega)) ?_
                refine lv_lstore (lv' := [(7, .long (lN (q / 2))), (10, .int 1), (11, .int 0), (12, .int 1), (9, .int (zI ((j0 : Int) + (0 : Nat) - kLw i))), (0, .ref md), (1, .long (lN q)), (3, .int (zI ((j0 : Int) + (0 : Nat) - kLw i))), (4, .int wd), (5, .int (nI (kP i))), (6, .int (zI (-(kLw i : Int))))]) hx hb d_Mod_rounded_105 hl (by decide) rfl (fun ls hl => ?_)
                refine lv_iinc (v := zI ((j0 : Int) + (1 : Nat) - kLw i)) (lv' := [(9, .int (zI ((j0 : Int) + (1 : Nat) - kLw i))), (7, .long (lN (q / 2))), (10, .int 1), (11, .int 0), (12, .int 1), (0, .ref md), (1, .long (lN q)), (3, .int (zI ((j0 : Int) + (0 : Nat) - kLw i))), (4, .int wd), (5, .int (nI (kP i))), (6, .int (zI (-(kLw i : Int))))]) hx hb d_Mod_rounded_107 hl (k := 4) rfl (by show zI _ + zI 1 = _; rw [zI_add]; exact congrArg zI (by omega)) (by decide) rfl (fun ls hl => ?_)
                refine lv_goto (tgt := 37) hx hb d_Mod_rounded_110 (by decide) ?_
                refine lv_lload hx hb d_Mod_rounded_37 (lv_at hl 1 rfl) ?_
                refine lv_lconst (v := 1) hx hb d_Mod_rounded_39 (by decide) ?_
                refine lv_iload hx hb d_Mod_rounded_40 (lv_at hl 9 rfl) ?_
                refine lv_lshl (v := lN (2 ^ kP i)) hx hb d_Mod_rounded_42 (shl1 (by omega)) ?_
                refine W.lcmp hx hb d_Mod_rounded_43 ?_
                refine lv_if_lt (tgt := 113) hx hb d_Mod_rounded_44 (by decide) (fun c44 => ?_) (fun c44 => ?_)
                · exact L113 1 (q / 2) 1 0 (by decide) (by decide) (by omega) (fun z => r1_tie hr e53 e70 (z.elim (fun y => absurd y (by decide)) (fun y => y.2))) (fun z => r1_tie2 hr e53 e70 (fun y => z (Or.inr ⟨rfl, y⟩))) (by rw [if_neg (by omega)]) _ _ _ (hP.sub [0, 1, 2] rfl) (hD.sub [0, 1, 2] (by decide) rfl) hS (lv_sub hl [5, 8, 9, 10, 1, 0, 3] rfl)
                · exact absurd ((lg_cmp_lt _ _).mpr ((pk_lLT (by omega) (by omega)).mpr (show q / 2 < 2 ^ kP i by omega))) c44
          · have e70 : V 0 ≠ 0 := of_decide_eq_true (tt_of (fun z => c70 ((bI_0 _).mpr z)))
            refine lv_iconst (v := 1) hx hb d_Mod_rounded_73 (by decide) ?_
            refine lv_goto (tgt := 82) hx hb d_Mod_rounded_74 (by decide) ?_
            refine lv_istore (lv' := [(11, .int 1), (12, .int 1), (10, .int (bI (decide (V 0 ≠ 0)))), (9, .int (zI ((j0 : Int) + (0 : Nat) - kLw i))), (7, .long (lN q)), (0, .ref md), (1, .long (lN q)), (3, .int (zI ((j0 : Int) + (0 : Nat) - kLw i))), (4, .int wd), (5, .int (nI (kP i))), (6, .int (zI (-(kLw i : Int))))]) hx hb d_Mod_rounded_82 hl (by decide) rfl (fun ls hl => ?_)
            refine lv_iload hx hb d_Mod_rounded_84 (lv_at hl 2 rfl) ?_
            refine lv_if_ne (tgt := 94) hx hb d_Mod_rounded_86 (by decide) (fun c86 => ?_) (fun c86 => ?_)
            · refine lv_iconst (v := 1) hx hb d_Mod_rounded_94 (by decide) ?_
              refine lv_goto (tgt := 99) hx hb d_Mod_rounded_95 (by decide) ?_
              refine lv_istore (lv' := [(10, .int 1), (11, .int 1), (12, .int 1), (9, .int (zI ((j0 : Int) + (0 : Nat) - kLw i))), (7, .long (lN q)), (0, .ref md), (1, .long (lN q)), (3, .int (zI ((j0 : Int) + (0 : Nat) - kLw i))), (4, .int wd), (5, .int (nI (kP i))), (6, .int (zI (-(kLw i : Int))))]) hx hb d_Mod_rounded_99 hl (by decide) rfl (fun ls hl => ?_)
              refine lv_lload hx hb d_Mod_rounded_101 (lv_at hl 4 rfl) ?_
              refine lv_iconst (v := 1) hx hb d_Mod_rounded_103 (by decide) ?_
              refine lv_lshr (v := lN (q / 2)) hx hb d_Mod_rounded_104 (sar1 (by omega)) ?_
              refine lv_lstore (lv' := [(7, .long (lN (q / 2))), (10, .int 1), (11, .int 1), (12, .int 1), (9, .int (zI ((j0 : Int) + (0 : Nat) - kLw i))), (0, .ref md), (1, .long (lN q)), (3, .int (zI ((j0 : Int) + (0 : Nat) - kLw i))), (4, .int wd), (5, .int (nI (kP i))), (6, .int (zI (-(kLw i : Int))))]) hx hb d_Mod_rounded_105 hl (by decide) rfl (fun ls hl => ?_)
              refine lv_iinc (v := zI ((j0 : Int) + (1 : Nat) - kLw i)) (lv' := [(9, .int (zI ((j0 : Int) + (1 : Nat) - kLw i))), (7, .long (lN (q / 2))), (10, .int 1), (11, .int 1), (12, .int 1), (0, .ref md), (1, .long (lN q)), (3, .int (zI ((j0 : Int) + (0 : Nat) - kLw i))), (4, .int wd), (5, .int (nI (kP i))), (6, .int (zI (-(kLw i : Int))))]) hx hb d_Mod_rounded_107 hl (k := 4) rfl (by show zI _ + zI 1 = _; rw [zI_add]; exact congrArg zI (by omega)) (by decide) rfl (fun ls hl => ?_)
              refine lv_goto (tgt := 37) hx hb d_Mod_rounded_110 (by decide) ?_
              refine lv_lload hx hb d_Mod_rounded_37 (lv_at hl 1 rfl) ?_
              refine lv_lconst (v := 1) hx hb d_Mod_rounded_39 (by decide) ?_
              refine lv_iload hx hb d_Mod_rounded_40 (lv_at hl 9 rfl) ?_
              refine lv_lshl (v := lN (2 ^ kP i)) hx hb d_Mod_rounded_42 (shl1 (by omega)) ?_
              refine W.lcmp hx hb d_Mod_rounded_43 ?_
              refine lv_if_lt (tgt := 113) hx hb d_Mod_rounded_44 (by decide) (fun c44 => ?_) (fun c44 => ?_)
              · exact L113 1 (q / 2) 1 1 (by decide) (by decide) (by omega) (fun _ => r1_more hr e53 e70) (fun z => absurd (Or.inl (by decide)) z) (by rw [if_neg (by omega)]) _ _ _ (hP.sub [0, 1, 2] rfl) (hD.sub [0, 1, 2] (by decide) rfl) hS (lv_sub hl [5, 8, 9, 10, 1, 0, 3] rfl)
              · exact absurd ((lg_cmp_lt _ _).mpr ((pk_lLT (by omega) (by omega)).mpr (show q / 2 < 2 ^ kP i by omega))) c44
            · refine lv_iload hx hb d_Mod_rounded_89 (lv_at hl 1 rfl) ?_
              refine lv_if_eq (tgt := 98) hx hb d_Mod_rounded_91 (by decide) (fun c91 => ?_) (fun c91 => ?_)
              · refine lv_iconst (v := 0) hx hb d_Mod_rounded_98 (by decide) ?_
                refine lv_istore (lv' := [(10, .int 0), (11, .int 1), (12, .int 1), (9, .int (zI ((j0 : Int) + (0 : Nat) - kLw i))), (7, .long (lN q)), (0, .ref md), (1, .long (lN q)), (3, .int (zI ((j0 : Int) + (0 : Nat) - kLw i))), (4, .int wd), (5, .int (nI (kP i))), (6, .int (zI (-(kLw i : Int))))]) hx hb d_Mod_rounded_99 hl (by decide) rfl (fun ls hl => ?_)
                refine lv_lload hx hb d_Mod_rounded_101 (lv_at hl 4 rfl) ?_
                refine lv_iconst (v := 1) hx hb d_Mod_rounded_103 (by decide) ?_
                refine lv_lshr (v := lN (q / 2)) hx hb d_Mod_rounded_104 (sar1 (by omega)) ?_
                refine lv_lstore (lv' := [(7, .long (lN (q / 2))), (10, .int 0), (11, .int 1), (12, .int 1), (9, .int (zI ((j0 : Int) + (0 : Nat) - kLw i))), (0, .ref md), (1, .long (lN q)), (3, .int (zI ((j0 : Int) + (0 : Nat) - kLw i))), (4, .int wd), (5, .int (nI (kP i))), (6, .int (zI (-(kLw i : Int))))]) hx hb d_Mod_rounded_105 hl (by decide) rfl (fun ls hl => ?_)
                refine lv_iinc (v := zI ((j0 : Int) + (1 : Nat) - kLw i)) (lv' := [(9, .int (zI ((j0 : Int) + (1 : Nat) - kLw i))), (7, .long (lN (q / 2))), (10, .int 0), (11, .int 1), (12, .int 1), (0, .ref md), (1, .long (lN q)), (3, .int (zI ((j0 : Int) + (0 : Nat) - kLw i))), (4, .int wd), (5, .int (nI (kP i))), (6, .int (zI (-(kLw i : Int))))]) hx hb d_Mod_rounded_107 hl (k := 4) rfl (by show zI _ + zI 1 = _; rw [zI_add]; exact congrArg zI (by omega)) (by decide) rfl (fun ls hl => ?_)
                refine lv_goto (tgt := 37) hx hb d_Mod_rounded_110 (by decide) ?_
                refine lv_lload hx hb d_Mod_rounded_37 (lv_at hl 1 rfl) ?_
                refine lv_lconst (v := 1) hx hb d_Mod_rounded_39 (by decide) ?_
                refine lv_iload hx hb d_Mod_rounded_40 (lv_at hl 9 rfl) ?_
                refine lv_lshl (v := lN (2 ^ kP i)) hx hb d_Mod_rounded_42 (shl1 (by omega)) ?_
                refine W.lcmp hx hb d_Mod_rounded_43 ?_
                refine lv_if_lt (tgt := 113) hx hb d_Mod_rounded_44 (by decide) (fun c44 => ?_) (fun c44 => ?_)
                · exact L113 1 (q / 2) 1 1 (by decide) (by decide) (by omega) (fun _ => r1_more hr e53 e70) (fun z => absurd (Or.inl (by decide)) z) (by rw [if_neg (by omega)]) _ _ _ (hP.sub [0, 1, 2] rfl) (hD.sub [0, 1, 2] (by decide) rfl) hS (lv_sub hl [5, 8, 9, 10, 1, 0, 3] rfl)
                · exact absurd ((lg_cmp_lt _ _).mpr ((pk_lLT (by omega) (by omega)).mpr (show q / 2 < 2 ^ kP i by omega))) c44
              · refine lv_iconst (v := 1) hx hb d_Mod_rounded_94 (by decide) ?_
                refine lv_goto (tgt := 99) hx hb d_Mod_rounded_95 (by decide) ?_
                refine lv_istore (lv' := [(10, .int 1), (11, .int 1), (12, .int 1), (9, .int (zI ((j0 : Int) + (0 : Nat) - kLw i))), (7, .long (lN q)), (0, .ref md), (1, .long (lN q)), (3, .int (zI ((j0 : Int) + (0 : Nat) - kLw i))), (4, .int wd), (5, .int (nI (kP i))), (6, .int (zI (-(kLw i : Int))))]) hx hb d_Mod_rounded_99 hl (by decide) rfl (fun ls hl => ?_)
                refine lv_lload hx hb d_Mod_rounded_101 (lv_at hl 4 rfl) ?_
                refine lv_iconst (v := 1) hx hb d_Mod_rounded_103 (by decide) ?_
                refine lv_lshr (v := lN (q / 2)) hx hb d_Mod_rounded_104 (sar1 (by omega)) ?_
                refine lv_lstore (lv' := [(7, .long (lN (q / 2))), (10, .int 1), (11, .int 1), (12, .int 1), (9, .int (zI ((j0 : Int) + (0 : Nat) - kLw i))), (0, .ref md), (1, .long (lN q)), (3, .int (zI ((j0 : Int) + (0 : Nat) - kLw i))), (4, .int wd), (5, .int (nI (kP i))), (6, .int (zI (-(kLw i : Int))))]) hx hb d_Mod_rounded_105 hl (by decide) rfl (fun ls hl => ?_)
                refine lv_iinc (v := zI ((j0 : Int) + (1 : Nat) - kLw i)) (lv' := [(9, .int (zI ((j0 : Int) + (1 : Nat) - kLw i))), (7, .long (lN (q / 2))), (10, .int 1), (11, .int 1), (12, .int 1), (0, .ref md), (1, .long (lN q)), (3, .int (zI ((j0 : Int) + (0 : Nat) - kLw i))), (4, .int wd), (5, .int (nI (kP i))), (6, .int (zI (-(kLw i : Int))))]) hx hb d_Mod_rounded_107 hl (k := 4) rfl (by show zI _ + zI 1 = _; rw [zI_add]; exact congrArg zI (by omega)) (by decide) rfl (fun ls hl => ?_)
                refine lv_goto (tgt := 37) hx hb d_Mod_rounded_110 (by decide) ?_
                refine lv_lload hx hb d_Mod_rounded_37 (lv_at hl 1 rfl) ?_
                refine lv_lconst (v := 1) hx hb d_Mod_rounded_39 (by decide) ?_
                refine lv_iload hx hb d_Mod_rounded_40 (lv_at hl 9 rfl) ?_
                refine lv_lshl (v := lN (2 ^ kP i)) hx hb d_Mod_rounded_42 (shl1 (by omega)) ?_
                refine W.lcmp hx hb d_Mod_rounded_43 ?_
                refine lv_if_lt (tgt := 113) hx hb d_Mod_rounded_44 (by decide) (fun c44 => ?_) (fun c44 => ?_)
                · exact L113 1 (q / 2) 1 1 (by decide) (by decide) (by omega) (fun _ => r1_more hr e53 e70) (fun z => absurd (Or.inl (by decide)) z) (by rw [if_neg (by omega)]) _ _ _ (hP.sub [0, 1, 2] rfl) (hD.sub [0, 1, 2] (by decide) rfl) hS (lv_sub hl [5, 8, 9, 10, 1, 0, 3] rfl)
                · exact absurd ((lg_cmp_lt _ _).mpr ((pk_lLT (by omega) (by omega)).mpr (show q / 2 < 2 ^ kP i by omega))) c44
