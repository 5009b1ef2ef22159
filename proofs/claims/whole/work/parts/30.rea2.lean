theorem d_Rea_nearestHexadecimal_0 : decode b_Rea_nearestHexadecimal 0 = .ok (.lconst 0, 1) := by decide +kernel
theorem d_Rea_nearestHexadecimal_1 : decode b_Rea_nearestHexadecimal 1 = .ok (.lstore_n 2, 1) := by decide +kernel
theorem d_Rea_nearestHexadecimal_2 : decode b_Rea_nearestHexadecimal 2 = .ok (.aload_n 0, 1) := by decide +kernel
theorem d_Rea_nearestHexadecimal_3 : decode b_Rea_nearestHexadecimal 3 = .ok (.getfield 10, 3) := by decide +kernel
theorem d_Rea_nearestHexadecimal_6 : decode b_Rea_nearestHexadecimal 6 = .ok (.getfield 125, 3) := by decide +kernel
theorem d_Rea_nearestHexadecimal_9 : decode b_Rea_nearestHexadecimal 9 = .ok (.istore 4, 2) := by decide +kernel
theorem d_Rea_nearestHexadecimal_11 : decode b_Rea_nearestHexadecimal 11 = .ok (.iconst 0, 1) := by decide +kernel
theorem d_Rea_nearestHexadecimal_12 : decode b_Rea_nearestHexadecimal 12 = .ok (.istore 5, 2) := by decide +kernel
theorem d_Rea_nearestHexadecimal_14 : decode b_Rea_nearestHexadecimal 14 = .ok (.iconst 0, 1) := by decide +kernel
theorem d_Rea_nearestHexadecimal_15 : decode b_Rea_nearestHexadecimal 15 = .ok (.istore 6, 2) := by decide +kernel
theorem d_Rea_nearestHexadecimal_17 : decode b_Rea_nearestHexadecimal 17 = .ok (.aload_n 0, 1) := by decide +kernel
theorem d_Rea_nearestHexadecimal_18 : decode b_Rea_nearestHexadecimal 18 = .ok (.getfield 10, 3) := by decide +kernel
theorem d_Rea_nearestHexadecimal_21 : decode b_Rea_nearestHexadecimal 21 = .ok (.getfield 128, 3) := by decide +kernel
theorem d_Rea_nearestHexadecimal_24 : decode b_Rea_nearestHexadecimal 24 = .ok (.istore 7, 2) := by decide +kernel
theorem d_Rea_nearestHexadecimal_26 : decode b_Rea_nearestHexadecimal 26 = .ok (.iload 7, 2) := by decide +kernel
theorem d_Rea_nearestHexadecimal_28 : decode b_Rea_nearestHexadecimal 28 = .ok (.aload_n 0, 1) := by decide +kernel
theorem d_Rea_nearestHexadecimal_29 : decode b_Rea_nearestHexadecimal 29 = .ok (.getfield 10, 3) := by decide +kernel
theorem d_Rea_nearestHexadecimal_32 : decode b_Rea_nearestHexadecimal 32 = .ok (.getfield 131, 3) := by decide +kernel
theorem d_Rea_nearestHexadecimal_35 : decode b_Rea_nearestHexadecimal 35 = .ok (.if_icmp .ge 97, 3) := by decide +kernel
theorem d_Rea_nearestHexadecimal_38 : decode b_Rea_nearestHexadecimal 38 = .ok (.iload 7, 2) := by decide +kernel
theorem d_Rea_nearestHexadecimal_40 : decode b_Rea_nearestHexadecimal 40 = .ok (.aload_n 0, 1) := by decide +kernel
theorem d_Rea_nearestHexadecimal_41 : decode b_Rea_nearestHexadecimal 41 = .ok (.getfield 27, 3) := by decide +kernel
theorem d_Rea_nearestHexadecimal_44 : decode b_Rea_nearestHexadecimal 44 = .ok (.arraylength, 1) := by decide +kernel
theorem d_Rea_nearestHexadecimal_45 : decode b_Rea_nearestHexadecimal 45 = .ok (.if_icmp .ge 87, 3) := by decide +kernel
theorem d_Rea_nearestHexadecimal_48 : decode b_Rea_nearestHexadecimal 48 = .ok (.aload_n 0, 1) := by decide +kernel
theorem d_Rea_nearestHexadecimal_49 : decode b_Rea_nearestHexadecimal 49 = .ok (.getfield 27, 3) := by decide +kernel
theorem d_Rea_nearestHexadecimal_52 : decode b_Rea_nearestHexadecimal 52 = .ok (.iload 7, 2) := by decide +kernel
theorem d_Rea_nearestHexadecimal_54 : decode b_Rea_nearestHexadecimal 54 = .ok (.caload, 1) := by decide +kernel
theorem d_Rea_nearestHexadecimal_55 : decode b_Rea_nearestHexadecimal 55 = .ok (.bipush 46, 2) := by decide +kernel
theorem d_Rea_nearestHexadecimal_57 : decode b_Rea_nearestHexadecimal 57 = .ok (.if_icmp .ne 9, 3) := by decide +kernel
theorem d_Rea_nearestHexadecimal_60 : decode b_Rea_nearestHexadecimal 60 = .ok (.iconst 1, 1) := by decide +kernel
theorem d_Rea_nearestHexadecimal_61 : decode b_Rea_nearestHexadecimal 61 = .ok (.istore 5, 2) := by decide +kernel
theorem d_Rea_nearestHexadecimal_63 : decode b_Rea_nearestHexadecimal 63 = .ok (.goto 63, 3) := by decide +kernel
theorem d_Rea_nearestHexadecimal_66 : decode b_Rea_nearestHexadecimal 66 = .ok (.iload 5, 2) := by decide +kernel
theorem d_Rea_nearestHexadecimal_68 : decode b_Rea_nearestHexadecimal 68 = .ok (.ifCond .eq 6, 3) := by decide +kernel
theorem d_Rea_nearestHexadecimal_71 : decode b_Rea_nearestHexadecimal 71 = .ok (.iinc 4 (-4), 3) := by decide +kernel
theorem d_Rea_nearestHexadecimal_74 : decode b_Rea_nearestHexadecimal 74 = .ok (.aload_n 0, 1) := by decide +kernel
theorem d_Rea_nearestHexadecimal_75 : decode b_Rea_nearestHexadecimal 75 = .ok (.getfield 27, 3) := by decide +kernel
theorem d_Rea_nearestHexadecimal_78 : decode b_Rea_nearestHexadecimal 78 = .ok (.iload 7, 2) := by decide +kernel
theorem d_Rea_nearestHexadecimal_80 : decode b_Rea_nearestHexadecimal 80 = .ok (.caload, 1) := by decide +kernel
theorem d_Rea_nearestHexadecimal_81 : decode b_Rea_nearestHexadecimal 81 = .ok (.invokestatic 134, 3) := by decide +kernel
theorem d_Rea_nearestHexadecimal_84 : decode b_Rea_nearestHexadecimal 84 = .ok (.istore 8, 2) := by decide +kernel
theorem d_Rea_nearestHexadecimal_86 : decode b_Rea_nearestHexadecimal 86 = .ok (.lload_n 2, 1) := by decide +kernel
theorem d_Rea_nearestHexadecimal_87 : decode b_Rea_nearestHexadecimal 87 = .ok (.bipush 56, 2) := by decide +kernel
theorem d_Rea_nearestHexadecimal_89 : decode b_Rea_nearestHexadecimal 89 = .ok (.lushr, 1) := by decide +kernel
theorem d_Rea_nearestHexadecimal_90 : decode b_Rea_nearestHexadecimal 90 = .ok (.lconst 0, 1) := by decide +kernel
theorem d_Rea_nearestHexadecimal_91 : decode b_Rea_nearestHexadecimal 91 = .ok (.lcmp, 1) := by decide +kernel
theorem d_Rea_nearestHexadecimal_92 : decode b_Rea_nearestHexadecimal 92 = .ok (.ifCond .ne 14, 3) := by decide +kernel
theorem d_Rea_nearestHexadecimal_95 : decode b_Rea_nearestHexadecimal 95 = .ok (.lload_n 2, 1) := by decide +kernel
theorem d_Rea_nearestHexadecimal_96 : decode b_Rea_nearestHexadecimal 96 = .ok (.iconst 4, 1) := by decide +kernel
theorem d_Rea_nearestHexadecimal_97 : decode b_Rea_nearestHexadecimal 97 = .ok (.lshl, 1) := by decide +kernel
theorem d_Rea_nearestHexadecimal_98 : decode b_Rea_nearestHexadecimal 98 = .ok (.iload 8, 2) := by decide +kernel
theorem d_Rea_nearestHexadecimal_100 : decode b_Rea_nearestHexadecimal 100 = .ok (.i2l, 1) := by decide +kernel
theorem d_Rea_nearestHexadecimal_101 : decode b_Rea_nearestHexadecimal 101 = .ok (.lor, 1) := by decide +kernel
theorem d_Rea_nearestHexadecimal_102 : decode b_Rea_nearestHexadecimal 102 = .ok (.lstore_n 2, 1) := by decide +kernel
theorem d_Rea_nearestHexadecimal_103 : decode b_Rea_nearestHexadecimal 103 = .ok (.goto 23, 3) := by decide +kernel
theorem d_Rea_nearestHexadecimal_106 : decode b_Rea_nearestHexadecimal 106 = .ok (.iinc 4 4, 3) := by decide +kernel
theorem d_Rea_nearestHexadecimal_109 : decode b_Rea_nearestHexadecimal 109 = .ok (.iload 6, 2) := by decide +kernel
theorem d_Rea_nearestHexadecimal_111 : decode b_Rea_nearestHexadecimal 111 = .ok (.ifCond .ne 8, 3) := by decide +kernel
theorem d_Rea_nearestHexadecimal_114 : decode b_Rea_nearestHexadecimal 114 = .ok (.iload 8, 2) := by decide +kernel
theorem d_Rea_nearestHexadecimal_116 : decode b_Rea_nearestHexadecimal 116 = .ok (.ifCond .eq 7, 3) := by decide +kernel
theorem d_Rea_nearestHexadecimal_119 : decode b_Rea_nearestHexadecimal 119 = .ok (.iconst 1, 1) := by decide +kernel
theorem d_Rea_nearestHexadecimal_120 : decode b_Rea_nearestHexadecimal 120 = .ok (.goto 4, 3) := by decide +kernel
theorem d_Rea_nearestHexadecimal_123 : decode b_Rea_nearestHexadecimal 123 = .ok (.iconst 0, 1) := by decide +kernel
theorem d_Rea_nearestHexadecimal_124 : decode b_Rea_nearestHexadecimal 124 = .ok (.istore 6, 2) := by decide +kernel
theorem d_Rea_nearestHexadecimal_126 : decode b_Rea_nearestHexadecimal 126 = .ok (.iinc 7 1, 3) := by decide +kernel
theorem d_Rea_nearestHexadecimal_129 : decode b_Rea_nearestHexadecimal 129 = .ok (.goto (-103), 3) := by decide +kernel
theorem d_Rea_nearestHexadecimal_132 : decode b_Rea_nearestHexadecimal 132 = .ok (.aload_n 1, 1) := by decide +kernel
theorem d_Rea_nearestHexadecimal_133 : decode b_Rea_nearestHexadecimal 133 = .ok (.lload_n 2, 1) := by decide +kernel
theorem d_Rea_nearestHexadecimal_134 : decode b_Rea_nearestHexadecimal 134 = .ok (.iload 4, 2) := by decide +kernel
theorem d_Rea_nearestHexadecimal_136 : decode b_Rea_nearestHexadecimal 136 = .ok (.iload 6, 2) := by decide +kernel
theorem d_Rea_nearestHexadecimal_138 : decode b_Rea_nearestHexadecimal 138 = .ok (.invokevirtual 138, 3) := by decide +kernel
theorem d_Rea_nearestHexadecimal_141 : decode b_Rea_nearestHexadecimal 141 = .ok (.lreturn, 1) := by decide +kernel
theorem d_Rea_sizeAs_0 : decode b_Rea_sizeAs 0 = .ok (.aload_n 0, 1) := by decide +kernel
theorem d_Rea_sizeAs_1 : decode b_Rea_sizeAs 1 = .ok (.getfield 10, 3) := by decide +kernel
theorem d_Rea_sizeAs_4 : decode b_Rea_sizeAs 4 = .ok (.getfield 108, 3) := by decide +kernel
theorem d_Rea_sizeAs_7 : decode b_Rea_sizeAs 7 = .ok (.iconst 2, 1) := by decide +kernel
theorem d_Rea_sizeAs_8 : decode b_Rea_sizeAs 8 = .ok (.if_icmp .ne 8, 3) := by decide +kernel
theorem d_Rea_sizeAs_11 : decode b_Rea_sizeAs 11 = .ok (.aload_n 1, 1) := by decide +kernel
theorem d_Rea_sizeAs_12 : decode b_Rea_sizeAs 12 = .ok (.getfield 70, 3) := by decide +kernel
theorem d_Rea_sizeAs_15 : decode b_Rea_sizeAs 15 = .ok (.lreturn, 1) := by decide +kernel
theorem d_Rea_sizeAs_16 : decode b_Rea_sizeAs 16 = .ok (.aload_n 0, 1) := by decide +kernel
theorem d_Rea_sizeAs_17 : decode b_Rea_sizeAs 17 = .ok (.getfield 10, 3) := by decide +kernel
theorem d_Rea_sizeAs_20 : decode b_Rea_sizeAs 20 = .ok (.getfield 108, 3) := by decide +kernel
theorem d_Rea_sizeAs_23 : decode b_Rea_sizeAs 23 = .ok (.iconst 4, 1) := by decide +kernel
theorem d_Rea_sizeAs_24 : decode b_Rea_sizeAs 24 = .ok (.if_icmp .ne 9, 3) := by decide +kernel
theorem d_Rea_sizeAs_27 : decode b_Rea_sizeAs 27 = .ok (.aload_n 0, 1) := by decide +kernel
theorem d_Rea_sizeAs_28 : decode b_Rea_sizeAs 28 = .ok (.aload_n 1, 1) := by decide +kernel
theorem d_Rea_sizeAs_29 : decode b_Rea_sizeAs 29 = .ok (.invokevirtual 119, 3) := by decide +kernel
theorem d_Rea_sizeAs_32 : decode b_Rea_sizeAs 32 = .ok (.lreturn, 1) := by decide +kernel
theorem d_Rea_sizeAs_33 : decode b_Rea_sizeAs 33 = .ok (.aload_n 0, 1) := by decide +kernel
theorem d_Rea_sizeAs_34 : decode b_Rea_sizeAs 34 = .ok (.getfield 19, 3) := by decide +kernel
theorem d_Rea_sizeAs_37 : decode b_Rea_sizeAs 37 = .ok (.aload_n 0, 1) := by decide +kernel
theorem d_Rea_sizeAs_38 : decode b_Rea_sizeAs 38 = .ok (.getfield 10, 3) := by decide +kernel
theorem d_Rea_sizeAs_41 : decode b_Rea_sizeAs 41 = .ok (.aload_n 1, 1) := by decide +kernel
theorem d_Rea_sizeAs_42 : decode b_Rea_sizeAs 42 = .ok (.invokevirtual 122, 3) := by decide +kernel
theorem d_Rea_sizeAs_45 : decode b_Rea_sizeAs 45 = .ok (.lreturn, 1) := by decide +kernel
theorem d_Rea_readAs_0 : decode b_Rea_readAs 0 = .ok (.aload_n 0, 1) := by decide +kernel
theorem d_Rea_readAs_1 : decode b_Rea_readAs 1 = .ok (.getfield 10, 3) := by decide +kernel
theorem d_Rea_readAs_4 : decode b_Rea_readAs 4 = .ok (.aload_n 0, 1) := by decide +kernel
theorem d_Rea_readAs_5 : decode b_Rea_readAs 5 = .ok (.getfield 33, 3) := by decide +kernel
theorem d_Rea_readAs_8 : decode b_Rea_readAs 8 = .ok (.invokevirtual 104, 3) := by decide +kernel
theorem d_Rea_readAs_11 : decode b_Rea_readAs 11 = .ok (.ifCond .ne 5, 3) := by decide +kernel
theorem d_Rea_readAs_14 : decode b_Rea_readAs 14 = .ok (.iconst 0, 1) := by decide +kernel
theorem d_Rea_readAs_15 : decode b_Rea_readAs 15 = .ok (.ireturn, 1) := by decide +kernel
theorem d_Rea_readAs_16 : decode b_Rea_readAs 16 = .ok (.aload_n 0, 1) := by decide +kernel
theorem d_Rea_readAs_17 : decode b_Rea_readAs 17 = .ok (.dup, 1) := by decide +kernel
theorem d_Rea_readAs_18 : decode b_Rea_readAs 18 = .ok (.getfield 41, 3) := by decide +kernel
theorem d_Rea_readAs_21 : decode b_Rea_readAs 21 = .ok (.iconst 1, 1) := by decide +kernel
theorem d_Rea_readAs_22 : decode b_Rea_readAs 22 = .ok (.iadd, 1) := by decide +kernel
theorem d_Rea_readAs_23 : decode b_Rea_readAs 23 = .ok (.putfield 41, 3) := by decide +kernel
theorem d_Rea_readAs_26 : decode b_Rea_readAs 26 = .ok (.aload_n 0, 1) := by decide +kernel
theorem d_Rea_readAs_27 : decode b_Rea_readAs 27 = .ok (.aload_n 0, 1) := by decide +kernel
theorem d_Rea_readAs_28 : decode b_Rea_readAs 28 = .ok (.getfield 10, 3) := by decide +kernel
theorem d_Rea_readAs_31 : decode b_Rea_readAs 31 = .ok (.getfield 108, 3) := by decide +kernel
theorem d_Rea_readAs_34 : decode b_Rea_readAs 34 = .ok (.iconst 1, 1) := by decide +kernel
theorem d_Rea_readAs_35 : decode b_Rea_readAs 35 = .ok (.if_icmp .ne 10, 3) := by decide +kernel
theorem d_Rea_readAs_38 : decode b_Rea_readAs 38 = .ok (.aload_n 1, 1) := by decide +kernel
theorem d_Rea_readAs_39 : decode b_Rea_readAs 39 = .ok (.getfield 67, 3) := by decide +kernel
theorem d_Rea_readAs_42 : decode b_Rea_readAs 42 = .ok (.goto 19, 3) := by decide +kernel
theorem d_Rea_readAs_45 : decode b_Rea_readAs 45 = .ok (.aload_n 1, 1) := by decide +kernel
theorem d_Rea_readAs_46 : decode b_Rea_readAs 46 = .ok (.aload_n 0, 1) := by decide +kernel
theorem d_Rea_readAs_47 : decode b_Rea_readAs 47 = .ok (.aload_n 1, 1) := by decide +kernel
theorem d_Rea_readAs_48 : decode b_Rea_readAs 48 = .ok (.invokevirtual 111, 3) := by decide +kernel
theorem d_Rea_readAs_51 : decode b_Rea_readAs 51 = .ok (.aload_n 0, 1) := by decide +kernel
theorem d_Rea_readAs_52 : decode b_Rea_readAs 52 = .ok (.getfield 10, 3) := by decide +kernel
theorem d_Rea_readAs_55 : decode b_Rea_readAs 55 = .ok (.getfield 115, 3) := by decide +kernel
theorem d_Rea_readAs_58 : decode b_Rea_readAs 58 = .ok (.invokevirtual 73, 3) := by decide +kernel
theorem d_Rea_readAs_61 : decode b_Rea_readAs 61 = .ok (.putfield 37, 3) := by decide +kernel
theorem d_Rea_readAs_64 : decode b_Rea_readAs 64 = .ok (.iconst 1, 1) := by decide +kernel
theorem d_Rea_readAs_65 : decode b_Rea_readAs 65 = .ok (.ireturn, 1) := by decide +kernel
theorem d_Rea_wide_0 : decode b_Rea_wide 0 = .ok (.aload_n 0, 1) := by decide +kernel
theorem d_Rea_wide_1 : decode b_Rea_wide 1 = .ok (.getstatic 50, 3) := by decide +kernel
theorem d_Rea_wide_4 : decode b_Rea_wide 4 = .ok (.invokevirtual 56, 3) := by decide +kernel
theorem d_Rea_wide_7 : decode b_Rea_wide 7 = .ok (.ireturn, 1) := by decide +kernel
theorem d_Rea_narrow_0 : decode b_Rea_narrow 0 = .ok (.aload_n 0, 1) := by decide +kernel
theorem d_Rea_narrow_1 : decode b_Rea_narrow 1 = .ok (.getstatic 60, 3) := by decide +kernel
theorem d_Rea_narrow_4 : decode b_Rea_narrow 4 = .ok (.invokevirtual 56, 3) := by decide +kernel
theorem d_Rea_narrow_7 : decode b_Rea_narrow 7 = .ok (.ireturn, 1) := by decide +kernel
set_option maxHeartbeats 4000000 in
set_option maxRecDepth 100000 in
theorem c_Rea_hex (l : Launch) (D : va_G) (E : evD) (i : Nat) (hi : i < 2) (r x nm h q t ta b ba : Nat) (cC cA cB : ClassId) (T : Nat → Nat) (hT : ∀ j, T j < 256) (n : Nat) (R : Int64) (fd : Int32) (v1 v2 v3 v4 g0 gs0 kp0 pl0 nv mv : Int32) (f g : Nat → Int32) (a b0 : Nat) (pq : Int) (hab : a + 0 ≤ b0) (hb0 : b0 ≤ 2400) (hdig : ∀ j, a ≤ j → j < b0 → T j = 46 ∨ dg (T j) < 16) (hq1 : -1000000 ≤ pq) (hq2 : pq ≤ 1000000) : Cl (S := Unit) l y_Rea_nearestHexadecimal (wz y_Rea_nearestHexadecimal b_Rea_nearestHexadecimal 9 (some .long)) ({ frames := 2, cells := 0, slots := 0, locals := 57 }) D vcl (ev1 E) [.ref r, .ref (E.1 i)] [(cC, .char), (cA, .int), (cB, .int)] [(r, .inr (4, [.ref x, .ref nm, .ref h, .ref q, .int (nI n), .long R, .int fd])), (x, .inl (cC, 2400, .inl (tx T))), (nm, .inr (3, [.ref x, .int v1, .int v2, .int v3, .int v4, .int (nI a), .int (nI b0), .int (zI pq)])), (h, .inr (1, [.ref q, .int g0, .int gs0, .int kp0, .int pl0])), (q, .inr (2, [.ref t, .ref b])), (t, .inr (0, [.ref ta, .int nv])), (ta, .inl (cA, 96, .inl f)), (b, .inr (0, [.ref ba, .int mv])), (ba, .inl (cB, 96, .inl g))] 0 0 (fun (w : Int64) (_ : Unit) => w = lN (frn (kP i) (kZ i) (kLw i) (gv 16 T a (b0 - a)) 1 (pq - 4 * gf T a (b0 - a)))) (fun _ => [(cC, .char), (cA, .int), (cB, .int)]) (fun _ : Unit => [(r, .inr (4, [.ref x, .ref nm, .ref h, .ref q, .int (nI n), .long R, .int fd])), (x, .inl (cC, 2400, .inl (tx T))), (nm, .inr (3, [.ref x, .int v1, .int v2, .int v3, .int v4, .int (nI a), .int (nI b0), .int (zI pq)])), (h, .inr (1, [.ref q, .int g0, .int gs0, .int kp0, .int pl0])), (q, .inr (2, [.ref t, .ref b])), (t, .inr (0, [.ref ta, .int nv])), (ta, .inl (cA, 96, .inl f)), (b, .inr (0, [.ref ba, .int mv])), (ba, .inl (cB, 96, .inl g))]) := by
  have hev := ev1_ok E
  unfold Cl
  refine ct_of (y := y_Rea_nearestHexadecimal) (av := [.ref r, .ref (E.1 i)]) (cc := b_Rea_nearestHexadecimal) (maxL := 9) (ret := (some .long)) (Qc := fun A => va_Ql (S := Unit) (fun (w : Int64) (_ : Unit) => w = lN (frn (kP i) (kZ i) (kLw i) (gv 16 T a (b0 - a)) 1 (pq - 4 * gf T a (b0 - a)))) (fun u tS => ctB D vcl ((fun _ => [(cC, .char), (cA, .int), (cB, .int)]) u) ((fun _ : Unit => [(r, .inr (4, [.ref x, .ref nm, .ref h, .ref q, .int (nI n), .long R, .int fd])), (x, .inl (cC, 2400, .inl (tx T))), (nm, .inr (3, [.ref x, .int v1, .int v2, .int v3, .int v4, .int (nI a), .int (nI b0), .int (zI pq)])), (h, .inr (1, [.ref q, .int g0, .int gs0, .int kp0, .int pl0])), (q, .inr (2, [.ref t, .ref b])), (t, .inr (0, [.ref ta, .int nv])), (ta, .inl (cA, 96, .inl f)), (b, .inr (0, [.ref ba, .int mv])), (ba, .inl (cB, 96, .inl g))]) u) A tS) A) (by decide) rfl (Nat.le_of_ble_eq_true rfl) ?_
  intro p ee s m below meth cde ls A H locs hx hb hml hrt hlocks hown hin hts hA hP hK hD hS hE hl
  have hown : s.vm.findClass R_Rea = some m.cls := hown
  have hts := wz_g hts
  have hl : lv_has ls 9 [(0, .ref r), (1, .ref (E.1 i))] := hl
  refine lv_lconst (v := 0) hx hb d_Rea_nearestHexadecimal_0 (by decide) ?_
  refine tv_l (lN 0) (rfl) ?_
  refine lv_lstore_n (lv' := [(2, .long (lN 0)), (0, .ref r), (1, .ref (E.1 i))]) hx hb d_Rea_nearestHexadecimal_1 rfl hl (by decide) rfl (fun ls hl => ?_)
  refine lv_aload_n hx hb d_Rea_nearestHexadecimal_2 rfl (lv_at hl 1 rfl) ?_
  refine va_get (D := D) (ci := 4) (v := .ref nm) (C := R_Rea) (T := F_Rea) (N := 7) hx hb hts w_Rea hown hK hP 0 rfl rfl 1 (by decide) (hts _ kF_Rea_10) (fun _ h9 => h9) rfl d_Rea_nearestHexadecimal_3 ?_
  refine va_get (D := D) (ci := 3) (v := .int (zI pq)) (C := R_Num) (T := F_Num) (N := 8) hx hb hts w_Num hown hK hP 2 rfl rfl 7 (by decide) (hts _ kF_Rea_125) (fun _ h9 => h9) rfl d_Rea_nearestHexadecimal_6 ?_
  refine tv_i (zI (pq - 4 * gf T a 0 + 4 * (0 : Nat))) (congrArg zI (by show pq = pq - 4 * ((0 : Nat) : Int) + 4 * ((0 : Nat) : Int); omega)) ?_
  refine lv_istore (lv' := [(4, .int (zI (pq - 4 * gf T a 0 + 4 * (0 : Nat)))), (2, .long (lN 0)), (0, .ref r), (1, .ref (E.1 i))]) hx hb d_Rea_nearestHexadecimal_9 hl (by decide) rfl (fun ls hl => ?_)
  refine lv_iconst (v := 0) hx hb d_Rea_nearestHexadecimal_11 (by decide) ?_
  refine tv_i (bI (gp T a 0)) (rfl) ?_
  refine lv_istore (lv' := [(5, .int (bI (gp T a 0))), (4, .int (zI (pq - 4 * gf T a 0 + 4 * (0 : Nat)))), (2, .long (lN 0)), (0, .ref r), (1, .ref (E.1 i))]) hx hb d_Rea_nearestHexadecimal_12 hl (by decide) rfl (fun ls hl => ?_)
  refine lv_iconst (v := 0) hx hb d_Rea_nearestHexadecimal_14 (by decide) ?_
  refine tv_i (bI (decide (0 ≠ 0))) (rfl) ?_
  refine lv_istore (lv' := [(6, .int (bI (decide (0 ≠ 0)))), (5, .int (bI (gp T a 0))), (4, .int (zI (pq - 4 * gf T a 0 + 4 * (0 : Nat)))), (2, .long (lN 0)), (0, .ref r), (1, .ref (E.1 i))]) hx hb d_Rea_nearestHexadecimal_15 hl (by decide) rfl (fun ls hl => ?_)
  refine lv_aload_n hx hb d_Rea_nearestHexadecimal_17 rfl (lv_at hl 4 rfl) ?_
  refine va_get (D := D) (ci := 4) (v := .ref nm) (C := R_Rea) (T := F_Rea) (N := 7) hx hb hts w_Rea hown hK hP 0 rfl rfl 1 (by decide) (hts _ kF_Rea_10) (fun _ h9 => h9) rfl d_Rea_nearestHexadecimal_18 ?_
  refine va_get (D := D) (ci := 3) (v := .int (nI a)) (C := R_Num) (T := F_Num) (N := 8) hx hb hts w_Num hown hK hP 2 rfl rfl 5 (by decide) (hts _ kF_Rea_128) (fun _ h9 => h9) rfl d_Rea_nearestHexadecimal_21 ?_
  refine tv_i (nI (a + 0)) (rfl) ?_
  refine lv_istore (lv' := [(7, .int (nI (a + 0))), (6, .int (bI (decide (0 ≠ 0)))), (5, .int (bI (gp T a 0))), (4, .int (zI (pq - 4 * gf T a 0 + 4 * (0 : Nat)))), (2, .long (lN 0)), (0, .ref r), (1, .ref (E.1 i))]) hx hb d_Rea_nearestHexadecimal_24 hl (by decide) rfl (fun ls hl => ?_)
  have L26 : ∀ (kk : Nat) (n1 : Nat) (Ld : Nat) (r1 : Nat) (tl : Nat), b0 - (a + n1) < kk → (a + n1 ≤ b0) → (Ld < 1152921504606846976) → (gv 16 T a n1 = Ld * 16 ^ r1 + tl) → (tl < 16 ^ r1) → (r1 ≠ 0 → 2 ^ 56 ≤ Ld) → (r1 ≤ n1) → ∀ (H : Heap) (locs : List Loc) (ls : Array Slot), va_P D vcl [(r, .inr (4, [.ref x, .ref nm, .ref h, .ref q, .int (nI n), .long R, .int fd])), (x, .inl (cC, 2400, .inl (tx T))), (nm, .inr (3, [.ref x, .int v1, .int v2, .int v3, .int v4, .int (nI a), .int (nI b0), .int (zI pq)])), (h, .inr (1, [.ref q, .int g0, .int gs0, .int kp0, .int pl0])), (q, .inr (2, [.ref t, .ref b])), (t, .inr (0, [.ref ta, .int nv])), (ta, .inl (cA, 96, .inl f)), (b, .inr (0, [.ref ba, .int mv])), (ba, .inl (cB, 96, .inl g))] H → va_D A [(r, .inr (4, [.ref x, .ref nm, .ref h, .ref q, .int (nI n), .long R, .int fd])), (x, .inl (cC, 2400, .inl (tx T))), (nm, .inr (3, [.ref x, .int v1, .int v2, .int v3, .int v4, .int (nI a), .int (nI b0), .int (zI pq)])), (h, .inr (1, [.ref q, .int g0, .int gs0, .int kp0, .int pl0])), (q, .inr (2, [.ref t, .ref b])), (t, .inr (0, [.ref ta, .int nv])), (ta, .inl (cA, 96, .inl f)), (b, .inr (0, [.ref ba, .int mv])), (ba, .inl (cB, 96, .inl g))] → va_S A s.heap H locs → lv_has ls 9 [(0, .ref r), (1, .ref (E.1 i)), (2, .long (lN Ld)), (4, .int (zI (pq - 4 * gf T a n1 + 4 * r1))), (5, .int (bI (gp T a n1))), (6, .int (bI (decide (tl ≠ 0)))), (7, .int (nI (a + n1)))] → W p l ee ({ frames := 2, cells := 0, slots := 0, locals := 57 }) s m ([.ref r, .ref (E.1 i)] : List Value).toArray below meth cde H locs 0 0 (MQ below (va_Ql (S := Unit) (fun (w : Int64) (_ : Unit) => w = lN (frn (kP i) (kZ i) (kLw i) (gv 16 T a (b0 - a)) 1 (pq - 4 * gf T a (b0 - a)))) (fun u tS => ctB D vcl ((fun _ => [(cC, .char), (cA, .int), (cB, .int)]) u) ((fun _ : Unit => [(r, .inr (4, [.ref x, .ref nm, .ref h, .ref q, .int (nI n), .long R, .int fd])), (x, .inl (cC, 2400, .inl (tx T))), (nm, .inr (3, [.ref x, .int v1, .int v2, .int v3, .int v4, .int (nI a), .int (nI b0), .int (zI pq)])), (h, .inr (1, [.ref q, .int g0, .int gs0, .int kp0, .int pl0])), (q, .inr (2, [.ref t, .ref b])), (t, .inr (0, [.ref ta, .int nv])), (ta, .inl (cA, 96, .inl f)), (b, .inr (0, [.ref ba, .int mv])), (ba, .inl (cB, 96, .inl g))]) u) A tS) A) ([.ref r, .ref (E.1 i)] : List Value).toArray s 0 0 A) (F0 m 26 ls []) := by
    intro kk
    induction kk with
    | zero => intro n1 Ld r1 tl hmz; exact absurd hmz (Nat.not_lt_zero _)
    | succ kk ih =>
      intro n1 Ld r1 tl hmz hn1 hLd hM ht hr hr2 H locs ls hP hD hS hl
      have hTc := hT (a + n1)
      have hgf := gf_le T a n1
      refine lv_iload hx hb d_Rea_nearestHexadecimal_26 (lv_at hl 6 rfl) ?_
      refine lv_aload_n hx hb d_Rea_nearestHexadecimal_28 rfl (lv_at hl 0 rfl) ?_
      refine va_get (D := D) (ci := 4) (v := .ref nm) (C := R_Rea) (T := F_Rea) (N := 7) hx hb hts w_Rea hown hK hP 0 rfl rfl 1 (by decide) (hts _ kF_Rea_10) (fun _ h9 => h9) rfl d_Rea_nearestHexadecimal_29 ?_
      refine va_get (D := D) (ci := 3) (v := .int (nI b0)) (C := R_Num) (T := F_Num) (N := 8) hx hb hts w_Num hown hK hP 2 rfl rfl 6 (by decide) (hts _ kF_Rea_131) (fun _ h9 => h9) rfl d_Rea_nearestHexadecimal_32 ?_
      refine lv_icmp_ge (tgt := 132) hx hb d_Rea_nearestHexadecimal_35 (by decide) (fun c35 => ?_) (fun c35 => ?_)
      · have e35 : b0 ≤ a + n1 := (nI_leI (by omega) (by omega)).mp c35
        have hnn : n1 = b0 - a := by omega
        refine lv_aload_n hx hb d_Rea_nearestHexadecimal_132 rfl (lv_at hl 1 rfl) ?_
        refine lv_lload_n hx hb d_Rea_nearestHexadecimal_133 rfl (lv_at hl 2 rfl) ?_
        refine lv_iload hx hb d_Rea_nearestHexadecimal_134 (lv_at hl 3 rfl) ?_
        refine lv_iload hx hb d_Rea_nearestHexadecimal_136 (lv_at hl 5 rfl) ?_
        refine ca_l [(r, .inr (4, [.ref x, .ref nm, .ref h, .ref q, .int (nI n), .long R, .int fd])), (x, .inl (cC, 2400, .inl (tx T))), (nm, .inr (3, [.ref x, .int v1, .int v2, .int v3, .int v4, .int (nI a), .int (nI b0), .int (zI pq)])), (h, .inr (1, [.ref q, .int g0, .int gs0, .int kp0, .int pl0])), (q, .inr (2, [.ref t, .ref b])), (t, .inr (0, [.ref ta, .int nv])), (ta, .inl (cA, 96, .inl f)), (b, .inr (0, [.ref ba, .int mv])), (ba, .inl (cB, 96, .inl g))] (va_runV (As := [.long (lN Ld), .int (zI (pq - 4 * gf T a n1 + 4 * r1)), .int (bI (decide (tl ≠ 0)))]) (rest := []) ⟨hx, hb, hml, hown, hts⟩ (c_Kin_nearest l D E i hi Ld (pq - 4 * gf T a n1 + 4 * r1) (decide (tl ≠ 0)) (by omega) (by omega) (by omega) H.size) (xV 3 hts kC_Kin_nearest kM_Rea_138 kI_Kin_nearest kS_Kin_nearest kN_Kin rfl rfl (by decide +kernel) ⟨Nat.le_of_ble_eq_true rfl, Nat.le_of_ble_eq_true rfl⟩) ⟨ct_blind hev, va_recvE (i := i) hE.2.1 hi hS, ct_pre hev hP hK hD hS hA hE [] rfl (by decide) [] rfl⟩ rfl rfl hl.1 rfl (lv_room (Nat.le_of_ble_eq_true rfl)) d_Rea_nearestHexadecimal_138 ⟨Nat.le_of_ble_eq_true rfl, Nat.le_of_ble_eq_true rfl⟩) hP hD hS hA [] [0, 1, 2, 3, 4, 5, 6, 7, 8] rfl rfl (by decide) (by decide) (fun rv u H locs hw hP hD hS hK1 => ?_)
        subst hw
        have hP : va_P D vcl [(r, .inr (4, [.ref x, .ref nm, .ref h, .ref q, .int (nI n), .long R, .int fd])), (x, .inl (cC, 2400, .inl (tx T))), (nm, .inr (3, [.ref x, .int v1, .int v2, .int v3, .int v4, .int (nI a), .int (nI b0), .int (zI pq)])), (h, .inr (1, [.ref q, .int g0, .int gs0, .int kp0, .int pl0])), (q, .inr (2, [.ref t, .ref b])), (t, .inr (0, [.ref ta, .int nv])), (ta, .inl (cA, 96, .inl f)), (b, .inr (0, [.ref ba, .int mv])), (ba, .inl (cB, 96, .inl g))] H := hP
        have hD : va_D A [(r, .inr (4, [.ref x, .ref nm, .ref h, .ref q, .int (nI n), .long R, .int fd])), (x, .inl (cC, 2400, .inl (tx T))), (nm, .inr (3, [.ref x, .int v1, .int v2, .int v3, .int v4, .int (nI a), .int (nI b0), .int (zI pq)])), (h, .inr (1, [.ref q, .int g0, .int gs0, .int kp0, .int pl0])), (q, .inr (2, [.ref t, .ref b])), (t, .inr (0, [.ref ta, .int nv])), (ta, .inl (cA, 96, .inl f)), (b, .inr (0, [.ref ba, .int mv])), (ba, .inl (cB, 96, .inl g))] := hD
        exact rt_l hx hb hrt hlocks (()) (by rw [hnn] at hM; rw [hex_end (w := pq - 4 * gf T a (b0 - a)) (by have := kP_b i hi; omega) hM ht rfl hr, hnn]) (hP.sub [0, 1, 2, 3, 4, 5, 6, 7, 8] rfl) (hK.sub [0, 1, 2] rfl) (hD.sub [0, 1, 2, 3, 4, 5, 6, 7, 8] (by decide) rfl) hS d_Rea_nearestHexadecimal_141
      · have e35 : a + n1 < b0 := Nat.lt_of_not_le (fun z => c35 ((nI_leI (by omega) (by omega)).mpr z))
        refine lv_iload hx hb d_Rea_nearestHexadecimal_38 (lv_at hl 6 rfl) ?_
        refine lv_aload_n hx hb d_Rea_nearestHexadecimal_40 rfl (lv_at hl 0 rfl) ?_
        refine va_get (D := D) (ci := 4) (v := .ref x) (C := R_Rea) (T := F_Rea) (N := 7) hx hb hts w_Rea hown hK hP 0 rfl rfl 0 (by decide) (hts _ kF_Rea_27) (fun _ h9 => h9) rfl d_Rea_nearestHexadecimal_41 ?_
        refine va_alen hx hb hK hP 1 0 rfl rfl (v := 2400) rfl d_Rea_nearestHexadecimal_44 ?_
        refine lv_icmp_ge (tgt := 132) hx hb d_Rea_nearestHexadecimal_45 (by decide) (fun c45 => ?_) (fun c45 => ?_)
        · exact absurd ((nI_leI (a := 2400) (by decide) (by omega)).mp c45) (by omega)
        · refine lv_aload_n hx hb d_Rea_nearestHexadecimal_48 rfl (lv_at hl 0 rfl) ?_
          refine va_get (D := D) (ci := 4) (v := .ref x) (C := R_Rea) (T := F_Rea) (N := 7) hx hb hts w_Rea hown hK hP 0 rfl rfl 0 (by decide) (hts _ kF_Rea_27) (fun _ h9 => h9) rfl d_Rea_nearestHexadecimal_49 ?_
          refine lv_iload hx hb d_Rea_nearestHexadecimal_52 (lv_at hl 6 rfl) ?_
          refine va_cald hx hb hK hP 1 0 rfl rfl (i := nI (a + n1)) (vp_in_nI (show a + n1 < 2400 by omega) (by decide)) d_Rea_nearestHexadecimal_54 ?_
          refine tv_i (nI (T (a + n1))) (by rw [nI_clamp (by omega)]; rfl) ?_
          refine lv_bipush (v := 46) hx hb d_Rea_nearestHexadecimal_55 (by decide) ?_
          refine lv_icmp_ne (tgt := 66) hx hb d_Rea_nearestHexadecimal_57 (by decide) (fun c57 => ?_) (fun c57 => ?_)
          · have e57 : T (a + n1) ≠ 46 := fun z => c57 (by rw [z]; rfl)
            have hdg := (hdig (a + n1) (by omega) (by omega)).resolve_left e57
            rw [← gp_dg e57] at hl
            refine lv_iload hx hb d_Rea_nearestHexadecimal_66 (lv_at hl 4 rfl) ?_
            refine lv_if_eq (tgt := 74) hx hb d_Rea_nearestHexadecimal_68 (by decide) (fun c68 => ?_) (fun c68 => ?_)
            · have e68 : gp T a n1 = false := by rw [← gp_dg e57]; exact (bI_0 _).mp c68
              have hg1 : gf T a (n1 + 1) = gf T a n1 + 0 := by have h9 := gf_dg e57; rw [e68] at h9; exact h9
              rw [show gf T a n1 = gf T a (n1 + 1) by omega] at hl
              refine lv_aload_n hx hb d_Rea_nearestHexadecimal_74 rfl (lv_at hl 0 rfl) ?_
              refine va_get (D := D) (ci := 4) (v := .ref x) (C := R_Rea) (T := F_Rea) (N := 7) hx hb hts w_Rea hown hK hP 0 rfl rfl 0 (by decide) (hts _ kF_Rea_27) (fun _ h9 => h9) rfl d_Rea_nearestHexadecimal_75 ?_
              refine lv_iload hx hb d_Rea_nearestHexadecimal_78 (lv_at hl 6 rfl) ?_
              refine va_cald hx hb hK hP 1 0 rfl rfl (i := nI (a + n1)) (vp_in_nI (show a + n1 < 2400 by omega) (by decide)) d_Rea_nearestHexadecimal_80 ?_
              refine tv_i (nI (T (a + n1))) (by rw [nI_clamp (by omega)]; rfl) ?_
              refine ca_i [(r, .inr (4, [.ref x, .ref nm, .ref h, .ref q, .int (nI n), .long R, .int fd])), (x, .inl (cC, 2400, .inl (tx T))), (nm, .inr (3, [.ref x, .int v1, .int v2, .int v3, .int v4, .int (nI a), .int (nI b0), .int (zI pq)])), (h, .inr (1, [.ref q, .int g0, .int gs0, .int kp0, .int pl0])), (q, .inr (2, [.ref t, .ref b])), (t, .inr (0, [.ref ta, .int nv])), (ta, .inl (cA, 96, .inl f)), (b, .inr (0, [.ref ba, .int mv])), (ba, .inl (cB, 96, .inl g))] (va_runS (As := [.int (nI (T (a + n1)))]) (rest := []) ⟨hx, hb, hml, hown, hts⟩ (c_Rea_digitOf l D E (T (a + n1)) (by omega) H.size) (xS 1 hts kC_Rea_digitOf kM_Rea_134 kT_Rea_digitOf kN_Rea rfl rfl (by decide +kernel) ⟨Nat.le_of_ble_eq_true rfl, Nat.le_of_ble_eq_true rfl⟩) ⟨ct_blind hev, ct_pre hev hP hK hD hS hA hE [] rfl (by decide) [] rfl⟩ rfl rfl hl.1 rfl (lv_room (Nat.le_of_ble_eq_true rfl)) d_Rea_nearestHexadecimal_81 ⟨Nat.le_of_ble_eq_true rfl, Nat.le_of_ble_eq_true rfl⟩) hP hD hS hA [] [0, 1, 2, 3, 4, 5, 6, 7, 8] rfl rfl (by decide) (by decide) (fun rv u H locs hw hP hD hS hK1 => ?_)
              subst hw
              have hP : va_P D vcl [(r, .inr (4, [.ref x, .ref nm, .ref h, .ref q, .int (nI n), .long R, .int fd])), (x, .inl (cC, 2400, .inl (tx T))), (nm, .inr (3, [.ref x, .int v1, .int v2, .int v3, .int v4, .int (nI a), .int (nI b0), .int (zI pq)])), (h, .inr (1, [.ref q, .int g0, .int gs0, .int kp0, .int pl0])), (q, .inr (2, [.ref t, .ref b])), (t, .inr (0, [.ref ta, .int nv])), (ta, .inl (cA, 96, .inl f)), (b, .inr (0, [.ref ba, .int mv])), (ba, .inl (cB, 96, .inl g))] H := hP
              have hD : va_D A [(r, .inr (4, [.ref x, .ref nm, .ref h, .ref q, .int (nI n), .long R, .int fd])), (x, .inl (cC, 2400, .inl (tx T))), (nm, .inr (3, [.ref x, .int v1, .int v2, .int v3, .int v4, .int (nI a), .int (nI b0), .int (zI pq)])), (h, .inr (1, [.ref q, .int g0, .int gs0, .int kp0, .int pl0])), (q, .inr (2, [.ref t, .ref b])), (t, .inr (0, [.ref ta, .int nv])), (ta, .inl (cA, 96, .inl f)), (b, .inr (0, [.ref ba, .int mv])), (ba, .inl (cB, 96, .inl g))] := hD
              refine lv_istore (lv' := [(8, .int (nI (dg (T (a + n1))))), (0, .ref r), (1, .ref (E.1 i)), (2, .long (lN Ld)), (4, .int (zI (pq - 4 * gf T a (n1 + 1) + 4 * r1))), (5, .int (bI (gp T a (n1 + 1)))), (6, .int (bI (decide (tl ≠ 0)))), (7, .int (nI (a + n1)))]) hx hb d_Rea_nearestHexadecimal_84 hl (by decide) rfl (fun ls hl => ?_)
              refine lv_lload_n hx hb d_Rea_nearestHexadecimal_86 rfl (lv_at hl 3 rfl) ?_
              refine lv_bipush (v := 56) hx hb d_Rea_nearestHexadecimal_87 (by decide) ?_
              refine lv_lushr (v := lN (Ld / 2 ^ 56)) hx hb d_Rea_nearestHexadecimal_89 (wb_shr (k := 56) (by omega) (by decide)) ?_
              refine lv_lconst (v := 0) hx hb d_Rea_nearestHexadecimal_90 (by decide) ?_
              refine W.lcmp hx hb d_Rea_nearestHexadecimal_91 ?_
              refine lv_if_ne (tgt := 106) hx hb d_Rea_nearestHexadecimal_92 (by decide) (fun c92 => ?_) (fun c92 => ?_)
              · have e92 : 2 ^ 56 ≤ Ld := by rcases Nat.lt_or_ge Ld (2 ^ 56) with z | z; (· exact absurd ((lg_cmp_eq _ _).mpr (by rw [Nat.div_eq_of_lt z]; rfl)) c92); exact z
                refine lv_iinc (v := zI (pq - 4 * gf T a (n1 + 1) + 4 * (r1 + 1 : Nat))) (lv' := [(4, .int (zI (pq - 4 * gf T a (n1 + 1) + 4 * (r1 + 1 : Nat)))), (8, .int (nI (dg (T (a + n1))))), (0, .ref r), (1, .ref (E.1 i)), (2, .long (lN Ld)), (5, .int (bI (gp T a (n1 + 1)))), (6, .int (bI (decide (tl ≠ 0)))), (7, .int (nI (a + n1)))]) hx hb d_Rea_nearestHexadecimal_106 hl (k := 4) rfl (by show zI _ + zI 4 = _; rw [zI_add]; exact congrArg zI (by omega)) (by decide) rfl (fun ls hl => ?_)
                refine lv_iload hx hb d_Rea_nearestHexadecimal_109 (lv_at hl 6 rfl) ?_
                refine lv_if_ne (tgt := 119) hx hb d_Rea_nearestHexadecimal_111 (by decide) (fun c111 => ?_) (fun c111 => ?_)
                · have e111 : tl ≠ 0 := of_decide_eq_true (tt_of (fun z => c111 ((bI_0 _).mpr z)))
                  refine lv_iconst (v := 1) hx hb d_Rea_nearestHexadecimal_119 (by decide) ?_
                  refine tv_i (bI (decide (tl * 16 + dg (T (a + n1)) ≠ 0))) (by rw [decide_eq_true (by omega)]; rfl) ?_
                  refine lv_goto (tgt := 124) hx hb d_Rea_nearestHexadecimal_120 (by decide) ?_
                  refine lv_istore (lv' := [(6, .int (bI (decide (tl * 16 + dg (T (a + n1)) ≠ 0)))), (4, .int (zI (pq - 4 * gf T a (n1 + 1) + 4 * (r1 + 1 : Nat)))), (8, .int (nI (dg (T (a + n1))))), (0, .ref r), (1, .ref (E.1 i)), (2, .long (lN Ld)), (5, .int (bI (gp T a (n1 + 1)))), (7, .int (nI (a + n1)))]) hx hb d_Rea_nearestHexadecimal_124 hl (by decide) rfl (fun ls hl => ?_)
                  refine lv_iinc (v := nI (a + (n1 + 1))) (lv' := [(7, .int (nI (a + (n1 + 1)))), (6, .int (bI (decide (tl * 16 + dg (T (a + n1)) ≠ 0)))), (4, .int (zI (pq - 4 * gf T a (n1 + 1) + 4 * (r1 + 1 : Nat)))), (8, .int (nI (dg (T (a + n1))))), (0, .ref r), (1, .ref (E.1 i)), (2, .long (lN Ld)), (5, .int (bI (gp T a (n1 + 1))))]) hx hb d_Rea_nearestHexadecimal_126 hl (k := 7) rfl (nI_1 (a + n1)) (by decide) rfl (fun ls hl => ?_)
                  refine lv_goto (tgt := 26) hx hb d_Rea_nearestHexadecimal_129 (by decide) ?_
                  exact ih (n1 + 1) Ld (r1 + 1) (tl * 16 + dg (T (a + n1))) (by omega) (by omega) (hLd) (by rw [gv_dg e57, hM, Nat.pow_succ, Nat.add_mul, Nat.mul_assoc]; omega) (by rw [Nat.pow_succ]; omega) (fun _ => e92) (by omega) _ _ _ (hP.sub [0, 1, 2, 3, 4, 5, 6, 7, 8] rfl) (hD.sub [0, 1, 2, 3, 4, 5, 6, 7, 8] (by decide) rfl) hS (lv_sub hl [4, 5, 6, 2, 7, 1, 0] rfl)
                · have e111 : ¬ tl ≠ 0 := of_decide_eq_false ((bI_0 _).mp c111)
                  refine lv_iload hx hb d_Rea_nearestHexadecimal_114 (lv_at hl 1 rfl) ?_
                  refine lv_if_eq (tgt := 123) hx hb d_Rea_nearestHexadecimal_116 (by decide) (fun c116 => ?_) (fun c116 => ?_)
                  · have e116 : dg (T (a + n1)) = 0 := (nI_eq0 (by omega)).mp c116
                    refine lv_iconst (v := 0) hx hb d_Rea_nearestHexadecimal_123 (by decide) ?_
                    refine tv_i (bI (decide (tl * 16 + dg (T (a + n1)) ≠ 0))) (by rw [decide_eq_false (by omega)]; rfl) ?_
                    refine lv_istore (lv' := [(6, .int (bI (decide (tl * 16 + dg (T (a + n1)) ≠ 0)))), (4, .int (zI (pq - 4 * gf T a (n1 + 1) + 4 * (r1 + 1 : Nat)))), (8, .int (nI (dg (T (a + n1))))), (0, .ref r), (1, .ref (E.1 i)), (2, .long (lN Ld)), (5, .int (bI (gp T a (n1 + 1)))), (7, .int (nI (a + n1)))]) hx hb d_Rea_nearestHexadecimal_124 hl (by decide) rfl (fun ls hl => ?_)
                    refine lv_iinc (v := nI (a + (n1 + 1))) (lv' := [(7, .int (nI (a + (n1 + 1)))), (6, .int (bI (decide (tl * 16 + dg (T (a + n1)) ≠ 0)))), (4, .int (zI (pq - 4 * gf T a (n1 + 1) + 4 * (r1 + 1 : Nat)))), (8, .int (nI (dg (T (a + n1))))), (0, .ref r), (1, .ref (E.1 i)), (2, .long (lN Ld)), (5, .int (bI (gp T a (n1 + 1))))]) hx hb d_Rea_nearestHexadecimal_126 hl (k := 7) rfl (nI_1 (a + n1)) (by decide) rfl (fun ls hl => ?_)
                    refine lv_goto (tgt := 26) hx hb d_Rea_nearestHexadecimal_129 (by decide) ?_
                    exact ih (n1 + 1) Ld (r1 + 1) (tl * 16 + dg (T (a + n1))) (by omega) (by omega) (hLd) (by rw [gv_dg e57, hM, Nat.pow_succ, Nat.add_mul, Nat.mul_assoc]; omega) (by rw [Nat.pow_succ]; omega) (fun _ => e92) (by omega) _ _ _ (hP.sub [0, 1, 2, 3, 4, 5, 6, 7, 8] rfl) (hD.sub [0, 1, 2, 3, 4, 5, 6, 7, 8] (by decide) rfl) hS (lv_sub hl [4, 5, 6, 2, 7, 1, 0] rfl)
                  · have e116 : dg (T (a + n1)) ≠ 0 := fun z => c116 (by rw [z]; rfl)
                    refine lv_iconst (v := 1) hx hb d_Rea_nearestHexadecimal_119 (by decide) ?_
                    refine tv_i (bI (decide (tl * 16 + dg (T (a + n1)) ≠ 0))) (by rw [decide_eq_true (by omega)]; rfl) ?_
                    refine lv_goto (tgt := 124) hx hb d_Rea_nearestHexadecimal_120 (by decide) ?_
                    refine lv_istore (lv' := [(6, .int (bI (decide (tl * 16 + dg (T (a + n1)) ≠ 0)))), (4, .int (zI (pq - 4 * gf T a (n1 + 1) + 4 * (r1 + 1 : Nat)))), (8, .int (nI (dg (T (a + n1))))), (0, .ref r), (1, .ref (E.1 i)), (2, .long (lN Ld)), (5, .int (bI (gp T a (n1 + 1)))), (7, .int (nI (a + n1)))]) hx hb d_Rea_nearestHexadecimal_124 hl (by decide) rfl (fun ls hl => ?_)
                    refine lv_iinc (v := nI (a + (n1 + 1))) (lv' := [(7, .int (nI (a + (n1 + 1)))), (6, .int (bI (decide (tl * 16 + dg (T (a + n1)) ≠ 0)))), (4, .int (zI (pq - 4 * gf T a (n1 + 1) + 4 * (r1 + 1 : Nat)))), (8, .int (nI (dg (T (a + n1))))), (0, .ref r), (1, .ref (E.1 i)), (2, .long (lN Ld)), (5, .int (bI (gp T a (n1 + 1))))]) hx hb d_Rea_nearestHexadecimal_126 hl (k := 7) rfl (nI_1 (a + n1)) (by decide) rfl (fun ls hl => ?_)
                    refine lv_goto (tgt := 26) hx hb d_Rea_nearestHexadecimal_129 (by decide) ?_
                    exact ih (n1 + 1) Ld (r1 + 1) (tl * 16 + dg (T (a + n1))) (by omega) (by omega) (hLd) (by rw [gv_dg e57, hM, Nat.pow_succ, Nat.add_mul, Nat.mul_assoc]; omega) (by rw [Nat.pow_succ]; omega) (fun _ => e92) (by omega) _ _ _ (hP.sub [0, 1, 2, 3, 4, 5, 6, 7, 8] rfl) (hD.sub [0, 1, 2, 3, 4, 5, 6, 7, 8] (by decide) rfl) hS (lv_sub hl [4, 5, 6, 2, 7, 1, 0] rfl)
              · have e92 : Ld < 2 ^ 56 := by have h9 := (lN_ne0 (by omega)).mp ((lg_cmp_eq _ _).mp c92); have := (Nat.div_eq_zero_iff_lt (show 0 < 2 ^ 56 by decide)).mp h9; exact this
                have hr0 : r1 = 0 := Classical.byContradiction (fun z => by have := hr z; omega)
                have ht0 : tl = 0 := by rw [hr0, Nat.pow_zero] at ht; omega
                refine lv_lload_n hx hb d_Rea_nearestHexadecimal_95 rfl (lv_at hl 3 rfl) ?_
                refine lv_iconst (v := 4) hx hb d_Rea_nearestHexadecimal_96 (by decide) ?_
                refine lv_lshl (v := lN (Ld * 16)) hx hb d_Rea_nearestHexadecimal_97 (wb_shl _ (k := 4) (by decide)) ?_
                refine lv_iload hx hb d_Rea_nearestHexadecimal_98 (lv_at hl 0 rfl) ?_
                refine lv_i2l (v := (nI (dg (T (a + n1)))).toInt64) hx hb d_Rea_nearestHexadecimal_100 (rfl) ?_
                refine tv_l (lN (dg (T (a + n1)))) (nI_l (by omega)) ?_
                refine lv_lor hx hb d_Rea_nearestHexadecimal_101 ?_
                refine tv_l (lN (Ld * 16 + dg (T (a + n1)))) (or16 hLd hdg) ?_
                refine lv_lstore_n (lv' := [(2, .long (lN (Ld * 16 + dg (T (a + n1))))), (8, .int (nI (dg (T (a + n1))))), (0, .ref r), (1, .ref (E.1 i)), (4, .int (zI (pq - 4 * gf T a (n1 + 1) + 4 * r1))), (5, .int (bI (gp T a (n1 + 1)))), (6, .int (bI (decide (tl ≠ 0)))), (7, .int (nI (a + n1)))]) hx hb d_Rea_nearestHexadecimal_102 rfl hl (by decide) rfl (fun ls hl => ?_)
                refine lv_goto (tgt := 126) hx hb d_Rea_nearestHexadecimal_103 (by decide) ?_
                refine lv_iinc (v := nI (a + (n1 + 1))) (lv' := [(7, .int (nI (a + (n1 + 1)))), (2, .long (lN (Ld * 16 + dg (T (a + n1))))), (8, .int (nI (dg (T (a + n1))))), (0, .ref r), (1, .ref (E.1 i)), (4, .int (zI (pq - 4 * gf T a (n1 + 1) + 4 * r1))), (5, .int (bI (gp T a (n1 + 1)))), (6, .int (bI (decide (tl ≠ 0))))]) hx hb d_Rea_nearestHexadecimal_126 hl (k := 7) rfl (nI_1 (a + n1)) (by decide) rfl (fun ls hl => ?_)
                refine lv_goto (tgt := 26) hx hb d_Rea_nearestHexadecimal_129 (by decide) ?_
                exact ih (n1 + 1) (Ld * 16 + dg (T (a + n1))) r1 tl (by omega) (by omega) (by omega) (by rw [gv_dg e57, hM, hr0, ht0, Nat.pow_zero]; omega) (ht) (fun z => absurd hr0 z) (by omega) _ _ _ (hP.sub [0, 1, 2, 3, 4, 5, 6, 7, 8] rfl) (hD.sub [0, 1, 2, 3, 4, 5, 6, 7, 8] (by decide) rfl) hS (lv_sub hl [3, 4, 1, 5, 6, 7, 0] rfl)
            · have e68 : gp T a n1 = true := by rw [← gp_dg e57]; exact tt_of (fun z => c68 ((bI_0 _).mpr z))
              have hg1 : gf T a (n1 + 1) = gf T a n1 + 1 := by have h9 := gf_dg e57; rw [e68] at h9; exact h9
              refine lv_iinc (v := zI (pq - 4 * gf T a (n1 + 1) + 4 * r1)) (lv' := [(4, .int (zI (pq - 4 * gf T a (n1 + 1) + 4 * r1))), (0, .ref r), (1, .ref (E.1 i)), (2, .long (lN Ld)), (5, .int (bI (gp T a (n1 + 1)))), (6, .int (bI (decide (tl ≠ 0)))), (7, .int (nI (a + n1)))]) hx hb d_Rea_nearestHexadecimal_71 hl (k := 3) rfl (by show zI _ + zI (-4) = _; rw [zI_add, hg1]; exact congrArg zI (by omega)) (by decide) rfl (fun ls hl => ?_)
              refine lv_aload_n hx hb d_Rea_nearestHexadecimal_74 rfl (lv_at hl 1 rfl) ?_
              refine va_get (D := D) (ci := 4) (v := .ref x) (C := R_Rea) (T := F_Rea) (N := 7) hx hb hts w_Rea hown hK hP 0 rfl rfl 0 (by decide) (hts _ kF_Rea_27) (fun _ h9 => h9) rfl d_Rea_nearestHexadecimal_75 ?_
              refine lv_iload hx hb d_Rea_nearestHexadecimal_78 (lv_at hl 6 rfl) ?_
              refine va_cald hx hb hK hP 1 0 rfl rfl (i := nI (a + n1)) (vp_in_nI (show a + n1 < 2400 by omega) (by decide)) d_Rea_nearestHexadecimal_80 ?_
              refine tv_i (nI (T (a + n1))) (by rw [nI_clamp (by omega)]; rfl) ?_
              refine ca_i [(r, .inr (4, [.ref x, .ref nm, .ref h, .ref q, .int (nI n), .long R, .int fd])), (x, .inl (cC, 2400, .inl (tx T))), (nm, .inr (3, [.ref x, .int v1, .int v2, .int v3, .int v4, .int (nI a), .int (nI b0), .int (zI pq)])), (h, .inr (1, [.ref q, .int g0, .int gs0, .int kp0, .int pl0])), (q, .inr (2, [.ref t, .ref b])), (t, .inr (0, [.ref ta, .int nv])), (ta, .inl (cA, 96, .inl f)), (b, .inr (0, [.ref ba, .int mv])), (ba, .inl (cB, 96, .inl g))] (va_runS (As := [.int (nI (T (a + n1)))]) (rest := []) ⟨hx, hb, hml, hown, hts⟩ (c_Rea_digitOf l D E (T (a + n1)) (by omega) H.size) (xS 1 hts kC_Rea_digitOf kM_Rea_134 kT_Rea_digitOf kN_Rea rfl rfl (by decide +kernel) ⟨Nat.le_of_ble_eq_true rfl, Nat.le_of_ble_eq_true rfl⟩) ⟨ct_blind hev, ct_pre hev hP hK hD hS hA hE [] rfl (by decide) [] rfl⟩ rfl rfl hl.1 rfl (lv_room (Nat.le_of_ble_eq_true rfl)) d_Rea_nearestHexadecimal_81 ⟨Nat.le_of_ble_eq_true rfl, Nat.le_of_ble_eq_true rfl⟩) hP hD hS hA [] [0, 1, 2, 3, 4, 5, 6, 7, 8] rfl rfl (by decide) (by decide) (fun rv u H locs hw hP hD hS hK1 => ?_)
              subst hw
              have hP : va_P D vcl [(r, .inr (4, [.ref x, .ref nm, .ref h, .ref q, .int (nI n), .long R, .int fd])), (x, .inl (cC, 2400, .inl (tx T))), (nm, .inr (3, [.ref x, .int v1, .int v2, .int v3, .int v4, .int (nI a), .int (nI b0), .int (zI pq)])), (h, .inr (1, [.ref q, .int g0, .int gs0, .int kp0, .int pl0])), (q, .inr (2, [.ref t, .ref b])), (t, .inr (0, [.ref ta, .int nv])), (ta, .inl (cA, 96, .inl f)), (b, .inr (0, [.ref ba, .int mv])), (ba, .inl (cB, 96, .inl g))] H := hP
              have hD : va_D A [(r, .inr (4, [.ref x, .ref nm, .ref h, .ref q, .int (nI n), .long R, .int fd])), (x, .inl (cC, 2400, .inl (tx T))), (nm, .inr (3, [.ref x, .int v1, .int v2, .int v3, .int v4, .int (nI a), .int (nI b0), .int (zI pq)])), (h, .inr (1, [.ref q, .int g0, .int gs0, .int kp0, .int pl0])), (q, .inr (2, [.ref t, .ref b])), (t, .inr (0, [.ref ta, .int nv])), (ta, .inl (cA, 96, .inl f)), (b, .inr (0, [.ref ba, .int mv])), (ba, .inl (cB, 96, .inl g))] := hD
              refine lv_istore (lv' := [(8, .int (nI (dg (T (a + n1))))), (4, .int (zI (pq - 4 * gf T a (n1 + 1) + 4 * r1))), (0, .ref r), (1, .ref (E.1 i)), (2, .long (lN Ld)), (5, .int (bI (gp T a (n1 + 1)))), (6, .int (bI (decide (tl ≠ 0)))), (7, .int (nI (a + n1)))]) hx hb d_Rea_nearestHexadecimal_84 hl (by decide) rfl (fun ls hl => ?_)
              refine lv_lload_n hx hb d_Rea_nearestHexadecimal_86 rfl (lv_at hl 4 rfl) ?_
              refine lv_bipush (v := 56) hx hb d_Rea_nearestHexadecimal_87 (by decide) ?_
              refine lv_lushr (v := lN (Ld / 2 ^ 56)) hx hb d_Rea_nearestHexadecimal_89 (wb_shr (k := 56) (by omega) (by decide)) ?_
              refine lv_lconst (v := 0) hx hb d_Rea_nearestHexadecimal_90 (by decide) ?_
              refine W.lcmp hx hb d_Rea_nearestHexadecimal_91 ?_
              refine lv_if_ne (tgt := 106) hx hb d_Rea_nearestHexadecimal_92 (by decide) (fun c92 => ?_) (fun c92 => ?_)
              · have e92 : 2 ^ 56 ≤ Ld := by rcases Nat.lt_or_ge Ld (2 ^ 56) with z | z; (· exact absurd ((lg_cmp_eq _ _).mpr (by rw [Nat.div_eq_of_lt z]; rfl)) c92); exact z
                refine lv_iinc (v := zI (pq - 4 * gf T a (n1 + 1) + 4 * (r1 + 1 : Nat))) (lv' := [(4, .int (zI (pq - 4 * gf T a (n1 + 1) + 4 * (r1 + 1 : Nat)))), (8, .int (nI (dg (T (a + n1))))), (0, .ref r), (1, .ref (E.1 i)), (2, .long (lN Ld)), (5, .int (bI (gp T a (n1 + 1)))), (6, .int (bI (decide (tl ≠ 0)))), (7, .int (nI (a + n1)))]) hx hb d_Rea_nearestHexadecimal_106 hl (k := 1) rfl (by show zI _ + zI 4 = _; rw [zI_add]; exact congrArg zI (by omega)) (by decide) rfl (fun ls hl => ?_)
                refine lv_iload hx hb d_Rea_nearestHexadecimal_109 (lv_at hl 6 rfl) ?_
                refine lv_if_ne (tgt := 119) hx hb d_Rea_nearestHexadecimal_111 (by decide) (fun c111 => ?_) (fun c111 => ?_)
                · have e111 : tl ≠ 0 := of_decide_eq_true (tt_of (fun z => c111 ((bI_0 _).mpr z)))
                  refine lv_iconst (v := 1) hx hb d_Rea_nearestHexadecimal_119 (by decide) ?_
                  refine tv_i (bI (decide (tl * 16 + dg (T (a + n1)) ≠ 0))) (by rw [decide_eq_true (by omega)]; rfl) ?_
                  refine lv_goto (tgt := 124) hx hb d_Rea_nearestHexadecimal_120 (by decide) ?_
                  refine lv_istore (lv' := [(6, .int (bI (decide (tl * 16 + dg (T (a + n1)) ≠ 0)))), (4, .int (zI (pq - 4 * gf T a (n1 + 1) + 4 * (r1 + 1 : Nat)))), (8, .int (nI (dg (T (a + n1))))), (0, .ref r), (1, .ref (E.1 i)), (2, .long (lN Ld)), (5, .int (bI (gp T a (n1 + 1)))), (7, .int (nI (a + n1)))]) hx hb d_Rea_nearestHexadecimal_124 hl (by decide) rfl (fun ls hl => ?_)
                  refine lv_iinc (v := nI (a + (n1 + 1))) (lv' := [(7, .int (nI (a + (n1 + 1)))), (6, .int (bI (decide (tl * 16 + dg (T (a + n1)) ≠ 0)))), (4, .int (zI (pq - 4 * gf T a (n1 + 1) + 4 * (r1 + 1 : Nat)))), (8, .int (nI (dg (T (a + n1))))), (0, .ref r), (1, .ref (E.1 i)), (2, .long (lN Ld)), (5, .int (bI (gp T a (n1 + 1))))]) hx hb d_Rea_nearestHexadecimal_126 hl (k := 7) rfl (nI_1 (a + n1)) (by decide) rfl (fun ls hl => ?_)
                  refine lv_goto (tgt := 26) hx hb d_Rea_nearestHexadecimal_129 (by decide) ?_
                  exact ih (n1 + 1) Ld (r1 + 1) (tl * 16 + dg (T (a + n1))) (by omega) (by omega) (hLd) (by rw [gv_dg e57, hM, Nat.pow_succ, Nat.add_mul, Nat.mul_assoc]; omega) (by rw [Nat.pow_succ]; omega) (fun _ => e92) (by omega) _ _ _ (hP.sub [0, 1, 2, 3, 4, 5, 6, 7, 8] rfl) (hD.sub [0, 1, 2, 3, 4, 5, 6, 7, 8] (by decide) rfl) hS (lv_sub hl [4, 5, 6, 2, 7, 1, 0] rfl)
                · have e111 : ¬ tl ≠ 0 := of_decide_eq_false ((bI_0 _).mp c111)
                  refine lv_iload hx hb d_Rea_nearestHexadecimal_114 (lv_at hl 1 rfl) ?_
                  refine lv_if_eq (tgt := 123) hx hb d_Rea_nearestHexadecimal_116 (by decide) (fun c116 => ?_) (fun c116 => ?_)
                  · have e116 : dg (T (a + n1)) = 0 := (nI_eq0 (by omega)).mp c116
                    refine lv_iconst (v := 0) hx hb d_Rea_nearestHexadecimal_123 (by decide) ?_
                    refine tv_i (bI (decide (tl * 16 + dg (T (a + n1)) ≠ 0))) (by rw [decide_eq_false (by omega)]; rfl) ?_
                    refine lv_istore (lv' := [(6, .int (bI (decide (tl * 16 + dg (T (a + n1)) ≠ 0)))), (4, .int (zI (pq - 4 * gf T a (n1 + 1) + 4 * (r1 + 1 : Nat)))), (8, .int (nI (dg (T (a + n1))))), (0, .ref r), (1, .ref (E.1 i)), (2, .long (lN Ld)), (5, .int (bI (gp T a (n1 + 1)))), (7, .int (nI (a + n1)))]) hx hb d_Rea_nearestHexadecimal_124 hl (by decide) rfl (fun ls hl => ?_)
                    refine lv_iinc (v := nI (a + (n1 + 1))) (lv' := [(7, .int (nI (a + (n1 + 1)))), (6, .int (bI (decide (tl * 16 + dg (T (a + n1)) ≠ 0)))), (4, .int (zI (pq - 4 * gf T a (n1 + 1) + 4 * (r1 + 1 : Nat)))), (8, .int (nI (dg (T (a + n1))))), (0, .ref r), (1, .ref (E.1 i)), (2, .long (lN Ld)), (5, .int (bI (gp T a (n1 + 1))))]) hx hb d_Rea_nearestHexadecimal_126 hl (k := 7) rfl (nI_1 (a + n1)) (by decide) rfl (fun ls hl => ?_)
                    refine lv_goto (tgt := 26) hx hb d_Rea_nearestHexadecimal_129 (by decide) ?_
                    exact ih (n1 + 1) Ld (r1 + 1) (tl * 16 + dg (T (a + n1))) (by omega) (by omega) (hLd) (by rw [gv_dg e57, hM, Nat.pow_succ, Nat.add_mul, Nat.mul_assoc]; omega) (by rw [Nat.pow_succ]; omega) (fun _ => e92) (by omega) _ _ _ (hP.sub [0, 1, 2, 3, 4, 5, 6, 7, 8] rfl) (hD.sub [0, 1, 2, 3, 4, 5, 6, 7, 8] (by decide) rfl) hS (lv_sub hl [4, 5, 6, 2, 7, 1, 0] rfl)
                  · have e116 : dg (T (a + n1)) ≠ 0 := fun z => c116 (by rw [z]; rfl)
                    refine lv_iconst (v := 1) hx hb d_Rea_nearestHexadecimal_119 (by decide) ?_
                    refine tv_i (bI (decide (tl * 16 + dg (T (a + n1)) ≠ 0))) (by rw [decide_eq_true (by omega)]; rfl) ?_
                    refine lv_goto (tgt := 124) hx hb d_Rea_nearestHexadecimal_120 (by decide) ?_
                    refine lv_istore (lv' := [(6, .int (bI (decide (tl * 16 + dg (T (a + n1)) ≠ 0)))), (4, .int (zI (pq - 4 * gf T a (n1 + 1) + 4 * (r1 + 1 : Nat)))), (8, .int (nI (dg (T (a + n1))))), (0, .ref r), (1, .ref (E.1 i)), (2, .long (lN Ld)), (5, .int (bI (gp T a (n1 + 1)))), (7, .int (nI (a + n1)))]) hx hb d_Rea_nearestHexadecimal_124 hl (by decide) rfl (fun ls hl => ?_)
                    refine lv_iinc (v := nI (a + (n1 + 1))) (lv' := [(7, .int (nI (a + (n1 + 1)))), (6, .int (bI (decide (tl * 16 + dg (T (a + n1)) ≠ 0)))), (4, .int (zI (pq - 4 * gf T a (n1 + 1) + 4 * (r1 + 1 : Nat)))), (8, .int (nI (dg (T (a + n1))))), (0, .ref r), (1, .ref (E.1 i)), (2, .long (lN Ld)), (5, .int (bI (gp T a (n1 + 1))))]) hx hb d_Rea_nearestHexadecimal_126 hl (k := 7) rfl (nI_1 (a + n1)) (by decide) rfl (fun ls hl => ?_)
                    refine lv_goto (tgt := 26) hx hb d_Rea_nearestHexadecimal_129 (by decide) ?_
                    exact ih (n1 + 1) Ld (r1 + 1) (tl * 16 + dg (T (a + n1))) (by omega) (by omega) (hLd) (by rw [gv_dg e57, hM, Nat.pow_succ, Nat.add_mul, Nat.mul_assoc]; omega) (by rw [Nat.pow_succ]; omega) (fun _ => e92) (by omega) _ _ _ (hP.sub [0, 1, 2, 3, 4, 5, 6, 7, 8] rfl) (hD.sub [0, 1, 2, 3, 4, 5, 6, 7, 8] (by decide) rfl) hS (lv_sub hl [4, 5, 6, 2, 7, 1, 0] rfl)
              · have e92 : Ld < 2 ^ 56 := by have h9 := (lN_ne0 (by omega)).mp ((lg_cmp_eq _ _).mp c92); have := (Nat.div_eq_zero_iff_lt (show 0 < 2 ^ 56 by decide)).mp h9; exact this
                have hr0 : r1 = 0 := Classical.byContradiction (fun z => by have := hr z; omega)
                have ht0 : tl = 0 := by rw [hr0, Nat.pow_zero] at ht; omega
                refine lv_lload_n hx hb d_Rea_nearestHexadecimal_95 rfl (lv_at hl 4 rfl) ?_
                refine lv_iconst (v := 4) hx hb d_Rea_nearestHexadecimal_96 (by decide) ?_
                refine lv_lshl (v := lN (Ld * 16)) hx hb d_Rea_nearestHexadecimal_97 (wb_shl _ (k := 4) (by decide)) ?_
                refine lv_iload hx hb d_Rea_nearestHexadecimal_98 (lv_at hl 0 rfl) ?_
                refine lv_i2l (v := (nI (dg (T (a + n1)))).toInt64) hx hb d_Rea_nearestHexadecimal_100 (rfl) ?_
                refine tv_l (lN (dg (T (a + n1)))) (nI_l (by omega)) ?_
                refine lv_lor hx hb d_Rea_nearestHexadecimal_101 ?_
                refine tv_l (lN (Ld * 16 + dg (T (a + n1)))) (or16 hLd hdg) ?_
                refine lv_lstore_n (lv' := [(2, .long (lN (Ld * 16 + dg (T (a + n1))))), (8, .int (nI (dg (T (a + n1))))), (4, .int (zI (pq - 4 * gf T a (n1 + 1) + 4 * r1))), (0, .ref r), (1, .ref (E.1 i)), (5, .int (bI (gp T a (n1 + 1)))), (6, .int (bI (decide (tl ≠ 0)))), (7, .int (nI (a + n1)))]) hx hb d_Rea_nearestHexadecimal_102 rfl hl (by decide) rfl (fun ls hl => ?_)
                refine lv_goto (tgt := 126) hx hb d_Rea_nearestHexadecimal_103 (by decide) ?_
                refine lv_iinc (v := nI (a + (n1 + 1))) (lv' := [(7, .int (nI (a + (n1 + 1)))), (2, .long (lN (Ld * 16 + dg (T (a + n1))))), (8, .int (nI (dg (T (a + n1))))), (4, .int (zI (pq - 4 * gf T a (n1 + 1) + 4 * r1))), (0, .ref r), (1, .ref (E.1 i)), (5, .int (bI (gp T a (n1 + 1)))), (6, .int (bI (decide (tl ≠ 0))))]) hx hb d_Rea_nearestHexadecimal_126 hl (k := 7) rfl (nI_1 (a + n1)) (by decide) rfl (fun ls hl => ?_)
                refine lv_goto (tgt := 26) hx hb d_Rea_nearestHexadecimal_129 (by decide) ?_
                exact ih (n1 + 1) (Ld * 16 + dg (T (a + n1))) r1 tl (by omega) (by omega) (by omega) (by rw [gv_dg e57, hM, hr0, ht0, Nat.pow_zero]; omega) (ht) (fun z => absurd hr0 z) (by omega) _ _ _ (hP.sub [0, 1, 2, 3, 4, 5, 6, 7, 8] rfl) (hD.sub [0, 1, 2, 3, 4, 5, 6, 7, 8] (by decide) rfl) hS (lv_sub hl [4, 5, 1, 3, 6, 7, 0] rfl)
          · have e57 : T (a + n1) = 46 := (nI_eq (b := 46) (by omega) (by decide)).mp c57
            rw [← gf_pt e57] at hl
            refine lv_iconst (v := 1) hx hb d_Rea_nearestHexadecimal_60 (by decide) ?_
            refine tv_i (bI (gp T a (n1 + 1))) (by rw [gp_pt e57]; rfl) ?_
            refine lv_istore (lv' := [(5, .int (bI (gp T a (n1 + 1)))), (0, .ref r), (1, .ref (E.1 i)), (2, .long (lN Ld)), (4, .int (zI (pq - 4 * gf T a (n1 + 1) + 4 * r1))), (6, .int (bI (decide (tl ≠ 0)))), (7, .int (nI (a + n1)))]) hx hb d_Rea_nearestHexadecimal_61 hl (by decide) rfl (fun ls hl => ?_)
            refine lv_goto (tgt := 126) hx hb d_Rea_nearestHexadecimal_63 (by decide) ?_
            refine lv_iinc (v := nI (a + (n1 + 1))) (lv' := [(7, .int (nI (a + (n1 + 1)))), (5, .int (bI (gp T a (n1 + 1)))), (0, .ref r), (1, .ref (E.1 i)), (2, .long (lN Ld)), (4, .int (zI (pq - 4 * gf T a (n1 + 1) + 4 * r1))), (6, .int (bI (decide (tl ≠ 0))))]) hx hb d_Rea_nearestHexadecimal_126 hl (k := 6) rfl (nI_1 (a + n1)) (by decide) rfl (fun ls hl => ?_)
            refine lv_goto (tgt := 26) hx hb d_Rea_nearestHexadecimal_129 (by decide) ?_
            exact ih (n1 + 1) Ld r1 tl (by omega) (by omega) (hLd) (by rw [gv_pt e57]; exact hM) (ht) (hr) (by omega) _ _ _ (hP.sub [0, 1, 2, 3, 4, 5, 6, 7, 8] rfl) (hD.sub [0, 1, 2, 3, 4, 5, 6, 7, 8] (by decide) rfl) hS (lv_sub hl [2, 3, 4, 5, 1, 6, 0] rfl)
  exact L26 (b0 - a + 1) 0 0 0 0 (by omega) (hab) (by decide) (rfl) (by decide) (fun z => absurd rfl z) (Nat.le_refl 0) _ _ _ (hP.sub [0, 1, 2, 3, 4, 5, 6, 7, 8] rfl) (hD.sub [0, 1, 2, 3, 4, 5, 6, 7, 8] (by decide) rfl) hS (lv_sub hl [5, 6, 4, 3, 2, 1, 0] rfl)

set_option maxHeartbeats 4000000 in
set_option maxRecDepth 100000 in
theorem c_Rea_sizeAs (l : Launch) (D : va_G) (E : evD) (i : Nat) (hi : i < 2) (r x nm h q t ta b ba : Nat) (cC cA cB : ClassId) (T : Nat → Nat) (hT : ∀ j, T j < 256) (n : Nat) (hn : n ≤ 2400) (R : Int64) (fd : Int32) (v1 v2 v3 v4 v5 v6 v7 g0 gs0 kp0 pl0 nv mv : Int32) (f g : Nat → Int32) (hf3 : v4 = nI (xF T n)) (hf4 : 2 < xF T n → v5 = nI (pxA T (xE T n) (xP T n)) ∧ v6 = nI (lD T (xE T n) (xP T n)) ∧ v7 = zI (pPw 1000000 (pxB T (xE T n) (xP T n)) T (xE T n) (lD T (xE T n) (xP T n)))) (hF : 1 < xF T n) : Cl (S := (Int32 × Int32 × Int32 × Int32 × Int32 × Int32 × Int32) × (Int32 × Int32 × Int32 × Int32) × ((Nat → Int32) × Int32 × (Nat → Int32) × Int32)) l y_Rea_sizeAs (wz y_Rea_sizeAs b_Rea_sizeAs 2 (some .long)) ({ frames := 4, cells := 0, slots := 0, locals := 108 }) D vcl (ev1 E) [.ref r, .ref (E.1 i)] [(cC, .char), (cA, .int), (cB, .int)] [(r, .inr (4, [.ref x, .ref nm, .ref h, .ref q, .int (nI n), .long R, .int fd])), (x, .inl (cC, 2400, .inl (tx T))), (nm, .inr (3, [.ref x, .int v1, .int v2, .int v3, .int v4, .int v5, .int v6, .int v7])), (h, .inr (1, [.ref q, .int g0, .int gs0, .int kp0, .int pl0])), (q, .inr (2, [.ref t, .ref b])), (t, .inr (0, [.ref ta, .int nv])), (ta, .inl (cA, 96, .inl f)), (b, .inr (0, [.ref ba, .int mv])), (ba, .inl (cB, 96, .inl g))] 0 0 (fun (w : Int64) (u : (Int32 × Int32 × Int32 × Int32 × Int32 × Int32 × Int32) × (Int32 × Int32 × Int32 × Int32) × ((Nat → Int32) × Int32 × (Nat → Int32) × Int32)) => w = lN (rdN 1000000 i T n) ∧ u.1.2.2.1 = v3) (fun _ => [(cC, .char), (cA, .int), (cB, .int)]) (fun u : (Int32 × Int32 × Int32 × Int32 × Int32 × Int32 × Int32) × (Int32 × Int32 × Int32 × Int32) × ((Nat → Int32) × Int32 × (Nat → Int32) × Int32) => [(r, .inr (4, [.ref x, .ref nm, .ref h, .ref q, .int (nI n), .long R, .int fd])), (x, .inl (cC, 2400, .inl (tx T))), (nm, .inr (3, [.ref x, .int u.1.1, .int u.1.2.1, .int u.1.2.2.1, .int u.1.2.2.2.1, .int u.1.2.2.2.2.1, .int u.1.2.2.2.2.2.1, .int u.1.2.2.2.2.2.2])), (h, .inr (1, [.ref q, .int u.2.1.1, .int u.2.1.2.1, .int u.2.1.2.2.1, .int u.2.1.2.2.2])), (q, .inr (2, [.ref t, .ref b])), (t, .inr (0, [.ref ta, .int u.2.2.2.1])), (ta, .inl (cA, 96, .inl u.2.2.1)), (b, .inr (0, [.ref ba, .int u.2.2.2.2.2])), (ba, .inl (cB, 96, .inl u.2.2.2.2.1))]) := by
  have hev := ev1_ok E
  unfold Cl
  refine ct_of (y := y_Rea_sizeAs) (av := [.ref r, .ref (E.1 i)]) (cc := b_Rea_sizeAs) (maxL := 2) (ret := (some .long)) (Qc := fun A => va_Ql (S := (Int32 × Int32 × Int32 × Int32 × Int32 × Int32 × Int32) × (Int32 × Int32 × Int32 × Int32) × ((Nat → Int32) × Int32 × (Nat → Int32) × Int32)) (fun (w : Int64) (u : (Int32 × Int32 × Int32 × Int32 × Int32 × Int32 × Int32) × (Int32 × Int32 × Int32 × Int32) × ((Nat → Int32) × Int32 × (Nat → Int32) × Int32)) => w = lN (rdN 1000000 i T n) ∧ u.1.2.2.1 = v3) (fun u tS => ctB D vcl ((fun _ => [(cC, .char), (cA, .int), (cB, .int)]) u) ((fun u : (Int32 × Int32 × Int32 × Int32 × Int32 × Int32 × Int32) × (Int32 × Int32 × Int32 × Int32) × ((Nat → Int32) × Int32 × (Nat → Int32) × Int32) => [(r, .inr (4, [.ref x, .ref nm, .ref h, .ref q, .int (nI n), .long R, .int fd])), (x, .inl (cC, 2400, .inl (tx T))), (nm, .inr (3, [.ref x, .int u.1.1, .int u.1.2.1, .int u.1.2.2.1, .int u.1.2.2.2.1, .int u.1.2.2.2.2.1, .int u.1.2.2.2.2.2.1, .int u.1.2.2.2.2.2.2])), (h, .inr (1, [.ref q, .int u.2.1.1, .int u.2.1.2.1, .int u.2.1.2.2.1, .int u.2.1.2.2.2])), (q, .inr (2, [.ref t, .ref b])), (t, .inr (0, [.ref ta, .int u.2.2.2.1])), (ta, .inl (cA, 96, .inl u.2.2.1)), (b, .inr (0, [.ref ba, .int u.2.2.2.2.2])), (ba, .inl (cB, 96, .inl u.2.2.2.2.1))]) u) A tS) A) (by decide) rfl (Nat.le_of_ble_eq_true rfl) ?_
  intro p ee s m below meth cde ls A H locs hx hb hml hrt hlocks hown hin hts hA hP hK hD hS hE hl
  have hown : s.vm.findClass R_Rea = some m.cls := hown
  have hts := wz_g hts
  have hl : lv_has ls 2 [(0, .ref r), (1, .ref (E.1 i))] := hl
  have hxf := xF_hex (T := T) (n := n)
  have hxe : xE T n ≤ 2400 := Nat.le_trans (tE_le T n) hn
  refine lv_aload_n hx hb d_Rea_sizeAs_0 rfl (lv_at hl 0 rfl) ?_
  refine va_get (D := D) (ci := 4) (v := .ref nm) (C := R_Rea) (T := F_Rea) (N := 7) hx hb hts w_Rea hown hK hP 0 rfl rfl 1 (by decide) (hts _ kF_Rea_10) (fun _ h9 => h9) rfl d_Rea_sizeAs_1 ?_
  refine va_get (D := D) (ci := 3) (v := .int v4) (C := R_Num) (T := F_Num) (N := 8) hx hb hts w_Num hown hK hP 2 rfl rfl 4 (by decide) (hts _ kF_Rea_108) (fun _ h9 => h9) rfl d_Rea_sizeAs_4 ?_
  refine tv_i (nI (xF T n)) (hf3) ?_
  refine lv_iconst (v := 2) hx hb d_Rea_sizeAs_7 (by decide) ?_
  refine lv_icmp_ne (tgt := 16) hx hb d_Rea_sizeAs_8 (by decide) (fun c8 => ?_) (fun c8 => ?_)
  · have e8 : xF T n ≠ 2 := fun z => c8 (by rw [z]; rfl)
    refine lv_aload_n hx hb d_Rea_sizeAs_16 rfl (lv_at hl 0 rfl) ?_
    refine va_get (D := D) (ci := 4) (v := .ref nm) (C := R_Rea) (T := F_Rea) (N := 7) hx hb hts w_Rea hown hK hP 0 rfl rfl 1 (by decide) (hts _ kF_Rea_10) (fun _ h9 => h9) rfl d_Rea_sizeAs_17 ?_
    refine va_get (D := D) (ci := 3) (v := .int v4) (C := R_Num) (T := F_Num) (N := 8) hx hb hts w_Num hown hK hP 2 rfl rfl 4 (by decide) (hts _ kF_Rea_108) (fun _ h9 => h9) rfl d_Rea_sizeAs_20 ?_
    refine tv_i (nI (xF T n)) (hf3) ?_
    refine lv_iconst (v := 4) hx hb d_Rea_sizeAs_23 (by decide) ?_
    refine lv_icmp_ne (tgt := 33) hx hb d_Rea_sizeAs_24 (by decide) (fun c24 => ?_) (fun c24 => ?_)
    · have e24 : xF T n ≠ 4 := fun z => c24 (by rw [z]; rfl)
      have hx3 : xF T n = 3 := by omega
      obtain ⟨hr1, hr2, hr3⟩ := rd_in (T := T) (n := n) (β := 10) (by rw [hxf.2.1 hx3]; rfl)
      obtain ⟨hv5, hv6, hv7⟩ := hf4 (by omega)
      subst hv5 hv6 hv7
      have hP : va_P D vcl [(r, .inr (4, [.ref x, .ref nm, .ref h, .ref q, .int (nI n), .long R, .int fd])), (x, .inl (cC, 2400, .inl (tx T))), (nm, .inr (3, [.ref x, .int v1, .int v2, .int v3, .int v4, .int (nI (pxA T (xE T n) (xP T n))), .int (nI (lD T (xE T n) (xP T n))), .int (zI (pPw 1000000 (pxB T (xE T n) (xP T n)) T (xE T n) (lD T (xE T n) (xP T n))))])), (h, .inr (1, [.ref q, .int g0, .int gs0, .int kp0, .int pl0])), (q, .inr (2, [.ref t, .ref b])), (t, .inr (0, [.ref ta, .int nv])), (ta, .inl (cA, 96, .inl f)), (b, .inr (0, [.ref ba, .int mv])), (ba, .inl (cB, 96, .inl g))] H := hP
      have hD : va_D A [(r, .inr (4, [.ref x, .ref nm, .ref h, .ref q, .int (nI n), .long R, .int fd])), (x, .inl (cC, 2400, .inl (tx T))), (nm, .inr (3, [.ref x, .int v1, .int v2, .int v3, .int v4, .int (nI (pxA T (xE T n) (xP T n))), .int (nI (lD T (xE T n) (xP T n))), .int (zI (pPw 1000000 (pxB T (xE T n) (xP T n)) T (xE T n) (lD T (xE T n) (xP T n))))])), (h, .inr (1, [.ref q, .int g0, .int gs0, .int kp0, .int pl0])), (q, .inr (2, [.ref t, .ref b])), (t, .inr (0, [.ref ta, .int nv])), (ta, .inl (cA, 96, .inl f)), (b, .inr (0, [.ref ba, .int mv])), (ba, .inl (cB, 96, .inl g))] := hD
      refine lv_aload_n hx hb d_Rea_sizeAs_33 rfl (lv_at hl 0 rfl) ?_
      refine va_get (D := D) (ci := 4) (v := .ref h) (C := R_Rea) (T := F_Rea) (N := 7) hx hb hts w_Rea hown hK hP 0 rfl rfl 2 (by decide) (hts _ kF_Rea_19) (fun _ h9 => h9) rfl d_Rea_sizeAs_34 ?_
      refine lv_aload_n hx hb d_Rea_sizeAs_37 rfl (lv_at hl 0 rfl) ?_
      refine va_get (D := D) (ci := 4) (v := .ref nm) (C := R_Rea) (T := F_Rea) (N := 7) hx hb hts w_Rea hown hK hP 0 rfl rfl 1 (by decide) (hts _ kF_Rea_10) (fun _ h9 => h9) rfl d_Rea_sizeAs_38 ?_
      refine lv_aload_n hx hb d_Rea_sizeAs_41 rfl (lv_at hl 1 rfl) ?_
      refine ca_l [(r, .inr (4, [.ref x, .ref nm, .ref h, .ref q, .int (nI n), .long R, .int fd]))] (va_runV (As := [.ref nm, .ref (E.1 i)]) (rest := []) ⟨hx, hb, hml, hown, hts⟩ (c_Dec_nearest l D E i hi h x q t ta b ba nm cC cA cB T f g nv mv g0 gs0 kp0 pl0 v1 v2 v3 v4 (pxA T (xE T n) (xP T n)) (lD T (xE T n) (xP T n)) (pPw 1000000 (pxB T (xE T n) (xP T n)) T (xE T n) (lD T (xE T n) (xP T n))) (hr1) (by omega) (fun j => by have := hT j; omega) (fun j h1 h2 => (hr3 j h1 h2).imp id dg_10) (pPw_b.1) (pPw_b.2) H.size) (xV 2 hts kC_Dec_nearest kM_Rea_122 kI_Dec_nearest kS_Dec_nearest kN_Dec rfl rfl (by decide +kernel) ⟨Nat.le_of_ble_eq_true rfl, Nat.le_of_ble_eq_true rfl⟩) ⟨ct_blind hev, va_recv hK hP (ci := 1) (q0 := 3) rfl rfl, ct_pre hev hP hK hD hS hA hE [3, 1, 4, 5, 6, 7, 8, 2] rfl (by decide) [0, 1, 2] rfl⟩ rfl rfl hl.1 rfl (lv_room (Nat.le_of_ble_eq_true rfl)) d_Rea_sizeAs_42 ⟨Nat.le_of_ble_eq_true rfl, Nat.le_of_ble_eq_true rfl⟩) hP hD hS hA [3, 1, 4, 5, 6, 7, 8, 2] [0] rfl rfl (by decide) (by decide) (fun rv u H locs hw hP hD hS hK1 => ?_)
      obtain ⟨⟨f1, nv1, g1, mv1⟩, ⟨d1_1, d1_2, d1_3, d1_4⟩⟩ := u
      subst hw
      have hP : va_P D vcl [(r, .inr (4, [.ref x, .ref nm, .ref h, .ref q, .int (nI n), .long R, .int fd])), (h, .inr (1, [.ref q, .int d1_1, .int d1_2, .int d1_3, .int d1_4])), (x, .inl (cC, 2400, .inl (tx T))), (q, .inr (2, [.ref t, .ref b])), (t, .inr (0, [.ref ta, .int nv1])), (ta, .inl (cA, 96, .inl f1)), (b, .inr (0, [.ref ba, .int mv1])), (ba, .inl (cB, 96, .inl g1)), (nm, .inr (3, [.ref x, .int v1, .int v2, .int v3, .int v4, .int (nI (pxA T (xE T n) (xP T n))), .int (nI (lD T (xE T n) (xP T n))), .int (zI (pPw 1000000 (pxB T (xE T n) (xP T n)) T (xE T n) (lD T (xE T n) (xP T n))))]))] H := hP
      have hD : va_D A [(r, .inr (4, [.ref x, .ref nm, .ref h, .ref q, .int (nI n), .long R, .int fd])), (h, .inr (1, [.ref q, .int d1_1, .int d1_2, .int d1_3, .int d1_4])), (x, .inl (cC, 2400, .inl (tx T))), (q, .inr (2, [.ref t, .ref b])), (t, .inr (0, [.ref ta, .int nv1])), (ta, .inl (cA, 96, .inl f1)), (b, .inr (0, [.ref ba, .int mv1])), (ba, .inl (cB, 96, .inl g1)), (nm, .inr (3, [.ref x, .int v1, .int v2, .int v3, .int v4, .int (nI (pxA T (xE T n) (xP T n))), .int (nI (lD T (xE T n) (xP T n))), .int (zI (pPw 1000000 (pxB T (xE T n) (xP T n)) T (xE T n) (lD T (xE T n) (xP T n))))]))] := hD
      exact rt_l hx hb hrt hlocks (((v1, v2, v3, v4, nI (pxA T (xE T n) (xP T n)), nI (lD T (xE T n) (xP T n)), zI (pPw 1000000 (pxB T (xE T n) (xP T n)) T (xE T n) (lD T (xE T n) (xP T n)))), (d1_1, d1_2, d1_3, d1_4), (f1, nv1, g1, mv1))) (⟨by unfold rdN; rw [if_neg e8, if_neg e24], rfl⟩) (hP.sub [0, 2, 8, 1, 3, 4, 5, 6, 7] rfl) (hK.sub [0, 1, 2] rfl) (hD.sub [0, 2, 8, 1, 3, 4, 5, 6, 7] (by decide) rfl) hS d_Rea_sizeAs_45
    · have e24 : xF T n = 4 := (nI_eq (b := 4) (by omega) (by decide)).mp c24
      obtain ⟨hr1, hr2, hr3⟩ := rd_in (T := T) (n := n) (β := 16) (by rw [hxf.1 e24]; rfl)
      obtain ⟨hv5, hv6, hv7⟩ := hf4 (by omega)
      subst hv5 hv6 hv7
      have hP : va_P D vcl [(r, .inr (4, [.ref x, .ref nm, .ref h, .ref q, .int (nI n), .long R, .int fd])), (x, .inl (cC, 2400, .inl (tx T))), (nm, .inr (3, [.ref x, .int v1, .int v2, .int v3, .int v4, .int (nI (pxA T (xE T n) (xP T n))), .int (nI (lD T (xE T n) (xP T n))), .int (zI (pPw 1000000 (pxB T (xE T n) (xP T n)) T (xE T n) (lD T (xE T n) (xP T n))))])), (h, .inr (1, [.ref q, .int g0, .int gs0, .int kp0, .int pl0])), (q, .inr (2, [.ref t, .ref b])), (t, .inr (0, [.ref ta, .int nv])), (ta, .inl (cA, 96, .inl f)), (b, .inr (0, [.ref ba, .int mv])), (ba, .inl (cB, 96, .inl g))] H := hP
      have hD : va_D A [(r, .inr (4, [.ref x, .ref nm, .ref h, .ref q, .int (nI n), .long R, .int fd])), (x, .inl (cC, 2400, .inl (tx T))), (nm, .inr (3, [.ref x, .int v1, .int v2, .int v3, .int v4, .int (nI (pxA T (xE T n) (xP T n))), .int (nI (lD T (xE T n) (xP T n))), .int (zI (pPw 1000000 (pxB T (xE T n) (xP T n)) T (xE T n) (lD T (xE T n) (xP T n))))])), (h, .inr (1, [.ref q, .int g0, .int gs0, .int kp0, .int pl0])), (q, .inr (2, [.ref t, .ref b])), (t, .inr (0, [.ref ta, .int nv])), (ta, .inl (cA, 96, .inl f)), (b, .inr (0, [.ref ba, .int mv])), (ba, .inl (cB, 96, .inl g))] := hD
      refine lv_aload_n hx hb d_Rea_sizeAs_27 rfl (lv_at hl 0 rfl) ?_
      refine lv_aload_n hx hb d_Rea_sizeAs_28 rfl (lv_at hl 1 rfl) ?_
      refine ca_l [] (va_runV (As := [.ref (E.1 i)]) (rest := []) ⟨hx, hb, hml, hown, hts⟩ (c_Rea_hex l D E i hi r x nm h q t ta b ba cC cA cB T hT n R fd v1 v2 v3 v4 g0 gs0 kp0 pl0 nv mv f g (pxA T (xE T n) (xP T n)) (lD T (xE T n) (xP T n)) (pPw 1000000 (pxB T (xE T n) (xP T n)) T (xE T n) (lD T (xE T n) (xP T n))) (hr1) (by omega) (hr3) (pPw_b.1) (pPw_b.2) H.size) (xV 1 hts kC_Rea_nearestHexadecimal kM_Rea_119 kI_Rea_nearestHexadecimal kS_Rea_nearestHexadecimal kN_Rea rfl rfl (by decide +kernel) ⟨Nat.le_of_ble_eq_true rfl, Nat.le_of_ble_eq_true rfl⟩) ⟨ct_blind hev, va_recv hK hP (ci := 4) (q0 := 0) rfl rfl, ct_pre hev hP hK hD hS hA hE [0, 1, 2, 3, 4, 5, 6, 7, 8] rfl (by decide) [0, 1, 2] rfl⟩ rfl rfl hl.1 rfl (lv_room (Nat.le_of_ble_eq_true rfl)) d_Rea_sizeAs_29 ⟨Nat.le_of_ble_eq_true rfl, Nat.le_of_ble_eq_true rfl⟩) hP hD hS hA [0, 1, 2, 3, 4, 5, 6, 7, 8] [] rfl rfl (by decide) (by decide) (fun rv u H locs hw hP hD hS hK1 => ?_)
      subst hw
      have hP : va_P D vcl [(r, .inr (4, [.ref x, .ref nm, .ref h, .ref q, .int (nI n), .long R, .int fd])), (x, .inl (cC, 2400, .inl (tx T))), (nm, .inr (3, [.ref x, .int v1, .int v2, .int v3, .int v4, .int (nI (pxA T (xE T n) (xP T n))), .int (nI (lD T (xE T n) (xP T n))), .int (zI (pPw 1000000 (pxB T (xE T n) (xP T n)) T (xE T n) (lD T (xE T n) (xP T n))))])), (h, .inr (1, [.ref q, .int g0, .int gs0, .int kp0, .int pl0])), (q, .inr (2, [.ref t, .ref b])), (t, .inr (0, [.ref ta, .int nv])), (ta, .inl (cA, 96, .inl f)), (b, .inr (0, [.ref ba, .int mv])), (ba, .inl (cB, 96, .inl g))] H := hP
      have hD : va_D A [(r, .inr (4, [.ref x, .ref nm, .ref h, .ref q, .int (nI n), .long R, .int fd])), (x, .inl (cC, 2400, .inl (tx T))), (nm, .inr (3, [.ref x, .int v1, .int v2, .int v3, .int v4, .int (nI (pxA T (xE T n) (xP T n))), .int (nI (lD T (xE T n) (xP T n))), .int (zI (pPw 1000000 (pxB T (xE T n) (xP T n)) T (xE T n) (lD T (xE T n) (xP T n))))])), (h, .inr (1, [.ref q, .int g0, .int gs0, .int kp0, .int pl0])), (q, .inr (2, [.ref t, .ref b])), (t, .inr (0, [.ref ta, .int nv])), (ta, .inl (cA, 96, .inl f)), (b, .inr (0, [.ref ba, .int mv])), (ba, .inl (cB, 96, .inl g))] := hD
      exact rt_l hx hb hrt hlocks (((v1, v2, v3, v4, nI (pxA T (xE T n) (xP T n)), nI (lD T (xE T n) (xP T n)), zI (pPw 1000000 (pxB T (xE T n) (xP T n)) T (xE T n) (lD T (xE T n) (xP T n)))), (g0, gs0, kp0, pl0), (f, nv, g, mv))) (⟨by unfold rdN; rw [if_neg e8, if_pos e24], rfl⟩) (hP.sub [0, 1, 2, 3, 4, 5, 6, 7, 8] rfl) (hK.sub [0, 1, 2] rfl) (hD.sub [0, 1, 2, 3, 4, 5, 6, 7, 8] (by decide) rfl) hS d_Rea_sizeAs_32
  · have e8 : xF T n = 2 := (nI_eq (b := 2) (by omega) (by decide)).mp c8
    refine lv_aload_n hx hb d_Rea_sizeAs_11 rfl (lv_at hl 1 rfl) ?_
    refine va_getX hx hb hE.2.2.2.1 (i := i) hi hS hown (hts _ kF_Rea_70) (fun _ h9 => h9) d_Rea_sizeAs_12 ?_
    refine tv_l (lN (kIN i)) (kf_I i hi) ?_
    exact rt_l hx hb hrt hlocks (((v1, v2, v3, v4, v5, v6, v7), (g0, gs0, kp0, pl0), (f, nv, g, mv))) (⟨by unfold rdN; rw [if_pos e8], rfl⟩) (hP.sub [0, 1, 2, 3, 4, 5, 6, 7, 8] rfl) (hK.sub [0, 1, 2] rfl) (hD.sub [0, 1, 2, 3, 4, 5, 6, 7, 8] (by decide) rfl) hS d_Rea_sizeAs_15

/-- the result and the count behind a reading -/
def rdR (i : Nat) (T : Nat → Nat) (n : Nat) (R : Int64) : Int64 := if xF T n = 0 then R else if xF T n = 1 then kNon i else sgd i (lN (rdN 1000000 i T n)) (bI (xM T n))
def rdF (T : Nat → Nat) (n : Nat) (fd : Int32) : Int32 := if xF T n = 0 then fd else fd + 1
set_option maxHeartbeats 4000000 in
set_option maxRecDepth 100000 in
theorem c_Rea_readAs (l : Launch) (D : va_G) (E : evD) (i : Nat) (hi : i < 2) (r x nm h q t ta b ba : Nat) (cC cA cB : ClassId) (T : Nat → Nat) (hT : ∀ j, T j < 256) (n : Nat) (hn : n ≤ 2400) (R : Int64) (fd : Int32) (v1 v2 v3 v4 v5 v6 v7 g0 gs0 kp0 pl0 nv mv : Int32) (f g : Nat → Int32) : Ci (S := (Int32 × Int32 × Int32 × Int32 × Int32 × Int32 × Int32) × (Int32 × Int32 × Int32 × Int32) × ((Nat → Int32) × Int32 × (Nat → Int32) × Int32)) l y_Rea_readAs (wz y_Rea_readAs b_Rea_readAs 2 (some .boolean)) ({ frames := 6, cells := 0, slots := 0, locals := 129 }) D vcl (ev1 E) [.ref r, .ref (E.1 i)] [(cC, .char), (cA, .int), (cB, .int)] [(r, .inr (4, [.ref x, .ref nm, .ref h, .ref q, .int (nI n), .long R, .int fd])), (x, .inl (cC, 2400, .inl (tx T))), (nm, .inr (3, [.ref x, .int v1, .int v2, .int v3, .int v4, .int v5, .int v6, .int v7])), (h, .inr (1, [.ref q, .int g0, .int gs0, .int kp0, .int pl0])), (q, .inr (2, [.ref t, .ref b])), (t, .inr (0, [.ref ta, .int nv])), (ta, .inl (cA, 96, .inl f)), (b, .inr (0, [.ref ba, .int mv])), (ba, .inl (cB, 96, .inl g))] 0 0 (fun (w : Int32) (_ : (Int32 × Int32 × Int32 × Int32 × Int32 × Int32 × Int32) × (Int32 × Int32 × Int32 × Int32) × ((Nat → Int32) × Int32 × (Nat → Int32) × Int32)) => w = bI (decide (xF T n ≠ 0))) (fun _ => [(cC, .char), (cA, .int), (cB, .int)]) (fun u : (Int32 × Int32 × Int32 × Int32 × Int32 × Int32 × Int32) × (Int32 × Int32 × Int32 × Int32) × ((Nat → Int32) × Int32 × (Nat → Int32) × Int32) => [(r, .inr (4, [.ref x, .ref nm, .ref h, .ref q, .int (nI n), .long (rdR i T n R), .int (rdF T n fd)])), (x, .inl (cC, 2400, .inl (tx T))), (nm, .inr (3, [.ref x, .int u.1.1, .int u.1.2.1, .int u.1.2.2.1, .int u.1.2.2.2.1, .int u.1.2.2.2.2.1, .int u.1.2.2.2.2.2.1, .int u.1.2.2.2.2.2.2])), (h, .inr (1, [.ref q, .int u.2.1.1, .int u.2.1.2.1, .int u.2.1.2.2.1, .int u.2.1.2.2.2])), (q, .inr (2, [.ref t, .ref b])), (t, .inr (0, [.ref ta, .int u.2.2.2.1])), (ta, .inl (cA, 96, .inl u.2.2.1)), (b, .inr (0, [.ref ba, .int u.2.2.2.2.2])), (ba, .inl (cB, 96, .inl u.2.2.2.2.1))]) := by
  have hev := ev1_ok E
  unfold Ci
  refine ct_of (y := y_Rea_readAs) (av := [.ref r, .ref (E.1 i)]) (cc := b_Rea_readAs) (maxL := 2) (ret := (some .boolean)) (Qc := fun A => va_Qi (S := (Int32 × Int32 × Int32 × Int32 × Int32 × Int32 × Int32) × (Int32 × Int32 × Int32 × Int32) × ((Nat → Int32) × Int32 × (Nat → Int32) × Int32)) (fun (w : Int32) (_ : (Int32 × Int32 × Int32 × Int32 × Int32 × Int32 × Int32) × (Int32 × Int32 × Int32 × Int32) × ((Nat → Int32) × Int32 × (Nat → Int32) × Int32)) => w = bI (decide (xF T n ≠ 0))) (fun u tS => ctB D vcl ((fun _ => [(cC, .char), (cA, .int), (cB, .int)]) u) ((fun u : (Int32 × Int32 × Int32 × Int32 × Int32 × Int32 × Int32) × (Int32 × Int32 × Int32 × Int32) × ((Nat → Int32) × Int32 × (Nat → Int32) × Int32) => [(r, .inr (4, [.ref x, .ref nm, .ref h, .ref q, .int (nI n), .long (rdR i T n R), .int (rdF T n fd)])), (x, .inl (cC, 2400, .inl (tx T))), (nm, .inr (3, [.ref x, .int u.1.1, .int u.1.2.1, .int u.1.2.2.1, .int u.1.2.2.2.1, .int u.1.2.2.2.2.1, .int u.1.2.2.2.2.2.1, .int u.1.2.2.2.2.2.2])), (h, .inr (1, [.ref q, .int u.2.1.1, .int u.2.1.2.1, .int u.2.1.2.2.1, .int u.2.1.2.2.2])), (q, .inr (2, [.ref t, .ref b])), (t, .inr (0, [.ref ta, .int u.2.2.2.1])), (ta, .inl (cA, 96, .inl u.2.2.1)), (b, .inr (0, [.ref ba, .int u.2.2.2.2.2])), (ba, .inl (cB, 96, .inl u.2.2.2.2.1))]) u) A tS) A) (by decide) rfl (Nat.le_of_ble_eq_true rfl) ?_
  intro p ee s m below meth cde ls A H locs hx hb hml hrt hlocks hown hin hts hA hP hK hD hS hE hl
  have hown : s.vm.findClass R_Rea = some m.cls := hown
  have hts := wz_g hts
  have hl : lv_has ls 2 [(0, .ref r), (1, .ref (E.1 i))] := hl
  refine lv_aload_n hx hb d_Rea_readAs_0 rfl (lv_at hl 0 rfl) ?_
  refine va_get (D := D) (ci := 4) (v := .ref nm) (C := R_Rea) (T := F_Rea) (N := 7) hx hb hts w_Rea hown hK hP 0 rfl rfl 1 (by decide) (hts _ kF_Rea_10) (fun _ h9 => h9) rfl d_Rea_readAs_1 ?_
  refine lv_aload_n hx hb d_Rea_readAs_4 rfl (lv_at hl 0 rfl) ?_
  refine va_get (D := D) (ci := 4) (v := .int (nI n)) (C := R_Rea) (T := F_Rea) (N := 7) hx hb hts w_Rea hown hK hP 0 rfl rfl 4 (by decide) (hts _ kF_Rea_33) (fun _ h9 => h9) rfl d_Rea_readAs_5 ?_
  refine ca_i [(r, .inr (4, [.ref x, .ref nm, .ref h, .ref q, .int (nI n), .long R, .int fd])), (h, .inr (1, [.ref q, .int g0, .int gs0, .int kp0, .int pl0])), (q, .inr (2, [.ref t, .ref b])), (t, .inr (0, [.ref ta, .int nv])), (ta, .inl (cA, 96, .inl f)), (b, .inr (0, [.ref ba, .int mv])), (ba, .inl (cB, 96, .inl g))] (va_runV (As := [.int (nI n)]) (rest := []) ⟨hx, hb, hml, hown, hts⟩ (c_Num_findIn l D E nm x cC T hT v3 v4 v5 v6 v7 v1 v2 n hn H.size) (xV 1 hts kC_Num_findIn kM_Rea_104 kI_Num_findIn kS_Num_findIn kN_Num rfl rfl (by decide +kernel) ⟨Nat.le_of_ble_eq_true rfl, Nat.le_of_ble_eq_true rfl⟩) ⟨ct_blind hev, va_recv hK hP (ci := 3) (q0 := 2) rfl rfl, ct_pre hev hP hK hD hS hA hE [2, 1] rfl (by decide) [0] rfl⟩ rfl rfl hl.1 rfl (lv_room (Nat.le_of_ble_eq_true rfl)) d_Rea_readAs_8 ⟨Nat.le_of_ble_eq_true rfl, Nat.le_of_ble_eq_true rfl⟩) hP hD hS hA [2, 1] [0, 3, 4, 5, 6, 7, 8] rfl rfl (by decide) (by decide) (fun rv u H locs hw hP hD hS hK1 => ?_)
  obtain ⟨v1_1, v1_2, v1_3, v1_4, v1_5, v1_6, v1_7⟩ := u
  obtain ⟨hf1, hf2, hf3, hf4⟩ := hw
  have hf2 : v1_3 = bI (xM T n) := hf2
  have hf3 : xF T n ≠ 0 → v1_4 = nI (xF T n) := hf3
  have hf4 : 2 < xF T n → v1_5 = nI (pxA T (xE T n) (xP T n)) ∧ v1_6 = nI (lD T (xE T n) (xP T n)) ∧ v1_7 = zI (pPw 1000000 (pxB T (xE T n) (xP T n)) T (xE T n) (lD T (xE T n) (xP T n))) := hf4
  subst hf1 hf2
  have hP : va_P D vcl [(r, .inr (4, [.ref x, .ref nm, .ref h, .ref q, .int (nI n), .long R, .int fd])), (h, .inr (1, [.ref q, .int g0, .int gs0, .int kp0, .int pl0])), (q, .inr (2, [.ref t, .ref b])), (t, .inr (0, [.ref ta, .int nv])), (ta, .inl (cA, 96, .inl f)), (b, .inr (0, [.ref ba, .int mv])), (ba, .inl (cB, 96, .inl g)), (nm, .inr (3, [.ref x, .int v1_1, .int v1_2, .int (bI (xM T n)), .int v1_4, .int v1_5, .int v1_6, .int v1_7])), (x, .inl (cC, 2400, .inl (tx T)))] H := hP
  have hD : va_D A [(r, .inr (4, [.ref x, .ref nm, .ref h, .ref q, .int (nI n), .long R, .int fd])), (h, .inr (1, [.ref q, .int g0, .int gs0, .int kp0, .int pl0])), (q, .inr (2, [.ref t, .ref b])), (t, .inr (0, [.ref ta, .int nv])), (ta, .inl (cA, 96, .inl f)), (b, .inr (0, [.ref ba, .int mv])), (ba, .inl (cB, 96, .inl g)), (nm, .inr (3, [.ref x, .int v1_1, .int v1_2, .int (bI (xM T n)), .int v1_4, .int v1_5, .int v1_6, .int v1_7])), (x, .inl (cC, 2400, .inl (tx T)))] := hD
  refine lv_if_ne (tgt := 16) hx hb d_Rea_readAs_11 (by decide) (fun c11 => ?_) (fun c11 => ?_)
  · have e11 : xF T n ≠ 0 := of_decide_eq_true (tt_of (fun z => c11 ((bI_0 _).mpr z)))
    have hf3 := hf3 e11
    have hxf := xF_hex (T := T) (n := n)
    refine lv_aload_n hx hb d_Rea_readAs_16 rfl (lv_at hl 0 rfl) ?_
    refine lv_dup hx hb d_Rea_readAs_17 rfl ?_
    refine va_get (D := D) (ci := 4) (v := .int fd) (C := R_Rea) (T := F_Rea) (N := 7) hx hb hts w_Rea hown hK hP 0 rfl rfl 6 (by decide) (hts _ kF_Rea_41) (fun _ h9 => h9) rfl d_Rea_readAs_18 ?_
    refine lv_iconst (v := 1) hx hb d_Rea_readAs_21 (by decide) ?_
    refine lv_iadd hx hb d_Rea_readAs_22 ?_
    refine va_put (D := D) (ci := 4) (v := .int (fd + 1)) (ty := .int) (C := R_Rea) (T := F_Rea) (N := 7) hx hb hts w_Rea t_Rea tk_Rea n_Rea hown hK hP hD hS 0 rfl rfl 6 (by decide) (hts _ kF_Rea_41) (fun _ h9 => h9) rfl (by decide +kernel) (rfl) (rfl) (Nat.le_of_ble_eq_true rfl) d_Rea_readAs_23 (fun H locs hP hD hS => ?_)
    have hP : va_P D vcl [(r, .inr (4, [.ref x, .ref nm, .ref h, .ref q, .int (nI n), .long R, .int (fd + 1)])), (h, .inr (1, [.ref q, .int g0, .int gs0, .int kp0, .int pl0])), (q, .inr (2, [.ref t, .ref b])), (t, .inr (0, [.ref ta, .int nv])), (ta, .inl (cA, 96, .inl f)), (b, .inr (0, [.ref ba, .int mv])), (ba, .inl (cB, 96, .inl g)), (nm, .inr (3, [.ref x, .int v1_1, .int v1_2, .int (bI (xM T n)), .int v1_4, .int v1_5, .int v1_6, .int v1_7])), (x, .inl (cC, 2400, .inl (tx T)))] H := hP
    have hD : va_D A [(r, .inr (4, [.ref x, .ref nm, .ref h, .ref q, .int (nI n), .long R, .int (fd + 1)])), (h, .inr (1, [.ref q, .int g0, .int gs0, .int kp0, .int pl0])), (q, .inr (2, [.ref t, .ref b])), (t, .inr (0, [.ref ta, .int nv])), (ta, .inl (cA, 96, .inl f)), (b, .inr (0, [.ref ba, .int mv])), (ba, .inl (cB, 96, .inl g)), (nm, .inr (3, [.ref x, .int v1_1, .int v1_2, .int (bI (xM T n)), .int v1_4, .int v1_5, .int v1_6, .int v1_7])), (x, .inl (cC, 2400, .inl (tx T)))] := hD
    refine lv_aload_n hx hb d_Rea_readAs_26 rfl (lv_at hl 0 rfl) ?_
    refine lv_aload_n hx hb d_Rea_readAs_27 rfl (lv_at hl 0 rfl) ?_
    refine va_get (D := D) (ci := 4) (v := .ref nm) (C := R_Rea) (T := F_Rea) (N := 7) hx hb hts w_Rea hown hK hP 0 rfl rfl 1 (by decide) (hts _ kF_Rea_10) (fun _ h9 => h9) rfl d_Rea_readAs_28 ?_
    refine va_get (D := D) (ci := 3) (v := .int v1_4) (C := R_Num) (T := F_Num) (N := 8) hx hb hts w_Num hown hK hP 7 rfl rfl 4 (by decide) (hts _ kF_Rea_108) (fun _ h9 => h9) rfl d_Rea_readAs_31 ?_
    refine tv_i (nI (xF T n)) (hf3) ?_
    refine lv_iconst (v := 1) hx hb d_Rea_readAs_34 (by decide) ?_
    refine lv_icmp_ne (tgt := 45) hx hb d_Rea_readAs_35 (by decide) (fun c35 => ?_) (fun c35 => ?_)
    · have e35 : xF T n ≠ 1 := fun z => c35 (by rw [z]; rfl)
      refine lv_aload_n hx hb d_Rea_readAs_45 rfl (lv_at hl 1 rfl) ?_
      refine lv_aload_n hx hb d_Rea_readAs_46 rfl (lv_at hl 0 rfl) ?_
      refine lv_aload_n hx hb d_Rea_readAs_47 rfl (lv_at hl 1 rfl) ?_
      refine ca_l [] (va_runV (As := [.ref (E.1 i)]) (rest := [.ref (E.1 i), .ref r]) ⟨hx, hb, hml, hown, hts⟩ (c_Rea_sizeAs l D E i hi r x nm h q t ta b ba cC cA cB T hT n hn R (fd + 1) v1_1 v1_2 (bI (xM T n)) v1_4 v1_5 v1_6 v1_7 g0 gs0 kp0 pl0 nv mv f g (hf3) hf4 (by omega) H.size) (xV 1 hts kC_Rea_sizeAs kM_Rea_111 kI_Rea_sizeAs kS_Rea_sizeAs kN_Rea rfl rfl (by decide +kernel) ⟨Nat.le_of_ble_eq_true rfl, Nat.le_of_ble_eq_true rfl⟩) ⟨ct_blind hev, va_recv hK hP (ci := 4) (q0 := 0) rfl rfl, ct_pre hev hP hK hD hS hA hE [0, 8, 7, 1, 2, 3, 4, 5, 6] rfl (by decide) [0, 1, 2] rfl⟩ rfl rfl hl.1 rfl (lv_room (Nat.le_of_ble_eq_true rfl)) d_Rea_readAs_48 ⟨Nat.le_of_ble_eq_true rfl, Nat.le_of_ble_eq_true rfl⟩) hP hD hS hA [0, 8, 7, 1, 2, 3, 4, 5, 6] [] rfl rfl (by decide) (by decide) (fun rv u H locs hw hP hD hS hK1 => ?_)
      obtain ⟨hw, hv3⟩ := hw
      subst hw
      obtain ⟨⟨v2_1, v2_2, v2_3, v2_4, v2_5, v2_6, v2_7⟩, ⟨d2_1, d2_2, d2_3, d2_4⟩, ⟨f2, nv2, g2, mv2⟩⟩ := u
      have hP : va_P D vcl [(r, .inr (4, [.ref x, .ref nm, .ref h, .ref q, .int (nI n), .long R, .int (fd + 1)])), (x, .inl (cC, 2400, .inl (tx T))), (nm, .inr (3, [.ref x, .int v2_1, .int v2_2, .int v2_3, .int v2_4, .int v2_5, .int v2_6, .int v2_7])), (h, .inr (1, [.ref q, .int d2_1, .int d2_2, .int d2_3, .int d2_4])), (q, .inr (2, [.ref t, .ref b])), (t, .inr (0, [.ref ta, .int nv2])), (ta, .inl (cA, 96, .inl f2)), (b, .inr (0, [.ref ba, .int mv2])), (ba, .inl (cB, 96, .inl g2))] H := hP
      have hD : va_D A [(r, .inr (4, [.ref x, .ref nm, .ref h, .ref q, .int (nI n), .long R, .int (fd + 1)])), (x, .inl (cC, 2400, .inl (tx T))), (nm, .inr (3, [.ref x, .int v2_1, .int v2_2, .int v2_3, .int v2_4, .int v2_5, .int v2_6, .int v2_7])), (h, .inr (1, [.ref q, .int d2_1, .int d2_2, .int d2_3, .int d2_4])), (q, .inr (2, [.ref t, .ref b])), (t, .inr (0, [.ref ta, .int nv2])), (ta, .inl (cA, 96, .inl f2)), (b, .inr (0, [.ref ba, .int mv2])), (ba, .inl (cB, 96, .inl g2))] := hD
      have hv3 : v2_3 = bI (xM T n) := hv3
      subst hv3
      have hP : va_P D vcl [(r, .inr (4, [.ref x, .ref nm, .ref h, .ref q, .int (nI n), .long R, .int (fd + 1)])), (x, .inl (cC, 2400, .inl (tx T))), (nm, .inr (3, [.ref x, .int v2_1, .int v2_2, .int (bI (xM T n)), .int v2_4, .int v2_5, .int v2_6, .int v2_7])), (h, .inr (1, [.ref q, .int d2_1, .int d2_2, .int d2_3, .int d2_4])), (q, .inr (2, [.ref t, .ref b])), (t, .inr (0, [.ref ta, .int nv2])), (ta, .inl (cA, 96, .inl f2)), (b, .inr (0, [.ref ba, .int mv2])), (ba, .inl (cB, 96, .inl g2))] H := hP
      have hD : va_D A [(r, .inr (4, [.ref x, .ref nm, .ref h, .ref q, .int (nI n), .long R, .int (fd + 1)])), (x, .inl (cC, 2400, .inl (tx T))), (nm, .inr (3, [.ref x, .int v2_1, .int v2_2, .int (bI (xM T n)), .int v2_4, .int v2_5, .int v2_6, .int v2_7])), (h, .inr (1, [.ref q, .int d2_1, .int d2_2, .int d2_3, .int d2_4])), (q, .inr (2, [.ref t, .ref b])), (t, .inr (0, [.ref ta, .int nv2])), (ta, .inl (cA, 96, .inl f2)), (b, .inr (0, [.ref ba, .int mv2])), (ba, .inl (cB, 96, .inl g2))] := hD
      refine lv_aload_n hx hb d_Rea_readAs_51 rfl (lv_at hl 0 rfl) ?_
      refine va_get (D := D) (ci := 4) (v := .ref nm) (C := R_Rea) (T := F_Rea) (N := 7) hx hb hts w_Rea hown hK hP 0 rfl rfl 1 (by decide) (hts _ kF_Rea_10) (fun _ h9 => h9) rfl d_Rea_readAs_52 ?_
      refine va_get (D := D) (ci := 3) (v := .int (bI (xM T n))) (C := R_Num) (T := F_Num) (N := 8) hx hb hts w_Num hown hK hP 2 rfl rfl 3 (by decide) (hts _ kF_Rea_115) (fun _ h9 => h9) rfl d_Rea_readAs_55 ?_
      refine ca_l [(r, .inr (4, [.ref x, .ref nm, .ref h, .ref q, .int (nI n), .long R, .int (fd + 1)])), (x, .inl (cC, 2400, .inl (tx T))), (nm, .inr (3, [.ref x, .int v2_1, .int v2_2, .int (bI (xM T n)), .int v2_4, .int v2_5, .int v2_6, .int v2_7])), (h, .inr (1, [.ref q, .int d2_1, .int d2_2, .int d2_3, .int d2_4])), (q, .inr (2, [.ref t, .ref b])), (t, .inr (0, [.ref ta, .int nv2])), (ta, .inl (cA, 96, .inl f2)), (b, .inr (0, [.ref ba, .int mv2])), (ba, .inl (cB, 96, .inl g2))] (va_runV (As := [.long (lN (rdN 1000000 i T n)), .int (bI (xM T n))]) (rest := [.ref r]) ⟨hx, hb, hml, hown, hts⟩ (c_Kin_signed l D E i hi (lN (rdN 1000000 i T n)) (bI (xM T n)) H.size) (xV 2 hts kC_Kin_signed kM_Rea_73 kI_Kin_signed kS_Kin_signed kN_Kin rfl rfl (by decide +kernel) ⟨Nat.le_of_ble_eq_true rfl, Nat.le_of_ble_eq_true rfl⟩) ⟨ct_blind hev, va_recvE (i := i) hE.2.1 hi hS, ct_pre hev hP hK hD hS hA hE [] rfl (by decide) [] rfl⟩ rfl rfl hl.1 rfl (lv_room (Nat.le_of_ble_eq_true rfl)) d_Rea_readAs_58 ⟨Nat.le_of_ble_eq_true rfl, Nat.le_of_ble_eq_true rfl⟩) hP hD hS hA [] [0, 1, 2, 3, 4, 5, 6, 7, 8] rfl rfl (by decide) (by decide) (fun rv u H locs hw hP hD hS hK1 => ?_)
      subst hw
      have hP : va_P D vcl [(r, .inr (4, [.ref x, .ref nm, .ref h, .ref q, .int (nI n), .long R, .int (fd + 1)])), (x, .inl (cC, 2400, .inl (tx T))), (nm, .inr (3, [.ref x, .int v2_1, .int v2_2, .int (bI (xM T n)), .int v2_4, .int v2_5, .int v2_6, .int v2_7])), (h, .inr (1, [.ref q, .int d2_1, .int d2_2, .int d2_3, .int d2_4])), (q, .inr (2, [.ref t, .ref b])), (t, .inr (0, [.ref ta, .int nv2])), (ta, .inl (cA, 96, .inl f2)), (b, .inr (0, [.ref ba, .int mv2])), (ba, .inl (cB, 96, .inl g2))] H := hP
      have hD : va_D A [(r, .inr (4, [.ref x, .ref nm, .ref h, .ref q, .int (nI n), .long R, .int (fd + 1)])), (x, .inl (cC, 2400, .inl (tx T))), (nm, .inr (3, [.ref x, .int v2_1, .int v2_2, .int (bI (xM T n)), .int v2_4, .int v2_5, .int v2_6, .int v2_7])), (h, .inr (1, [.ref q, .int d2_1, .int d2_2, .int d2_3, .int d2_4])), (q, .inr (2, [.ref t, .ref b])), (t, .inr (0, [.ref ta, .int nv2])), (ta, .inl (cA, 96, .inl f2)), (b, .inr (0, [.ref ba, .int mv2])), (ba, .inl (cB, 96, .inl g2))] := hD
      refine va_put (D := D) (ci := 4) (v := .long (sgd i (lN (rdN 1000000 i T n)) (bI (xM T n)))) (ty := .long) (C := R_Rea) (T := F_Rea) (N := 7) hx hb hts w_Rea t_Rea tk_Rea n_Rea hown hK hP hD hS 0 rfl rfl 5 (by decide) (hts _ kF_Rea_37) (fun _ h9 => h9) rfl (by decide +kernel) (rfl) (rfl) (Nat.le_of_ble_eq_true rfl) d_Rea_readAs_61 (fun H locs hP hD hS => ?_)
      have hP : va_P D vcl [(r, .inr (4, [.ref x, .ref nm, .ref h, .ref q, .int (nI n), .long (sgd i (lN (rdN 1000000 i T n)) (bI (xM T n))), .int (fd + 1)])), (x, .inl (cC, 2400, .inl (tx T))), (nm, .inr (3, [.ref x, .int v2_1, .int v2_2, .int (bI (xM T n)), .int v2_4, .int v2_5, .int v2_6, .int v2_7])), (h, .inr (1, [.ref q, .int d2_1, .int d2_2, .int d2_3, .int d2_4])), (q, .inr (2, [.ref t, .ref b])), (t, .inr (0, [.ref ta, .int nv2])), (ta, .inl (cA, 96, .inl f2)), (b, .inr (0, [.ref ba, .int mv2])), (ba, .inl (cB, 96, .inl g2))] H := hP
      have hD : va_D A [(r, .inr (4, [.ref x, .ref nm, .ref h, .ref q, .int (nI n), .long (sgd i (lN (rdN 1000000 i T n)) (bI (xM T n))), .int (fd + 1)])), (x, .inl (cC, 2400, .inl (tx T))), (nm, .inr (3, [.ref x, .int v2_1, .int v2_2, .int (bI (xM T n)), .int v2_4, .int v2_5, .int v2_6, .int v2_7])), (h, .inr (1, [.ref q, .int d2_1, .int d2_2, .int d2_3, .int d2_4])), (q, .inr (2, [.ref t, .ref b])), (t, .inr (0, [.ref ta, .int nv2])), (ta, .inl (cA, 96, .inl f2)), (b, .inr (0, [.ref ba, .int mv2])), (ba, .inl (cB, 96, .inl g2))] := hD
      refine lv_iconst (v := 1) hx hb d_Rea_readAs_64 (by decide) ?_
      rw [show sgd i (lN (rdN 1000000 i T n)) (bI (xM T n)) = rdR i T n R by unfold rdR; rw [if_neg e11, if_neg e35], show fd + 1 = rdF T n fd by unfold rdF; rw [if_neg e11]] at hP hD
      exact rt_i hx hb hrt hlocks (rfl) (((v2_1, v2_2, bI (xM T n), v2_4, v2_5, v2_6, v2_7), (d2_1, d2_2, d2_3, d2_4), (f2, nv2, g2, mv2))) (by rw [decide_eq_true e11]; rfl) (hP.sub [0, 1, 2, 3, 4, 5, 6, 7, 8] rfl) (hK.sub [0, 1, 2] rfl) (hD.sub [0, 1, 2, 3, 4, 5, 6, 7, 8] (by decide) rfl) hS d_Rea_readAs_65
    · have e35 : xF T n = 1 := (nI_eq (b := 1) (by omega) (by decide)).mp c35
      refine lv_aload_n hx hb d_Rea_readAs_38 rfl (lv_at hl 1 rfl) ?_
      refine va_getX hx hb hE.2.2.2.2.1 (i := i) hi hS hown (hts _ kF_Rea_67) (fun _ h9 => h9) d_Rea_readAs_39 ?_
      refine lv_goto (tgt := 61) hx hb d_Rea_readAs_42 (by decide) ?_
      refine va_put (D := D) (ci := 4) (v := .long (kNon i)) (ty := .long) (C := R_Rea) (T := F_Rea) (N := 7) hx hb hts w_Rea t_Rea tk_Rea n_Rea hown hK hP hD hS 0 rfl rfl 5 (by decide) (hts _ kF_Rea_37) (fun _ h9 => h9) rfl (by decide +kernel) (rfl) (rfl) (Nat.le_of_ble_eq_true rfl) d_Rea_readAs_61 (fun H locs hP hD hS => ?_)
      have hP : va_P D vcl [(r, .inr (4, [.ref x, .ref nm, .ref h, .ref q, .int (nI n), .long (kNon i), .int (fd + 1)])), (h, .inr (1, [.ref q, .int g0, .int gs0, .int kp0, .int pl0])), (q, .inr (2, [.ref t, .ref b])), (t, .inr (0, [.ref ta, .int nv])), (ta, .inl (cA, 96, .inl f)), (b, .inr (0, [.ref ba, .int mv])), (ba, .inl (cB, 96, .inl g)), (nm, .inr (3, [.ref x, .int v1_1, .int v1_2, .int (bI (xM T n)), .int v1_4, .int v1_5, .int v1_6, .int v1_7])), (x, .inl (cC, 2400, .inl (tx T)))] H := hP
      have hD : va_D A [(r, .inr (4, [.ref x, .ref nm, .ref h, .ref q, .int (nI n), .long (kNon i), .int (fd + 1)])), (h, .inr (1, [.ref q, .int g0, .int gs0, .int kp0, .int pl0])), (q, .inr (2, [.ref t, .ref b])), (t, .inr (0, [.ref ta, .int nv])), (ta, .inl (cA, 96, .inl f)), (b, .inr (0, [.ref ba, .int mv])), (ba, .inl (cB, 96, .inl g)), (nm, .inr (3, [.ref x, .int v1_1, .int v1_2, .int (bI (xM T n)), .int v1_4, .int v1_5, .int v1_6, .int v1_7])), (x, .inl (cC, 2400, .inl (tx T)))] := hD
      refine lv_iconst (v := 1) hx hb d_Rea_readAs_64 (by decide) ?_
      rw [show kNon i = rdR i T n R by unfold rdR; rw [if_neg e11, if_pos e35], show fd + 1 = rdF T n fd by unfold rdF; rw [if_neg e11]] at hP hD
      exact rt_i hx hb hrt hlocks (rfl) (((v1_1, v1_2, bI (xM T n), v1_4, v1_5, v1_6, v1_7), (g0, gs0, kp0, pl0), (f, nv, g, mv))) (by rw [decide_eq_true e11]; rfl) (hP.sub [0, 8, 7, 1, 2, 3, 4, 5, 6] rfl) (hK.sub [0, 1, 2] rfl) (hD.sub [0, 8, 7, 1, 2, 3, 4, 5, 6] (by decide) rfl) hS d_Rea_readAs_65
  · have e11 : ¬ xF T n ≠ 0 := of_decide_eq_false ((bI_0 _).mp c11)
    refine lv_iconst (v := 0) hx hb d_Rea_readAs_14 (by decide) ?_
    rw [show R = rdR i T n R by unfold rdR; rw [if_pos (by omega)], show fd = rdF T n fd by unfold rdF; rw [if_pos (by omega)]] at hP hD
    exact rt_i hx hb hrt hlocks (rfl) (((v1_1, v1_2, bI (xM T n), v1_4, v1_5, v1_6, v1_7), (g0, gs0, kp0, pl0), (f, nv, g, mv))) (by rw [decide_eq_false e11]; rfl) (hP.sub [0, 8, 7, 1, 2, 3, 4, 5, 6] rfl) (hK.sub [0, 1, 2] rfl) (hD.sub [0, 8, 7, 1, 2, 3, 4, 5, 6] (by decide) rfl) hS d_Rea_readAs_15

set_option maxHeartbeats 4000000 in
set_option maxRecDepth 100000 in
theorem c_Rea_wide (l : Launch) (D : va_G) (E : evD) (r x nm h q t ta b ba : Nat) (cC cA cB : ClassId) (T : Nat → Nat) (hT : ∀ j, T j < 256) (n : Nat) (hn : n ≤ 2400) (R : Int64) (fd : Int32) (v1 v2 v3 v4 v5 v6 v7 g0 gs0 kp0 pl0 nv mv : Int32) (f g : Nat → Int32) : Ci (S := (Int32 × Int32 × Int32 × Int32 × Int32 × Int32 × Int32) × (Int32 × Int32 × Int32 × Int32) × ((Nat → Int32) × Int32 × (Nat → Int32) × Int32)) l y_Rea_wide (wz y_Rea_wide b_Rea_wide 1 (some .boolean)) ({ frames := 7, cells := 0, slots := 0, locals := 150 }) D vcl (ev1 E) [.ref r] [(cC, .char), (cA, .int), (cB, .int)] [(r, .inr (4, [.ref x, .ref nm, .ref h, .ref q, .int (nI n), .long R, .int fd])), (x, .inl (cC, 2400, .inl (tx T))), (nm, .inr (3, [.ref x, .int v1, .int v2, .int v3, .int v4, .int v5, .int v6, .int v7])), (h, .inr (1, [.ref q, .int g0, .int gs0, .int kp0, .int pl0])), (q, .inr (2, [.ref t, .ref b])), (t, .inr (0, [.ref ta, .int nv])), (ta, .inl (cA, 96, .inl f)), (b, .inr (0, [.ref ba, .int mv])), (ba, .inl (cB, 96, .inl g))] 0 0 (fun (w : Int32) (_ : (Int32 × Int32 × Int32 × Int32 × Int32 × Int32 × Int32) × (Int32 × Int32 × Int32 × Int32) × ((Nat → Int32) × Int32 × (Nat → Int32) × Int32)) => w = bI (decide (xF T n ≠ 0))) (fun _ => [(cC, .char), (cA, .int), (cB, .int)]) (fun u : (Int32 × Int32 × Int32 × Int32 × Int32 × Int32 × Int32) × (Int32 × Int32 × Int32 × Int32) × ((Nat → Int32) × Int32 × (Nat → Int32) × Int32) => [(r, .inr (4, [.ref x, .ref nm, .ref h, .ref q, .int (nI n), .long (rdR 0 T n R), .int (rdF T n fd)])), (x, .inl (cC, 2400, .inl (tx T))), (nm, .inr (3, [.ref x, .int u.1.1, .int u.1.2.1, .int u.1.2.2.1, .int u.1.2.2.2.1, .int u.1.2.2.2.2.1, .int u.1.2.2.2.2.2.1, .int u.1.2.2.2.2.2.2])), (h, .inr (1, [.ref q, .int u.2.1.1, .int u.2.1.2.1, .int u.2.1.2.2.1, .int u.2.1.2.2.2])), (q, .inr (2, [.ref t, .ref b])), (t, .inr (0, [.ref ta, .int u.2.2.2.1])), (ta, .inl (cA, 96, .inl u.2.2.1)), (b, .inr (0, [.ref ba, .int u.2.2.2.2.2])), (ba, .inl (cB, 96, .inl u.2.2.2.2.1))]) := by
  have hev := ev1_ok E
  unfold Ci
  refine ct_of (y := y_Rea_wide) (av := [.ref r]) (cc := b_Rea_wide) (maxL := 1) (ret := (some .boolean)) (Qc := fun A => va_Qi (S := (Int32 × Int32 × Int32 × Int32 × Int32 × Int32 × Int32) × (Int32 × Int32 × Int32 × Int32) × ((Nat → Int32) × Int32 × (Nat → Int32) × Int32)) (fun (w : Int32) (_ : (Int32 × Int32 × Int32 × Int32 × Int32 × Int32 × Int32) × (Int32 × Int32 × Int32 × Int32) × ((Nat → Int32) × Int32 × (Nat → Int32) × Int32)) => w = bI (decide (xF T n ≠ 0))) (fun u tS => ctB D vcl ((fun _ => [(cC, .char), (cA, .int), (cB, .int)]) u) ((fun u : (Int32 × Int32 × Int32 × Int32 × Int32 × Int32 × Int32) × (Int32 × Int32 × Int32 × Int32) × ((Nat → Int32) × Int32 × (Nat → Int32) × Int32) => [(r, .inr (4, [.ref x, .ref nm, .ref h, .ref q, .int (nI n), .long (rdR 0 T n R), .int (rdF T n fd)])), (x, .inl (cC, 2400, .inl (tx T))), (nm, .inr (3, [.ref x, .int u.1.1, .int u.1.2.1, .int u.1.2.2.1, .int u.1.2.2.2.1, .int u.1.2.2.2.2.1, .int u.1.2.2.2.2.2.1, .int u.1.2.2.2.2.2.2])), (h, .inr (1, [.ref q, .int u.2.1.1, .int u.2.1.2.1, .int u.2.1.2.2.1, .int u.2.1.2.2.2])), (q, .inr (2, [.ref t, .ref b])), (t, .inr (0, [.ref ta, .int u.2.2.2.1])), (ta, .inl (cA, 96, .inl u.2.2.1)), (b, .inr (0, [.ref ba, .int u.2.2.2.2.2])), (ba, .inl (cB, 96, .inl u.2.2.2.2.1))]) u) A tS) A) (by decide) rfl (Nat.le_of_ble_eq_true rfl) ?_
  intro p ee s m below meth cde ls A H locs hx hb hml hrt hlocks hown hin hts hA hP hK hD hS hE hl
  have hown : s.vm.findClass R_Rea = some m.cls := hown
  have hts := wz_g hts
  have hl : lv_has ls 1 [(0, .ref r)] := hl
  refine lv_aload_n hx hb d_Rea_wide_0 rfl (lv_at hl 0 rfl) ?_
  refine va_gets hx hb (hE.2.1.1 0 (by decide)).1 hS hown (hts _ kF_Rea_50) (fun _ h9 => h9) d_Rea_wide_1 ?_
  refine ca_i [] (va_runV (As := [.ref (E.1 0)]) (rest := []) ⟨hx, hb, hml, hown, hts⟩ (c_Rea_readAs l D E 0 (by decide) r x nm h q t ta b ba cC cA cB T hT n hn R fd v1 v2 v3 v4 v5 v6 v7 g0 gs0 kp0 pl0 nv mv f g H.size) (xV 1 hts kC_Rea_readAs kM_Rea_56 kI_Rea_readAs kS_Rea_readAs kN_Rea rfl rfl (by decide +kernel) ⟨Nat.le_of_ble_eq_true rfl, Nat.le_of_ble_eq_true rfl⟩) ⟨ct_blind hev, va_recv hK hP (ci := 4) (q0 := 0) rfl rfl, ct_pre hev hP hK hD hS hA hE [0, 1, 2, 3, 4, 5, 6, 7, 8] rfl (by decide) [0, 1, 2] rfl⟩ rfl rfl hl.1 rfl (lv_room (Nat.le_of_ble_eq_true rfl)) d_Rea_wide_4 ⟨Nat.le_of_ble_eq_true rfl, Nat.le_of_ble_eq_true rfl⟩) hP hD hS hA [0, 1, 2, 3, 4, 5, 6, 7, 8] [] rfl rfl (by decide) (by decide) (fun rv u H locs hw hP hD hS hK1 => ?_)
  subst hw
  obtain ⟨⟨v1_1, v1_2, v1_3, v1_4, v1_5, v1_6, v1_7⟩, ⟨d1_1, d1_2, d1_3, d1_4⟩, ⟨f1, nv1, g1, mv1⟩⟩ := u
  have hP : va_P D vcl [(r, .inr (4, [.ref x, .ref nm, .ref h, .ref q, .int (nI n), .long (rdR 0 T n R), .int (rdF T n fd)])), (x, .inl (cC, 2400, .inl (tx T))), (nm, .inr (3, [.ref x, .int v1_1, .int v1_2, .int v1_3, .int v1_4, .int v1_5, .int v1_6, .int v1_7])), (h, .inr (1, [.ref q, .int d1_1, .int d1_2, .int d1_3, .int d1_4])), (q, .inr (2, [.ref t, .ref b])), (t, .inr (0, [.ref ta, .int nv1])), (ta, .inl (cA, 96, .inl f1)), (b, .inr (0, [.ref ba, .int mv1])), (ba, .inl (cB, 96, .inl g1))] H := hP
  have hD : va_D A [(r, .inr (4, [.ref x, .ref nm, .ref h, .ref q, .int (nI n), .long (rdR 0 T n R), .int (rdF T n fd)])), (x, .inl (cC, 2400, .inl (tx T))), (nm, .inr (3, [.ref x, .int v1_1, .int v1_2, .int v1_3, .int v1_4, .int v1_5, .int v1_6, .int v1_7])), (h, .inr (1, [.ref q, .int d1_1, .int d1_2, .int d1_3, .int d1_4])), (q, .inr (2, [.ref t, .ref b])), (t, .inr (0, [.ref ta, .int nv1])), (ta, .inl (cA, 96, .inl f1)), (b, .inr (0, [.ref ba, .int mv1])), (ba, .inl (cB, 96, .inl g1))] := hD
  exact rt_i hx hb hrt hlocks (by generalize decide (xF T n ≠ 0) = b9; cases b9 <;> rfl) (((v1_1, v1_2, v1_3, v1_4, v1_5, v1_6, v1_7), (d1_1, d1_2, d1_3, d1_4), (f1, nv1, g1, mv1))) (rfl) (hP.sub [0, 1, 2, 3, 4, 5, 6, 7, 8] rfl) (hK.sub [0, 1, 2] rfl) (hD.sub [0, 1, 2, 3, 4, 5, 6, 7, 8] (by decide) rfl) hS d_Rea_wide_7

set_option maxHeartbeats 4000000 in
set_option maxRecDepth 100000 in
theorem c_Rea_narrow (l : Launch) (D : va_G) (E : evD) (r x nm h q t ta b ba : Nat) (cC cA cB : ClassId) (T : Nat → Nat) (hT : ∀ j, T j < 256) (n : Nat) (hn : n ≤ 2400) (R : Int64) (fd : Int32) (v1 v2 v3 v4 v5 v6 v7 g0 gs0 kp0 pl0 nv mv : Int32) (f g : Nat → Int32) : Ci (S := (Int32 × Int32 × Int32 × Int32 × Int32 × Int32 × Int32) × (Int32 × Int32 × Int32 × Int32) × ((Nat → Int32) × Int32 × (Nat → Int32) × Int32)) l y_Rea_narrow (wz y_Rea_narrow b_Rea_narrow 1 (some .boolean)) ({ frames := 7, cells := 0, slots := 0, locals := 150 }) D vcl (ev1 E) [.ref r] [(cC, .char), (cA, .int), (cB, .int)] [(r, .inr (4, [.ref x, .ref nm, .ref h, .ref q, .int (nI n), .long R, .int fd])), (x, .inl (cC, 2400, .inl (tx T))), (nm, .inr (3, [.ref x, .int v1, .int v2, .int v3, .int v4, .int v5, .int v6, .int v7])), (h, .inr (1, [.ref q, .int g0, .int gs0, .int kp0, .int pl0])), (q, .inr (2, [.ref t, .ref b])), (t, .inr (0, [.ref ta, .int nv])), (ta, .inl (cA, 96, .inl f)), (b, .inr (0, [.ref ba, .int mv])), (ba, .inl (cB, 96, .inl g))] 0 0 (fun (w : Int32) (_ : (Int32 × Int32 × Int32 × Int32 × Int32 × Int32 × Int32) × (Int32 × Int32 × Int32 × Int32) × ((Nat → Int32) × Int32 × (Nat → Int32) × Int32)) => w = bI (decide (xF T n ≠ 0))) (fun _ => [(cC, .char), (cA, .int), (cB, .int)]) (fun u : (Int32 × Int32 × Int32 × Int32 × Int32 × Int32 × Int32) × (Int32 × Int32 × Int32 × Int32) × ((Nat → Int32) × Int32 × (Nat → Int32) × Int32) => [(r, .inr (4, [.ref x, .ref nm, .ref h, .ref q, .int (nI n), .long (rdR 1 T n R), .int (rdF T n fd)])), (x, .inl (cC, 2400, .inl (tx T))), (nm, .inr (3, [.ref x, .int u.1.1, .int u.1.2.1, .int u.1.2.2.1, .int u.1.2.2.2.1, .int u.1.2.2.2.2.1, .int u.1.2.2.2.2.2.1, .int u.1.2.2.2.2.2.2])), (h, .inr (1, [.ref q, .int u.2.1.1, .int u.2.1.2.1, .int u.2.1.2.2.1, .int u.2.1.2.2.2])), (q, .inr (2, [.ref t, .ref b])), (t, .inr (0, [.ref ta, .int u.2.2.2.1])), (ta, .inl (cA, 96, .inl u.2.2.1)), (b, .inr (0, [.ref ba, .int u.2.2.2.2.2])), (ba, .inl (cB, 96, .inl u.2.2.2.2.1))]) := by
  have hev := ev1_ok E
  unfold Ci
  refine ct_of (y := y_Rea_narrow) (av := [.ref r]) (cc := b_Rea_narrow) (maxL := 1) (ret := (some .boolean)) (Qc := fun A => va_Qi (S := (Int32 × Int32 × Int32 × Int32 × Int32 × Int32 × Int32) × (Int32 × Int32 × Int32 × Int32) × ((Nat → Int32) × Int32 × (Nat → Int32) × Int32)) (fun (w : Int32) (_ : (Int32 × Int32 × Int32 × Int32 × Int32 × Int32 × Int32) × (Int32 × Int32 × Int32 × Int32) × ((Nat → Int32) × Int32 × (Nat → Int32) × Int32)) => w = bI (decide (xF T n ≠ 0))) (fun u tS => ctB D vcl ((fun _ => [(cC, .char), (cA, .int), (cB, .int)]) u) ((fun u : (Int32 × Int32 × Int32 × Int32 × Int32 × Int32 × Int32) × (Int32 × Int32 × Int32 × Int32) × ((Nat → Int32) × Int32 × (Nat → Int32) × Int32) => [(r, .inr (4, [.ref x, .ref nm, .ref h, .ref q, .int (nI n), .long (rdR 1 T n R), .int (rdF T n fd)])), (x, .inl (cC, 2400, .inl (tx T))), (nm, .inr (3, [.ref x, .int u.1.1, .int u.1.2.1, .int u.1.2.2.1, .int u.1.2.2.2.1, .int u.1.2.2.2.2.1, .int u.1.2.2.2.2.2.1, .int u.1.2.2.2.2.2.2])), (h, .inr (1, [.ref q, .int u.2.1.1, .int u.2.1.2.1, .int u.2.1.2.2.1, .int u.2.1.2.2.2])), (q, .inr (2, [.ref t, .ref b])), (t, .inr (0, [.ref ta, .int u.2.2.2.1])), (ta, .inl (cA, 96, .inl u.2.2.1)), (b, .inr (0, [.ref ba, .int u.2.2.2.2.2])), (ba, .inl (cB, 96, .inl u.2.2.2.2.1))]) u) A tS) A) (by decide) rfl (Nat.le_of_ble_eq_true rfl) ?_
  intro p ee s m below meth cde ls A H locs hx hb hml hrt hlocks hown hin hts hA hP hK hD hS hE hl
  have hown : s.vm.findClass R_Rea = some m.cls := hown
  have hts := wz_g hts
  have hl : lv_has ls 1 [(0, .ref r)] := hl
  refine lv_aload_n hx hb d_Rea_narrow_0 rfl (lv_at hl 0 rfl) ?_
  refine va_gets hx hb (hE.2.1.1 1 (by decide)).1 hS hown (hts _ kF_Rea_60) (fun _ h9 => h9) d_Rea_narrow_1 ?_
  refine ca_i [] (va_runV (As := [.ref (E.1 1)]) (rest := []) ⟨hx, hb, hml, hown, hts⟩ (c_Rea_readAs l D E 1 (by decide) r x nm h q t ta b ba cC cA cB T hT n hn R fd v1 v2 v3 v4 v5 v6 v7 g0 gs0 kp0 pl0 nv mv f g H.size) (xV 1 hts kC_Rea_readAs kM_Rea_56 kI_Rea_readAs kS_Rea_readAs kN_Rea rfl rfl (by decide +kernel) ⟨Nat.le_of_ble_eq_true rfl, Nat.le_of_ble_eq_true rfl⟩) ⟨ct_blind hev, va_recv hK hP (ci := 4) (q0 := 0) rfl rfl, ct_pre hev hP hK hD hS hA hE [0, 1, 2, 3, 4, 5, 6, 7, 8] rfl (by decide) [0, 1, 2] rfl⟩ rfl rfl hl.1 rfl (lv_room (Nat.le_of_ble_eq_true rfl)) d_Rea_narrow_4 ⟨Nat.le_of_ble_eq_true rfl, Nat.le_of_ble_eq_true rfl⟩) hP hD hS hA [0, 1, 2, 3, 4, 5, 6, 7, 8] [] rfl rfl (by decide) (by decide) (fun rv u H locs hw hP hD hS hK1 => ?_)
  subst hw
  obtain ⟨⟨v1_1, v1_2, v1_3, v1_4, v1_5, v1_6, v1_7⟩, ⟨d1_1, d1_2, d1_3, d1_4⟩, ⟨f1, nv1, g1, mv1⟩⟩ := u
  have hP : va_P D vcl [(r, .inr (4, [.ref x, .ref nm, .ref h, .ref q, .int (nI n), .long (rdR 1 T n R), .int (rdF T n fd)])), (x, .inl (cC, 2400, .inl (tx T))), (nm, .inr (3, [.ref x, .int v1_1, .int v1_2, .int v1_3, .int v1_4, .int v1_5, .int v1_6, .int v1_7])), (h, .inr (1, [.ref q, .int d1_1, .int d1_2, .int d1_3, .int d1_4])), (q, .inr (2, [.ref t, .ref b])), (t, .inr (0, [.ref ta, .int nv1])), (ta, .inl (cA, 96, .inl f1)), (b, .inr (0, [.ref ba, .int mv1])), (ba, .inl (cB, 96, .inl g1))] H := hP
  have hD : va_D A [(r, .inr (4, [.ref x, .ref nm, .ref h, .ref q, .int (nI n), .long (rdR 1 T n R), .int (rdF T n fd)])), (x, .inl (cC, 2400, .inl (tx T))), (nm, .inr (3, [.ref x, .int v1_1, .int v1_2, .int v1_3, .int v1_4, .int v1_5, .int v1_6, .int v1_7])), (h, .inr (1, [.ref q, .int d1_1, .int d1_2, .int d1_3, .int d1_4])), (q, .inr (2, [.ref t, .ref b])), (t, .inr (0, [.ref ta, .int nv1])), (ta, .inl (cA, 96, .inl f1)), (b, .inr (0, [.ref ba, .int mv1])), (ba, .inl (cB, 96, .inl g1))] := hD
  exact rt_i hx hb hrt hlocks (by generalize decide (xF T n ≠ 0) = b9; cases b9 <;> rfl) (((v1_1, v1_2, v1_3, v1_4, v1_5, v1_6, v1_7), (d1_1, d1_2, d1_3, d1_4), (f1, nv1, g1, mv1))) (rfl) (hP.sub [0, 1, 2, 3, 4, 5, 6, 7, 8] rfl) (hK.sub [0, 1, 2] rfl) (hD.sub [0, 1, 2, 3, 4, 5, 6, 7, 8] (by decide) rfl) hS d_Rea_narrow_7
