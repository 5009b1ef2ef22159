theorem d_Kin_sizeOf_0 : decode b_Kin_sizeOf 0 = .ok (.lload_n 1, 1) := by decide +kernel
theorem d_Kin_sizeOf_1 : decode b_Kin_sizeOf 1 = .ok (.aload_n 0, 1) := by decide +kernel
theorem d_Kin_sizeOf_2 : decode b_Kin_sizeOf 2 = .ok (.getfield 55, 3) := by decide +kernel
theorem d_Kin_sizeOf_5 : decode b_Kin_sizeOf 5 = .ok (.lconst 1, 1) := by decide +kernel
theorem d_Kin_sizeOf_6 : decode b_Kin_sizeOf 6 = .ok (.lsub, 1) := by decide +kernel
theorem d_Kin_sizeOf_7 : decode b_Kin_sizeOf 7 = .ok (.land, 1) := by decide +kernel
theorem d_Kin_sizeOf_8 : decode b_Kin_sizeOf 8 = .ok (.lreturn, 1) := by decide +kernel
theorem d_Kin_isBelow_0 : decode b_Kin_isBelow 0 = .ok (.lload_n 1, 1) := by decide +kernel
theorem d_Kin_isBelow_1 : decode b_Kin_isBelow 1 = .ok (.aload_n 0, 1) := by decide +kernel
theorem d_Kin_isBelow_2 : decode b_Kin_isBelow 2 = .ok (.getfield 55, 3) := by decide +kernel
theorem d_Kin_isBelow_5 : decode b_Kin_isBelow 5 = .ok (.land, 1) := by decide +kernel
theorem d_Kin_isBelow_6 : decode b_Kin_isBelow 6 = .ok (.lconst 0, 1) := by decide +kernel
theorem d_Kin_isBelow_7 : decode b_Kin_isBelow 7 = .ok (.lcmp, 1) := by decide +kernel
theorem d_Kin_isBelow_8 : decode b_Kin_isBelow 8 = .ok (.ifCond .eq 7, 3) := by decide +kernel
theorem d_Kin_isBelow_11 : decode b_Kin_isBelow 11 = .ok (.iconst 1, 1) := by decide +kernel
theorem d_Kin_isBelow_12 : decode b_Kin_isBelow 12 = .ok (.goto 4, 3) := by decide +kernel
theorem d_Kin_isBelow_15 : decode b_Kin_isBelow 15 = .ok (.iconst 0, 1) := by decide +kernel
theorem d_Kin_isBelow_16 : decode b_Kin_isBelow 16 = .ok (.ireturn, 1) := by decide +kernel
theorem d_Kin_isNone_0 : decode b_Kin_isNone 0 = .ok (.aload_n 0, 1) := by decide +kernel
theorem d_Kin_isNone_1 : decode b_Kin_isNone 1 = .ok (.lload_n 1, 1) := by decide +kernel
theorem d_Kin_isNone_2 : decode b_Kin_isNone 2 = .ok (.invokevirtual 58, 3) := by decide +kernel
theorem d_Kin_isNone_5 : decode b_Kin_isNone 5 = .ok (.aload_n 0, 1) := by decide +kernel
theorem d_Kin_isNone_6 : decode b_Kin_isNone 6 = .ok (.getfield 48, 3) := by decide +kernel
theorem d_Kin_isNone_9 : decode b_Kin_isNone 9 = .ok (.lcmp, 1) := by decide +kernel
theorem d_Kin_isNone_10 : decode b_Kin_isNone 10 = .ok (.ifCond .le 7, 3) := by decide +kernel
theorem d_Kin_isNone_13 : decode b_Kin_isNone 13 = .ok (.iconst 1, 1) := by decide +kernel
theorem d_Kin_isNone_14 : decode b_Kin_isNone 14 = .ok (.goto 4, 3) := by decide +kernel
theorem d_Kin_isNone_17 : decode b_Kin_isNone 17 = .ok (.iconst 0, 1) := by decide +kernel
theorem d_Kin_isNone_18 : decode b_Kin_isNone 18 = .ok (.ireturn, 1) := by decide +kernel
theorem d_Kin_signed_0 : decode b_Kin_signed 0 = .ok (.iload_n 3, 1) := by decide +kernel
theorem d_Kin_signed_1 : decode b_Kin_signed 1 = .ok (.ifCond .eq 12, 3) := by decide +kernel
theorem d_Kin_signed_4 : decode b_Kin_signed 4 = .ok (.lload_n 1, 1) := by decide +kernel
theorem d_Kin_signed_5 : decode b_Kin_signed 5 = .ok (.aload_n 0, 1) := by decide +kernel
theorem d_Kin_signed_6 : decode b_Kin_signed 6 = .ok (.getfield 55, 3) := by decide +kernel
theorem d_Kin_signed_9 : decode b_Kin_signed 9 = .ok (.lor, 1) := by decide +kernel
theorem d_Kin_signed_10 : decode b_Kin_signed 10 = .ok (.goto 4, 3) := by decide +kernel
theorem d_Kin_signed_13 : decode b_Kin_signed 13 = .ok (.lload_n 1, 1) := by decide +kernel
theorem d_Kin_signed_14 : decode b_Kin_signed 14 = .ok (.lreturn, 1) := by decide +kernel
theorem d_Kin_rank_0 : decode b_Kin_rank 0 = .ok (.aload_n 0, 1) := by decide +kernel
theorem d_Kin_rank_1 : decode b_Kin_rank 1 = .ok (.lload_n 1, 1) := by decide +kernel
theorem d_Kin_rank_2 : decode b_Kin_rank 2 = .ok (.invokevirtual 62, 3) := by decide +kernel
theorem d_Kin_rank_5 : decode b_Kin_rank 5 = .ok (.ifCond .eq 12, 3) := by decide +kernel
theorem d_Kin_rank_8 : decode b_Kin_rank 8 = .ok (.aload_n 0, 1) := by decide +kernel
theorem d_Kin_rank_9 : decode b_Kin_rank 9 = .ok (.lload_n 1, 1) := by decide +kernel
theorem d_Kin_rank_10 : decode b_Kin_rank 10 = .ok (.invokevirtual 58, 3) := by decide +kernel
theorem d_Kin_rank_13 : decode b_Kin_rank 13 = .ok (.lneg, 1) := by decide +kernel
theorem d_Kin_rank_14 : decode b_Kin_rank 14 = .ok (.goto 8, 3) := by decide +kernel
theorem d_Kin_rank_17 : decode b_Kin_rank 17 = .ok (.aload_n 0, 1) := by decide +kernel
theorem d_Kin_rank_18 : decode b_Kin_rank 18 = .ok (.lload_n 1, 1) := by decide +kernel
theorem d_Kin_rank_19 : decode b_Kin_rank 19 = .ok (.invokevirtual 58, 3) := by decide +kernel
theorem d_Kin_rank_22 : decode b_Kin_rank 22 = .ok (.lreturn, 1) := by decide +kernel
theorem d_Kin_rounded_0 : decode b_Kin_rounded 0 = .ok (.iload_n 2, 1) := by decide +kernel
theorem d_Kin_rounded_1 : decode b_Kin_rounded 1 = .ok (.bipush 63, 2) := by decide +kernel
theorem d_Kin_rounded_3 : decode b_Kin_rounded 3 = .ok (.if_icmp .le 5, 3) := by decide +kernel
theorem d_Kin_rounded_6 : decode b_Kin_rounded 6 = .ok (.lconst 0, 1) := by decide +kernel
theorem d_Kin_rounded_7 : decode b_Kin_rounded 7 = .ok (.lreturn, 1) := by decide +kernel
theorem d_Kin_rounded_8 : decode b_Kin_rounded 8 = .ok (.lload_n 0, 1) := by decide +kernel
theorem d_Kin_rounded_9 : decode b_Kin_rounded 9 = .ok (.iload_n 2, 1) := by decide +kernel
theorem d_Kin_rounded_10 : decode b_Kin_rounded 10 = .ok (.lushr, 1) := by decide +kernel
theorem d_Kin_rounded_11 : decode b_Kin_rounded 11 = .ok (.lstore 4, 2) := by decide +kernel
theorem d_Kin_rounded_13 : decode b_Kin_rounded 13 = .ok (.lload_n 0, 1) := by decide +kernel
theorem d_Kin_rounded_14 : decode b_Kin_rounded 14 = .ok (.lload 4, 2) := by decide +kernel
theorem d_Kin_rounded_16 : decode b_Kin_rounded 16 = .ok (.iload_n 2, 1) := by decide +kernel
theorem d_Kin_rounded_17 : decode b_Kin_rounded 17 = .ok (.lshl, 1) := by decide +kernel
theorem d_Kin_rounded_18 : decode b_Kin_rounded 18 = .ok (.lsub, 1) := by decide +kernel
theorem d_Kin_rounded_19 : decode b_Kin_rounded 19 = .ok (.lstore 6, 2) := by decide +kernel
theorem d_Kin_rounded_21 : decode b_Kin_rounded 21 = .ok (.lconst 1, 1) := by decide +kernel
theorem d_Kin_rounded_22 : decode b_Kin_rounded 22 = .ok (.iload_n 2, 1) := by decide +kernel
theorem d_Kin_rounded_23 : decode b_Kin_rounded 23 = .ok (.iconst 1, 1) := by decide +kernel
theorem d_Kin_rounded_24 : decode b_Kin_rounded 24 = .ok (.isub, 1) := by decide +kernel
theorem d_Kin_rounded_25 : decode b_Kin_rounded 25 = .ok (.lshl, 1) := by decide +kernel
theorem d_Kin_rounded_26 : decode b_Kin_rounded 26 = .ok (.lstore 8, 2) := by decide +kernel
theorem d_Kin_rounded_28 : decode b_Kin_rounded 28 = .ok (.lload 6, 2) := by decide +kernel
theorem d_Kin_rounded_30 : decode b_Kin_rounded 30 = .ok (.lload 8, 2) := by decide +kernel
theorem d_Kin_rounded_32 : decode b_Kin_rounded 32 = .ok (.lcmp, 1) := by decide +kernel
theorem d_Kin_rounded_33 : decode b_Kin_rounded 33 = .ok (.ifCond .gt 24, 3) := by decide +kernel
theorem d_Kin_rounded_36 : decode b_Kin_rounded 36 = .ok (.lload 6, 2) := by decide +kernel
theorem d_Kin_rounded_38 : decode b_Kin_rounded 38 = .ok (.lload 8, 2) := by decide +kernel
theorem d_Kin_rounded_40 : decode b_Kin_rounded 40 = .ok (.lcmp, 1) := by decide +kernel
theorem d_Kin_rounded_41 : decode b_Kin_rounded 41 = .ok (.ifCond .ne 20, 3) := by decide +kernel
theorem d_Kin_rounded_44 : decode b_Kin_rounded 44 = .ok (.iload_n 3, 1) := by decide +kernel
theorem d_Kin_rounded_45 : decode b_Kin_rounded 45 = .ok (.ifCond .ne 12, 3) := by decide +kernel
theorem d_Kin_rounded_48 : decode b_Kin_rounded 48 = .ok (.lload 4, 2) := by decide +kernel
theorem d_Kin_rounded_50 : decode b_Kin_rounded 50 = .ok (.lconst 1, 1) := by decide +kernel
theorem d_Kin_rounded_51 : decode b_Kin_rounded 51 = .ok (.land, 1) := by decide +kernel
theorem d_Kin_rounded_52 : decode b_Kin_rounded 52 = .ok (.lconst 1, 1) := by decide +kernel
theorem d_Kin_rounded_53 : decode b_Kin_rounded 53 = .ok (.lcmp, 1) := by decide +kernel
theorem d_Kin_rounded_54 : decode b_Kin_rounded 54 = .ok (.ifCond .ne 7, 3) := by decide +kernel
theorem d_Kin_rounded_57 : decode b_Kin_rounded 57 = .ok (.iconst 1, 1) := by decide +kernel
theorem d_Kin_rounded_58 : decode b_Kin_rounded 58 = .ok (.goto 4, 3) := by decide +kernel
theorem d_Kin_rounded_61 : decode b_Kin_rounded 61 = .ok (.iconst 0, 1) := by decide +kernel
theorem d_Kin_rounded_62 : decode b_Kin_rounded 62 = .ok (.istore 10, 2) := by decide +kernel
theorem d_Kin_rounded_64 : decode b_Kin_rounded 64 = .ok (.iload 10, 2) := by decide +kernel
theorem d_Kin_rounded_66 : decode b_Kin_rounded 66 = .ok (.ifCond .eq 10, 3) := by decide +kernel
theorem d_Kin_rounded_69 : decode b_Kin_rounded 69 = .ok (.lload 4, 2) := by decide +kernel
theorem d_Kin_rounded_71 : decode b_Kin_rounded 71 = .ok (.lconst 1, 1) := by decide +kernel
theorem d_Kin_rounded_72 : decode b_Kin_rounded 72 = .ok (.ladd, 1) := by decide +kernel
theorem d_Kin_rounded_73 : decode b_Kin_rounded 73 = .ok (.goto 5, 3) := by decide +kernel
theorem d_Kin_rounded_76 : decode b_Kin_rounded 76 = .ok (.lload 4, 2) := by decide +kernel
theorem d_Kin_rounded_78 : decode b_Kin_rounded 78 = .ok (.lreturn, 1) := by decide +kernel
theorem d_Kin_nearest_0 : decode b_Kin_nearest 0 = .ok (.lload_n 1, 1) := by decide +kernel
theorem d_Kin_nearest_1 : decode b_Kin_nearest 1 = .ok (.lconst 0, 1) := by decide +kernel
theorem d_Kin_nearest_2 : decode b_Kin_nearest 2 = .ok (.lcmp, 1) := by decide +kernel
theorem d_Kin_nearest_3 : decode b_Kin_nearest 3 = .ok (.ifCond .ne 5, 3) := by decide +kernel
theorem d_Kin_nearest_6 : decode b_Kin_nearest 6 = .ok (.lconst 0, 1) := by decide +kernel
theorem d_Kin_nearest_7 : decode b_Kin_nearest 7 = .ok (.lreturn, 1) := by decide +kernel
theorem d_Kin_nearest_8 : decode b_Kin_nearest 8 = .ok (.iload_n 3, 1) := by decide +kernel
theorem d_Kin_nearest_9 : decode b_Kin_nearest 9 = .ok (.lload_n 1, 1) := by decide +kernel
theorem d_Kin_nearest_10 : decode b_Kin_nearest 10 = .ok (.invokestatic 66, 3) := by decide +kernel
theorem d_Kin_nearest_13 : decode b_Kin_nearest 13 = .ok (.iadd, 1) := by decide +kernel
theorem d_Kin_nearest_14 : decode b_Kin_nearest 14 = .ok (.aload_n 0, 1) := by decide +kernel
theorem d_Kin_nearest_15 : decode b_Kin_nearest 15 = .ok (.getfield 29, 3) := by decide +kernel
theorem d_Kin_nearest_18 : decode b_Kin_nearest 18 = .ok (.isub, 1) := by decide +kernel
theorem d_Kin_nearest_19 : decode b_Kin_nearest 19 = .ok (.aload_n 0, 1) := by decide +kernel
theorem d_Kin_nearest_20 : decode b_Kin_nearest 20 = .ok (.getfield 33, 3) := by decide +kernel
theorem d_Kin_nearest_23 : decode b_Kin_nearest 23 = .ok (.invokestatic 72, 3) := by decide +kernel
theorem d_Kin_nearest_26 : decode b_Kin_nearest 26 = .ok (.istore 5, 2) := by decide +kernel
theorem d_Kin_nearest_28 : decode b_Kin_nearest 28 = .ok (.iload 5, 2) := by decide +kernel
theorem d_Kin_nearest_30 : decode b_Kin_nearest 30 = .ok (.aload_n 0, 1) := by decide +kernel
theorem d_Kin_nearest_31 : decode b_Kin_nearest 31 = .ok (.getfield 36, 3) := by decide +kernel
theorem d_Kin_nearest_34 : decode b_Kin_nearest 34 = .ok (.if_icmp .le 8, 3) := by decide +kernel
theorem d_Kin_nearest_37 : decode b_Kin_nearest 37 = .ok (.aload_n 0, 1) := by decide +kernel
theorem d_Kin_nearest_38 : decode b_Kin_nearest 38 = .ok (.getfield 48, 3) := by decide +kernel
theorem d_Kin_nearest_41 : decode b_Kin_nearest 41 = .ok (.lreturn, 1) := by decide +kernel
theorem d_Kin_nearest_42 : decode b_Kin_nearest 42 = .ok (.iload 5, 2) := by decide +kernel
theorem d_Kin_nearest_44 : decode b_Kin_nearest 44 = .ok (.iload_n 3, 1) := by decide +kernel
theorem d_Kin_nearest_45 : decode b_Kin_nearest 45 = .ok (.if_icmp .gt 12, 3) := by decide +kernel
theorem d_Kin_nearest_48 : decode b_Kin_nearest 48 = .ok (.lload_n 1, 1) := by decide +kernel
theorem d_Kin_nearest_49 : decode b_Kin_nearest 49 = .ok (.iload_n 3, 1) := by decide +kernel
theorem d_Kin_nearest_50 : decode b_Kin_nearest 50 = .ok (.iload 5, 2) := by decide +kernel
theorem d_Kin_nearest_52 : decode b_Kin_nearest 52 = .ok (.isub, 1) := by decide +kernel
theorem d_Kin_nearest_53 : decode b_Kin_nearest 53 = .ok (.lshl, 1) := by decide +kernel
theorem d_Kin_nearest_54 : decode b_Kin_nearest 54 = .ok (.goto 13, 3) := by decide +kernel
theorem d_Kin_nearest_57 : decode b_Kin_nearest 57 = .ok (.lload_n 1, 1) := by decide +kernel
theorem d_Kin_nearest_58 : decode b_Kin_nearest 58 = .ok (.iload 5, 2) := by decide +kernel
theorem d_Kin_nearest_60 : decode b_Kin_nearest 60 = .ok (.iload_n 3, 1) := by decide +kernel
theorem d_Kin_nearest_61 : decode b_Kin_nearest 61 = .ok (.isub, 1) := by decide +kernel
theorem d_Kin_nearest_62 : decode b_Kin_nearest 62 = .ok (.iload 4, 2) := by decide +kernel
theorem d_Kin_nearest_64 : decode b_Kin_nearest 64 = .ok (.invokestatic 78, 3) := by decide +kernel
theorem d_Kin_nearest_67 : decode b_Kin_nearest 67 = .ok (.lstore 6, 2) := by decide +kernel
theorem d_Kin_nearest_69 : decode b_Kin_nearest 69 = .ok (.iload 5, 2) := by decide +kernel
theorem d_Kin_nearest_71 : decode b_Kin_nearest 71 = .ok (.aload_n 0, 1) := by decide +kernel
theorem d_Kin_nearest_72 : decode b_Kin_nearest 72 = .ok (.getfield 33, 3) := by decide +kernel
theorem d_Kin_nearest_75 : decode b_Kin_nearest 75 = .ok (.isub, 1) := by decide +kernel
theorem d_Kin_nearest_76 : decode b_Kin_nearest 76 = .ok (.i2l, 1) := by decide +kernel
theorem d_Kin_nearest_77 : decode b_Kin_nearest 77 = .ok (.aload_n 0, 1) := by decide +kernel
theorem d_Kin_nearest_78 : decode b_Kin_nearest 78 = .ok (.getfield 29, 3) := by decide +kernel
theorem d_Kin_nearest_81 : decode b_Kin_nearest 81 = .ok (.iconst 1, 1) := by decide +kernel
theorem d_Kin_nearest_82 : decode b_Kin_nearest 82 = .ok (.isub, 1) := by decide +kernel
theorem d_Kin_nearest_83 : decode b_Kin_nearest 83 = .ok (.lshl, 1) := by decide +kernel
theorem d_Kin_nearest_84 : decode b_Kin_nearest 84 = .ok (.lload 6, 2) := by decide +kernel
theorem d_Kin_nearest_86 : decode b_Kin_nearest 86 = .ok (.ladd, 1) := by decide +kernel
theorem d_Kin_nearest_87 : decode b_Kin_nearest 87 = .ok (.lreturn, 1) := by decide +kernel
set_option maxHeartbeats 4000000 in
set_option maxRecDepth 100000 in
theorem c_Kin_sizeOf (l : Launch) (D : va_G) (E : evD) (i : Nat) (hi : i < 2) (v : Nat) (hv : v < 2 ^ 64) : Cl (S := Unit) l y_Kin_sizeOf (wz y_Kin_sizeOf b_Kin_sizeOf 3 (some .long)) ({ frames := 0, cells := 0, slots := 0, locals := 0 }) D vcl (ev1 E) [.ref (E.1 i), .long (lN v)] [] [] 0 0 (fun (r : Int64) (_ : Unit) => r = lN (szN i v)) (fun _ => []) (fun _ : Unit => []) := by
  have hev := ev1_ok E
  unfold Cl
  refine ct_of (y := y_Kin_sizeOf) (av := [.ref (E.1 i), .long (lN v)]) (cc := b_Kin_sizeOf) (maxL := 3) (ret := (some .long)) (Qc := fun A => va_Ql (S := Unit) (fun (r : Int64) (_ : Unit) => r = lN (szN i v)) (fun u tS => ctB D vcl ((fun _ => []) u) ((fun _ : Unit => []) u) A tS) A) (by decide) rfl (Nat.le_of_ble_eq_true rfl) ?_
  intro p ee s m below meth cde ls A H locs hx hb hml hrt hlocks hown hin hts hA hP hK hD hS hE hl
  have hown : s.vm.findClass R_Kin = some m.cls := hown
  have hts := wz_g hts
  have hl : lv_has ls 3 [(0, .ref (E.1 i)), (1, .long (lN v))] := hl
  refine lv_lload_n hx hb d_Kin_sizeOf_0 rfl (lv_at hl 1 rfl) ?_
  refine lv_aload_n hx hb d_Kin_sizeOf_1 rfl (lv_at hl 0 rfl) ?_
  refine va_getX hx hb hE.2.2.1 (i := i) hi hS hown (hts _ kF_Kin_55) (fun _ h9 => h9) d_Kin_sizeOf_2 ?_
  refine lv_lconst (v := 1) hx hb d_Kin_sizeOf_5 (by decide) ?_
  refine lv_lsub hx hb d_Kin_sizeOf_6 ?_
  refine lv_land hx hb d_Kin_sizeOf_7 ?_
  refine tv_l (lN (szN i v)) (sz_l hi hv) ?_
  exact rt_l hx hb hrt hlocks (()) (rfl) (hP.sub [] rfl) (hK.sub [] rfl) (hD.sub [] (by decide) rfl) hS d_Kin_sizeOf_8

set_option maxHeartbeats 4000000 in
set_option maxRecDepth 100000 in
theorem c_Kin_isBelow (l : Launch) (D : va_G) (E : evD) (i : Nat) (hi : i < 2) (v : Nat) (hv : v < 2 ^ 64) : Ci (S := Unit) l y_Kin_isBelow (wz y_Kin_isBelow b_Kin_isBelow 3 (some .boolean)) ({ frames := 0, cells := 0, slots := 0, locals := 0 }) D vcl (ev1 E) [.ref (E.1 i), .long (lN v)] [] [] 0 0 (fun (r : Int32) (_ : Unit) => (r = 1 ∨ r = 0) ∧ (r = 1 ↔ blN i v)) (fun _ => []) (fun _ : Unit => []) := by
  have hev := ev1_ok E
  unfold Ci
  refine ct_of (y := y_Kin_isBelow) (av := [.ref (E.1 i), .long (lN v)]) (cc := b_Kin_isBelow) (maxL := 3) (ret := (some .boolean)) (Qc := fun A => va_Qi (S := Unit) (fun (r : Int32) (_ : Unit) => (r = 1 ∨ r = 0) ∧ (r = 1 ↔ blN i v)) (fun u tS => ctB D vcl ((fun _ => []) u) ((fun _ : Unit => []) u) A tS) A) (by decide) rfl (Nat.le_of_ble_eq_true rfl) ?_
  intro p ee s m below meth cde ls A H locs hx hb hml hrt hlocks hown hin hts hA hP hK hD hS hE hl
  have hown : s.vm.findClass R_Kin = some m.cls := hown
  have hts := wz_g hts
  have hl : lv_has ls 3 [(0, .ref (E.1 i)), (1, .long (lN v))] := hl
  refine lv_lload_n hx hb d_Kin_isBelow_0 rfl (lv_at hl 1 rfl) ?_
  refine lv_aload_n hx hb d_Kin_isBelow_1 rfl (lv_at hl 0 rfl) ?_
  refine va_getX hx hb hE.2.2.1 (i := i) hi hS hown (hts _ kF_Kin_55) (fun _ h9 => h9) d_Kin_isBelow_2 ?_
  refine lv_land hx hb d_Kin_isBelow_5 ?_
  refine lv_lconst (v := 0) hx hb d_Kin_isBelow_6 (by decide) ?_
  refine W.lcmp hx hb d_Kin_isBelow_7 ?_
  refine lv_if_eq (tgt := 15) hx hb d_Kin_isBelow_8 (by decide) (fun c8 => ?_) (fun c8 => ?_)
  · refine lv_iconst (v := 0) hx hb d_Kin_isBelow_15 (by decide) ?_
    exact rt_i hx hb hrt hlocks (rfl) (()) (⟨Or.inr rfl, iff_of_false (by decide) ((bl_l hi hv).mp ((lg_cmp_eq _ _).mp c8))⟩) (hP.sub [] rfl) (hK.sub [] rfl) (hD.sub [] (by decide) rfl) hS d_Kin_isBelow_16
  · refine lv_iconst (v := 1) hx hb d_Kin_isBelow_11 (by decide) ?_
    refine lv_goto (tgt := 16) hx hb d_Kin_isBelow_12 (by decide) ?_
    exact rt_i hx hb hrt hlocks (rfl) (()) (⟨Or.inl rfl, iff_of_true rfl (Classical.byContradiction (fun z => c8 ((lg_cmp_eq _ _).mpr ((bl_l hi hv).mpr z))))⟩) (hP.sub [] rfl) (hK.sub [] rfl) (hD.sub [] (by decide) rfl) hS d_Kin_isBelow_16

set_option maxHeartbeats 4000000 in
set_option maxRecDepth 100000 in
theorem c_Kin_isNone (l : Launch) (D : va_G) (E : evD) (i : Nat) (hi : i < 2) (v : Nat) (hv : v < 2 ^ 64) : Ci (S := Unit) l y_Kin_isNone (wz y_Kin_isNone b_Kin_isNone 3 (some .boolean)) ({ frames := 1, cells := 0, slots := 0, locals := 22 }) D vcl (ev1 E) [.ref (E.1 i), .long (lN v)] [] [] 0 0 (fun (r : Int32) (_ : Unit) => (r = 1 ∨ r = 0) ∧ (r = 1 ↔ kIN i < szN i v)) (fun _ => []) (fun _ : Unit => []) := by
  have hev := ev1_ok E
  unfold Ci
  refine ct_of (y := y_Kin_isNone) (av := [.ref (E.1 i), .long (lN v)]) (cc := b_Kin_isNone) (maxL := 3) (ret := (some .boolean)) (Qc := fun A => va_Qi (S := Unit) (fun (r : Int32) (_ : Unit) => (r = 1 ∨ r = 0) ∧ (r = 1 ↔ kIN i < szN i v)) (fun u tS => ctB D vcl ((fun _ => []) u) ((fun _ : Unit => []) u) A tS) A) (by decide) rfl (Nat.le_of_ble_eq_true rfl) ?_
  intro p ee s m below meth cde ls A H locs hx hb hml hrt hlocks hown hin hts hA hP hK hD hS hE hl
  have hown : s.vm.findClass R_Kin = some m.cls := hown
  have hts := wz_g hts
  have hl : lv_has ls 3 [(0, .ref (E.1 i)), (1, .long (lN v))] := hl
  refine lv_aload_n hx hb d_Kin_isNone_0 rfl (lv_at hl 0 rfl) ?_
  refine lv_lload_n hx hb d_Kin_isNone_1 rfl (lv_at hl 1 rfl) ?_
  refine ca_l [] (va_runV (As := [.long (lN v)]) (rest := []) ⟨hx, hb, hml, hown, hts⟩ (c_Kin_sizeOf l D E i hi v (hv) H.size) (xV 1 hts kC_Kin_sizeOf kM_Kin_58 kI_Kin_sizeOf kS_Kin_sizeOf kN_Kin rfl rfl (by decide +kernel) ⟨Nat.le_of_ble_eq_true rfl, Nat.le_of_ble_eq_true rfl⟩) ⟨ct_blind hev, va_recvE (i := i) hE.2.1 hi hS, ct_pre hev hP hK hD hS hA hE [] rfl (by decide) [] rfl⟩ rfl rfl hl.1 rfl (lv_room (Nat.le_of_ble_eq_true rfl)) d_Kin_isNone_2 ⟨Nat.le_of_ble_eq_true rfl, Nat.le_of_ble_eq_true rfl⟩) hP hD hS hA [] [] rfl rfl (by decide) (by decide) (fun rv u H locs hw hP hD hS hK1 => ?_)
  subst hw
  have hP : va_P D vcl [] H := hP
  have hD : va_D A [] := hD
  refine lv_aload_n hx hb d_Kin_isNone_5 rfl (lv_at hl 0 rfl) ?_
  refine va_getX hx hb hE.2.2.2.1 (i := i) hi hS hown (hts _ kF_Kin_48) (fun _ h9 => h9) d_Kin_isNone_6 ?_
  refine tv_l (lN (kIN i)) (kf_I i hi) ?_
  refine W.lcmp hx hb d_Kin_isNone_9 ?_
  refine lv_if_le (tgt := 17) hx hb d_Kin_isNone_10 (by decide) (fun c10 => ?_) (fun c10 => ?_)
  · refine lv_iconst (v := 0) hx hb d_Kin_isNone_17 (by decide) ?_
    exact rt_i hx hb hrt hlocks (rfl) (()) (⟨Or.inr rfl, iff_of_false (by decide) (Nat.not_lt.mpr ((pk_lLE (szN_lt hi) (kIN_63 i hi)).mp ((lg_cmp_le _ _).mp c10)))⟩) (hP.sub [] rfl) (hK.sub [] rfl) (hD.sub [] (by decide) rfl) hS d_Kin_isNone_18
  · refine lv_iconst (v := 1) hx hb d_Kin_isNone_13 (by decide) ?_
    refine lv_goto (tgt := 18) hx hb d_Kin_isNone_14 (by decide) ?_
    exact rt_i hx hb hrt hlocks (rfl) (()) (⟨Or.inl rfl, iff_of_true rfl (Nat.lt_of_not_le (fun z => c10 ((lg_cmp_le _ _).mpr ((pk_lLE (szN_lt hi) (kIN_63 i hi)).mpr z))))⟩) (hP.sub [] rfl) (hK.sub [] rfl) (hD.sub [] (by decide) rfl) hS d_Kin_isNone_18

set_option maxHeartbeats 4000000 in
set_option maxRecDepth 100000 in
theorem c_Kin_signed (l : Launch) (D : va_G) (E : evD) (i : Nat) (hi : i < 2) (X : Int64) (b : Int32) : Cl (S := Unit) l y_Kin_signed (wz y_Kin_signed b_Kin_signed 4 (some .long)) ({ frames := 0, cells := 0, slots := 0, locals := 0 }) D vcl (ev1 E) [.ref (E.1 i), .long X, .int b] [] [] 0 0 (fun (r : Int64) (_ : Unit) => r = sgd i X b) (fun _ => []) (fun _ : Unit => []) := by
  have hev := ev1_ok E
  unfold Cl
  refine ct_of (y := y_Kin_signed) (av := [.ref (E.1 i), .long X, .int b]) (cc := b_Kin_signed) (maxL := 4) (ret := (some .long)) (Qc := fun A => va_Ql (S := Unit) (fun (r : Int64) (_ : Unit) => r = sgd i X b) (fun u tS => ctB D vcl ((fun _ => []) u) ((fun _ : Unit => []) u) A tS) A) (by decide) rfl (Nat.le_of_ble_eq_true rfl) ?_
  intro p ee s m below meth cde ls A H locs hx hb hml hrt hlocks hown hin hts hA hP hK hD hS hE hl
  have hown : s.vm.findClass R_Kin = some m.cls := hown
  have hts := wz_g hts
  have hl : lv_has ls 4 [(0, .ref (E.1 i)), (1, .long X), (3, .int b)] := hl
  refine lv_iload_n hx hb d_Kin_signed_0 rfl (lv_at hl 2 rfl) ?_
  refine lv_if_eq (tgt := 13) hx hb d_Kin_signed_1 (by decide) (fun c1 => ?_) (fun c1 => ?_)
  · refine lv_lload_n hx hb d_Kin_signed_13 rfl (lv_at hl 1 rfl) ?_
    exact rt_l hx hb hrt hlocks (()) (by unfold sgd; rw [if_pos c1]) (hP.sub [] rfl) (hK.sub [] rfl) (hD.sub [] (by decide) rfl) hS d_Kin_signed_14
  · refine lv_lload_n hx hb d_Kin_signed_4 rfl (lv_at hl 1 rfl) ?_
    refine lv_aload_n hx hb d_Kin_signed_5 rfl (lv_at hl 0 rfl) ?_
    refine va_getX hx hb hE.2.2.1 (i := i) hi hS hown (hts _ kF_Kin_55) (fun _ h9 => h9) d_Kin_signed_6 ?_
    refine lv_lor hx hb d_Kin_signed_9 ?_
    refine lv_goto (tgt := 14) hx hb d_Kin_signed_10 (by decide) ?_
    exact rt_l hx hb hrt hlocks (()) (by unfold sgd; rw [if_neg c1]) (hP.sub [] rfl) (hK.sub [] rfl) (hD.sub [] (by decide) rfl) hS d_Kin_signed_14

def rkN (i v : Nat) : Int64 := if v / 2 ^ kB i % 2 = 1 then -lN (szN i v) else lN (szN i v)
set_option maxHeartbeats 4000000 in
set_option maxRecDepth 100000 in
theorem c_Kin_rank (l : Launch) (D : va_G) (E : evD) (i : Nat) (hi : i < 2) (v : Nat) (hv : v < 2 ^ 64) : Cl (S := Unit) l y_Kin_rank (wz y_Kin_rank b_Kin_rank 3 (some .long)) ({ frames := 1, cells := 0, slots := 0, locals := 22 }) D vcl (ev1 E) [.ref (E.1 i), .long (lN v)] [] [] 0 0 (fun (r : Int64) (_ : Unit) => r = rkN i v) (fun _ => []) (fun _ : Unit => []) := by
  have hev := ev1_ok E
  unfold Cl
  refine ct_of (y := y_Kin_rank) (av := [.ref (E.1 i), .long (lN v)]) (cc := b_Kin_rank) (maxL := 3) (ret := (some .long)) (Qc := fun A => va_Ql (S := Unit) (fun (r : Int64) (_ : Unit) => r = rkN i v) (fun u tS => ctB D vcl ((fun _ => []) u) ((fun _ : Unit => []) u) A tS) A) (by decide) rfl (Nat.le_of_ble_eq_true rfl) ?_
  intro p ee s m below meth cde ls A H locs hx hb hml hrt hlocks hown hin hts hA hP hK hD hS hE hl
  have hown : s.vm.findClass R_Kin = some m.cls := hown
  have hts := wz_g hts
  have hl : lv_has ls 3 [(0, .ref (E.1 i)), (1, .long (lN v))] := hl
  refine lv_aload_n hx hb d_Kin_rank_0 rfl (lv_at hl 0 rfl) ?_
  refine lv_lload_n hx hb d_Kin_rank_1 rfl (lv_at hl 1 rfl) ?_
  refine ca_i [] (va_runV (As := [.long (lN v)]) (rest := []) ⟨hx, hb, hml, hown, hts⟩ (c_Kin_isBelow l D E i hi v (hv) H.size) (xV 1 hts kC_Kin_isBelow kM_Kin_62 kI_Kin_isBelow kS_Kin_isBelow kN_Kin rfl rfl (by decide +kernel) ⟨Nat.le_of_ble_eq_true rfl, Nat.le_of_ble_eq_true rfl⟩) ⟨ct_blind hev, va_recvE (i := i) hE.2.1 hi hS, ct_pre hev hP hK hD hS hA hE [] rfl (by decide) [] rfl⟩ rfl rfl hl.1 rfl (lv_room (Nat.le_of_ble_eq_true rfl)) d_Kin_rank_2 ⟨Nat.le_of_ble_eq_true rfl, Nat.le_of_ble_eq_true rfl⟩) hP hD hS hA [] [] rfl rfl (by decide) (by decide) (fun rv u H locs hw hP hD hS hK1 => ?_)
  have hP : va_P D vcl [] H := hP
  have hD : va_D A [] := hD
  refine lv_if_eq (tgt := 17) hx hb d_Kin_rank_5 (by decide) (fun c5 => ?_) (fun c5 => ?_)
  · have e5 : ¬ blN i v := fun z => by have := hw.2.mpr z; rw [c5] at this; exact absurd this (by decide)
    refine lv_aload_n hx hb d_Kin_rank_17 rfl (lv_at hl 0 rfl) ?_
    refine lv_lload_n hx hb d_Kin_rank_18 rfl (lv_at hl 1 rfl) ?_
    refine ca_l [] (va_runV (As := [.long (lN v)]) (rest := []) ⟨hx, hb, hml, hown, hts⟩ (c_Kin_sizeOf l D E i hi v (hv) H.size) (xV 1 hts kC_Kin_sizeOf kM_Kin_58 kI_Kin_sizeOf kS_Kin_sizeOf kN_Kin rfl rfl (by decide +kernel) ⟨Nat.le_of_ble_eq_true rfl, Nat.le_of_ble_eq_true rfl⟩) ⟨ct_blind hev, va_recvE (i := i) hE.2.1 hi hS, ct_pre hev hP hK hD hS hA hE [] rfl (by decide) [] rfl⟩ rfl rfl hl.1 rfl (lv_room (Nat.le_of_ble_eq_true rfl)) d_Kin_rank_19 ⟨Nat.le_of_ble_eq_true rfl, Nat.le_of_ble_eq_true rfl⟩) hP hD hS hA [] [] rfl rfl (by decide) (by decide) (fun rv u H locs hw hP hD hS hK1 => ?_)
    subst hw
    have hP : va_P D vcl [] H := hP
    have hD : va_D A [] := hD
    exact rt_l hx hb hrt hlocks (()) ((if_neg e5).symm) (hP.sub [] rfl) (hK.sub [] rfl) (hD.sub [] (by decide) rfl) hS d_Kin_rank_22
  · have e5 : blN i v := hw.2.mp (hw.1.elim id (fun z => absurd z c5))
    refine lv_aload_n hx hb d_Kin_rank_8 rfl (lv_at hl 0 rfl) ?_
    refine lv_lload_n hx hb d_Kin_rank_9 rfl (lv_at hl 1 rfl) ?_
    refine ca_l [] (va_runV (As := [.long (lN v)]) (rest := []) ⟨hx, hb, hml, hown, hts⟩ (c_Kin_sizeOf l D E i hi v (hv) H.size) (xV 1 hts kC_Kin_sizeOf kM_Kin_58 kI_Kin_sizeOf kS_Kin_sizeOf kN_Kin rfl rfl (by decide +kernel) ⟨Nat.le_of_ble_eq_true rfl, Nat.le_of_ble_eq_true rfl⟩) ⟨ct_blind hev, va_recvE (i := i) hE.2.1 hi hS, ct_pre hev hP hK hD hS hA hE [] rfl (by decide) [] rfl⟩ rfl rfl hl.1 rfl (lv_room (Nat.le_of_ble_eq_true rfl)) d_Kin_rank_10 ⟨Nat.le_of_ble_eq_true rfl, Nat.le_of_ble_eq_true rfl⟩) hP hD hS hA [] [] rfl rfl (by decide) (by decide) (fun rv u H locs hw hP hD hS hK1 => ?_)
    subst hw
    have hP : va_P D vcl [] H := hP
    have hD : va_D A [] := hD
    refine lv_lneg hx hb d_Kin_rank_13 ?_
    refine lv_goto (tgt := 22) hx hb d_Kin_rank_14 (by decide) ?_
    exact rt_l hx hb hrt hlocks (()) ((if_pos e5).symm) (hP.sub [] rfl) (hK.sub [] rfl) (hD.sub [] (by decide) rfl) hS d_Kin_rank_22

set_option maxHeartbeats 4000000 in
set_option maxRecDepth 100000 in
theorem c_Kin_rounded (l : Launch) (D : va_G) (E : evD) (n d : Nat) (mb : Bool) (hn63 : n < 9223372036854775808) (hd0 : 0 < d) (hd31 : d < 2147483648) : Cl (S := Unit) l y_Kin_rounded (wz y_Kin_rounded b_Kin_rounded 11 (some .long)) ({ frames := 0, cells := 0, slots := 0, locals := 0 }) D vcl (ev1 E) [.long (lN n), .int (nI d), .int (bI mb)] [] [] 0 0 (fun (r : Int64) (_ : Unit) => r = lN (rd n d mb)) (fun _ => []) (fun _ : Unit => []) := by
  have hev := ev1_ok E
  unfold Cl
  refine ct_of (y := y_Kin_rounded) (av := [.long (lN n), .int (nI d), .int (bI mb)]) (cc := b_Kin_rounded) (maxL := 11) (ret := (some .long)) (Qc := fun A => va_Ql (S := Unit) (fun (r : Int64) (_ : Unit) => r = lN (rd n d mb)) (fun u tS => ctB D vcl ((fun _ => []) u) ((fun _ : Unit => []) u) A tS) A) (by decide) rfl (Nat.le_of_ble_eq_true rfl) ?_
  intro p ee s m below meth cde ls A H locs hx hb hml hrt hlocks hown hin hts hA hP hK hD hS hE hl
  have hown : s.vm.findClass R_Kin = some m.cls := hown
  have hts := wz_g hts
  have hl : lv_has ls 11 [(0, .long (lN n)), (2, .int (nI d)), (3, .int (bI mb))] := hl
  refine lv_iload_n hx hb d_Kin_rounded_0 rfl (lv_at hl 1 rfl) ?_
  refine lv_bipush (v := 63) hx hb d_Kin_rounded_1 (by decide) ?_
  refine lv_icmp_le (tgt := 8) hx hb d_Kin_rounded_3 (by decide) (fun c3 => ?_) (fun c3 => ?_)
  · have e3 : d ≤ 63 := (nI_leI (b := 63) (by omega) (by decide)).mp c3
    have hp1 : 2 ^ (d - 1) ≤ 2 ^ 62 := two_pow_le (by omega)
    have hp2 : 2 ^ d = 2 * 2 ^ (d - 1) := by rw [show d = d - 1 + 1 by omega, Nat.pow_succ, Nat.mul_comm]; rfl
    have hp3 := Nat.mod_lt n (Nat.two_pow_pos d)
    have hp4 := Nat.div_le_self n (2 ^ d)
    refine lv_lload_n hx hb d_Kin_rounded_8 rfl (lv_at hl 0 rfl) ?_
    refine lv_iload_n hx hb d_Kin_rounded_9 rfl (lv_at hl 1 rfl) ?_
    refine lv_lushr (v := lN (n / 2 ^ d)) hx hb d_Kin_rounded_10 (wb_shr (by omega) (by omega)) ?_
    refine lv_lstore (lv' := [(4, .long (lN (n / 2 ^ d))), (0, .long (lN n)), (2, .int (nI d)), (3, .int (bI mb))]) hx hb d_Kin_rounded_11 hl (by decide) rfl (fun ls hl => ?_)
    refine lv_lload_n hx hb d_Kin_rounded_13 rfl (lv_at hl 1 rfl) ?_
    refine lv_lload hx hb d_Kin_rounded_14 (lv_at hl 0 rfl) ?_
    refine lv_iload_n hx hb d_Kin_rounded_16 rfl (lv_at hl 2 rfl) ?_
    refine lv_lshl (v := (lN (n / 2 ^ d)) <<< ((nI d).toInt64 &&& 63)) hx hb d_Kin_rounded_17 (rfl) ?_
    refine lv_lsub hx hb d_Kin_rounded_18 ?_
    refine tv_l (lN (n % 2 ^ d)) (rest_l (by omega)) ?_
    refine lv_lstore (lv' := [(6, .long (lN (n % 2 ^ d))), (4, .long (lN (n / 2 ^ d))), (0, .long (lN n)), (2, .int (nI d)), (3, .int (bI mb))]) hx hb d_Kin_rounded_19 hl (by decide) rfl (fun ls hl => ?_)
    refine lv_lconst (v := 1) hx hb d_Kin_rounded_21 (by decide) ?_
    refine lv_iload_n hx hb d_Kin_rounded_22 rfl (lv_at hl 3 rfl) ?_
    refine lv_iconst (v := 1) hx hb d_Kin_rounded_23 (by decide) ?_
    refine lv_isub hx hb d_Kin_rounded_24 ?_
    refine tv_i (nI (d - 1)) (nI_dec hd0) ?_
    refine lv_lshl (v := lN (2 ^ (d - 1))) hx hb d_Kin_rounded_25 (by have h9 := wb_shl 1 (k := d - 1) (by omega); rw [Nat.one_mul] at h9; exact h9) ?_
    refine lv_lstore (lv' := [(8, .long (lN (2 ^ (d - 1)))), (6, .long (lN (n % 2 ^ d))), (4, .long (lN (n / 2 ^ d))), (0, .long (lN n)), (2, .int (nI d)), (3, .int (bI mb))]) hx hb d_Kin_rounded_26 hl (by decide) rfl (fun ls hl => ?_)
    refine lv_lload hx hb d_Kin_rounded_28 (lv_at hl 1 rfl) ?_
    refine lv_lload hx hb d_Kin_rounded_30 (lv_at hl 0 rfl) ?_
    refine W.lcmp hx hb d_Kin_rounded_32 ?_
    refine lv_if_gt (tgt := 57) hx hb d_Kin_rounded_33 (by decide) (fun c33 => ?_) (fun c33 => ?_)
    · have e33 : 2 ^ (d - 1) < n % 2 ^ d := (pk_lLT (by omega) (by omega)).mp ((lg_cmp_gt _ _).mp c33)
      refine lv_iconst (v := 1) hx hb d_Kin_rounded_57 (by decide) ?_
      refine lv_goto (tgt := 62) hx hb d_Kin_rounded_58 (by decide) ?_
      refine lv_istore (lv' := [(10, .int 1), (8, .long (lN (2 ^ (d - 1)))), (6, .long (lN (n % 2 ^ d))), (4, .long (lN (n / 2 ^ d))), (0, .long (lN n)), (2, .int (nI d)), (3, .int (bI mb))]) hx hb d_Kin_rounded_62 hl (by decide) rfl (fun ls hl => ?_)
      refine lv_iload hx hb d_Kin_rounded_64 (lv_at hl 0 rfl) ?_
      refine lv_if_eq (tgt := 76) hx hb d_Kin_rounded_66 (by decide) (fun c66 => ?_) (fun c66 => ?_)
      · exact absurd c66 (by decide)
      · refine lv_lload hx hb d_Kin_rounded_69 (lv_at hl 3 rfl) ?_
        refine lv_lconst (v := 1) hx hb d_Kin_rounded_71 (by decide) ?_
        refine lv_ladd hx hb d_Kin_rounded_72 ?_
        refine tv_l (lN (n / 2 ^ d + 1)) (lN_1 _) ?_
        refine lv_goto (tgt := 78) hx hb d_Kin_rounded_73 (by decide) ?_
        exact rt_l hx hb hrt hlocks (()) (by rw [rd_up (Or.inl e33)]) (hP.sub [] rfl) (hK.sub [] rfl) (hD.sub [] (by decide) rfl) hS d_Kin_rounded_78
    · have e33 : ¬ 2 ^ (d - 1) < n % 2 ^ d := fun z => c33 ((lg_cmp_gt _ _).mpr ((pk_lLT (by omega) (by omega)).mpr z))
      refine lv_lload hx hb d_Kin_rounded_36 (lv_at hl 1 rfl) ?_
      refine lv_lload hx hb d_Kin_rounded_38 (lv_at hl 0 rfl) ?_
      refine W.lcmp hx hb d_Kin_rounded_40 ?_
      refine lv_if_ne (tgt := 61) hx hb d_Kin_rounded_41 (by decide) (fun c41 => ?_) (fun c41 => ?_)
      · have e41 : n % 2 ^ d ≠ 2 ^ (d - 1) := fun z => c41 ((lg_cmp_eq _ _).mpr (by rw [z]))
        refine lv_iconst (v := 0) hx hb d_Kin_rounded_61 (by decide) ?_
        refine lv_istore (lv' := [(10, .int 0), (8, .long (lN (2 ^ (d - 1)))), (6, .long (lN (n % 2 ^ d))), (4, .long (lN (n / 2 ^ d))), (0, .long (lN n)), (2, .int (nI d)), (3, .int (bI mb))]) hx hb d_Kin_rounded_62 hl (by decide) rfl (fun ls hl => ?_)
        refine lv_iload hx hb d_Kin_rounded_64 (lv_at hl 0 rfl) ?_
        refine lv_if_eq (tgt := 76) hx hb d_Kin_rounded_66 (by decide) (fun c66 => ?_) (fun c66 => ?_)
        · refine lv_lload hx hb d_Kin_rounded_76 (lv_at hl 3 rfl) ?_
          exact rt_l hx hb hrt hlocks (()) (by rw [rd_dn (fun z => z.elim e33 (fun y => e41 y.1))]) (hP.sub [] rfl) (hK.sub [] rfl) (hD.sub [] (by decide) rfl) hS d_Kin_rounded_78
        · exact absurd rfl c66
      · have e41 : n % 2 ^ d = 2 ^ (d - 1) := (pk_lEQ (by omega) (by omega)).mp ((lg_cmp_eq _ _).mp c41)
        refine lv_iload_n hx hb d_Kin_rounded_44 rfl (lv_at hl 5 rfl) ?_
        refine lv_if_ne (tgt := 57) hx hb d_Kin_rounded_45 (by decide) (fun c45 => ?_) (fun c45 => ?_)
        · have e45 : mb = true := by cases mb; (· exact absurd rfl c45); rfl
          refine lv_iconst (v := 1) hx hb d_Kin_rounded_57 (by decide) ?_
          refine lv_goto (tgt := 62) hx hb d_Kin_rounded_58 (by decide) ?_
          refine lv_istore (lv' := [(10, .int 1), (8, .long (lN (2 ^ (d - 1)))), (6, .long (lN (n % 2 ^ d))), (4, .long (lN (n / 2 ^ d))), (0, .long (lN n)), (2, .int (nI d)), (3, .int (bI mb))]) hx hb d_Kin_rounded_62 hl (by decide) rfl (fun ls hl => ?_)
          refine lv_iload hx hb d_Kin_rounded_64 (lv_at hl 0 rfl) ?_
          refine lv_if_eq (tgt := 76) hx hb d_Kin_rounded_66 (by decide) (fun c66 => ?_) (fun c66 => ?_)
          · exact absurd c66 (by decide)
          · refine lv_lload hx hb d_Kin_rounded_69 (lv_at hl 3 rfl) ?_
            refine lv_lconst (v := 1) hx hb d_Kin_rounded_71 (by decide) ?_
            refine lv_ladd hx hb d_Kin_rounded_72 ?_
            refine tv_l (lN (n / 2 ^ d + 1)) (lN_1 _) ?_
            refine lv_goto (tgt := 78) hx hb d_Kin_rounded_73 (by decide) ?_
            exact rt_l hx hb hrt hlocks (()) (by rw [rd_up (Or.inr ⟨e41, Or.inl e45⟩)]) (hP.sub [] rfl) (hK.sub [] rfl) (hD.sub [] (by decide) rfl) hS d_Kin_rounded_78
        · have e45 : mb = false := (bI_0 mb).mp c45
          refine lv_lload hx hb d_Kin_rounded_48 (lv_at hl 2 rfl) ?_
          refine lv_lconst (v := 1) hx hb d_Kin_rounded_50 (by decide) ?_
          refine lv_land hx hb d_Kin_rounded_51 ?_
          refine tv_l (lN (n / 2 ^ d % 2)) (wb_a1 (by omega)) ?_
          refine lv_lconst (v := 1) hx hb d_Kin_rounded_52 (by decide) ?_
          refine W.lcmp hx hb d_Kin_rounded_53 ?_
          refine lv_if_ne (tgt := 61) hx hb d_Kin_rounded_54 (by decide) (fun c54 => ?_) (fun c54 => ?_)
          · have e54 : n / 2 ^ d % 2 ≠ 1 := fun z => c54 ((lg_cmp_eq _ _).mpr (by rw [z]; rfl))
            refine lv_iconst (v := 0) hx hb d_Kin_rounded_61 (by decide) ?_
            refine lv_istore (lv' := [(10, .int 0), (8, .long (lN (2 ^ (d - 1)))), (6, .long (lN (n % 2 ^ d))), (4, .long (lN (n / 2 ^ d))), (0, .long (lN n)), (2, .int (nI d)), (3, .int (bI mb))]) hx hb d_Kin_rounded_62 hl (by decide) rfl (fun ls hl => ?_)
            refine lv_iload hx hb d_Kin_rounded_64 (lv_at hl 0 rfl) ?_
            refine lv_if_eq (tgt := 76) hx hb d_Kin_rounded_66 (by decide) (fun c66 => ?_) (fun c66 => ?_)
            · refine lv_lload hx hb d_Kin_rounded_76 (lv_at hl 3 rfl) ?_
              exact rt_l hx hb hrt hlocks (()) (by rw [rd_dn (fun z => z.elim e33 (fun y => y.2.elim (fun q => absurd (e45.symm.trans q) (by decide)) e54))]) (hP.sub [] rfl) (hK.sub [] rfl) (hD.sub [] (by decide) rfl) hS d_Kin_rounded_78
            · exact absurd rfl c66
          · have e54 : n / 2 ^ d % 2 = 1 := (pk_lEQ (b := 1) (by omega) (by decide)).mp ((lg_cmp_eq _ _).mp c54)
            refine lv_iconst (v := 1) hx hb d_Kin_rounded_57 (by decide) ?_
            refine lv_goto (tgt := 62) hx hb d_Kin_rounded_58 (by decide) ?_
            refine lv_istore (lv' := [(10, .int 1), (8, .long (lN (2 ^ (d - 1)))), (6, .long (lN (n % 2 ^ d))), (4, .long (lN (n / 2 ^ d))), (0, .long (lN n)), (2, .int (nI d)), (3, .int (bI mb))]) hx hb d_Kin_rounded_62 hl (by decide) rfl (fun ls hl => ?_)
            refine lv_iload hx hb d_Kin_rounded_64 (lv_at hl 0 rfl) ?_
            refine lv_if_eq (tgt := 76) hx hb d_Kin_rounded_66 (by decide) (fun c66 => ?_) (fun c66 => ?_)
            · exact absurd c66 (by decide)
            · refine lv_lload hx hb d_Kin_rounded_69 (lv_at hl 3 rfl) ?_
              refine lv_lconst (v := 1) hx hb d_Kin_rounded_71 (by decide) ?_
              refine lv_ladd hx hb d_Kin_rounded_72 ?_
              refine tv_l (lN (n / 2 ^ d + 1)) (lN_1 _) ?_
              refine lv_goto (tgt := 78) hx hb d_Kin_rounded_73 (by decide) ?_
              exact rt_l hx hb hrt hlocks (()) (by rw [rd_up (Or.inr ⟨e41, Or.inr e54⟩)]) (hP.sub [] rfl) (hK.sub [] rfl) (hD.sub [] (by decide) rfl) hS d_Kin_rounded_78
  · have e3 : 63 < d := Nat.lt_of_not_le (fun z => c3 ((nI_leI (b := 63) (by omega) (by decide)).mpr z))
    refine lv_lconst (v := 0) hx hb d_Kin_rounded_6 (by decide) ?_
    exact rt_l hx hb hrt hlocks (()) (by rw [rd_lt hn63 e3]; rfl) (hP.sub [] rfl) (hK.sub [] rfl) (hD.sub [] (by decide) rfl) hS d_Kin_rounded_7

set_option maxHeartbeats 4000000 in
set_option maxRecDepth 100000 in
theorem c_Kin_nearest (l : Launch) (D : va_G) (E : evD) (i : Nat) (hi : i < 2) (n : Nat) (q : Int) (mb : Bool) (hn63 : n < 9223372036854775808) (hq1 : -10000000 ≤ q) (hq2 : q ≤ 10000000) : Cl (S := Unit) l y_Kin_nearest (wz y_Kin_nearest b_Kin_nearest 8 (some .long)) ({ frames := 1, cells := 0, slots := 0, locals := 30 }) D vcl (ev1 E) [.ref (E.1 i), .long (lN n), .int (zI q), .int (bI mb)] [] [] 0 0 (fun (r : Int64) (_ : Unit) => r = lN (kn (kP i) (kZ i) n (q + kLw i) mb)) (fun _ => []) (fun _ : Unit => []) := by
  have hev := ev1_ok E
  unfold Cl
  refine ct_of (y := y_Kin_nearest) (av := [.ref (E.1 i), .long (lN n), .int (zI q), .int (bI mb)]) (cc := b_Kin_nearest) (maxL := 8) (ret := (some .long)) (Qc := fun A => va_Ql (S := Unit) (fun (r : Int64) (_ : Unit) => r = lN (kn (kP i) (kZ i) n (q + kLw i) mb)) (fun u tS => ctB D vcl ((fun _ => []) u) ((fun _ : Unit => []) u) A tS) A) (by decide) rfl (Nat.le_of_ble_eq_true rfl) ?_
  intro p ee s m below meth cde ls A H locs hx hb hml hrt hlocks hown hin hts hA hP hK hD hS hE hl
  have hown : s.vm.findClass R_Kin = some m.cls := hown
  have hts := wz_g hts
  have hl : lv_has ls 8 [(0, .ref (E.1 i)), (1, .long (lN n)), (3, .int (zI q)), (4, .int (bI mb))] := hl
  refine lv_lload_n hx hb d_Kin_nearest_0 rfl (lv_at hl 1 rfl) ?_
  refine lv_lconst (v := 0) hx hb d_Kin_nearest_1 (by decide) ?_
  refine W.lcmp hx hb d_Kin_nearest_2 ?_
  refine lv_if_ne (tgt := 8) hx hb d_Kin_nearest_3 (by decide) (fun c3 => ?_) (fun c3 => ?_)
  · have e3 : n ≠ 0 := fun z => c3 ((lg_cmp_eq _ _).mpr (by rw [z]; rfl))
    have hbl : bln n ≤ 63 := bln_le_of hn63
    obtain ⟨hk1, hk2, hk3, hk4, hk5, -⟩ := kP_b i hi
    obtain ⟨J, hJ⟩ : ∃ J : Nat, J = (q + kLw i + bln n - kP i).toNat := ⟨_, rfl⟩
    refine lv_iload_n hx hb d_Kin_nearest_8 rfl (lv_at hl 2 rfl) ?_
    refine lv_lload_n hx hb d_Kin_nearest_9 rfl (lv_at hl 1 rfl) ?_
    refine ca_i [] (va_runSN (As := [.long (lN n)]) (rest := [.int (zI q)]) ⟨hx, hb, hml, hown, hts⟩ (c_Rea_bitLengthOf l D E n (by omega) H.size) (xSN 1 hts kC_Rea_bitLengthOf hE.1.2.1 kT_Rea_bitLengthOf kN_Rea rfl rfl (by decide +kernel) ⟨Nat.le_of_ble_eq_true rfl, Nat.le_of_ble_eq_true rfl⟩) ⟨ct_blind hev, ct_pre hev hP hK hD hS hA hE [] rfl (by decide) [] rfl⟩ rfl rfl hl.1 rfl (lv_room (Nat.le_of_ble_eq_true rfl)) d_Kin_nearest_10 ⟨Nat.le_of_ble_eq_true rfl, Nat.le_of_ble_eq_true rfl⟩) hP hD hS hA [] [] rfl rfl (by decide) (by decide) (fun rv u H locs hw hP hD hS hK1 => ?_)
    subst hw
    have hP : va_P D vcl [] H := hP
    have hD : va_D A [] := hD
    refine lv_iadd hx hb d_Kin_nearest_13 ?_
    refine tv_i (zI (q + bln n)) (by rw [← zI_nI, zI_add]) ?_
    refine lv_aload_n hx hb d_Kin_nearest_14 rfl (lv_at hl 0 rfl) ?_
    refine va_getE hx hb hE.2.1 (i := i) hi hS hown (q := kF[0]) (List.getElem_mem _) (hts _ kF_Kin_29) (fun _ h9 => h9) d_Kin_nearest_15 ?_
    refine tv_i (nI (kP i)) (kf_P i hi) ?_
    refine lv_isub hx hb d_Kin_nearest_18 ?_
    refine tv_i (zI (q + bln n - kP i)) (by rw [← zI_nI, zI_sub]) ?_
    refine lv_aload_n hx hb d_Kin_nearest_19 rfl (lv_at hl 0 rfl) ?_
    refine va_getE hx hb hE.2.1 (i := i) hi hS hown (q := kF[1]) (List.getElem_mem _) (hts _ kF_Kin_33) (fun _ h9 => h9) d_Kin_nearest_20 ?_
    refine tv_i (zI (-(kLw i : Int))) (kf_L i hi) ?_
    refine va_mmax hx hb (by rw [hml]; exact hl.1.symm) hown (hts _ kM_Kin_72) (hts _ kT_mmax) (hts _ kN_Math) (hts _ kC_mmax) (Nat.le_of_ble_eq_true rfl) (Nat.le_of_ble_eq_true rfl) (Nat.le_of_ble_eq_true rfl) (Nat.le_of_ble_eq_true rfl) d_Kin_nearest_23 ?_
    refine tv_i (zI ((J : Int) - kLw i)) (by rw [k_unit (by omega) (by omega) (by omega) (by omega), hJ]; congr 3; omega) ?_
    refine lv_istore (lv' := [(5, .int (zI ((J : Int) - kLw i))), (0, .ref (E.1 i)), (1, .long (lN n)), (3, .int (zI q)), (4, .int (bI mb))]) hx hb d_Kin_nearest_26 hl (by decide) rfl (fun ls hl => ?_)
    refine lv_iload hx hb d_Kin_nearest_28 (lv_at hl 0 rfl) ?_
    refine lv_aload_n hx hb d_Kin_nearest_30 rfl (lv_at hl 1 rfl) ?_
    refine va_getE hx hb hE.2.1 (i := i) hi hS hown (q := kF[2]) (List.getElem_mem _) (hts _ kF_Kin_36) (fun _ h9 => h9) d_Kin_nearest_31 ?_
    refine tv_i (zI ((kZ i : Int) - kLw i)) (kf_H i hi) ?_
    refine lv_icmp_le (tgt := 42) hx hb d_Kin_nearest_34 (by decide) (fun c34 => ?_) (fun c34 => ?_)
    · have e34 : ¬ kZ i < J := by have := (zI_le (by omega) (by omega) (by omega) (by omega)).mp c34; omega
      refine lv_iload hx hb d_Kin_nearest_42 (lv_at hl 0 rfl) ?_
      refine lv_iload_n hx hb d_Kin_nearest_44 rfl (lv_at hl 3 rfl) ?_
      refine lv_icmp_gt (tgt := 57) hx hb d_Kin_nearest_45 (by decide) (fun c45 => ?_) (fun c45 => ?_)
      · have e45 : ¬ (J : Int) ≤ q + kLw i := by have := (zI_lt (by omega) (by omega) (by omega) (by omega)).mp c45; omega
        refine lv_lload_n hx hb d_Kin_nearest_57 rfl (lv_at hl 2 rfl) ?_
        refine lv_iload hx hb d_Kin_nearest_58 (lv_at hl 0 rfl) ?_
        refine lv_iload_n hx hb d_Kin_nearest_60 rfl (lv_at hl 3 rfl) ?_
        refine lv_isub hx hb d_Kin_nearest_61 ?_
        refine tv_i (nI (J - (q + kLw i)).toNat) (by rw [zI_sub, ← zI_nI]; congr 1; omega) ?_
        refine lv_iload hx hb d_Kin_nearest_62 (lv_at hl 4 rfl) ?_
        refine ca_l [] (va_runS (As := [.long (lN n), .int (nI (J - (q + kLw i)).toNat), .int (bI mb)]) (rest := []) ⟨hx, hb, hml, hown, hts⟩ (c_Kin_rounded l D E n (J - (q + kLw i)).toNat mb (hn63) (by omega) (by omega) H.size) (xS 3 hts kC_Kin_rounded kM_Kin_78 kT_Kin_rounded kN_Kin rfl rfl (by decide +kernel) ⟨Nat.le_of_ble_eq_true rfl, Nat.le_of_ble_eq_true rfl⟩) ⟨ct_blind hev, ct_pre hev hP hK hD hS hA hE [] rfl (by decide) [] rfl⟩ rfl rfl hl.1 rfl (lv_room (Nat.le_of_ble_eq_true rfl)) d_Kin_nearest_64 ⟨Nat.le_of_ble_eq_true rfl, Nat.le_of_ble_eq_true rfl⟩) hP hD hS hA [] [] rfl rfl (by decide) (by decide) (fun rv u H locs hw hP hD hS hK1 => ?_)
        subst hw
        have hP : va_P D vcl [] H := hP
        have hD : va_D A [] := hD
        refine lv_lstore (lv' := [(6, .long (lN (rd n (J - (q + kLw i)).toNat mb))), (5, .int (zI ((J : Int) - kLw i))), (0, .ref (E.1 i)), (1, .long (lN n)), (3, .int (zI q)), (4, .int (bI mb))]) hx hb d_Kin_nearest_67 hl (by decide) rfl (fun ls hl => ?_)
        refine lv_iload hx hb d_Kin_nearest_69 (lv_at hl 1 rfl) ?_
        refine lv_aload_n hx hb d_Kin_nearest_71 rfl (lv_at hl 2 rfl) ?_
        refine va_getE hx hb hE.2.1 (i := i) hi hS hown (q := kF[1]) (List.getElem_mem _) (hts _ kF_Kin_33) (fun _ h9 => h9) d_Kin_nearest_72 ?_
        refine tv_i (zI (-(kLw i : Int))) (kf_L i hi) ?_
        refine lv_isub hx hb d_Kin_nearest_75 ?_
        refine tv_i (zI (J : Int)) (by rw [zI_sub]; congr 1; omega) ?_
        refine lv_i2l (v := (zI (J : Int)).toInt64) hx hb d_Kin_nearest_76 (rfl) ?_
        refine tv_l (lN J) (zI_l (by omega)) ?_
        refine lv_aload_n hx hb d_Kin_nearest_77 rfl (lv_at hl 2 rfl) ?_
        refine va_getE hx hb hE.2.1 (i := i) hi hS hown (q := kF[0]) (List.getElem_mem _) (hts _ kF_Kin_29) (fun _ h9 => h9) d_Kin_nearest_78 ?_
        refine tv_i (nI (kP i)) (kf_P i hi) ?_
        refine lv_iconst (v := 1) hx hb d_Kin_nearest_81 (by decide) ?_
        refine lv_isub hx hb d_Kin_nearest_82 ?_
        refine tv_i (nI (kP i - 1)) (nI_dec (by omega)) ?_
        refine lv_lshl (v := lN (J * 2 ^ (kP i - 1))) hx hb d_Kin_nearest_83 (wb_shl _ (by omega)) ?_
        refine lv_lload hx hb d_Kin_nearest_84 (lv_at hl 0 rfl) ?_
        refine lv_ladd hx hb d_Kin_nearest_86 ?_
        exact rt_l hx hb hrt hlocks (()) (by rw [kn_rd e3 hJ e34 e45, lN_add]) (hP.sub [] rfl) (hK.sub [] rfl) (hD.sub [] (by decide) rfl) hS d_Kin_nearest_87
      · have e45 : (J : Int) ≤ q + kLw i := by have := mt (zI_lt (by omega) (by omega) (by omega) (by omega)).mpr c45; omega
        refine lv_lload_n hx hb d_Kin_nearest_48 rfl (lv_at hl 2 rfl) ?_
        refine lv_iload_n hx hb d_Kin_nearest_49 rfl (lv_at hl 3 rfl) ?_
        refine lv_iload hx hb d_Kin_nearest_50 (lv_at hl 0 rfl) ?_
        refine lv_isub hx hb d_Kin_nearest_52 ?_
        refine tv_i (nI (q + kLw i - J).toNat) (by rw [zI_sub, ← zI_nI]; congr 1; omega) ?_
        refine lv_lshl (v := lN (n * 2 ^ (q + kLw i - J).toNat)) hx hb d_Kin_nearest_53 (wb_shl _ (by omega)) ?_
        refine lv_goto (tgt := 67) hx hb d_Kin_nearest_54 (by decide) ?_
        refine lv_lstore (lv' := [(6, .long (lN (n * 2 ^ (q + kLw i - J).toNat))), (5, .int (zI ((J : Int) - kLw i))), (0, .ref (E.1 i)), (1, .long (lN n)), (3, .int (zI q)), (4, .int (bI mb))]) hx hb d_Kin_nearest_67 hl (by decide) rfl (fun ls hl => ?_)
        refine lv_iload hx hb d_Kin_nearest_69 (lv_at hl 1 rfl) ?_
        refine lv_aload_n hx hb d_Kin_nearest_71 rfl (lv_at hl 2 rfl) ?_
        refine va_getE hx hb hE.2.1 (i := i) hi hS hown (q := kF[1]) (List.getElem_mem _) (hts _ kF_Kin_33) (fun _ h9 => h9) d_Kin_nearest_72 ?_
        refine tv_i (zI (-(kLw i : Int))) (kf_L i hi) ?_
        refine lv_isub hx hb d_Kin_nearest_75 ?_
        refine tv_i (zI (J : Int)) (by rw [zI_sub]; congr 1; omega) ?_
        refine lv_i2l (v := (zI (J : Int)).toInt64) hx hb d_Kin_nearest_76 (rfl) ?_
        refine tv_l (lN J) (zI_l (by omega)) ?_
        refine lv_aload_n hx hb d_Kin_nearest_77 rfl (lv_at hl 2 rfl) ?_
        refine va_getE hx hb hE.2.1 (i := i) hi hS hown (q := kF[0]) (List.getElem_mem _) (hts _ kF_Kin_29) (fun _ h9 => h9) d_Kin_nearest_78 ?_
        refine tv_i (nI (kP i)) (kf_P i hi) ?_
        refine lv_iconst (v := 1) hx hb d_Kin_nearest_81 (by decide) ?_
        refine lv_isub hx hb d_Kin_nearest_82 ?_
        refine tv_i (nI (kP i - 1)) (nI_dec (by omega)) ?_
        refine lv_lshl (v := lN (J * 2 ^ (kP i - 1))) hx hb d_Kin_nearest_83 (wb_shl _ (by omega)) ?_
        refine lv_lload hx hb d_Kin_nearest_84 (lv_at hl 0 rfl) ?_
        refine lv_ladd hx hb d_Kin_nearest_86 ?_
        exact rt_l hx hb hrt hlocks (()) (by rw [kn_ex e3 hJ e34 e45, lN_add]) (hP.sub [] rfl) (hK.sub [] rfl) (hD.sub [] (by decide) rfl) hS d_Kin_nearest_87
    · have e34 : kZ i < J := by have := mt (zI_le (by omega) (by omega) (by omega) (by omega)).mpr c34; omega
      refine lv_aload_n hx hb d_Kin_nearest_37 rfl (lv_at hl 1 rfl) ?_
      refine va_getX hx hb hE.2.2.2.1 (i := i) hi hS hown (hts _ kF_Kin_48) (fun _ h9 => h9) d_Kin_nearest_38 ?_
      refine tv_l (lN (kIN i)) (kf_I i hi) ?_
      exact rt_l hx hb hrt hlocks (()) (by rw [kn_inf e3 hJ e34]; rfl) (hP.sub [] rfl) (hK.sub [] rfl) (hD.sub [] (by decide) rfl) hS d_Kin_nearest_41
  · have e3 : n = 0 := (lN_ne0 (by omega)).mp ((lg_cmp_eq _ _).mp c3)
    refine lv_lconst (v := 0) hx hb d_Kin_nearest_6 (by decide) ?_
    exact rt_l hx hb hrt hlocks (()) (by rw [e3, kn_0]; rfl) (hP.sub [] rfl) (hK.sub [] rfl) (hD.sub [] (by decide) rfl) hS d_Kin_nearest_7
