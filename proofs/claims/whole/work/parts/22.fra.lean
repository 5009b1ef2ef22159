theorem d_Fra_nearest_0 : decode b_Fra_nearest 0 = .ok (.aload_n 0, 1) := by decide +kernel
theorem d_Fra_nearest_1 : decode b_Fra_nearest 1 = .ok (.getfield 10, 3) := by decide +kernel
theorem d_Fra_nearest_4 : decode b_Fra_nearest 4 = .ok (.invokevirtual 19, 3) := by decide +kernel
theorem d_Fra_nearest_7 : decode b_Fra_nearest 7 = .ok (.aload_n 0, 1) := by decide +kernel
theorem d_Fra_nearest_8 : decode b_Fra_nearest 8 = .ok (.getfield 16, 3) := by decide +kernel
theorem d_Fra_nearest_11 : decode b_Fra_nearest 11 = .ok (.invokevirtual 19, 3) := by decide +kernel
theorem d_Fra_nearest_14 : decode b_Fra_nearest 14 = .ok (.isub, 1) := by decide +kernel
theorem d_Fra_nearest_15 : decode b_Fra_nearest 15 = .ok (.istore_n 3, 1) := by decide +kernel
theorem d_Fra_nearest_16 : decode b_Fra_nearest 16 = .ok (.iload_n 3, 1) := by decide +kernel
theorem d_Fra_nearest_17 : decode b_Fra_nearest 17 = .ok (.ifCond .ge 15, 3) := by decide +kernel
theorem d_Fra_nearest_20 : decode b_Fra_nearest 20 = .ok (.aload_n 0, 1) := by decide +kernel
theorem d_Fra_nearest_21 : decode b_Fra_nearest 21 = .ok (.getfield 10, 3) := by decide +kernel
theorem d_Fra_nearest_24 : decode b_Fra_nearest 24 = .ok (.iload_n 3, 1) := by decide +kernel
theorem d_Fra_nearest_25 : decode b_Fra_nearest 25 = .ok (.ineg, 1) := by decide +kernel
theorem d_Fra_nearest_26 : decode b_Fra_nearest 26 = .ok (.invokevirtual 23, 3) := by decide +kernel
theorem d_Fra_nearest_29 : decode b_Fra_nearest 29 = .ok (.goto 11, 3) := by decide +kernel
theorem d_Fra_nearest_32 : decode b_Fra_nearest 32 = .ok (.aload_n 0, 1) := by decide +kernel
theorem d_Fra_nearest_33 : decode b_Fra_nearest 33 = .ok (.getfield 16, 3) := by decide +kernel
theorem d_Fra_nearest_36 : decode b_Fra_nearest 36 = .ok (.iload_n 3, 1) := by decide +kernel
theorem d_Fra_nearest_37 : decode b_Fra_nearest 37 = .ok (.invokevirtual 23, 3) := by decide +kernel
theorem d_Fra_nearest_40 : decode b_Fra_nearest 40 = .ok (.aload_n 1, 1) := by decide +kernel
theorem d_Fra_nearest_41 : decode b_Fra_nearest 41 = .ok (.getfield 27, 3) := by decide +kernel
theorem d_Fra_nearest_44 : decode b_Fra_nearest 44 = .ok (.iconst 2, 1) := by decide +kernel
theorem d_Fra_nearest_45 : decode b_Fra_nearest 45 = .ok (.iadd, 1) := by decide +kernel
theorem d_Fra_nearest_46 : decode b_Fra_nearest 46 = .ok (.istore 4, 2) := by decide +kernel
theorem d_Fra_nearest_48 : decode b_Fra_nearest 48 = .ok (.lconst 0, 1) := by decide +kernel
theorem d_Fra_nearest_49 : decode b_Fra_nearest 49 = .ok (.lstore 5, 2) := by decide +kernel
theorem d_Fra_nearest_51 : decode b_Fra_nearest 51 = .ok (.iconst 0, 1) := by decide +kernel
theorem d_Fra_nearest_52 : decode b_Fra_nearest 52 = .ok (.istore 7, 2) := by decide +kernel
theorem d_Fra_nearest_54 : decode b_Fra_nearest 54 = .ok (.iload 7, 2) := by decide +kernel
theorem d_Fra_nearest_56 : decode b_Fra_nearest 56 = .ok (.iload 4, 2) := by decide +kernel
theorem d_Fra_nearest_58 : decode b_Fra_nearest 58 = .ok (.if_icmp .ge 55, 3) := by decide +kernel
theorem d_Fra_nearest_61 : decode b_Fra_nearest 61 = .ok (.lload 5, 2) := by decide +kernel
theorem d_Fra_nearest_63 : decode b_Fra_nearest 63 = .ok (.iconst 1, 1) := by decide +kernel
theorem d_Fra_nearest_64 : decode b_Fra_nearest 64 = .ok (.lshl, 1) := by decide +kernel
theorem d_Fra_nearest_65 : decode b_Fra_nearest 65 = .ok (.lstore 5, 2) := by decide +kernel
theorem d_Fra_nearest_67 : decode b_Fra_nearest 67 = .ok (.aload_n 0, 1) := by decide +kernel
theorem d_Fra_nearest_68 : decode b_Fra_nearest 68 = .ok (.getfield 10, 3) := by decide +kernel
theorem d_Fra_nearest_71 : decode b_Fra_nearest 71 = .ok (.aload_n 0, 1) := by decide +kernel
theorem d_Fra_nearest_72 : decode b_Fra_nearest 72 = .ok (.getfield 16, 3) := by decide +kernel
theorem d_Fra_nearest_75 : decode b_Fra_nearest 75 = .ok (.invokevirtual 33, 3) := by decide +kernel
theorem d_Fra_nearest_78 : decode b_Fra_nearest 78 = .ok (.ifCond .eq 20, 3) := by decide +kernel
theorem d_Fra_nearest_81 : decode b_Fra_nearest 81 = .ok (.aload_n 0, 1) := by decide +kernel
theorem d_Fra_nearest_82 : decode b_Fra_nearest 82 = .ok (.getfield 10, 3) := by decide +kernel
theorem d_Fra_nearest_85 : decode b_Fra_nearest 85 = .ok (.aload_n 0, 1) := by decide +kernel
theorem d_Fra_nearest_86 : decode b_Fra_nearest 86 = .ok (.getfield 16, 3) := by decide +kernel
theorem d_Fra_nearest_89 : decode b_Fra_nearest 89 = .ok (.invokevirtual 37, 3) := by decide +kernel
theorem d_Fra_nearest_92 : decode b_Fra_nearest 92 = .ok (.lload 5, 2) := by decide +kernel
theorem d_Fra_nearest_94 : decode b_Fra_nearest 94 = .ok (.lconst 1, 1) := by decide +kernel
theorem d_Fra_nearest_95 : decode b_Fra_nearest 95 = .ok (.lor, 1) := by decide +kernel
theorem d_Fra_nearest_96 : decode b_Fra_nearest 96 = .ok (.lstore 5, 2) := by decide +kernel
theorem d_Fra_nearest_98 : decode b_Fra_nearest 98 = .ok (.aload_n 0, 1) := by decide +kernel
theorem d_Fra_nearest_99 : decode b_Fra_nearest 99 = .ok (.getfield 10, 3) := by decide +kernel
theorem d_Fra_nearest_102 : decode b_Fra_nearest 102 = .ok (.iconst 2, 1) := by decide +kernel
theorem d_Fra_nearest_103 : decode b_Fra_nearest 103 = .ok (.iconst 0, 1) := by decide +kernel
theorem d_Fra_nearest_104 : decode b_Fra_nearest 104 = .ok (.invokevirtual 41, 3) := by decide +kernel
theorem d_Fra_nearest_107 : decode b_Fra_nearest 107 = .ok (.iinc 7 1, 3) := by decide +kernel
theorem d_Fra_nearest_110 : decode b_Fra_nearest 110 = .ok (.goto (-56), 3) := by decide +kernel
theorem d_Fra_nearest_113 : decode b_Fra_nearest 113 = .ok (.aload_n 1, 1) := by decide +kernel
theorem d_Fra_nearest_114 : decode b_Fra_nearest 114 = .ok (.lload 5, 2) := by decide +kernel
theorem d_Fra_nearest_116 : decode b_Fra_nearest 116 = .ok (.iload_n 2, 1) := by decide +kernel
theorem d_Fra_nearest_117 : decode b_Fra_nearest 117 = .ok (.iload_n 3, 1) := by decide +kernel
theorem d_Fra_nearest_118 : decode b_Fra_nearest 118 = .ok (.iadd, 1) := by decide +kernel
theorem d_Fra_nearest_119 : decode b_Fra_nearest 119 = .ok (.iload 4, 2) := by decide +kernel
theorem d_Fra_nearest_121 : decode b_Fra_nearest 121 = .ok (.iconst 1, 1) := by decide +kernel
theorem d_Fra_nearest_122 : decode b_Fra_nearest 122 = .ok (.isub, 1) := by decide +kernel
theorem d_Fra_nearest_123 : decode b_Fra_nearest 123 = .ok (.isub, 1) := by decide +kernel
theorem d_Fra_nearest_124 : decode b_Fra_nearest 124 = .ok (.aload_n 0, 1) := by decide +kernel
theorem d_Fra_nearest_125 : decode b_Fra_nearest 125 = .ok (.getfield 10, 3) := by decide +kernel
theorem d_Fra_nearest_128 : decode b_Fra_nearest 128 = .ok (.invokevirtual 45, 3) := by decide +kernel
theorem d_Fra_nearest_131 : decode b_Fra_nearest 131 = .ok (.ifCond .ne 7, 3) := by decide +kernel
theorem d_Fra_nearest_134 : decode b_Fra_nearest 134 = .ok (.iconst 1, 1) := by decide +kernel
theorem d_Fra_nearest_135 : decode b_Fra_nearest 135 = .ok (.goto 4, 3) := by decide +kernel
theorem d_Fra_nearest_138 : decode b_Fra_nearest 138 = .ok (.iconst 0, 1) := by decide +kernel
theorem d_Fra_nearest_139 : decode b_Fra_nearest 139 = .ok (.invokevirtual 49, 3) := by decide +kernel
theorem d_Fra_nearest_142 : decode b_Fra_nearest 142 = .ok (.lreturn, 1) := by decide +kernel
theorem d_Fra_init_0 : decode b_Fra_init 0 = .ok (.aload_n 0, 1) := by decide +kernel
theorem d_Fra_init_1 : decode b_Fra_init 1 = .ok (.invokespecial 1, 3) := by decide +kernel
theorem d_Fra_init_4 : decode b_Fra_init 4 = .ok (.aload_n 0, 1) := by decide +kernel
theorem d_Fra_init_5 : decode b_Fra_init 5 = .ok (.new 7, 3) := by decide +kernel
theorem d_Fra_init_8 : decode b_Fra_init 8 = .ok (.dup, 1) := by decide +kernel
theorem d_Fra_init_9 : decode b_Fra_init 9 = .ok (.invokespecial 9, 3) := by decide +kernel
theorem d_Fra_init_12 : decode b_Fra_init 12 = .ok (.putfield 10, 3) := by decide +kernel
theorem d_Fra_init_15 : decode b_Fra_init 15 = .ok (.aload_n 0, 1) := by decide +kernel
theorem d_Fra_init_16 : decode b_Fra_init 16 = .ok (.new 7, 3) := by decide +kernel
theorem d_Fra_init_19 : decode b_Fra_init 19 = .ok (.dup, 1) := by decide +kernel
theorem d_Fra_init_20 : decode b_Fra_init 20 = .ok (.invokespecial 9, 3) := by decide +kernel
theorem d_Fra_init_23 : decode b_Fra_init 23 = .ok (.putfield 16, 3) := by decide +kernel
theorem d_Fra_init_26 : decode b_Fra_init 26 = .ok (.return_, 1) := by decide +kernel
set_option maxHeartbeats 4000000 in
set_option maxRecDepth 100000 in
theorem c_Fra_nearest (l : Launch) (D : va_G) (E : evD) (i : Nat) (hi : i < 2) (h t ta b ba : Nat) (cA cB : ClassId) (f g : Nat → Int32) (n k N Dn : Nat) (wp : Int) (hB : isB f n N) (hO : isB g k Dn) (hNn : N ≠ 0) (hDn : Dn ≠ 0) (hbN : bln N ≤ 2900) (hbD : bln Dn ≤ 2900) (hw1 : -1000000 ≤ wp) (hw2 : wp ≤ 1000000) : Cl (S := ((Nat → Int32) × Nat) × ((Nat → Int32) × Nat)) l y_Fra_nearest (wz y_Fra_nearest b_Fra_nearest 8 (some .long)) ({ frames := 2, cells := 0, slots := 0, locals := 57 }) D vcl (ev1 E) [.ref h, .ref (E.1 i), .int (zI wp)] [(cA, .int), (cB, .int)] [(h, .inr (2, [.ref t, .ref b])), (t, .inr (0, [.ref ta, .int (nI n)])), (ta, .inl (cA, 96, .inl f)), (b, .inr (0, [.ref ba, .int (nI k)])), (ba, .inl (cB, 96, .inl g))] 0 0 (fun (r : Int64) (_ : ((Nat → Int32) × Nat) × ((Nat → Int32) × Nat)) => r = lN (frn (kP i) (kZ i) (kLw i) N Dn wp)) (fun _ => [(cA, .int), (cB, .int)]) (fun u : ((Nat → Int32) × Nat) × ((Nat → Int32) × Nat) => [(h, .inr (2, [.ref t, .ref b])), (t, .inr (0, [.ref ta, .int (nI u.1.2)])), (ta, .inl (cA, 96, .inl u.1.1)), (b, .inr (0, [.ref ba, .int (nI u.2.2)])), (ba, .inl (cB, 96, .inl u.2.1))]) := by
  have hev := ev1_ok E
  unfold Cl
  refine ct_of (y := y_Fra_nearest) (av := [.ref h, .ref (E.1 i), .int (zI wp)]) (cc := b_Fra_nearest) (maxL := 8) (ret := (some .long)) (Qc := fun A => va_Ql (S := ((Nat → Int32) × Nat) × ((Nat → Int32) × Nat)) (fun (r : Int64) (_ : ((Nat → Int32) × Nat) × ((Nat → Int32) × Nat)) => r = lN (frn (kP i) (kZ i) (kLw i) N Dn wp)) (fun u tS => ctB D vcl ((fun _ => [(cA, .int), (cB, .int)]) u) ((fun u : ((Nat → Int32) × Nat) × ((Nat → Int32) × Nat) => [(h, .inr (2, [.ref t, .ref b])), (t, .inr (0, [.ref ta, .int (nI u.1.2)])), (ta, .inl (cA, 96, .inl u.1.1)), (b, .inr (0, [.ref ba, .int (nI u.2.2)])), (ba, .inl (cB, 96, .inl u.2.1))]) u) A tS) A) (by decide) rfl (Nat.le_of_ble_eq_true rfl) ?_
  intro p ee s m below meth cde ls A H locs hx hb hml hrt hlocks hown hin hts hA hP hK hD hS hE hl
  have hown : s.vm.findClass R_Fra = some m.cls := hown
  have hts := wz_g hts
  have hl : lv_has ls 8 [(0, .ref h), (1, .ref (E.1 i)), (2, .int (zI wp))] := hl
  obtain ⟨hk1, hk2, hk3, hk4, hk5, -⟩ := kP_b i hi
  obtain ⟨s1, hs1⟩ : ∃ s1 : Nat, s1 = bln Dn - bln N := ⟨_, rfl⟩
  obtain ⟨s2, hs2⟩ : ∃ s2 : Nat, s2 = bln N - bln Dn := ⟨_, rfl⟩
  have hbl : bln N + s1 = bln Dn + s2 := by omega
  refine lv_aload_n hx hb d_Fra_nearest_0 rfl (lv_at hl 0 rfl) ?_
  refine va_get (D := D) (ci := 2) (v := .ref t) (C := R_Fra) (T := F_Fra) (N := 2) hx hb hts w_Fra hown hK hP 0 rfl rfl 0 (by decide) (hts _ kF_Fra_10) (fun _ h9 => h9) rfl d_Fra_nearest_1 ?_
  refine ca_i [(h, .inr (2, [.ref t, .ref b])), (b, .inr (0, [.ref ba, .int (nI k)])), (ba, .inl (cB, 96, .inl g))] (va_runV (As := []) (rest := []) ⟨hx, hb, hml, hown, hts⟩ (c_Big_bitLength l D E t ta cA f n N hB H.size) (xV 0 hts kC_Big_bitLength kM_Fra_19 kI_Big_bitLength kS_Big_bitLength kN_Big rfl rfl (by decide +kernel) ⟨Nat.le_of_ble_eq_true rfl, Nat.le_of_ble_eq_true rfl⟩) ⟨ct_blind hev, va_recv hK hP (ci := 0) (q0 := 1) rfl rfl, ct_pre hev hP hK hD hS hA hE [1, 2] rfl (by decide) [0] rfl⟩ rfl rfl hl.1 rfl (lv_room (Nat.le_of_ble_eq_true rfl)) d_Fra_nearest_4 ⟨Nat.le_of_ble_eq_true rfl, Nat.le_of_ble_eq_true rfl⟩) hP hD hS hA [1, 2] [0, 3, 4] rfl rfl (by decide) (by decide) (fun rv u H locs hw hP hD hS hK1 => ?_)
  subst hw
  have hP : va_P D vcl [(h, .inr (2, [.ref t, .ref b])), (b, .inr (0, [.ref ba, .int (nI k)])), (ba, .inl (cB, 96, .inl g)), (t, .inr (0, [.ref ta, .int (nI n)])), (ta, .inl (cA, 96, .inl f))] H := hP
  have hD : va_D A [(h, .inr (2, [.ref t, .ref b])), (b, .inr (0, [.ref ba, .int (nI k)])), (ba, .inl (cB, 96, .inl g)), (t, .inr (0, [.ref ta, .int (nI n)])), (ta, .inl (cA, 96, .inl f))] := hD
  refine lv_aload_n hx hb d_Fra_nearest_7 rfl (lv_at hl 0 rfl) ?_
  refine va_get (D := D) (ci := 2) (v := .ref b) (C := R_Fra) (T := F_Fra) (N := 2) hx hb hts w_Fra hown hK hP 0 rfl rfl 1 (by decide) (hts _ kF_Fra_16) (fun _ h9 => h9) rfl d_Fra_nearest_8 ?_
  refine ca_i [(h, .inr (2, [.ref t, .ref b])), (t, .inr (0, [.ref ta, .int (nI n)])), (ta, .inl (cA, 96, .inl f))] (va_runV (As := []) (rest := [.int (nI (bln N))]) ⟨hx, hb, hml, hown, hts⟩ (c_Big_bitLength l D E b ba cB g k Dn hO H.size) (xV 0 hts kC_Big_bitLength kM_Fra_19 kI_Big_bitLength kS_Big_bitLength kN_Big rfl rfl (by decide +kernel) ⟨Nat.le_of_ble_eq_true rfl, Nat.le_of_ble_eq_true rfl⟩) ⟨ct_blind hev, va_recv hK hP (ci := 0) (q0 := 1) rfl rfl, ct_pre hev hP hK hD hS hA hE [1, 2] rfl (by decide) [1] rfl⟩ rfl rfl hl.1 rfl (lv_room (Nat.le_of_ble_eq_true rfl)) d_Fra_nearest_11 ⟨Nat.le_of_ble_eq_true rfl, Nat.le_of_ble_eq_true rfl⟩) hP hD hS hA [1, 2] [0, 3, 4] rfl rfl (by decide) (by decide) (fun rv u H locs hw hP hD hS hK1 => ?_)
  subst hw
  have hP : va_P D vcl [(h, .inr (2, [.ref t, .ref b])), (t, .inr (0, [.ref ta, .int (nI n)])), (ta, .inl (cA, 96, .inl f)), (b, .inr (0, [.ref ba, .int (nI k)])), (ba, .inl (cB, 96, .inl g))] H := hP
  have hD : va_D A [(h, .inr (2, [.ref t, .ref b])), (t, .inr (0, [.ref ta, .int (nI n)])), (ta, .inl (cA, 96, .inl f)), (b, .inr (0, [.ref ba, .int (nI k)])), (ba, .inl (cB, 96, .inl g))] := hD
  refine lv_isub hx hb d_Fra_nearest_14 ?_
  refine tv_i (zI ((s2 : Int) - s1)) (by rw [← zI_nI, ← zI_nI, zI_sub]; congr 1; omega) ?_
  refine lv_istore_n (lv' := [(3, .int (zI ((s2 : Int) - s1))), (0, .ref h), (1, .ref (E.1 i)), (2, .int (zI wp))]) hx hb d_Fra_nearest_15 rfl hl (by decide) rfl (fun ls hl => ?_)
  refine lv_iload_n hx hb d_Fra_nearest_16 rfl (lv_at hl 0 rfl) ?_
  refine lv_if_ge (tgt := 32) hx hb d_Fra_nearest_17 (by decide) (fun c17 => ?_) (fun c17 => ?_)
  · have e17 : 0 ≤ (s2 : Int) - s1 := (zI_le (a := 0) (by omega) (by omega) (by omega) (by omega)).mp c17
    refine lv_aload_n hx hb d_Fra_nearest_32 rfl (lv_at hl 1 rfl) ?_
    refine va_get (D := D) (ci := 2) (v := .ref b) (C := R_Fra) (T := F_Fra) (N := 2) hx hb hts w_Fra hown hK hP 0 rfl rfl 1 (by decide) (hts _ kF_Fra_16) (fun _ h9 => h9) rfl d_Fra_nearest_33 ?_
    refine lv_iload_n hx hb d_Fra_nearest_36 rfl (lv_at hl 0 rfl) ?_
    refine tv_i (nI s2) (by rw [← zI_nI]; congr 1; omega) ?_
    refine ca_v [(h, .inr (2, [.ref t, .ref b])), (t, .inr (0, [.ref ta, .int (nI n)])), (ta, .inl (cA, 96, .inl f))] (va_runV (As := [.int (nI s2)]) (rest := []) ⟨hx, hb, hml, hown, hts⟩ (c_Big_shiftLeft l D E b ba cB g k Dn s2 hO (by omega) (by have := isB_nb hO; omega) H.size) (xV 1 hts kC_Big_shiftLeft kM_Fra_23 kI_Big_shiftLeft kS_Big_shiftLeft kN_Big rfl rfl (by decide +kernel) ⟨Nat.le_of_ble_eq_true rfl, Nat.le_of_ble_eq_true rfl⟩) ⟨ct_blind hev, va_recv hK hP (ci := 0) (q0 := 3) rfl rfl, ct_pre hev hP hK hD hS hA hE [3, 4] rfl (by decide) [1] rfl⟩ rfl rfl hl.1 rfl (lv_room (Nat.le_of_ble_eq_true rfl)) d_Fra_nearest_37 ⟨Nat.le_of_ble_eq_true rfl, Nat.le_of_ble_eq_true rfl⟩) hP hD hS hA [3, 4] [0, 1, 2] rfl rfl (by decide) (by decide) (fun u H locs hw hP hD hS hK1 => ?_)
    obtain ⟨f1, n2⟩ := u
    have hB3 : isB f1 n2 (Dn * 2 ^ s2) := hw
    have hP : va_P D vcl [(h, .inr (2, [.ref t, .ref b])), (t, .inr (0, [.ref ta, .int (nI n)])), (ta, .inl (cA, 96, .inl f)), (b, .inr (0, [.ref ba, .int (nI n2)])), (ba, .inl (cB, 96, .inl f1))] H := hP
    have hD : va_D A [(h, .inr (2, [.ref t, .ref b])), (t, .inr (0, [.ref ta, .int (nI n)])), (ta, .inl (cA, 96, .inl f)), (b, .inr (0, [.ref ba, .int (nI n2)])), (ba, .inl (cB, 96, .inl f1))] := hD
    have hX : isB f n (N * 2 ^ s1) := by rw [show s1 = 0 by omega, Nat.pow_zero, Nat.mul_one]; exact hB
    obtain ⟨hst, hlt0⟩ := fd_start hNn hDn hbl
    have hfitY := pw96 (bl_pow (s := s2) hDn) (by omega)
    refine lv_aload_n hx hb d_Fra_nearest_40 rfl (lv_at hl 2 rfl) ?_
    refine va_getE hx hb hE.2.1 (i := i) hi hS hown (q := kF[0]) (List.getElem_mem _) (hts _ kF_Fra_27) (fun _ h9 => h9) d_Fra_nearest_41 ?_
    refine tv_i (nI (kP i)) (kf_P i hi) ?_
    refine lv_iconst (v := 2) hx hb d_Fra_nearest_44 (by decide) ?_
    refine lv_iadd hx hb d_Fra_nearest_45 ?_
    refine tv_i (nI (kP i + 2)) (nI_add _ 2) ?_
    refine lv_istore (lv' := [(4, .int (nI (kP i + 2))), (3, .int (zI ((s2 : Int) - s1))), (0, .ref h), (1, .ref (E.1 i)), (2, .int (zI wp))]) hx hb d_Fra_nearest_46 hl (by decide) rfl (fun ls hl => ?_)
    refine lv_lconst (v := 0) hx hb d_Fra_nearest_48 (by decide) ?_
    refine tv_l (lN 0) (rfl) ?_
    refine lv_lstore (lv' := [(5, .long (lN 0)), (4, .int (nI (kP i + 2))), (3, .int (zI ((s2 : Int) - s1))), (0, .ref h), (1, .ref (E.1 i)), (2, .int (zI wp))]) hx hb d_Fra_nearest_49 hl (by decide) rfl (fun ls hl => ?_)
    refine lv_iconst (v := 0) hx hb d_Fra_nearest_51 (by decide) ?_
    refine tv_i (nI 0) (rfl) ?_
    refine lv_istore (lv' := [(7, .int (nI 0)), (5, .long (lN 0)), (4, .int (nI (kP i + 2))), (3, .int (zI ((s2 : Int) - s1))), (0, .ref h), (1, .ref (E.1 i)), (2, .int (zI wp))]) hx hb d_Fra_nearest_52 hl (by decide) rfl (fun ls hl => ?_)
    have L54 : ∀ (kk : Nat) (j : Nat) (lead : Nat) (tt : Nat) (ft : Nat → Int32) (nt : Nat), kP i + 2 - j < kk → (j ≤ kP i + 2) → (lead < 2 ^ j) → (N * 2 ^ s1 * 2 ^ j = 2 * (lead * (Dn * 2 ^ s2)) + tt) → (tt < 2 * (Dn * 2 ^ s2)) → (isB ft nt tt) → ∀ (H : Heap) (locs : List Loc) (ls : Array Slot), va_P D vcl [(h, .inr (2, [.ref t, .ref b])), (t, .inr (0, [.ref ta, .int (nI nt)])), (ta, .inl (cA, 96, .inl ft)), (b, .inr (0, [.ref ba, .int (nI n2)])), (ba, .inl (cB, 96, .inl f1))] H → va_D A [(h, .inr (2, [.ref t, .ref b])), (t, .inr (0, [.ref ta, .int (nI nt)])), (ta, .inl (cA, 96, .inl ft)), (b, .inr (0, [.ref ba, .int (nI n2)])), (ba, .inl (cB, 96, .inl f1))] → va_S A s.heap H locs → lv_has ls 8 [(0, .ref h), (1, .ref (E.1 i)), (2, .int (zI wp)), (3, .int (zI ((s2 : Int) - s1))), (4, .int (nI (kP i + 2))), (5, .long (lN lead)), (7, .int (nI j))] → W p l ee ({ frames := 2, cells := 0, slots := 0, locals := 57 }) s m ([.ref h, .ref (E.1 i), .int (zI wp)] : List Value).toArray below meth cde H locs 0 0 (MQ below (va_Ql (S := ((Nat → Int32) × Nat) × ((Nat → Int32) × Nat)) (fun (r : Int64) (_ : ((Nat → Int32) × Nat) × ((Nat → Int32) × Nat)) => r = lN (frn (kP i) (kZ i) (kLw i) N Dn wp)) (fun u tS => ctB D vcl ((fun _ => [(cA, .int), (cB, .int)]) u) ((fun u : ((Nat → Int32) × Nat) × ((Nat → Int32) × Nat) => [(h, .inr (2, [.ref t, .ref b])), (t, .inr (0, [.ref ta, .int (nI u.1.2)])), (ta, .inl (cA, 96, .inl u.1.1)), (b, .inr (0, [.ref ba, .int (nI u.2.2)])), (ba, .inl (cB, 96, .inl u.2.1))]) u) A tS) A) ([.ref h, .ref (E.1 i), .int (zI wp)] : List Value).toArray s 0 0 A) (F0 m 54 ls []) := by
      intro kk
      induction kk with
      | zero => intro j lead tt ft nt hmz; exact absurd hmz (Nat.not_lt_zero _)
      | succ kk ih =>
        intro j lead tt ft nt hmz hj hld hv htt hT H locs ls hP hD hS hl
        refine lv_iload hx hb d_Fra_nearest_54 (lv_at hl 6 rfl) ?_
        refine lv_iload hx hb d_Fra_nearest_56 (lv_at hl 4 rfl) ?_
        refine lv_icmp_ge (tgt := 113) hx hb d_Fra_nearest_58 (by decide) (fun c58 => ?_) (fun c58 => ?_)
        · have e58 : j = kP i + 2 := by have := (nI_leI (by omega) (by omega)).mp c58; omega
          rw [e58] at hv hld
          refine lv_aload_n hx hb d_Fra_nearest_113 rfl (lv_at hl 1 rfl) ?_
          refine lv_lload hx hb d_Fra_nearest_114 (lv_at hl 5 rfl) ?_
          refine lv_iload_n hx hb d_Fra_nearest_116 rfl (lv_at hl 2 rfl) ?_
          refine lv_iload_n hx hb d_Fra_nearest_117 rfl (lv_at hl 3 rfl) ?_
          refine lv_iadd hx hb d_Fra_nearest_118 ?_
          refine lv_iload hx hb d_Fra_nearest_119 (lv_at hl 4 rfl) ?_
          refine lv_iconst (v := 1) hx hb d_Fra_nearest_121 (by decide) ?_
          refine lv_isub hx hb d_Fra_nearest_122 ?_
          refine lv_isub hx hb d_Fra_nearest_123 ?_
          refine tv_i (zI (wp + ((s2 : Int) - s1) - ((kP i : Int) + 1))) (by show zI wp + zI _ - (nI (kP i + 2) - nI 1) = _; rw [pk_sub (by omega), ← zI_nI, zI_add, zI_sub]; exact congrArg zI (by omega)) ?_
          refine lv_aload_n hx hb d_Fra_nearest_124 rfl (lv_at hl 0 rfl) ?_
          refine va_get (D := D) (ci := 2) (v := .ref t) (C := R_Fra) (T := F_Fra) (N := 2) hx hb hts w_Fra hown hK hP 0 rfl rfl 0 (by decide) (hts _ kF_Fra_10) (fun _ h9 => h9) rfl d_Fra_nearest_125 ?_
          refine ca_i [(h, .inr (2, [.ref t, .ref b])), (b, .inr (0, [.ref ba, .int (nI n2)])), (ba, .inl (cB, 96, .inl f1))] (va_runV (As := []) (rest := [.int (zI (wp + ((s2 : Int) - s1) - ((kP i : Int) + 1))), .long (lN lead), .ref (E.1 i)]) ⟨hx, hb, hml, hown, hts⟩ (c_Big_isZero l D E t ta cA ft nt tt hT H.size) (xV 0 hts kC_Big_isZero kM_Fra_45 kI_Big_isZero kS_Big_isZero kN_Big rfl rfl (by decide +kernel) ⟨Nat.le_of_ble_eq_true rfl, Nat.le_of_ble_eq_true rfl⟩) ⟨ct_blind hev, va_recv hK hP (ci := 0) (q0 := 1) rfl rfl, ct_pre hev hP hK hD hS hA hE [1, 2] rfl (by decide) [0] rfl⟩ rfl rfl hl.1 rfl (lv_room (Nat.le_of_ble_eq_true rfl)) d_Fra_nearest_128 ⟨Nat.le_of_ble_eq_true rfl, Nat.le_of_ble_eq_true rfl⟩) hP hD hS hA [1, 2] [0, 3, 4] rfl rfl (by decide) (by decide) (fun rv u H locs hw hP hD hS hK1 => ?_)
          have hP : va_P D vcl [(h, .inr (2, [.ref t, .ref b])), (b, .inr (0, [.ref ba, .int (nI n2)])), (ba, .inl (cB, 96, .inl f1)), (t, .inr (0, [.ref ta, .int (nI nt)])), (ta, .inl (cA, 96, .inl ft))] H := hP
          have hD : va_D A [(h, .inr (2, [.ref t, .ref b])), (b, .inr (0, [.ref ba, .int (nI n2)])), (ba, .inl (cB, 96, .inl f1)), (t, .inr (0, [.ref ta, .int (nI nt)])), (ta, .inl (cA, 96, .inl ft))] := hD
          refine lv_if_ne (tgt := 138) hx hb d_Fra_nearest_131 (by decide) (fun c131 => ?_) (fun c131 => ?_)
          · have e131 : tt = 0 := hw.2.mp (hw.1.elim id (fun z => absurd z c131))
            refine lv_iconst (v := 0) hx hb d_Fra_nearest_138 (by decide) ?_
            refine tv_i (bI false) (rfl) ?_
            refine ca_l [(h, .inr (2, [.ref t, .ref b])), (b, .inr (0, [.ref ba, .int (nI n2)])), (ba, .inl (cB, 96, .inl f1)), (t, .inr (0, [.ref ta, .int (nI nt)])), (ta, .inl (cA, 96, .inl ft))] (va_runV (As := [.long (lN lead), .int (zI (wp + ((s2 : Int) - s1) - ((kP i : Int) + 1))), .int (bI false)]) (rest := []) ⟨hx, hb, hml, hown, hts⟩ (c_Kin_nearest l D E i hi lead (wp + ((s2 : Int) - s1) - ((kP i : Int) + 1)) false (by have h9 : 2 ^ (kP i + 2) ≤ 2 ^ 55 := two_pow_le (by omega); omega) (by omega) (by omega) H.size) (xV 3 hts kC_Kin_nearest kM_Fra_49 kI_Kin_nearest kS_Kin_nearest kN_Kin rfl rfl (by decide +kernel) ⟨Nat.le_of_ble_eq_true rfl, Nat.le_of_ble_eq_true rfl⟩) ⟨ct_blind hev, va_recvE (i := i) hE.2.1 hi hS, ct_pre hev hP hK hD hS hA hE [] rfl (by decide) [] rfl⟩ rfl rfl hl.1 rfl (lv_room (Nat.le_of_ble_eq_true rfl)) d_Fra_nearest_139 ⟨Nat.le_of_ble_eq_true rfl, Nat.le_of_ble_eq_true rfl⟩) hP hD hS hA [] [0, 1, 2, 3, 4] rfl rfl (by decide) (by decide) (fun rv u H locs hw hP hD hS hK1 => ?_)
            subst hw
            have hP : va_P D vcl [(h, .inr (2, [.ref t, .ref b])), (b, .inr (0, [.ref ba, .int (nI n2)])), (ba, .inl (cB, 96, .inl f1)), (t, .inr (0, [.ref ta, .int (nI nt)])), (ta, .inl (cA, 96, .inl ft))] H := hP
            have hD : va_D A [(h, .inr (2, [.ref t, .ref b])), (b, .inr (0, [.ref ba, .int (nI n2)])), (ba, .inl (cB, 96, .inl f1)), (t, .inr (0, [.ref ta, .int (nI nt)])), (ta, .inl (cA, 96, .inl ft))] := hD
            exact rt_l hx hb hrt hlocks (((ft, nt), (f1, n2))) (by rw [(fd_end (P := kP i) (Z := kZ i) (Lw := kLw i) (w := wp) (more := false) hNn hDn hbl hv htt (iff_of_false (by decide) (fun z => z e131))).1]) (hP.sub [0, 3, 4, 1, 2] rfl) (hK.sub [0, 1] rfl) (hD.sub [0, 3, 4, 1, 2] (by decide) rfl) hS d_Fra_nearest_142
          · have e131 : tt ≠ 0 := fun z => by have := hw.2.mpr z; rw [c131] at this; exact absurd this (by decide)
            refine lv_iconst (v := 1) hx hb d_Fra_nearest_134 (by decide) ?_
            refine tv_i (bI true) (rfl) ?_
            refine lv_goto (tgt := 139) hx hb d_Fra_nearest_135 (by decide) ?_
            refine ca_l [(h, .inr (2, [.ref t, .ref b])), (b, .inr (0, [.ref ba, .int (nI n2)])), (ba, .inl (cB, 96, .inl f1)), (t, .inr (0, [.ref ta, .int (nI nt)])), (ta, .inl (cA, 96, .inl ft))] (va_runV (As := [.long (lN lead), .int (zI (wp + ((s2 : Int) - s1) - ((kP i : Int) + 1))), .int (bI true)]) (rest := []) ⟨hx, hb, hml, hown, hts⟩ (c_Kin_nearest l D E i hi lead (wp + ((s2 : Int) - s1) - ((kP i : Int) + 1)) true (by have h9 : 2 ^ (kP i + 2) ≤ 2 ^ 55 := two_pow_le (by omega); omega) (by omega) (by omega) H.size) (xV 3 hts kC_Kin_nearest kM_Fra_49 kI_Kin_nearest kS_Kin_nearest kN_Kin rfl rfl (by decide +kernel) ⟨Nat.le_of_ble_eq_true rfl, Nat.le_of_ble_eq_true rfl⟩) ⟨ct_blind hev, va_recvE (i := i) hE.2.1 hi hS, ct_pre hev hP hK hD hS hA hE [] rfl (by decide) [] rfl⟩ rfl rfl hl.1 rfl (lv_room (Nat.le_of_ble_eq_true rfl)) d_Fra_nearest_139 ⟨Nat.le_of_ble_eq_true rfl, Nat.le_of_ble_eq_true rfl⟩) hP hD hS hA [] [0, 1, 2, 3, 4] rfl rfl (by decide) (by decide) (fun rv u H locs hw hP hD hS hK1 => ?_)
            subst hw
            have hP : va_P D vcl [(h, .inr (2, [.ref t, .ref b])), (b, .inr (0, [.ref ba, .int (nI n2)])), (ba, .inl (cB, 96, .inl f1)), (t, .inr (0, [.ref ta, .int (nI nt)])), (ta, .inl (cA, 96, .inl ft))] H := hP
            have hD : va_D A [(h, .inr (2, [.ref t, .ref b])), (b, .inr (0, [.ref ba, .int (nI n2)])), (ba, .inl (cB, 96, .inl f1)), (t, .inr (0, [.ref ta, .int (nI nt)])), (ta, .inl (cA, 96, .inl ft))] := hD
            exact rt_l hx hb hrt hlocks (((ft, nt), (f1, n2))) (by rw [(fd_end (P := kP i) (Z := kZ i) (Lw := kLw i) (w := wp) (more := true) hNn hDn hbl hv htt (iff_of_true rfl e131)).1]) (hP.sub [0, 3, 4, 1, 2] rfl) (hK.sub [0, 1] rfl) (hD.sub [0, 3, 4, 1, 2] (by decide) rfl) hS d_Fra_nearest_142
        · have e58 : j < kP i + 2 := Nat.lt_of_not_le (fun z => c58 ((nI_leI (by omega) (by omega)).mpr z))
          have hl55 : 2 ^ j ≤ 2 ^ 55 := two_pow_le (by omega)
          refine lv_lload hx hb d_Fra_nearest_61 (lv_at hl 5 rfl) ?_
          refine lv_iconst (v := 1) hx hb d_Fra_nearest_63 (by decide) ?_
          refine lv_lshl (v := lN (lead * 2)) hx hb d_Fra_nearest_64 (wb_shl _ (k := 1) (by decide)) ?_
          refine lv_lstore (lv' := [(5, .long (lN (lead * 2))), (0, .ref h), (1, .ref (E.1 i)), (2, .int (zI wp)), (3, .int (zI ((s2 : Int) - s1))), (4, .int (nI (kP i + 2))), (7, .int (nI j))]) hx hb d_Fra_nearest_65 hl (by decide) rfl (fun ls hl => ?_)
          refine lv_aload_n hx hb d_Fra_nearest_67 rfl (lv_at hl 1 rfl) ?_
          refine va_get (D := D) (ci := 2) (v := .ref t) (C := R_Fra) (T := F_Fra) (N := 2) hx hb hts w_Fra hown hK hP 0 rfl rfl 0 (by decide) (hts _ kF_Fra_10) (fun _ h9 => h9) rfl d_Fra_nearest_68 ?_
          refine lv_aload_n hx hb d_Fra_nearest_71 rfl (lv_at hl 1 rfl) ?_
          refine va_get (D := D) (ci := 2) (v := .ref b) (C := R_Fra) (T := F_Fra) (N := 2) hx hb hts w_Fra hown hK hP 0 rfl rfl 1 (by decide) (hts _ kF_Fra_16) (fun _ h9 => h9) rfl d_Fra_nearest_72 ?_
          refine ca_i [(h, .inr (2, [.ref t, .ref b]))] (va_runV (As := [.ref b]) (rest := []) ⟨hx, hb, hml, hown, hts⟩ (c_Big_isAtLeast l D E t ta b ba cA cB ft f1 nt n2 tt (Dn * 2 ^ s2) hT hB3 H.size) (xV 1 hts kC_Big_isAtLeast kM_Fra_33 kI_Big_isAtLeast kS_Big_isAtLeast kN_Big rfl rfl (by decide +kernel) ⟨Nat.le_of_ble_eq_true rfl, Nat.le_of_ble_eq_true rfl⟩) ⟨ct_blind hev, va_recv hK hP (ci := 0) (q0 := 1) rfl rfl, ct_pre hev hP hK hD hS hA hE [1, 2, 3, 4] rfl (by decide) [0, 1] rfl⟩ rfl rfl hl.1 rfl (lv_room (Nat.le_of_ble_eq_true rfl)) d_Fra_nearest_75 ⟨Nat.le_of_ble_eq_true rfl, Nat.le_of_ble_eq_true rfl⟩) hP hD hS hA [1, 2, 3, 4] [0] rfl rfl (by decide) (by decide) (fun rv u H locs hw hP hD hS hK1 => ?_)
          have hP : va_P D vcl [(h, .inr (2, [.ref t, .ref b])), (t, .inr (0, [.ref ta, .int (nI nt)])), (ta, .inl (cA, 96, .inl ft)), (b, .inr (0, [.ref ba, .int (nI n2)])), (ba, .inl (cB, 96, .inl f1))] H := hP
          have hD : va_D A [(h, .inr (2, [.ref t, .ref b])), (t, .inr (0, [.ref ta, .int (nI nt)])), (ta, .inl (cA, 96, .inl ft)), (b, .inr (0, [.ref ba, .int (nI n2)])), (ba, .inl (cB, 96, .inl f1))] := hD
          refine lv_if_eq (tgt := 98) hx hb d_Fra_nearest_78 (by decide) (fun c78 => ?_) (fun c78 => ?_)
          · have e78 : ¬ Dn * 2 ^ s2 ≤ tt := fun z => by have := hw.2.mpr z; rw [c78] at this; exact absurd this (by decide)
            refine lv_aload_n hx hb d_Fra_nearest_98 rfl (lv_at hl 1 rfl) ?_
            refine va_get (D := D) (ci := 2) (v := .ref t) (C := R_Fra) (T := F_Fra) (N := 2) hx hb hts w_Fra hown hK hP 0 rfl rfl 0 (by decide) (hts _ kF_Fra_10) (fun _ h9 => h9) rfl d_Fra_nearest_99 ?_
            refine lv_iconst (v := 2) hx hb d_Fra_nearest_102 (by decide) ?_
            refine tv_i (nI 2) (rfl) ?_
            refine lv_iconst (v := 0) hx hb d_Fra_nearest_103 (by decide) ?_
            refine tv_i (nI 0) (rfl) ?_
            refine ca_v [(h, .inr (2, [.ref t, .ref b])), (b, .inr (0, [.ref ba, .int (nI n2)])), (ba, .inl (cB, 96, .inl f1))] (va_runV (As := [.int (nI 2), .int (nI 0)]) (rest := []) ⟨hx, hb, hml, hown, hts⟩ (c_Big_timesPlus l D E t ta cA ft nt tt 2 0 hT (by decide) (by decide) (by decide) (by omega) H.size) (xV 2 hts kC_Big_timesPlus kM_Fra_41 kI_Big_timesPlus kS_Big_timesPlus kN_Big rfl rfl (by decide +kernel) ⟨Nat.le_of_ble_eq_true rfl, Nat.le_of_ble_eq_true rfl⟩) ⟨ct_blind hev, va_recv hK hP (ci := 0) (q0 := 1) rfl rfl, ct_pre hev hP hK hD hS hA hE [1, 2] rfl (by decide) [0] rfl⟩ rfl rfl hl.1 rfl (lv_room (Nat.le_of_ble_eq_true rfl)) d_Fra_nearest_104 ⟨Nat.le_of_ble_eq_true rfl, Nat.le_of_ble_eq_true rfl⟩) hP hD hS hA [1, 2] [0, 3, 4] rfl rfl (by decide) (by decide) (fun u H locs hw hP hD hS hK1 => ?_)
            obtain ⟨f4, n5⟩ := u
            have hB6 : isB f4 n5 (tt * 2) := hw
            have hP : va_P D vcl [(h, .inr (2, [.ref t, .ref b])), (b, .inr (0, [.ref ba, .int (nI n2)])), (ba, .inl (cB, 96, .inl f1)), (t, .inr (0, [.ref ta, .int (nI n5)])), (ta, .inl (cA, 96, .inl f4))] H := hP
            have hD : va_D A [(h, .inr (2, [.ref t, .ref b])), (b, .inr (0, [.ref ba, .int (nI n2)])), (ba, .inl (cB, 96, .inl f1)), (t, .inr (0, [.ref ta, .int (nI n5)])), (ta, .inl (cA, 96, .inl f4))] := hD
            refine lv_iinc (v := nI (j + 1)) (lv' := [(7, .int (nI (j + 1))), (5, .long (lN (lead * 2))), (0, .ref h), (1, .ref (E.1 i)), (2, .int (zI wp)), (3, .int (zI ((s2 : Int) - s1))), (4, .int (nI (kP i + 2)))]) hx hb d_Fra_nearest_107 hl (k := 6) rfl (nI_1 j) (by decide) rfl (fun ls hl => ?_)
            refine lv_goto (tgt := 54) hx hb d_Fra_nearest_110 (by decide) ?_
            exact ih (j + 1) (lead * 2) (tt * 2) f4 n5 (by omega) (by omega) (by rw [Nat.pow_succ]; omega) (by have h9 := ((fd_step hv htt).2 e78).1; rw [Nat.mul_comm lead 2]; exact h9) (((fd_step hv htt).2 e78).2) (hB6) _ _ _ (hP.sub [0, 3, 4, 1, 2] rfl) (hD.sub [0, 3, 4, 1, 2] (by decide) rfl) hS (lv_sub hl [2, 3, 4, 5, 6, 1, 0] rfl)
          · have e78 : Dn * 2 ^ s2 ≤ tt := hw.2.mp (hw.1.elim id (fun z => absurd z c78))
            refine lv_aload_n hx hb d_Fra_nearest_81 rfl (lv_at hl 1 rfl) ?_
            refine va_get (D := D) (ci := 2) (v := .ref t) (C := R_Fra) (T := F_Fra) (N := 2) hx hb hts w_Fra hown hK hP 0 rfl rfl 0 (by decide) (hts _ kF_Fra_10) (fun _ h9 => h9) rfl d_Fra_nearest_82 ?_
            refine lv_aload_n hx hb d_Fra_nearest_85 rfl (lv_at hl 1 rfl) ?_
            refine va_get (D := D) (ci := 2) (v := .ref b) (C := R_Fra) (T := F_Fra) (N := 2) hx hb hts w_Fra hown hK hP 0 rfl rfl 1 (by decide) (hts _ kF_Fra_16) (fun _ h9 => h9) rfl d_Fra_nearest_86 ?_
            refine ca_v [(h, .inr (2, [.ref t, .ref b]))] (va_runV (As := [.ref b]) (rest := []) ⟨hx, hb, hml, hown, hts⟩ (c_Big_subtract l D E t ta b ba cA cB ft f1 nt n2 tt (Dn * 2 ^ s2) hT hB3 (e78) H.size) (xV 1 hts kC_Big_subtract kM_Fra_37 kI_Big_subtract kS_Big_subtract kN_Big rfl rfl (by decide +kernel) ⟨Nat.le_of_ble_eq_true rfl, Nat.le_of_ble_eq_true rfl⟩) ⟨ct_blind hev, va_recv hK hP (ci := 0) (q0 := 1) rfl rfl, ct_pre hev hP hK hD hS hA hE [1, 2, 3, 4] rfl (by decide) [0, 1] rfl⟩ rfl rfl hl.1 rfl (lv_room (Nat.le_of_ble_eq_true rfl)) d_Fra_nearest_89 ⟨Nat.le_of_ble_eq_true rfl, Nat.le_of_ble_eq_true rfl⟩) hP hD hS hA [1, 2, 3, 4] [0] rfl rfl (by decide) (by decide) (fun u H locs hw hP hD hS hK1 => ?_)
            obtain ⟨f7, n8⟩ := u
            have hB9 : isB f7 n8 (tt - (Dn * 2 ^ s2)) := hw
            have hP : va_P D vcl [(h, .inr (2, [.ref t, .ref b])), (t, .inr (0, [.ref ta, .int (nI n8)])), (ta, .inl (cA, 96, .inl f7)), (b, .inr (0, [.ref ba, .int (nI n2)])), (ba, .inl (cB, 96, .inl f1))] H := hP
            have hD : va_D A [(h, .inr (2, [.ref t, .ref b])), (t, .inr (0, [.ref ta, .int (nI n8)])), (ta, .inl (cA, 96, .inl f7)), (b, .inr (0, [.ref ba, .int (nI n2)])), (ba, .inl (cB, 96, .inl f1))] := hD
            refine lv_lload hx hb d_Fra_nearest_92 (lv_at hl 0 rfl) ?_
            refine lv_lconst (v := 1) hx hb d_Fra_nearest_94 (by decide) ?_
            refine lv_lor hx hb d_Fra_nearest_95 ?_
            refine tv_l (lN (2 * lead + 1)) (l1_or (by omega)) ?_
            refine lv_lstore (lv' := [(5, .long (lN (2 * lead + 1))), (0, .ref h), (1, .ref (E.1 i)), (2, .int (zI wp)), (3, .int (zI ((s2 : Int) - s1))), (4, .int (nI (kP i + 2))), (7, .int (nI j))]) hx hb d_Fra_nearest_96 hl (by decide) rfl (fun ls hl => ?_)
            refine lv_aload_n hx hb d_Fra_nearest_98 rfl (lv_at hl 1 rfl) ?_
            refine va_get (D := D) (ci := 2) (v := .ref t) (C := R_Fra) (T := F_Fra) (N := 2) hx hb hts w_Fra hown hK hP 0 rfl rfl 0 (by decide) (hts _ kF_Fra_10) (fun _ h9 => h9) rfl d_Fra_nearest_99 ?_
            refine lv_iconst (v := 2) hx hb d_Fra_nearest_102 (by decide) ?_
            refine tv_i (nI 2) (rfl) ?_
            refine lv_iconst (v := 0) hx hb d_Fra_nearest_103 (by decide) ?_
            refine tv_i (nI 0) (rfl) ?_
            refine ca_v [(h, .inr (2, [.ref t, .ref b])), (b, .inr (0, [.ref ba, .int (nI n2)])), (ba, .inl (cB, 96, .inl f1))] (va_runV (As := [.int (nI 2), .int (nI 0)]) (rest := []) ⟨hx, hb, hml, hown, hts⟩ (c_Big_timesPlus l D E t ta cA f7 n8 (tt - (Dn * 2 ^ s2)) 2 0 hB9 (by decide) (by decide) (by decide) (by omega) H.size) (xV 2 hts kC_Big_timesPlus kM_Fra_41 kI_Big_timesPlus kS_Big_timesPlus kN_Big rfl rfl (by decide +kernel) ⟨Nat.le_of_ble_eq_true rfl, Nat.le_of_ble_eq_true rfl⟩) ⟨ct_blind hev, va_recv hK hP (ci := 0) (q0 := 1) rfl rfl, ct_pre hev hP hK hD hS hA hE [1, 2] rfl (by decide) [0] rfl⟩ rfl rfl hl.1 rfl (lv_room (Nat.le_of_ble_eq_true rfl)) d_Fra_nearest_104 ⟨Nat.le_of_ble_eq_true rfl, Nat.le_of_ble_eq_true rfl⟩) hP hD hS hA [1, 2] [0, 3, 4] rfl rfl (by decide) (by decide) (fun u H locs hw hP hD hS hK1 => ?_)
            obtain ⟨f10, n11⟩ := u
            have hB12 : isB f10 n11 ((tt - Dn * 2 ^ s2) * 2) := hw
            have hP : va_P D vcl [(h, .inr (2, [.ref t, .ref b])), (b, .inr (0, [.ref ba, .int (nI n2)])), (ba, .inl (cB, 96, .inl f1)), (t, .inr (0, [.ref ta, .int (nI n11)])), (ta, .inl (cA, 96, .inl f10))] H := hP
            have hD : va_D A [(h, .inr (2, [.ref t, .ref b])), (b, .inr (0, [.ref ba, .int (nI n2)])), (ba, .inl (cB, 96, .inl f1)), (t, .inr (0, [.ref ta, .int (nI n11)])), (ta, .inl (cA, 96, .inl f10))] := hD
            refine lv_iinc (v := nI (j + 1)) (lv' := [(7, .int (nI (j + 1))), (5, .long (lN (2 * lead + 1))), (0, .ref h), (1, .ref (E.1 i)), (2, .int (zI wp)), (3, .int (zI ((s2 : Int) - s1))), (4, .int (nI (kP i + 2)))]) hx hb d_Fra_nearest_107 hl (k := 6) rfl (nI_1 j) (by decide) rfl (fun ls hl => ?_)
            refine lv_goto (tgt := 54) hx hb d_Fra_nearest_110 (by decide) ?_
            exact ih (j + 1) (2 * lead + 1) ((tt - Dn * 2 ^ s2) * 2) f10 n11 (by omega) (by omega) (by rw [Nat.pow_succ]; omega) (((fd_step hv htt).1 e78).1) (((fd_step hv htt).1 e78).2) (hB12) _ _ _ (hP.sub [0, 3, 4, 1, 2] rfl) (hD.sub [0, 3, 4, 1, 2] (by decide) rfl) hS (lv_sub hl [2, 3, 4, 5, 6, 1, 0] rfl)
    exact L54 (kP i + 3) 0 0 (N * 2 ^ s1) f n (by omega) (Nat.zero_le _) (by decide) (hst) (hlt0) (hX) _ _ _ (hP.sub [0, 1, 2, 3, 4] rfl) (hD.sub [0, 1, 2, 3, 4] (by decide) rfl) hS (lv_sub hl [4, 5, 6, 3, 2, 1, 0] rfl)
  · have e17 : ¬ 0 ≤ (s2 : Int) - s1 := fun z => c17 ((zI_le (a := 0) (by omega) (by omega) (by omega) (by omega)).mpr z)
    refine lv_aload_n hx hb d_Fra_nearest_20 rfl (lv_at hl 1 rfl) ?_
    refine va_get (D := D) (ci := 2) (v := .ref t) (C := R_Fra) (T := F_Fra) (N := 2) hx hb hts w_Fra hown hK hP 0 rfl rfl 0 (by decide) (hts _ kF_Fra_10) (fun _ h9 => h9) rfl d_Fra_nearest_21 ?_
    refine lv_iload_n hx hb d_Fra_nearest_24 rfl (lv_at hl 0 rfl) ?_
    refine lv_ineg hx hb d_Fra_nearest_25 ?_
    refine tv_i (nI s1) (by rw [zI_neg, ← zI_nI]; congr 1; omega) ?_
    refine ca_v [(h, .inr (2, [.ref t, .ref b])), (b, .inr (0, [.ref ba, .int (nI k)])), (ba, .inl (cB, 96, .inl g))] (va_runV (As := [.int (nI s1)]) (rest := []) ⟨hx, hb, hml, hown, hts⟩ (c_Big_shiftLeft l D E t ta cA f n N s1 hB (by omega) (by have := isB_nb hB; omega) H.size) (xV 1 hts kC_Big_shiftLeft kM_Fra_23 kI_Big_shiftLeft kS_Big_shiftLeft kN_Big rfl rfl (by decide +kernel) ⟨Nat.le_of_ble_eq_true rfl, Nat.le_of_ble_eq_true rfl⟩) ⟨ct_blind hev, va_recv hK hP (ci := 0) (q0 := 1) rfl rfl, ct_pre hev hP hK hD hS hA hE [1, 2] rfl (by decide) [0] rfl⟩ rfl rfl hl.1 rfl (lv_room (Nat.le_of_ble_eq_true rfl)) d_Fra_nearest_26 ⟨Nat.le_of_ble_eq_true rfl, Nat.le_of_ble_eq_true rfl⟩) hP hD hS hA [1, 2] [0, 3, 4] rfl rfl (by decide) (by decide) (fun u H locs hw hP hD hS hK1 => ?_)
    obtain ⟨f13, n14⟩ := u
    have hB15 : isB f13 n14 (N * 2 ^ s1) := hw
    have hP : va_P D vcl [(h, .inr (2, [.ref t, .ref b])), (b, .inr (0, [.ref ba, .int (nI k)])), (ba, .inl (cB, 96, .inl g)), (t, .inr (0, [.ref ta, .int (nI n14)])), (ta, .inl (cA, 96, .inl f13))] H := hP
    have hD : va_D A [(h, .inr (2, [.ref t, .ref b])), (b, .inr (0, [.ref ba, .int (nI k)])), (ba, .inl (cB, 96, .inl g)), (t, .inr (0, [.ref ta, .int (nI n14)])), (ta, .inl (cA, 96, .inl f13))] := hD
    refine lv_goto (tgt := 40) hx hb d_Fra_nearest_29 (by decide) ?_
    have hY : isB g k (Dn * 2 ^ s2) := by rw [show s2 = 0 by omega, Nat.pow_zero, Nat.mul_one]; exact hO
    obtain ⟨hst, hlt0⟩ := fd_start hNn hDn hbl
    have hfitY := pw96 (bl_pow (s := s2) hDn) (by omega)
    refine lv_aload_n hx hb d_Fra_nearest_40 rfl (lv_at hl 2 rfl) ?_
    refine va_getE hx hb hE.2.1 (i := i) hi hS hown (q := kF[0]) (List.getElem_mem _) (hts _ kF_Fra_27) (fun _ h9 => h9) d_Fra_nearest_41 ?_
    refine tv_i (nI (kP i)) (kf_P i hi) ?_
    refine lv_iconst (v := 2) hx hb d_Fra_nearest_44 (by decide) ?_
    refine lv_iadd hx hb d_Fra_nearest_45 ?_
    refine tv_i (nI (kP i + 2)) (nI_add _ 2) ?_
    refine lv_istore (lv' := [(4, .int (nI (kP i + 2))), (3, .int (zI ((s2 : Int) - s1))), (0, .ref h), (1, .ref (E.1 i)), (2, .int (zI wp))]) hx hb d_Fra_nearest_46 hl (by decide) rfl (fun ls hl => ?_)
    refine lv_lconst (v := 0) hx hb d_Fra_nearest_48 (by decide) ?_
    refine tv_l (lN 0) (rfl) ?_
    refine lv_lstore (lv' := [(5, .long (lN 0)), (4, .int (nI (kP i + 2))), (3, .int (zI ((s2 : Int) - s1))), (0, .ref h), (1, .ref (E.1 i)), (2, .int (zI wp))]) hx hb d_Fra_nearest_49 hl (by decide) rfl (fun ls hl => ?_)
    refine lv_iconst (v := 0) hx hb d_Fra_nearest_51 (by decide) ?_
    refine tv_i (nI 0) (rfl) ?_
    refine lv_istore (lv' := [(7, .int (nI 0)), (5, .long (lN 0)), (4, .int (nI (kP i + 2))), (3, .int (zI ((s2 : Int) - s1))), (0, .ref h), (1, .ref (E.1 i)), (2, .int (zI wp))]) hx hb d_Fra_nearest_52 hl (by decide) rfl (fun ls hl => ?_)
    have L54 : ∀ (kk : Nat) (j : Nat) (lead : Nat) (tt : Nat) (ft : Nat → Int32) (nt : Nat), kP i + 2 - j < kk → (j ≤ kP i + 2) → (lead < 2 ^ j) → (N * 2 ^ s1 * 2 ^ j = 2 * (lead * (Dn * 2 ^ s2)) + tt) → (tt < 2 * (Dn * 2 ^ s2)) → (isB ft nt tt) → ∀ (H : Heap) (locs : List Loc) (ls : Array Slot), va_P D vcl [(h, .inr (2, [.ref t, .ref b])), (t, .inr (0, [.ref ta, .int (nI nt)])), (ta, .inl (cA, 96, .inl ft)), (b, .inr (0, [.ref ba, .int (nI k)])), (ba, .inl (cB, 96, .inl g))] H → va_D A [(h, .inr (2, [.ref t, .ref b])), (t, .inr (0, [.ref ta, .int (nI nt)])), (ta, .inl (cA, 96, .inl ft)), (b, .inr (0, [.ref ba, .int (nI k)])), (ba, .inl (cB, 96, .inl g))] → va_S A s.heap H locs → lv_has ls 8 [(0, .ref h), (1, .ref (E.1 i)), (2, .int (zI wp)), (3, .int (zI ((s2 : Int) - s1))), (4, .int (nI (kP i + 2))), (5, .long (lN lead)), (7, .int (nI j))] → W p l ee ({ frames := 2, cells := 0, slots := 0, locals := 57 }) s m ([.ref h, .ref (E.1 i), .int (zI wp)] : List Value).toArray below meth cde H locs 0 0 (MQ below (va_Ql (S := ((Nat → Int32) × Nat) × ((Nat → Int32) × Nat)) (fun (r : Int64) (_ : ((Nat → Int32) × Nat) × ((Nat → Int32) × Nat)) => r = lN (frn (kP i) (kZ i) (kLw i) N Dn wp)) (fun u tS => ctB D vcl ((fun _ => [(cA, .int), (cB, .int)]) u) ((fun u : ((Nat → Int32) × Nat) × ((Nat → Int32) × Nat) => [(h, .inr (2, [.ref t, .ref b])), (t, .inr (0, [.ref ta, .int (nI u.1.2)])), (ta, .inl (cA, 96, .inl u.1.1)), (b, .inr (0, [.ref ba, .int (nI u.2.2)])), (ba, .inl (cB, 96, .inl u.2.1))]) u) A tS) A) ([.ref h, .ref (E.1 i), .int (zI wp)] : List Value).toArray s 0 0 A) (F0 m 54 ls []) := by
      intro kk
      induction kk with
      | zero => intro j lead tt ft nt hmz; exact absurd hmz (Nat.not_lt_zero _)
      | succ kk ih =>
        intro j lead tt ft nt hmz hj hld hv htt hT H locs ls hP hD hS hl
        refine lv_iload hx hb d_Fra_nearest_54 (lv_at hl 6 rfl) ?_
        refine lv_iload hx hb d_Fra_nearest_56 (lv_at hl 4 rfl) ?_
        refine lv_icmp_ge (tgt := 113) hx hb d_Fra_nearest_58 (by decide) (fun c58 => ?_) (fun c58 => ?_)
        · have e58 : j = kP i + 2 := by have := (nI_leI (by omega) (by omega)).mp c58; omega
          rw [e58] at hv hld
          refine lv_aload_n hx hb d_Fra_nearest_113 rfl (lv_at hl 1 rfl) ?_
          refine lv_lload hx hb d_Fra_nearest_114 (lv_at hl 5 rfl) ?_
          refine lv_iload_n hx hb d_Fra_nearest_116 rfl (lv_at hl 2 rfl) ?_
          refine lv_iload_n hx hb d_Fra_nearest_117 rfl (lv_at hl 3 rfl) ?_
          refine lv_iadd hx hb d_Fra_nearest_118 ?_
          refine lv_iload hx hb d_Fra_nearest_119 (lv_at hl 4 rfl) ?_
          refine lv_iconst (v := 1) hx hb d_Fra_nearest_121 (by decide) ?_
          refine lv_isub hx hb d_Fra_nearest_122 ?_
          refine lv_isub hx hb d_Fra_nearest_123 ?_
          refine tv_i (zI (wp + ((s2 : Int) - s1) - ((kP i : Int) + 1))) (by show zI wp + zI _ - (nI (kP i + 2) - nI 1) = _; rw [pk_sub (by omega), ← zI_nI, zI_add, zI_sub]; exact congrArg zI (by omega)) ?_
          refine lv_aload_n hx hb d_Fra_nearest_124 rfl (lv_at hl 0 rfl) ?_
          refine va_get (D := D) (ci := 2) (v := .ref t) (C := R_Fra) (T := F_Fra) (N := 2) hx hb hts w_Fra hown hK hP 0 rfl rfl 0 (by decide) (hts _ kF_Fra_10) (fun _ h9 => h9) rfl d_Fra_nearest_125 ?_
          refine ca_i [(h, .inr (2, [.ref t, .ref b])), (b, .inr (0, [.ref ba, .int (nI k)])), (ba, .inl (cB, 96, .inl g))] (va_runV (As := []) (rest := [.int (zI (wp + ((s2 : Int) - s1) - ((kP i : Int) + 1))), .long (lN lead), .ref (E.1 i)]) ⟨hx, hb, hml, hown, hts⟩ (c_Big_isZero l D E t ta cA ft nt tt hT H.size) (xV 0 hts kC_Big_isZero kM_Fra_45 kI_Big_isZero kS_Big_isZero kN_Big rfl rfl (by decide +kernel) ⟨Nat.le_of_ble_eq_true rfl, Nat.le_of_ble_eq_true rfl⟩) ⟨ct_blind hev, va_recv hK hP (ci := 0) (q0 := 1) rfl rfl, ct_pre hev hP hK hD hS hA hE [1, 2] rfl (by decide) [0] rfl⟩ rfl rfl hl.1 rfl (lv_room (Nat.le_of_ble_eq_true rfl)) d_Fra_nearest_128 ⟨Nat.le_of_ble_eq_true rfl, Nat.le_of_ble_eq_true rfl⟩) hP hD hS hA [1, 2] [0, 3, 4] rfl rfl (by decide) (by decide) (fun rv u H locs hw hP hD hS hK1 => ?_)
          have hP : va_P D vcl [(h, .inr (2, [.ref t, .ref b])), (b, .inr (0, [.ref ba, .int (nI k)])), (ba, .inl (cB, 96, .inl g)), (t, .inr (0, [.ref ta, .int (nI nt)])), (ta, .inl (cA, 96, .inl ft))] H := hP
          have hD : va_D A [(h, .inr (2, [.ref t, .ref b])), (b, .inr (0, [.ref ba, .int (nI k)])), (ba, .inl (cB, 96, .inl g)), (t, .inr (0, [.ref ta, .int (nI nt)])), (ta, .inl (cA, 96, .inl ft))] := hD
          refine lv_if_ne (tgt := 138) hx hb d_Fra_nearest_131 (by decide) (fun c131 => ?_) (fun c131 => ?_)
          · have e131 : tt = 0 := hw.2.mp (hw.1.elim id (fun z => absurd z c131))
            refine lv_iconst (v := 0) hx hb d_Fra_nearest_138 (by decide) ?_
            refine tv_i (bI false) (rfl) ?_
            refine ca_l [(h, .inr (2, [.ref t, .ref b])), (b, .inr (0, [.ref ba, .int (nI k)])), (ba, .inl (cB, 96, .inl g)), (t, .inr (0, [.ref ta, .int (nI nt)])), (ta, .inl (cA, 96, .inl ft))] (va_runV (As := [.long (lN lead), .int (zI (wp + ((s2 : Int) - s1) - ((kP i : Int) + 1))), .int (bI false)]) (rest := []) ⟨hx, hb, hml, hown, hts⟩ (c_Kin_nearest l D E i hi lead (wp + ((s2 : Int) - s1) - ((kP i : Int) + 1)) false (by have h9 : 2 ^ (kP i + 2) ≤ 2 ^ 55 := two_pow_le (by omega); omega) (by omega) (by omega) H.size) (xV 3 hts kC_Kin_nearest kM_Fra_49 kI_Kin_nearest kS_Kin_nearest kN_Kin rfl rfl (by decide +kernel) ⟨Nat.le_of_ble_eq_true rfl, Nat.le_of_ble_eq_true rfl⟩) ⟨ct_blind hev, va_recvE (i := i) hE.2.1 hi hS, ct_pre hev hP hK hD hS hA hE [] rfl (by decide) [] rfl⟩ rfl rfl hl.1 rfl (lv_room (Nat.le_of_ble_eq_true rfl)) d_Fra_nearest_139 ⟨Nat.le_of_ble_eq_true rfl, Nat.le_of_ble_eq_true rfl⟩) hP hD hS hA [] [0, 1, 2, 3, 4] rfl rfl (by decide) (by decide) (fun rv u H locs hw hP hD hS hK1 => ?_)
            subst hw
            have hP : va_P D vcl [(h, .inr (2, [.ref t, .ref b])), (b, .inr (0, [.ref ba, .int (nI k)])), (ba, .inl (cB, 96, .inl g)), (t, .inr (0, [.ref ta, .int (nI nt)])), (ta, .inl (cA, 96, .inl ft))] H := hP
            have hD : va_D A [(h, .inr (2, [.ref t, .ref b])), (b, .inr (0, [.ref ba, .int (nI k)])), (ba, .inl (cB, 96, .inl g)), (t, .inr (0, [.ref ta, .int (nI nt)])), (ta, .inl (cA, 96, .inl ft))] := hD
            exact rt_l hx hb hrt hlocks (((ft, nt), (g, k))) (by rw [(fd_end (P := kP i) (Z := kZ i) (Lw := kLw i) (w := wp) (more := false) hNn hDn hbl hv htt (iff_of_false (by decide) (fun z => z e131))).1]) (hP.sub [0, 3, 4, 1, 2] rfl) (hK.sub [0, 1] rfl) (hD.sub [0, 3, 4, 1, 2] (by decide) rfl) hS d_Fra_nearest_142
          · have e131 : tt ≠ 0 := fun z => by have := hw.2.mpr z; rw [c131] at this; exact absurd this (by decide)
            refine lv_iconst (v := 1) hx hb d_Fra_nearest_134 (by decide) ?_
            refine tv_i (bI true) (rfl) ?_
            refine lv_goto (tgt := 139) hx hb d_Fra_nearest_135 (by decide) ?_
            refine ca_l [(h, .inr (2, [.ref t, .ref b])), (b, .inr (0, [.ref ba, .int (nI k)])), (ba, .inl (cB, 96, .inl g)), (t, .inr (0, [.ref ta, .int (nI nt)])), (ta, .inl (cA, 96, .inl ft))] (va_runV (As := [.long (lN lead), .int (zI (wp + ((s2 : Int) - s1) - ((kP i : Int) + 1))), .int (bI true)]) (rest := []) ⟨hx, hb, hml, hown, hts⟩ (c_Kin_nearest l D E i hi lead (wp + ((s2 : Int) - s1) - ((kP i : Int) + 1)) true (by have h9 : 2 ^ (kP i + 2) ≤ 2 ^ 55 := two_pow_le (by omega); omega) (by omega) (by omega) H.size) (xV 3 hts kC_Kin_nearest kM_Fra_49 kI_Kin_nearest kS_Kin_nearest kN_Kin rfl rfl (by decide +kernel) ⟨Nat.le_of_ble_eq_true rfl, Nat.le_of_ble_eq_true rfl⟩) ⟨ct_blind hev, va_recvE (i := i) hE.2.1 hi hS, ct_pre hev hP hK hD hS hA hE [] rfl (by decide) [] rfl⟩ rfl rfl hl.1 rfl (lv_room (Nat.le_of_ble_eq_true rfl)) d_Fra_nearest_139 ⟨Nat.le_of_ble_eq_true rfl, Nat.le_of_ble_eq_true rfl⟩) hP hD hS hA [] [0, 1, 2, 3, 4] rfl rfl (by decide) (by decide) (fun rv u H locs hw hP hD hS hK1 => ?_)
            subst hw
            have hP : va_P D vcl [(h, .inr (2, [.ref t, .ref b])), (b, .inr (0, [.ref ba, .int (nI k)])), (ba, .inl (cB, 96, .inl g)), (t, .inr (0, [.ref ta, .int (nI nt)])), (ta, .inl (cA, 96, .inl ft))] H := hP
            have hD : va_D A [(h, .inr (2, [.ref t, .ref b])), (b, .inr (0, [.ref ba, .int (nI k)])), (ba, .inl (cB, 96, .inl g)), (t, .inr (0, [.ref ta, .int (nI nt)])), (ta, .inl (cA, 96, .inl ft))] := hD
            exact rt_l hx hb hrt hlocks (((ft, nt), (g, k))) (by rw [(fd_end (P := kP i) (Z := kZ i) (Lw := kLw i) (w := wp) (more := true) hNn hDn hbl hv htt (iff_of_true rfl e131)).1]) (hP.sub [0, 3, 4, 1, 2] rfl) (hK.sub [0, 1] rfl) (hD.sub [0, 3, 4, 1, 2] (by decide) rfl) hS d_Fra_nearest_142
        · have e58 : j < kP i + 2 := Nat.lt_of_not_le (fun z => c58 ((nI_leI (by omega) (by omega)).mpr z))
          have hl55 : 2 ^ j ≤ 2 ^ 55 := two_pow_le (by omega)
          refine lv_lload hx hb d_Fra_nearest_61 (lv_at hl 5 rfl) ?_
          refine lv_iconst (v := 1) hx hb d_Fra_nearest_63 (by decide) ?_
          refine lv_lshl (v := lN (lead * 2)) hx hb d_Fra_nearest_64 (wb_shl _ (k := 1) (by decide)) ?_
          refine lv_lstore (lv' := [(5, .long (lN (lead * 2))), (0, .ref h), (1, .ref (E.1 i)), (2, .int (zI wp)), (3, .int (zI ((s2 : Int) - s1))), (4, .int (nI (kP i + 2))), (7, .int (nI j))]) hx hb d_Fra_nearest_65 hl (by decide) rfl (fun ls hl => ?_)
          refine lv_aload_n hx hb d_Fra_nearest_67 rfl (lv_at hl 1 rfl) ?_
          refine va_get (D := D) (ci := 2) (v := .ref t) (C := R_Fra) (T := F_Fra) (N := 2) hx hb hts w_Fra hown hK hP 0 rfl rfl 0 (by decide) (hts _ kF_Fra_10) (fun _ h9 => h9) rfl d_Fra_nearest_68 ?_
          refine lv_aload_n hx hb d_Fra_nearest_71 rfl (lv_at hl 1 rfl) ?_
          refine va_get (D := D) (ci := 2) (v := .ref b) (C := R_Fra) (T := F_Fra) (N := 2) hx hb hts w_Fra hown hK hP 0 rfl rfl 1 (by decide) (hts _ kF_Fra_16) (fun _ h9 => h9) rfl d_Fra_nearest_72 ?_
          refine ca_i [(h, .inr (2, [.ref t, .ref b]))] (va_runV (As := [.ref b]) (rest := []) ⟨hx, hb, hml, hown, hts⟩ (c_Big_isAtLeast l D E t ta b ba cA cB ft g nt k tt (Dn * 2 ^ s2) hT hY H.size) (xV 1 hts kC_Big_isAtLeast kM_Fra_33 kI_Big_isAtLeast kS_Big_isAtLeast kN_Big rfl rfl (by decide +kernel) ⟨Nat.le_of_ble_eq_true rfl, Nat.le_of_ble_eq_true rfl⟩) ⟨ct_blind hev, va_recv hK hP (ci := 0) (q0 := 1) rfl rfl, ct_pre hev hP hK hD hS hA hE [1, 2, 3, 4] rfl (by decide) [0, 1] rfl⟩ rfl rfl hl.1 rfl (lv_room (Nat.le_of_ble_eq_true rfl)) d_Fra_nearest_75 ⟨Nat.le_of_ble_eq_true rfl, Nat.le_of_ble_eq_true rfl⟩) hP hD hS hA [1, 2, 3, 4] [0] rfl rfl (by decide) (by decide) (fun rv u H locs hw hP hD hS hK1 => ?_)
          have hP : va_P D vcl [(h, .inr (2, [.ref t, .ref b])), (t, .inr (0, [.ref ta, .int (nI nt)])), (ta, .inl (cA, 96, .inl ft)), (b, .inr (0, [.ref ba, .int (nI k)])), (ba, .inl (cB, 96, .inl g))] H := hP
          have hD : va_D A [(h, .inr (2, [.ref t, .ref b])), (t, .inr (0, [.ref ta, .int (nI nt)])), (ta, .inl (cA, 96, .inl ft)), (b, .inr (0, [.ref ba, .int (nI k)])), (ba, .inl (cB, 96, .inl g))] := hD
          refine lv_if_eq (tgt := 98) hx hb d_Fra_nearest_78 (by decide) (fun c78 => ?_) (fun c78 => ?_)
          · have e78 : ¬ Dn * 2 ^ s2 ≤ tt := fun z => by have := hw.2.mpr z; rw [c78] at this; exact absurd this (by decide)
            refine lv_aload_n hx hb d_Fra_nearest_98 rfl (lv_at hl 1 rfl) ?_
            refine va_get (D := D) (ci := 2) (v := .ref t) (C := R_Fra) (T := F_Fra) (N := 2) hx hb hts w_Fra hown hK hP 0 rfl rfl 0 (by decide) (hts _ kF_Fra_10) (fun _ h9 => h9) rfl d_Fra_nearest_99 ?_
            refine lv_iconst (v := 2) hx hb d_Fra_nearest_102 (by decide) ?_
            refine tv_i (nI 2) (rfl) ?_
            refine lv_iconst (v := 0) hx hb d_Fra_nearest_103 (by decide) ?_
            refine tv_i (nI 0) (rfl) ?_
            refine ca_v [(h, .inr (2, [.ref t, .ref b])), (b, .inr (0, [.ref ba, .int (nI k)])), (ba, .inl (cB, 96, .inl g))] (va_runV (As := [.int (nI 2), .int (nI 0)]) (rest := []) ⟨hx, hb, hml, hown, hts⟩ (c_Big_timesPlus l D E t ta cA ft nt tt 2 0 hT (by decide) (by decide) (by decide) (by omega) H.size) (xV 2 hts kC_Big_timesPlus kM_Fra_41 kI_Big_timesPlus kS_Big_timesPlus kN_Big rfl rfl (by decide +kernel) ⟨Nat.le_of_ble_eq_true rfl, Nat.le_of_ble_eq_true rfl⟩) ⟨ct_blind hev, va_recv hK hP (ci := 0) (q0 := 1) rfl rfl, ct_pre hev hP hK hD hS hA hE [1, 2] rfl (by decide) [0] rfl⟩ rfl rfl hl.1 rfl (lv_room (Nat.le_of_ble_eq_true rfl)) d_Fra_nearest_104 ⟨Nat.le_of_ble_eq_true rfl, Nat.le_of_ble_eq_true rfl⟩) hP hD hS hA [1, 2] [0, 3, 4] rfl rfl (by decide) (by decide) (fun u H locs hw hP hD hS hK1 => ?_)
            obtain ⟨f16, n17⟩ := u
            have hB18 : isB f16 n17 (tt * 2) := hw
            have hP : va_P D vcl [(h, .inr (2, [.ref t, .ref b])), (b, .inr (0, [.ref ba, .int (nI k)])), (ba, .inl (cB, 96, .inl g)), (t, .inr (0, [.ref ta, .int (nI n17)])), (ta, .inl (cA, 96, .inl f16))] H := hP
            have hD : va_D A [(h, .inr (2, [.ref t, .ref b])), (b, .inr (0, [.ref ba, .int (nI k)])), (ba, .inl (cB, 96, .inl g)), (t, .inr (0, [.ref ta, .int (nI n17)])), (ta, .inl (cA, 96, .inl f16))] := hD
            refine lv_iinc (v := nI (j + 1)) (lv' := [(7, .int (nI (j + 1))), (5, .long (lN (lead * 2))), (0, .ref h), (1, .ref (E.1 i)), (2, .int (zI wp)), (3, .int (zI ((s2 : Int) - s1))), (4, .int (nI (kP i + 2)))]) hx hb d_Fra_nearest_107 hl (k := 6) rfl (nI_1 j) (by decide) rfl (fun ls hl => ?_)
            refine lv_goto (tgt := 54) hx hb d_Fra_nearest_110 (by decide) ?_
            exact ih (j + 1) (lead * 2) (tt * 2) f16 n17 (by omega) (by omega) (by rw [Nat.pow_succ]; omega) (by have h9 := ((fd_step hv htt).2 e78).1; rw [Nat.mul_comm lead 2]; exact h9) (((fd_step hv htt).2 e78).2) (hB18) _ _ _ (hP.sub [0, 3, 4, 1, 2] rfl) (hD.sub [0, 3, 4, 1, 2] (by decide) rfl) hS (lv_sub hl [2, 3, 4, 5, 6, 1, 0] rfl)
          · have e78 : Dn * 2 ^ s2 ≤ tt := hw.2.mp (hw.1.elim id (fun z => absurd z c78))
            refine lv_aload_n hx hb d_Fra_nearest_81 rfl (lv_at hl 1 rfl) ?_
            refine va_get (D := D) (ci := 2) (v := .ref t) (C := R_Fra) (T := F_Fra) (N := 2) hx hb hts w_Fra hown hK hP 0 rfl rfl 0 (by decide) (hts _ kF_Fra_10) (fun _ h9 => h9) rfl d_Fra_nearest_82 ?_
            refine lv_aload_n hx hb d_Fra_nearest_85 rfl (lv_at hl 1 rfl) ?_
            refine va_get (D := D) (ci := 2) (v := .ref b) (C := R_Fra) (T := F_Fra) (N := 2) hx hb hts w_Fra hown hK hP 0 rfl rfl 1 (by decide) (hts _ kF_Fra_16) (fun _ h9 => h9) rfl d_Fra_nearest_86 ?_
            refine ca_v [(h, .inr (2, [.ref t, .ref b]))] (va_runV (As := [.ref b]) (rest := []) ⟨hx, hb, hml, hown, hts⟩ (c_Big_subtract l D E t ta b ba cA cB ft g nt k tt (Dn * 2 ^ s2) hT hY (e78) H.size) (xV 1 hts kC_Big_subtract kM_Fra_37 kI_Big_subtract kS_Big_subtract kN_Big rfl rfl (by decide +kernel) ⟨Nat.le_of_ble_eq_true rfl, Nat.le_of_ble_eq_true rfl⟩) ⟨ct_blind hev, va_recv hK hP (ci := 0) (q0 := 1) rfl rfl, ct_pre hev hP hK hD hS hA hE [1, 2, 3, 4] rfl (by decide) [0, 1] rfl⟩ rfl rfl hl.1 rfl (lv_room (Nat.le_of_ble_eq_true rfl)) d_Fra_nearest_89 ⟨Nat.le_of_ble_eq_true rfl, Nat.le_of_ble_eq_true rfl⟩) hP hD hS hA [1, 2, 3, 4] [0] rfl rfl (by decide) (by decide) (fun u H locs hw hP hD hS hK1 => ?_)
            obtain ⟨f19, n20⟩ := u
            have hB21 : isB f19 n20 (tt - (Dn * 2 ^ s2)) := hw
            have hP : va_P D vcl [(h, .inr (2, [.ref t, .ref b])), (t, .inr (0, [.ref ta, .int (nI n20)])), (ta, .inl (cA, 96, .inl f19)), (b, .inr (0, [.ref ba, .int (nI k)])), (ba, .inl (cB, 96, .inl g))] H := hP
            have hD : va_D A [(h, .inr (2, [.ref t, .ref b])), (t, .inr (0, [.ref ta, .int (nI n20)])), (ta, .inl (cA, 96, .inl f19)), (b, .inr (0, [.ref ba, .int (nI k)])), (ba, .inl (cB, 96, .inl g))] := hD
            refine lv_lload hx hb d_Fra_nearest_92 (lv_at hl 0 rfl) ?_
            refine lv_lconst (v := 1) hx hb d_Fra_nearest_94 (by decide) ?_
            refine lv_lor hx hb d_Fra_nearest_95 ?_
            refine tv_l (lN (2 * lead + 1)) (l1_or (by omega)) ?_
            refine lv_lstore (lv' := [(5, .long (lN (2 * lead + 1))), (0, .ref h), (1, .ref (E.1 i)), (2, .int (zI wp)), (3, .int (zI ((s2 : Int) - s1))), (4, .int (nI (kP i + 2))), (7, .int (nI j))]) hx hb d_Fra_nearest_96 hl (by decide) rfl (fun ls hl => ?_)
            refine lv_aload_n hx hb d_Fra_nearest_98 rfl (lv_at hl 1 rfl) ?_
            refine va_get (D := D) (ci := 2) (v := .ref t) (C := R_Fra) (T := F_Fra) (N := 2) hx hb hts w_Fra hown hK hP 0 rfl rfl 0 (by decide) (hts _ kF_Fra_10) (fun _ h9 => h9) rfl d_Fra_nearest_99 ?_
            refine lv_iconst (v := 2) hx hb d_Fra_nearest_102 (by decide) ?_
            refine tv_i (nI 2) (rfl) ?_
            refine lv_iconst (v := 0) hx hb d_Fra_nearest_103 (by decide) ?_
            refine tv_i (nI 0) (rfl) ?_
            refine ca_v [(h, .inr (2, [.ref t, .ref b])), (b, .inr (0, [.ref ba, .int (nI k)])), (ba, .inl (cB, 96, .inl g))] (va_runV (As := [.int (nI 2), .int (nI 0)]) (rest := []) ⟨hx, hb, hml, hown, hts⟩ (c_Big_timesPlus l D E t ta cA f19 n20 (tt - (Dn * 2 ^ s2)) 2 0 hB21 (by decide) (by decide) (by decide) (by omega) H.size) (xV 2 hts kC_Big_timesPlus kM_Fra_41 kI_Big_timesPlus kS_Big_timesPlus kN_Big rfl rfl (by decide +kernel) ⟨Nat.le_of_ble_eq_true rfl, Nat.le_of_ble_eq_true rfl⟩) ⟨ct_blind hev, va_recv hK hP (ci := 0) (q0 := 1) rfl rfl, ct_pre hev hP hK hD hS hA hE [1, 2] rfl (by decide) [0] rfl⟩ rfl rfl hl.1 rfl (lv_room (Nat.le_of_ble_eq_true rfl)) d_Fra_nearest_104 ⟨Nat.le_of_ble_eq_true rfl, Nat.le_of_ble_eq_true rfl⟩) hP hD hS hA [1, 2] [0, 3, 4] rfl rfl (by decide) (by decide) (fun u H locs hw hP hD hS hK1 => ?_)
            obtain ⟨f22, n23⟩ := u
            have hB24 : isB f22 n23 ((tt - Dn * 2 ^ s2) * 2) := hw
            have hP : va_P D vcl [(h, .inr (2, [.ref t, .ref b])), (b, .inr (0, [.ref ba, .int (nI k)])), (ba, .inl (cB, 96, .inl g)), (t, .inr (0, [.ref ta, .int (nI n23)])), (ta, .inl (cA, 96, .inl f22))] H := hP
            have hD : va_D A [(h, .inr (2, [.ref t, .ref b])), (b, .inr (0, [.ref ba, .int (nI k)])), (ba, .inl (cB, 96, .inl g)), (t, .inr (0, [.ref ta, .int (nI n23)])), (ta, .inl (cA, 96, .inl f22))] := hD
            refine lv_iinc (v := nI (j + 1)) (lv' := [(7, .int (nI (j + 1))), (5, .long (lN (2 * lead + 1))), (0, .ref h), (1, .ref (E.1 i)), (2, .int (zI wp)), (3, .int (zI ((s2 : Int) - s1))), (4, .int (nI (kP i + 2)))]) hx hb d_Fra_nearest_107 hl (k := 6) rfl (nI_1 j) (by decide) rfl (fun ls hl => ?_)
            refine lv_goto (tgt := 54) hx hb d_Fra_nearest_110 (by decide) ?_
            exact ih (j + 1) (2 * lead + 1) ((tt - Dn * 2 ^ s2) * 2) f22 n23 (by omega) (by omega) (by rw [Nat.pow_succ]; omega) (((fd_step hv htt).1 e78).1) (((fd_step hv htt).1 e78).2) (hB24) _ _ _ (hP.sub [0, 3, 4, 1, 2] rfl) (hD.sub [0, 3, 4, 1, 2] (by decide) rfl) hS (lv_sub hl [2, 3, 4, 5, 6, 1, 0] rfl)
    exact L54 (kP i + 3) 0 0 (N * 2 ^ s1) f13 n14 (by omega) (Nat.zero_le _) (by decide) (hst) (hlt0) (hB15) _ _ _ (hP.sub [0, 3, 4, 1, 2] rfl) (hD.sub [0, 3, 4, 1, 2] (by decide) rfl) hS (lv_sub hl [4, 5, 6, 3, 2, 1, 0] rfl)
