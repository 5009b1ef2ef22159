theorem d_Mod_nearest_0 : decode b_Mod_nearest 0 = .ok (.aload_n 0, 1) := by decide +kernel
theorem d_Mod_nearest_1 : decode b_Mod_nearest 1 = .ok (.getfield 16, 3) := by decide +kernel
theorem d_Mod_nearest_4 : decode b_Mod_nearest 4 = .ok (.iconst 0, 1) := by decide +kernel
theorem d_Mod_nearest_5 : decode b_Mod_nearest 5 = .ok (.iaload, 1) := by decide +kernel
theorem d_Mod_nearest_6 : decode b_Mod_nearest 6 = .ok (.ifCond .ne 5, 3) := by decide +kernel
theorem d_Mod_nearest_9 : decode b_Mod_nearest 9 = .ok (.lconst 0, 1) := by decide +kernel
theorem d_Mod_nearest_10 : decode b_Mod_nearest 10 = .ok (.lreturn, 1) := by decide +kernel
theorem d_Mod_nearest_11 : decode b_Mod_nearest 11 = .ok (.iload_n 1, 1) := by decide +kernel
theorem d_Mod_nearest_12 : decode b_Mod_nearest 12 = .ok (.ifCond .eq 9, 3) := by decide +kernel
theorem d_Mod_nearest_15 : decode b_Mod_nearest 15 = .ok (.sipush (-1074), 3) := by decide +kernel
theorem d_Mod_nearest_18 : decode b_Mod_nearest 18 = .ok (.goto 6, 3) := by decide +kernel
theorem d_Mod_nearest_21 : decode b_Mod_nearest 21 = .ok (.sipush (-149), 3) := by decide +kernel
theorem d_Mod_nearest_24 : decode b_Mod_nearest 24 = .ok (.istore_n 2, 1) := by decide +kernel
theorem d_Mod_nearest_25 : decode b_Mod_nearest 25 = .ok (.iload_n 1, 1) := by decide +kernel
theorem d_Mod_nearest_26 : decode b_Mod_nearest 26 = .ok (.ifCond .eq 8, 3) := by decide +kernel
theorem d_Mod_nearest_29 : decode b_Mod_nearest 29 = .ok (.bipush 53, 2) := by decide +kernel
theorem d_Mod_nearest_31 : decode b_Mod_nearest 31 = .ok (.goto 5, 3) := by decide +kernel
theorem d_Mod_nearest_34 : decode b_Mod_nearest 34 = .ok (.bipush 24, 2) := by decide +kernel
theorem d_Mod_nearest_36 : decode b_Mod_nearest 36 = .ok (.istore_n 3, 1) := by decide +kernel
theorem d_Mod_nearest_37 : decode b_Mod_nearest 37 = .ok (.aload_n 0, 1) := by decide +kernel
theorem d_Mod_nearest_38 : decode b_Mod_nearest 38 = .ok (.iconst 0, 1) := by decide +kernel
theorem d_Mod_nearest_39 : decode b_Mod_nearest 39 = .ok (.invokevirtual 42, 3) := by decide +kernel
theorem d_Mod_nearest_42 : decode b_Mod_nearest 42 = .ok (.aload_n 0, 1) := by decide +kernel
theorem d_Mod_nearest_43 : decode b_Mod_nearest 43 = .ok (.iconst 1, 1) := by decide +kernel
theorem d_Mod_nearest_44 : decode b_Mod_nearest 44 = .ok (.invokevirtual 42, 3) := by decide +kernel
theorem d_Mod_nearest_47 : decode b_Mod_nearest 47 = .ok (.isub, 1) := by decide +kernel
theorem d_Mod_nearest_48 : decode b_Mod_nearest 48 = .ok (.istore 4, 2) := by decide +kernel
theorem d_Mod_nearest_50 : decode b_Mod_nearest 50 = .ok (.iload 4, 2) := by decide +kernel
theorem d_Mod_nearest_52 : decode b_Mod_nearest 52 = .ok (.sipush 1100, 3) := by decide +kernel
theorem d_Mod_nearest_55 : decode b_Mod_nearest 55 = .ok (.if_icmp .le 8, 3) := by decide +kernel
theorem d_Mod_nearest_58 : decode b_Mod_nearest 58 = .ok (.iload_n 1, 1) := by decide +kernel
theorem d_Mod_nearest_59 : decode b_Mod_nearest 59 = .ok (.invokestatic 46, 3) := by decide +kernel
theorem d_Mod_nearest_62 : decode b_Mod_nearest 62 = .ok (.lreturn, 1) := by decide +kernel
theorem d_Mod_nearest_63 : decode b_Mod_nearest 63 = .ok (.iload 4, 2) := by decide +kernel
theorem d_Mod_nearest_65 : decode b_Mod_nearest 65 = .ok (.iload_n 3, 1) := by decide +kernel
theorem d_Mod_nearest_66 : decode b_Mod_nearest 66 = .ok (.isub, 1) := by decide +kernel
theorem d_Mod_nearest_67 : decode b_Mod_nearest 67 = .ok (.iload_n 2, 1) := by decide +kernel
theorem d_Mod_nearest_68 : decode b_Mod_nearest 68 = .ok (.if_icmp .ge 7, 3) := by decide +kernel
theorem d_Mod_nearest_71 : decode b_Mod_nearest 71 = .ok (.iload_n 2, 1) := by decide +kernel
theorem d_Mod_nearest_72 : decode b_Mod_nearest 72 = .ok (.goto 7, 3) := by decide +kernel
theorem d_Mod_nearest_75 : decode b_Mod_nearest 75 = .ok (.iload 4, 2) := by decide +kernel
theorem d_Mod_nearest_77 : decode b_Mod_nearest 77 = .ok (.iload_n 3, 1) := by decide +kernel
theorem d_Mod_nearest_78 : decode b_Mod_nearest 78 = .ok (.isub, 1) := by decide +kernel
theorem d_Mod_nearest_79 : decode b_Mod_nearest 79 = .ok (.istore 5, 2) := by decide +kernel
theorem d_Mod_nearest_81 : decode b_Mod_nearest 81 = .ok (.iload 5, 2) := by decide +kernel
theorem d_Mod_nearest_83 : decode b_Mod_nearest 83 = .ok (.ifCond .ge 14, 3) := by decide +kernel
theorem d_Mod_nearest_86 : decode b_Mod_nearest 86 = .ok (.aload_n 0, 1) := by decide +kernel
theorem d_Mod_nearest_87 : decode b_Mod_nearest 87 = .ok (.iconst 0, 1) := by decide +kernel
theorem d_Mod_nearest_88 : decode b_Mod_nearest 88 = .ok (.iload 5, 2) := by decide +kernel
theorem d_Mod_nearest_90 : decode b_Mod_nearest 90 = .ok (.ineg, 1) := by decide +kernel
theorem d_Mod_nearest_91 : decode b_Mod_nearest 91 = .ok (.invokevirtual 50, 3) := by decide +kernel
theorem d_Mod_nearest_94 : decode b_Mod_nearest 94 = .ok (.goto 10, 3) := by decide +kernel
theorem d_Mod_nearest_97 : decode b_Mod_nearest 97 = .ok (.aload_n 0, 1) := by decide +kernel
theorem d_Mod_nearest_98 : decode b_Mod_nearest 98 = .ok (.iconst 1, 1) := by decide +kernel
theorem d_Mod_nearest_99 : decode b_Mod_nearest 99 = .ok (.iload 5, 2) := by decide +kernel
theorem d_Mod_nearest_101 : decode b_Mod_nearest 101 = .ok (.invokevirtual 50, 3) := by decide +kernel
theorem d_Mod_nearest_104 : decode b_Mod_nearest 104 = .ok (.aload_n 0, 1) := by decide +kernel
theorem d_Mod_nearest_105 : decode b_Mod_nearest 105 = .ok (.iconst 1, 1) := by decide +kernel
theorem d_Mod_nearest_106 : decode b_Mod_nearest 106 = .ok (.iload_n 3, 1) := by decide +kernel
theorem d_Mod_nearest_107 : decode b_Mod_nearest 107 = .ok (.iconst 1, 1) := by decide +kernel
theorem d_Mod_nearest_108 : decode b_Mod_nearest 108 = .ok (.iadd, 1) := by decide +kernel
theorem d_Mod_nearest_109 : decode b_Mod_nearest 109 = .ok (.invokevirtual 50, 3) := by decide +kernel
theorem d_Mod_nearest_112 : decode b_Mod_nearest 112 = .ok (.lconst 0, 1) := by decide +kernel
theorem d_Mod_nearest_113 : decode b_Mod_nearest 113 = .ok (.lstore 6, 2) := by decide +kernel
theorem d_Mod_nearest_115 : decode b_Mod_nearest 115 = .ok (.iconst 0, 1) := by decide +kernel
theorem d_Mod_nearest_116 : decode b_Mod_nearest 116 = .ok (.istore 8, 2) := by decide +kernel
theorem d_Mod_nearest_118 : decode b_Mod_nearest 118 = .ok (.iload 8, 2) := by decide +kernel
theorem d_Mod_nearest_120 : decode b_Mod_nearest 120 = .ok (.iload_n 3, 1) := by decide +kernel
theorem d_Mod_nearest_121 : decode b_Mod_nearest 121 = .ok (.iconst 1, 1) := by decide +kernel
theorem d_Mod_nearest_122 : decode b_Mod_nearest 122 = .ok (.iadd, 1) := by decide +kernel
theorem d_Mod_nearest_123 : decode b_Mod_nearest 123 = .ok (.if_icmp .gt 66, 3) := by decide +kernel
theorem d_Mod_nearest_126 : decode b_Mod_nearest 126 = .ok (.aload_n 0, 1) := by decide +kernel
theorem d_Mod_nearest_127 : decode b_Mod_nearest 127 = .ok (.iconst 0, 1) := by decide +kernel
theorem d_Mod_nearest_128 : decode b_Mod_nearest 128 = .ok (.iconst 1, 1) := by decide +kernel
theorem d_Mod_nearest_129 : decode b_Mod_nearest 129 = .ok (.invokevirtual 53, 3) := by decide +kernel
theorem d_Mod_nearest_132 : decode b_Mod_nearest 132 = .ok (.ifCond .lt 7, 3) := by decide +kernel
theorem d_Mod_nearest_135 : decode b_Mod_nearest 135 = .ok (.iconst 1, 1) := by decide +kernel
theorem d_Mod_nearest_136 : decode b_Mod_nearest 136 = .ok (.goto 4, 3) := by decide +kernel
theorem d_Mod_nearest_139 : decode b_Mod_nearest 139 = .ok (.iconst 0, 1) := by decide +kernel
theorem d_Mod_nearest_140 : decode b_Mod_nearest 140 = .ok (.istore 9, 2) := by decide +kernel
theorem d_Mod_nearest_142 : decode b_Mod_nearest 142 = .ok (.iload 9, 2) := by decide +kernel
theorem d_Mod_nearest_144 : decode b_Mod_nearest 144 = .ok (.ifCond .eq 9, 3) := by decide +kernel
theorem d_Mod_nearest_147 : decode b_Mod_nearest 147 = .ok (.aload_n 0, 1) := by decide +kernel
theorem d_Mod_nearest_148 : decode b_Mod_nearest 148 = .ok (.iconst 0, 1) := by decide +kernel
theorem d_Mod_nearest_149 : decode b_Mod_nearest 149 = .ok (.iconst 1, 1) := by decide +kernel
theorem d_Mod_nearest_150 : decode b_Mod_nearest 150 = .ok (.invokevirtual 57, 3) := by decide +kernel
theorem d_Mod_nearest_153 : decode b_Mod_nearest 153 = .ok (.ldc2_w 60, 3) := by decide +kernel
theorem d_Mod_nearest_156 : decode b_Mod_nearest 156 = .ok (.lload 6, 2) := by decide +kernel
theorem d_Mod_nearest_158 : decode b_Mod_nearest 158 = .ok (.lmul, 1) := by decide +kernel
theorem d_Mod_nearest_159 : decode b_Mod_nearest 159 = .ok (.iload 9, 2) := by decide +kernel
theorem d_Mod_nearest_161 : decode b_Mod_nearest 161 = .ok (.ifCond .eq 7, 3) := by decide +kernel
theorem d_Mod_nearest_164 : decode b_Mod_nearest 164 = .ok (.lconst 1, 1) := by decide +kernel
theorem d_Mod_nearest_165 : decode b_Mod_nearest 165 = .ok (.goto 4, 3) := by decide +kernel
theorem d_Mod_nearest_168 : decode b_Mod_nearest 168 = .ok (.lconst 0, 1) := by decide +kernel
theorem d_Mod_nearest_169 : decode b_Mod_nearest 169 = .ok (.ladd, 1) := by decide +kernel
theorem d_Mod_nearest_170 : decode b_Mod_nearest 170 = .ok (.lstore 6, 2) := by decide +kernel
theorem d_Mod_nearest_172 : decode b_Mod_nearest 172 = .ok (.iload 8, 2) := by decide +kernel
theorem d_Mod_nearest_174 : decode b_Mod_nearest 174 = .ok (.iload_n 3, 1) := by decide +kernel
theorem d_Mod_nearest_175 : decode b_Mod_nearest 175 = .ok (.if_icmp .gt 8, 3) := by decide +kernel
theorem d_Mod_nearest_178 : decode b_Mod_nearest 178 = .ok (.aload_n 0, 1) := by decide +kernel
theorem d_Mod_nearest_179 : decode b_Mod_nearest 179 = .ok (.iconst 1, 1) := by decide +kernel
theorem d_Mod_nearest_180 : decode b_Mod_nearest 180 = .ok (.invokevirtual 62, 3) := by decide +kernel
theorem d_Mod_nearest_183 : decode b_Mod_nearest 183 = .ok (.iinc 8 1, 3) := by decide +kernel
theorem d_Mod_nearest_186 : decode b_Mod_nearest 186 = .ok (.goto (-68), 3) := by decide +kernel
theorem d_Mod_nearest_189 : decode b_Mod_nearest 189 = .ok (.aload_n 0, 1) := by decide +kernel
theorem d_Mod_nearest_190 : decode b_Mod_nearest 190 = .ok (.lload 6, 2) := by decide +kernel
theorem d_Mod_nearest_192 : decode b_Mod_nearest 192 = .ok (.iload 5, 2) := by decide +kernel
theorem d_Mod_nearest_194 : decode b_Mod_nearest 194 = .ok (.iload_n 1, 1) := by decide +kernel
theorem d_Mod_nearest_195 : decode b_Mod_nearest 195 = .ok (.iload_n 3, 1) := by decide +kernel
theorem d_Mod_nearest_196 : decode b_Mod_nearest 196 = .ok (.iload_n 2, 1) := by decide +kernel
theorem d_Mod_nearest_197 : decode b_Mod_nearest 197 = .ok (.invokevirtual 66, 3) := by decide +kernel
theorem d_Mod_nearest_200 : decode b_Mod_nearest 200 = .ok (.lreturn, 1) := by decide +kernel
theorem cmpN_ge {x y : Nat} (h : y ≤ x) : ¬ cmpN x y < 0 := by
  unfold cmpN; rw [if_neg (by omega)]; split <;> decide
set_option maxHeartbeats 4000000 in
set_option maxRecDepth 100000 in
theorem c_Mod_nearest (l : Launch) (D : va_G) (E : evD) (md xx mm nn : Nat) (cM cN : ClassId) (V : Nat → Nat) (ln rd at0 en0 : Int32) (R : Int64) (i : Nat) (hi : i < 2) (wd : Int32) (hwd : knd wd = i) (hB : V 1 ≠ 0) (hV : okV V) (hbA : bln (V 0) ≤ 11000) (hbB : bln (V 1) ≤ 11000) : Cl (S := (Nat → Nat)) l y_Mod_nearest (wz y_Mod_nearest b_Mod_nearest 10 (some .long)) ({ frames := 3, cells := 0, slots := 0, locals := 85 }) D vcl (ev1 E) [.ref md, .int wd] [(cM, .int), (cN, .int)] [(md, .inr (5, [.ref xx, .int ln, .long R, .int rd, .ref mm, .ref nn, .int at0, .int en0])), (mm, .inl (cM, 3000, .inl (rw16 V))), (nn, .inl (cN, 3, .inl (rc V)))] 0 0 (fun (w : Int64) (V' : Nat → Nat) => w = lN (rn (kP i) (kZ i) (V 0 * 2 ^ kLw i) (V 1)) ∧ okV V') (fun _ => [(cM, .int), (cN, .int)]) (fun V' : Nat → Nat => [(md, .inr (5, [.ref xx, .int ln, .long R, .int rd, .ref mm, .ref nn, .int at0, .int en0])), (mm, .inl (cM, 3000, .inl (rw16 V'))), (nn, .inl (cN, 3, .inl (rc V')))]) := by
  have hev := ev1_ok E
  unfold Cl
  refine ct_of (y := y_Mod_nearest) (av := [.ref md, .int wd]) (cc := b_Mod_nearest) (maxL := 10) (ret := (some .long)) (Qc := fun A => va_Ql (S := (Nat → Nat)) (fun (w : Int64) (V' : Nat → Nat) => w = lN (rn (kP i) (kZ i) (V 0 * 2 ^ kLw i) (V 1)) ∧ okV V') (fun u tS => ctB D vcl ((fun _ => [(cM, .int), (cN, .int)]) u) ((fun V' : Nat → Nat => [(md, .inr (5, [.ref xx, .int ln, .long R, .int rd, .ref mm, .ref nn, .int at0, .int en0])), (mm, .inl (cM, 3000, .inl (rw16 V'))), (nn, .inl (cN, 3, .inl (rc V')))]) u) A tS) A) (by decide) rfl (Nat.le_of_ble_eq_true rfl) ?_
  intro p ee s m below meth cde ls A H locs hx hb hml hrt hlocks hown hin hts hA hP hK hD hS hE hl
  have hown : s.vm.findClass R_Mod = some m.cls := hown
  have hts := wz_g hts
  have hl : lv_has ls 10 [(0, .ref md), (1, .int wd)] := hl
  obtain ⟨hk1, hk2, hk3, hk4, hk5, -⟩ := kP_b i hi
  have hk6 : kP i + kZ i ≤ kLw i + 1100 := by rcases (show i = 0 ∨ i = 1 by omega) with z | z <;> rw [z] <;> decide
  refine lv_aload_n hx hb d_Mod_nearest_0 rfl (lv_at hl 0 rfl) ?_
  refine va_get (D := D) (ci := 5) (v := .ref nn) (C := R_Mod) (T := F_Mod) (N := 8) hx hb hts w_Mod hown hK hP 0 rfl rfl 5 (by decide) (hts _ kF_Mod_16) (fun _ h9 => h9) rfl d_Mod_nearest_1 ?_
  refine lv_iconst (v := 0) hx hb d_Mod_nearest_4 (by decide) ?_
  refine tv_i (nI 0) (rfl) ?_
  refine va_iald hx hb hK hP 2 1 rfl rfl (i := nI 0) (vp_in_nI (show 0 < 3 by omega) (by decide)) d_Mod_nearest_5 ?_
  refine tv_i (nI (lc (V 0))) (by rw [nI_clamp (by omega)]; rfl) ?_
  refine lv_if_ne (tgt := 11) hx hb d_Mod_nearest_6 (by decide) (fun c6 => ?_) (fun c6 => ?_)
  · have e6 : V 0 ≠ 0 := fun z => c6 (by rw [z]; rfl)
    have L37 : ∀ (kk : Nat) (u0 : Nat), 0 < kk → ∀ (H : Heap) (locs : List Loc) (ls : Array Slot), va_P D vcl [(md, .inr (5, [.ref xx, .int ln, .long R, .int rd, .ref mm, .ref nn, .int at0, .int en0])), (mm, .inl (cM, 3000, .inl (rw16 V))), (nn, .inl (cN, 3, .inl (rc V)))] H → va_D A [(md, .inr (5, [.ref xx, .int ln, .long R, .int rd, .ref mm, .ref nn, .int at0, .int en0])), (mm, .inl (cM, 3000, .inl (rw16 V))), (nn, .inl (cN, 3, .inl (rc V)))] → va_S A s.heap H locs → lv_has ls 10 [(0, .ref md), (1, .int wd), (2, .int (zI (-(kLw i : Int)))), (3, .int (nI (kP i)))] → W p l ee ({ frames := 3, cells := 0, slots := 0, locals := 85 }) s m ([.ref md, .int wd] : List Value).toArray below meth cde H locs 0 0 (MQ below (va_Ql (S := (Nat → Nat)) (fun (w : Int64) (V' : Nat → Nat) => w = lN (rn (kP i) (kZ i) (V 0 * 2 ^ kLw i) (V 1)) ∧ okV V') (fun u tS => ctB D vcl ((fun _ => [(cM, .int), (cN, .int)]) u) ((fun V' : Nat → Nat => [(md, .inr (5, [.ref xx, .int ln, .long R, .int rd, .ref mm, .ref nn, .int at0, .int en0])), (mm, .inl (cM, 3000, .inl (rw16 V'))), (nn, .inl (cN, 3, .inl (rc V')))]) u) A tS) A) ([.ref md, .int wd] : List Value).toArray s 0 0 A) (F0 m 37 ls []) := by
      intro kk
      induction kk with
      | zero => intro u0 hmz; exact absurd hmz (Nat.not_lt_zero _)
      | succ kk ih =>
        intro u0 hmz  H locs ls hP hD hS hl
        obtain ⟨J, hJ⟩ : ∃ J : Nat, J = ((bln (V 0) : Int) - bln (V 1) - kP i + kLw i).toNat := ⟨_, rfl⟩
        have hB0 := bln_pos hB
        have hA0 := bln_pos e6
        refine lv_aload_n hx hb d_Mod_nearest_37 rfl (lv_at hl 0 rfl) ?_
        refine lv_iconst (v := 0) hx hb d_Mod_nearest_38 (by decide) ?_
        refine tv_i (nI 0) (rfl) ?_
        refine ca_i [] (va_runV (As := [.int (nI 0)]) (rest := []) ⟨hx, hb, hml, hown, hts⟩ (c_Mod_bitsOf l D E md xx mm nn cM cN V ln rd at0 en0 R 0 (by decide) (by have := hV 0 (by decide); omega) H.size) (xV 1 hts kC_Mod_bitsOf kM_Mod_42 kI_Mod_bitsOf kS_Mod_bitsOf kN_Mod rfl rfl (by decide +kernel) ⟨Nat.le_of_ble_eq_true rfl, Nat.le_of_ble_eq_true rfl⟩) ⟨ct_blind hev, va_recv hK hP (ci := 5) (q0 := 0) rfl rfl, ct_pre hev hP hK hD hS hA hE [0, 1, 2] rfl (by decide) [0, 1] rfl⟩ rfl rfl hl.1 rfl (lv_room (Nat.le_of_ble_eq_true rfl)) d_Mod_nearest_39 ⟨Nat.le_of_ble_eq_true rfl, Nat.le_of_ble_eq_true rfl⟩) hP hD hS hA [0, 1, 2] [] rfl rfl (by decide) (by decide) (fun rv u H locs hw hP hD hS hK1 => ?_)
        subst hw
        have hP : va_P D vcl [(md, .inr (5, [.ref xx, .int ln, .long R, .int rd, .ref mm, .ref nn, .int at0, .int en0])), (mm, .inl (cM, 3000, .inl (rw16 V))), (nn, .inl (cN, 3, .inl (rc V)))] H := hP
        have hD : va_D A [(md, .inr (5, [.ref xx, .int ln, .long R, .int rd, .ref mm, .ref nn, .int at0, .int en0])), (mm, .inl (cM, 3000, .inl (rw16 V))), (nn, .inl (cN, 3, .inl (rc V)))] := hD
        refine lv_aload_n hx hb d_Mod_nearest_42 rfl (lv_at hl 0 rfl) ?_
        refine lv_iconst (v := 1) hx hb d_Mod_nearest_43 (by decide) ?_
        refine tv_i (nI 1) (rfl) ?_
        refine ca_i [] (va_runV (As := [.int (nI 1)]) (rest := [.int (nI (bln (V 0)))]) ⟨hx, hb, hml, hown, hts⟩ (c_Mod_bitsOf l D E md xx mm nn cM cN V ln rd at0 en0 R 1 (by decide) (by have := hV 1 (by decide); omega) H.size) (xV 1 hts kC_Mod_bitsOf kM_Mod_42 kI_Mod_bitsOf kS_Mod_bitsOf kN_Mod rfl rfl (by decide +kernel) ⟨Nat.le_of_ble_eq_true rfl, Nat.le_of_ble_eq_true rfl⟩) ⟨ct_blind hev, va_recv hK hP (ci := 5) (q0 := 0) rfl rfl, ct_pre hev hP hK hD hS hA hE [0, 1, 2] rfl (by decide) [0, 1] rfl⟩ rfl rfl hl.1 rfl (lv_room (Nat.le_of_ble_eq_true rfl)) d_Mod_nearest_44 ⟨Nat.le_of_ble_eq_true rfl, Nat.le_of_ble_eq_true rfl⟩) hP hD hS hA [0, 1, 2] [] rfl rfl (by decide) (by decide) (fun rv u H locs hw hP hD hS hK1 => ?_)
        subst hw
        have hP : va_P D vcl [(md, .inr (5, [.ref xx, .int ln, .long R, .int rd, .ref mm, .ref nn, .int at0, .int en0])), (mm, .inl (cM, 3000, .inl (rw16 V))), (nn, .inl (cN, 3, .inl (rc V)))] H := hP
        have hD : va_D A [(md, .inr (5, [.ref xx, .int ln, .long R, .int rd, .ref mm, .ref nn, .int at0, .int en0])), (mm, .inl (cM, 3000, .inl (rw16 V))), (nn, .inl (cN, 3, .inl (rc V)))] := hD
        refine lv_isub hx hb d_Mod_nearest_47 ?_
        refine tv_i (zI ((bln (V 0) : Int) - bln (V 1))) (by rw [← zI_nI, ← zI_nI, zI_sub]) ?_
        refine lv_istore (lv' := [(4, .int (zI ((bln (V 0) : Int) - bln (V 1)))), (0, .ref md), (1, .int wd), (2, .int (zI (-(kLw i : Int)))), (3, .int (nI (kP i)))]) hx hb d_Mod_nearest_48 hl (by decide) rfl (fun ls hl => ?_)
        refine lv_iload hx hb d_Mod_nearest_50 (lv_at hl 0 rfl) ?_
        refine lv_sipush (v := 1100) hx hb d_Mod_nearest_52 (by decide) ?_
        refine lv_icmp_le (tgt := 63) hx hb d_Mod_nearest_55 (by decide) (fun c55 => ?_) (fun c55 => ?_)
        · have e55 : (bln (V 0) : Int) - bln (V 1) ≤ 1100 := (zI_le (b := 1100) (by omega) (by omega) (by decide) (by decide)).mp c55
          have L104 : ∀ (kk : Nat) (V1 : Nat → Nat) (s1 : Nat) (s2 : Nat), 0 < kk → (V1 0 = V 0 * 2 ^ s1) → (V1 1 = V 1 * 2 ^ s2) → (okV V1) → (kLw i + s2 = J + s1) → (bln (V 0) + s1 ≤ bln (V 1) + s2 + kP i) → (J ≠ 0 → bln (V 0) + s1 = bln (V 1) + s2 + kP i) → (s2 ≤ 1100) → ∀ (H : Heap) (locs : List Loc) (ls : Array Slot), va_P D vcl [(md, .inr (5, [.ref xx, .int ln, .long R, .int rd, .ref mm, .ref nn, .int at0, .int en0])), (mm, .inl (cM, 3000, .inl (rw16 V1))), (nn, .inl (cN, 3, .inl (rc V1)))] H → va_D A [(md, .inr (5, [.ref xx, .int ln, .long R, .int rd, .ref mm, .ref nn, .int at0, .int en0])), (mm, .inl (cM, 3000, .inl (rw16 V1))), (nn, .inl (cN, 3, .inl (rc V1)))] → va_S A s.heap H locs → lv_has ls 10 [(0, .ref md), (1, .int wd), (2, .int (zI (-(kLw i : Int)))), (3, .int (nI (kP i))), (5, .int (zI ((J : Int) + (0 : Nat) - kLw i)))] → W p l ee ({ frames := 3, cells := 0, slots := 0, locals := 85 }) s m ([.ref md, .int wd] : List Value).toArray below meth cde H locs 0 0 (MQ below (va_Ql (S := (Nat → Nat)) (fun (w : Int64) (V' : Nat → Nat) => w = lN (rn (kP i) (kZ i) (V 0 * 2 ^ kLw i) (V 1)) ∧ okV V') (fun u tS => ctB D vcl ((fun _ => [(cM, .int), (cN, .int)]) u) ((fun V' : Nat → Nat => [(md, .inr (5, [.ref xx, .int ln, .long R, .int rd, .ref mm, .ref nn, .int at0, .int en0])), (mm, .inl (cM, 3000, .inl (rw16 V'))), (nn, .inl (cN, 3, .inl (rc V')))]) u) A tS) A) ([.ref md, .int wd] : List Value).toArray s 0 0 A) (F0 m 104 ls []) := by
            intro kk
            induction kk with
            | zero => intro V1 s1 s2 hmz; exact absurd hmz (Nat.not_lt_zero _)
            | succ kk ih =>
              intro V1 s1 s2 hmz h10 h11 hok1 hjj hb1 hb2 hs2 H locs ls hP hD hS hl
              refine lv_aload_n hx hb d_Mod_nearest_104 rfl (lv_at hl 0 rfl) ?_
              refine lv_iconst (v := 1) hx hb d_Mod_nearest_105 (by decide) ?_
              refine tv_i (nI 1) (rfl) ?_
              refine lv_iload_n hx hb d_Mod_nearest_106 rfl (lv_at hl 3 rfl) ?_
              refine lv_iconst (v := 1) hx hb d_Mod_nearest_107 (by decide) ?_
              refine lv_iadd hx hb d_Mod_nearest_108 ?_
              refine tv_i (nI (kP i + 1)) (nI_1 _) ?_
              refine ca_v [] (va_runV (As := [.int (nI 1), .int (nI (kP i + 1))]) (rest := []) ⟨hx, hb, hml, hown, hts⟩ (c_Mod_raise l D E md xx mm nn cM cN V1 ln rd at0 en0 R 1 (kP i + 1) (by decide) (by omega) (by rw [h11]; have := lc_p (s := s2) hbB (by omega); have h8 : bln (V 1 * 2 ^ s2) ≤ 12100 := Nat.le_trans bl_mul (by omega); have := lc_b h8; omega) H.size) (xV 2 hts kC_Mod_raise kM_Mod_50 kI_Mod_raise kS_Mod_raise kN_Mod rfl rfl (by decide +kernel) ⟨Nat.le_of_ble_eq_true rfl, Nat.le_of_ble_eq_true rfl⟩) ⟨ct_blind hev, va_recv hK hP (ci := 5) (q0 := 0) rfl rfl, ct_pre hev hP hK hD hS hA hE [0, 1, 2] rfl (by decide) [0, 1] rfl⟩ rfl rfl hl.1 rfl (lv_room (Nat.le_of_ble_eq_true rfl)) d_Mod_nearest_109 ⟨Nat.le_of_ble_eq_true rfl, Nat.le_of_ble_eq_true rfl⟩) hP hD hS hA [0, 1, 2] [] rfl rfl (by decide) (by decide) (fun u H locs hw hP hD hS hK1 => ?_)
              have hP : va_P D vcl [(md, .inr (5, [.ref xx, .int ln, .long R, .int rd, .ref mm, .ref nn, .int at0, .int en0])), (mm, .inl (cM, 3000, .inl (rw16 (upR V1 1 (V1 1 * 2 ^ (kP i + 1)))))), (nn, .inl (cN, 3, .inl (rc (upR V1 1 (V1 1 * 2 ^ (kP i + 1))))))] H := hP
              have hD : va_D A [(md, .inr (5, [.ref xx, .int ln, .long R, .int rd, .ref mm, .ref nn, .int at0, .int en0])), (mm, .inl (cM, 3000, .inl (rw16 (upR V1 1 (V1 1 * 2 ^ (kP i + 1)))))), (nn, .inl (cN, 3, .inl (rc (upR V1 1 (V1 1 * 2 ^ (kP i + 1))))))] := hD
              refine lv_lconst (v := 0) hx hb d_Mod_nearest_112 (by decide) ?_
              refine tv_l (lN 0) (rfl) ?_
              refine lv_lstore (lv' := [(6, .long (lN 0)), (0, .ref md), (1, .int wd), (2, .int (zI (-(kLw i : Int)))), (3, .int (nI (kP i))), (5, .int (zI ((J : Int) + (0 : Nat) - kLw i)))]) hx hb d_Mod_nearest_113 hl (by decide) rfl (fun ls hl => ?_)
              refine lv_iconst (v := 0) hx hb d_Mod_nearest_115 (by decide) ?_
              refine tv_i (nI 0) (rfl) ?_
              refine lv_istore (lv' := [(8, .int (nI 0)), (6, .long (lN 0)), (0, .ref md), (1, .int wd), (2, .int (zI (-(kLw i : Int)))), (3, .int (nI (kP i))), (5, .int (zI ((J : Int) + (0 : Nat) - kLw i)))]) hx hb d_Mod_nearest_116 hl (by decide) rfl (fun ls hl => ?_)
              have L118 : ∀ (kk : Nat) (k : Nat) (q : Nat) (Wv : Nat → Nat), kP i + 3 - k < kk → (k ≤ kP i + 2) → (V 0 * 2 ^ s1 = q * (V 1 * 2 ^ s2 * 2 ^ (kP i + 2 - k)) + Wv 0) → (Wv 0 < V 1 * 2 ^ s2 * 2 ^ (kP i + 2 - k)) → (Wv 1 = V 1 * 2 ^ s2 * 2 ^ (kP i + 1 - k)) → (okV Wv) → ∀ (H : Heap) (locs : List Loc) (ls : Array Slot), va_P D vcl [(md, .inr (5, [.ref xx, .int ln, .long R, .int rd, .ref mm, .ref nn, .int at0, .int en0])), (mm, .inl (cM, 3000, .inl (rw16 Wv))), (nn, .inl (cN, 3, .inl (rc Wv)))] H → va_D A [(md, .inr (5, [.ref xx, .int ln, .long R, .int rd, .ref mm, .ref nn, .int at0, .int en0])), (mm, .inl (cM, 3000, .inl (rw16 Wv))), (nn, .inl (cN, 3, .inl (rc Wv)))] → va_S A s.heap H locs → lv_has ls 10 [(0, .ref md), (1, .int wd), (2, .int (zI (-(kLw i : Int)))), (3, .int (nI (kP i))), (5, .int (zI ((J : Int) + (0 : Nat) - kLw i))), (6, .long (lN q)), (8, .int (nI k))] → W p l ee ({ frames := 3, cells := 0, slots := 0, locals := 85 }) s m ([.ref md, .int wd] : List Value).toArray below meth cde H locs 0 0 (MQ below (va_Ql (S := (Nat → Nat)) (fun (w : Int64) (V' : Nat → Nat) => w = lN (rn (kP i) (kZ i) (V 0 * 2 ^ kLw i) (V 1)) ∧ okV V') (fun u tS => ctB D vcl ((fun _ => [(cM, .int), (cN, .int)]) u) ((fun V' : Nat → Nat => [(md, .inr (5, [.ref xx, .int ln, .long R, .int rd, .ref mm, .ref nn, .int at0, .int en0])), (mm, .inl (cM, 3000, .inl (rw16 V'))), (nn, .inl (cN, 3, .inl (rc V')))]) u) A tS) A) ([.ref md, .int wd] : List Value).toArray s 0 0 A) (F0 m 118 ls []) := by
                intro kk
                induction kk with
                | zero => intro k q Wv hmz; exact absurd hmz (Nat.not_lt_zero _)
                | succ kk ih =>
                  intro k q Wv hmz hk hX hlt hv1 hok H locs ls hP hD hS hl
                  have l0 : lc (Wv 0 - Wv 1) ≤ 999 := Nat.le_trans (lc_mono (Nat.sub_le _ _)) (hok 0 (by decide))
                  have l1 := hok 0 (by decide)
                  have l2 := hok 1 (by decide)
                  refine lv_iload hx hb d_Mod_nearest_118 (lv_at hl 6 rfl) ?_
                  refine lv_iload_n hx hb d_Mod_nearest_120 rfl (lv_at hl 3 rfl) ?_
                  refine lv_iconst (v := 1) hx hb d_Mod_nearest_121 (by decide) ?_
                  refine lv_iadd hx hb d_Mod_nearest_122 ?_
                  refine tv_i (nI (kP i + 1)) (nI_1 _) ?_
                  refine lv_icmp_gt (tgt := 189) hx hb d_Mod_nearest_123 (by decide) (fun c123 => ?_) (fun c123 => ?_)
                  · have e123 : k = kP i + 2 := by have := (nI_ltI (by omega) (by omega)).mp c123; omega
                    subst e123
                    have hZ1 : Wv 1 = V 1 * 2 ^ s2 := by rw [hv1, show kP i + 1 - (kP i + 2) = 0 by omega, Nat.pow_zero, Nat.mul_one]
                    rw [Nat.sub_self, Nat.pow_zero, Nat.mul_one] at hX hlt
                    have hend := nm_end (Z := kZ i) e6 hB (by omega) hjj hb1 hb2 hX hlt
                    have hw0 : bln (Wv 0) ≤ 12200 := bln_le_of (Nat.lt_of_lt_of_le hlt (Nat.le_of_lt (Nat.lt_of_lt_of_le (bln_lt _) (two_pow_le (Nat.le_trans bl_mul (by omega))))))
                    refine lv_aload_n hx hb d_Mod_nearest_189 rfl (lv_at hl 0 rfl) ?_
                    refine lv_lload hx hb d_Mod_nearest_190 (lv_at hl 5 rfl) ?_
                    refine lv_iload hx hb d_Mod_nearest_192 (lv_at hl 4 rfl) ?_
                    refine lv_iload_n hx hb d_Mod_nearest_194 rfl (lv_at hl 1 rfl) ?_
                    refine lv_iload_n hx hb d_Mod_nearest_195 rfl (lv_at hl 3 rfl) ?_
                    refine lv_iload_n hx hb d_Mod_nearest_196 rfl (lv_at hl 2 rfl) ?_
                    refine ca_l [] (va_runV (As := [.long (lN q), .int (zI ((J : Int) + (0 : Nat) - kLw i)), .int wd, .int (nI (kP i)), .int (zI (-(kLw i : Int)))]) (rest := []) ⟨hx, hb, hml, hown, hts⟩ (c_Mod_rounded l D E md xx mm nn cM cN Wv ln rd at0 en0 R i hi wd hwd q J (hend.1) (by omega) (by rw [hZ1]; exact hlt) (hok 0 (by decide)) (hok 1 (by decide)) H.size) (xV 5 hts kC_Mod_rounded kM_Mod_66 kI_Mod_rounded kS_Mod_rounded kN_Mod rfl rfl (by decide +kernel) ⟨Nat.le_of_ble_eq_true rfl, Nat.le_of_ble_eq_true rfl⟩) ⟨ct_blind hev, va_recv hK hP (ci := 5) (q0 := 0) rfl rfl, ct_pre hev hP hK hD hS hA hE [0, 1, 2] rfl (by decide) [0, 1] rfl⟩ rfl rfl hl.1 rfl (lv_room (Nat.le_of_ble_eq_true rfl)) d_Mod_nearest_197 ⟨Nat.le_of_ble_eq_true rfl, Nat.le_of_ble_eq_true rfl⟩) hP hD hS hA [0, 1, 2] [] rfl rfl (by decide) (by decide) (fun rv u H locs hw hP hD hS hK1 => ?_)
                    subst hw
                    have hP : va_P D vcl [(md, .inr (5, [.ref xx, .int ln, .long R, .int rd, .ref mm, .ref nn, .int at0, .int en0])), (mm, .inl (cM, 3000, .inl (rw16 (upR Wv 0 (Wv 0 * 2 + 0))))), (nn, .inl (cN, 3, .inl (rc (upR Wv 0 (Wv 0 * 2 + 0)))))] H := hP
                    have hD : va_D A [(md, .inr (5, [.ref xx, .int ln, .long R, .int rd, .ref mm, .ref nn, .int at0, .int en0])), (mm, .inl (cM, 3000, .inl (rw16 (upR Wv 0 (Wv 0 * 2 + 0))))), (nn, .inl (cN, 3, .inl (rc (upR Wv 0 (Wv 0 * 2 + 0)))))] := hD
                    refine tv_l (lN (rn (kP i) (kZ i) (V 0 * 2 ^ kLw i) (V 1))) (congrArg lN (by rw [hZ1]; exact hend.2)) ?_
                    exact rt_l hx hb hrt hlocks (upR Wv 0 (Wv 0 * 2 + 0)) (⟨rfl, okV_up hok (Nat.le_trans (lc_b (e := 15900) (Nat.le_trans (by rw [Nat.add_zero, show Wv 0 * 2 = Wv 0 * 2 ^ 1 from rfl]; exact bl_mul) (by have := hw0; omega))) (by decide))⟩) (hP.sub [0, 1, 2] rfl) (hK.sub [0, 1] rfl) (hD.sub [0, 1, 2] (by decide) rfl) hS d_Mod_nearest_200
                  · have e123 : k ≤ kP i + 1 := by have := mt (nI_ltI (a := kP i + 1) (b := k) (by omega) (by omega)).mpr c123; omega
                    have hY2 : V 1 * 2 ^ s2 * 2 ^ (kP i + 2 - k) = Wv 1 * 2 := by rw [hv1, show kP i + 2 - k = kP i + 1 - k + 1 by omega, nm_2]
                    rw [hY2] at hX hlt
                    have hst0 := md_step hX hlt
                    have hv1s : Wv 0 - Wv 1 = Wv 0 - V 1 * 2 ^ s2 * 2 ^ (kP i + 2 - (k + 1)) := by rw [hv1, show kP i + 1 - k = kP i + 2 - (k + 1) by omega]
                    refine lv_aload_n hx hb d_Mod_nearest_126 rfl (lv_at hl 0 rfl) ?_
                    refine lv_iconst (v := 0) hx hb d_Mod_nearest_127 (by decide) ?_
                    refine tv_i (nI 0) (rfl) ?_
                    refine lv_iconst (v := 1) hx hb d_Mod_nearest_128 (by decide) ?_
                    refine tv_i (nI 1) (rfl) ?_
                    refine ca_i [] (va_runV (As := [.int (nI 0), .int (nI 1)]) (rest := []) ⟨hx, hb, hml, hown, hts⟩ (c_Mod_compareRows l D E md xx mm nn cM cN Wv ln rd at0 en0 R 0 1 (by decide) (by decide) (by omega) (by omega) H.size) (xV 2 hts kC_Mod_compareRows kM_Mod_53 kI_Mod_compareRows kS_Mod_compareRows kN_Mod rfl rfl (by decide +kernel) ⟨Nat.le_of_ble_eq_true rfl, Nat.le_of_ble_eq_true rfl⟩) ⟨ct_blind hev, va_recv hK hP (ci := 5) (q0 := 0) rfl rfl, ct_pre hev hP hK hD hS hA hE [0, 1, 2] rfl (by decide) [0, 1] rfl⟩ rfl rfl hl.1 rfl (lv_room (Nat.le_of_ble_eq_true rfl)) d_Mod_nearest_129 ⟨Nat.le_of_ble_eq_true rfl, Nat.le_of_ble_eq_true rfl⟩) hP hD hS hA [0, 1, 2] [] rfl rfl (by decide) (by decide) (fun rv u H locs hw hP hD hS hK1 => ?_)
                    subst hw
                    have hP : va_P D vcl [(md, .inr (5, [.ref xx, .int ln, .long R, .int rd, .ref mm, .ref nn, .int at0, .int en0])), (mm, .inl (cM, 3000, .inl (rw16 Wv))), (nn, .inl (cN, 3, .inl (rc Wv)))] H := hP
                    have hD : va_D A [(md, .inr (5, [.ref xx, .int ln, .long R, .int rd, .ref mm, .ref nn, .int at0, .int en0])), (mm, .inl (cM, 3000, .inl (rw16 Wv))), (nn, .inl (cN, 3, .inl (rc Wv)))] := hD
                    refine lv_if_lt (tgt := 139) hx hb d_Mod_nearest_132 (by decide) (fun c132 => ?_) (fun c132 => ?_)
                    · have e132 : ¬ Wv 1 ≤ Wv 0 := fun z => absurd c132 (cmpN_ge z)
                      refine lv_iconst (v := 0) hx hb d_Mod_nearest_139 (by decide) ?_
                      refine lv_istore (lv' := [(9, .int 0), (0, .ref md), (1, .int wd), (2, .int (zI (-(kLw i : Int)))), (3, .int (nI (kP i))), (5, .int (zI ((J : Int) + (0 : Nat) - kLw i))), (6, .long (lN q)), (8, .int (nI k))]) hx hb d_Mod_nearest_140 hl (by decide) rfl (fun ls hl => ?_)
                      refine lv_iload hx hb d_Mod_nearest_142 (lv_at hl 0 rfl) ?_
                      refine lv_if_eq (tgt := 153) hx hb d_Mod_nearest_144 (by decide) (fun c144 => ?_) (fun c144 => ?_)
                      · refine lv_ldc2 hx hb hown (hts _ kK_Mod_60) d_Mod_nearest_153 ?_
                        refine lv_lload hx hb d_Mod_nearest_156 (lv_at hl 6 rfl) ?_
                        refine lv_lmul hx hb d_Mod_nearest_158 ?_
                        refine tv_l (lN (2 * q)) (lN_mul 2 q) ?_
                        refine lv_iload hx hb d_Mod_nearest_159 (lv_at hl 0 rfl) ?_
                        refine lv_if_eq (tgt := 168) hx hb d_Mod_nearest_161 (by decide) (fun c161 => ?_) (fun c161 => ?_)
                        · refine lv_lconst (v := 0) hx hb d_Mod_nearest_168 (by decide) ?_
                          refine lv_ladd hx hb d_Mod_nearest_169 ?_
                          refine tv_l (lN (2 * q)) (lN_add _ 0) ?_
                          refine lv_lstore (lv' := [(6, .long (lN (2 * q))), (9, .int 0), (0, .ref md), (1, .int wd), (2, .int (zI (-(kLw i : Int)))), (3, .int (nI (kP i))), (5, .int (zI ((J : Int) + (0 : Nat) - kLw i))), (8, .int (nI k))]) hx hb d_Mod_nearest_170 hl (by decide) rfl (fun ls hl => ?_)
                          refine lv_iload hx hb d_Mod_nearest_172 (lv_at hl 7 rfl) ?_
                          refine lv_iload_n hx hb d_Mod_nearest_174 rfl (lv_at hl 5 rfl) ?_
                          refine lv_icmp_gt (tgt := 183) hx hb d_Mod_nearest_175 (by decide) (fun c175 => ?_) (fun c175 => ?_)
                          · have e175 : kP i < k := (nI_ltI (by omega) (by omega)).mp c175
                            refine lv_iinc (v := nI (k + 1)) (lv' := [(8, .int (nI (k + 1))), (6, .long (lN (2 * q))), (9, .int 0), (0, .ref md), (1, .int wd), (2, .int (zI (-(kLw i : Int)))), (3, .int (nI (kP i))), (5, .int (zI ((J : Int) + (0 : Nat) - kLw i)))]) hx hb d_Mod_nearest_183 hl (k := 7) rfl (nI_1 k) (by decide) rfl (fun ls hl => ?_)
                            refine lv_goto (tgt := 118) hx hb d_Mod_nearest_186 (by decide) ?_
                            have hz0 : (Wv) 0 = Wv 0 := by rfl
                            have hz1 : (Wv) 1 = V 1 * 2 ^ s2 * 2 ^ (kP i + 1 - (k + 1)) := by rw [hv1, show kP i + 1 - k = kP i + 1 - (k + 1) by omega]
                            have hst := hst0.2 e132
                            rw [hv1] at hst
                            rw [show kP i + 1 - k = kP i + 2 - (k + 1) by omega] at hst
                            exact ih (k + 1) (2 * q) Wv (by omega) (by omega) (by rw [hz0]; exact hst.1) (by rw [hz0]; exact hst.2) (hz1) (hok) _ _ _ (hP.sub [0, 1, 2] rfl) (hD.sub [0, 1, 2] (by decide) rfl) hS (lv_sub hl [3, 4, 5, 6, 7, 1, 0] rfl)
                          · have e175 : k ≤ kP i := by have := mt (nI_ltI (a := kP i) (b := k) (by omega) (by omega)).mpr c175; omega
                            refine lv_aload_n hx hb d_Mod_nearest_178 rfl (lv_at hl 2 rfl) ?_
                            refine lv_iconst (v := 1) hx hb d_Mod_nearest_179 (by decide) ?_
                            refine tv_i (nI 1) (rfl) ?_
                            refine ca_v [] (va_runV (As := [.int (nI 1)]) (rest := []) ⟨hx, hb, hml, hown, hts⟩ (c_Mod_halve l D E md xx mm nn cM cN Wv ln rd at0 en0 R 1 (by decide) (l2) H.size) (xV 1 hts kC_Mod_halve kM_Mod_62 kI_Mod_halve kS_Mod_halve kN_Mod rfl rfl (by decide +kernel) ⟨Nat.le_of_ble_eq_true rfl, Nat.le_of_ble_eq_true rfl⟩) ⟨ct_blind hev, va_recv hK hP (ci := 5) (q0 := 0) rfl rfl, ct_pre hev hP hK hD hS hA hE [0, 1, 2] rfl (by decide) [0, 1] rfl⟩ rfl rfl hl.1 rfl (lv_room (Nat.le_of_ble_eq_true rfl)) d_Mod_nearest_180 ⟨Nat.le_of_ble_eq_true rfl, Nat.le_of_ble_eq_true rfl⟩) hP hD hS hA [0, 1, 2] [] rfl rfl (by decide) (by decide) (fun u H locs hw hP hD hS hK1 => ?_)
                            have hP : va_P D vcl [(md, .inr (5, [.ref xx, .int ln, .long R, .int rd, .ref mm, .ref nn, .int at0, .int en0])), (mm, .inl (cM, 3000, .inl (rw16 (upR Wv 1 (Wv 1 / 2))))), (nn, .inl (cN, 3, .inl (rc (upR Wv 1 (Wv 1 / 2)))))] H := hP
                            have hD : va_D A [(md, .inr (5, [.ref xx, .int ln, .long R, .int rd, .ref mm, .ref nn, .int at0, .int en0])), (mm, .inl (cM, 3000, .inl (rw16 (upR Wv 1 (Wv 1 / 2))))), (nn, .inl (cN, 3, .inl (rc (upR Wv 1 (Wv 1 / 2)))))] := hD
                            refine lv_iinc (v := nI (k + 1)) (lv' := [(8, .int (nI (k + 1))), (6, .long (lN (2 * q))), (9, .int 0), (0, .ref md), (1, .int wd), (2, .int (zI (-(kLw i : Int)))), (3, .int (nI (kP i))), (5, .int (zI ((J : Int) + (0 : Nat) - kLw i)))]) hx hb d_Mod_nearest_183 hl (k := 7) rfl (nI_1 k) (by decide) rfl (fun ls hl => ?_)
                            refine lv_goto (tgt := 118) hx hb d_Mod_nearest_186 (by decide) ?_
                            have hz0 : (upR Wv 1 (Wv 1 / 2)) 0 = Wv 0 := by rw [upR_n (by decide)]
                            have hz1 : (upR Wv 1 (Wv 1 / 2)) 1 = V 1 * 2 ^ s2 * 2 ^ (kP i + 1 - (k + 1)) := by rw [upR_s, hv1, show kP i + 1 - k = kP i + 1 - (k + 1) + 1 by omega, nm_h]
                            have hst := hst0.2 e132
                            rw [hv1] at hst
                            rw [show kP i + 1 - k = kP i + 2 - (k + 1) by omega] at hst
                            exact ih (k + 1) (2 * q) (upR Wv 1 (Wv 1 / 2)) (by omega) (by omega) (by rw [hz0]; exact hst.1) (by rw [hz0]; exact hst.2) (hz1) (okV_up hok (Nat.le_trans (lc_half _) (hok 1 (by decide)))) _ _ _ (hP.sub [0, 1, 2] rfl) (hD.sub [0, 1, 2] (by decide) rfl) hS (lv_sub hl [3, 4, 5, 6, 7, 1, 0] rfl)
                        · exact absurd rfl c161
                      · exact absurd rfl c144
                    · have e132 : Wv 1 ≤ Wv 0 := Nat.le_of_not_lt (fun z => c132 (by rw [cmpN_lt z]; decide))
                      refine lv_iconst (v := 1) hx hb d_Mod_nearest_135 (by decide) ?_
                      refine lv_goto (tgt := 140) hx hb d_Mod_nearest_136 (by decide) ?_
                      refine lv_istore (lv' := [(9, .int 1), (0, .ref md), (1, .int wd), (2, .int (zI (-(kLw i : Int)))), (3, .int (nI (kP i))), (5, .int (zI ((J : Int) + (0 : Nat) - kLw i))), (6, .long (lN q)), (8, .int (nI k))]) hx hb d_Mod_nearest_140 hl (by decide) rfl (fun ls hl => ?_)
                      refine lv_iload hx hb d_Mod_nearest_142 (lv_at hl 0 rfl) ?_
                      refine lv_if_eq (tgt := 153) hx hb d_Mod_nearest_144 (by decide) (fun c144 => ?_) (fun c144 => ?_)
                      · exact absurd c144 (by decide)
                      · refine lv_aload_n hx hb d_Mod_nearest_147 rfl (lv_at hl 1 rfl) ?_
                        refine lv_iconst (v := 0) hx hb d_Mod_nearest_148 (by decide) ?_
                        refine tv_i (nI 0) (rfl) ?_
                        refine lv_iconst (v := 1) hx hb d_Mod_nearest_149 (by decide) ?_
                        refine tv_i (nI 1) (rfl) ?_
                        refine ca_v [] (va_runV (As := [.int (nI 0), .int (nI 1)]) (rest := []) ⟨hx, hb, hml, hown, hts⟩ (c_Mod_lessen l D E md xx mm nn cM cN Wv ln rd at0 en0 R 0 1 (by decide) (by decide) (by decide) (by omega) (by omega) (e132) H.size) (xV 2 hts kC_Mod_lessen kM_Mod_57 kI_Mod_lessen kS_Mod_lessen kN_Mod rfl rfl (by decide +kernel) ⟨Nat.le_of_ble_eq_true rfl, Nat.le_of_ble_eq_true rfl⟩) ⟨ct_blind hev, va_recv hK hP (ci := 5) (q0 := 0) rfl rfl, ct_pre hev hP hK hD hS hA hE [0, 1, 2] rfl (by decide) [0, 1] rfl⟩ rfl rfl hl.1 rfl (lv_room (Nat.le_of_ble_eq_true rfl)) d_Mod_nearest_150 ⟨Nat.le_of_ble_eq_true rfl, Nat.le_of_ble_eq_true rfl⟩) hP hD hS hA [0, 1, 2] [] rfl rfl (by decide) (by decide) (fun u H locs hw hP hD hS hK1 => ?_)
                        have hP : va_P D vcl [(md, .inr (5, [.ref xx, .int ln, .long R, .int rd, .ref mm, .ref nn, .int at0, .int en0])), (mm, .inl (cM, 3000, .inl (rw16 (upR Wv 0 (Wv 0 - Wv 1))))), (nn, .inl (cN, 3, .inl (rc (upR Wv 0 (Wv 0 - Wv 1)))))] H := hP
                        have hD : va_D A [(md, .inr (5, [.ref xx, .int ln, .long R, .int rd, .ref mm, .ref nn, .int at0, .int en0])), (mm, .inl (cM, 3000, .inl (rw16 (upR Wv 0 (Wv 0 - Wv 1))))), (nn, .inl (cN, 3, .inl (rc (upR Wv 0 (Wv 0 - Wv 1)))))] := hD
                        refine lv_ldc2 hx hb hown (hts _ kK_Mod_60) d_Mod_nearest_153 ?_
                        refine lv_lload hx hb d_Mod_nearest_156 (lv_at hl 6 rfl) ?_
                        refine lv_lmul hx hb d_Mod_nearest_158 ?_
                        refine tv_l (lN (2 * q)) (lN_mul 2 q) ?_
                        refine lv_iload hx hb d_Mod_nearest_159 (lv_at hl 0 rfl) ?_
                        refine lv_if_eq (tgt := 168) hx hb d_Mod_nearest_161 (by decide) (fun c161 => ?_) (fun c161 => ?_)
                        · exact absurd c161 (by decide)
                        · refine lv_lconst (v := 1) hx hb d_Mod_nearest_164 (by decide) ?_
                          refine lv_goto (tgt := 169) hx hb d_Mod_nearest_165 (by decide) ?_
                          refine lv_ladd hx hb d_Mod_nearest_169 ?_
                          refine tv_l (lN (2 * q + 1)) (lN_1 _) ?_
                          refine lv_lstore (lv' := [(6, .long (lN (2 * q + 1))), (9, .int 1), (0, .ref md), (1, .int wd), (2, .int (zI (-(kLw i : Int)))), (3, .int (nI (kP i))), (5, .int (zI ((J : Int) + (0 : Nat) - kLw i))), (8, .int (nI k))]) hx hb d_Mod_nearest_170 hl (by decide) rfl (fun ls hl => ?_)
                          refine lv_iload hx hb d_Mod_nearest_172 (lv_at hl 7 rfl) ?_
                          refine lv_iload_n hx hb d_Mod_nearest_174 rfl (lv_at hl 5 rfl) ?_
                          refine lv_icmp_gt (tgt := 183) hx hb d_Mod_nearest_175 (by decide) (fun c175 => ?_) (fun c175 => ?_)
                          · have e175 : kP i < k := (nI_ltI (by omega) (by omega)).mp c175
                            refine lv_iinc (v := nI (k + 1)) (lv' := [(8, .int (nI (k + 1))), (6, .long (lN (2 * q + 1))), (9, .int 1), (0, .ref md), (1, .int wd), (2, .int (zI (-(kLw i : Int)))), (3, .int (nI (kP i))), (5, .int (zI ((J : Int) + (0 : Nat) - kLw i)))]) hx hb d_Mod_nearest_183 hl (k := 7) rfl (nI_1 k) (by decide) rfl (fun ls hl => ?_)
                            refine lv_goto (tgt := 118) hx hb d_Mod_nearest_186 (by decide) ?_
                            have hz0 : (upR Wv 0 (Wv 0 - Wv 1)) 0 = Wv 0 - Wv 1 := by rw [upR_s]
                            have hz1 : (upR Wv 0 (Wv 0 - Wv 1)) 1 = V 1 * 2 ^ s2 * 2 ^ (kP i + 1 - (k + 1)) := by rw [upR_n (by decide), hv1, show kP i + 1 - k = kP i + 1 - (k + 1) by omega]
                            have hst := hst0.1 e132
                            rw [hv1] at hst
                            rw [show kP i + 1 - k = kP i + 2 - (k + 1) by omega] at hst
                            exact ih (k + 1) (2 * q + 1) (upR Wv 0 (Wv 0 - Wv 1)) (by omega) (by omega) (by rw [hz0]; rw [hv1s]; exact hst.1) (by rw [hz0]; rw [hv1s]; exact hst.2) (hz1) (okV_up hok l0) _ _ _ (hP.sub [0, 1, 2] rfl) (hD.sub [0, 1, 2] (by decide) rfl) hS (lv_sub hl [3, 4, 5, 6, 7, 1, 0] rfl)
                          · have e175 : k ≤ kP i := by have := mt (nI_ltI (a := kP i) (b := k) (by omega) (by omega)).mpr c175; omega
                            refine lv_aload_n hx hb d_Mod_nearest_178 rfl (lv_at hl 2 rfl) ?_
                            refine lv_iconst (v := 1) hx hb d_Mod_nearest_179 (by decide) ?_
                            refine tv_i (nI 1) (rfl) ?_
                            refine ca_v [] (va_runV (As := [.int (nI 1)]) (rest := []) ⟨hx, hb, hml, hown, hts⟩ (c_Mod_halve l D E md xx mm nn cM cN (upR Wv 0 (Wv 0 - Wv 1)) ln rd at0 en0 R 1 (by decide) (by rw [upR_n (by decide)]; exact l2) H.size) (xV 1 hts kC_Mod_halve kM_Mod_62 kI_Mod_halve kS_Mod_halve kN_Mod rfl rfl (by decide +kernel) ⟨Nat.le_of_ble_eq_true rfl, Nat.le_of_ble_eq_true rfl⟩) ⟨ct_blind hev, va_recv hK hP (ci := 5) (q0 := 0) rfl rfl, ct_pre hev hP hK hD hS hA hE [0, 1, 2] rfl (by decide) [0, 1] rfl⟩ rfl rfl hl.1 rfl (lv_room (Nat.le_of_ble_eq_true rfl)) d_Mod_nearest_180 ⟨Nat.le_of_ble_eq_true rfl, Nat.le_of_ble_eq_true rfl⟩) hP hD hS hA [0, 1, 2] [] rfl rfl (by decide) (by decide) (fun u H locs hw hP hD hS hK1 => ?_)
                            have hP : va_P D vcl [(md, .inr (5, [.ref xx, .int ln, .long R, .int rd, .ref mm, .ref nn, .int at0, .int en0])), (mm, .inl (cM, 3000, .inl (rw16 (upR (upR Wv 0 (Wv 0 - Wv 1)) 1 ((upR Wv 0 (Wv 0 - Wv 1)) 1 / 2))))), (nn, .inl (cN, 3, .inl (rc (upR (upR Wv 0 (Wv 0 - Wv 1)) 1 ((upR Wv 0 (Wv 0 - Wv 1)) 1 / 2)))))] H := hP
                            have hD : va_D A [(md, .inr (5, [.ref xx, .int ln, .long R, .int rd, .ref mm, .ref nn, .int at0, .int en0])), (mm, .inl (cM, 3000, .inl (rw16 (upR (upR Wv 0 (Wv 0 - Wv 1)) 1 ((upR Wv 0 (Wv 0 - Wv 1)) 1 / 2))))), (nn, .inl (cN, 3, .inl (rc (upR (upR Wv 0 (Wv 0 - Wv 1)) 1 ((upR Wv 0 (Wv 0 - Wv 1)) 1 / 2)))))] := hD
                            refine lv_iinc (v := nI (k + 1)) (lv' := [(8, .int (nI (k + 1))), (6, .long (lN (2 * q + 1))), (9, .int 1), (0, .ref md), (1, .int wd), (2, .int (zI (-(kLw i : Int)))), (3, .int (nI (kP i))), (5, .int (zI ((J : Int) + (0 : Nat) - kLw i)))]) hx hb d_Mod_nearest_183 hl (k := 7) rfl (nI_1 k) (by decide) rfl (fun ls hl => ?_)
                            refine lv_goto (tgt := 118) hx hb d_Mod_nearest_186 (by decide) ?_
                            have hz0 : (upR (upR Wv 0 (Wv 0 - Wv 1)) 1 ((upR Wv 0 (Wv 0 - Wv 1)) 1 / 2)) 0 = Wv 0 - Wv 1 := by rw [upR_n (by decide), upR_s]
                            have hz1 : (upR (upR Wv 0 (Wv 0 - Wv 1)) 1 ((upR Wv 0 (Wv 0 - Wv 1)) 1 / 2)) 1 = V 1 * 2 ^ s2 * 2 ^ (kP i + 1 - (k + 1)) := by rw [upR_s, upR_n (by decide), hv1, show kP i + 1 - k = kP i + 1 - (k + 1) + 1 by omega, nm_h]
                            have hst := hst0.1 e132
                            rw [hv1] at hst
                            rw [show kP i + 1 - k = kP i + 2 - (k + 1) by omega] at hst
                            exact ih (k + 1) (2 * q + 1) (upR (upR Wv 0 (Wv 0 - Wv 1)) 1 ((upR Wv 0 (Wv 0 - Wv 1)) 1 / 2)) (by omega) (by omega) (by rw [hz0]; rw [hv1s]; exact hst.1) (by rw [hz0]; rw [hv1s]; exact hst.2) (hz1) (okV_up (okV_up hok l0) (by rw [upR_n (by decide)]; exact Nat.le_trans (lc_half _) (hok 1 (by decide)))) _ _ _ (hP.sub [0, 1, 2] rfl) (hD.sub [0, 1, 2] (by decide) rfl) hS (lv_sub hl [3, 4, 5, 6, 7, 1, 0] rfl)
              exact L118 (kP i + 4) 0 0 (upR V1 1 (V1 1 * 2 ^ (kP i + 1))) (by omega) (by omega) (by rw [upR_n (by decide), h10]; omega) (by rw [upR_n (by decide), h10]; exact nm_lt hB (by omega)) (by rw [upR_s, h11]; rfl) (okV_up hok1 (by rw [h11, Nat.mul_assoc, ← Nat.pow_add]; exact Nat.le_trans (lc_p hbB (by omega)) (by decide))) _ _ _ (hP.sub [0, 1, 2] rfl) (hD.sub [0, 1, 2] (by decide) rfl) hS (lv_sub hl [2, 3, 4, 5, 6, 1, 0] rfl)
          refine lv_iload hx hb d_Mod_nearest_63 (lv_at hl 0 rfl) ?_
          refine lv_iload_n hx hb d_Mod_nearest_65 rfl (lv_at hl 4 rfl) ?_
          refine lv_isub hx hb d_Mod_nearest_66 ?_
          refine tv_i (zI ((bln (V 0) : Int) - bln (V 1) - kP i)) (by rw [← zI_nI, zI_sub]) ?_
          refine lv_iload_n hx hb d_Mod_nearest_67 rfl (lv_at hl 3 rfl) ?_
          refine lv_icmp_ge (tgt := 75) hx hb d_Mod_nearest_68 (by decide) (fun c68 => ?_) (fun c68 => ?_)
          · have e68 : -(kLw i : Int) ≤ (bln (V 0) : Int) - bln (V 1) - kP i := (zI_le (by omega) (by omega) (by omega) (by omega)).mp c68
            refine lv_iload hx hb d_Mod_nearest_75 (lv_at hl 0 rfl) ?_
            refine lv_iload_n hx hb d_Mod_nearest_77 rfl (lv_at hl 4 rfl) ?_
            refine lv_isub hx hb d_Mod_nearest_78 ?_
            refine tv_i (zI ((bln (V 0) : Int) - bln (V 1) - kP i)) (by rw [← zI_nI, zI_sub]) ?_
            refine tv_i (zI ((J : Int) + (0 : Nat) - kLw i)) (congrArg zI (by omega)) ?_
            refine lv_istore (lv' := [(5, .int (zI ((J : Int) + (0 : Nat) - kLw i))), (4, .int (zI ((bln (V 0) : Int) - bln (V 1)))), (0, .ref md), (1, .int wd), (2, .int (zI (-(kLw i : Int)))), (3, .int (nI (kP i)))]) hx hb d_Mod_nearest_79 hl (by decide) rfl (fun ls hl => ?_)
            refine lv_iload hx hb d_Mod_nearest_81 (lv_at hl 0 rfl) ?_
            refine lv_if_ge (tgt := 97) hx hb d_Mod_nearest_83 (by decide) (fun c83 => ?_) (fun c83 => ?_)
            · have e83 : kLw i ≤ J := by have := (zI_le (a := 0) (by omega) (by omega) (by omega) (by omega)).mp c83; omega
              refine lv_aload_n hx hb d_Mod_nearest_97 rfl (lv_at hl 2 rfl) ?_
              refine lv_iconst (v := 1) hx hb d_Mod_nearest_98 (by decide) ?_
              refine tv_i (nI 1) (rfl) ?_
              refine lv_iload hx hb d_Mod_nearest_99 (lv_at hl 0 rfl) ?_
              refine tv_i (nI (J - kLw i)) (by rw [← zI_nI]; exact congrArg zI (by omega)) ?_
              refine ca_v [] (va_runV (As := [.int (nI 1), .int (nI (J - kLw i))]) (rest := []) ⟨hx, hb, hml, hown, hts⟩ (c_Mod_raise l D E md xx mm nn cM cN V ln rd at0 en0 R 1 (J - kLw i) (by decide) (by omega) (by have := lc_b hbB; omega) H.size) (xV 2 hts kC_Mod_raise kM_Mod_50 kI_Mod_raise kS_Mod_raise kN_Mod rfl rfl (by decide +kernel) ⟨Nat.le_of_ble_eq_true rfl, Nat.le_of_ble_eq_true rfl⟩) ⟨ct_blind hev, va_recv hK hP (ci := 5) (q0 := 0) rfl rfl, ct_pre hev hP hK hD hS hA hE [0, 1, 2] rfl (by decide) [0, 1] rfl⟩ rfl rfl hl.1 rfl (lv_room (Nat.le_of_ble_eq_true rfl)) d_Mod_nearest_101 ⟨Nat.le_of_ble_eq_true rfl, Nat.le_of_ble_eq_true rfl⟩) hP hD hS hA [0, 1, 2] [] rfl rfl (by decide) (by decide) (fun u H locs hw hP hD hS hK1 => ?_)
              have hP : va_P D vcl [(md, .inr (5, [.ref xx, .int ln, .long R, .int rd, .ref mm, .ref nn, .int at0, .int en0])), (mm, .inl (cM, 3000, .inl (rw16 (upR V 1 (V 1 * 2 ^ (J - kLw i)))))), (nn, .inl (cN, 3, .inl (rc (upR V 1 (V 1 * 2 ^ (J - kLw i))))))] H := hP
              have hD : va_D A [(md, .inr (5, [.ref xx, .int ln, .long R, .int rd, .ref mm, .ref nn, .int at0, .int en0])), (mm, .inl (cM, 3000, .inl (rw16 (upR V 1 (V 1 * 2 ^ (J - kLw i)))))), (nn, .inl (cN, 3, .inl (rc (upR V 1 (V 1 * 2 ^ (J - kLw i))))))] := hD
              exact L104 1 (upR V 1 (V 1 * 2 ^ (J - kLw i))) 0 (J - kLw i) (by decide) (by rw [upR_n (by decide), Nat.pow_zero, Nat.mul_one]) (upR_s _ _ _) (okV_up hV (Nat.le_trans (lc_p hbB (by omega)) (by decide))) (by omega) (by omega) (by omega) (by omega) _ _ _ (hP.sub [0, 1, 2] rfl) (hD.sub [0, 1, 2] (by decide) rfl) hS (lv_sub hl [2, 3, 4, 5, 0] rfl)
            · have e83 : J < kLw i := by have := mt (zI_le (a := 0) (by omega) (by omega) (by omega) (by omega)).mpr c83; omega
              refine lv_aload_n hx hb d_Mod_nearest_86 rfl (lv_at hl 2 rfl) ?_
              refine lv_iconst (v := 0) hx hb d_Mod_nearest_87 (by decide) ?_
              refine tv_i (nI 0) (rfl) ?_
              refine lv_iload hx hb d_Mod_nearest_88 (lv_at hl 0 rfl) ?_
              refine lv_ineg hx hb d_Mod_nearest_90 ?_
              refine tv_i (nI (kLw i - J)) (by rw [zI_neg, ← zI_nI]; exact congrArg zI (by omega)) ?_
              refine ca_v [] (va_runV (As := [.int (nI 0), .int (nI (kLw i - J))]) (rest := []) ⟨hx, hb, hml, hown, hts⟩ (c_Mod_raise l D E md xx mm nn cM cN V ln rd at0 en0 R 0 (kLw i - J) (by decide) (by omega) (by have := lc_b hbA; omega) H.size) (xV 2 hts kC_Mod_raise kM_Mod_50 kI_Mod_raise kS_Mod_raise kN_Mod rfl rfl (by decide +kernel) ⟨Nat.le_of_ble_eq_true rfl, Nat.le_of_ble_eq_true rfl⟩) ⟨ct_blind hev, va_recv hK hP (ci := 5) (q0 := 0) rfl rfl, ct_pre hev hP hK hD hS hA hE [0, 1, 2] rfl (by decide) [0, 1] rfl⟩ rfl rfl hl.1 rfl (lv_room (Nat.le_of_ble_eq_true rfl)) d_Mod_nearest_91 ⟨Nat.le_of_ble_eq_true rfl, Nat.le_of_ble_eq_true rfl⟩) hP hD hS hA [0, 1, 2] [] rfl rfl (by decide) (by decide) (fun u H locs hw hP hD hS hK1 => ?_)
              have hP : va_P D vcl [(md, .inr (5, [.ref xx, .int ln, .long R, .int rd, .ref mm, .ref nn, .int at0, .int en0])), (mm, .inl (cM, 3000, .inl (rw16 (upR V 0 (V 0 * 2 ^ (kLw i - J)))))), (nn, .inl (cN, 3, .inl (rc (upR V 0 (V 0 * 2 ^ (kLw i - J))))))] H := hP
              have hD : va_D A [(md, .inr (5, [.ref xx, .int ln, .long R, .int rd, .ref mm, .ref nn, .int at0, .int en0])), (mm, .inl (cM, 3000, .inl (rw16 (upR V 0 (V 0 * 2 ^ (kLw i - J)))))), (nn, .inl (cN, 3, .inl (rc (upR V 0 (V 0 * 2 ^ (kLw i - J))))))] := hD
              refine lv_goto (tgt := 104) hx hb d_Mod_nearest_94 (by decide) ?_
              exact L104 1 (upR V 0 (V 0 * 2 ^ (kLw i - J))) (kLw i - J) 0 (by decide) (upR_s _ _ _) (by rw [upR_n (by decide), Nat.pow_zero, Nat.mul_one]) (okV_up hV (Nat.le_trans (lc_p hbA (by omega)) (by decide))) (by omega) (by omega) (by omega) (by omega) _ _ _ (hP.sub [0, 1, 2] rfl) (hD.sub [0, 1, 2] (by decide) rfl) hS (lv_sub hl [2, 3, 4, 5, 0] rfl)
          · have e68 : (bln (V 0) : Int) - bln (V 1) - kP i < -(kLw i : Int) := by have := mt (zI_le (by omega) (by omega) (by omega) (by omega)).mpr c68; omega
            refine lv_iload_n hx hb d_Mod_nearest_71 rfl (lv_at hl 3 rfl) ?_
            refine tv_i (zI ((J : Int) + (0 : Nat) - kLw i)) (congrArg zI (by omega)) ?_
            refine lv_goto (tgt := 79) hx hb d_Mod_nearest_72 (by decide) ?_
            refine lv_istore (lv' := [(5, .int (zI ((J : Int) + (0 : Nat) - kLw i))), (4, .int (zI ((bln (V 0) : Int) - bln (V 1)))), (0, .ref md), (1, .int wd), (2, .int (zI (-(kLw i : Int)))), (3, .int (nI (kP i)))]) hx hb d_Mod_nearest_79 hl (by decide) rfl (fun ls hl => ?_)
            refine lv_iload hx hb d_Mod_nearest_81 (lv_at hl 0 rfl) ?_
            refine lv_if_ge (tgt := 97) hx hb d_Mod_nearest_83 (by decide) (fun c83 => ?_) (fun c83 => ?_)
            · have e83 : kLw i ≤ J := by have := (zI_le (a := 0) (by omega) (by omega) (by omega) (by omega)).mp c83; omega
              refine lv_aload_n hx hb d_Mod_nearest_97 rfl (lv_at hl 2 rfl) ?_
              refine lv_iconst (v := 1) hx hb d_Mod_nearest_98 (by decide) ?_
              refine tv_i (nI 1) (rfl) ?_
              refine lv_iload hx hb d_Mod_nearest_99 (lv_at hl 0 rfl) ?_
              refine tv_i (nI (J - kLw i)) (by rw [← zI_nI]; exact congrArg zI (by omega)) ?_
              refine ca_v [] (va_runV (As := [.int (nI 1), .int (nI (J - kLw i))]) (rest := []) ⟨hx, hb, hml, hown, hts⟩ (c_Mod_raise l D E md xx mm nn cM cN V ln rd at0 en0 R 1 (J - kLw i) (by decide) (by omega) (by have := lc_b hbB; omega) H.size) (xV 2 hts kC_Mod_raise kM_Mod_50 kI_Mod_raise kS_Mod_raise kN_Mod rfl rfl (by decide +kernel) ⟨Nat.le_of_ble_eq_true rfl, Nat.le_of_ble_eq_true rfl⟩) ⟨ct_blind hev, va_recv hK hP (ci := 5) (q0 := 0) rfl rfl, ct_pre hev hP hK hD hS hA hE [0, 1, 2] rfl (by decide) [0, 1] rfl⟩ rfl rfl hl.1 rfl (lv_room (Nat.le_of_ble_eq_true rfl)) d_Mod_nearest_101 ⟨Nat.le_of_ble_eq_true rfl, Nat.le_of_ble_eq_true rfl⟩) hP hD hS hA [0, 1, 2] [] rfl rfl (by decide) (by decide) (fun u H locs hw hP hD hS hK1 => ?_)
              have hP : va_P D vcl [(md, .inr (5, [.ref xx, .int ln, .long R, .int rd, .ref mm, .ref nn, .int at0, .int en0])), (mm, .inl (cM, 3000, .inl (rw16 (upR V 1 (V 1 * 2 ^ (J - kLw i)))))), (nn, .inl (cN, 3, .inl (rc (upR V 1 (V 1 * 2 ^ (J - kLw i))))))] H := hP
              have hD : va_D A [(md, .inr (5, [.ref xx, .int ln, .long R, .int rd, .ref mm, .ref nn, .int at0, .int en0])), (mm, .inl (cM, 3000, .inl (rw16 (upR V 1 (V 1 * 2 ^ (J - kLw i)))))), (nn, .inl (cN, 3, .inl (rc (upR V 1 (V 1 * 2 ^ (J - kLw i))))))] := hD
              exact L104 1 (upR V 1 (V 1 * 2 ^ (J - kLw i))) 0 (J - kLw i) (by decide) (by rw [upR_n (by decide), Nat.pow_zero, Nat.mul_one]) (upR_s _ _ _) (okV_up hV (Nat.le_trans (lc_p hbB (by omega)) (by decide))) (by omega) (by omega) (by omega) (by omega) _ _ _ (hP.sub [0, 1, 2] rfl) (hD.sub [0, 1, 2] (by decide) rfl) hS (lv_sub hl [2, 3, 4, 5, 0] rfl)
            · have e83 : J < kLw i := by have := mt (zI_le (a := 0) (by omega) (by omega) (by omega) (by omega)).mpr c83; omega
              refine lv_aload_n hx hb d_Mod_nearest_86 rfl (lv_at hl 2 rfl) ?_
              refine lv_iconst (v := 0) hx hb d_Mod_nearest_87 (by decide) ?_
              refine tv_i (nI 0) (rfl) ?_
              refine lv_iload hx hb d_Mod_nearest_88 (lv_at hl 0 rfl) ?_
              refine lv_ineg hx hb d_Mod_nearest_90 ?_
              refine tv_i (nI (kLw i - J)) (by rw [zI_neg, ← zI_nI]; exact congrArg zI (by omega)) ?_
              refine ca_v [] (va_runV (As := [.int (nI 0), .int (nI (kLw i - J))]) (rest := []) ⟨hx, hb, hml, hown, hts⟩ (c_Mod_raise l D E md xx mm nn cM cN V ln rd at0 en0 R 0 (kLw i - J) (by decide) (by omega) (by have := lc_b hbA; omega) H.size) (xV 2 hts kC_Mod_raise kM_Mod_50 kI_Mod_raise kS_Mod_raise kN_Mod rfl rfl (by decide +kernel) ⟨Nat.le_of_ble_eq_true rfl, Nat.le_of_ble_eq_true rfl⟩) ⟨ct_blind hev, va_recv hK hP (ci := 5) (q0 := 0) rfl rfl, ct_pre hev hP hK hD hS hA hE [0, 1, 2] rfl (by decide) [0, 1] rfl⟩ rfl rfl hl.1 rfl (lv_room (Nat.le_of_ble_eq_true rfl)) d_Mod_nearest_91 ⟨Nat.le_of_ble_eq_true rfl, Nat.le_of_ble_eq_true rfl⟩) hP hD hS hA [0, 1, 2] [] rfl rfl (by decide) (by decide) (fun u H locs hw hP hD hS hK1 => ?_)
              have hP : va_P D vcl [(md, .inr (5, [.ref xx, .int ln, .long R, .int rd, .ref mm, .ref nn, .int at0, .int en0])), (mm, .inl (cM, 3000, .inl (rw16 (upR V 0 (V 0 * 2 ^ (kLw i - J)))))), (nn, .inl (cN, 3, .inl (rc (upR V 0 (V 0 * 2 ^ (kLw i - J))))))] H := hP
              have hD : va_D A [(md, .inr (5, [.ref xx, .int ln, .long R, .int rd, .ref mm, .ref nn, .int at0, .int en0])), (mm, .inl (cM, 3000, .inl (rw16 (upR V 0 (V 0 * 2 ^ (kLw i - J)))))), (nn, .inl (cN, 3, .inl (rc (upR V 0 (V 0 * 2 ^ (kLw i - J))))))] := hD
              refine lv_goto (tgt := 104) hx hb d_Mod_nearest_94 (by decide) ?_
              exact L104 1 (upR V 0 (V 0 * 2 ^ (kLw i - J))) (kLw i - J) 0 (by decide) (upR_s _ _ _) (by rw [upR_n (by decide), Nat.pow_zero, Nat.mul_one]) (okV_up hV (Nat.le_trans (lc_p hbA (by omega)) (by decide))) (by omega) (by omega) (by omega) (by omega) _ _ _ (hP.sub [0, 1, 2] rfl) (hD.sub [0, 1, 2] (by decide) rfl) hS (lv_sub hl [2, 3, 4, 5, 0] rfl)
        · have e55 : 1100 < (bln (V 0) : Int) - bln (V 1) := by have := mt (zI_le (b := 1100) (by omega) (by omega) (by decide) (by decide)).mpr c55; omega
          refine lv_iload_n hx hb d_Mod_nearest_58 rfl (lv_at hl 2 rfl) ?_
          refine ca_l [(md, .inr (5, [.ref xx, .int ln, .long R, .int rd, .ref mm, .ref nn, .int at0, .int en0])), (mm, .inl (cM, 3000, .inl (rw16 V))), (nn, .inl (cN, 3, .inl (rc V)))] (va_runS (As := [.int wd]) (rest := []) ⟨hx, hb, hml, hown, hts⟩ (c_Mod_infinite l D E wd H.size) (xS 1 hts kC_Mod_infinite kM_Mod_46 kT_Mod_infinite kN_Mod rfl rfl (by decide +kernel) ⟨Nat.le_of_ble_eq_true rfl, Nat.le_of_ble_eq_true rfl⟩) ⟨ct_blind hev, ct_pre hev hP hK hD hS hA hE [] rfl (by decide) [] rfl⟩ rfl rfl hl.1 rfl (lv_room (Nat.le_of_ble_eq_true rfl)) d_Mod_nearest_59 ⟨Nat.le_of_ble_eq_true rfl, Nat.le_of_ble_eq_true rfl⟩) hP hD hS hA [] [0, 1, 2] rfl rfl (by decide) (by decide) (fun rv u H locs hw hP hD hS hK1 => ?_)
          subst hw
          have hP : va_P D vcl [(md, .inr (5, [.ref xx, .int ln, .long R, .int rd, .ref mm, .ref nn, .int at0, .int en0])), (mm, .inl (cM, 3000, .inl (rw16 V))), (nn, .inl (cN, 3, .inl (rc V)))] H := hP
          have hD : va_D A [(md, .inr (5, [.ref xx, .int ln, .long R, .int rd, .ref mm, .ref nn, .int at0, .int en0])), (mm, .inl (cM, 3000, .inl (rw16 V))), (nn, .inl (cN, 3, .inl (rc V)))] := hD
          exact rt_l hx hb hrt hlocks (V) (⟨by rw [nm_big e6 hB (by omega), hwd]; exact kf_I i hi, hV⟩) (hP.sub [0, 1, 2] rfl) (hK.sub [0, 1] rfl) (hD.sub [0, 1, 2] (by decide) rfl) hS d_Mod_nearest_62
    refine lv_iload_n hx hb d_Mod_nearest_11 rfl (lv_at hl 1 rfl) ?_
    refine lv_if_eq (tgt := 21) hx hb d_Mod_nearest_12 (by decide) (fun c12 => ?_) (fun c12 => ?_)
    · have e12 : i = 1 := by rw [← hwd]; exact if_pos c12
      refine lv_sipush (v := -149) hx hb d_Mod_nearest_21 (by decide) ?_
      refine tv_i (zI (-(kLw i : Int))) (by rw [e12]; decide) ?_
      refine lv_istore_n (lv' := [(2, .int (zI (-(kLw i : Int)))), (0, .ref md), (1, .int wd)]) hx hb d_Mod_nearest_24 rfl hl (by decide) rfl (fun ls hl => ?_)
      refine lv_iload_n hx hb d_Mod_nearest_25 rfl (lv_at hl 2 rfl) ?_
      refine lv_if_eq (tgt := 34) hx hb d_Mod_nearest_26 (by decide) (fun c26 => ?_) (fun c26 => ?_)
      · refine lv_bipush (v := 24) hx hb d_Mod_nearest_34 (by decide) ?_
        refine tv_i (nI (kP i)) (by rw [e12]; rfl) ?_
        refine lv_istore_n (lv' := [(3, .int (nI (kP i))), (2, .int (zI (-(kLw i : Int)))), (0, .ref md), (1, .int wd)]) hx hb d_Mod_nearest_36 rfl hl (by decide) rfl (fun ls hl => ?_)
        exact L37 1 0 (by decide)  _ _ _ (hP.sub [0, 1, 2] rfl) (hD.sub [0, 1, 2] (by decide) rfl) hS (lv_sub hl [2, 3, 1, 0] rfl)
      · exact absurd c12 c26
    · have e12 : i = 0 := by rw [← hwd]; exact if_neg c12
      refine lv_sipush (v := -1074) hx hb d_Mod_nearest_15 (by decide) ?_
      refine tv_i (zI (-(kLw i : Int))) (by rw [e12]; decide) ?_
      refine lv_goto (tgt := 24) hx hb d_Mod_nearest_18 (by decide) ?_
      refine lv_istore_n (lv' := [(2, .int (zI (-(kLw i : Int)))), (0, .ref md), (1, .int wd)]) hx hb d_Mod_nearest_24 rfl hl (by decide) rfl (fun ls hl => ?_)
      refine lv_iload_n hx hb d_Mod_nearest_25 rfl (lv_at hl 2 rfl) ?_
      refine lv_if_eq (tgt := 34) hx hb d_Mod_nearest_26 (by decide) (fun c26 => ?_) (fun c26 => ?_)
      · exact absurd c26 c12
      · refine lv_bipush (v := 53) hx hb d_Mod_nearest_29 (by decide) ?_
        refine tv_i (nI (kP i)) (by rw [e12]; rfl) ?_
        refine lv_goto (tgt := 36) hx hb d_Mod_nearest_31 (by decide) ?_
        refine lv_istore_n (lv' := [(3, .int (nI (kP i))), (2, .int (zI (-(kLw i : Int)))), (0, .ref md), (1, .int wd)]) hx hb d_Mod_nearest_36 rfl hl (by decide) rfl (fun ls hl => ?_)
        exact L37 1 0 (by decide)  _ _ _ (hP.sub [0, 1, 2] rfl) (hD.sub [0, 1, 2] (by decide) rfl) hS (lv_sub hl [2, 3, 1, 0] rfl)
  · have e6 : V 0 = 0 := lc_0.mp ((nI_eq0 (by have := hV 0 (by decide); omega)).mp c6)
    refine lv_lconst (v := 0) hx hb d_Mod_nearest_9 (by decide) ?_
    exact rt_l hx hb hrt hlocks (V) (⟨by rw [e6, Nat.zero_mul, rn_0]; rfl, hV⟩) (hP.sub [0, 1, 2] rfl) (hK.sub [0, 1] rfl) (hD.sub [0, 1, 2] (by decide) rfl) hS d_Mod_nearest_10
