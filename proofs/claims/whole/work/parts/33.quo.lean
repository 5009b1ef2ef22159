theorem d_Rea_quotient_0 : decode b_Rea_quotient 0 = .ok (.iload 5, 2) := by decide +kernel
theorem d_Rea_quotient_2 : decode b_Rea_quotient 2 = .ok (.ifCond .eq 9, 3) := by decide +kernel
theorem d_Rea_quotient_5 : decode b_Rea_quotient 5 = .ok (.getstatic 50, 3) := by decide +kernel
theorem d_Rea_quotient_8 : decode b_Rea_quotient 8 = .ok (.goto 6, 3) := by decide +kernel
theorem d_Rea_quotient_11 : decode b_Rea_quotient 11 = .ok (.getstatic 60, 3) := by decide +kernel
theorem d_Rea_quotient_14 : decode b_Rea_quotient 14 = .ok (.astore 6, 2) := by decide +kernel
theorem d_Rea_quotient_16 : decode b_Rea_quotient 16 = .ok (.lload_n 3, 1) := by decide +kernel
theorem d_Rea_quotient_17 : decode b_Rea_quotient 17 = .ok (.lconst 0, 1) := by decide +kernel
theorem d_Rea_quotient_18 : decode b_Rea_quotient 18 = .ok (.lcmp, 1) := by decide +kernel
theorem d_Rea_quotient_19 : decode b_Rea_quotient 19 = .ok (.ifCond .ne 39, 3) := by decide +kernel
theorem d_Rea_quotient_22 : decode b_Rea_quotient 22 = .ok (.lload_n 1, 1) := by decide +kernel
theorem d_Rea_quotient_23 : decode b_Rea_quotient 23 = .ok (.lconst 0, 1) := by decide +kernel
theorem d_Rea_quotient_24 : decode b_Rea_quotient 24 = .ok (.lcmp, 1) := by decide +kernel
theorem d_Rea_quotient_25 : decode b_Rea_quotient 25 = .ok (.ifCond .ne 11, 3) := by decide +kernel
theorem d_Rea_quotient_28 : decode b_Rea_quotient 28 = .ok (.aload 6, 2) := by decide +kernel
theorem d_Rea_quotient_30 : decode b_Rea_quotient 30 = .ok (.getfield 67, 3) := by decide +kernel
theorem d_Rea_quotient_33 : decode b_Rea_quotient 33 = .ok (.goto 24, 3) := by decide +kernel
theorem d_Rea_quotient_36 : decode b_Rea_quotient 36 = .ok (.aload 6, 2) := by decide +kernel
theorem d_Rea_quotient_38 : decode b_Rea_quotient 38 = .ok (.aload 6, 2) := by decide +kernel
theorem d_Rea_quotient_40 : decode b_Rea_quotient 40 = .ok (.getfield 70, 3) := by decide +kernel
theorem d_Rea_quotient_43 : decode b_Rea_quotient 43 = .ok (.lload_n 1, 1) := by decide +kernel
theorem d_Rea_quotient_44 : decode b_Rea_quotient 44 = .ok (.lconst 0, 1) := by decide +kernel
theorem d_Rea_quotient_45 : decode b_Rea_quotient 45 = .ok (.lcmp, 1) := by decide +kernel
theorem d_Rea_quotient_46 : decode b_Rea_quotient 46 = .ok (.ifCond .ge 7, 3) := by decide +kernel
theorem d_Rea_quotient_49 : decode b_Rea_quotient 49 = .ok (.iconst 1, 1) := by decide +kernel
theorem d_Rea_quotient_50 : decode b_Rea_quotient 50 = .ok (.goto 4, 3) := by decide +kernel
theorem d_Rea_quotient_53 : decode b_Rea_quotient 53 = .ok (.iconst 0, 1) := by decide +kernel
theorem d_Rea_quotient_54 : decode b_Rea_quotient 54 = .ok (.invokevirtual 73, 3) := by decide +kernel
theorem d_Rea_quotient_57 : decode b_Rea_quotient 57 = .ok (.lreturn, 1) := by decide +kernel
theorem d_Rea_quotient_58 : decode b_Rea_quotient 58 = .ok (.lload_n 1, 1) := by decide +kernel
theorem d_Rea_quotient_59 : decode b_Rea_quotient 59 = .ok (.lconst 0, 1) := by decide +kernel
theorem d_Rea_quotient_60 : decode b_Rea_quotient 60 = .ok (.lcmp, 1) := by decide +kernel
theorem d_Rea_quotient_61 : decode b_Rea_quotient 61 = .ok (.ifCond .ne 5, 3) := by decide +kernel
theorem d_Rea_quotient_64 : decode b_Rea_quotient 64 = .ok (.lconst 0, 1) := by decide +kernel
theorem d_Rea_quotient_65 : decode b_Rea_quotient 65 = .ok (.lreturn, 1) := by decide +kernel
theorem d_Rea_quotient_66 : decode b_Rea_quotient 66 = .ok (.aload_n 0, 1) := by decide +kernel
theorem d_Rea_quotient_67 : decode b_Rea_quotient 67 = .ok (.getfield 32, 3) := by decide +kernel
theorem d_Rea_quotient_70 : decode b_Rea_quotient 70 = .ok (.getfield 77, 3) := by decide +kernel
theorem d_Rea_quotient_73 : decode b_Rea_quotient 73 = .ok (.lload_n 1, 1) := by decide +kernel
theorem d_Rea_quotient_74 : decode b_Rea_quotient 74 = .ok (.lconst 0, 1) := by decide +kernel
theorem d_Rea_quotient_75 : decode b_Rea_quotient 75 = .ok (.lcmp, 1) := by decide +kernel
theorem d_Rea_quotient_76 : decode b_Rea_quotient 76 = .ok (.ifCond .ge 8, 3) := by decide +kernel
theorem d_Rea_quotient_79 : decode b_Rea_quotient 79 = .ok (.lload_n 1, 1) := by decide +kernel
theorem d_Rea_quotient_80 : decode b_Rea_quotient 80 = .ok (.lneg, 1) := by decide +kernel
theorem d_Rea_quotient_81 : decode b_Rea_quotient 81 = .ok (.goto 4, 3) := by decide +kernel
theorem d_Rea_quotient_84 : decode b_Rea_quotient 84 = .ok (.lload_n 1, 1) := by decide +kernel
theorem d_Rea_quotient_85 : decode b_Rea_quotient 85 = .ok (.invokevirtual 83, 3) := by decide +kernel
theorem d_Rea_quotient_88 : decode b_Rea_quotient 88 = .ok (.aload_n 0, 1) := by decide +kernel
theorem d_Rea_quotient_89 : decode b_Rea_quotient 89 = .ok (.getfield 32, 3) := by decide +kernel
theorem d_Rea_quotient_92 : decode b_Rea_quotient 92 = .ok (.getfield 89, 3) := by decide +kernel
theorem d_Rea_quotient_95 : decode b_Rea_quotient 95 = .ok (.lload_n 3, 1) := by decide +kernel
theorem d_Rea_quotient_96 : decode b_Rea_quotient 96 = .ok (.lconst 0, 1) := by decide +kernel
theorem d_Rea_quotient_97 : decode b_Rea_quotient 97 = .ok (.lcmp, 1) := by decide +kernel
theorem d_Rea_quotient_98 : decode b_Rea_quotient 98 = .ok (.ifCond .ge 8, 3) := by decide +kernel
theorem d_Rea_quotient_101 : decode b_Rea_quotient 101 = .ok (.lload_n 3, 1) := by decide +kernel
theorem d_Rea_quotient_102 : decode b_Rea_quotient 102 = .ok (.lneg, 1) := by decide +kernel
theorem d_Rea_quotient_103 : decode b_Rea_quotient 103 = .ok (.goto 4, 3) := by decide +kernel
theorem d_Rea_quotient_106 : decode b_Rea_quotient 106 = .ok (.lload_n 3, 1) := by decide +kernel
theorem d_Rea_quotient_107 : decode b_Rea_quotient 107 = .ok (.invokevirtual 83, 3) := by decide +kernel
theorem d_Rea_quotient_110 : decode b_Rea_quotient 110 = .ok (.aload 6, 2) := by decide +kernel
theorem d_Rea_quotient_112 : decode b_Rea_quotient 112 = .ok (.aload_n 0, 1) := by decide +kernel
theorem d_Rea_quotient_113 : decode b_Rea_quotient 113 = .ok (.getfield 32, 3) := by decide +kernel
theorem d_Rea_quotient_116 : decode b_Rea_quotient 116 = .ok (.aload 6, 2) := by decide +kernel
theorem d_Rea_quotient_118 : decode b_Rea_quotient 118 = .ok (.iconst 0, 1) := by decide +kernel
theorem d_Rea_quotient_119 : decode b_Rea_quotient 119 = .ok (.invokevirtual 92, 3) := by decide +kernel
theorem d_Rea_quotient_122 : decode b_Rea_quotient 122 = .ok (.lload_n 1, 1) := by decide +kernel
theorem d_Rea_quotient_123 : decode b_Rea_quotient 123 = .ok (.lconst 0, 1) := by decide +kernel
theorem d_Rea_quotient_124 : decode b_Rea_quotient 124 = .ok (.lcmp, 1) := by decide +kernel
theorem d_Rea_quotient_125 : decode b_Rea_quotient 125 = .ok (.ifCond .ge 7, 3) := by decide +kernel
theorem d_Rea_quotient_128 : decode b_Rea_quotient 128 = .ok (.iconst 1, 1) := by decide +kernel
theorem d_Rea_quotient_129 : decode b_Rea_quotient 129 = .ok (.goto 4, 3) := by decide +kernel
theorem d_Rea_quotient_132 : decode b_Rea_quotient 132 = .ok (.iconst 0, 1) := by decide +kernel
theorem d_Rea_quotient_133 : decode b_Rea_quotient 133 = .ok (.lload_n 3, 1) := by decide +kernel
theorem d_Rea_quotient_134 : decode b_Rea_quotient 134 = .ok (.lconst 0, 1) := by decide +kernel
theorem d_Rea_quotient_135 : decode b_Rea_quotient 135 = .ok (.lcmp, 1) := by decide +kernel
theorem d_Rea_quotient_136 : decode b_Rea_quotient 136 = .ok (.ifCond .ge 7, 3) := by decide +kernel
theorem d_Rea_quotient_139 : decode b_Rea_quotient 139 = .ok (.iconst 1, 1) := by decide +kernel
theorem d_Rea_quotient_140 : decode b_Rea_quotient 140 = .ok (.goto 4, 3) := by decide +kernel
theorem d_Rea_quotient_143 : decode b_Rea_quotient 143 = .ok (.iconst 0, 1) := by decide +kernel
theorem d_Rea_quotient_144 : decode b_Rea_quotient 144 = .ok (.if_icmp .eq 7, 3) := by decide +kernel
theorem d_Rea_quotient_147 : decode b_Rea_quotient 147 = .ok (.iconst 1, 1) := by decide +kernel
theorem d_Rea_quotient_148 : decode b_Rea_quotient 148 = .ok (.goto 4, 3) := by decide +kernel
theorem d_Rea_quotient_151 : decode b_Rea_quotient 151 = .ok (.iconst 0, 1) := by decide +kernel
theorem d_Rea_quotient_152 : decode b_Rea_quotient 152 = .ok (.invokevirtual 73, 3) := by decide +kernel
theorem d_Rea_quotient_155 : decode b_Rea_quotient 155 = .ok (.lreturn, 1) := by decide +kernel
set_option maxHeartbeats 4000000 in
set_option maxRecDepth 100000 in
theorem c_Rea_quotient (l : Launch) (D : va_G) (E : evD) (r x nm h q t ta b ba : Nat) (cC cA cB : ClassId) (T : Nat → Nat) (n : Nat) (R : Int64) (fd : Int32) (v1 v2 v3 v4 v5 v6 v7 g0 gs0 kp0 pl0 nv mv : Int32) (f g : Nat → Int32) (aa bb : Nat) (ha64 : aa < 2 ^ 64) (hb64 : bb < 2 ^ 64) (wd : Int32) : Cl (S := (Int32 × Int32 × Int32 × Int32 × Int32 × Int32 × Int32) × (Int32 × Int32 × Int32 × Int32) × ((Nat → Int32) × Int32 × (Nat → Int32) × Int32)) l y_Rea_quotient (wz y_Rea_quotient b_Rea_quotient 7 (some .long)) ({ frames := 3, cells := 0, slots := 0, locals := 84 }) D vcl (ev1 E) [.ref r, .long (lN aa), .long (lN bb), .int wd] [(cC, .char), (cA, .int), (cB, .int)] [(r, .inr (4, [.ref x, .ref nm, .ref h, .ref q, .int (nI n), .long R, .int fd])), (x, .inl (cC, 2400, .inl (tx T))), (nm, .inr (3, [.ref x, .int v1, .int v2, .int v3, .int v4, .int v5, .int v6, .int v7])), (h, .inr (1, [.ref q, .int g0, .int gs0, .int kp0, .int pl0])), (q, .inr (2, [.ref t, .ref b])), (t, .inr (0, [.ref ta, .int nv])), (ta, .inl (cA, 96, .inl f)), (b, .inr (0, [.ref ba, .int mv])), (ba, .inl (cB, 96, .inl g))] 0 0 (fun (w : Int64) (_ : (Int32 × Int32 × Int32 × Int32 × Int32 × Int32 × Int32) × (Int32 × Int32 × Int32 × Int32) × ((Nat → Int32) × Int32 × (Nat → Int32) × Int32)) => w = qtN (knd wd) aa bb) (fun _ => [(cC, .char), (cA, .int), (cB, .int)]) (fun u : (Int32 × Int32 × Int32 × Int32 × Int32 × Int32 × Int32) × (Int32 × Int32 × Int32 × Int32) × ((Nat → Int32) × Int32 × (Nat → Int32) × Int32) => [(r, .inr (4, [.ref x, .ref nm, .ref h, .ref q, .int (nI n), .long R, .int fd])), (x, .inl (cC, 2400, .inl (tx T))), (nm, .inr (3, [.ref x, .int u.1.1, .int u.1.2.1, .int u.1.2.2.1, .int u.1.2.2.2.1, .int u.1.2.2.2.2.1, .int u.1.2.2.2.2.2.1, .int u.1.2.2.2.2.2.2])), (h, .inr (1, [.ref q, .int u.2.1.1, .int u.2.1.2.1, .int u.2.1.2.2.1, .int u.2.1.2.2.2])), (q, .inr (2, [.ref t, .ref b])), (t, .inr (0, [.ref ta, .int u.2.2.2.1])), (ta, .inl (cA, 96, .inl u.2.2.1)), (b, .inr (0, [.ref ba, .int u.2.2.2.2.2])), (ba, .inl (cB, 96, .inl u.2.2.2.2.1))]) := by
  have hev := ev1_ok E
  unfold Cl
  refine ct_of (y := y_Rea_quotient) (av := [.ref r, .long (lN aa), .long (lN bb), .int wd]) (cc := b_Rea_quotient) (maxL := 7) (ret := (some .long)) (Qc := fun A => va_Ql (S := (Int32 × Int32 × Int32 × Int32 × Int32 × Int32 × Int32) × (Int32 × Int32 × Int32 × Int32) × ((Nat → Int32) × Int32 × (Nat → Int32) × Int32)) (fun (w : Int64) (_ : (Int32 × Int32 × Int32 × Int32 × Int32 × Int32 × Int32) × (Int32 × Int32 × Int32 × Int32) × ((Nat → Int32) × Int32 × (Nat → Int32) × Int32)) => w = qtN (knd wd) aa bb) (fun u tS => ctB D vcl ((fun _ => [(cC, .char), (cA, .int), (cB, .int)]) u) ((fun u : (Int32 × Int32 × Int32 × Int32 × Int32 × Int32 × Int32) × (Int32 × Int32 × Int32 × Int32) × ((Nat → Int32) × Int32 × (Nat → Int32) × Int32) => [(r, .inr (4, [.ref x, .ref nm, .ref h, .ref q, .int (nI n), .long R, .int fd])), (x, .inl (cC, 2400, .inl (tx T))), (nm, .inr (3, [.ref x, .int u.1.1, .int u.1.2.1, .int u.1.2.2.1, .int u.1.2.2.2.1, .int u.1.2.2.2.2.1, .int u.1.2.2.2.2.2.1, .int u.1.2.2.2.2.2.2])), (h, .inr (1, [.ref q, .int u.2.1.1, .int u.2.1.2.1, .int u.2.1.2.2.1, .int u.2.1.2.2.2])), (q, .inr (2, [.ref t, .ref b])), (t, .inr (0, [.ref ta, .int u.2.2.2.1])), (ta, .inl (cA, 96, .inl u.2.2.1)), (b, .inr (0, [.ref ba, .int u.2.2.2.2.2])), (ba, .inl (cB, 96, .inl u.2.2.2.2.1))]) u) A tS) A) (by decide) rfl (Nat.le_of_ble_eq_true rfl) ?_
  intro p ee s m below meth cde ls A H locs hx hb hml hrt hlocks hown hin hts hA hP hK hD hS hE hl
  have hown : s.vm.findClass R_Rea = some m.cls := hown
  have hts := wz_g hts
  have hl : lv_has ls 7 [(0, .ref r), (1, .long (lN aa)), (3, .long (lN bb)), (5, .int wd)] := hl
  refine lv_iload hx hb d_Rea_quotient_0 (lv_at hl 3 rfl) ?_
  refine lv_if_eq (tgt := 11) hx hb d_Rea_quotient_2 (by decide) (fun c2 => ?_) (fun c2 => ?_)
  · have e2 : knd wd = 1 := by unfold knd; rw [if_pos c2]
    refine va_gets hx hb (hE.2.1.1 1 (by decide)).1 hS hown (hts _ kF_Rea_60) (fun _ h9 => h9) d_Rea_quotient_11 ?_
    refine lv_astore (lv' := [(6, .ref (E.1 1)), (0, .ref r), (1, .long (lN aa)), (3, .long (lN bb)), (5, .int wd)]) hx hb d_Rea_quotient_14 hl (by decide) rfl (fun ls hl => ?_)
    refine lv_lload_n hx hb d_Rea_quotient_16 rfl (lv_at hl 3 rfl) ?_
    refine lv_lconst (v := 0) hx hb d_Rea_quotient_17 (by decide) ?_
    refine W.lcmp hx hb d_Rea_quotient_18 ?_
    refine lv_if_ne (tgt := 58) hx hb d_Rea_quotient_19 (by decide) (fun c19 => ?_) (fun c19 => ?_)
    · have e19 : bb ≠ 0 := fun z => c19 ((lg_cmp_eq _ _).mpr (by rw [z]; rfl))
      refine lv_lload_n hx hb d_Rea_quotient_58 rfl (lv_at hl 2 rfl) ?_
      refine lv_lconst (v := 0) hx hb d_Rea_quotient_59 (by decide) ?_
      refine W.lcmp hx hb d_Rea_quotient_60 ?_
      refine lv_if_ne (tgt := 66) hx hb d_Rea_quotient_61 (by decide) (fun c61 => ?_) (fun c61 => ?_)
      · have e61 : aa ≠ 0 := fun z => c61 ((lg_cmp_eq _ _).mpr (by rw [z]; rfl))
        refine lv_aload_n hx hb d_Rea_quotient_66 rfl (lv_at hl 1 rfl) ?_
        refine va_get (D := D) (ci := 4) (v := .ref q) (C := R_Rea) (T := F_Rea) (N := 7) hx hb hts w_Rea hown hK hP 0 rfl rfl 3 (by decide) (hts _ kF_Rea_32) (fun _ h9 => h9) rfl d_Rea_quotient_67 ?_
        refine va_get (D := D) (ci := 2) (v := .ref t) (C := R_Fra) (T := F_Fra) (N := 2) hx hb hts w_Fra hown hK hP 4 rfl rfl 0 (by decide) (hts _ kF_Rea_77) (fun _ h9 => h9) rfl d_Rea_quotient_70 ?_
        refine lv_lload_n hx hb d_Rea_quotient_73 rfl (lv_at hl 2 rfl) ?_
        refine lv_lconst (v := 0) hx hb d_Rea_quotient_74 (by decide) ?_
        refine W.lcmp hx hb d_Rea_quotient_75 ?_
        refine lv_if_ge (tgt := 84) hx hb d_Rea_quotient_76 (by decide) (fun c76 => ?_) (fun c76 => ?_)
        · have e76 : ¬ 9223372036854775808 ≤ aa := fun z => absurd ((ng_l (by omega)).mpr z) (Int64.not_lt.mpr ((lg_cmp_ge _ _).mp c76))
          refine lv_lload_n hx hb d_Rea_quotient_84 rfl (lv_at hl 2 rfl) ?_
          refine tv_l (lN (ua aa)) (by unfold ua; rw [if_pos (by omega)]) ?_
          refine ca_v [(r, .inr (4, [.ref x, .ref nm, .ref h, .ref q, .int (nI n), .long R, .int fd])), (x, .inl (cC, 2400, .inl (tx T))), (nm, .inr (3, [.ref x, .int v1, .int v2, .int v3, .int v4, .int v5, .int v6, .int v7])), (h, .inr (1, [.ref q, .int g0, .int gs0, .int kp0, .int pl0])), (q, .inr (2, [.ref t, .ref b])), (b, .inr (0, [.ref ba, .int mv])), (ba, .inl (cB, 96, .inl g))] (va_runV (As := [.long (lN (ua aa))]) (rest := []) ⟨hx, hb, hml, hown, hts⟩ (c_Big_set l D E t ta cA f nv (ua aa) ((ua_pos (by omega) e61).2.1) H.size) (xV 1 hts kC_Big_set kM_Rea_83 kI_Big_set kS_Big_set kN_Big rfl rfl (by decide +kernel) ⟨Nat.le_of_ble_eq_true rfl, Nat.le_of_ble_eq_true rfl⟩) ⟨ct_blind hev, va_recv hK hP (ci := 0) (q0 := 5) rfl rfl, ct_pre hev hP hK hD hS hA hE [5, 6] rfl (by decide) [1] rfl⟩ rfl rfl hl.1 rfl (lv_room (Nat.le_of_ble_eq_true rfl)) d_Rea_quotient_85 ⟨Nat.le_of_ble_eq_true rfl, Nat.le_of_ble_eq_true rfl⟩) hP hD hS hA [5, 6] [0, 1, 2, 3, 4, 7, 8] rfl rfl (by decide) (by decide) (fun u H locs hw hP hD hS hK1 => ?_)
          obtain ⟨f1, n2⟩ := u
          have hB3 : isB f1 n2 (ua aa) := hw
          have hP : va_P D vcl [(r, .inr (4, [.ref x, .ref nm, .ref h, .ref q, .int (nI n), .long R, .int fd])), (x, .inl (cC, 2400, .inl (tx T))), (nm, .inr (3, [.ref x, .int v1, .int v2, .int v3, .int v4, .int v5, .int v6, .int v7])), (h, .inr (1, [.ref q, .int g0, .int gs0, .int kp0, .int pl0])), (q, .inr (2, [.ref t, .ref b])), (b, .inr (0, [.ref ba, .int mv])), (ba, .inl (cB, 96, .inl g)), (t, .inr (0, [.ref ta, .int (nI n2)])), (ta, .inl (cA, 96, .inl f1))] H := hP
          have hD : va_D A [(r, .inr (4, [.ref x, .ref nm, .ref h, .ref q, .int (nI n), .long R, .int fd])), (x, .inl (cC, 2400, .inl (tx T))), (nm, .inr (3, [.ref x, .int v1, .int v2, .int v3, .int v4, .int v5, .int v6, .int v7])), (h, .inr (1, [.ref q, .int g0, .int gs0, .int kp0, .int pl0])), (q, .inr (2, [.ref t, .ref b])), (b, .inr (0, [.ref ba, .int mv])), (ba, .inl (cB, 96, .inl g)), (t, .inr (0, [.ref ta, .int (nI n2)])), (ta, .inl (cA, 96, .inl f1))] := hD
          refine lv_aload_n hx hb d_Rea_quotient_88 rfl (lv_at hl 1 rfl) ?_
          refine va_get (D := D) (ci := 4) (v := .ref q) (C := R_Rea) (T := F_Rea) (N := 7) hx hb hts w_Rea hown hK hP 0 rfl rfl 3 (by decide) (hts _ kF_Rea_32) (fun _ h9 => h9) rfl d_Rea_quotient_89 ?_
          refine va_get (D := D) (ci := 2) (v := .ref b) (C := R_Fra) (T := F_Fra) (N := 2) hx hb hts w_Fra hown hK hP 4 rfl rfl 1 (by decide) (hts _ kF_Rea_89) (fun _ h9 => h9) rfl d_Rea_quotient_92 ?_
          refine lv_lload_n hx hb d_Rea_quotient_95 rfl (lv_at hl 3 rfl) ?_
          refine lv_lconst (v := 0) hx hb d_Rea_quotient_96 (by decide) ?_
          refine W.lcmp hx hb d_Rea_quotient_97 ?_
          refine lv_if_ge (tgt := 106) hx hb d_Rea_quotient_98 (by decide) (fun c98 => ?_) (fun c98 => ?_)
          · have e98 : ¬ 9223372036854775808 ≤ bb := fun z => absurd ((ng_l (by omega)).mpr z) (Int64.not_lt.mpr ((lg_cmp_ge _ _).mp c98))
            refine lv_lload_n hx hb d_Rea_quotient_106 rfl (lv_at hl 3 rfl) ?_
            refine tv_l (lN (ua bb)) (by unfold ua; rw [if_pos (by omega)]) ?_
            refine ca_v [(r, .inr (4, [.ref x, .ref nm, .ref h, .ref q, .int (nI n), .long R, .int fd])), (x, .inl (cC, 2400, .inl (tx T))), (nm, .inr (3, [.ref x, .int v1, .int v2, .int v3, .int v4, .int v5, .int v6, .int v7])), (h, .inr (1, [.ref q, .int g0, .int gs0, .int kp0, .int pl0])), (q, .inr (2, [.ref t, .ref b])), (t, .inr (0, [.ref ta, .int (nI n2)])), (ta, .inl (cA, 96, .inl f1))] (va_runV (As := [.long (lN (ua bb))]) (rest := []) ⟨hx, hb, hml, hown, hts⟩ (c_Big_set l D E b ba cB g mv (ua bb) ((ua_pos (by omega) e19).2.1) H.size) (xV 1 hts kC_Big_set kM_Rea_83 kI_Big_set kS_Big_set kN_Big rfl rfl (by decide +kernel) ⟨Nat.le_of_ble_eq_true rfl, Nat.le_of_ble_eq_true rfl⟩) ⟨ct_blind hev, va_recv hK hP (ci := 0) (q0 := 5) rfl rfl, ct_pre hev hP hK hD hS hA hE [5, 6] rfl (by decide) [2] rfl⟩ rfl rfl hl.1 rfl (lv_room (Nat.le_of_ble_eq_true rfl)) d_Rea_quotient_107 ⟨Nat.le_of_ble_eq_true rfl, Nat.le_of_ble_eq_true rfl⟩) hP hD hS hA [5, 6] [0, 1, 2, 3, 4, 7, 8] rfl rfl (by decide) (by decide) (fun u H locs hw hP hD hS hK1 => ?_)
            obtain ⟨f4, n5⟩ := u
            have hB6 : isB f4 n5 (ua bb) := hw
            have hP : va_P D vcl [(r, .inr (4, [.ref x, .ref nm, .ref h, .ref q, .int (nI n), .long R, .int fd])), (x, .inl (cC, 2400, .inl (tx T))), (nm, .inr (3, [.ref x, .int v1, .int v2, .int v3, .int v4, .int v5, .int v6, .int v7])), (h, .inr (1, [.ref q, .int g0, .int gs0, .int kp0, .int pl0])), (q, .inr (2, [.ref t, .ref b])), (t, .inr (0, [.ref ta, .int (nI n2)])), (ta, .inl (cA, 96, .inl f1)), (b, .inr (0, [.ref ba, .int (nI n5)])), (ba, .inl (cB, 96, .inl f4))] H := hP
            have hD : va_D A [(r, .inr (4, [.ref x, .ref nm, .ref h, .ref q, .int (nI n), .long R, .int fd])), (x, .inl (cC, 2400, .inl (tx T))), (nm, .inr (3, [.ref x, .int v1, .int v2, .int v3, .int v4, .int v5, .int v6, .int v7])), (h, .inr (1, [.ref q, .int g0, .int gs0, .int kp0, .int pl0])), (q, .inr (2, [.ref t, .ref b])), (t, .inr (0, [.ref ta, .int (nI n2)])), (ta, .inl (cA, 96, .inl f1)), (b, .inr (0, [.ref ba, .int (nI n5)])), (ba, .inl (cB, 96, .inl f4))] := hD
            refine lv_aload hx hb d_Rea_quotient_110 (lv_at hl 0 rfl) ?_
            refine lv_aload_n hx hb d_Rea_quotient_112 rfl (lv_at hl 1 rfl) ?_
            refine va_get (D := D) (ci := 4) (v := .ref q) (C := R_Rea) (T := F_Rea) (N := 7) hx hb hts w_Rea hown hK hP 0 rfl rfl 3 (by decide) (hts _ kF_Rea_32) (fun _ h9 => h9) rfl d_Rea_quotient_113 ?_
            refine lv_aload hx hb d_Rea_quotient_116 (lv_at hl 0 rfl) ?_
            refine lv_iconst (v := 0) hx hb d_Rea_quotient_118 (by decide) ?_
            refine tv_i (zI 0) (rfl) ?_
            refine ca_l [(r, .inr (4, [.ref x, .ref nm, .ref h, .ref q, .int (nI n), .long R, .int fd])), (x, .inl (cC, 2400, .inl (tx T))), (nm, .inr (3, [.ref x, .int v1, .int v2, .int v3, .int v4, .int v5, .int v6, .int v7])), (h, .inr (1, [.ref q, .int g0, .int gs0, .int kp0, .int pl0]))] (va_runV (As := [.ref (E.1 1), .int (zI 0)]) (rest := [.ref (E.1 1)]) ⟨hx, hb, hml, hown, hts⟩ (c_Fra_nearest l D E 1 (by decide) q t ta b ba cA cB f1 f4 n2 n5 (ua aa) (ua bb) 0 hB3 hB6 ((ua_pos (by omega) e61).1) ((ua_pos (by omega) e19).1) ((ua_pos (by omega) e61).2.2) ((ua_pos (by omega) e19).2.2) (by decide) (by decide) H.size) (xV 2 hts kC_Fra_nearest kM_Rea_92 kI_Fra_nearest kS_Fra_nearest kN_Fra rfl rfl (by decide +kernel) ⟨Nat.le_of_ble_eq_true rfl, Nat.le_of_ble_eq_true rfl⟩) ⟨ct_blind hev, va_recv hK hP (ci := 2) (q0 := 4) rfl rfl, ct_pre hev hP hK hD hS hA hE [4, 5, 6, 7, 8] rfl (by decide) [1, 2] rfl⟩ rfl rfl hl.1 rfl (lv_room (Nat.le_of_ble_eq_true rfl)) d_Rea_quotient_119 ⟨Nat.le_of_ble_eq_true rfl, Nat.le_of_ble_eq_true rfl⟩) hP hD hS hA [4, 5, 6, 7, 8] [0, 1, 2, 3] rfl rfl (by decide) (by decide) (fun rv u H locs hw hP hD hS hK1 => ?_)
            obtain ⟨⟨f7, n8⟩, ⟨f9, n10⟩⟩ := u
            subst hw
            have hP : va_P D vcl [(r, .inr (4, [.ref x, .ref nm, .ref h, .ref q, .int (nI n), .long R, .int fd])), (x, .inl (cC, 2400, .inl (tx T))), (nm, .inr (3, [.ref x, .int v1, .int v2, .int v3, .int v4, .int v5, .int v6, .int v7])), (h, .inr (1, [.ref q, .int g0, .int gs0, .int kp0, .int pl0])), (q, .inr (2, [.ref t, .ref b])), (t, .inr (0, [.ref ta, .int (nI n8)])), (ta, .inl (cA, 96, .inl f7)), (b, .inr (0, [.ref ba, .int (nI n10)])), (ba, .inl (cB, 96, .inl f9))] H := hP
            have hD : va_D A [(r, .inr (4, [.ref x, .ref nm, .ref h, .ref q, .int (nI n), .long R, .int fd])), (x, .inl (cC, 2400, .inl (tx T))), (nm, .inr (3, [.ref x, .int v1, .int v2, .int v3, .int v4, .int v5, .int v6, .int v7])), (h, .inr (1, [.ref q, .int g0, .int gs0, .int kp0, .int pl0])), (q, .inr (2, [.ref t, .ref b])), (t, .inr (0, [.ref ta, .int (nI n8)])), (ta, .inl (cA, 96, .inl f7)), (b, .inr (0, [.ref ba, .int (nI n10)])), (ba, .inl (cB, 96, .inl f9))] := hD
            refine lv_lload_n hx hb d_Rea_quotient_122 rfl (lv_at hl 2 rfl) ?_
            refine lv_lconst (v := 0) hx hb d_Rea_quotient_123 (by decide) ?_
            refine W.lcmp hx hb d_Rea_quotient_124 ?_
            refine lv_if_ge (tgt := 132) hx hb d_Rea_quotient_125 (by decide) (fun c125 => ?_) (fun c125 => ?_)
            · refine lv_iconst (v := 0) hx hb d_Rea_quotient_132 (by decide) ?_
              refine lv_lload_n hx hb d_Rea_quotient_133 rfl (lv_at hl 3 rfl) ?_
              refine lv_lconst (v := 0) hx hb d_Rea_quotient_134 (by decide) ?_
              refine W.lcmp hx hb d_Rea_quotient_135 ?_
              refine lv_if_ge (tgt := 143) hx hb d_Rea_quotient_136 (by decide) (fun c136 => ?_) (fun c136 => ?_)
              · refine lv_iconst (v := 0) hx hb d_Rea_quotient_143 (by decide) ?_
                refine lv_icmp_eq (tgt := 151) hx hb d_Rea_quotient_144 (by decide) (fun c144 => ?_) (fun c144 => ?_)
                · refine lv_iconst (v := 0) hx hb d_Rea_quotient_151 (by decide) ?_
                  refine tv_i (bI (ngL aa != ngL bb)) (by unfold ngL; rw [decide_eq_false e76, decide_eq_false e98]; rfl) ?_
                  refine ca_l [(r, .inr (4, [.ref x, .ref nm, .ref h, .ref q, .int (nI n), .long R, .int fd])), (x, .inl (cC, 2400, .inl (tx T))), (nm, .inr (3, [.ref x, .int v1, .int v2, .int v3, .int v4, .int v5, .int v6, .int v7])), (h, .inr (1, [.ref q, .int g0, .int gs0, .int kp0, .int pl0])), (q, .inr (2, [.ref t, .ref b])), (t, .inr (0, [.ref ta, .int (nI n8)])), (ta, .inl (cA, 96, .inl f7)), (b, .inr (0, [.ref ba, .int (nI n10)])), (ba, .inl (cB, 96, .inl f9))] (va_runV (As := [.long (lN (frn (kP 1) (kZ 1) (kLw 1) (ua aa) (ua bb) 0)), .int (bI (ngL aa != ngL bb))]) (rest := []) ⟨hx, hb, hml, hown, hts⟩ (c_Kin_signed l D E 1 (by decide) (lN (frn (kP 1) (kZ 1) (kLw 1) (ua aa) (ua bb) 0)) (bI (ngL aa != ngL bb)) H.size) (xV 2 hts kC_Kin_signed kM_Rea_73 kI_Kin_signed kS_Kin_signed kN_Kin rfl rfl (by decide +kernel) ⟨Nat.le_of_ble_eq_true rfl, Nat.le_of_ble_eq_true rfl⟩) ⟨ct_blind hev, va_recvE (i := 1) hE.2.1 (by decide) hS, ct_pre hev hP hK hD hS hA hE [] rfl (by decide) [] rfl⟩ rfl rfl hl.1 rfl (lv_room (Nat.le_of_ble_eq_true rfl)) d_Rea_quotient_152 ⟨Nat.le_of_ble_eq_true rfl, Nat.le_of_ble_eq_true rfl⟩) hP hD hS hA [] [0, 1, 2, 3, 4, 5, 6, 7, 8] rfl rfl (by decide) (by decide) (fun rv u H locs hw hP hD hS hK1 => ?_)
                  subst hw
                  have hP : va_P D vcl [(r, .inr (4, [.ref x, .ref nm, .ref h, .ref q, .int (nI n), .long R, .int fd])), (x, .inl (cC, 2400, .inl (tx T))), (nm, .inr (3, [.ref x, .int v1, .int v2, .int v3, .int v4, .int v5, .int v6, .int v7])), (h, .inr (1, [.ref q, .int g0, .int gs0, .int kp0, .int pl0])), (q, .inr (2, [.ref t, .ref b])), (t, .inr (0, [.ref ta, .int (nI n8)])), (ta, .inl (cA, 96, .inl f7)), (b, .inr (0, [.ref ba, .int (nI n10)])), (ba, .inl (cB, 96, .inl f9))] H := hP
                  have hD : va_D A [(r, .inr (4, [.ref x, .ref nm, .ref h, .ref q, .int (nI n), .long R, .int fd])), (x, .inl (cC, 2400, .inl (tx T))), (nm, .inr (3, [.ref x, .int v1, .int v2, .int v3, .int v4, .int v5, .int v6, .int v7])), (h, .inr (1, [.ref q, .int g0, .int gs0, .int kp0, .int pl0])), (q, .inr (2, [.ref t, .ref b])), (t, .inr (0, [.ref ta, .int (nI n8)])), (ta, .inl (cA, 96, .inl f7)), (b, .inr (0, [.ref ba, .int (nI n10)])), (ba, .inl (cB, 96, .inl f9))] := hD
                  exact rt_l hx hb hrt hlocks (((v1, v2, v3, v4, v5, v6, v7), (g0, gs0, kp0, pl0), (f7, nI n8, f9, nI n10))) (by rw [e2]; unfold qtN; rw [if_neg e19, if_neg e61]) (hP.sub [0, 1, 2, 3, 4, 5, 6, 7, 8] rfl) (hK.sub [0, 1, 2] rfl) (hD.sub [0, 1, 2, 3, 4, 5, 6, 7, 8] (by decide) rfl) hS d_Rea_quotient_155
                · exact absurd rfl c144
              · exact absurd ((ng_l (by omega)).mp (Int64.not_le.mp (fun z => c136 ((lg_cmp_ge _ _).mpr z)))) e98
            · exact absurd ((ng_l (by omega)).mp (Int64.not_le.mp (fun z => c125 ((lg_cmp_ge _ _).mpr z)))) e76
          · have e98 : 9223372036854775808 ≤ bb := (ng_l (by omega)).mp (Int64.not_le.mp (fun z => c98 ((lg_cmp_ge _ _).mpr z)))
            refine lv_lload_n hx hb d_Rea_quotient_101 rfl (lv_at hl 3 rfl) ?_
            refine lv_lneg hx hb d_Rea_quotient_102 ?_
            refine tv_l (lN (ua bb)) (by unfold ua; rw [if_neg (by omega)]; exact neg_l (by omega)) ?_
            refine lv_goto (tgt := 107) hx hb d_Rea_quotient_103 (by decide) ?_
            refine ca_v [(r, .inr (4, [.ref x, .ref nm, .ref h, .ref q, .int (nI n), .long R, .int fd])), (x, .inl (cC, 2400, .inl (tx T))), (nm, .inr (3, [.ref x, .int v1, .int v2, .int v3, .int v4, .int v5, .int v6, .int v7])), (h, .inr (1, [.ref q, .int g0, .int gs0, .int kp0, .int pl0])), (q, .inr (2, [.ref t, .ref b])), (t, .inr (0, [.ref ta, .int (nI n2)])), (ta, .inl (cA, 96, .inl f1))] (va_runV (As := [.long (lN (ua bb))]) (rest := []) ⟨hx, hb, hml, hown, hts⟩ (c_Big_set l D E b ba cB g mv (ua bb) ((ua_pos (by omega) e19).2.1) H.size) (xV 1 hts kC_Big_set kM_Rea_83 kI_Big_set kS_Big_set kN_Big rfl rfl (by decide +kernel) ⟨Nat.le_of_ble_eq_true rfl, Nat.le_of_ble_eq_true rfl⟩) ⟨ct_blind hev, va_recv hK hP (ci := 0) (q0 := 5) rfl rfl, ct_pre hev hP hK hD hS hA hE [5, 6] rfl (by decide) [2] rfl⟩ rfl rfl hl.1 rfl (lv_room (Nat.le_of_ble_eq_true rfl)) d_Rea_quotient_107 ⟨Nat.le_of_ble_eq_true rfl, Nat.le_of_ble_eq_true rfl⟩) hP hD hS hA [5, 6] [0, 1, 2, 3, 4, 7, 8] rfl rfl (by decide) (by decide) (fun u H locs hw hP hD hS hK1 => ?_)
            obtain ⟨f11, n12⟩ := u
            have hB13 : isB f11 n12 (ua bb) := hw
            have hP : va_P D vcl [(r, .inr (4, [.ref x, .ref nm, .ref h, .ref q, .int (nI n), .long R, .int fd])), (x, .inl (cC, 2400, .inl (tx T))), (nm, .inr (3, [.ref x, .int v1, .int v2, .int v3, .int v4, .int v5, .int v6, .int v7])), (h, .inr (1, [.ref q, .int g0, .int gs0, .int kp0, .int pl0])), (q, .inr (2, [.ref t, .ref b])), (t, .inr (0, [.ref ta, .int (nI n2)])), (ta, .inl (cA, 96, .inl f1)), (b, .inr (0, [.ref ba, .int (nI n12)])), (ba, .inl (cB, 96, .inl f11))] H := hP
            have hD : va_D A [(r, .inr (4, [.ref x, .ref nm, .ref h, .ref q, .int (nI n), .long R, .int fd])), (x, .inl (cC, 2400, .inl (tx T))), (nm, .inr (3, [.ref x, .int v1, .int v2, .int v3, .int v4, .int v5, .int v6, .int v7])), (h, .inr (1, [.ref q, .int g0, .int gs0, .int kp0, .int pl0])), (q, .inr (2, [.ref t, .ref b])), (t, .inr (0, [.ref ta, .int (nI n2)])), (ta, .inl (cA, 96, .inl f1)), (b, .inr (0, [.ref ba, .int (nI n12)])), (ba, .inl (cB, 96, .inl f11))] := hD
            refine lv_aload hx hb d_Rea_quotient_110 (lv_at hl 0 rfl) ?_
            refine lv_aload_n hx hb d_Rea_quotient_112 rfl (lv_at hl 1 rfl) ?_
            refine va_get (D := D) (ci := 4) (v := .ref q) (C := R_Rea) (T := F_Rea) (N := 7) hx hb hts w_Rea hown hK hP 0 rfl rfl 3 (by decide) (hts _ kF_Rea_32) (fun _ h9 => h9) rfl d_Rea_quotient_113 ?_
            refine lv_aload hx hb d_Rea_quotient_116 (lv_at hl 0 rfl) ?_
            refine lv_iconst (v := 0) hx hb d_Rea_quotient_118 (by decide) ?_
            refine tv_i (zI 0) (rfl) ?_
            refine ca_l [(r, .inr (4, [.ref x, .ref nm, .ref h, .ref q, .int (nI n), .long R, .int fd])), (x, .inl (cC, 2400, .inl (tx T))), (nm, .inr (3, [.ref x, .int v1, .int v2, .int v3, .int v4, .int v5, .int v6, .int v7])), (h, .inr (1, [.ref q, .int g0, .int gs0, .int kp0, .int pl0]))] (va_runV (As := [.ref (E.1 1), .int (zI 0)]) (rest := [.ref (E.1 1)]) ⟨hx, hb, hml, hown, hts⟩ (c_Fra_nearest l D E 1 (by decide) q t ta b ba cA cB f1 f11 n2 n12 (ua aa) (ua bb) 0 hB3 hB13 ((ua_pos (by omega) e61).1) ((ua_pos (by omega) e19).1) ((ua_pos (by omega) e61).2.2) ((ua_pos (by omega) e19).2.2) (by decide) (by decide) H.size) (xV 2 hts kC_Fra_nearest kM_Rea_92 kI_Fra_nearest kS_Fra_nearest kN_Fra rfl rfl (by decide +kernel) ⟨Nat.le_of_ble_eq_true rfl, Nat.le_of_ble_eq_true rfl⟩) ⟨ct_blind hev, va_recv hK hP (ci := 2) (q0 := 4) rfl rfl, ct_pre hev hP hK hD hS hA hE [4, 5, 6, 7, 8] rfl (by decide) [1, 2] rfl⟩ rfl rfl hl.1 rfl (lv_room (Nat.le_of_ble_eq_true rfl)) d_Rea_quotient_119 ⟨Nat.le_of_ble_eq_true rfl, Nat.le_of_ble_eq_true rfl⟩) hP hD hS hA [4, 5, 6, 7, 8] [0, 1, 2, 3] rfl rfl (by decide) (by decide) (fun rv u H locs hw hP hD hS hK1 => ?_)
            obtain ⟨⟨f14, n15⟩, ⟨f16, n17⟩⟩ := u
            subst hw
            have hP : va_P D vcl [(r, .inr (4, [.ref x, .ref nm, .ref h, .ref q, .int (nI n), .long R, .int fd])), (x, .inl (cC, 2400, .inl (tx T))), (nm, .inr (3, [.ref x, .int v1, .int v2, .int v3, .int v4, .int v5, .int v6, .int v7])), (h, .inr (1, [.ref q, .int g0, .int gs0, .int kp0, .int pl0])), (q, .inr (2, [.ref t, .ref b])), (t, .inr (0, [.ref ta, .int (nI n15)])), (ta, .inl (cA, 96, .inl f14)), (b, .inr (0, [.ref ba, .int (nI n17)])), (ba, .inl (cB, 96, .inl f16))] H := hP
            have hD : va_D A [(r, .inr (4, [.ref x, .ref nm, .ref h, .ref q, .int (nI n), .long R, .int fd])), (x, .inl (cC, 2400, .inl (tx T))), (nm, .inr (3, [.ref x, .int v1, .int v2, .int v3, .int v4, .int v5, .int v6, .int v7])), (h, .inr (1, [.ref q, .int g0, .int gs0, .int kp0, .int pl0])), (q, .inr (2, [.ref t, .ref b])), (t, .inr (0, [.ref ta, .int (nI n15)])), (ta, .inl (cA, 96, .inl f14)), (b, .inr (0, [.ref ba, .int (nI n17)])), (ba, .inl (cB, 96, .inl f16))] := hD
            refine lv_lload_n hx hb d_Rea_quotient_122 rfl (lv_at hl 2 rfl) ?_
            refine lv_lconst (v := 0) hx hb d_Rea_quotient_123 (by decide) ?_
            refine W.lcmp hx hb d_Rea_quotient_124 ?_
            refine lv_if_ge (tgt := 132) hx hb d_Rea_quotient_125 (by decide) (fun c125 => ?_) (fun c125 => ?_)
            · refine lv_iconst (v := 0) hx hb d_Rea_quotient_132 (by decide) ?_
              refine lv_lload_n hx hb d_Rea_quotient_133 rfl (lv_at hl 3 rfl) ?_
              refine lv_lconst (v := 0) hx hb d_Rea_quotient_134 (by decide) ?_
              refine W.lcmp hx hb d_Rea_quotient_135 ?_
              refine lv_if_ge (tgt := 143) hx hb d_Rea_quotient_136 (by decide) (fun c136 => ?_) (fun c136 => ?_)
              · exact absurd ((ng_l (by omega)).mpr e98) (Int64.not_lt.mpr ((lg_cmp_ge _ _).mp c136))
              · refine lv_iconst (v := 1) hx hb d_Rea_quotient_139 (by decide) ?_
                refine lv_goto (tgt := 144) hx hb d_Rea_quotient_140 (by decide) ?_
                refine lv_icmp_eq (tgt := 151) hx hb d_Rea_quotient_144 (by decide) (fun c144 => ?_) (fun c144 => ?_)
                · exact absurd c144 (by decide)
                · refine lv_iconst (v := 1) hx hb d_Rea_quotient_147 (by decide) ?_
                  refine tv_i (bI (ngL aa != ngL bb)) (by unfold ngL; rw [decide_eq_false e76, decide_eq_true e98]; rfl) ?_
                  refine lv_goto (tgt := 152) hx hb d_Rea_quotient_148 (by decide) ?_
                  refine ca_l [(r, .inr (4, [.ref x, .ref nm, .ref h, .ref q, .int (nI n), .long R, .int fd])), (x, .inl (cC, 2400, .inl (tx T))), (nm, .inr (3, [.ref x, .int v1, .int v2, .int v3, .int v4, .int v5, .int v6, .int v7])), (h, .inr (1, [.ref q, .int g0, .int gs0, .int kp0, .int pl0])), (q, .inr (2, [.ref t, .ref b])), (t, .inr (0, [.ref ta, .int (nI n15)])), (ta, .inl (cA, 96, .inl f14)), (b, .inr (0, [.ref ba, .int (nI n17)])), (ba, .inl (cB, 96, .inl f16))] (va_runV (As := [.long (lN (frn (kP 1) (kZ 1) (kLw 1) (ua aa) (ua bb) 0)), .int (bI (ngL aa != ngL bb))]) (rest := []) ⟨hx, hb, hml, hown, hts⟩ (c_Kin_signed l D E 1 (by decide) (lN (frn (kP 1) (kZ 1) (kLw 1) (ua aa) (ua bb) 0)) (bI (ngL aa != ngL bb)) H.size) (xV 2 hts kC_Kin_signed kM_Rea_73 kI_Kin_signed kS_Kin_signed kN_Kin rfl rfl (by decide +kernel) ⟨Nat.le_of_ble_eq_true rfl, Nat.le_of_ble_eq_true rfl⟩) ⟨ct_blind hev, va_recvE (i := 1) hE.2.1 (by decide) hS, ct_pre hev hP hK hD hS hA hE [] rfl (by decide) [] rfl⟩ rfl rfl hl.1 rfl (lv_room (Nat.le_of_ble_eq_true rfl)) d_Rea_quotient_152 ⟨Nat.le_of_ble_eq_true rfl, Nat.le_of_ble_eq_true rfl⟩) hP hD hS hA [] [0, 1, 2, 3, 4, 5, 6, 7, 8] rfl rfl (by decide) (by decide) (fun rv u H locs hw hP hD hS hK1 => ?_)
                  subst hw
                  have hP : va_P D vcl [(r, .inr (4, [.ref x, .ref nm, .ref h, .ref q, .int (nI n), .long R, .int fd])), (x, .inl (cC, 2400, .inl (tx T))), (nm, .inr (3, [.ref x, .int v1, .int v2, .int v3, .int v4, .int v5, .int v6, .int v7])), (h, .inr (1, [.ref q, .int g0, .int gs0, .int kp0, .int pl0])), (q, .inr (2, [.ref t, .ref b])), (t, .inr (0, [.ref ta, .int (nI n15)])), (ta, .inl (cA, 96, .inl f14)), (b, .inr (0, [.ref ba, .int (nI n17)])), (ba, .inl (cB, 96, .inl f16))] H := hP
                  have hD : va_D A [(r, .inr (4, [.ref x, .ref nm, .ref h, .ref q, .int (nI n), .long R, .int fd])), (x, .inl (cC, 2400, .inl (tx T))), (nm, .inr (3, [.ref x, .int v1, .int v2, .int v3, .int v4, .int v5, .int v6, .int v7])), (h, .inr (1, [.ref q, .int g0, .int gs0, .int kp0, .int pl0])), (q, .inr (2, [.ref t, .ref b])), (t, .inr (0, [.ref ta, .int (nI n15)])), (ta, .inl (cA, 96, .inl f14)), (b, .inr (0, [.ref ba, .int (nI n17)])), (ba, .inl (cB, 96, .inl f16))] := hD
                  exact rt_l hx hb hrt hlocks (((v1, v2, v3, v4, v5, v6, v7), (g0, gs0, kp0, pl0), (f14, nI n15, f16, nI n17))) (by rw [e2]; unfold qtN; rw [if_neg e19, if_neg e61]) (hP.sub [0, 1, 2, 3, 4, 5, 6, 7, 8] rfl) (hK.sub [0, 1, 2] rfl) (hD.sub [0, 1, 2, 3, 4, 5, 6, 7, 8] (by decide) rfl) hS d_Rea_quotient_155
            · exact absurd ((ng_l (by omega)).mp (Int64.not_le.mp (fun z => c125 ((lg_cmp_ge _ _).mpr z)))) e76
        · have e76 : 9223372036854775808 ≤ aa := (ng_l (by omega)).mp (Int64.not_le.mp (fun z => c76 ((lg_cmp_ge _ _).mpr z)))
          refine lv_lload_n hx hb d_Rea_quotient_79 rfl (lv_at hl 2 rfl) ?_
          refine lv_lneg hx hb d_Rea_quotient_80 ?_
          refine tv_l (lN (ua aa)) (by unfold ua; rw [if_neg (by omega)]; exact neg_l (by omega)) ?_
          refine lv_goto (tgt := 85) hx hb d_Rea_quotient_81 (by decide) ?_
          refine ca_v [(r, .inr (4, [.ref x, .ref nm, .ref h, .ref q, .int (nI n), .long R, .int fd])), (x, .inl (cC, 2400, .inl (tx T))), (nm, .inr (3, [.ref x, .int v1, .int v2, .int v3, .int v4, .int v5, .int v6, .int v7])), (h, .inr (1, [.ref q, .int g0, .int gs0, .int kp0, .int pl0])), (q, .inr (2, [.ref t, .ref b])), (b, .inr (0, [.ref ba, .int mv])), (ba, .inl (cB, 96, .inl g))] (va_runV (As := [.long (lN (ua aa))]) (rest := []) ⟨hx, hb, hml, hown, hts⟩ (c_Big_set l D E t ta cA f nv (ua aa) ((ua_pos (by omega) e61).2.1) H.size) (xV 1 hts kC_Big_set kM_Rea_83 kI_Big_set kS_Big_set kN_Big rfl rfl (by decide +kernel) ⟨Nat.le_of_ble_eq_true rfl, Nat.le_of_ble_eq_true rfl⟩) ⟨ct_blind hev, va_recv hK hP (ci := 0) (q0 := 5) rfl rfl, ct_pre hev hP hK hD hS hA hE [5, 6] rfl (by decide) [1] rfl⟩ rfl rfl hl.1 rfl (lv_room (Nat.le_of_ble_eq_true rfl)) d_Rea_quotient_85 ⟨Nat.le_of_ble_eq_true rfl, Nat.le_of_ble_eq_true rfl⟩) hP hD hS hA [5, 6] [0, 1, 2, 3, 4, 7, 8] rfl rfl (by decide) (by decide) (fun u H locs hw hP hD hS hK1 => ?_)
          obtain ⟨f18, n19⟩ := u
          have hB20 : isB f18 n19 (ua aa) := hw
          have hP : va_P D vcl [(r, .inr (4, [.ref x, .ref nm, .ref h, .ref q, .int (nI n), .long R, .int fd])), (x, .inl (cC, 2400, .inl (tx T))), (nm, .inr (3, [.ref x, .int v1, .int v2, .int v3, .int v4, .int v5, .int v6, .int v7])), (h, .inr (1, [.ref q, .int g0, .int gs0, .int kp0, .int pl0])), (q, .inr (2, [.ref t, .ref b])), (b, .inr (0, [.ref ba, .int mv])), (ba, .inl (cB, 96, .inl g)), (t, .inr (0, [.ref ta, .int (nI n19)])), (ta, .inl (cA, 96, .inl f18))] H := hP
          have hD : va_D A [(r, .inr (4, [.ref x, .ref nm, .ref h, .ref q, .int (nI n), .long R, .int fd])), (x, .inl (cC, 2400, .inl (tx T))), (nm, .inr (3, [.ref x, .int v1, .int v2, .int v3, .int v4, .int v5, .int v6, .int v7])), (h, .inr (1, [.ref q, .int g0, .int gs0, .int kp0, .int pl0])), (q, .inr (2, [.ref t, .ref b])), (b, .inr (0, [.ref ba, .int mv])), (ba, .inl (cB, 96, .inl g)), (t, .inr (0, [.ref ta, .int (nI n19)])), (ta, .inl (cA, 96, .inl f18))] := hD
          refine lv_aload_n hx hb d_Rea_quotient_88 rfl (lv_at hl 1 rfl) ?_
          refine va_get (D := D) (ci := 4) (v := .ref q) (C := R_Rea) (T := F_Rea) (N := 7) hx hb hts w_Rea hown hK hP 0 rfl rfl 3 (by decide) (hts _ kF_Rea_32) (fun _ h9 => h9) rfl d_Rea_quotient_89 ?_
          refine va_get (D := D) (ci := 2) (v := .ref b) (C := R_Fra) (T := F_Fra) (N := 2) hx hb hts w_Fra hown hK hP 4 rfl rfl 1 (by decide) (hts _ kF_Rea_89) (fun _ h9 => h9) rfl d_Rea_quotient_92 ?_
          refine lv_lload_n hx hb d_Rea_quotient_95 rfl (lv_at hl 3 rfl) ?_
          refine lv_lconst (v := 0) hx hb d_Rea_quotient_96 (by decide) ?_
          refine W.lcmp hx hb d_Rea_quotient_97 ?_
          refine lv_if_ge (tgt := 106) hx hb d_Rea_quotient_98 (by decide) (fun c98 => ?_) (fun c98 => ?_)
          · have e98 : ¬ 9223372036854775808 ≤ bb := fun z => absurd ((ng_l (by omega)).mpr z) (Int64.not_lt.mpr ((lg_cmp_ge _ _).mp c98))
            refine lv_lload_n hx hb d_Rea_quotient_106 rfl (lv_at hl 3 rfl) ?_
            refine tv_l (lN (ua bb)) (by unfold ua; rw [if_pos (by omega)]) ?_
            refine ca_v [(r, .inr (4, [.ref x, .ref nm, .ref h, .ref q, .int (nI n), .long R, .int fd])), (x, .inl (cC, 2400, .inl (tx T))), (nm, .inr (3, [.ref x, .int v1, .int v2, .int v3, .int v4, .int v5, .int v6, .int v7])), (h, .inr (1, [.ref q, .int g0, .int gs0, .int kp0, .int pl0])), (q, .inr (2, [.ref t, .ref b])), (t, .inr (0, [.ref ta, .int (nI n19)])), (ta, .inl (cA, 96, .inl f18))] (va_runV (As := [.long (lN (ua bb))]) (rest := []) ⟨hx, hb, hml, hown, hts⟩ (c_Big_set l D E b ba cB g mv (ua bb) ((ua_pos (by omega) e19).2.1) H.size) (xV 1 hts kC_Big_set kM_Rea_83 kI_Big_set kS_Big_set kN_Big rfl rfl (by decide +kernel) ⟨Nat.le_of_ble_eq_true rfl, Nat.le_of_ble_eq_true rfl⟩) ⟨ct_blind hev, va_recv hK hP (ci := 0) (q0 := 5) rfl rfl, ct_pre hev hP hK hD hS hA hE [5, 6] rfl (by decide) [2] rfl⟩ rfl rfl hl.1 rfl (lv_room (Nat.le_of_ble_eq_true rfl)) d_Rea_quotient_107 ⟨Nat.le_of_ble_eq_true rfl, Nat.le_of_ble_eq_true rfl⟩) hP hD hS hA [5, 6] [0, 1, 2, 3, 4, 7, 8] rfl rfl (by decide) (by decide) (fun u H locs hw hP hD hS hK1 => ?_)
            obtain ⟨f21, n22⟩ := u
            have hB23 : isB f21 n22 (ua bb) := hw
            have hP : va_P D vcl [(r, .inr (4, [.ref x, .ref nm, .ref h, .ref q, .int (nI n), .long R, .int fd])), (x, .inl (cC, 2400, .inl (tx T))), (nm, .inr (3, [.ref x, .int v1, .int v2, .int v3, .int v4, .int v5, .int v6, .int v7])), (h, .inr (1, [.ref q, .int g0, .int gs0, .int kp0, .int pl0])), (q, .inr (2, [.ref t, .ref b])), (t, .inr (0, [.ref ta, .int (nI n19)])), (ta, .inl (cA, 96, .inl f18)), (b, .inr (0, [.ref ba, .int (nI n22)])), (ba, .inl (cB, 96, .inl f21))] H := hP
            have hD : va_D A [(r, .inr (4, [.ref x, .ref nm, .ref h, .ref q, .int (nI n), .long R, .int fd])), (x, .inl (cC, 2400, .inl (tx T))), (nm, .inr (3, [.ref x, .int v1, .int v2, .int v3, .int v4, .int v5, .int v6, .int v7])), (h, .inr (1, [.ref q, .int g0, .int gs0, .int kp0, .int pl0])), (q, .inr (2, [.ref t, .ref b])), (t, .inr (0, [.ref ta, .int (nI n19)])), (ta, .inl (cA, 96, .inl f18)), (b, .inr (0, [.ref ba, .int (nI n22)])), (ba, .inl (cB, 96, .inl f21))] := hD
            refine lv_aload hx hb d_Rea_quotient_110 (lv_at hl 0 rfl) ?_
            refine lv_aload_n hx hb d_Rea_quotient_112 rfl (lv_at hl 1 rfl) ?_
            refine va_get (D := D) (ci := 4) (v := .ref q) (C := R_Rea) (T := F_Rea) (N := 7) hx hb hts w_Rea hown hK hP 0 rfl rfl 3 (by decide) (hts _ kF_Rea_32) (fun _ h9 => h9) rfl d_Rea_quotient_113 ?_
            refine lv_aload hx hb d_Rea_quotient_116 (lv_at hl 0 rfl) ?_
            refine lv_iconst (v := 0) hx hb d_Rea_quotient_118 (by decide) ?_
            refine tv_i (zI 0) (rfl) ?_
            refine ca_l [(r, .inr (4, [.ref x, .ref nm, .ref h, .ref q, .int (nI n), .long R, .int fd])), (x, .inl (cC, 2400, .inl (tx T))), (nm, .inr (3, [.ref x, .int v1, .int v2, .int v3, .int v4, .int v5, .int v6, .int v7])), (h, .inr (1, [.ref q, .int g0, .int gs0, .int kp0, .int pl0]))] (va_runV (As := [.ref (E.1 1), .int (zI 0)]) (rest := [.ref (E.1 1)]) ⟨hx, hb, hml, hown, hts⟩ (c_Fra_nearest l D E 1 (by decide) q t ta b ba cA cB f18 f21 n19 n22 (ua aa) (ua bb) 0 hB20 hB23 ((ua_pos (by omega) e61).1) ((ua_pos (by omega) e19).1) ((ua_pos (by omega) e61).2.2) ((ua_pos (by omega) e19).2.2) (by decide) (by decide) H.size) (xV 2 hts kC_Fra_nearest kM_Rea_92 kI_Fra_nearest kS_Fra_nearest kN_Fra rfl rfl (by decide +kernel) ⟨Nat.le_of_ble_eq_true rfl, Nat.le_of_ble_eq_true rfl⟩) ⟨ct_blind hev, va_recv hK hP (ci := 2) (q0 := 4) rfl rfl, ct_pre hev hP hK hD hS hA hE [4, 5, 6, 7, 8] rfl (by decide) [1, 2] rfl⟩ rfl rfl hl.1 rfl (lv_room (Nat.le_of_ble_eq_true rfl)) d_Rea_quotient_119 ⟨Nat.le_of_ble_eq_true rfl, Nat.le_of_ble_eq_true rfl⟩) hP hD hS hA [4, 5, 6, 7, 8] [0, 1, 2, 3] rfl rfl (by decide) (by decide) (fun rv u H locs hw hP hD hS hK1 => ?_)
            obtain ⟨⟨f24, n25⟩, ⟨f26, n27⟩⟩ := u
            subst hw
            have hP : va_P D vcl [(r, .inr (4, [.ref x, .ref nm, .ref h, .ref q, .int (nI n), .long R, .int fd])), (x, .inl (cC, 2400, .inl (tx T))), (nm, .inr (3, [.ref x, .int v1, .int v2, .int v3, .int v4, .int v5, .int v6, .int v7])), (h, .inr (1, [.ref q, .int g0, .int gs0, .int kp0, .int pl0])), (q, .inr (2, [.ref t, .ref b])), (t, .inr (0, [.ref ta, .int (nI n25)])), (ta, .inl (cA, 96, .inl f24)), (b, .inr (0, [.ref ba, .int (nI n27)])), (ba, .inl (cB, 96, .inl f26))] H := hP
            have hD : va_D A [(r, .inr (4, [.ref x, .ref nm, .ref h, .ref q, .int (nI n), .long R, .int fd])), (x, .inl (cC, 2400, .inl (tx T))), (nm, .inr (3, [.ref x, .int v1, .int v2, .int v3, .int v4, .int v5, .int v6, .int v7])), (h, .inr (1, [.ref q, .int g0, .int gs0, .int kp0, .int pl0])), (q, .inr (2, [.ref t, .ref b])), (t, .inr (0, [.ref ta, .int (nI n25)])), (ta, .inl (cA, 96, .inl f24)), (b, .inr (0, [.ref ba, .int (nI n27)])), (ba, .inl (cB, 96, .inl f26))] := hD
            refine lv_lload_n hx hb d_Rea_quotient_122 rfl (lv_at hl 2 rfl) ?_
            refine lv_lconst (v := 0) hx hb d_Rea_quotient_123 (by decide) ?_
            refine W.lcmp hx hb d_Rea_quotient_124 ?_
            refine lv_if_ge (tgt := 132) hx hb d_Rea_quotient_125 (by decide) (fun c125 => ?_) (fun c125 => ?_)
            · exact absurd ((ng_l (by omega)).mpr e76) (Int64.not_lt.mpr ((lg_cmp_ge _ _).mp c125))
            · refine lv_iconst (v := 1) hx hb d_Rea_quotient_128 (by decide) ?_
              refine lv_goto (tgt := 133) hx hb d_Rea_quotient_129 (by decide) ?_
              refine lv_lload_n hx hb d_Rea_quotient_133 rfl (lv_at hl 3 rfl) ?_
              refine lv_lconst (v := 0) hx hb d_Rea_quotient_134 (by decide) ?_
              refine W.lcmp hx hb d_Rea_quotient_135 ?_
              refine lv_if_ge (tgt := 143) hx hb d_Rea_quotient_136 (by decide) (fun c136 => ?_) (fun c136 => ?_)
              · refine lv_iconst (v := 0) hx hb d_Rea_quotient_143 (by decide) ?_
                refine lv_icmp_eq (tgt := 151) hx hb d_Rea_quotient_144 (by decide) (fun c144 => ?_) (fun c144 => ?_)
                · exact absurd c144 (by decide)
                · refine lv_iconst (v := 1) hx hb d_Rea_quotient_147 (by decide) ?_
                  refine tv_i (bI (ngL aa != ngL bb)) (by unfold ngL; rw [decide_eq_true e76, decide_eq_false e98]; rfl) ?_
                  refine lv_goto (tgt := 152) hx hb d_Rea_quotient_148 (by decide) ?_
                  refine ca_l [(r, .inr (4, [.ref x, .ref nm, .ref h, .ref q, .int (nI n), .long R, .int fd])), (x, .inl (cC, 2400, .inl (tx T))), (nm, .inr (3, [.ref x, .int v1, .int v2, .int v3, .int v4, .int v5, .int v6, .int v7])), (h, .inr (1, [.ref q, .int g0, .int gs0, .int kp0, .int pl0])), (q, .inr (2, [.ref t, .ref b])), (t, .inr (0, [.ref ta, .int (nI n25)])), (ta, .inl (cA, 96, .inl f24)), (b, .inr (0, [.ref ba, .int (nI n27)])), (ba, .inl (cB, 96, .inl f26))] (va_runV (As := [.long (lN (frn (kP 1) (kZ 1) (kLw 1) (ua aa) (ua bb) 0)), .int (bI (ngL aa != ngL bb))]) (rest := []) ⟨hx, hb, hml, hown, hts⟩ (c_Kin_signed l D E 1 (by decide) (lN (frn (kP 1) (kZ 1) (kLw 1) (ua aa) (ua bb) 0)) (bI (ngL aa != ngL bb)) H.size) (xV 2 hts kC_Kin_signed kM_Rea_73 kI_Kin_signed kS_Kin_signed kN_Kin rfl rfl (by decide +kernel) ⟨Nat.le_of_ble_eq_true rfl, Nat.le_of_ble_eq_true rfl⟩) ⟨ct_blind hev, va_recvE (i := 1) hE.2.1 (by decide) hS, ct_pre hev hP hK hD hS hA hE [] rfl (by decide) [] rfl⟩ rfl rfl hl.1 rfl (lv_room (Nat.le_of_ble_eq_true rfl)) d_Rea_quotient_152 ⟨Nat.le_of_ble_eq_true rfl, Nat.le_of_ble_eq_true rfl⟩) hP hD hS hA [] [0, 1, 2, 3, 4, 5, 6, 7, 8] rfl rfl (by decide) (by decide) (fun rv u H locs hw hP hD hS hK1 => ?_)
                  subst hw
                  have hP : va_P D vcl [(r, .inr (4, [.ref x, .ref nm, .ref h, .ref q, .int (nI n), .long R, .int fd])), (x, .inl (cC, 2400, .inl (tx T))), (nm, .inr (3, [.ref x, .int v1, .int v2, .int v3, .int v4, .int v5, .int v6, .int v7])), (h, .inr (1, [.ref q, .int g0, .int gs0, .int kp0, .int pl0])), (q, .inr (2, [.ref t, .ref b])), (t, .inr (0, [.ref ta, .int (nI n25)])), (ta, .inl (cA, 96, .inl f24)), (b, .inr (0, [.ref ba, .int (nI n27)])), (ba, .inl (cB, 96, .inl f26))] H := hP
                  have hD : va_D A [(r, .inr (4, [.ref x, .ref nm, .ref h, .ref q, .int (nI n), .long R, .int fd])), (x, .inl (cC, 2400, .inl (tx T))), (nm, .inr (3, [.ref x, .int v1, .int v2, .int v3, .int v4, .int v5, .int v6, .int v7])), (h, .inr (1, [.ref q, .int g0, .int gs0, .int kp0, .int pl0])), (q, .inr (2, [.ref t, .ref b])), (t, .inr (0, [.ref ta, .int (nI n25)])), (ta, .inl (cA, 96, .inl f24)), (b, .inr (0, [.ref ba, .int (nI n27)])), (ba, .inl (cB, 96, .inl f26))] := hD
                  exact rt_l hx hb hrt hlocks (((v1, v2, v3, v4, v5, v6, v7), (g0, gs0, kp0, pl0), (f24, nI n25, f26, nI n27))) (by rw [e2]; unfold qtN; rw [if_neg e19, if_neg e61]) (hP.sub [0, 1, 2, 3, 4, 5, 6, 7, 8] rfl) (hK.sub [0, 1, 2] rfl) (hD.sub [0, 1, 2, 3, 4, 5, 6, 7, 8] (by decide) rfl) hS d_Rea_quotient_155
              · exact absurd ((ng_l (by omega)).mp (Int64.not_le.mp (fun z => c136 ((lg_cmp_ge _ _).mpr z)))) e98
          · have e98 : 9223372036854775808 ≤ bb := (ng_l (by omega)).mp (Int64.not_le.mp (fun z => c98 ((lg_cmp_ge _ _).mpr z)))
            refine lv_lload_n hx hb d_Rea_quotient_101 rfl (lv_at hl 3 rfl) ?_
            refine lv_lneg hx hb d_Rea_quotient_102 ?_
            refine tv_l (lN (ua bb)) (by unfold ua; rw [if_neg (by omega)]; exact neg_l (by omega)) ?_
            refine lv_goto (tgt := 107) hx hb d_Rea_quotient_103 (by decide) ?_
            refine ca_v [(r, .inr (4, [.ref x, .ref nm, .ref h, .ref q, .int (nI n), .long R, .int fd])), (x, .inl (cC, 2400, .inl (tx T))), (nm, .inr (3, [.ref x, .int v1, .int v2, .int v3, .int v4, .int v5, .int v6, .int v7])), (h, .inr (1, [.ref q, .int g0, .int gs0, .int kp0, .int pl0])), (q, .inr (2, [.ref t, .ref b])), (t, .inr (0, [.ref ta, .int (nI n19)])), (ta, .inl (cA, 96, .inl f18))] (va_runV (As := [.long (lN (ua bb))]) (rest := []) ⟨hx, hb, hml, hown, hts⟩ (c_Big_set l D E b ba cB g mv (ua bb) ((ua_pos (by omega) e19).2.1) H.size) (xV 1 hts kC_Big_set kM_Rea_83 kI_Big_set kS_Big_set kN_Big rfl rfl (by decide +kernel) ⟨Nat.le_of_ble_eq_true rfl, Nat.le_of_ble_eq_true rfl⟩) ⟨ct_blind hev, va_recv hK hP (ci := 0) (q0 := 5) rfl rfl, ct_pre hev hP hK hD hS hA hE [5, 6] rfl (by decide) [2] rfl⟩ rfl rfl hl.1 rfl (lv_room (Nat.le_of_ble_eq_true rfl)) d_Rea_quotient_107 ⟨Nat.le_of_ble_eq_true rfl, Nat.le_of_ble_eq_true rfl⟩) hP hD hS hA [5, 6] [0, 1, 2, 3, 4, 7, 8] rfl rfl (by decide) (by decide) (fun u H locs hw hP hD hS hK1 => ?_)
            obtain ⟨f28, n29⟩ := u
            have hB30 : isB f28 n29 (ua bb) := hw
            have hP : va_P D vcl [(r, .inr (4, [.ref x, .ref nm, .ref h, .ref q, .int (nI n), .long R, .int fd])), (x, .inl (cC, 2400, .inl (tx T))), (nm, .inr (3, [.ref x, .int v1, .int v2, .int v3, .int v4, .int v5, .int v6, .int v7])), (h, .inr (1, [.ref q, .int g0, .int gs0, .int kp0, .int pl0])), (q, .inr (2, [.ref t, .ref b])), (t, .inr (0, [.ref ta, .int (nI n19)])), (ta, .inl (cA, 96, .inl f18)), (b, .inr (0, [.ref ba, .int (nI n29)])), (ba, .inl (cB, 96, .inl f28))] H := hP
            have hD : va_D A [(r, .inr (4, [.ref x, .ref nm, .ref h, .ref q, .int (nI n), .long R, .int fd])), (x, .inl (cC, 2400, .inl (tx T))), (nm, .inr (3, [.ref x, .int v1, .int v2, .int v3, .int v4, .int v5, .int v6, .int v7])), (h, .inr (1, [.ref q, .int g0, .int gs0, .int kp0, .int pl0])), (q, .inr (2, [.ref t, .ref b])), (t, .inr (0, [.ref ta, .int (nI n19)])), (ta, .inl (cA, 96, .inl f18)), (b, .inr (0, [.ref ba, .int (nI n29)])), (ba, .inl (cB, 96, .inl f28))] := hD
            refine lv_aload hx hb d_Rea_quotient_110 (lv_at hl 0 rfl) ?_
            refine lv_aload_n hx hb d_Rea_quotient_112 rfl (lv_at hl 1 rfl) ?_
            refine va_get (D := D) (ci := 4) (v := .ref q) (C := R_Rea) (T := F_Rea) (N := 7) hx hb hts w_Rea hown hK hP 0 rfl rfl 3 (by decide) (hts _ kF_Rea_32) (fun _ h9 => h9) rfl d_Rea_quotient_113 ?_
            refine lv_aload hx hb d_Rea_quotient_116 (lv_at hl 0 rfl) ?_
            refine lv_iconst (v := 0) hx hb d_Rea_quotient_118 (by decide) ?_
            refine tv_i (zI 0) (rfl) ?_
            refine ca_l [(r, .inr (4, [.ref x, .ref nm, .ref h, .ref q, .int (nI n), .long R, .int fd])), (x, .inl (cC, 2400, .inl (tx T))), (nm, .inr (3, [.ref x, .int v1, .int v2, .int v3, .int v4, .int v5, .int v6, .int v7])), (h, .inr (1, [.ref q, .int g0, .int gs0, .int kp0, .int pl0]))] (va_runV (As := [.ref (E.1 1), .int (zI 0)]) (rest := [.ref (E.1 1)]) ⟨hx, hb, hml, hown, hts⟩ (c_Fra_nearest l D E 1 (by decide) q t ta b ba cA cB f18 f28 n19 n29 (ua aa) (ua bb) 0 hB20 hB30 ((ua_pos (by omega) e61).1) ((ua_pos (by omega) e19).1) ((ua_pos (by omega) e61).2.2) ((ua_pos (by omega) e19).2.2) (by decide) (by decide) H.size) (xV 2 hts kC_Fra_nearest kM_Rea_92 kI_Fra_nearest kS_Fra_nearest kN_Fra rfl rfl (by decide +kernel) ⟨Nat.le_of_ble_eq_true rfl, Nat.le_of_ble_eq_true rfl⟩) ⟨ct_blind hev, va_recv hK hP (ci := 2) (q0 := 4) rfl rfl, ct_pre hev hP hK hD hS hA hE [4, 5, 6, 7, 8] rfl (by decide) [1, 2] rfl⟩ rfl rfl hl.1 rfl (lv_room (Nat.le_of_ble_eq_true rfl)) d_Rea_quotient_119 ⟨Nat.le_of_ble_eq_true rfl, Nat.le_of_ble_eq_true rfl⟩) hP hD hS hA [4, 5, 6, 7, 8] [0, 1, 2, 3] rfl rfl (by decide) (by decide) (fun rv u H locs hw hP hD hS hK1 => ?_)
            obtain ⟨⟨f31, n32⟩, ⟨f33, n34⟩⟩ := u
            subst hw
            have hP : va_P D vcl [(r, .inr (4, [.ref x, .ref nm, .ref h, .ref q, .int (nI n), .long R, .int fd])), (x, .inl (cC, 2400, .inl (tx T))), (nm, .inr (3, [.ref x, .int v1, .int v2, .int v3, .int v4, .int v5, .int v6, .int v7])), (h, .inr (1, [.ref q, .int g0, .int gs0, .int kp0, .int pl0])), (q, .inr (2, [.ref t, .ref b])), (t, .inr (0, [.ref ta, .int (nI n32)])), (ta, .inl (cA, 96, .inl f31)), (b, .inr (0, [.ref ba, .int (nI n34)])), (ba, .inl (cB, 96, .inl f33))] H := hP
            have hD : va_D A [(r, .inr (4, [.ref x, .ref nm, .ref h, .ref q, .int (nI n), .long R, .int fd])), (x, .inl (cC, 2400, .inl (tx T))), (nm, .inr (3, [.ref x, .int v1, .int v2, .int v3, .int v4, .int v5, .int v6, .int v7])), (h, .inr (1, [.ref q, .int g0, .int gs0, .int kp0, .int pl0])), (q, .inr (2, [.ref t, .ref b])), (t, .inr (0, [.ref ta, .int (nI n32)])), (ta, .inl (cA, 96, .inl f31)), (b, .inr (0, [.ref ba, .int (nI n34)])), (ba, .inl (cB, 96, .inl f33))] := hD
            refine lv_lload_n hx hb d_Rea_quotient_122 rfl (lv_at hl 2 rfl) ?_
            refine lv_lconst (v := 0) hx hb d_Rea_quotient_123 (by decide) ?_
            refine W.lcmp hx hb d_Rea_quotient_124 ?_
            refine lv_if_ge (tgt := 132) hx hb d_Rea_quotient_125 (by decide) (fun c125 => ?_) (fun c125 => ?_)
            · exact absurd ((ng_l (by omega)).mpr e76) (Int64.not_lt.mpr ((lg_cmp_ge _ _).mp c125))
            · refine lv_iconst (v := 1) hx hb d_Rea_quotient_128 (by decide) ?_
              refine lv_goto (tgt := 133) hx hb d_Rea_quotient_129 (by decide) ?_
              refine lv_lload_n hx hb d_Rea_quotient_133 rfl (lv_at hl 3 rfl) ?_
              refine lv_lconst (v := 0) hx hb d_Rea_quotient_134 (by decide) ?_
              refine W.lcmp hx hb d_Rea_quotient_135 ?_
              refine lv_if_ge (tgt := 143) hx hb d_Rea_quotient_136 (by decide) (fun c136 => ?_) (fun c136 => ?_)
              · exact absurd ((ng_l (by omega)).mpr e98) (Int64.not_lt.mpr ((lg_cmp_ge _ _).mp c136))
              · refine lv_iconst (v := 1) hx hb d_Rea_quotient_139 (by decide) ?_
                refine lv_goto (tgt := 144) hx hb d_Rea_quotient_140 (by decide) ?_
                refine lv_icmp_eq (tgt := 151) hx hb d_Rea_quotient_144 (by decide) (fun c144 => ?_) (fun c144 => ?_)
                · refine lv_iconst (v := 0) hx hb d_Rea_quotient_151 (by decide) ?_
                  refine tv_i (bI (ngL aa != ngL bb)) (by unfold ngL; rw [decide_eq_true e76, decide_eq_true e98]; rfl) ?_
                  refine ca_l [(r, .inr (4, [.ref x, .ref nm, .ref h, .ref q, .int (nI n), .long R, .int fd])), (x, .inl (cC, 2400, .inl (tx T))), (nm, .inr (3, [.ref x, .int v1, .int v2, .int v3, .int v4, .int v5, .int v6, .int v7])), (h, .inr (1, [.ref q, .int g0, .int gs0, .int kp0, .int pl0])), (q, .inr (2, [.ref t, .ref b])), (t, .inr (0, [.ref ta, .int (nI n32)])), (ta, .inl (cA, 96, .inl f31)), (b, .inr (0, [.ref ba, .int (nI n34)])), (ba, .inl (cB, 96, .inl f33))] (va_runV (As := [.long (lN (frn (kP 1) (kZ 1) (kLw 1) (ua aa) (ua bb) 0)), .int (bI (ngL aa != ngL bb))]) (rest := []) ⟨hx, hb, hml, hown, hts⟩ (c_Kin_signed l D E 1 (by decide) (lN (frn (kP 1) (kZ 1) (kLw 1) (ua aa) (ua bb) 0)) (bI (ngL aa != ngL bb)) H.size) (xV 2 hts kC_Kin_signed kM_Rea_73 kI_Kin_signed kS_Kin_signed kN_Kin rfl rfl (by decide +kernel) ⟨Nat.le_of_ble_eq_true rfl, Nat.le_of_ble_eq_true rfl⟩) ⟨ct_blind hev, va_recvE (i := 1) hE.2.1 (by decide) hS, ct_pre hev hP hK hD hS hA hE [] rfl (by decide) [] rfl⟩ rfl rfl hl.1 rfl (lv_room (Nat.le_of_ble_eq_true rfl)) d_Rea_quotient_152 ⟨Nat.le_of_ble_eq_true rfl, Nat.le_of_ble_eq_true rfl⟩) hP hD hS hA [] [0, 1, 2, 3, 4, 5, 6, 7, 8] rfl rfl (by decide) (by decide) (fun rv u H locs hw hP hD hS hK1 => ?_)
                  subst hw
                  have hP : va_P D vcl [(r, .inr (4, [.ref x, .ref nm, .ref h, .ref q, .int (nI n), .long R, .int fd])), (x, .inl (cC, 2400, .inl (tx T))), (nm, .inr (3, [.ref x, .int v1, .int v2, .int v3, .int v4, .int v5, .int v6, .int v7])), (h, .inr (1, [.ref q, .int g0, .int gs0, .int kp0, .int pl0])), (q, .inr (2, [.ref t, .ref b])), (t, .inr (0, [.ref ta, .int (nI n32)])), (ta, .inl (cA, 96, .inl f31)), (b, .inr (0, [.ref ba, .int (nI n34)])), (ba, .inl (cB, 96, .inl f33))] H := hP
                  have hD : va_D A [(r, .inr (4, [.ref x, .ref nm, .ref h, .ref q, .int (nI n), .long R, .int fd])), (x, .inl (cC, 2400, .inl (tx T))), (nm, .inr (3, [.ref x, .int v1, .int v2, .int v3, .int v4, .int v5, .int v6, .int v7])), (h, .inr (1, [.ref q, .int g0, .int gs0, .int kp0, .int pl0])), (q, .inr (2, [.ref t, .ref b])), (t, .inr (0, [.ref ta, .int (nI n32)])), (ta, .inl (cA, 96, .inl f31)), (b, .inr (0, [.ref ba, .int (nI n34)])), (ba, .inl (cB, 96, .inl f33))] := hD
                  exact rt_l hx hb hrt hlocks (((v1, v2, v3, v4, v5, v6, v7), (g0, gs0, kp0, pl0), (f31, nI n32, f33, nI n34))) (by rw [e2]; unfold qtN; rw [if_neg e19, if_neg e61]) (hP.sub [0, 1, 2, 3, 4, 5, 6, 7, 8] rfl) (hK.sub [0, 1, 2] rfl) (hD.sub [0, 1, 2, 3, 4, 5, 6, 7, 8] (by decide) rfl) hS d_Rea_quotient_155
                · exact absurd rfl c144
      · have e61 : aa = 0 := (lN_ne0 (by omega)).mp ((lg_cmp_eq _ _).mp c61)
        refine lv_lconst (v := 0) hx hb d_Rea_quotient_64 (by decide) ?_
        exact rt_l hx hb hrt hlocks (((v1, v2, v3, v4, v5, v6, v7), (g0, gs0, kp0, pl0), (f, nv, g, mv))) (by rw [e2]; unfold qtN; rw [if_neg e19, if_pos e61]) (hP.sub [0, 1, 2, 3, 4, 5, 6, 7, 8] rfl) (hK.sub [0, 1, 2] rfl) (hD.sub [0, 1, 2, 3, 4, 5, 6, 7, 8] (by decide) rfl) hS d_Rea_quotient_65
    · have e19 : bb = 0 := (lN_ne0 (by omega)).mp ((lg_cmp_eq _ _).mp c19)
      refine lv_lload_n hx hb d_Rea_quotient_22 rfl (lv_at hl 2 rfl) ?_
      refine lv_lconst (v := 0) hx hb d_Rea_quotient_23 (by decide) ?_
      refine W.lcmp hx hb d_Rea_quotient_24 ?_
      refine lv_if_ne (tgt := 36) hx hb d_Rea_quotient_25 (by decide) (fun c25 => ?_) (fun c25 => ?_)
      · have e25 : aa ≠ 0 := fun z => c25 ((lg_cmp_eq _ _).mpr (by rw [z]; rfl))
        refine lv_aload hx hb d_Rea_quotient_36 (lv_at hl 0 rfl) ?_
        refine lv_aload hx hb d_Rea_quotient_38 (lv_at hl 0 rfl) ?_
        refine va_getX hx hb hE.2.2.2.1 (i := 1) (by decide) hS hown (hts _ kF_Rea_70) (fun _ h9 => h9) d_Rea_quotient_40 ?_
        refine lv_lload_n hx hb d_Rea_quotient_43 rfl (lv_at hl 2 rfl) ?_
        refine lv_lconst (v := 0) hx hb d_Rea_quotient_44 (by decide) ?_
        refine W.lcmp hx hb d_Rea_quotient_45 ?_
        refine lv_if_ge (tgt := 53) hx hb d_Rea_quotient_46 (by decide) (fun c46 => ?_) (fun c46 => ?_)
        · have e46 : ¬ 9223372036854775808 ≤ aa := fun z => absurd ((ng_l (by omega)).mpr z) (Int64.not_lt.mpr ((lg_cmp_ge _ _).mp c46))
          refine lv_iconst (v := 0) hx hb d_Rea_quotient_53 (by decide) ?_
          refine tv_i (bI (ngL aa)) (by unfold ngL; rw [decide_eq_false e46]; rfl) ?_
          refine ca_l [(r, .inr (4, [.ref x, .ref nm, .ref h, .ref q, .int (nI n), .long R, .int fd])), (x, .inl (cC, 2400, .inl (tx T))), (nm, .inr (3, [.ref x, .int v1, .int v2, .int v3, .int v4, .int v5, .int v6, .int v7])), (h, .inr (1, [.ref q, .int g0, .int gs0, .int kp0, .int pl0])), (q, .inr (2, [.ref t, .ref b])), (t, .inr (0, [.ref ta, .int nv])), (ta, .inl (cA, 96, .inl f)), (b, .inr (0, [.ref ba, .int mv])), (ba, .inl (cB, 96, .inl g))] (va_runV (As := [.long (kInf 1), .int (bI (ngL aa))]) (rest := []) ⟨hx, hb, hml, hown, hts⟩ (c_Kin_signed l D E 1 (by decide) (kInf 1) (bI (ngL aa)) H.size) (xV 2 hts kC_Kin_signed kM_Rea_73 kI_Kin_signed kS_Kin_signed kN_Kin rfl rfl (by decide +kernel) ⟨Nat.le_of_ble_eq_true rfl, Nat.le_of_ble_eq_true rfl⟩) ⟨ct_blind hev, va_recvE (i := 1) hE.2.1 (by decide) hS, ct_pre hev hP hK hD hS hA hE [] rfl (by decide) [] rfl⟩ rfl rfl hl.1 rfl (lv_room (Nat.le_of_ble_eq_true rfl)) d_Rea_quotient_54 ⟨Nat.le_of_ble_eq_true rfl, Nat.le_of_ble_eq_true rfl⟩) hP hD hS hA [] [0, 1, 2, 3, 4, 5, 6, 7, 8] rfl rfl (by decide) (by decide) (fun rv u H locs hw hP hD hS hK1 => ?_)
          subst hw
          have hP : va_P D vcl [(r, .inr (4, [.ref x, .ref nm, .ref h, .ref q, .int (nI n), .long R, .int fd])), (x, .inl (cC, 2400, .inl (tx T))), (nm, .inr (3, [.ref x, .int v1, .int v2, .int v3, .int v4, .int v5, .int v6, .int v7])), (h, .inr (1, [.ref q, .int g0, .int gs0, .int kp0, .int pl0])), (q, .inr (2, [.ref t, .ref b])), (t, .inr (0, [.ref ta, .int nv])), (ta, .inl (cA, 96, .inl f)), (b, .inr (0, [.ref ba, .int mv])), (ba, .inl (cB, 96, .inl g))] H := hP
          have hD : va_D A [(r, .inr (4, [.ref x, .ref nm, .ref h, .ref q, .int (nI n), .long R, .int fd])), (x, .inl (cC, 2400, .inl (tx T))), (nm, .inr (3, [.ref x, .int v1, .int v2, .int v3, .int v4, .int v5, .int v6, .int v7])), (h, .inr (1, [.ref q, .int g0, .int gs0, .int kp0, .int pl0])), (q, .inr (2, [.ref t, .ref b])), (t, .inr (0, [.ref ta, .int nv])), (ta, .inl (cA, 96, .inl f)), (b, .inr (0, [.ref ba, .int mv])), (ba, .inl (cB, 96, .inl g))] := hD
          exact rt_l hx hb hrt hlocks (((v1, v2, v3, v4, v5, v6, v7), (g0, gs0, kp0, pl0), (f, nv, g, mv))) (by rw [e2]; unfold qtN; rw [if_pos e19, if_neg e25]) (hP.sub [0, 1, 2, 3, 4, 5, 6, 7, 8] rfl) (hK.sub [0, 1, 2] rfl) (hD.sub [0, 1, 2, 3, 4, 5, 6, 7, 8] (by decide) rfl) hS d_Rea_quotient_57
        · have e46 : 9223372036854775808 ≤ aa := (ng_l (by omega)).mp (Int64.not_le.mp (fun z => c46 ((lg_cmp_ge _ _).mpr z)))
          refine lv_iconst (v := 1) hx hb d_Rea_quotient_49 (by decide) ?_
          refine tv_i (bI (ngL aa)) (by unfold ngL; rw [decide_eq_true e46]; rfl) ?_
          refine lv_goto (tgt := 54) hx hb d_Rea_quotient_50 (by decide) ?_
          refine ca_l [(r, .inr (4, [.ref x, .ref nm, .ref h, .ref q, .int (nI n), .long R, .int fd])), (x, .inl (cC, 2400, .inl (tx T))), (nm, .inr (3, [.ref x, .int v1, .int v2, .int v3, .int v4, .int v5, .int v6, .int v7])), (h, .inr (1, [.ref q, .int g0, .int gs0, .int kp0, .int pl0])), (q, .inr (2, [.ref t, .ref b])), (t, .inr (0, [.ref ta, .int nv])), (ta, .inl (cA, 96, .inl f)), (b, .inr (0, [.ref ba, .int mv])), (ba, .inl (cB, 96, .inl g))] (va_runV (As := [.long (kInf 1), .int (bI (ngL aa))]) (rest := []) ⟨hx, hb, hml, hown, hts⟩ (c_Kin_signed l D E 1 (by decide) (kInf 1) (bI (ngL aa)) H.size) (xV 2 hts kC_Kin_signed kM_Rea_73 kI_Kin_signed kS_Kin_signed kN_Kin rfl rfl (by decide +kernel) ⟨Nat.le_of_ble_eq_true rfl, Nat.le_of_ble_eq_true rfl⟩) ⟨ct_blind hev, va_recvE (i := 1) hE.2.1 (by decide) hS, ct_pre hev hP hK hD hS hA hE [] rfl (by decide) [] rfl⟩ rfl rfl hl.1 rfl (lv_room (Nat.le_of_ble_eq_true rfl)) d_Rea_quotient_54 ⟨Nat.le_of_ble_eq_true rfl, Nat.le_of_ble_eq_true rfl⟩) hP hD hS hA [] [0, 1, 2, 3, 4, 5, 6, 7, 8] rfl rfl (by decide) (by decide) (fun rv u H locs hw hP hD hS hK1 => ?_)
          subst hw
          have hP : va_P D vcl [(r, .inr (4, [.ref x, .ref nm, .ref h, .ref q, .int (nI n), .long R, .int fd])), (x, .inl (cC, 2400, .inl (tx T))), (nm, .inr (3, [.ref x, .int v1, .int v2, .int v3, .int v4, .int v5, .int v6, .int v7])), (h, .inr (1, [.ref q, .int g0, .int gs0, .int kp0, .int pl0])), (q, .inr (2, [.ref t, .ref b])), (t, .inr (0, [.ref ta, .int nv])), (ta, .inl (cA, 96, .inl f)), (b, .inr (0, [.ref ba, .int mv])), (ba, .inl (cB, 96, .inl g))] H := hP
          have hD : va_D A [(r, .inr (4, [.ref x, .ref nm, .ref h, .ref q, .int (nI n), .long R, .int fd])), (x, .inl (cC, 2400, .inl (tx T))), (nm, .inr (3, [.ref x, .int v1, .int v2, .int v3, .int v4, .int v5, .int v6, .int v7])), (h, .inr (1, [.ref q, .int g0, .int gs0, .int kp0, .int pl0])), (q, .inr (2, [.ref t, .ref b])), (t, .inr (0, [.ref ta, .int nv])), (ta, .inl (cA, 96, .inl f)), (b, .inr (0, [.ref ba, .int mv])), (ba, .inl (cB, 96, .inl g))] := hD
          exact rt_l hx hb hrt hlocks (((v1, v2, v3, v4, v5, v6, v7), (g0, gs0, kp0, pl0), (f, nv, g, mv))) (by rw [e2]; unfold qtN; rw [if_pos e19, if_neg e25]) (hP.sub [0, 1, 2, 3, 4, 5, 6, 7, 8] rfl) (hK.sub [0, 1, 2] rfl) (hD.sub [0, 1, 2, 3, 4, 5, 6, 7, 8] (by decide) rfl) hS d_Rea_quotient_57
      · have e25 : aa = 0 := (lN_ne0 (by omega)).mp ((lg_cmp_eq _ _).mp c25)
        refine lv_aload hx hb d_Rea_quotient_28 (lv_at hl 0 rfl) ?_
        refine va_getX hx hb hE.2.2.2.2.1 (i := 1) (by decide) hS hown (hts _ kF_Rea_67) (fun _ h9 => h9) d_Rea_quotient_30 ?_
        refine lv_goto (tgt := 57) hx hb d_Rea_quotient_33 (by decide) ?_
        exact rt_l hx hb hrt hlocks (((v1, v2, v3, v4, v5, v6, v7), (g0, gs0, kp0, pl0), (f, nv, g, mv))) (by rw [e2]; unfold qtN; rw [if_pos e19, if_pos e25]) (hP.sub [0, 1, 2, 3, 4, 5, 6, 7, 8] rfl) (hK.sub [0, 1, 2] rfl) (hD.sub [0, 1, 2, 3, 4, 5, 6, 7, 8] (by decide) rfl) hS d_Rea_quotient_57
  · have e2 : knd wd = 0 := by unfold knd; rw [if_neg c2]
    refine va_gets hx hb (hE.2.1.1 0 (by decide)).1 hS hown (hts _ kF_Rea_50) (fun _ h9 => h9) d_Rea_quotient_5 ?_
    refine lv_goto (tgt := 14) hx hb d_Rea_quotient_8 (by decide) ?_
    refine lv_astore (lv' := [(6, .ref (E.1 0)), (0, .ref r), (1, .long (lN aa)), (3, .long (lN bb)), (5, .int wd)]) hx hb d_Rea_quotient_14 hl (by decide) rfl (fun ls hl => ?_)
    refine lv_lload_n hx hb d_Rea_quotient_16 rfl (lv_at hl 3 rfl) ?_
    refine lv_lconst (v := 0) hx hb d_Rea_quotient_17 (by decide) ?_
    refine W.lcmp hx hb d_Rea_quotient_18 ?_
    refine lv_if_ne (tgt := 58) hx hb d_Rea_quotient_19 (by decide) (fun c19 => ?_) (fun c19 => ?_)
    · have e19 : bb ≠ 0 := fun z => c19 ((lg_cmp_eq _ _).mpr (by rw [z]; rfl))
      refine lv_lload_n hx hb d_Rea_quotient_58 rfl (lv_at hl 2 rfl) ?_
      refine lv_lconst (v := 0) hx hb d_Rea_quotient_59 (by decide) ?_
      refine W.lcmp hx hb d_Rea_quotient_60 ?_
      refine lv_if_ne (tgt := 66) hx hb d_Rea_quotient_61 (by decide) (fun c61 => ?_) (fun c61 => ?_)
      · have e61 : aa ≠ 0 := fun z => c61 ((lg_cmp_eq _ _).mpr (by rw [z]; rfl))
        refine lv_aload_n hx hb d_Rea_quotient_66 rfl (lv_at hl 1 rfl) ?_
        refine va_get (D := D) (ci := 4) (v := .ref q) (C := R_Rea) (T := F_Rea) (N := 7) hx hb hts w_Rea hown hK hP 0 rfl rfl 3 (by decide) (hts _ kF_Rea_32) (fun _ h9 => h9) rfl d_Rea_quotient_67 ?_
        refine va_get (D := D) (ci := 2) (v := .ref t) (C := R_Fra) (T := F_Fra) (N := 2) hx hb hts w_Fra hown hK hP 4 rfl rfl 0 (by decide) (hts _ kF_Rea_77) (fun _ h9 => h9) rfl d_Rea_quotient_70 ?_
        refine lv_lload_n hx hb d_Rea_quotient_73 rfl (lv_at hl 2 rfl) ?_
        refine lv_lconst (v := 0) hx hb d_Rea_quotient_74 (by decide) ?_
        refine W.lcmp hx hb d_Rea_quotient_75 ?_
        refine lv_if_ge (tgt := 84) hx hb d_Rea_quotient_76 (by decide) (fun c76 => ?_) (fun c76 => ?_)
        · have e76 : ¬ 9223372036854775808 ≤ aa := fun z => absurd ((ng_l (by omega)).mpr z) (Int64.not_lt.mpr ((lg_cmp_ge _ _).mp c76))
          refine lv_lload_n hx hb d_Rea_quotient_84 rfl (lv_at hl 2 rfl) ?_
          refine tv_l (lN (ua aa)) (by unfold ua; rw [if_pos (by omega)]) ?_
          refine ca_v [(r, .inr (4, [.ref x, .ref nm, .ref h, .ref q, .int (nI n), .long R, .int fd])), (x, .inl (cC, 2400, .inl (tx T))), (nm, .inr (3, [.ref x, .int v1, .int v2, .int v3, .int v4, .int v5, .int v6, .int v7])), (h, .inr (1, [.ref q, .int g0, .int gs0, .int kp0, .int pl0])), (q, .inr (2, [.ref t, .ref b])), (b, .inr (0, [.ref ba, .int mv])), (ba, .inl (cB, 96, .inl g))] (va_runV (As := [.long (lN (ua aa))]) (rest := []) ⟨hx, hb, hml, hown, hts⟩ (c_Big_set l D E t ta cA f nv (ua aa) ((ua_pos (by omega) e61).2.1) H.size) (xV 1 hts kC_Big_set kM_Rea_83 kI_Big_set kS_Big_set kN_Big rfl rfl (by decide +kernel) ⟨Nat.le_of_ble_eq_true rfl, Nat.le_of_ble_eq_true rfl⟩) ⟨ct_blind hev, va_recv hK hP (ci := 0) (q0 := 5) rfl rfl, ct_pre hev hP hK hD hS hA hE [5, 6] rfl (by decide) [1] rfl⟩ rfl rfl hl.1 rfl (lv_room (Nat.le_of_ble_eq_true rfl)) d_Rea_quotient_85 ⟨Nat.le_of_ble_eq_true rfl, Nat.le_of_ble_eq_true rfl⟩) hP hD hS hA [5, 6] [0, 1, 2, 3, 4, 7, 8] rfl rfl (by decide) (by decide) (fun u H locs hw hP hD hS hK1 => ?_)
          obtain ⟨f35, n36⟩ := u
          have hB37 : isB f35 n36 (ua aa) := hw
          have hP : va_P D vcl [(r, .inr (4, [.ref x, .ref nm, .ref h, .ref q, .int (nI n), .long R, .int fd])), (x, .inl (cC, 2400, .inl (tx T))), (nm, .inr (3, [.ref x, .int v1, .int v2, .int v3, .int v4, .int v5, .int v6, .int v7])), (h, .inr (1, [.ref q, .int g0, .int gs0, .int kp0, .int pl0])), (q, .inr (2, [.ref t, .ref b])), (b, .inr (0, [.ref ba, .int mv])), (ba, .inl (cB, 96, .inl g)), (t, .inr (0, [.ref ta, .int (nI n36)])), (ta, .inl (cA, 96, .inl f35))] H := hP
          have hD : va_D A [(r, .inr (4, [.ref x, .ref nm, .ref h, .ref q, .int (nI n), .long R, .int fd])), (x, .inl (cC, 2400, .inl (tx T))), (nm, .inr (3, [.ref x, .int v1, .int v2, .int v3, .int v4, .int v5, .int v6, .int v7])), (h, .inr (1, [.ref q, .int g0, .int gs0, .int kp0, .int pl0])), (q, .inr (2, [.ref t, .ref b])), (b, .inr (0, [.ref ba, .int mv])), (ba, .inl (cB, 96, .inl g)), (t, .inr (0, [.ref ta, .int (nI n36)])), (ta, .inl (cA, 96, .inl f35))] := hD
          refine lv_aload_n hx hb d_Rea_quotient_88 rfl (lv_at hl 1 rfl) ?_
          refine va_get (D := D) (ci := 4) (v := .ref q) (C := R_Rea) (T := F_Rea) (N := 7) hx hb hts w_Rea hown hK hP 0 rfl rfl 3 (by decide) (hts _ kF_Rea_32) (fun _ h9 => h9) rfl d_Rea_quotient_89 ?_
          refine va_get (D := D) (ci := 2) (v := .ref b) (C := R_Fra) (T := F_Fra) (N := 2) hx hb hts w_Fra hown hK hP 4 rfl rfl 1 (by decide) (hts _ kF_Rea_89) (fun _ h9 => h9) rfl d_Rea_quotient_92 ?_
          refine lv_lload_n hx hb d_Rea_quotient_95 rfl (lv_at hl 3 rfl) ?_
          refine lv_lconst (v := 0) hx hb d_Rea_quotient_96 (by decide) ?_
          refine W.lcmp hx hb d_Rea_quotient_97 ?_
          refine lv_if_ge (tgt := 106) hx hb d_Rea_quotient_98 (by decide) (fun c98 => ?_) (fun c98 => ?_)
          · have e98 : ¬ 9223372036854775808 ≤ bb := fun z => absurd ((ng_l (by omega)).mpr z) (Int64.not_lt.mpr ((lg_cmp_ge _ _).mp c98))
            refine lv_lload_n hx hb d_Rea_quotient_106 rfl (lv_at hl 3 rfl) ?_
            refine tv_l (lN (ua bb)) (by unfold ua; rw [if_pos (by omega)]) ?_
            refine ca_v [(r, .inr (4, [.ref x, .ref nm, .ref h, .ref q, .int (nI n), .long R, .int fd])), (x, .inl (cC, 2400, .inl (tx T))), (nm, .inr (3, [.ref x, .int v1, .int v2, .int v3, .int v4, .int v5, .int v6, .int v7])), (h, .inr (1, [.ref q, .int g0, .int gs0, .int kp0, .int pl0])), (q, .inr (2, [.ref t, .ref b])), (t, .inr (0, [.ref ta, .int (nI n36)])), (ta, .inl (cA, 96, .inl f35))] (va_runV (As := [.long (lN (ua bb))]) (rest := []) ⟨hx, hb, hml, hown, hts⟩ (c_Big_set l D E b ba cB g mv (ua bb) ((ua_pos (by omega) e19).2.1) H.size) (xV 1 hts kC_Big_set kM_Rea_83 kI_Big_set kS_Big_set kN_Big rfl rfl (by decide +kernel) ⟨Nat.le_of_ble_eq_true rfl, Nat.le_of_ble_eq_true rfl⟩) ⟨ct_blind hev, va_recv hK hP (ci := 0) (q0 := 5) rfl rfl, ct_pre hev hP hK hD hS hA hE [5, 6] rfl (by decide) [2] rfl⟩ rfl rfl hl.1 rfl (lv_room (Nat.le_of_ble_eq_true rfl)) d_Rea_quotient_107 ⟨Nat.le_of_ble_eq_true rfl, Nat.le_of_ble_eq_true rfl⟩) hP hD hS hA [5, 6] [0, 1, 2, 3, 4, 7, 8] rfl rfl (by decide) (by decide) (fun u H locs hw hP hD hS hK1 => ?_)
            obtain ⟨f38, n39⟩ := u
            have hB40 : isB f38 n39 (ua bb) := hw
            have hP : va_P D vcl [(r, .inr (4, [.ref x, .ref nm, .ref h, .ref q, .int (nI n), .long R, .int fd])), (x, .inl (cC, 2400, .inl (tx T))), (nm, .inr (3, [.ref x, .int v1, .int v2, .int v3, .int v4, .int v5, .int v6, .int v7])), (h, .inr (1, [.ref q, .int g0, .int gs0, .int kp0, .int pl0])), (q, .inr (2, [.ref t, .ref b])), (t, .inr (0, [.ref ta, .int (nI n36)])), (ta, .inl (cA, 96, .inl f35)), (b, .inr (0, [.ref ba, .int (nI n39)])), (ba, .inl (cB, 96, .inl f38))] H := hP
            have hD : va_D A [(r, .inr (4, [.ref x, .ref nm, .ref h, .ref q, .int (nI n), .long R, .int fd])), (x, .inl (cC, 2400, .inl (tx T))), (nm, .inr (3, [.ref x, .int v1, .int v2, .int v3, .int v4, .int v5, .int v6, .int v7])), (h, .inr (1, [.ref q, .int g0, .int gs0, .int kp0, .int pl0])), (q, .inr (2, [.ref t, .ref b])), (t, .inr (0, [.ref ta, .int (nI n36)])), (ta, .inl (cA, 96, .inl f35)), (b, .inr (0, [.ref ba, .int (nI n39)])), (ba, .inl (cB, 96, .inl f38))] := hD
            refine lv_aload hx hb d_Rea_quotient_110 (lv_at hl 0 rfl) ?_
            refine lv_aload_n hx hb d_Rea_quotient_112 rfl (lv_at hl 1 rfl) ?_
            refine va_get (D := D) (ci := 4) (v := .ref q) (C := R_Rea) (T := F_Rea) (N := 7) hx hb hts w_Rea hown hK hP 0 rfl rfl 3 (by decide) (hts _ kF_Rea_32) (fun _ h9 => h9) rfl d_Rea_quotient_113 ?_
            refine lv_aload hx hb d_Rea_quotient_116 (lv_at hl 0 rfl) ?_
            refine lv_iconst (v := 0) hx hb d_Rea_quotient_118 (by decide) ?_
            refine tv_i (zI 0) (rfl) ?_
            refine ca_l [(r, .inr (4, [.ref x, .ref nm, .ref h, .ref q, .int (nI n), .long R, .int fd])), (x, .inl (cC, 2400, .inl (tx T))), (nm, .inr (3, [.ref x, .int v1, .int v2, .int v3, .int v4, .int v5, .int v6, .int v7])), (h, .inr (1, [.ref q, .int g0, .int gs0, .int kp0, .int pl0]))] (va_runV (As := [.ref (E.1 0), .int (zI 0)]) (rest := [.ref (E.1 0)]) ⟨hx, hb, hml, hown, hts⟩ (c_Fra_nearest l D E 0 (by decide) q t ta b ba cA cB f35 f38 n36 n39 (ua aa) (ua bb) 0 hB37 hB40 ((ua_pos (by omega) e61).1) ((ua_pos (by omega) e19).1) ((ua_pos (by omega) e61).2.2) ((ua_pos (by omega) e19).2.2) (by decide) (by decide) H.size) (xV 2 hts kC_Fra_nearest kM_Rea_92 kI_Fra_nearest kS_Fra_nearest kN_Fra rfl rfl (by decide +kernel) ⟨Nat.le_of_ble_eq_true rfl, Nat.le_of_ble_eq_true rfl⟩) ⟨ct_blind hev, va_recv hK hP (ci := 2) (q0 := 4) rfl rfl, ct_pre hev hP hK hD hS hA hE [4, 5, 6, 7, 8] rfl (by decide) [1, 2] rfl⟩ rfl rfl hl.1 rfl (lv_room (Nat.le_of_ble_eq_true rfl)) d_Rea_quotient_119 ⟨Nat.le_of_ble_eq_true rfl, Nat.le_of_ble_eq_true rfl⟩) hP hD hS hA [4, 5, 6, 7, 8] [0, 1, 2, 3] rfl rfl (by decide) (by decide) (fun rv u H locs hw hP hD hS hK1 => ?_)
            obtain ⟨⟨f41, n42⟩, ⟨f43, n44⟩⟩ := u
            subst hw
            have hP : va_P D vcl [(r, .inr (4, [.ref x, .ref nm, .ref h, .ref q, .int (nI n), .long R, .int fd])), (x, .inl (cC, 2400, .inl (tx T))), (nm, .inr (3, [.ref x, .int v1, .int v2, .int v3, .int v4, .int v5, .int v6, .int v7])), (h, .inr (1, [.ref q, .int g0, .int gs0, .int kp0, .int pl0])), (q, .inr (2, [.ref t, .ref b])), (t, .inr (0, [.ref ta, .int (nI n42)])), (ta, .inl (cA, 96, .inl f41)), (b, .inr (0, [.ref ba, .int (nI n44)])), (ba, .inl (cB, 96, .inl f43))] H := hP
            have hD : va_D A [(r, .inr (4, [.ref x, .ref nm, .ref h, .ref q, .int (nI n), .long R, .int fd])), (x, .inl (cC, 2400, .inl (tx T))), (nm, .inr (3, [.ref x, .int v1, .int v2, .int v3, .int v4, .int v5, .int v6, .int v7])), (h, .inr (1, [.ref q, .int g0, .int gs0, .int kp0, .int pl0])), (q, .inr (2, [.ref t, .ref b])), (t, .inr (0, [.ref ta, .int (nI n42)])), (ta, .inl (cA, 96, .inl f41)), (b, .inr (0, [.ref ba, .int (nI n44)])), (ba, .inl (cB, 96, .inl f43))] := hD
            refine lv_lload_n hx hb d_Rea_quotient_122 rfl (lv_at hl 2 rfl) ?_
            refine lv_lconst (v := 0) hx hb d_Rea_quotient_123 (by decide) ?_
            refine W.lcmp hx hb d_Rea_quotient_124 ?_
            refine lv_if_ge (tgt := 132) hx hb d_Rea_quotient_125 (by decide) (fun c125 => ?_) (fun c125 => ?_)
            · refine lv_iconst (v := 0) hx hb d_Rea_quotient_132 (by decide) ?_
              refine lv_lload_n hx hb d_Rea_quotient_133 rfl (lv_at hl 3 rfl) ?_
              refine lv_lconst (v := 0) hx hb d_Rea_quotient_134 (by decide) ?_
              refine W.lcmp hx hb d_Rea_quotient_135 ?_
              refine lv_if_ge (tgt := 143) hx hb d_Rea_quotient_136 (by decide) (fun c136 => ?_) (fun c136 => ?_)
              · refine lv_iconst (v := 0) hx hb d_Rea_quotient_143 (by decide) ?_
                refine lv_icmp_eq (tgt := 151) hx hb d_Rea_quotient_144 (by decide) (fun c144 => ?_) (fun c144 => ?_)
                · refine lv_iconst (v := 0) hx hb d_Rea_quotient_151 (by decide) ?_
                  refine tv_i (bI (ngL aa != ngL bb)) (by unfold ngL; rw [decide_eq_false e76, decide_eq_false e98]; rfl) ?_
                  refine ca_l [(r, .inr (4, [.ref x, .ref nm, .ref h, .ref q, .int (nI n), .long R, .int fd])), (x, .inl (cC, 2400, .inl (tx T))), (nm, .inr (3, [.ref x, .int v1, .int v2, .int v3, .int v4, .int v5, .int v6, .int v7])), (h, .inr (1, [.ref q, .int g0, .int gs0, .int kp0, .int pl0])), (q, .inr (2, [.ref t, .ref b])), (t, .inr (0, [.ref ta, .int (nI n42)])), (ta, .inl (cA, 96, .inl f41)), (b, .inr (0, [.ref ba, .int (nI n44)])), (ba, .inl (cB, 96, .inl f43))] (va_runV (As := [.long (lN (frn (kP 0) (kZ 0) (kLw 0) (ua aa) (ua bb) 0)), .int (bI (ngL aa != ngL bb))]) (rest := []) ⟨hx, hb, hml, hown, hts⟩ (c_Kin_signed l D E 0 (by decide) (lN (frn (kP 0) (kZ 0) (kLw 0) (ua aa) (ua bb) 0)) (bI (ngL aa != ngL bb)) H.size) (xV 2 hts kC_Kin_signed kM_Rea_73 kI_Kin_signed kS_Kin_signed kN_Kin rfl rfl (by decide +kernel) ⟨Nat.le_of_ble_eq_true rfl, Nat.le_of_ble_eq_true rfl⟩) ⟨ct_blind hev, va_recvE (i := 0) hE.2.1 (by decide) hS, ct_pre hev hP hK hD hS hA hE [] rfl (by decide) [] rfl⟩ rfl rfl hl.1 rfl (lv_room (Nat.le_of_ble_eq_true rfl)) d_Rea_quotient_152 ⟨Nat.le_of_ble_eq_true rfl, Nat.le_of_ble_eq_true rfl⟩) hP hD hS hA [] [0, 1, 2, 3, 4, 5, 6, 7, 8] rfl rfl (by decide) (by decide) (fun rv u H locs hw hP hD hS hK1 => ?_)
                  subst hw
                  have hP : va_P D vcl [(r, .inr (4, [.ref x, .ref nm, .ref h, .ref q, .int (nI n), .long R, .int fd])), (x, .inl (cC, 2400, .inl (tx T))), (nm, .inr (3, [.ref x, .int v1, .int v2, .int v3, .int v4, .int v5, .int v6, .int v7])), (h, .inr (1, [.ref q, .int g0, .int gs0, .int kp0, .int pl0])), (q, .inr (2, [.ref t, .ref b])), (t, .inr (0, [.ref ta, .int (nI n42)])), (ta, .inl (cA, 96, .inl f41)), (b, .inr (0, [.ref ba, .int (nI n44)])), (ba, .inl (cB, 96, .inl f43))] H := hP
                  have hD : va_D A [(r, .inr (4, [.ref x, .ref nm, .ref h, .ref q, .int (nI n), .long R, .int fd])), (x, .inl (cC, 2400, .inl (tx T))), (nm, .inr (3, [.ref x, .int v1, .int v2, .int v3, .int v4, .int v5, .int v6, .int v7])), (h, .inr (1, [.ref q, .int g0, .int gs0, .int kp0, .int pl0])), (q, .inr (2, [.ref t, .ref b])), (t, .inr (0, [.ref ta, .int (nI n42)])), (ta, .inl (cA, 96, .inl f41)), (b, .inr (0, [.ref ba, .int (nI n44)])), (ba, .inl (cB, 96, .inl f43))] := hD
                  exact rt_l hx hb hrt hlocks (((v1, v2, v3, v4, v5, v6, v7), (g0, gs0, kp0, pl0), (f41, nI n42, f43, nI n44))) (by rw [e2]; unfold qtN; rw [if_neg e19, if_neg e61]) (hP.sub [0, 1, 2, 3, 4, 5, 6, 7, 8] rfl) (hK.sub [0, 1, 2] rfl) (hD.sub [0, 1, 2, 3, 4, 5, 6, 7, 8] (by decide) rfl) hS d_Rea_quotient_155
                · exact absurd rfl c144
              · exact absurd ((ng_l (by omega)).mp (Int64.not_le.mp (fun z => c136 ((lg_cmp_ge _ _).mpr z)))) e98
            · exact absurd ((ng_l (by omega)).mp (Int64.not_le.mp (fun z => c125 ((lg_cmp_ge _ _).mpr z)))) e76
          · have e98 : 9223372036854775808 ≤ bb := (ng_l (by omega)).mp (Int64.not_le.mp (fun z => c98 ((lg_cmp_ge _ _).mpr z)))
            refine lv_lload_n hx hb d_Rea_quotient_101 rfl (lv_at hl 3 rfl) ?_
            refine lv_lneg hx hb d_Rea_quotient_102 ?_
            refine tv_l (lN (ua bb)) (by unfold ua; rw [if_neg (by omega)]; exact neg_l (by omega)) ?_
            refine lv_goto (tgt := 107) hx hb d_Rea_quotient_103 (by decide) ?_
            refine ca_v [(r, .inr (4, [.ref x, .ref nm, .ref h, .ref q, .int (nI n), .long R, .int fd])), (x, .inl (cC, 2400, .inl (tx T))), (nm, .inr (3, [.ref x, .int v1, .int v2, .int v3, .int v4, .int v5, .int v6, .int v7])), (h, .inr (1, [.ref q, .int g0, .int gs0, .int kp0, .int pl0])), (q, .inr (2, [.ref t, .ref b])), (t, .inr (0, [.ref ta, .int (nI n36)])), (ta, .inl (cA, 96, .inl f35))] (va_runV (As := [.long (lN (ua bb))]) (rest := []) ⟨hx, hb, hml, hown, hts⟩ (c_Big_set l D E b ba cB g mv (ua bb) ((ua_pos (by omega) e19).2.1) H.size) (xV 1 hts kC_Big_set kM_Rea_83 kI_Big_set kS_Big_set kN_Big rfl rfl (by decide +kernel) ⟨Nat.le_of_ble_eq_true rfl, Nat.le_of_ble_eq_true rfl⟩) ⟨ct_blind hev, va_recv hK hP (ci := 0) (q0 := 5) rfl rfl, ct_pre hev hP hK hD hS hA hE [5, 6] rfl (by decide) [2] rfl⟩ rfl rfl hl.1 rfl (lv_room (Nat.le_of_ble_eq_true rfl)) d_Rea_quotient_107 ⟨Nat.le_of_ble_eq_true rfl, Nat.le_of_ble_eq_true rfl⟩) hP hD hS hA [5, 6] [0, 1, 2, 3, 4, 7, 8] rfl rfl (by decide) (by decide) (fun u H locs hw hP hD hS hK1 => ?_)
            obtain ⟨f45, n46⟩ := u
            have hB47 : isB f45 n46 (ua bb) := hw
            have hP : va_P D vcl [(r, .inr (4, [.ref x, .ref nm, .ref h, .ref q, .int (nI n), .long R, .int fd])), (x, .inl (cC, 2400, .inl (tx T))), (nm, .inr (3, [.ref x, .int v1, .int v2, .int v3, .int v4, .int v5, .int v6, .int v7])), (h, .inr (1, [.ref q, .int g0, .int gs0, .int kp0, .int pl0])), (q, .inr (2, [.ref t, .ref b])), (t, .inr (0, [.ref ta, .int (nI n36)])), (ta, .inl (cA, 96, .inl f35)), (b, .inr (0, [.ref ba, .int (nI n46)])), (ba, .inl (cB, 96, .inl f45))] H := hP
            have hD : va_D A [(r, .inr (4, [.ref x, .ref nm, .ref h, .ref q, .int (nI n), .long R, .int fd])), (x, .inl (cC, 2400, .inl (tx T))), (nm, .inr (3, [.ref x, .int v1, .int v2, .int v3, .int v4, .int v5, .int v6, .int v7])), (h, .inr (1, [.ref q, .int g0, .int gs0, .int kp0, .int pl0])), (q, .inr (2, [.ref t, .ref b])), (t, .inr (0, [.ref ta, .int (nI n36)])), (ta, .inl (cA, 96, .inl f35)), (b, .inr (0, [.ref ba, .int (nI n46)])), (ba, .inl (cB, 96, .inl f45))] := hD
            refine lv_aload hx hb d_Rea_quotient_110 (lv_at hl 0 rfl) ?_
            refine lv_aload_n hx hb d_Rea_quotient_112 rfl (lv_at hl 1 rfl) ?_
            refine va_get (D := D) (ci := 4) (v := .ref q) (C := R_Rea) (T := F_Rea) (N := 7) hx hb hts w_Rea hown hK hP 0 rfl rfl 3 (by decide) (hts _ kF_Rea_32) (fun _ h9 => h9) rfl d_Rea_quotient_113 ?_
            refine lv_aload hx hb d_Rea_quotient_116 (lv_at hl 0 rfl) ?_
            refine lv_iconst (v := 0) hx hb d_Rea_quotient_118 (by decide) ?_
            refine tv_i (zI 0) (rfl) ?_
            refine ca_l [(r, .inr (4, [.ref x, .ref nm, .ref h, .ref q, .int (nI n), .long R, .int fd])), (x, .inl (cC, 2400, .inl (tx T))), (nm, .inr (3, [.ref x, .int v1, .int v2, .int v3, .int v4, .int v5, .int v6, .int v7])), (h, .inr (1, [.ref q, .int g0, .int gs0, .int kp0, .int pl0]))] (va_runV (As := [.ref (E.1 0), .int (zI 0)]) (rest := [.ref (E.1 0)]) ⟨hx, hb, hml, hown, hts⟩ (c_Fra_nearest l D E 0 (by decide) q t ta b ba cA cB f35 f45 n36 n46 (ua aa) (ua bb) 0 hB37 hB47 ((ua_pos (by omega) e61).1) ((ua_pos (by omega) e19).1) ((ua_pos (by omega) e61).2.2) ((ua_pos (by omega) e19).2.2) (by decide) (by decide) H.size) (xV 2 hts kC_Fra_nearest kM_Rea_92 kI_Fra_nearest kS_Fra_nearest kN_Fra rfl rfl (by decide +kernel) ⟨Nat.le_of_ble_eq_true rfl, Nat.le_of_ble_eq_true rfl⟩) ⟨ct_blind hev, va_recv hK hP (ci := 2) (q0 := 4) rfl rfl, ct_pre hev hP hK hD hS hA hE [4, 5, 6, 7, 8] rfl (by decide) [1, 2] rfl⟩ rfl rfl hl.1 rfl (lv_room (Nat.le_of_ble_eq_true rfl)) d_Rea_quotient_119 ⟨Nat.le_of_ble_eq_true rfl, Nat.le_of_ble_eq_true rfl⟩) hP hD hS hA [4, 5, 6, 7, 8] [0, 1, 2, 3] rfl rfl (by decide) (by decide) (fun rv u H locs hw hP hD hS hK1 => ?_)
            obtain ⟨⟨f48, n49⟩, ⟨f50, n51⟩⟩ := u
            subst hw
            have hP : va_P D vcl [(r, .inr (4, [.ref x, .ref nm, .ref h, .ref q, .int (nI n), .long R, .int fd])), (x, .inl (cC, 2400, .inl (tx T))), (nm, .inr (3, [.ref x, .int v1, .int v2, .int v3, .int v4, .int v5, .int v6, .int v7])), (h, .inr (1, [.ref q, .int g0, .int gs0, .int kp0, .int pl0])), (q, .inr (2, [.ref t, .ref b])), (t, .inr (0, [.ref ta, .int (nI n49)])), (ta, .inl (cA, 96, .inl f48)), (b, .inr (0, [.ref ba, .int (nI n51)])), (ba, .inl (cB, 96, .inl f50))] H := hP
            have hD : va_D A [(r, .inr (4, [.ref x, .ref nm, .ref h, .ref q, .int (nI n), .long R, .int fd])), (x, .inl (cC, 2400, .inl (tx T))), (nm, .inr (3, [.ref x, .int v1, .int v2, .int v3, .int v4, .int v5, .int v6, .int v7])), (h, .inr (1, [.ref q, .int g0, .int gs0, .int kp0, .int pl0])), (q, .inr (2, [.ref t, .ref b])), (t, .inr (0, [.ref ta, .int (nI n49)])), (ta, .inl (cA, 96, .inl f48)), (b, .inr (0, [.ref ba, .int (nI n51)])), (ba, .inl (cB, 96, .inl f50))] := hD
            refine lv_lload_n hx hb d_Rea_quotient_122 rfl (lv_at hl 2 rfl) ?_
            refine lv_lconst (v := 0) hx hb d_Rea_quotient_123 (by decide) ?_
            refine W.lcmp hx hb d_Rea_quotient_124 ?_
            refine lv_if_ge (tgt := 132) hx hb d_Rea_quotient_125 (by decide) (fun c125 => ?_) (fun c125 => ?_)
            · refine lv_iconst (v := 0) hx hb d_Rea_quotient_132 (by decide) ?_
              refine lv_lload_n hx hb d_Rea_quotient_133 rfl (lv_at hl 3 rfl) ?_
              refine lv_lconst (v := 0) hx hb d_Rea_quotient_134 (by decide) ?_
              refine W.lcmp hx hb d_Rea_quotient_135 ?_
              refine lv_if_ge (tgt := 143) hx hb d_Rea_quotient_136 (by decide) (fun c136 => ?_) (fun c136 => ?_)
              · exact absurd ((ng_l (by omega)).mpr e98) (Int64.not_lt.mpr ((lg_cmp_ge _ _).mp c136))
              · refine lv_iconst (v := 1) hx hb d_Rea_quotient_139 (by decide) ?_
                refine lv_goto (tgt := 144) hx hb d_Rea_quotient_140 (by decide) ?_
                refine lv_icmp_eq (tgt := 151) hx hb d_Rea_quotient_144 (by decide) (fun c144 => ?_) (fun c144 => ?_)
                · exact absurd c144 (by decide)
                · refine lv_iconst (v := 1) hx hb d_Rea_quotient_147 (by decide) ?_
                  refine tv_i (bI (ngL aa != ngL bb)) (by unfold ngL; rw [decide_eq_false e76, decide_eq_true e98]; rfl) ?_
                  refine lv_goto (tgt := 152) hx hb d_Rea_quotient_148 (by decide) ?_
                  refine ca_l [(r, .inr (4, [.ref x, .ref nm, .ref h, .ref q, .int (nI n), .long R, .int fd])), (x, .inl (cC, 2400, .inl (tx T))), (nm, .inr (3, [.ref x, .int v1, .int v2, .int v3, .int v4, .int v5, .int v6, .int v7])), (h, .inr (1, [.ref q, .int g0, .int gs0, .int kp0, .int pl0])), (q, .inr (2, [.ref t, .ref b])), (t, .inr (0, [.ref ta, .int (nI n49)])), (ta, .inl (cA, 96, .inl f48)), (b, .inr (0, [.ref ba, .int (nI n51)])), (ba, .inl (cB, 96, .inl f50))] (va_runV (As := [.long (lN (frn (kP 0) (kZ 0) (kLw 0) (ua aa) (ua bb) 0)), .int (bI (ngL aa != ngL bb))]) (rest := []) ⟨hx, hb, hml, hown, hts⟩ (c_Kin_signed l D E 0 (by decide) (lN (frn (kP 0) (kZ 0) (kLw 0) (ua aa) (ua bb) 0)) (bI (ngL aa != ngL bb)) H.size) (xV 2 hts kC_Kin_signed kM_Rea_73 kI_Kin_signed kS_Kin_signed kN_Kin rfl rfl (by decide +kernel) ⟨Nat.le_of_ble_eq_true rfl, Nat.le_of_ble_eq_true rfl⟩) ⟨ct_blind hev, va_recvE (i := 0) hE.2.1 (by decide) hS, ct_pre hev hP hK hD hS hA hE [] rfl (by decide) [] rfl⟩ rfl rfl hl.1 rfl (lv_room (Nat.le_of_ble_eq_true rfl)) d_Rea_quotient_152 ⟨Nat.le_of_ble_eq_true rfl, Nat.le_of_ble_eq_true rfl⟩) hP hD hS hA [] [0, 1, 2, 3, 4, 5, 6, 7, 8] rfl rfl (by decide) (by decide) (fun rv u H locs hw hP hD hS hK1 => ?_)
                  subst hw
                  have hP : va_P D vcl [(r, .inr (4, [.ref x, .ref nm, .ref h, .ref q, .int (nI n), .long R, .int fd])), (x, .inl (cC, 2400, .inl (tx T))), (nm, .inr (3, [.ref x, .int v1, .int v2, .int v3, .int v4, .int v5, .int v6, .int v7])), (h, .inr (1, [.ref q, .int g0, .int gs0, .int kp0, .int pl0])), (q, .inr (2, [.ref t, .ref b])), (t, .inr (0, [.ref ta, .int (nI n49)])), (ta, .inl (cA, 96, .inl f48)), (b, .inr (0, [.ref ba, .int (nI n51)])), (ba, .inl (cB, 96, .inl f50))] H := hP
                  have hD : va_D A [(r, .inr (4, [.ref x, .ref nm, .ref h, .ref q, .int (nI n), .long R, .int fd])), (x, .inl (cC, 2400, .inl (tx T))), (nm, .inr (3, [.ref x, .int v1, .int v2, .int v3, .int v4, .int v5, .int v6, .int v7])), (h, .inr (1, [.ref q, .int g0, .int gs0, .int kp0, .int pl0])), (q, .inr (2, [.ref t, .ref b])), (t, .inr (0, [.ref ta, .int (nI n49)])), (ta, .inl (cA, 96, .inl f48)), (b, .inr (0, [.ref ba, .int (nI n51)])), (ba, .inl (cB, 96, .inl f50))] := hD
                  exact rt_l hx hb hrt hlocks (((v1, v2, v3, v4, v5, v6, v7), (g0, gs0, kp0, pl0), (f48, nI n49, f50, nI n51))) (by rw [e2]; unfold qtN; rw [if_neg e19, if_neg e61]) (hP.sub [0, 1, 2, 3, 4, 5, 6, 7, 8] rfl) (hK.sub [0, 1, 2] rfl) (hD.sub [0, 1, 2, 3, 4, 5, 6, 7, 8] (by decide) rfl) hS d_Rea_quotient_155
            · exact absurd ((ng_l (by omega)).mp (Int64.not_le.mp (fun z => c125 ((lg_cmp_ge _ _).mpr z)))) e76
        · have e76 : 9223372036854775808 ≤ aa := (ng_l (by omega)).mp (Int64.not_le.mp (fun z => c76 ((lg_cmp_ge _ _).mpr z)))
          refine lv_lload_n hx hb d_Rea_quotient_79 rfl (lv_at hl 2 rfl) ?_
          refine lv_lneg hx hb d_Rea_quotient_80 ?_
          refine tv_l (lN (ua aa)) (by unfold ua; rw [if_neg (by omega)]; exact neg_l (by omega)) ?_
          refine lv_goto (tgt := 85) hx hb d_Rea_quotient_81 (by decide) ?_
          refine ca_v [(r, .inr (4, [.ref x, .ref nm, .ref h, .ref q, .int (nI n), .long R, .int fd])), (x, .inl (cC, 2400, .inl (tx T))), (nm, .inr (3, [.ref x, .int v1, .int v2, .int v3, .int v4, .int v5, .int v6, .int v7])), (h, .inr (1, [.ref q, .int g0, .int gs0, .int kp0, .int pl0])), (q, .inr (2, [.ref t, .ref b])), (b, .inr (0, [.ref ba, .int mv])), (ba, .inl (cB, 96, .inl g))] (va_runV (As := [.long (lN (ua aa))]) (rest := []) ⟨hx, hb, hml, hown, hts⟩ (c_Big_set l D E t ta cA f nv (ua aa) ((ua_pos (by omega) e61).2.1) H.size) (xV 1 hts kC_Big_set kM_Rea_83 kI_Big_set kS_Big_set kN_Big rfl rfl (by decide +kernel) ⟨Nat.le_of_ble_eq_true rfl, Nat.le_of_ble_eq_true rfl⟩) ⟨ct_blind hev, va_recv hK hP (ci := 0) (q0 := 5) rfl rfl, ct_pre hev hP hK hD hS hA hE [5, 6] rfl (by decide) [1] rfl⟩ rfl rfl hl.1 rfl (lv_room (Nat.le_of_ble_eq_true rfl)) d_Rea_quotient_85 ⟨Nat.le_of_ble_eq_true rfl, Nat.le_of_ble_eq_true rfl⟩) hP hD hS hA [5, 6] [0, 1, 2, 3, 4, 7, 8] rfl rfl (by decide) (by decide) (fun u H locs hw hP hD hS hK1 => ?_)
          obtain ⟨f52, n53⟩ := u
          have hB54 : isB f52 n53 (ua aa) := hw
          have hP : va_P D vcl [(r, .inr (4, [.ref x, .ref nm, .ref h, .ref q, .int (nI n), .long R, .int fd])), (x, .inl (cC, 2400, .inl (tx T))), (nm, .inr (3, [.ref x, .int v1, .int v2, .int v3, .int v4, .int v5, .int v6, .int v7])), (h, .inr (1, [.ref q, .int g0, .int gs0, .int kp0, .int pl0])), (q, .inr (2, [.ref t, .ref b])), (b, .inr (0, [.ref ba, .int mv])), (ba, .inl (cB, 96, .inl g)), (t, .inr (0, [.ref ta, .int (nI n53)])), (ta, .inl (cA, 96, .inl f52))] H := hP
          have hD : va_D A [(r, .inr (4, [.ref x, .ref nm, .ref h, .ref q, .int (nI n), .long R, .int fd])), (x, .inl (cC, 2400, .inl (tx T))), (nm, .inr (3, [.ref x, .int v1, .int v2, .int v3, .int v4, .int v5, .int v6, .int v7])), (h, .inr (1, [.ref q, .int g0, .int gs0, .int kp0, .int pl0])), (q, .inr (2, [.ref t, .ref b])), (b, .inr (0, [.ref ba, .int mv])), (ba, .inl (cB, 96, .inl g)), (t, .inr (0, [.ref ta, .int (nI n53)])), (ta, .inl (cA, 96, .inl f52))] := hD
          refine lv_aload_n hx hb d_Rea_quotient_88 rfl (lv_at hl 1 rfl) ?_
          refine va_get (D := D) (ci := 4) (v := .ref q) (C := R_Rea) (T := F_Rea) (N := 7) hx hb hts w_Rea hown hK hP 0 rfl rfl 3 (by decide) (hts _ kF_Rea_32) (fun _ h9 => h9) rfl d_Rea_quotient_89 ?_
          refine va_get (D := D) (ci := 2) (v := .ref b) (C := R_Fra) (T := F_Fra) (N := 2) hx hb hts w_Fra hown hK hP 4 rfl rfl 1 (by decide) (hts _ kF_Rea_89) (fun _ h9 => h9) rfl d_Rea_quotient_92 ?_
          refine lv_lload_n hx hb d_Rea_quotient_95 rfl (lv_at hl 3 rfl) ?_
          refine lv_lconst (v := 0) hx hb d_Rea_quotient_96 (by decide) ?_
          refine W.lcmp hx hb d_Rea_quotient_97 ?_
          refine lv_if_ge (tgt := 106) hx hb d_Rea_quotient_98 (by decide) (fun c98 => ?_) (fun c98 => ?_)
          · have e98 : ¬ 9223372036854775808 ≤ bb := fun z => absurd ((ng_l (by omega)).mpr z) (Int64.not_lt.mpr ((lg_cmp_ge _ _).mp c98))
            refine lv_lload_n hx hb d_Rea_quotient_106 rfl (lv_at hl 3 rfl) ?_
            refine tv_l (lN (ua bb)) (by unfold ua; rw [if_pos (by omega)]) ?_
            refine ca_v [(r, .inr (4, [.ref x, .ref nm, .ref h, .ref q, .int (nI n), .long R, .int fd])), (x, .inl (cC, 2400, .inl (tx T))), (nm, .inr (3, [.ref x, .int v1, .int v2, .int v3, .int v4, .int v5, .int v6, .int v7])), (h, .inr (1, [.ref q, .int g0, .int gs0, .int kp0, .int pl0])), (q, .inr (2, [.ref t, .ref b])), (t, .inr (0, [.ref ta, .int (nI n53)])), (ta, .inl (cA, 96, .inl f52))] (va_runV (As := [.long (lN (ua bb))]) (rest := []) ⟨hx, hb, hml, hown, hts⟩ (c_Big_set l D E b ba cB g mv (ua bb) ((ua_pos (by omega) e19).2.1) H.size) (xV 1 hts kC_Big_set kM_Rea_83 kI_Big_set kS_Big_set kN_Big rfl rfl (by decide +kernel) ⟨Nat.le_of_ble_eq_true rfl, Nat.le_of_ble_eq_true rfl⟩) ⟨ct_blind hev, va_recv hK hP (ci := 0) (q0 := 5) rfl rfl, ct_pre hev hP hK hD hS hA hE [5, 6] rfl (by decide) [2] rfl⟩ rfl rfl hl.1 rfl (lv_room (Nat.le_of_ble_eq_true rfl)) d_Rea_quotient_107 ⟨Nat.le_of_ble_eq_true rfl, Nat.le_of_ble_eq_true rfl⟩) hP hD hS hA [5, 6] [0, 1, 2, 3, 4, 7, 8] rfl rfl (by decide) (by decide) (fun u H locs hw hP hD hS hK1 => ?_)
            obtain ⟨f55, n56⟩ := u
            have hB57 : isB f55 n56 (ua bb) := hw
            have hP : va_P D vcl [(r, .inr (4, [.ref x, .ref nm, .ref h, .ref q, .int (nI n), .long R, .int fd])), (x, .inl (cC, 2400, .inl (tx T))), (nm, .inr (3, [.ref x, .int v1, .int v2, .int v3, .int v4, .int v5, .int v6, .int v7])), (h, .inr (1, [.ref q, .int g0, .int gs0, .int kp0, .int pl0])), (q, .inr (2, [.ref t, .ref b])), (t, .inr (0, [.ref ta, .int (nI n53)])), (ta, .inl (cA, 96, .inl f52)), (b, .inr (0, [.ref ba, .int (nI n56)])), (ba, .inl (cB, 96, .inl f55))] H := hP
            have hD : va_D A [(r, .inr (4, [.ref x, .ref nm, .ref h, .ref q, .int (nI n), .long R, .int fd])), (x, .inl (cC, 2400, .inl (tx T))), (nm, .inr (3, [.ref x, .int v1, .int v2, .int v3, .int v4, .int v5, .int v6, .int v7])), (h, .inr (1, [.ref q, .int g0, .int gs0, .int kp0, .int pl0])), (q, .inr (2, [.ref t, .ref b])), (t, .inr (0, [.ref ta, .int (nI n53)])), (ta, .inl (cA, 96, .inl f52)), (b, .inr (0, [.ref ba, .int (nI n56)])), (ba, .inl (cB, 96, .inl f55))] := hD
            refine lv_aload hx hb d_Rea_quotient_110 (lv_at hl 0 rfl) ?_
            refine lv_aload_n hx hb d_Rea_quotient_112 rfl (lv_at hl 1 rfl) ?_
            refine va_get (D := D) (ci := 4) (v := .ref q) (C := R_Rea) (T := F_Rea) (N := 7) hx hb hts w_Rea hown hK hP 0 rfl rfl 3 (by decide) (hts _ kF_Rea_32) (fun _ h9 => h9) rfl d_Rea_quotient_113 ?_
            refine lv_aload hx hb d_Rea_quotient_116 (lv_at hl 0 rfl) ?_
            refine lv_iconst (v := 0) hx hb d_Rea_quotient_118 (by decide) ?_
            refine tv_i (zI 0) (rfl) ?_
            refine ca_l [(r, .inr (4, [.ref x, .ref nm, .ref h, .ref q, .int (nI n), .long R, .int fd])), (x, .inl (cC, 2400, .inl (tx T))), (nm, .inr (3, [.ref x, .int v1, .int v2, .int v3, .int v4, .int v5, .int v6, .int v7])), (h, .inr (1, [.ref q, .int g0, .int gs0, .int kp0, .int pl0]))] (va_runV (As := [.ref (E.1 0), .int (zI 0)]) (rest := [.ref (E.1 0)]) ⟨hx, hb, hml, hown, hts⟩ (c_Fra_nearest l D E 0 (by decide) q t ta b ba cA cB f52 f55 n53 n56 (ua aa) (ua bb) 0 hB54 hB57 ((ua_pos (by omega) e61).1) ((ua_pos (by omega) e19).1) ((ua_pos (by omega) e61).2.2) ((ua_pos (by omega) e19).2.2) (by decide) (by decide) H.size) (xV 2 hts kC_Fra_nearest kM_Rea_92 kI_Fra_nearest kS_Fra_nearest kN_Fra rfl rfl (by decide +kernel) ⟨Nat.le_of_ble_eq_true rfl, Nat.le_of_ble_eq_true rfl⟩) ⟨ct_blind hev, va_recv hK hP (ci := 2) (q0 := 4) rfl rfl, ct_pre hev hP hK hD hS hA hE [4, 5, 6, 7, 8] rfl (by decide) [1, 2] rfl⟩ rfl rfl hl.1 rfl (lv_room (Nat.le_of_ble_eq_true rfl)) d_Rea_quotient_119 ⟨Nat.le_of_ble_eq_true rfl, Nat.le_of_ble_eq_true rfl⟩) hP hD hS hA [4, 5, 6, 7, 8] [0, 1, 2, 3] rfl rfl (by decide) (by decide) (fun rv u H locs hw hP hD hS hK1 => ?_)
            obtain ⟨⟨f58, n59⟩, ⟨f60, n61⟩⟩ := u
            subst hw
            have hP : va_P D vcl [(r, .inr (4, [.ref x, .ref nm, .ref h, .ref q, .int (nI n), .long R, .int fd])), (x, .inl (cC, 2400, .inl (tx T))), (nm, .inr (3, [.ref x, .int v1, .int v2, .int v3, .int v4, .int v5, .int v6, .int v7])), (h, .inr (1, [.ref q, .int g0, .int gs0, .int kp0, .int pl0])), (q, .inr (2, [.ref t, .ref b])), (t, .inr (0, [.ref ta, .int (nI n59)])), (ta, .inl (cA, 96, .inl f58)), (b, .inr (0, [.ref ba, .int (nI n61)])), (ba, .inl (cB, 96, .inl f60))] H := hP
            have hD : va_D A [(r, .inr (4, [.ref x, .ref nm, .ref h, .ref q, .int (nI n), .long R, .int fd])), (x, .inl (cC, 2400, .inl (tx T))), (nm, .inr (3, [.ref x, .int v1, .int v2, .int v3, .int v4, .int v5, .int v6, .int v7])), (h, .inr (1, [.ref q, .int g0, .int gs0, .int kp0, .int pl0])), (q, .inr (2, [.ref t, .ref b])), (t, .inr (0, [.ref ta, .int (nI n59)])), (ta, .inl (cA, 96, .inl f58)), (b, .inr (0, [.ref ba, .int (nI n61)])), (ba, .inl (cB, 96, .inl f60))] := hD
            refine lv_lload_n hx hb d_Rea_quotient_122 rfl (lv_at hl 2 rfl) ?_
            refine lv_lconst (v := 0) hx hb d_Rea_quotient_123 (by decide) ?_
            refine W.lcmp hx hb d_Rea_quotient_124 ?_
            refine lv_if_ge (tgt := 132) hx hb d_Rea_quotient_125 (by decide) (fun c125 => ?_) (fun c125 => ?_)
            · exact absurd ((ng_l (by omega)).mpr e76) (Int64.not_lt.mpr ((lg_cmp_ge _ _).mp c125))
            · refine lv_iconst (v := 1) hx hb d_Rea_quotient_128 (by decide) ?_
              refine lv_goto (tgt := 133) hx hb d_Rea_quotient_129 (by decide) ?_
              refine lv_lload_n hx hb d_Rea_quotient_133 rfl (lv_at hl 3 rfl) ?_
              refine lv_lconst (v := 0) hx hb d_Rea_quotient_134 (by decide) ?_
              refine W.lcmp hx hb d_Rea_quotient_135 ?_
              refine lv_if_ge (tgt := 143) hx hb d_Rea_quotient_136 (by decide) (fun c136 => ?_) (fun c136 => ?_)
              · refine lv_iconst (v := 0) hx hb d_Rea_quotient_143 (by decide) ?_
                refine lv_icmp_eq (tgt := 151) hx hb d_Rea_quotient_144 (by decide) (fun c144 => ?_) (fun c144 => ?_)
                · exact absurd c144 (by decide)
                · refine lv_iconst (v := 1) hx hb d_Rea_quotient_147 (by decide) ?_
                  refine tv_i (bI (ngL aa != ngL bb)) (by unfold ngL; rw [decide_eq_true e76, decide_eq_false e98]; rfl) ?_
                  refine lv_goto (tgt := 152) hx hb d_Rea_quotient_148 (by decide) ?_
                  refine ca_l [(r, .inr (4, [.ref x, .ref nm, .ref h, .ref q, .int (nI n), .long R, .int fd])), (x, .inl (cC, 2400, .inl (tx T))), (nm, .inr (3, [.ref x, .int v1, .int v2, .int v3, .int v4, .int v5, .int v6, .int v7])), (h, .inr (1, [.ref q, .int g0, .int gs0, .int kp0, .int pl0])), (q, .inr (2, [.ref t, .ref b])), (t, .inr (0, [.ref ta, .int (nI n59)])), (ta, .inl (cA, 96, .inl f58)), (b, .inr (0, [.ref ba, .int (nI n61)])), (ba, .inl (cB, 96, .inl f60))] (va_runV (As := [.long (lN (frn (kP 0) (kZ 0) (kLw 0) (ua aa) (ua bb) 0)), .int (bI (ngL aa != ngL bb))]) (rest := []) ⟨hx, hb, hml, hown, hts⟩ (c_Kin_signed l D E 0 (by decide) (lN (frn (kP 0) (kZ 0) (kLw 0) (ua aa) (ua bb) 0)) (bI (ngL aa != ngL bb)) H.size) (xV 2 hts kC_Kin_signed kM_Rea_73 kI_Kin_signed kS_Kin_signed kN_Kin rfl rfl (by decide +kernel) ⟨Nat.le_of_ble_eq_true rfl, Nat.le_of_ble_eq_true rfl⟩) ⟨ct_blind hev, va_recvE (i := 0) hE.2.1 (by decide) hS, ct_pre hev hP hK hD hS hA hE [] rfl (by decide) [] rfl⟩ rfl rfl hl.1 rfl (lv_room (Nat.le_of_ble_eq_true rfl)) d_Rea_quotient_152 ⟨Nat.le_of_ble_eq_true rfl, Nat.le_of_ble_eq_true rfl⟩) hP hD hS hA [] [0, 1, 2, 3, 4, 5, 6, 7, 8] rfl rfl (by decide) (by decide) (fun rv u H locs hw hP hD hS hK1 => ?_)
                  subst hw
                  have hP : va_P D vcl [(r, .inr (4, [.ref x, .ref nm, .ref h, .ref q, .int (nI n), .long R, .int fd])), (x, .inl (cC, 2400, .inl (tx T))), (nm, .inr (3, [.ref x, .int v1, .int v2, .int v3, .int v4, .int v5, .int v6, .int v7])), (h, .inr (1, [.ref q, .int g0, .int gs0, .int kp0, .int pl0])), (q, .inr (2, [.ref t, .ref b])), (t, .inr (0, [.ref ta, .int (nI n59)])), (ta, .inl (cA, 96, .inl f58)), (b, .inr (0, [.ref ba, .int (nI n61)])), (ba, .inl (cB, 96, .inl f60))] H := hP
                  have hD : va_D A [(r, .inr (4, [.ref x, .ref nm, .ref h, .ref q, .int (nI n), .long R, .int fd])), (x, .inl (cC, 2400, .inl (tx T))), (nm, .inr (3, [.ref x, .int v1, .int v2, .int v3, .int v4, .int v5, .int v6, .int v7])), (h, .inr (1, [.ref q, .int g0, .int gs0, .int kp0, .int pl0])), (q, .inr (2, [.ref t, .ref b])), (t, .inr (0, [.ref ta, .int (nI n59)])), (ta, .inl (cA, 96, .inl f58)), (b, .inr (0, [.ref ba, .int (nI n61)])), (ba, .inl (cB, 96, .inl f60))] := hD
                  exact rt_l hx hb hrt hlocks (((v1, v2, v3, v4, v5, v6, v7), (g0, gs0, kp0, pl0), (f58, nI n59, f60, nI n61))) (by rw [e2]; unfold qtN; rw [if_neg e19, if_neg e61]) (hP.sub [0, 1, 2, 3, 4, 5, 6, 7, 8] rfl) (hK.sub [0, 1, 2] rfl) (hD.sub [0, 1, 2, 3, 4, 5, 6, 7, 8] (by decide) rfl) hS d_Rea_quotient_155
              · exact absurd ((ng_l (by omega)).mp (Int64.not_le.mp (fun z => c136 ((lg_cmp_ge _ _).mpr z)))) e98
          · have e98 : 9223372036854775808 ≤ bb := (ng_l (by omega)).mp (Int64.not_le.mp (fun z => c98 ((lg_cmp_ge _ _).mpr z)))
            refine lv_lload_n hx hb d_Rea_quotient_101 rfl (lv_at hl 3 rfl) ?_
            refine lv_lneg hx hb d_Rea_quotient_102 ?_
            refine tv_l (lN (ua bb)) (by unfold ua; rw [if_neg (by omega)]; exact neg_l (by omega)) ?_
            refine lv_goto (tgt := 107) hx hb d_Rea_quotient_103 (by decide) ?_
            refine ca_v [(r, .inr (4, [.ref x, .ref nm, .ref h, .ref q, .int (nI n), .long R, .int fd])), (x, .inl (cC, 2400, .inl (tx T))), (nm, .inr (3, [.ref x, .int v1, .int v2, .int v3, .int v4, .int v5, .int v6, .int v7])), (h, .inr (1, [.ref q, .int g0, .int gs0, .int kp0, .int pl0])), (q, .inr (2, [.ref t, .ref b])), (t, .inr (0, [.ref ta, .int (nI n53)])), (ta, .inl (cA, 96, .inl f52))] (va_runV (As := [.long (lN (ua bb))]) (rest := []) ⟨hx, hb, hml, hown, hts⟩ (c_Big_set l D E b ba cB g mv (ua bb) ((ua_pos (by omega) e19).2.1) H.size) (xV 1 hts kC_Big_set kM_Rea_83 kI_Big_set kS_Big_set kN_Big rfl rfl (by decide +kernel) ⟨Nat.le_of_ble_eq_true rfl, Nat.le_of_ble_eq_true rfl⟩) ⟨ct_blind hev, va_recv hK hP (ci := 0) (q0 := 5) rfl rfl, ct_pre hev hP hK hD hS hA hE [5, 6] rfl (by decide) [2] rfl⟩ rfl rfl hl.1 rfl (lv_room (Nat.le_of_ble_eq_true rfl)) d_Rea_quotient_107 ⟨Nat.le_of_ble_eq_true rfl, Nat.le_of_ble_eq_true rfl⟩) hP hD hS hA [5, 6] [0, 1, 2, 3, 4, 7, 8] rfl rfl (by decide) (by decide) (fun u H locs hw hP hD hS hK1 => ?_)
            obtain ⟨f62, n63⟩ := u
            have hB64 : isB f62 n63 (ua bb) := hw
            have hP : va_P D vcl [(r, .inr (4, [.ref x, .ref nm, .ref h, .ref q, .int (nI n), .long R, .int fd])), (x, .inl (cC, 2400, .inl (tx T))), (nm, .inr (3, [.ref x, .int v1, .int v2, .int v3, .int v4, .int v5, .int v6, .int v7])), (h, .inr (1, [.ref q, .int g0, .int gs0, .int kp0, .int pl0])), (q, .inr (2, [.ref t, .ref b])), (t, .inr (0, [.ref ta, .int (nI n53)])), (ta, .inl (cA, 96, .inl f52)), (b, .inr (0, [.ref ba, .int (nI n63)])), (ba, .inl (cB, 96, .inl f62))] H := hP
            have hD : va_D A [(r, .inr (4, [.ref x, .ref nm, .ref h, .ref q, .int (nI n), .long R, .int fd])), (x, .inl (cC, 2400, .inl (tx T))), (nm, .inr (3, [.ref x, .int v1, .int v2, .int v3, .int v4, .int v5, .int v6, .int v7])), (h, .inr (1, [.ref q, .int g0, .int gs0, .int kp0, .int pl0])), (q, .inr (2, [.ref t, .ref b])), (t, .inr (0, [.ref ta, .int (nI n53)])), (ta, .inl (cA, 96, .inl f52)), (b, .inr (0, [.ref ba, .int (nI n63)])), (ba, .inl (cB, 96, .inl f62))] := hD
            refine lv_aload hx hb d_Rea_quotient_110 (lv_at hl 0 rfl) ?_
            refine lv_aload_n hx hb d_Rea_quotient_112 rfl (lv_at hl 1 rfl) ?_
            refine va_get (D := D) (ci := 4) (v := .ref q) (C := R_Rea) (T := F_Rea) (N := 7) hx hb hts w_Rea hown hK hP 0 rfl rfl 3 (by decide) (hts _ kF_Rea_32) (fun _ h9 => h9) rfl d_Rea_quotient_113 ?_
            refine lv_aload hx hb d_Rea_quotient_116 (lv_at hl 0 rfl) ?_
            refine lv_iconst (v := 0) hx hb d_Rea_quotient_118 (by decide) ?_
            refine tv_i (zI 0) (rfl) ?_
            refine ca_l [(r, .inr (4, [.ref x, .ref nm, .ref h, .ref q, .int (nI n), .long R, .int fd])), (x, .inl (cC, 2400, .inl (tx T))), (nm, .inr (3, [.ref x, .int v1, .int v2, .int v3, .int v4, .int v5, .int v6, .int v7])), (h, .inr (1, [.ref q, .int g0, .int gs0, .int kp0, .int pl0]))] (va_runV (As := [.ref (E.1 0), .int (zI 0)]) (rest := [.ref (E.1 0)]) ⟨hx, hb, hml, hown, hts⟩ (c_Fra_nearest l D E 0 (by decide) q t ta b ba cA cB f52 f62 n53 n63 (ua aa) (ua bb) 0 hB54 hB64 ((ua_pos (by omega) e61).1) ((ua_pos (by omega) e19).1) ((ua_pos (by omega) e61).2.2) ((ua_pos (by omega) e19).2.2) (by decide) (by decide) H.size) (xV 2 hts kC_Fra_nearest kM_Rea_92 kI_Fra_nearest kS_Fra_nearest kN_Fra rfl rfl (by decide +kernel) ⟨Nat.le_of_ble_eq_true rfl, Nat.le_of_ble_eq_true rfl⟩) ⟨ct_blind hev, va_recv hK hP (ci := 2) (q0 := 4) rfl rfl, ct_pre hev hP hK hD hS hA hE [4, 5, 6, 7, 8] rfl (by decide) [1, 2] rfl⟩ rfl rfl hl.1 rfl (lv_room (Nat.le_of_ble_eq_true rfl)) d_Rea_quotient_119 ⟨Nat.le_of_ble_eq_true rfl, Nat.le_of_ble_eq_true rfl⟩) hP hD hS hA [4, 5, 6, 7, 8] [0, 1, 2, 3] rfl rfl (by decide) (by decide) (fun rv u H locs hw hP hD hS hK1 => ?_)
            obtain ⟨⟨f65, n66⟩, ⟨f67, n68⟩⟩ := u
            subst hw
            have hP : va_P D vcl [(r, .inr (4, [.ref x, .ref nm, .ref h, .ref q, .int (nI n), .long R, .int fd])), (x, .inl (cC, 2400, .inl (tx T))), (nm, .inr (3, [.ref x, .int v1, .int v2, .int v3, .int v4, .int v5, .int v6, .int v7])), (h, .inr (1, [.ref q, .int g0, .int gs0, .int kp0, .int pl0])), (q, .inr (2, [.ref t, .ref b])), (t, .inr (0, [.ref ta, .int (nI n66)])), (ta, .inl (cA, 96, .inl f65)), (b, .inr (0, [.ref ba, .int (nI n68)])), (ba, .inl (cB, 96, .inl f67))] H := hP
            have hD : va_D A [(r, .inr (4, [.ref x, .ref nm, .ref h, .ref q, .int (nI n), .long R, .int fd])), (x, .inl (cC, 2400, .inl (tx T))), (nm, .inr (3, [.ref x, .int v1, .int v2, .int v3, .int v4, .int v5, .int v6, .int v7])), (h, .inr (1, [.ref q, .int g0, .int gs0, .int kp0, .int pl0])), (q, .inr (2, [.ref t, .ref b])), (t, .inr (0, [.ref ta, .int (nI n66)])), (ta, .inl (cA, 96, .inl f65)), (b, .inr (0, [.ref ba, .int (nI n68)])), (ba, .inl (cB, 96, .inl f67))] := hD
            refine lv_lload_n hx hb d_Rea_quotient_122 rfl (lv_at hl 2 rfl) ?_
            refine lv_lconst (v := 0) hx hb d_Rea_quotient_123 (by decide) ?_
            refine W.lcmp hx hb d_Rea_quotient_124 ?_
            refine lv_if_ge (tgt := 132) hx hb d_Rea_quotient_125 (by decide) (fun c125 => ?_) (fun c125 => ?_)
            · exact absurd ((ng_l (by omega)).mpr e76) (Int64.not_lt.mpr ((lg_cmp_ge _ _).mp c125))
            · refine lv_iconst (v := 1) hx hb d_Rea_quotient_128 (by decide) ?_
              refine lv_goto (tgt := 133) hx hb d_Rea_quotient_129 (by decide) ?_
              refine lv_lload_n hx hb d_Rea_quotient_133 rfl (lv_at hl 3 rfl) ?_
              refine lv_lconst (v := 0) hx hb d_Rea_quotient_134 (by decide) ?_
              refine W.lcmp hx hb d_Rea_quotient_135 ?_
              refine lv_if_ge (tgt := 143) hx hb d_Rea_quotient_136 (by decide) (fun c136 => ?_) (fun c136 => ?_)
              · exact absurd ((ng_l (by omega)).mpr e98) (Int64.not_lt.mpr ((lg_cmp_ge _ _).mp c136))
              · refine lv_iconst (v := 1) hx hb d_Rea_quotient_139 (by decide) ?_
                refine lv_goto (tgt := 144) hx hb d_Rea_quotient_140 (by decide) ?_
                refine lv_icmp_eq (tgt := 151) hx hb d_Rea_quotient_144 (by decide) (fun c144 => ?_) (fun c144 => ?_)
                · refine lv_iconst (v := 0) hx hb d_Rea_quotient_151 (by decide) ?_
                  refine tv_i (bI (ngL aa != ngL bb)) (by unfold ngL; rw [decide_eq_true e76, decide_eq_true e98]; rfl) ?_
                  refine ca_l [(r, .inr (4, [.ref x, .ref nm, .ref h, .ref q, .int (nI n), .long R, .int fd])), (x, .inl (cC, 2400, .inl (tx T))), (nm, .inr (3, [.ref x, .int v1, .int v2, .int v3, .int v4, .int v5, .int v6, .int v7])), (h, .inr (1, [.ref q, .int g0, .int gs0, .int kp0, .int pl0])), (q, .inr (2, [.ref t, .ref b])), (t, .inr (0, [.ref ta, .int (nI n66)])), (ta, .inl (cA, 96, .inl f65)), (b, .inr (0, [.ref ba, .int (nI n68)])), (ba, .inl (cB, 96, .inl f67))] (va_runV (As := [.long (lN (frn (kP 0) (kZ 0) (kLw 0) (ua aa) (ua bb) 0)), .int (bI (ngL aa != ngL bb))]) (rest := []) ⟨hx, hb, hml, hown, hts⟩ (c_Kin_signed l D E 0 (by decide) (lN (frn (kP 0) (kZ 0) (kLw 0) (ua aa) (ua bb) 0)) (bI (ngL aa != ngL bb)) H.size) (xV 2 hts kC_Kin_signed kM_Rea_73 kI_Kin_signed kS_Kin_signed kN_Kin rfl rfl (by decide +kernel) ⟨Nat.le_of_ble_eq_true rfl, Nat.le_of_ble_eq_true rfl⟩) ⟨ct_blind hev, va_recvE (i := 0) hE.2.1 (by decide) hS, ct_pre hev hP hK hD hS hA hE [] rfl (by decide) [] rfl⟩ rfl rfl hl.1 rfl (lv_room (Nat.le_of_ble_eq_true rfl)) d_Rea_quotient_152 ⟨Nat.le_of_ble_eq_true rfl, Nat.le_of_ble_eq_true rfl⟩) hP hD hS hA [] [0, 1, 2, 3, 4, 5, 6, 7, 8] rfl rfl (by decide) (by decide) (fun rv u H locs hw hP hD hS hK1 => ?_)
                  subst hw
                  have hP : va_P D vcl [(r, .inr (4, [.ref x, .ref nm, .ref h, .ref q, .int (nI n), .long R, .int fd])), (x, .inl (cC, 2400, .inl (tx T))), (nm, .inr (3, [.ref x, .int v1, .int v2, .int v3, .int v4, .int v5, .int v6, .int v7])), (h, .inr (1, [.ref q, .int g0, .int gs0, .int kp0, .int pl0])), (q, .inr (2, [.ref t, .ref b])), (t, .inr (0, [.ref ta, .int (nI n66)])), (ta, .inl (cA, 96, .inl f65)), (b, .inr (0, [.ref ba, .int (nI n68)])), (ba, .inl (cB, 96, .inl f67))] H := hP
                  have hD : va_D A [(r, .inr (4, [.ref x, .ref nm, .ref h, .ref q, .int (nI n), .long R, .int fd])), (x, .inl (cC, 2400, .inl (tx T))), (nm, .inr (3, [.ref x, .int v1, .int v2, .int v3, .int v4, .int v5, .int v6, .int v7])), (h, .inr (1, [.ref q, .int g0, .int gs0, .int kp0, .int pl0])), (q, .inr (2, [.ref t, .ref b])), (t, .inr (0, [.ref ta, .int (nI n66)])), (ta, .inl (cA, 96, .inl f65)), (b, .inr (0, [.ref ba, .int (nI n68)])), (ba, .inl (cB, 96, .inl f67))] := hD
                  exact rt_l hx hb hrt hlocks (((v1, v2, v3, v4, v5, v6, v7), (g0, gs0, kp0, pl0), (f65, nI n66, f67, nI n68))) (by rw [e2]; unfold qtN; rw [if_neg e19, if_neg e61]) (hP.sub [0, 1, 2, 3, 4, 5, 6, 7, 8] rfl) (hK.sub [0, 1, 2] rfl) (hD.sub [0, 1, 2, 3, 4, 5, 6, 7, 8] (by decide) rfl) hS d_Rea_quotient_155
                · exact absurd rfl c144
      · have e61 : aa = 0 := (lN_ne0 (by omega)).mp ((lg_cmp_eq _ _).mp c61)
        refine lv_lconst (v := 0) hx hb d_Rea_quotient_64 (by decide) ?_
        exact rt_l hx hb hrt hlocks (((v1, v2, v3, v4, v5, v6, v7), (g0, gs0, kp0, pl0), (f, nv, g, mv))) (by rw [e2]; unfold qtN; rw [if_neg e19, if_pos e61]) (hP.sub [0, 1, 2, 3, 4, 5, 6, 7, 8] rfl) (hK.sub [0, 1, 2] rfl) (hD.sub [0, 1, 2, 3, 4, 5, 6, 7, 8] (by decide) rfl) hS d_Rea_quotient_65
    · have e19 : bb = 0 := (lN_ne0 (by omega)).mp ((lg_cmp_eq _ _).mp c19)
      refine lv_lload_n hx hb d_Rea_quotient_22 rfl (lv_at hl 2 rfl) ?_
      refine lv_lconst (v := 0) hx hb d_Rea_quotient_23 (by decide) ?_
      refine W.lcmp hx hb d_Rea_quotient_24 ?_
      refine lv_if_ne (tgt := 36) hx hb d_Rea_quotient_25 (by decide) (fun c25 => ?_) (fun c25 => ?_)
      · have e25 : aa ≠ 0 := fun z => c25 ((lg_cmp_eq _ _).mpr (by rw [z]; rfl))
        refine lv_aload hx hb d_Rea_quotient_36 (lv_at hl 0 rfl) ?_
        refine lv_aload hx hb d_Rea_quotient_38 (lv_at hl 0 rfl) ?_
        refine va_getX hx hb hE.2.2.2.1 (i := 0) (by decide) hS hown (hts _ kF_Rea_70) (fun _ h9 => h9) d_Rea_quotient_40 ?_
        refine lv_lload_n hx hb d_Rea_quotient_43 rfl (lv_at hl 2 rfl) ?_
        refine lv_lconst (v := 0) hx hb d_Rea_quotient_44 (by decide) ?_
        refine W.lcmp hx hb d_Rea_quotient_45 ?_
        refine lv_if_ge (tgt := 53) hx hb d_Rea_quotient_46 (by decide) (fun c46 => ?_) (fun c46 => ?_)
        · have e46 : ¬ 9223372036854775808 ≤ aa := fun z => absurd ((ng_l (by omega)).mpr z) (Int64.not_lt.mpr ((lg_cmp_ge _ _).mp c46))
          refine lv_iconst (v := 0) hx hb d_Rea_quotient_53 (by decide) ?_
          refine tv_i (bI (ngL aa)) (by unfold ngL; rw [decide_eq_false e46]; rfl) ?_
          refine ca_l [(r, .inr (4, [.ref x, .ref nm, .ref h, .ref q, .int (nI n), .long R, .int fd])), (x, .inl (cC, 2400, .inl (tx T))), (nm, .inr (3, [.ref x, .int v1, .int v2, .int v3, .int v4, .int v5, .int v6, .int v7])), (h, .inr (1, [.ref q, .int g0, .int gs0, .int kp0, .int pl0])), (q, .inr (2, [.ref t, .ref b])), (t, .inr (0, [.ref ta, .int nv])), (ta, .inl (cA, 96, .inl f)), (b, .inr (0, [.ref ba, .int mv])), (ba, .inl (cB, 96, .inl g))] (va_runV (As := [.long (kInf 0), .int (bI (ngL aa))]) (rest := []) ⟨hx, hb, hml, hown, hts⟩ (c_Kin_signed l D E 0 (by decide) (kInf 0) (bI (ngL aa)) H.size) (xV 2 hts kC_Kin_signed kM_Rea_73 kI_Kin_signed kS_Kin_signed kN_Kin rfl rfl (by decide +kernel) ⟨Nat.le_of_ble_eq_true rfl, Nat.le_of_ble_eq_true rfl⟩) ⟨ct_blind hev, va_recvE (i := 0) hE.2.1 (by decide) hS, ct_pre hev hP hK hD hS hA hE [] rfl (by decide) [] rfl⟩ rfl rfl hl.1 rfl (lv_room (Nat.le_of_ble_eq_true rfl)) d_Rea_quotient_54 ⟨Nat.le_of_ble_eq_true rfl, Nat.le_of_ble_eq_true rfl⟩) hP hD hS hA [] [0, 1, 2, 3, 4, 5, 6, 7, 8] rfl rfl (by decide) (by decide) (fun rv u H locs hw hP hD hS hK1 => ?_)
          subst hw
          have hP : va_P D vcl [(r, .inr (4, [.ref x, .ref nm, .ref h, .ref q, .int (nI n), .long R, .int fd])), (x, .inl (cC, 2400, .inl (tx T))), (nm, .inr (3, [.ref x, .int v1, .int v2, .int v3, .int v4, .int v5, .int v6, .int v7])), (h, .inr (1, [.ref q, .int g0, .int gs0, .int kp0, .int pl0])), (q, .inr (2, [.ref t, .ref b])), (t, .inr (0, [.ref ta, .int nv])), (ta, .inl (cA, 96, .inl f)), (b, .inr (0, [.ref ba, .int mv])), (ba, .inl (cB, 96, .inl g))] H := hP
          have hD : va_D A [(r, .inr (4, [.ref x, .ref nm, .ref h, .ref q, .int (nI n), .long R, .int fd])), (x, .inl (cC, 2400, .inl (tx T))), (nm, .inr (3, [.ref x, .int v1, .int v2, .int v3, .int v4, .int v5, .int v6, .int v7])), (h, .inr (1, [.ref q, .int g0, .int gs0, .int kp0, .int pl0])), (q, .inr (2, [.ref t, .ref b])), (t, .inr (0, [.ref ta, .int nv])), (ta, .inl (cA, 96, .inl f)), (b, .inr (0, [.ref ba, .int mv])), (ba, .inl (cB, 96, .inl g))] := hD
          exact rt_l hx hb hrt hlocks (((v1, v2, v3, v4, v5, v6, v7), (g0, gs0, kp0, pl0), (f, nv, g, mv))) (by rw [e2]; unfold qtN; rw [if_pos e19, if_neg e25]) (hP.sub [0, 1, 2, 3, 4, 5, 6, 7, 8] rfl) (hK.sub [0, 1, 2] rfl) (hD.sub [0, 1, 2, 3, 4, 5, 6, 7, 8] (by decide) rfl) hS d_Rea_quotient_57
        · have e46 : 9223372036854775808 ≤ aa := (ng_l (by omega)).mp (Int64.not_le.mp (fun z => c46 ((lg_cmp_ge _ _).mpr z)))
          refine lv_iconst (v := 1) hx hb d_Rea_quotient_49 (by decide) ?_
          refine tv_i (bI (ngL aa)) (by unfold ngL; rw [decide_eq_true e46]; rfl) ?_
          refine lv_goto (tgt := 54) hx hb d_Rea_quotient_50 (by decide) ?_
          refine ca_l [(r, .inr (4, [.ref x, .ref nm, .ref h, .ref q, .int (nI n), .long R, .int fd])), (x, .inl (cC, 2400, .inl (tx T))), (nm, .inr (3, [.ref x, .int v1, .int v2, .int v3, .int v4, .int v5, .int v6, .int v7])), (h, .inr (1, [.ref q, .int g0, .int gs0, .int kp0, .int pl0])), (q, .inr (2, [.ref t, .ref b])), (t, .inr (0, [.ref ta, .int nv])), (ta, .inl (cA, 96, .inl f)), (b, .inr (0, [.ref ba, .int mv])), (ba, .inl (cB, 96, .inl g))] (va_runV (As := [.long (kInf 0), .int (bI (ngL aa))]) (rest := []) ⟨hx, hb, hml, hown, hts⟩ (c_Kin_signed l D E 0 (by decide) (kInf 0) (bI (ngL aa)) H.size) (xV 2 hts kC_Kin_signed kM_Rea_73 kI_Kin_signed kS_Kin_signed kN_Kin rfl rfl (by decide +kernel) ⟨Nat.le_of_ble_eq_true rfl, Nat.le_of_ble_eq_true rfl⟩) ⟨ct_blind hev, va_recvE (i := 0) hE.2.1 (by decide) hS, ct_pre hev hP hK hD hS hA hE [] rfl (by decide) [] rfl⟩ rfl rfl hl.1 rfl (lv_room (Nat.le_of_ble_eq_true rfl)) d_Rea_quotient_54 ⟨Nat.le_of_ble_eq_true rfl, Nat.le_of_ble_eq_true rfl⟩) hP hD hS hA [] [0, 1, 2, 3, 4, 5, 6, 7, 8] rfl rfl (by decide) (by decide) (fun rv u H locs hw hP hD hS hK1 => ?_)
          subst hw
          have hP : va_P D vcl [(r, .inr (4, [.ref x, .ref nm, .ref h, .ref q, .int (nI n), .long R, .int fd])), (x, .inl (cC, 2400, .inl (tx T))), (nm, .inr (3, [.ref x, .int v1, .int v2, .int v3, .int v4, .int v5, .int v6, .int v7])), (h, .inr (1, [.ref q, .int g0, .int gs0, .int kp0, .int pl0])), (q, .inr (2, [.ref t, .ref b])), (t, .inr (0, [.ref ta, .int nv])), (ta, .inl (cA, 96, .inl f)), (b, .inr (0, [.ref ba, .int mv])), (ba, .inl (cB, 96, .inl g))] H := hP
          have hD : va_D A [(r, .inr (4, [.ref x, .ref nm, .ref h, .ref q, .int (nI n), .long R, .int fd])), (x, .inl (cC, 2400, .inl (tx T))), (nm, .inr (3, [.ref x, .int v1, .int v2, .int v3, .int v4, .int v5, .int v6, .int v7])), (h, .inr (1, [.ref q, .int g0, .int gs0, .int kp0, .int pl0])), (q, .inr (2, [.ref t, .ref b])), (t, .inr (0, [.ref ta, .int nv])), (ta, .inl (cA, 96, .inl f)), (b, .inr (0, [.ref ba, .int mv])), (ba, .inl (cB, 96, .inl g))] := hD
          exact rt_l hx hb hrt hlocks (((v1, v2, v3, v4, v5, v6, v7), (g0, gs0, kp0, pl0), (f, nv, g, mv))) (by rw [e2]; unfold qtN; rw [if_pos e19, if_neg e25]) (hP.sub [0, 1, 2, 3, 4, 5, 6, 7, 8] rfl) (hK.sub [0, 1, 2] rfl) (hD.sub [0, 1, 2, 3, 4, 5, 6, 7, 8] (by decide) rfl) hS d_Rea_quotient_57
      · have e25 : aa = 0 := (lN_ne0 (by omega)).mp ((lg_cmp_eq _ _).mp c25)
        refine lv_aload hx hb d_Rea_quotient_28 (lv_at hl 0 rfl) ?_
        refine va_getX hx hb hE.2.2.2.2.1 (i := 0) (by decide) hS hown (hts _ kF_Rea_67) (fun _ h9 => h9) d_Rea_quotient_30 ?_
        refine lv_goto (tgt := 57) hx hb d_Rea_quotient_33 (by decide) ?_
        exact rt_l hx hb hrt hlocks (((v1, v2, v3, v4, v5, v6, v7), (g0, gs0, kp0, pl0), (f, nv, g, mv))) (by rw [e2]; unfold qtN; rw [if_pos e19, if_pos e25]) (hP.sub [0, 1, 2, 3, 4, 5, 6, 7, 8] rfl) (hK.sub [0, 1, 2] rfl) (hD.sub [0, 1, 2, 3, 4, 5, 6, 7, 8] (by decide) rfl) hS d_Rea_quotient_57
