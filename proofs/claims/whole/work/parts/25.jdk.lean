/-! THE TWO WORDS -/
def sCh (j k : Nat) : Nat := ([[78, 97, 78], [73, 110, 102, 105, 110, 105, 116, 121]].getD j []).getD k 0 % 256
theorem sLen_b : ∀ j, j < 2 → sLen.getD j 0 ≤ 8 := by decide
theorem sCh_lt (j k : Nat) : sCh j k < 256 := Nat.mod_lt _ (by decide)
theorem sCh_b : ∀ j, j < 2 → ∀ k, k < sLen.getD j 0 → (((sByt.getD j []).getD k 0 &&& 255).toUInt32 % 65536).toInt32 = nI (sCh j k) := by decide +kernel
theorem d_Pre_checkIndex_0 : decode b_Pre_checkIndex 0 = .ok (.iload_n 0, 1) := by decide +kernel
theorem d_Pre_checkIndex_1 : decode b_Pre_checkIndex 1 = .ok (.ifCond .lt 8, 3) := by decide +kernel
theorem d_Pre_checkIndex_4 : decode b_Pre_checkIndex 4 = .ok (.iload_n 0, 1) := by decide +kernel
theorem d_Pre_checkIndex_5 : decode b_Pre_checkIndex 5 = .ok (.iload_n 1, 1) := by decide +kernel
theorem d_Pre_checkIndex_6 : decode b_Pre_checkIndex 6 = .ok (.if_icmp .lt 10, 3) := by decide +kernel
theorem d_Pre_checkIndex_9 : decode b_Pre_checkIndex 9 = .ok (.aload_n 2, 1) := by decide +kernel
theorem d_Pre_checkIndex_10 : decode b_Pre_checkIndex 10 = .ok (.iload_n 0, 1) := by decide +kernel
theorem d_Pre_checkIndex_11 : decode b_Pre_checkIndex 11 = .ok (.iload_n 1, 1) := by decide +kernel
theorem d_Pre_checkIndex_12 : decode b_Pre_checkIndex 12 = .ok (.invokestatic 95, 3) := by decide +kernel
theorem d_Pre_checkIndex_15 : decode b_Pre_checkIndex 15 = .ok (.athrow, 1) := by decide +kernel
theorem d_Pre_checkIndex_16 : decode b_Pre_checkIndex 16 = .ok (.iload_n 0, 1) := by decide +kernel
theorem d_Pre_checkIndex_17 : decode b_Pre_checkIndex 17 = .ok (.ireturn, 1) := by decide +kernel
theorem d_Str_checkIndex_0 : decode b_Str_checkIndex 0 = .ok (.iload_n 0, 1) := by decide +kernel
theorem d_Str_checkIndex_1 : decode b_Str_checkIndex 1 = .ok (.iload_n 1, 1) := by decide +kernel
theorem d_Str_checkIndex_2 : decode b_Str_checkIndex 2 = .ok (.getstatic 1053, 3) := by decide +kernel
theorem d_Str_checkIndex_5 : decode b_Str_checkIndex 5 = .ok (.invokestatic 1059, 3) := by decide +kernel
theorem d_Str_checkIndex_8 : decode b_Str_checkIndex 8 = .ok (.pop, 1) := by decide +kernel
theorem d_Str_checkIndex_9 : decode b_Str_checkIndex 9 = .ok (.return_, 1) := by decide +kernel
theorem d_Sl1_charAt_0 : decode b_Sl1_charAt 0 = .ok (.iload_n 1, 1) := by decide +kernel
theorem d_Sl1_charAt_1 : decode b_Sl1_charAt 1 = .ok (.aload_n 0, 1) := by decide +kernel
theorem d_Sl1_charAt_2 : decode b_Sl1_charAt 2 = .ok (.arraylength, 1) := by decide +kernel
theorem d_Sl1_charAt_3 : decode b_Sl1_charAt 3 = .ok (.invokestatic 9, 3) := by decide +kernel
theorem d_Sl1_charAt_6 : decode b_Sl1_charAt 6 = .ok (.aload_n 0, 1) := by decide +kernel
theorem d_Sl1_charAt_7 : decode b_Sl1_charAt 7 = .ok (.iload_n 1, 1) := by decide +kernel
theorem d_Sl1_charAt_8 : decode b_Sl1_charAt 8 = .ok (.baload, 1) := by decide +kernel
theorem d_Sl1_charAt_9 : decode b_Sl1_charAt 9 = .ok (.sipush 255, 3) := by decide +kernel
theorem d_Sl1_charAt_12 : decode b_Sl1_charAt 12 = .ok (.iand, 1) := by decide +kernel
theorem d_Sl1_charAt_13 : decode b_Sl1_charAt 13 = .ok (.i2c, 1) := by decide +kernel
theorem d_Sl1_charAt_14 : decode b_Sl1_charAt 14 = .ok (.ireturn, 1) := by decide +kernel
theorem d_Str_coder_0 : decode b_Str_coder 0 = .ok (.getstatic 38, 3) := by decide +kernel
theorem d_Str_coder_3 : decode b_Str_coder 3 = .ok (.ifCond .eq 10, 3) := by decide +kernel
theorem d_Str_coder_6 : decode b_Str_coder 6 = .ok (.aload_n 0, 1) := by decide +kernel
theorem d_Str_coder_7 : decode b_Str_coder 7 = .ok (.getfield 15, 3) := by decide +kernel
theorem d_Str_coder_10 : decode b_Str_coder 10 = .ok (.goto 4, 3) := by decide +kernel
theorem d_Str_coder_13 : decode b_Str_coder 13 = .ok (.iconst 1, 1) := by decide +kernel
theorem d_Str_coder_14 : decode b_Str_coder 14 = .ok (.ireturn, 1) := by decide +kernel
theorem d_Str_isLatin1_0 : decode b_Str_isLatin1 0 = .ok (.getstatic 38, 3) := by decide +kernel
theorem d_Str_isLatin1_3 : decode b_Str_isLatin1 3 = .ok (.ifCond .eq 14, 3) := by decide +kernel
theorem d_Str_isLatin1_6 : decode b_Str_isLatin1 6 = .ok (.aload_n 0, 1) := by decide +kernel
theorem d_Str_isLatin1_7 : decode b_Str_isLatin1 7 = .ok (.getfield 15, 3) := by decide +kernel
theorem d_Str_isLatin1_10 : decode b_Str_isLatin1 10 = .ok (.ifCond .ne 7, 3) := by decide +kernel
theorem d_Str_isLatin1_13 : decode b_Str_isLatin1 13 = .ok (.iconst 1, 1) := by decide +kernel
theorem d_Str_isLatin1_14 : decode b_Str_isLatin1 14 = .ok (.goto 4, 3) := by decide +kernel
theorem d_Str_isLatin1_17 : decode b_Str_isLatin1 17 = .ok (.iconst 0, 1) := by decide +kernel
theorem d_Str_isLatin1_18 : decode b_Str_isLatin1 18 = .ok (.ireturn, 1) := by decide +kernel
theorem d_Str_length_0 : decode b_Str_length 0 = .ok (.aload_n 0, 1) := by decide +kernel
theorem d_Str_length_1 : decode b_Str_length 1 = .ok (.getfield 9, 3) := by decide +kernel
theorem d_Str_length_4 : decode b_Str_length 4 = .ok (.arraylength, 1) := by decide +kernel
theorem d_Str_length_5 : decode b_Str_length 5 = .ok (.aload_n 0, 1) := by decide +kernel
theorem d_Str_length_6 : decode b_Str_length 6 = .ok (.invokevirtual 335, 3) := by decide +kernel
theorem d_Str_length_9 : decode b_Str_length 9 = .ok (.ishr, 1) := by decide +kernel
theorem d_Str_length_10 : decode b_Str_length 10 = .ok (.ireturn, 1) := by decide +kernel
theorem d_Str_charAt_0 : decode b_Str_charAt 0 = .ok (.aload_n 0, 1) := by decide +kernel
theorem d_Str_charAt_1 : decode b_Str_charAt 1 = .ok (.invokevirtual 492, 3) := by decide +kernel
theorem d_Str_charAt_4 : decode b_Str_charAt 4 = .ok (.ifCond .eq 12, 3) := by decide +kernel
theorem d_Str_charAt_7 : decode b_Str_charAt 7 = .ok (.aload_n 0, 1) := by decide +kernel
theorem d_Str_charAt_8 : decode b_Str_charAt 8 = .ok (.getfield 9, 3) := by decide +kernel
theorem d_Str_charAt_11 : decode b_Str_charAt 11 = .ok (.iload_n 1, 1) := by decide +kernel
theorem d_Str_charAt_12 : decode b_Str_charAt 12 = .ok (.invokestatic 495, 3) := by decide +kernel
theorem d_Str_charAt_15 : decode b_Str_charAt 15 = .ok (.ireturn, 1) := by decide +kernel
theorem d_Str_charAt_16 : decode b_Str_charAt 16 = .ok (.aload_n 0, 1) := by decide +kernel
theorem d_Str_charAt_17 : decode b_Str_charAt 17 = .ok (.getfield 9, 3) := by decide +kernel
theorem d_Str_charAt_20 : decode b_Str_charAt 20 = .ok (.iload_n 1, 1) := by decide +kernel
theorem d_Str_charAt_21 : decode b_Str_charAt 21 = .ok (.invokestatic 498, 3) := by decide +kernel
theorem d_Str_charAt_24 : decode b_Str_charAt 24 = .ok (.ireturn, 1) := by decide +kernel
set_option maxHeartbeats 4000000 in
set_option maxRecDepth 100000 in
theorem c_Pre_checkIndexN (l : Launch) (D : va_G) (E : evD) (a b : Nat) (hab : a < b) (hb31 : b < 2147483648) : Ci (S := Unit) l y_Pre_checkIndex (wz y_Pre_checkIndex b_Pre_checkIndex 3 (some .int)) ({ frames := 0, cells := 0, slots := 0, locals := 0 }) D vcl (ev1 E) [.int (nI a), .int (nI b), .null] [] [] 0 0 (fun (_ : Int32) (_ : Unit) => True) (fun _ => []) (fun _ : Unit => []) := by
  have hev := ev1_ok E
  unfold Ci
  refine ct_of (y := y_Pre_checkIndex) (av := [.int (nI a), .int (nI b), .null]) (cc := b_Pre_checkIndex) (maxL := 3) (ret := (some .int)) (Qc := fun A => va_Qi (S := Unit) (fun (_ : Int32) (_ : Unit) => True) (fun u tS => ctB D vcl ((fun _ => []) u) ((fun _ : Unit => []) u) A tS) A) (by decide) rfl (Nat.le_of_ble_eq_true rfl) ?_
  intro p ee s m below meth cde ls A H locs hx hb hml hrt hlocks hown hin hts hA hP hK hD hS hE hl
  have hown : s.vm.findClass R_Pre = some m.cls := hown
  have hts := wz_g hts
  have hl : lv_has ls 3 [(0, .int (nI a)), (1, .int (nI b)), (2, .null)] := hl
  refine lv_iload_n hx hb d_Pre_checkIndex_0 rfl (lv_at hl 0 rfl) ?_
  refine lv_if_lt (tgt := 9) hx hb d_Pre_checkIndex_1 (by decide) (fun c1 => ?_) (fun c1 => ?_)
  · exact absurd c1 (nI_pos (by omega))
  · refine lv_iload_n hx hb d_Pre_checkIndex_4 rfl (lv_at hl 0 rfl) ?_
    refine lv_iload_n hx hb d_Pre_checkIndex_5 rfl (lv_at hl 1 rfl) ?_
    refine lv_icmp_lt (tgt := 16) hx hb d_Pre_checkIndex_6 (by decide) (fun c6 => ?_) (fun c6 => ?_)
    · refine lv_iload_n hx hb d_Pre_checkIndex_16 rfl (lv_at hl 0 rfl) ?_
      exact rt_i hx hb hrt hlocks (rfl) (()) (trivial) (hP.sub [] rfl) (hK.sub [] rfl) (hD.sub [] (by decide) rfl) hS d_Pre_checkIndex_17
    · exact absurd (nI_lt hab hb31) c6

set_option maxHeartbeats 4000000 in
set_option maxRecDepth 100000 in
theorem c_Pre_checkIndexR (l : Launch) (D : va_G) (E : evD) (a b : Nat) (hab : a < b) (hb31 : b < 2147483648) (ad : Nat) : Ci (S := Unit) l y_Pre_checkIndex (wz y_Pre_checkIndex b_Pre_checkIndex 3 (some .int)) ({ frames := 0, cells := 0, slots := 0, locals := 0 }) D vcl (ev1 E) [.int (nI a), .int (nI b), .ref ad] [] [] 0 0 (fun (_ : Int32) (_ : Unit) => True) (fun _ => []) (fun _ : Unit => []) := by
  have hev := ev1_ok E
  unfold Ci
  refine ct_of (y := y_Pre_checkIndex) (av := [.int (nI a), .int (nI b), .ref ad]) (cc := b_Pre_checkIndex) (maxL := 3) (ret := (some .int)) (Qc := fun A => va_Qi (S := Unit) (fun (_ : Int32) (_ : Unit) => True) (fun u tS => ctB D vcl ((fun _ => []) u) ((fun _ : Unit => []) u) A tS) A) (by decide) rfl (Nat.le_of_ble_eq_true rfl) ?_
  intro p ee s m below meth cde ls A H locs hx hb hml hrt hlocks hown hin hts hA hP hK hD hS hE hl
  have hown : s.vm.findClass R_Pre = some m.cls := hown
  have hts := wz_g hts
  have hl : lv_has ls 3 [(0, .int (nI a)), (1, .int (nI b)), (2, .ref ad)] := hl
  refine lv_iload_n hx hb d_Pre_checkIndex_0 rfl (lv_at hl 0 rfl) ?_
  refine lv_if_lt (tgt := 9) hx hb d_Pre_checkIndex_1 (by decide) (fun c1 => ?_) (fun c1 => ?_)
  · exact absurd c1 (nI_pos (by omega))
  · refine lv_iload_n hx hb d_Pre_checkIndex_4 rfl (lv_at hl 0 rfl) ?_
    refine lv_iload_n hx hb d_Pre_checkIndex_5 rfl (lv_at hl 1 rfl) ?_
    refine lv_icmp_lt (tgt := 16) hx hb d_Pre_checkIndex_6 (by decide) (fun c6 => ?_) (fun c6 => ?_)
    · refine lv_iload_n hx hb d_Pre_checkIndex_16 rfl (lv_at hl 0 rfl) ?_
      exact rt_i hx hb hrt hlocks (rfl) (()) (trivial) (hP.sub [] rfl) (hK.sub [] rfl) (hD.sub [] (by decide) rfl) hS d_Pre_checkIndex_17
    · exact absurd (nI_lt hab hb31) c6

set_option maxHeartbeats 4000000 in
set_option maxRecDepth 100000 in
theorem c_Str_checkIndex (l : Launch) (D : va_G) (E : evD) (a b : Nat) (hab : a < b) (hb31 : b < 2147483648) : Cv (S := Unit) l y_Str_checkIndex (wz y_Str_checkIndex b_Str_checkIndex 2 none) ({ frames := 1, cells := 0, slots := 0, locals := 22 }) D vcl (ev1 E) [.int (nI a), .int (nI b)] [] [] 0 0 (fun _ : Unit => True) (fun _ => []) (fun _ : Unit => []) := by
  have hev := ev1_ok E
  unfold Cv
  refine ct_of (y := y_Str_checkIndex) (av := [.int (nI a), .int (nI b)]) (cc := b_Str_checkIndex) (maxL := 2) (ret := none) (Qc := fun A => va_Qv (S := Unit) (fun _ : Unit => True) (fun u tS => ctB D vcl ((fun _ => []) u) ((fun _ : Unit => []) u) A tS) A) (by decide) rfl (Nat.le_of_ble_eq_true rfl) ?_
  intro p ee s m below meth cde ls A H locs hx hb hml hrt hlocks hown hin hts hA hP hK hD hS hE hl
  have hown : s.vm.findClass R_Str = some m.cls := hown
  have hts := wz_g hts
  have hl : lv_has ls 2 [(0, .int (nI a)), (1, .int (nI b))] := hl
  refine lv_iload_n hx hb d_Str_checkIndex_0 rfl (lv_at hl 0 rfl) ?_
  refine lv_iload_n hx hb d_Str_checkIndex_1 rfl (lv_at hl 1 rfl) ?_
  obtain ⟨v, hv, hZ⟩ := hE.2.2.2.2.2.2.2.2
  refine va_gets hx hb hZ hS hown (hts _ kF_Str_1053) (fun _ h9 => h9) d_Str_checkIndex_2 ?_
  rcases hv with rfl | ⟨ad, rfl⟩
  · refine ca_i [] (va_runS (As := [.int (nI a), .int (nI b), .null]) (rest := []) ⟨hx, hb, hml, hown, hts⟩ (c_Pre_checkIndexN l D E a b hab hb31 H.size) (xS 3 hts kC_Pre_checkIndex kM_Str_1059 kT_Pre_checkIndex kN_Pre rfl rfl (by decide +kernel) ⟨Nat.le_of_ble_eq_true rfl, Nat.le_of_ble_eq_true rfl⟩) ⟨ct_blind hev, ct_pre hev hP hK hD hS hA hE [] rfl (by decide) [] rfl⟩ rfl rfl hl.1 rfl (lv_room (Nat.le_of_ble_eq_true rfl)) d_Str_checkIndex_5 ⟨Nat.le_of_ble_eq_true rfl, Nat.le_of_ble_eq_true rfl⟩) hP hD hS hA [] [] rfl rfl (by decide) (by decide) (fun rv u H locs hw hP hD hS hK1 => ?_)
    have hP : va_P D vcl [] H := hP
    have hD : va_D A [] := hD
    refine lv_pop hx hb d_Str_checkIndex_8 rfl ?_
    exact rt_v hx hb hrt hlocks (()) (trivial) (hP.sub [] rfl) (hK.sub [] rfl) (hD.sub [] (by decide) rfl) hS d_Str_checkIndex_9
  · refine ca_i [] (va_runS (As := [.int (nI a), .int (nI b), .ref ad]) (rest := []) ⟨hx, hb, hml, hown, hts⟩ (c_Pre_checkIndexR l D E a b hab hb31 ad H.size) (xS 3 hts kC_Pre_checkIndex kM_Str_1059 kT_Pre_checkIndex kN_Pre rfl rfl (by decide +kernel) ⟨Nat.le_of_ble_eq_true rfl, Nat.le_of_ble_eq_true rfl⟩) ⟨ct_blind hev, ct_pre hev hP hK hD hS hA hE [] rfl (by decide) [] rfl⟩ rfl rfl hl.1 rfl (lv_room (Nat.le_of_ble_eq_true rfl)) d_Str_checkIndex_5 ⟨Nat.le_of_ble_eq_true rfl, Nat.le_of_ble_eq_true rfl⟩) hP hD hS hA [] [] rfl rfl (by decide) (by decide) (fun rv u H locs hw hP hD hS hK1 => ?_)
    have hP : va_P D vcl [] H := hP
    have hD : va_D A [] := hD
    refine lv_pop hx hb d_Str_checkIndex_8 rfl ?_
    exact rt_v hx hb hrt hlocks (()) (trivial) (hP.sub [] rfl) (hK.sub [] rfl) (hD.sub [] (by decide) rfl) hS d_Str_checkIndex_9

set_option maxHeartbeats 4000000 in
set_option maxRecDepth 100000 in
theorem c_Sl1_charAt (l : Launch) (D : va_G) (E : evD) (j : Nat) (hj : j < 2) (k : Nat) (hk : k < sLen.getD j 0) : Ci (S := Unit) l y_Sl1_charAt (wz y_Sl1_charAt b_Sl1_charAt 2 (some .char)) ({ frames := 2, cells := 0, slots := 0, locals := 43 }) D vcl (ev1 E) [.ref (E.2.2 j), .int (nI k)] [] [] 0 0 (fun (r : Int32) (_ : Unit) => r = nI (sCh j k)) (fun _ => []) (fun _ : Unit => []) := by
  have hev := ev1_ok E
  unfold Ci
  refine ct_of (y := y_Sl1_charAt) (av := [.ref (E.2.2 j), .int (nI k)]) (cc := b_Sl1_charAt) (maxL := 2) (ret := (some .char)) (Qc := fun A => va_Qi (S := Unit) (fun (r : Int32) (_ : Unit) => r = nI (sCh j k)) (fun u tS => ctB D vcl ((fun _ => []) u) ((fun _ : Unit => []) u) A tS) A) (by decide) rfl (Nat.le_of_ble_eq_true rfl) ?_
  intro p ee s m below meth cde ls A H locs hx hb hml hrt hlocks hown hin hts hA hP hK hD hS hE hl
  have hown : s.vm.findClass R_Sl1 = some m.cls := hown
  have hts := wz_g hts
  have hl : lv_has ls 2 [(0, .ref (E.2.2 j)), (1, .int (nI k))] := hl
  refine lv_iload_n hx hb d_Sl1_charAt_0 rfl (lv_at hl 1 rfl) ?_
  refine lv_aload_n hx hb d_Sl1_charAt_1 rfl (lv_at hl 0 rfl) ?_
  refine va_tlen hx hb (hE.2.2.2.2.2.2.1.1 j hj).2.2.2 hS (v := nI (sLen.getD j 0)) rfl d_Sl1_charAt_2 ?_
  refine ca_v [] (va_runS (As := [.int (nI k), .int (nI (sLen.getD j 0))]) (rest := []) ⟨hx, hb, hml, hown, hts⟩ (c_Str_checkIndex l D E k (sLen.getD j 0) (hk) (by have := sLen_b j hj; omega) H.size) (xS 2 hts kC_Str_checkIndex kM_Sl1_9 kT_Str_checkIndex kN_Str rfl rfl (by decide +kernel) ⟨Nat.le_of_ble_eq_true rfl, Nat.le_of_ble_eq_true rfl⟩) ⟨ct_blind hev, ct_pre hev hP hK hD hS hA hE [] rfl (by decide) [] rfl⟩ rfl rfl hl.1 rfl (lv_room (Nat.le_of_ble_eq_true rfl)) d_Sl1_charAt_3 ⟨Nat.le_of_ble_eq_true rfl, Nat.le_of_ble_eq_true rfl⟩) hP hD hS hA [] [] rfl rfl (by decide) (by decide) (fun u H locs hw hP hD hS hK1 => ?_)
  have hP : va_P D vcl [] H := hP
  have hD : va_D A [] := hD
  refine lv_aload_n hx hb d_Sl1_charAt_6 rfl (lv_at hl 0 rfl) ?_
  refine lv_iload_n hx hb d_Sl1_charAt_7 rfl (lv_at hl 1 rfl) ?_
  refine va_tb hx hb (hE.2.2.2.2.2.2.1.1 j hj).2.2.2 hS (vp_in_nI hk (by have := sLen_b j hj; omega)) (v := .int ((sByt.getD j []).getD k 0)) (by rw [nI_clamp (by have := sLen_b j hj; omega)]) d_Sl1_charAt_8 ?_
  refine lv_sipush (v := 255) hx hb d_Sl1_charAt_9 (by decide) ?_
  refine lv_iand hx hb d_Sl1_charAt_12 ?_
  refine lv_i2c (v := nI (sCh j k)) hx hb d_Sl1_charAt_13 (sCh_b j hj k hk) ?_
  exact rt_i hx hb hrt hlocks ((pk_charN (by have := sCh_lt j k; omega)).1) (()) (rfl) (hP.sub [] rfl) (hK.sub [] rfl) (hD.sub [] (by decide) rfl) hS d_Sl1_charAt_14

set_option maxHeartbeats 4000000 in
set_option maxRecDepth 100000 in
theorem c_Str_coder (l : Launch) (D : va_G) (E : evD) (j : Nat) (hj : j < 2) : Ci (S := Unit) l y_Str_coder (wz y_Str_coder b_Str_coder 1 (some .byte)) ({ frames := 0, cells := 0, slots := 0, locals := 0 }) D vcl (ev1 E) [.ref (E.2.1 j)] [] [] 0 0 (fun (r : Int32) (_ : Unit) => r = 0) (fun _ => []) (fun _ : Unit => []) := by
  have hev := ev1_ok E
  unfold Ci
  refine ct_of (y := y_Str_coder) (av := [.ref (E.2.1 j)]) (cc := b_Str_coder) (maxL := 1) (ret := (some .byte)) (Qc := fun A => va_Qi (S := Unit) (fun (r : Int32) (_ : Unit) => r = 0) (fun u tS => ctB D vcl ((fun _ => []) u) ((fun _ : Unit => []) u) A tS) A) (by decide) rfl (Nat.le_of_ble_eq_true rfl) ?_
  intro p ee s m below meth cde ls A H locs hx hb hml hrt hlocks hown hin hts hA hP hK hD hS hE hl
  have hown : s.vm.findClass R_Str = some m.cls := hown
  have hts := wz_g hts
  have hl : lv_has ls 1 [(0, .ref (E.2.1 j))] := hl
  refine va_gets hx hb hE.2.2.2.2.2.2.2.1 hS hown (hts _ kF_Str_38) (fun _ h9 => h9) d_Str_coder_0 ?_
  refine lv_if_eq (tgt := 13) hx hb d_Str_coder_3 (by decide) (fun c3 => ?_) (fun c3 => ?_)
  · exact absurd c3 (by decide)
  · refine lv_aload_n hx hb d_Str_coder_6 rfl (lv_at hl 0 rfl) ?_
    refine vk_getf hx hb (hE.2.2.2.2.2.2.1.1 j hj).2.1 hS hown (hts _ kF_Str_15) (fun _ h9 => h9) d_Str_coder_7 ?_
    refine lv_goto (tgt := 14) hx hb d_Str_coder_10 (by decide) ?_
    exact rt_i hx hb hrt hlocks (rfl) (()) (rfl) (hP.sub [] rfl) (hK.sub [] rfl) (hD.sub [] (by decide) rfl) hS d_Str_coder_14

set_option maxHeartbeats 4000000 in
set_option maxRecDepth 100000 in
theorem c_Str_isLatin1 (l : Launch) (D : va_G) (E : evD) (j : Nat) (hj : j < 2) : Ci (S := Unit) l y_Str_isLatin1 (wz y_Str_isLatin1 b_Str_isLatin1 1 (some .boolean)) ({ frames := 0, cells := 0, slots := 0, locals := 0 }) D vcl (ev1 E) [.ref (E.2.1 j)] [] [] 0 0 (fun (r : Int32) (_ : Unit) => r = 1) (fun _ => []) (fun _ : Unit => []) := by
  have hev := ev1_ok E
  unfold Ci
  refine ct_of (y := y_Str_isLatin1) (av := [.ref (E.2.1 j)]) (cc := b_Str_isLatin1) (maxL := 1) (ret := (some .boolean)) (Qc := fun A => va_Qi (S := Unit) (fun (r : Int32) (_ : Unit) => r = 1) (fun u tS => ctB D vcl ((fun _ => []) u) ((fun _ : Unit => []) u) A tS) A) (by decide) rfl (Nat.le_of_ble_eq_true rfl) ?_
  intro p ee s m below meth cde ls A H locs hx hb hml hrt hlocks hown hin hts hA hP hK hD hS hE hl
  have hown : s.vm.findClass R_Str = some m.cls := hown
  have hts := wz_g hts
  have hl : lv_has ls 1 [(0, .ref (E.2.1 j))] := hl
  refine va_gets hx hb hE.2.2.2.2.2.2.2.1 hS hown (hts _ kF_Str_38) (fun _ h9 => h9) d_Str_isLatin1_0 ?_
  refine lv_if_eq (tgt := 17) hx hb d_Str_isLatin1_3 (by decide) (fun c3 => ?_) (fun c3 => ?_)
  · exact absurd c3 (by decide)
  · refine lv_aload_n hx hb d_Str_isLatin1_6 rfl (lv_at hl 0 rfl) ?_
    refine vk_getf hx hb (hE.2.2.2.2.2.2.1.1 j hj).2.1 hS hown (hts _ kF_Str_15) (fun _ h9 => h9) d_Str_isLatin1_7 ?_
    refine lv_if_ne (tgt := 17) hx hb d_Str_isLatin1_10 (by decide) (fun c10 => ?_) (fun c10 => ?_)
    · exact absurd rfl c10
    · refine lv_iconst (v := 1) hx hb d_Str_isLatin1_13 (by decide) ?_
      refine lv_goto (tgt := 18) hx hb d_Str_isLatin1_14 (by decide) ?_
      exact rt_i hx hb hrt hlocks (rfl) (()) (rfl) (hP.sub [] rfl) (hK.sub [] rfl) (hD.sub [] (by decide) rfl) hS d_Str_isLatin1_18

set_option maxHeartbeats 4000000 in
set_option maxRecDepth 100000 in
theorem c_Str_length (l : Launch) (D : va_G) (E : evD) (j : Nat) (hj : j < 2) : Ci (S := Unit) l y_Str_length (wz y_Str_length b_Str_length 1 (some .int)) ({ frames := 1, cells := 0, slots := 0, locals := 20 }) D vcl (ev1 E) [.ref (E.2.1 j)] [] [] 0 0 (fun (r : Int32) (_ : Unit) => r = nI (sLen.getD j 0)) (fun _ => []) (fun _ : Unit => []) := by
  have hev := ev1_ok E
  unfold Ci
  refine ct_of (y := y_Str_length) (av := [.ref (E.2.1 j)]) (cc := b_Str_length) (maxL := 1) (ret := (some .int)) (Qc := fun A => va_Qi (S := Unit) (fun (r : Int32) (_ : Unit) => r = nI (sLen.getD j 0)) (fun u tS => ctB D vcl ((fun _ => []) u) ((fun _ : Unit => []) u) A tS) A) (by decide) rfl (Nat.le_of_ble_eq_true rfl) ?_
  intro p ee s m below meth cde ls A H locs hx hb hml hrt hlocks hown hin hts hA hP hK hD hS hE hl
  have hown : s.vm.findClass R_Str = some m.cls := hown
  have hts := wz_g hts
  have hl : lv_has ls 1 [(0, .ref (E.2.1 j))] := hl
  refine lv_aload_n hx hb d_Str_length_0 rfl (lv_at hl 0 rfl) ?_
  refine vk_getf hx hb (hE.2.2.2.2.2.2.1.1 j hj).2.2.1 hS hown (hts _ kF_Str_9) (fun _ h9 => h9) d_Str_length_1 ?_
  refine va_tlen hx hb (hE.2.2.2.2.2.2.1.1 j hj).2.2.2 hS (v := nI (sLen.getD j 0)) rfl d_Str_length_4 ?_
  refine lv_aload_n hx hb d_Str_length_5 rfl (lv_at hl 0 rfl) ?_
  refine ca_i [] (va_runV (As := []) (rest := [.int (nI (sLen.getD j 0))]) ⟨hx, hb, hml, hown, hts⟩ (c_Str_coder l D E j hj H.size) (xV 0 hts kC_Str_coder kM_Str_335 kI_Str_coder kS_Str_coder kN_Str rfl rfl (by decide +kernel) ⟨Nat.le_of_ble_eq_true rfl, Nat.le_of_ble_eq_true rfl⟩) ⟨ct_blind hev, vk_recv (i := j) hE.2.2.2.2.2.2.1 hj hS, ct_pre hev hP hK hD hS hA hE [] rfl (by decide) [] rfl⟩ rfl rfl hl.1 rfl (lv_room (Nat.le_of_ble_eq_true rfl)) d_Str_length_6 ⟨Nat.le_of_ble_eq_true rfl, Nat.le_of_ble_eq_true rfl⟩) hP hD hS hA [] [] rfl rfl (by decide) (by decide) (fun rv u H locs hw hP hD hS hK1 => ?_)
  subst hw
  have hP : va_P D vcl [] H := hP
  have hD : va_D A [] := hD
  refine lv_ishr hx hb d_Str_length_9 ?_
  refine tv_i (nI (sLen.getD j 0)) (sc_shr0 (by have := sLen_b j hj; omega)) ?_
  exact rt_i hx hb hrt hlocks (rfl) (()) (rfl) (hP.sub [] rfl) (hK.sub [] rfl) (hD.sub [] (by decide) rfl) hS d_Str_length_10

set_option maxHeartbeats 4000000 in
set_option maxRecDepth 100000 in
theorem c_Str_charAt (l : Launch) (D : va_G) (E : evD) (j : Nat) (hj : j < 2) (k : Nat) (hk : k < sLen.getD j 0) : Ci (S := Unit) l y_Str_charAt (wz y_Str_charAt b_Str_charAt 2 (some .char)) ({ frames := 3, cells := 0, slots := 0, locals := 64 }) D vcl (ev1 E) [.ref (E.2.1 j), .int (nI k)] [] [] 0 0 (fun (r : Int32) (_ : Unit) => r = nI (sCh j k)) (fun _ => []) (fun _ : Unit => []) := by
  have hev := ev1_ok E
  unfold Ci
  refine ct_of (y := y_Str_charAt) (av := [.ref (E.2.1 j), .int (nI k)]) (cc := b_Str_charAt) (maxL := 2) (ret := (some .char)) (Qc := fun A => va_Qi (S := Unit) (fun (r : Int32) (_ : Unit) => r = nI (sCh j k)) (fun u tS => ctB D vcl ((fun _ => []) u) ((fun _ : Unit => []) u) A tS) A) (by decide) rfl (Nat.le_of_ble_eq_true rfl) ?_
  intro p ee s m below meth cde ls A H locs hx hb hml hrt hlocks hown hin hts hA hP hK hD hS hE hl
  have hown : s.vm.findClass R_Str = some m.cls := hown
  have hts := wz_g hts
  have hl : lv_has ls 2 [(0, .ref (E.2.1 j)), (1, .int (nI k))] := hl
  refine lv_aload_n hx hb d_Str_charAt_0 rfl (lv_at hl 0 rfl) ?_
  refine ca_i [] (va_runV (As := []) (rest := []) ⟨hx, hb, hml, hown, hts⟩ (c_Str_isLatin1 l D E j hj H.size) (xV 0 hts kC_Str_isLatin1 kM_Str_492 kI_Str_isLatin1 kS_Str_isLatin1 kN_Str rfl rfl (by decide +kernel) ⟨Nat.le_of_ble_eq_true rfl, Nat.le_of_ble_eq_true rfl⟩) ⟨ct_blind hev, vk_recv (i := j) hE.2.2.2.2.2.2.1 hj hS, ct_pre hev hP hK hD hS hA hE [] rfl (by decide) [] rfl⟩ rfl rfl hl.1 rfl (lv_room (Nat.le_of_ble_eq_true rfl)) d_Str_charAt_1 ⟨Nat.le_of_ble_eq_true rfl, Nat.le_of_ble_eq_true rfl⟩) hP hD hS hA [] [] rfl rfl (by decide) (by decide) (fun rv u H locs hw hP hD hS hK1 => ?_)
  subst hw
  have hP : va_P D vcl [] H := hP
  have hD : va_D A [] := hD
  refine lv_if_eq (tgt := 16) hx hb d_Str_charAt_4 (by decide) (fun c4 => ?_) (fun c4 => ?_)
  · exact absurd c4 (by decide)
  · refine lv_aload_n hx hb d_Str_charAt_7 rfl (lv_at hl 0 rfl) ?_
    refine vk_getf hx hb (hE.2.2.2.2.2.2.1.1 j hj).2.2.1 hS hown (hts _ kF_Str_9) (fun _ h9 => h9) d_Str_charAt_8 ?_
    refine lv_iload_n hx hb d_Str_charAt_11 rfl (lv_at hl 1 rfl) ?_
    refine ca_i [] (va_runS (As := [.ref (E.2.2 j), .int (nI k)]) (rest := []) ⟨hx, hb, hml, hown, hts⟩ (c_Sl1_charAt l D E j hj k (hk) H.size) (xS 2 hts kC_Sl1_charAt kM_Str_495 kT_Sl1_charAt kN_Sl1 rfl rfl (by decide +kernel) ⟨Nat.le_of_ble_eq_true rfl, Nat.le_of_ble_eq_true rfl⟩) ⟨ct_blind hev, ct_pre hev hP hK hD hS hA hE [] rfl (by decide) [] rfl⟩ rfl rfl hl.1 rfl (lv_room (Nat.le_of_ble_eq_true rfl)) d_Str_charAt_12 ⟨Nat.le_of_ble_eq_true rfl, Nat.le_of_ble_eq_true rfl⟩) hP hD hS hA [] [] rfl rfl (by decide) (by decide) (fun rv u H locs hw hP hD hS hK1 => ?_)
    subst hw
    have hP : va_P D vcl [] H := hP
    have hD : va_D A [] := hD
    exact rt_i hx hb hrt hlocks ((pk_charN (by have := sCh_lt j k; omega)).1) (()) (rfl) (hP.sub [] rfl) (hK.sub [] rfl) (hD.sub [] (by decide) rfl) hS d_Str_charAt_15
